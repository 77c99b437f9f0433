/-! PURE: copies of states, what is remembered; the frame of a call. -/
section P60
variable {β : Type} {w : zW} {D : zD} {s a b T X Y k : Nat}
theorem zblk_same {F : Nat → Nat → Int32} (h : ∀ o, o < 33 → D (a + o) = F o) : zblk D a F = D := by
  funext q
  by_cases hq : a ≤ q ∧ q < a + 33
  · unfold zblk; rw [if_pos hq, ← h (q - a) (by omega), show a + (q - a) = q by omega]
  · exact zblk_out (by omega)
theorem zset_same {N : Nat → Int32} (h : D b = N) : zset D b N = D := by rw [← h, zset_eta]
def cpD (D : zD) (a X b Y k : Nat) : zD := zset D b (fun i => if Y ≤ i ∧ i < Y + k then D a (X + (i - Y)) else D b i)
theorem cpD_in {i : Nat} (h : i < k) : cpD D a X b Y k b (Y + i) = D a (X + i) := by
  simp only [cpD, zset_at]
  rw [if_pos ⟨by omega, by omega⟩, show Y + i - Y = i by omega]
theorem cpD_ni {i : Nat} (h : i < Y ∨ Y + k ≤ i) : cpD D a X b Y k b i = D b i := by
  simp only [cpD, zset_at]
  rw [if_neg (by omega)]
theorem cpD_o {q : Nat} (h : q ≠ b) : cpD D a X b Y k q = D q := zset_ne h
theorem cpD_s (hab : a ≠ b) : zup (cpD D a X b Y k) b (Y + k) (cpD D a X b Y k a (X + k)) = cpD D a X b Y (k + 1) := by
  rw [cpD_o hab]
  funext q i
  by_cases hq : q = b
  · subst hq
    by_cases hi : i = Y + k
    · subst hi; rw [zup_at]; exact (cpD_in (k := k + 1) (i := k) (by omega)).symm
    · rw [zup_aj hi]
      simp only [cpD, zset_at]
      by_cases h1 : Y ≤ i ∧ i < Y + k
      · rw [if_pos h1, if_pos ⟨h1.1, by omega⟩]
      · rw [if_neg h1, if_neg (by omega)]
  · rw [zup_ne hq, cpD_o hq, cpD_o hq]
theorem cpD_0 : cpD D a X b Y 0 = D := by
  funext q i
  by_cases hq : q = b
  · subst hq; exact cpD_ni (by omega)
  · rw [cpD_o hq]
theorem m_copy {n n' : Nat} (ha : w.1 a = some (.inl (0, n))) (hb : w.1 b = some (.inl (0, n'))) (hn : n ≤ 100000) (hn' : n' ≤ 100000) (hX : X + 521 ≤ n) (hY : Y + 521 ≤ n') (hab : a ≠ b) {x y : Int32} (hx : x = nI X) (hy : y = nI Y) : f_MD_copyState w D a x b y = some (cpD D a X b Y 521) := by
  subst hx hy
  obtain ⟨s', hs', w1⟩ := lpG (bot := fun (_ : Int32) (_ : zD) => none) (st := S_MD_copyState_S1 w a (nI X) b (nI Y)) (β := zD) (n := 521) (fun k (q : zD) => q = cpD D a X b Y k) (fun (_ : Unit) g k q => g (nI k) q) (by
    intro k q hk hq
    subst hq
    have hc : ¬ (521 : Int32) ≤ nI k := by rw [zl 521, nI_leI (by omega) (by omega)]; omega
    refine ⟨cpD D a X b Y (k + 1), rfl, ?_⟩
    intro _ j
    unfold S_MD_copyState_S1
    simp only [hc, ↓reduceIte, nI_add, ↓zald_of (i := X + k) ha (by omega) hn, ↓zast_of (i := Y + k) hb (by omega) hn', ↓zletE, nI_1, cpD_s hab]) 521 0 (cpD D a X b Y 0) (by omega) rfl
  subst hs'
  obtain ⟨j, hj⟩ := w1 () zfuel (by unfold zfuel; omega)
  rw [u_MD_copyState]
  simp only [↓zjpE]
  have hj' := hj
  rw [cpD_0] at hj'
  refine hj'.trans ?_
  unfold S_MD_copyState_S1
  rw [if_pos (by decide)]
def shD (D : zD) (d k : Nat) : zD := zset D d (fun i => if i < k then D d (i + 521) else D d i)
theorem shD_o {q d : Nat} (h : q ≠ d) : shD D d k q = D q := zset_ne h
theorem shD_in {d i : Nat} (h : i < k) : shD D d k d i = D d (i + 521) := by
  simp only [shD, zset_at]; rw [if_pos h]
theorem shD_ni {d i : Nat} (h : k ≤ i) : shD D d k d i = D d i := by
  simp only [shD, zset_at]; rw [if_neg (by omega)]
theorem shD_s {d : Nat} : zup (shD D d k) d k (shD D d k d (k + 521)) = shD D d (k + 1) := by
  rw [shD_ni (by omega)]
  funext q i
  by_cases hq : q = d
  · subst hq
    by_cases hi : i = k
    · subst hi; rw [zup_at, shD_in (by omega)]
    · rw [zup_aj hi]
      by_cases h1 : i < k
      · rw [shD_in h1, shD_in (by omega)]
      · rw [shD_ni (by omega), shD_ni (by omega)]
  · rw [zup_ne hq, shD_o hq, shD_o hq]
theorem shD_0 {d : Nat} : shD D d 0 = D := by
  funext q i
  by_cases hq : q = d
  · subst hq; exact shD_ni (by omega)
  · rw [shD_o hq]
theorem m_shift (hw : WL w s) {j50 : zD → Option zD} : zlp (fun (_ : Int32) (_ : zD) => none) (S_MD_remember_S1 w (s + 634) j50) zfuel 0 D = zfld w (shD D (s + 638) 6773) 8 6 (s + 634) (fun v10 => zput w (shD D (s + 638) 6773) 8 6 (s + 634) (v10 - (1 : Int32)) (fun D11 => j50 D11)) := by
  have hd := Wd hw
  obtain ⟨s', hs', w1⟩ := lpG (bot := fun (_ : Int32) (_ : zD) => none) (st := S_MD_remember_S1 w (s + 634) j50) (β := zD) (n := 6773) (fun k (q : zD) => q = shD D (s + 638) k) (fun (_ : Unit) g k q => g (nI k) q) (by
    intro k q hk hq
    subst hq
    have hc : ¬ (6773 : Int32) ≤ nI k := by rw [zl 6773, nI_leI (by omega) (by omega)]; omega
    refine ⟨shD D (s + 638) (k + 1), rfl, ?_⟩
    intro _ j
    unfold S_MD_remember_S1
    simp only [hc, ↓reduceIte, ↓WSo hw, ↓WSr0 hw, ↓WSr1 hw, ↓WSr2 hw, ↓WSr3 hw, ↓WSr4 hw, ↓WSg5 hw, ↓WSp5 hw, ↓WSg6 hw, ↓WSp6 hw, ↓WSr7 hw, ↓WSr8 hw, ↓WTo hw, ↓WTr0 hw, ↓WTg1 hw, ↓WTp1 hw, ↓WTg2 hw, ↓WTp2 hw, ↓WTg3 hw, ↓WTp3 hw, ↓WTr4 hw, ↓WMo hw, ↓WMg0 hw, ↓WMp0 hw, ↓WMr1 hw, ↓WMg2 hw, ↓WMp2 hw, ↓WMr3 hw, ↓WMr4 hw, ↓WMr5 hw, ↓WMg6 hw, ↓WMp6 hw, ↓WMr7 hw, ↓WMr8 hw, ↓WMg9 hw, ↓WMp9 hw, ↓WMg10 hw, ↓WMp10 hw, show nI k + (521 : Int32) = nI (k + 521) from nI_add k 521, ↓zald_of (i := k + 521) hd (by omega) (by omega), ↓zast_of (i := k) hd (by omega) (by omega), ↓zletE, nI_1, shD_s]) 6773 0 (shD D (s + 638) 0) (by omega) rfl
  subst hs'
  obtain ⟨j, hj⟩ := w1 () zfuel (by unfold zfuel; omega)
  have hj' := hj
  rw [shD_0] at hj'
  refine hj'.trans ?_
  unfold S_MD_remember_S1
  rw [if_pos (by decide)]
theorem m_rem0 (hw : WL w s) (hk : k < 14) (e6 : D (s + 634) 6 = nI k) : zref w 8 3 (s + 634) (fun p2 => zref w 8 5 (s + 634) (fun p3 => zfld w D 8 6 (s + 634) (fun v4 => zcv (f_MD_copyState w D p2 (0 : Int32) p3 ((521 : Int32) * v4)) (fun D5 => zfld w D5 8 6 (s + 634) (fun v6 => zput w D5 8 6 (s + 634) (v6 + (1 : Int32)) (fun D7 => some D7)))))) = some (zup (cpD D (s + 636) 0 (s + 638) (521 * k) 521) (s + 634) 6 (nI (k + 1))) := by
  have hc : f_MD_copyState w D (s + 636) 0 (s + 638) ((521 : Int32) * nI k) = some (cpD D (s + 636) 0 (s + 638) (521 * k) 521) := m_copy (Wn hw) (Wd hw) (by omega) (by omega) (by omega) (by omega) (by omega) rfl (by simp only [zl, pk_mul])
  have h6 : cpD D (s + 636) 0 (s + 638) (521 * k) 521 (s + 634) 6 = nI k := by rw [cpD_o (by omega)]; exact e6
  simp only [↓WSo hw, ↓WSr0 hw, ↓WSr1 hw, ↓WSr2 hw, ↓WSr3 hw, ↓WSr4 hw, ↓WSg5 hw, ↓WSp5 hw, ↓WSg6 hw, ↓WSp6 hw, ↓WSr7 hw, ↓WSr8 hw, ↓WTo hw, ↓WTr0 hw, ↓WTg1 hw, ↓WTp1 hw, ↓WTg2 hw, ↓WTp2 hw, ↓WTg3 hw, ↓WTp3 hw, ↓WTr4 hw, ↓WMo hw, ↓WMg0 hw, ↓WMp0 hw, ↓WMr1 hw, ↓WMg2 hw, ↓WMp2 hw, ↓WMr3 hw, ↓WMr4 hw, ↓WMr5 hw, ↓WMg6 hw, ↓WMp6 hw, ↓WMr7 hw, ↓WMr8 hw, ↓WMg9 hw, ↓WMp9 hw, ↓WMg10 hw, ↓WMp10 hw, e6, ↓zcvX hc, h6, nI_1]
theorem m_remember (hw : WL w s) (hk : k ≤ 14) (e6 : D (s + 634) 6 = nI k) : ∃ k' D2, f_MD_remember w D (s + 634) = some D2 ∧ ((k < 14 ∧ k' = k) ∨ (k = 14 ∧ k' = 13)) ∧ D2 (s + 634) 6 = nI (k' + 1) ∧ (∀ j, j ≠ 6 → D2 (s + 634) j = D (s + 634) j) ∧ (∀ q, q ≠ s + 634 → q ≠ s + 638 → D2 q = D q) ∧ (∀ i, i < 521 * k' → D2 (s + 638) i = D (s + 638) (if k < 14 then i else i + 521)) ∧ ∀ i, i < 521 → D2 (s + 638) (521 * k' + i) = D (s + 636) i := by
  rw [u_MD_remember]
  simp only [↓zjpE, ↓WSo hw, ↓WSr0 hw, ↓WSr1 hw, ↓WSr2 hw, ↓WSr3 hw, ↓WSr4 hw, ↓WSg5 hw, ↓WSp5 hw, ↓WSg6 hw, ↓WSp6 hw, ↓WSr7 hw, ↓WSr8 hw, ↓WTo hw, ↓WTr0 hw, ↓WTg1 hw, ↓WTp1 hw, ↓WTg2 hw, ↓WTp2 hw, ↓WTg3 hw, ↓WTp3 hw, ↓WTr4 hw, ↓WMo hw, ↓WMg0 hw, ↓WMp0 hw, ↓WMr1 hw, ↓WMg2 hw, ↓WMp2 hw, ↓WMr3 hw, ↓WMr4 hw, ↓WMr5 hw, ↓WMg6 hw, ↓WMp6 hw, ↓WMr7 hw, ↓WMr8 hw, ↓WMg9 hw, ↓WMp9 hw, ↓WMg10 hw, ↓WMp10 hw, e6]
  by_cases hk1 : k < 14
  · have hn : ¬ nI k = 14 := by rw [zl 14, nI_eq (by omega) (by decide)]; omega
    refine ⟨k, zup (cpD D (s + 636) 0 (s + 638) (521 * k) 521) (s + 634) 6 (nI (k + 1)), ?_, Or.inl ⟨hk1, rfl⟩, zup_at, ?_, ?_, ?_, ?_⟩
    · have h0 := m_rem0 hw hk1 e6
      simp only [↓WSo hw, ↓WSr0 hw, ↓WSr1 hw, ↓WSr2 hw, ↓WSr3 hw, ↓WSr4 hw, ↓WSg5 hw, ↓WSp5 hw, ↓WSg6 hw, ↓WSp6 hw, ↓WSr7 hw, ↓WSr8 hw, ↓WTo hw, ↓WTr0 hw, ↓WTg1 hw, ↓WTp1 hw, ↓WTg2 hw, ↓WTp2 hw, ↓WTg3 hw, ↓WTp3 hw, ↓WTr4 hw, ↓WMo hw, ↓WMg0 hw, ↓WMp0 hw, ↓WMr1 hw, ↓WMg2 hw, ↓WMp2 hw, ↓WMr3 hw, ↓WMr4 hw, ↓WMr5 hw, ↓WMg6 hw, ↓WMp6 hw, ↓WMr7 hw, ↓WMr8 hw, ↓WMg9 hw, ↓WMp9 hw, ↓WMg10 hw, ↓WMp10 hw, e6] at h0
      rw [if_neg hn]
      exact h0
    · intro j hj; rw [zup_aj hj, cpD_o (by omega)]
    · intro q h1 h2; rw [zup_ne h1, cpD_o h2]
    · intro i hi; rw [if_pos hk1, zup_ne (by omega), cpD_ni (by omega)]
    · intro i hi; rw [zup_ne (by omega), cpD_in hi, Nat.zero_add]
  · have hk2 : k = 14 := by omega
    subst hk2
    have e6' : zup (shD D (s + 638) 6773) (s + 634) 6 (nI 13) (s + 634) 6 = nI 13 := zup_at
    refine ⟨13, zup (cpD (zup (shD D (s + 638) 6773) (s + 634) 6 (nI 13)) (s + 636) 0 (s + 638) (521 * 13) 521) (s + 634) 6 (nI (13 + 1)), ?_, Or.inr ⟨rfl, rfl⟩, zup_at, ?_, ?_, ?_, ?_⟩
    · have h0 := m_rem0 hw (k := 13) (by decide) e6'
      simp only [↓WSo hw, ↓WSr0 hw, ↓WSr1 hw, ↓WSr2 hw, ↓WSr3 hw, ↓WSr4 hw, ↓WSg5 hw, ↓WSp5 hw, ↓WSg6 hw, ↓WSp6 hw, ↓WSr7 hw, ↓WSr8 hw, ↓WTo hw, ↓WTr0 hw, ↓WTg1 hw, ↓WTp1 hw, ↓WTg2 hw, ↓WTp2 hw, ↓WTg3 hw, ↓WTp3 hw, ↓WTr4 hw, ↓WMo hw, ↓WMg0 hw, ↓WMp0 hw, ↓WMr1 hw, ↓WMg2 hw, ↓WMp2 hw, ↓WMr3 hw, ↓WMr4 hw, ↓WMr5 hw, ↓WMg6 hw, ↓WMp6 hw, ↓WMr7 hw, ↓WMr8 hw, ↓WMg9 hw, ↓WMp9 hw, ↓WMg10 hw, ↓WMp10 hw, e6'] at h0
      rw [if_pos (by decide), m_shift hw]
      simp only [↓WSo hw, ↓WSr0 hw, ↓WSr1 hw, ↓WSr2 hw, ↓WSr3 hw, ↓WSr4 hw, ↓WSg5 hw, ↓WSp5 hw, ↓WSg6 hw, ↓WSp6 hw, ↓WSr7 hw, ↓WSr8 hw, ↓WTo hw, ↓WTr0 hw, ↓WTg1 hw, ↓WTp1 hw, ↓WTg2 hw, ↓WTp2 hw, ↓WTg3 hw, ↓WTp3 hw, ↓WTr4 hw, ↓WMo hw, ↓WMg0 hw, ↓WMp0 hw, ↓WMr1 hw, ↓WMg2 hw, ↓WMp2 hw, ↓WMr3 hw, ↓WMr4 hw, ↓WMr5 hw, ↓WMg6 hw, ↓WMp6 hw, ↓WMr7 hw, ↓WMr8 hw, ↓WMg9 hw, ↓WMp9 hw, ↓WMg10 hw, ↓WMp10 hw, shD_o (show s + 634 ≠ s + 638 by omega), e6, show nI 14 - 1 = nI 13 from by decide, e6']
      exact h0
    · intro j hj; rw [zup_aj hj, cpD_o (by omega), zup_aj hj, shD_o (by omega)]
    · intro q h1 h2; rw [zup_ne h1, cpD_o h2, zup_ne h1, shD_o h2]
    · intro i hi; rw [if_neg (by omega), zup_ne (by omega), cpD_ni (by omega), zup_ne (by omega), shD_in (by omega)]
    · intro i hi; rw [zup_ne (by omega), cpD_in hi, Nat.zero_add, zup_ne (by omega), shD_o (by omega)]
theorem rm14 {n : Nat} (hn : n < 1000) : zirem (nI n) (14 : Int32) = nI (n % 14) := pk_rem (d := 14) (by omega) (by decide) (by decide)
theorem c_rem0 (hw : WL w s) {o : Nat} (ho : o < 14) (hk : k < 14) (e5 : D s 5 = nI o) (e6 : D s 6 = nI k) : ∃ F', zref w 0 4 s (fun p2 => zfld w D 0 5 s (fun v3 => zfld w D 0 6 s (fun v4 => zald4 w p2 (zirem (v3 + v4) (14 : Int32)) (fun p5 => zref w 0 1 s (fun p6 => zobj w 3 p5 (zcv (f_Field_copyFrom w D p5 p6) (fun D7 => zfld w D7 0 6 s (fun v8 => zput w D7 0 6 s (v8 + (1 : Int32)) (fun D9 => some D9))))))))) = some (zup (zblk D (s + 104 + 33 * ((o + k) % 14)) F') s 6 (nI (k + 1))) ∧ (∀ o j, Cp o j → F' o j = D (s + 4 + o) j) ∧ F' 15 = D (s + 104 + 33 * ((o + k) % 14) + 15) := by
  have hm : (o + k) % 14 < 14 := Nat.mod_lt _ (by decide)
  obtain ⟨F', hc, hF, h15⟩ := copyF (D := D) (F := blk D (s + 104 + 33 * ((o + k) % 14))) (WLr hw hm) (WL4 hw) (by omega)
  rw [show zblk D (s + 104 + 33 * ((o + k) % 14)) (blk D (s + 104 + 33 * ((o + k) % 14))) = D from zblk_eta] at hc
  refine ⟨F', ?_, hF, h15⟩
  have h6 : zblk D (s + 104 + 33 * ((o + k) % 14)) F' s 6 = nI k := by rw [zblk_out (by omega)]; exact e6
  simp only [↓WSo hw, ↓WSr0 hw, ↓WSr1 hw, ↓WSr2 hw, ↓WSr3 hw, ↓WSr4 hw, ↓WSg5 hw, ↓WSp5 hw, ↓WSg6 hw, ↓WSp6 hw, ↓WSr7 hw, ↓WSr8 hw, ↓WTo hw, ↓WTr0 hw, ↓WTg1 hw, ↓WTp1 hw, ↓WTg2 hw, ↓WTp2 hw, ↓WTg3 hw, ↓WTp3 hw, ↓WTr4 hw, ↓WMo hw, ↓WMg0 hw, ↓WMp0 hw, ↓WMr1 hw, ↓WMg2 hw, ↓WMp2 hw, ↓WMr3 hw, ↓WMr4 hw, ↓WMr5 hw, ↓WMg6 hw, ↓WMp6 hw, ↓WMr7 hw, ↓WMr8 hw, ↓WMg9 hw, ↓WMp9 hw, ↓WMg10 hw, ↓WMp10 hw, e5, e6, nI_add, rm14 (show o + k < 1000 by omega), ↓W4r hw hm, ↓Lo0 (WLr hw hm), ↓zcvX hc, h6, nI_1]
theorem c_remember (hw : WL w s) {o : Nat} (ho : o < 14) (hk : k ≤ 14) (e5 : D s 5 = nI o) (e6 : D s 6 = nI k) : ∃ o' k' D1, f_SF_remember w D s = some D1 ∧ o' < 14 ∧ ((k < 14 ∧ k' = k ∧ o' = o) ∨ (k = 14 ∧ k' = 13 ∧ o' = (o + 1) % 14)) ∧ D1 s 5 = nI o' ∧ D1 s 6 = nI (k' + 1) ∧ (∀ q, q ≠ s → (q < s + 104 + 33 * ((o' + k') % 14) ∨ s + 104 + 33 * ((o' + k') % 14) + 33 ≤ q) → D1 q = D q) ∧ (∀ o j, Cp o j → D1 (s + 104 + 33 * ((o' + k') % 14) + o) j = D (s + 4 + o) j) ∧ D1 (s + 104 + 33 * ((o' + k') % 14) + 15) = D (s + 104 + 33 * ((o' + k') % 14) + 15) := by
  unfold f_SF_remember
  simp only [↓zjpE, ↓WSo hw, ↓WSr0 hw, ↓WSr1 hw, ↓WSr2 hw, ↓WSr3 hw, ↓WSr4 hw, ↓WSg5 hw, ↓WSp5 hw, ↓WSg6 hw, ↓WSp6 hw, ↓WSr7 hw, ↓WSr8 hw, ↓WTo hw, ↓WTr0 hw, ↓WTg1 hw, ↓WTp1 hw, ↓WTg2 hw, ↓WTp2 hw, ↓WTg3 hw, ↓WTp3 hw, ↓WTr4 hw, ↓WMo hw, ↓WMg0 hw, ↓WMp0 hw, ↓WMr1 hw, ↓WMg2 hw, ↓WMp2 hw, ↓WMr3 hw, ↓WMr4 hw, ↓WMr5 hw, ↓WMg6 hw, ↓WMp6 hw, ↓WMr7 hw, ↓WMr8 hw, ↓WMg9 hw, ↓WMp9 hw, ↓WMg10 hw, ↓WMp10 hw, e6]
  by_cases hk1 : k < 14
  · have hn : nI k < 14 := nI_lt hk1 (by decide)
    obtain ⟨F', hc, hF, h15⟩ := c_rem0 hw ho hk1 e5 e6
    simp only [↓WSo hw, ↓WSr0 hw, ↓WSr1 hw, ↓WSr2 hw, ↓WSr3 hw, ↓WSr4 hw, ↓WSg5 hw, ↓WSp5 hw, ↓WSg6 hw, ↓WSp6 hw, ↓WSr7 hw, ↓WSr8 hw, ↓WTo hw, ↓WTr0 hw, ↓WTg1 hw, ↓WTp1 hw, ↓WTg2 hw, ↓WTp2 hw, ↓WTg3 hw, ↓WTp3 hw, ↓WTr4 hw, ↓WMo hw, ↓WMg0 hw, ↓WMp0 hw, ↓WMr1 hw, ↓WMg2 hw, ↓WMp2 hw, ↓WMr3 hw, ↓WMr4 hw, ↓WMr5 hw, ↓WMg6 hw, ↓WMp6 hw, ↓WMr7 hw, ↓WMr8 hw, ↓WMg9 hw, ↓WMp9 hw, ↓WMg10 hw, ↓WMp10 hw, e6] at hc
    have hm : (o + k) % 14 < 14 := Nat.mod_lt _ (by decide)
    refine ⟨o, k, zup (zblk D (s + 104 + 33 * ((o + k) % 14)) F') s 6 (nI (k + 1)), by rw [if_pos hn]; exact hc, ho, Or.inl ⟨hk1, rfl, rfl⟩, ?_, zup_at, ?_, ?_, ?_⟩
    · rw [zup_aj (by decide), zblk_out (by omega)]; exact e5
    · intro q h1 h2; rw [zup_ne h1, zblk_out h2]
    · intro o' j hc; rw [zup_ne (by omega), zblk_at (Cp_lt hc)]; exact hF o' j hc
    · rw [zup_ne (by omega), zblk_at (by decide)]; exact h15
  · have hk2 : k = 14 := by omega
    subst hk2
    have hn : ¬ nI 14 < 14 := by decide
    have ho' : (o + 1) % 14 < 14 := Nat.mod_lt _ (by decide)
    have e5' : zup (zup D s 5 (nI ((o + 1) % 14))) s 6 (nI 13) s 5 = nI ((o + 1) % 14) := by rw [zup_aj (by decide), zup_at]
    have e6' : zup (zup D s 5 (nI ((o + 1) % 14))) s 6 (nI 13) s 6 = nI 13 := zup_at
    have e6'' : zup D s 5 (nI ((o + 1) % 14)) s 6 = nI 14 := by rw [zup_aj (by decide)]; exact e6
    obtain ⟨F', hc, hF, h15⟩ := c_rem0 (k := 13) hw ho' (by decide) e5' e6'
    simp only [↓WSo hw, ↓WSr0 hw, ↓WSr1 hw, ↓WSr2 hw, ↓WSr3 hw, ↓WSr4 hw, ↓WSg5 hw, ↓WSp5 hw, ↓WSg6 hw, ↓WSp6 hw, ↓WSr7 hw, ↓WSr8 hw, ↓WTo hw, ↓WTr0 hw, ↓WTg1 hw, ↓WTp1 hw, ↓WTg2 hw, ↓WTp2 hw, ↓WTg3 hw, ↓WTp3 hw, ↓WTr4 hw, ↓WMo hw, ↓WMg0 hw, ↓WMp0 hw, ↓WMr1 hw, ↓WMg2 hw, ↓WMp2 hw, ↓WMr3 hw, ↓WMr4 hw, ↓WMr5 hw, ↓WMg6 hw, ↓WMp6 hw, ↓WMr7 hw, ↓WMr8 hw, ↓WMg9 hw, ↓WMp9 hw, ↓WMg10 hw, ↓WMp10 hw, e6'] at hc
    generalize ho2 : (o + 1) % 14 = o' at *
    have hm : (o' + 13) % 14 < 14 := Nat.mod_lt _ (by decide)
    refine ⟨o', 13, zup (zblk (zup (zup D s 5 (nI o')) s 6 (nI 13)) (s + 104 + 33 * ((o' + 13) % 14)) F') s 6 (nI (13 + 1)), ?_, ho', Or.inr ⟨rfl, rfl, rfl⟩, ?_, zup_at, ?_, ?_, ?_⟩
    · rw [if_neg hn]
      simp only [e5, nI_1, rm14 (show o + 1 < 1000 by omega), ho2, e6'', show nI 14 - 1 = nI 13 from by decide, e6']
      exact hc
    · rw [zup_aj (by decide), zblk_out (by omega)]; exact e5'
    · intro q h1 h2; rw [zup_ne h1, zblk_out h2, zup_ne h1, zup_ne h1]
    · intro q j hc; rw [zup_ne (by omega), zblk_at (Cp_lt hc), hF q j hc, zup_ne (by omega), zup_ne (by omega)]
    · rw [zup_ne (by omega), zblk_at (by decide), h15, zup_ne (by omega), zup_ne (by omega)]
/-- remembering, on both sides: what holds behind it -/
theorem rem2 (hw : WL w s) (hI : Inv D s T) : ∃ D1, f_SF_remember w D s = some D1 ∧ (∀ q, q ≠ s → ¬ (s + 104 ≤ q ∧ q < s + 566) → D1 q = D q) ∧ ∀ D1', D1' (s + 634) 6 = D (s + 634) 6 → D1' (s + 636) = D (s + 636) → D1' (s + 638) = D (s + 638) → ∃ D2, f_MD_remember w D1' (s + 634) = some D2 ∧ (∀ j, j ≠ 6 → D2 (s + 634) j = D1' (s + 634) j) ∧ (∀ q, q ≠ s + 634 → q ≠ s + 638 → D2 q = D1' q) ∧ ∀ D3, (D3 s = D1 s) → (∀ q, s + 104 ≤ q → q < s + 566 → D3 q = D1 q) → D3 (s + 634) 6 = D2 (s + 634) 6 → D3 (s + 638) = D2 (s + 638) → vIR D3 s T ∧ ∀ i j, i < 14 → j < 4 → D3 (s + 104 + 33 * i + 15) j = 0 := by
  obtain ⟨iP, iB, iZ, iT, ⟨o, k, ho, hk, e5, e6, e6m, hR⟩, iS⟩ := hI
  obtain ⟨o', k', D1, hc, ho', hok, f5, f6, fr, fC, f15⟩ := c_remember hw ho hk e5 e6
  refine ⟨D1, hc, fun q h1 h2 => fr q h1 (by have := Nat.mod_lt (o' + k') (show 0 < 14 by decide); omega), ?_⟩
  intro D1' g1 g2 g3
  obtain ⟨k'', D2, hm, hok2, m6, mj, mq, md, mn⟩ := m_remember hw hk (g1.trans e6m)
  have hkk : k'' = k' := by omega
  subst hkk
  refine ⟨D2, hm, mj, mq, ?_⟩
  intro D3 a1 a2 a3 a4
  have hk' : k'' ≤ 13 := by omega
  have hm1 : (o' + k'') % 14 < 14 := Nat.mod_lt _ (by decide)
  constructor
  · refine ⟨o', k'' + 1, ho', by omega, by rw [a1]; exact f5, by rw [a1]; exact f6, by rw [a3]; exact m6, ?_⟩
    intro i hi
    have hmi : (o' + i) % 14 < 14 := Nat.mod_lt _ (by decide)
    by_cases hik : i = k''
    · subst hik
      refine RP_copy (D := D) (a := s + 4) (N := D (s + 636)) iP ?_ ?_ ?_
      · intro q j hcp
        have := Cp_lt hcp
        rw [a2 _ (by omega) (by omega)]; exact fC q j hcp
      · intro j hj
        rw [a2 _ (by omega) (by omega), f15]; exact iZ.2.1 _ j hm1 hj
      · intro i' hi'
        show D3 (s + 638) _ = _
        rw [a4, mn i' hi', g2]
    · have hik2 : i < k'' := by omega
      rcases hok with ⟨h1, h2, h3⟩ | ⟨h1, h2, h3⟩
      · subst h2 h3
        refine RP_same (hR i hik2) ?_ ?_
        · intro q hq
          rw [a2 _ (by omega) (by omega)]
          exact fr _ (by omega) (by
            have : (o' + i) % 14 ≠ (o' + k'') % 14 := by omega
            omega)
        · intro i' hi'
          show D3 (s + 638) _ = D (s + 638) _
          rw [a4, md _ (by omega), if_pos h1, g3]
      · subst h1
        have e : (o' + i) % 14 = (o + (i + 1)) % 14 := by omega
        refine RP_same (D := D) (a := s + 104 + 33 * ((o' + i) % 14)) (N := sl (D (s + 638)) (521 * (i + 1))) (by rw [e]; exact hR (i + 1) (by omega)) ?_ ?_
        · intro q hq
          rw [a2 _ (by omega) (by omega)]
          exact fr _ (by omega) (by
            have : (o' + i) % 14 ≠ (o' + k'') % 14 := by omega
            omega)
        · intro i' hi'
          show D3 (s + 638) _ = D (s + 638) _
          rw [a4, md _ (by omega), if_neg (by decide), g3]
          congr 1; omega
  · intro i j hi hj
    rw [a2 _ (by omega) (by omega)]
    by_cases hir : i = (o' + k'') % 14
    · subst hir; rw [f15]; exact iZ.2.1 _ j hi hj
    · rw [fr _ (by omega) (by omega)]; exact iZ.2.1 i j hi hj
end P60
/-- a call on both sides -/
def Cl (D : zD) (s T : Nat) (f : zD → Option ((Int32 ⊕ String) × zD)) (g : zD → Option (Int32 × zD)) (P : Int32 ⊕ String → Int32 → Int32 → Prop) : Prop := ∃ r D1 v D2, f D = some (r, D1) ∧ g D1 = some (v, D2) ∧ Inv D2 s T ∧ P r v (D2 (s + 634) 0) ∧ (∀ q, q < s ∨ s + 641 ≤ q → D2 q = D q) ∧ ∀ q, q < s → D1 q = D q
def Cl0 (D : zD) (s T : Nat) (f : zD → Option (Int32 × zD)) (g : zD → Option (Int32 × zD)) : Prop := ∃ v D1 D2, f D = some (v, D1) ∧ g D1 = some (v, D2) ∧ Inv D2 s T ∧ ∀ q, q < s ∨ s + 641 ≤ q → D2 q = D q
theorem Cl_q {D : zD} {s T T' : Nat} {f : zD → Option ((Int32 ⊕ String) × zD)} {g : zD → Option (Int32 × zD)} {P : Int32 ⊕ String → Int32 → Int32 → Prop} (hI : Inv D s T) (hT : T ≤ T') (h : ∃ r v e, f D = some (r, D) ∧ g D = some (v, zup D (s + 634) 0 e) ∧ P r v e) : Cl D s T' f g P := by
  obtain ⟨r, v, e, h1, h2, h3⟩ := h
  exact ⟨r, D, v, _, h1, h2, Inv_mo (Inv_ref hI) hT, by rw [zup_at]; exact h3, fun q hq => zup_ne (by omega), fun q _ => rfl⟩
/-- an action: checks, remembering, what is done -/
theorem action {w : zW} {D : zD} {s T T' : Nat} (hw : WL w s) (hI : Inv D s T) (hT : T ≤ T') (fC : zD → Option ((Int32 ⊕ String) × zD)) (fM : zD → Option (Int32 × zD)) {F G : Nat → Nat → Int32} (eF : F = blk D (s + 4)) (eG : G = dev (D (s + 636))) (H : ∃ F' G' v, RP F' G' T' ∧ (∀ D, fC (zblk D (s + 4) F) = some (.inl v, zblk D (s + 4) F')) ∧ (∀ D, fM (zset D (s + 636) (vec G)) = some (v, zset D (s + 636) (vec G')))) : ∃ v D1 D2, zcv (f_SF_remember w D s) fC = some (.inl v, D1) ∧ zcv (f_MD_remember w (zup D1 (s + 634) 0 0) (s + 634)) fM = some (v, D2) ∧ D1 (s + 636) = D (s + 636) ∧ Inv D2 s T' ∧ D2 (s + 634) 0 = 0 ∧ (∀ q, q < s ∨ s + 641 ≤ q → D2 q = D q) ∧ ∀ q, q < s → D1 q = D q := by
  obtain ⟨F', G', v, hR, hC, hM⟩ := H
  obtain ⟨D1, hc, fr, h2⟩ := rem2 hw hI
  have hC1 := hC D1
  rw [zblk_same (fun o ho => by rw [eF, fr _ (by omega) (by omega)])] at hC1
  obtain ⟨D2, hm, mj, mq, h3⟩ := h2 (zup (zblk D1 (s + 4) F') (s + 634) 0 0) (by rw [zup_aj (by decide), zblk_out (by omega), fr _ (by omega) (by omega)]) (by rw [zup_ne (by omega), zblk_out (by omega), fr _ (by omega) (by omega)]) (by rw [zup_ne (by omega), zblk_out (by omega), fr _ (by omega) (by omega)])
  have hM1 := hM D2
  rw [zset_same (D := D2) (b := s + 636) (N := vec G) (by rw [mq _ (by omega) (by omega), zup_ne (by omega), zblk_out (by omega), fr _ (by omega) (by omega), eG, vec_dev])] at hM1
  obtain ⟨iR, iZ2⟩ := h3 (zset D2 (s + 636) (vec G')) (by rw [zset_ne (by omega), mq _ (by omega) (by omega), zup_ne (by omega), zblk_out (by omega)]) (fun q _ _ => by rw [zset_ne (by omega), mq _ (by omega) (by omega), zup_ne (by omega), zblk_out (by omega)]) (by rw [zset_ne (by omega)]) (by rw [zset_ne (by omega)])
  have fq : ∀ q, q ≠ s → ¬ (s + 104 ≤ q ∧ q < s + 566) → ¬ (s + 4 ≤ q ∧ q < s + 37) → q ≠ s + 634 → q ≠ s + 638 → q ≠ s + 636 → zset D2 (s + 636) (vec G') q = D q := fun q a1 a2 a3 a4 a5 a6 => by
    rw [zset_ne a6, mq _ a4 a5, zup_ne a4, zblk_out (by omega), fr _ a1 a2]
  obtain ⟨iP, iB, iZ, iT, -, iS⟩ := hI
  refine ⟨v, zblk D1 (s + 4) F', zset D2 (s + 636) (vec G'), by rw [hc, zcvE]; exact hC1, by rw [hm, zcvE]; exact hM1, by rw [zblk_out (by omega), fr _ (by omega) (by omega)], ⟨?_, ?_, ?_, ?_, vIR_mo iR hT, ?_⟩, ?_, ?_, fun q hq => by rw [zblk_out (by omega), fr _ (by omega) (by omega)]⟩
  · refine RP_congr hR (fun o j hcp => ?_) (fun j hj => ?_) (fun o j hv => ?_)
    · have := Cp_lt hcp
      show zset D2 (s + 636) (vec G') (s + 4 + o) j = _
      rw [zset_ne (by omega), mq _ (by omega) (by omega), zup_ne (by omega), zblk_at this]
    · show zset D2 (s + 636) (vec G') (s + 4 + 15) j = _
      rw [zset_ne (by omega), mq _ (by omega) (by omega), zup_ne (by omega), zblk_at (by decide)]; exact RP_Z hR j hj
    · show zset D2 (s + 636) (vec G') (s + 636) (ci (o, j)) = _
      rw [zset_at]
      unfold vec
      rw [(vp_co hv).2]
  · exact vIB_c iB (fun o ho => fq _ (by omega) (by omega) (by omega) (by omega) (by omega) (by omega))
  · refine ⟨fun j hj => ?_, iZ2, fun i j hi hj => ?_⟩
    · rw [fq _ (by omega) (by omega) (by omega) (by omega) (by omega) (by omega)]; exact iZ.1 j hj
    · rw [fq _ (by omega) (by omega) (by omega) (by omega) (by omega) (by omega)]; exact iZ.2.2 i j hi hj
  · refine vIT_c iT ?_ ?_ ?_ ?_
    · rw [fq _ (by omega) (by omega) (by omega) (by omega) (by omega) (by omega)]
    · rw [fq _ (by omega) (by omega) (by omega) (by omega) (by omega) (by omega)]
    · rw [zset_ne (by omega), mj _ (by decide), zup_aj (by decide), zblk_out (by omega), fr _ (by omega) (by omega)]
    · rw [fq _ (by omega) (by omega) (by omega) (by omega) (by omega) (by omega)]
  · refine vIS_mo (vIS_c iS ?_ ?_ (fun q _ _ => ?_) ?_) hT
    · rw [fq _ (by omega) (by omega) (by omega) (by omega) (by omega) (by omega)]
    · rw [fq _ (by omega) (by omega) (by omega) (by omega) (by omega) (by omega)]
    · rw [fq _ (by omega) (by omega) (by omega) (by omega) (by omega) (by omega)]
    · rw [fq _ (by omega) (by omega) (by omega) (by omega) (by omega) (by omega)]
  · rw [zset_ne (by omega), mj _ (by decide), zup_at]
  · intro q hq
    exact fq _ (by omega) (by omega) (by omega) (by omega) (by omega) (by omega)
