/-! PURE: a cleared state; the text as a whole, on both sides. -/
section P71
variable {β : Type} {w : zW} {D : zD} {s n p q o b k T : Nat} {l : Int32} {N V : Nat → Int32} {F G : Nat → Nat → Int32} {ch : Nat → Nat}
def cl1 (N : Nat → Int32) (k : Nat) : Nat → Int32 := fun i => if i < k then 0 else N i
def cl2 (N : Nat → Int32) (k : Nat) : Nat → Int32 := fun i => if i < 521 then (if i = 9 then 3 else if i = 10 then 40 else if 65 ≤ i ∧ i < 65 + 6 * k ∧ 3 ≤ (i - 65) % 6 then -1 else 0) else N i
theorem cl1_s : upd (cl1 N k) k 0 = cl1 N (k + 1) := by
  funext i
  unfold upd cl1
  by_cases h1 : i = k
  · subst h1; rw [if_pos rfl, if_pos (by omega)]
  · rw [if_neg h1]
    by_cases h2 : i < k
    · rw [if_pos h2, if_pos (by omega)]
    · rw [if_neg h2, if_neg (by omega)]
theorem cl2_0 : upd (upd (cl1 N 521) 9 3) 10 40 = cl2 N 0 := by
  funext i
  unfold upd cl1 cl2
  by_cases h10 : i = 10
  · subst h10; rfl
  · by_cases h9 : i = 9
    · subst h9; rfl
    · rw [if_neg h10, if_neg h9]
      by_cases h : i < 521
      · rw [if_pos h, if_pos h, if_neg h9, if_neg h10, if_neg (by omega)]
      · rw [if_neg h, if_neg h]
theorem cl2_s (hk : k < 16) : upd (upd (upd (cl2 N k) (65 + 6 * k + 3) (-1)) (65 + 6 * k + 4) (-1)) (65 + 6 * k + 5) (-1) = cl2 N (k + 1) := by
  funext i
  unfold upd cl2
  by_cases h3 : i = 65 + 6 * k + 3
  · rw [if_neg (by omega), if_neg (by omega), if_pos h3, if_pos (by omega), if_neg (by omega), if_neg (by omega), if_pos (by omega)]
  · by_cases h4 : i = 65 + 6 * k + 4
    · rw [if_neg (by omega), if_pos h4, if_pos (by omega), if_neg (by omega), if_neg (by omega), if_pos (by omega)]
    · by_cases h5 : i = 65 + 6 * k + 5
      · rw [if_pos h5, if_pos (by omega), if_neg (by omega), if_neg (by omega), if_pos (by omega)]
      · rw [if_neg h5, if_neg h4, if_neg h3]
        by_cases h : i < 521
        · rw [if_pos h, if_pos h]
          by_cases h9 : i = 9
          · rw [if_pos h9, if_pos h9]
          · rw [if_neg h9, if_neg h9]
            by_cases h10 : i = 10
            · rw [if_pos h10, if_pos h10]
            · rw [if_neg h10, if_neg h10]
              by_cases hc : 65 ≤ i ∧ i < 65 + 6 * k ∧ 3 ≤ (i - 65) % 6
              · rw [if_pos hc, if_pos (by omega)]
              · rw [if_neg hc, if_neg (by omega)]
        · rw [if_neg h, if_neg h]
theorem m_clear (hb : w.1 b = some (.inl (0, 521))) : f_MD_clear w D b = some (zset D b (cl2 (D b) 16)) := by
  have a2 : zlp (fun (_ : Int32) (_ : zD) => none) (S_MD_clear_S2 w b) zfuel 0 (zset D b (cl2 (D b) 0)) = some (zset D b (cl2 (D b) 16)) := by
    obtain ⟨s', hs', w1⟩ := lpG (bot := fun (_ : Int32) (_ : zD) => none) (st := S_MD_clear_S2 w b) (β := zD) (n := 16) (fun k (q : Nat → Int32) => q = cl2 (D b) k) (fun (_ : Unit) g k q => g (nI k) (zset D b q)) (by
      intro k q hk hq
      subst hq
      have hc : ¬ (16 : Int32) ≤ nI k := by rw [zl 16, nI_leI (by omega) (by omega)]; omega
      refine ⟨cl2 (D b) (k + 1), rfl, ?_⟩
      intro _ j
      have i3 : (65 : Int32) + (6 : Int32) * nI k + (3 : Int32) = nI (65 + 6 * k + 3) := by simp only [zl, nI_add, pk_mul]
      have i4 : (65 : Int32) + (6 : Int32) * nI k + (4 : Int32) = nI (65 + 6 * k + 4) := by simp only [zl, nI_add, pk_mul]
      have i5 : (65 : Int32) + (6 : Int32) * nI k + (5 : Int32) = nI (65 + 6 * k + 5) := by simp only [zl, nI_add, pk_mul]
      unfold S_MD_clear_S2
      simp only [hc, ↓reduceIte, i3, i4, i5, zast_of (i := 65 + 6 * k + 3) hb (by omega) (by decide), zast_of (i := 65 + 6 * k + 4) hb (by omega) (by decide), zast_of (i := 65 + 6 * k + 5) hb (by omega) (by decide), zup_zset, ↓zletE, nI_1, cl2_s hk]) 16 0 (cl2 (D b) 0) (by omega) rfl
    subst hs'
    obtain ⟨j, hj⟩ := w1 () zfuel (by unfold zfuel; omega)
    refine hj.trans ?_
    unfold S_MD_clear_S2
    rw [if_pos (by decide)]
  have a1 : zlp (fun (_ : Int32) (_ : zD) => none) (S_MD_clear_S1 w b) zfuel 0 (zset D b (cl1 (D b) 0)) = some (zset D b (cl2 (D b) 16)) := by
    obtain ⟨s', hs', w1⟩ := lpG (bot := fun (_ : Int32) (_ : zD) => none) (st := S_MD_clear_S1 w b) (β := zD) (n := 521) (fun k (q : Nat → Int32) => q = cl1 (D b) k) (fun (_ : Unit) g k q => g (nI k) (zset D b q)) (by
      intro k q hk hq
      subst hq
      have hc : ¬ (521 : Int32) ≤ nI k := by rw [zl 521, nI_leI (by omega) (by omega)]; omega
      refine ⟨cl1 (D b) (k + 1), rfl, ?_⟩
      intro _ j
      unfold S_MD_clear_S1
      simp only [hc, ↓reduceIte, zast_of (i := k) hb (by omega) (by decide), zup_zset, ↓zletE, nI_1, cl1_s]) 521 0 (cl1 (D b) 0) (by omega) rfl
    subst hs'
    obtain ⟨j, hj⟩ := w1 () zfuel (by unfold zfuel; omega)
    refine hj.trans ?_
    have k9 : ∀ {D : zD} {v : Int32} {κ : zD → Option zD}, zast w D 0 b (9 : Int32) v κ = κ (zup D b 9 v) := zast_of (i := 9) hb (by decide) (by decide)
    have k10 : ∀ {D : zD} {v : Int32} {κ : zD → Option zD}, zast w D 0 b (10 : Int32) v κ = κ (zup D b 10 v) := zast_of (i := 10) hb (by decide) (by decide)
    unfold S_MD_clear_S1
    rw [if_pos (by decide)]
    simp only [↓zjpE, k9, k10, zup_zset, cl2_0]
    exact a2
  rw [u_MD_clear]
  simp only [↓zjpE]
  have h0 : zset D b (cl1 (D b) 0) = D := by
    have : cl1 (D b) 0 = D b := by funext i; unfold cl1; rw [if_neg (by omega)]
    rw [this, zset_eta]
  rw [h0] at a1
  exact a1
theorem RP_clr {D' : zD} {a : Nat} (h : RP (blk D' a) (dev clr) T) {F : Nat → Nat → Int32} (hF : ∀ o j, Cp o j → F o j = D' (a + o) j) (hz : ∀ j, j < 4 → F 15 j = 0) : RP F (dev (cl2 N 16)) T := by
  refine RP_congr h hF hz (fun o j hv => ?_)
  show cl2 N 16 (ci (o, j)) = clr (ci (o, j))
  unfold cl2 clr
  rw [if_pos (vp_co hv).1]
theorem tD_in : zup D (s + 1) 2 (nI p) = tD D s p (D (s + 1) 3) (D (s + 3)) := by
  funext r j
  by_cases h1 : r = s + 1
  · subst h1
    by_cases h3 : j = 3
    · subst h3; rw [tD_3, zup_aj (by decide)]
    · unfold tD; rw [zset_ne (by omega), zup_aj h3]
  · by_cases h3 : r = s + 3
    · subst h3; rw [zup_ne h1, tD_n]
    · rw [tD_o h1 h3, zup_ne h1]
theorem mD_in : zup (zup (zset D (s + 637) V) (s + 634) 10 (nI o)) (s + 634) 9 (nI q) = mD D s q o V := by
  funext r j
  unfold mD
  by_cases h1 : r = s + 634
  · subst h1
    rw [zset_ne (by omega)]
    by_cases h9 : j = 9
    · subst h9; rw [zup_at, zup_aj (by decide), zup_at]
    · rw [zup_aj h9]
      by_cases h10 : j = 10
      · subst h10; rw [zup_at, zup_at]
      · rw [zup_aj h10, zup_aj h10, zup_aj h9, zset_ne (by omega)]
  · rw [zup_ne h1, zup_ne h1]
    by_cases h2 : r = s + 637
    · subst h2; rw [zset_at, zset_at]
    · rw [zset_ne h2, zset_ne h2, zup_ne h1, zup_ne h1]
theorem tD_zblk : tD (zblk D (s + 4) F) s p l N = zblk (tD D s p l N) (s + 4) F := by
  funext r j
  by_cases h : s + 4 ≤ r ∧ r < s + 37
  · obtain ⟨q, rfl⟩ : ∃ q, r = s + 4 + q := ⟨r - (s + 4), by omega⟩
    rw [tD_o (by omega) (by omega), zblk_at (by omega), zblk_at (by omega)]
  · rw [zblk_out (by omega)]
    by_cases h1 : r = s + 1
    · subst h1; unfold tD
      rw [zset_ne (by omega), zset_ne (by omega)]
      by_cases h3 : j = 3
      · subst h3; rw [zup_at, zup_at]
      · rw [zup_aj h3, zup_aj h3]
        by_cases h2 : j = 2
        · subst h2; rw [zup_at, zup_at]
        · rw [zup_aj h2, zup_aj h2, zblk_out (by omega)]
    · by_cases h3 : r = s + 3
      · subst h3; rw [tD_n, tD_n]
      · rw [tD_o h1 h3, tD_o h1 h3, zblk_out (by omega)]
theorem TX_c {D' : zD} (h : TX D s n ch) (h1 : D' (s + 1) 1 = D (s + 1) 1) (h2 : D' (s + 2) = D (s + 2)) : TX D' s n ch := by
  unfold TX at h ⊢; rw [h1, h2]; exact h
theorem MX_c {D' : zD} (h : MX D s n ch) (h1 : D' (s + 634) 2 = D (s + 634) 2) (h2 : D' (s + 635) = D (s + 635)) : MX D' s n ch := by
  unfold MX at h ⊢; rw [h1, h2]; exact h
theorem parse (hw : WL w s) (hn : n ≤ 120) : ∀ m p i o F G T, n - p ≤ m → 1 ≤ p → p ≤ n → i < p → RP F G T → T + 99 * m + 99 < 4000000 →
    (∃ e, e ≤ n ∧ (∀ D l N fuel, TX D s n ch → m + 1 < fuel → ∃ l' N', zlp (fun (_ : Int32) (_ : Int32) (_ : zD) => none) (S_FairText_firstError_S1 w (s + 1)) fuel 1 (nI i) (tD D s p l N) = some (nI e, tD D s e l' N')) ∧ (∀ D fuel, MX D s n ch → m < fuel → ∃ o' V, zlp (fun (_ : zD) => none) (S_MD_readText_S1 w (s + 634) (s + 637)) fuel (mD D s p o (vec G)) = some (nI e, mD D s e o' V))) ∨
    (∃ F' G' u, RP F' G' (T + 99 * m) ∧ u ≤ m ∧ (∀ D l N fuel, TX D s n ch → m + 1 < fuel → ∃ l' N', zlp (fun (_ : Int32) (_ : Int32) (_ : zD) => none) (S_FairText_firstError_S1 w (s + 1)) fuel 1 (nI i) (tD D s p l N) = some (-1, tD D s n l' N')) ∧ (∀ D fuel, MX D s n ch → m < fuel → zlp (fun (_ : zD) => none) (S_MD_readText_S1 w (s + 634) (s + 637)) fuel (mD D s p o (vec G)) = some (-1, mD D s n (o + u) (vec G'))) ∧ (∀ D l N fuel x, TX D s n ch → m < fuel → ∃ l' N', zlp (fun (_ : Int32) (_ : Int32) (_ : zD) => none) (S_SF_load_S2 w s) fuel (nI x) (nI i) (tD (zblk D (s + 4) F) s p l N) = some (.inl (nI (x + u)), tD (zblk D (s + 4) F') s n l' N'))) := by
  intro m
  induction m with
  | zero =>
    intro p i o F G T hm hp1 hpn hi hR hT
    obtain rfl : p = n := by omega
    have h120 : ¬ (120 : Int32) ≤ nI i := by rw [zl 120, nI_leI (by omega) (by omega)]; omega
    have hle : nI p ≤ nI p := nI_le (Nat.le_refl _) (by omega)
    refine Or.inr ⟨F, G, 0, hR, Nat.le_refl _, fun D l N fuel hX hf => ⟨l, N, ?_⟩, fun D fuel hM hf => ?_, fun D l N fuel x hX hf => ⟨l, N, ?_⟩⟩
    · match fuel, hf with
      | f + 1, _ =>
        rw [zlpS]
        unfold S_FairText_firstError_S1
        simp only [↓zjpE, ↓zletE, ↓zciE, ↓zcvE, ↓zchkE, ↓reduceIte, zciE, zcvE, nI_1, ↓WSo hw, ↓WSr0 hw, ↓WSr1 hw, ↓WSr2 hw, ↓WSr3 hw, ↓WSr4 hw, ↓WSg5 hw, ↓WSp5 hw, ↓WSg6 hw, ↓WSp6 hw, ↓WSr7 hw, ↓WSr8 hw, ↓WTo hw, ↓WTr0 hw, ↓WTg1 hw, ↓WTp1 hw, ↓WTg2 hw, ↓WTp2 hw, ↓WTg3 hw, ↓WTp3 hw, ↓WTr4 hw, ↓WMo hw, ↓WMg0 hw, ↓WMp0 hw, ↓WMr1 hw, ↓WMg2 hw, ↓WMp2 hw, ↓WMr3 hw, ↓WMr4 hw, ↓WMr5 hw, ↓WMg6 hw, ↓WMp6 hw, ↓WMr7 hw, ↓WMr8 hw, ↓WMg9 hw, ↓WMp9 hw, ↓WMg10 hw, ↓WMp10 hw, h120, d10, tD_1, tD_2, hX.2.1, hle]
    · match fuel, hf with
      | f + 1, _ =>
        rw [zlpS]
        unfold S_MD_readText_S1
        simp only [↓zjpE, ↓zletE, ↓zciE, ↓zcvE, ↓zchkE, ↓reduceIte, zciE, zcvE, nI_1, ↓WSo hw, ↓WSr0 hw, ↓WSr1 hw, ↓WSr2 hw, ↓WSr3 hw, ↓WSr4 hw, ↓WSg5 hw, ↓WSp5 hw, ↓WSg6 hw, ↓WSp6 hw, ↓WSr7 hw, ↓WSr8 hw, ↓WTo hw, ↓WTr0 hw, ↓WTg1 hw, ↓WTp1 hw, ↓WTg2 hw, ↓WTp2 hw, ↓WTg3 hw, ↓WTp3 hw, ↓WTr4 hw, ↓WMo hw, ↓WMg0 hw, ↓WMp0 hw, ↓WMr1 hw, ↓WMg2 hw, ↓WMp2 hw, ↓WMr3 hw, ↓WMr4 hw, ↓WMr5 hw, ↓WMg6 hw, ↓WMp6 hw, ↓WMr7 hw, ↓WMr8 hw, ↓WMg9 hw, ↓WMp9 hw, ↓WMg10 hw, ↓WMp10 hw, mD_2, mD_9, hM.2.1, hle, Nat.add_zero]
    · have hX' : TX (zblk D (s + 4) F) s p ch := TX_c hX (by rw [zblk_out (by omega)]) (by rw [zblk_out (by omega)])
      match fuel, hf with
      | f + 1, _ =>
        rw [zlpS]
        unfold S_SF_load_S2
        simp only [↓zjpE, ↓zletE, ↓zciE, ↓zcvE, ↓zchkE, ↓reduceIte, zciE, zcvE, nI_1, ↓WSo hw, ↓WSr0 hw, ↓WSr1 hw, ↓WSr2 hw, ↓WSr3 hw, ↓WSr4 hw, ↓WSg5 hw, ↓WSp5 hw, ↓WSg6 hw, ↓WSp6 hw, ↓WSr7 hw, ↓WSr8 hw, ↓WTo hw, ↓WTr0 hw, ↓WTg1 hw, ↓WTp1 hw, ↓WTg2 hw, ↓WTp2 hw, ↓WTg3 hw, ↓WTp3 hw, ↓WTr4 hw, ↓WMo hw, ↓WMg0 hw, ↓WMp0 hw, ↓WMr1 hw, ↓WMg2 hw, ↓WMp2 hw, ↓WMr3 hw, ↓WMr4 hw, ↓WMr5 hw, ↓WMg6 hw, ↓WMp6 hw, ↓WMr7 hw, ↓WMr8 hw, ↓WMg9 hw, ↓WMp9 hw, ↓WMg10 hw, ↓WMp10 hw, h120, tD_1, tD_2, hX'.2.1, hle, Nat.add_zero]
  | succ m ih =>
    intro p i o F G T hm hp1 hpn hi hR hT
    have h120 : ¬ (120 : Int32) ≤ nI i := by rw [zl 120, nI_leI (by omega) (by omega)]; omega
    by_cases hpn2 : p < n
    · have hle : ¬ nI n ≤ nI p := nI_ge hpn2 (by omega)
      rcases step (ch := ch) hw hn hpn2 with ⟨q, l1, hq, sC, sM⟩ | ⟨q, l1, P, hpq, hq, sC, sG⟩
      · refine Or.inl ⟨q, hq, fun D l N fuel hX hf => ?_, fun D fuel hM hf => ⟨o, vec G, ?_⟩⟩
        · obtain ⟨N', e1⟩ := sC D l N hX
          refine ⟨l1, N', ?_⟩
          match fuel, hf with
          | f + 2, _ =>
            rw [zlpS]
            have e2 : S_FairText_firstError_S1 w (s + 1) (zlp (fun (_ : Int32) (_ : Int32) (_ : zD) => none) (S_FairText_firstError_S1 w (s + 1)) f) 0 (nI (i + 1)) (tD D s q l1 N') = some (nI q, tD D s q l1 N') := by
              unfold S_FairText_firstError_S1
              by_cases h : (120 : Int32) ≤ nI (i + 1)
              · simp only [↓zjpE, ↓zletE, ↓zciE, ↓zcvE, ↓zchkE, ↓reduceIte, zciE, zcvE, nI_1, ↓WSo hw, ↓WSr0 hw, ↓WSr1 hw, ↓WSr2 hw, ↓WSr3 hw, ↓WSr4 hw, ↓WSg5 hw, ↓WSp5 hw, ↓WSg6 hw, ↓WSp6 hw, ↓WSr7 hw, ↓WSr8 hw, ↓WTo hw, ↓WTr0 hw, ↓WTg1 hw, ↓WTp1 hw, ↓WTg2 hw, ↓WTp2 hw, ↓WTg3 hw, ↓WTp3 hw, ↓WTr4 hw, ↓WMo hw, ↓WMg0 hw, ↓WMp0 hw, ↓WMr1 hw, ↓WMg2 hw, ↓WMp2 hw, ↓WMr3 hw, ↓WMr4 hw, ↓WMr5 hw, ↓WMg6 hw, ↓WMp6 hw, ↓WMr7 hw, ↓WMr8 hw, ↓WMg9 hw, ↓WMp9 hw, ↓WMg10 hw, ↓WMp10 hw, h, tD_2]
              · simp only [↓zjpE, ↓zletE, ↓zciE, ↓zcvE, ↓zchkE, ↓reduceIte, zciE, zcvE, nI_1, ↓WSo hw, ↓WSr0 hw, ↓WSr1 hw, ↓WSr2 hw, ↓WSr3 hw, ↓WSr4 hw, ↓WSg5 hw, ↓WSp5 hw, ↓WSg6 hw, ↓WSp6 hw, ↓WSr7 hw, ↓WSr8 hw, ↓WTo hw, ↓WTr0 hw, ↓WTg1 hw, ↓WTp1 hw, ↓WTg2 hw, ↓WTp2 hw, ↓WTg3 hw, ↓WTp3 hw, ↓WTr4 hw, ↓WMo hw, ↓WMg0 hw, ↓WMp0 hw, ↓WMr1 hw, ↓WMg2 hw, ↓WMp2 hw, ↓WMr3 hw, ↓WMr4 hw, ↓WMr5 hw, ↓WMg6 hw, ↓WMp6 hw, ↓WMr7 hw, ↓WMr8 hw, ↓WMg9 hw, ↓WMp9 hw, ↓WMg10 hw, ↓WMp10 hw, h, tD_2]
            have e3 : ∀ j, S_FairText_firstError_S1 w (s + 1) j 1 (nI i) (tD D s p l N) = j 0 (nI (i + 1)) (tD D s q l1 N') := fun j => by
              unfold S_FairText_firstError_S1
              simp only [↓zjpE, ↓zletE, ↓zciE, ↓zcvE, ↓zchkE, ↓reduceIte, zciE, zcvE, nI_1, ↓WSo hw, ↓WSr0 hw, ↓WSr1 hw, ↓WSr2 hw, ↓WSr3 hw, ↓WSr4 hw, ↓WSg5 hw, ↓WSp5 hw, ↓WSg6 hw, ↓WSp6 hw, ↓WSr7 hw, ↓WSr8 hw, ↓WTo hw, ↓WTr0 hw, ↓WTg1 hw, ↓WTp1 hw, ↓WTg2 hw, ↓WTp2 hw, ↓WTg3 hw, ↓WTp3 hw, ↓WTr4 hw, ↓WMo hw, ↓WMg0 hw, ↓WMp0 hw, ↓WMr1 hw, ↓WMg2 hw, ↓WMp2 hw, ↓WMr3 hw, ↓WMr4 hw, ↓WMr5 hw, ↓WMg6 hw, ↓WMp6 hw, ↓WMr7 hw, ↓WMr8 hw, ↓WMg9 hw, ↓WMp9 hw, ↓WMg10 hw, ↓WMp10 hw, h120, d10, tD_1, tD_2, hX.2.1, hle, ↓zciX e1]
            rw [e3, zlpS]
            exact e2
        · match fuel, hf with
          | f + 1, _ =>
            rw [zlpS]
            unfold S_MD_readText_S1
            simp only [↓zjpE, ↓zletE, ↓zciE, ↓zcvE, ↓zchkE, ↓reduceIte, zciE, zcvE, nI_1, ↓WSo hw, ↓WSr0 hw, ↓WSr1 hw, ↓WSr2 hw, ↓WSr3 hw, ↓WSr4 hw, ↓WSg5 hw, ↓WSp5 hw, ↓WSg6 hw, ↓WSp6 hw, ↓WSr7 hw, ↓WSr8 hw, ↓WTo hw, ↓WTr0 hw, ↓WTg1 hw, ↓WTp1 hw, ↓WTg2 hw, ↓WTp2 hw, ↓WTg3 hw, ↓WTp3 hw, ↓WTr4 hw, ↓WMo hw, ↓WMg0 hw, ↓WMp0 hw, ↓WMr1 hw, ↓WMg2 hw, ↓WMp2 hw, ↓WMr3 hw, ↓WMr4 hw, ↓WMr5 hw, ↓WMg6 hw, ↓WMp6 hw, ↓WMr7 hw, ↓WMr8 hw, ↓WMg9 hw, ↓WMp9 hw, ↓WMg10 hw, ↓WMp10 hw, mD_2, mD_9, hM.2.1, hle, ↓zciX (sM D o (vec G) hM)]
      · obtain ⟨F1, G1, u1, hR1, hu1, gM, gC⟩ := sG F G T hR (by omega)
        have ih' := ih q (i + 1) (o + u1) F1 G1 (T + 99) (by omega) (by omega) hq (by omega) hR1 (by omega)
        have st1 : ∀ D l N f, TX D s n ch → ∃ N', zlp (fun (_ : Int32) (_ : Int32) (_ : zD) => none) (S_FairText_firstError_S1 w (s + 1)) (f + 1) 1 (nI i) (tD D s p l N) = zlp (fun (_ : Int32) (_ : Int32) (_ : zD) => none) (S_FairText_firstError_S1 w (s + 1)) f 1 (nI (i + 1)) (tD D s q l1 N') ∧ P N' := fun D l N f hX => by
          obtain ⟨N', e1, hP⟩ := sC D l N hX
          refine ⟨N', ?_, hP⟩
          rw [zlpS]
          unfold S_FairText_firstError_S1
          simp only [↓zjpE, ↓zletE, ↓zciE, ↓zcvE, ↓zchkE, ↓reduceIte, zciE, zcvE, nI_1, ↓WSo hw, ↓WSr0 hw, ↓WSr1 hw, ↓WSr2 hw, ↓WSr3 hw, ↓WSr4 hw, ↓WSg5 hw, ↓WSp5 hw, ↓WSg6 hw, ↓WSp6 hw, ↓WSr7 hw, ↓WSr8 hw, ↓WTo hw, ↓WTr0 hw, ↓WTg1 hw, ↓WTp1 hw, ↓WTg2 hw, ↓WTp2 hw, ↓WTg3 hw, ↓WTp3 hw, ↓WTr4 hw, ↓WMo hw, ↓WMg0 hw, ↓WMp0 hw, ↓WMr1 hw, ↓WMg2 hw, ↓WMp2 hw, ↓WMr3 hw, ↓WMr4 hw, ↓WMr5 hw, ↓WMg6 hw, ↓WMp6 hw, ↓WMr7 hw, ↓WMr8 hw, ↓WMg9 hw, ↓WMp9 hw, ↓WMg10 hw, ↓WMp10 hw, h120, d10, tD_1, tD_2, hX.2.1, hle, ↓zciX e1]
        have st2 : ∀ D f, MX D s n ch → zlp (fun (_ : zD) => none) (S_MD_readText_S1 w (s + 634) (s + 637)) (f + 1) (mD D s p o (vec G)) = zlp (fun (_ : zD) => none) (S_MD_readText_S1 w (s + 634) (s + 637)) f (mD D s q (o + u1) (vec G1)) := fun D f hM => by
          rw [zlpS]
          unfold S_MD_readText_S1
          simp only [↓zjpE, ↓zletE, ↓zciE, ↓zcvE, ↓zchkE, ↓reduceIte, zciE, zcvE, nI_1, ↓WSo hw, ↓WSr0 hw, ↓WSr1 hw, ↓WSr2 hw, ↓WSr3 hw, ↓WSr4 hw, ↓WSg5 hw, ↓WSp5 hw, ↓WSg6 hw, ↓WSp6 hw, ↓WSr7 hw, ↓WSr8 hw, ↓WTo hw, ↓WTr0 hw, ↓WTg1 hw, ↓WTp1 hw, ↓WTg2 hw, ↓WTp2 hw, ↓WTg3 hw, ↓WTp3 hw, ↓WTr4 hw, ↓WMo hw, ↓WMg0 hw, ↓WMp0 hw, ↓WMr1 hw, ↓WMg2 hw, ↓WMp2 hw, ↓WMr3 hw, ↓WMr4 hw, ↓WMr5 hw, ↓WMg6 hw, ↓WMp6 hw, ↓WMr7 hw, ↓WMr8 hw, ↓WMg9 hw, ↓WMp9 hw, ↓WMg10 hw, ↓WMp10 hw, mD_2, mD_9, hM.2.1, hle, ↓zciX (gM D o hM), d10]
        rcases ih' with ⟨e, he, i1, i2⟩ | ⟨F', G', u, hR', hu, i1, i2, i3⟩
        · refine Or.inl ⟨e, he, fun D l N fuel hX hf => ?_, fun D fuel hM hf => ?_⟩
          · match fuel, hf with
            | f + 1, hf =>
              obtain ⟨N', e1, -⟩ := st1 D l N f hX
              rw [e1]
              exact i1 D l1 N' f hX (by omega)
          · match fuel, hf with
            | f + 1, hf =>
              rw [st2 D f hM]
              exact i2 D f hM (by omega)
        · refine Or.inr ⟨F', G', u1 + u, by rw [show T + 99 * (m + 1) = T + 99 + 99 * m by omega]; exact hR', by omega, fun D l N fuel hX hf => ?_, fun D fuel hM hf => ?_, fun D l N fuel x hX hf => ?_⟩
          · match fuel, hf with
            | f + 1, hf =>
              obtain ⟨N', e1, -⟩ := st1 D l N f hX
              rw [e1]
              exact i1 D l1 N' f hX (by omega)
          · match fuel, hf with
            | f + 1, hf =>
              rw [st2 D f hM, ← Nat.add_assoc]
              exact i2 D f hM (by omega)
          · match fuel, hf with
            | f + 1, hf =>
              have hX' : TX (zblk D (s + 4) F) s n ch := TX_c hX (by rw [zblk_out (by omega)]) (by rw [zblk_out (by omega)])
              obtain ⟨N', e1, hP⟩ := sC (zblk D (s + 4) F) l N hX'
              have e2 : f_SF_obeys w (tD (zblk D (s + 4) F) s q l1 N') (s + 4) l1 (s + 3) = some (if u1 = 0 then 1 else 0, tD (zblk D (s + 4) F1) s q l1 N') := by
                rw [tD_zblk, tD_zblk]
                exact gC _ (by rw [tD_n]; exact hP)
              obtain ⟨l', N2, e3⟩ := i3 D l1 N' f (x + u1) hX (by omega)
              refine ⟨l', N2, ?_⟩
              rw [← Nat.add_assoc, ← e3, zlpS]
              unfold S_SF_load_S2
              rcases hu1 with rfl | rfl
              · simp only [↓zjpE, ↓zletE, ↓zciE, ↓zcvE, ↓zchkE, ↓reduceIte, zciE, zcvE, nI_1, ↓WSo hw, ↓WSr0 hw, ↓WSr1 hw, ↓WSr2 hw, ↓WSr3 hw, ↓WSr4 hw, ↓WSg5 hw, ↓WSp5 hw, ↓WSg6 hw, ↓WSp6 hw, ↓WSr7 hw, ↓WSr8 hw, ↓WTo hw, ↓WTr0 hw, ↓WTg1 hw, ↓WTp1 hw, ↓WTg2 hw, ↓WTp2 hw, ↓WTg3 hw, ↓WTp3 hw, ↓WTr4 hw, ↓WMo hw, ↓WMg0 hw, ↓WMp0 hw, ↓WMr1 hw, ↓WMg2 hw, ↓WMp2 hw, ↓WMr3 hw, ↓WMr4 hw, ↓WMr5 hw, ↓WMg6 hw, ↓WMp6 hw, ↓WMr7 hw, ↓WMr8 hw, ↓WMg9 hw, ↓WMp9 hw, ↓WMg10 hw, ↓WMp10 hw, h120, d10, tD_1, tD_2, tD_3, hX'.2.1, hle, ↓zciX e1, ↓zciX e2, Nat.add_zero]
              · simp only [↓zjpE, ↓zletE, ↓zciE, ↓zcvE, ↓zchkE, ↓reduceIte, zciE, zcvE, nI_1, ↓WSo hw, ↓WSr0 hw, ↓WSr1 hw, ↓WSr2 hw, ↓WSr3 hw, ↓WSr4 hw, ↓WSg5 hw, ↓WSp5 hw, ↓WSg6 hw, ↓WSp6 hw, ↓WSr7 hw, ↓WSr8 hw, ↓WTo hw, ↓WTr0 hw, ↓WTg1 hw, ↓WTp1 hw, ↓WTg2 hw, ↓WTp2 hw, ↓WTg3 hw, ↓WTp3 hw, ↓WTr4 hw, ↓WMo hw, ↓WMg0 hw, ↓WMp0 hw, ↓WMr1 hw, ↓WMg2 hw, ↓WMp2 hw, ↓WMr3 hw, ↓WMr4 hw, ↓WMr5 hw, ↓WMg6 hw, ↓WMp6 hw, ↓WMr7 hw, ↓WMr8 hw, ↓WMg9 hw, ↓WMp9 hw, ↓WMg10 hw, ↓WMp10 hw, h120, d10, tD_1, tD_2, tD_3, hX'.2.1, hle, ↓zciX e1, ↓zciX e2, Nat.succ_ne_zero, show (1 : Nat) = 0 ↔ False from by decide]
    · obtain rfl : p = n := by omega
      have hle : nI p ≤ nI p := nI_le (Nat.le_refl _) (by omega)
      refine Or.inr ⟨F, G, 0, RP_le hR (by omega), by omega, fun D l N fuel hX hf => ⟨l, N, ?_⟩, fun D fuel hM hf => ?_, fun D l N fuel x hX hf => ⟨l, N, ?_⟩⟩
      · match fuel, hf with
        | f + 1, _ =>
          rw [zlpS]
          unfold S_FairText_firstError_S1
          simp only [↓zjpE, ↓zletE, ↓zciE, ↓zcvE, ↓zchkE, ↓reduceIte, zciE, zcvE, nI_1, ↓WSo hw, ↓WSr0 hw, ↓WSr1 hw, ↓WSr2 hw, ↓WSr3 hw, ↓WSr4 hw, ↓WSg5 hw, ↓WSp5 hw, ↓WSg6 hw, ↓WSp6 hw, ↓WSr7 hw, ↓WSr8 hw, ↓WTo hw, ↓WTr0 hw, ↓WTg1 hw, ↓WTp1 hw, ↓WTg2 hw, ↓WTp2 hw, ↓WTg3 hw, ↓WTp3 hw, ↓WTr4 hw, ↓WMo hw, ↓WMg0 hw, ↓WMp0 hw, ↓WMr1 hw, ↓WMg2 hw, ↓WMp2 hw, ↓WMr3 hw, ↓WMr4 hw, ↓WMr5 hw, ↓WMg6 hw, ↓WMp6 hw, ↓WMr7 hw, ↓WMr8 hw, ↓WMg9 hw, ↓WMp9 hw, ↓WMg10 hw, ↓WMp10 hw, h120, d10, tD_1, tD_2, hX.2.1, hle]
      · match fuel, hf with
        | f + 1, _ =>
          rw [zlpS]
          unfold S_MD_readText_S1
          simp only [↓zjpE, ↓zletE, ↓zciE, ↓zcvE, ↓zchkE, ↓reduceIte, zciE, zcvE, nI_1, ↓WSo hw, ↓WSr0 hw, ↓WSr1 hw, ↓WSr2 hw, ↓WSr3 hw, ↓WSr4 hw, ↓WSg5 hw, ↓WSp5 hw, ↓WSg6 hw, ↓WSp6 hw, ↓WSr7 hw, ↓WSr8 hw, ↓WTo hw, ↓WTr0 hw, ↓WTg1 hw, ↓WTp1 hw, ↓WTg2 hw, ↓WTp2 hw, ↓WTg3 hw, ↓WTp3 hw, ↓WTr4 hw, ↓WMo hw, ↓WMg0 hw, ↓WMp0 hw, ↓WMr1 hw, ↓WMg2 hw, ↓WMp2 hw, ↓WMr3 hw, ↓WMr4 hw, ↓WMr5 hw, ↓WMg6 hw, ↓WMp6 hw, ↓WMr7 hw, ↓WMr8 hw, ↓WMg9 hw, ↓WMp9 hw, ↓WMg10 hw, ↓WMp10 hw, mD_2, mD_9, hM.2.1, hle, Nat.add_zero]
      · have hX' : TX (zblk D (s + 4) F) s p ch := TX_c hX (by rw [zblk_out (by omega)]) (by rw [zblk_out (by omega)])
        match fuel, hf with
        | f + 1, _ =>
          rw [zlpS]
          unfold S_SF_load_S2
          simp only [↓zjpE, ↓zletE, ↓zciE, ↓zcvE, ↓zchkE, ↓reduceIte, zciE, zcvE, nI_1, ↓WSo hw, ↓WSr0 hw, ↓WSr1 hw, ↓WSr2 hw, ↓WSr3 hw, ↓WSr4 hw, ↓WSg5 hw, ↓WSp5 hw, ↓WSg6 hw, ↓WSp6 hw, ↓WSr7 hw, ↓WSr8 hw, ↓WTo hw, ↓WTr0 hw, ↓WTg1 hw, ↓WTp1 hw, ↓WTg2 hw, ↓WTp2 hw, ↓WTg3 hw, ↓WTp3 hw, ↓WTr4 hw, ↓WMo hw, ↓WMg0 hw, ↓WMp0 hw, ↓WMr1 hw, ↓WMg2 hw, ↓WMp2 hw, ↓WMr3 hw, ↓WMr4 hw, ↓WMr5 hw, ↓WMg6 hw, ↓WMp6 hw, ↓WMr7 hw, ↓WMr8 hw, ↓WMg9 hw, ↓WMp9 hw, ↓WMg10 hw, ↓WMp10 hw, h120, tD_1, tD_2, hX'.2.1, hle, Nat.add_zero]
end P71
