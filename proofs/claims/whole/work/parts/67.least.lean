/-! PURE: the least speed of sound. -/
section P67
variable {β : Type} {w : zW} {D : zD} {s T a b ns nh nw t te tp np d e l c : Nat} {F G : Nat → Nat → Int32} {A : Prop}
theorem late (hL : LF w a) (hb : w.1 b = some (.inl (0, 521))) (h : RI F G ns nh nw t t t True np d e l (240 * t)) {n : Nat} (hn : n ≤ 1000) (ht : t + n < 4000000) : ∃ F' G' l', (∀ j, j < 4 → F' 15 j = 0) ∧ G' 26 8 = nI l' ∧ l' < 2 ^ 31 ∧ (∀ D, f_Field_isLateWithin w (zblk D a F) a (nI n) = some (if l' = l then 0 else 1, zblk D a F')) ∧ ∀ D, ∃ v, f_MD_ticksOn w (zset D b (vec G)) b (nI n) = some (v, zset D b (vec G')) := by
  obtain ⟨S, s0, s1, s2⟩ := seqT hL hb (RI_tp h (tp' := t + n) (by omega)) n ht (fun _ => Nat.le_refl _)
  have lb : ∀ i, i ≤ n → (S i).2.2.1 < 2 ^ 31 ∧ (S i).2.1 26 8 = nI (S i).2.2.1 ∧ (S i).1 26 8 = nI (S i).2.2.1 := fun i hi => by
    obtain ⟨d1, e1, hR1⟩ := s1 i hi
    obtain ⟨g1, -, -, -, -, -, -, -, -, -, -, ⟨-, -, k3, k4, k5⟩, -⟩ := hR1
    exact ⟨by omega, k3, (r26_8 g1).trans k3⟩
  have mono : ∀ m i, i + m = n → (S i).2.2.1 ≤ (S n).2.2.1 := by
    intro m
    induction m with
    | zero =>
      intro i hi
      obtain rfl : i = n := by omega
      exact Nat.le_refl _
    | succ m ih =>
      intro i hi
      exact Nat.le_trans (s2 i (by omega)).1 (ih (i + 1) (by omega))
  have mono0 : ∀ m i, i = m → m ≤ n → l ≤ (S i).2.2.1 := by
    intro m
    induction m with
    | zero => intro i hi _; subst hi; rw [s0]; exact Nat.le_refl _
    | succ m ih => intro i hi hm; subst hi; exact Nat.le_trans (ih m rfl (by omega)) (s2 m (by omega)).1
  have l31 : l < 2 ^ 31 := by have := (lb 0 (by omega)).1; rw [s0] at this; exact this
  have d1 : ¬ (1 : Int32) = 0 := by decide
  have key : ∀ m i, i + m = n → ∃ Ff, (∀ j, j < 4 → Ff 15 j = 0) ∧ ∀ D fuel, m < fuel → zlp (fun (_ : Int32) (_ : Int32) (_ : zD) => none) (S_Field_isLateWithin_S1 w a (nI n)) fuel (nI l) (nI i) (zblk D a (S i).1) = some (if (S n).2.2.1 = l then 0 else 1, zblk D a Ff) := by
    intro m
    induction m with
    | zero =>
      intro i hi
      obtain rfl : i = n := by omega
      obtain ⟨d2, e2, hR1⟩ := s1 i (by omega)
      obtain ⟨b1, b2, b3⟩ := lb i (by omega)
      refine ⟨_, hR1.2.2.1, fun D fuel hf => ?_⟩
      have hc : nI i ≤ nI i := nI_le (Nat.le_refl _) (by omega)
      have m0 := mono0 i i rfl (by omega)
      match fuel, hf with
      | f + 1, _ =>
        rw [zlpS]
        unfold S_Field_isLateWithin_S1
        by_cases hl : (S i).2.2.1 = l
        · have hle : nI l ≤ nI l := nI_le (Nat.le_refl _) l31
          simp only [↓zjpE, ↓zletE, ↓zciE, ↓zcvE, ↓zchkE, ↓reduceIte, zciE, zcvE, nI_1, hc, ↓Lr0_4 hL, ↓Lg26_8 hL, b3, hle, hl, true_or, or_true]
        · have hle : ¬ nI (S i).2.2.1 ≤ nI l := nI_ge (by omega) (by omega)
          simp only [↓zjpE, ↓zletE, ↓zciE, ↓zcvE, ↓zchkE, ↓reduceIte, zciE, zcvE, nI_1, hc, ↓Lr0_4 hL, ↓Lg26_8 hL, b3, hle, hl, true_or, or_true]
    | succ m ih =>
      intro i hi
      obtain ⟨d2, e2, hR1⟩ := s1 i (by omega)
      obtain ⟨b1, b2, b3⟩ := lb i (by omega)
      obtain ⟨-, -, t1, -⟩ := s2 i (by omega)
      have hc : ¬ nI n ≤ nI i := by rw [nI_leI (by omega) (by omega)]; omega
      have m0 := mono0 i i rfl (by omega)
      have m1 := mono (m + 1) i hi
      by_cases hl : (S i).2.2.1 = l
      · obtain ⟨Ff, y0, y1⟩ := ih (i + 1) (by omega)
        refine ⟨Ff, y0, fun D fuel hf => ?_⟩
        match fuel, hf with
        | f + 1, hf =>
          rw [zlpS, ← y1 D f (by omega)]
          unfold S_Field_isLateWithin_S1
          simp only [↓zjpE, ↓zletE, ↓zciE, ↓zcvE, ↓zchkE, ↓reduceIte, zciE, zcvE, nI_1, hc, ↓Lr0_4 hL, ↓Lg26_8 hL, ↓Lo0 hL, b3, hl, ↓zcvX (t1 D)]
      · have hne : ¬ nI (S i).2.2.1 = nI l := by rw [nI_eq (by omega) (by omega)]; exact hl
        have hle : ¬ nI (S i).2.2.1 ≤ nI l := nI_ge (by omega) (by omega)
        have hn2 : ¬ (S n).2.2.1 = l := by omega
        refine ⟨_, hR1.2.2.1, fun D fuel hf => ?_⟩
        match fuel, hf with
        | f + 1, hf =>
          rw [zlpS]
          unfold S_Field_isLateWithin_S1
          simp only [↓zjpE, ↓zletE, ↓zciE, ↓zcvE, ↓zchkE, ↓reduceIte, zciE, zcvE, nI_1, hc, ↓Lr0_4 hL, ↓Lg26_8 hL, ↓Lo0 hL, b3, hne, hle, hn2, true_or, or_true]
  have key2 : ∀ m i hd, i + m = n → ∀ D fuel, m < fuel → zlp (fun (_ : Int32) (_ : Int32) (_ : zD) => none) (S_MD_ticksOn_S1 w b (nI n)) fuel hd (nI i) (zset D b (vec (S i).2.1)) = some (((S n).2.1 26 6 + (S n).2.1 26 7) - hd, zset D b (vec (S n).2.1)) := by
    intro m
    induction m with
    | zero =>
      intro i hd hi D fuel hf
      obtain rfl : i = n := by omega
      have hc : nI i ≤ nI i := nI_le (Nat.le_refl _) (by omega)
      match fuel, hf with
      | f + 1, _ =>
        rw [zlpS]
        unfold S_MD_ticksOn_S1
        simp only [↓zjpE, ↓zletE, ↓zciE, ↓zcvE, ↓zchkE, ↓reduceIte, zciE, zcvE, nI_1, hc, ↓Mrc6 hb, ↓Mrc7 hb]
    | succ m ih =>
      intro i hd hi D fuel hf
      obtain ⟨-, -, -, t2⟩ := s2 i (by omega)
      have hc : ¬ nI n ≤ nI i := by rw [nI_leI (by omega) (by omega)]; omega
      match fuel, hf with
      | f + 1, hf =>
        rw [zlpS, ← ih (i + 1) hd (by omega) D f (by omega)]
        unfold S_MD_ticksOn_S1
        simp only [↓zjpE, ↓zletE, ↓zciE, ↓zcvE, ↓zchkE, ↓reduceIte, zciE, zcvE, nI_1, hc, ↓zcvX (t2 D)]
  obtain ⟨Ff, y0, y1⟩ := key n 0 (by omega)
  have hF8 : F 26 8 = nI l := by have := (lb 0 (by omega)).2.2; rw [s0] at this; exact this
  refine ⟨Ff, (S n).2.1, (S n).2.2.1, y0, (lb n (Nat.le_refl _)).2.1, (lb n (Nat.le_refl _)).1, fun D => ?_, fun D => ⟨((S n).2.1 26 6 + (S n).2.1 26 7) - (G 26 6 + G 26 7), ?_⟩⟩
  · have := y1 D zfuel (by unfold zfuel; omega)
    rw [s0] at this
    rw [u_Field_isLateWithin]
    simp only [↓zjpE, ↓zletE, ↓zciE, ↓zcvE, ↓zchkE, ↓reduceIte, zciE, zcvE, nI_1, ↓Lr0_4 hL, ↓Lg26_8 hL, hF8]
    exact this
  · have := key2 n 0 (G 26 6 + G 26 7) (by omega) D zfuel (by unfold zfuel; omega)
    rw [s0] at this
    rw [u_MD_ticksOn]
    simp only [↓zjpE, ↓zletE, ↓zciE, ↓zcvE, ↓zchkE, ↓reduceIte, zciE, zcvE, nI_1, ↓Mrc6 hb, ↓Mrc7 hb]
    exact this
theorem k_leastSpeed (hw : WL w s) (hI : Inv D s T) (hT : T + 1000 < 4000000) {x : Int32} : Cl D s (T + 99) (fun D => f_SF_leastSpeed w D s x) (fun D => f_MD_leastSpeed w D (s + 634) x) (A1 "java/lang/IllegalArgumentException") := by
  obtain ⟨ns, nh, nw, np, d, e, l, t, hR, ht⟩ := hI.1
  generalize hF0 : blk D (s + 4) = F at hR
  generalize hG0 : dev (D (s + 636)) = G at hR
  have hRR := hR
  obtain ⟨h1, ⟨p, q1, q2, q3, q4, q5, q6⟩, hz, hB, ⟨n0, n1, n2, n3, n4, n5, n6, n7⟩, hS, hH, hW, hC, hP, hE, hK, hA⟩ := hR
  have hL := WL4 hw
  have hb := Wn hw
  have hF1 : F 1 7 = nI ns := (r1_7 h1).trans n0
  have hF9 : F 9 6 = nI nh := (r9_6 h1).trans n2
  have hF16 : F 16 2 = nI nw := (r16_2 h1).trans n4
  have hT70 := WL70 hw
  have hbt := Wt hw
  by_cases c1 : (1 : Int32) ≤ x ∧ x ≤ 99
  · obtain ⟨n, hn, rfl⟩ := zI_of (x := x) 99 (Int32.le_trans (by decide) c1.1) c1.2 (by decide)
    have hN8 : D (s + 636) 8 = nI l := by rw [← hK.2.2.1, ← hG0]; rfl
    have l31 : l < 2 ^ 31 := by obtain ⟨-, -, -, k4, k5⟩ := hK; omega
    have key : ∀ m v, v + m = 10 → 1 ≤ v → ∃ r, (∀ F0 : Nat → Nat → Int32, (∀ j, j < 4 → F0 15 j = 0) → ∃ Ff, (∀ j, j < 4 → Ff 15 j = 0) ∧ ∀ fuel, m < fuel → zlp (fun (_ : Int32) (_ : zD) => none) (S_SF_leastSpeed_S1 w s (nI n)) fuel (nI v) (zblk D (s + 70) F0) = some (.inl r, zblk D (s + 70) Ff)) ∧ (∀ (D' : zD) V, D' (s + 636) = D (s + 636) → ∃ Gf, ∀ fuel, m < fuel → zlp (fun (_ : Int32) (_ : zD) => none) (S_MD_leastSpeed_S1 w (s + 634) (nI n)) fuel (nI v) (zset D' (s + 637) (vec V)) = some (r, zset D' (s + 637) (vec Gf))) := by
      intro m
      induction m with
      | zero =>
        intro v hv _
        obtain rfl : v = 10 := by omega
        have hc : (9 : Int32) < nI 10 := by decide
        refine ⟨-1, fun F0 hz0 => ⟨F0, hz0, fun fuel hf => ?_⟩, fun D' V hD' => ⟨V, fun fuel hf => ?_⟩⟩
        · match fuel, hf with
          | f + 1, _ =>
            rw [zlpS]
            unfold S_SF_leastSpeed_S1
            simp only [hc, ↓reduceIte]
        · match fuel, hf with
          | f + 1, _ =>
            rw [zlpS]
            unfold S_MD_leastSpeed_S1
            simp only [hc, ↓reduceIte]
      | succ m ih =>
        intro v hv hv1
        have hc : ¬ (9 : Int32) < nI v := by rw [zl 9, nI_ltI (by omega) (by omega)]; omega
        have hv9 : (1 : Int32) ≤ nI v ∧ nI v ≤ 9 := ⟨by rw [zl 1]; exact nI_le hv1 (by omega), by rw [zl 9]; exact nI_le (by omega) (by decide)⟩
        have hlate : ∀ Ft Gt, (∀ o j, Cp o j → Ft o j = F o j) → (∀ j, j < 4 → Ft 15 j = 0) → (∀ o j, Vp o j → Gt o j = G o j) → RI (upd2 Ft 0 7 (nI v)) (upd2 Gt 0 7 (nI v)) ns nh nw t t t True np d e l (240 * t) := fun Ft Gt g1 g2 g3 => RI_set7 (RI_congr hRR g1 g2 g3) hv9
        obtain ⟨F9, k1, k2, k3⟩ := trialC (D := D) (F0 := blk D (s + 70)) hw hI.2.2.1.1
        rw [hF0] at k2
        obtain ⟨F8, G8, l8, y0, y1, y2, y3, y4⟩ := late hT70 hbt (hlate F9 G k2 k3 (fun _ _ _ => rfl)) (n := n) (by omega) (by omega)
        have cls : ∀ Ft, (∀ o j, Cp o j → Ft o j = F o j) → (∀ j, j < 4 → Ft 15 j = 0) → ∃ F7, (∀ j, j < 4 → F7 15 j = 0) ∧ ∀ D, f_Field_isLateWithin w (zblk D (s + 70) (upd2 Ft 0 7 (nI v))) (s + 70) (nI n) = some (if l8 = l then 0 else 1, zblk D (s + 70) F7) := fun Ft g1 g2 => by
          obtain ⟨Fb, Gb, lb, e0, e1, e2, e3, e4⟩ := late hT70 hbt (hlate Ft G g1 g2 (fun _ _ _ => rfl)) (n := n) (by omega) (by omega)
          have hlb : lb = l8 := by
            obtain ⟨va, ha⟩ := y4 D
            obtain ⟨vb, hb'⟩ := e4 D
            have h2 := congrArg Prod.snd (Option.some.inj (ha.symm.trans hb'))
            have h3 := congrFun (congrFun h2 (s + 637)) 8
            simp only [zset_at] at h3
            have h4 : G8 26 8 = Gb 26 8 := h3
            rw [y1, e1] at h4
            exact ((nI_eq (by omega) (by omega)).1 h4).symm
          subst hlb
          exact ⟨Fb, e0, e3⟩
        have mdl : ∀ Gt, (∀ o j, Vp o j → Gt o j = G o j) → ∃ G7 l7, G7 26 8 = nI l7 ∧ l7 < 2 ^ 31 ∧ (l7 = l ↔ l8 = l) ∧ ∀ D, ∃ v', f_MD_ticksOn w (zset D (s + 637) (vec (upd2 Gt 0 7 (nI v)))) (s + 637) (nI n) = some (v', zset D (s + 637) (vec G7)) := fun Gt g3 => by
          obtain ⟨Fa, Ga, la, b0, b1, b2, b3, b4⟩ := late hT70 hbt (hlate F9 Gt k2 k3 g3) (n := n) (by omega) (by omega)
          refine ⟨Ga, la, b1, b2, ?_, b4⟩
          have h2 := congrArg Prod.fst (Option.some.inj ((y3 D).symm.trans (b3 D)))
          by_cases p1 : la = l <;> by_cases p2 : l8 = l <;> simp [p1, p2] at h2 ⊢
        have cpM : ∀ (D' : zD) V, D' (s + 636) = D (s + 636) → ∃ Gt, f_MD_copyState w (zset D' (s + 637) (vec V)) (s + 636) 0 (s + 637) 0 = some (zset D' (s + 637) (vec Gt)) ∧ ∀ o j, Vp o j → Gt o j = G o j := fun D' V hD' => by
          obtain ⟨Gt, h1', h2'⟩ := trialM (D := zset D' (s + 637) (vec V)) hw
          rw [zset_zset] at h1'
          rw [zset_ne (by omega), hD', hG0] at h2'
          exact ⟨Gt, h1', h2'⟩
        by_cases hl : l8 = l
        · refine ⟨nI v, fun F0 hz0 => ?_, fun D' V hD' => ?_⟩
          · obtain ⟨Ft, g0, g1, g2⟩ := trialC (D := D) (F0 := F0) hw hz0
            rw [hF0] at g1
            obtain ⟨F7, g3, g4⟩ := cls Ft g1 g2
            refine ⟨F7, g3, fun fuel hf => ?_⟩
            match fuel, hf with
            | f + 1, _ =>
              rw [zlpS]
              unfold S_SF_leastSpeed_S1
              simp only [↓zjpE, ↓zletE, ↓zciE, ↓zcvE, ↓zchkE, ↓reduceIte, zciE, zcvE, nI_1, ↓WSo hw, ↓WSr0 hw, ↓WSr1 hw, ↓WSr2 hw, ↓WSr3 hw, ↓WSr4 hw, ↓WSg5 hw, ↓WSp5 hw, ↓WSg6 hw, ↓WSp6 hw, ↓WSr7 hw, ↓WSr8 hw, ↓WTo hw, ↓WTr0 hw, ↓WTg1 hw, ↓WTp1 hw, ↓WTg2 hw, ↓WTp2 hw, ↓WTg3 hw, ↓WTp3 hw, ↓WTr4 hw, ↓WMo hw, ↓WMg0 hw, ↓WMp0 hw, ↓WMr1 hw, ↓WMg2 hw, ↓WMp2 hw, ↓WMr3 hw, ↓WMr4 hw, ↓WMr5 hw, ↓WMg6 hw, ↓WMp6 hw, ↓WMr7 hw, ↓WMr8 hw, ↓WMg9 hw, ↓WMp9 hw, ↓WMg10 hw, ↓WMp10 hw, hc, ↓Lo0 hT70, ↓zcvX g0, ↓Lp0_7 hT70, ↓zciX (g4 D), hl]
          · obtain ⟨Gt, g0, g1⟩ := cpM D' V hD'
            obtain ⟨G7, l7, g2, g3, g4, g5⟩ := mdl Gt g1
            obtain ⟨v', g6⟩ := g5 D'
            refine ⟨G7, fun fuel hf => ?_⟩
            have heq : l7 = l := g4.2 hl
            match fuel, hf with
            | f + 1, _ =>
              rw [zlpS]
              unfold S_MD_leastSpeed_S1
              simp only [↓zjpE, ↓zletE, ↓zciE, ↓zcvE, ↓zchkE, ↓reduceIte, zciE, zcvE, nI_1, ↓WSo hw, ↓WSr0 hw, ↓WSr1 hw, ↓WSr2 hw, ↓WSr3 hw, ↓WSr4 hw, ↓WSg5 hw, ↓WSp5 hw, ↓WSg6 hw, ↓WSp6 hw, ↓WSr7 hw, ↓WSr8 hw, ↓WTo hw, ↓WTr0 hw, ↓WTg1 hw, ↓WTp1 hw, ↓WTg2 hw, ↓WTp2 hw, ↓WTg3 hw, ↓WTp3 hw, ↓WTr4 hw, ↓WMo hw, ↓WMg0 hw, ↓WMp0 hw, ↓WMr1 hw, ↓WMg2 hw, ↓WMp2 hw, ↓WMr3 hw, ↓WMr4 hw, ↓WMr5 hw, ↓WMg6 hw, ↓WMp6 hw, ↓WMr7 hw, ↓WMr8 hw, ↓WMg9 hw, ↓WMp9 hw, ↓WMg10 hw, ↓WMp10 hw, hc, ↓zcvX g0, ↓zciX (m_chg0 (D := D') (G := Gt) hbt), ↓zciX g6, ↓Mrc8 hbt, g2, heq, ↓zN_ hw (i := 8) (x := (8 : Int32)) (by decide) rfl hD', hN8]
        · obtain ⟨r, ihC, ihM⟩ := ih (v + 1) (by omega) (by omega)
          refine ⟨r, fun F0 hz0 => ?_, fun D' V hD' => ?_⟩
          · obtain ⟨Ft, g0, g1, g2⟩ := trialC (D := D) (F0 := F0) hw hz0
            rw [hF0] at g1
            obtain ⟨F7, g3, g4⟩ := cls Ft g1 g2
            obtain ⟨Ff, g5, g6⟩ := ihC F7 g3
            refine ⟨Ff, g5, fun fuel hf => ?_⟩
            match fuel, hf with
            | f + 1, hf =>
              rw [zlpS, ← g6 f (by omega)]
              unfold S_SF_leastSpeed_S1
              simp only [↓zjpE, ↓zletE, ↓zciE, ↓zcvE, ↓zchkE, ↓reduceIte, zciE, zcvE, nI_1, ↓WSo hw, ↓WSr0 hw, ↓WSr1 hw, ↓WSr2 hw, ↓WSr3 hw, ↓WSr4 hw, ↓WSg5 hw, ↓WSp5 hw, ↓WSg6 hw, ↓WSp6 hw, ↓WSr7 hw, ↓WSr8 hw, ↓WTo hw, ↓WTr0 hw, ↓WTg1 hw, ↓WTp1 hw, ↓WTg2 hw, ↓WTp2 hw, ↓WTg3 hw, ↓WTp3 hw, ↓WTr4 hw, ↓WMo hw, ↓WMg0 hw, ↓WMp0 hw, ↓WMr1 hw, ↓WMg2 hw, ↓WMp2 hw, ↓WMr3 hw, ↓WMr4 hw, ↓WMr5 hw, ↓WMg6 hw, ↓WMp6 hw, ↓WMr7 hw, ↓WMr8 hw, ↓WMg9 hw, ↓WMp9 hw, ↓WMg10 hw, ↓WMp10 hw, hc, ↓Lo0 hT70, ↓zcvX g0, ↓Lp0_7 hT70, ↓zciX (g4 D), hl, d10]
          · obtain ⟨Gt, g0, g1⟩ := cpM D' V hD'
            obtain ⟨G7, l7, g2, g3, g4, g5⟩ := mdl Gt g1
            obtain ⟨v', g6⟩ := g5 D'
            obtain ⟨Gf, g7⟩ := ihM D' G7 hD'
            refine ⟨Gf, fun fuel hf => ?_⟩
            have hne : ¬ nI l7 = nI l := by rw [nI_eq g3 l31, g4]; exact hl
            match fuel, hf with
            | f + 1, hf =>
              rw [zlpS, ← g7 f (by omega)]
              unfold S_MD_leastSpeed_S1
              simp only [↓zjpE, ↓zletE, ↓zciE, ↓zcvE, ↓zchkE, ↓reduceIte, zciE, zcvE, nI_1, ↓WSo hw, ↓WSr0 hw, ↓WSr1 hw, ↓WSr2 hw, ↓WSr3 hw, ↓WSr4 hw, ↓WSg5 hw, ↓WSp5 hw, ↓WSg6 hw, ↓WSp6 hw, ↓WSr7 hw, ↓WSr8 hw, ↓WTo hw, ↓WTr0 hw, ↓WTg1 hw, ↓WTp1 hw, ↓WTg2 hw, ↓WTp2 hw, ↓WTg3 hw, ↓WTp3 hw, ↓WTr4 hw, ↓WMo hw, ↓WMg0 hw, ↓WMp0 hw, ↓WMr1 hw, ↓WMg2 hw, ↓WMp2 hw, ↓WMr3 hw, ↓WMr4 hw, ↓WMr5 hw, ↓WMg6 hw, ↓WMp6 hw, ↓WMr7 hw, ↓WMr8 hw, ↓WMg9 hw, ↓WMp9 hw, ↓WMg10 hw, ↓WMp10 hw, hc, ↓zcvX g0, ↓zciX (m_chg0 (D := D') (G := Gt) hbt), ↓zciX g6, ↓Mrc8 hbt, g2, hne, ↓zN_ hw (i := 8) (x := (8 : Int32)) (by decide) rfl hD', hN8]
    obtain ⟨r, kC, kM⟩ := key 9 1 (by omega) (by omega)
    obtain ⟨Ff, y0, y1⟩ := kC (blk D (s + 70)) hI.2.2.1.1
    rw [show zblk D (s + 70) (blk D (s + 70)) = D from zblk_eta] at y1
    have e636 : zup (zblk D (s + 70) Ff) (s + 634) 0 0 (s + 636) = D (s + 636) := by rw [zup_ne (by omega), zblk_out (by omega)]
    obtain ⟨Gf, y2⟩ := kM (zup (zblk D (s + 70) Ff) (s + 634) 0 0) (dev (zup (zblk D (s + 70) Ff) (s + 634) 0 0 (s + 637))) e636
    rw [vec_dev, zset_eta] at y2
    refine ⟨.inl r, zblk D (s + 70) Ff, r, zset (zup (zblk D (s + 70) Ff) (s + 634) 0 0) (s + 637) (vec Gf), ?_, ?_, Inv_mo (Inv_trial hI y0) (by omega), Or.inl ⟨rfl, ?_⟩, fun q hq => by rw [zset_ne (by omega), zup_ne (by omega), zblk_out (by omega)], fun q hq => zblk_out (by omega)⟩
    · show f_SF_leastSpeed w D s _ = _
      rw [u_SF_leastSpeed]
      simp only [↓zjpE, ↓zletE, ↓zciE, ↓zcvE, ↓zchkE, ↓reduceIte, zciE, zcvE, nI_1, ↓zWi, ↓zI0_255, ↓zI0_9, ↓zI0_5, ↓zI0_1, ↓zI1_5, ↓zIm3_3, ↓zI1_20, ↓zIm40_40, ↓zIm30_30, ↓zIm2_2, ↓zI1_99, ↓zI0_1000, ↓zI1_3, ↓zI1_60, ↓zI1_9, ↓zInP, ↓zR0 hw, ↓zR1 hw, ↓zR2 hw, d10, zone, eq_true c1]
      exact y1 zfuel (by unfold zfuel; omega)
    · show f_MD_leastSpeed w _ (s + 634) _ = _
      rw [u_MD_leastSpeed]
      simp only [↓zjpE, ↓zletE, ↓zciE, ↓zcvE, ↓zchkE, ↓reduceIte, zciE, zcvE, nI_1, ↓zWi, ↓zI0_255, ↓zI0_9, ↓zI0_5, ↓zI0_1, ↓zI1_5, ↓zIm3_3, ↓zI1_20, ↓zIm40_40, ↓zIm30_30, ↓zIm2_2, ↓zI1_99, ↓zI0_1000, ↓zI1_3, ↓zI1_60, ↓zI1_9, ↓zInP, ↓zR0 hw, ↓zR1 hw, ↓zR2 hw, d10, zone, ↓WSo hw, ↓WSr0 hw, ↓WSr1 hw, ↓WSr2 hw, ↓WSr3 hw, ↓WSr4 hw, ↓WSg5 hw, ↓WSp5 hw, ↓WSg6 hw, ↓WSp6 hw, ↓WSr7 hw, ↓WSr8 hw, ↓WTo hw, ↓WTr0 hw, ↓WTg1 hw, ↓WTp1 hw, ↓WTg2 hw, ↓WTp2 hw, ↓WTg3 hw, ↓WTp3 hw, ↓WTr4 hw, ↓WMo hw, ↓WMg0 hw, ↓WMp0 hw, ↓WMr1 hw, ↓WMg2 hw, ↓WMp2 hw, ↓WMr3 hw, ↓WMr4 hw, ↓WMr5 hw, ↓WMg6 hw, ↓WMp6 hw, ↓WMr7 hw, ↓WMr8 hw, ↓WMg9 hw, ↓WMp9 hw, ↓WMg10 hw, ↓WMp10 hw, eq_true c1]
      exact y2 zfuel (by unfold zfuel; omega)
    · rw [zset_ne (by omega), zup_at]
  · refine Cl_q hI (by omega) (query2 hF0.symm hG0.symm (fun D => f_SF_leastSpeed w D s x) (fun D => f_MD_leastSpeed w D (s + 634) x) (A1 _) ⟨.inr "java/lang/IllegalArgumentException", 0, 1, fun D => ?_, fun D => ?_, Or.inr ⟨rfl, rfl⟩⟩)
    · rw [u_SF_leastSpeed]; simp (disch := omega) only [↓zjpE, ↓zletE, ↓zciE, ↓zcvE, ↓zchkE, ↓reduceIte, zciE, zcvE, nI_1, ↓Lo0 hL, Lo0 hL, ↓Lr0_0 hL, Lr0_0 hL, ↓Lr0_1 hL, Lr0_1 hL, ↓Lr0_2 hL, Lr0_2 hL, ↓Lr0_3 hL, Lr0_3 hL, ↓Lr0_4 hL, Lr0_4 hL, ↓Lg0_5 hL, Lg0_5 hL, ↓Lp0_5 hL, Lp0_5 hL, ↓Lg0_6 hL, Lg0_6 hL, ↓Lp0_6 hL, Lp0_6 hL, ↓Lg0_7 hL, Lg0_7 hL, ↓Lp0_7 hL, Lp0_7 hL, ↓Lg0_8 hL, Lg0_8 hL, ↓Lp0_8 hL, Lp0_8 hL, ↓Lo1 hL, Lo1 hL, ↓Lr1_0 hL, Lr1_0 hL, ↓Lr1_1 hL, Lr1_1 hL, ↓Lr1_2 hL, Lr1_2 hL, ↓Lr1_3 hL, Lr1_3 hL, ↓Lr1_4 hL, Lr1_4 hL, ↓Lr1_5 hL, Lr1_5 hL, ↓Lr1_6 hL, Lr1_6 hL, ↓Lg1_7 hL, Lg1_7 hL, ↓Lp1_7 hL, Lp1_7 hL, ↓Lo9 hL, Lo9 hL, ↓Lr9_0 hL, Lr9_0 hL, ↓Lr9_1 hL, Lr9_1 hL, ↓Lr9_2 hL, Lr9_2 hL, ↓Lr9_3 hL, Lr9_3 hL, ↓Lr9_4 hL, Lr9_4 hL, ↓Lr9_5 hL, Lr9_5 hL, ↓Lg9_6 hL, Lg9_6 hL, ↓Lp9_6 hL, Lp9_6 hL, ↓Lg9_7 hL, Lg9_7 hL, ↓Lp9_7 hL, Lp9_7 hL, ↓Lo16 hL, Lo16 hL, ↓Lr16_0 hL, Lr16_0 hL, ↓Lr16_1 hL, Lr16_1 hL, ↓Lg16_2 hL, Lg16_2 hL, ↓Lp16_2 hL, Lp16_2 hL, ↓Lo19 hL, Lo19 hL, ↓Lr19_0 hL, Lr19_0 hL, ↓Lr19_1 hL, Lr19_1 hL, ↓Lr19_2 hL, Lr19_2 hL, ↓Lr19_3 hL, Lr19_3 hL, ↓Lr19_4 hL, Lr19_4 hL, ↓Lr19_5 hL, Lr19_5 hL, ↓Lg19_6 hL, Lg19_6 hL, ↓Lp19_6 hL, Lp19_6 hL, ↓Lg19_7 hL, Lg19_7 hL, ↓Lp19_7 hL, Lp19_7 hL, ↓Lo26 hL, Lo26 hL, ↓Lr26_0 hL, Lr26_0 hL, ↓Lr26_1 hL, Lr26_1 hL, ↓Lr26_2 hL, Lr26_2 hL, ↓Lr26_3 hL, Lr26_3 hL, ↓Lr26_4 hL, Lr26_4 hL, ↓Lr26_5 hL, Lr26_5 hL, ↓Lg26_6 hL, Lg26_6 hL, ↓Lp26_6 hL, Lp26_6 hL, ↓Lg26_7 hL, Lg26_7 hL, ↓Lp26_7 hL, Lp26_7 hL, ↓Lg26_8 hL, Lg26_8 hL, ↓Lp26_8 hL, Lp26_8 hL, ↓La2 hL, La2 hL, ↓Ls2 hL, Ls2 hL, ↓La3 hL, La3 hL, ↓Ls3 hL, Ls3 hL, ↓La4 hL, La4 hL, ↓Ls4 hL, Ls4 hL, ↓La5 hL, La5 hL, ↓Ls5 hL, Ls5 hL, ↓La6 hL, La6 hL, ↓Ls6 hL, Ls6 hL, ↓La7 hL, La7 hL, ↓Ls7 hL, Ls7 hL, ↓La8 hL, La8 hL, ↓Ls8 hL, Ls8 hL, ↓La10 hL, La10 hL, ↓Ls10 hL, Ls10 hL, ↓La11 hL, La11 hL, ↓Ls11 hL, Ls11 hL, ↓La12 hL, La12 hL, ↓Ls12 hL, Ls12 hL, ↓La13 hL, La13 hL, ↓Ls13 hL, Ls13 hL, ↓La14 hL, La14 hL, ↓Ls14 hL, Ls14 hL, ↓La15 hL, La15 hL, ↓Ls15 hL, Ls15 hL, ↓La17 hL, La17 hL, ↓Ls17 hL, Ls17 hL, ↓La18 hL, La18 hL, ↓Ls18 hL, Ls18 hL, ↓La20 hL, La20 hL, ↓Ls20 hL, Ls20 hL, ↓La21 hL, La21 hL, ↓Ls21 hL, Ls21 hL, ↓La22 hL, La22 hL, ↓Ls22 hL, Ls22 hL, ↓La23 hL, La23 hL, ↓Ls23 hL, Ls23 hL, ↓La24 hL, La24 hL, ↓Ls24 hL, Ls24 hL, ↓La25 hL, La25 hL, ↓Ls25 hL, Ls25 hL, ↓La27 hL, La27 hL, ↓Ls27 hL, Ls27 hL, ↓La28 hL, La28 hL, ↓Ls28 hL, Ls28 hL, ↓La29 hL, La29 hL, ↓Ls29 hL, Ls29 hL, ↓La30 hL, La30 hL, ↓Ls30 hL, Ls30 hL, ↓La31 hL, La31 hL, ↓Ls31 hL, Ls31 hL, ↓La32 hL, La32 hL, ↓Ls32 hL, Ls32 hL, ↓WSo hw, ↓WSr0 hw, ↓WSr1 hw, ↓WSr2 hw, ↓WSr3 hw, ↓WSr4 hw, ↓WSg5 hw, ↓WSp5 hw, ↓WSg6 hw, ↓WSp6 hw, ↓WSr7 hw, ↓WSr8 hw, ↓WTo hw, ↓WTr0 hw, ↓WTg1 hw, ↓WTp1 hw, ↓WTg2 hw, ↓WTp2 hw, ↓WTg3 hw, ↓WTp3 hw, ↓WTr4 hw, ↓WMo hw, ↓WMg0 hw, ↓WMp0 hw, ↓WMr1 hw, ↓WMg2 hw, ↓WMp2 hw, ↓WMr3 hw, ↓WMr4 hw, ↓WMr5 hw, ↓WMg6 hw, ↓WMp6 hw, ↓WMr7 hw, ↓WMr8 hw, ↓WMg9 hw, ↓WMp9 hw, ↓WMg10 hw, ↓WMp10 hw, ↓zWi, ↓zI0_255, ↓zI0_9, ↓zI0_5, ↓zI0_1, ↓zI1_5, ↓zIm3_3, ↓zI1_20, ↓zIm40_40, ↓zIm30_30, ↓zIm2_2, ↓zI1_99, ↓zI0_1000, ↓zI1_3, ↓zI1_60, ↓zI1_9, ↓zInP, ↓zR0 hw, ↓zR1 hw, ↓zR2 hw, ↓zHS hL, ↓zHH hL, ↓zHW hL, ↓zHP hL, d10, zone, ↓zCen, ↓zPla, ↓zWay, ↓zSeC, ↓zSeM, true_and, and_true, false_and, and_false, r0_5 h1, r0_6 h1, r0_7 h1, r0_8 h1, r1_7 h1, r9_6 h1, r16_2 h1, r26_6 h1, r26_7 h1, r26_8 h1, r2 h1, r3 h1, r4 h1, r5 h1, r6 h1, r7 h1, r8 h1, r10 h1, r11 h1, r12 h1, r13 h1, r14 h1, r17 h1, r18 h1, r27 h1, r28 h1, r29 h1, r30 h1, r31 h1, r32 h1, n0, n2, n4, eq_false c1]
    · rw [u_MD_leastSpeed]; simp (disch := omega) only [↓zjpE, ↓zletE, ↓zciE, ↓zcvE, ↓zchkE, ↓reduceIte, zciE, zcvE, nI_1, ↓Mrc0 hb, ↓Mwc0 hb, ↓Mrc1 hb, ↓Mwc1 hb, ↓Mrc2 hb, ↓Mwc2 hb, ↓Mrc3 hb, ↓Mwc3 hb, ↓Mrc4 hb, ↓Mwc4 hb, ↓Mrc5 hb, ↓Mwc5 hb, ↓Mrc6 hb, ↓Mwc6 hb, ↓Mrc7 hb, ↓Mwc7 hb, ↓Mrc8 hb, ↓Mwc8 hb, ↓Mrc9 hb, ↓Mwc9 hb, ↓Mrc10 hb, ↓Mwc10 hb, ↓Mrs hb, ↓Mws hb, ↓Mrs0 hb, ↓Mws0 hb, ↓Mrs1 hb, ↓Mws1 hb, ↓Mrs2 hb, ↓Mws2 hb, ↓Mrs3 hb, ↓Mws3 hb, ↓Mrs4 hb, ↓Mws4 hb, ↓Mrs5 hb, ↓Mws5 hb, ↓Mrs6 hb, ↓Mws6 hb, ↓Mrh hb, ↓Mwh hb, ↓Mrh0 hb, ↓Mwh0 hb, ↓Mrh1 hb, ↓Mwh1 hb, ↓Mrh2 hb, ↓Mwh2 hb, ↓Mrh3 hb, ↓Mwh3 hb, ↓Mrh4 hb, ↓Mwh4 hb, ↓Mrw hb, ↓Mww hb, ↓Mrw0 hb, ↓Mww0 hb, ↓Mrw1 hb, ↓Mww1 hb, ↓Mre hb, ↓Mwe hb, ↓Mre0 hb, ↓Mwe0 hb, ↓Mre1 hb, ↓Mwe1 hb, ↓Mre2 hb, ↓Mwe2 hb, ↓Mre3 hb, ↓Mwe3 hb, ↓Mre4 hb, ↓Mwe4 hb, ↓Mre5 hb, ↓Mwe5 hb, ↓Mrp hb, ↓Mwp hb, ↓Mrp0 hb, ↓Mwp0 hb, ↓Mrp1 hb, ↓Mwp1 hb, ↓Mrp2 hb, ↓Mwp2 hb, ↓Mrp3 hb, ↓Mwp3 hb, ↓Mrp4 hb, ↓Mwp4 hb, ↓Mrp5 hb, ↓Mwp5 hb, ↓Mrk0 hb, ↓Mwk0 hb, ↓Mrk1 hb, ↓Mwk1 hb, ↓Mrx hb, ↓Mwx hb, ↓Mrx0 hb, ↓Mwx0 hb, ↓Mrx1 hb, ↓Mwx1 hb, ↓Mrx2 hb, ↓Mwx2 hb, ↓Mrx3 hb, ↓Mwx3 hb, ↓Mrx4 hb, ↓Mwx4 hb, ↓Mrx5 hb, ↓Mwx5 hb, ↓Mrt0 hb, ↓Mwt0 hb, ↓Mrt1 hb, ↓Mwt1 hb, ↓Mqs0 hb, ↓Mqs1 hb, ↓Mqs2 hb, ↓Mqs3 hb, ↓Mqs4 hb, ↓Mqs5 hb, ↓Mqs6 hb, ↓Mqh0 hb, ↓Mqh1 hb, ↓Mqh2 hb, ↓Mqh3 hb, ↓Mqh4 hb, ↓Mqp0 hb, ↓Mqp1 hb, ↓Mqp2 hb, ↓Mqp3 hb, ↓Mqp4 hb, ↓Mqp5 hb, ↓WSo hw, ↓WSr0 hw, ↓WSr1 hw, ↓WSr2 hw, ↓WSr3 hw, ↓WSr4 hw, ↓WSg5 hw, ↓WSp5 hw, ↓WSg6 hw, ↓WSp6 hw, ↓WSr7 hw, ↓WSr8 hw, ↓WTo hw, ↓WTr0 hw, ↓WTg1 hw, ↓WTp1 hw, ↓WTg2 hw, ↓WTp2 hw, ↓WTg3 hw, ↓WTp3 hw, ↓WTr4 hw, ↓WMo hw, ↓WMg0 hw, ↓WMp0 hw, ↓WMr1 hw, ↓WMg2 hw, ↓WMp2 hw, ↓WMr3 hw, ↓WMr4 hw, ↓WMr5 hw, ↓WMg6 hw, ↓WMp6 hw, ↓WMr7 hw, ↓WMr8 hw, ↓WMg9 hw, ↓WMp9 hw, ↓WMg10 hw, ↓WMp10 hw, ↓zWi, ↓zI0_255, ↓zI0_9, ↓zI0_5, ↓zI0_1, ↓zI1_5, ↓zIm3_3, ↓zI1_20, ↓zIm40_40, ↓zIm30_30, ↓zIm2_2, ↓zI1_99, ↓zI0_1000, ↓zI1_3, ↓zI1_60, ↓zI1_9, ↓zInP, ↓zR0 hw, ↓zR1 hw, ↓zR2 hw, ↓zHS hL, ↓zHH hL, ↓zHW hL, ↓zHP hL, d10, zone, ↓zCen, ↓zPla, ↓zWay, ↓zSeC, ↓zSeM, true_and, and_true, false_and, and_false, ↓zMiS hb n1 n0, ↓zMiH hb n3 n2, ↓zup_zs, n0, n2, n4, eq_false c1]
end P67
