/-! PURE: a script, on both sides. -/
section P68
variable {β : Type} {w : zW} {D : zD} {s T a b ns nh nw t te tp np d e l c n : Nat} {F G : Nat → Nat → Int32} {A : Prop}
theorem zInL {x L H : Int64} {k : Int32 → zD → Option β} : zci (f_MD_in w D x L H) k = if L ≤ x ∧ x ≤ H then k 1 D else k 0 D := by
  have d1 : ¬ (1 : Int32) = 0 := by decide
  unfold f_MD_in
  by_cases h1 : x < L
  · have : ¬ (L ≤ x ∧ x ≤ H) := fun h => by grind
    simp only [↓zjpE, ↓zletE, ↓zciE, ↓zcvE, ↓zchkE, ↓reduceIte, zciE, zcvE, nI_1, cmp_lt, h1, this, true_or]
  · by_cases h2 : H < x
    · have : ¬ (L ≤ x ∧ x ≤ H) := fun h => by grind
      simp only [↓zjpE, ↓zletE, ↓zciE, ↓zcvE, ↓zchkE, ↓reduceIte, zciE, zcvE, nI_1, cmp_lt, cmp_gt, h1, h2, this, true_or]
    · have : L ≤ x ∧ x ≤ H := by grind
      simp only [↓zjpE, ↓zletE, ↓zciE, ↓zcvE, ↓zchkE, ↓reduceIte, zciE, zcvE, nI_1, cmp_lt, cmp_gt, h1, h2, this, or_true, and_self]
theorem zPw (hw : WL w s) {j : Nat} (hj : j < 4) {k : Int64 → Option β} : zaldL w 5 w.2.2 (nI j) k = k (lN (100000 ^ j)) := by
  obtain ⟨-, -, -, -, -, h0, h1, h2, h3, h4⟩ := hw
  unfold zaldL
  rw [h0]
  simp only [true_and]
  rw [if_pos (nI_bnd hj (by decide)), nI_clamp (by omega)]
  have : j = 0 ∨ j = 1 ∨ j = 2 ∨ j = 3 := by omega
  rcases this with rfl | rfl | rfl | rfl
  · rw [h1]; rfl
  · rw [h2]; rfl
  · rw [h3]; rfl
  · rw [h4]; rfl
theorem p5 {j : Nat} (hj : j ≤ 3) : 0 < 100000 ^ j ∧ 100000 ^ j < 2 ^ 63 := by
  have : j = 0 ∨ j = 1 ∨ j = 2 ∨ j = 3 := by omega
  rcases this with rfl | rfl | rfl | rfl <;> decide
theorem grp {p : Nat} (hc : c < 2 ^ 63) (hp : 0 < p) (hp2 : p < 2 ^ 63) : (zlrem (lN c / lN p) (100000 : Int64)).toInt32 = nI (c / p % 100000) := by
  rw [pk_lDiv hc hp hp2]
  have h : zlrem (lN (c / p)) (lN 100000) = lN (c / p % 100000) := pk_lRem (by have := Nat.div_le_self c p; omega) (by decide) (by decide)
  rw [show (100000 : Int64) = lN 100000 from rfl, h, lN_i]
theorem ne0L {p : Nat} (hp : 0 < p) (hp2 : p < 2 ^ 63) : ¬ lN p = 0 := by
  rw [show (0 : Int64) = lN 0 from rfl, pk_lEQ hp2 (by decide)]; omega
theorem scr (hw : WL w s) (hn : n ≤ 3) (hc : c < 2 ^ 63) (hT : T + 1000 < 4000000) : ∀ m i F1 G1, i + m = n → RP F1 G1 (T + 99 * i) → ∃ v Ff Gf, (∀ j, j < 4 → Ff 15 j = 0) ∧ (∀ D fuel, m < fuel → zlp (fun (_ : Int32) (_ : zD) => none) (S_SF_runScript_S1 w s (nI n) (lN c)) fuel (nI i) (zblk D (s + 70) F1) = some (.inl v, zblk D (s + 70) Ff)) ∧ (∀ D fuel, m < fuel → zlp (fun (_ : Int64) (_ : Int32) (_ : zD) => none) (S_MD_runScript_S2 w (s + 634) (nI n) (lN c)) fuel (lN (100000 ^ (n - i))) (nI i) (zset D (s + 637) (vec G1)) = some (v, zset D (s + 637) (vec Gf))) := by
  intro m
  induction m with
  | zero =>
    intro i F1 G1 hi hR
    obtain rfl : i = n := by omega
    have hc2 : nI i ≤ nI i := nI_le (Nat.le_refl _) (by omega)
    refine ⟨-1, F1, G1, RP_Z hR, fun D fuel hf => ?_, fun D fuel hf => ?_⟩
    · match fuel, hf with
      | f + 1, _ =>
        rw [zlpS]
        unfold S_SF_runScript_S1
        simp only [hc2, ↓reduceIte]
    · match fuel, hf with
      | f + 1, _ =>
        rw [zlpS]
        unfold S_MD_runScript_S2
        simp only [hc2, ↓reduceIte]
  | succ m ih =>
    intro i F1 G1 hi hR
    have hc2 : ¬ nI n ≤ nI i := by rw [nI_leI (by omega) (by omega)]; omega
    obtain ⟨pw0, pw1⟩ := p5 (j := n - 1 - i) (by omega)
    have hg : c / 100000 ^ (n - 1 - i) % 100000 < 100000 := Nat.mod_lt _ (by decide)
    obtain ⟨F2, G2, v, hR2, hv, y1, y2⟩ := cmd hw hR (by omega) hg
    have ix : nI n - (1 : Int32) - nI i = nI (n - 1 - i) := by
      rw [show (1 : Int32) = nI 1 from rfl, pk_sub (by omega), pk_sub (by omega)]
    have e1 : (1 : Int32) = nI 1 := rfl
    have hgr := grp hc pw0 pw1
    have n1 := ne0L pw0 pw1
    have n2 : ¬ lN (100000 ^ 1) = 0 := ne0L (by decide) (by decide)
    have hdiv : lN (100000 ^ (n - i)) / (100000 : Int64) = lN (100000 ^ (n - 1 - i)) := by
      rw [show (100000 : Int64) = lN 100000 from rfl, pk_lDiv (p5 (by omega)).2 (by decide) (by decide)]
      congr 1
      rw [show n - i = (n - 1 - i) + 1 by omega, Nat.pow_succ, Nat.mul_div_cancel _ (by decide)]
    have d1 : nI (c / 100000 ^ (n - 1 - i) % 100000) / (10000 : Int32) = nI (c / 100000 ^ (n - 1 - i) % 100000 / 10000) := dl10000 (by omega)
    have d2 : zirem (nI (c / 100000 ^ (n - 1 - i) % 100000)) (10000 : Int32) = nI (c / 100000 ^ (n - 1 - i) % 100000 % 10000) := rl10000 (by omega)
    have hk : ∀ {β : Type} {k : Int64 → Option β}, zaldL w 5 w.2.2 (1 : Int32) k = k (100000 : Int64) := fun {β} {k} => zPw hw (j := 1) (by decide)
    have n3 : ¬ (100000 : Int64) = 0 := n2
    rcases hv with rfl | rfl
    · refine ⟨nI i, F2, G2, RP_Z hR2, fun D fuel hf => ?_, fun D fuel hf => ?_⟩
      · match fuel, hf with
        | f + 1, _ =>
          rw [zlpS]
          unfold S_SF_runScript_S1
          simp (disch := omega) only [↓zjpE, ↓zletE, ↓zciE, ↓zcvE, ↓zchkE, ↓reduceIte, zciE, zcvE, nI_1, ↓WSo hw, ↓WSr0 hw, ↓WSr1 hw, ↓WSr2 hw, ↓WSr3 hw, ↓WSr4 hw, ↓WSg5 hw, ↓WSp5 hw, ↓WSg6 hw, ↓WSp6 hw, ↓WSr7 hw, ↓WSr8 hw, ↓WTo hw, ↓WTr0 hw, ↓WTg1 hw, ↓WTp1 hw, ↓WTg2 hw, ↓WTp2 hw, ↓WTg3 hw, ↓WTp3 hw, ↓WTr4 hw, ↓WMo hw, ↓WMg0 hw, ↓WMp0 hw, ↓WMr1 hw, ↓WMg2 hw, ↓WMp2 hw, ↓WMr3 hw, ↓WMr4 hw, ↓WMr5 hw, ↓WMg6 hw, ↓WMp6 hw, ↓WMr7 hw, ↓WMr8 hw, ↓WMg9 hw, ↓WMp9 hw, ↓WMg10 hw, ↓WMp10 hw, hc2, ix, ↓zPw hw (j := n - 1 - i) (by omega), hk, n1, n3, not_false_eq_true, hgr, ↓zciX (y1 D)]
      · match fuel, hf with
        | f + 1, _ =>
          rw [zlpS]
          unfold S_MD_runScript_S2
          simp (disch := omega) only [↓zjpE, ↓zletE, ↓zciE, ↓zcvE, ↓zchkE, ↓reduceIte, zciE, zcvE, nI_1, ↓WSo hw, ↓WSr0 hw, ↓WSr1 hw, ↓WSr2 hw, ↓WSr3 hw, ↓WSr4 hw, ↓WSg5 hw, ↓WSp5 hw, ↓WSg6 hw, ↓WSp6 hw, ↓WSr7 hw, ↓WSr8 hw, ↓WTo hw, ↓WTr0 hw, ↓WTg1 hw, ↓WTp1 hw, ↓WTg2 hw, ↓WTp2 hw, ↓WTg3 hw, ↓WTp3 hw, ↓WTr4 hw, ↓WMo hw, ↓WMg0 hw, ↓WMp0 hw, ↓WMr1 hw, ↓WMg2 hw, ↓WMp2 hw, ↓WMr3 hw, ↓WMr4 hw, ↓WMr5 hw, ↓WMg6 hw, ↓WMp6 hw, ↓WMr7 hw, ↓WMr8 hw, ↓WMg9 hw, ↓WMp9 hw, ↓WMg10 hw, ↓WMp10 hw, hc2, hdiv, n1, not_false_eq_true, hgr, d1, d2, ↓zciX (y2 D)]
    · obtain ⟨v, Ff, Gf, z0, z1, z2⟩ := ih (i + 1) F2 G2 (by omega) (by rw [show T + 99 * (i + 1) = T + 99 * i + 99 by omega]; exact hR2)
      refine ⟨v, Ff, Gf, z0, fun D fuel hf => ?_, fun D fuel hf => ?_⟩
      · match fuel, hf with
        | f + 1, hf =>
          rw [zlpS, ← z1 D f (by omega)]
          unfold S_SF_runScript_S1
          simp (disch := omega) only [↓zjpE, ↓zletE, ↓zciE, ↓zcvE, ↓zchkE, ↓reduceIte, zciE, zcvE, nI_1, ↓WSo hw, ↓WSr0 hw, ↓WSr1 hw, ↓WSr2 hw, ↓WSr3 hw, ↓WSr4 hw, ↓WSg5 hw, ↓WSp5 hw, ↓WSg6 hw, ↓WSp6 hw, ↓WSr7 hw, ↓WSr8 hw, ↓WTo hw, ↓WTr0 hw, ↓WTg1 hw, ↓WTp1 hw, ↓WTg2 hw, ↓WTp2 hw, ↓WTg3 hw, ↓WTp3 hw, ↓WTr4 hw, ↓WMo hw, ↓WMg0 hw, ↓WMp0 hw, ↓WMr1 hw, ↓WMg2 hw, ↓WMp2 hw, ↓WMr3 hw, ↓WMr4 hw, ↓WMr5 hw, ↓WMg6 hw, ↓WMp6 hw, ↓WMr7 hw, ↓WMr8 hw, ↓WMg9 hw, ↓WMp9 hw, ↓WMg10 hw, ↓WMp10 hw, hc2, ix, ↓zPw hw (j := n - 1 - i) (by omega), hk, n1, n3, not_false_eq_true, hgr, ↓zciX (y1 D), d10]
      · match fuel, hf with
        | f + 1, hf =>
          rw [zlpS, ← z2 D f (by omega)]
          unfold S_MD_runScript_S2
          simp (disch := omega) only [↓zjpE, ↓zletE, ↓zciE, ↓zcvE, ↓zchkE, ↓reduceIte, zciE, zcvE, nI_1, ↓WSo hw, ↓WSr0 hw, ↓WSr1 hw, ↓WSr2 hw, ↓WSr3 hw, ↓WSr4 hw, ↓WSg5 hw, ↓WSp5 hw, ↓WSg6 hw, ↓WSp6 hw, ↓WSr7 hw, ↓WSr8 hw, ↓WTo hw, ↓WTr0 hw, ↓WTg1 hw, ↓WTp1 hw, ↓WTg2 hw, ↓WTp2 hw, ↓WTg3 hw, ↓WTp3 hw, ↓WTr4 hw, ↓WMo hw, ↓WMg0 hw, ↓WMp0 hw, ↓WMr1 hw, ↓WMg2 hw, ↓WMp2 hw, ↓WMr3 hw, ↓WMr4 hw, ↓WMr5 hw, ↓WMg6 hw, ↓WMp6 hw, ↓WMr7 hw, ↓WMr8 hw, ↓WMg9 hw, ↓WMp9 hw, ↓WMg10 hw, ↓WMp10 hw, hc2, hdiv, n1, not_false_eq_true, hgr, d1, d2, ↓zciX (y2 D), d10, show n - (i + 1) = n - 1 - i by omega]
theorem zfS {γ : Type} {b : γ} {f : γ → γ} : zlp b f zfuel = f (zlp b f 7999) := rfl
theorem zf1 {γ : Type} {b : γ} {f : γ → γ} : zlp b f 7999 = f (zlp b f 7998) := rfl
theorem zf2 {γ : Type} {b : γ} {f : γ → γ} : zlp b f 7998 = f (zlp b f 7997) := rfl
theorem zf3 {γ : Type} {b : γ} {f : γ → γ} : zlp b f 7997 = f (zlp b f 7996) := rfl
theorem mp1 (hw : WL w s) {x : Int64} {D : zD} : f_MD_runScript w D (s + 634) (nI 1) x = if (0 : Int64) ≤ x ∧ x ≤ lN (100000 ^ 1) - 1 then zcv (f_MD_copyState w (zup D (s + 634) 0 0) (s + 636) 0 (s + 637) 0) (fun D5 => zlp (fun (_ : Int64) (_ : Int32) (_ : zD) => none) (S_MD_runScript_S2 w (s + 634) (nI 1) x) zfuel (lN (100000 ^ 1)) 0 D5) else some (0, zup D (s + 634) 0 1) := by
  have hp : ((1 : Int64) * (100000 : Int64)) = lN (100000 ^ 1) := by decide
  rw [u_MD_runScript]
  simp only [↓zjpE]
  rw [zfS]
  show S_MD_runScript_S1 _ _ _ _ _ _ _ _ = _
  rw [show ∀ j l D, S_MD_runScript_S1 w (s + 634) (nI 1) x j l (0 : Int32) D = j (l * (100000 : Int64)) (1 : Int32) D from fun j l D => by unfold S_MD_runScript_S1; simp only [↓zjpE, ↓zletE, ↓zciE, ↓zcvE, ↓zchkE, ↓reduceIte, zciE, zcvE, nI_1, show (nI 1 ≤ (0 : Int32)) = False from eq_false (by decide), show (nI 1 ≤ (1 : Int32)) = True from eq_true (by decide), show (nI 1 ≤ (2 : Int32)) = True from eq_true (by decide), show (nI 1 ≤ (3 : Int32)) = True from eq_true (by decide), show ((3 : Int32) ≤ (0 : Int32)) = False from eq_false (by decide), show ((0 : Int32) + 1) = (1 : Int32) from by decide, show ((3 : Int32) ≤ (1 : Int32)) = False from eq_false (by decide), show ((1 : Int32) + 1) = (2 : Int32) from by decide, show ((3 : Int32) ≤ (2 : Int32)) = False from eq_false (by decide), show ((2 : Int32) + 1) = (3 : Int32) from by decide, show ((3 : Int32) ≤ (3 : Int32)) = True from eq_true (by decide), show ((3 : Int32) + 1) = (4 : Int32) from by decide, show ((1 : Int32) ≤ nI 1 ∧ nI 1 ≤ (3 : Int32)) = True from eq_true (by decide)]]
  rw [zf1]
  unfold S_MD_runScript_S1
  simp only [↓zjpE, ↓zletE, ↓zciE, ↓zcvE, ↓zchkE, ↓reduceIte, zciE, zcvE, nI_1, ↓WSo hw, ↓WSr0 hw, ↓WSr1 hw, ↓WSr2 hw, ↓WSr3 hw, ↓WSr4 hw, ↓WSg5 hw, ↓WSp5 hw, ↓WSg6 hw, ↓WSp6 hw, ↓WSr7 hw, ↓WSr8 hw, ↓WTo hw, ↓WTr0 hw, ↓WTg1 hw, ↓WTp1 hw, ↓WTg2 hw, ↓WTp2 hw, ↓WTg3 hw, ↓WTp3 hw, ↓WTr4 hw, ↓WMo hw, ↓WMg0 hw, ↓WMp0 hw, ↓WMr1 hw, ↓WMg2 hw, ↓WMp2 hw, ↓WMr3 hw, ↓WMr4 hw, ↓WMr5 hw, ↓WMg6 hw, ↓WMp6 hw, ↓WMr7 hw, ↓WMr8 hw, ↓WMg9 hw, ↓WMp9 hw, ↓WMg10 hw, ↓WMp10 hw, ↓zWi, ↓zI0_255, ↓zI0_9, ↓zI0_5, ↓zI0_1, ↓zI1_5, ↓zIm3_3, ↓zI1_20, ↓zIm40_40, ↓zIm30_30, ↓zIm2_2, ↓zI1_99, ↓zI0_1000, ↓zI1_3, ↓zI1_60, ↓zI1_9, ↓zInP, ↓zR0 hw, ↓zR1 hw, ↓zR2 hw, d10, zone, ↓zInL, show (nI 1 ≤ (0 : Int32)) = False from eq_false (by decide), show (nI 1 ≤ (1 : Int32)) = True from eq_true (by decide), show (nI 1 ≤ (2 : Int32)) = True from eq_true (by decide), show (nI 1 ≤ (3 : Int32)) = True from eq_true (by decide), show ((3 : Int32) ≤ (0 : Int32)) = False from eq_false (by decide), show ((0 : Int32) + 1) = (1 : Int32) from by decide, show ((3 : Int32) ≤ (1 : Int32)) = False from eq_false (by decide), show ((1 : Int32) + 1) = (2 : Int32) from by decide, show ((3 : Int32) ≤ (2 : Int32)) = False from eq_false (by decide), show ((2 : Int32) + 1) = (3 : Int32) from by decide, show ((3 : Int32) ≤ (3 : Int32)) = True from eq_true (by decide), show ((3 : Int32) + 1) = (4 : Int32) from by decide, show ((1 : Int32) ≤ nI 1 ∧ nI 1 ≤ (3 : Int32)) = True from eq_true (by decide), hp]
  by_cases h : (0 : Int64) ≤ x ∧ x ≤ lN (100000 ^ 1) - 1
  · simp only [↓zjpE, ↓zletE, ↓zciE, ↓zcvE, ↓zchkE, ↓reduceIte, zciE, zcvE, nI_1, ↓WSo hw, ↓WSr0 hw, ↓WSr1 hw, ↓WSr2 hw, ↓WSr3 hw, ↓WSr4 hw, ↓WSg5 hw, ↓WSp5 hw, ↓WSg6 hw, ↓WSp6 hw, ↓WSr7 hw, ↓WSr8 hw, ↓WTo hw, ↓WTr0 hw, ↓WTg1 hw, ↓WTp1 hw, ↓WTg2 hw, ↓WTp2 hw, ↓WTg3 hw, ↓WTp3 hw, ↓WTr4 hw, ↓WMo hw, ↓WMg0 hw, ↓WMp0 hw, ↓WMr1 hw, ↓WMg2 hw, ↓WMp2 hw, ↓WMr3 hw, ↓WMr4 hw, ↓WMr5 hw, ↓WMg6 hw, ↓WMp6 hw, ↓WMr7 hw, ↓WMr8 hw, ↓WMg9 hw, ↓WMp9 hw, ↓WMg10 hw, ↓WMp10 hw, ↓zWi, ↓zI0_255, ↓zI0_9, ↓zI0_5, ↓zI0_1, ↓zI1_5, ↓zIm3_3, ↓zI1_20, ↓zIm40_40, ↓zIm30_30, ↓zIm2_2, ↓zI1_99, ↓zI0_1000, ↓zI1_3, ↓zI1_60, ↓zI1_9, ↓zInP, ↓zR0 hw, ↓zR1 hw, ↓zR2 hw, d10, zone, eq_true h, show ((1 : Int64) ≤ (nI 1).toInt64 ∧ (nI 1).toInt64 ≤ (3 : Int64)) = True from eq_true (by decide)]
  · simp only [↓zjpE, ↓zletE, ↓zciE, ↓zcvE, ↓zchkE, ↓reduceIte, zciE, zcvE, nI_1, ↓WSo hw, ↓WSr0 hw, ↓WSr1 hw, ↓WSr2 hw, ↓WSr3 hw, ↓WSr4 hw, ↓WSg5 hw, ↓WSp5 hw, ↓WSg6 hw, ↓WSp6 hw, ↓WSr7 hw, ↓WSr8 hw, ↓WTo hw, ↓WTr0 hw, ↓WTg1 hw, ↓WTp1 hw, ↓WTg2 hw, ↓WTp2 hw, ↓WTg3 hw, ↓WTp3 hw, ↓WTr4 hw, ↓WMo hw, ↓WMg0 hw, ↓WMp0 hw, ↓WMr1 hw, ↓WMg2 hw, ↓WMp2 hw, ↓WMr3 hw, ↓WMr4 hw, ↓WMr5 hw, ↓WMg6 hw, ↓WMp6 hw, ↓WMr7 hw, ↓WMr8 hw, ↓WMg9 hw, ↓WMp9 hw, ↓WMg10 hw, ↓WMp10 hw, ↓zWi, ↓zI0_255, ↓zI0_9, ↓zI0_5, ↓zI0_1, ↓zI1_5, ↓zIm3_3, ↓zI1_20, ↓zIm40_40, ↓zIm30_30, ↓zIm2_2, ↓zI1_99, ↓zI0_1000, ↓zI1_3, ↓zI1_60, ↓zI1_9, ↓zInP, ↓zR0 hw, ↓zR1 hw, ↓zR2 hw, d10, zone, eq_false h, show ((1 : Int64) ≤ (nI 1).toInt64 ∧ (nI 1).toInt64 ≤ (3 : Int64)) = True from eq_true (by decide)]
theorem mp2 (hw : WL w s) {x : Int64} {D : zD} : f_MD_runScript w D (s + 634) (nI 2) x = if (0 : Int64) ≤ x ∧ x ≤ lN (100000 ^ 2) - 1 then zcv (f_MD_copyState w (zup D (s + 634) 0 0) (s + 636) 0 (s + 637) 0) (fun D5 => zlp (fun (_ : Int64) (_ : Int32) (_ : zD) => none) (S_MD_runScript_S2 w (s + 634) (nI 2) x) zfuel (lN (100000 ^ 2)) 0 D5) else some (0, zup D (s + 634) 0 1) := by
  have hp : (((1 : Int64) * (100000 : Int64)) * (100000 : Int64)) = lN (100000 ^ 2) := by decide
  rw [u_MD_runScript]
  simp only [↓zjpE]
  rw [zfS]
  show S_MD_runScript_S1 _ _ _ _ _ _ _ _ = _
  rw [show ∀ j l D, S_MD_runScript_S1 w (s + 634) (nI 2) x j l (0 : Int32) D = j (l * (100000 : Int64)) (1 : Int32) D from fun j l D => by unfold S_MD_runScript_S1; simp only [↓zjpE, ↓zletE, ↓zciE, ↓zcvE, ↓zchkE, ↓reduceIte, zciE, zcvE, nI_1, show (nI 2 ≤ (0 : Int32)) = False from eq_false (by decide), show (nI 2 ≤ (1 : Int32)) = False from eq_false (by decide), show (nI 2 ≤ (2 : Int32)) = True from eq_true (by decide), show (nI 2 ≤ (3 : Int32)) = True from eq_true (by decide), show ((3 : Int32) ≤ (0 : Int32)) = False from eq_false (by decide), show ((0 : Int32) + 1) = (1 : Int32) from by decide, show ((3 : Int32) ≤ (1 : Int32)) = False from eq_false (by decide), show ((1 : Int32) + 1) = (2 : Int32) from by decide, show ((3 : Int32) ≤ (2 : Int32)) = False from eq_false (by decide), show ((2 : Int32) + 1) = (3 : Int32) from by decide, show ((3 : Int32) ≤ (3 : Int32)) = True from eq_true (by decide), show ((3 : Int32) + 1) = (4 : Int32) from by decide, show ((1 : Int32) ≤ nI 2 ∧ nI 2 ≤ (3 : Int32)) = True from eq_true (by decide)]]
  rw [zf1]
  rw [show ∀ j l D, S_MD_runScript_S1 w (s + 634) (nI 2) x j l (1 : Int32) D = j (l * (100000 : Int64)) (2 : Int32) D from fun j l D => by unfold S_MD_runScript_S1; simp only [↓zjpE, ↓zletE, ↓zciE, ↓zcvE, ↓zchkE, ↓reduceIte, zciE, zcvE, nI_1, show (nI 2 ≤ (0 : Int32)) = False from eq_false (by decide), show (nI 2 ≤ (1 : Int32)) = False from eq_false (by decide), show (nI 2 ≤ (2 : Int32)) = True from eq_true (by decide), show (nI 2 ≤ (3 : Int32)) = True from eq_true (by decide), show ((3 : Int32) ≤ (0 : Int32)) = False from eq_false (by decide), show ((0 : Int32) + 1) = (1 : Int32) from by decide, show ((3 : Int32) ≤ (1 : Int32)) = False from eq_false (by decide), show ((1 : Int32) + 1) = (2 : Int32) from by decide, show ((3 : Int32) ≤ (2 : Int32)) = False from eq_false (by decide), show ((2 : Int32) + 1) = (3 : Int32) from by decide, show ((3 : Int32) ≤ (3 : Int32)) = True from eq_true (by decide), show ((3 : Int32) + 1) = (4 : Int32) from by decide, show ((1 : Int32) ≤ nI 2 ∧ nI 2 ≤ (3 : Int32)) = True from eq_true (by decide)]]
  rw [zf2]
  unfold S_MD_runScript_S1
  simp only [↓zjpE, ↓zletE, ↓zciE, ↓zcvE, ↓zchkE, ↓reduceIte, zciE, zcvE, nI_1, ↓WSo hw, ↓WSr0 hw, ↓WSr1 hw, ↓WSr2 hw, ↓WSr3 hw, ↓WSr4 hw, ↓WSg5 hw, ↓WSp5 hw, ↓WSg6 hw, ↓WSp6 hw, ↓WSr7 hw, ↓WSr8 hw, ↓WTo hw, ↓WTr0 hw, ↓WTg1 hw, ↓WTp1 hw, ↓WTg2 hw, ↓WTp2 hw, ↓WTg3 hw, ↓WTp3 hw, ↓WTr4 hw, ↓WMo hw, ↓WMg0 hw, ↓WMp0 hw, ↓WMr1 hw, ↓WMg2 hw, ↓WMp2 hw, ↓WMr3 hw, ↓WMr4 hw, ↓WMr5 hw, ↓WMg6 hw, ↓WMp6 hw, ↓WMr7 hw, ↓WMr8 hw, ↓WMg9 hw, ↓WMp9 hw, ↓WMg10 hw, ↓WMp10 hw, ↓zWi, ↓zI0_255, ↓zI0_9, ↓zI0_5, ↓zI0_1, ↓zI1_5, ↓zIm3_3, ↓zI1_20, ↓zIm40_40, ↓zIm30_30, ↓zIm2_2, ↓zI1_99, ↓zI0_1000, ↓zI1_3, ↓zI1_60, ↓zI1_9, ↓zInP, ↓zR0 hw, ↓zR1 hw, ↓zR2 hw, d10, zone, ↓zInL, show (nI 2 ≤ (0 : Int32)) = False from eq_false (by decide), show (nI 2 ≤ (1 : Int32)) = False from eq_false (by decide), show (nI 2 ≤ (2 : Int32)) = True from eq_true (by decide), show (nI 2 ≤ (3 : Int32)) = True from eq_true (by decide), show ((3 : Int32) ≤ (0 : Int32)) = False from eq_false (by decide), show ((0 : Int32) + 1) = (1 : Int32) from by decide, show ((3 : Int32) ≤ (1 : Int32)) = False from eq_false (by decide), show ((1 : Int32) + 1) = (2 : Int32) from by decide, show ((3 : Int32) ≤ (2 : Int32)) = False from eq_false (by decide), show ((2 : Int32) + 1) = (3 : Int32) from by decide, show ((3 : Int32) ≤ (3 : Int32)) = True from eq_true (by decide), show ((3 : Int32) + 1) = (4 : Int32) from by decide, show ((1 : Int32) ≤ nI 2 ∧ nI 2 ≤ (3 : Int32)) = True from eq_true (by decide), hp]
  by_cases h : (0 : Int64) ≤ x ∧ x ≤ lN (100000 ^ 2) - 1
  · simp only [↓zjpE, ↓zletE, ↓zciE, ↓zcvE, ↓zchkE, ↓reduceIte, zciE, zcvE, nI_1, ↓WSo hw, ↓WSr0 hw, ↓WSr1 hw, ↓WSr2 hw, ↓WSr3 hw, ↓WSr4 hw, ↓WSg5 hw, ↓WSp5 hw, ↓WSg6 hw, ↓WSp6 hw, ↓WSr7 hw, ↓WSr8 hw, ↓WTo hw, ↓WTr0 hw, ↓WTg1 hw, ↓WTp1 hw, ↓WTg2 hw, ↓WTp2 hw, ↓WTg3 hw, ↓WTp3 hw, ↓WTr4 hw, ↓WMo hw, ↓WMg0 hw, ↓WMp0 hw, ↓WMr1 hw, ↓WMg2 hw, ↓WMp2 hw, ↓WMr3 hw, ↓WMr4 hw, ↓WMr5 hw, ↓WMg6 hw, ↓WMp6 hw, ↓WMr7 hw, ↓WMr8 hw, ↓WMg9 hw, ↓WMp9 hw, ↓WMg10 hw, ↓WMp10 hw, ↓zWi, ↓zI0_255, ↓zI0_9, ↓zI0_5, ↓zI0_1, ↓zI1_5, ↓zIm3_3, ↓zI1_20, ↓zIm40_40, ↓zIm30_30, ↓zIm2_2, ↓zI1_99, ↓zI0_1000, ↓zI1_3, ↓zI1_60, ↓zI1_9, ↓zInP, ↓zR0 hw, ↓zR1 hw, ↓zR2 hw, d10, zone, eq_true h, show ((1 : Int64) ≤ (nI 2).toInt64 ∧ (nI 2).toInt64 ≤ (3 : Int64)) = True from eq_true (by decide)]
  · simp only [↓zjpE, ↓zletE, ↓zciE, ↓zcvE, ↓zchkE, ↓reduceIte, zciE, zcvE, nI_1, ↓WSo hw, ↓WSr0 hw, ↓WSr1 hw, ↓WSr2 hw, ↓WSr3 hw, ↓WSr4 hw, ↓WSg5 hw, ↓WSp5 hw, ↓WSg6 hw, ↓WSp6 hw, ↓WSr7 hw, ↓WSr8 hw, ↓WTo hw, ↓WTr0 hw, ↓WTg1 hw, ↓WTp1 hw, ↓WTg2 hw, ↓WTp2 hw, ↓WTg3 hw, ↓WTp3 hw, ↓WTr4 hw, ↓WMo hw, ↓WMg0 hw, ↓WMp0 hw, ↓WMr1 hw, ↓WMg2 hw, ↓WMp2 hw, ↓WMr3 hw, ↓WMr4 hw, ↓WMr5 hw, ↓WMg6 hw, ↓WMp6 hw, ↓WMr7 hw, ↓WMr8 hw, ↓WMg9 hw, ↓WMp9 hw, ↓WMg10 hw, ↓WMp10 hw, ↓zWi, ↓zI0_255, ↓zI0_9, ↓zI0_5, ↓zI0_1, ↓zI1_5, ↓zIm3_3, ↓zI1_20, ↓zIm40_40, ↓zIm30_30, ↓zIm2_2, ↓zI1_99, ↓zI0_1000, ↓zI1_3, ↓zI1_60, ↓zI1_9, ↓zInP, ↓zR0 hw, ↓zR1 hw, ↓zR2 hw, d10, zone, eq_false h, show ((1 : Int64) ≤ (nI 2).toInt64 ∧ (nI 2).toInt64 ≤ (3 : Int64)) = True from eq_true (by decide)]
theorem mp3 (hw : WL w s) {x : Int64} {D : zD} : f_MD_runScript w D (s + 634) (nI 3) x = if (0 : Int64) ≤ x ∧ x ≤ lN (100000 ^ 3) - 1 then zcv (f_MD_copyState w (zup D (s + 634) 0 0) (s + 636) 0 (s + 637) 0) (fun D5 => zlp (fun (_ : Int64) (_ : Int32) (_ : zD) => none) (S_MD_runScript_S2 w (s + 634) (nI 3) x) zfuel (lN (100000 ^ 3)) 0 D5) else some (0, zup D (s + 634) 0 1) := by
  have hp : ((((1 : Int64) * (100000 : Int64)) * (100000 : Int64)) * (100000 : Int64)) = lN (100000 ^ 3) := by decide
  rw [u_MD_runScript]
  simp only [↓zjpE]
  rw [zfS]
  show S_MD_runScript_S1 _ _ _ _ _ _ _ _ = _
  rw [show ∀ j l D, S_MD_runScript_S1 w (s + 634) (nI 3) x j l (0 : Int32) D = j (l * (100000 : Int64)) (1 : Int32) D from fun j l D => by unfold S_MD_runScript_S1; simp only [↓zjpE, ↓zletE, ↓zciE, ↓zcvE, ↓zchkE, ↓reduceIte, zciE, zcvE, nI_1, show (nI 3 ≤ (0 : Int32)) = False from eq_false (by decide), show (nI 3 ≤ (1 : Int32)) = False from eq_false (by decide), show (nI 3 ≤ (2 : Int32)) = False from eq_false (by decide), show (nI 3 ≤ (3 : Int32)) = True from eq_true (by decide), show ((3 : Int32) ≤ (0 : Int32)) = False from eq_false (by decide), show ((0 : Int32) + 1) = (1 : Int32) from by decide, show ((3 : Int32) ≤ (1 : Int32)) = False from eq_false (by decide), show ((1 : Int32) + 1) = (2 : Int32) from by decide, show ((3 : Int32) ≤ (2 : Int32)) = False from eq_false (by decide), show ((2 : Int32) + 1) = (3 : Int32) from by decide, show ((3 : Int32) ≤ (3 : Int32)) = True from eq_true (by decide), show ((3 : Int32) + 1) = (4 : Int32) from by decide, show ((1 : Int32) ≤ nI 3 ∧ nI 3 ≤ (3 : Int32)) = True from eq_true (by decide)]]
  rw [zf1]
  rw [show ∀ j l D, S_MD_runScript_S1 w (s + 634) (nI 3) x j l (1 : Int32) D = j (l * (100000 : Int64)) (2 : Int32) D from fun j l D => by unfold S_MD_runScript_S1; simp only [↓zjpE, ↓zletE, ↓zciE, ↓zcvE, ↓zchkE, ↓reduceIte, zciE, zcvE, nI_1, show (nI 3 ≤ (0 : Int32)) = False from eq_false (by decide), show (nI 3 ≤ (1 : Int32)) = False from eq_false (by decide), show (nI 3 ≤ (2 : Int32)) = False from eq_false (by decide), show (nI 3 ≤ (3 : Int32)) = True from eq_true (by decide), show ((3 : Int32) ≤ (0 : Int32)) = False from eq_false (by decide), show ((0 : Int32) + 1) = (1 : Int32) from by decide, show ((3 : Int32) ≤ (1 : Int32)) = False from eq_false (by decide), show ((1 : Int32) + 1) = (2 : Int32) from by decide, show ((3 : Int32) ≤ (2 : Int32)) = False from eq_false (by decide), show ((2 : Int32) + 1) = (3 : Int32) from by decide, show ((3 : Int32) ≤ (3 : Int32)) = True from eq_true (by decide), show ((3 : Int32) + 1) = (4 : Int32) from by decide, show ((1 : Int32) ≤ nI 3 ∧ nI 3 ≤ (3 : Int32)) = True from eq_true (by decide)]]
  rw [zf2]
  rw [show ∀ j l D, S_MD_runScript_S1 w (s + 634) (nI 3) x j l (2 : Int32) D = j (l * (100000 : Int64)) (3 : Int32) D from fun j l D => by unfold S_MD_runScript_S1; simp only [↓zjpE, ↓zletE, ↓zciE, ↓zcvE, ↓zchkE, ↓reduceIte, zciE, zcvE, nI_1, show (nI 3 ≤ (0 : Int32)) = False from eq_false (by decide), show (nI 3 ≤ (1 : Int32)) = False from eq_false (by decide), show (nI 3 ≤ (2 : Int32)) = False from eq_false (by decide), show (nI 3 ≤ (3 : Int32)) = True from eq_true (by decide), show ((3 : Int32) ≤ (0 : Int32)) = False from eq_false (by decide), show ((0 : Int32) + 1) = (1 : Int32) from by decide, show ((3 : Int32) ≤ (1 : Int32)) = False from eq_false (by decide), show ((1 : Int32) + 1) = (2 : Int32) from by decide, show ((3 : Int32) ≤ (2 : Int32)) = False from eq_false (by decide), show ((2 : Int32) + 1) = (3 : Int32) from by decide, show ((3 : Int32) ≤ (3 : Int32)) = True from eq_true (by decide), show ((3 : Int32) + 1) = (4 : Int32) from by decide, show ((1 : Int32) ≤ nI 3 ∧ nI 3 ≤ (3 : Int32)) = True from eq_true (by decide)]]
  rw [zf3]
  unfold S_MD_runScript_S1
  simp only [↓zjpE, ↓zletE, ↓zciE, ↓zcvE, ↓zchkE, ↓reduceIte, zciE, zcvE, nI_1, ↓WSo hw, ↓WSr0 hw, ↓WSr1 hw, ↓WSr2 hw, ↓WSr3 hw, ↓WSr4 hw, ↓WSg5 hw, ↓WSp5 hw, ↓WSg6 hw, ↓WSp6 hw, ↓WSr7 hw, ↓WSr8 hw, ↓WTo hw, ↓WTr0 hw, ↓WTg1 hw, ↓WTp1 hw, ↓WTg2 hw, ↓WTp2 hw, ↓WTg3 hw, ↓WTp3 hw, ↓WTr4 hw, ↓WMo hw, ↓WMg0 hw, ↓WMp0 hw, ↓WMr1 hw, ↓WMg2 hw, ↓WMp2 hw, ↓WMr3 hw, ↓WMr4 hw, ↓WMr5 hw, ↓WMg6 hw, ↓WMp6 hw, ↓WMr7 hw, ↓WMr8 hw, ↓WMg9 hw, ↓WMp9 hw, ↓WMg10 hw, ↓WMp10 hw, ↓zWi, ↓zI0_255, ↓zI0_9, ↓zI0_5, ↓zI0_1, ↓zI1_5, ↓zIm3_3, ↓zI1_20, ↓zIm40_40, ↓zIm30_30, ↓zIm2_2, ↓zI1_99, ↓zI0_1000, ↓zI1_3, ↓zI1_60, ↓zI1_9, ↓zInP, ↓zR0 hw, ↓zR1 hw, ↓zR2 hw, d10, zone, ↓zInL, show (nI 3 ≤ (0 : Int32)) = False from eq_false (by decide), show (nI 3 ≤ (1 : Int32)) = False from eq_false (by decide), show (nI 3 ≤ (2 : Int32)) = False from eq_false (by decide), show (nI 3 ≤ (3 : Int32)) = True from eq_true (by decide), show ((3 : Int32) ≤ (0 : Int32)) = False from eq_false (by decide), show ((0 : Int32) + 1) = (1 : Int32) from by decide, show ((3 : Int32) ≤ (1 : Int32)) = False from eq_false (by decide), show ((1 : Int32) + 1) = (2 : Int32) from by decide, show ((3 : Int32) ≤ (2 : Int32)) = False from eq_false (by decide), show ((2 : Int32) + 1) = (3 : Int32) from by decide, show ((3 : Int32) ≤ (3 : Int32)) = True from eq_true (by decide), show ((3 : Int32) + 1) = (4 : Int32) from by decide, show ((1 : Int32) ≤ nI 3 ∧ nI 3 ≤ (3 : Int32)) = True from eq_true (by decide), hp]
  by_cases h : (0 : Int64) ≤ x ∧ x ≤ lN (100000 ^ 3) - 1
  · simp only [↓zjpE, ↓zletE, ↓zciE, ↓zcvE, ↓zchkE, ↓reduceIte, zciE, zcvE, nI_1, ↓WSo hw, ↓WSr0 hw, ↓WSr1 hw, ↓WSr2 hw, ↓WSr3 hw, ↓WSr4 hw, ↓WSg5 hw, ↓WSp5 hw, ↓WSg6 hw, ↓WSp6 hw, ↓WSr7 hw, ↓WSr8 hw, ↓WTo hw, ↓WTr0 hw, ↓WTg1 hw, ↓WTp1 hw, ↓WTg2 hw, ↓WTp2 hw, ↓WTg3 hw, ↓WTp3 hw, ↓WTr4 hw, ↓WMo hw, ↓WMg0 hw, ↓WMp0 hw, ↓WMr1 hw, ↓WMg2 hw, ↓WMp2 hw, ↓WMr3 hw, ↓WMr4 hw, ↓WMr5 hw, ↓WMg6 hw, ↓WMp6 hw, ↓WMr7 hw, ↓WMr8 hw, ↓WMg9 hw, ↓WMp9 hw, ↓WMg10 hw, ↓WMp10 hw, ↓zWi, ↓zI0_255, ↓zI0_9, ↓zI0_5, ↓zI0_1, ↓zI1_5, ↓zIm3_3, ↓zI1_20, ↓zIm40_40, ↓zIm30_30, ↓zIm2_2, ↓zI1_99, ↓zI0_1000, ↓zI1_3, ↓zI1_60, ↓zI1_9, ↓zInP, ↓zR0 hw, ↓zR1 hw, ↓zR2 hw, d10, zone, eq_true h, show ((1 : Int64) ≤ (nI 3).toInt64 ∧ (nI 3).toInt64 ≤ (3 : Int64)) = True from eq_true (by decide)]
  · simp only [↓zjpE, ↓zletE, ↓zciE, ↓zcvE, ↓zchkE, ↓reduceIte, zciE, zcvE, nI_1, ↓WSo hw, ↓WSr0 hw, ↓WSr1 hw, ↓WSr2 hw, ↓WSr3 hw, ↓WSr4 hw, ↓WSg5 hw, ↓WSp5 hw, ↓WSg6 hw, ↓WSp6 hw, ↓WSr7 hw, ↓WSr8 hw, ↓WTo hw, ↓WTr0 hw, ↓WTg1 hw, ↓WTp1 hw, ↓WTg2 hw, ↓WTp2 hw, ↓WTg3 hw, ↓WTp3 hw, ↓WTr4 hw, ↓WMo hw, ↓WMg0 hw, ↓WMp0 hw, ↓WMr1 hw, ↓WMg2 hw, ↓WMp2 hw, ↓WMr3 hw, ↓WMr4 hw, ↓WMr5 hw, ↓WMg6 hw, ↓WMp6 hw, ↓WMr7 hw, ↓WMr8 hw, ↓WMg9 hw, ↓WMp9 hw, ↓WMg10 hw, ↓WMp10 hw, ↓zWi, ↓zI0_255, ↓zI0_9, ↓zI0_5, ↓zI0_1, ↓zI1_5, ↓zIm3_3, ↓zI1_20, ↓zIm40_40, ↓zIm30_30, ↓zIm2_2, ↓zI1_99, ↓zI0_1000, ↓zI1_3, ↓zI1_60, ↓zI1_9, ↓zInP, ↓zR0 hw, ↓zR1 hw, ↓zR2 hw, d10, zone, eq_false h, show ((1 : Int64) ≤ (nI 3).toInt64 ∧ (nI 3).toInt64 ≤ (3 : Int64)) = True from eq_true (by decide)]
theorem mpX (hw : WL w s) {x : Int64} {y : Int32} (hy : ¬ ((1 : Int32) ≤ y ∧ y ≤ 3)) {D : zD} : f_MD_runScript w D (s + 634) y x = some (0, zup D (s + 634) 0 1) := by
  have hA : ∀ j l (k : Int32) D, (y ≤ k ∨ (3 : Int32) ≤ k) → S_MD_runScript_S1 w (s + 634) y x j l k D = some (0, zup D (s + 634) 0 1) := fun j l k D hk => by
    unfold S_MD_runScript_S1
    by_cases h1 : y ≤ k
    · simp only [↓zjpE, ↓zletE, ↓zciE, ↓zcvE, ↓zchkE, ↓reduceIte, zciE, zcvE, nI_1, ↓WSo hw, ↓WSr0 hw, ↓WSr1 hw, ↓WSr2 hw, ↓WSr3 hw, ↓WSr4 hw, ↓WSg5 hw, ↓WSp5 hw, ↓WSg6 hw, ↓WSp6 hw, ↓WSr7 hw, ↓WSr8 hw, ↓WTo hw, ↓WTr0 hw, ↓WTg1 hw, ↓WTp1 hw, ↓WTg2 hw, ↓WTp2 hw, ↓WTg3 hw, ↓WTp3 hw, ↓WTr4 hw, ↓WMo hw, ↓WMg0 hw, ↓WMp0 hw, ↓WMr1 hw, ↓WMg2 hw, ↓WMp2 hw, ↓WMr3 hw, ↓WMr4 hw, ↓WMr5 hw, ↓WMg6 hw, ↓WMp6 hw, ↓WMr7 hw, ↓WMr8 hw, ↓WMg9 hw, ↓WMp9 hw, ↓WMg10 hw, ↓WMp10 hw, ↓zWi, ↓zI0_255, ↓zI0_9, ↓zI0_5, ↓zI0_1, ↓zI1_5, ↓zIm3_3, ↓zI1_20, ↓zIm40_40, ↓zIm30_30, ↓zIm2_2, ↓zI1_99, ↓zI0_1000, ↓zI1_3, ↓zI1_60, ↓zI1_9, ↓zInP, ↓zR0 hw, ↓zR1 hw, ↓zR2 hw, d10, zone, h1, eq_false hy]
    · have h3 : (3 : Int32) ≤ k := hk.resolve_left h1
      simp only [↓zjpE, ↓zletE, ↓zciE, ↓zcvE, ↓zchkE, ↓reduceIte, zciE, zcvE, nI_1, ↓WSo hw, ↓WSr0 hw, ↓WSr1 hw, ↓WSr2 hw, ↓WSr3 hw, ↓WSr4 hw, ↓WSg5 hw, ↓WSp5 hw, ↓WSg6 hw, ↓WSp6 hw, ↓WSr7 hw, ↓WSr8 hw, ↓WTo hw, ↓WTr0 hw, ↓WTg1 hw, ↓WTp1 hw, ↓WTg2 hw, ↓WTp2 hw, ↓WTg3 hw, ↓WTp3 hw, ↓WTr4 hw, ↓WMo hw, ↓WMg0 hw, ↓WMp0 hw, ↓WMr1 hw, ↓WMg2 hw, ↓WMp2 hw, ↓WMr3 hw, ↓WMr4 hw, ↓WMr5 hw, ↓WMg6 hw, ↓WMp6 hw, ↓WMr7 hw, ↓WMr8 hw, ↓WMg9 hw, ↓WMp9 hw, ↓WMg10 hw, ↓WMp10 hw, ↓zWi, ↓zI0_255, ↓zI0_9, ↓zI0_5, ↓zI0_1, ↓zI1_5, ↓zIm3_3, ↓zI1_20, ↓zIm40_40, ↓zIm30_30, ↓zIm2_2, ↓zI1_99, ↓zI0_1000, ↓zI1_3, ↓zI1_60, ↓zI1_9, ↓zInP, ↓zR0 hw, ↓zR1 hw, ↓zR2 hw, d10, zone, h1, h3, eq_false hy]
  have hB : ∀ j l (k : Int32) D, ¬ y ≤ k → ¬ (3 : Int32) ≤ k → S_MD_runScript_S1 w (s + 634) y x j l k D = j (l * (100000 : Int64)) (k + 1) D := fun j l k D h1 h2 => by
    unfold S_MD_runScript_S1
    simp only [↓zjpE, ↓zletE, ↓zciE, ↓zcvE, ↓zchkE, ↓reduceIte, zciE, zcvE, nI_1, h1, h2]
  rw [u_MD_runScript]
  simp only [↓zjpE]
  by_cases h0 : y ≤ 0
  · rw [zfS, hA _ _ _ _ (Or.inl h0)]
  · have h1 : ¬ y ≤ 3 := fun h => hy ⟨by grind, h⟩
    have h1a : ¬ y ≤ 1 := by grind
    have h1b : ¬ y ≤ 2 := by grind
    rw [zfS, hB _ _ _ _ h0 (by decide), zf1, show (0 : Int32) + 1 = 1 from by decide, hB _ _ _ _ h1a (by decide), zf2, show (1 : Int32) + 1 = 2 from by decide, hB _ _ _ _ h1b (by decide), zf3, show (2 : Int32) + 1 = 3 from by decide, hA _ _ _ _ (Or.inr (by decide))]
theorem k_runScript (hw : WL w s) (hI : Inv D s T) (hT : T + 1000 < 4000000) {y : Int32} {x : Int64} : Cl D s (T + 99) (fun D => f_SF_runScript w D s y x) (fun D => f_MD_runScript w D (s + 634) y x) (A1 "java/lang/IllegalArgumentException") := by
  obtain ⟨ns, nh, nw, np, d, e, l, t, hR, ht⟩ := hI.1
  generalize hF0 : blk D (s + 4) = F at hR
  generalize hG0 : dev (D (s + 636)) = G at hR
  have hRR := hR
  obtain ⟨h1, ⟨p, q1, q2, q3, q4, q5, q6⟩, hz, hB, ⟨n0, n1, n2, n3, n4, n5, n6, n7⟩, hS, hH, hW, hC, hP, hE, hK, hA⟩ := hR
  have hL := WL4 hw
  have hb := Wn hw
  have hF1 : F 1 7 = nI ns := (r1_7 h1).trans n0
  have hF9 : F 9 6 = nI nh := (r9_6 h1).trans n2
  have hF16 : F 16 2 = nI nw := (r16_2 h1).trans n4
  have hT70 := WL70 hw
  by_cases c1 : (1 : Int32) ≤ y ∧ y ≤ 3
  · obtain ⟨n, hn, rfl⟩ := zI_of (x := y) 3 (Int32.le_trans (by decide) c1.1) c1.2 (by decide)
    have hn1 : 1 ≤ n := by
      have := c1.1
      rw [zl 1, nI_leI (by decide) (by omega)] at this
      exact this
    have mp : ∀ D, f_MD_runScript w D (s + 634) (nI n) x = if (0 : Int64) ≤ x ∧ x ≤ lN (100000 ^ n) - 1 then zcv (f_MD_copyState w (zup D (s + 634) 0 0) (s + 636) 0 (s + 637) 0) (fun D5 => zlp (fun (_ : Int64) (_ : Int32) (_ : zD) => none) (S_MD_runScript_S2 w (s + 634) (nI n) x) zfuel (lN (100000 ^ n)) 0 D5) else some (0, zup D (s + 634) 0 1) := fun D => by
      have : n = 1 ∨ n = 2 ∨ n = 3 := by omega
      rcases this with rfl | rfl | rfl
      · exact mp1 hw
      · exact mp2 hw
      · exact mp3 hw
    obtain ⟨pw0, pw1⟩ := p5 hn
    have bad : ¬ ((0 : Int64) ≤ x ∧ x ≤ lN (100000 ^ n) - 1) → (x < 0 ∨ (¬ x < 0 ∧ ¬ x < lN (100000 ^ n))) → Cl D s (T + 99) (fun D => f_SF_runScript w D s (nI n) x) (fun D => f_MD_runScript w D (s + 634) (nI n) x) (A1 "java/lang/IllegalArgumentException") := fun h1 h2 => by
      refine Cl_q hI (by omega) ⟨.inr "java/lang/IllegalArgumentException", 0, 1, ?_, ?_, Or.inr ⟨rfl, rfl⟩⟩
      · rw [u_SF_runScript]
        rcases h2 with h2 | ⟨h2, h3⟩
        · simp only [↓zjpE, ↓zletE, ↓zciE, ↓zcvE, ↓zchkE, ↓reduceIte, zciE, zcvE, nI_1, ↓zWi, ↓zI0_255, ↓zI0_9, ↓zI0_5, ↓zI0_1, ↓zI1_5, ↓zIm3_3, ↓zI1_20, ↓zIm40_40, ↓zIm30_30, ↓zIm2_2, ↓zI1_99, ↓zI0_1000, ↓zI1_3, ↓zI1_60, ↓zI1_9, ↓zInP, ↓zR0 hw, ↓zR1 hw, ↓zR2 hw, d10, zone, eq_true c1, cmp_lt, h2]
        · simp only [↓zjpE, ↓zletE, ↓zciE, ↓zcvE, ↓zchkE, ↓reduceIte, zciE, zcvE, nI_1, ↓zWi, ↓zI0_255, ↓zI0_9, ↓zI0_5, ↓zI0_1, ↓zI1_5, ↓zIm3_3, ↓zI1_20, ↓zIm40_40, ↓zIm30_30, ↓zIm2_2, ↓zI1_99, ↓zI0_1000, ↓zI1_3, ↓zI1_60, ↓zI1_9, ↓zInP, ↓zR0 hw, ↓zR1 hw, ↓zR2 hw, d10, zone, eq_true c1, cmp_lt, h2, ↓zPw hw (show n < 4 by omega), h3]
      · rw [mp, if_neg h1]
    by_cases h0 : x < 0
    · exact bad (fun h => by grind) (Or.inl h0)
    · obtain ⟨c, hc, rfl⟩ := pk_lOf h0
      by_cases h1 : c < 100000 ^ n
      · have h2 : lN c < lN (100000 ^ n) := (pk_lLT hc pw1).2 h1
        have h3 : (0 : Int64) ≤ lN c ∧ lN c ≤ lN (100000 ^ n) - 1 := by
          refine ⟨by grind, ?_⟩
          rw [show (1 : Int64) = lN 1 from rfl, lN_sub (by omega), pk_lLE hc (by omega)]; omega
        have stC : ∀ D, f_SF_runScript w D s (nI n) (lN c) = zcv (f_Field_copyFrom w D (s + 70) (s + 4)) (fun D5 => zlp (fun (_ : Int32) (_ : zD) => none) (S_SF_runScript_S1 w s (nI n) (lN c)) zfuel 0 D5) := fun D => by
          rw [u_SF_runScript]
          simp only [↓zjpE, ↓zletE, ↓zciE, ↓zcvE, ↓zchkE, ↓reduceIte, zciE, zcvE, nI_1, ↓zWi, ↓zI0_255, ↓zI0_9, ↓zI0_5, ↓zI0_1, ↓zI1_5, ↓zIm3_3, ↓zI1_20, ↓zIm40_40, ↓zIm30_30, ↓zIm2_2, ↓zI1_99, ↓zI0_1000, ↓zI1_3, ↓zI1_60, ↓zI1_9, ↓zInP, ↓zR0 hw, ↓zR1 hw, ↓zR2 hw, d10, zone, ↓WSo hw, ↓WSr0 hw, ↓WSr1 hw, ↓WSr2 hw, ↓WSr3 hw, ↓WSr4 hw, ↓WSg5 hw, ↓WSp5 hw, ↓WSg6 hw, ↓WSp6 hw, ↓WSr7 hw, ↓WSr8 hw, ↓WTo hw, ↓WTr0 hw, ↓WTg1 hw, ↓WTp1 hw, ↓WTg2 hw, ↓WTp2 hw, ↓WTg3 hw, ↓WTp3 hw, ↓WTr4 hw, ↓WMo hw, ↓WMg0 hw, ↓WMp0 hw, ↓WMr1 hw, ↓WMg2 hw, ↓WMp2 hw, ↓WMr3 hw, ↓WMr4 hw, ↓WMr5 hw, ↓WMg6 hw, ↓WMp6 hw, ↓WMr7 hw, ↓WMr8 hw, ↓WMg9 hw, ↓WMp9 hw, ↓WMg10 hw, ↓WMp10 hw, eq_true c1, cmp_lt, h0, ↓zPw hw (show n < 4 by omega), h2, ↓Lo0 hT70]
        have stM : ∀ D, f_MD_runScript w D (s + 634) (nI n) (lN c) = zcv (f_MD_copyState w (zup D (s + 634) 0 0) (s + 636) 0 (s + 637) 0) (fun D5 => zlp (fun (_ : Int64) (_ : Int32) (_ : zD) => none) (S_MD_runScript_S2 w (s + 634) (nI n) (lN c)) zfuel (lN (100000 ^ n)) 0 D5) := fun D => by
          rw [mp, if_pos h3]
        refine Exists.elim (trial hw hI ht (by rw [hF0, hG0]; exact hRR) (fun D5 => zlp (fun (_ : Int32) (_ : zD) => none) (S_SF_runScript_S1 w s (nI n) (lN c)) zfuel 0 D5) (fun D5 => zlp (fun (_ : Int64) (_ : Int32) (_ : zD) => none) (S_MD_runScript_S2 w (s + 634) (nI n) (lN c)) zfuel (lN (100000 ^ n)) 0 D5) (A1 "java/lang/IllegalArgumentException") ?_) ?_
        rotate_left
        · rintro r ⟨D1, v, D2, a1, a2, a3, a4, a5, a6, a7⟩
          exact ⟨r, D1, v, D2, (stC D).trans a1, (stM D1).trans a2, Inv_mo a4 (by omega), a5, a6, a7⟩
        · intro Ft Gt hRt hGt
          obtain ⟨v, Ff, Gf, y0, y1, y2⟩ := scr hw hn hc hT n 0 Ft Gt (by omega) ⟨ns, nh, nw, np, d, e, l, t, hRt, by omega⟩
          exact ⟨.inl v, v, Ff, Gf, y0, fun D => y1 D zfuel (by unfold zfuel; omega), fun D' _ => y2 D' zfuel (by unfold zfuel; omega), Or.inl ⟨rfl, rfl⟩⟩
      · have h2 : ¬ lN c < lN (100000 ^ n) := fun h => h1 ((pk_lLT hc pw1).1 h)
        refine bad (fun h => ?_) (Or.inr ⟨h0, h2⟩)
        have := h.2
        rw [show (1 : Int64) = lN 1 from rfl, lN_sub (by omega), pk_lLE hc (by omega)] at this
        omega
  · refine Cl_q hI (by omega) ⟨.inr "java/lang/IllegalArgumentException", 0, 1, ?_, mpX hw c1, Or.inr ⟨rfl, rfl⟩⟩
    rw [u_SF_runScript]
    simp only [↓zjpE, ↓zletE, ↓zciE, ↓zcvE, ↓zchkE, ↓reduceIte, zciE, zcvE, nI_1, ↓zWi, ↓zI0_255, ↓zI0_9, ↓zI0_5, ↓zI0_1, ↓zI1_5, ↓zIm3_3, ↓zI1_20, ↓zIm40_40, ↓zIm30_30, ↓zIm2_2, ↓zI1_99, ↓zI0_1000, ↓zI1_3, ↓zI1_60, ↓zI1_9, ↓zInP, ↓zR0 hw, ↓zR1 hw, ↓zR2 hw, d10, zone, eq_false c1]
end P68
