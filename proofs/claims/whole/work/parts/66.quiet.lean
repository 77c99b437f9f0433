/-! PURE: when a siren is heard, when all is quiet. -/
section P66
variable {β : Type} {w : zW} {D : zD} {s T a b ns nh nw t te tp np d e l c : Nat} {F G : Nat → Nat → Int32} {A : Prop}
theorem zlpS {γ : Type} {b : γ} {f : γ → γ} {n : Nat} : zlp b f (n + 1) = f (zlp b f n) := rfl
theorem ci27 {k : Nat} (hk : k < 16) : ci (27, k) = 65 + 6 * k := by
  have h := co_e (k := k) (m := 0) hk (by decide)
  have h2 := ci_co (65 + 6 * k + 0)
  rw [h] at h2
  exact h2
theorem k_heardIn (hw : WL w s) (hI : Inv D s T) (hT : T + 1000 < 4000000) {x y : Int32} : Cl D s (T + 99) (fun D => f_SF_heardIn w D s x y) (fun D => f_MD_heardIn w D (s + 634) x y) (A1 "java/lang/IndexOutOfBoundsException") := by
  obtain ⟨ns, nh, nw, np, d, e, l, t, hR, ht⟩ := hI.1
  generalize hF0 : blk D (s + 4) = F at hR
  generalize hG0 : dev (D (s + 636)) = G at hR
  have hRR := hR
  obtain ⟨h1, ⟨p, q1, q2, q3, q4, q5, q6⟩, hz, hB, ⟨n0, n1, n2, n3, n4, n5, n6, n7⟩, hS, hH, hW, hC, hP, hE, hK, hA⟩ := hR
  have hL := WL4 hw
  have hb := Wn hw
  have hF1 : F 1 7 = nI ns := (r1_7 h1).trans n0
  have hF9 : F 9 6 = nI nh := (r9_6 h1).trans n2
  have hF16 : F 16 2 = nI nw := (r16_2 h1).trans n4
  have hT70 := WL70 hw
  by_cases c1 : 0 ≤ x ∧ x < nI nh
  · by_cases c2 : 0 ≤ y ∧ y < nI ns
    · obtain ⟨h, hh, rfl⟩ := nI_has c1 (by omega)
      obtain ⟨q, hq, rfl⟩ := nI_has c2 (by omega)
      have stC : ∀ D, f_SF_heardIn w (zblk D (s + 4) F) s (nI h) (nI q) = zcv (f_Field_copyFrom w (zblk D (s + 4) F) (s + 70) (s + 4)) (fun D5 => zald w D5 0 (s + 70 + 27) (nI (4 * h + q)) (fun v20 => zlp (fun (_ : Int32) (_ : Int32) (_ : Int32) (_ : zD) => none) (S_SF_heardIn_S1 w s (nI h) (nI q)) zfuel (nI (4 * h + q)) v20 1 D5)) := fun D => by
        rw [u_SF_heardIn]; simp (disch := omega) only [↓zjpE, ↓zletE, ↓zciE, ↓zcvE, ↓zchkE, ↓reduceIte, zciE, zcvE, nI_1, ↓Lo0 hL, Lo0 hL, ↓Lr0_0 hL, Lr0_0 hL, ↓Lr0_1 hL, Lr0_1 hL, ↓Lr0_2 hL, Lr0_2 hL, ↓Lr0_3 hL, Lr0_3 hL, ↓Lr0_4 hL, Lr0_4 hL, ↓Lg0_5 hL, Lg0_5 hL, ↓Lp0_5 hL, Lp0_5 hL, ↓Lg0_6 hL, Lg0_6 hL, ↓Lp0_6 hL, Lp0_6 hL, ↓Lg0_7 hL, Lg0_7 hL, ↓Lp0_7 hL, Lp0_7 hL, ↓Lg0_8 hL, Lg0_8 hL, ↓Lp0_8 hL, Lp0_8 hL, ↓Lo1 hL, Lo1 hL, ↓Lr1_0 hL, Lr1_0 hL, ↓Lr1_1 hL, Lr1_1 hL, ↓Lr1_2 hL, Lr1_2 hL, ↓Lr1_3 hL, Lr1_3 hL, ↓Lr1_4 hL, Lr1_4 hL, ↓Lr1_5 hL, Lr1_5 hL, ↓Lr1_6 hL, Lr1_6 hL, ↓Lg1_7 hL, Lg1_7 hL, ↓Lp1_7 hL, Lp1_7 hL, ↓Lo9 hL, Lo9 hL, ↓Lr9_0 hL, Lr9_0 hL, ↓Lr9_1 hL, Lr9_1 hL, ↓Lr9_2 hL, Lr9_2 hL, ↓Lr9_3 hL, Lr9_3 hL, ↓Lr9_4 hL, Lr9_4 hL, ↓Lr9_5 hL, Lr9_5 hL, ↓Lg9_6 hL, Lg9_6 hL, ↓Lp9_6 hL, Lp9_6 hL, ↓Lg9_7 hL, Lg9_7 hL, ↓Lp9_7 hL, Lp9_7 hL, ↓Lo16 hL, Lo16 hL, ↓Lr16_0 hL, Lr16_0 hL, ↓Lr16_1 hL, Lr16_1 hL, ↓Lg16_2 hL, Lg16_2 hL, ↓Lp16_2 hL, Lp16_2 hL, ↓Lo19 hL, Lo19 hL, ↓Lr19_0 hL, Lr19_0 hL, ↓Lr19_1 hL, Lr19_1 hL, ↓Lr19_2 hL, Lr19_2 hL, ↓Lr19_3 hL, Lr19_3 hL, ↓Lr19_4 hL, Lr19_4 hL, ↓Lr19_5 hL, Lr19_5 hL, ↓Lg19_6 hL, Lg19_6 hL, ↓Lp19_6 hL, Lp19_6 hL, ↓Lg19_7 hL, Lg19_7 hL, ↓Lp19_7 hL, Lp19_7 hL, ↓Lo26 hL, Lo26 hL, ↓Lr26_0 hL, Lr26_0 hL, ↓Lr26_1 hL, Lr26_1 hL, ↓Lr26_2 hL, Lr26_2 hL, ↓Lr26_3 hL, Lr26_3 hL, ↓Lr26_4 hL, Lr26_4 hL, ↓Lr26_5 hL, Lr26_5 hL, ↓Lg26_6 hL, Lg26_6 hL, ↓Lp26_6 hL, Lp26_6 hL, ↓Lg26_7 hL, Lg26_7 hL, ↓Lp26_7 hL, Lp26_7 hL, ↓Lg26_8 hL, Lg26_8 hL, ↓Lp26_8 hL, Lp26_8 hL, ↓La2 hL, La2 hL, ↓Ls2 hL, Ls2 hL, ↓La3 hL, La3 hL, ↓Ls3 hL, Ls3 hL, ↓La4 hL, La4 hL, ↓Ls4 hL, Ls4 hL, ↓La5 hL, La5 hL, ↓Ls5 hL, Ls5 hL, ↓La6 hL, La6 hL, ↓Ls6 hL, Ls6 hL, ↓La7 hL, La7 hL, ↓Ls7 hL, Ls7 hL, ↓La8 hL, La8 hL, ↓Ls8 hL, Ls8 hL, ↓La10 hL, La10 hL, ↓Ls10 hL, Ls10 hL, ↓La11 hL, La11 hL, ↓Ls11 hL, Ls11 hL, ↓La12 hL, La12 hL, ↓Ls12 hL, Ls12 hL, ↓La13 hL, La13 hL, ↓Ls13 hL, Ls13 hL, ↓La14 hL, La14 hL, ↓Ls14 hL, Ls14 hL, ↓La15 hL, La15 hL, ↓Ls15 hL, Ls15 hL, ↓La17 hL, La17 hL, ↓Ls17 hL, Ls17 hL, ↓La18 hL, La18 hL, ↓Ls18 hL, Ls18 hL, ↓La20 hL, La20 hL, ↓Ls20 hL, Ls20 hL, ↓La21 hL, La21 hL, ↓Ls21 hL, Ls21 hL, ↓La22 hL, La22 hL, ↓Ls22 hL, Ls22 hL, ↓La23 hL, La23 hL, ↓Ls23 hL, Ls23 hL, ↓La24 hL, La24 hL, ↓Ls24 hL, Ls24 hL, ↓La25 hL, La25 hL, ↓Ls25 hL, Ls25 hL, ↓La27 hL, La27 hL, ↓Ls27 hL, Ls27 hL, ↓La28 hL, La28 hL, ↓Ls28 hL, Ls28 hL, ↓La29 hL, La29 hL, ↓Ls29 hL, Ls29 hL, ↓La30 hL, La30 hL, ↓Ls30 hL, Ls30 hL, ↓La31 hL, La31 hL, ↓Ls31 hL, Ls31 hL, ↓La32 hL, La32 hL, ↓Ls32 hL, Ls32 hL, ↓WSo hw, ↓WSr0 hw, ↓WSr1 hw, ↓WSr2 hw, ↓WSr3 hw, ↓WSr4 hw, ↓WSg5 hw, ↓WSp5 hw, ↓WSg6 hw, ↓WSp6 hw, ↓WSr7 hw, ↓WSr8 hw, ↓WTo hw, ↓WTr0 hw, ↓WTg1 hw, ↓WTp1 hw, ↓WTg2 hw, ↓WTp2 hw, ↓WTg3 hw, ↓WTp3 hw, ↓WTr4 hw, ↓WMo hw, ↓WMg0 hw, ↓WMp0 hw, ↓WMr1 hw, ↓WMg2 hw, ↓WMp2 hw, ↓WMr3 hw, ↓WMr4 hw, ↓WMr5 hw, ↓WMg6 hw, ↓WMp6 hw, ↓WMr7 hw, ↓WMr8 hw, ↓WMg9 hw, ↓WMp9 hw, ↓WMg10 hw, ↓WMp10 hw, ↓zWi, ↓zI0_255, ↓zI0_9, ↓zI0_5, ↓zI0_1, ↓zI1_5, ↓zIm3_3, ↓zI1_20, ↓zIm40_40, ↓zIm30_30, ↓zIm2_2, ↓zI1_99, ↓zI0_1000, ↓zI1_3, ↓zI1_60, ↓zI1_9, ↓zInP, ↓zR0 hw, ↓zR1 hw, ↓zR2 hw, ↓zHS hL, ↓zHH hL, ↓zHW hL, ↓zHP hL, d10, zone, ↓zCen, ↓zPla, ↓zWay, ↓zSeC, ↓zSeM, true_and, and_true, false_and, and_false, r0_5 h1, r0_6 h1, r0_7 h1, r0_8 h1, r1_7 h1, r9_6 h1, r16_2 h1, r26_6 h1, r26_7 h1, r26_8 h1, r2 h1, r3 h1, r4 h1, r5 h1, r6 h1, r7 h1, r8 h1, r10 h1, r11 h1, r12 h1, r13 h1, r14 h1, r17 h1, r18 h1, r27 h1, r28 h1, r29 h1, r30 h1, r31 h1, r32 h1, n0, n2, n4, ↓Lo0 hT70, ↓Lr0_0 hT70, ↓Lr0_1 hT70, ↓Lr0_2 hT70, ↓Lr0_3 hT70, ↓Lr0_4 hT70, ↓Lr26_0 hT70, eq_true c1, eq_true c2, and_self, ↓zciX e_pairOf]
      have stM : ∀ D, f_MD_heardIn w (zset D (s + 636) (vec G)) (s + 634) (nI h) (nI q) = zcv (f_MD_copyState w (zset (zup D (s + 634) 0 0) (s + 636) (vec G)) (s + 636) 0 (s + 637) 0) (fun D5 => zlp (fun (_ : Int32) (_ : Int32) (_ : zD) => none) (S_MD_heardIn_S1 w (s + 634) (nI h) (nI q)) zfuel ((65 : Int32) + ((6 : Int32) * (((4 : Int32) * nI h) + nI q))) 1 D5) := fun D => by
        rw [u_MD_heardIn]; simp (disch := omega) only [↓zjpE, ↓zletE, ↓zciE, ↓zcvE, ↓zchkE, ↓reduceIte, zciE, zcvE, nI_1, ↓Mrc0 hb, ↓Mwc0 hb, ↓Mrc1 hb, ↓Mwc1 hb, ↓Mrc2 hb, ↓Mwc2 hb, ↓Mrc3 hb, ↓Mwc3 hb, ↓Mrc4 hb, ↓Mwc4 hb, ↓Mrc5 hb, ↓Mwc5 hb, ↓Mrc6 hb, ↓Mwc6 hb, ↓Mrc7 hb, ↓Mwc7 hb, ↓Mrc8 hb, ↓Mwc8 hb, ↓Mrc9 hb, ↓Mwc9 hb, ↓Mrc10 hb, ↓Mwc10 hb, ↓Mrs hb, ↓Mws hb, ↓Mrs0 hb, ↓Mws0 hb, ↓Mrs1 hb, ↓Mws1 hb, ↓Mrs2 hb, ↓Mws2 hb, ↓Mrs3 hb, ↓Mws3 hb, ↓Mrs4 hb, ↓Mws4 hb, ↓Mrs5 hb, ↓Mws5 hb, ↓Mrs6 hb, ↓Mws6 hb, ↓Mrh hb, ↓Mwh hb, ↓Mrh0 hb, ↓Mwh0 hb, ↓Mrh1 hb, ↓Mwh1 hb, ↓Mrh2 hb, ↓Mwh2 hb, ↓Mrh3 hb, ↓Mwh3 hb, ↓Mrh4 hb, ↓Mwh4 hb, ↓Mrw hb, ↓Mww hb, ↓Mrw0 hb, ↓Mww0 hb, ↓Mrw1 hb, ↓Mww1 hb, ↓Mre hb, ↓Mwe hb, ↓Mre0 hb, ↓Mwe0 hb, ↓Mre1 hb, ↓Mwe1 hb, ↓Mre2 hb, ↓Mwe2 hb, ↓Mre3 hb, ↓Mwe3 hb, ↓Mre4 hb, ↓Mwe4 hb, ↓Mre5 hb, ↓Mwe5 hb, ↓Mrp hb, ↓Mwp hb, ↓Mrp0 hb, ↓Mwp0 hb, ↓Mrp1 hb, ↓Mwp1 hb, ↓Mrp2 hb, ↓Mwp2 hb, ↓Mrp3 hb, ↓Mwp3 hb, ↓Mrp4 hb, ↓Mwp4 hb, ↓Mrp5 hb, ↓Mwp5 hb, ↓Mrk0 hb, ↓Mwk0 hb, ↓Mrk1 hb, ↓Mwk1 hb, ↓Mrx hb, ↓Mwx hb, ↓Mrx0 hb, ↓Mwx0 hb, ↓Mrx1 hb, ↓Mwx1 hb, ↓Mrx2 hb, ↓Mwx2 hb, ↓Mrx3 hb, ↓Mwx3 hb, ↓Mrx4 hb, ↓Mwx4 hb, ↓Mrx5 hb, ↓Mwx5 hb, ↓Mrt0 hb, ↓Mwt0 hb, ↓Mrt1 hb, ↓Mwt1 hb, ↓Mqs0 hb, ↓Mqs1 hb, ↓Mqs2 hb, ↓Mqs3 hb, ↓Mqs4 hb, ↓Mqs5 hb, ↓Mqs6 hb, ↓Mqh0 hb, ↓Mqh1 hb, ↓Mqh2 hb, ↓Mqh3 hb, ↓Mqh4 hb, ↓Mqp0 hb, ↓Mqp1 hb, ↓Mqp2 hb, ↓Mqp3 hb, ↓Mqp4 hb, ↓Mqp5 hb, ↓WSo hw, ↓WSr0 hw, ↓WSr1 hw, ↓WSr2 hw, ↓WSr3 hw, ↓WSr4 hw, ↓WSg5 hw, ↓WSp5 hw, ↓WSg6 hw, ↓WSp6 hw, ↓WSr7 hw, ↓WSr8 hw, ↓WTo hw, ↓WTr0 hw, ↓WTg1 hw, ↓WTp1 hw, ↓WTg2 hw, ↓WTp2 hw, ↓WTg3 hw, ↓WTp3 hw, ↓WTr4 hw, ↓WMo hw, ↓WMg0 hw, ↓WMp0 hw, ↓WMr1 hw, ↓WMg2 hw, ↓WMp2 hw, ↓WMr3 hw, ↓WMr4 hw, ↓WMr5 hw, ↓WMg6 hw, ↓WMp6 hw, ↓WMr7 hw, ↓WMr8 hw, ↓WMg9 hw, ↓WMp9 hw, ↓WMg10 hw, ↓WMp10 hw, ↓zWi, ↓zI0_255, ↓zI0_9, ↓zI0_5, ↓zI0_1, ↓zI1_5, ↓zIm3_3, ↓zI1_20, ↓zIm40_40, ↓zIm30_30, ↓zIm2_2, ↓zI1_99, ↓zI0_1000, ↓zI1_3, ↓zI1_60, ↓zI1_9, ↓zInP, ↓zR0 hw, ↓zR1 hw, ↓zR2 hw, ↓zHS hL, ↓zHH hL, ↓zHW hL, ↓zHP hL, d10, zone, ↓zCen, ↓zPla, ↓zWay, ↓zSeC, ↓zSeM, true_and, and_true, false_and, and_false, ↓zMiS hb n1 n0, ↓zMiH hb n3 n2, ↓zup_zs, n0, n2, n4, eq_true c1, eq_true c2, and_self]
      refine Exists.elim (trial hw hI ht (by rw [hF0, hG0]; exact hRR) (fun D5 => zald w D5 0 (s + 70 + 27) (nI (4 * h + q)) (fun v20 => zlp (fun (_ : Int32) (_ : Int32) (_ : Int32) (_ : zD) => none) (S_SF_heardIn_S1 w s (nI h) (nI q)) zfuel (nI (4 * h + q)) v20 1 D5)) (fun D5 => zlp (fun (_ : Int32) (_ : Int32) (_ : zD) => none) (S_MD_heardIn_S1 w (s + 634) (nI h) (nI q)) zfuel ((65 : Int32) + ((6 : Int32) * (((4 : Int32) * nI h) + nI q))) 1 D5) (A1 "java/lang/IndexOutOfBoundsException") ?_) ?_
      rotate_left
      · rintro r ⟨D1, v, D2, a1, a2, a3, a4, a5, a6, a7⟩
        have s1 := stC D
        rw [zblk_same (fun o _ => by rw [← hF0])] at s1
        have s2 := stM D1
        rw [zset_same (by rw [a3, ← hG0, vec_dev]), zset_same (by rw [zup_ne (by omega), a3, ← hG0, vec_dev])] at s2
        exact ⟨r, D1, v, D2, s1.trans a1, s2.trans a2, Inv_mo a4 (by omega), a5, a6, a7⟩
      · intro Ft Gt hRt hGt
        have hbt := Wt hw
        have hh4 : h < 4 := by omega
        have hq4 : q < 4 := by omega
        have hpr : 4 * h + q < 16 := by omega
        have zx : ((65 : Int32) + ((6 : Int32) * (((4 : Int32) * nI h) + nI q))) = nI (65 + 6 * (4 * h + q)) := by simp only [zl, nI_add, pk_mul]
        have z27 : Ft 27 (4 * h + q) = D (s + 636) (65 + 6 * (4 * h + q)) := by
          rw [r27 hRt.1 hpr, hGt 27 _ (by unfold Vp; omega)]
          show D (s + 636) (ci (27, 4 * h + q)) = _
          rw [ci27 hpr]
        obtain ⟨S, s0, s1, s2⟩ := seqT hT70 hbt (RI_tp hRt (tp' := t + 200) (by omega)) 200 (by omega) (fun _ => Nat.le_refl _)
        have key : ∀ m i, i + m = 200 → ∃ v Ff Gf, (∀ j, j < 4 → Ff 15 j = 0) ∧ (∀ D fuel, m < fuel → zlp (fun (_ : Int32) (_ : Int32) (_ : Int32) (_ : zD) => none) (S_SF_heardIn_S1 w s (nI h) (nI q)) fuel (nI (4 * h + q)) (Ft 27 (4 * h + q)) (nI (i + 1)) (zblk D (s + 70) (S i).1) = some (.inl v, zblk D (s + 70) Ff)) ∧ (∀ D' fuel, D' (s + 636) = D (s + 636) → m < fuel → zlp (fun (_ : Int32) (_ : Int32) (_ : zD) => none) (S_MD_heardIn_S1 w (s + 634) (nI h) (nI q)) fuel ((65 : Int32) + ((6 : Int32) * (((4 : Int32) * nI h) + nI q))) (nI (i + 1)) (zset D' (s + 637) (vec (S i).2.1)) = some (v, zset D' (s + 637) (vec Gf))) := by
          intro m
          induction m with
          | zero =>
            intro i hi
            obtain rfl : i = 200 := by omega
            obtain ⟨d1, e1, hR1⟩ := s1 200 (by omega)
            have hc : (200 : Int32) < nI (200 + 1) := by decide
            refine ⟨-1, (S 200).1, (S 200).2.1, hR1.2.2.1, fun D fuel hf => ?_, fun D' fuel hD' hf => ?_⟩
            · match fuel, hf with
              | f + 1, _ =>
                rw [zlpS]
                unfold S_SF_heardIn_S1
                simp only [hc, ↓reduceIte]
            · match fuel, hf with
              | f + 1, _ =>
                rw [zlpS]
                unfold S_MD_heardIn_S1
                simp only [hc, ↓reduceIte]
          | succ m ih =>
            intro i hi
            have hc : ¬ (200 : Int32) < nI (i + 1) := by rw [zl 200, nI_ltI (by omega) (by omega)]; omega
            obtain ⟨d1, e1, hR1⟩ := s1 (i + 1) (by omega)
            obtain ⟨-, -, t1, t2⟩ := s2 i (by omega)
            by_cases hle : (S (i + 1)).2.1 27 (4 * h + q) ≤ D (s + 636) (65 + 6 * (4 * h + q))
            · obtain ⟨v, Ff, Gf, y0, y1, y2⟩ := ih (i + 1) (by omega)
              refine ⟨v, Ff, Gf, y0, fun D fuel hf => ?_, fun D' fuel hD' hf => ?_⟩
              · match fuel, hf with
                | f + 1, hf =>
                  rw [zlpS, ← y1 D f (by omega)]
                  unfold S_SF_heardIn_S1
                  simp (disch := omega) only [↓zjpE, ↓zletE, ↓zciE, ↓zcvE, ↓zchkE, ↓reduceIte, zciE, zcvE, nI_1, ↓WSo hw, ↓WSr0 hw, ↓WSr1 hw, ↓WSr2 hw, ↓WSr3 hw, ↓WSr4 hw, ↓WSg5 hw, ↓WSp5 hw, ↓WSg6 hw, ↓WSp6 hw, ↓WSr7 hw, ↓WSr8 hw, ↓WTo hw, ↓WTr0 hw, ↓WTg1 hw, ↓WTp1 hw, ↓WTg2 hw, ↓WTp2 hw, ↓WTg3 hw, ↓WTp3 hw, ↓WTr4 hw, ↓WMo hw, ↓WMg0 hw, ↓WMp0 hw, ↓WMr1 hw, ↓WMg2 hw, ↓WMp2 hw, ↓WMr3 hw, ↓WMr4 hw, ↓WMr5 hw, ↓WMg6 hw, ↓WMp6 hw, ↓WMr7 hw, ↓WMr8 hw, ↓WMg9 hw, ↓WMp9 hw, ↓WMg10 hw, ↓WMp10 hw, hc, ↓Lo0 hT70, ↓Lr0_4 hT70, ↓Lr26_0 hT70, ↓zcvX (t1 D), ↓La27 hT70, r27 hR1.1, z27, hle]
              · match fuel, hf with
                | f + 1, hf =>
                  rw [zlpS, ← y2 D' f hD' (by omega)]
                  unfold S_MD_heardIn_S1
                  simp (disch := omega) only [↓zjpE, ↓zletE, ↓zciE, ↓zcvE, ↓zchkE, ↓reduceIte, zciE, zcvE, nI_1, ↓WSo hw, ↓WSr0 hw, ↓WSr1 hw, ↓WSr2 hw, ↓WSr3 hw, ↓WSr4 hw, ↓WSg5 hw, ↓WSp5 hw, ↓WSg6 hw, ↓WSp6 hw, ↓WSr7 hw, ↓WSr8 hw, ↓WTo hw, ↓WTr0 hw, ↓WTg1 hw, ↓WTp1 hw, ↓WTg2 hw, ↓WTp2 hw, ↓WTg3 hw, ↓WTp3 hw, ↓WTr4 hw, ↓WMo hw, ↓WMg0 hw, ↓WMp0 hw, ↓WMr1 hw, ↓WMg2 hw, ↓WMp2 hw, ↓WMr3 hw, ↓WMr4 hw, ↓WMr5 hw, ↓WMg6 hw, ↓WMp6 hw, ↓WMr7 hw, ↓WMr8 hw, ↓WMg9 hw, ↓WMp9 hw, ↓WMg10 hw, ↓WMp10 hw, hc, ↓zcvX (t2 D'), ↓Mq_ hbt hh4 hq4, ↓zN_ hw (i := 65 + 6 * (4 * h + q)) (by omega) zx hD', hle]
            · refine ⟨nI (i + 1), (S (i + 1)).1, (S (i + 1)).2.1, hR1.2.2.1, fun D fuel hf => ?_, fun D' fuel hD' hf => ?_⟩
              · match fuel, hf with
                | f + 1, hf =>
                  rw [zlpS]
                  unfold S_SF_heardIn_S1
                  simp (disch := omega) only [↓zjpE, ↓zletE, ↓zciE, ↓zcvE, ↓zchkE, ↓reduceIte, zciE, zcvE, nI_1, ↓WSo hw, ↓WSr0 hw, ↓WSr1 hw, ↓WSr2 hw, ↓WSr3 hw, ↓WSr4 hw, ↓WSg5 hw, ↓WSp5 hw, ↓WSg6 hw, ↓WSp6 hw, ↓WSr7 hw, ↓WSr8 hw, ↓WTo hw, ↓WTr0 hw, ↓WTg1 hw, ↓WTp1 hw, ↓WTg2 hw, ↓WTp2 hw, ↓WTg3 hw, ↓WTp3 hw, ↓WTr4 hw, ↓WMo hw, ↓WMg0 hw, ↓WMp0 hw, ↓WMr1 hw, ↓WMg2 hw, ↓WMp2 hw, ↓WMr3 hw, ↓WMr4 hw, ↓WMr5 hw, ↓WMg6 hw, ↓WMp6 hw, ↓WMr7 hw, ↓WMr8 hw, ↓WMg9 hw, ↓WMp9 hw, ↓WMg10 hw, ↓WMp10 hw, hc, ↓Lo0 hT70, ↓Lr0_4 hT70, ↓Lr26_0 hT70, ↓zcvX (t1 D), ↓La27 hT70, r27 hR1.1, z27, hle]
              · match fuel, hf with
                | f + 1, hf =>
                  rw [zlpS]
                  unfold S_MD_heardIn_S1
                  simp (disch := omega) only [↓zjpE, ↓zletE, ↓zciE, ↓zcvE, ↓zchkE, ↓reduceIte, zciE, zcvE, nI_1, ↓WSo hw, ↓WSr0 hw, ↓WSr1 hw, ↓WSr2 hw, ↓WSr3 hw, ↓WSr4 hw, ↓WSg5 hw, ↓WSp5 hw, ↓WSg6 hw, ↓WSp6 hw, ↓WSr7 hw, ↓WSr8 hw, ↓WTo hw, ↓WTr0 hw, ↓WTg1 hw, ↓WTp1 hw, ↓WTg2 hw, ↓WTp2 hw, ↓WTg3 hw, ↓WTp3 hw, ↓WTr4 hw, ↓WMo hw, ↓WMg0 hw, ↓WMp0 hw, ↓WMr1 hw, ↓WMg2 hw, ↓WMp2 hw, ↓WMr3 hw, ↓WMr4 hw, ↓WMr5 hw, ↓WMg6 hw, ↓WMp6 hw, ↓WMr7 hw, ↓WMr8 hw, ↓WMg9 hw, ↓WMp9 hw, ↓WMg10 hw, ↓WMp10 hw, hc, ↓zcvX (t2 D'), ↓Mq_ hbt hh4 hq4, ↓zN_ hw (i := 65 + 6 * (4 * h + q)) (by omega) zx hD', hle]
        obtain ⟨v, Ff, Gf, y0, y1, y2⟩ := key 200 0 (by omega)
        rw [s0] at y1 y2
        refine ⟨.inl v, v, Ff, Gf, y0, fun D => ?_, fun D' hD' => ?_, Or.inl ⟨rfl, rfl⟩⟩
        · simp (disch := omega) only [↓La27 hT70]
          exact y1 D zfuel (by unfold zfuel; omega)
        · exact y2 D' zfuel hD' (by unfold zfuel; omega)
    · refine Cl_q hI (by omega) (query2 hF0.symm hG0.symm (fun D => f_SF_heardIn w D s x y) (fun D => f_MD_heardIn w D (s + 634) x y) (A1 _) ⟨.inr "java/lang/IndexOutOfBoundsException", 0, 1, fun D => ?_, fun D => ?_, Or.inr ⟨rfl, rfl⟩⟩)
      · rw [u_SF_heardIn]; simp (disch := omega) only [↓zjpE, ↓zletE, ↓zciE, ↓zcvE, ↓zchkE, ↓reduceIte, zciE, zcvE, nI_1, ↓Lo0 hL, Lo0 hL, ↓Lr0_0 hL, Lr0_0 hL, ↓Lr0_1 hL, Lr0_1 hL, ↓Lr0_2 hL, Lr0_2 hL, ↓Lr0_3 hL, Lr0_3 hL, ↓Lr0_4 hL, Lr0_4 hL, ↓Lg0_5 hL, Lg0_5 hL, ↓Lp0_5 hL, Lp0_5 hL, ↓Lg0_6 hL, Lg0_6 hL, ↓Lp0_6 hL, Lp0_6 hL, ↓Lg0_7 hL, Lg0_7 hL, ↓Lp0_7 hL, Lp0_7 hL, ↓Lg0_8 hL, Lg0_8 hL, ↓Lp0_8 hL, Lp0_8 hL, ↓Lo1 hL, Lo1 hL, ↓Lr1_0 hL, Lr1_0 hL, ↓Lr1_1 hL, Lr1_1 hL, ↓Lr1_2 hL, Lr1_2 hL, ↓Lr1_3 hL, Lr1_3 hL, ↓Lr1_4 hL, Lr1_4 hL, ↓Lr1_5 hL, Lr1_5 hL, ↓Lr1_6 hL, Lr1_6 hL, ↓Lg1_7 hL, Lg1_7 hL, ↓Lp1_7 hL, Lp1_7 hL, ↓Lo9 hL, Lo9 hL, ↓Lr9_0 hL, Lr9_0 hL, ↓Lr9_1 hL, Lr9_1 hL, ↓Lr9_2 hL, Lr9_2 hL, ↓Lr9_3 hL, Lr9_3 hL, ↓Lr9_4 hL, Lr9_4 hL, ↓Lr9_5 hL, Lr9_5 hL, ↓Lg9_6 hL, Lg9_6 hL, ↓Lp9_6 hL, Lp9_6 hL, ↓Lg9_7 hL, Lg9_7 hL, ↓Lp9_7 hL, Lp9_7 hL, ↓Lo16 hL, Lo16 hL, ↓Lr16_0 hL, Lr16_0 hL, ↓Lr16_1 hL, Lr16_1 hL, ↓Lg16_2 hL, Lg16_2 hL, ↓Lp16_2 hL, Lp16_2 hL, ↓Lo19 hL, Lo19 hL, ↓Lr19_0 hL, Lr19_0 hL, ↓Lr19_1 hL, Lr19_1 hL, ↓Lr19_2 hL, Lr19_2 hL, ↓Lr19_3 hL, Lr19_3 hL, ↓Lr19_4 hL, Lr19_4 hL, ↓Lr19_5 hL, Lr19_5 hL, ↓Lg19_6 hL, Lg19_6 hL, ↓Lp19_6 hL, Lp19_6 hL, ↓Lg19_7 hL, Lg19_7 hL, ↓Lp19_7 hL, Lp19_7 hL, ↓Lo26 hL, Lo26 hL, ↓Lr26_0 hL, Lr26_0 hL, ↓Lr26_1 hL, Lr26_1 hL, ↓Lr26_2 hL, Lr26_2 hL, ↓Lr26_3 hL, Lr26_3 hL, ↓Lr26_4 hL, Lr26_4 hL, ↓Lr26_5 hL, Lr26_5 hL, ↓Lg26_6 hL, Lg26_6 hL, ↓Lp26_6 hL, Lp26_6 hL, ↓Lg26_7 hL, Lg26_7 hL, ↓Lp26_7 hL, Lp26_7 hL, ↓Lg26_8 hL, Lg26_8 hL, ↓Lp26_8 hL, Lp26_8 hL, ↓La2 hL, La2 hL, ↓Ls2 hL, Ls2 hL, ↓La3 hL, La3 hL, ↓Ls3 hL, Ls3 hL, ↓La4 hL, La4 hL, ↓Ls4 hL, Ls4 hL, ↓La5 hL, La5 hL, ↓Ls5 hL, Ls5 hL, ↓La6 hL, La6 hL, ↓Ls6 hL, Ls6 hL, ↓La7 hL, La7 hL, ↓Ls7 hL, Ls7 hL, ↓La8 hL, La8 hL, ↓Ls8 hL, Ls8 hL, ↓La10 hL, La10 hL, ↓Ls10 hL, Ls10 hL, ↓La11 hL, La11 hL, ↓Ls11 hL, Ls11 hL, ↓La12 hL, La12 hL, ↓Ls12 hL, Ls12 hL, ↓La13 hL, La13 hL, ↓Ls13 hL, Ls13 hL, ↓La14 hL, La14 hL, ↓Ls14 hL, Ls14 hL, ↓La15 hL, La15 hL, ↓Ls15 hL, Ls15 hL, ↓La17 hL, La17 hL, ↓Ls17 hL, Ls17 hL, ↓La18 hL, La18 hL, ↓Ls18 hL, Ls18 hL, ↓La20 hL, La20 hL, ↓Ls20 hL, Ls20 hL, ↓La21 hL, La21 hL, ↓Ls21 hL, Ls21 hL, ↓La22 hL, La22 hL, ↓Ls22 hL, Ls22 hL, ↓La23 hL, La23 hL, ↓Ls23 hL, Ls23 hL, ↓La24 hL, La24 hL, ↓Ls24 hL, Ls24 hL, ↓La25 hL, La25 hL, ↓Ls25 hL, Ls25 hL, ↓La27 hL, La27 hL, ↓Ls27 hL, Ls27 hL, ↓La28 hL, La28 hL, ↓Ls28 hL, Ls28 hL, ↓La29 hL, La29 hL, ↓Ls29 hL, Ls29 hL, ↓La30 hL, La30 hL, ↓Ls30 hL, Ls30 hL, ↓La31 hL, La31 hL, ↓Ls31 hL, Ls31 hL, ↓La32 hL, La32 hL, ↓Ls32 hL, Ls32 hL, ↓WSo hw, ↓WSr0 hw, ↓WSr1 hw, ↓WSr2 hw, ↓WSr3 hw, ↓WSr4 hw, ↓WSg5 hw, ↓WSp5 hw, ↓WSg6 hw, ↓WSp6 hw, ↓WSr7 hw, ↓WSr8 hw, ↓WTo hw, ↓WTr0 hw, ↓WTg1 hw, ↓WTp1 hw, ↓WTg2 hw, ↓WTp2 hw, ↓WTg3 hw, ↓WTp3 hw, ↓WTr4 hw, ↓WMo hw, ↓WMg0 hw, ↓WMp0 hw, ↓WMr1 hw, ↓WMg2 hw, ↓WMp2 hw, ↓WMr3 hw, ↓WMr4 hw, ↓WMr5 hw, ↓WMg6 hw, ↓WMp6 hw, ↓WMr7 hw, ↓WMr8 hw, ↓WMg9 hw, ↓WMp9 hw, ↓WMg10 hw, ↓WMp10 hw, ↓zWi, ↓zI0_255, ↓zI0_9, ↓zI0_5, ↓zI0_1, ↓zI1_5, ↓zIm3_3, ↓zI1_20, ↓zIm40_40, ↓zIm30_30, ↓zIm2_2, ↓zI1_99, ↓zI0_1000, ↓zI1_3, ↓zI1_60, ↓zI1_9, ↓zInP, ↓zR0 hw, ↓zR1 hw, ↓zR2 hw, ↓zHS hL, ↓zHH hL, ↓zHW hL, ↓zHP hL, d10, zone, ↓zCen, ↓zPla, ↓zWay, ↓zSeC, ↓zSeM, true_and, and_true, false_and, and_false, r0_5 h1, r0_6 h1, r0_7 h1, r0_8 h1, r1_7 h1, r9_6 h1, r16_2 h1, r26_6 h1, r26_7 h1, r26_8 h1, r2 h1, r3 h1, r4 h1, r5 h1, r6 h1, r7 h1, r8 h1, r10 h1, r11 h1, r12 h1, r13 h1, r14 h1, r17 h1, r18 h1, r27 h1, r28 h1, r29 h1, r30 h1, r31 h1, r32 h1, n0, n2, n4, eq_true c1, eq_false c2, and_false]
      · rw [u_MD_heardIn]; simp (disch := omega) only [↓zjpE, ↓zletE, ↓zciE, ↓zcvE, ↓zchkE, ↓reduceIte, zciE, zcvE, nI_1, ↓Mrc0 hb, ↓Mwc0 hb, ↓Mrc1 hb, ↓Mwc1 hb, ↓Mrc2 hb, ↓Mwc2 hb, ↓Mrc3 hb, ↓Mwc3 hb, ↓Mrc4 hb, ↓Mwc4 hb, ↓Mrc5 hb, ↓Mwc5 hb, ↓Mrc6 hb, ↓Mwc6 hb, ↓Mrc7 hb, ↓Mwc7 hb, ↓Mrc8 hb, ↓Mwc8 hb, ↓Mrc9 hb, ↓Mwc9 hb, ↓Mrc10 hb, ↓Mwc10 hb, ↓Mrs hb, ↓Mws hb, ↓Mrs0 hb, ↓Mws0 hb, ↓Mrs1 hb, ↓Mws1 hb, ↓Mrs2 hb, ↓Mws2 hb, ↓Mrs3 hb, ↓Mws3 hb, ↓Mrs4 hb, ↓Mws4 hb, ↓Mrs5 hb, ↓Mws5 hb, ↓Mrs6 hb, ↓Mws6 hb, ↓Mrh hb, ↓Mwh hb, ↓Mrh0 hb, ↓Mwh0 hb, ↓Mrh1 hb, ↓Mwh1 hb, ↓Mrh2 hb, ↓Mwh2 hb, ↓Mrh3 hb, ↓Mwh3 hb, ↓Mrh4 hb, ↓Mwh4 hb, ↓Mrw hb, ↓Mww hb, ↓Mrw0 hb, ↓Mww0 hb, ↓Mrw1 hb, ↓Mww1 hb, ↓Mre hb, ↓Mwe hb, ↓Mre0 hb, ↓Mwe0 hb, ↓Mre1 hb, ↓Mwe1 hb, ↓Mre2 hb, ↓Mwe2 hb, ↓Mre3 hb, ↓Mwe3 hb, ↓Mre4 hb, ↓Mwe4 hb, ↓Mre5 hb, ↓Mwe5 hb, ↓Mrp hb, ↓Mwp hb, ↓Mrp0 hb, ↓Mwp0 hb, ↓Mrp1 hb, ↓Mwp1 hb, ↓Mrp2 hb, ↓Mwp2 hb, ↓Mrp3 hb, ↓Mwp3 hb, ↓Mrp4 hb, ↓Mwp4 hb, ↓Mrp5 hb, ↓Mwp5 hb, ↓Mrk0 hb, ↓Mwk0 hb, ↓Mrk1 hb, ↓Mwk1 hb, ↓Mrx hb, ↓Mwx hb, ↓Mrx0 hb, ↓Mwx0 hb, ↓Mrx1 hb, ↓Mwx1 hb, ↓Mrx2 hb, ↓Mwx2 hb, ↓Mrx3 hb, ↓Mwx3 hb, ↓Mrx4 hb, ↓Mwx4 hb, ↓Mrx5 hb, ↓Mwx5 hb, ↓Mrt0 hb, ↓Mwt0 hb, ↓Mrt1 hb, ↓Mwt1 hb, ↓Mqs0 hb, ↓Mqs1 hb, ↓Mqs2 hb, ↓Mqs3 hb, ↓Mqs4 hb, ↓Mqs5 hb, ↓Mqs6 hb, ↓Mqh0 hb, ↓Mqh1 hb, ↓Mqh2 hb, ↓Mqh3 hb, ↓Mqh4 hb, ↓Mqp0 hb, ↓Mqp1 hb, ↓Mqp2 hb, ↓Mqp3 hb, ↓Mqp4 hb, ↓Mqp5 hb, ↓WSo hw, ↓WSr0 hw, ↓WSr1 hw, ↓WSr2 hw, ↓WSr3 hw, ↓WSr4 hw, ↓WSg5 hw, ↓WSp5 hw, ↓WSg6 hw, ↓WSp6 hw, ↓WSr7 hw, ↓WSr8 hw, ↓WTo hw, ↓WTr0 hw, ↓WTg1 hw, ↓WTp1 hw, ↓WTg2 hw, ↓WTp2 hw, ↓WTg3 hw, ↓WTp3 hw, ↓WTr4 hw, ↓WMo hw, ↓WMg0 hw, ↓WMp0 hw, ↓WMr1 hw, ↓WMg2 hw, ↓WMp2 hw, ↓WMr3 hw, ↓WMr4 hw, ↓WMr5 hw, ↓WMg6 hw, ↓WMp6 hw, ↓WMr7 hw, ↓WMr8 hw, ↓WMg9 hw, ↓WMp9 hw, ↓WMg10 hw, ↓WMp10 hw, ↓zWi, ↓zI0_255, ↓zI0_9, ↓zI0_5, ↓zI0_1, ↓zI1_5, ↓zIm3_3, ↓zI1_20, ↓zIm40_40, ↓zIm30_30, ↓zIm2_2, ↓zI1_99, ↓zI0_1000, ↓zI1_3, ↓zI1_60, ↓zI1_9, ↓zInP, ↓zR0 hw, ↓zR1 hw, ↓zR2 hw, ↓zHS hL, ↓zHH hL, ↓zHW hL, ↓zHP hL, d10, zone, ↓zCen, ↓zPla, ↓zWay, ↓zSeC, ↓zSeM, true_and, and_true, false_and, and_false, ↓zMiS hb n1 n0, ↓zMiH hb n3 n2, ↓zup_zs, n0, n2, n4, eq_true c1, eq_false c2, and_false]
  · refine Cl_q hI (by omega) (query2 hF0.symm hG0.symm (fun D => f_SF_heardIn w D s x y) (fun D => f_MD_heardIn w D (s + 634) x y) (A1 _) ⟨.inr "java/lang/IndexOutOfBoundsException", 0, 1, fun D => ?_, fun D => ?_, Or.inr ⟨rfl, rfl⟩⟩)
    · rw [u_SF_heardIn]; simp (disch := omega) only [↓zjpE, ↓zletE, ↓zciE, ↓zcvE, ↓zchkE, ↓reduceIte, zciE, zcvE, nI_1, ↓Lo0 hL, Lo0 hL, ↓Lr0_0 hL, Lr0_0 hL, ↓Lr0_1 hL, Lr0_1 hL, ↓Lr0_2 hL, Lr0_2 hL, ↓Lr0_3 hL, Lr0_3 hL, ↓Lr0_4 hL, Lr0_4 hL, ↓Lg0_5 hL, Lg0_5 hL, ↓Lp0_5 hL, Lp0_5 hL, ↓Lg0_6 hL, Lg0_6 hL, ↓Lp0_6 hL, Lp0_6 hL, ↓Lg0_7 hL, Lg0_7 hL, ↓Lp0_7 hL, Lp0_7 hL, ↓Lg0_8 hL, Lg0_8 hL, ↓Lp0_8 hL, Lp0_8 hL, ↓Lo1 hL, Lo1 hL, ↓Lr1_0 hL, Lr1_0 hL, ↓Lr1_1 hL, Lr1_1 hL, ↓Lr1_2 hL, Lr1_2 hL, ↓Lr1_3 hL, Lr1_3 hL, ↓Lr1_4 hL, Lr1_4 hL, ↓Lr1_5 hL, Lr1_5 hL, ↓Lr1_6 hL, Lr1_6 hL, ↓Lg1_7 hL, Lg1_7 hL, ↓Lp1_7 hL, Lp1_7 hL, ↓Lo9 hL, Lo9 hL, ↓Lr9_0 hL, Lr9_0 hL, ↓Lr9_1 hL, Lr9_1 hL, ↓Lr9_2 hL, Lr9_2 hL, ↓Lr9_3 hL, Lr9_3 hL, ↓Lr9_4 hL, Lr9_4 hL, ↓Lr9_5 hL, Lr9_5 hL, ↓Lg9_6 hL, Lg9_6 hL, ↓Lp9_6 hL, Lp9_6 hL, ↓Lg9_7 hL, Lg9_7 hL, ↓Lp9_7 hL, Lp9_7 hL, ↓Lo16 hL, Lo16 hL, ↓Lr16_0 hL, Lr16_0 hL, ↓Lr16_1 hL, Lr16_1 hL, ↓Lg16_2 hL, Lg16_2 hL, ↓Lp16_2 hL, Lp16_2 hL, ↓Lo19 hL, Lo19 hL, ↓Lr19_0 hL, Lr19_0 hL, ↓Lr19_1 hL, Lr19_1 hL, ↓Lr19_2 hL, Lr19_2 hL, ↓Lr19_3 hL, Lr19_3 hL, ↓Lr19_4 hL, Lr19_4 hL, ↓Lr19_5 hL, Lr19_5 hL, ↓Lg19_6 hL, Lg19_6 hL, ↓Lp19_6 hL, Lp19_6 hL, ↓Lg19_7 hL, Lg19_7 hL, ↓Lp19_7 hL, Lp19_7 hL, ↓Lo26 hL, Lo26 hL, ↓Lr26_0 hL, Lr26_0 hL, ↓Lr26_1 hL, Lr26_1 hL, ↓Lr26_2 hL, Lr26_2 hL, ↓Lr26_3 hL, Lr26_3 hL, ↓Lr26_4 hL, Lr26_4 hL, ↓Lr26_5 hL, Lr26_5 hL, ↓Lg26_6 hL, Lg26_6 hL, ↓Lp26_6 hL, Lp26_6 hL, ↓Lg26_7 hL, Lg26_7 hL, ↓Lp26_7 hL, Lp26_7 hL, ↓Lg26_8 hL, Lg26_8 hL, ↓Lp26_8 hL, Lp26_8 hL, ↓La2 hL, La2 hL, ↓Ls2 hL, Ls2 hL, ↓La3 hL, La3 hL, ↓Ls3 hL, Ls3 hL, ↓La4 hL, La4 hL, ↓Ls4 hL, Ls4 hL, ↓La5 hL, La5 hL, ↓Ls5 hL, Ls5 hL, ↓La6 hL, La6 hL, ↓Ls6 hL, Ls6 hL, ↓La7 hL, La7 hL, ↓Ls7 hL, Ls7 hL, ↓La8 hL, La8 hL, ↓Ls8 hL, Ls8 hL, ↓La10 hL, La10 hL, ↓Ls10 hL, Ls10 hL, ↓La11 hL, La11 hL, ↓Ls11 hL, Ls11 hL, ↓La12 hL, La12 hL, ↓Ls12 hL, Ls12 hL, ↓La13 hL, La13 hL, ↓Ls13 hL, Ls13 hL, ↓La14 hL, La14 hL, ↓Ls14 hL, Ls14 hL, ↓La15 hL, La15 hL, ↓Ls15 hL, Ls15 hL, ↓La17 hL, La17 hL, ↓Ls17 hL, Ls17 hL, ↓La18 hL, La18 hL, ↓Ls18 hL, Ls18 hL, ↓La20 hL, La20 hL, ↓Ls20 hL, Ls20 hL, ↓La21 hL, La21 hL, ↓Ls21 hL, Ls21 hL, ↓La22 hL, La22 hL, ↓Ls22 hL, Ls22 hL, ↓La23 hL, La23 hL, ↓Ls23 hL, Ls23 hL, ↓La24 hL, La24 hL, ↓Ls24 hL, Ls24 hL, ↓La25 hL, La25 hL, ↓Ls25 hL, Ls25 hL, ↓La27 hL, La27 hL, ↓Ls27 hL, Ls27 hL, ↓La28 hL, La28 hL, ↓Ls28 hL, Ls28 hL, ↓La29 hL, La29 hL, ↓Ls29 hL, Ls29 hL, ↓La30 hL, La30 hL, ↓Ls30 hL, Ls30 hL, ↓La31 hL, La31 hL, ↓Ls31 hL, Ls31 hL, ↓La32 hL, La32 hL, ↓Ls32 hL, Ls32 hL, ↓WSo hw, ↓WSr0 hw, ↓WSr1 hw, ↓WSr2 hw, ↓WSr3 hw, ↓WSr4 hw, ↓WSg5 hw, ↓WSp5 hw, ↓WSg6 hw, ↓WSp6 hw, ↓WSr7 hw, ↓WSr8 hw, ↓WTo hw, ↓WTr0 hw, ↓WTg1 hw, ↓WTp1 hw, ↓WTg2 hw, ↓WTp2 hw, ↓WTg3 hw, ↓WTp3 hw, ↓WTr4 hw, ↓WMo hw, ↓WMg0 hw, ↓WMp0 hw, ↓WMr1 hw, ↓WMg2 hw, ↓WMp2 hw, ↓WMr3 hw, ↓WMr4 hw, ↓WMr5 hw, ↓WMg6 hw, ↓WMp6 hw, ↓WMr7 hw, ↓WMr8 hw, ↓WMg9 hw, ↓WMp9 hw, ↓WMg10 hw, ↓WMp10 hw, ↓zWi, ↓zI0_255, ↓zI0_9, ↓zI0_5, ↓zI0_1, ↓zI1_5, ↓zIm3_3, ↓zI1_20, ↓zIm40_40, ↓zIm30_30, ↓zIm2_2, ↓zI1_99, ↓zI0_1000, ↓zI1_3, ↓zI1_60, ↓zI1_9, ↓zInP, ↓zR0 hw, ↓zR1 hw, ↓zR2 hw, ↓zHS hL, ↓zHH hL, ↓zHW hL, ↓zHP hL, d10, zone, ↓zCen, ↓zPla, ↓zWay, ↓zSeC, ↓zSeM, true_and, and_true, false_and, and_false, r0_5 h1, r0_6 h1, r0_7 h1, r0_8 h1, r1_7 h1, r9_6 h1, r16_2 h1, r26_6 h1, r26_7 h1, r26_8 h1, r2 h1, r3 h1, r4 h1, r5 h1, r6 h1, r7 h1, r8 h1, r10 h1, r11 h1, r12 h1, r13 h1, r14 h1, r17 h1, r18 h1, r27 h1, r28 h1, r29 h1, r30 h1, r31 h1, r32 h1, n0, n2, n4, eq_false c1, false_and]
    · rw [u_MD_heardIn]; simp (disch := omega) only [↓zjpE, ↓zletE, ↓zciE, ↓zcvE, ↓zchkE, ↓reduceIte, zciE, zcvE, nI_1, ↓Mrc0 hb, ↓Mwc0 hb, ↓Mrc1 hb, ↓Mwc1 hb, ↓Mrc2 hb, ↓Mwc2 hb, ↓Mrc3 hb, ↓Mwc3 hb, ↓Mrc4 hb, ↓Mwc4 hb, ↓Mrc5 hb, ↓Mwc5 hb, ↓Mrc6 hb, ↓Mwc6 hb, ↓Mrc7 hb, ↓Mwc7 hb, ↓Mrc8 hb, ↓Mwc8 hb, ↓Mrc9 hb, ↓Mwc9 hb, ↓Mrc10 hb, ↓Mwc10 hb, ↓Mrs hb, ↓Mws hb, ↓Mrs0 hb, ↓Mws0 hb, ↓Mrs1 hb, ↓Mws1 hb, ↓Mrs2 hb, ↓Mws2 hb, ↓Mrs3 hb, ↓Mws3 hb, ↓Mrs4 hb, ↓Mws4 hb, ↓Mrs5 hb, ↓Mws5 hb, ↓Mrs6 hb, ↓Mws6 hb, ↓Mrh hb, ↓Mwh hb, ↓Mrh0 hb, ↓Mwh0 hb, ↓Mrh1 hb, ↓Mwh1 hb, ↓Mrh2 hb, ↓Mwh2 hb, ↓Mrh3 hb, ↓Mwh3 hb, ↓Mrh4 hb, ↓Mwh4 hb, ↓Mrw hb, ↓Mww hb, ↓Mrw0 hb, ↓Mww0 hb, ↓Mrw1 hb, ↓Mww1 hb, ↓Mre hb, ↓Mwe hb, ↓Mre0 hb, ↓Mwe0 hb, ↓Mre1 hb, ↓Mwe1 hb, ↓Mre2 hb, ↓Mwe2 hb, ↓Mre3 hb, ↓Mwe3 hb, ↓Mre4 hb, ↓Mwe4 hb, ↓Mre5 hb, ↓Mwe5 hb, ↓Mrp hb, ↓Mwp hb, ↓Mrp0 hb, ↓Mwp0 hb, ↓Mrp1 hb, ↓Mwp1 hb, ↓Mrp2 hb, ↓Mwp2 hb, ↓Mrp3 hb, ↓Mwp3 hb, ↓Mrp4 hb, ↓Mwp4 hb, ↓Mrp5 hb, ↓Mwp5 hb, ↓Mrk0 hb, ↓Mwk0 hb, ↓Mrk1 hb, ↓Mwk1 hb, ↓Mrx hb, ↓Mwx hb, ↓Mrx0 hb, ↓Mwx0 hb, ↓Mrx1 hb, ↓Mwx1 hb, ↓Mrx2 hb, ↓Mwx2 hb, ↓Mrx3 hb, ↓Mwx3 hb, ↓Mrx4 hb, ↓Mwx4 hb, ↓Mrx5 hb, ↓Mwx5 hb, ↓Mrt0 hb, ↓Mwt0 hb, ↓Mrt1 hb, ↓Mwt1 hb, ↓Mqs0 hb, ↓Mqs1 hb, ↓Mqs2 hb, ↓Mqs3 hb, ↓Mqs4 hb, ↓Mqs5 hb, ↓Mqs6 hb, ↓Mqh0 hb, ↓Mqh1 hb, ↓Mqh2 hb, ↓Mqh3 hb, ↓Mqh4 hb, ↓Mqp0 hb, ↓Mqp1 hb, ↓Mqp2 hb, ↓Mqp3 hb, ↓Mqp4 hb, ↓Mqp5 hb, ↓WSo hw, ↓WSr0 hw, ↓WSr1 hw, ↓WSr2 hw, ↓WSr3 hw, ↓WSr4 hw, ↓WSg5 hw, ↓WSp5 hw, ↓WSg6 hw, ↓WSp6 hw, ↓WSr7 hw, ↓WSr8 hw, ↓WTo hw, ↓WTr0 hw, ↓WTg1 hw, ↓WTp1 hw, ↓WTg2 hw, ↓WTp2 hw, ↓WTg3 hw, ↓WTp3 hw, ↓WTr4 hw, ↓WMo hw, ↓WMg0 hw, ↓WMp0 hw, ↓WMr1 hw, ↓WMg2 hw, ↓WMp2 hw, ↓WMr3 hw, ↓WMr4 hw, ↓WMr5 hw, ↓WMg6 hw, ↓WMp6 hw, ↓WMr7 hw, ↓WMr8 hw, ↓WMg9 hw, ↓WMp9 hw, ↓WMg10 hw, ↓WMp10 hw, ↓zWi, ↓zI0_255, ↓zI0_9, ↓zI0_5, ↓zI0_1, ↓zI1_5, ↓zIm3_3, ↓zI1_20, ↓zIm40_40, ↓zIm30_30, ↓zIm2_2, ↓zI1_99, ↓zI0_1000, ↓zI1_3, ↓zI1_60, ↓zI1_9, ↓zInP, ↓zR0 hw, ↓zR1 hw, ↓zR2 hw, ↓zHS hL, ↓zHH hL, ↓zHW hL, ↓zHP hL, d10, zone, ↓zCen, ↓zPla, ↓zWay, ↓zSeC, ↓zSeM, true_and, and_true, false_and, and_false, ↓zMiS hb n1 n0, ↓zMiH hb n3 n2, ↓zup_zs, n0, n2, n4, eq_false c1, false_and]
def offN (F : Nat → Nat → Int32) : Nat → Nat → Nat → Int32
  | 0 => F
  | k + 1 => upd2 (offN F k) 8 k 0
theorem offR (h : RI F G ns nh nw t te tp A np d e l c) : ∀ k, RI (offN F k) (offN G k) ns nh nw t te tp A np d e l c ∧ ∀ i, i < k → offN G k 8 i = 0 := by
  intro k
  induction k with
  | zero => exact ⟨h, fun i hi => absurd hi (Nat.not_lt_zero i)⟩
  | succ k ih =>
    refine ⟨RI_on ih.1 (Or.inl rfl), fun i hi => ?_⟩
    show upd2 (offN G k) 8 k 0 8 i = 0
    by_cases hik : i = k
    · subst hik; rw [upd2_s]
    · rw [upd2_i hik]; exact ih.2 i (by omega)
theorem off1 {k : Nat} : offN F k 1 7 = F 1 7 := by
  induction k with
  | zero => rfl
  | succ k ih => show upd2 (offN F k) 8 k 0 1 7 = _; rw [upd2_o (by decide)]; exact ih
theorem RI_False (h : RI F G ns nh nw t te tp True np d e l c) (h0 : ∀ s, s < ns → G 8 s = 0) : RI F G ns nh nw t te tp False np d e l c := by
  obtain ⟨a1, a2, a3, a4, a5, a6, a7, a8, a9, a10, a11, a12, a13⟩ := h
  exact ⟨a1, a2, a3, a4, a5, a6, a7, a8, a9, a10, a11, a12, fun s hs => Or.inl (h0 s hs)⟩
theorem c_allOff (hL : LF w a) (hn : ns ≤ 4) (hF : F 1 7 = nI ns) : f_Sirens_turnAllOff w (zblk D a F) (a + 1) = some (zblk D a (offN F ns)) := by
  obtain ⟨s', hs', w1⟩ := lpG (bot := fun (_ : Int32) (_ : zD) => none) (st := S_Sirens_turnAllOff_S1 w (a + 1)) (β := zD) (n := ns) (fun k (q : Nat → Nat → Int32) => q = offN F k) (fun D g k q => g (nI k) (zblk D a q)) (by
    intro k q hk hq
    subst hq
    have hc : ¬ nI ns ≤ nI k := by rw [nI_leI (by omega) (by omega)]; omega
    refine ⟨offN F (k + 1), rfl, ?_⟩
    intro D j
    unfold S_Sirens_turnAllOff_S1
    simp (disch := omega) only [↓zjpE, ↓zletE, ↓zciE, ↓zcvE, ↓zchkE, ↓reduceIte, zciE, zcvE, nI_1, ↓Lo0 hL, Lo0 hL, ↓Lr0_0 hL, Lr0_0 hL, ↓Lr0_1 hL, Lr0_1 hL, ↓Lr0_2 hL, Lr0_2 hL, ↓Lr0_3 hL, Lr0_3 hL, ↓Lr0_4 hL, Lr0_4 hL, ↓Lg0_5 hL, Lg0_5 hL, ↓Lp0_5 hL, Lp0_5 hL, ↓Lg0_6 hL, Lg0_6 hL, ↓Lp0_6 hL, Lp0_6 hL, ↓Lg0_7 hL, Lg0_7 hL, ↓Lp0_7 hL, Lp0_7 hL, ↓Lg0_8 hL, Lg0_8 hL, ↓Lp0_8 hL, Lp0_8 hL, ↓Lo1 hL, Lo1 hL, ↓Lr1_0 hL, Lr1_0 hL, ↓Lr1_1 hL, Lr1_1 hL, ↓Lr1_2 hL, Lr1_2 hL, ↓Lr1_3 hL, Lr1_3 hL, ↓Lr1_4 hL, Lr1_4 hL, ↓Lr1_5 hL, Lr1_5 hL, ↓Lr1_6 hL, Lr1_6 hL, ↓Lg1_7 hL, Lg1_7 hL, ↓Lp1_7 hL, Lp1_7 hL, ↓Lo9 hL, Lo9 hL, ↓Lr9_0 hL, Lr9_0 hL, ↓Lr9_1 hL, Lr9_1 hL, ↓Lr9_2 hL, Lr9_2 hL, ↓Lr9_3 hL, Lr9_3 hL, ↓Lr9_4 hL, Lr9_4 hL, ↓Lr9_5 hL, Lr9_5 hL, ↓Lg9_6 hL, Lg9_6 hL, ↓Lp9_6 hL, Lp9_6 hL, ↓Lg9_7 hL, Lg9_7 hL, ↓Lp9_7 hL, Lp9_7 hL, ↓Lo16 hL, Lo16 hL, ↓Lr16_0 hL, Lr16_0 hL, ↓Lr16_1 hL, Lr16_1 hL, ↓Lg16_2 hL, Lg16_2 hL, ↓Lp16_2 hL, Lp16_2 hL, ↓Lo19 hL, Lo19 hL, ↓Lr19_0 hL, Lr19_0 hL, ↓Lr19_1 hL, Lr19_1 hL, ↓Lr19_2 hL, Lr19_2 hL, ↓Lr19_3 hL, Lr19_3 hL, ↓Lr19_4 hL, Lr19_4 hL, ↓Lr19_5 hL, Lr19_5 hL, ↓Lg19_6 hL, Lg19_6 hL, ↓Lp19_6 hL, Lp19_6 hL, ↓Lg19_7 hL, Lg19_7 hL, ↓Lp19_7 hL, Lp19_7 hL, ↓Lo26 hL, Lo26 hL, ↓Lr26_0 hL, Lr26_0 hL, ↓Lr26_1 hL, Lr26_1 hL, ↓Lr26_2 hL, Lr26_2 hL, ↓Lr26_3 hL, Lr26_3 hL, ↓Lr26_4 hL, Lr26_4 hL, ↓Lr26_5 hL, Lr26_5 hL, ↓Lg26_6 hL, Lg26_6 hL, ↓Lp26_6 hL, Lp26_6 hL, ↓Lg26_7 hL, Lg26_7 hL, ↓Lp26_7 hL, Lp26_7 hL, ↓Lg26_8 hL, Lg26_8 hL, ↓Lp26_8 hL, Lp26_8 hL, ↓La2 hL, La2 hL, ↓Ls2 hL, Ls2 hL, ↓La3 hL, La3 hL, ↓Ls3 hL, Ls3 hL, ↓La4 hL, La4 hL, ↓Ls4 hL, Ls4 hL, ↓La5 hL, La5 hL, ↓Ls5 hL, Ls5 hL, ↓La6 hL, La6 hL, ↓Ls6 hL, Ls6 hL, ↓La7 hL, La7 hL, ↓Ls7 hL, Ls7 hL, ↓La8 hL, La8 hL, ↓Ls8 hL, Ls8 hL, ↓La10 hL, La10 hL, ↓Ls10 hL, Ls10 hL, ↓La11 hL, La11 hL, ↓Ls11 hL, Ls11 hL, ↓La12 hL, La12 hL, ↓Ls12 hL, Ls12 hL, ↓La13 hL, La13 hL, ↓Ls13 hL, Ls13 hL, ↓La14 hL, La14 hL, ↓Ls14 hL, Ls14 hL, ↓La15 hL, La15 hL, ↓Ls15 hL, Ls15 hL, ↓La17 hL, La17 hL, ↓Ls17 hL, Ls17 hL, ↓La18 hL, La18 hL, ↓Ls18 hL, Ls18 hL, ↓La20 hL, La20 hL, ↓Ls20 hL, Ls20 hL, ↓La21 hL, La21 hL, ↓Ls21 hL, Ls21 hL, ↓La22 hL, La22 hL, ↓Ls22 hL, Ls22 hL, ↓La23 hL, La23 hL, ↓Ls23 hL, Ls23 hL, ↓La24 hL, La24 hL, ↓Ls24 hL, Ls24 hL, ↓La25 hL, La25 hL, ↓Ls25 hL, Ls25 hL, ↓La27 hL, La27 hL, ↓Ls27 hL, Ls27 hL, ↓La28 hL, La28 hL, ↓Ls28 hL, Ls28 hL, ↓La29 hL, La29 hL, ↓Ls29 hL, Ls29 hL, ↓La30 hL, La30 hL, ↓Ls30 hL, Ls30 hL, ↓La31 hL, La31 hL, ↓Ls31 hL, Ls31 hL, ↓La32 hL, La32 hL, ↓Ls32 hL, Ls32 hL, off1, hF, hc, nar0]
    rfl) ns 0 F (by omega) rfl
  subst hs'
  obtain ⟨j, hj⟩ := w1 D zfuel (by unfold zfuel; omega)
  have hend : nI ns ≤ nI ns := nI_le (Nat.le_refl ns) (by omega)
  rw [u_Sirens_turnAllOff]
  simp only [↓zjpE]
  refine hj.trans ?_
  unfold S_Sirens_turnAllOff_S1
  simp (disch := omega) only [↓zjpE, ↓zletE, ↓zciE, ↓zcvE, ↓zchkE, ↓reduceIte, zciE, zcvE, nI_1, ↓Lo0 hL, Lo0 hL, ↓Lr0_0 hL, Lr0_0 hL, ↓Lr0_1 hL, Lr0_1 hL, ↓Lr0_2 hL, Lr0_2 hL, ↓Lr0_3 hL, Lr0_3 hL, ↓Lr0_4 hL, Lr0_4 hL, ↓Lg0_5 hL, Lg0_5 hL, ↓Lp0_5 hL, Lp0_5 hL, ↓Lg0_6 hL, Lg0_6 hL, ↓Lp0_6 hL, Lp0_6 hL, ↓Lg0_7 hL, Lg0_7 hL, ↓Lp0_7 hL, Lp0_7 hL, ↓Lg0_8 hL, Lg0_8 hL, ↓Lp0_8 hL, Lp0_8 hL, ↓Lo1 hL, Lo1 hL, ↓Lr1_0 hL, Lr1_0 hL, ↓Lr1_1 hL, Lr1_1 hL, ↓Lr1_2 hL, Lr1_2 hL, ↓Lr1_3 hL, Lr1_3 hL, ↓Lr1_4 hL, Lr1_4 hL, ↓Lr1_5 hL, Lr1_5 hL, ↓Lr1_6 hL, Lr1_6 hL, ↓Lg1_7 hL, Lg1_7 hL, ↓Lp1_7 hL, Lp1_7 hL, ↓Lo9 hL, Lo9 hL, ↓Lr9_0 hL, Lr9_0 hL, ↓Lr9_1 hL, Lr9_1 hL, ↓Lr9_2 hL, Lr9_2 hL, ↓Lr9_3 hL, Lr9_3 hL, ↓Lr9_4 hL, Lr9_4 hL, ↓Lr9_5 hL, Lr9_5 hL, ↓Lg9_6 hL, Lg9_6 hL, ↓Lp9_6 hL, Lp9_6 hL, ↓Lg9_7 hL, Lg9_7 hL, ↓Lp9_7 hL, Lp9_7 hL, ↓Lo16 hL, Lo16 hL, ↓Lr16_0 hL, Lr16_0 hL, ↓Lr16_1 hL, Lr16_1 hL, ↓Lg16_2 hL, Lg16_2 hL, ↓Lp16_2 hL, Lp16_2 hL, ↓Lo19 hL, Lo19 hL, ↓Lr19_0 hL, Lr19_0 hL, ↓Lr19_1 hL, Lr19_1 hL, ↓Lr19_2 hL, Lr19_2 hL, ↓Lr19_3 hL, Lr19_3 hL, ↓Lr19_4 hL, Lr19_4 hL, ↓Lr19_5 hL, Lr19_5 hL, ↓Lg19_6 hL, Lg19_6 hL, ↓Lp19_6 hL, Lp19_6 hL, ↓Lg19_7 hL, Lg19_7 hL, ↓Lp19_7 hL, Lp19_7 hL, ↓Lo26 hL, Lo26 hL, ↓Lr26_0 hL, Lr26_0 hL, ↓Lr26_1 hL, Lr26_1 hL, ↓Lr26_2 hL, Lr26_2 hL, ↓Lr26_3 hL, Lr26_3 hL, ↓Lr26_4 hL, Lr26_4 hL, ↓Lr26_5 hL, Lr26_5 hL, ↓Lg26_6 hL, Lg26_6 hL, ↓Lp26_6 hL, Lp26_6 hL, ↓Lg26_7 hL, Lg26_7 hL, ↓Lp26_7 hL, Lp26_7 hL, ↓Lg26_8 hL, Lg26_8 hL, ↓Lp26_8 hL, Lp26_8 hL, ↓La2 hL, La2 hL, ↓Ls2 hL, Ls2 hL, ↓La3 hL, La3 hL, ↓Ls3 hL, Ls3 hL, ↓La4 hL, La4 hL, ↓Ls4 hL, Ls4 hL, ↓La5 hL, La5 hL, ↓Ls5 hL, Ls5 hL, ↓La6 hL, La6 hL, ↓Ls6 hL, Ls6 hL, ↓La7 hL, La7 hL, ↓Ls7 hL, Ls7 hL, ↓La8 hL, La8 hL, ↓Ls8 hL, Ls8 hL, ↓La10 hL, La10 hL, ↓Ls10 hL, Ls10 hL, ↓La11 hL, La11 hL, ↓Ls11 hL, Ls11 hL, ↓La12 hL, La12 hL, ↓Ls12 hL, Ls12 hL, ↓La13 hL, La13 hL, ↓Ls13 hL, Ls13 hL, ↓La14 hL, La14 hL, ↓Ls14 hL, Ls14 hL, ↓La15 hL, La15 hL, ↓Ls15 hL, Ls15 hL, ↓La17 hL, La17 hL, ↓Ls17 hL, Ls17 hL, ↓La18 hL, La18 hL, ↓Ls18 hL, Ls18 hL, ↓La20 hL, La20 hL, ↓Ls20 hL, Ls20 hL, ↓La21 hL, La21 hL, ↓Ls21 hL, Ls21 hL, ↓La22 hL, La22 hL, ↓Ls22 hL, Ls22 hL, ↓La23 hL, La23 hL, ↓Ls23 hL, Ls23 hL, ↓La24 hL, La24 hL, ↓Ls24 hL, Ls24 hL, ↓La25 hL, La25 hL, ↓Ls25 hL, Ls25 hL, ↓La27 hL, La27 hL, ↓Ls27 hL, Ls27 hL, ↓La28 hL, La28 hL, ↓Ls28 hL, Ls28 hL, ↓La29 hL, La29 hL, ↓Ls29 hL, Ls29 hL, ↓La30 hL, La30 hL, ↓Ls30 hL, Ls30 hL, ↓La31 hL, La31 hL, ↓Ls31 hL, Ls31 hL, ↓La32 hL, La32 hL, ↓Ls32 hL, Ls32 hL, off1, hF, hend]
theorem m_allOff (hw : WL w s) (hR : RI F G ns nh nw t te tp A np d e l c) : zlp (fun (_ : Int32) (_ : zD) => none) (S_MD_quietIn_S1 w (s + 634)) zfuel 0 (zset D (s + 637) (vec G)) = zlp (fun (_ : Int32) (_ : zD) => none) (S_MD_quietIn_S2 w (s + 634)) zfuel 0 (zset D (s + 637) (vec (offN G ns))) := by
  have hb := Wt hw
  have hn : ns ≤ 4 := hR.2.2.2.2.1.2.1
  have hG : G 1 7 = nI ns := hR.2.2.2.2.1.1
  obtain ⟨s', hs', w1⟩ := lpG (bot := fun (_ : Int32) (_ : zD) => none) (st := S_MD_quietIn_S1 w (s + 634)) (β := Int32 × zD) (n := ns) (fun k (q : Nat → Nat → Int32) => q = offN G k) (fun D g k q => g (nI k) (zset D (s + 637) (vec q))) (by
    intro k q hk hq
    subst hq
    have hc : ¬ nI ns ≤ nI k := by rw [nI_leI (by omega) (by omega)]; omega
    have ho : ∀ i, i < ns → offN G k 8 i = 0 ∨ offN G k 8 i = 1 := fun i hi => ((offR hR k).1.2.2.2.2.2.1 i hi).2.2.2.2.2.2.2.2.2.2.1
    refine ⟨offN G (k + 1), rfl, ?_⟩
    intro D j
    have mt := m_turn (D := D) hb hk hn (show offN G k 1 7 = nI ns by rw [off1]; exact hG) ho (v := 0) (Or.inl rfl)
    unfold S_MD_quietIn_S1
    simp (disch := omega) only [↓zjpE, ↓zletE, ↓zciE, ↓zcvE, ↓zchkE, ↓reduceIte, zciE, zcvE, nI_1, ↓Mrc0 hb, ↓Mwc0 hb, ↓Mrc1 hb, ↓Mwc1 hb, ↓Mrc2 hb, ↓Mwc2 hb, ↓Mrc3 hb, ↓Mwc3 hb, ↓Mrc4 hb, ↓Mwc4 hb, ↓Mrc5 hb, ↓Mwc5 hb, ↓Mrc6 hb, ↓Mwc6 hb, ↓Mrc7 hb, ↓Mwc7 hb, ↓Mrc8 hb, ↓Mwc8 hb, ↓Mrc9 hb, ↓Mwc9 hb, ↓Mrc10 hb, ↓Mwc10 hb, ↓Mrs hb, ↓Mws hb, ↓Mrs0 hb, ↓Mws0 hb, ↓Mrs1 hb, ↓Mws1 hb, ↓Mrs2 hb, ↓Mws2 hb, ↓Mrs3 hb, ↓Mws3 hb, ↓Mrs4 hb, ↓Mws4 hb, ↓Mrs5 hb, ↓Mws5 hb, ↓Mrs6 hb, ↓Mws6 hb, ↓Mrh hb, ↓Mwh hb, ↓Mrh0 hb, ↓Mwh0 hb, ↓Mrh1 hb, ↓Mwh1 hb, ↓Mrh2 hb, ↓Mwh2 hb, ↓Mrh3 hb, ↓Mwh3 hb, ↓Mrh4 hb, ↓Mwh4 hb, ↓Mrw hb, ↓Mww hb, ↓Mrw0 hb, ↓Mww0 hb, ↓Mrw1 hb, ↓Mww1 hb, ↓Mre hb, ↓Mwe hb, ↓Mre0 hb, ↓Mwe0 hb, ↓Mre1 hb, ↓Mwe1 hb, ↓Mre2 hb, ↓Mwe2 hb, ↓Mre3 hb, ↓Mwe3 hb, ↓Mre4 hb, ↓Mwe4 hb, ↓Mre5 hb, ↓Mwe5 hb, ↓Mrp hb, ↓Mwp hb, ↓Mrp0 hb, ↓Mwp0 hb, ↓Mrp1 hb, ↓Mwp1 hb, ↓Mrp2 hb, ↓Mwp2 hb, ↓Mrp3 hb, ↓Mwp3 hb, ↓Mrp4 hb, ↓Mwp4 hb, ↓Mrp5 hb, ↓Mwp5 hb, ↓Mrk0 hb, ↓Mwk0 hb, ↓Mrk1 hb, ↓Mwk1 hb, ↓Mrx hb, ↓Mwx hb, ↓Mrx0 hb, ↓Mwx0 hb, ↓Mrx1 hb, ↓Mwx1 hb, ↓Mrx2 hb, ↓Mwx2 hb, ↓Mrx3 hb, ↓Mwx3 hb, ↓Mrx4 hb, ↓Mwx4 hb, ↓Mrx5 hb, ↓Mwx5 hb, ↓Mrt0 hb, ↓Mwt0 hb, ↓Mrt1 hb, ↓Mwt1 hb, ↓Mqs0 hb, ↓Mqs1 hb, ↓Mqs2 hb, ↓Mqs3 hb, ↓Mqs4 hb, ↓Mqs5 hb, ↓Mqs6 hb, ↓Mqh0 hb, ↓Mqh1 hb, ↓Mqh2 hb, ↓Mqh3 hb, ↓Mqh4 hb, ↓Mqp0 hb, ↓Mqp1 hb, ↓Mqp2 hb, ↓Mqp3 hb, ↓Mqp4 hb, ↓Mqp5 hb, ↓WSo hw, ↓WSr0 hw, ↓WSr1 hw, ↓WSr2 hw, ↓WSr3 hw, ↓WSr4 hw, ↓WSg5 hw, ↓WSp5 hw, ↓WSg6 hw, ↓WSp6 hw, ↓WSr7 hw, ↓WSr8 hw, ↓WTo hw, ↓WTr0 hw, ↓WTg1 hw, ↓WTp1 hw, ↓WTg2 hw, ↓WTp2 hw, ↓WTg3 hw, ↓WTp3 hw, ↓WTr4 hw, ↓WMo hw, ↓WMg0 hw, ↓WMp0 hw, ↓WMr1 hw, ↓WMg2 hw, ↓WMp2 hw, ↓WMr3 hw, ↓WMr4 hw, ↓WMr5 hw, ↓WMg6 hw, ↓WMp6 hw, ↓WMr7 hw, ↓WMr8 hw, ↓WMg9 hw, ↓WMp9 hw, ↓WMg10 hw, ↓WMp10 hw, off1, hG, hc, ↓zciX mt]
    rfl) ns 0 G (by omega) rfl
  subst hs'
  obtain ⟨j, hj⟩ := w1 D zfuel (by unfold zfuel; omega)
  have hend : nI ns ≤ nI ns := nI_le (Nat.le_refl ns) (by omega)
  refine hj.trans ?_
  unfold S_MD_quietIn_S1
  simp (disch := omega) only [↓zjpE, ↓zletE, ↓zciE, ↓zcvE, ↓zchkE, ↓reduceIte, zciE, zcvE, nI_1, ↓Mrc0 hb, ↓Mwc0 hb, ↓Mrc1 hb, ↓Mwc1 hb, ↓Mrc2 hb, ↓Mwc2 hb, ↓Mrc3 hb, ↓Mwc3 hb, ↓Mrc4 hb, ↓Mwc4 hb, ↓Mrc5 hb, ↓Mwc5 hb, ↓Mrc6 hb, ↓Mwc6 hb, ↓Mrc7 hb, ↓Mwc7 hb, ↓Mrc8 hb, ↓Mwc8 hb, ↓Mrc9 hb, ↓Mwc9 hb, ↓Mrc10 hb, ↓Mwc10 hb, ↓Mrs hb, ↓Mws hb, ↓Mrs0 hb, ↓Mws0 hb, ↓Mrs1 hb, ↓Mws1 hb, ↓Mrs2 hb, ↓Mws2 hb, ↓Mrs3 hb, ↓Mws3 hb, ↓Mrs4 hb, ↓Mws4 hb, ↓Mrs5 hb, ↓Mws5 hb, ↓Mrs6 hb, ↓Mws6 hb, ↓Mrh hb, ↓Mwh hb, ↓Mrh0 hb, ↓Mwh0 hb, ↓Mrh1 hb, ↓Mwh1 hb, ↓Mrh2 hb, ↓Mwh2 hb, ↓Mrh3 hb, ↓Mwh3 hb, ↓Mrh4 hb, ↓Mwh4 hb, ↓Mrw hb, ↓Mww hb, ↓Mrw0 hb, ↓Mww0 hb, ↓Mrw1 hb, ↓Mww1 hb, ↓Mre hb, ↓Mwe hb, ↓Mre0 hb, ↓Mwe0 hb, ↓Mre1 hb, ↓Mwe1 hb, ↓Mre2 hb, ↓Mwe2 hb, ↓Mre3 hb, ↓Mwe3 hb, ↓Mre4 hb, ↓Mwe4 hb, ↓Mre5 hb, ↓Mwe5 hb, ↓Mrp hb, ↓Mwp hb, ↓Mrp0 hb, ↓Mwp0 hb, ↓Mrp1 hb, ↓Mwp1 hb, ↓Mrp2 hb, ↓Mwp2 hb, ↓Mrp3 hb, ↓Mwp3 hb, ↓Mrp4 hb, ↓Mwp4 hb, ↓Mrp5 hb, ↓Mwp5 hb, ↓Mrk0 hb, ↓Mwk0 hb, ↓Mrk1 hb, ↓Mwk1 hb, ↓Mrx hb, ↓Mwx hb, ↓Mrx0 hb, ↓Mwx0 hb, ↓Mrx1 hb, ↓Mwx1 hb, ↓Mrx2 hb, ↓Mwx2 hb, ↓Mrx3 hb, ↓Mwx3 hb, ↓Mrx4 hb, ↓Mwx4 hb, ↓Mrx5 hb, ↓Mwx5 hb, ↓Mrt0 hb, ↓Mwt0 hb, ↓Mrt1 hb, ↓Mwt1 hb, ↓Mqs0 hb, ↓Mqs1 hb, ↓Mqs2 hb, ↓Mqs3 hb, ↓Mqs4 hb, ↓Mqs5 hb, ↓Mqs6 hb, ↓Mqh0 hb, ↓Mqh1 hb, ↓Mqh2 hb, ↓Mqh3 hb, ↓Mqh4 hb, ↓Mqp0 hb, ↓Mqp1 hb, ↓Mqp2 hb, ↓Mqp3 hb, ↓Mqp4 hb, ↓Mqp5 hb, ↓WSo hw, ↓WSr0 hw, ↓WSr1 hw, ↓WSr2 hw, ↓WSr3 hw, ↓WSr4 hw, ↓WSg5 hw, ↓WSp5 hw, ↓WSg6 hw, ↓WSp6 hw, ↓WSr7 hw, ↓WSr8 hw, ↓WTo hw, ↓WTr0 hw, ↓WTg1 hw, ↓WTp1 hw, ↓WTg2 hw, ↓WTp2 hw, ↓WTg3 hw, ↓WTp3 hw, ↓WTr4 hw, ↓WMo hw, ↓WMg0 hw, ↓WMp0 hw, ↓WMr1 hw, ↓WMg2 hw, ↓WMp2 hw, ↓WMr3 hw, ↓WMr4 hw, ↓WMr5 hw, ↓WMg6 hw, ↓WMp6 hw, ↓WMr7 hw, ↓WMr8 hw, ↓WMg9 hw, ↓WMp9 hw, ↓WMg10 hw, ↓WMp10 hw, off1, hG, hend]
theorem k_quietIn (hw : WL w s) (hI : Inv D s T) (hT : T + 1000 < 4000000) : Cl0 D s (T + 99) (fun D => f_SF_quietIn w D s) (fun D => f_MD_quietIn w D (s + 634)) := by
  obtain ⟨ns, nh, nw, np, d, e, l, t, hR, ht⟩ := hI.1
  generalize hF0 : blk D (s + 4) = F at hR
  generalize hG0 : dev (D (s + 636)) = G at hR
  have hRR := hR
  obtain ⟨h1, ⟨p, q1, q2, q3, q4, q5, q6⟩, hz, hB, ⟨n0, n1, n2, n3, n4, n5, n6, n7⟩, hS, hH, hW, hC, hP, hE, hK, hA⟩ := hR
  have hL := WL4 hw
  have hb := Wn hw
  have hF1 : F 1 7 = nI ns := (r1_7 h1).trans n0
  have hF9 : F 9 6 = nI nh := (r9_6 h1).trans n2
  have hF16 : F 16 2 = nI nw := (r16_2 h1).trans n4
  have hT70 := WL70 hw
  have stC : f_SF_quietIn w D s = zcv (f_Field_copyFrom w D (s + 70) (s + 4)) (fun D5 => zcv (f_Sirens_turnAllOff w D5 (s + 70 + 1)) (fun D6 => zlp (fun (_ : Int32) (_ : zD) => none) (S_SF_quietIn_S1 w s) zfuel 0 D6)) := by
    rw [u_SF_quietIn]; simp (disch := omega) only [↓zjpE, ↓zletE, ↓zciE, ↓zcvE, ↓zchkE, ↓reduceIte, zciE, zcvE, nI_1, ↓WSo hw, ↓WSr0 hw, ↓WSr1 hw, ↓WSr2 hw, ↓WSr3 hw, ↓WSr4 hw, ↓WSg5 hw, ↓WSp5 hw, ↓WSg6 hw, ↓WSp6 hw, ↓WSr7 hw, ↓WSr8 hw, ↓WTo hw, ↓WTr0 hw, ↓WTg1 hw, ↓WTp1 hw, ↓WTg2 hw, ↓WTp2 hw, ↓WTg3 hw, ↓WTp3 hw, ↓WTr4 hw, ↓WMo hw, ↓WMg0 hw, ↓WMp0 hw, ↓WMr1 hw, ↓WMg2 hw, ↓WMp2 hw, ↓WMr3 hw, ↓WMr4 hw, ↓WMr5 hw, ↓WMg6 hw, ↓WMp6 hw, ↓WMr7 hw, ↓WMr8 hw, ↓WMg9 hw, ↓WMp9 hw, ↓WMg10 hw, ↓WMp10 hw, ↓Lo0 hT70, ↓Lr0_0 hT70, ↓Lo1 hT70]
  have stM : ∀ D, f_MD_quietIn w D (s + 634) = zcv (f_MD_copyState w (zup D (s + 634) 0 0) (s + 636) 0 (s + 637) 0) (fun D5 => zlp (fun (_ : Int32) (_ : zD) => none) (S_MD_quietIn_S1 w (s + 634)) zfuel 0 D5) := fun D => by
    rw [u_MD_quietIn]; simp (disch := omega) only [↓zjpE, ↓zletE, ↓zciE, ↓zcvE, ↓zchkE, ↓reduceIte, zciE, zcvE, nI_1, ↓WSo hw, ↓WSr0 hw, ↓WSr1 hw, ↓WSr2 hw, ↓WSr3 hw, ↓WSr4 hw, ↓WSg5 hw, ↓WSp5 hw, ↓WSg6 hw, ↓WSp6 hw, ↓WSr7 hw, ↓WSr8 hw, ↓WTo hw, ↓WTr0 hw, ↓WTg1 hw, ↓WTp1 hw, ↓WTg2 hw, ↓WTp2 hw, ↓WTg3 hw, ↓WTp3 hw, ↓WTr4 hw, ↓WMo hw, ↓WMg0 hw, ↓WMp0 hw, ↓WMr1 hw, ↓WMg2 hw, ↓WMp2 hw, ↓WMr3 hw, ↓WMr4 hw, ↓WMr5 hw, ↓WMg6 hw, ↓WMp6 hw, ↓WMr7 hw, ↓WMr8 hw, ↓WMg9 hw, ↓WMp9 hw, ↓WMg10 hw, ↓WMp10 hw]
  refine Exists.elim (trial hw hI ht (by rw [hF0, hG0]; exact hRR) (fun D5 => zcv (f_Sirens_turnAllOff w D5 (s + 70 + 1)) (fun D6 => zlp (fun (_ : Int32) (_ : zD) => none) (S_SF_quietIn_S1 w s) zfuel 0 D6)) (fun D5 => zlp (fun (_ : Int32) (_ : zD) => none) (S_MD_quietIn_S1 w (s + 634)) zfuel 0 D5) (fun r v _ => r = v) ?_) ?_
  rotate_left
  · rintro r ⟨D1, v, D2, a1, a2, a3, a4, a5, a6, a7⟩
    exact ⟨v, D1, D2, stC.trans (a5 ▸ a1), (stM D1).trans a2, Inv_mo a4 (by omega), a6⟩
  · intro Ft Gt hRt hGt
    have hbt := Wt hw
    have hoff := offR hRt ns
    have hoF := RI_False hoff.1 hoff.2
    have co := fun D => c_allOff (D := D) (F := Ft) hT70 n1 ((r1_7 hRt.1).trans hRt.2.2.2.2.1.1)
    obtain ⟨S, s0, s1, s2⟩ := seqT hT70 hbt hoF 99 (by omega) (fun h => h.elim)
    have h99 : ∀ i, i = 99 → (S i).2.2.2 = 0 := by
      intro i hi
      subst hi
      obtain ⟨d1, e1, hR1⟩ := s1 99 (by omega)
      obtain ⟨-, ag, -, -⟩ := s2 98 (by omega)
      by_cases h0 : (S 99).2.2.2 = 0
      · exact h0
      · exfalso
        have ag0 : (S 99).2.1 0 5 - (S 99).2.1 23 0 < (S 99).2.1 0 8 := ag 0 (show 0 < (S 99).2.2.2 by omega)
        obtain ⟨g1, -, -, -, ⟨-, -, -, -, -, -, g6, g7⟩, -, -, -, ⟨-, -, -, gc⟩, gP, -⟩ := hR1
        obtain ⟨-, -, -, -, -, ⟨u, hu, gu⟩, -⟩ := gP 0 (by omega)
        rw [g6, gu, pk_sub (by omega)] at ag0
        have := (nI_ltI (a := t + 99 - u) (b := 99) (by omega) (by decide)).1 (Int32.lt_of_lt_of_le ag0 gc)
        omega
    have key : ∀ m i, i + m = 99 → ∃ v Ff Gf, (∀ j, j < 4 → Ff 15 j = 0) ∧ (∀ D fuel, m < fuel → zlp (fun (_ : Int32) (_ : zD) => none) (S_SF_quietIn_S1 w s) fuel (nI i) (zblk D (s + 70) (S i).1) = some (v, zblk D (s + 70) Ff)) ∧ (∀ D fuel, m < fuel → zlp (fun (_ : Int32) (_ : zD) => none) (S_MD_quietIn_S2 w (s + 634)) fuel (nI i) (zset D (s + 637) (vec (S i).2.1)) = some (v, zset D (s + 637) (vec Gf))) := by
      intro m
      induction m with
      | zero =>
        intro i hi
        obtain rfl : i = 99 := by omega
        obtain ⟨d1, e1, hR1⟩ := s1 99 (by omega)
        obtain ⟨g1, ⟨p', -, -, g3, g4, -, -⟩, gz, -⟩ := hR1
        have hc : (99 : Int32) ≤ nI 99 := by decide
        have h0 : nI 0 ≤ 0 := by decide
        rw [h99 99 rfl] at g3 g4
        refine ⟨nI 99, (S 99).1, (S 99).2.1, gz, fun D fuel hf => ?_, fun D' fuel hf => ?_⟩
        · match fuel, hf with
          | f + 1, _ =>
            rw [zlpS]
            unfold S_SF_quietIn_S1
            simp only [↓zjpE, ↓zletE, ↓zciE, ↓zcvE, ↓zchkE, ↓reduceIte, zciE, zcvE, nI_1, hc]
        · match fuel, hf with
          | f + 1, _ =>
            rw [zlpS]
            unfold S_MD_quietIn_S2
            simp only [↓zjpE, ↓zletE, ↓zciE, ↓zcvE, ↓zchkE, ↓reduceIte, zciE, zcvE, nI_1, ↓WSo hw, ↓WSr0 hw, ↓WSr1 hw, ↓WSr2 hw, ↓WSr3 hw, ↓WSr4 hw, ↓WSg5 hw, ↓WSp5 hw, ↓WSg6 hw, ↓WSp6 hw, ↓WSr7 hw, ↓WSr8 hw, ↓WTo hw, ↓WTr0 hw, ↓WTg1 hw, ↓WTp1 hw, ↓WTg2 hw, ↓WTp2 hw, ↓WTg3 hw, ↓WTp3 hw, ↓WTr4 hw, ↓WMo hw, ↓WMg0 hw, ↓WMp0 hw, ↓WMr1 hw, ↓WMg2 hw, ↓WMp2 hw, ↓WMr3 hw, ↓WMr4 hw, ↓WMr5 hw, ↓WMg6 hw, ↓WMp6 hw, ↓WMr7 hw, ↓WMr8 hw, ↓WMg9 hw, ↓WMp9 hw, ↓WMg10 hw, ↓WMp10 hw, ↓Mrc4 hbt, g4, h0]
      | succ m ih =>
        intro i hi
        have hc : ¬ (99 : Int32) ≤ nI i := by rw [zl 99, nI_leI (by omega) (by omega)]; omega
        obtain ⟨d1, e1, hR1⟩ := s1 i (by omega)
        obtain ⟨g1, ⟨p', -, -, g3, g4, g5, -⟩, gz, -⟩ := hR1
        obtain ⟨-, -, t1, t2⟩ := s2 i (by omega)
        by_cases h0 : (S i).2.2.2 = 0
        · rw [h0] at g3 g4
          have h0 : nI 0 ≤ 0 := by decide
          refine ⟨nI i, (S i).1, (S i).2.1, gz, fun D fuel hf => ?_, fun D' fuel hf => ?_⟩
          · match fuel, hf with
            | f + 1, _ =>
              rw [zlpS]
              unfold S_SF_quietIn_S1
              simp only [↓zjpE, ↓zletE, ↓zciE, ↓zcvE, ↓zchkE, ↓reduceIte, zciE, zcvE, nI_1, ↓WSo hw, ↓WSr0 hw, ↓WSr1 hw, ↓WSr2 hw, ↓WSr3 hw, ↓WSr4 hw, ↓WSg5 hw, ↓WSp5 hw, ↓WSg6 hw, ↓WSp6 hw, ↓WSr7 hw, ↓WSr8 hw, ↓WTo hw, ↓WTr0 hw, ↓WTg1 hw, ↓WTp1 hw, ↓WTg2 hw, ↓WTp2 hw, ↓WTg3 hw, ↓WTp3 hw, ↓WTr4 hw, ↓WMo hw, ↓WMg0 hw, ↓WMp0 hw, ↓WMr1 hw, ↓WMg2 hw, ↓WMp2 hw, ↓WMr3 hw, ↓WMr4 hw, ↓WMr5 hw, ↓WMg6 hw, ↓WMp6 hw, ↓WMr7 hw, ↓WMr8 hw, ↓WMg9 hw, ↓WMp9 hw, ↓WMg10 hw, ↓WMp10 hw, hc, ↓Lr0_3 hT70, ↓Lg19_7 hT70, g3, h0]
          · match fuel, hf with
            | f + 1, _ =>
              rw [zlpS]
              unfold S_MD_quietIn_S2
              simp only [↓zjpE, ↓zletE, ↓zciE, ↓zcvE, ↓zchkE, ↓reduceIte, zciE, zcvE, nI_1, ↓WSo hw, ↓WSr0 hw, ↓WSr1 hw, ↓WSr2 hw, ↓WSr3 hw, ↓WSr4 hw, ↓WSg5 hw, ↓WSp5 hw, ↓WSg6 hw, ↓WSp6 hw, ↓WSr7 hw, ↓WSr8 hw, ↓WTo hw, ↓WTr0 hw, ↓WTg1 hw, ↓WTp1 hw, ↓WTg2 hw, ↓WTp2 hw, ↓WTg3 hw, ↓WTp3 hw, ↓WTr4 hw, ↓WMo hw, ↓WMg0 hw, ↓WMp0 hw, ↓WMr1 hw, ↓WMg2 hw, ↓WMp2 hw, ↓WMr3 hw, ↓WMr4 hw, ↓WMr5 hw, ↓WMg6 hw, ↓WMp6 hw, ↓WMr7 hw, ↓WMr8 hw, ↓WMg9 hw, ↓WMp9 hw, ↓WMg10 hw, ↓WMp10 hw, ↓Mrc4 hbt, g4, h0]
        · have hp : ¬ nI (S i).2.2.2 ≤ 0 := nI_nle (by omega) (by omega)
          obtain ⟨v, Ff, Gf, y0, y1, y2⟩ := ih (i + 1) (by omega)
          refine ⟨v, Ff, Gf, y0, fun D fuel hf => ?_, fun D' fuel hf => ?_⟩
          · match fuel, hf with
            | f + 1, hf =>
              rw [zlpS, ← y1 D f (by omega)]
              unfold S_SF_quietIn_S1
              simp only [↓zjpE, ↓zletE, ↓zciE, ↓zcvE, ↓zchkE, ↓reduceIte, zciE, zcvE, nI_1, ↓WSo hw, ↓WSr0 hw, ↓WSr1 hw, ↓WSr2 hw, ↓WSr3 hw, ↓WSr4 hw, ↓WSg5 hw, ↓WSp5 hw, ↓WSg6 hw, ↓WSp6 hw, ↓WSr7 hw, ↓WSr8 hw, ↓WTo hw, ↓WTr0 hw, ↓WTg1 hw, ↓WTp1 hw, ↓WTg2 hw, ↓WTp2 hw, ↓WTg3 hw, ↓WTp3 hw, ↓WTr4 hw, ↓WMo hw, ↓WMg0 hw, ↓WMp0 hw, ↓WMr1 hw, ↓WMg2 hw, ↓WMp2 hw, ↓WMr3 hw, ↓WMr4 hw, ↓WMr5 hw, ↓WMg6 hw, ↓WMp6 hw, ↓WMr7 hw, ↓WMr8 hw, ↓WMg9 hw, ↓WMp9 hw, ↓WMg10 hw, ↓WMp10 hw, hc, ↓Lr0_3 hT70, ↓Lo0 hT70, ↓Lg19_7 hT70, g3, hp, ↓zcvX (t1 D)]
          · match fuel, hf with
            | f + 1, hf =>
              rw [zlpS, ← y2 D' f (by omega)]
              unfold S_MD_quietIn_S2
              simp only [↓zjpE, ↓zletE, ↓zciE, ↓zcvE, ↓zchkE, ↓reduceIte, zciE, zcvE, nI_1, ↓WSo hw, ↓WSr0 hw, ↓WSr1 hw, ↓WSr2 hw, ↓WSr3 hw, ↓WSr4 hw, ↓WSg5 hw, ↓WSp5 hw, ↓WSg6 hw, ↓WSp6 hw, ↓WSr7 hw, ↓WSr8 hw, ↓WTo hw, ↓WTr0 hw, ↓WTg1 hw, ↓WTp1 hw, ↓WTg2 hw, ↓WTp2 hw, ↓WTg3 hw, ↓WTp3 hw, ↓WTr4 hw, ↓WMo hw, ↓WMg0 hw, ↓WMp0 hw, ↓WMr1 hw, ↓WMg2 hw, ↓WMp2 hw, ↓WMr3 hw, ↓WMr4 hw, ↓WMr5 hw, ↓WMg6 hw, ↓WMp6 hw, ↓WMr7 hw, ↓WMr8 hw, ↓WMg9 hw, ↓WMp9 hw, ↓WMg10 hw, ↓WMp10 hw, ↓Mrc4 hbt, g4, hp, ↓zcvX (t2 D')]
    obtain ⟨v, Ff, Gf, y0, y1, y2⟩ := key 99 0 (by omega)
    rw [s0] at y1 y2
    refine ⟨v, v, Ff, Gf, y0, fun D => ?_, fun D' hD' => ?_, rfl⟩
    · simp only [↓zcvX (co D)]
      exact y1 D zfuel (by unfold zfuel; omega)
    · exact (m_allOff (D := D') hw hRt).trans (y2 D' zfuel (by unfold zfuel; omega))
end P66
