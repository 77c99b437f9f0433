/-! PURE: all pulses are heard, and the class's rows are filtered. -/
section P47
variable {A : Prop} {w : zW} {a b ns nh nw t te tp np d e l c p k : Nat} {D : zD} {F G : Nat → Nat → Int32}
theorem RH_gone (h : RH F G ns nh nw t tp A np d e l c p k) (hg : gone G nh k) : RH F G ns nh nw t tp A np d e l c p (k + 1) := by
  obtain ⟨h1, hq, a1, a2, a3⟩ := h
  refine ⟨h1, hq, fun f j hf hj hn => a1 f j hf (by omega) hn, ?_, a3⟩
  intro f m i hf hm
  rw [show keep G nh (k + 1) = keep G nh k by show (if gone G nh k then _ else _) = _; rw [if_pos hg]] at hm
  exact a2 f m i hf hm
theorem RH_kept (h : RH F G ns nh nw t tp A np d e l c p k) (hk : k < np) (hg : ¬ gone G nh k) : RH (mvF F ((p + k) % 60) ((p + (keep G nh k).length) % 60)) G ns nh nw t tp A np d e l c p (k + 1) := by
  obtain ⟨h1, ⟨q1, q2, q3, q4, q5⟩, a1, a2, aS, aB, a3⟩ := h
  have hlen := @keep_len G nh k
  have ho : ∀ o, ¬ (20 ≤ o ∧ o < 26) → mvF F ((p + k) % 60) ((p + (keep G nh k).length) % 60) o = F o := fun o ho => mvF_o ho
  refine ⟨?_, ⟨by rw [ho 19 (by omega)]; exact q1, q2, by rw [ho 19 (by omega)]; exact q3, q4, q5⟩, ?_, ?_, ?_, by rw [ho 9 (by omega)]; exact aB, a3⟩
  · intro o j hs
    rw [ho o (by unfold St at hs; omega)]; exact h1 o j hs
  · intro f j hf hj hn
    rw [mvF_i hf (by omega)]; exact a1 f j hf (by omega) hn
  · intro f m i hf hm
    rw [show keep G nh (k + 1) = keep G nh k ++ [k] by show (if gone G nh k then _ else _) = _; rw [if_neg hg]] at hm
    by_cases hml : m < (keep G nh k).length
    · rw [List.getElem?_append_left hml] at hm
      rw [mvF_i hf (by omega)]; exact a2 f m i hf hm
    · rw [List.getElem?_append_right (by omega)] at hm
      have hm0 : m = (keep G nh k).length := by
        rcases Nat.lt_or_ge (m - (keep G nh k).length) 1 with h2 | h2
        · omega
        · rw [List.getElem?_eq_none (by simpa using h2)] at hm; cases hm
      subst hm0
      simp only [Nat.sub_self, List.getElem?_cons_zero, Option.some.injEq] at hm
      subst hm
      rw [mvF_s hf]; exact a1 f k hf (Nat.le_refl k) hk
  · unfold RS at aS ⊢; rw [ho 15 (by omega)]; exact aS
theorem hearK (hL : LF w a) (hb : w.1 b = some (.inl (0, 521))) (h : RH F G ns nh nw t tp A np d e l c p k) (hk : k < np) : ∃ F' G' d' e' l', RH F' G' ns nh nw t tp A np d' e' l' (c + nh) p (k + 1) ∧ d ≤ d' ∧ e ≤ e' ∧ l ≤ l' ∧ (∀ o, o ≤ 24 → G' o = G o) ∧ (∀ D j, S_Field_hearPulses_S1 w a j (nI (keep G nh k).length) (nI k) (zblk D a F) = j (nI (keep G' nh (k + 1)).length) (nI (k + 1)) (zblk D a F')) ∧ (∀ D j, S_MD_tick_S4 w b j (nI k) (zset D b (vec G)) = j (nI (k + 1)) (zset D b (vec G'))) := by
  obtain ⟨F', G', d', e', l', hR, m1, m2, m3, m4, m5, w1, w2⟩ := hearP hL hb h hk
  obtain ⟨-, ⟨q1, q2, q3, q4, q5⟩, -⟩ := id h
  obtain ⟨h1, ⟨q1', q2', q3', q4', q5'⟩, a1, a2, aS, aB, ⟨i0, -⟩, -⟩ := id hR
  obtain ⟨-, -, n2, n3, -⟩ := i0
  have hlen := @keep_len G nh k
  have hkeep : keep G' nh k = keep G nh k := by
    apply keep_congr
    intro i hi
    unfold gone
    rw [m5 i (by omega), m4 0 (by omega), m4 23 (by omega)]
  have hc : ¬ nI np ≤ nI k := by rw [nI_leI (by omega) (by omega)]; omega
  have hr : (p + k) % 60 < 60 := by omega
  have hF9 : F' 9 6 = nI nh := by rw [r9_6 h1, n2]
  have b25 : F' 25 ((p + k) % 60) = G' 25 k := a1 5 k (by decide) (Nat.le_refl k) hk
  have b23 : F' 23 ((p + k) % 60) = G' 23 k := a1 3 k (by decide) (Nat.le_refl k) hk
  have hgi : goneF F' nh ((p + k) % 60) ↔ gone G' nh k := by
    unfold goneF gone
    rw [b25, b23, r0_5 h1, r0_8 h1]
  have hrow := fun D => @e_rowOf w a D F hL p k q2 (by omega) q1
  have hrow2 := fun D => @e_rowOf w a D F' hL p (keep G nh k).length q2 (by omega) q1'
  have hgo := fun D => e_isGoneC (w := w) (D := D) hL hr n3 hF9
  have hmod : ∀ D j, S_MD_tick_S4 w b j (nI k) (zset D b (vec G)) = j (nI (k + 1)) (zset D b (vec G')) := by
    intro D j
    unfold S_MD_tick_S4
    simp only [↓zjpE, ↓zletE, ↓zciE, ↓zcvE, ↓zchkE, ↓reduceIte, zciE, zcvE, nI_1, ↓Mrc4 hb, q4, hc]
    exact w2 D j
  by_cases hg : gone G' nh k
  · refine ⟨F', G', d', e', l', RH_gone hR hg, m1, m2, m3, m4, ?_, hmod⟩
    intro D j
    have hgo' := hgo D
    rw [if_pos (hgi.2 hg)] at hgo'
    have d1 : ¬ (1 : Int32) = 0 := by decide
    unfold S_Field_hearPulses_S1
    simp (disch := omega) only [↓zjpE, ↓zletE, ↓zciE, ↓zcvE, ↓zchkE, ↓reduceIte, zciE, zcvE, nI_1, ↓Lo0 hL, Lo0 hL, ↓Lr0_0 hL, Lr0_0 hL, ↓Lr0_1 hL, Lr0_1 hL, ↓Lr0_2 hL, Lr0_2 hL, ↓Lr0_3 hL, Lr0_3 hL, ↓Lr0_4 hL, Lr0_4 hL, ↓Lg0_5 hL, Lg0_5 hL, ↓Lp0_5 hL, Lp0_5 hL, ↓Lg0_6 hL, Lg0_6 hL, ↓Lp0_6 hL, Lp0_6 hL, ↓Lg0_7 hL, Lg0_7 hL, ↓Lp0_7 hL, Lp0_7 hL, ↓Lg0_8 hL, Lg0_8 hL, ↓Lp0_8 hL, Lp0_8 hL, ↓Lo1 hL, Lo1 hL, ↓Lr1_0 hL, Lr1_0 hL, ↓Lr1_1 hL, Lr1_1 hL, ↓Lr1_2 hL, Lr1_2 hL, ↓Lr1_3 hL, Lr1_3 hL, ↓Lr1_4 hL, Lr1_4 hL, ↓Lr1_5 hL, Lr1_5 hL, ↓Lr1_6 hL, Lr1_6 hL, ↓Lg1_7 hL, Lg1_7 hL, ↓Lp1_7 hL, Lp1_7 hL, ↓Lo9 hL, Lo9 hL, ↓Lr9_0 hL, Lr9_0 hL, ↓Lr9_1 hL, Lr9_1 hL, ↓Lr9_2 hL, Lr9_2 hL, ↓Lr9_3 hL, Lr9_3 hL, ↓Lr9_4 hL, Lr9_4 hL, ↓Lr9_5 hL, Lr9_5 hL, ↓Lg9_6 hL, Lg9_6 hL, ↓Lp9_6 hL, Lp9_6 hL, ↓Lg9_7 hL, Lg9_7 hL, ↓Lp9_7 hL, Lp9_7 hL, ↓Lo16 hL, Lo16 hL, ↓Lr16_0 hL, Lr16_0 hL, ↓Lr16_1 hL, Lr16_1 hL, ↓Lg16_2 hL, Lg16_2 hL, ↓Lp16_2 hL, Lp16_2 hL, ↓Lo19 hL, Lo19 hL, ↓Lr19_0 hL, Lr19_0 hL, ↓Lr19_1 hL, Lr19_1 hL, ↓Lr19_2 hL, Lr19_2 hL, ↓Lr19_3 hL, Lr19_3 hL, ↓Lr19_4 hL, Lr19_4 hL, ↓Lr19_5 hL, Lr19_5 hL, ↓Lg19_6 hL, Lg19_6 hL, ↓Lp19_6 hL, Lp19_6 hL, ↓Lg19_7 hL, Lg19_7 hL, ↓Lp19_7 hL, Lp19_7 hL, ↓Lo26 hL, Lo26 hL, ↓Lr26_0 hL, Lr26_0 hL, ↓Lr26_1 hL, Lr26_1 hL, ↓Lr26_2 hL, Lr26_2 hL, ↓Lr26_3 hL, Lr26_3 hL, ↓Lr26_4 hL, Lr26_4 hL, ↓Lr26_5 hL, Lr26_5 hL, ↓Lg26_6 hL, Lg26_6 hL, ↓Lp26_6 hL, Lp26_6 hL, ↓Lg26_7 hL, Lg26_7 hL, ↓Lp26_7 hL, Lp26_7 hL, ↓Lg26_8 hL, Lg26_8 hL, ↓Lp26_8 hL, Lp26_8 hL, ↓La2 hL, La2 hL, ↓Ls2 hL, Ls2 hL, ↓La3 hL, La3 hL, ↓Ls3 hL, Ls3 hL, ↓La4 hL, La4 hL, ↓Ls4 hL, Ls4 hL, ↓La5 hL, La5 hL, ↓Ls5 hL, Ls5 hL, ↓La6 hL, La6 hL, ↓Ls6 hL, Ls6 hL, ↓La7 hL, La7 hL, ↓Ls7 hL, Ls7 hL, ↓La8 hL, La8 hL, ↓Ls8 hL, Ls8 hL, ↓La10 hL, La10 hL, ↓Ls10 hL, Ls10 hL, ↓La11 hL, La11 hL, ↓Ls11 hL, Ls11 hL, ↓La12 hL, La12 hL, ↓Ls12 hL, Ls12 hL, ↓La13 hL, La13 hL, ↓Ls13 hL, Ls13 hL, ↓La14 hL, La14 hL, ↓Ls14 hL, Ls14 hL, ↓La15 hL, La15 hL, ↓Ls15 hL, Ls15 hL, ↓La17 hL, La17 hL, ↓Ls17 hL, Ls17 hL, ↓La18 hL, La18 hL, ↓Ls18 hL, Ls18 hL, ↓La20 hL, La20 hL, ↓Ls20 hL, Ls20 hL, ↓La21 hL, La21 hL, ↓Ls21 hL, Ls21 hL, ↓La22 hL, La22 hL, ↓Ls22 hL, Ls22 hL, ↓La23 hL, La23 hL, ↓Ls23 hL, Ls23 hL, ↓La24 hL, La24 hL, ↓Ls24 hL, Ls24 hL, ↓La25 hL, La25 hL, ↓Ls25 hL, Ls25 hL, ↓La27 hL, La27 hL, ↓Ls27 hL, Ls27 hL, ↓La28 hL, La28 hL, ↓Ls28 hL, Ls28 hL, ↓La29 hL, La29 hL, ↓Ls29 hL, Ls29 hL, ↓La30 hL, La30 hL, ↓Ls30 hL, Ls30 hL, ↓La31 hL, La31 hL, ↓Ls31 hL, Ls31 hL, ↓La32 hL, La32 hL, ↓Ls32 hL, Ls32 hL, q3, hc, ↓zciX (hrow D), ↓zcvX (w1 D), ↓zciX hgo', d1]
    rw [show keep G' nh (k + 1) = keep G nh k by rw [← hkeep]; show (if gone G' nh k then _ else _) = _; rw [if_pos hg]]
  · refine ⟨_, G', d', e', l', RH_kept hR hk hg, m1, m2, m3, m4, ?_, hmod⟩
    intro D j
    have hgo' := hgo D
    rw [if_neg (fun hx => hg (hgi.1 hx))] at hgo'
    have hmv := @e_move w a D F' hL ((p + k) % 60) ((p + (keep G nh k).length) % 60) hr (by omega)
    unfold S_Field_hearPulses_S1
    simp (disch := omega) only [↓zjpE, ↓zletE, ↓zciE, ↓zcvE, ↓zchkE, ↓reduceIte, zciE, zcvE, nI_1, ↓Lo0 hL, Lo0 hL, ↓Lr0_0 hL, Lr0_0 hL, ↓Lr0_1 hL, Lr0_1 hL, ↓Lr0_2 hL, Lr0_2 hL, ↓Lr0_3 hL, Lr0_3 hL, ↓Lr0_4 hL, Lr0_4 hL, ↓Lg0_5 hL, Lg0_5 hL, ↓Lp0_5 hL, Lp0_5 hL, ↓Lg0_6 hL, Lg0_6 hL, ↓Lp0_6 hL, Lp0_6 hL, ↓Lg0_7 hL, Lg0_7 hL, ↓Lp0_7 hL, Lp0_7 hL, ↓Lg0_8 hL, Lg0_8 hL, ↓Lp0_8 hL, Lp0_8 hL, ↓Lo1 hL, Lo1 hL, ↓Lr1_0 hL, Lr1_0 hL, ↓Lr1_1 hL, Lr1_1 hL, ↓Lr1_2 hL, Lr1_2 hL, ↓Lr1_3 hL, Lr1_3 hL, ↓Lr1_4 hL, Lr1_4 hL, ↓Lr1_5 hL, Lr1_5 hL, ↓Lr1_6 hL, Lr1_6 hL, ↓Lg1_7 hL, Lg1_7 hL, ↓Lp1_7 hL, Lp1_7 hL, ↓Lo9 hL, Lo9 hL, ↓Lr9_0 hL, Lr9_0 hL, ↓Lr9_1 hL, Lr9_1 hL, ↓Lr9_2 hL, Lr9_2 hL, ↓Lr9_3 hL, Lr9_3 hL, ↓Lr9_4 hL, Lr9_4 hL, ↓Lr9_5 hL, Lr9_5 hL, ↓Lg9_6 hL, Lg9_6 hL, ↓Lp9_6 hL, Lp9_6 hL, ↓Lg9_7 hL, Lg9_7 hL, ↓Lp9_7 hL, Lp9_7 hL, ↓Lo16 hL, Lo16 hL, ↓Lr16_0 hL, Lr16_0 hL, ↓Lr16_1 hL, Lr16_1 hL, ↓Lg16_2 hL, Lg16_2 hL, ↓Lp16_2 hL, Lp16_2 hL, ↓Lo19 hL, Lo19 hL, ↓Lr19_0 hL, Lr19_0 hL, ↓Lr19_1 hL, Lr19_1 hL, ↓Lr19_2 hL, Lr19_2 hL, ↓Lr19_3 hL, Lr19_3 hL, ↓Lr19_4 hL, Lr19_4 hL, ↓Lr19_5 hL, Lr19_5 hL, ↓Lg19_6 hL, Lg19_6 hL, ↓Lp19_6 hL, Lp19_6 hL, ↓Lg19_7 hL, Lg19_7 hL, ↓Lp19_7 hL, Lp19_7 hL, ↓Lo26 hL, Lo26 hL, ↓Lr26_0 hL, Lr26_0 hL, ↓Lr26_1 hL, Lr26_1 hL, ↓Lr26_2 hL, Lr26_2 hL, ↓Lr26_3 hL, Lr26_3 hL, ↓Lr26_4 hL, Lr26_4 hL, ↓Lr26_5 hL, Lr26_5 hL, ↓Lg26_6 hL, Lg26_6 hL, ↓Lp26_6 hL, Lp26_6 hL, ↓Lg26_7 hL, Lg26_7 hL, ↓Lp26_7 hL, Lp26_7 hL, ↓Lg26_8 hL, Lg26_8 hL, ↓Lp26_8 hL, Lp26_8 hL, ↓La2 hL, La2 hL, ↓Ls2 hL, Ls2 hL, ↓La3 hL, La3 hL, ↓Ls3 hL, Ls3 hL, ↓La4 hL, La4 hL, ↓Ls4 hL, Ls4 hL, ↓La5 hL, La5 hL, ↓Ls5 hL, Ls5 hL, ↓La6 hL, La6 hL, ↓Ls6 hL, Ls6 hL, ↓La7 hL, La7 hL, ↓Ls7 hL, Ls7 hL, ↓La8 hL, La8 hL, ↓Ls8 hL, Ls8 hL, ↓La10 hL, La10 hL, ↓Ls10 hL, Ls10 hL, ↓La11 hL, La11 hL, ↓Ls11 hL, Ls11 hL, ↓La12 hL, La12 hL, ↓Ls12 hL, Ls12 hL, ↓La13 hL, La13 hL, ↓Ls13 hL, Ls13 hL, ↓La14 hL, La14 hL, ↓Ls14 hL, Ls14 hL, ↓La15 hL, La15 hL, ↓Ls15 hL, Ls15 hL, ↓La17 hL, La17 hL, ↓Ls17 hL, Ls17 hL, ↓La18 hL, La18 hL, ↓Ls18 hL, Ls18 hL, ↓La20 hL, La20 hL, ↓Ls20 hL, Ls20 hL, ↓La21 hL, La21 hL, ↓Ls21 hL, Ls21 hL, ↓La22 hL, La22 hL, ↓Ls22 hL, Ls22 hL, ↓La23 hL, La23 hL, ↓Ls23 hL, Ls23 hL, ↓La24 hL, La24 hL, ↓Ls24 hL, Ls24 hL, ↓La25 hL, La25 hL, ↓Ls25 hL, Ls25 hL, ↓La27 hL, La27 hL, ↓Ls27 hL, Ls27 hL, ↓La28 hL, La28 hL, ↓Ls28 hL, Ls28 hL, ↓La29 hL, La29 hL, ↓Ls29 hL, Ls29 hL, ↓La30 hL, La30 hL, ↓Ls30 hL, Ls30 hL, ↓La31 hL, La31 hL, ↓Ls31 hL, Ls31 hL, ↓La32 hL, La32 hL, ↓Ls32 hL, Ls32 hL, q3, hc, ↓zciX (hrow D), ↓zcvX (w1 D), ↓zciX hgo', ↓zciX (hrow2 D), ↓zcvX hmv]
    rw [hkeep, show keep G' nh (k + 1) = keep G nh k ++ [k] by rw [← hkeep]; show (if gone G' nh k then _ else _) = _; rw [if_neg hg], List.length_append]
    rfl
theorem hearAll (hL : LF w a) (hb : w.1 b = some (.inl (0, 521))) (h : RH F G ns nh nw t tp A np d e l c p 0) : ∃ F' G' d' e' l', RH F' G' ns nh nw t tp A np d' e' l' (c + np * nh) p np ∧ d ≤ d' ∧ e ≤ e' ∧ l ≤ l' ∧ (∀ o, o ≤ 24 → G' o = G o) ∧ (∀ D, f_Field_hearPulses w (zblk D a F) a = some (zblk D a (upd2 F' 19 7 (nI (keep G' nh np).length)))) ∧ (∀ D, zlp (fun (_ : Int32) (_ : zD) => none) (S_MD_tick_S4 w b) zfuel 0 (zset D b (vec G)) = zlp (fun (_ : Int32) (_ : zD) => none) (S_MD_tick_S5 w b) zfuel 0 (zset D b (vec G'))) := by
  obtain ⟨-, ⟨-, -, -, -, q5⟩, -⟩ := id h
  obtain ⟨s', ⟨d', e', l', hR, m1, m2, m3, m4⟩, w1, w2⟩ := lpG2 (bot := fun (_ : Int32) (_ : Int32) (_ : zD) => none) (st := S_Field_hearPulses_S1 w a) (bot' := fun (_ : Int32) (_ : zD) => none) (st' := S_MD_tick_S4 w b) (n := np) (fun q s => ∃ d' e' l', RH s.1 s.2 ns nh nw t tp A np d' e' l' (c + q * nh) p q ∧ d ≤ d' ∧ e ≤ e' ∧ l ≤ l' ∧ (∀ o, o ≤ 24 → s.2 o = G o)) (fun D g q x => g (nI (keep x.2 nh q).length) (nI q) (zblk D a x.1)) (fun D g q x => g (nI q) (zset D b (vec x.2))) (by
    intro q x hq hx
    obtain ⟨d1, e1, l1, hR, m1, m2, m3, m4⟩ := hx
    obtain ⟨F', G', d2, e2, l2, hR', z1, z2, z3, z4, z6, z7⟩ := hearK hL hb hR hq
    refine ⟨(F', G'), ⟨d2, e2, l2, ?_, by omega, by omega, by omega, fun o ho => (z4 o ho).trans (m4 o ho)⟩, z6, z7⟩
    rw [show c + (q + 1) * nh = c + q * nh + nh by rw [Nat.succ_mul]; omega]
    exact hR') np 0 (F, G) (by omega) ⟨d, e, l, by rw [Nat.zero_mul]; exact h, Nat.le_refl _, Nat.le_refl _, Nat.le_refl _, fun _ _ => rfl⟩
  obtain ⟨x1, ⟨-, -, y3, y4, -⟩, -⟩ := id hR
  have hend : nI np ≤ nI np := nI_le (Nat.le_refl np) (by omega)
  refine ⟨s'.1, s'.2, d', e', l', hR, m1, m2, m3, m4, ?_, ?_⟩
  · intro D
    obtain ⟨j, hj⟩ := w1 D zfuel (by unfold zfuel; omega)
    rw [u_Field_hearPulses]
    simp only [↓zjpE]
    refine hj.trans ?_
    unfold S_Field_hearPulses_S1
    simp only [↓zjpE, ↓zletE, ↓zciE, ↓zcvE, ↓zchkE, ↓reduceIte, zciE, zcvE, nI_1, ↓Lo0 hL, Lo0 hL, ↓Lr0_0 hL, Lr0_0 hL, ↓Lr0_1 hL, Lr0_1 hL, ↓Lr0_2 hL, Lr0_2 hL, ↓Lr0_3 hL, Lr0_3 hL, ↓Lr0_4 hL, Lr0_4 hL, ↓Lg0_5 hL, Lg0_5 hL, ↓Lp0_5 hL, Lp0_5 hL, ↓Lg0_6 hL, Lg0_6 hL, ↓Lp0_6 hL, Lp0_6 hL, ↓Lg0_7 hL, Lg0_7 hL, ↓Lp0_7 hL, Lp0_7 hL, ↓Lg0_8 hL, Lg0_8 hL, ↓Lp0_8 hL, Lp0_8 hL, ↓Lo1 hL, Lo1 hL, ↓Lr1_0 hL, Lr1_0 hL, ↓Lr1_1 hL, Lr1_1 hL, ↓Lr1_2 hL, Lr1_2 hL, ↓Lr1_3 hL, Lr1_3 hL, ↓Lr1_4 hL, Lr1_4 hL, ↓Lr1_5 hL, Lr1_5 hL, ↓Lr1_6 hL, Lr1_6 hL, ↓Lg1_7 hL, Lg1_7 hL, ↓Lp1_7 hL, Lp1_7 hL, ↓Lo9 hL, Lo9 hL, ↓Lr9_0 hL, Lr9_0 hL, ↓Lr9_1 hL, Lr9_1 hL, ↓Lr9_2 hL, Lr9_2 hL, ↓Lr9_3 hL, Lr9_3 hL, ↓Lr9_4 hL, Lr9_4 hL, ↓Lr9_5 hL, Lr9_5 hL, ↓Lg9_6 hL, Lg9_6 hL, ↓Lp9_6 hL, Lp9_6 hL, ↓Lg9_7 hL, Lg9_7 hL, ↓Lp9_7 hL, Lp9_7 hL, ↓Lo16 hL, Lo16 hL, ↓Lr16_0 hL, Lr16_0 hL, ↓Lr16_1 hL, Lr16_1 hL, ↓Lg16_2 hL, Lg16_2 hL, ↓Lp16_2 hL, Lp16_2 hL, ↓Lo19 hL, Lo19 hL, ↓Lr19_0 hL, Lr19_0 hL, ↓Lr19_1 hL, Lr19_1 hL, ↓Lr19_2 hL, Lr19_2 hL, ↓Lr19_3 hL, Lr19_3 hL, ↓Lr19_4 hL, Lr19_4 hL, ↓Lr19_5 hL, Lr19_5 hL, ↓Lg19_6 hL, Lg19_6 hL, ↓Lp19_6 hL, Lp19_6 hL, ↓Lg19_7 hL, Lg19_7 hL, ↓Lp19_7 hL, Lp19_7 hL, ↓Lo26 hL, Lo26 hL, ↓Lr26_0 hL, Lr26_0 hL, ↓Lr26_1 hL, Lr26_1 hL, ↓Lr26_2 hL, Lr26_2 hL, ↓Lr26_3 hL, Lr26_3 hL, ↓Lr26_4 hL, Lr26_4 hL, ↓Lr26_5 hL, Lr26_5 hL, ↓Lg26_6 hL, Lg26_6 hL, ↓Lp26_6 hL, Lp26_6 hL, ↓Lg26_7 hL, Lg26_7 hL, ↓Lp26_7 hL, Lp26_7 hL, ↓Lg26_8 hL, Lg26_8 hL, ↓Lp26_8 hL, Lp26_8 hL, ↓La2 hL, La2 hL, ↓Ls2 hL, Ls2 hL, ↓La3 hL, La3 hL, ↓Ls3 hL, Ls3 hL, ↓La4 hL, La4 hL, ↓Ls4 hL, Ls4 hL, ↓La5 hL, La5 hL, ↓Ls5 hL, Ls5 hL, ↓La6 hL, La6 hL, ↓Ls6 hL, Ls6 hL, ↓La7 hL, La7 hL, ↓Ls7 hL, Ls7 hL, ↓La8 hL, La8 hL, ↓Ls8 hL, Ls8 hL, ↓La10 hL, La10 hL, ↓Ls10 hL, Ls10 hL, ↓La11 hL, La11 hL, ↓Ls11 hL, Ls11 hL, ↓La12 hL, La12 hL, ↓Ls12 hL, Ls12 hL, ↓La13 hL, La13 hL, ↓Ls13 hL, Ls13 hL, ↓La14 hL, La14 hL, ↓Ls14 hL, Ls14 hL, ↓La15 hL, La15 hL, ↓Ls15 hL, Ls15 hL, ↓La17 hL, La17 hL, ↓Ls17 hL, Ls17 hL, ↓La18 hL, La18 hL, ↓Ls18 hL, Ls18 hL, ↓La20 hL, La20 hL, ↓Ls20 hL, Ls20 hL, ↓La21 hL, La21 hL, ↓Ls21 hL, Ls21 hL, ↓La22 hL, La22 hL, ↓Ls22 hL, Ls22 hL, ↓La23 hL, La23 hL, ↓Ls23 hL, Ls23 hL, ↓La24 hL, La24 hL, ↓Ls24 hL, Ls24 hL, ↓La25 hL, La25 hL, ↓Ls25 hL, Ls25 hL, ↓La27 hL, La27 hL, ↓Ls27 hL, Ls27 hL, ↓La28 hL, La28 hL, ↓Ls28 hL, Ls28 hL, ↓La29 hL, La29 hL, ↓Ls29 hL, Ls29 hL, ↓La30 hL, La30 hL, ↓Ls30 hL, Ls30 hL, ↓La31 hL, La31 hL, ↓Ls31 hL, Ls31 hL, ↓La32 hL, La32 hL, ↓Ls32 hL, Ls32 hL, y3, hend]
  · intro D
    obtain ⟨j, hj⟩ := w2 D zfuel (by unfold zfuel; omega)
    refine hj.trans ?_
    unfold S_MD_tick_S4
    simp only [↓zjpE, ↓zletE, ↓zciE, ↓zcvE, ↓zchkE, ↓reduceIte, zciE, zcvE, nI_1, ↓Mrc4 hb, y4, hend]
end P47
