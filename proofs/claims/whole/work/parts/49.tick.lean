/-! PURE: the model drops what is gone; the whole tick. -/
def kf (G : Nat → Nat → Int32) (nh : Nat) : Nat → Nat → List Nat
  | _, 0 => []
  | k, m + 1 => if gone G nh k then kf G nh (k + 1) m else k :: kf G nh (k + 1) m
theorem keep_kf {G : Nat → Nat → Int32} {nh : Nat} : ∀ m k, keep G nh k ++ kf G nh k m = keep G nh (k + m) := by
  intro m
  induction m with
  | zero => intro k; unfold kf; rw [List.append_nil]; rfl
  | succ m ih =>
    intro k
    unfold kf
    rw [show k + (m + 1) = (k + 1) + m by omega, ← ih (k + 1)]
    show _ = (if gone G nh k then keep G nh k else keep G nh k ++ [k]) ++ _
    by_cases hg : gone G nh k
    · rw [if_pos hg, if_pos hg]
    · rw [if_neg hg, if_neg hg, List.append_assoc]; rfl
theorem kf_len {G : Nat → Nat → Int32} {nh : Nat} : ∀ m k, (kf G nh k m).length ≤ m := by
  intro m
  induction m with
  | zero => intro k; exact Nat.le_refl _
  | succ m ih =>
    intro k
    unfold kf
    have := ih (k + 1)
    split
    · omega
    · rw [List.length_cons]; omega
theorem keep_ngone {G : Nat → Nat → Int32} {nh k : Nat} : ∀ i ∈ keep G nh k, ¬ gone G nh i := by
  induction k with
  | zero => intro i hi; cases hi
  | succ k ih =>
    intro i hi
    unfold keep at hi
    by_cases hg : gone G nh k
    · rw [if_pos hg] at hi; exact ih i hi
    · rw [if_neg hg] at hi
      rcases List.mem_append.1 hi with h | h
      · exact ih i h
      · rw [List.mem_singleton] at h; subst h; exact hg
def DK (Gs G : Nat → Nat → Int32) (nh np k : Nat) : Prop := (∀ o, ¬ (20 ≤ o ∧ o < 26) → o ≠ 19 → Gs o = G o) ∧ Gs 19 7 = nI (k + (kf G nh k (np - k)).length) ∧ (∀ f j, f < 6 → j < k → Gs (20 + f) j = G (20 + f) j) ∧ (∀ f m i, f < 6 → (kf G nh k (np - k))[m]? = some i → Gs (20 + f) (k + m) = G (20 + f) i)
section P49
variable {A : Prop} {w : zW} {a b ns nh nw t te tp np d e l c p k : Nat} {D : zD} {F G : Nat → Nat → Int32}
theorem dropAll (hb : w.1 b = some (.inl (0, 521))) (hn : nh ≤ 4) (hG : G 9 6 = nI nh) (hnp : np ≤ 60) : ∀ k Gs, k ≤ np → DK Gs G nh np k → ∃ Gf, DK Gf G nh np 0 ∧ ∀ D fuel, k < fuel → zlp (fun (_ : Int32) (_ : zD) => none) (S_MD_tick_S6 w b) fuel (nI k - 1) (zset D b (vec Gs)) = some (zset D b (vec Gf)) := by
  intro k
  induction k with
  | zero =>
    intro Gs hk h
    refine ⟨Gs, h, ?_⟩
    intro D fuel hf
    match fuel, hf with
    | f + 1, _ =>
      show S_MD_tick_S6 w b _ _ _ = _
      unfold S_MD_tick_S6
      rw [if_pos (by decide)]
  | succ k ih =>
    intro Gs hk h
    obtain ⟨s1, s2, s3, s4⟩ := h
    have e1 : nI (k + 1) - 1 = nI k := by rw [nI_succ]; grind
    have e2 : nI k + -1 = nI k - 1 := by grind
    have hlen := kf_len (G := G) (nh := nh) (np - (k + 1)) (k + 1)
    have hsub : np - k = (np - (k + 1)) + 1 := by omega
    have hgi : gone Gs nh k ↔ gone G nh k := by
      unfold gone
      rw [s1 0 (by omega) (by omega), show Gs 25 k = G 25 k from s3 5 k (by decide) (by omega), show Gs 23 k = G 23 k from s3 3 k (by decide) (by omega)]
    have hgo := fun D => e_isGoneM (w := w) (D := D) (G := Gs) (nh := nh) hb (show k < 60 by omega) hn (by rw [s1 9 (by omega) (by omega)]; exact hG)
    have hneg : ¬ nI k < 0 := nI_pos (by omega)
    have d1 : ¬ (1 : Int32) = 0 := by decide
    by_cases hg : gone G nh k
    · have hkf : kf G nh k (np - k) = kf G nh (k + 1) (np - (k + 1)) := by
        rw [hsub]; show (if gone G nh k then _ else _) = _; rw [if_pos hg]
      have hdr := fun D => e_drop (w := w) (D := D) (G := Gs) (k := k) (np := k + 1 + (kf G nh (k + 1) (np - (k + 1))).length) hb (by omega) (by omega) s2
      have hnd : DK (upd2 (dropG Gs k (k + 1 + (kf G nh (k + 1) (np - (k + 1))).length)) 19 7 (nI (k + 1 + (kf G nh (k + 1) (np - (k + 1))).length - 1))) G nh np k := by
        refine ⟨?_, ?_, ?_, ?_⟩
        · intro o ho h19; rw [upd2_o h19, dropG_o ho]; exact s1 o ho h19
        · rw [upd2_s, hkf]; congr 1; omega
        · intro f j hf hj
          rw [upd2_o (by omega)]; unfold dropG; rw [if_neg (by omega)]; exact s3 f j hf (by omega)
        · intro f m i hf hm
          rw [hkf] at hm
          have hm2 : m < (kf G nh (k + 1) (np - (k + 1))).length := by
            rcases Nat.lt_or_ge m (kf G nh (k + 1) (np - (k + 1))).length with h4 | h4
            · exact h4
            · rw [List.getElem?_eq_none h4] at hm; cases hm
          rw [upd2_o (by omega)]; unfold dropG; rw [if_pos (by omega), show k + m + 1 = k + 1 + m by omega]; exact s4 f m i hf hm
      obtain ⟨Gf, r1, r2⟩ := ih _ (by omega) hnd
      refine ⟨Gf, r1, ?_⟩
      intro D fuel hf
      match fuel, hf with
      | f + 1, hf =>
        have := hgo D
        rw [if_pos (hgi.2 hg)] at this
        show S_MD_tick_S6 w b _ _ _ = _
        unfold S_MD_tick_S6
        rw [e1]
        simp only [↓zjpE, ↓zletE, ↓zciE, ↓zcvE, ↓zchkE, ↓reduceIte, zciE, zcvE, nI_1, hneg, ↓zciX this, d1, ↓zcvX (hdr D), e2]
        exact r2 D f (by omega)
    · have hkf : kf G nh k (np - k) = k :: kf G nh (k + 1) (np - (k + 1)) := by
        rw [hsub]; show (if gone G nh k then _ else _) = _; rw [if_neg hg]
      have hnd : DK Gs G nh np k := by
        refine ⟨s1, ?_, fun f j hf hj => s3 f j hf (by omega), ?_⟩
        · rw [s2, hkf, List.length_cons]; congr 1; omega
        · intro f m i hf hm
          rw [hkf] at hm
          match m, hm with
          | 0, hm =>
            simp only [List.getElem?_cons_zero, Option.some.injEq] at hm
            subst hm
            exact s3 f k hf (by omega)
          | m + 1, hm =>
            rw [List.getElem?_cons_succ] at hm
            rw [show k + (m + 1) = k + 1 + m by omega]; exact s4 f m i hf hm
      obtain ⟨Gf, r1, r2⟩ := ih _ (by omega) hnd
      refine ⟨Gf, r1, ?_⟩
      intro D fuel hf
      match fuel, hf with
      | f + 1, hf =>
        have := hgo D
        rw [if_neg (fun hx => hg (hgi.1 hx))] at this
        show S_MD_tick_S6 w b _ _ _ = _
        unfold S_MD_tick_S6
        rw [e1]
        simp only [↓zjpE, ↓zletE, ↓zciE, ↓zcvE, ↓zchkE, ↓reduceIte, zciE, zcvE, nI_1, hneg, ↓zciX this, e2]
        exact r2 D f (by omega)
theorem RI_time (h : RI F G ns nh nw t te tp A np d e l c) (ht : t + 1 < 4000000) : RI (upd2 F 0 5 (F 0 5 + 1)) (upd2 G 0 5 (G 0 5 + 1)) ns nh nw (t + 1) te tp A np d e l c := by
  obtain ⟨h1, ⟨p, hq⟩, hz, hB, i0, hS, hH, hW, hC, hP, hE, hK, hA⟩ := h
  refine ⟨R1_u h1 (by rw [r0_5 h1]), ⟨p, ?_⟩, ?_, ?_, ?_, ?_, ?_, ?_, ?_, ?_, ?_, ?_, ?_⟩
  · unfold RQ at hq ⊢; simp (disch := omega) only [upd2_o]; exact hq
  · unfold RZ at hz ⊢; simp (disch := omega) only [upd2_o]; exact hz
  · rw [bsum_o (by decide), upd2_o (by decide)]; exact hB
  · obtain ⟨n0, n1, n2, n3, n4, n5, n6, n7⟩ := i0
    unfold I0; simp (disch := omega) only [upd2_o, upd2_s]; exact ⟨n0, n1, n2, n3, n4, n5, by rw [n6, nI_1], ht⟩
  · unfold IS at hS ⊢; simp (disch := omega) only [upd2_o]; exact hS
  · unfold IH at hH ⊢; simp (disch := omega) only [upd2_o]; exact hH
  · unfold IW at hW ⊢; simp (disch := omega) only [upd2_o]; exact hW
  · unfold IC at hC ⊢; simp (disch := omega) only [upd2_i]; exact hC
  · unfold IP at hP ⊢; simp (disch := omega) only [upd2_o]; exact hP
  · unfold IE at hE ⊢; simp (disch := omega) only [upd2_o]; exact hE
  · unfold IK at hK ⊢; simp (disch := omega) only [upd2_o]; exact hK
  · unfold IA at hA ⊢; simp (disch := omega) only [upd2_o]; exact hA
theorem RI_end {Gf : Nat → Nat → Int32} (h : RT F G ns nh nw t tp A np d e l c p nh) (hd : DK Gf G nh np 0) : RI F Gf ns nh nw t t tp A (keep G nh np).length d e l c ∧ ∀ k, k < (keep G nh np).length → Gf 0 5 - Gf 23 k < Gf 0 8 := by
  obtain ⟨h1, ⟨q1, q2, q3, q4, q5⟩, a2, aS, aN, aB, ⟨i0, iS, iH, iW, iC, iP, iA⟩, aE, aK⟩ := h
  obtain ⟨s1, s2, -, s4⟩ := hd
  have hk0 : kf G nh 0 (np - 0) = keep G nh np := by
    have := keep_kf (G := G) (nh := nh) np 0
    rw [Nat.zero_add] at this
    exact this
  rw [hk0, Nat.zero_add] at s2
  rw [hk0] at s4
  have hlen := @keep_len G nh np
  have hget : ∀ m, m < (keep G nh np).length → ∃ i, (keep G nh np)[m]? = some i ∧ i < np ∧ ¬ gone G nh i := by
    intro m hm
    refine ⟨(keep G nh np)[m], List.getElem?_eq_getElem hm, keep_lt _ (List.getElem_mem hm), keep_ngone _ (List.getElem_mem hm)⟩
  refine ⟨⟨?_, ⟨p, q1, q2, q3, s2, by omega, ?_⟩, ?_, ?_, ?_, ?_, ?_, ?_, ?_, ?_, ?_, ?_, ?_⟩, ?_⟩
  · intro o j hs
    rw [s1 o (by unfold St at hs; omega) (by unfold St at hs; omega)]; exact h1 o j hs
  · intro f m hf hm
    obtain ⟨i, hi, -⟩ := hget m hm
    have := s4 f m i hf hi
    rw [Nat.zero_add] at this
    rw [this]; exact a2 f m i hf hi
  · intro r hr
    by_cases hrn : r < nh
    · rw [(aS r hr).1, if_pos hrn]
    · exact (aS r hr).2 (by omega)
  · rw [aB]; exact (bsum_congr (s1 14 (by omega) (by omega))).symm
  · unfold I0 at i0 ⊢; simp (disch := omega) only [s1]; exact i0
  · unfold IS at iS ⊢; simp (disch := omega) only [s1]; exact iS
  · unfold IH at iH ⊢; simp (disch := omega) only [s1]; exact iH
  · unfold IW at iW ⊢; simp (disch := omega) only [s1]; exact iW
  · unfold IC at iC ⊢; simp (disch := omega) only [s1]; exact iC
  · intro m hm
    obtain ⟨i, hi, hin, -⟩ := hget m hm
    have g0 := s4 0 m i (by decide) hi
    have g1 := s4 1 m i (by decide) hi
    have g2 := s4 2 m i (by decide) hi
    have g3 := s4 3 m i (by decide) hi
    have g4 := s4 4 m i (by decide) hi
    rw [Nat.zero_add] at g0 g1 g2 g3 g4
    rw [show Gf 20 m = _ from g0, show Gf 21 m = _ from g1, show Gf 22 m = _ from g2, show Gf 23 m = _ from g3, show Gf 24 m = _ from g4]
    exact iP i hin
  · unfold IE at aE ⊢; simp (disch := omega) only [s1]; exact aE
  · unfold IK at aK ⊢; simp (disch := omega) only [s1]; exact aK
  · unfold IA at iA ⊢; simp (disch := omega) only [s1]; exact iA
  · intro m hm
    obtain ⟨i, hi, hin, hng⟩ := hget m hm
    have g3 := s4 3 m i (by decide) hi
    rw [Nat.zero_add] at g3
    rw [show Gf 23 m = _ from g3, s1 0 (by omega) (by omega)]
    unfold gone at hng
    have h3 : ¬ ¬ (G 0 5 - G 23 i < G 0 8) := fun hx => hng (Or.inr hx)
    exact Decidable.not_not.1 h3
theorem tick (hL : LF w a) (hb : w.1 b = some (.inl (0, 521))) (h : RI F G ns nh nw t te tp A np d e l c) (hte : te ≤ t) (ht : t + 1 < 4000000) (hA : A → t + 1 ≤ tp) : ∃ F' G' np' d' e' l', RI F' G' ns nh nw (t + 1) (t + 1) tp A np' d' e' l' (c + 240) ∧ d ≤ d' ∧ e ≤ e' ∧ l ≤ l' ∧ (∀ k, k < np' → G' 0 5 - G' 23 k < G' 0 8) ∧ (∀ D, f_Field_tick w (zblk D a F) a = some (zblk D a F')) ∧ (∀ D, f_MD_tick w (zset D b (vec G)) b = some (zset D b (vec G'))) := by
  have h0 := RI_time h ht
  obtain ⟨F1, G1, h1, c1, m1⟩ := ph1 hL hb h0
  obtain ⟨F2, G2, h2, c2, m2⟩ := ph2 hL hb h1
  obtain ⟨F3, G3, np3, h3, c3, m3⟩ := ph3 hA hL hb h2
  obtain ⟨p, hR⟩ := RH_0 h3 (by omega)
  have hnp : np3 ≤ 60 := hR.2.1.2.2.2.2
  have hnh : nh ≤ 4 := hR.2.2.2.2.2.2.1.1.2.2.2.1
  obtain ⟨F4, G4, d4, e4, l4, h4, k1, k2, k3, k4, c4, m4⟩ := hearAll hL hb hR
  obtain ⟨F5, G5, h5, k5, c5, m5⟩ := beatAll hL hb (RT_0 h4)
  have hkeep : keep G5 nh np3 = keep G5 nh np3 := rfl
  have hG5 : G5 9 6 = nI nh := h5.2.2.2.2.2.2.1.1.2.2.1
  obtain ⟨Gf, hD, m6⟩ := dropAll hb hnh hG5 hnp np3 G5 (Nat.le_refl _) ⟨fun _ _ _ => rfl, by rw [Nat.sub_self]; exact h5.2.1.2.2.2.1, fun _ _ _ _ => rfl, by intro f m i _ hm; rw [Nat.sub_self] at hm; unfold kf at hm; simp at hm⟩
  obtain ⟨h6, h7⟩ := RI_end h5 hD
  have hmul : np3 * nh ≤ 240 := Nat.le_trans (Nat.mul_le_mul hnp hnh) (by decide)
  refine ⟨F5, Gf, _, d4, e4, l4, ?_, k1, k2, k3, h7, ?_, ?_⟩
  · obtain ⟨x1, x2, x3, x4, x5, x6, x7, x8, x9, x10, x11, ⟨y1, y2, y3, y4, y5⟩, x13⟩ := h6
    exact ⟨x1, x2, x3, x4, x5, x6, x7, x8, x9, x10, x11, ⟨y1, y2, y3, by omega, y5⟩, x13⟩
  · intro D
    rw [u_Field_tick]
    simp only [↓zjpE, ↓zletE, ↓zciE, ↓zcvE, ↓zchkE, ↓reduceIte, zciE, zcvE, nI_1, ↓Lo0 hL, Lo0 hL, ↓Lr0_0 hL, Lr0_0 hL, ↓Lr0_1 hL, Lr0_1 hL, ↓Lr0_2 hL, Lr0_2 hL, ↓Lr0_3 hL, Lr0_3 hL, ↓Lr0_4 hL, Lr0_4 hL, ↓Lg0_5 hL, Lg0_5 hL, ↓Lp0_5 hL, Lp0_5 hL, ↓Lg0_6 hL, Lg0_6 hL, ↓Lp0_6 hL, Lp0_6 hL, ↓Lg0_7 hL, Lg0_7 hL, ↓Lp0_7 hL, Lp0_7 hL, ↓Lg0_8 hL, Lg0_8 hL, ↓Lp0_8 hL, Lp0_8 hL, ↓Lo1 hL, Lo1 hL, ↓Lr1_0 hL, Lr1_0 hL, ↓Lr1_1 hL, Lr1_1 hL, ↓Lr1_2 hL, Lr1_2 hL, ↓Lr1_3 hL, Lr1_3 hL, ↓Lr1_4 hL, Lr1_4 hL, ↓Lr1_5 hL, Lr1_5 hL, ↓Lr1_6 hL, Lr1_6 hL, ↓Lg1_7 hL, Lg1_7 hL, ↓Lp1_7 hL, Lp1_7 hL, ↓Lo9 hL, Lo9 hL, ↓Lr9_0 hL, Lr9_0 hL, ↓Lr9_1 hL, Lr9_1 hL, ↓Lr9_2 hL, Lr9_2 hL, ↓Lr9_3 hL, Lr9_3 hL, ↓Lr9_4 hL, Lr9_4 hL, ↓Lr9_5 hL, Lr9_5 hL, ↓Lg9_6 hL, Lg9_6 hL, ↓Lp9_6 hL, Lp9_6 hL, ↓Lg9_7 hL, Lg9_7 hL, ↓Lp9_7 hL, Lp9_7 hL, ↓Lo16 hL, Lo16 hL, ↓Lr16_0 hL, Lr16_0 hL, ↓Lr16_1 hL, Lr16_1 hL, ↓Lg16_2 hL, Lg16_2 hL, ↓Lp16_2 hL, Lp16_2 hL, ↓Lo19 hL, Lo19 hL, ↓Lr19_0 hL, Lr19_0 hL, ↓Lr19_1 hL, Lr19_1 hL, ↓Lr19_2 hL, Lr19_2 hL, ↓Lr19_3 hL, Lr19_3 hL, ↓Lr19_4 hL, Lr19_4 hL, ↓Lr19_5 hL, Lr19_5 hL, ↓Lg19_6 hL, Lg19_6 hL, ↓Lp19_6 hL, Lp19_6 hL, ↓Lg19_7 hL, Lg19_7 hL, ↓Lp19_7 hL, Lp19_7 hL, ↓Lo26 hL, Lo26 hL, ↓Lr26_0 hL, Lr26_0 hL, ↓Lr26_1 hL, Lr26_1 hL, ↓Lr26_2 hL, Lr26_2 hL, ↓Lr26_3 hL, Lr26_3 hL, ↓Lr26_4 hL, Lr26_4 hL, ↓Lr26_5 hL, Lr26_5 hL, ↓Lg26_6 hL, Lg26_6 hL, ↓Lp26_6 hL, Lp26_6 hL, ↓Lg26_7 hL, Lg26_7 hL, ↓Lp26_7 hL, Lp26_7 hL, ↓Lg26_8 hL, Lg26_8 hL, ↓Lp26_8 hL, Lp26_8 hL, ↓La2 hL, La2 hL, ↓Ls2 hL, Ls2 hL, ↓La3 hL, La3 hL, ↓Ls3 hL, Ls3 hL, ↓La4 hL, La4 hL, ↓Ls4 hL, Ls4 hL, ↓La5 hL, La5 hL, ↓Ls5 hL, Ls5 hL, ↓La6 hL, La6 hL, ↓Ls6 hL, Ls6 hL, ↓La7 hL, La7 hL, ↓Ls7 hL, Ls7 hL, ↓La8 hL, La8 hL, ↓Ls8 hL, Ls8 hL, ↓La10 hL, La10 hL, ↓Ls10 hL, Ls10 hL, ↓La11 hL, La11 hL, ↓Ls11 hL, Ls11 hL, ↓La12 hL, La12 hL, ↓Ls12 hL, Ls12 hL, ↓La13 hL, La13 hL, ↓Ls13 hL, Ls13 hL, ↓La14 hL, La14 hL, ↓Ls14 hL, Ls14 hL, ↓La15 hL, La15 hL, ↓Ls15 hL, Ls15 hL, ↓La17 hL, La17 hL, ↓Ls17 hL, Ls17 hL, ↓La18 hL, La18 hL, ↓Ls18 hL, Ls18 hL, ↓La20 hL, La20 hL, ↓Ls20 hL, Ls20 hL, ↓La21 hL, La21 hL, ↓Ls21 hL, Ls21 hL, ↓La22 hL, La22 hL, ↓Ls22 hL, Ls22 hL, ↓La23 hL, La23 hL, ↓Ls23 hL, Ls23 hL, ↓La24 hL, La24 hL, ↓Ls24 hL, Ls24 hL, ↓La25 hL, La25 hL, ↓Ls25 hL, Ls25 hL, ↓La27 hL, La27 hL, ↓Ls27 hL, Ls27 hL, ↓La28 hL, La28 hL, ↓Ls28 hL, Ls28 hL, ↓La29 hL, La29 hL, ↓Ls29 hL, Ls29 hL, ↓La30 hL, La30 hL, ↓Ls30 hL, Ls30 hL, ↓La31 hL, La31 hL, ↓Ls31 hL, Ls31 hL, ↓La32 hL, La32 hL, ↓Ls32 hL, Ls32 hL, ↓zcvX (c1 D), ↓zcvX (c2 D)]
    rw [c3 D, c4 D, zcvE, c5 D, zcvE]
  · intro D
    rw [u_MD_tick]
    simp only [↓zjpE, ↓zletE, ↓zciE, ↓zcvE, ↓zchkE, ↓reduceIte, zciE, zcvE, nI_1, ↓Mrc0 hb, ↓Mwc0 hb, ↓Mrc1 hb, ↓Mwc1 hb, ↓Mrc2 hb, ↓Mwc2 hb, ↓Mrc3 hb, ↓Mwc3 hb, ↓Mrc4 hb, ↓Mwc4 hb, ↓Mrc5 hb, ↓Mwc5 hb, ↓Mrc6 hb, ↓Mwc6 hb, ↓Mrc7 hb, ↓Mwc7 hb, ↓Mrc8 hb, ↓Mwc8 hb, ↓Mrc9 hb, ↓Mwc9 hb, ↓Mrc10 hb, ↓Mwc10 hb, ↓Mrs hb, ↓Mws hb, ↓Mrs0 hb, ↓Mws0 hb, ↓Mrs1 hb, ↓Mws1 hb, ↓Mrs2 hb, ↓Mws2 hb, ↓Mrs3 hb, ↓Mws3 hb, ↓Mrs4 hb, ↓Mws4 hb, ↓Mrs5 hb, ↓Mws5 hb, ↓Mrs6 hb, ↓Mws6 hb, ↓Mrh hb, ↓Mwh hb, ↓Mrh0 hb, ↓Mwh0 hb, ↓Mrh1 hb, ↓Mwh1 hb, ↓Mrh2 hb, ↓Mwh2 hb, ↓Mrh3 hb, ↓Mwh3 hb, ↓Mrh4 hb, ↓Mwh4 hb, ↓Mrw hb, ↓Mww hb, ↓Mrw0 hb, ↓Mww0 hb, ↓Mrw1 hb, ↓Mww1 hb, ↓Mre hb, ↓Mwe hb, ↓Mre0 hb, ↓Mwe0 hb, ↓Mre1 hb, ↓Mwe1 hb, ↓Mre2 hb, ↓Mwe2 hb, ↓Mre3 hb, ↓Mwe3 hb, ↓Mre4 hb, ↓Mwe4 hb, ↓Mre5 hb, ↓Mwe5 hb, ↓Mrp hb, ↓Mwp hb, ↓Mrp0 hb, ↓Mwp0 hb, ↓Mrp1 hb, ↓Mwp1 hb, ↓Mrp2 hb, ↓Mwp2 hb, ↓Mrp3 hb, ↓Mwp3 hb, ↓Mrp4 hb, ↓Mwp4 hb, ↓Mrp5 hb, ↓Mwp5 hb, ↓Mrk0 hb, ↓Mwk0 hb, ↓Mrk1 hb, ↓Mwk1 hb, ↓Mrx hb, ↓Mwx hb, ↓Mrx0 hb, ↓Mwx0 hb, ↓Mrx1 hb, ↓Mwx1 hb, ↓Mrx2 hb, ↓Mwx2 hb, ↓Mrx3 hb, ↓Mwx3 hb, ↓Mrx4 hb, ↓Mwx4 hb, ↓Mrx5 hb, ↓Mwx5 hb, ↓Mrt0 hb, ↓Mwt0 hb, ↓Mrt1 hb, ↓Mwt1 hb, ↓Mqs0 hb, ↓Mqs1 hb, ↓Mqs2 hb, ↓Mqs3 hb, ↓Mqs4 hb, ↓Mqs5 hb, ↓Mqs6 hb, ↓Mqh0 hb, ↓Mqh1 hb, ↓Mqh2 hb, ↓Mqh3 hb, ↓Mqh4 hb, ↓Mqp0 hb, ↓Mqp1 hb, ↓Mqp2 hb, ↓Mqp3 hb, ↓Mqp4 hb, ↓Mqp5 hb]
    rw [m1 D, m2 D, m3 D, m4 D, m5 D, m6 D zfuel (by unfold zfuel; omega)]
end P49
