/-! PURE: beats; what is gone goes; the whole tick, at every place of memory. -/
def csum (G : Nat → Nat → Int32) (t h : Nat) : Nat → Nat
  | 0 => 0
  | k + 1 => csum G t h k + (if G 30 (4 * h + k) = nI t then 1 else 0)
def pop4 (m : Nat) : Nat := m % 2 + m / 2 % 2 + m / 4 % 2 + m / 8 % 2
def RT (F G : Nat → Nat → Int32) (ns nh nw t tp : Nat) (A : Prop) (np d e l c p q : Nat) : Prop := R1 F G ∧ (F 19 6 = nI p ∧ p < 60 ∧ F 19 7 = nI (keep G nh np).length ∧ G 19 7 = nI np ∧ np ≤ 60) ∧ (∀ f m i, f < 6 → (keep G nh np)[m]? = some i → F (20 + f) ((p + m) % 60) = G (20 + f) i) ∧ (∀ h, h < 4 → F 15 h = (if h < q then 0 else nI (msk G t h)) ∧ (nh ≤ h → F 15 h = 0)) ∧ (∀ h s, h < 4 → ns ≤ s → s < 4 → ¬ G 30 (4 * h + s) = nI t) ∧ F 9 7 = bsum G nh ∧ Ist G ns nh nw t tp A np ∧ IE G t ∧ IK G d e l c
theorem bsum_upd {G : Nat → Nat → Int32} {h n : Nat} {x : Int32} : bsum (upd2 G 14 h (G 14 h + x)) n = bsum G n + (if h < n then x else 0) := by
  induction n with
  | zero => unfold bsum; rw [if_neg (by omega)]; grind
  | succ n ih =>
    unfold bsum
    rw [ih]
    by_cases h1 : n = h
    · subst h1; rw [upd2_s, if_neg (by omega), if_pos (by omega)]; grind
    · rw [upd2_i h1]
      by_cases h2 : h < n
      · rw [if_pos h2, if_pos (by omega)]; grind
      · rw [if_neg h2, if_neg (by omega)]; grind
theorem csum_4 {G : Nat → Nat → Int32} {t h ns : Nat} (hn : ns ≤ 4) (hh : ∀ s, ns ≤ s → s < 4 → ¬ G 30 (4 * h + s) = nI t) : csum G t h ns = pop4 (msk G t h) := by
  have h4 : csum G t h 4 = pop4 (msk G t h) := by
    unfold msk
    simp only [csum, Nat.add_zero]
    by_cases c0 : G 30 (4 * h) = nI t <;> by_cases c1 : G 30 (4 * h + 1) = nI t <;> by_cases c2 : G 30 (4 * h + 2) = nI t <;> by_cases c3 : G 30 (4 * h + 3) = nI t <;> simp only [c0, c1, c2, c3, if_true, if_false] <;> decide
  rw [← h4]
  have aux : ∀ m, ns + m ≤ 4 → csum G t h (ns + m) = csum G t h ns := by
    intro m
    induction m with
    | zero => intro _; rfl
    | succ m ih =>
      intro hm
      show csum G t h (ns + m) + (if G 30 (4 * h + (ns + m)) = nI t then 1 else 0) = _
      rw [ih (by omega), if_neg (hh (ns + m) (by omega) (by omega)), Nat.add_zero]
  have := aux (4 - ns) (by omega)
  rw [show ns + (4 - ns) = 4 by omega] at this
  exact this.symm
theorem msk_lt {G : Nat → Nat → Int32} {t h : Nat} : msk G t h < 16 := by
  unfold msk
  split <;> split <;> split <;> split <;> omega
section P48
variable {A : Prop} {w : zW} {a b ns nh nw t te tp np d e l c p k B : Nat} {D : zD} {F G : Nat → Nat → Int32}
theorem e_bit {m : Nat} (hm : m < 16) : f_Integer_bitCount w D (nI m) = some (nI (pop4 m), D) := by
  unfold f_Integer_bitCount
  simp only [zletE]
  have : m = 0 ∨ m = 1 ∨ m = 2 ∨ m = 3 ∨ m = 4 ∨ m = 5 ∨ m = 6 ∨ m = 7 ∨ m = 8 ∨ m = 9 ∨ m = 10 ∨ m = 11 ∨ m = 12 ∨ m = 13 ∨ m = 14 ∨ m = 15 := by omega
  rcases this with rfl | rfl | rfl | rfl | rfl | rfl | rfl | rfl | rfl | rfl | rfl | rfl | rfl | rfl | rfl | rfl <;> rfl
theorem RT_0 (h : RH F G ns nh nw t tp A np d e l c p np) : RT (upd2 F 19 7 (nI (keep G nh np).length)) G ns nh nw t tp A np d e l c p 0 := by
  obtain ⟨h1, ⟨q1, q2, q3, q4, q5⟩, a1, a2, aS, aB, a3⟩ := h
  refine ⟨R1_f h1 (by unfold St; omega), ⟨by rw [upd2_i (by decide)]; exact q1, q2, upd2_s, q4, q5⟩, ?_, ?_, aS.2, ?_, a3⟩
  · intro f m i hf hm; rw [upd2_o (by omega)]; exact a2 f m i hf hm
  · intro h hh; rw [upd2_o (by decide), if_neg (by omega)]; exact aS.1 h hh
  · rw [upd2_o (by decide)]; exact aB
theorem beat1 {q : Nat} (h : RT F G ns nh nw t tp A np d e l c p q) (hq : q < nh) : ∃ F' G', RT F' G' ns nh nw t tp A np d e l c p (q + 1) ∧ (∀ o, o ≠ 14 → G' o = G o) ∧ (NZ F → NZ F') ∧ (∀ (w : zW) (a : Nat) (D : zD) j, LF w a → S_Hearers_countBeats_S1 w (a + 9) j (nI q) (zblk D a F) = j (nI (q + 1)) (zblk D a F')) := by
  obtain ⟨h1, ⟨q1, q2, q3, q4, q5⟩, a2, aS, aN, aB, aI, aE, aK⟩ := id h
  obtain ⟨n0, n1, n2, n3, n4, n5, n6, n7⟩ := id aI.1
  have hq4 : q < 4 := by omega
  have hF9 : F 9 6 = nI nh := by rw [r9_6 h1, n2]
  have hc : ¬ nI nh ≤ nI q := by rw [nI_leI (by omega) (by omega)]; omega
  have h15 : F 15 q = nI (msk G t q) := by rw [(aS q hq4).1, if_neg (by omega)]
  have hbit := fun (w : zW) (D : zD) => @e_bit w D (msk G t q) msk_lt
  have hcs : csum G t q ns = pop4 (msk G t q) := csum_4 n1 (fun s h2 h3 => aN q s hq4 h2 h3)
  have hp4 : pop4 (msk G t q) < 100 := by unfold pop4; omega
  have keepc : ∀ v, keep (upd2 G 14 q v) nh np = keep G nh np := by
    intro v; apply keep_congr; intro i hi; unfold gone; simp (disch := omega) only [upd2_o]
  have mskc : ∀ v h, msk (upd2 G 14 q v) t h = msk G t h := by
    intro v h; unfold msk; simp (disch := omega) only [upd2_o]
  have h15' : ∀ (X : Nat → Nat → Int32) v, (∀ i, X 15 i = F 15 i) → ∀ h, h < 4 → (upd2 X 15 q 0) 15 h = (if h < q + 1 then 0 else nI (msk (upd2 G 14 q v) t h)) ∧ (nh ≤ h → (upd2 X 15 q 0) 15 h = 0) := by
    intro X v hX h hh
    rw [mskc]
    by_cases hhq : h = q
    · subst hhq; rw [upd2_s, if_pos (by omega)]; exact ⟨rfl, fun _ => rfl⟩
    · rw [upd2_i hhq, hX]
      refine ⟨?_, (aS h hh).2⟩
      rw [(aS h hh).1]
      by_cases hlt : h < q
      · rw [if_pos hlt, if_pos (by omega)]
      · rw [if_neg hlt, if_neg (by omega)]
  by_cases hb1 : csum G t q ns ≤ 1
  · have hlt : nI (pop4 (msk G t q)) < 2 := by rw [← hcs]; exact nI_lt (show csum G t q ns < 2 by omega) (by decide)
    refine ⟨upd2 F 15 q 0, upd2 G 14 q (G 14 q + 0), ?_, fun o ho => upd2_o ho, fun hz => NZ_u hz (Or.inr ⟨rfl, hq4⟩), ?_⟩
    · have z0 : G 14 q + 0 = G 14 q := by grind
      refine ⟨R1_f (by rw [z0, upd2_self]; exact h1) (by unfold St; omega), ⟨by rw [upd2_o (by decide)]; exact q1, q2, by rw [upd2_o (by decide), keepc]; exact q3, by rw [upd2_o (by decide)]; exact q4, q5⟩, ?_, h15' F _ (fun _ => rfl), ?_, ?_, ?_, ?_, ?_⟩
      · intro f m i hf hm; rw [keepc] at hm; rw [upd2_o (by omega), upd2_o (by omega)]; exact a2 f m i hf hm
      · rw [upd2_o (by decide)]; exact aN
      · rw [z0, upd2_self, upd2_o (by decide)]; exact aB
      · exact Ist_congr aI (fun o _ _ h14 => upd2_o h14)
      · unfold IE at aE ⊢; simp (disch := omega) only [upd2_o]; exact aE
      · unfold IK at aK ⊢; simp (disch := omega) only [upd2_o]; exact aK
    · intro w a D j hL
      unfold S_Hearers_countBeats_S1
      simp (disch := omega) only [↓zjpE, ↓zletE, ↓zciE, ↓zcvE, ↓zchkE, ↓reduceIte, zciE, zcvE, nI_1, ↓Lo0 hL, Lo0 hL, ↓Lr0_0 hL, Lr0_0 hL, ↓Lr0_1 hL, Lr0_1 hL, ↓Lr0_2 hL, Lr0_2 hL, ↓Lr0_3 hL, Lr0_3 hL, ↓Lr0_4 hL, Lr0_4 hL, ↓Lg0_5 hL, Lg0_5 hL, ↓Lp0_5 hL, Lp0_5 hL, ↓Lg0_6 hL, Lg0_6 hL, ↓Lp0_6 hL, Lp0_6 hL, ↓Lg0_7 hL, Lg0_7 hL, ↓Lp0_7 hL, Lp0_7 hL, ↓Lg0_8 hL, Lg0_8 hL, ↓Lp0_8 hL, Lp0_8 hL, ↓Lo1 hL, Lo1 hL, ↓Lr1_0 hL, Lr1_0 hL, ↓Lr1_1 hL, Lr1_1 hL, ↓Lr1_2 hL, Lr1_2 hL, ↓Lr1_3 hL, Lr1_3 hL, ↓Lr1_4 hL, Lr1_4 hL, ↓Lr1_5 hL, Lr1_5 hL, ↓Lr1_6 hL, Lr1_6 hL, ↓Lg1_7 hL, Lg1_7 hL, ↓Lp1_7 hL, Lp1_7 hL, ↓Lo9 hL, Lo9 hL, ↓Lr9_0 hL, Lr9_0 hL, ↓Lr9_1 hL, Lr9_1 hL, ↓Lr9_2 hL, Lr9_2 hL, ↓Lr9_3 hL, Lr9_3 hL, ↓Lr9_4 hL, Lr9_4 hL, ↓Lr9_5 hL, Lr9_5 hL, ↓Lg9_6 hL, Lg9_6 hL, ↓Lp9_6 hL, Lp9_6 hL, ↓Lg9_7 hL, Lg9_7 hL, ↓Lp9_7 hL, Lp9_7 hL, ↓Lo16 hL, Lo16 hL, ↓Lr16_0 hL, Lr16_0 hL, ↓Lr16_1 hL, Lr16_1 hL, ↓Lg16_2 hL, Lg16_2 hL, ↓Lp16_2 hL, Lp16_2 hL, ↓Lo19 hL, Lo19 hL, ↓Lr19_0 hL, Lr19_0 hL, ↓Lr19_1 hL, Lr19_1 hL, ↓Lr19_2 hL, Lr19_2 hL, ↓Lr19_3 hL, Lr19_3 hL, ↓Lr19_4 hL, Lr19_4 hL, ↓Lr19_5 hL, Lr19_5 hL, ↓Lg19_6 hL, Lg19_6 hL, ↓Lp19_6 hL, Lp19_6 hL, ↓Lg19_7 hL, Lg19_7 hL, ↓Lp19_7 hL, Lp19_7 hL, ↓Lo26 hL, Lo26 hL, ↓Lr26_0 hL, Lr26_0 hL, ↓Lr26_1 hL, Lr26_1 hL, ↓Lr26_2 hL, Lr26_2 hL, ↓Lr26_3 hL, Lr26_3 hL, ↓Lr26_4 hL, Lr26_4 hL, ↓Lr26_5 hL, Lr26_5 hL, ↓Lg26_6 hL, Lg26_6 hL, ↓Lp26_6 hL, Lp26_6 hL, ↓Lg26_7 hL, Lg26_7 hL, ↓Lp26_7 hL, Lp26_7 hL, ↓Lg26_8 hL, Lg26_8 hL, ↓Lp26_8 hL, Lp26_8 hL, ↓La2 hL, La2 hL, ↓Ls2 hL, Ls2 hL, ↓La3 hL, La3 hL, ↓Ls3 hL, Ls3 hL, ↓La4 hL, La4 hL, ↓Ls4 hL, Ls4 hL, ↓La5 hL, La5 hL, ↓Ls5 hL, Ls5 hL, ↓La6 hL, La6 hL, ↓Ls6 hL, Ls6 hL, ↓La7 hL, La7 hL, ↓Ls7 hL, Ls7 hL, ↓La8 hL, La8 hL, ↓Ls8 hL, Ls8 hL, ↓La10 hL, La10 hL, ↓Ls10 hL, Ls10 hL, ↓La11 hL, La11 hL, ↓Ls11 hL, Ls11 hL, ↓La12 hL, La12 hL, ↓Ls12 hL, Ls12 hL, ↓La13 hL, La13 hL, ↓Ls13 hL, Ls13 hL, ↓La14 hL, La14 hL, ↓Ls14 hL, Ls14 hL, ↓La15 hL, La15 hL, ↓Ls15 hL, Ls15 hL, ↓La17 hL, La17 hL, ↓Ls17 hL, Ls17 hL, ↓La18 hL, La18 hL, ↓Ls18 hL, Ls18 hL, ↓La20 hL, La20 hL, ↓Ls20 hL, Ls20 hL, ↓La21 hL, La21 hL, ↓Ls21 hL, Ls21 hL, ↓La22 hL, La22 hL, ↓Ls22 hL, Ls22 hL, ↓La23 hL, La23 hL, ↓Ls23 hL, Ls23 hL, ↓La24 hL, La24 hL, ↓Ls24 hL, Ls24 hL, ↓La25 hL, La25 hL, ↓Ls25 hL, Ls25 hL, ↓La27 hL, La27 hL, ↓Ls27 hL, Ls27 hL, ↓La28 hL, La28 hL, ↓Ls28 hL, Ls28 hL, ↓La29 hL, La29 hL, ↓Ls29 hL, Ls29 hL, ↓La30 hL, La30 hL, ↓Ls30 hL, Ls30 hL, ↓La31 hL, La31 hL, ↓Ls31 hL, Ls31 hL, ↓La32 hL, La32 hL, ↓Ls32 hL, Ls32 hL, hF9, hc, h15, ↓zciX (hbit _ _), hlt]
  · have hlt : ¬ nI (pop4 (msk G t q)) < 2 := by rw [← hcs]; exact nI_nlt (show 2 ≤ csum G t q ns by omega) (by omega)
    refine ⟨upd2 (upd2 (upd2 F 14 q (F 14 q + 1)) 9 7 (F 9 7 + 1)) 15 q 0, upd2 G 14 q (G 14 q + 1), ?_, fun o ho => upd2_o ho, fun hz => NZ_u (NZ_u (NZ_u hz (Or.inl (by unfold Cp; omega))) (Or.inl (by unfold Cp; omega))) (Or.inr ⟨rfl, hq4⟩), ?_⟩
    · refine ⟨R1_f (R1_f (R1_u h1 (by rw [r14 h1 hq4])) (by unfold St; omega)) (by unfold St; omega), ⟨by simp (disch := omega) only [upd2_o]; exact q1, q2, by simp (disch := omega) only [upd2_o]; rw [keepc]; exact q3, by rw [upd2_o (by decide)]; exact q4, q5⟩, ?_, h15' _ _ (fun i => by simp (disch := omega) only [upd2_o]), ?_, ?_, ?_, ?_, ?_⟩
      · intro f m i hf hm; rw [keepc] at hm; simp (disch := omega) only [upd2_o]; exact a2 f m i hf hm
      · rw [upd2_o (by decide)]; exact aN
      · rw [bsum_upd, if_pos hq, upd2_o (by decide), upd2_s, aB]
      · exact Ist_congr aI (fun o _ _ h14 => upd2_o h14)
      · unfold IE at aE ⊢; simp (disch := omega) only [upd2_o]; exact aE
      · unfold IK at aK ⊢; simp (disch := omega) only [upd2_o]; exact aK
    · intro w a D j hL
      unfold S_Hearers_countBeats_S1
      simp (disch := omega) only [↓zjpE, ↓zletE, ↓zciE, ↓zcvE, ↓zchkE, ↓reduceIte, zciE, zcvE, nI_1, ↓Lo0 hL, Lo0 hL, ↓Lr0_0 hL, Lr0_0 hL, ↓Lr0_1 hL, Lr0_1 hL, ↓Lr0_2 hL, Lr0_2 hL, ↓Lr0_3 hL, Lr0_3 hL, ↓Lr0_4 hL, Lr0_4 hL, ↓Lg0_5 hL, Lg0_5 hL, ↓Lp0_5 hL, Lp0_5 hL, ↓Lg0_6 hL, Lg0_6 hL, ↓Lp0_6 hL, Lp0_6 hL, ↓Lg0_7 hL, Lg0_7 hL, ↓Lp0_7 hL, Lp0_7 hL, ↓Lg0_8 hL, Lg0_8 hL, ↓Lp0_8 hL, Lp0_8 hL, ↓Lo1 hL, Lo1 hL, ↓Lr1_0 hL, Lr1_0 hL, ↓Lr1_1 hL, Lr1_1 hL, ↓Lr1_2 hL, Lr1_2 hL, ↓Lr1_3 hL, Lr1_3 hL, ↓Lr1_4 hL, Lr1_4 hL, ↓Lr1_5 hL, Lr1_5 hL, ↓Lr1_6 hL, Lr1_6 hL, ↓Lg1_7 hL, Lg1_7 hL, ↓Lp1_7 hL, Lp1_7 hL, ↓Lo9 hL, Lo9 hL, ↓Lr9_0 hL, Lr9_0 hL, ↓Lr9_1 hL, Lr9_1 hL, ↓Lr9_2 hL, Lr9_2 hL, ↓Lr9_3 hL, Lr9_3 hL, ↓Lr9_4 hL, Lr9_4 hL, ↓Lr9_5 hL, Lr9_5 hL, ↓Lg9_6 hL, Lg9_6 hL, ↓Lp9_6 hL, Lp9_6 hL, ↓Lg9_7 hL, Lg9_7 hL, ↓Lp9_7 hL, Lp9_7 hL, ↓Lo16 hL, Lo16 hL, ↓Lr16_0 hL, Lr16_0 hL, ↓Lr16_1 hL, Lr16_1 hL, ↓Lg16_2 hL, Lg16_2 hL, ↓Lp16_2 hL, Lp16_2 hL, ↓Lo19 hL, Lo19 hL, ↓Lr19_0 hL, Lr19_0 hL, ↓Lr19_1 hL, Lr19_1 hL, ↓Lr19_2 hL, Lr19_2 hL, ↓Lr19_3 hL, Lr19_3 hL, ↓Lr19_4 hL, Lr19_4 hL, ↓Lr19_5 hL, Lr19_5 hL, ↓Lg19_6 hL, Lg19_6 hL, ↓Lp19_6 hL, Lp19_6 hL, ↓Lg19_7 hL, Lg19_7 hL, ↓Lp19_7 hL, Lp19_7 hL, ↓Lo26 hL, Lo26 hL, ↓Lr26_0 hL, Lr26_0 hL, ↓Lr26_1 hL, Lr26_1 hL, ↓Lr26_2 hL, Lr26_2 hL, ↓Lr26_3 hL, Lr26_3 hL, ↓Lr26_4 hL, Lr26_4 hL, ↓Lr26_5 hL, Lr26_5 hL, ↓Lg26_6 hL, Lg26_6 hL, ↓Lp26_6 hL, Lp26_6 hL, ↓Lg26_7 hL, Lg26_7 hL, ↓Lp26_7 hL, Lp26_7 hL, ↓Lg26_8 hL, Lg26_8 hL, ↓Lp26_8 hL, Lp26_8 hL, ↓La2 hL, La2 hL, ↓Ls2 hL, Ls2 hL, ↓La3 hL, La3 hL, ↓Ls3 hL, Ls3 hL, ↓La4 hL, La4 hL, ↓Ls4 hL, Ls4 hL, ↓La5 hL, La5 hL, ↓Ls5 hL, Ls5 hL, ↓La6 hL, La6 hL, ↓Ls6 hL, Ls6 hL, ↓La7 hL, La7 hL, ↓Ls7 hL, Ls7 hL, ↓La8 hL, La8 hL, ↓Ls8 hL, Ls8 hL, ↓La10 hL, La10 hL, ↓Ls10 hL, Ls10 hL, ↓La11 hL, La11 hL, ↓Ls11 hL, Ls11 hL, ↓La12 hL, La12 hL, ↓Ls12 hL, Ls12 hL, ↓La13 hL, La13 hL, ↓Ls13 hL, Ls13 hL, ↓La14 hL, La14 hL, ↓Ls14 hL, Ls14 hL, ↓La15 hL, La15 hL, ↓Ls15 hL, Ls15 hL, ↓La17 hL, La17 hL, ↓Ls17 hL, Ls17 hL, ↓La18 hL, La18 hL, ↓Ls18 hL, Ls18 hL, ↓La20 hL, La20 hL, ↓Ls20 hL, Ls20 hL, ↓La21 hL, La21 hL, ↓Ls21 hL, Ls21 hL, ↓La22 hL, La22 hL, ↓Ls22 hL, Ls22 hL, ↓La23 hL, La23 hL, ↓Ls23 hL, Ls23 hL, ↓La24 hL, La24 hL, ↓Ls24 hL, Ls24 hL, ↓La25 hL, La25 hL, ↓Ls25 hL, Ls25 hL, ↓La27 hL, La27 hL, ↓Ls27 hL, Ls27 hL, ↓La28 hL, La28 hL, ↓Ls28 hL, Ls28 hL, ↓La29 hL, La29 hL, ↓Ls29 hL, Ls29 hL, ↓La30 hL, La30 hL, ↓Ls30 hL, Ls30 hL, ↓La31 hL, La31 hL, ↓Ls31 hL, Ls31 hL, ↓La32 hL, La32 hL, ↓Ls32 hL, Ls32 hL, hF9, hc, h15, ↓zciX (hbit _ _), hlt, upd2_o]
theorem beatAll (h : RT F G ns nh nw t tp A np d e l c p 0) : ∃ F' G', RT F' G' ns nh nw t tp A np d e l c p nh ∧ (∀ o, o ≠ 14 → G' o = G o) ∧ (NZ F → NZ F') ∧ (∀ (w : zW) (a : Nat) (D : zD), LF w a → f_Hearers_countBeats w (zblk D a F) (a + 9) = some (zblk D a F')) := by
  obtain ⟨-, -, -, -, -, -, ⟨⟨-, -, -, n3, -⟩, -⟩, -⟩ := id h
  obtain ⟨s', ⟨hR, m4, mz⟩, w1⟩ := lpU (δ := UW) (bot := fun (_ : Int32) (_ : zD) => none) (st := fun X => S_Hearers_countBeats_S1 X.1.1 (X.1.2.1 + 9)) (n := nh) (fun q s => RT s.1 s.2 ns nh nw t tp A np d e l c p q ∧ (∀ o, o ≠ 14 → s.2 o = G o) ∧ (NZ F → NZ s.1)) (fun X g q x => g (nI q) (zblk X.1.2.2 X.1.2.1 x.1)) (by
    intro q x hq hx
    obtain ⟨hR, m4, mz⟩ := hx
    obtain ⟨F', G', hR', z4, zz, z6⟩ := beat1 hR hq
    exact ⟨(F', G'), ⟨hR', fun o ho => (z4 o ho).trans (m4 o ho), fun hz => zz (mz hz)⟩, fun X j => z6 X.1.1 X.1.2.1 X.1.2.2 j X.2⟩) nh 0 (F, G) (by omega) ⟨h, fun _ _ => rfl, id⟩
  obtain ⟨x1, ⟨-, -, -, y4, -⟩, -, -, -, -, ⟨⟨-, -, y2, -⟩, -⟩, -⟩ := id hR
  have hend : nI nh ≤ nI nh := nI_le (Nat.le_refl nh) (by omega)
  refine ⟨s'.1, s'.2, hR, m4, mz, ?_⟩
  intro w a D hL
  obtain ⟨j, hj⟩ := w1 ⟨(w, a, D), hL⟩ zfuel (by unfold zfuel; omega)
  rw [u_Hearers_countBeats]
  simp only [↓zjpE]
  refine hj.trans ?_
  unfold S_Hearers_countBeats_S1
  simp only [↓zjpE, ↓zletE, ↓zciE, ↓zcvE, ↓zchkE, ↓reduceIte, zciE, zcvE, nI_1, ↓Lo0 hL, Lo0 hL, ↓Lr0_0 hL, Lr0_0 hL, ↓Lr0_1 hL, Lr0_1 hL, ↓Lr0_2 hL, Lr0_2 hL, ↓Lr0_3 hL, Lr0_3 hL, ↓Lr0_4 hL, Lr0_4 hL, ↓Lg0_5 hL, Lg0_5 hL, ↓Lp0_5 hL, Lp0_5 hL, ↓Lg0_6 hL, Lg0_6 hL, ↓Lp0_6 hL, Lp0_6 hL, ↓Lg0_7 hL, Lg0_7 hL, ↓Lp0_7 hL, Lp0_7 hL, ↓Lg0_8 hL, Lg0_8 hL, ↓Lp0_8 hL, Lp0_8 hL, ↓Lo1 hL, Lo1 hL, ↓Lr1_0 hL, Lr1_0 hL, ↓Lr1_1 hL, Lr1_1 hL, ↓Lr1_2 hL, Lr1_2 hL, ↓Lr1_3 hL, Lr1_3 hL, ↓Lr1_4 hL, Lr1_4 hL, ↓Lr1_5 hL, Lr1_5 hL, ↓Lr1_6 hL, Lr1_6 hL, ↓Lg1_7 hL, Lg1_7 hL, ↓Lp1_7 hL, Lp1_7 hL, ↓Lo9 hL, Lo9 hL, ↓Lr9_0 hL, Lr9_0 hL, ↓Lr9_1 hL, Lr9_1 hL, ↓Lr9_2 hL, Lr9_2 hL, ↓Lr9_3 hL, Lr9_3 hL, ↓Lr9_4 hL, Lr9_4 hL, ↓Lr9_5 hL, Lr9_5 hL, ↓Lg9_6 hL, Lg9_6 hL, ↓Lp9_6 hL, Lp9_6 hL, ↓Lg9_7 hL, Lg9_7 hL, ↓Lp9_7 hL, Lp9_7 hL, ↓Lo16 hL, Lo16 hL, ↓Lr16_0 hL, Lr16_0 hL, ↓Lr16_1 hL, Lr16_1 hL, ↓Lg16_2 hL, Lg16_2 hL, ↓Lp16_2 hL, Lp16_2 hL, ↓Lo19 hL, Lo19 hL, ↓Lr19_0 hL, Lr19_0 hL, ↓Lr19_1 hL, Lr19_1 hL, ↓Lr19_2 hL, Lr19_2 hL, ↓Lr19_3 hL, Lr19_3 hL, ↓Lr19_4 hL, Lr19_4 hL, ↓Lr19_5 hL, Lr19_5 hL, ↓Lg19_6 hL, Lg19_6 hL, ↓Lp19_6 hL, Lp19_6 hL, ↓Lg19_7 hL, Lg19_7 hL, ↓Lp19_7 hL, Lp19_7 hL, ↓Lo26 hL, Lo26 hL, ↓Lr26_0 hL, Lr26_0 hL, ↓Lr26_1 hL, Lr26_1 hL, ↓Lr26_2 hL, Lr26_2 hL, ↓Lr26_3 hL, Lr26_3 hL, ↓Lr26_4 hL, Lr26_4 hL, ↓Lr26_5 hL, Lr26_5 hL, ↓Lg26_6 hL, Lg26_6 hL, ↓Lp26_6 hL, Lp26_6 hL, ↓Lg26_7 hL, Lg26_7 hL, ↓Lp26_7 hL, Lp26_7 hL, ↓Lg26_8 hL, Lg26_8 hL, ↓Lp26_8 hL, Lp26_8 hL, ↓La2 hL, La2 hL, ↓Ls2 hL, Ls2 hL, ↓La3 hL, La3 hL, ↓Ls3 hL, Ls3 hL, ↓La4 hL, La4 hL, ↓Ls4 hL, Ls4 hL, ↓La5 hL, La5 hL, ↓Ls5 hL, Ls5 hL, ↓La6 hL, La6 hL, ↓Ls6 hL, Ls6 hL, ↓La7 hL, La7 hL, ↓Ls7 hL, Ls7 hL, ↓La8 hL, La8 hL, ↓Ls8 hL, Ls8 hL, ↓La10 hL, La10 hL, ↓Ls10 hL, Ls10 hL, ↓La11 hL, La11 hL, ↓Ls11 hL, Ls11 hL, ↓La12 hL, La12 hL, ↓Ls12 hL, Ls12 hL, ↓La13 hL, La13 hL, ↓Ls13 hL, Ls13 hL, ↓La14 hL, La14 hL, ↓Ls14 hL, Ls14 hL, ↓La15 hL, La15 hL, ↓Ls15 hL, Ls15 hL, ↓La17 hL, La17 hL, ↓Ls17 hL, Ls17 hL, ↓La18 hL, La18 hL, ↓Ls18 hL, Ls18 hL, ↓La20 hL, La20 hL, ↓Ls20 hL, Ls20 hL, ↓La21 hL, La21 hL, ↓Ls21 hL, Ls21 hL, ↓La22 hL, La22 hL, ↓Ls22 hL, Ls22 hL, ↓La23 hL, La23 hL, ↓Ls23 hL, Ls23 hL, ↓La24 hL, La24 hL, ↓Ls24 hL, Ls24 hL, ↓La25 hL, La25 hL, ↓Ls25 hL, Ls25 hL, ↓La27 hL, La27 hL, ↓Ls27 hL, Ls27 hL, ↓La28 hL, La28 hL, ↓Ls28 hL, Ls28 hL, ↓La29 hL, La29 hL, ↓Ls29 hL, Ls29 hL, ↓La30 hL, La30 hL, ↓Ls30 hL, Ls30 hL, ↓La31 hL, La31 hL, ↓Ls31 hL, Ls31 hL, ↓La32 hL, La32 hL, ↓Ls32 hL, Ls32 hL, r9_6 x1, y2, hend]
end P48
theorem keep_ngone {G : Nat → Nat → Int32} {nh k : Nat} : ∀ i ∈ keep G nh k, ¬ gone G nh i := by
  induction k with
  | zero => intro i hi; cases hi
  | succ k ih =>
    intro i hi
    unfold keep at hi
    by_cases hg : gone G nh k
    · rw [if_pos hg] at hi; exact ih i hi
    · rw [if_neg hg] at hi
      rcases List.mem_append.1 hi with h | h
      · exact ih i h
      · rw [List.mem_singleton] at h; subst h; exact hg
/-- what stays, in order -/
def dropK (G : Nat → Nat → Int32) (L : List Nat) : Nat → Nat → Int32 := fun o j => if 20 ≤ o ∧ o < 26 then (match L[j]? with
  | some i => G o i
  | none => 0) else if o = 19 ∧ j = 7 then nI L.length else G o j
theorem dropK_o {G : Nat → Nat → Int32} {L : List Nat} {o : Nat} (h : ¬ (20 ≤ o ∧ o < 26)) (h9 : o ≠ 19) : dropK G L o = G o := by
  funext j; unfold dropK; rw [if_neg h, if_neg (fun hx => h9 hx.1)]
theorem dropK_7 {G : Nat → Nat → Int32} {L : List Nat} : dropK G L 19 7 = nI L.length := by
  unfold dropK; rw [if_neg (by omega), if_pos ⟨rfl, rfl⟩]
theorem dropK_p {G : Nat → Nat → Int32} {L : List Nat} {f m i : Nat} (hf : f < 6) (hm : L[m]? = some i) : dropK G L (20 + f) m = G (20 + f) i := by
  unfold dropK; rw [if_pos (by omega), hm]
theorem keep_inc {G : Nat → Nat → Int32} {nh : Nat} : ∀ (k m m' i i' : Nat), m ≤ m' → (keep G nh k)[m]? = some i → (keep G nh k)[m']? = some i' → i ≤ i' := by
  intro k
  induction k with
  | zero => intro m m' i i' _ h; unfold keep at h; simp at h
  | succ k ih =>
    intro m m' i i' hm h h'
    unfold keep at h h'
    by_cases hg : gone G nh k
    · rw [if_pos hg] at h h'; exact ih m m' i i' hm h h'
    · rw [if_neg hg] at h h'
      by_cases h1 : m' < (keep G nh k).length
      · rw [List.getElem?_append_left h1] at h'
        rw [List.getElem?_append_left (by omega)] at h
        exact ih m m' i i' hm h h'
      · rw [List.getElem?_append_right (by omega)] at h'
        have hi' : i' = k := by
          have := List.mem_of_getElem? h'
          rw [List.mem_singleton] at this; exact this
        subst hi'
        by_cases h2 : m < (keep G nh i').length
        · rw [List.getElem?_append_left h2] at h
          exact Nat.le_of_lt (keep_lt i (List.mem_of_getElem? h))
        · rw [List.getElem?_append_right (by omega)] at h
          have := List.mem_of_getElem? h
          rw [List.mem_singleton] at this; omega
section P49
variable {A : Prop} {w : zW} {a b ns nh nw t te tp np d e l c p k B : Nat} {D : zD} {F G : Nat → Nat → Int32}
theorem RI_time (h : RI F G ns nh nw t te tp A np d e l c) (ht : t + 1 < 4000000) : RI (upd2 F 0 5 (F 0 5 + 1)) (upd2 G 0 5 (G 0 5 + 1)) ns nh nw (t + 1) te tp A np d e l c := by
  obtain ⟨h1, ⟨p, hq⟩, hz, hB, i0, hS, hH, hW, hC, hP, hE, hK, hA⟩ := h
  refine ⟨R1_u h1 (by rw [r0_5 h1]), ⟨p, ?_⟩, ?_, ?_, ?_, ?_, ?_, ?_, ?_, ?_, ?_, ?_, ?_⟩
  · unfold RQ at hq ⊢; simp (disch := omega) only [upd2_o]; exact hq
  · unfold RZ at hz ⊢; simp (disch := omega) only [upd2_o]; exact hz
  · rw [bsum_o (by decide), upd2_o (by decide)]; exact hB
  · obtain ⟨n0, n1, n2, n3, n4, n5, n6, n7⟩ := i0
    unfold I0; simp (disch := omega) only [upd2_o, upd2_s]; exact ⟨n0, n1, n2, n3, n4, n5, by rw [n6, nI_1], ht⟩
  · unfold IS at hS ⊢; simp (disch := omega) only [upd2_o]; exact hS
  · unfold IH at hH ⊢; simp (disch := omega) only [upd2_o]; exact hH
  · unfold IW at hW ⊢; simp (disch := omega) only [upd2_o]; exact hW
  · unfold IC at hC ⊢; simp (disch := omega) only [upd2_i]; exact hC
  · unfold IP at hP ⊢; simp (disch := omega) only [upd2_o]; exact hP
  · unfold IE at hE ⊢; simp (disch := omega) only [upd2_o]; exact hE
  · unfold IK at hK ⊢; simp (disch := omega) only [upd2_o]; exact hK
  · unfold IA at hA ⊢; simp (disch := omega) only [upd2_o]; exact hA
theorem RI_end0 {Gf : Nat → Nat → Int32} (h : RT F G ns nh nw t tp A np d e l c p nh) (s1 : ∀ o, ¬ (20 ≤ o ∧ o < 26) → o ≠ 19 → Gf o = G o) (s2 : Gf 19 7 = nI (keep G nh np).length) (s4 : ∀ f m i, f < 6 → (keep G nh np)[m]? = some i → Gf (20 + f) m = G (20 + f) i) : RI F Gf ns nh nw t t tp A (keep G nh np).length d e l c ∧ ∀ k, k < (keep G nh np).length → Gf 0 5 - Gf 23 k < Gf 0 8 := by
  obtain ⟨h1, ⟨q1, q2, q3, q4, q5⟩, a2, aS, aN, aB, ⟨i0, iS, iH, iW, iC, iP, iA⟩, aE, aK⟩ := h
  have hlen := @keep_len G nh np
  have hget : ∀ m, m < (keep G nh np).length → ∃ i, (keep G nh np)[m]? = some i ∧ i < np ∧ ¬ gone G nh i := by
    intro m hm
    refine ⟨(keep G nh np)[m], List.getElem?_eq_getElem hm, keep_lt _ (List.getElem_mem hm), keep_ngone _ (List.getElem_mem hm)⟩
  refine ⟨⟨?_, ⟨p, q1, q2, q3, s2, by omega, ?_⟩, ?_, ?_, ?_, ?_, ?_, ?_, ?_, ?_, ?_, ?_, ?_⟩, ?_⟩
  · intro o j hs
    rw [s1 o (by unfold St at hs; omega) (by unfold St at hs; omega)]; exact h1 o j hs
  · intro f m hf hm
    obtain ⟨i, hi, -⟩ := hget m hm
    rw [s4 f m i hf hi]; exact a2 f m i hf hi
  · intro r hr
    by_cases hrn : r < nh
    · rw [(aS r hr).1, if_pos hrn]
    · exact (aS r hr).2 (by omega)
  · rw [aB]; exact (bsum_congr (s1 14 (by omega) (by omega))).symm
  · unfold I0 at i0 ⊢; simp (disch := omega) only [s1]; exact i0
  · unfold IS at iS ⊢; simp (disch := omega) only [s1]; exact iS
  · unfold IH at iH ⊢; simp (disch := omega) only [s1]; exact iH
  · unfold IW at iW ⊢; simp (disch := omega) only [s1]; exact iW
  · unfold IC at iC ⊢; simp (disch := omega) only [s1]; exact iC
  · intro m hm
    obtain ⟨i, hi, hin, -⟩ := hget m hm
    have g0 := s4 0 m i (by decide) hi
    have g1 := s4 1 m i (by decide) hi
    have g2 := s4 2 m i (by decide) hi
    have g3 := s4 3 m i (by decide) hi
    have g4 := s4 4 m i (by decide) hi
    rw [show Gf 20 m = _ from g0, show Gf 21 m = _ from g1, show Gf 22 m = _ from g2, show Gf 23 m = _ from g3, show Gf 24 m = _ from g4]
    exact iP i hin
  · unfold IE at aE ⊢; simp (disch := omega) only [s1]; exact aE
  · unfold IK at aK ⊢; simp (disch := omega) only [s1]; exact aK
  · unfold IA at iA ⊢; simp (disch := omega) only [s1]; exact iA
  · intro m hm
    obtain ⟨i, hi, hin, hng⟩ := hget m hm
    have g3 := s4 3 m i (by decide) hi
    rw [show Gf 23 m = _ from g3, s1 0 (by omega) (by omega)]
    unfold gone at hng
    have h3 : ¬ ¬ (G 0 5 - G 23 i < G 0 8) := fun hx => hng (Or.inr hx)
    exact Decidable.not_not.1 h3
theorem RI_end (h : RT F G ns nh nw t tp A np d e l c p nh) (hj : JJ G ns nh np t d e l B) : ∃ G', RI F G' ns nh nw t t tp A (keep G nh np).length d e l c ∧ JJ G' ns nh (keep G nh np).length t d e l B ∧ Fr G G' ∧ ∀ k, k < (keep G nh np).length → G' 0 5 - G' 23 k < G' 0 8 := by
  obtain ⟨x1, x2⟩ := RI_end0 (Gf := dropK G (keep G nh np)) h (fun o h1 h2 => dropK_o h1 h2) dropK_7 (fun f m i hf hm => dropK_p hf hm)
  refine ⟨_, x1, ?_, ?_, x2⟩
  · obtain ⟨⟨h1, h1'⟩, ⟨N, E, L, hE⟩, g, q1, q2, q3⟩ := hj
    have hlen := @keep_len G nh np
    have hp : ∀ m, m < (keep G nh np).length → ∃ i, (keep G nh np)[m]? = some i ∧ i < np := fun m hm => ⟨(keep G nh np)[m], List.getElem?_eq_getElem hm, keep_lt _ (List.getElem_mem hm)⟩
    refine ⟨⟨fun m hm => ?_, fun m m' hm hm' => ?_⟩, ⟨N, E, L, ?_⟩, g, by rw [dropK_o (by omega) (by omega)]; exact q1, by omega, q3⟩
    · obtain ⟨i, hi, hin⟩ := hp m hm
      have g0 : dropK G (keep G nh np) 20 m = G 20 i := dropK_p (f := 0) (by decide) hi
      have g3 : dropK G (keep G nh np) 23 m = G 23 i := dropK_p (f := 3) (by decide) hi
      have g5 : dropK G (keep G nh np) 25 m = G 25 i := dropK_p (f := 5) (by decide) hi
      rw [g0, g3, g5, dropK_o (o := 6) (by omega) (by omega)]
      exact h1 i hin
    · obtain ⟨i, hi, hin⟩ := hp m (by omega)
      obtain ⟨i', hi', hin'⟩ := hp m' hm'
      have g3 : dropK G (keep G nh np) 23 m = G 23 i := dropK_p (f := 3) (by decide) hi
      have g3' : dropK G (keep G nh np) 23 m' = G 23 i' := dropK_p (f := 3) (by decide) hi'
      rw [g3, g3']
      exact h1' i i' (keep_inc np m m' i i' hm hi hi') hin'
    · unfold JE JE1 at hE ⊢; simp (disch := omega) only [dropK_o]; exact hE
  · exact Fr_of (fun o h1 h2 => dropK_o (by omega) (by omega)) (fun j hj => by rw [dropK_o (by omega) (by omega)]) (by rw [dropK_o (by omega) (by omega)])
/-- the tick -/
theorem tick (h : RI F G ns nh nw t te tp A np d e l c) (hj : JJ G ns nh np t d e l B) (hte : te ≤ t) (ht : t + 1 < 4000000) (hA : A → t + 1 ≤ tp) (hc : c + 240 < 2 ^ 30) (hB : B + 16 < 2 ^ 30) : ∃ F' G' np' d' e' l', RI F' G' ns nh nw (t + 1) (t + 1) tp A np' d' e' l' (c + 240) ∧ JJ G' ns nh np' (t + 1) d' e' l' (B + 16) ∧ d ≤ d' ∧ e ≤ e' ∧ l ≤ l' ∧ (∀ k, k < np' → G' 0 5 - G' 23 k < G' 0 8) ∧ (∀ o, 1 ≤ o → o ≠ 7 → (o < 10 ∨ (16 ≤ o ∧ o < 19)) → G' o = G o) ∧ (∀ j, 7 ≤ j → G' 0 j = G 0 j) ∧ (∀ i, i < 16 → G 27 i ≤ G' 27 i) ∧ (∀ s, s < ns → G' 7 s = stp G s) ∧ (NZ F → NZ F') ∧ (∀ (w : zW) (a : Nat) (D : zD), LF w a → f_Field_tick w (zblk D a F) a = some (zblk D a F')) := by
  have h0 := RI_time h ht
  have j0 : JJ (upd2 G 0 5 (G 0 5 + 1)) ns nh np (t + 1) d e l B := JJ_t (JJ_congr hj (fun o ho => upd2_o (by omega)) (upd2_i (by decide))) (Nat.le_succ t)
  obtain ⟨F1, G1, h1, b1, b2, nz1, c1⟩ := ph1 h0
  obtain ⟨F2, G2, h2, b3, nz2, c2⟩ := ph2 h1
  have j2 : JJ G2 ns nh np (t + 1) d e l B := JJ_congr j0 (fun o ho => by rw [b3 o (by omega), b1 o (by omega)]) (by rw [b3 0 (by omega), b1 0 (by omega)])
  obtain ⟨F3, G3, np3, h3, j3, f3, nz3, c3⟩ := ph3 hA (by omega) hB h2 j2
  obtain ⟨p, hR⟩ := RH_0 h3 (by omega)
  have hnp : np3 ≤ 60 := hR.2.1.2.2.2.2
  have hnh : nh ≤ 4 := hR.2.2.2.2.2.2.1.1.2.2.2.1
  obtain ⟨F4, G4, d4, e4, l4, h4, j4, f4, k1, k2, k3, k4, nz4, c4⟩ := hearAll hR j3 hc
  obtain ⟨F5, G5, h5, k5, nz5, c5⟩ := beatAll (RT_0 h4)
  have j5 : JJ G5 ns nh np3 (t + 1) d4 e4 l4 (B + 16) := JJ_congr j4 (fun o ho => k5 o (by omega)) (by rw [k5 0 (by decide)])
  have f5 : Fr G4 G5 := Fr_of (fun o h1 h2 => k5 o (by omega)) (fun j _ => by rw [k5 0 (by decide)]) (k5 27 (by decide))
  obtain ⟨G6, h6, j6, f6, h7⟩ := RI_end h5 j5
  have hmul : np3 * nh ≤ 240 := Nat.le_trans (Nat.mul_le_mul hnp hnh) (by decide)
  have fr := Fr_trans f3 (Fr_trans f4 (Fr_trans f5 f6))
  refine ⟨F5, G6, _, d4, e4, l4, ?_, j6, k1, k2, k3, h7, ?_, ?_, ?_, ?_, fun hz => nz5 (NZ_u (nz4 (nz3 (nz2 (nz1 (NZ_u hz (Or.inl (by unfold Cp; omega))))))) (Or.inl (by unfold Cp; omega))), ?_⟩
  · obtain ⟨x1, x2, x3, x4, x5, x6, x7, x8, x9, x10, x11, ⟨y1, y2, y3, y4, y5⟩, x13⟩ := h6
    exact ⟨x1, x2, x3, x4, x5, x6, x7, x8, x9, x10, x11, ⟨y1, y2, y3, by omega, y5⟩, x13⟩
  · intro o ho h7 hoo
    rw [fr.1 o ho hoo, b3 o (by omega), b1 o h7, upd2_o (by omega)]
  · intro j hj
    rw [fr.2.1 j hj, b3 0 (by omega), b1 0 (by omega), upd2_i (by omega)]
  · intro i hi
    have := fr.2.2 i hi
    rw [b3 27 (by omega), b1 27 (by omega), upd2_o (by decide)] at this
    exact this
  · intro s hs
    rw [fr.1 7 (by decide) (by decide), b3 7 (by omega), b2 s hs]
    unfold stp
    simp (disch := omega) only [upd2_o]
  · intro w a D hL
    rw [u_Field_tick]
    simp only [↓zjpE, ↓zletE, ↓zciE, ↓zcvE, ↓zchkE, ↓reduceIte, zciE, zcvE, nI_1, ↓Lo0 hL, Lo0 hL, ↓Lr0_0 hL, Lr0_0 hL, ↓Lr0_1 hL, Lr0_1 hL, ↓Lr0_2 hL, Lr0_2 hL, ↓Lr0_3 hL, Lr0_3 hL, ↓Lr0_4 hL, Lr0_4 hL, ↓Lg0_5 hL, Lg0_5 hL, ↓Lp0_5 hL, Lp0_5 hL, ↓Lg0_6 hL, Lg0_6 hL, ↓Lp0_6 hL, Lp0_6 hL, ↓Lg0_7 hL, Lg0_7 hL, ↓Lp0_7 hL, Lp0_7 hL, ↓Lg0_8 hL, Lg0_8 hL, ↓Lp0_8 hL, Lp0_8 hL, ↓Lo1 hL, Lo1 hL, ↓Lr1_0 hL, Lr1_0 hL, ↓Lr1_1 hL, Lr1_1 hL, ↓Lr1_2 hL, Lr1_2 hL, ↓Lr1_3 hL, Lr1_3 hL, ↓Lr1_4 hL, Lr1_4 hL, ↓Lr1_5 hL, Lr1_5 hL, ↓Lr1_6 hL, Lr1_6 hL, ↓Lg1_7 hL, Lg1_7 hL, ↓Lp1_7 hL, Lp1_7 hL, ↓Lo9 hL, Lo9 hL, ↓Lr9_0 hL, Lr9_0 hL, ↓Lr9_1 hL, Lr9_1 hL, ↓Lr9_2 hL, Lr9_2 hL, ↓Lr9_3 hL, Lr9_3 hL, ↓Lr9_4 hL, Lr9_4 hL, ↓Lr9_5 hL, Lr9_5 hL, ↓Lg9_6 hL, Lg9_6 hL, ↓Lp9_6 hL, Lp9_6 hL, ↓Lg9_7 hL, Lg9_7 hL, ↓Lp9_7 hL, Lp9_7 hL, ↓Lo16 hL, Lo16 hL, ↓Lr16_0 hL, Lr16_0 hL, ↓Lr16_1 hL, Lr16_1 hL, ↓Lg16_2 hL, Lg16_2 hL, ↓Lp16_2 hL, Lp16_2 hL, ↓Lo19 hL, Lo19 hL, ↓Lr19_0 hL, Lr19_0 hL, ↓Lr19_1 hL, Lr19_1 hL, ↓Lr19_2 hL, Lr19_2 hL, ↓Lr19_3 hL, Lr19_3 hL, ↓Lr19_4 hL, Lr19_4 hL, ↓Lr19_5 hL, Lr19_5 hL, ↓Lg19_6 hL, Lg19_6 hL, ↓Lp19_6 hL, Lp19_6 hL, ↓Lg19_7 hL, Lg19_7 hL, ↓Lp19_7 hL, Lp19_7 hL, ↓Lo26 hL, Lo26 hL, ↓Lr26_0 hL, Lr26_0 hL, ↓Lr26_1 hL, Lr26_1 hL, ↓Lr26_2 hL, Lr26_2 hL, ↓Lr26_3 hL, Lr26_3 hL, ↓Lr26_4 hL, Lr26_4 hL, ↓Lr26_5 hL, Lr26_5 hL, ↓Lg26_6 hL, Lg26_6 hL, ↓Lp26_6 hL, Lp26_6 hL, ↓Lg26_7 hL, Lg26_7 hL, ↓Lp26_7 hL, Lp26_7 hL, ↓Lg26_8 hL, Lg26_8 hL, ↓Lp26_8 hL, Lp26_8 hL, ↓La2 hL, La2 hL, ↓Ls2 hL, Ls2 hL, ↓La3 hL, La3 hL, ↓Ls3 hL, Ls3 hL, ↓La4 hL, La4 hL, ↓Ls4 hL, Ls4 hL, ↓La5 hL, La5 hL, ↓Ls5 hL, Ls5 hL, ↓La6 hL, La6 hL, ↓Ls6 hL, Ls6 hL, ↓La7 hL, La7 hL, ↓Ls7 hL, Ls7 hL, ↓La8 hL, La8 hL, ↓Ls8 hL, Ls8 hL, ↓La10 hL, La10 hL, ↓Ls10 hL, Ls10 hL, ↓La11 hL, La11 hL, ↓Ls11 hL, Ls11 hL, ↓La12 hL, La12 hL, ↓Ls12 hL, Ls12 hL, ↓La13 hL, La13 hL, ↓Ls13 hL, Ls13 hL, ↓La14 hL, La14 hL, ↓Ls14 hL, Ls14 hL, ↓La15 hL, La15 hL, ↓Ls15 hL, Ls15 hL, ↓La17 hL, La17 hL, ↓Ls17 hL, Ls17 hL, ↓La18 hL, La18 hL, ↓Ls18 hL, Ls18 hL, ↓La20 hL, La20 hL, ↓Ls20 hL, Ls20 hL, ↓La21 hL, La21 hL, ↓Ls21 hL, Ls21 hL, ↓La22 hL, La22 hL, ↓Ls22 hL, Ls22 hL, ↓La23 hL, La23 hL, ↓Ls23 hL, Ls23 hL, ↓La24 hL, La24 hL, ↓Ls24 hL, Ls24 hL, ↓La25 hL, La25 hL, ↓Ls25 hL, Ls25 hL, ↓La27 hL, La27 hL, ↓Ls27 hL, Ls27 hL, ↓La28 hL, La28 hL, ↓Ls28 hL, Ls28 hL, ↓La29 hL, La29 hL, ↓Ls29 hL, Ls29 hL, ↓La30 hL, La30 hL, ↓Ls30 hL, Ls30 hL, ↓La31 hL, La31 hL, ↓Ls31 hL, Ls31 hL, ↓La32 hL, La32 hL, ↓Ls32 hL, Ls32 hL, ↓zcvX (c1 w a _ hL), ↓zcvX (c2 w a _ hL)]
    rw [c3 w a D hL, c4 w a D hL, zcvE, c5 w a D hL, zcvE]
end P49
