/-! PURE: literals; a loop over every place of memory; the tick's first two phases. -/
theorem zl (n : Nat) : (OfNat.ofNat n : Int32) = nI n := rfl
/-- where a Field lies, and the memory around it -/
def UW : Type := {x : zW × Nat × zD // LF x.1 x.2.1}
theorem lpU {γ δ σ β : Type} {bot : γ} {st : δ → γ → γ} {n : Nat} (I : Nat → σ → Prop) (ev : δ → γ → Nat → σ → Option β) (h : ∀ k s, k < n → I k s → ∃ s', I (k + 1) s' ∧ (∀ D j, ev D (st D j) k s = ev D j (k + 1) s')) :
    ∀ m k s, k + m = n → I k s → ∃ s', I n s' ∧ (∀ D fuel, m < fuel → ∃ j, ev D (zlp bot (st D) fuel) k s = ev D (st D j) n s') := by
  intro m
  induction m with
  | zero =>
    intro k s hk hs
    have : k = n := by omega
    subst this
    refine ⟨s, hs, ?_⟩
    intro D fuel hf
    match fuel, hf with
    | f + 1, _ => exact ⟨zlp bot (st D) f, rfl⟩
  | succ m ih =>
    intro k s hk hs
    obtain ⟨s1, hs1, h1⟩ := h k s (by omega) hs
    obtain ⟨s', hs', h2⟩ := ih (k + 1) s1 (by omega) hs1
    refine ⟨s', hs', ?_⟩
    intro D fuel hf
    match fuel, hf with
    | f + 1, hf =>
      obtain ⟨j, hj⟩ := h2 D f (by omega)
      exact ⟨j, ((h1 D (zlp bot (st D) f)).trans hj)⟩
/-- the cells that are copied -/
def Cp (o j : Nat) : Prop := (o = 0 ∧ 5 ≤ j ∧ j < 9) ∨ (o = 1 ∧ j = 7) ∨ (2 ≤ o ∧ o < 9 ∧ j < 4) ∨ (o = 9 ∧ 6 ≤ j ∧ j < 8) ∨ (10 ≤ o ∧ o < 15 ∧ j < 4) ∨ (o = 16 ∧ j = 2) ∨ (17 ≤ o ∧ o < 19 ∧ j < 3) ∨ (o = 19 ∧ 6 ≤ j ∧ j < 8) ∨ (20 ≤ o ∧ o < 26 ∧ j < 60) ∨ (o = 26 ∧ 6 ≤ j ∧ j < 9) ∨ (27 ≤ o ∧ o < 33 ∧ j < 16)
/-- nothing lies beside them, but for what is heard within a tick -/
def NZ (F : Nat → Nat → Int32) : Prop := ∀ o j, ¬ Cp o j → ¬ (o = 15 ∧ j < 4) → F o j = 0
theorem NZ_u {F : Nat → Nat → Int32} {o j : Nat} {v : Int32} (h : NZ F) (hc : Cp o j ∨ (o = 15 ∧ j < 4)) : NZ (upd2 F o j v) := by
  intro q i h1 h2
  unfold upd2
  by_cases hq : q = o
  · by_cases hi : i = j
    · subst hq hi; exact absurd hc (by simp [h1, h2])
    · rw [if_pos hq, if_neg hi]; subst hq; exact h q i h1 h2
  · rw [if_neg hq]; exact h q i h1 h2
def nx (r sp v : Int32) : Int32 := if 0 ≤ v + sp then (if v + sp < 8 * r then v + sp else v + sp - 8 * r) else v + sp + 8 * r
def nxC (r p s : Nat) : Bool := decide (r = 0) || decide (8 * r ≤ p) || (decide (zirem (zirem (nI p + 1 * (nI s - 3)) (8 * nI r) + 8 * nI r) (8 * nI r) = nx (nI r) (nI s - 3) (nI p)) && decide (zirem (zirem (nI p + 0 * (nI s - 3)) (8 * nI r) + 8 * nI r) (8 * nI r) = nI p) && decide (0 ≤ nx (nI r) (nI s - 3) (nI p)) && decide (nx (nI r) (nI s - 3) (nI p) < 8 * nI r))
theorem nx_dec0 : ∀ r, r < 6 → ∀ p, p < 41 → ∀ s, s < 7 → nxC r p s = true := by decide +kernel
theorem nx_dec (r : Nat) (hr : r < 6) (p : Nat) (hp : p < 41) (s : Nat) (hs : s < 7) (h1 : 1 ≤ r) (h2 : p < 8 * r) : zirem (zirem (nI p + 1 * (nI s - 3)) (8 * nI r) + 8 * nI r) (8 * nI r) = nx (nI r) (nI s - 3) (nI p) ∧ zirem (zirem (nI p + 0 * (nI s - 3)) (8 * nI r) + 8 * nI r) (8 * nI r) = nI p ∧ 0 ≤ nx (nI r) (nI s - 3) (nI p) ∧ nx (nI r) (nI s - 3) (nI p) < 8 * nI r := by
  have := nx_dec0 r hr p hp s hs
  unfold nxC at this
  simp only [Bool.or_eq_true, Bool.and_eq_true, decide_eq_true_eq] at this
  rcases this with (h | h) | h
  · omega
  · omega
  · exact ⟨h.1.1.1, h.1.1.2, h.1.2, h.2⟩
theorem rg_nI {x : Int32} {n : Nat} (h0 : 0 ≤ x) (h1 : x ≤ nI n) (hn : n < 2 ^ 31) : ∃ j, j ≤ n ∧ x = nI j := zI_of n h0 h1 hn
theorem nx_eq {x y r sp pd on pl : Int32} (h : Is1 x y r sp pd on pl) : zirem (zirem (pl + on * sp) (8 * r) + 8 * r) (8 * r) = (if on = 0 then pl else nx r sp pl) ∧ 0 ≤ nx r sp pl ∧ nx r sp pl < 8 * r ∧ ¬ 8 * r = 0 := by
  obtain ⟨-, -, -, -, a5, a6, a7, a8, -, -, a11, a12, a13⟩ := h
  obtain ⟨r', hr, rfl⟩ := rg_nI (x := r) (n := 5) (by grind) a6 (by decide)
  obtain ⟨s', hs, hs'⟩ := rg_nI (x := sp + 3) (n := 6) (by grind) (show sp + 3 ≤ 6 by grind) (by decide)
  have hsp : sp = nI s' - 3 := by rw [← hs']; grind
  subst hsp
  have h40 : (8 : Int32) * nI r' = nI (8 * r') := by rw [zl, pk_mul]
  obtain ⟨p', hp, rfl⟩ := rg_nI (x := pl) (n := 8 * r') a12 (by rw [← h40]; grind) (by omega)
  rw [h40, nI_ltI (by omega) (by omega)] at a13
  have hr1 : 1 ≤ r' := by
    rcases Nat.eq_zero_or_pos r' with h | h
    · subst h; exact absurd a5 (by decide)
    · exact h
  obtain ⟨b1, b2, b3, b4⟩ := nx_dec r' (by omega) p' (by omega) s' (by omega) hr1 a13
  refine ⟨?_, b3, b4, ?_⟩
  · rcases a11 with h | h
    · rw [h, if_pos rfl, b2]
    · rw [h, if_neg (by decide), b1]
  · rw [h40, zl 0, nI_eq (by omega) (by decide)]; omega
theorem bsum_o {G : Nat → Nat → Int32} {o i n : Nat} {v : Int32} (h : 14 ≠ o) : bsum (upd2 G o i v) n = bsum G n := by
  induction n with
  | zero => rfl
  | succ n ih => unfold bsum; rw [ih, upd2_o h]
/-- a siren's place behind a tick -/
def stp (G : Nat → Nat → Int32) (i : Nat) : Int32 := if G 8 i = 0 then G 7 i else nx (G 4 i) (G 5 i) (G 7 i)
section P34
variable {A : Prop} {w : zW} {a b ns nh nw t te tp np d e l c p k B : Nat} {D : zD} {F G : Nat → Nat → Int32}
theorem e_next (hL : LF w a) {k : Nat} (hk : k < 4) {v : Int32} : f_Sirens_nextPlace w (zblk D a F) (a + 1) (nI k) v = some (nx (F 4 k) (F 5 k) v, zblk D a F) := by
  unfold f_Sirens_nextPlace nx
  simp (disch := omega) only [zjpE, zletE, zciE, zcvE, zchkE, nI_1, Lo0 hL, Lr0_0 hL, Lr0_1 hL, Lr0_2 hL, Lr0_3 hL, Lr0_4 hL, Lg0_5 hL, Lp0_5 hL, Lg0_6 hL, Lp0_6 hL, Lg0_7 hL, Lp0_7 hL, Lg0_8 hL, Lp0_8 hL, Lo1 hL, Lr1_0 hL, Lr1_1 hL, Lr1_2 hL, Lr1_3 hL, Lr1_4 hL, Lr1_5 hL, Lr1_6 hL, Lg1_7 hL, Lp1_7 hL, Lo9 hL, Lr9_0 hL, Lr9_1 hL, Lr9_2 hL, Lr9_3 hL, Lr9_4 hL, Lr9_5 hL, Lg9_6 hL, Lp9_6 hL, Lg9_7 hL, Lp9_7 hL, Lo16 hL, Lr16_0 hL, Lr16_1 hL, Lg16_2 hL, Lp16_2 hL, Lo19 hL, Lr19_0 hL, Lr19_1 hL, Lr19_2 hL, Lr19_3 hL, Lr19_4 hL, Lr19_5 hL, Lg19_6 hL, Lp19_6 hL, Lg19_7 hL, Lp19_7 hL, Lo26 hL, Lr26_0 hL, Lr26_1 hL, Lr26_2 hL, Lr26_3 hL, Lr26_4 hL, Lr26_5 hL, Lg26_6 hL, Lp26_6 hL, Lg26_7 hL, Lp26_7 hL, Lg26_8 hL, Lp26_8 hL, La2 hL, Ls2 hL, La3 hL, Ls3 hL, La4 hL, Ls4 hL, La5 hL, Ls5 hL, La6 hL, Ls6 hL, La7 hL, Ls7 hL, La8 hL, Ls8 hL, La10 hL, Ls10 hL, La11 hL, Ls11 hL, La12 hL, Ls12 hL, La13 hL, Ls13 hL, La14 hL, Ls14 hL, La15 hL, Ls15 hL, La17 hL, Ls17 hL, La18 hL, Ls18 hL, La20 hL, Ls20 hL, La21 hL, Ls21 hL, La22 hL, Ls22 hL, La23 hL, Ls23 hL, La24 hL, Ls24 hL, La25 hL, Ls25 hL, La27 hL, Ls27 hL, La28 hL, Ls28 hL, La29 hL, Ls29 hL, La30 hL, Ls30 hL, La31 hL, Ls31 hL, La32 hL, Ls32 hL]
  split
  · split <;> rfl
  · rfl
theorem RI_pl (h : RI F G ns nh nw t te tp A np d e l c) {k : Nat} (hk : k < ns) {v : Int32} (h0 : 0 ≤ v) (hv : v < 8 * G 4 k) : RI (upd2 F 7 k v) (upd2 G 7 k v) ns nh nw t te tp A np d e l c := by
  obtain ⟨h1, ⟨p, hq⟩, hz, hB, i0, hS, hH, hW, hC, hP, hE, hK, hA⟩ := h
  refine ⟨R1_u h1 rfl, ⟨p, ?_⟩, ?_, ?_, ?_, ?_, ?_, ?_, ?_, ?_, ?_, ?_, ?_⟩
  · unfold RQ at hq ⊢; simp (disch := omega) only [upd2_o]; exact hq
  · unfold RZ at hz ⊢; simp (disch := omega) only [upd2_o]; exact hz
  · rw [bsum_o (by decide), upd2_o (by decide)]; exact hB
  · unfold I0 at i0 ⊢; simp (disch := omega) only [upd2_o]; exact i0
  · intro s hs
    have := hS s hs
    simp (disch := omega) only [upd2_o]
    by_cases hk' : s = k
    · subst hk'; rw [upd2_s]; unfold Is1 at this ⊢; exact ⟨this.1, this.2.1, this.2.2.1, this.2.2.2.1, this.2.2.2.2.1, this.2.2.2.2.2.1, this.2.2.2.2.2.2.1, this.2.2.2.2.2.2.2.1, this.2.2.2.2.2.2.2.2.1, this.2.2.2.2.2.2.2.2.2.1, this.2.2.2.2.2.2.2.2.2.2.1, h0, hv⟩
    · rw [upd2_i hk']; exact this
  · unfold IH at hH ⊢; simp (disch := omega) only [upd2_o]; exact hH
  · unfold IW at hW ⊢; simp (disch := omega) only [upd2_o]; exact hW
  · unfold IC at hC ⊢; simp (disch := omega) only [upd2_o]; exact hC
  · unfold IP at hP ⊢; simp (disch := omega) only [upd2_o]; exact hP
  · unfold IE at hE ⊢; simp (disch := omega) only [upd2_o]; exact hE
  · unfold IK at hK ⊢; simp (disch := omega) only [upd2_o]; exact hK
  · unfold IA at hA ⊢; simp (disch := omega) only [upd2_o]; exact hA
theorem go1 (h : RI F G ns nh nw t te tp A np d e l c) {k : Nat} (hk : k < ns) : ∃ F' G', RI F' G' ns nh nw t te tp A np d e l c ∧ (∀ o, o ≠ 7 → G' o = G o) ∧ G' 7 k = stp G k ∧ (∀ i, i ≠ k → G' 7 i = G 7 i) ∧ (NZ F → NZ F') ∧ (∀ (w : zW) (a : Nat) (D : zD) j, LF w a → S_Sirens_goOn_S1 w (a + 1) j (nI k) (zblk D a F) = j (nI (k + 1)) (zblk D a F')) := by
  obtain ⟨h1, -, -, -, i0, hS, -⟩ := id h
  obtain ⟨e1, hn, -⟩ := i0
  obtain ⟨m1, m2, m3, m4⟩ := nx_eq (hS k hk)
  have hk4 : k < 4 := by omega
  have hF1 : F 1 7 = nI ns := by rw [r1_7 h1, e1]
  have hc : ¬ nI ns ≤ nI k := by rw [nI_leI (by omega) (by omega)]; omega
  have hc' : ∀ (w : zW) (a : Nat) (D : zD) j, LF w a → S_Sirens_goOn_S1 w (a + 1) j (nI k) (zblk D a F) = j (nI (k + 1)) (zblk D a (if G 8 k = 0 then F else upd2 F 7 k (nx (G 4 k) (G 5 k) (G 7 k)))) := by
    intro w a D j hL
    unfold S_Sirens_goOn_S1
    simp (disch := omega) only [zjpE, zletE, zciE, zcvE, zchkE, nI_1, Lo0 hL, Lr0_0 hL, Lr0_1 hL, Lr0_2 hL, Lr0_3 hL, Lr0_4 hL, Lg0_5 hL, Lp0_5 hL, Lg0_6 hL, Lp0_6 hL, Lg0_7 hL, Lp0_7 hL, Lg0_8 hL, Lp0_8 hL, Lo1 hL, Lr1_0 hL, Lr1_1 hL, Lr1_2 hL, Lr1_3 hL, Lr1_4 hL, Lr1_5 hL, Lr1_6 hL, Lg1_7 hL, Lp1_7 hL, Lo9 hL, Lr9_0 hL, Lr9_1 hL, Lr9_2 hL, Lr9_3 hL, Lr9_4 hL, Lr9_5 hL, Lg9_6 hL, Lp9_6 hL, Lg9_7 hL, Lp9_7 hL, Lo16 hL, Lr16_0 hL, Lr16_1 hL, Lg16_2 hL, Lp16_2 hL, Lo19 hL, Lr19_0 hL, Lr19_1 hL, Lr19_2 hL, Lr19_3 hL, Lr19_4 hL, Lr19_5 hL, Lg19_6 hL, Lp19_6 hL, Lg19_7 hL, Lp19_7 hL, Lo26 hL, Lr26_0 hL, Lr26_1 hL, Lr26_2 hL, Lr26_3 hL, Lr26_4 hL, Lr26_5 hL, Lg26_6 hL, Lp26_6 hL, Lg26_7 hL, Lp26_7 hL, Lg26_8 hL, Lp26_8 hL, La2 hL, Ls2 hL, La3 hL, Ls3 hL, La4 hL, Ls4 hL, La5 hL, Ls5 hL, La6 hL, Ls6 hL, La7 hL, Ls7 hL, La8 hL, Ls8 hL, La10 hL, Ls10 hL, La11 hL, Ls11 hL, La12 hL, Ls12 hL, La13 hL, Ls13 hL, La14 hL, Ls14 hL, La15 hL, Ls15 hL, La17 hL, Ls17 hL, La18 hL, Ls18 hL, La20 hL, Ls20 hL, La21 hL, Ls21 hL, La22 hL, Ls22 hL, La23 hL, Ls23 hL, La24 hL, Ls24 hL, La25 hL, Ls25 hL, La27 hL, Ls27 hL, La28 hL, Ls28 hL, La29 hL, Ls29 hL, La30 hL, Ls30 hL, La31 hL, Ls31 hL, La32 hL, Ls32 hL, hF1, hc, if_false, e_next hL, r0_5 h1, r0_6 h1, r0_7 h1, r0_8 h1, r1_7 h1, r9_6 h1, r16_2 h1, r26_6 h1, r26_7 h1, r26_8 h1, r2 h1, r3 h1, r4 h1, r5 h1, r6 h1, r7 h1, r8 h1, r10 h1, r11 h1, r12 h1, r13 h1, r14 h1, r17 h1, r18 h1, r27 h1, r28 h1, r29 h1, r30 h1, r31 h1, r32 h1]
    split <;> rfl
  by_cases hon : G 8 k = 0
  · refine ⟨_, _, h, fun _ _ => rfl, by unfold stp; rw [if_pos hon], fun _ _ => rfl, id, ?_⟩
    intro w a D j hL; rw [hc' w a D j hL, if_pos hon]
  · refine ⟨_, _, RI_pl h hk m2 m3, fun o ho => upd2_o ho, by unfold stp; rw [if_neg hon, upd2_s], fun i hi => upd2_i hi, fun hz => NZ_u hz (Or.inl (by unfold Cp; omega)), ?_⟩
    intro w a D j hL; rw [hc' w a D j hL, if_neg hon]
theorem ph1 (h : RI F G ns nh nw t te tp A np d e l c) : ∃ F' G', RI F' G' ns nh nw t te tp A np d e l c ∧ (∀ o, o ≠ 7 → G' o = G o) ∧ (∀ i, i < ns → G' 7 i = stp G i) ∧ (NZ F → NZ F') ∧ (∀ (w : zW) (a : Nat) (D : zD), LF w a → f_Sirens_goOn w (zblk D a F) (a + 1) = some (zblk D a F')) := by
  obtain ⟨-, -, -, -, ⟨-, hn, -⟩, -⟩ := id h
  obtain ⟨s, ⟨hs, g1, g2, -, gz⟩, q1⟩ := lpU (δ := UW) (bot := fun (_ : Int32) (_ : zD) => none) (st := fun x => S_Sirens_goOn_S1 x.1.1 (x.1.2.1 + 1)) (n := ns) (fun k s => RI s.1 s.2 ns nh nw t te tp A np d e l c ∧ (∀ o, o ≠ 7 → s.2 o = G o) ∧ (∀ i, i < k → s.2 7 i = stp G i) ∧ (∀ i, k ≤ i → s.2 7 i = G 7 i) ∧ (NZ F → NZ s.1)) (fun x g k s => g (nI k) (zblk x.1.2.2 x.1.2.1 s.1)) (by
    intro k s hk hs
    obtain ⟨hs, g1, g2, g3, gz⟩ := hs
    obtain ⟨F', G', r1, r2, r3, r4, rz, r5⟩ := go1 hs hk
    refine ⟨(F', G'), ⟨r1, fun o ho => (r2 o ho).trans (g1 o ho), ?_, ?_, fun hz => rz (gz hz)⟩, fun x j => r5 x.1.1 x.1.2.1 x.1.2.2 j x.2⟩
    · intro i hi
      show G' 7 i = stp G i
      by_cases hik : i = k
      · subst hik; rw [r3]; unfold stp; rw [g1 8 (by decide), g1 4 (by decide), g1 5 (by decide), g3 i (Nat.le_refl i)]
      · rw [r4 i hik]; exact g2 i (by omega)
    · intro i hi; show G' 7 i = G 7 i; rw [r4 i (by omega)]; exact g3 i (by omega)) ns 0 (F, G) (by omega) ⟨h, fun _ _ => rfl, fun i hi => absurd hi (Nat.not_lt_zero i), fun _ _ => rfl, id⟩
  obtain ⟨h1, -, -, -, ⟨e1, -⟩, -⟩ := id hs
  refine ⟨s.1, s.2, hs, g1, g2, gz, ?_⟩
  intro w a D hL
  obtain ⟨j, hj⟩ := q1 ⟨(w, a, D), hL⟩ zfuel (by unfold zfuel; omega)
  rw [u_Sirens_goOn]
  simp only [zjp]
  refine hj.trans ?_
  unfold S_Sirens_goOn_S1
  simp only [Lo0 hL, Lr0_0 hL, Lr0_1 hL, Lr0_2 hL, Lr0_3 hL, Lr0_4 hL, Lg0_5 hL, Lp0_5 hL, Lg0_6 hL, Lp0_6 hL, Lg0_7 hL, Lp0_7 hL, Lg0_8 hL, Lp0_8 hL, Lo1 hL, Lr1_0 hL, Lr1_1 hL, Lr1_2 hL, Lr1_3 hL, Lr1_4 hL, Lr1_5 hL, Lr1_6 hL, Lg1_7 hL, Lp1_7 hL, Lo9 hL, Lr9_0 hL, Lr9_1 hL, Lr9_2 hL, Lr9_3 hL, Lr9_4 hL, Lr9_5 hL, Lg9_6 hL, Lp9_6 hL, Lg9_7 hL, Lp9_7 hL, Lo16 hL, Lr16_0 hL, Lr16_1 hL, Lg16_2 hL, Lp16_2 hL, Lo19 hL, Lr19_0 hL, Lr19_1 hL, Lr19_2 hL, Lr19_3 hL, Lr19_4 hL, Lr19_5 hL, Lg19_6 hL, Lp19_6 hL, Lg19_7 hL, Lp19_7 hL, Lo26 hL, Lr26_0 hL, Lr26_1 hL, Lr26_2 hL, Lr26_3 hL, Lr26_4 hL, Lr26_5 hL, Lg26_6 hL, Lp26_6 hL, Lg26_7 hL, Lp26_7 hL, Lg26_8 hL, Lp26_8 hL, La2 hL, Ls2 hL, La3 hL, Ls3 hL, La4 hL, Ls4 hL, La5 hL, Ls5 hL, La6 hL, Ls6 hL, La7 hL, Ls7 hL, La8 hL, Ls8 hL, La10 hL, Ls10 hL, La11 hL, Ls11 hL, La12 hL, Ls12 hL, La13 hL, Ls13 hL, La14 hL, Ls14 hL, La15 hL, Ls15 hL, La17 hL, Ls17 hL, La18 hL, Ls18 hL, La20 hL, Ls20 hL, La21 hL, Ls21 hL, La22 hL, Ls22 hL, La23 hL, Ls23 hL, La24 hL, Ls24 hL, La25 hL, Ls25 hL, La27 hL, Ls27 hL, La28 hL, Ls28 hL, La29 hL, Ls29 hL, La30 hL, Ls30 hL, La31 hL, Ls31 hL, La32 hL, Ls32 hL, r1_7 h1, e1, nI_le (Nat.le_refl ns) (show ns < 2 ^ 31 by omega), if_true]
end P34
def ab (x : Int32) : Int32 := if 0 ≤ x then x else -x
def vv (x v : Int32) : Int32 := if x + v < -40 ∨ 40 < x + v then -v else v
def xx (x v : Int32) : Int32 := if x + v < -40 then -40 else if 40 < x + v then 40 else x + v
theorem upd2_comm {F : Nat → Nat → Int32} {o o' j j' : Nat} {v v' : Int32} (h : o ≠ o') : upd2 (upd2 F o j v) o' j' v' = upd2 (upd2 F o' j' v') o j v := by
  funext q i
  unfold upd2
  by_cases h1 : q = o
  · subst h1; simp [h]
  · simp [h1]
section P35
variable {A : Prop} {w : zW} {a b ns nh nw t te tp np d e l c p k B : Nat} {D : zD} {F G : Nat → Nat → Int32}
theorem e_abs {x : Int32} : f_Math_abs w D x = some (ab x, D) := by
  unfold f_Math_abs ab; simp only [zjpE, zletE, zciE, zcvE, zchkE, nI_1]; split <;> rfl
theorem e_max {x y : Int32} : f_Math_max w D x y = some (if x < y then y else x, D) := by
  unfold f_Math_max; simp only [zjpE, zletE, zciE, zcvE, zchkE, nI_1]; split <;> rfl
theorem e_min {x y : Int32} : f_Math_min w D x y = some (if y < x then y else x, D) := by
  unfold f_Math_min; simp only [zjpE, zletE, zciE, zcvE, zchkE, nI_1]; split <;> rfl
theorem e_out {x : Int32} : f_Hearers_isOutside w D x = some (if x < -40 ∨ 40 < x then 1 else 0, D) := by
  unfold f_Hearers_isOutside; simp only [zjpE, zletE, zciE, zcvE, zchkE, nI_1]
  by_cases h1 : x < -40
  · simp [h1]
  · by_cases h2 : x ≤ 40
    · have h3 : ¬ 40 < x := by grind
      simp [h1, h2, h3]
    · have h3 : 40 < x := by grind
      simp [h1, h2, h3]
theorem xx_mm {x v : Int32} : (if (-40 : Int32) < (if x + v < 40 then x + v else 40) then (if x + v < 40 then x + v else 40) else -40) = xx x v := by unfold xx; grind
theorem xx_rg {x v : Int32} : -40 ≤ xx x v ∧ xx x v ≤ 40 := by unfold xx; grind
theorem vv_rg {x v : Int32} (h : -2 ≤ v ∧ v ≤ 2) : -2 ≤ vv x v ∧ vv x v ≤ 2 := by
  have h5 : v = -2 ∨ v = -1 ∨ v = 0 ∨ v = 1 ∨ v = 2 := by grind
  unfold vv
  rcases h5 with rfl | rfl | rfl | rfl | rfl <;> split <;> decide
theorem RI_h4 (h : RI F G ns nh nw t te tp A np d e l c) {k : Nat} {x y vx vy : Int32} (h2 : -40 ≤ x ∧ x ≤ 40 ∧ -40 ≤ y ∧ y ≤ 40 ∧ -2 ≤ vx ∧ vx ≤ 2 ∧ -2 ≤ vy ∧ vy ≤ 2) : RI (upd2 (upd2 (upd2 (upd2 F 12 k vx) 13 k vy) 10 k x) 11 k y) (upd2 (upd2 (upd2 (upd2 G 12 k vx) 13 k vy) 10 k x) 11 k y) ns nh nw t te tp A np d e l c := by
  obtain ⟨h1, ⟨p, hq⟩, hz, hB, i0, hS, hH, hW, hC, hP, hE, hK, hA⟩ := h
  refine ⟨R1_u (R1_u (R1_u (R1_u h1 rfl) rfl) rfl) rfl, ⟨p, ?_⟩, ?_, ?_, ?_, ?_, ?_, ?_, ?_, ?_, ?_, ?_, ?_⟩
  · unfold RQ at hq ⊢; simp (disch := omega) only [upd2_o]; exact hq
  · unfold RZ at hz ⊢; simp (disch := omega) only [upd2_o]; exact hz
  · simp (disch := omega) only [bsum_o, upd2_o]; exact hB
  · unfold I0 at i0 ⊢; simp (disch := omega) only [upd2_o]; exact i0
  · unfold IS at hS ⊢; simp (disch := omega) only [upd2_o]; exact hS
  · intro q hq
    have := hH q hq
    by_cases hk' : q = k
    · subst hk'; simp (disch := omega) only [upd2_o, upd2_s]; exact h2
    · simp (disch := omega) only [upd2_o, upd2_i]; exact this
  · unfold IW at hW ⊢; simp (disch := omega) only [upd2_o]; exact hW
  · unfold IC at hC ⊢; simp (disch := omega) only [upd2_o]; exact hC
  · unfold IP at hP ⊢; simp (disch := omega) only [upd2_o]; exact hP
  · unfold IE at hE ⊢; simp (disch := omega) only [upd2_o]; exact hE
  · unfold IK at hK ⊢; simp (disch := omega) only [upd2_o]; exact hK
  · unfold IA at hA ⊢; simp (disch := omega) only [upd2_o]; exact hA
theorem e_walk1 (hL : LF w a) {k : Nat} (hk : k < 4) (hF : F 9 6 = nI nh) (hn : nh ≤ 4) (hkn : k < nh) {j : Int32 → zD → Option zD} : S_Hearers_walkOn_S1 w (a + 9) j (nI k) (zblk D a F) = j (nI (k + 1)) (zblk D a (upd2 (upd2 (upd2 (upd2 F 12 k (vv (F 10 k) (F 12 k))) 13 k (vv (F 11 k) (F 13 k))) 10 k (xx (F 10 k) (F 12 k))) 11 k (xx (F 11 k) (F 13 k)))) := by
  have hc : ¬ nI nh ≤ nI k := by rw [nI_leI (by omega) (by omega)]; omega
  unfold S_Hearers_walkOn_S1
  simp (disch := omega) only [zjpE, zletE, zciE, zcvE, zchkE, nI_1, Lo0 hL, Lr0_0 hL, Lr0_1 hL, Lr0_2 hL, Lr0_3 hL, Lr0_4 hL, Lg0_5 hL, Lp0_5 hL, Lg0_6 hL, Lp0_6 hL, Lg0_7 hL, Lp0_7 hL, Lg0_8 hL, Lp0_8 hL, Lo1 hL, Lr1_0 hL, Lr1_1 hL, Lr1_2 hL, Lr1_3 hL, Lr1_4 hL, Lr1_5 hL, Lr1_6 hL, Lg1_7 hL, Lp1_7 hL, Lo9 hL, Lr9_0 hL, Lr9_1 hL, Lr9_2 hL, Lr9_3 hL, Lr9_4 hL, Lr9_5 hL, Lg9_6 hL, Lp9_6 hL, Lg9_7 hL, Lp9_7 hL, Lo16 hL, Lr16_0 hL, Lr16_1 hL, Lg16_2 hL, Lp16_2 hL, Lo19 hL, Lr19_0 hL, Lr19_1 hL, Lr19_2 hL, Lr19_3 hL, Lr19_4 hL, Lr19_5 hL, Lg19_6 hL, Lp19_6 hL, Lg19_7 hL, Lp19_7 hL, Lo26 hL, Lr26_0 hL, Lr26_1 hL, Lr26_2 hL, Lr26_3 hL, Lr26_4 hL, Lr26_5 hL, Lg26_6 hL, Lp26_6 hL, Lg26_7 hL, Lp26_7 hL, Lg26_8 hL, Lp26_8 hL, La2 hL, Ls2 hL, La3 hL, Ls3 hL, La4 hL, Ls4 hL, La5 hL, Ls5 hL, La6 hL, Ls6 hL, La7 hL, Ls7 hL, La8 hL, Ls8 hL, La10 hL, Ls10 hL, La11 hL, Ls11 hL, La12 hL, Ls12 hL, La13 hL, Ls13 hL, La14 hL, Ls14 hL, La15 hL, Ls15 hL, La17 hL, Ls17 hL, La18 hL, Ls18 hL, La20 hL, Ls20 hL, La21 hL, Ls21 hL, La22 hL, Ls22 hL, La23 hL, Ls23 hL, La24 hL, Ls24 hL, La25 hL, Ls25 hL, La27 hL, Ls27 hL, La28 hL, Ls28 hL, La29 hL, Ls29 hL, La30 hL, Ls30 hL, La31 hL, Ls31 hL, La32 hL, Ls32 hL, hF, hc, if_false, e_out, e_min, e_max, xx_mm]
  by_cases hx : F 10 k + F 12 k < -40 ∨ 40 < F 10 k + F 12 k
  · have e1 : vv (F 10 k) (F 12 k) = - F 12 k := by unfold vv; rw [if_pos hx]
    by_cases hy : F 11 k + F 13 k < -40 ∨ 40 < F 11 k + F 13 k
    · have e2 : vv (F 11 k) (F 13 k) = - F 13 k := by unfold vv; rw [if_pos hy]
      simp (disch := omega) only [if_pos hx, if_pos hy, upd2_o, show ¬ (1 : Int32) = 0 by decide, if_false, e1, e2, Lo0 hL, Lr0_0 hL, Lr0_1 hL, Lr0_2 hL, Lr0_3 hL, Lr0_4 hL, Lg0_5 hL, Lp0_5 hL, Lg0_6 hL, Lp0_6 hL, Lg0_7 hL, Lp0_7 hL, Lg0_8 hL, Lp0_8 hL, Lo1 hL, Lr1_0 hL, Lr1_1 hL, Lr1_2 hL, Lr1_3 hL, Lr1_4 hL, Lr1_5 hL, Lr1_6 hL, Lg1_7 hL, Lp1_7 hL, Lo9 hL, Lr9_0 hL, Lr9_1 hL, Lr9_2 hL, Lr9_3 hL, Lr9_4 hL, Lr9_5 hL, Lg9_6 hL, Lp9_6 hL, Lg9_7 hL, Lp9_7 hL, Lo16 hL, Lr16_0 hL, Lr16_1 hL, Lg16_2 hL, Lp16_2 hL, Lo19 hL, Lr19_0 hL, Lr19_1 hL, Lr19_2 hL, Lr19_3 hL, Lr19_4 hL, Lr19_5 hL, Lg19_6 hL, Lp19_6 hL, Lg19_7 hL, Lp19_7 hL, Lo26 hL, Lr26_0 hL, Lr26_1 hL, Lr26_2 hL, Lr26_3 hL, Lr26_4 hL, Lr26_5 hL, Lg26_6 hL, Lp26_6 hL, Lg26_7 hL, Lp26_7 hL, Lg26_8 hL, Lp26_8 hL, La2 hL, Ls2 hL, La3 hL, Ls3 hL, La4 hL, Ls4 hL, La5 hL, Ls5 hL, La6 hL, Ls6 hL, La7 hL, Ls7 hL, La8 hL, Ls8 hL, La10 hL, Ls10 hL, La11 hL, Ls11 hL, La12 hL, Ls12 hL, La13 hL, Ls13 hL, La14 hL, Ls14 hL, La15 hL, Ls15 hL, La17 hL, Ls17 hL, La18 hL, Ls18 hL, La20 hL, Ls20 hL, La21 hL, Ls21 hL, La22 hL, Ls22 hL, La23 hL, Ls23 hL, La24 hL, Ls24 hL, La25 hL, Ls25 hL, La27 hL, Ls27 hL, La28 hL, Ls28 hL, La29 hL, Ls29 hL, La30 hL, Ls30 hL, La31 hL, Ls31 hL, La32 hL, Ls32 hL, zjpE, zletE, zciE, zcvE, zchkE, nI_1]
    · have e2 : vv (F 11 k) (F 13 k) = F 13 k := by unfold vv; rw [if_neg hy]
      have e3 : F 13 k = upd2 F 12 k (-F 12 k) 13 k := by rw [upd2_o (by decide)]
      simp (disch := omega) only [if_pos hx, if_neg hy, upd2_o, show ¬ (1 : Int32) = 0 by decide, if_false, if_true, e1, e2, Lo0 hL, Lr0_0 hL, Lr0_1 hL, Lr0_2 hL, Lr0_3 hL, Lr0_4 hL, Lg0_5 hL, Lp0_5 hL, Lg0_6 hL, Lp0_6 hL, Lg0_7 hL, Lp0_7 hL, Lg0_8 hL, Lp0_8 hL, Lo1 hL, Lr1_0 hL, Lr1_1 hL, Lr1_2 hL, Lr1_3 hL, Lr1_4 hL, Lr1_5 hL, Lr1_6 hL, Lg1_7 hL, Lp1_7 hL, Lo9 hL, Lr9_0 hL, Lr9_1 hL, Lr9_2 hL, Lr9_3 hL, Lr9_4 hL, Lr9_5 hL, Lg9_6 hL, Lp9_6 hL, Lg9_7 hL, Lp9_7 hL, Lo16 hL, Lr16_0 hL, Lr16_1 hL, Lg16_2 hL, Lp16_2 hL, Lo19 hL, Lr19_0 hL, Lr19_1 hL, Lr19_2 hL, Lr19_3 hL, Lr19_4 hL, Lr19_5 hL, Lg19_6 hL, Lp19_6 hL, Lg19_7 hL, Lp19_7 hL, Lo26 hL, Lr26_0 hL, Lr26_1 hL, Lr26_2 hL, Lr26_3 hL, Lr26_4 hL, Lr26_5 hL, Lg26_6 hL, Lp26_6 hL, Lg26_7 hL, Lp26_7 hL, Lg26_8 hL, Lp26_8 hL, La2 hL, Ls2 hL, La3 hL, Ls3 hL, La4 hL, Ls4 hL, La5 hL, Ls5 hL, La6 hL, Ls6 hL, La7 hL, Ls7 hL, La8 hL, Ls8 hL, La10 hL, Ls10 hL, La11 hL, Ls11 hL, La12 hL, Ls12 hL, La13 hL, Ls13 hL, La14 hL, Ls14 hL, La15 hL, Ls15 hL, La17 hL, Ls17 hL, La18 hL, Ls18 hL, La20 hL, Ls20 hL, La21 hL, Ls21 hL, La22 hL, Ls22 hL, La23 hL, Ls23 hL, La24 hL, Ls24 hL, La25 hL, Ls25 hL, La27 hL, Ls27 hL, La28 hL, Ls28 hL, La29 hL, Ls29 hL, La30 hL, Ls30 hL, La31 hL, Ls31 hL, La32 hL, Ls32 hL, zjpE, zletE, zciE, zcvE, zchkE, nI_1]
      rw [e3, upd2_self]
  · have e1 : vv (F 10 k) (F 12 k) = F 12 k := by unfold vv; rw [if_neg hx]
    by_cases hy : F 11 k + F 13 k < -40 ∨ 40 < F 11 k + F 13 k
    · have e2 : vv (F 11 k) (F 13 k) = - F 13 k := by unfold vv; rw [if_pos hy]
      simp (disch := omega) only [if_neg hx, if_pos hy, upd2_o, upd2_self, show ¬ (1 : Int32) = 0 by decide, if_false, if_true, e1, e2, Lo0 hL, Lr0_0 hL, Lr0_1 hL, Lr0_2 hL, Lr0_3 hL, Lr0_4 hL, Lg0_5 hL, Lp0_5 hL, Lg0_6 hL, Lp0_6 hL, Lg0_7 hL, Lp0_7 hL, Lg0_8 hL, Lp0_8 hL, Lo1 hL, Lr1_0 hL, Lr1_1 hL, Lr1_2 hL, Lr1_3 hL, Lr1_4 hL, Lr1_5 hL, Lr1_6 hL, Lg1_7 hL, Lp1_7 hL, Lo9 hL, Lr9_0 hL, Lr9_1 hL, Lr9_2 hL, Lr9_3 hL, Lr9_4 hL, Lr9_5 hL, Lg9_6 hL, Lp9_6 hL, Lg9_7 hL, Lp9_7 hL, Lo16 hL, Lr16_0 hL, Lr16_1 hL, Lg16_2 hL, Lp16_2 hL, Lo19 hL, Lr19_0 hL, Lr19_1 hL, Lr19_2 hL, Lr19_3 hL, Lr19_4 hL, Lr19_5 hL, Lg19_6 hL, Lp19_6 hL, Lg19_7 hL, Lp19_7 hL, Lo26 hL, Lr26_0 hL, Lr26_1 hL, Lr26_2 hL, Lr26_3 hL, Lr26_4 hL, Lr26_5 hL, Lg26_6 hL, Lp26_6 hL, Lg26_7 hL, Lp26_7 hL, Lg26_8 hL, Lp26_8 hL, La2 hL, Ls2 hL, La3 hL, Ls3 hL, La4 hL, Ls4 hL, La5 hL, Ls5 hL, La6 hL, Ls6 hL, La7 hL, Ls7 hL, La8 hL, Ls8 hL, La10 hL, Ls10 hL, La11 hL, Ls11 hL, La12 hL, Ls12 hL, La13 hL, Ls13 hL, La14 hL, Ls14 hL, La15 hL, Ls15 hL, La17 hL, Ls17 hL, La18 hL, Ls18 hL, La20 hL, Ls20 hL, La21 hL, Ls21 hL, La22 hL, Ls22 hL, La23 hL, Ls23 hL, La24 hL, Ls24 hL, La25 hL, Ls25 hL, La27 hL, Ls27 hL, La28 hL, Ls28 hL, La29 hL, Ls29 hL, La30 hL, Ls30 hL, La31 hL, Ls31 hL, La32 hL, Ls32 hL, zjpE, zletE, zciE, zcvE, zchkE, nI_1]
    · have e2 : vv (F 11 k) (F 13 k) = F 13 k := by unfold vv; rw [if_neg hy]
      simp (disch := omega) only [if_neg hx, if_neg hy, upd2_o, upd2_self, if_true, e1, e2, Lo0 hL, Lr0_0 hL, Lr0_1 hL, Lr0_2 hL, Lr0_3 hL, Lr0_4 hL, Lg0_5 hL, Lp0_5 hL, Lg0_6 hL, Lp0_6 hL, Lg0_7 hL, Lp0_7 hL, Lg0_8 hL, Lp0_8 hL, Lo1 hL, Lr1_0 hL, Lr1_1 hL, Lr1_2 hL, Lr1_3 hL, Lr1_4 hL, Lr1_5 hL, Lr1_6 hL, Lg1_7 hL, Lp1_7 hL, Lo9 hL, Lr9_0 hL, Lr9_1 hL, Lr9_2 hL, Lr9_3 hL, Lr9_4 hL, Lr9_5 hL, Lg9_6 hL, Lp9_6 hL, Lg9_7 hL, Lp9_7 hL, Lo16 hL, Lr16_0 hL, Lr16_1 hL, Lg16_2 hL, Lp16_2 hL, Lo19 hL, Lr19_0 hL, Lr19_1 hL, Lr19_2 hL, Lr19_3 hL, Lr19_4 hL, Lr19_5 hL, Lg19_6 hL, Lp19_6 hL, Lg19_7 hL, Lp19_7 hL, Lo26 hL, Lr26_0 hL, Lr26_1 hL, Lr26_2 hL, Lr26_3 hL, Lr26_4 hL, Lr26_5 hL, Lg26_6 hL, Lp26_6 hL, Lg26_7 hL, Lp26_7 hL, Lg26_8 hL, Lp26_8 hL, La2 hL, Ls2 hL, La3 hL, Ls3 hL, La4 hL, Ls4 hL, La5 hL, Ls5 hL, La6 hL, Ls6 hL, La7 hL, Ls7 hL, La8 hL, Ls8 hL, La10 hL, Ls10 hL, La11 hL, Ls11 hL, La12 hL, Ls12 hL, La13 hL, Ls13 hL, La14 hL, Ls14 hL, La15 hL, Ls15 hL, La17 hL, Ls17 hL, La18 hL, Ls18 hL, La20 hL, Ls20 hL, La21 hL, Ls21 hL, La22 hL, Ls22 hL, La23 hL, Ls23 hL, La24 hL, Ls24 hL, La25 hL, Ls25 hL, La27 hL, Ls27 hL, La28 hL, Ls28 hL, La29 hL, Ls29 hL, La30 hL, Ls30 hL, La31 hL, Ls31 hL, La32 hL, Ls32 hL, zjpE, zletE, zciE, zcvE, zchkE, nI_1]
theorem walk1 (h : RI F G ns nh nw t te tp A np d e l c) {k : Nat} (hk : k < nh) : ∃ F' G', RI F' G' ns nh nw t te tp A np d e l c ∧ (∀ o, o < 10 ∨ 13 < o → G' o = G o) ∧ (NZ F → NZ F') ∧ (∀ (w : zW) (a : Nat) (D : zD) j, LF w a → S_Hearers_walkOn_S1 w (a + 9) j (nI k) (zblk D a F) = j (nI (k + 1)) (zblk D a F')) := by
  obtain ⟨h1, -, -, -, i0, -, hH, -⟩ := id h
  obtain ⟨-, -, e1, hn, -⟩ := i0
  have hk4 : k < 4 := by omega
  have hF1 : F 9 6 = nI nh := by rw [r9_6 h1, e1]
  have hr := hH k hk
  refine ⟨_, _, RI_h4 h (k := k) (x := xx (G 10 k) (G 12 k)) (y := xx (G 11 k) (G 13 k)) (vx := vv (G 10 k) (G 12 k)) (vy := vv (G 11 k) (G 13 k)) ?_, ?_, ?_, ?_⟩
  · exact ⟨xx_rg.1, xx_rg.2, xx_rg.1, xx_rg.2, (vv_rg ⟨hr.2.2.2.2.1, hr.2.2.2.2.2.1⟩).1, (vv_rg ⟨hr.2.2.2.2.1, hr.2.2.2.2.2.1⟩).2, (vv_rg hr.2.2.2.2.2.2).1, (vv_rg hr.2.2.2.2.2.2).2⟩
  · intro o ho; simp (disch := omega) only [upd2_o]
  · intro hz
    refine NZ_u (NZ_u (NZ_u (NZ_u hz (Or.inl ?_)) (Or.inl ?_)) (Or.inl ?_)) (Or.inl ?_) <;> (unfold Cp; omega)
  · intro w a D j hL
    rw [e_walk1 hL hk4 hF1 hn hk, r10 h1 hk4, r11 h1 hk4, r12 h1 hk4, r13 h1 hk4]
theorem ph2 (h : RI F G ns nh nw t te tp A np d e l c) : ∃ F' G', RI F' G' ns nh nw t te tp A np d e l c ∧ (∀ o, o < 10 ∨ 13 < o → G' o = G o) ∧ (NZ F → NZ F') ∧ (∀ (w : zW) (a : Nat) (D : zD), LF w a → f_Hearers_walkOn w (zblk D a F) (a + 9) = some (zblk D a F')) := by
  obtain ⟨-, -, -, -, ⟨-, -, -, hn, -⟩, -⟩ := id h
  obtain ⟨s, ⟨hs, g1, gz⟩, q1⟩ := lpU (δ := UW) (bot := fun (_ : Int32) (_ : zD) => none) (st := fun x => S_Hearers_walkOn_S1 x.1.1 (x.1.2.1 + 9)) (n := nh) (fun _ s => RI s.1 s.2 ns nh nw t te tp A np d e l c ∧ (∀ o, o < 10 ∨ 13 < o → s.2 o = G o) ∧ (NZ F → NZ s.1)) (fun x g k s => g (nI k) (zblk x.1.2.2 x.1.2.1 s.1)) (by
    intro k s hk hs
    obtain ⟨F', G', r1, r2, rz, r3⟩ := walk1 hs.1 hk
    exact ⟨(F', G'), ⟨r1, fun o ho => (r2 o ho).trans (hs.2.1 o ho), fun hz => rz (hs.2.2 hz)⟩, fun x j => r3 x.1.1 x.1.2.1 x.1.2.2 j x.2⟩) nh 0 (F, G) (by omega) ⟨h, fun _ _ => rfl, id⟩
  obtain ⟨h1, -, -, -, ⟨-, -, e1, -⟩, -⟩ := id hs
  refine ⟨s.1, s.2, hs, g1, gz, ?_⟩
  intro w a D hL
  obtain ⟨j, hj⟩ := q1 ⟨(w, a, D), hL⟩ zfuel (by unfold zfuel; omega)
  rw [u_Hearers_walkOn]
  simp only [zjp]
  refine hj.trans ?_
  unfold S_Hearers_walkOn_S1
  simp only [Lo0 hL, Lr0_0 hL, Lr0_1 hL, Lr0_2 hL, Lr0_3 hL, Lr0_4 hL, Lg0_5 hL, Lp0_5 hL, Lg0_6 hL, Lp0_6 hL, Lg0_7 hL, Lp0_7 hL, Lg0_8 hL, Lp0_8 hL, Lo1 hL, Lr1_0 hL, Lr1_1 hL, Lr1_2 hL, Lr1_3 hL, Lr1_4 hL, Lr1_5 hL, Lr1_6 hL, Lg1_7 hL, Lp1_7 hL, Lo9 hL, Lr9_0 hL, Lr9_1 hL, Lr9_2 hL, Lr9_3 hL, Lr9_4 hL, Lr9_5 hL, Lg9_6 hL, Lp9_6 hL, Lg9_7 hL, Lp9_7 hL, Lo16 hL, Lr16_0 hL, Lr16_1 hL, Lg16_2 hL, Lp16_2 hL, Lo19 hL, Lr19_0 hL, Lr19_1 hL, Lr19_2 hL, Lr19_3 hL, Lr19_4 hL, Lr19_5 hL, Lg19_6 hL, Lp19_6 hL, Lg19_7 hL, Lp19_7 hL, Lo26 hL, Lr26_0 hL, Lr26_1 hL, Lr26_2 hL, Lr26_3 hL, Lr26_4 hL, Lr26_5 hL, Lg26_6 hL, Lp26_6 hL, Lg26_7 hL, Lp26_7 hL, Lg26_8 hL, Lp26_8 hL, La2 hL, Ls2 hL, La3 hL, Ls3 hL, La4 hL, Ls4 hL, La5 hL, Ls5 hL, La6 hL, Ls6 hL, La7 hL, Ls7 hL, La8 hL, Ls8 hL, La10 hL, Ls10 hL, La11 hL, Ls11 hL, La12 hL, Ls12 hL, La13 hL, Ls13 hL, La14 hL, Ls14 hL, La15 hL, Ls15 hL, La17 hL, Ls17 hL, La18 hL, Ls18 hL, La20 hL, Ls20 hL, La21 hL, Ls21 hL, La22 hL, Ls22 hL, La23 hL, Ls23 hL, La24 hL, Ls24 hL, La25 hL, Ls25 hL, La27 hL, Ls27 hL, La28 hL, Ls28 hL, La29 hL, Ls29 hL, La30 hL, Ls30 hL, La31 hL, Ls31 hL, La32 hL, Ls32 hL, r9_6 h1, e1, nI_le (Nat.le_refl nh) (show nh < 2 ^ 31 by omega), if_true]
end P35
