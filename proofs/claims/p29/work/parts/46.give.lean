/-! PURE: a pulse comes; a siren's place in the plane; a siren's pulses; the sirens that are due. -/
section P38
variable {A : Prop} {w : zW} {a b ns nh nw t te tp np d e l c p k B : Nat} {D : zD} {F G : Nat → Nat → Int32}
theorem e_rowOf (hL : LF w a) {p k : Nat} (hp : p < 60) (hk : k ≤ 60) (hF : F 19 6 = nI p) : f_Pulses_rowOf w (zblk D a F) (a + 19) (nI k) = some (nI ((p + k) % 60), zblk D a F) := by
  unfold f_Pulses_rowOf
  simp only [Lo0 hL, Lr0_0 hL, Lr0_1 hL, Lr0_2 hL, Lr0_3 hL, Lr0_4 hL, Lg0_5 hL, Lp0_5 hL, Lg0_6 hL, Lp0_6 hL, Lg0_7 hL, Lp0_7 hL, Lg0_8 hL, Lp0_8 hL, Lo1 hL, Lr1_0 hL, Lr1_1 hL, Lr1_2 hL, Lr1_3 hL, Lr1_4 hL, Lr1_5 hL, Lr1_6 hL, Lg1_7 hL, Lp1_7 hL, Lo9 hL, Lr9_0 hL, Lr9_1 hL, Lr9_2 hL, Lr9_3 hL, Lr9_4 hL, Lr9_5 hL, Lg9_6 hL, Lp9_6 hL, Lg9_7 hL, Lp9_7 hL, Lo16 hL, Lr16_0 hL, Lr16_1 hL, Lg16_2 hL, Lp16_2 hL, Lo19 hL, Lr19_0 hL, Lr19_1 hL, Lr19_2 hL, Lr19_3 hL, Lr19_4 hL, Lr19_5 hL, Lg19_6 hL, Lp19_6 hL, Lg19_7 hL, Lp19_7 hL, Lo26 hL, Lr26_0 hL, Lr26_1 hL, Lr26_2 hL, Lr26_3 hL, Lr26_4 hL, Lr26_5 hL, Lg26_6 hL, Lp26_6 hL, Lg26_7 hL, Lp26_7 hL, Lg26_8 hL, Lp26_8 hL, La2 hL, Ls2 hL, La3 hL, Ls3 hL, La4 hL, Ls4 hL, La5 hL, Ls5 hL, La6 hL, Ls6 hL, La7 hL, Ls7 hL, La8 hL, Ls8 hL, La10 hL, Ls10 hL, La11 hL, Ls11 hL, La12 hL, Ls12 hL, La13 hL, Ls13 hL, La14 hL, Ls14 hL, La15 hL, Ls15 hL, La17 hL, Ls17 hL, La18 hL, Ls18 hL, La20 hL, Ls20 hL, La21 hL, Ls21 hL, La22 hL, Ls22 hL, La23 hL, Ls23 hL, La24 hL, Ls24 hL, La25 hL, Ls25 hL, La27 hL, Ls27 hL, La28 hL, Ls28 hL, La29 hL, Ls29 hL, La30 hL, Ls30 hL, La31 hL, Ls31 hL, La32 hL, Ls32 hL, hF, nI_add]
  unfold zirem
  rw [show (60 : Int32) = nI 60 from rfl, pk_rem (by omega) (by decide) (by decide)]
theorem e_giveC1 (hL : LF w a) {x1 x2 x3 x4 : Int32} (hp : p < 60) (hn : np < 60) (q1 : F 19 6 = nI p) (q2 : F 19 7 = nI np) : f_Field_give w (zblk D a F) a x1 x2 x3 x4 = some (zblk D a (addF F ((p + np) % 60) x1 x2 x3 (F 0 5) x4 (nI (np + 1)) (F 0 6 + 1))) := by
  have hc : nI np < 60 := by rw [show (60 : Int32) = nI 60 from rfl, nI_ltI (by omega) (by decide)]; exact hn
  have hm : (p + np) % 60 < 60 := by omega
  unfold f_Field_give f_Pulses_add
  simp (disch := omega) only [zjpE, zletE, zciE, zcvE, zchkE, nI_1, Lo0 hL, Lr0_0 hL, Lr0_1 hL, Lr0_2 hL, Lr0_3 hL, Lr0_4 hL, Lg0_5 hL, Lp0_5 hL, Lg0_6 hL, Lp0_6 hL, Lg0_7 hL, Lp0_7 hL, Lg0_8 hL, Lp0_8 hL, Lo1 hL, Lr1_0 hL, Lr1_1 hL, Lr1_2 hL, Lr1_3 hL, Lr1_4 hL, Lr1_5 hL, Lr1_6 hL, Lg1_7 hL, Lp1_7 hL, Lo9 hL, Lr9_0 hL, Lr9_1 hL, Lr9_2 hL, Lr9_3 hL, Lr9_4 hL, Lr9_5 hL, Lg9_6 hL, Lp9_6 hL, Lg9_7 hL, Lp9_7 hL, Lo16 hL, Lr16_0 hL, Lr16_1 hL, Lg16_2 hL, Lp16_2 hL, Lo19 hL, Lr19_0 hL, Lr19_1 hL, Lr19_2 hL, Lr19_3 hL, Lr19_4 hL, Lr19_5 hL, Lg19_6 hL, Lp19_6 hL, Lg19_7 hL, Lp19_7 hL, Lo26 hL, Lr26_0 hL, Lr26_1 hL, Lr26_2 hL, Lr26_3 hL, Lr26_4 hL, Lr26_5 hL, Lg26_6 hL, Lp26_6 hL, Lg26_7 hL, Lp26_7 hL, Lg26_8 hL, Lp26_8 hL, La2 hL, Ls2 hL, La3 hL, Ls3 hL, La4 hL, Ls4 hL, La5 hL, Ls5 hL, La6 hL, Ls6 hL, La7 hL, Ls7 hL, La8 hL, Ls8 hL, La10 hL, Ls10 hL, La11 hL, Ls11 hL, La12 hL, Ls12 hL, La13 hL, Ls13 hL, La14 hL, Ls14 hL, La15 hL, Ls15 hL, La17 hL, Ls17 hL, La18 hL, Ls18 hL, La20 hL, Ls20 hL, La21 hL, Ls21 hL, La22 hL, Ls22 hL, La23 hL, Ls23 hL, La24 hL, Ls24 hL, La25 hL, Ls25 hL, La27 hL, Ls27 hL, La28 hL, Ls28 hL, La29 hL, Ls29 hL, La30 hL, Ls30 hL, La31 hL, Ls31 hL, La32 hL, Ls32 hL, q2, hc, if_true, e_rowOf hL hp (show np ≤ 60 by omega) q1, upd2_o]
  rfl
theorem e_giveC2 (hL : LF w a) {x1 x2 x3 x4 : Int32} (hp : p < 60) (q1 : F 19 6 = nI p) (q2 : F 19 7 = nI 60) : f_Field_give w (zblk D a F) a x1 x2 x3 x4 = f_Field_give w (zblk D a (upd2 (upd2 F 19 6 (nI ((p + 1) % 60))) 19 7 (nI 59))) a x1 x2 x3 x4 := by
  have hc : ¬ nI 60 < 60 := by decide
  have hc' : nI 59 < 60 := by decide
  have h60 : nI 60 - 1 = nI 59 := by decide
  have hr := @e_rowOf w a D F hL p 1 hp (by omega) q1
  rw [show nI 1 = (1 : Int32) from rfl] at hr
  unfold f_Field_give f_Pulses_add
  simp (disch := omega) only [zjpE, zletE, zciE, zcvE, zchkE, nI_1, Lo0 hL, Lr0_0 hL, Lr0_1 hL, Lr0_2 hL, Lr0_3 hL, Lr0_4 hL, Lg0_5 hL, Lp0_5 hL, Lg0_6 hL, Lp0_6 hL, Lg0_7 hL, Lp0_7 hL, Lg0_8 hL, Lp0_8 hL, Lo1 hL, Lr1_0 hL, Lr1_1 hL, Lr1_2 hL, Lr1_3 hL, Lr1_4 hL, Lr1_5 hL, Lr1_6 hL, Lg1_7 hL, Lp1_7 hL, Lo9 hL, Lr9_0 hL, Lr9_1 hL, Lr9_2 hL, Lr9_3 hL, Lr9_4 hL, Lr9_5 hL, Lg9_6 hL, Lp9_6 hL, Lg9_7 hL, Lp9_7 hL, Lo16 hL, Lr16_0 hL, Lr16_1 hL, Lg16_2 hL, Lp16_2 hL, Lo19 hL, Lr19_0 hL, Lr19_1 hL, Lr19_2 hL, Lr19_3 hL, Lr19_4 hL, Lr19_5 hL, Lg19_6 hL, Lp19_6 hL, Lg19_7 hL, Lp19_7 hL, Lo26 hL, Lr26_0 hL, Lr26_1 hL, Lr26_2 hL, Lr26_3 hL, Lr26_4 hL, Lr26_5 hL, Lg26_6 hL, Lp26_6 hL, Lg26_7 hL, Lp26_7 hL, Lg26_8 hL, Lp26_8 hL, La2 hL, Ls2 hL, La3 hL, Ls3 hL, La4 hL, Ls4 hL, La5 hL, Ls5 hL, La6 hL, Ls6 hL, La7 hL, Ls7 hL, La8 hL, Ls8 hL, La10 hL, Ls10 hL, La11 hL, Ls11 hL, La12 hL, Ls12 hL, La13 hL, Ls13 hL, La14 hL, Ls14 hL, La15 hL, Ls15 hL, La17 hL, Ls17 hL, La18 hL, Ls18 hL, La20 hL, Ls20 hL, La21 hL, Ls21 hL, La22 hL, Ls22 hL, La23 hL, Ls23 hL, La24 hL, Ls24 hL, La25 hL, Ls25 hL, La27 hL, Ls27 hL, La28 hL, Ls28 hL, La29 hL, Ls29 hL, La30 hL, Ls30 hL, La31 hL, Ls31 hL, La32 hL, Ls32 hL, q2, hc, hc', if_true, if_false, hr, upd2_o, upd2_s, upd2_i, h60]
theorem RI_drop0 (h : RI F G ns nh nw t te tp A 60 d e l c) (q1 : F 19 6 = nI p) (hp : p < 60) : RI (upd2 (upd2 F 19 6 (nI ((p + 1) % 60))) 19 7 (nI 59)) (upd2 (dropG G 0 60) 19 7 (nI 59)) ns nh nw t te tp A 59 d e l c := by
  obtain ⟨h1, ⟨p', hq⟩, hz, hB, i0, hS, hH, hW, hC, hP, hE, hK, hA⟩ := h
  have hd : ∀ o, ¬ (20 ≤ o ∧ o < 26) → dropG G 0 60 o = G o := fun o ho => dropG_o ho
  have hpp : p' = p := by
    have := hq.1
    rw [q1, nI_eq (by omega) (by have := hq.2.1; omega)] at this; exact this.symm
  subst hpp
  refine ⟨R1_g (R1_f (R1_f ?_ (by unfold St; omega)) (by unfold St; omega)) (by unfold St; omega), ⟨(p' + 1) % 60, ?_⟩, ?_, ?_, ?_, ?_, ?_, ?_, ?_, ?_, ?_, ?_, ?_⟩
  · intro o j hs
    rw [hd o (by unfold St at hs; omega)]; exact h1 o j hs
  · obtain ⟨-, -, -, q4, q5, q6⟩ := hq
    refine ⟨by simp (disch := omega) only [upd2_i, upd2_s], by omega, by rw [upd2_s], by rw [upd2_s], by decide, ?_⟩
    intro f k hf hk
    simp (disch := omega) only [upd2_o]
    have := q6 f (k + 1) hf (by omega)
    unfold dropG
    rw [if_pos (by omega), ← this]
    congr 1
    omega
  · unfold RZ at hz ⊢; simp (disch := omega) only [upd2_o]; exact hz
  · rw [upd2_o (by decide), upd2_o (by decide), bsum_o (by decide), hB]
    clear hq q1 hp
    have : ∀ n, bsum (dropG G 0 60) n = bsum G n := by
      intro n
      induction n with
      | zero => rfl
      | succ n ih => unfold bsum; rw [ih, hd 14 (by decide)]
    rw [this]
  · unfold I0 at i0 ⊢; simp (disch := omega) only [upd2_o, hd]; exact i0
  · unfold IS at hS ⊢; simp (disch := omega) only [upd2_o, hd]; exact hS
  · unfold IH at hH ⊢; simp (disch := omega) only [upd2_o, hd]; exact hH
  · unfold IW at hW ⊢; simp (disch := omega) only [upd2_o, hd]; exact hW
  · unfold IC at hC ⊢; simp (disch := omega) only [upd2_o, hd]; exact hC
  · intro k hk
    have := hP (k + 1) (by omega)
    simp (disch := omega) only [upd2_o]
    unfold dropG
    simp (disch := omega) only [if_pos]
    exact this
  · unfold IE at hE ⊢; simp (disch := omega) only [upd2_o, hd]; exact hE
  · unfold IK at hK ⊢; simp (disch := omega) only [upd2_o, hd]; exact hK
  · unfold IA at hA ⊢; simp (disch := omega) only [upd2_o, hd]; exact hA
theorem RI_add (h : RI F G ns nh nw t te tp A np d e l c) (hn : np < 60) (q1 : F 19 6 = nI p) (hp : p < 60) {v0 v1 v2 v3 v4 g g' : Int32} (hv : Ip1 ns nw tp v0 v1 v2 v3 v4) (hg : g = g') : RI (addF F ((p + np) % 60) v0 v1 v2 v3 v4 (nI (np + 1)) g) (addF G np v0 v1 v2 v3 v4 (nI (np + 1)) g') ns nh nw t te tp A (np + 1) d e l c := by
  obtain ⟨h1, ⟨p', hq⟩, hz, hB, i0, hS, hH, hW, hC, hP, hE, hK, hA⟩ := h
  have hpp : p' = p := by
    have := hq.1
    rw [q1, nI_eq (by omega) (by have := hq.2.1; omega)] at this; exact this.symm
  subst hpp
  unfold addF
  refine ⟨R1_u ?_ hg, ⟨p', ?_⟩, ?_, ?_, ?_, ?_, ?_, ?_, ?_, ?_, ?_, ?_, ?_⟩
  · iterate 7 refine R1_g (R1_f ?_ (by unfold St; omega)) (by unfold St; omega)
    exact h1
  · obtain ⟨-, -, -, q4, q5, q6⟩ := hq
    refine ⟨by simp (disch := omega) only [upd2_i, upd2_o]; exact q1, by omega, by simp (disch := omega) only [upd2_o, upd2_s], by simp (disch := omega) only [upd2_o, upd2_s], by omega, ?_⟩
    intro f k hf hk
    have hf6 : f = 0 ∨ f = 1 ∨ f = 2 ∨ f = 3 ∨ f = 4 ∨ f = 5 := by omega
    by_cases hkn : k = np
    · subst hkn
      rcases hf6 with rfl | rfl | rfl | rfl | rfl | rfl <;> simp (disch := omega) only [upd2_o, upd2_s, Nat.reduceAdd]
    · have hr : (p' + k) % 60 ≠ (p' + np) % 60 := by omega
      have := q6 f k hf (by omega)
      rcases hf6 with rfl | rfl | rfl | rfl | rfl | rfl <;> simp (disch := omega) only [upd2_o, upd2_i, Nat.reduceAdd] at this ⊢ <;> exact this
  · unfold RZ at hz ⊢; simp (disch := omega) only [upd2_o]; exact hz
  · simp (disch := omega) only [bsum_o, upd2_o]; exact hB
  · unfold I0 at i0 ⊢; simp (disch := omega) only [upd2_o, upd2_i]; exact i0
  · unfold IS at hS ⊢; simp (disch := omega) only [upd2_o]; exact hS
  · unfold IH at hH ⊢; simp (disch := omega) only [upd2_o]; exact hH
  · unfold IW at hW ⊢; simp (disch := omega) only [upd2_o]; exact hW
  · unfold IC at hC ⊢; simp (disch := omega) only [upd2_i, upd2_o]; exact hC
  · intro k hk
    by_cases hkn : k = np
    · subst hkn
      simp (disch := omega) only [upd2_o, upd2_s]; exact hv
    · simp (disch := omega) only [upd2_o, upd2_i]; exact hP k (by omega)
  · unfold IE at hE ⊢; simp (disch := omega) only [upd2_o]; exact hE
  · unfold IK at hK ⊢; simp (disch := omega) only [upd2_o]; exact hK
  · unfold IA at hA ⊢; simp (disch := omega) only [upd2_o]; exact hA
theorem NZ_add {r : Nat} {v0 v1 v2 v3 v4 n g : Int32} (hr : r < 60) : NZ F → NZ (addF F r v0 v1 v2 v3 v4 n g) := by
  intro hz
  unfold addF
  refine NZ_u (NZ_u (NZ_u (NZ_u (NZ_u (NZ_u (NZ_u (NZ_u hz (Or.inl ?_)) (Or.inl ?_)) (Or.inl ?_)) (Or.inl ?_)) (Or.inl ?_)) (Or.inl ?_)) (Or.inl ?_)) (Or.inl ?_) <;> (unfold Cp; omega)
theorem give1 (ht : t ≤ tp) (ht1 : 1 ≤ t) (hB : B < 2 ^ 30) (h : RI F G ns nh nw t te tp A np d e l c) (hj : JJ G ns nh np t d e l B) {i : Nat} (hi : i < ns) (hdue : zirem (nI t) (G 6 i) = 0) {x y wl : Int32} (hx : -400 ≤ x ∧ x ≤ 400 ∧ -400 ≤ y ∧ y ≤ 400) (hw : wl = -1 ∨ ∃ i, i < nw ∧ wl = nI i) : ∃ F' G' np', RI F' G' ns nh nw t te tp A np' d e l c ∧ JJ G' ns nh np' t d e l (B + 1) ∧ Fr G G' ∧ (NZ F → NZ F') ∧ (∀ (w : zW) (a : Nat) (D : zD), LF w a → f_Field_give w (zblk D a F) a (nI i) x y wl = some (zblk D a F')) := by
  have main : ∀ {F G : Nat → Nat → Int32} {np : Nat}, np < 60 → RI F G ns nh nw t te tp A np d e l c → JJ G ns nh np t d e l B → zirem (nI t) (G 6 i) = 0 → ∃ F' G' np', RI F' G' ns nh nw t te tp A np' d e l c ∧ JJ G' ns nh np' t d e l (B + 1) ∧ Fr G G' ∧ (NZ F → NZ F') ∧ (∀ (w : zW) (a : Nat) (D : zD), LF w a → f_Field_give w (zblk D a F) a (nI i) x y wl = some (zblk D a F')) := by
    intro F G np hn h hj hdue
    obtain ⟨h1, ⟨p, q1, q2, q3, q4, -⟩, -, -, ⟨-, -, -, -, -, -, e5, e6⟩, -⟩ := id h
    refine ⟨_, _, np + 1, RI_add h hn q1 q2 (v0 := nI i) (v1 := x) (v2 := y) (v3 := nI t) (v4 := wl) ⟨⟨i, hi, rfl⟩, hx.1, hx.2.1, hx.2.2.1, hx.2.2.2, ⟨t, ht, rfl⟩, hw⟩ (g := F 0 6 + 1) (g' := G 0 6 + 1) (by rw [r0_6 h1]), JJ_add hj hB ht1 e6 hi hdue, ?_, NZ_add (Nat.mod_lt _ (by decide)), ?_⟩
    · unfold addF
      refine Fr_of (fun o h1 h2 => by simp (disch := omega) only [upd2_o]) (fun j hj => by simp (disch := omega) only [upd2_o, upd2_i]) (by simp (disch := omega) only [upd2_o])
    · intro w a D hL; rw [e_giveC1 hL q2 hn q1 q3, r0_5 h1, e5]
  obtain ⟨-, ⟨p, q1, q2, q3, q4, q5, -⟩, -⟩ := id h
  by_cases hn : np < 60
  · exact main hn h hj hdue
  · have hn6 : np = 60 := by omega
    subst hn6
    have h6 : (upd2 (dropG G 0 60) 19 7 (nI 59)) 6 = G 6 := by rw [upd2_o (by decide), dropG_o (by omega)]
    obtain ⟨F', G', np', r1, r2, r3, rz, r4⟩ := main (by decide) (RI_drop0 h q1 q2) (JJ_drop0 hj) (by rw [h6]; exact hdue)
    refine ⟨F', G', np', r1, r2, Fr_trans ?_ r3, fun hz => rz (NZ_u (NZ_u hz (Or.inl (by unfold Cp; omega))) (Or.inl (by unfold Cp; omega))), fun w a D hL => by rw [e_giveC2 hL q2 q1 q3]; exact r4 w a D hL⟩
    exact Fr_of (fun o h1 h2 => by rw [upd2_o (by omega), dropG_o (by omega)]) (fun j hj => by rw [upd2_o (by decide), dropG_o (by omega)]) (by rw [upd2_o (by decide), dropG_o (by omega)])
end P38
def pX (x r p : Int32) : Int32 := if p ≤ 2 * r then x - r + p else if p ≤ 4 * r then x + r else if p ≤ 6 * r then x + 5 * r - p else x - r
def pY (y r p : Int32) : Int32 := if p ≤ 2 * r then y - r else if p ≤ 4 * r then y - 3 * r + p else if p ≤ 6 * r then y + r else y + 7 * r - p
theorem pX_c {x r p : Int32} (h1 : 1 ≤ r) (h2 : r ≤ 5) (h3 : 0 ≤ p) (h4 : p < 8 * r) : (if 2 * r < p then (if 2 * (2 * r) < p then (if 3 * (2 * r) < p then x - r else x - r + 3 * (2 * r) - p) else x - r + 2 * r) else x - r + p) = pX x r p := by
  unfold pX
  by_cases a1 : p ≤ 2 * r
  · rw [if_neg (by grind), if_pos a1]
  · rw [if_pos (by grind), if_neg a1]
    by_cases a2 : p ≤ 4 * r
    · rw [if_neg (by grind), if_pos a2]; grind
    · rw [if_pos (by grind), if_neg a2]
      by_cases a3 : p ≤ 6 * r
      · rw [if_neg (by grind), if_pos a3]; grind
      · rw [if_pos (by grind), if_neg a3]
theorem pY_c {x r p : Int32} (h1 : 1 ≤ r) (h2 : r ≤ 5) (h3 : 0 ≤ p) (h4 : p < 8 * r) : (if 2 * r < p then (if 2 * (2 * r) < p then (if 3 * (2 * r) < p then x - r + 4 * (2 * r) - p else x - r + 2 * r) else x - r + p - 2 * r) else x - r) = pY x r p := by
  unfold pY
  by_cases a1 : p ≤ 2 * r
  · rw [if_neg (by grind), if_pos a1]
  · rw [if_pos (by grind), if_neg a1]
    by_cases a2 : p ≤ 4 * r
    · rw [if_neg (by grind), if_pos a2]; grind
    · rw [if_pos (by grind), if_neg a2]
      by_cases a3 : p ≤ 6 * r
      · rw [if_neg (by grind), if_pos a3]; grind
      · rw [if_pos (by grind), if_neg a3]; grind
theorem pX_rg {x r p : Int32} (hx : -30 ≤ x ∧ x ≤ 30) (h1 : 1 ≤ r) (h2 : r ≤ 5) (h3 : 0 ≤ p) (h4 : p < 8 * r) : -200 ≤ pX x r p ∧ pX x r p ≤ 200 := by
  have h5 : r = 1 ∨ r = 2 ∨ r = 3 ∨ r = 4 ∨ r = 5 := by grind
  have h6 : 0 ≤ p ∧ p < 40 := by grind
  clear h1 h2 h3 h4
  unfold pX
  obtain ⟨h6, h7⟩ := h6
  obtain ⟨h8, h9⟩ := hx
  rcases h5 with rfl | rfl | rfl | rfl | rfl <;> constructor <;> grind
theorem pY_rg {x r p : Int32} (hx : -30 ≤ x ∧ x ≤ 30) (h1 : 1 ≤ r) (h2 : r ≤ 5) (h3 : 0 ≤ p) (h4 : p < 8 * r) : -200 ≤ pY x r p ∧ pY x r p ≤ 200 := by
  have h5 : r = 1 ∨ r = 2 ∨ r = 3 ∨ r = 4 ∨ r = 5 := by grind
  have h6 : 0 ≤ p ∧ p < 40 := by grind
  clear h1 h2 h3 h4
  unfold pY
  obtain ⟨h6, h7⟩ := h6
  obtain ⟨h8, h9⟩ := hx
  rcases h5 with rfl | rfl | rfl | rfl | rfl <;> constructor <;> grind
section P39
variable {A : Prop} {w : zW} {a b ns nh nw t te tp np d e l c p k B : Nat} {D : zD} {F G : Nat → Nat → Int32}
theorem ite_some {α : Type} {c : Prop} [Decidable c] {x y : α} : (if c then some x else some y) = some (if c then x else y) := by split <;> rfl
theorem ite_pr {α β : Type} {c : Prop} [Decidable c] {x y : α} {z : β} : (if c then (x, z) else (y, z)) = (if c then x else y, z) := by split <;> rfl
theorem e_placeX (hL : LF w a) {k : Nat} (hk : k < 4) (h1 : 1 ≤ F 4 k) (h2 : F 4 k ≤ 5) (h3 : 0 ≤ F 7 k) (h4 : F 7 k < 8 * F 4 k) : f_Sirens_placeX w (zblk D a F) (a + 1) (nI k) = some (pX (F 2 k) (F 4 k) (F 7 k), zblk D a F) := by
  unfold f_Sirens_placeX
  simp (disch := omega) only [zjpE, zletE, zciE, zcvE, zchkE, nI_1, Lo0 hL, Lr0_0 hL, Lr0_1 hL, Lr0_2 hL, Lr0_3 hL, Lr0_4 hL, Lg0_5 hL, Lp0_5 hL, Lg0_6 hL, Lp0_6 hL, Lg0_7 hL, Lp0_7 hL, Lg0_8 hL, Lp0_8 hL, Lo1 hL, Lr1_0 hL, Lr1_1 hL, Lr1_2 hL, Lr1_3 hL, Lr1_4 hL, Lr1_5 hL, Lr1_6 hL, Lg1_7 hL, Lp1_7 hL, Lo9 hL, Lr9_0 hL, Lr9_1 hL, Lr9_2 hL, Lr9_3 hL, Lr9_4 hL, Lr9_5 hL, Lg9_6 hL, Lp9_6 hL, Lg9_7 hL, Lp9_7 hL, Lo16 hL, Lr16_0 hL, Lr16_1 hL, Lg16_2 hL, Lp16_2 hL, Lo19 hL, Lr19_0 hL, Lr19_1 hL, Lr19_2 hL, Lr19_3 hL, Lr19_4 hL, Lr19_5 hL, Lg19_6 hL, Lp19_6 hL, Lg19_7 hL, Lp19_7 hL, Lo26 hL, Lr26_0 hL, Lr26_1 hL, Lr26_2 hL, Lr26_3 hL, Lr26_4 hL, Lr26_5 hL, Lg26_6 hL, Lp26_6 hL, Lg26_7 hL, Lp26_7 hL, Lg26_8 hL, Lp26_8 hL, La2 hL, Ls2 hL, La3 hL, Ls3 hL, La4 hL, Ls4 hL, La5 hL, Ls5 hL, La6 hL, Ls6 hL, La7 hL, Ls7 hL, La8 hL, Ls8 hL, La10 hL, Ls10 hL, La11 hL, Ls11 hL, La12 hL, Ls12 hL, La13 hL, Ls13 hL, La14 hL, Ls14 hL, La15 hL, Ls15 hL, La17 hL, Ls17 hL, La18 hL, Ls18 hL, La20 hL, Ls20 hL, La21 hL, Ls21 hL, La22 hL, Ls22 hL, La23 hL, Ls23 hL, La24 hL, Ls24 hL, La25 hL, Ls25 hL, La27 hL, Ls27 hL, La28 hL, Ls28 hL, La29 hL, Ls29 hL, La30 hL, Ls30 hL, La31 hL, Ls31 hL, La32 hL, Ls32 hL, ite_some, ite_pr, pX_c h1 h2 h3 h4]
theorem e_placeY (hL : LF w a) {k : Nat} (hk : k < 4) (h1 : 1 ≤ F 4 k) (h2 : F 4 k ≤ 5) (h3 : 0 ≤ F 7 k) (h4 : F 7 k < 8 * F 4 k) : f_Sirens_placeY w (zblk D a F) (a + 1) (nI k) = some (pY (F 3 k) (F 4 k) (F 7 k), zblk D a F) := by
  unfold f_Sirens_placeY
  simp (disch := omega) only [zjpE, zletE, zciE, zcvE, zchkE, nI_1, Lo0 hL, Lr0_0 hL, Lr0_1 hL, Lr0_2 hL, Lr0_3 hL, Lr0_4 hL, Lg0_5 hL, Lp0_5 hL, Lg0_6 hL, Lp0_6 hL, Lg0_7 hL, Lp0_7 hL, Lg0_8 hL, Lp0_8 hL, Lo1 hL, Lr1_0 hL, Lr1_1 hL, Lr1_2 hL, Lr1_3 hL, Lr1_4 hL, Lr1_5 hL, Lr1_6 hL, Lg1_7 hL, Lp1_7 hL, Lo9 hL, Lr9_0 hL, Lr9_1 hL, Lr9_2 hL, Lr9_3 hL, Lr9_4 hL, Lr9_5 hL, Lg9_6 hL, Lp9_6 hL, Lg9_7 hL, Lp9_7 hL, Lo16 hL, Lr16_0 hL, Lr16_1 hL, Lg16_2 hL, Lp16_2 hL, Lo19 hL, Lr19_0 hL, Lr19_1 hL, Lr19_2 hL, Lr19_3 hL, Lr19_4 hL, Lr19_5 hL, Lg19_6 hL, Lp19_6 hL, Lg19_7 hL, Lp19_7 hL, Lo26 hL, Lr26_0 hL, Lr26_1 hL, Lr26_2 hL, Lr26_3 hL, Lr26_4 hL, Lr26_5 hL, Lg26_6 hL, Lp26_6 hL, Lg26_7 hL, Lp26_7 hL, Lg26_8 hL, Lp26_8 hL, La2 hL, Ls2 hL, La3 hL, Ls3 hL, La4 hL, Ls4 hL, La5 hL, Ls5 hL, La6 hL, Ls6 hL, La7 hL, Ls7 hL, La8 hL, Ls8 hL, La10 hL, Ls10 hL, La11 hL, Ls11 hL, La12 hL, Ls12 hL, La13 hL, Ls13 hL, La14 hL, Ls14 hL, La15 hL, Ls15 hL, La17 hL, Ls17 hL, La18 hL, Ls18 hL, La20 hL, Ls20 hL, La21 hL, Ls21 hL, La22 hL, Ls22 hL, La23 hL, Ls23 hL, La24 hL, Ls24 hL, La25 hL, Ls25 hL, La27 hL, Ls27 hL, La28 hL, Ls28 hL, La29 hL, Ls29 hL, La30 hL, Ls30 hL, La31 hL, Ls31 hL, La32 hL, Ls32 hL, ite_some, ite_pr, pY_c h1 h2 h3 h4]
theorem e_isDue (hL : LF w a) {k : Nat} (hk : k < 4) {v : Int32} (h2 : 1 ≤ F 6 k) : f_Sirens_isDue w (zblk D a F) (a + 1) (nI k) v = some (if ¬ F 8 k = 0 ∧ zirem v (F 6 k) = 0 then 1 else 0, zblk D a F) := by
  have h3 : ¬ F 6 k ≤ 0 := by grind
  have h4 : ¬ F 6 k = 0 := by grind
  unfold f_Sirens_isDue
  simp (disch := omega) only [zjpE, zletE, zciE, zcvE, zchkE, nI_1, Lo0 hL, Lr0_0 hL, Lr0_1 hL, Lr0_2 hL, Lr0_3 hL, Lr0_4 hL, Lg0_5 hL, Lp0_5 hL, Lg0_6 hL, Lp0_6 hL, Lg0_7 hL, Lp0_7 hL, Lg0_8 hL, Lp0_8 hL, Lo1 hL, Lr1_0 hL, Lr1_1 hL, Lr1_2 hL, Lr1_3 hL, Lr1_4 hL, Lr1_5 hL, Lr1_6 hL, Lg1_7 hL, Lp1_7 hL, Lo9 hL, Lr9_0 hL, Lr9_1 hL, Lr9_2 hL, Lr9_3 hL, Lr9_4 hL, Lr9_5 hL, Lg9_6 hL, Lp9_6 hL, Lg9_7 hL, Lp9_7 hL, Lo16 hL, Lr16_0 hL, Lr16_1 hL, Lg16_2 hL, Lp16_2 hL, Lo19 hL, Lr19_0 hL, Lr19_1 hL, Lr19_2 hL, Lr19_3 hL, Lr19_4 hL, Lr19_5 hL, Lg19_6 hL, Lp19_6 hL, Lg19_7 hL, Lp19_7 hL, Lo26 hL, Lr26_0 hL, Lr26_1 hL, Lr26_2 hL, Lr26_3 hL, Lr26_4 hL, Lr26_5 hL, Lg26_6 hL, Lp26_6 hL, Lg26_7 hL, Lp26_7 hL, Lg26_8 hL, Lp26_8 hL, La2 hL, Ls2 hL, La3 hL, Ls3 hL, La4 hL, Ls4 hL, La5 hL, Ls5 hL, La6 hL, Ls6 hL, La7 hL, Ls7 hL, La8 hL, Ls8 hL, La10 hL, Ls10 hL, La11 hL, Ls11 hL, La12 hL, Ls12 hL, La13 hL, Ls13 hL, La14 hL, Ls14 hL, La15 hL, Ls15 hL, La17 hL, Ls17 hL, La18 hL, Ls18 hL, La20 hL, Ls20 hL, La21 hL, Ls21 hL, La22 hL, Ls22 hL, La23 hL, Ls23 hL, La24 hL, Ls24 hL, La25 hL, Ls25 hL, La27 hL, Ls27 hL, La28 hL, Ls28 hL, La29 hL, Ls29 hL, La30 hL, Ls30 hL, La31 hL, Ls31 hL, La32 hL, Ls32 hL]
  by_cases g1 : F 8 k = 0
  · simp [g1]
  · by_cases g2 : zirem v (F 6 k) = 0
    · simp [g1, g2, h3, h4]
    · simp [g1, g2, h3, h4]
end P39
section P40
variable {A : Prop} {w : zW} {a b ns nh nw t te tp np d e l c p k B : Nat} {D : zD} {F G : Nat → Nat → Int32}
theorem wk1 {x : Int32} (h : -200 ≤ x) : -400 ≤ x := by grind
theorem wk2 {x : Int32} (h : x ≤ 200) : x ≤ 400 := by grind
theorem mir {x y : Int32} (h : -40 ≤ x ∧ x ≤ 40) (h2 : -200 ≤ y ∧ y ≤ 200) : -400 ≤ 2 * x - y ∧ 2 * x - y ≤ 400 := by grind
theorem gsC (hL : LF w a) {k : Nat} {v0 x y : Int32} (hn : nw ≤ 3) (hk : k < nw) (hF : F 16 2 = nI nw) {j : Int32 → Int32 → Int32 → zD → Option zD} : S_Field_givePulses_S1 w a v0 j x y (nI k) (zblk D a F) = if F 17 k = 0 then (if y = F 18 k then j x y (nI (k + 1)) (zblk D a F) else zcv (f_Field_give w (zblk D a F) a v0 x (2 * F 18 k - y) (nI k)) (fun D => j x y (nI (k + 1)) D)) else (if x = F 18 k then j x y (nI (k + 1)) (zblk D a F) else zcv (f_Field_give w (zblk D a F) a v0 (2 * F 18 k - x) y (nI k)) (fun D => j x y (nI (k + 1)) D)) := by
  have hc : ¬ nI nw ≤ nI k := by rw [nI_leI (by omega) (by omega)]; omega
  unfold S_Field_givePulses_S1
  simp (disch := omega) only [zjp, zlet, nI_1, Lr0_2 hL, Lg16_2 hL, hF, hc, if_false, Lr16_0 hL, Lr16_1 hL, La17 hL, La18 hL, Lo0 hL]
  by_cases h0 : F 17 k = 0
  · rw [if_pos h0, if_pos h0, if_pos h0]
  · rw [if_neg h0, if_neg h0, if_neg h0]
theorem gives1 (ht : t ≤ tp) (ht1 : 1 ≤ t) (hB : B < 2 ^ 30) (h : RI F G ns nh nw t te tp A np d e l c) (hj : JJ G ns nh np t d e l B) {i k : Nat} (hi : i < ns) (hdue : zirem (nI t) (G 6 i) = 0) (hk : k < nw) {x y : Int32} (hx : -200 ≤ x ∧ x ≤ 200 ∧ -200 ≤ y ∧ y ≤ 200) : ∃ F' G' np', RI F' G' ns nh nw t te tp A np' d e l c ∧ JJ G' ns nh np' t d e l (B + 1) ∧ Fr G G' ∧ (NZ F → NZ F') ∧ (∀ (w : zW) (a : Nat) (D : zD) j, LF w a → S_Field_givePulses_S1 w a (nI i) j x y (nI k) (zblk D a F) = j x y (nI (k + 1)) (zblk D a F')) := by
  obtain ⟨h1, -, -, -, ⟨-, -, -, -, e3, hn, -⟩, -, -, hW, -⟩ := id h
  have hF : F 16 2 = nI nw := by rw [r16_2 h1, e3]
  obtain ⟨hu, hat⟩ := hW k hk
  have hk3 : k < 3 := by omega
  have hC := fun (w : zW) (a : Nat) (D : zD) j (hL : LF w a) => @gsC w a nw D F hL k (nI i) x y hn hk hF j
  rw [r17 h1 hk3, r18 h1 hk3] at hC
  by_cases h0 : G 17 k = 0
  · by_cases hy : y = G 18 k
    · exact ⟨F, G, np, h, JJ_mono hj (by omega), Fr_refl, id, fun w a D j hL => by rw [hC w a D j hL, if_pos h0, if_pos hy]⟩
    · obtain ⟨F', G', np', g1, g2, g3, gz, g4⟩ := give1 ht ht1 hB h hj hi hdue (x := x) (y := 2 * G 18 k - y) (wl := nI k) ⟨wk1 hx.1, wk2 hx.2.1, mir hat hx.2.2⟩ (Or.inr ⟨k, hk, rfl⟩)
      exact ⟨F', G', np', g1, g2, g3, gz, fun w a D j hL => by rw [hC w a D j hL, if_pos h0, if_neg hy, g4 w a D hL]; rfl⟩
  · by_cases hy : x = G 18 k
    · exact ⟨F, G, np, h, JJ_mono hj (by omega), Fr_refl, id, fun w a D j hL => by rw [hC w a D j hL, if_neg h0, if_pos hy]⟩
    · obtain ⟨F', G', np', g1, g2, g3, gz, g4⟩ := give1 ht ht1 hB h hj hi hdue (x := 2 * G 18 k - x) (y := y) (wl := nI k) ⟨(mir hat ⟨hx.1, hx.2.1⟩).1, (mir hat ⟨hx.1, hx.2.1⟩).2, wk1 hx.2.2.1, wk2 hx.2.2.2⟩ (Or.inr ⟨k, hk, rfl⟩)
      exact ⟨F', G', np', g1, g2, g3, gz, fun w a D j hL => by rw [hC w a D j hL, if_neg h0, if_neg hy, g4 w a D hL]; rfl⟩
theorem gives (ht : t ≤ tp) (ht1 : 1 ≤ t) (hB : B + 4 < 2 ^ 30) (h : RI F G ns nh nw t te tp A np d e l c) (hj : JJ G ns nh np t d e l B) {i : Nat} (hi : i < ns) (hdue : zirem (nI t) (G 6 i) = 0) : ∃ F' G' np', RI F' G' ns nh nw t te tp A np' d e l c ∧ JJ G' ns nh np' t d e l (B + 4) ∧ Fr G G' ∧ (NZ F → NZ F') ∧ (∀ (w : zW) (a : Nat) (D : zD), LF w a → f_Field_givePulses w (zblk D a F) a (nI i) = some (zblk D a F')) := by
  obtain ⟨h1, -, -, -, ⟨-, hns, -, -, e3, hn, -⟩, hS, -, hW, -⟩ := id h
  obtain ⟨s1, s2, s3, s4, s5, s6, -, -, -, -, -, s12, s13⟩ := hS i hi
  have hi4 : i < 4 := by omega
  obtain ⟨x1, x2⟩ := @pX_rg (G 2 i) (G 4 i) (G 7 i) ⟨s1, s2⟩ s5 s6 s12 s13
  obtain ⟨y1, y2⟩ := @pY_rg (G 3 i) (G 4 i) (G 7 i) ⟨s3, s4⟩ s5 s6 s12 s13
  obtain ⟨F0, G0, np0, g1, g2, g3, gz, g4⟩ := give1 ht ht1 (show B < 2 ^ 30 by omega) h hj hi hdue (x := pX (G 2 i) (G 4 i) (G 7 i)) (y := pY (G 3 i) (G 4 i) (G 7 i)) (wl := -1) ⟨wk1 x1, wk2 x2, wk1 y1, wk2 y2⟩ (Or.inl rfl)
  obtain ⟨s, ⟨np', hs, hsj, hsf, hsz⟩, q1⟩ := lpU (δ := UW) (bot := fun (_ : Int32) (_ : Int32) (_ : Int32) (_ : zD) => none) (st := fun X => S_Field_givePulses_S1 X.1.1 X.1.2.1 (nI i)) (n := nw) (fun k s => ∃ np, RI s.1 s.2 ns nh nw t te tp A np d e l c ∧ JJ s.2 ns nh np t d e l (B + 1 + k) ∧ Fr G s.2 ∧ (NZ F → NZ s.1)) (fun X g k s => g (pX (G 2 i) (G 4 i) (G 7 i)) (pY (G 3 i) (G 4 i) (G 7 i)) (nI k) (zblk X.1.2.2 X.1.2.1 s.1)) (by
    intro k s hk hs
    obtain ⟨np, hs, hsj, hsf, hsz⟩ := hs
    obtain ⟨F', G', np', r1, r2, r3, rz, r4⟩ := gives1 ht ht1 (by omega) hs hsj hi (by rw [hsf.1 6 (by decide) (by decide)]; exact hdue) hk ⟨x1, x2, y1, y2⟩
    exact ⟨(F', G'), ⟨np', r1, r2, Fr_trans hsf r3, fun hz => rz (hsz hz)⟩, fun X j => r4 X.1.1 X.1.2.1 X.1.2.2 j X.2⟩) nw 0 (F0, G0) (by omega) ⟨np0, g1, g2, g3, gz⟩
  obtain ⟨k1, -, -, -, ⟨-, -, -, -, e4, -⟩, -⟩ := id hs
  refine ⟨s.1, s.2, np', hs, JJ_mono hsj (by omega), hsf, hsz, ?_⟩
  intro w a D hL
  obtain ⟨j, hj⟩ := q1 ⟨(w, a, D), hL⟩ zfuel (by unfold zfuel; omega)
  rw [u_Field_givePulses]
  have p1 := @e_placeX w a D F hL i hi4 (by rw [r4 h1 hi4]; exact s5) (by rw [r4 h1 hi4]; exact s6) (by rw [r7 h1 hi4]; exact s12) (by rw [r7 h1 hi4, r4 h1 hi4]; exact s13)
  have p2 := @e_placeY w a D F hL i hi4 (by rw [r4 h1 hi4]; exact s5) (by rw [r4 h1 hi4]; exact s6) (by rw [r7 h1 hi4]; exact s12) (by rw [r7 h1 hi4, r4 h1 hi4]; exact s13)
  rw [r2 h1 hi4, r4 h1 hi4, r7 h1 hi4] at p1
  rw [r3 h1 hi4, r4 h1 hi4, r7 h1 hi4] at p2
  simp only [zjpE, zletE, zciE, zcvE, zchkE, nI_1, Lr0_0 hL, Lo0 hL, Lo1 hL, p1, p2, g4 w a D hL]
  refine hj.trans ?_
  unfold S_Field_givePulses_S1
  simp only [Lr0_2 hL, Lg16_2 hL, r16_2 k1, e4, nI_le (Nat.le_refl nw) (show nw < 2 ^ 31 by omega), if_true]
theorem due1 (hA : A → t ≤ tp) (ht1 : 1 ≤ t) (hB : B + 4 < 2 ^ 30) (h : RI F G ns nh nw t te tp A np d e l c) (hj : JJ G ns nh np t d e l B) {k : Nat} (hk : k < ns) : ∃ F' G' np', RI F' G' ns nh nw t te tp A np' d e l c ∧ JJ G' ns nh np' t d e l (B + 4) ∧ Fr G G' ∧ (NZ F → NZ F') ∧ (∀ (w : zW) (a : Nat) (D : zD) j, LF w a → S_Field_tick_S1 w a j (nI k) (zblk D a F) = j (nI (k + 1)) (zblk D a F')) := by
  obtain ⟨h1, -, -, -, ⟨e1, hn, -, -, -, -, e5, -⟩, hS, -, -, -, -, -, -, hIA⟩ := id h
  have hF : F 1 7 = nI ns := by rw [r1_7 h1, e1]
  have hc : ¬ nI ns ≤ nI k := by rw [nI_leI (by omega) (by omega)]; omega
  have hk4 : k < 4 := by omega
  obtain ⟨-, -, -, -, -, -, -, -, s9, -, s11, -⟩ := hS k hk
  have h0 : ¬ G 6 k = 0 := by clear hS h h1; grind
  have d0 : ¬ (0 : Int32) = 1 := by decide
  have d1 : ¬ (1 : Int32) = 0 := by decide
  have hd := fun (w : zW) (a : Nat) (D : zD) v (hL : LF w a) => @e_isDue w a D F hL k hk4 v (by rw [r6 h1 hk4]; exact s9)
  rw [r6 h1 hk4, r8 h1 hk4] at hd
  have hF5 : F 0 5 = nI t := by rw [r0_5 h1, e5]
  by_cases hdue : ¬ G 8 k = 0 ∧ zirem (nI t) (G 6 k) = 0
  · obtain ⟨F', G', np', g1, g2, g3, gz, g4⟩ := gives (hA ((hIA k hk).resolve_left hdue.1)) ht1 hB h hj hk hdue.2
    refine ⟨F', G', np', g1, g2, g3, gz, ?_⟩
    intro w a D j hL
    unfold S_Field_tick_S1
    simp only [zjpE, zletE, zciE, zcvE, zchkE, nI_1, Lr0_0 hL, Lg1_7 hL, hF, hc, if_false, Lg0_5 hL, hF5, Lo0 hL, Lo1 hL, hd w a _ _ hL, if_pos hdue, d1, g4 w a _ hL]
  · refine ⟨F, G, np, h, JJ_mono hj (by omega), Fr_refl, id, ?_⟩
    intro w a D j hL
    unfold S_Field_tick_S1
    simp only [zjpE, zletE, zciE, zcvE, zchkE, nI_1, Lr0_0 hL, Lg1_7 hL, hF, hc, if_false, Lg0_5 hL, hF5, Lo0 hL, Lo1 hL, hd w a _ _ hL, if_neg hdue, if_true]
theorem ph3 (hA : A → t ≤ tp) (ht1 : 1 ≤ t) (hB : B + 16 < 2 ^ 30) (h : RI F G ns nh nw t te tp A np d e l c) (hj : JJ G ns nh np t d e l B) : ∃ F' G' np', RI F' G' ns nh nw t te tp A np' d e l c ∧ JJ G' ns nh np' t d e l (B + 16) ∧ Fr G G' ∧ (NZ F → NZ F') ∧ (∀ (w : zW) (a : Nat) (D : zD), LF w a → zlp (fun (_ : Int32) (_ : zD) => none) (S_Field_tick_S1 w a) zfuel 0 (zblk D a F) = zcv (f_Field_hearPulses w (zblk D a F') a) (fun D4 => zcv (f_Hearers_countBeats w D4 (a + 9)) (fun D6 => some D6))) := by
  obtain ⟨-, -, -, -, ⟨-, hn, -⟩, -⟩ := id h
  obtain ⟨s, ⟨np', hs, hsj, hsf, hsz⟩, q1⟩ := lpU (δ := UW) (bot := fun (_ : Int32) (_ : zD) => none) (st := fun X => S_Field_tick_S1 X.1.1 X.1.2.1) (n := ns) (fun k s => ∃ np, RI s.1 s.2 ns nh nw t te tp A np d e l c ∧ JJ s.2 ns nh np t d e l (B + 4 * k) ∧ Fr G s.2 ∧ (NZ F → NZ s.1)) (fun X g k s => g (nI k) (zblk X.1.2.2 X.1.2.1 s.1)) (by
    intro k s hk hs
    obtain ⟨np, hs, hsj, hsf, hsz⟩ := hs
    obtain ⟨F', G', np', r1, r2, r3, rz, r4⟩ := due1 hA ht1 (by omega) hs hsj hk
    exact ⟨(F', G'), ⟨np', r1, r2, Fr_trans hsf r3, fun hz => rz (hsz hz)⟩, fun X j => r4 X.1.1 X.1.2.1 X.1.2.2 j X.2⟩) ns 0 (F, G) (by omega) ⟨np, h, hj, Fr_refl, id⟩
  obtain ⟨h1, -, -, -, ⟨e1, -⟩, -⟩ := id hs
  refine ⟨s.1, s.2, np', hs, JJ_mono hsj (by omega), hsf, hsz, ?_⟩
  intro w a D hL
  obtain ⟨j, hj⟩ := q1 ⟨(w, a, D), hL⟩ zfuel (by unfold zfuel; omega)
  refine hj.trans ?_
  unfold S_Field_tick_S1
  simp only [Lr0_0 hL, Lg1_7 hL, r1_7 h1, e1, nI_le (Nat.le_refl ns) (show ns < 2 ^ 31 by omega), if_true, Lo0 hL, Lr0_1 hL, Lo9 hL]
end P40
