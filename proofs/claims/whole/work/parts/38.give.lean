/-! PURE: a pulse comes. -/
def addF (F : Nat → Nat → Int32) (r : Nat) (v0 v1 v2 v3 v4 n g : Int32) : Nat → Nat → Int32 := upd2 (upd2 (upd2 (upd2 (upd2 (upd2 (upd2 (upd2 F 20 r v0) 21 r v1) 22 r v2) 23 r v3) 24 r v4) 25 r 0) 19 7 n) 0 6 g
section P38
variable {A : Prop} {w : zW} {a b ns nh nw t te tp np d e l c p : Nat} {D : zD} {F G : Nat → Nat → Int32}
theorem e_giveC1 (hL : LF w a) {x1 x2 x3 x4 : Int32} (hp : p < 60) (hn : np < 60) (q1 : F 19 6 = nI p) (q2 : F 19 7 = nI np) : f_Field_give w (zblk D a F) a x1 x2 x3 x4 = some (zblk D a (addF F ((p + np) % 60) x1 x2 x3 (F 0 5) x4 (nI (np + 1)) (F 0 6 + 1))) := by
  have hc : nI np < 60 := by rw [show (60 : Int32) = nI 60 from rfl, nI_ltI (by omega) (by decide)]; exact hn
  have hm : (p + np) % 60 < 60 := by omega
  unfold f_Field_give f_Pulses_add
  simp (disch := omega) only [zjpE, zletE, zciE, zcvE, zchkE, nI_1, Lo0 hL, Lr0_0 hL, Lr0_1 hL, Lr0_2 hL, Lr0_3 hL, Lr0_4 hL, Lg0_5 hL, Lp0_5 hL, Lg0_6 hL, Lp0_6 hL, Lg0_7 hL, Lp0_7 hL, Lg0_8 hL, Lp0_8 hL, Lo1 hL, Lr1_0 hL, Lr1_1 hL, Lr1_2 hL, Lr1_3 hL, Lr1_4 hL, Lr1_5 hL, Lr1_6 hL, Lg1_7 hL, Lp1_7 hL, Lo9 hL, Lr9_0 hL, Lr9_1 hL, Lr9_2 hL, Lr9_3 hL, Lr9_4 hL, Lr9_5 hL, Lg9_6 hL, Lp9_6 hL, Lg9_7 hL, Lp9_7 hL, Lo16 hL, Lr16_0 hL, Lr16_1 hL, Lg16_2 hL, Lp16_2 hL, Lo19 hL, Lr19_0 hL, Lr19_1 hL, Lr19_2 hL, Lr19_3 hL, Lr19_4 hL, Lr19_5 hL, Lg19_6 hL, Lp19_6 hL, Lg19_7 hL, Lp19_7 hL, Lo26 hL, Lr26_0 hL, Lr26_1 hL, Lr26_2 hL, Lr26_3 hL, Lr26_4 hL, Lr26_5 hL, Lg26_6 hL, Lp26_6 hL, Lg26_7 hL, Lp26_7 hL, Lg26_8 hL, Lp26_8 hL, La2 hL, Ls2 hL, La3 hL, Ls3 hL, La4 hL, Ls4 hL, La5 hL, Ls5 hL, La6 hL, Ls6 hL, La7 hL, Ls7 hL, La8 hL, Ls8 hL, La10 hL, Ls10 hL, La11 hL, Ls11 hL, La12 hL, Ls12 hL, La13 hL, Ls13 hL, La14 hL, Ls14 hL, La15 hL, Ls15 hL, La17 hL, Ls17 hL, La18 hL, Ls18 hL, La20 hL, Ls20 hL, La21 hL, Ls21 hL, La22 hL, Ls22 hL, La23 hL, Ls23 hL, La24 hL, Ls24 hL, La25 hL, Ls25 hL, La27 hL, Ls27 hL, La28 hL, Ls28 hL, La29 hL, Ls29 hL, La30 hL, Ls30 hL, La31 hL, Ls31 hL, La32 hL, Ls32 hL, q2, hc, if_true, e_rowOf hL hp (show np ≤ 60 by omega) q1, upd2_o]
  rfl
theorem e_giveC2 (hL : LF w a) {x1 x2 x3 x4 : Int32} (hp : p < 60) (q1 : F 19 6 = nI p) (q2 : F 19 7 = nI 60) : f_Field_give w (zblk D a F) a x1 x2 x3 x4 = f_Field_give w (zblk D a (upd2 (upd2 F 19 6 (nI ((p + 1) % 60))) 19 7 (nI 59))) a x1 x2 x3 x4 := by
  have hc : ¬ nI 60 < 60 := by decide
  have hc' : nI 59 < 60 := by decide
  have h60 : nI 60 - 1 = nI 59 := by decide
  have hr := @e_rowOf w a D F hL p 1 hp (by omega) q1
  rw [show nI 1 = (1 : Int32) from rfl] at hr
  unfold f_Field_give f_Pulses_add
  simp (disch := omega) only [zjpE, zletE, zciE, zcvE, zchkE, nI_1, Lo0 hL, Lr0_0 hL, Lr0_1 hL, Lr0_2 hL, Lr0_3 hL, Lr0_4 hL, Lg0_5 hL, Lp0_5 hL, Lg0_6 hL, Lp0_6 hL, Lg0_7 hL, Lp0_7 hL, Lg0_8 hL, Lp0_8 hL, Lo1 hL, Lr1_0 hL, Lr1_1 hL, Lr1_2 hL, Lr1_3 hL, Lr1_4 hL, Lr1_5 hL, Lr1_6 hL, Lg1_7 hL, Lp1_7 hL, Lo9 hL, Lr9_0 hL, Lr9_1 hL, Lr9_2 hL, Lr9_3 hL, Lr9_4 hL, Lr9_5 hL, Lg9_6 hL, Lp9_6 hL, Lg9_7 hL, Lp9_7 hL, Lo16 hL, Lr16_0 hL, Lr16_1 hL, Lg16_2 hL, Lp16_2 hL, Lo19 hL, Lr19_0 hL, Lr19_1 hL, Lr19_2 hL, Lr19_3 hL, Lr19_4 hL, Lr19_5 hL, Lg19_6 hL, Lp19_6 hL, Lg19_7 hL, Lp19_7 hL, Lo26 hL, Lr26_0 hL, Lr26_1 hL, Lr26_2 hL, Lr26_3 hL, Lr26_4 hL, Lr26_5 hL, Lg26_6 hL, Lp26_6 hL, Lg26_7 hL, Lp26_7 hL, Lg26_8 hL, Lp26_8 hL, La2 hL, Ls2 hL, La3 hL, Ls3 hL, La4 hL, Ls4 hL, La5 hL, Ls5 hL, La6 hL, Ls6 hL, La7 hL, Ls7 hL, La8 hL, Ls8 hL, La10 hL, Ls10 hL, La11 hL, Ls11 hL, La12 hL, Ls12 hL, La13 hL, Ls13 hL, La14 hL, Ls14 hL, La15 hL, Ls15 hL, La17 hL, Ls17 hL, La18 hL, Ls18 hL, La20 hL, Ls20 hL, La21 hL, Ls21 hL, La22 hL, Ls22 hL, La23 hL, Ls23 hL, La24 hL, Ls24 hL, La25 hL, Ls25 hL, La27 hL, Ls27 hL, La28 hL, Ls28 hL, La29 hL, Ls29 hL, La30 hL, Ls30 hL, La31 hL, Ls31 hL, La32 hL, Ls32 hL, q2, hc, hc', if_true, if_false, hr, upd2_o, upd2_s, upd2_i, h60]
theorem e_giveM1 (hb : w.1 b = some (.inl (0, 521))) {x1 x2 x3 x4 : Int32} (hn : np < 60) (q2 : G 19 7 = nI np) : f_MD_give w (zset D b (vec G)) b x1 x2 x3 x4 = some (zset D b (vec (addF G np x1 x2 x3 (G 0 5) x4 (nI (np + 1)) (G 0 6 + 1)))) := by
  have hc : ¬ nI np = 60 := by rw [show (60 : Int32) = nI 60 from rfl, nI_eq (by omega) (by decide)]; omega
  unfold f_MD_give
  simp (disch := omega) only [zjpE, zletE, zciE, zcvE, zchkE, nI_1, Mrc0 hb, Mwc0 hb, Mrc1 hb, Mwc1 hb, Mrc2 hb, Mwc2 hb, Mrc3 hb, Mwc3 hb, Mrc4 hb, Mwc4 hb, Mrc5 hb, Mwc5 hb, Mrc6 hb, Mwc6 hb, Mrc7 hb, Mwc7 hb, Mrc8 hb, Mwc8 hb, Mrc9 hb, Mwc9 hb, Mrc10 hb, Mwc10 hb, Mrs hb, Mws hb, Mrs0 hb, Mws0 hb, Mrs1 hb, Mws1 hb, Mrs2 hb, Mws2 hb, Mrs3 hb, Mws3 hb, Mrs4 hb, Mws4 hb, Mrs5 hb, Mws5 hb, Mrs6 hb, Mws6 hb, Mrh hb, Mwh hb, Mrh0 hb, Mwh0 hb, Mrh1 hb, Mwh1 hb, Mrh2 hb, Mwh2 hb, Mrh3 hb, Mwh3 hb, Mrh4 hb, Mwh4 hb, Mrw hb, Mww hb, Mrw0 hb, Mww0 hb, Mrw1 hb, Mww1 hb, Mre hb, Mwe hb, Mre0 hb, Mwe0 hb, Mre1 hb, Mwe1 hb, Mre2 hb, Mwe2 hb, Mre3 hb, Mwe3 hb, Mre4 hb, Mwe4 hb, Mre5 hb, Mwe5 hb, Mrp hb, Mwp hb, Mrp0 hb, Mwp0 hb, Mrp1 hb, Mwp1 hb, Mrp2 hb, Mwp2 hb, Mrp3 hb, Mwp3 hb, Mrp4 hb, Mwp4 hb, Mrp5 hb, Mwp5 hb, Mrk0 hb, Mwk0 hb, Mrk1 hb, Mwk1 hb, Mrx hb, Mwx hb, Mrx0 hb, Mwx0 hb, Mrx1 hb, Mwx1 hb, Mrx2 hb, Mwx2 hb, Mrx3 hb, Mwx3 hb, Mrx4 hb, Mwx4 hb, Mrx5 hb, Mwx5 hb, Mrt0 hb, Mwt0 hb, Mrt1 hb, Mwt1 hb, q2, hc, if_false, upd2_o]
  rfl
theorem e_giveM2 (hb : w.1 b = some (.inl (0, 521))) {x1 x2 x3 x4 : Int32} (q2 : G 19 7 = nI 60) : f_MD_give w (zset D b (vec G)) b x1 x2 x3 x4 = f_MD_give w (zset D b (vec (upd2 (dropG G 0 60) 19 7 (nI 59)))) b x1 x2 x3 x4 := by
  have hc : nI 60 = 60 := rfl
  have hc' : ¬ nI 59 = 60 := by decide
  have hd := @e_drop w b 60 D G hb 0 (by decide) (by decide) q2
  rw [show nI 0 = (0 : Int32) from rfl, show 60 - 1 = 59 from rfl] at hd
  unfold f_MD_give
  simp (disch := omega) only [zjpE, zletE, zciE, zcvE, zchkE, nI_1, Mrc0 hb, Mwc0 hb, Mrc1 hb, Mwc1 hb, Mrc2 hb, Mwc2 hb, Mrc3 hb, Mwc3 hb, Mrc4 hb, Mwc4 hb, Mrc5 hb, Mwc5 hb, Mrc6 hb, Mwc6 hb, Mrc7 hb, Mwc7 hb, Mrc8 hb, Mwc8 hb, Mrc9 hb, Mwc9 hb, Mrc10 hb, Mwc10 hb, Mrs hb, Mws hb, Mrs0 hb, Mws0 hb, Mrs1 hb, Mws1 hb, Mrs2 hb, Mws2 hb, Mrs3 hb, Mws3 hb, Mrs4 hb, Mws4 hb, Mrs5 hb, Mws5 hb, Mrs6 hb, Mws6 hb, Mrh hb, Mwh hb, Mrh0 hb, Mwh0 hb, Mrh1 hb, Mwh1 hb, Mrh2 hb, Mwh2 hb, Mrh3 hb, Mwh3 hb, Mrh4 hb, Mwh4 hb, Mrw hb, Mww hb, Mrw0 hb, Mww0 hb, Mrw1 hb, Mww1 hb, Mre hb, Mwe hb, Mre0 hb, Mwe0 hb, Mre1 hb, Mwe1 hb, Mre2 hb, Mwe2 hb, Mre3 hb, Mwe3 hb, Mre4 hb, Mwe4 hb, Mre5 hb, Mwe5 hb, Mrp hb, Mwp hb, Mrp0 hb, Mwp0 hb, Mrp1 hb, Mwp1 hb, Mrp2 hb, Mwp2 hb, Mrp3 hb, Mwp3 hb, Mrp4 hb, Mwp4 hb, Mrp5 hb, Mwp5 hb, Mrk0 hb, Mwk0 hb, Mrk1 hb, Mwk1 hb, Mrx hb, Mwx hb, Mrx0 hb, Mwx0 hb, Mrx1 hb, Mwx1 hb, Mrx2 hb, Mwx2 hb, Mrx3 hb, Mwx3 hb, Mrx4 hb, Mwx4 hb, Mrx5 hb, Mwx5 hb, Mrt0 hb, Mwt0 hb, Mrt1 hb, Mwt1 hb, q2, hc, hc', if_true, if_false, upd2_s, hd]
theorem RI_drop0 (h : RI F G ns nh nw t te tp A 60 d e l c) (q1 : F 19 6 = nI p) (hp : p < 60) : RI (upd2 (upd2 F 19 6 (nI ((p + 1) % 60))) 19 7 (nI 59)) (upd2 (dropG G 0 60) 19 7 (nI 59)) ns nh nw t te tp A 59 d e l c := by
  obtain ⟨h1, ⟨p', hq⟩, hz, hB, i0, hS, hH, hW, hC, hP, hE, hK, hA⟩ := h
  have hd : ∀ o, ¬ (20 ≤ o ∧ o < 26) → dropG G 0 60 o = G o := fun o ho => dropG_o ho
  have hpp : p' = p := by
    have := hq.1
    rw [q1, nI_eq (by omega) (by have := hq.2.1; omega)] at this; exact this.symm
  subst hpp
  refine ⟨R1_g (R1_f (R1_f ?_ (by unfold St; omega)) (by unfold St; omega)) (by unfold St; omega), ⟨(p' + 1) % 60, ?_⟩, ?_, ?_, ?_, ?_, ?_, ?_, ?_, ?_, ?_, ?_, ?_⟩
  · intro o j hs
    rw [hd o (by unfold St at hs; omega)]; exact h1 o j hs
  · obtain ⟨-, -, -, q4, q5, q6⟩ := hq
    refine ⟨by simp (disch := omega) only [upd2_i, upd2_s], by omega, by rw [upd2_s], by rw [upd2_s], by decide, ?_⟩
    intro f k hf hk
    simp (disch := omega) only [upd2_o]
    have := q6 f (k + 1) hf (by omega)
    unfold dropG
    rw [if_pos (by omega), ← this]
    congr 1
    omega
  · unfold RZ at hz ⊢; simp (disch := omega) only [upd2_o]; exact hz
  · rw [upd2_o (by decide), upd2_o (by decide), bsum_o (by decide), hB]
    clear hq q1 hp
    have : ∀ n, bsum (dropG G 0 60) n = bsum G n := by
      intro n
      induction n with
      | zero => rfl
      | succ n ih => unfold bsum; rw [ih, hd 14 (by decide)]
    rw [this]
  · unfold I0 at i0 ⊢; simp (disch := omega) only [upd2_o, hd]; exact i0
  · unfold IS at hS ⊢; simp (disch := omega) only [upd2_o, hd]; exact hS
  · unfold IH at hH ⊢; simp (disch := omega) only [upd2_o, hd]; exact hH
  · unfold IW at hW ⊢; simp (disch := omega) only [upd2_o, hd]; exact hW
  · unfold IC at hC ⊢; simp (disch := omega) only [upd2_o, hd]; exact hC
  · intro k hk
    have := hP (k + 1) (by omega)
    simp (disch := omega) only [upd2_o]
    unfold dropG
    simp (disch := omega) only [if_pos]
    exact this
  · unfold IE at hE ⊢; simp (disch := omega) only [upd2_o, hd]; exact hE
  · unfold IK at hK ⊢; simp (disch := omega) only [upd2_o, hd]; exact hK
  · unfold IA at hA ⊢; simp (disch := omega) only [upd2_o, hd]; exact hA
theorem RI_add (h : RI F G ns nh nw t te tp A np d e l c) (hn : np < 60) (q1 : F 19 6 = nI p) (hp : p < 60) {v0 v1 v2 v3 v4 g g' : Int32} (hv : Ip1 ns nw tp v0 v1 v2 v3 v4) (hg : g = g') : RI (addF F ((p + np) % 60) v0 v1 v2 v3 v4 (nI (np + 1)) g) (addF G np v0 v1 v2 v3 v4 (nI (np + 1)) g') ns nh nw t te tp A (np + 1) d e l c := by
  obtain ⟨h1, ⟨p', hq⟩, hz, hB, i0, hS, hH, hW, hC, hP, hE, hK, hA⟩ := h
  have hpp : p' = p := by
    have := hq.1
    rw [q1, nI_eq (by omega) (by have := hq.2.1; omega)] at this; exact this.symm
  subst hpp
  unfold addF
  refine ⟨R1_u ?_ hg, ⟨p', ?_⟩, ?_, ?_, ?_, ?_, ?_, ?_, ?_, ?_, ?_, ?_, ?_⟩
  · iterate 7 refine R1_g (R1_f ?_ (by unfold St; omega)) (by unfold St; omega)
    exact h1
  · obtain ⟨-, -, -, q4, q5, q6⟩ := hq
    refine ⟨by simp (disch := omega) only [upd2_i, upd2_o]; exact q1, by omega, by simp (disch := omega) only [upd2_o, upd2_s], by simp (disch := omega) only [upd2_o, upd2_s], by omega, ?_⟩
    intro f k hf hk
    have hf6 : f = 0 ∨ f = 1 ∨ f = 2 ∨ f = 3 ∨ f = 4 ∨ f = 5 := by omega
    by_cases hkn : k = np
    · subst hkn
      rcases hf6 with rfl | rfl | rfl | rfl | rfl | rfl <;> simp (disch := omega) only [upd2_o, upd2_s, Nat.reduceAdd]
    · have hr : (p' + k) % 60 ≠ (p' + np) % 60 := by omega
      have := q6 f k hf (by omega)
      rcases hf6 with rfl | rfl | rfl | rfl | rfl | rfl <;> simp (disch := omega) only [upd2_o, upd2_i, Nat.reduceAdd] at this ⊢ <;> exact this
  · unfold RZ at hz ⊢; simp (disch := omega) only [upd2_o]; exact hz
  · simp (disch := omega) only [bsum_o, upd2_o]; exact hB
  · unfold I0 at i0 ⊢; simp (disch := omega) only [upd2_o, upd2_i]; exact i0
  · unfold IS at hS ⊢; simp (disch := omega) only [upd2_o]; exact hS
  · unfold IH at hH ⊢; simp (disch := omega) only [upd2_o]; exact hH
  · unfold IW at hW ⊢; simp (disch := omega) only [upd2_o]; exact hW
  · unfold IC at hC ⊢; simp (disch := omega) only [upd2_i, upd2_o]; exact hC
  · intro k hk
    by_cases hkn : k = np
    · subst hkn
      simp (disch := omega) only [upd2_o, upd2_s]; exact hv
    · simp (disch := omega) only [upd2_o, upd2_i]; exact hP k (by omega)
  · unfold IE at hE ⊢; simp (disch := omega) only [upd2_o]; exact hE
  · unfold IK at hK ⊢; simp (disch := omega) only [upd2_o]; exact hK
  · unfold IA at hA ⊢; simp (disch := omega) only [upd2_o]; exact hA
theorem give1 (ht : t ≤ tp) (hL : LF w a) (hb : w.1 b = some (.inl (0, 521))) (h : RI F G ns nh nw t te tp A np d e l c) {i : Nat} (hi : i < ns) {x y wl : Int32} (hx : -400 ≤ x ∧ x ≤ 400 ∧ -400 ≤ y ∧ y ≤ 400) (hw : wl = -1 ∨ ∃ i, i < nw ∧ wl = nI i) : ∃ F' G' np', RI F' G' ns nh nw t te tp A np' d e l c ∧ (∀ D, f_Field_give w (zblk D a F) a (nI i) x y wl = some (zblk D a F')) ∧ (∀ D, f_MD_give w (zset D b (vec G)) b (nI i) x y wl = some (zset D b (vec G'))) := by
  have main : ∀ {F G : Nat → Nat → Int32} {np : Nat}, np < 60 → RI F G ns nh nw t te tp A np d e l c → ∃ F' G' np', RI F' G' ns nh nw t te tp A np' d e l c ∧ (∀ D, f_Field_give w (zblk D a F) a (nI i) x y wl = some (zblk D a F')) ∧ (∀ D, f_MD_give w (zset D b (vec G)) b (nI i) x y wl = some (zset D b (vec G'))) := by
    intro F G np hn h
    obtain ⟨h1, ⟨p, q1, q2, q3, q4, -⟩, -, -, ⟨-, -, -, -, -, -, e5, -⟩, -⟩ := id h
    refine ⟨_, _, np + 1, RI_add h hn q1 q2 (v0 := nI i) (v1 := x) (v2 := y) (v3 := nI t) (v4 := wl) ⟨⟨i, hi, rfl⟩, hx.1, hx.2.1, hx.2.2.1, hx.2.2.2, ⟨t, ht, rfl⟩, hw⟩ (g := F 0 6 + 1) (g' := G 0 6 + 1) (by rw [r0_6 h1]), ?_, ?_⟩
    · intro D; rw [e_giveC1 hL q2 hn q1 q3, r0_5 h1, e5]
    · intro D; rw [e_giveM1 hb hn q4, e5]
  obtain ⟨-, ⟨p, q1, q2, q3, q4, q5, -⟩, -⟩ := id h
  by_cases hn : np < 60
  · exact main hn h
  · have hn6 : np = 60 := by omega
    subst hn6
    obtain ⟨F', G', np', r1, r2, r3⟩ := main (by decide) (RI_drop0 h q1 q2)
    exact ⟨F', G', np', r1, fun D => by rw [e_giveC2 hL q2 q1 q3]; exact r2 D, fun D => by rw [e_giveM2 hb q4]; exact r3 D⟩
end P38
