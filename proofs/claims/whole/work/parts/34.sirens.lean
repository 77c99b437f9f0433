/-! PURE: the tick's first phase: sirens go on. -/
def nx (r sp v : Int32) : Int32 := if 0 ≤ v + sp then (if v + sp < 8 * r then v + sp else v + sp - 8 * r) else v + sp + 8 * r
def nxC (r p s : Nat) : Bool := decide (r = 0) || decide (8 * r ≤ p) || (decide (zirem (zirem (nI p + 1 * (nI s - 3)) (8 * nI r) + 8 * nI r) (8 * nI r) = nx (nI r) (nI s - 3) (nI p)) && decide (zirem (zirem (nI p + 0 * (nI s - 3)) (8 * nI r) + 8 * nI r) (8 * nI r) = nI p) && decide (0 ≤ nx (nI r) (nI s - 3) (nI p)) && decide (nx (nI r) (nI s - 3) (nI p) < 8 * nI r))
theorem nx_dec0 : ∀ r, r < 6 → ∀ p, p < 41 → ∀ s, s < 7 → nxC r p s = true := by decide +kernel
theorem nx_dec (r : Nat) (hr : r < 6) (p : Nat) (hp : p < 41) (s : Nat) (hs : s < 7) (h1 : 1 ≤ r) (h2 : p < 8 * r) : zirem (zirem (nI p + 1 * (nI s - 3)) (8 * nI r) + 8 * nI r) (8 * nI r) = nx (nI r) (nI s - 3) (nI p) ∧ zirem (zirem (nI p + 0 * (nI s - 3)) (8 * nI r) + 8 * nI r) (8 * nI r) = nI p ∧ 0 ≤ nx (nI r) (nI s - 3) (nI p) ∧ nx (nI r) (nI s - 3) (nI p) < 8 * nI r := by
  have := nx_dec0 r hr p hp s hs
  unfold nxC at this
  simp only [Bool.or_eq_true, Bool.and_eq_true, decide_eq_true_eq] at this
  rcases this with (h | h) | h
  · omega
  · omega
  · exact ⟨h.1.1.1, h.1.1.2, h.1.2, h.2⟩
theorem rg_nI {x : Int32} {n : Nat} (h0 : 0 ≤ x) (h1 : x ≤ nI n) (hn : n < 2 ^ 31) : ∃ j, j ≤ n ∧ x = nI j := zI_of n h0 h1 hn
theorem nx_eq {x y r sp pd on pl : Int32} (h : Is1 x y r sp pd on pl) : zirem (zirem (pl + on * sp) (8 * r) + 8 * r) (8 * r) = (if on = 0 then pl else nx r sp pl) ∧ 0 ≤ nx r sp pl ∧ nx r sp pl < 8 * r ∧ ¬ 8 * r = 0 := by
  obtain ⟨-, -, -, -, a5, a6, a7, a8, -, -, a11, a12, a13⟩ := h
  obtain ⟨r', hr, rfl⟩ := rg_nI (x := r) (n := 5) (by grind) a6 (by decide)
  obtain ⟨s', hs, hs'⟩ := rg_nI (x := sp + 3) (n := 6) (by grind) (show sp + 3 ≤ 6 by grind) (by decide)
  have hsp : sp = nI s' - 3 := by rw [← hs']; grind
  subst hsp
  have h40 : (8 : Int32) * nI r' = nI (8 * r') := by rw [zl, pk_mul]
  obtain ⟨p', hp, rfl⟩ := rg_nI (x := pl) (n := 8 * r') a12 (by rw [← h40]; grind) (by omega)
  rw [h40, nI_ltI (by omega) (by omega)] at a13
  have hr1 : 1 ≤ r' := by
    rcases Nat.eq_zero_or_pos r' with h | h
    · subst h; exact absurd a5 (by decide)
    · exact h
  obtain ⟨b1, b2, b3, b4⟩ := nx_dec r' (by omega) p' (by omega) s' (by omega) hr1 a13
  refine ⟨?_, b3, b4, ?_⟩
  · rcases a11 with h | h
    · rw [h, if_pos rfl, b2]
    · rw [h, if_neg (by decide), b1]
  · rw [h40, zl 0, nI_eq (by omega) (by decide)]; omega
theorem bsum_o {G : Nat → Nat → Int32} {o i n : Nat} {v : Int32} (h : 14 ≠ o) : bsum (upd2 G o i v) n = bsum G n := by
  induction n with
  | zero => rfl
  | succ n ih => unfold bsum; rw [ih, upd2_o h]
section P34
variable {A : Prop} {w : zW} {a b ns nh nw t te tp np d e l c : Nat} {D : zD} {F G : Nat → Nat → Int32}
theorem e_next (hL : LF w a) {k : Nat} (hk : k < 4) {v : Int32} : f_Sirens_nextPlace w (zblk D a F) (a + 1) (nI k) v = some (nx (F 4 k) (F 5 k) v, zblk D a F) := by
  unfold f_Sirens_nextPlace nx
  simp (disch := omega) only [zjpE, zletE, zciE, zcvE, zchkE, nI_1, Lo0 hL, Lr0_0 hL, Lr0_1 hL, Lr0_2 hL, Lr0_3 hL, Lr0_4 hL, Lg0_5 hL, Lp0_5 hL, Lg0_6 hL, Lp0_6 hL, Lg0_7 hL, Lp0_7 hL, Lg0_8 hL, Lp0_8 hL, Lo1 hL, Lr1_0 hL, Lr1_1 hL, Lr1_2 hL, Lr1_3 hL, Lr1_4 hL, Lr1_5 hL, Lr1_6 hL, Lg1_7 hL, Lp1_7 hL, Lo9 hL, Lr9_0 hL, Lr9_1 hL, Lr9_2 hL, Lr9_3 hL, Lr9_4 hL, Lr9_5 hL, Lg9_6 hL, Lp9_6 hL, Lg9_7 hL, Lp9_7 hL, Lo16 hL, Lr16_0 hL, Lr16_1 hL, Lg16_2 hL, Lp16_2 hL, Lo19 hL, Lr19_0 hL, Lr19_1 hL, Lr19_2 hL, Lr19_3 hL, Lr19_4 hL, Lr19_5 hL, Lg19_6 hL, Lp19_6 hL, Lg19_7 hL, Lp19_7 hL, Lo26 hL, Lr26_0 hL, Lr26_1 hL, Lr26_2 hL, Lr26_3 hL, Lr26_4 hL, Lr26_5 hL, Lg26_6 hL, Lp26_6 hL, Lg26_7 hL, Lp26_7 hL, Lg26_8 hL, Lp26_8 hL, La2 hL, Ls2 hL, La3 hL, Ls3 hL, La4 hL, Ls4 hL, La5 hL, Ls5 hL, La6 hL, Ls6 hL, La7 hL, Ls7 hL, La8 hL, Ls8 hL, La10 hL, Ls10 hL, La11 hL, Ls11 hL, La12 hL, Ls12 hL, La13 hL, Ls13 hL, La14 hL, Ls14 hL, La15 hL, Ls15 hL, La17 hL, Ls17 hL, La18 hL, Ls18 hL, La20 hL, Ls20 hL, La21 hL, Ls21 hL, La22 hL, Ls22 hL, La23 hL, Ls23 hL, La24 hL, Ls24 hL, La25 hL, Ls25 hL, La27 hL, Ls27 hL, La28 hL, Ls28 hL, La29 hL, Ls29 hL, La30 hL, Ls30 hL, La31 hL, Ls31 hL, La32 hL, Ls32 hL]
  split
  · split <;> rfl
  · rfl
theorem e_onRing (hb : w.1 b = some (.inl (0, 521))) {k : Nat} (hk : k < 4) {v : Int32} (hr : ¬ 8 * G 4 k = 0) : f_MD_onRing w (zset D b (vec G)) b (nI k) v = some (zirem (zirem v (8 * G 4 k) + 8 * G 4 k) (8 * G 4 k), zset D b (vec G)) := by
  unfold f_MD_onRing f_MD_ring f_MD_ofSiren
  simp (disch := omega) only [zjpE, zletE, zciE, zcvE, zchkE, nI_1, Mrc0 hb, Mwc0 hb, Mrc1 hb, Mwc1 hb, Mrc2 hb, Mwc2 hb, Mrc3 hb, Mwc3 hb, Mrc4 hb, Mwc4 hb, Mrc5 hb, Mwc5 hb, Mrc6 hb, Mwc6 hb, Mrc7 hb, Mwc7 hb, Mrc8 hb, Mwc8 hb, Mrc9 hb, Mwc9 hb, Mrc10 hb, Mwc10 hb, Mrs hb, Mws hb, Mrs0 hb, Mws0 hb, Mrs1 hb, Mws1 hb, Mrs2 hb, Mws2 hb, Mrs3 hb, Mws3 hb, Mrs4 hb, Mws4 hb, Mrs5 hb, Mws5 hb, Mrs6 hb, Mws6 hb, Mrh hb, Mwh hb, Mrh0 hb, Mwh0 hb, Mrh1 hb, Mwh1 hb, Mrh2 hb, Mwh2 hb, Mrh3 hb, Mwh3 hb, Mrh4 hb, Mwh4 hb, Mrw hb, Mww hb, Mrw0 hb, Mww0 hb, Mrw1 hb, Mww1 hb, Mre hb, Mwe hb, Mre0 hb, Mwe0 hb, Mre1 hb, Mwe1 hb, Mre2 hb, Mwe2 hb, Mre3 hb, Mwe3 hb, Mre4 hb, Mwe4 hb, Mre5 hb, Mwe5 hb, Mrp hb, Mwp hb, Mrp0 hb, Mwp0 hb, Mrp1 hb, Mwp1 hb, Mrp2 hb, Mwp2 hb, Mrp3 hb, Mwp3 hb, Mrp4 hb, Mwp4 hb, Mrp5 hb, Mwp5 hb, Mrk0 hb, Mwk0 hb, Mrk1 hb, Mwk1 hb, Mrx hb, Mwx hb, Mrx0 hb, Mwx0 hb, Mrx1 hb, Mwx1 hb, Mrx2 hb, Mwx2 hb, Mrx3 hb, Mwx3 hb, Mrx4 hb, Mwx4 hb, Mrx5 hb, Mwx5 hb, Mrt0 hb, Mwt0 hb, Mrt1 hb, Mwt1 hb]
  rw [if_pos hr, if_pos hr]
theorem RI_pl (h : RI F G ns nh nw t te tp A np d e l c) {k : Nat} (hk : k < ns) {v : Int32} (h0 : 0 ≤ v) (hv : v < 8 * G 4 k) : RI (upd2 F 7 k v) (upd2 G 7 k v) ns nh nw t te tp A np d e l c := by
  obtain ⟨h1, ⟨p, hq⟩, hz, hB, i0, hS, hH, hW, hC, hP, hE, hK, hA⟩ := h
  refine ⟨R1_u h1 rfl, ⟨p, ?_⟩, ?_, ?_, ?_, ?_, ?_, ?_, ?_, ?_, ?_, ?_, ?_⟩
  · unfold RQ at hq ⊢; simp (disch := omega) only [upd2_o]; exact hq
  · unfold RZ at hz ⊢; simp (disch := omega) only [upd2_o]; exact hz
  · rw [bsum_o (by decide), upd2_o (by decide)]; exact hB
  · unfold I0 at i0 ⊢; simp (disch := omega) only [upd2_o]; exact i0
  · intro s hs
    have := hS s hs
    simp (disch := omega) only [upd2_o]
    by_cases hk' : s = k
    · subst hk'; rw [upd2_s]; unfold Is1 at this ⊢; exact ⟨this.1, this.2.1, this.2.2.1, this.2.2.2.1, this.2.2.2.2.1, this.2.2.2.2.2.1, this.2.2.2.2.2.2.1, this.2.2.2.2.2.2.2.1, this.2.2.2.2.2.2.2.2.1, this.2.2.2.2.2.2.2.2.2.1, this.2.2.2.2.2.2.2.2.2.2.1, h0, hv⟩
    · rw [upd2_i hk']; exact this
  · unfold IH at hH ⊢; simp (disch := omega) only [upd2_o]; exact hH
  · unfold IW at hW ⊢; simp (disch := omega) only [upd2_o]; exact hW
  · unfold IC at hC ⊢; simp (disch := omega) only [upd2_o]; exact hC
  · unfold IP at hP ⊢; simp (disch := omega) only [upd2_o]; exact hP
  · unfold IE at hE ⊢; simp (disch := omega) only [upd2_o]; exact hE
  · unfold IK at hK ⊢; simp (disch := omega) only [upd2_o]; exact hK
  · unfold IA at hA ⊢; simp (disch := omega) only [upd2_o]; exact hA
theorem go1 (hL : LF w a) (hb : w.1 b = some (.inl (0, 521))) (h : RI F G ns nh nw t te tp A np d e l c) {k : Nat} (hk : k < ns) : ∃ F' G', RI F' G' ns nh nw t te tp A np d e l c ∧ (∀ D j, S_Sirens_goOn_S1 w (a + 1) j (nI k) (zblk D a F) = j (nI (k + 1)) (zblk D a F')) ∧ (∀ D j, S_MD_tick_S1 w b j (nI k) (zset D b (vec G)) = j (nI (k + 1)) (zset D b (vec G'))) := by
  obtain ⟨h1, -, -, -, i0, hS, -⟩ := id h
  obtain ⟨e1, hn, -⟩ := i0
  obtain ⟨m1, m2, m3, m4⟩ := nx_eq (hS k hk)
  have hk4 : k < 4 := by omega
  have hF1 : F 1 7 = nI ns := by rw [r1_7 h1, e1]
  have hc : ¬ nI ns ≤ nI k := by rw [nI_leI (by omega) (by omega)]; omega
  have hm : ∀ D j, S_MD_tick_S1 w b j (nI k) (zset D b (vec G)) = j (nI (k + 1)) (zset D b (vec (upd2 G 7 k (if G 8 k = 0 then G 7 k else nx (G 4 k) (G 5 k) (G 7 k))))) := by
    intro D j
    unfold S_MD_tick_S1 f_MD_ofSiren
    simp (disch := first | omega | exact m4) only [zjpE, zletE, zciE, zcvE, zchkE, nI_1, Mrc0 hb, Mwc0 hb, Mrc1 hb, Mwc1 hb, Mrc2 hb, Mwc2 hb, Mrc3 hb, Mwc3 hb, Mrc4 hb, Mwc4 hb, Mrc5 hb, Mwc5 hb, Mrc6 hb, Mwc6 hb, Mrc7 hb, Mwc7 hb, Mrc8 hb, Mwc8 hb, Mrc9 hb, Mwc9 hb, Mrc10 hb, Mwc10 hb, Mrs hb, Mws hb, Mrs0 hb, Mws0 hb, Mrs1 hb, Mws1 hb, Mrs2 hb, Mws2 hb, Mrs3 hb, Mws3 hb, Mrs4 hb, Mws4 hb, Mrs5 hb, Mws5 hb, Mrs6 hb, Mws6 hb, Mrh hb, Mwh hb, Mrh0 hb, Mwh0 hb, Mrh1 hb, Mwh1 hb, Mrh2 hb, Mwh2 hb, Mrh3 hb, Mwh3 hb, Mrh4 hb, Mwh4 hb, Mrw hb, Mww hb, Mrw0 hb, Mww0 hb, Mrw1 hb, Mww1 hb, Mre hb, Mwe hb, Mre0 hb, Mwe0 hb, Mre1 hb, Mwe1 hb, Mre2 hb, Mwe2 hb, Mre3 hb, Mwe3 hb, Mre4 hb, Mwe4 hb, Mre5 hb, Mwe5 hb, Mrp hb, Mwp hb, Mrp0 hb, Mwp0 hb, Mrp1 hb, Mwp1 hb, Mrp2 hb, Mwp2 hb, Mrp3 hb, Mwp3 hb, Mrp4 hb, Mwp4 hb, Mrp5 hb, Mwp5 hb, Mrk0 hb, Mwk0 hb, Mrk1 hb, Mwk1 hb, Mrx hb, Mwx hb, Mrx0 hb, Mwx0 hb, Mrx1 hb, Mwx1 hb, Mrx2 hb, Mwx2 hb, Mrx3 hb, Mwx3 hb, Mrx4 hb, Mwx4 hb, Mrx5 hb, Mwx5 hb, Mrt0 hb, Mwt0 hb, Mrt1 hb, Mwt1 hb, e1, hc, if_false, e_onRing hb, m1]
  have hc' : ∀ D j, S_Sirens_goOn_S1 w (a + 1) j (nI k) (zblk D a F) = j (nI (k + 1)) (zblk D a (if G 8 k = 0 then F else upd2 F 7 k (nx (G 4 k) (G 5 k) (G 7 k)))) := by
    intro D j
    unfold S_Sirens_goOn_S1
    simp (disch := omega) only [zjpE, zletE, zciE, zcvE, zchkE, nI_1, Lo0 hL, Lr0_0 hL, Lr0_1 hL, Lr0_2 hL, Lr0_3 hL, Lr0_4 hL, Lg0_5 hL, Lp0_5 hL, Lg0_6 hL, Lp0_6 hL, Lg0_7 hL, Lp0_7 hL, Lg0_8 hL, Lp0_8 hL, Lo1 hL, Lr1_0 hL, Lr1_1 hL, Lr1_2 hL, Lr1_3 hL, Lr1_4 hL, Lr1_5 hL, Lr1_6 hL, Lg1_7 hL, Lp1_7 hL, Lo9 hL, Lr9_0 hL, Lr9_1 hL, Lr9_2 hL, Lr9_3 hL, Lr9_4 hL, Lr9_5 hL, Lg9_6 hL, Lp9_6 hL, Lg9_7 hL, Lp9_7 hL, Lo16 hL, Lr16_0 hL, Lr16_1 hL, Lg16_2 hL, Lp16_2 hL, Lo19 hL, Lr19_0 hL, Lr19_1 hL, Lr19_2 hL, Lr19_3 hL, Lr19_4 hL, Lr19_5 hL, Lg19_6 hL, Lp19_6 hL, Lg19_7 hL, Lp19_7 hL, Lo26 hL, Lr26_0 hL, Lr26_1 hL, Lr26_2 hL, Lr26_3 hL, Lr26_4 hL, Lr26_5 hL, Lg26_6 hL, Lp26_6 hL, Lg26_7 hL, Lp26_7 hL, Lg26_8 hL, Lp26_8 hL, La2 hL, Ls2 hL, La3 hL, Ls3 hL, La4 hL, Ls4 hL, La5 hL, Ls5 hL, La6 hL, Ls6 hL, La7 hL, Ls7 hL, La8 hL, Ls8 hL, La10 hL, Ls10 hL, La11 hL, Ls11 hL, La12 hL, Ls12 hL, La13 hL, Ls13 hL, La14 hL, Ls14 hL, La15 hL, Ls15 hL, La17 hL, Ls17 hL, La18 hL, Ls18 hL, La20 hL, Ls20 hL, La21 hL, Ls21 hL, La22 hL, Ls22 hL, La23 hL, Ls23 hL, La24 hL, Ls24 hL, La25 hL, Ls25 hL, La27 hL, Ls27 hL, La28 hL, Ls28 hL, La29 hL, Ls29 hL, La30 hL, Ls30 hL, La31 hL, Ls31 hL, La32 hL, Ls32 hL, hF1, hc, if_false, e_next hL, r0_5 h1, r0_6 h1, r0_7 h1, r0_8 h1, r1_7 h1, r9_6 h1, r16_2 h1, r26_6 h1, r26_7 h1, r26_8 h1, r2 h1, r3 h1, r4 h1, r5 h1, r6 h1, r7 h1, r8 h1, r10 h1, r11 h1, r12 h1, r13 h1, r14 h1, r17 h1, r18 h1, r27 h1, r28 h1, r29 h1, r30 h1, r31 h1, r32 h1]
    split <;> rfl
  by_cases hon : G 8 k = 0
  · refine ⟨_, _, h, ?_, ?_⟩
    · intro D j; rw [hc', if_pos hon]
    · intro D j; rw [hm, if_pos hon, upd2_self]
  · refine ⟨_, _, RI_pl h hk m2 m3, ?_, ?_⟩
    · intro D j; rw [hc', if_neg hon]
    · intro D j; rw [hm, if_neg hon]
end P34
