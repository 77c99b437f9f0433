/-! PURE: whether a pulse is heard now, on both sides. -/
abbrev had (v : Int32) (h : Nat) : Prop := (v >>> (nI h &&& 31)) &&& 1 = 1
abbrev reach (hx hy px py c tm tk : Int32) : Prop := ab (px - hx) + ab (py - hy) ≤ c * (tm - tk)
abbrev side (u at' px py hx hy : Int32) : Prop := ((if u = 0 then py else px) < at' ∧ at' < (if u = 0 then hy else hx)) ∨ (at' < (if u = 0 then py else px) ∧ (if u = 0 then hy else hx) < at')
theorem ab_neg {x y : Int32} : ab (x - y) = ab (y - x) := by
  unfold ab
  by_cases h : 0 ≤ x - y
  · by_cases h2 : 0 ≤ y - x
    · rw [if_pos h, if_pos h2]; grind
    · rw [if_pos h, if_neg h2]; grind
  · by_cases h2 : 0 ≤ y - x
    · rw [if_neg h, if_pos h2]; grind
    · rw [if_neg h, if_neg h2]; grind
theorem sg1 {m a : Int32} (hm : -400 ≤ m ∧ m ≤ 400) (ha : -40 ≤ a ∧ a ≤ 40) : (0 ≤ m - a ↔ ¬ m < a) ∧ (m - a ≤ 0 ↔ ¬ a < m) ∧ (0 < m - a ↔ a < m) := by grind
section P42
variable {A : Prop} {w : zW} {a b ns nh nw t te tp np d e l c p : Nat} {D : zD} {F G : Nat → Nat → Int32}
theorem e_wayTo (hL : LF w a) {h : Nat} (hh : h < 4) {x y : Int32} : f_Hearers_wayTo w (zblk D a F) (a + 9) (nI h) x y = some (ab (F 10 h - x) + ab (F 11 h - y), zblk D a F) := by
  unfold f_Hearers_wayTo
  simp (disch := omega) only [zjpE, zletE, zciE, zcvE, zchkE, nI_1, Lo0 hL, Lr0_0 hL, Lr0_1 hL, Lr0_2 hL, Lr0_3 hL, Lr0_4 hL, Lg0_5 hL, Lp0_5 hL, Lg0_6 hL, Lp0_6 hL, Lg0_7 hL, Lp0_7 hL, Lg0_8 hL, Lp0_8 hL, Lo1 hL, Lr1_0 hL, Lr1_1 hL, Lr1_2 hL, Lr1_3 hL, Lr1_4 hL, Lr1_5 hL, Lr1_6 hL, Lg1_7 hL, Lp1_7 hL, Lo9 hL, Lr9_0 hL, Lr9_1 hL, Lr9_2 hL, Lr9_3 hL, Lr9_4 hL, Lr9_5 hL, Lg9_6 hL, Lp9_6 hL, Lg9_7 hL, Lp9_7 hL, Lo16 hL, Lr16_0 hL, Lr16_1 hL, Lg16_2 hL, Lp16_2 hL, Lo19 hL, Lr19_0 hL, Lr19_1 hL, Lr19_2 hL, Lr19_3 hL, Lr19_4 hL, Lr19_5 hL, Lg19_6 hL, Lp19_6 hL, Lg19_7 hL, Lp19_7 hL, Lo26 hL, Lr26_0 hL, Lr26_1 hL, Lr26_2 hL, Lr26_3 hL, Lr26_4 hL, Lr26_5 hL, Lg26_6 hL, Lp26_6 hL, Lg26_7 hL, Lp26_7 hL, Lg26_8 hL, Lp26_8 hL, La2 hL, Ls2 hL, La3 hL, Ls3 hL, La4 hL, Ls4 hL, La5 hL, Ls5 hL, La6 hL, Ls6 hL, La7 hL, Ls7 hL, La8 hL, Ls8 hL, La10 hL, Ls10 hL, La11 hL, Ls11 hL, La12 hL, Ls12 hL, La13 hL, Ls13 hL, La14 hL, Ls14 hL, La15 hL, Ls15 hL, La17 hL, Ls17 hL, La18 hL, Ls18 hL, La20 hL, Ls20 hL, La21 hL, Ls21 hL, La22 hL, Ls22 hL, La23 hL, Ls23 hL, La24 hL, Ls24 hL, La25 hL, Ls25 hL, La27 hL, Ls27 hL, La28 hL, Ls28 hL, La29 hL, Ls29 hL, La30 hL, Ls30 hL, La31 hL, Ls31 hL, La32 hL, Ls32 hL, e_abs]
theorem e_isReached (hb : w.1 b = some (.inl (0, 521))) {k h : Nat} (hk : k < 60) (hh : h < 4) : f_MD_isReached w (zset D b (vec G)) b (nI k) (nI h) = some (if reach (G 10 h) (G 11 h) (G 21 k) (G 22 k) (G 0 7) (G 0 5) (G 23 k) then 1 else 0, zset D b (vec G)) := by
  unfold f_MD_isReached f_MD_pulseAt f_MD_ofHearer
  simp (disch := omega) only [zjpE, zletE, zciE, zcvE, zchkE, nI_1, Mrc0 hb, Mwc0 hb, Mrc1 hb, Mwc1 hb, Mrc2 hb, Mwc2 hb, Mrc3 hb, Mwc3 hb, Mrc4 hb, Mwc4 hb, Mrc5 hb, Mwc5 hb, Mrc6 hb, Mwc6 hb, Mrc7 hb, Mwc7 hb, Mrc8 hb, Mwc8 hb, Mrc9 hb, Mwc9 hb, Mrc10 hb, Mwc10 hb, Mrs hb, Mws hb, Mrs0 hb, Mws0 hb, Mrs1 hb, Mws1 hb, Mrs2 hb, Mws2 hb, Mrs3 hb, Mws3 hb, Mrs4 hb, Mws4 hb, Mrs5 hb, Mws5 hb, Mrs6 hb, Mws6 hb, Mrh hb, Mwh hb, Mrh0 hb, Mwh0 hb, Mrh1 hb, Mwh1 hb, Mrh2 hb, Mwh2 hb, Mrh3 hb, Mwh3 hb, Mrh4 hb, Mwh4 hb, Mrw hb, Mww hb, Mrw0 hb, Mww0 hb, Mrw1 hb, Mww1 hb, Mre hb, Mwe hb, Mre0 hb, Mwe0 hb, Mre1 hb, Mwe1 hb, Mre2 hb, Mwe2 hb, Mre3 hb, Mwe3 hb, Mre4 hb, Mwe4 hb, Mre5 hb, Mwe5 hb, Mrp hb, Mwp hb, Mrp0 hb, Mwp0 hb, Mrp1 hb, Mwp1 hb, Mrp2 hb, Mwp2 hb, Mrp3 hb, Mwp3 hb, Mrp4 hb, Mwp4 hb, Mrp5 hb, Mwp5 hb, Mrk0 hb, Mwk0 hb, Mrk1 hb, Mwk1 hb, Mrx hb, Mwx hb, Mrx0 hb, Mwx0 hb, Mrx1 hb, Mwx1 hb, Mrx2 hb, Mwx2 hb, Mrx3 hb, Mwx3 hb, Mrx4 hb, Mwx4 hb, Mrx5 hb, Mwx5 hb, Mrt0 hb, Mwt0 hb, Mrt1 hb, Mwt1 hb, e_without]
  by_cases hr : reach (G 10 h) (G 11 h) (G 21 k) (G 22 k) (G 0 7) (G 0 5) (G 23 k)
  · have : ¬ (G 0 7 * (G 0 5 - G 23 k) < ab (G 21 k - G 10 h) + ab (G 22 k - G 11 h)) := by unfold reach at hr; grind
    simp [this, hr]
  · have : (G 0 7 * (G 0 5 - G 23 k) < ab (G 21 k - G 10 h) + ab (G 22 k - G 11 h)) := by unfold reach at hr; grind
    simp [this, hr]
theorem taut {p q r s : Prop} [Decidable p] [Decidable q] [Decidable r] [Decidable s] {α : Type} {x y : α} : (if ¬ p then (if ¬ q then x else if ¬ s then x else y) else if r then y else (if ¬ q then x else if ¬ s then x else y)) = if (p ∧ r) ∨ (q ∧ s) then y else x := by
  by_cases hp : p <;> by_cases hq : q <;> by_cases hr : r <;> by_cases hs : s <;> simp [hp, hq, hr, hs]
theorem e_isOnSide (hb : w.1 b = some (.inl (0, 521))) {k h i : Nat} (hk : k < 60) (hh : h < 4) (hi : i < 3) (hw : G 24 k = nI i) (hu : G 17 i = 0 ∨ G 17 i = 1) (ha : -40 ≤ G 18 i ∧ G 18 i ≤ 40) (hp : -400 ≤ G 21 k ∧ G 21 k ≤ 400 ∧ -400 ≤ G 22 k ∧ G 22 k ≤ 400) (ho : -400 ≤ G 10 h ∧ G 10 h ≤ 400 ∧ -400 ≤ G 11 h ∧ G 11 h ≤ 400) : f_MD_isOnSide w (zset D b (vec G)) b (nI k) (nI h) = some (if side (G 17 i) (G 18 i) (G 21 k) (G 22 k) (G 10 h) (G 11 h) then 1 else 0, zset D b (vec G)) := by
  have d0 : ¬ (0 : Int32) = 1 := by decide
  have d1 : ¬ (1 : Int32) = 0 := by decide
  have d10 : (1 : Int32) + 0 = 1 := by decide
  have d11 : (1 : Int32) + 1 = 2 := by decide
  unfold f_MD_isOnSide f_MD_pulseAt f_MD_ofHearer
  rcases hu with hu | hu
  · obtain ⟨a1, a2, -⟩ := sg1 hp.2.2 ha
    obtain ⟨b1, -, b3⟩ := sg1 ho.2.2 ha
    simp (disch := omega) only [zjpE, zletE, zciE, zcvE, zchkE, nI_1, Mrc0 hb, Mwc0 hb, Mrc1 hb, Mwc1 hb, Mrc2 hb, Mwc2 hb, Mrc3 hb, Mwc3 hb, Mrc4 hb, Mwc4 hb, Mrc5 hb, Mwc5 hb, Mrc6 hb, Mwc6 hb, Mrc7 hb, Mwc7 hb, Mrc8 hb, Mwc8 hb, Mrc9 hb, Mwc9 hb, Mrc10 hb, Mwc10 hb, Mrs hb, Mws hb, Mrs0 hb, Mws0 hb, Mrs1 hb, Mws1 hb, Mrs2 hb, Mws2 hb, Mrs3 hb, Mws3 hb, Mrs4 hb, Mws4 hb, Mrs5 hb, Mws5 hb, Mrs6 hb, Mws6 hb, Mrh hb, Mwh hb, Mrh0 hb, Mwh0 hb, Mrh1 hb, Mwh1 hb, Mrh2 hb, Mwh2 hb, Mrh3 hb, Mwh3 hb, Mrh4 hb, Mwh4 hb, Mrw hb, Mww hb, Mrw0 hb, Mww0 hb, Mrw1 hb, Mww1 hb, Mre hb, Mwe hb, Mre0 hb, Mwe0 hb, Mre1 hb, Mwe1 hb, Mre2 hb, Mwe2 hb, Mre3 hb, Mwe3 hb, Mre4 hb, Mwe4 hb, Mre5 hb, Mwe5 hb, Mrp hb, Mwp hb, Mrp0 hb, Mwp0 hb, Mrp1 hb, Mwp1 hb, Mrp2 hb, Mwp2 hb, Mrp3 hb, Mwp3 hb, Mrp4 hb, Mwp4 hb, Mrp5 hb, Mwp5 hb, Mrk0 hb, Mwk0 hb, Mrk1 hb, Mwk1 hb, Mrx hb, Mwx hb, Mrx0 hb, Mwx0 hb, Mrx1 hb, Mwx1 hb, Mrx2 hb, Mwx2 hb, Mrx3 hb, Mwx3 hb, Mrx4 hb, Mwx4 hb, Mrx5 hb, Mwx5 hb, Mrt0 hb, Mwt0 hb, Mrt1 hb, Mwt1 hb, hw, hu, d0, if_false, d11, a1, a2, b1, b3, d1, or_true, true_or, if_true, side]
    rw [taut, ite_some, ite_pr]
  · obtain ⟨a1, a2, -⟩ := sg1 ⟨hp.1, hp.2.1⟩ ha
    obtain ⟨b1, -, b3⟩ := sg1 ⟨ho.1, ho.2.1⟩ ha
    simp (disch := omega) only [zjpE, zletE, zciE, zcvE, zchkE, nI_1, Mrc0 hb, Mwc0 hb, Mrc1 hb, Mwc1 hb, Mrc2 hb, Mwc2 hb, Mrc3 hb, Mwc3 hb, Mrc4 hb, Mwc4 hb, Mrc5 hb, Mwc5 hb, Mrc6 hb, Mwc6 hb, Mrc7 hb, Mwc7 hb, Mrc8 hb, Mwc8 hb, Mrc9 hb, Mwc9 hb, Mrc10 hb, Mwc10 hb, Mrs hb, Mws hb, Mrs0 hb, Mws0 hb, Mrs1 hb, Mws1 hb, Mrs2 hb, Mws2 hb, Mrs3 hb, Mws3 hb, Mrs4 hb, Mws4 hb, Mrs5 hb, Mws5 hb, Mrs6 hb, Mws6 hb, Mrh hb, Mwh hb, Mrh0 hb, Mwh0 hb, Mrh1 hb, Mwh1 hb, Mrh2 hb, Mwh2 hb, Mrh3 hb, Mwh3 hb, Mrh4 hb, Mwh4 hb, Mrw hb, Mww hb, Mrw0 hb, Mww0 hb, Mrw1 hb, Mww1 hb, Mre hb, Mwe hb, Mre0 hb, Mwe0 hb, Mre1 hb, Mwe1 hb, Mre2 hb, Mwe2 hb, Mre3 hb, Mwe3 hb, Mre4 hb, Mwe4 hb, Mre5 hb, Mwe5 hb, Mrp hb, Mwp hb, Mrp0 hb, Mwp0 hb, Mrp1 hb, Mwp1 hb, Mrp2 hb, Mwp2 hb, Mrp3 hb, Mwp3 hb, Mrp4 hb, Mwp4 hb, Mrp5 hb, Mwp5 hb, Mrk0 hb, Mwk0 hb, Mrk1 hb, Mwk1 hb, Mrx hb, Mwx hb, Mrx0 hb, Mwx0 hb, Mrx1 hb, Mwx1 hb, Mrx2 hb, Mwx2 hb, Mrx3 hb, Mwx3 hb, Mrx4 hb, Mwx4 hb, Mrx5 hb, Mwx5 hb, Mrt0 hb, Mwt0 hb, Mrt1 hb, Mwt1 hb, hw, hu, d10, a1, a2, b1, b3, d1, d0, or_true, true_or, if_true, if_false, side]
    rw [taut, ite_some, ite_pr]
theorem e_isBetween (hL : LF w a) {i : Nat} (hi : i < nw) (hn : nw ≤ 3) (hF : F 16 2 = nI nw) {px py hx hy : Int32} : f_Walls_isBetween w (zblk D a F) (a + 16) (nI i) px py hx hy = some (if side (F 17 i) (F 18 i) px py hx hy then 1 else 0, zblk D a F) := by
  have d1 : ¬ (1 : Int32) = 0 := by decide
  have c1 : ¬ nI i < 0 := nI_pos (by omega)
  have c2 : nI i < nI nw := nI_lt hi (by omega)
  have n1 : ∀ x y : Int32, (x ≤ y) = ¬ (y < x) := by intro x y; exact propext ⟨fun h => by grind, fun h => by grind⟩
  unfold f_Walls_isBetween
  by_cases hu : F 17 i = 0
  · simp (disch := omega) only [zjpE, zletE, zciE, zcvE, zchkE, nI_1, Lo0 hL, Lr0_0 hL, Lr0_1 hL, Lr0_2 hL, Lr0_3 hL, Lr0_4 hL, Lg0_5 hL, Lp0_5 hL, Lg0_6 hL, Lp0_6 hL, Lg0_7 hL, Lp0_7 hL, Lg0_8 hL, Lp0_8 hL, Lo1 hL, Lr1_0 hL, Lr1_1 hL, Lr1_2 hL, Lr1_3 hL, Lr1_4 hL, Lr1_5 hL, Lr1_6 hL, Lg1_7 hL, Lp1_7 hL, Lo9 hL, Lr9_0 hL, Lr9_1 hL, Lr9_2 hL, Lr9_3 hL, Lr9_4 hL, Lr9_5 hL, Lg9_6 hL, Lp9_6 hL, Lg9_7 hL, Lp9_7 hL, Lo16 hL, Lr16_0 hL, Lr16_1 hL, Lg16_2 hL, Lp16_2 hL, Lo19 hL, Lr19_0 hL, Lr19_1 hL, Lr19_2 hL, Lr19_3 hL, Lr19_4 hL, Lr19_5 hL, Lg19_6 hL, Lp19_6 hL, Lg19_7 hL, Lp19_7 hL, Lo26 hL, Lr26_0 hL, Lr26_1 hL, Lr26_2 hL, Lr26_3 hL, Lr26_4 hL, Lr26_5 hL, Lg26_6 hL, Lp26_6 hL, Lg26_7 hL, Lp26_7 hL, Lg26_8 hL, Lp26_8 hL, La2 hL, Ls2 hL, La3 hL, Ls3 hL, La4 hL, Ls4 hL, La5 hL, Ls5 hL, La6 hL, Ls6 hL, La7 hL, Ls7 hL, La8 hL, Ls8 hL, La10 hL, Ls10 hL, La11 hL, Ls11 hL, La12 hL, Ls12 hL, La13 hL, Ls13 hL, La14 hL, Ls14 hL, La15 hL, Ls15 hL, La17 hL, Ls17 hL, La18 hL, Ls18 hL, La20 hL, Ls20 hL, La21 hL, Ls21 hL, La22 hL, Ls22 hL, La23 hL, Ls23 hL, La24 hL, Ls24 hL, La25 hL, Ls25 hL, La27 hL, Ls27 hL, La28 hL, Ls28 hL, La29 hL, Ls29 hL, La30 hL, Ls30 hL, La31 hL, Ls31 hL, La32 hL, Ls32 hL, hF, c1, c2, if_false, if_true, hu, n1, d1, or_true, true_or, side]
    rw [taut, ite_some, ite_pr]
  · simp (disch := omega) only [zjpE, zletE, zciE, zcvE, zchkE, nI_1, Lo0 hL, Lr0_0 hL, Lr0_1 hL, Lr0_2 hL, Lr0_3 hL, Lr0_4 hL, Lg0_5 hL, Lp0_5 hL, Lg0_6 hL, Lp0_6 hL, Lg0_7 hL, Lp0_7 hL, Lg0_8 hL, Lp0_8 hL, Lo1 hL, Lr1_0 hL, Lr1_1 hL, Lr1_2 hL, Lr1_3 hL, Lr1_4 hL, Lr1_5 hL, Lr1_6 hL, Lg1_7 hL, Lp1_7 hL, Lo9 hL, Lr9_0 hL, Lr9_1 hL, Lr9_2 hL, Lr9_3 hL, Lr9_4 hL, Lr9_5 hL, Lg9_6 hL, Lp9_6 hL, Lg9_7 hL, Lp9_7 hL, Lo16 hL, Lr16_0 hL, Lr16_1 hL, Lg16_2 hL, Lp16_2 hL, Lo19 hL, Lr19_0 hL, Lr19_1 hL, Lr19_2 hL, Lr19_3 hL, Lr19_4 hL, Lr19_5 hL, Lg19_6 hL, Lp19_6 hL, Lg19_7 hL, Lp19_7 hL, Lo26 hL, Lr26_0 hL, Lr26_1 hL, Lr26_2 hL, Lr26_3 hL, Lr26_4 hL, Lr26_5 hL, Lg26_6 hL, Lp26_6 hL, Lg26_7 hL, Lp26_7 hL, Lg26_8 hL, Lp26_8 hL, La2 hL, Ls2 hL, La3 hL, Ls3 hL, La4 hL, Ls4 hL, La5 hL, Ls5 hL, La6 hL, Ls6 hL, La7 hL, Ls7 hL, La8 hL, Ls8 hL, La10 hL, Ls10 hL, La11 hL, Ls11 hL, La12 hL, Ls12 hL, La13 hL, Ls13 hL, La14 hL, Ls14 hL, La15 hL, Ls15 hL, La17 hL, Ls17 hL, La18 hL, Ls18 hL, La20 hL, Ls20 hL, La21 hL, Ls21 hL, La22 hL, Ls22 hL, La23 hL, Ls23 hL, La24 hL, Ls24 hL, La25 hL, Ls25 hL, La27 hL, Ls27 hL, La28 hL, Ls28 hL, La29 hL, Ls29 hL, La30 hL, Ls30 hL, La31 hL, Ls31 hL, La32 hL, Ls32 hL, hF, c1, c2, if_false, if_true, hu, n1, d1, or_true, true_or, side]
    rw [taut, ite_some, ite_pr]
end P42
