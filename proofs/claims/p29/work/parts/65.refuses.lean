/-! PURE: what is refused. -/
theorem rl3 {x : Nat} (hx : x < 2 ^ 31) : zirem (nI x) (3 : Int32) = nI (x % 3) := by
  unfold zirem; rw [zl 3, pk_rem hx (by decide) (by decide)]
theorem rl6 {x : Nat} (hx : x < 2 ^ 31) : zirem (nI x) (6 : Int32) = nI (x % 6) := by
  unfold zirem; rw [zl 6, pk_rem hx (by decide) (by decide)]
theorem rl15 {x : Nat} (hx : x < 2 ^ 31) : zirem (nI x) (15 : Int32) = nI (x % 15) := by
  unfold zirem; rw [zl 15, pk_rem hx (by decide) (by decide)]
theorem rl16 {x : Nat} (hx : x < 2 ^ 31) : zirem (nI x) (16 : Int32) = nI (x % 16) := by
  unfold zirem; rw [zl 16, pk_rem hx (by decide) (by decide)]
theorem rl19 {x : Nat} (hx : x < 2 ^ 31) : zirem (nI x) (19 : Int32) = nI (x % 19) := by
  unfold zirem; rw [zl 19, pk_rem hx (by decide) (by decide)]
theorem rl30 {x : Nat} (hx : x < 2 ^ 31) : zirem (nI x) (30 : Int32) = nI (x % 30) := by
  unfold zirem; rw [zl 30, pk_rem hx (by decide) (by decide)]
theorem rl50 {x : Nat} (hx : x < 2 ^ 31) : zirem (nI x) (50 : Int32) = nI (x % 50) := by
  unfold zirem; rw [zl 50, pk_rem hx (by decide) (by decide)]
theorem rl60 {x : Nat} (hx : x < 2 ^ 31) : zirem (nI x) (60 : Int32) = nI (x % 60) := by
  unfold zirem; rw [zl 60, pk_rem hx (by decide) (by decide)]
theorem rl99 {x : Nat} (hx : x < 2 ^ 31) : zirem (nI x) (99 : Int32) = nI (x % 99) := by
  unfold zirem; rw [zl 99, pk_rem hx (by decide) (by decide)]
theorem rl100000 {x : Nat} (hx : x < 2 ^ 31) : zirem (nI x) (100000 : Int32) = nI (x % 100000) := by
  unfold zirem; rw [zl 100000, pk_rem hx (by decide) (by decide)]
theorem rl5000 {x : Nat} (hx : x < 2 ^ 31) : zirem (nI x) (5000 : Int32) = nI (x % 5000) := by
  unfold zirem; rw [zl 5000, pk_rem hx (by decide) (by decide)]
theorem dl3 {x : Nat} (hx : x < 2 ^ 31) : nI x / (3 : Int32) = nI (x / 3) := by
  rw [zl 3, pk_div hx (by decide) (by decide)]
theorem dl7 {x : Nat} (hx : x < 2 ^ 31) : nI x / (7 : Int32) = nI (x / 7) := by
  rw [zl 7, pk_div hx (by decide) (by decide)]
theorem dl11 {x : Nat} (hx : x < 2 ^ 31) : nI x / (11 : Int32) = nI (x / 11) := by
  rw [zl 11, pk_div hx (by decide) (by decide)]
theorem dl16 {x : Nat} (hx : x < 2 ^ 31) : nI x / (16 : Int32) = nI (x / 16) := by
  rw [zl 16, pk_div hx (by decide) (by decide)]
theorem dl20 {x : Nat} (hx : x < 2 ^ 31) : nI x / (20 : Int32) = nI (x / 20) := by
  rw [zl 20, pk_div hx (by decide) (by decide)]
theorem dl61 {x : Nat} (hx : x < 2 ^ 31) : nI x / (61 : Int32) = nI (x / 61) := by
  rw [zl 61, pk_div hx (by decide) (by decide)]
theorem dl81 {x : Nat} (hx : x < 2 ^ 31) : nI x / (81 : Int32) = nI (x / 81) := by
  rw [zl 81, pk_div hx (by decide) (by decide)]
theorem dl3721 {x : Nat} (hx : x < 2 ^ 31) : nI x / (3721 : Int32) = nI (x / 3721) := by
  rw [zl 3721, pk_div hx (by decide) (by decide)]
theorem dl18605 {x : Nat} (hx : x < 2 ^ 31) : nI x / (18605 : Int32) = nI (x / 18605) := by
  rw [zl 18605, pk_div hx (by decide) (by decide)]
theorem dl130235 {x : Nat} (hx : x < 2 ^ 31) : nI x / (130235 : Int32) = nI (x / 130235) := by
  rw [zl 130235, pk_div hx (by decide) (by decide)]
theorem dl6561 {x : Nat} (hx : x < 2 ^ 31) : nI x / (6561 : Int32) = nI (x / 6561) := by
  rw [zl 6561, pk_div hx (by decide) (by decide)]
theorem dl32805 {x : Nat} (hx : x < 2 ^ 31) : nI x / (32805 : Int32) = nI (x / 32805) := by
  rw [zl 32805, pk_div hx (by decide) (by decide)]
theorem neg_ix {y z : Int32} (h : 0 ≤ y ∧ y ≤ 98) : ¬ (0 ≤ (-1 : Int32) - y ∧ (-1 : Int32) - y < z) := by grind
theorem neg_ix9 {y z : Int32} (h : 0 ≤ y ∧ y ≤ 8) : ¬ (0 ≤ (-1 : Int32) - y ∧ (-1 : Int32) - y < z) := by grind
theorem pos_ix {a y : Int32} (ha : 0 ≤ a ∧ a ≤ 60) (h : 0 ≤ y ∧ y ≤ 98) : ¬ (0 ≤ a + y ∧ a + y < a) := by grind
theorem pos_ix9 {a y : Int32} (ha : 0 ≤ a ∧ a ≤ 60) (h : 0 ≤ y ∧ y ≤ 8) : ¬ (0 ≤ a + y ∧ a + y < a) := by grind
theorem o65_q5 {y : Int32} (h : 0 ≤ y ∧ y ≤ 8) : ¬ ((0 : Int32) ≤ ((6 : Int32) + y) ∧ ((6 : Int32) + y) ≤ 5) := by grind
theorem o65_q1 {y : Int32} (h : 0 ≤ y ∧ y ≤ 8) : ¬ ((0 : Int32) ≤ ((2 : Int32) + y) ∧ ((2 : Int32) + y) ≤ 1) := by grind
theorem o65_0 {y : Int32} (h : (0 ≤ y ∧ y ≤ 8)) : ¬ ((0 : Int32) ≤ ((-1 : Int32) - y) ∧ ((-1 : Int32) - y) ≤ (255 : Int32)) := by grind
theorem o65_1 {y : Int32} (h : (0 ≤ y ∧ y ≤ 49)) : ¬ ((0 : Int32) ≤ ((10 : Int32) + y) ∧ ((10 : Int32) + y) ≤ (9 : Int32)) := by grind
theorem o65_2 {y : Int32} (h : (0 ≤ y ∧ y ≤ 8)) : ¬ ((0 : Int32) ≤ ((6 : Int32) + y) ∧ ((6 : Int32) + y) ≤ (5 : Int32)) := by grind
theorem o65_3 {y : Int32} (h : (0 ≤ y ∧ y ≤ 8)) : ¬ ((-30 : Int32) ≤ ((-31 : Int32) - y) ∧ ((-31 : Int32) - y) ≤ (30 : Int32)) := by grind
theorem o65_4 {y : Int32} (h : (0 ≤ y ∧ y ≤ 8)) : ¬ ((-40 : Int32) ≤ ((-41 : Int32) - y) ∧ ((-41 : Int32) - y) ≤ (40 : Int32)) := by grind
theorem o65_5 {y : Int32} (h : (0 ≤ y ∧ y ≤ 8)) : ¬ ((-2 : Int32) ≤ ((-3 : Int32) - y) ∧ ((-3 : Int32) - y) ≤ (2 : Int32)) := by grind
theorem o65_6 {y : Int32} (h : (0 ≤ y ∧ y ≤ 8)) : ¬ isSet ((2 : Int32) + y) (5 : Int32) := by unfold isSet; grind
theorem o65_7 {y : Int32} (h : (0 ≤ y ∧ y ≤ 8)) : ¬ ((0 : Int32) ≤ ((2 : Int32) + y) ∧ ((2 : Int32) + y) ≤ (1 : Int32)) := by grind
theorem o65_8 {y : Int32} (h : (0 ≤ y ∧ y ≤ 8)) : ¬ ((0 : Int32) ≤ ((-1 : Int32) - y) ∧ ((-1 : Int32) - y) ≤ (1 : Int32)) := by grind
theorem o65_9 {y : Int32} (h : (0 ≤ y ∧ y ≤ 8)) : ¬ ((1 : Int32) ≤ ((61 : Int32) + y) ∧ ((61 : Int32) + y) ≤ (60 : Int32)) := by grind
theorem o65_10 {y : Int32} (h : (0 ≤ y ∧ y ≤ 8)) : ¬ ((0 : Int32) ≤ ((256 : Int32) + y) ∧ ((256 : Int32) + y) ≤ (255 : Int32)) := by grind
theorem o65_11 {y : Int32} (h : (0 ≤ y ∧ y ≤ 8)) : ¬ ((-30 : Int32) ≤ ((31 : Int32) + y) ∧ ((31 : Int32) + y) ≤ (30 : Int32)) := by grind
theorem o65_12 {y : Int32} (h : (0 ≤ y ∧ y ≤ 8)) : ¬ ((1 : Int32) ≤ ((6 : Int32) + y) ∧ ((6 : Int32) + y) ≤ (5 : Int32)) := by grind
theorem o65_13 {y : Int32} (h : (0 ≤ y ∧ y ≤ 8)) : ¬ ((-3 : Int32) ≤ ((4 : Int32) + y) ∧ ((4 : Int32) + y) ≤ (3 : Int32)) := by grind
theorem o65_14 {y : Int32} (h : (0 ≤ y ∧ y ≤ 8)) : ¬ ((1 : Int32) ≤ ((21 : Int32) + y) ∧ ((21 : Int32) + y) ≤ (20 : Int32)) := by grind
theorem o65_15 {y : Int32} (h : (0 ≤ y ∧ y ≤ 8)) : ¬ ((-40 : Int32) ≤ ((41 : Int32) + y) ∧ ((41 : Int32) + y) ≤ (40 : Int32)) := by grind
theorem o65_16 {y : Int32} (h : (0 ≤ y ∧ y ≤ 8)) : ¬ ((-2 : Int32) ≤ ((3 : Int32) + y) ∧ ((3 : Int32) + y) ≤ (2 : Int32)) := by grind
theorem o65_17 {y : Int32} (h : (0 ≤ y ∧ y ≤ 8)) : ¬ ((1 : Int32) ≤ ((100 : Int32) + y) ∧ ((100 : Int32) + y) ≤ (99 : Int32)) := by grind
theorem o65_18 {y : Int32} (h : (0 ≤ y ∧ y ≤ 8)) : ¬ isSet (0 : Int32) ((10 : Int32) + y) := by unfold isSet; grind
theorem o65_19 {y : Int32} (h : (0 ≤ y ∧ y ≤ 8)) : ¬ isSet (1 : Int32) ((100 : Int32) + y) := by unfold isSet; grind
theorem o65_20 {y : Int32} (h : (0 ≤ y ∧ y ≤ 8)) : ¬ ((0 : Int32) ≤ ((1001 : Int32) + y) ∧ ((1001 : Int32) + y) ≤ (1000 : Int32)) := by grind
section P65
variable {w : zW} {D : zD} {s : Nat} {F : Fld} {ns nh nw np p : Nat}
theorem ref_even0 (hw : WL w s) (hF : HF D (s + 4) F) (h1 : F 1 7 = nI ns) (hn : ns ≤ 4) (hn0 : 0 < ns) (h9 : F 9 6 = nI nh) (hn9 : nh ≤ 4) (hn09 : 0 < nh) (h16 : F 16 2 = nI nw) (hn16 : nw ≤ 3) (h6 : F 19 6 = nI p) (hp : p < 60) (h7 : F 19 7 = nI np) (hnp : np ≤ 60) {x : Int32} (hx9 : 0 ≤ zirem x 9 ∧ zirem x 9 ≤ 8) (hx99 : 0 ≤ zirem x 99 ∧ zirem x 99 ≤ 98) (hx50 : 0 ≤ zirem x 50 ∧ zirem x 50 ≤ 49) (hl0 : ¬ (100000 : Int64) + x.toInt64 < 0) (hl1 : ¬ (100000 : Int64) + x.toInt64 < 100000) (hpar : zirem x 2 = 0) (hz : np = 0) : f_LW_refuses w D s x = some (1, D) := by
  have bs : 0 ≤ nI ns ∧ nI ns ≤ 60 := rN (by omega) (by decide)
  have bh : 0 ≤ nI nh ∧ nI nh ≤ 60 := rN (by omega) (by decide)
  have bw : 0 ≤ nI nw ∧ nI nw ≤ 60 := rN (by omega) (by decide)
  have bp : 0 ≤ nI np ∧ nI np ≤ 60 := rN hnp (by decide)
  have z0s : (0 : Int32) < nI ns := by rw [show (0 : Int32) = nI 0 from rfl]; exact nI_lt hn0 (by omega)
  have z0h : (0 : Int32) < nI nh := by rw [show (0 : Int32) = nI 0 from rfl]; exact nI_lt hn09 (by omega)
  have e0 : f_LW_tryAppend w D s ((-1 : Int32) - zirem x 9) = some (-9999002, D) := t_tryAppend_A hw (xt_append hw hF (show ¬ ((0 : Int32) ≤ ((-1 : Int32) - zirem x 9) ∧ ((-1 : Int32) - zirem x 9) ≤ (255 : Int32)) from o65_0 hx9))
  have e1 : f_LW_tryAbout w D s ((10 : Int32) + zirem x 50) = some (-9999002, D) := t_tryAbout_A hw (qa_n hw hF (show ¬ ((0 : Int32) ≤ ((10 : Int32) + zirem x 50) ∧ ((10 : Int32) + zirem x 50) ≤ (9 : Int32)) from o65_1 hx50))
  have e2 : f_LW_trySiren w D s ((-1 : Int32) - zirem x 99) (99 : Int32) = some (-9999001, D) := t_trySiren_I hw (qs_x hw hF (show ¬ (0 ≤ ((-1 : Int32) - zirem x 99) ∧ ((-1 : Int32) - zirem x 99) < F 1 7) from neg_ix9 hx9))
  have e3 : f_LW_trySiren w D s (0 : Int32) ((10 : Int32) + zirem x 9) = some (-9999002, D) := t_trySiren_A hw (qs_n hw hF (show (0 ≤ (0 : Int32) ∧ (0 : Int32) < F 1 7) from ⟨by decide, by rw [h1]; exact z0s⟩) (show ¬ ((0 : Int32) ≤ ((10 : Int32) + zirem x 9) ∧ ((10 : Int32) + zirem x 9) ≤ (9 : Int32)) from o65_1 hx9))
  have e4 : f_LW_tryHearer w D s ((-1 : Int32) - zirem x 99) (99 : Int32) = some (-9999001, D) := t_tryHearer_I hw (qh_x hw hF (show ¬ (0 ≤ ((-1 : Int32) - zirem x 99) ∧ ((-1 : Int32) - zirem x 99) < F 9 6) from neg_ix9 hx9))
  have e5 : f_LW_tryHearer w D s (0 : Int32) ((6 : Int32) + zirem x 9) = some (-9999002, D) := t_tryHearer_A hw (qh_n hw hF (show (0 ≤ (0 : Int32) ∧ (0 : Int32) < F 9 6) from ⟨by decide, by rw [h9]; exact z0h⟩) (show ¬ ((0 : Int32) ≤ ((6 : Int32) + zirem x 9) ∧ ((6 : Int32) + zirem x 9) ≤ (5 : Int32)) from o65_2 hx9))
  have e6 : f_LW_tryWall w D s (-1 : Int32) (9 : Int32) = some (-9999001, D) := t_tryWall_I hw (qw_x hw hF (show ¬ (0 ≤ (-1 : Int32) ∧ (-1 : Int32) < F 16 2) from fun h => absurd h.1 (by decide)))
  have e7 : f_LW_tryPulse w D s (-1 : Int32) (99 : Int32) = some (-9999001, D) := t_tryPulse_I hw (qp_x hw hF (show ¬ (0 ≤ (-1 : Int32) ∧ (-1 : Int32) < F 19 7) from fun h => absurd h.1 (by decide)))
  have e8 : f_LW_tryHeard w D s ((-1 : Int32) - zirem x 99) (0 : Int32) (9 : Int32) = some (-9999001, D) := t_tryHeard_I hw (qe_x hw hF (show ¬ ((0 ≤ ((-1 : Int32) - zirem x 99) ∧ ((-1 : Int32) - zirem x 99) < F 9 6) ∧ (0 ≤ (0 : Int32) ∧ (0 : Int32) < F 1 7)) from fun h => absurd h.1 (neg_ix9 hx9)))
  have e9 : f_LW_tryHeard w D s (0 : Int32) ((-1 : Int32) - zirem x 99) (9 : Int32) = some (-9999001, D) := t_tryHeard_I hw (qe_x hw hF (show ¬ ((0 ≤ (0 : Int32) ∧ (0 : Int32) < F 9 6) ∧ (0 ≤ ((-1 : Int32) - zirem x 99) ∧ ((-1 : Int32) - zirem x 99) < F 1 7)) from fun h => absurd h.2 (neg_ix9 hx9)))
  have e10 : f_LW_tryHeard w D s (0 : Int32) (0 : Int32) ((6 : Int32) + zirem x 9) = some (-9999002, D) := t_tryHeard_A hw (@qe_n w D s F hw hF nh ns 0 0 h9 hn9 h1 hn hn09 hn0 _ (show ¬ ((0 : Int32) ≤ ((6 : Int32) + zirem x 9) ∧ ((6 : Int32) + zirem x 9) ≤ (5 : Int32)) from o65_2 hx9))
  have e11 : f_LW_sirens w D s ((-31 : Int32) - zirem x 9) (0 : Int32) (1 : Int32) (1 : Int32) (1 : Int32) = some (-9999002, D) := t_sirens_A hw (xt_siren1 hw hF (show ¬ ((-30 : Int32) ≤ ((-31 : Int32) - zirem x 9) ∧ ((-31 : Int32) - zirem x 9) ≤ (30 : Int32)) from o65_3 hx9))
  have e12 : f_LW_sirens w D s (0 : Int32) ((-31 : Int32) - zirem x 9) (1 : Int32) (1 : Int32) (1 : Int32) = some (-9999002, D) := t_sirens_A hw (xt_siren2 hw hF (show ((-30 : Int32) ≤ (0 : Int32) ∧ (0 : Int32) ≤ (30 : Int32)) from ⟨by decide, by decide⟩) (show ¬ ((-30 : Int32) ≤ ((-31 : Int32) - zirem x 9) ∧ ((-31 : Int32) - zirem x 9) ≤ (30 : Int32)) from o65_3 hx9))
  have e13 : f_LW_sirens w D s (0 : Int32) (0 : Int32) (0 : Int32) (1 : Int32) (1 : Int32) = some (-9999002, D) := t_sirens_A hw (xt_siren3 hw hF (show ((-30 : Int32) ≤ (0 : Int32) ∧ (0 : Int32) ≤ (30 : Int32)) from ⟨by decide, by decide⟩) (show ((-30 : Int32) ≤ (0 : Int32) ∧ (0 : Int32) ≤ (30 : Int32)) from ⟨by decide, by decide⟩) (show ¬ ((1 : Int32) ≤ (0 : Int32) ∧ (0 : Int32) ≤ (5 : Int32)) from by decide))
  have e14 : f_LW_sirens w D s (0 : Int32) (0 : Int32) (1 : Int32) (-4 : Int32) (1 : Int32) = some (-9999002, D) := t_sirens_A hw (xt_siren4 hw hF (show ((-30 : Int32) ≤ (0 : Int32) ∧ (0 : Int32) ≤ (30 : Int32)) from ⟨by decide, by decide⟩) (show ((-30 : Int32) ≤ (0 : Int32) ∧ (0 : Int32) ≤ (30 : Int32)) from ⟨by decide, by decide⟩) (show ((1 : Int32) ≤ (1 : Int32) ∧ (1 : Int32) ≤ (5 : Int32)) from ⟨by decide, by decide⟩) (show ¬ ((-3 : Int32) ≤ (-4 : Int32) ∧ (-4 : Int32) ≤ (3 : Int32)) from by decide))
  have e15 : f_LW_sirens w D s (0 : Int32) (0 : Int32) (1 : Int32) (1 : Int32) (0 : Int32) = some (-9999002, D) := t_sirens_A hw (xt_siren5 hw hF (show ((-30 : Int32) ≤ (0 : Int32) ∧ (0 : Int32) ≤ (30 : Int32)) from ⟨by decide, by decide⟩) (show ((-30 : Int32) ≤ (0 : Int32) ∧ (0 : Int32) ≤ (30 : Int32)) from ⟨by decide, by decide⟩) (show ((1 : Int32) ≤ (1 : Int32) ∧ (1 : Int32) ≤ (5 : Int32)) from ⟨by decide, by decide⟩) (show ((-3 : Int32) ≤ (1 : Int32) ∧ (1 : Int32) ≤ (3 : Int32)) from ⟨by decide, by decide⟩) (show ¬ ((1 : Int32) ≤ (0 : Int32) ∧ (0 : Int32) ≤ (20 : Int32)) from by decide))
  have e16 : f_LW_hearers w D s ((-41 : Int32) - zirem x 9) (0 : Int32) (0 : Int32) (0 : Int32) = some (-9999002, D) := t_hearers_A hw (xt_hearer1 hw hF (show ¬ ((-40 : Int32) ≤ ((-41 : Int32) - zirem x 9) ∧ ((-41 : Int32) - zirem x 9) ≤ (40 : Int32)) from o65_4 hx9))
  have e17 : f_LW_hearers w D s (0 : Int32) ((-41 : Int32) - zirem x 9) (0 : Int32) (0 : Int32) = some (-9999002, D) := t_hearers_A hw (xt_hearer2 hw hF (show ((-40 : Int32) ≤ (0 : Int32) ∧ (0 : Int32) ≤ (40 : Int32)) from ⟨by decide, by decide⟩) (show ¬ ((-40 : Int32) ≤ ((-41 : Int32) - zirem x 9) ∧ ((-41 : Int32) - zirem x 9) ≤ (40 : Int32)) from o65_4 hx9))
  have e18 : f_LW_hearers w D s (0 : Int32) (0 : Int32) ((-3 : Int32) - zirem x 9) (0 : Int32) = some (-9999002, D) := t_hearers_A hw (xt_hearer3 hw hF (show ((-40 : Int32) ≤ (0 : Int32) ∧ (0 : Int32) ≤ (40 : Int32)) from ⟨by decide, by decide⟩) (show ((-40 : Int32) ≤ (0 : Int32) ∧ (0 : Int32) ≤ (40 : Int32)) from ⟨by decide, by decide⟩) (show ¬ ((-2 : Int32) ≤ ((-3 : Int32) - zirem x 9) ∧ ((-3 : Int32) - zirem x 9) ≤ (2 : Int32)) from o65_5 hx9))
  have e19 : f_LW_hearers w D s (0 : Int32) (0 : Int32) (0 : Int32) ((-3 : Int32) - zirem x 9) = some (-9999002, D) := t_hearers_A hw (xt_hearer4 hw hF (show ((-40 : Int32) ≤ (0 : Int32) ∧ (0 : Int32) ≤ (40 : Int32)) from ⟨by decide, by decide⟩) (show ((-40 : Int32) ≤ (0 : Int32) ∧ (0 : Int32) ≤ (40 : Int32)) from ⟨by decide, by decide⟩) (show ((-2 : Int32) ≤ (0 : Int32) ∧ (0 : Int32) ≤ (2 : Int32)) from ⟨by decide, by decide⟩) (show ¬ ((-2 : Int32) ≤ ((-3 : Int32) - zirem x 9) ∧ ((-3 : Int32) - zirem x 9) ≤ (2 : Int32)) from o65_5 hx9))
  have e20 : f_LW_walls w D s (1 : Int32) ((-41 : Int32) - zirem x 9) = some (-9999002, D) := t_walls_A hw (xt_wall1 hw hF (show ¬ ((-40 : Int32) ≤ ((-41 : Int32) - zirem x 9) ∧ ((-41 : Int32) - zirem x 9) ≤ (40 : Int32)) from o65_4 hx9))
  have e21 : f_LW_turned w D s ((-1 : Int32) - zirem x 99) (1 : Int32) = some (-9999001, D) := t_turned_I hw (xt_turn1 hw hF (show ¬ (0 ≤ ((-1 : Int32) - zirem x 99) ∧ ((-1 : Int32) - zirem x 99) < F 1 7) from neg_ix9 hx9))
  have e22 : f_LW_tryWalk w D s ((-1 : Int32) - zirem x 99) (9 : Int32) (9 : Int32) = some (-9999001, D) := t_tryWalk_I hw (xt_walk1 hw hF (show ¬ (0 ≤ ((-1 : Int32) - zirem x 99) ∧ ((-1 : Int32) - zirem x 99) < F 9 6) from neg_ix9 hx9))
  have e23 : f_LW_tryWalk w D s (0 : Int32) ((-3 : Int32) - zirem x 9) (0 : Int32) = some (-9999002, D) := t_tryWalk_A hw (xt_walk2 hw hF (show (0 ≤ (0 : Int32) ∧ (0 : Int32) < F 9 6) from ⟨by decide, by rw [h9]; exact z0h⟩) (show ¬ ((-2 : Int32) ≤ ((-3 : Int32) - zirem x 9) ∧ ((-3 : Int32) - zirem x 9) ≤ (2 : Int32)) from o65_5 hx9))
  have e24 : f_LW_tryWalk w D s (0 : Int32) (0 : Int32) ((-3 : Int32) - zirem x 9) = some (-9999002, D) := t_tryWalk_A hw (xt_walk3 hw hF (show (0 ≤ (0 : Int32) ∧ (0 : Int32) < F 9 6) from ⟨by decide, by rw [h9]; exact z0h⟩) (show ((-2 : Int32) ≤ (0 : Int32) ∧ (0 : Int32) ≤ (2 : Int32)) from ⟨by decide, by decide⟩) (show ¬ ((-2 : Int32) ≤ ((-3 : Int32) - zirem x 9) ∧ ((-3 : Int32) - zirem x 9) ≤ (2 : Int32)) from o65_5 hx9))
  have e25 : f_LW_tryTicks w D s (0 : Int32) = some (-9999002, D) := t_tryTicks_A hw (xt_ticks1 hw hF (show ¬ ((1 : Int32) ≤ (0 : Int32) ∧ (0 : Int32) ≤ (99 : Int32)) from by decide))
  have e26 : f_LW_tryLay w D s (0 : Int32) (0 : Int32) = some (-9999002, D) := t_tryLay_A hw (xt_set1 hw hF (show ¬ isSet (0 : Int32) (0 : Int32) from by decide))
  have e27 : f_LW_tryLay w D s (1 : Int32) (0 : Int32) = some (-9999002, D) := t_tryLay_A hw (xt_set1 hw hF (show ¬ isSet (1 : Int32) (0 : Int32) from by decide))
  have e28 : f_LW_tryLay w D s ((2 : Int32) + zirem x 9) (5 : Int32) = some (-9999002, D) := t_tryLay_A hw (xt_set1 hw hF (show ¬ isSet ((2 : Int32) + zirem x 9) (5 : Int32) from o65_6 hx9))
  have e29 : f_LW_tryIn w D s ((-1 : Int32) - zirem x 99) (9999 : Int32) (9 : Int32) = some (-9999001, D) := t_tryIn_I hw (qi_x hw hF (show ¬ (0 ≤ ((-1 : Int32) - zirem x 99) ∧ ((-1 : Int32) - zirem x 99) < F 1 7) from neg_ix9 hx9))
  have e30 : f_LW_tryIn w D s (0 : Int32) (-1 : Int32) (0 : Int32) = some (-9999002, D) := t_tryIn_A hw (qi_n hw hF (show (0 ≤ (0 : Int32) ∧ (0 : Int32) < F 1 7) from ⟨by decide, by rw [h1]; exact z0s⟩) (show ¬ ((0 : Int32) ≤ (-1 : Int32) ∧ (-1 : Int32) ≤ (1000 : Int32)) from by decide))
  have e31 : f_LW_tryIn w D s (0 : Int32) (0 : Int32) ((2 : Int32) + zirem x 9) = some (-9999002, D) := t_tryIn_A hw (qi_y hw hF (show (0 ≤ (0 : Int32) ∧ (0 : Int32) < F 1 7) from ⟨by decide, by rw [h1]; exact z0s⟩) (show ((0 : Int32) ≤ (0 : Int32) ∧ (0 : Int32) ≤ (1000 : Int32)) from ⟨by decide, by decide⟩) (show ¬ ((0 : Int32) ≤ ((2 : Int32) + zirem x 9) ∧ ((2 : Int32) + zirem x 9) ≤ (1 : Int32)) from o65_7 hx9))
  have e32 : f_LW_tryWhen w D s ((-1 : Int32) - zirem x 99) (0 : Int32) = some (-9999001, D) := t_tryWhen_I hw (xt_heardIn hw hF (show ¬ ((0 ≤ ((-1 : Int32) - zirem x 99) ∧ ((-1 : Int32) - zirem x 99) < F 9 6) ∧ (0 ≤ (0 : Int32) ∧ (0 : Int32) < F 1 7)) from fun h => absurd h.1 (neg_ix9 hx9)))
  have e33 : f_LW_tryWhen w D s (0 : Int32) ((-1 : Int32) - zirem x 99) = some (-9999001, D) := t_tryWhen_I hw (xt_heardIn hw hF (show ¬ ((0 ≤ (0 : Int32) ∧ (0 : Int32) < F 9 6) ∧ (0 ≤ ((-1 : Int32) - zirem x 99) ∧ ((-1 : Int32) - zirem x 99) < F 1 7)) from fun h => absurd h.2 (neg_ix9 hx9)))
  have e34 : f_LW_tryLeast w D s (0 : Int32) = some (-9999002, D) := t_tryLeast_A hw (xt_leastSpeed hw hF (show ¬ ((1 : Int32) ≤ (0 : Int32) ∧ (0 : Int32) ≤ (99 : Int32)) from by decide))
  have e35 : f_LW_tryKeep w D s ((2 : Int32) + zirem x 50) = some (-9999001, D) := t_tryKeep_I hw (xt_save hw hF (show ¬ ((0 : Int32) ≤ ((2 : Int32) + zirem x 50) ∧ ((2 : Int32) + zirem x 50) ≤ (1 : Int32)) from o65_7 hx50))
  have e36 : f_LW_tryBack w D s ((-1 : Int32) - zirem x 9) = some (-9999001, D) := t_tryBack_I hw (xt_restore hw hF (show ¬ ((0 : Int32) ≤ ((-1 : Int32) - zirem x 9) ∧ ((-1 : Int32) - zirem x 9) ≤ (1 : Int32)) from o65_8 hx9))
  have e37 : f_LW_doScript w D s (0 : Int32) (0 : Int64) = some (-9999002, D) := t_doScript_A hw (xt_runScript0 hw hF (show ¬ ((1 : Int32) ≤ (0 : Int32) ∧ (0 : Int32) ≤ (3 : Int32)) from by decide))
  have e38 : f_LW_doScript w D s (1 : Int32) ((100000 : Int64) + x.toInt64) = some (-9999002, D) := t_doScript_A hw (xt_runScript1 hw hF (show ¬ (100000 : Int64) + x.toInt64 < 0 from hl0) (show ¬ (100000 : Int64) + x.toInt64 < 100000 from hl1))
  have e39 : f_LW_doSimulate w D s (x.toInt64) ((61 : Int32) + zirem x 9) = some (-9999002, D) := t_doSimulate_A hw (xt_simulate hw hF (show ¬ ((1 : Int32) ≤ ((61 : Int32) + zirem x 9) ∧ ((61 : Int32) + zirem x 9) ≤ (60 : Int32)) from o65_9 hx9))
  have a0 : f_LW_tryAbout w D s 0 = some (nI ns, D) := t_tryAbout hw (by rw [← h1]; exact qa_0 hw hF)
  have a1 : f_LW_tryAbout w D s 1 = some (nI nh, D) := t_tryAbout hw (by rw [← h9]; exact qa_1 hw hF)
  have a2 : f_LW_tryAbout w D s 2 = some (nI nw, D) := t_tryAbout hw (by rw [← h16]; exact qa_2 hw hF)
  have a4 : f_LW_tryAbout w D s 4 = some (nI np, D) := t_tryAbout hw (by rw [← h7]; exact qa_4 hw hF)
  have hz0 : nI np = 0 := by rw [hz]; rfl
  have es : nI ns < 4 ∨ f_LW_sirens w D s 0 0 1 0 1 = some (-9999003, D) := by
    by_cases h : ns < 4
    · exact Or.inl (nI_lt h (by decide))
    · exact Or.inr (t_sirens_S hw (xt_sirenF hw hF ⟨by decide, by decide⟩ ⟨by decide, by decide⟩ ⟨by decide, by decide⟩ ⟨by decide, by decide⟩ ⟨by decide, by decide⟩ (by rw [h1, show ns = 4 by omega])))
  have eh : nI nh < 4 ∨ f_LW_hearers w D s 0 0 0 0 = some (-9999003, D) := by
    by_cases h : nh < 4
    · exact Or.inl (nI_lt h (by decide))
    · exact Or.inr (t_hearers_S hw (xt_hearerF hw hF ⟨by decide, by decide⟩ ⟨by decide, by decide⟩ ⟨by decide, by decide⟩ ⟨by decide, by decide⟩ (by rw [h9, show nh = 4 by omega])))
  have ew : nI nw < 3 ∨ f_LW_walls w D s 1 0 = some (-9999003, D) := by
    by_cases h : nw < 3
    · exact Or.inl (nI_lt h (by decide))
    · exact Or.inr (t_walls_S hw (xt_wallF hw hF ⟨by decide, by decide⟩ (by rw [h16, show nw = 3 by omega])))
  have ev : nI nw = 0 ∨ f_LW_tryWall w D s (0 : Int32) ((2 : Int32) + zirem x 9) = some (-9999002, D) := by
    by_cases h : nw = 0
    · exact Or.inl (by rw [h]; rfl)
    · exact Or.inr (t_tryWall_A hw (qw_n hw hF (show 0 ≤ (0 : Int32) ∧ (0 : Int32) < F 16 2 from ⟨by decide, by rw [h16, show (0 : Int32) = nI 0 from rfl]; exact nI_lt (by omega) (by omega)⟩) (show ¬ ((0 : Int32) ≤ ((2 : Int32) + zirem x 9) ∧ ((2 : Int32) + zirem x 9) ≤ 1) from o65_q1 hx9)))
  unfold f_LW_refuses
  simp only [↓zjpE, ↓zletE, ↓zciE, ↓zcvE, ↓zchkE, ↓reduceIte, zciE, zcvE, nI_1, ↓cl_0, ↓cl_1, ↓cl_2, ↓cl_3, ↓cl_4, ↓cl_5, ↓cl_6, ↓cl_7, ↓cl_8, ↓cl_9, ↓cl_10, ↓cl_11, ↓cl_12, ↓cl_13, ↓cl_14, ↓cl_15, ↓cl_16, ↓zciX a0, ↓zciX a1, ↓zciX a2, ↓zciX a4, hpar, hz0, ↓zciX e0, ↓zciX e1, ↓zciX e2, ↓zciX e3, ↓zciX e4, ↓zciX e5, ↓zciX e6, ↓zciX e7, ↓zciX e8, ↓zciX e9, ↓zciX e10, ↓zciX e11, ↓zciX e12, ↓zciX e13, ↓zciX e14, ↓zciX e15, ↓zciX e16, ↓zciX e17, ↓zciX e18, ↓zciX e19, ↓zciX e20, ↓zciX e21, ↓zciX e22, ↓zciX e23, ↓zciX e24, ↓zciX e25, ↓zciX e26, ↓zciX e27, ↓zciX e28, ↓zciX e29, ↓zciX e30, ↓zciX e31, ↓zciX e32, ↓zciX e33, ↓zciX e34, ↓zciX e35, ↓zciX e36, ↓zciX e37, ↓zciX e38, ↓zciX e39, d10]
  clear e0 e1 e2 e3 e4 e5 e6 e7 e8 e9 e10 e11 e12 e13 e14 e15 e16 e17 e18 e19 e20 e21 e22 e23 e24 e25 e26 e27 e28 e29 e30 e31 e32 e33 e34 e35 e36 e37 e38 e39
  rcases es with es | es <;> rcases eh with eh | eh <;> rcases ew with ew | ew <;> rcases ev with ev | ev
  all_goals
    by_cases ns4 : nI ns < 4 <;> by_cases nh4 : nI nh < 4 <;> by_cases nw3 : nI nw < 3 <;> by_cases nw0 : nI nw = 0
  all_goals
    first
      | (simp only [↓zjpE, ↓zletE, ↓zciE, ↓zcvE, ↓zchkE, ↓reduceIte, zciE, zcvE, nI_1, ↓cl_0, ↓cl_1, ↓cl_2, ↓cl_3, ↓cl_4, ↓cl_5, ↓cl_6, ↓cl_7, ↓cl_8, ↓cl_9, ↓cl_10, ↓cl_11, ↓cl_12, ↓cl_13, ↓cl_14, ↓cl_15, ↓cl_16, ns4, nh4, nw3, nw0, ↓zciX es, ↓zciX eh, ↓zciX ew, ↓zciX ev, or_true]; done)
      | contradiction
theorem ref_even1 (hw : WL w s) (hF : HF D (s + 4) F) (h1 : F 1 7 = nI ns) (hn : ns ≤ 4) (hn0 : 0 < ns) (h9 : F 9 6 = nI nh) (hn9 : nh ≤ 4) (hn09 : 0 < nh) (h16 : F 16 2 = nI nw) (hn16 : nw ≤ 3) (h6 : F 19 6 = nI p) (hp : p < 60) (h7 : F 19 7 = nI np) (hnp : np ≤ 60) {x : Int32} (hx9 : 0 ≤ zirem x 9 ∧ zirem x 9 ≤ 8) (hx99 : 0 ≤ zirem x 99 ∧ zirem x 99 ≤ 98) (hx50 : 0 ≤ zirem x 50 ∧ zirem x 50 ≤ 49) (hl0 : ¬ (100000 : Int64) + x.toInt64 < 0) (hl1 : ¬ (100000 : Int64) + x.toInt64 < 100000) (hpar : zirem x 2 = 0) (hz : 0 < np) : f_LW_refuses w D s x = some (1, D) := by
  have bs : 0 ≤ nI ns ∧ nI ns ≤ 60 := rN (by omega) (by decide)
  have bh : 0 ≤ nI nh ∧ nI nh ≤ 60 := rN (by omega) (by decide)
  have bw : 0 ≤ nI nw ∧ nI nw ≤ 60 := rN (by omega) (by decide)
  have bp : 0 ≤ nI np ∧ nI np ≤ 60 := rN hnp (by decide)
  have z0s : (0 : Int32) < nI ns := by rw [show (0 : Int32) = nI 0 from rfl]; exact nI_lt hn0 (by omega)
  have z0h : (0 : Int32) < nI nh := by rw [show (0 : Int32) = nI 0 from rfl]; exact nI_lt hn09 (by omega)
  have e0 : f_LW_tryAppend w D s ((-1 : Int32) - zirem x 9) = some (-9999002, D) := t_tryAppend_A hw (xt_append hw hF (show ¬ ((0 : Int32) ≤ ((-1 : Int32) - zirem x 9) ∧ ((-1 : Int32) - zirem x 9) ≤ (255 : Int32)) from o65_0 hx9))
  have e1 : f_LW_tryAbout w D s ((10 : Int32) + zirem x 50) = some (-9999002, D) := t_tryAbout_A hw (qa_n hw hF (show ¬ ((0 : Int32) ≤ ((10 : Int32) + zirem x 50) ∧ ((10 : Int32) + zirem x 50) ≤ (9 : Int32)) from o65_1 hx50))
  have e2 : f_LW_trySiren w D s ((-1 : Int32) - zirem x 99) (99 : Int32) = some (-9999001, D) := t_trySiren_I hw (qs_x hw hF (show ¬ (0 ≤ ((-1 : Int32) - zirem x 99) ∧ ((-1 : Int32) - zirem x 99) < F 1 7) from neg_ix9 hx9))
  have e3 : f_LW_trySiren w D s (0 : Int32) ((10 : Int32) + zirem x 9) = some (-9999002, D) := t_trySiren_A hw (qs_n hw hF (show (0 ≤ (0 : Int32) ∧ (0 : Int32) < F 1 7) from ⟨by decide, by rw [h1]; exact z0s⟩) (show ¬ ((0 : Int32) ≤ ((10 : Int32) + zirem x 9) ∧ ((10 : Int32) + zirem x 9) ≤ (9 : Int32)) from o65_1 hx9))
  have e4 : f_LW_tryHearer w D s ((-1 : Int32) - zirem x 99) (99 : Int32) = some (-9999001, D) := t_tryHearer_I hw (qh_x hw hF (show ¬ (0 ≤ ((-1 : Int32) - zirem x 99) ∧ ((-1 : Int32) - zirem x 99) < F 9 6) from neg_ix9 hx9))
  have e5 : f_LW_tryHearer w D s (0 : Int32) ((6 : Int32) + zirem x 9) = some (-9999002, D) := t_tryHearer_A hw (qh_n hw hF (show (0 ≤ (0 : Int32) ∧ (0 : Int32) < F 9 6) from ⟨by decide, by rw [h9]; exact z0h⟩) (show ¬ ((0 : Int32) ≤ ((6 : Int32) + zirem x 9) ∧ ((6 : Int32) + zirem x 9) ≤ (5 : Int32)) from o65_2 hx9))
  have e6 : f_LW_tryWall w D s (-1 : Int32) (9 : Int32) = some (-9999001, D) := t_tryWall_I hw (qw_x hw hF (show ¬ (0 ≤ (-1 : Int32) ∧ (-1 : Int32) < F 16 2) from fun h => absurd h.1 (by decide)))
  have e7 : f_LW_tryPulse w D s (-1 : Int32) (99 : Int32) = some (-9999001, D) := t_tryPulse_I hw (qp_x hw hF (show ¬ (0 ≤ (-1 : Int32) ∧ (-1 : Int32) < F 19 7) from fun h => absurd h.1 (by decide)))
  have e8 : f_LW_tryHeard w D s ((-1 : Int32) - zirem x 99) (0 : Int32) (9 : Int32) = some (-9999001, D) := t_tryHeard_I hw (qe_x hw hF (show ¬ ((0 ≤ ((-1 : Int32) - zirem x 99) ∧ ((-1 : Int32) - zirem x 99) < F 9 6) ∧ (0 ≤ (0 : Int32) ∧ (0 : Int32) < F 1 7)) from fun h => absurd h.1 (neg_ix9 hx9)))
  have e9 : f_LW_tryHeard w D s (0 : Int32) ((-1 : Int32) - zirem x 99) (9 : Int32) = some (-9999001, D) := t_tryHeard_I hw (qe_x hw hF (show ¬ ((0 ≤ (0 : Int32) ∧ (0 : Int32) < F 9 6) ∧ (0 ≤ ((-1 : Int32) - zirem x 99) ∧ ((-1 : Int32) - zirem x 99) < F 1 7)) from fun h => absurd h.2 (neg_ix9 hx9)))
  have e10 : f_LW_tryHeard w D s (0 : Int32) (0 : Int32) ((6 : Int32) + zirem x 9) = some (-9999002, D) := t_tryHeard_A hw (@qe_n w D s F hw hF nh ns 0 0 h9 hn9 h1 hn hn09 hn0 _ (show ¬ ((0 : Int32) ≤ ((6 : Int32) + zirem x 9) ∧ ((6 : Int32) + zirem x 9) ≤ (5 : Int32)) from o65_2 hx9))
  have e11 : f_LW_sirens w D s ((-31 : Int32) - zirem x 9) (0 : Int32) (1 : Int32) (1 : Int32) (1 : Int32) = some (-9999002, D) := t_sirens_A hw (xt_siren1 hw hF (show ¬ ((-30 : Int32) ≤ ((-31 : Int32) - zirem x 9) ∧ ((-31 : Int32) - zirem x 9) ≤ (30 : Int32)) from o65_3 hx9))
  have e12 : f_LW_sirens w D s (0 : Int32) ((-31 : Int32) - zirem x 9) (1 : Int32) (1 : Int32) (1 : Int32) = some (-9999002, D) := t_sirens_A hw (xt_siren2 hw hF (show ((-30 : Int32) ≤ (0 : Int32) ∧ (0 : Int32) ≤ (30 : Int32)) from ⟨by decide, by decide⟩) (show ¬ ((-30 : Int32) ≤ ((-31 : Int32) - zirem x 9) ∧ ((-31 : Int32) - zirem x 9) ≤ (30 : Int32)) from o65_3 hx9))
  have e13 : f_LW_sirens w D s (0 : Int32) (0 : Int32) (0 : Int32) (1 : Int32) (1 : Int32) = some (-9999002, D) := t_sirens_A hw (xt_siren3 hw hF (show ((-30 : Int32) ≤ (0 : Int32) ∧ (0 : Int32) ≤ (30 : Int32)) from ⟨by decide, by decide⟩) (show ((-30 : Int32) ≤ (0 : Int32) ∧ (0 : Int32) ≤ (30 : Int32)) from ⟨by decide, by decide⟩) (show ¬ ((1 : Int32) ≤ (0 : Int32) ∧ (0 : Int32) ≤ (5 : Int32)) from by decide))
  have e14 : f_LW_sirens w D s (0 : Int32) (0 : Int32) (1 : Int32) (-4 : Int32) (1 : Int32) = some (-9999002, D) := t_sirens_A hw (xt_siren4 hw hF (show ((-30 : Int32) ≤ (0 : Int32) ∧ (0 : Int32) ≤ (30 : Int32)) from ⟨by decide, by decide⟩) (show ((-30 : Int32) ≤ (0 : Int32) ∧ (0 : Int32) ≤ (30 : Int32)) from ⟨by decide, by decide⟩) (show ((1 : Int32) ≤ (1 : Int32) ∧ (1 : Int32) ≤ (5 : Int32)) from ⟨by decide, by decide⟩) (show ¬ ((-3 : Int32) ≤ (-4 : Int32) ∧ (-4 : Int32) ≤ (3 : Int32)) from by decide))
  have e15 : f_LW_sirens w D s (0 : Int32) (0 : Int32) (1 : Int32) (1 : Int32) (0 : Int32) = some (-9999002, D) := t_sirens_A hw (xt_siren5 hw hF (show ((-30 : Int32) ≤ (0 : Int32) ∧ (0 : Int32) ≤ (30 : Int32)) from ⟨by decide, by decide⟩) (show ((-30 : Int32) ≤ (0 : Int32) ∧ (0 : Int32) ≤ (30 : Int32)) from ⟨by decide, by decide⟩) (show ((1 : Int32) ≤ (1 : Int32) ∧ (1 : Int32) ≤ (5 : Int32)) from ⟨by decide, by decide⟩) (show ((-3 : Int32) ≤ (1 : Int32) ∧ (1 : Int32) ≤ (3 : Int32)) from ⟨by decide, by decide⟩) (show ¬ ((1 : Int32) ≤ (0 : Int32) ∧ (0 : Int32) ≤ (20 : Int32)) from by decide))
  have e16 : f_LW_hearers w D s ((-41 : Int32) - zirem x 9) (0 : Int32) (0 : Int32) (0 : Int32) = some (-9999002, D) := t_hearers_A hw (xt_hearer1 hw hF (show ¬ ((-40 : Int32) ≤ ((-41 : Int32) - zirem x 9) ∧ ((-41 : Int32) - zirem x 9) ≤ (40 : Int32)) from o65_4 hx9))
  have e17 : f_LW_hearers w D s (0 : Int32) ((-41 : Int32) - zirem x 9) (0 : Int32) (0 : Int32) = some (-9999002, D) := t_hearers_A hw (xt_hearer2 hw hF (show ((-40 : Int32) ≤ (0 : Int32) ∧ (0 : Int32) ≤ (40 : Int32)) from ⟨by decide, by decide⟩) (show ¬ ((-40 : Int32) ≤ ((-41 : Int32) - zirem x 9) ∧ ((-41 : Int32) - zirem x 9) ≤ (40 : Int32)) from o65_4 hx9))
  have e18 : f_LW_hearers w D s (0 : Int32) (0 : Int32) ((-3 : Int32) - zirem x 9) (0 : Int32) = some (-9999002, D) := t_hearers_A hw (xt_hearer3 hw hF (show ((-40 : Int32) ≤ (0 : Int32) ∧ (0 : Int32) ≤ (40 : Int32)) from ⟨by decide, by decide⟩) (show ((-40 : Int32) ≤ (0 : Int32) ∧ (0 : Int32) ≤ (40 : Int32)) from ⟨by decide, by decide⟩) (show ¬ ((-2 : Int32) ≤ ((-3 : Int32) - zirem x 9) ∧ ((-3 : Int32) - zirem x 9) ≤ (2 : Int32)) from o65_5 hx9))
  have e19 : f_LW_hearers w D s (0 : Int32) (0 : Int32) (0 : Int32) ((-3 : Int32) - zirem x 9) = some (-9999002, D) := t_hearers_A hw (xt_hearer4 hw hF (show ((-40 : Int32) ≤ (0 : Int32) ∧ (0 : Int32) ≤ (40 : Int32)) from ⟨by decide, by decide⟩) (show ((-40 : Int32) ≤ (0 : Int32) ∧ (0 : Int32) ≤ (40 : Int32)) from ⟨by decide, by decide⟩) (show ((-2 : Int32) ≤ (0 : Int32) ∧ (0 : Int32) ≤ (2 : Int32)) from ⟨by decide, by decide⟩) (show ¬ ((-2 : Int32) ≤ ((-3 : Int32) - zirem x 9) ∧ ((-3 : Int32) - zirem x 9) ≤ (2 : Int32)) from o65_5 hx9))
  have e20 : f_LW_walls w D s (1 : Int32) ((-41 : Int32) - zirem x 9) = some (-9999002, D) := t_walls_A hw (xt_wall1 hw hF (show ¬ ((-40 : Int32) ≤ ((-41 : Int32) - zirem x 9) ∧ ((-41 : Int32) - zirem x 9) ≤ (40 : Int32)) from o65_4 hx9))
  have e21 : f_LW_turned w D s ((-1 : Int32) - zirem x 99) (1 : Int32) = some (-9999001, D) := t_turned_I hw (xt_turn1 hw hF (show ¬ (0 ≤ ((-1 : Int32) - zirem x 99) ∧ ((-1 : Int32) - zirem x 99) < F 1 7) from neg_ix9 hx9))
  have e22 : f_LW_tryWalk w D s ((-1 : Int32) - zirem x 99) (9 : Int32) (9 : Int32) = some (-9999001, D) := t_tryWalk_I hw (xt_walk1 hw hF (show ¬ (0 ≤ ((-1 : Int32) - zirem x 99) ∧ ((-1 : Int32) - zirem x 99) < F 9 6) from neg_ix9 hx9))
  have e23 : f_LW_tryWalk w D s (0 : Int32) ((-3 : Int32) - zirem x 9) (0 : Int32) = some (-9999002, D) := t_tryWalk_A hw (xt_walk2 hw hF (show (0 ≤ (0 : Int32) ∧ (0 : Int32) < F 9 6) from ⟨by decide, by rw [h9]; exact z0h⟩) (show ¬ ((-2 : Int32) ≤ ((-3 : Int32) - zirem x 9) ∧ ((-3 : Int32) - zirem x 9) ≤ (2 : Int32)) from o65_5 hx9))
  have e24 : f_LW_tryWalk w D s (0 : Int32) (0 : Int32) ((-3 : Int32) - zirem x 9) = some (-9999002, D) := t_tryWalk_A hw (xt_walk3 hw hF (show (0 ≤ (0 : Int32) ∧ (0 : Int32) < F 9 6) from ⟨by decide, by rw [h9]; exact z0h⟩) (show ((-2 : Int32) ≤ (0 : Int32) ∧ (0 : Int32) ≤ (2 : Int32)) from ⟨by decide, by decide⟩) (show ¬ ((-2 : Int32) ≤ ((-3 : Int32) - zirem x 9) ∧ ((-3 : Int32) - zirem x 9) ≤ (2 : Int32)) from o65_5 hx9))
  have e25 : f_LW_tryTicks w D s (0 : Int32) = some (-9999002, D) := t_tryTicks_A hw (xt_ticks1 hw hF (show ¬ ((1 : Int32) ≤ (0 : Int32) ∧ (0 : Int32) ≤ (99 : Int32)) from by decide))
  have e26 : f_LW_tryLay w D s (0 : Int32) (0 : Int32) = some (-9999002, D) := t_tryLay_A hw (xt_set1 hw hF (show ¬ isSet (0 : Int32) (0 : Int32) from by decide))
  have e27 : f_LW_tryLay w D s (1 : Int32) (0 : Int32) = some (-9999002, D) := t_tryLay_A hw (xt_set1 hw hF (show ¬ isSet (1 : Int32) (0 : Int32) from by decide))
  have e28 : f_LW_tryLay w D s ((2 : Int32) + zirem x 9) (5 : Int32) = some (-9999002, D) := t_tryLay_A hw (xt_set1 hw hF (show ¬ isSet ((2 : Int32) + zirem x 9) (5 : Int32) from o65_6 hx9))
  have e29 : f_LW_tryIn w D s ((-1 : Int32) - zirem x 99) (9999 : Int32) (9 : Int32) = some (-9999001, D) := t_tryIn_I hw (qi_x hw hF (show ¬ (0 ≤ ((-1 : Int32) - zirem x 99) ∧ ((-1 : Int32) - zirem x 99) < F 1 7) from neg_ix9 hx9))
  have e30 : f_LW_tryIn w D s (0 : Int32) (-1 : Int32) (0 : Int32) = some (-9999002, D) := t_tryIn_A hw (qi_n hw hF (show (0 ≤ (0 : Int32) ∧ (0 : Int32) < F 1 7) from ⟨by decide, by rw [h1]; exact z0s⟩) (show ¬ ((0 : Int32) ≤ (-1 : Int32) ∧ (-1 : Int32) ≤ (1000 : Int32)) from by decide))
  have e31 : f_LW_tryIn w D s (0 : Int32) (0 : Int32) ((2 : Int32) + zirem x 9) = some (-9999002, D) := t_tryIn_A hw (qi_y hw hF (show (0 ≤ (0 : Int32) ∧ (0 : Int32) < F 1 7) from ⟨by decide, by rw [h1]; exact z0s⟩) (show ((0 : Int32) ≤ (0 : Int32) ∧ (0 : Int32) ≤ (1000 : Int32)) from ⟨by decide, by decide⟩) (show ¬ ((0 : Int32) ≤ ((2 : Int32) + zirem x 9) ∧ ((2 : Int32) + zirem x 9) ≤ (1 : Int32)) from o65_7 hx9))
  have e32 : f_LW_tryWhen w D s ((-1 : Int32) - zirem x 99) (0 : Int32) = some (-9999001, D) := t_tryWhen_I hw (xt_heardIn hw hF (show ¬ ((0 ≤ ((-1 : Int32) - zirem x 99) ∧ ((-1 : Int32) - zirem x 99) < F 9 6) ∧ (0 ≤ (0 : Int32) ∧ (0 : Int32) < F 1 7)) from fun h => absurd h.1 (neg_ix9 hx9)))
  have e33 : f_LW_tryWhen w D s (0 : Int32) ((-1 : Int32) - zirem x 99) = some (-9999001, D) := t_tryWhen_I hw (xt_heardIn hw hF (show ¬ ((0 ≤ (0 : Int32) ∧ (0 : Int32) < F 9 6) ∧ (0 ≤ ((-1 : Int32) - zirem x 99) ∧ ((-1 : Int32) - zirem x 99) < F 1 7)) from fun h => absurd h.2 (neg_ix9 hx9)))
  have e34 : f_LW_tryLeast w D s (0 : Int32) = some (-9999002, D) := t_tryLeast_A hw (xt_leastSpeed hw hF (show ¬ ((1 : Int32) ≤ (0 : Int32) ∧ (0 : Int32) ≤ (99 : Int32)) from by decide))
  have e35 : f_LW_tryKeep w D s ((2 : Int32) + zirem x 50) = some (-9999001, D) := t_tryKeep_I hw (xt_save hw hF (show ¬ ((0 : Int32) ≤ ((2 : Int32) + zirem x 50) ∧ ((2 : Int32) + zirem x 50) ≤ (1 : Int32)) from o65_7 hx50))
  have e36 : f_LW_tryBack w D s ((-1 : Int32) - zirem x 9) = some (-9999001, D) := t_tryBack_I hw (xt_restore hw hF (show ¬ ((0 : Int32) ≤ ((-1 : Int32) - zirem x 9) ∧ ((-1 : Int32) - zirem x 9) ≤ (1 : Int32)) from o65_8 hx9))
  have e37 : f_LW_doScript w D s (0 : Int32) (0 : Int64) = some (-9999002, D) := t_doScript_A hw (xt_runScript0 hw hF (show ¬ ((1 : Int32) ≤ (0 : Int32) ∧ (0 : Int32) ≤ (3 : Int32)) from by decide))
  have e38 : f_LW_doScript w D s (1 : Int32) ((100000 : Int64) + x.toInt64) = some (-9999002, D) := t_doScript_A hw (xt_runScript1 hw hF (show ¬ (100000 : Int64) + x.toInt64 < 0 from hl0) (show ¬ (100000 : Int64) + x.toInt64 < 100000 from hl1))
  have e39 : f_LW_doSimulate w D s (x.toInt64) ((61 : Int32) + zirem x 9) = some (-9999002, D) := t_doSimulate_A hw (xt_simulate hw hF (show ¬ ((1 : Int32) ≤ ((61 : Int32) + zirem x 9) ∧ ((61 : Int32) + zirem x 9) ≤ (60 : Int32)) from o65_9 hx9))
  have a0 : f_LW_tryAbout w D s 0 = some (nI ns, D) := t_tryAbout hw (by rw [← h1]; exact qa_0 hw hF)
  have a1 : f_LW_tryAbout w D s 1 = some (nI nh, D) := t_tryAbout hw (by rw [← h9]; exact qa_1 hw hF)
  have a2 : f_LW_tryAbout w D s 2 = some (nI nw, D) := t_tryAbout hw (by rw [← h16]; exact qa_2 hw hF)
  have a4 : f_LW_tryAbout w D s 4 = some (nI np, D) := t_tryAbout hw (by rw [← h7]; exact qa_4 hw hF)
  have hz0 : ¬ nI np = 0 := by rw [show (0 : Int32) = nI 0 from rfl, nI_eq (by omega) (by omega)]; omega
  have ep : f_LW_tryPulse w D s (0 : Int32) ((6 : Int32) + zirem x 9) = some (-9999002, D) := t_tryPulse_A hw (@qp_n w D s F hw hF p np 0 h6 hp h7 hnp hz _ (show ¬ ((0 : Int32) ≤ ((6 : Int32) + zirem x 9) ∧ ((6 : Int32) + zirem x 9) ≤ 5) from o65_q5 hx9))
  have es : nI ns < 4 ∨ f_LW_sirens w D s 0 0 1 0 1 = some (-9999003, D) := by
    by_cases h : ns < 4
    · exact Or.inl (nI_lt h (by decide))
    · exact Or.inr (t_sirens_S hw (xt_sirenF hw hF ⟨by decide, by decide⟩ ⟨by decide, by decide⟩ ⟨by decide, by decide⟩ ⟨by decide, by decide⟩ ⟨by decide, by decide⟩ (by rw [h1, show ns = 4 by omega])))
  have eh : nI nh < 4 ∨ f_LW_hearers w D s 0 0 0 0 = some (-9999003, D) := by
    by_cases h : nh < 4
    · exact Or.inl (nI_lt h (by decide))
    · exact Or.inr (t_hearers_S hw (xt_hearerF hw hF ⟨by decide, by decide⟩ ⟨by decide, by decide⟩ ⟨by decide, by decide⟩ ⟨by decide, by decide⟩ (by rw [h9, show nh = 4 by omega])))
  have ew : nI nw < 3 ∨ f_LW_walls w D s 1 0 = some (-9999003, D) := by
    by_cases h : nw < 3
    · exact Or.inl (nI_lt h (by decide))
    · exact Or.inr (t_walls_S hw (xt_wallF hw hF ⟨by decide, by decide⟩ (by rw [h16, show nw = 3 by omega])))
  have ev : nI nw = 0 ∨ f_LW_tryWall w D s (0 : Int32) ((2 : Int32) + zirem x 9) = some (-9999002, D) := by
    by_cases h : nw = 0
    · exact Or.inl (by rw [h]; rfl)
    · exact Or.inr (t_tryWall_A hw (qw_n hw hF (show 0 ≤ (0 : Int32) ∧ (0 : Int32) < F 16 2 from ⟨by decide, by rw [h16, show (0 : Int32) = nI 0 from rfl]; exact nI_lt (by omega) (by omega)⟩) (show ¬ ((0 : Int32) ≤ ((2 : Int32) + zirem x 9) ∧ ((2 : Int32) + zirem x 9) ≤ 1) from o65_q1 hx9)))
  unfold f_LW_refuses
  simp only [↓zjpE, ↓zletE, ↓zciE, ↓zcvE, ↓zchkE, ↓reduceIte, zciE, zcvE, nI_1, ↓cl_0, ↓cl_1, ↓cl_2, ↓cl_3, ↓cl_4, ↓cl_5, ↓cl_6, ↓cl_7, ↓cl_8, ↓cl_9, ↓cl_10, ↓cl_11, ↓cl_12, ↓cl_13, ↓cl_14, ↓cl_15, ↓cl_16, ↓zciX a0, ↓zciX a1, ↓zciX a2, ↓zciX a4, hpar, hz0, ↓zciX ep, ↓zciX e0, ↓zciX e1, ↓zciX e2, ↓zciX e3, ↓zciX e4, ↓zciX e5, ↓zciX e6, ↓zciX e7, ↓zciX e8, ↓zciX e9, ↓zciX e10, ↓zciX e11, ↓zciX e12, ↓zciX e13, ↓zciX e14, ↓zciX e15, ↓zciX e16, ↓zciX e17, ↓zciX e18, ↓zciX e19, ↓zciX e20, ↓zciX e21, ↓zciX e22, ↓zciX e23, ↓zciX e24, ↓zciX e25, ↓zciX e26, ↓zciX e27, ↓zciX e28, ↓zciX e29, ↓zciX e30, ↓zciX e31, ↓zciX e32, ↓zciX e33, ↓zciX e34, ↓zciX e35, ↓zciX e36, ↓zciX e37, ↓zciX e38, ↓zciX e39, d10]
  clear e0 e1 e2 e3 e4 e5 e6 e7 e8 e9 e10 e11 e12 e13 e14 e15 e16 e17 e18 e19 e20 e21 e22 e23 e24 e25 e26 e27 e28 e29 e30 e31 e32 e33 e34 e35 e36 e37 e38 e39
  rcases es with es | es <;> rcases eh with eh | eh <;> rcases ew with ew | ew <;> rcases ev with ev | ev
  all_goals
    by_cases ns4 : nI ns < 4 <;> by_cases nh4 : nI nh < 4 <;> by_cases nw3 : nI nw < 3 <;> by_cases nw0 : nI nw = 0
  all_goals
    first
      | (simp only [↓zjpE, ↓zletE, ↓zciE, ↓zcvE, ↓zchkE, ↓reduceIte, zciE, zcvE, nI_1, ↓cl_0, ↓cl_1, ↓cl_2, ↓cl_3, ↓cl_4, ↓cl_5, ↓cl_6, ↓cl_7, ↓cl_8, ↓cl_9, ↓cl_10, ↓cl_11, ↓cl_12, ↓cl_13, ↓cl_14, ↓cl_15, ↓cl_16, ns4, nh4, nw3, nw0, ↓zciX es, ↓zciX eh, ↓zciX ew, ↓zciX ev, or_true]; done)
      | contradiction
theorem ref_odd0 (hw : WL w s) (hF : HF D (s + 4) F) (h1 : F 1 7 = nI ns) (hn : ns ≤ 4) (hn0 : 0 < ns) (h9 : F 9 6 = nI nh) (hn9 : nh ≤ 4) (hn09 : 0 < nh) (h16 : F 16 2 = nI nw) (hn16 : nw ≤ 3) (h6 : F 19 6 = nI p) (hp : p < 60) (h7 : F 19 7 = nI np) (hnp : np ≤ 60) {x : Int32} (hx9 : 0 ≤ zirem x 9 ∧ zirem x 9 ≤ 8) (hx99 : 0 ≤ zirem x 99 ∧ zirem x 99 ≤ 98) (hx50 : 0 ≤ zirem x 50 ∧ zirem x 50 ≤ 49) (hl0 : ¬ (100000 : Int64) + x.toInt64 < 0) (hl1 : ¬ (100000 : Int64) + x.toInt64 < 100000) (hpar : ¬ zirem x 2 = 0) (hz : np = 0) : f_LW_refuses w D s x = some (1, D) := by
  have bs : 0 ≤ nI ns ∧ nI ns ≤ 60 := rN (by omega) (by decide)
  have bh : 0 ≤ nI nh ∧ nI nh ≤ 60 := rN (by omega) (by decide)
  have bw : 0 ≤ nI nw ∧ nI nw ≤ 60 := rN (by omega) (by decide)
  have bp : 0 ≤ nI np ∧ nI np ≤ 60 := rN hnp (by decide)
  have z0s : (0 : Int32) < nI ns := by rw [show (0 : Int32) = nI 0 from rfl]; exact nI_lt hn0 (by omega)
  have z0h : (0 : Int32) < nI nh := by rw [show (0 : Int32) = nI 0 from rfl]; exact nI_lt hn09 (by omega)
  have e0 : f_LW_tryAppend w D s ((256 : Int32) + zirem x 9) = some (-9999002, D) := t_tryAppend_A hw (xt_append hw hF (show ¬ ((0 : Int32) ≤ ((256 : Int32) + zirem x 9) ∧ ((256 : Int32) + zirem x 9) ≤ (255 : Int32)) from o65_10 hx9))
  have e1 : f_LW_tryAbout w D s ((10 : Int32) + zirem x 50) = some (-9999002, D) := t_tryAbout_A hw (qa_n hw hF (show ¬ ((0 : Int32) ≤ ((10 : Int32) + zirem x 50) ∧ ((10 : Int32) + zirem x 50) ≤ (9 : Int32)) from o65_1 hx50))
  have e2 : f_LW_trySiren w D s (nI ns + zirem x 99) (99 : Int32) = some (-9999001, D) := t_trySiren_I hw (qs_x hw hF (show ¬ (0 ≤ (nI ns + zirem x 99) ∧ (nI ns + zirem x 99) < F 1 7) from by rw [h1]; exact pos_ix9 bs hx9))
  have e3 : f_LW_trySiren w D s (0 : Int32) ((10 : Int32) + zirem x 9) = some (-9999002, D) := t_trySiren_A hw (qs_n hw hF (show (0 ≤ (0 : Int32) ∧ (0 : Int32) < F 1 7) from ⟨by decide, by rw [h1]; exact z0s⟩) (show ¬ ((0 : Int32) ≤ ((10 : Int32) + zirem x 9) ∧ ((10 : Int32) + zirem x 9) ≤ (9 : Int32)) from o65_1 hx9))
  have e4 : f_LW_tryHearer w D s (nI nh + zirem x 99) (99 : Int32) = some (-9999001, D) := t_tryHearer_I hw (qh_x hw hF (show ¬ (0 ≤ (nI nh + zirem x 99) ∧ (nI nh + zirem x 99) < F 9 6) from by rw [h9]; exact pos_ix9 bh hx9))
  have e5 : f_LW_tryHearer w D s (0 : Int32) ((6 : Int32) + zirem x 9) = some (-9999002, D) := t_tryHearer_A hw (qh_n hw hF (show (0 ≤ (0 : Int32) ∧ (0 : Int32) < F 9 6) from ⟨by decide, by rw [h9]; exact z0h⟩) (show ¬ ((0 : Int32) ≤ ((6 : Int32) + zirem x 9) ∧ ((6 : Int32) + zirem x 9) ≤ (5 : Int32)) from o65_2 hx9))
  have e6 : f_LW_tryWall w D s (nI nw + zirem x 9) (9 : Int32) = some (-9999001, D) := t_tryWall_I hw (qw_x hw hF (show ¬ (0 ≤ (nI nw + zirem x 9) ∧ (nI nw + zirem x 9) < F 16 2) from by rw [h16]; exact pos_ix9 bw hx9))
  have e7 : f_LW_tryPulse w D s (nI np + zirem x 9) (99 : Int32) = some (-9999001, D) := t_tryPulse_I hw (qp_x hw hF (show ¬ (0 ≤ (nI np + zirem x 9) ∧ (nI np + zirem x 9) < F 19 7) from by rw [h7]; exact pos_ix9 bp hx9))
  have e8 : f_LW_tryHeard w D s (nI nh + zirem x 99) (0 : Int32) (9 : Int32) = some (-9999001, D) := t_tryHeard_I hw (qe_x hw hF (show ¬ ((0 ≤ (nI nh + zirem x 99) ∧ (nI nh + zirem x 99) < F 9 6) ∧ (0 ≤ (0 : Int32) ∧ (0 : Int32) < F 1 7)) from fun h => absurd h.1 (by rw [h9]; exact pos_ix9 bh hx9)))
  have e9 : f_LW_tryHeard w D s (0 : Int32) (nI ns + zirem x 99) (9 : Int32) = some (-9999001, D) := t_tryHeard_I hw (qe_x hw hF (show ¬ ((0 ≤ (0 : Int32) ∧ (0 : Int32) < F 9 6) ∧ (0 ≤ (nI ns + zirem x 99) ∧ (nI ns + zirem x 99) < F 1 7)) from fun h => absurd h.2 (by rw [h1]; exact pos_ix9 bs hx9)))
  have e10 : f_LW_tryHeard w D s (0 : Int32) (0 : Int32) ((6 : Int32) + zirem x 9) = some (-9999002, D) := t_tryHeard_A hw (@qe_n w D s F hw hF nh ns 0 0 h9 hn9 h1 hn hn09 hn0 _ (show ¬ ((0 : Int32) ≤ ((6 : Int32) + zirem x 9) ∧ ((6 : Int32) + zirem x 9) ≤ (5 : Int32)) from o65_2 hx9))
  have e11 : f_LW_sirens w D s ((31 : Int32) + zirem x 9) (0 : Int32) (1 : Int32) (1 : Int32) (1 : Int32) = some (-9999002, D) := t_sirens_A hw (xt_siren1 hw hF (show ¬ ((-30 : Int32) ≤ ((31 : Int32) + zirem x 9) ∧ ((31 : Int32) + zirem x 9) ≤ (30 : Int32)) from o65_11 hx9))
  have e12 : f_LW_sirens w D s (0 : Int32) ((31 : Int32) + zirem x 9) (1 : Int32) (1 : Int32) (1 : Int32) = some (-9999002, D) := t_sirens_A hw (xt_siren2 hw hF (show ((-30 : Int32) ≤ (0 : Int32) ∧ (0 : Int32) ≤ (30 : Int32)) from ⟨by decide, by decide⟩) (show ¬ ((-30 : Int32) ≤ ((31 : Int32) + zirem x 9) ∧ ((31 : Int32) + zirem x 9) ≤ (30 : Int32)) from o65_11 hx9))
  have e13 : f_LW_sirens w D s (0 : Int32) (0 : Int32) ((6 : Int32) + zirem x 9) (1 : Int32) (1 : Int32) = some (-9999002, D) := t_sirens_A hw (xt_siren3 hw hF (show ((-30 : Int32) ≤ (0 : Int32) ∧ (0 : Int32) ≤ (30 : Int32)) from ⟨by decide, by decide⟩) (show ((-30 : Int32) ≤ (0 : Int32) ∧ (0 : Int32) ≤ (30 : Int32)) from ⟨by decide, by decide⟩) (show ¬ ((1 : Int32) ≤ ((6 : Int32) + zirem x 9) ∧ ((6 : Int32) + zirem x 9) ≤ (5 : Int32)) from o65_12 hx9))
  have e14 : f_LW_sirens w D s (0 : Int32) (0 : Int32) (1 : Int32) ((4 : Int32) + zirem x 9) (1 : Int32) = some (-9999002, D) := t_sirens_A hw (xt_siren4 hw hF (show ((-30 : Int32) ≤ (0 : Int32) ∧ (0 : Int32) ≤ (30 : Int32)) from ⟨by decide, by decide⟩) (show ((-30 : Int32) ≤ (0 : Int32) ∧ (0 : Int32) ≤ (30 : Int32)) from ⟨by decide, by decide⟩) (show ((1 : Int32) ≤ (1 : Int32) ∧ (1 : Int32) ≤ (5 : Int32)) from ⟨by decide, by decide⟩) (show ¬ ((-3 : Int32) ≤ ((4 : Int32) + zirem x 9) ∧ ((4 : Int32) + zirem x 9) ≤ (3 : Int32)) from o65_13 hx9))
  have e15 : f_LW_sirens w D s (0 : Int32) (0 : Int32) (1 : Int32) (1 : Int32) ((21 : Int32) + zirem x 9) = some (-9999002, D) := t_sirens_A hw (xt_siren5 hw hF (show ((-30 : Int32) ≤ (0 : Int32) ∧ (0 : Int32) ≤ (30 : Int32)) from ⟨by decide, by decide⟩) (show ((-30 : Int32) ≤ (0 : Int32) ∧ (0 : Int32) ≤ (30 : Int32)) from ⟨by decide, by decide⟩) (show ((1 : Int32) ≤ (1 : Int32) ∧ (1 : Int32) ≤ (5 : Int32)) from ⟨by decide, by decide⟩) (show ((-3 : Int32) ≤ (1 : Int32) ∧ (1 : Int32) ≤ (3 : Int32)) from ⟨by decide, by decide⟩) (show ¬ ((1 : Int32) ≤ ((21 : Int32) + zirem x 9) ∧ ((21 : Int32) + zirem x 9) ≤ (20 : Int32)) from o65_14 hx9))
  have e16 : f_LW_hearers w D s ((41 : Int32) + zirem x 9) (0 : Int32) (0 : Int32) (0 : Int32) = some (-9999002, D) := t_hearers_A hw (xt_hearer1 hw hF (show ¬ ((-40 : Int32) ≤ ((41 : Int32) + zirem x 9) ∧ ((41 : Int32) + zirem x 9) ≤ (40 : Int32)) from o65_15 hx9))
  have e17 : f_LW_hearers w D s (0 : Int32) ((41 : Int32) + zirem x 9) (0 : Int32) (0 : Int32) = some (-9999002, D) := t_hearers_A hw (xt_hearer2 hw hF (show ((-40 : Int32) ≤ (0 : Int32) ∧ (0 : Int32) ≤ (40 : Int32)) from ⟨by decide, by decide⟩) (show ¬ ((-40 : Int32) ≤ ((41 : Int32) + zirem x 9) ∧ ((41 : Int32) + zirem x 9) ≤ (40 : Int32)) from o65_15 hx9))
  have e18 : f_LW_hearers w D s (0 : Int32) (0 : Int32) ((3 : Int32) + zirem x 9) (0 : Int32) = some (-9999002, D) := t_hearers_A hw (xt_hearer3 hw hF (show ((-40 : Int32) ≤ (0 : Int32) ∧ (0 : Int32) ≤ (40 : Int32)) from ⟨by decide, by decide⟩) (show ((-40 : Int32) ≤ (0 : Int32) ∧ (0 : Int32) ≤ (40 : Int32)) from ⟨by decide, by decide⟩) (show ¬ ((-2 : Int32) ≤ ((3 : Int32) + zirem x 9) ∧ ((3 : Int32) + zirem x 9) ≤ (2 : Int32)) from o65_16 hx9))
  have e19 : f_LW_hearers w D s (0 : Int32) (0 : Int32) (0 : Int32) ((3 : Int32) + zirem x 9) = some (-9999002, D) := t_hearers_A hw (xt_hearer4 hw hF (show ((-40 : Int32) ≤ (0 : Int32) ∧ (0 : Int32) ≤ (40 : Int32)) from ⟨by decide, by decide⟩) (show ((-40 : Int32) ≤ (0 : Int32) ∧ (0 : Int32) ≤ (40 : Int32)) from ⟨by decide, by decide⟩) (show ((-2 : Int32) ≤ (0 : Int32) ∧ (0 : Int32) ≤ (2 : Int32)) from ⟨by decide, by decide⟩) (show ¬ ((-2 : Int32) ≤ ((3 : Int32) + zirem x 9) ∧ ((3 : Int32) + zirem x 9) ≤ (2 : Int32)) from o65_16 hx9))
  have e20 : f_LW_walls w D s (0 : Int32) ((41 : Int32) + zirem x 9) = some (-9999002, D) := t_walls_A hw (xt_wall1 hw hF (show ¬ ((-40 : Int32) ≤ ((41 : Int32) + zirem x 9) ∧ ((41 : Int32) + zirem x 9) ≤ (40 : Int32)) from o65_15 hx9))
  have e21 : f_LW_turned w D s (nI ns + zirem x 99) (1 : Int32) = some (-9999001, D) := t_turned_I hw (xt_turn1 hw hF (show ¬ (0 ≤ (nI ns + zirem x 99) ∧ (nI ns + zirem x 99) < F 1 7) from by rw [h1]; exact pos_ix9 bs hx9))
  have e22 : f_LW_tryWalk w D s (nI nh + zirem x 99) (9 : Int32) (9 : Int32) = some (-9999001, D) := t_tryWalk_I hw (xt_walk1 hw hF (show ¬ (0 ≤ (nI nh + zirem x 99) ∧ (nI nh + zirem x 99) < F 9 6) from by rw [h9]; exact pos_ix9 bh hx9))
  have e23 : f_LW_tryWalk w D s (0 : Int32) ((3 : Int32) + zirem x 9) (0 : Int32) = some (-9999002, D) := t_tryWalk_A hw (xt_walk2 hw hF (show (0 ≤ (0 : Int32) ∧ (0 : Int32) < F 9 6) from ⟨by decide, by rw [h9]; exact z0h⟩) (show ¬ ((-2 : Int32) ≤ ((3 : Int32) + zirem x 9) ∧ ((3 : Int32) + zirem x 9) ≤ (2 : Int32)) from o65_16 hx9))
  have e24 : f_LW_tryWalk w D s (0 : Int32) (0 : Int32) ((3 : Int32) + zirem x 9) = some (-9999002, D) := t_tryWalk_A hw (xt_walk3 hw hF (show (0 ≤ (0 : Int32) ∧ (0 : Int32) < F 9 6) from ⟨by decide, by rw [h9]; exact z0h⟩) (show ((-2 : Int32) ≤ (0 : Int32) ∧ (0 : Int32) ≤ (2 : Int32)) from ⟨by decide, by decide⟩) (show ¬ ((-2 : Int32) ≤ ((3 : Int32) + zirem x 9) ∧ ((3 : Int32) + zirem x 9) ≤ (2 : Int32)) from o65_16 hx9))
  have e25 : f_LW_tryTicks w D s ((100 : Int32) + zirem x 9) = some (-9999002, D) := t_tryTicks_A hw (xt_ticks1 hw hF (show ¬ ((1 : Int32) ≤ ((100 : Int32) + zirem x 9) ∧ ((100 : Int32) + zirem x 9) ≤ (99 : Int32)) from o65_17 hx9))
  have e26 : f_LW_tryLay w D s (0 : Int32) ((10 : Int32) + zirem x 9) = some (-9999002, D) := t_tryLay_A hw (xt_set1 hw hF (show ¬ isSet (0 : Int32) ((10 : Int32) + zirem x 9) from o65_18 hx9))
  have e27 : f_LW_tryLay w D s (1 : Int32) ((100 : Int32) + zirem x 9) = some (-9999002, D) := t_tryLay_A hw (xt_set1 hw hF (show ¬ isSet (1 : Int32) ((100 : Int32) + zirem x 9) from o65_19 hx9))
  have e28 : f_LW_tryLay w D s ((2 : Int32) + zirem x 9) (5 : Int32) = some (-9999002, D) := t_tryLay_A hw (xt_set1 hw hF (show ¬ isSet ((2 : Int32) + zirem x 9) (5 : Int32) from o65_6 hx9))
  have e29 : f_LW_tryIn w D s (nI ns + zirem x 99) (9999 : Int32) (9 : Int32) = some (-9999001, D) := t_tryIn_I hw (qi_x hw hF (show ¬ (0 ≤ (nI ns + zirem x 99) ∧ (nI ns + zirem x 99) < F 1 7) from by rw [h1]; exact pos_ix9 bs hx9))
  have e30 : f_LW_tryIn w D s (0 : Int32) ((1001 : Int32) + zirem x 9) (0 : Int32) = some (-9999002, D) := t_tryIn_A hw (qi_n hw hF (show (0 ≤ (0 : Int32) ∧ (0 : Int32) < F 1 7) from ⟨by decide, by rw [h1]; exact z0s⟩) (show ¬ ((0 : Int32) ≤ ((1001 : Int32) + zirem x 9) ∧ ((1001 : Int32) + zirem x 9) ≤ (1000 : Int32)) from o65_20 hx9))
  have e31 : f_LW_tryIn w D s (0 : Int32) (0 : Int32) ((2 : Int32) + zirem x 9) = some (-9999002, D) := t_tryIn_A hw (qi_y hw hF (show (0 ≤ (0 : Int32) ∧ (0 : Int32) < F 1 7) from ⟨by decide, by rw [h1]; exact z0s⟩) (show ((0 : Int32) ≤ (0 : Int32) ∧ (0 : Int32) ≤ (1000 : Int32)) from ⟨by decide, by decide⟩) (show ¬ ((0 : Int32) ≤ ((2 : Int32) + zirem x 9) ∧ ((2 : Int32) + zirem x 9) ≤ (1 : Int32)) from o65_7 hx9))
  have e32 : f_LW_tryWhen w D s (nI nh + zirem x 99) (0 : Int32) = some (-9999001, D) := t_tryWhen_I hw (xt_heardIn hw hF (show ¬ ((0 ≤ (nI nh + zirem x 99) ∧ (nI nh + zirem x 99) < F 9 6) ∧ (0 ≤ (0 : Int32) ∧ (0 : Int32) < F 1 7)) from fun h => absurd h.1 (by rw [h9]; exact pos_ix9 bh hx9)))
  have e33 : f_LW_tryWhen w D s (0 : Int32) (nI ns + zirem x 99) = some (-9999001, D) := t_tryWhen_I hw (xt_heardIn hw hF (show ¬ ((0 ≤ (0 : Int32) ∧ (0 : Int32) < F 9 6) ∧ (0 ≤ (nI ns + zirem x 99) ∧ (nI ns + zirem x 99) < F 1 7)) from fun h => absurd h.2 (by rw [h1]; exact pos_ix9 bs hx9)))
  have e34 : f_LW_tryLeast w D s ((100 : Int32) + zirem x 9) = some (-9999002, D) := t_tryLeast_A hw (xt_leastSpeed hw hF (show ¬ ((1 : Int32) ≤ ((100 : Int32) + zirem x 9) ∧ ((100 : Int32) + zirem x 9) ≤ (99 : Int32)) from o65_17 hx9))
  have e35 : f_LW_tryKeep w D s ((2 : Int32) + zirem x 50) = some (-9999001, D) := t_tryKeep_I hw (xt_save hw hF (show ¬ ((0 : Int32) ≤ ((2 : Int32) + zirem x 50) ∧ ((2 : Int32) + zirem x 50) ≤ (1 : Int32)) from o65_7 hx50))
  have e36 : f_LW_tryBack w D s ((-1 : Int32) - zirem x 9) = some (-9999001, D) := t_tryBack_I hw (xt_restore hw hF (show ¬ ((0 : Int32) ≤ ((-1 : Int32) - zirem x 9) ∧ ((-1 : Int32) - zirem x 9) ≤ (1 : Int32)) from o65_8 hx9))
  have e37 : f_LW_doScript w D s (0 : Int32) (0 : Int64) = some (-9999002, D) := t_doScript_A hw (xt_runScript0 hw hF (show ¬ ((1 : Int32) ≤ (0 : Int32) ∧ (0 : Int32) ≤ (3 : Int32)) from by decide))
  have e38 : f_LW_doScript w D s (1 : Int32) ((100000 : Int64) + x.toInt64) = some (-9999002, D) := t_doScript_A hw (xt_runScript1 hw hF (show ¬ (100000 : Int64) + x.toInt64 < 0 from hl0) (show ¬ (100000 : Int64) + x.toInt64 < 100000 from hl1))
  have e39 : f_LW_doSimulate w D s (x.toInt64) ((61 : Int32) + zirem x 9) = some (-9999002, D) := t_doSimulate_A hw (xt_simulate hw hF (show ¬ ((1 : Int32) ≤ ((61 : Int32) + zirem x 9) ∧ ((61 : Int32) + zirem x 9) ≤ (60 : Int32)) from o65_9 hx9))
  have a0 : f_LW_tryAbout w D s 0 = some (nI ns, D) := t_tryAbout hw (by rw [← h1]; exact qa_0 hw hF)
  have a1 : f_LW_tryAbout w D s 1 = some (nI nh, D) := t_tryAbout hw (by rw [← h9]; exact qa_1 hw hF)
  have a2 : f_LW_tryAbout w D s 2 = some (nI nw, D) := t_tryAbout hw (by rw [← h16]; exact qa_2 hw hF)
  have a4 : f_LW_tryAbout w D s 4 = some (nI np, D) := t_tryAbout hw (by rw [← h7]; exact qa_4 hw hF)
  have hz0 : nI np = 0 := by rw [hz]; rfl
  have es : nI ns < 4 ∨ f_LW_sirens w D s 0 0 1 0 1 = some (-9999003, D) := by
    by_cases h : ns < 4
    · exact Or.inl (nI_lt h (by decide))
    · exact Or.inr (t_sirens_S hw (xt_sirenF hw hF ⟨by decide, by decide⟩ ⟨by decide, by decide⟩ ⟨by decide, by decide⟩ ⟨by decide, by decide⟩ ⟨by decide, by decide⟩ (by rw [h1, show ns = 4 by omega])))
  have eh : nI nh < 4 ∨ f_LW_hearers w D s 0 0 0 0 = some (-9999003, D) := by
    by_cases h : nh < 4
    · exact Or.inl (nI_lt h (by decide))
    · exact Or.inr (t_hearers_S hw (xt_hearerF hw hF ⟨by decide, by decide⟩ ⟨by decide, by decide⟩ ⟨by decide, by decide⟩ ⟨by decide, by decide⟩ (by rw [h9, show nh = 4 by omega])))
  have ew : nI nw < 3 ∨ f_LW_walls w D s 1 0 = some (-9999003, D) := by
    by_cases h : nw < 3
    · exact Or.inl (nI_lt h (by decide))
    · exact Or.inr (t_walls_S hw (xt_wallF hw hF ⟨by decide, by decide⟩ (by rw [h16, show nw = 3 by omega])))
  have ev : nI nw = 0 ∨ f_LW_tryWall w D s (0 : Int32) ((2 : Int32) + zirem x 9) = some (-9999002, D) := by
    by_cases h : nw = 0
    · exact Or.inl (by rw [h]; rfl)
    · exact Or.inr (t_tryWall_A hw (qw_n hw hF (show 0 ≤ (0 : Int32) ∧ (0 : Int32) < F 16 2 from ⟨by decide, by rw [h16, show (0 : Int32) = nI 0 from rfl]; exact nI_lt (by omega) (by omega)⟩) (show ¬ ((0 : Int32) ≤ ((2 : Int32) + zirem x 9) ∧ ((2 : Int32) + zirem x 9) ≤ 1) from o65_q1 hx9)))
  unfold f_LW_refuses
  simp only [↓zjpE, ↓zletE, ↓zciE, ↓zcvE, ↓zchkE, ↓reduceIte, zciE, zcvE, nI_1, ↓cl_0, ↓cl_1, ↓cl_2, ↓cl_3, ↓cl_4, ↓cl_5, ↓cl_6, ↓cl_7, ↓cl_8, ↓cl_9, ↓cl_10, ↓cl_11, ↓cl_12, ↓cl_13, ↓cl_14, ↓cl_15, ↓cl_16, ↓zciX a0, ↓zciX a1, ↓zciX a2, ↓zciX a4, hpar, hz0, ↓zciX e0, ↓zciX e1, ↓zciX e2, ↓zciX e3, ↓zciX e4, ↓zciX e5, ↓zciX e6, ↓zciX e7, ↓zciX e8, ↓zciX e9, ↓zciX e10, ↓zciX e11, ↓zciX e12, ↓zciX e13, ↓zciX e14, ↓zciX e15, ↓zciX e16, ↓zciX e17, ↓zciX e18, ↓zciX e19, ↓zciX e20, ↓zciX e21, ↓zciX e22, ↓zciX e23, ↓zciX e24, ↓zciX e25, ↓zciX e26, ↓zciX e27, ↓zciX e28, ↓zciX e29, ↓zciX e30, ↓zciX e31, ↓zciX e32, ↓zciX e33, ↓zciX e34, ↓zciX e35, ↓zciX e36, ↓zciX e37, ↓zciX e38, ↓zciX e39, d10]
  clear e0 e1 e2 e3 e4 e5 e6 e7 e8 e9 e10 e11 e12 e13 e14 e15 e16 e17 e18 e19 e20 e21 e22 e23 e24 e25 e26 e27 e28 e29 e30 e31 e32 e33 e34 e35 e36 e37 e38 e39
  rcases es with es | es <;> rcases eh with eh | eh <;> rcases ew with ew | ew <;> rcases ev with ev | ev
  all_goals
    by_cases ns4 : nI ns < 4 <;> by_cases nh4 : nI nh < 4 <;> by_cases nw3 : nI nw < 3 <;> by_cases nw0 : nI nw = 0
  all_goals
    first
      | (simp only [↓zjpE, ↓zletE, ↓zciE, ↓zcvE, ↓zchkE, ↓reduceIte, zciE, zcvE, nI_1, ↓cl_0, ↓cl_1, ↓cl_2, ↓cl_3, ↓cl_4, ↓cl_5, ↓cl_6, ↓cl_7, ↓cl_8, ↓cl_9, ↓cl_10, ↓cl_11, ↓cl_12, ↓cl_13, ↓cl_14, ↓cl_15, ↓cl_16, ns4, nh4, nw3, nw0, ↓zciX es, ↓zciX eh, ↓zciX ew, ↓zciX ev, or_true]; done)
      | contradiction
theorem ref_odd1 (hw : WL w s) (hF : HF D (s + 4) F) (h1 : F 1 7 = nI ns) (hn : ns ≤ 4) (hn0 : 0 < ns) (h9 : F 9 6 = nI nh) (hn9 : nh ≤ 4) (hn09 : 0 < nh) (h16 : F 16 2 = nI nw) (hn16 : nw ≤ 3) (h6 : F 19 6 = nI p) (hp : p < 60) (h7 : F 19 7 = nI np) (hnp : np ≤ 60) {x : Int32} (hx9 : 0 ≤ zirem x 9 ∧ zirem x 9 ≤ 8) (hx99 : 0 ≤ zirem x 99 ∧ zirem x 99 ≤ 98) (hx50 : 0 ≤ zirem x 50 ∧ zirem x 50 ≤ 49) (hl0 : ¬ (100000 : Int64) + x.toInt64 < 0) (hl1 : ¬ (100000 : Int64) + x.toInt64 < 100000) (hpar : ¬ zirem x 2 = 0) (hz : 0 < np) : f_LW_refuses w D s x = some (1, D) := by
  have bs : 0 ≤ nI ns ∧ nI ns ≤ 60 := rN (by omega) (by decide)
  have bh : 0 ≤ nI nh ∧ nI nh ≤ 60 := rN (by omega) (by decide)
  have bw : 0 ≤ nI nw ∧ nI nw ≤ 60 := rN (by omega) (by decide)
  have bp : 0 ≤ nI np ∧ nI np ≤ 60 := rN hnp (by decide)
  have z0s : (0 : Int32) < nI ns := by rw [show (0 : Int32) = nI 0 from rfl]; exact nI_lt hn0 (by omega)
  have z0h : (0 : Int32) < nI nh := by rw [show (0 : Int32) = nI 0 from rfl]; exact nI_lt hn09 (by omega)
  have e0 : f_LW_tryAppend w D s ((256 : Int32) + zirem x 9) = some (-9999002, D) := t_tryAppend_A hw (xt_append hw hF (show ¬ ((0 : Int32) ≤ ((256 : Int32) + zirem x 9) ∧ ((256 : Int32) + zirem x 9) ≤ (255 : Int32)) from o65_10 hx9))
  have e1 : f_LW_tryAbout w D s ((10 : Int32) + zirem x 50) = some (-9999002, D) := t_tryAbout_A hw (qa_n hw hF (show ¬ ((0 : Int32) ≤ ((10 : Int32) + zirem x 50) ∧ ((10 : Int32) + zirem x 50) ≤ (9 : Int32)) from o65_1 hx50))
  have e2 : f_LW_trySiren w D s (nI ns + zirem x 99) (99 : Int32) = some (-9999001, D) := t_trySiren_I hw (qs_x hw hF (show ¬ (0 ≤ (nI ns + zirem x 99) ∧ (nI ns + zirem x 99) < F 1 7) from by rw [h1]; exact pos_ix9 bs hx9))
  have e3 : f_LW_trySiren w D s (0 : Int32) ((10 : Int32) + zirem x 9) = some (-9999002, D) := t_trySiren_A hw (qs_n hw hF (show (0 ≤ (0 : Int32) ∧ (0 : Int32) < F 1 7) from ⟨by decide, by rw [h1]; exact z0s⟩) (show ¬ ((0 : Int32) ≤ ((10 : Int32) + zirem x 9) ∧ ((10 : Int32) + zirem x 9) ≤ (9 : Int32)) from o65_1 hx9))
  have e4 : f_LW_tryHearer w D s (nI nh + zirem x 99) (99 : Int32) = some (-9999001, D) := t_tryHearer_I hw (qh_x hw hF (show ¬ (0 ≤ (nI nh + zirem x 99) ∧ (nI nh + zirem x 99) < F 9 6) from by rw [h9]; exact pos_ix9 bh hx9))
  have e5 : f_LW_tryHearer w D s (0 : Int32) ((6 : Int32) + zirem x 9) = some (-9999002, D) := t_tryHearer_A hw (qh_n hw hF (show (0 ≤ (0 : Int32) ∧ (0 : Int32) < F 9 6) from ⟨by decide, by rw [h9]; exact z0h⟩) (show ¬ ((0 : Int32) ≤ ((6 : Int32) + zirem x 9) ∧ ((6 : Int32) + zirem x 9) ≤ (5 : Int32)) from o65_2 hx9))
  have e6 : f_LW_tryWall w D s (nI nw + zirem x 9) (9 : Int32) = some (-9999001, D) := t_tryWall_I hw (qw_x hw hF (show ¬ (0 ≤ (nI nw + zirem x 9) ∧ (nI nw + zirem x 9) < F 16 2) from by rw [h16]; exact pos_ix9 bw hx9))
  have e7 : f_LW_tryPulse w D s (nI np + zirem x 9) (99 : Int32) = some (-9999001, D) := t_tryPulse_I hw (qp_x hw hF (show ¬ (0 ≤ (nI np + zirem x 9) ∧ (nI np + zirem x 9) < F 19 7) from by rw [h7]; exact pos_ix9 bp hx9))
  have e8 : f_LW_tryHeard w D s (nI nh + zirem x 99) (0 : Int32) (9 : Int32) = some (-9999001, D) := t_tryHeard_I hw (qe_x hw hF (show ¬ ((0 ≤ (nI nh + zirem x 99) ∧ (nI nh + zirem x 99) < F 9 6) ∧ (0 ≤ (0 : Int32) ∧ (0 : Int32) < F 1 7)) from fun h => absurd h.1 (by rw [h9]; exact pos_ix9 bh hx9)))
  have e9 : f_LW_tryHeard w D s (0 : Int32) (nI ns + zirem x 99) (9 : Int32) = some (-9999001, D) := t_tryHeard_I hw (qe_x hw hF (show ¬ ((0 ≤ (0 : Int32) ∧ (0 : Int32) < F 9 6) ∧ (0 ≤ (nI ns + zirem x 99) ∧ (nI ns + zirem x 99) < F 1 7)) from fun h => absurd h.2 (by rw [h1]; exact pos_ix9 bs hx9)))
  have e10 : f_LW_tryHeard w D s (0 : Int32) (0 : Int32) ((6 : Int32) + zirem x 9) = some (-9999002, D) := t_tryHeard_A hw (@qe_n w D s F hw hF nh ns 0 0 h9 hn9 h1 hn hn09 hn0 _ (show ¬ ((0 : Int32) ≤ ((6 : Int32) + zirem x 9) ∧ ((6 : Int32) + zirem x 9) ≤ (5 : Int32)) from o65_2 hx9))
  have e11 : f_LW_sirens w D s ((31 : Int32) + zirem x 9) (0 : Int32) (1 : Int32) (1 : Int32) (1 : Int32) = some (-9999002, D) := t_sirens_A hw (xt_siren1 hw hF (show ¬ ((-30 : Int32) ≤ ((31 : Int32) + zirem x 9) ∧ ((31 : Int32) + zirem x 9) ≤ (30 : Int32)) from o65_11 hx9))
  have e12 : f_LW_sirens w D s (0 : Int32) ((31 : Int32) + zirem x 9) (1 : Int32) (1 : Int32) (1 : Int32) = some (-9999002, D) := t_sirens_A hw (xt_siren2 hw hF (show ((-30 : Int32) ≤ (0 : Int32) ∧ (0 : Int32) ≤ (30 : Int32)) from ⟨by decide, by decide⟩) (show ¬ ((-30 : Int32) ≤ ((31 : Int32) + zirem x 9) ∧ ((31 : Int32) + zirem x 9) ≤ (30 : Int32)) from o65_11 hx9))
  have e13 : f_LW_sirens w D s (0 : Int32) (0 : Int32) ((6 : Int32) + zirem x 9) (1 : Int32) (1 : Int32) = some (-9999002, D) := t_sirens_A hw (xt_siren3 hw hF (show ((-30 : Int32) ≤ (0 : Int32) ∧ (0 : Int32) ≤ (30 : Int32)) from ⟨by decide, by decide⟩) (show ((-30 : Int32) ≤ (0 : Int32) ∧ (0 : Int32) ≤ (30 : Int32)) from ⟨by decide, by decide⟩) (show ¬ ((1 : Int32) ≤ ((6 : Int32) + zirem x 9) ∧ ((6 : Int32) + zirem x 9) ≤ (5 : Int32)) from o65_12 hx9))
  have e14 : f_LW_sirens w D s (0 : Int32) (0 : Int32) (1 : Int32) ((4 : Int32) + zirem x 9) (1 : Int32) = some (-9999002, D) := t_sirens_A hw (xt_siren4 hw hF (show ((-30 : Int32) ≤ (0 : Int32) ∧ (0 : Int32) ≤ (30 : Int32)) from ⟨by decide, by decide⟩) (show ((-30 : Int32) ≤ (0 : Int32) ∧ (0 : Int32) ≤ (30 : Int32)) from ⟨by decide, by decide⟩) (show ((1 : Int32) ≤ (1 : Int32) ∧ (1 : Int32) ≤ (5 : Int32)) from ⟨by decide, by decide⟩) (show ¬ ((-3 : Int32) ≤ ((4 : Int32) + zirem x 9) ∧ ((4 : Int32) + zirem x 9) ≤ (3 : Int32)) from o65_13 hx9))
  have e15 : f_LW_sirens w D s (0 : Int32) (0 : Int32) (1 : Int32) (1 : Int32) ((21 : Int32) + zirem x 9) = some (-9999002, D) := t_sirens_A hw (xt_siren5 hw hF (show ((-30 : Int32) ≤ (0 : Int32) ∧ (0 : Int32) ≤ (30 : Int32)) from ⟨by decide, by decide⟩) (show ((-30 : Int32) ≤ (0 : Int32) ∧ (0 : Int32) ≤ (30 : Int32)) from ⟨by decide, by decide⟩) (show ((1 : Int32) ≤ (1 : Int32) ∧ (1 : Int32) ≤ (5 : Int32)) from ⟨by decide, by decide⟩) (show ((-3 : Int32) ≤ (1 : Int32) ∧ (1 : Int32) ≤ (3 : Int32)) from ⟨by decide, by decide⟩) (show ¬ ((1 : Int32) ≤ ((21 : Int32) + zirem x 9) ∧ ((21 : Int32) + zirem x 9) ≤ (20 : Int32)) from o65_14 hx9))
  have e16 : f_LW_hearers w D s ((41 : Int32) + zirem x 9) (0 : Int32) (0 : Int32) (0 : Int32) = some (-9999002, D) := t_hearers_A hw (xt_hearer1 hw hF (show ¬ ((-40 : Int32) ≤ ((41 : Int32) + zirem x 9) ∧ ((41 : Int32) + zirem x 9) ≤ (40 : Int32)) from o65_15 hx9))
  have e17 : f_LW_hearers w D s (0 : Int32) ((41 : Int32) + zirem x 9) (0 : Int32) (0 : Int32) = some (-9999002, D) := t_hearers_A hw (xt_hearer2 hw hF (show ((-40 : Int32) ≤ (0 : Int32) ∧ (0 : Int32) ≤ (40 : Int32)) from ⟨by decide, by decide⟩) (show ¬ ((-40 : Int32) ≤ ((41 : Int32) + zirem x 9) ∧ ((41 : Int32) + zirem x 9) ≤ (40 : Int32)) from o65_15 hx9))
  have e18 : f_LW_hearers w D s (0 : Int32) (0 : Int32) ((3 : Int32) + zirem x 9) (0 : Int32) = some (-9999002, D) := t_hearers_A hw (xt_hearer3 hw hF (show ((-40 : Int32) ≤ (0 : Int32) ∧ (0 : Int32) ≤ (40 : Int32)) from ⟨by decide, by decide⟩) (show ((-40 : Int32) ≤ (0 : Int32) ∧ (0 : Int32) ≤ (40 : Int32)) from ⟨by decide, by decide⟩) (show ¬ ((-2 : Int32) ≤ ((3 : Int32) + zirem x 9) ∧ ((3 : Int32) + zirem x 9) ≤ (2 : Int32)) from o65_16 hx9))
  have e19 : f_LW_hearers w D s (0 : Int32) (0 : Int32) (0 : Int32) ((3 : Int32) + zirem x 9) = some (-9999002, D) := t_hearers_A hw (xt_hearer4 hw hF (show ((-40 : Int32) ≤ (0 : Int32) ∧ (0 : Int32) ≤ (40 : Int32)) from ⟨by decide, by decide⟩) (show ((-40 : Int32) ≤ (0 : Int32) ∧ (0 : Int32) ≤ (40 : Int32)) from ⟨by decide, by decide⟩) (show ((-2 : Int32) ≤ (0 : Int32) ∧ (0 : Int32) ≤ (2 : Int32)) from ⟨by decide, by decide⟩) (show ¬ ((-2 : Int32) ≤ ((3 : Int32) + zirem x 9) ∧ ((3 : Int32) + zirem x 9) ≤ (2 : Int32)) from o65_16 hx9))
  have e20 : f_LW_walls w D s (0 : Int32) ((41 : Int32) + zirem x 9) = some (-9999002, D) := t_walls_A hw (xt_wall1 hw hF (show ¬ ((-40 : Int32) ≤ ((41 : Int32) + zirem x 9) ∧ ((41 : Int32) + zirem x 9) ≤ (40 : Int32)) from o65_15 hx9))
  have e21 : f_LW_turned w D s (nI ns + zirem x 99) (1 : Int32) = some (-9999001, D) := t_turned_I hw (xt_turn1 hw hF (show ¬ (0 ≤ (nI ns + zirem x 99) ∧ (nI ns + zirem x 99) < F 1 7) from by rw [h1]; exact pos_ix9 bs hx9))
  have e22 : f_LW_tryWalk w D s (nI nh + zirem x 99) (9 : Int32) (9 : Int32) = some (-9999001, D) := t_tryWalk_I hw (xt_walk1 hw hF (show ¬ (0 ≤ (nI nh + zirem x 99) ∧ (nI nh + zirem x 99) < F 9 6) from by rw [h9]; exact pos_ix9 bh hx9))
  have e23 : f_LW_tryWalk w D s (0 : Int32) ((3 : Int32) + zirem x 9) (0 : Int32) = some (-9999002, D) := t_tryWalk_A hw (xt_walk2 hw hF (show (0 ≤ (0 : Int32) ∧ (0 : Int32) < F 9 6) from ⟨by decide, by rw [h9]; exact z0h⟩) (show ¬ ((-2 : Int32) ≤ ((3 : Int32) + zirem x 9) ∧ ((3 : Int32) + zirem x 9) ≤ (2 : Int32)) from o65_16 hx9))
  have e24 : f_LW_tryWalk w D s (0 : Int32) (0 : Int32) ((3 : Int32) + zirem x 9) = some (-9999002, D) := t_tryWalk_A hw (xt_walk3 hw hF (show (0 ≤ (0 : Int32) ∧ (0 : Int32) < F 9 6) from ⟨by decide, by rw [h9]; exact z0h⟩) (show ((-2 : Int32) ≤ (0 : Int32) ∧ (0 : Int32) ≤ (2 : Int32)) from ⟨by decide, by decide⟩) (show ¬ ((-2 : Int32) ≤ ((3 : Int32) + zirem x 9) ∧ ((3 : Int32) + zirem x 9) ≤ (2 : Int32)) from o65_16 hx9))
  have e25 : f_LW_tryTicks w D s ((100 : Int32) + zirem x 9) = some (-9999002, D) := t_tryTicks_A hw (xt_ticks1 hw hF (show ¬ ((1 : Int32) ≤ ((100 : Int32) + zirem x 9) ∧ ((100 : Int32) + zirem x 9) ≤ (99 : Int32)) from o65_17 hx9))
  have e26 : f_LW_tryLay w D s (0 : Int32) ((10 : Int32) + zirem x 9) = some (-9999002, D) := t_tryLay_A hw (xt_set1 hw hF (show ¬ isSet (0 : Int32) ((10 : Int32) + zirem x 9) from o65_18 hx9))
  have e27 : f_LW_tryLay w D s (1 : Int32) ((100 : Int32) + zirem x 9) = some (-9999002, D) := t_tryLay_A hw (xt_set1 hw hF (show ¬ isSet (1 : Int32) ((100 : Int32) + zirem x 9) from o65_19 hx9))
  have e28 : f_LW_tryLay w D s ((2 : Int32) + zirem x 9) (5 : Int32) = some (-9999002, D) := t_tryLay_A hw (xt_set1 hw hF (show ¬ isSet ((2 : Int32) + zirem x 9) (5 : Int32) from o65_6 hx9))
  have e29 : f_LW_tryIn w D s (nI ns + zirem x 99) (9999 : Int32) (9 : Int32) = some (-9999001, D) := t_tryIn_I hw (qi_x hw hF (show ¬ (0 ≤ (nI ns + zirem x 99) ∧ (nI ns + zirem x 99) < F 1 7) from by rw [h1]; exact pos_ix9 bs hx9))
  have e30 : f_LW_tryIn w D s (0 : Int32) ((1001 : Int32) + zirem x 9) (0 : Int32) = some (-9999002, D) := t_tryIn_A hw (qi_n hw hF (show (0 ≤ (0 : Int32) ∧ (0 : Int32) < F 1 7) from ⟨by decide, by rw [h1]; exact z0s⟩) (show ¬ ((0 : Int32) ≤ ((1001 : Int32) + zirem x 9) ∧ ((1001 : Int32) + zirem x 9) ≤ (1000 : Int32)) from o65_20 hx9))
  have e31 : f_LW_tryIn w D s (0 : Int32) (0 : Int32) ((2 : Int32) + zirem x 9) = some (-9999002, D) := t_tryIn_A hw (qi_y hw hF (show (0 ≤ (0 : Int32) ∧ (0 : Int32) < F 1 7) from ⟨by decide, by rw [h1]; exact z0s⟩) (show ((0 : Int32) ≤ (0 : Int32) ∧ (0 : Int32) ≤ (1000 : Int32)) from ⟨by decide, by decide⟩) (show ¬ ((0 : Int32) ≤ ((2 : Int32) + zirem x 9) ∧ ((2 : Int32) + zirem x 9) ≤ (1 : Int32)) from o65_7 hx9))
  have e32 : f_LW_tryWhen w D s (nI nh + zirem x 99) (0 : Int32) = some (-9999001, D) := t_tryWhen_I hw (xt_heardIn hw hF (show ¬ ((0 ≤ (nI nh + zirem x 99) ∧ (nI nh + zirem x 99) < F 9 6) ∧ (0 ≤ (0 : Int32) ∧ (0 : Int32) < F 1 7)) from fun h => absurd h.1 (by rw [h9]; exact pos_ix9 bh hx9)))
  have e33 : f_LW_tryWhen w D s (0 : Int32) (nI ns + zirem x 99) = some (-9999001, D) := t_tryWhen_I hw (xt_heardIn hw hF (show ¬ ((0 ≤ (0 : Int32) ∧ (0 : Int32) < F 9 6) ∧ (0 ≤ (nI ns + zirem x 99) ∧ (nI ns + zirem x 99) < F 1 7)) from fun h => absurd h.2 (by rw [h1]; exact pos_ix9 bs hx9)))
  have e34 : f_LW_tryLeast w D s ((100 : Int32) + zirem x 9) = some (-9999002, D) := t_tryLeast_A hw (xt_leastSpeed hw hF (show ¬ ((1 : Int32) ≤ ((100 : Int32) + zirem x 9) ∧ ((100 : Int32) + zirem x 9) ≤ (99 : Int32)) from o65_17 hx9))
  have e35 : f_LW_tryKeep w D s ((2 : Int32) + zirem x 50) = some (-9999001, D) := t_tryKeep_I hw (xt_save hw hF (show ¬ ((0 : Int32) ≤ ((2 : Int32) + zirem x 50) ∧ ((2 : Int32) + zirem x 50) ≤ (1 : Int32)) from o65_7 hx50))
  have e36 : f_LW_tryBack w D s ((-1 : Int32) - zirem x 9) = some (-9999001, D) := t_tryBack_I hw (xt_restore hw hF (show ¬ ((0 : Int32) ≤ ((-1 : Int32) - zirem x 9) ∧ ((-1 : Int32) - zirem x 9) ≤ (1 : Int32)) from o65_8 hx9))
  have e37 : f_LW_doScript w D s (0 : Int32) (0 : Int64) = some (-9999002, D) := t_doScript_A hw (xt_runScript0 hw hF (show ¬ ((1 : Int32) ≤ (0 : Int32) ∧ (0 : Int32) ≤ (3 : Int32)) from by decide))
  have e38 : f_LW_doScript w D s (1 : Int32) ((100000 : Int64) + x.toInt64) = some (-9999002, D) := t_doScript_A hw (xt_runScript1 hw hF (show ¬ (100000 : Int64) + x.toInt64 < 0 from hl0) (show ¬ (100000 : Int64) + x.toInt64 < 100000 from hl1))
  have e39 : f_LW_doSimulate w D s (x.toInt64) ((61 : Int32) + zirem x 9) = some (-9999002, D) := t_doSimulate_A hw (xt_simulate hw hF (show ¬ ((1 : Int32) ≤ ((61 : Int32) + zirem x 9) ∧ ((61 : Int32) + zirem x 9) ≤ (60 : Int32)) from o65_9 hx9))
  have a0 : f_LW_tryAbout w D s 0 = some (nI ns, D) := t_tryAbout hw (by rw [← h1]; exact qa_0 hw hF)
  have a1 : f_LW_tryAbout w D s 1 = some (nI nh, D) := t_tryAbout hw (by rw [← h9]; exact qa_1 hw hF)
  have a2 : f_LW_tryAbout w D s 2 = some (nI nw, D) := t_tryAbout hw (by rw [← h16]; exact qa_2 hw hF)
  have a4 : f_LW_tryAbout w D s 4 = some (nI np, D) := t_tryAbout hw (by rw [← h7]; exact qa_4 hw hF)
  have hz0 : ¬ nI np = 0 := by rw [show (0 : Int32) = nI 0 from rfl, nI_eq (by omega) (by omega)]; omega
  have ep : f_LW_tryPulse w D s (0 : Int32) ((6 : Int32) + zirem x 9) = some (-9999002, D) := t_tryPulse_A hw (@qp_n w D s F hw hF p np 0 h6 hp h7 hnp hz _ (show ¬ ((0 : Int32) ≤ ((6 : Int32) + zirem x 9) ∧ ((6 : Int32) + zirem x 9) ≤ 5) from o65_q5 hx9))
  have es : nI ns < 4 ∨ f_LW_sirens w D s 0 0 1 0 1 = some (-9999003, D) := by
    by_cases h : ns < 4
    · exact Or.inl (nI_lt h (by decide))
    · exact Or.inr (t_sirens_S hw (xt_sirenF hw hF ⟨by decide, by decide⟩ ⟨by decide, by decide⟩ ⟨by decide, by decide⟩ ⟨by decide, by decide⟩ ⟨by decide, by decide⟩ (by rw [h1, show ns = 4 by omega])))
  have eh : nI nh < 4 ∨ f_LW_hearers w D s 0 0 0 0 = some (-9999003, D) := by
    by_cases h : nh < 4
    · exact Or.inl (nI_lt h (by decide))
    · exact Or.inr (t_hearers_S hw (xt_hearerF hw hF ⟨by decide, by decide⟩ ⟨by decide, by decide⟩ ⟨by decide, by decide⟩ ⟨by decide, by decide⟩ (by rw [h9, show nh = 4 by omega])))
  have ew : nI nw < 3 ∨ f_LW_walls w D s 1 0 = some (-9999003, D) := by
    by_cases h : nw < 3
    · exact Or.inl (nI_lt h (by decide))
    · exact Or.inr (t_walls_S hw (xt_wallF hw hF ⟨by decide, by decide⟩ (by rw [h16, show nw = 3 by omega])))
  have ev : nI nw = 0 ∨ f_LW_tryWall w D s (0 : Int32) ((2 : Int32) + zirem x 9) = some (-9999002, D) := by
    by_cases h : nw = 0
    · exact Or.inl (by rw [h]; rfl)
    · exact Or.inr (t_tryWall_A hw (qw_n hw hF (show 0 ≤ (0 : Int32) ∧ (0 : Int32) < F 16 2 from ⟨by decide, by rw [h16, show (0 : Int32) = nI 0 from rfl]; exact nI_lt (by omega) (by omega)⟩) (show ¬ ((0 : Int32) ≤ ((2 : Int32) + zirem x 9) ∧ ((2 : Int32) + zirem x 9) ≤ 1) from o65_q1 hx9)))
  unfold f_LW_refuses
  simp only [↓zjpE, ↓zletE, ↓zciE, ↓zcvE, ↓zchkE, ↓reduceIte, zciE, zcvE, nI_1, ↓cl_0, ↓cl_1, ↓cl_2, ↓cl_3, ↓cl_4, ↓cl_5, ↓cl_6, ↓cl_7, ↓cl_8, ↓cl_9, ↓cl_10, ↓cl_11, ↓cl_12, ↓cl_13, ↓cl_14, ↓cl_15, ↓cl_16, ↓zciX a0, ↓zciX a1, ↓zciX a2, ↓zciX a4, hpar, hz0, ↓zciX ep, ↓zciX e0, ↓zciX e1, ↓zciX e2, ↓zciX e3, ↓zciX e4, ↓zciX e5, ↓zciX e6, ↓zciX e7, ↓zciX e8, ↓zciX e9, ↓zciX e10, ↓zciX e11, ↓zciX e12, ↓zciX e13, ↓zciX e14, ↓zciX e15, ↓zciX e16, ↓zciX e17, ↓zciX e18, ↓zciX e19, ↓zciX e20, ↓zciX e21, ↓zciX e22, ↓zciX e23, ↓zciX e24, ↓zciX e25, ↓zciX e26, ↓zciX e27, ↓zciX e28, ↓zciX e29, ↓zciX e30, ↓zciX e31, ↓zciX e32, ↓zciX e33, ↓zciX e34, ↓zciX e35, ↓zciX e36, ↓zciX e37, ↓zciX e38, ↓zciX e39, d10]
  clear e0 e1 e2 e3 e4 e5 e6 e7 e8 e9 e10 e11 e12 e13 e14 e15 e16 e17 e18 e19 e20 e21 e22 e23 e24 e25 e26 e27 e28 e29 e30 e31 e32 e33 e34 e35 e36 e37 e38 e39
  rcases es with es | es <;> rcases eh with eh | eh <;> rcases ew with ew | ew <;> rcases ev with ev | ev
  all_goals
    by_cases ns4 : nI ns < 4 <;> by_cases nh4 : nI nh < 4 <;> by_cases nw3 : nI nw < 3 <;> by_cases nw0 : nI nw = 0
  all_goals
    first
      | (simp only [↓zjpE, ↓zletE, ↓zciE, ↓zcvE, ↓zchkE, ↓reduceIte, zciE, zcvE, nI_1, ↓cl_0, ↓cl_1, ↓cl_2, ↓cl_3, ↓cl_4, ↓cl_5, ↓cl_6, ↓cl_7, ↓cl_8, ↓cl_9, ↓cl_10, ↓cl_11, ↓cl_12, ↓cl_13, ↓cl_14, ↓cl_15, ↓cl_16, ns4, nh4, nw3, nw0, ↓zciX es, ↓zciX eh, ↓zciX ew, ↓zciX ev, or_true]; done)
      | contradiction
end P65
