/-! PURE: both answer the same. -/
def Tot (w : zW) (F : Fld) (g : zD → Nat → Option (Int32 × zD)) : Prop := ∃ v, ∀ (D : zD) (s : Nat), WL w s → HF D (s + 4) F → g D s = some (v, D)
section P67
variable {w : zW} {D : zD} {s T : Nat} {F : Fld} {L : List Fld} {V : Nat → Option Fld}
theorem to_about {x : Int32} : Tot w F (fun D s => f_LW_tryAbout w D s x) := by
  rcases c10 x with rfl | rfl | rfl | rfl | rfl | rfl | rfl | rfl | rfl | rfl | h
  · exact ⟨_, fun D s hw hF => t_tryAbout hw (qa_0 hw hF)⟩
  · exact ⟨_, fun D s hw hF => t_tryAbout hw (qa_1 hw hF)⟩
  · exact ⟨_, fun D s hw hF => t_tryAbout hw (qa_2 hw hF)⟩
  · exact ⟨_, fun D s hw hF => t_tryAbout hw (qa_3 hw hF)⟩
  · exact ⟨_, fun D s hw hF => t_tryAbout hw (qa_4 hw hF)⟩
  · exact ⟨_, fun D s hw hF => t_tryAbout hw (qa_5 hw hF)⟩
  · exact ⟨_, fun D s hw hF => t_tryAbout hw (qa_6 hw hF)⟩
  · exact ⟨_, fun D s hw hF => t_tryAbout hw (qa_7 hw hF)⟩
  · exact ⟨_, fun D s hw hF => t_tryAbout hw (qa_8 hw hF)⟩
  · exact ⟨_, fun D s hw hF => t_tryAbout hw (qa_9 hw hF)⟩
  · exact ⟨-9999002, fun D s hw hF => t_tryAbout_A hw (qa_n hw hF h)⟩
theorem to_siren {ns : Nat} (h1 : F 1 7 = nI ns) (hn : ns ≤ 4) (hS : IS F ns) {x y : Int32} : Tot w F (fun D s => f_LW_trySiren w D s x y) := by
  by_cases hx : 0 ≤ x ∧ x < F 1 7
  · have hx' := hx
    rw [h1] at hx'
    obtain ⟨i, hi, rfl⟩ := nI_has hx' (by omega)
    rcases c10 y with rfl | rfl | rfl | rfl | rfl | rfl | rfl | rfl | rfl | rfl | h
    · exact ⟨_, fun D s hw hF => t_trySiren hw (qs_0 hw hF h1 hn hS hi)⟩
    · exact ⟨_, fun D s hw hF => t_trySiren hw (qs_1 hw hF h1 hn hS hi)⟩
    · exact ⟨_, fun D s hw hF => t_trySiren hw (qs_2 hw hF h1 hn hS hi)⟩
    · exact ⟨_, fun D s hw hF => t_trySiren hw (qs_3 hw hF h1 hn hS hi)⟩
    · exact ⟨_, fun D s hw hF => t_trySiren hw (qs_4 hw hF h1 hn hS hi)⟩
    · exact ⟨_, fun D s hw hF => t_trySiren hw (qs_5 hw hF h1 hn hS hi)⟩
    · exact ⟨_, fun D s hw hF => t_trySiren hw (qs_6 hw hF h1 hn hS hi)⟩
    · exact ⟨_, fun D s hw hF => t_trySiren hw (qs_7 hw hF h1 hn hS hi)⟩
    · exact ⟨_, fun D s hw hF => t_trySiren hw (qs_8 hw hF h1 hn hS hi)⟩
    · exact ⟨_, fun D s hw hF => t_trySiren hw (qs_9 hw hF h1 hn hS hi)⟩
    · exact ⟨-9999002, fun D s hw hF => t_trySiren_A hw (qs_n hw hF hx h)⟩
  · exact ⟨-9999001, fun D s hw hF => t_trySiren_I hw (qs_x hw hF hx)⟩
theorem to_hearer {ns nh : Nat} (h1 : F 1 7 = nI ns) (hn : ns ≤ 4) (hS : IS F ns) (h9 : F 9 6 = nI nh) (hn9 : nh ≤ 4) {x y : Int32} : Tot w F (fun D s => f_LW_tryHearer w D s x y) := by
  by_cases hx : 0 ≤ x ∧ x < F 9 6
  · have hx' := hx
    rw [h9] at hx'
    obtain ⟨i, hi, rfl⟩ := nI_has hx' (by omega)
    rcases c6 y with rfl | rfl | rfl | rfl | rfl | rfl | h
    · exact ⟨_, fun D s hw hF => t_tryHearer hw (qh_0 hw hF h9 hn9 hi)⟩
    · exact ⟨_, fun D s hw hF => t_tryHearer hw (qh_1 hw hF h9 hn9 hi)⟩
    · exact ⟨_, fun D s hw hF => t_tryHearer hw (qh_2 hw hF h9 hn9 hi)⟩
    · exact ⟨_, fun D s hw hF => t_tryHearer hw (qh_3 hw hF h9 hn9 hi)⟩
    · exact ⟨_, fun D s hw hF => t_tryHearer hw (qh_4 hw hF h9 hn9 hi)⟩
    · exact ⟨_, fun D s hw hF => t_tryHearer hw (qh_5 hw hF h9 hn9 hi h1 hn hS)⟩
    · exact ⟨-9999002, fun D s hw hF => t_tryHearer_A hw (qh_n hw hF hx h)⟩
  · exact ⟨-9999001, fun D s hw hF => t_tryHearer_I hw (qh_x hw hF hx)⟩
theorem to_pulse {p np : Nat} (h6 : F 19 6 = nI p) (hp : p < 60) (h7 : F 19 7 = nI np) (hn : np ≤ 60) {x y : Int32} : Tot w F (fun D s => f_LW_tryPulse w D s x y) := by
  by_cases hx : 0 ≤ x ∧ x < F 19 7
  · have hx' := hx
    rw [h7] at hx'
    obtain ⟨i, hi, rfl⟩ := nI_has hx' (by omega)
    rcases c6 y with rfl | rfl | rfl | rfl | rfl | rfl | h
    · exact ⟨_, fun D s hw hF => t_tryPulse hw (qp_0 hw hF h6 hp h7 hn hi)⟩
    · exact ⟨_, fun D s hw hF => t_tryPulse hw (qp_1 hw hF h6 hp h7 hn hi)⟩
    · exact ⟨_, fun D s hw hF => t_tryPulse hw (qp_2 hw hF h6 hp h7 hn hi)⟩
    · exact ⟨_, fun D s hw hF => t_tryPulse hw (qp_3 hw hF h6 hp h7 hn hi)⟩
    · exact ⟨_, fun D s hw hF => t_tryPulse hw (qp_4 hw hF h6 hp h7 hn hi)⟩
    · exact ⟨_, fun D s hw hF => t_tryPulse hw (qp_5 hw hF h6 hp h7 hn hi)⟩
    · exact ⟨-9999002, fun D s hw hF => t_tryPulse_A hw (qp_n hw hF h6 hp h7 hn hi h)⟩
  · exact ⟨-9999001, fun D s hw hF => t_tryPulse_I hw (qp_x hw hF hx)⟩
theorem to_heard {ns nh : Nat} (h1 : F 1 7 = nI ns) (hn : ns ≤ 4) (h9 : F 9 6 = nI nh) (hn9 : nh ≤ 4) {x y z : Int32} : Tot w F (fun D s => f_LW_tryHeard w D s x y z) := by
  by_cases hx : (0 ≤ x ∧ x < F 9 6) ∧ (0 ≤ y ∧ y < F 1 7)
  · have hx' := hx
    rw [h9, h1] at hx'
    obtain ⟨i, hi, rfl⟩ := nI_has hx'.1 (by omega)
    obtain ⟨j, hj, rfl⟩ := nI_has hx'.2 (by omega)
    rcases c6 z with rfl | rfl | rfl | rfl | rfl | rfl | h
    · exact ⟨_, fun D s hw hF => t_tryHeard hw (qe_0 hw hF h9 hn9 h1 hn hi hj)⟩
    · exact ⟨_, fun D s hw hF => t_tryHeard hw (qe_1 hw hF h9 hn9 h1 hn hi hj)⟩
    · exact ⟨_, fun D s hw hF => t_tryHeard hw (qe_2 hw hF h9 hn9 h1 hn hi hj)⟩
    · exact ⟨_, fun D s hw hF => t_tryHeard hw (qe_3 hw hF h9 hn9 h1 hn hi hj)⟩
    · exact ⟨_, fun D s hw hF => t_tryHeard hw (qe_4 hw hF h9 hn9 h1 hn hi hj)⟩
    · exact ⟨_, fun D s hw hF => t_tryHeard hw (qe_5 hw hF h9 hn9 h1 hn hi hj)⟩
    · exact ⟨-9999002, fun D s hw hF => t_tryHeard_A hw (qe_n hw hF h9 hn9 h1 hn hi hj h)⟩
  · exact ⟨-9999001, fun D s hw hF => t_tryHeard_I hw (qe_x hw hF hx)⟩
theorem FT_S (h : FT F T) {n : Nat} (hn : F 1 7 = nI n) (hn4 : n ≤ 4) : IS F n := by
  obtain ⟨t, ht, hS⟩ := h
  exact FS_S hS hn hn4
theorem alikeL (hF : FT F T) (hH : Has F) (h : Tw w D s (F, L, V)) {x2 : Int32} : ∀ m k, k + m = 60 → ∀ fuel, m < fuel → zlp (fun (_ : Int32) (_ : Int32) (_ : zD) => none) (S_LW_alike_S1 w s (s + 634) x2) fuel 1 (nI k) D = some (1, D) := by
  obtain ⟨ns, nh, h1, h2, h3, h4, h5, h6⟩ := hH
  obtain ⟨nw, np, p, b1, b2, b3, b4, b5, b6⟩ := FT_u hF
  have hS := FT_S hF h1 h3
  obtain ⟨w1, w2, ⟨x1, -⟩, ⟨x2', -⟩⟩ := h
  have x1 : HF D (s + 4) F := x1
  have x2' : HF D (s + 634 + 4) F := x2'
  intro m
  induction m with
  | zero =>
    intro k hk fuel hf
    have : k = 60 := by omega
    subst this
    match fuel, hf with
    | f + 1, _ =>
      show S_LW_alike_S1 w s (s + 634) x2 _ 1 (nI 60) D = _
      have c60 : (60 : Int32) ≤ nI 60 := by decide
      unfold S_LW_alike_S1
      simp only [↓zjpE, ↓zletE, ↓zciE, ↓zcvE, ↓zchkE, ↓reduceIte, zciE, zcvE, nI_1, c60, or_true]
  | succ m ih =>
    intro k hk fuel hf
    match fuel, hf with
    | f + 1, hf =>
      show S_LW_alike_S1 w s (s + 634) x2 (zlp _ _ f) 1 (nI k) D = _
      have c60 : ¬ (60 : Int32) ≤ nI k := nI_ge (show k < 60 by omega) (by decide)
      obtain ⟨v1, e1⟩ := to_pulse (w := w) b5 b6 b3 b4 (x := nI k) (y := zirem x2 6)
      obtain ⟨v2, e2⟩ := to_about (w := w) (F := F) (x := nI k)
      obtain ⟨v3, e3⟩ := to_siren (w := w) h1 h3 hS (x := zirem x2 4) (y := nI k)
      obtain ⟨v4, e4⟩ := to_hearer (w := w) h1 h3 hS h4 h6 (x := zirem (x2 / 4) 4) (y := nI k)
      obtain ⟨v5, e5⟩ := to_heard (w := w) h1 h3 h4 h6 (x := zirem (x2 / 4) 4) (y := zirem x2 4) (z := nI k)
      have hstep : ∀ j, S_LW_alike_S1 w s (s + 634) x2 j 1 (nI k) D = j 1 (nI (k + 1)) D := fun j => by
        unfold S_LW_alike_S1
        by_cases c9 : (9 : Int32) < nI k
        · simp only [↓zjpE, ↓zletE, ↓zciE, ↓zcvE, ↓zchkE, ↓reduceIte, zciE, zcvE, nI_1, ↓cl_0, ↓cl_1, ↓cl_2, ↓cl_3, ↓cl_4, ↓cl_5, ↓cl_6, ↓cl_7, ↓cl_8, ↓cl_9, ↓cl_10, ↓cl_11, ↓cl_12, ↓cl_13, ↓cl_14, ↓cl_15, ↓cl_16, d10, c60, c9, ↓zciX (e1 D s w1 x1), ↓zciX (e1 D (s + 634) w2 x2')]
        · simp only [↓zjpE, ↓zletE, ↓zciE, ↓zcvE, ↓zchkE, ↓reduceIte, zciE, zcvE, nI_1, ↓cl_0, ↓cl_1, ↓cl_2, ↓cl_3, ↓cl_4, ↓cl_5, ↓cl_6, ↓cl_7, ↓cl_8, ↓cl_9, ↓cl_10, ↓cl_11, ↓cl_12, ↓cl_13, ↓cl_14, ↓cl_15, ↓cl_16, d10, c60, c9, ↓zciX (e1 D s w1 x1), ↓zciX (e1 D (s + 634) w2 x2'), ↓zciX (e2 D s w1 x1), ↓zciX (e2 D (s + 634) w2 x2'), ↓zciX (e3 D s w1 x1), ↓zciX (e3 D (s + 634) w2 x2'), ↓zciX (e4 D s w1 x1), ↓zciX (e4 D (s + 634) w2 x2'), ↓zciX (e5 D s w1 x1), ↓zciX (e5 D (s + 634) w2 x2')]
      rw [hstep]
      exact ih (k + 1) (by omega) f (by omega)
theorem l_alike (hF : FT F T) (hH : Has F) (hT : T + 1000 < 1000000) {n : Nat} (hn : n < 2 ^ 31) (h : Tw w D s (F, L, V)) : ∃ D', f_LW_alike w D s (s + 634) (nI n) = some (1, D') ∧ Tw w D' s (F, L, V) ∧ ∀ q, q < s → D' q = D q := by
  obtain ⟨r, hr⟩ := t_sim hF hT (x := (nI n).toInt64) (m := n % 30 + 1) (by omega) (by omega)
  obtain ⟨t, ht, hS⟩ := id hF
  obtain ⟨ns, nh, h1, h2, h3, h4, h5, h6⟩ := id hH
  obtain ⟨q, hq1, -, -, hq⟩ := t_quiet hS (by omega) h1 h3
  obtain ⟨D1, D2, a1, a2, a3, a4⟩ := two (v := r) (fun D s => f_LW_doSimulate w D s (nI n).toInt64 (nI (n % 30 + 1))) (fun D s hw hA => by
    obtain ⟨D', b1, b2, b3⟩ := hr w D s L V hw hA
    exact ⟨D', t_doSimulate hw b1, b2, b3⟩) h
  obtain ⟨D3, D4, b1, b2, b3, b4⟩ := two (v := nI q) (fun D s => f_SF_quietIn w D s) (fun D s hw hA => hq w D s L V hw hA) a3
  have e30 : (1 : Int32) + zirem (nI n) (30 : Int32) = nI (n % 30 + 1) := by rw [rl30 hn, one_nI]
  refine ⟨D4, ?_, b3, fun q hq => (b4 q hq).trans (a4 q hq)⟩
  rw [u_LW_alike]
  simp only [↓zjpE, e30, ↓zciX a1, ↓zciX a2, ↓zciX b1, ↓zciX b2, ↓WSo h.1, ↓WSo h.2.1, ↓reduceIte]
  exact alikeL hF hH b3 60 0 (by omega) 62 (by omega)
end P67
