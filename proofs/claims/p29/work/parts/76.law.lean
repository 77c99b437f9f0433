/-! PURE: the law. -/
theorem and31 (x : Int32) : ∃ n, n < 2 ^ 31 ∧ x &&& 2147483647 = nI n := by
  refine ⟨(x &&& 2147483647).toBitVec.toNat, ?_, ?_⟩
  · show (x.toBitVec &&& (2147483647#32)).toNat < 2 ^ 31
    rw [BitVec.toNat_and]
    exact Nat.and_lt_two_pow _ (by decide)
  · apply Int32.toBitVec_inj.mp
    show _ = BitVec.ofNat 32 (x &&& 2147483647).toBitVec.toNat
    rw [BitVec.ofNat_toNat, BitVec.setWidth_eq]
section P76
variable {w : zW} {D : zD} {s b L : Nat}
theorem c_cell (hb : w.1 b = some (.inl (4, L))) (hL : L ≤ 260) {k : Nat} (hk : k ≤ 1000) : ∃ n, n < 2 ^ 31 ∧ f_LW_cell w D b (nI k) = some (nI n, D) := by
  unfold f_LW_cell
  simp only [↓zjpE, zlen_of hb]
  by_cases h : L ≤ k
  · rw [if_pos (nI_le h (by omega))]
    obtain ⟨n, hn, e⟩ := and31 ((15520039 : Int32) * (nI k + (3 : Int32)) + (11971 : Int32))
    exact ⟨n, hn, by rw [e]⟩
  · rw [if_neg (nI_ge (show k < L by omega) (by omega)), zald_of hb (by omega) (by omega)]
    obtain ⟨n, hn, e⟩ := and31 (D b k)
    exact ⟨n, hn, by rw [e]⟩
/-- what each does, both do, and between them all that is refused is refused -/
theorem w_act {T n : Nat} (hn : n < 2 ^ 31) (hT : T + 200 < 1000000) {A : OS} (hA : LI A T) (h : Tw w D s A) : ∃ r A' D1 D2, LI A' (T + 15) ∧ f_LW_act w D s (nI n) = some (r, D1) ∧ f_LW_refuses w D1 (s + 634) (nI (n % 100000)) = some (1, D1) ∧ f_LW_act w D1 (s + 634) (nI n) = some (r, D2) ∧ f_LW_refuses w D2 (s + 634) (nI (n % 1000)) = some (1, D2) ∧ Tw w D2 s A' := by
  obtain ⟨r, A', hA', hd⟩ := l_act (w := w) hn hT hA
  obtain ⟨h1, h2, h3, h4⟩ := h
  obtain ⟨D1, a1, a2, a3⟩ := hd D s h1 h3
  have h4' := At_fr h4 (fun q h _ => a3 q (Or.inr h))
  obtain ⟨D2, b1, b2, b3⟩ := hd D1 (s + 634) h2 h4'
  exact ⟨r, A', D1, D2, hA', a1, l_refuses hA h2 h4' (by omega), b1, l_refuses hA' h2 b2 (by omega), ⟨h1, h2, At_fr a2 (fun q _ h => b3 q (Or.inl h)), b2⟩⟩
theorem law_loop (hb : w.1 b = some (.inl (4, L))) (hL : L ≤ 260) {turns : Nat} (ht : turns ≤ 30) : ∀ m k (A : OS) (D : zD), k + m = turns → LI A (15 * k) → Tw w D s A → ∀ fuel, m < fuel → zlp (fun (_ : Nat) (_ : Nat) (_ : Int32) (_ : Int32) (_ : Int32) (_ : zD) => none) (S_LW_law_S1 w b) fuel s (s + 634) (nI turns) 1 (nI k) D = some 1 := by
  intro m
  induction m with
  | zero =>
    intro k A D hk _ _ fuel hf
    have hk : k = turns := hk
    subst hk
    have hle : nI k ≤ nI k := le_refl32
    match fuel, hf with
    | f + 1, _ =>
      show S_LW_law_S1 w b _ s (s + 634) (nI k) 1 (nI k) D = _
      unfold S_LW_law_S1
      simp only [↓zjpE, ↓zletE, ↓zciE, ↓zcvE, ↓zchkE, ↓reduceIte, zciE, zcvE, nI_1, eq_true hle, or_true]
  | succ m ih =>
    intro k A D hk hA h fuel hf
    have hle : ¬ nI turns ≤ nI k := nI_ge (show k < turns by omega) (by omega)
    obtain ⟨n, hn, ec⟩ := c_cell (D := D) hb hL (k := k + 3) (by omega)
    have e3 : (3 : Int32) + nI k = nI (k + 3) := by rw [show (3 : Int32) = nI 3 from rfl, nI_add, Nat.add_comm]
    obtain ⟨r, A', D1, D2, hA', a1, a2, a3, a4, hTw⟩ := w_act hn (by omega) hA h
    obtain ⟨F, R, V⟩ := A'
    have hF : FT F (15 * k + 15) := hA'.1.1
    have hH : Has F := hA'.2.1
    obtain ⟨D3, b1, b2, -⟩ := l_alike hF hH (by omega) (n := n % 5000) (by omega) hTw
    have hh : Dn w (fun D s => f_LW_holds w D s (nI (n / 3))) (F, R, V) (F, R, V) 1 := lw_holds hF hH (by omega) (by omega)
    have r1 : zirem (nI n) (100000 : Int32) = nI (n % 100000) := rl100000 hn
    have r2 : zirem (nI n) (1000 : Int32) = nI (n % 1000) := rl1000 hn
    have r3 : zirem (nI n) (5000 : Int32) = nI (n % 5000) := rl5000 hn
    have r4 : nI n / (3 : Int32) = nI (n / 3) := dl3 hn
    have r5 : nI n / (7 : Int32) = nI (n / 7) := dl7 hn
    have r6 : nI n / (11 : Int32) = nI (n / 11) := dl11 hn
    obtain ⟨D4, hD4, hT4⟩ : ∃ D4, (zirem (nI k) (2 : Int32) = 0 → f_LW_holds w D3 s (nI (n / 3)) = some (1, D4)) ∧ (¬ zirem (nI k) (2 : Int32) = 0 → f_LW_holds w D3 (s + 634) (nI (n / 3)) = some (1, D4)) ∧ Tw w D4 s (F, R, V) := by
      by_cases hp : zirem (nI k) (2 : Int32) = 0
      · obtain ⟨D4, c1, c2, -⟩ := oneL (fun D s => f_LW_holds w D s (nI (n / 3))) hh b2
        exact ⟨D4, fun _ => c1, fun h => absurd hp h, c2⟩
      · obtain ⟨D4, c1, c2, -⟩ := oneR (fun D s => f_LW_holds w D s (nI (n / 3))) hh b2
        exact ⟨D4, fun h => absurd h hp, fun _ => c1, c2⟩
    obtain ⟨hD4', hT4⟩ := hT4
    obtain ⟨D5, d, g1, g2, -⟩ := l_goes hF hH (by omega) (n := n / 7) (by omega) hT4
    obtain ⟨D6, d6, hD6, hT6⟩ : ∃ D6 d6, (0 < zirem (nI k) (3 : Int32) → D6 = D5) ∧ (¬ 0 < zirem (nI k) (3 : Int32) → f_LW_least w D5 s (s + 634) (nI (n / 11)) = some (1, D6)) ∧ Tw w D6 s (F, R.drop d6, V) := by
      by_cases hp : 0 < zirem (nI k) (3 : Int32)
      · exact ⟨D5, d, fun _ => rfl, fun h => absurd hp h, g2⟩
      · obtain ⟨D6, d6, c1, c2, -⟩ := l_least hF (by omega) (n := n / 11) (by omega) g2
        rw [List.drop_drop] at c2
        exact ⟨D6, _, fun h => absurd h hp, fun _ => c1, c2⟩
    obtain ⟨hD6', hT6⟩ := hT6
    have hstep : ∀ j, S_LW_law_S1 w b j s (s + 634) (nI turns) 1 (nI k) D = j s (s + 634) (nI turns) 1 (nI (k + 1)) D6 := fun j => by
      unfold S_LW_law_S1
      by_cases hp : zirem (nI k) (2 : Int32) = 0
      · by_cases hq : 0 < zirem (nI k) (3 : Int32)
        · have e6 := hD6 hq
          subst e6
          simp only [↓zjpE, ↓zletE, ↓zciE, ↓zcvE, ↓zchkE, ↓reduceIte, zciE, zcvE, nI_1, d10, hle, e3, ↓zciX ec, ↓zciX a1, r1, ↓zciX a2, ↓zciX a3, r2, ↓zciX a4, r3, ↓zciX b1, r4, eq_true hp, ↓zciX (hD4 hp), r5, ↓zciX g1, eq_true hq]
        · simp only [↓zjpE, ↓zletE, ↓zciE, ↓zcvE, ↓zchkE, ↓reduceIte, zciE, zcvE, nI_1, d10, hle, e3, ↓zciX ec, ↓zciX a1, r1, ↓zciX a2, ↓zciX a3, r2, ↓zciX a4, r3, ↓zciX b1, r4, eq_true hp, ↓zciX (hD4 hp), r5, ↓zciX g1, hq, r6, ↓zciX (hD6' hq)]
      · by_cases hq : 0 < zirem (nI k) (3 : Int32)
        · have e6 := hD6 hq
          subst e6
          simp only [↓zjpE, ↓zletE, ↓zciE, ↓zcvE, ↓zchkE, ↓reduceIte, zciE, zcvE, nI_1, d10, hle, e3, ↓zciX ec, ↓zciX a1, r1, ↓zciX a2, ↓zciX a3, r2, ↓zciX a4, r3, ↓zciX b1, r4, hp, ↓zciX (hD4' hp), r5, ↓zciX g1, eq_true hq]
        · simp only [↓zjpE, ↓zletE, ↓zciE, ↓zcvE, ↓zchkE, ↓reduceIte, zciE, zcvE, nI_1, d10, hle, e3, ↓zciX ec, ↓zciX a1, r1, ↓zciX a2, ↓zciX a3, r2, ↓zciX a4, r3, ↓zciX b1, r4, hp, ↓zciX (hD4' hp), r5, ↓zciX g1, hq, r6, ↓zciX (hD6' hq)]
    match fuel, hf with
    | f + 1, hf =>
      show S_LW_law_S1 w b _ s (s + 634) (nI turns) 1 (nI k) D = _
      rw [hstep]
      exact ih (k + 1) (F, R.drop d6, V) D6 (by omega) (LI_drop (by rw [show 15 * (k + 1) = 15 * k + 15 by omega]; exact hA') d6) hT6 f (by omega)
/-- the law's own words -/
theorem law_ok {z : zT} {D : zD} (hs : z.1 = s) (hb : b < s) (hp : z.2.2.2 < s) (hsc : z.2.1 b = some (.inl (4, L))) (hL : L ≤ 260) (hpl : z.2.1 z.2.2.2 = some (.inl (5, 4)) ∧ z.2.2.1 z.2.2.2 0 = 1 ∧ z.2.2.1 z.2.2.2 1 = 100000 ∧ z.2.2.1 z.2.2.2 2 = 10000000000 ∧ z.2.2.1 z.2.2.2 3 = 1000000000000000) : f_LW_law z D b = some 1 := by
  obtain ⟨z', D', e, h0, old⟩ := both_made (β := Int32) (D := D) hs hp hpl
  have hb' : z'.2.1 b = some (.inl (4, L)) := by rw [old b hb]; exact hsc
  obtain ⟨n0, hn0, c0⟩ := c_cell (D := D') hb' hL (k := 0) (by omega)
  obtain ⟨x, hx, c1⟩ := c_cell (D := D') hb' hL (k := 1) (by omega)
  obtain ⟨y, hy, c2⟩ := c_cell (D := D') hb' hL (k := 2) (by omega)
  have c0 : f_LW_cell z'.2 D' b (0 : Int32) = some (nI n0, D') := c0
  have c1 : f_LW_cell z'.2 D' b (1 : Int32) = some (nI x, D') := c1
  have c2 : f_LW_cell z'.2 D' b (2 : Int32) = some (nI y, D') := c2
  have hv := is_new (j1 := x % 61) (j2 := x / 61 % 61) (j3 := x / 3721 % 5) (j4 := x / 18605 % 7) (j5 := x / 130235 % 20) (by omega) (by omega) (by omega) (by omega) (by omega)
  have hu := hv_new (j1 := y % 81) (j2 := y / 81 % 81) (j3 := y / 6561 % 5) (j4 := y / 32805 % 5) (by omega) (by omega) (by omega) (by omega)
  have q17 : BkF 1 7 = nI 0 := by decide +kernel
  have q96 : BkF 9 6 = nI 0 := by decide +kernel
  obtain ⟨v1, v2, v3, v4, v5, v6, v7, v8, v9, v10, -⟩ := id hv
  obtain ⟨u1, u2, u3, u4, u5, u6, u7, u8⟩ := id hu
  have hS1 : FS (sirF BkF 0 (nI (x % 61) - 30) (nI (x / 61 % 61) - 30) (1 + nI (x / 3721 % 5)) (nI (x / 18605 % 7) - 3) (1 + nI (x / 130235 % 20))) 0 0 True := FS_sir BkF_FS q17 (by omega) hv
  have s17 : sirF BkF 0 (nI (x % 61) - 30) (nI (x / 61 % 61) - 30) (1 + nI (x / 3721 % 5)) (nI (x / 18605 % 7) - 3) (1 + nI (x / 130235 % 20)) 1 7 = nI 1 := by unfold sirF; exact upd2_s
  have s96 : sirF BkF 0 (nI (x % 61) - 30) (nI (x / 61 % 61) - 30) (1 + nI (x / 3721 % 5)) (nI (x / 18605 % 7) - 3) (1 + nI (x / 130235 % 20)) 9 6 = nI 0 := by
    unfold sirF; simp (disch := omega) only [upd2_o]; exact q96
  obtain ⟨D1, D2, a1, a2, a3, -⟩ := two (v := 0) (fun D s => f_LW_sirens z'.2 D s (nI (x % 61) - 30) (nI (x / 61 % 61) - 30) (1 + nI (x / 3721 % 5)) (nI (x / 18605 % 7) - 3) (1 + nI (x / 130235 % 20))) (fun D s hw hA => by
    obtain ⟨D', p1, p2, p3⟩ := a_siren hw hA BkF_FT ⟨v1, v2⟩ ⟨v3, v4⟩ ⟨v5, v6⟩ ⟨v7, v8⟩ ⟨v9, v10⟩ q17 (by omega)
    exact ⟨D', t_sirens hw p1, p2, p3⟩) h0
  generalize hG : sirF BkF 0 (nI (x % 61) - 30) (nI (x / 61 % 61) - 30) (1 + nI (x / 3721 % 5)) (nI (x / 18605 % 7) - 3) (1 + nI (x / 130235 % 20)) = G at *
  have a3 : Tw z'.2 D2 s (G, [BkF], fun _ => none) := a3
  have hS2 : FS (heaF G 0 (nI (y % 81) - 40) (nI (y / 81 % 81) - 40) (nI (y / 6561 % 5) - 2) (nI (y / 32805 % 5) - 2)) 0 0 True := FS_hea hS1 s96 (by omega) hu
  have t17 : heaF G 0 (nI (y % 81) - 40) (nI (y / 81 % 81) - 40) (nI (y / 6561 % 5) - 2) (nI (y / 32805 % 5) - 2) 1 7 = nI 1 := by
    unfold heaF; simp (disch := omega) only [upd2_o]; exact s17
  have t96 : heaF G 0 (nI (y % 81) - 40) (nI (y / 81 % 81) - 40) (nI (y / 6561 % 5) - 2) (nI (y / 32805 % 5) - 2) 9 6 = nI 1 := by unfold heaF; exact upd2_s
  obtain ⟨D3, D4, b1, b2, b3, -⟩ := two (v := 0) (fun D s => f_LW_hearers z'.2 D s (nI (y % 81) - 40) (nI (y / 81 % 81) - 40) (nI (y / 6561 % 5) - 2) (nI (y / 32805 % 5) - 2)) (fun D s hw hA => by
    obtain ⟨D', p1, p2, p3⟩ := a_hearer hw hA (show FT G 0 from ⟨0, Nat.le_refl 0, hS1⟩) ⟨u1, u2⟩ ⟨u3, u4⟩ ⟨u5, u6⟩ ⟨u7, u8⟩ s96 (by omega)
    exact ⟨D', t_hearers hw p1, p2, p3⟩) a3
  generalize hH : heaF G 0 (nI (y % 81) - 40) (nI (y / 81 % 81) - 40) (nI (y / 6561 % 5) - 2) (nI (y / 32805 % 5) - 2) = H at *
  have b3 : Tw z'.2 D4 s (H, [BkF, G], fun _ => none) := b3
  have hLI : LI (H, [BkF, G], fun _ => none) 0 := by
    refine ⟨⟨⟨0, Nat.le_refl 0, hS2⟩, fun f hf => ?_, fun i f hf => (nomatch hf)⟩, ⟨1, 1, t17, by omega, by omega, t96, by omega, by omega⟩, ⟨[BkF, G], [], rfl, fun f hf => (nomatch hf), Or.inr ⟨H, [], rfl, ?_⟩⟩, fun i f hf => (nomatch hf)⟩
    · have hf : f ∈ [BkF, G] := hf
      rcases List.mem_cons.1 hf with rfl | hf
      · exact BkF_FT
      · rw [List.mem_singleton.1 hf]; exact ⟨0, Nat.le_refl 0, hS1⟩
    · rw [(FS_time hS2).1]; decide
  have e12 : (12 : Int32) + zirem (nI n0) (19 : Int32) = nI (n0 % 19 + 12) := by rw [rl19 hn0, show (12 : Int32) = nI 12 from rfl, nI_add, Nat.add_comm]
  rw [u_LW_law]
  refine (e (fun q1 q6 z9 D10 => _)).trans ?_
  simp only [↓zjpE, ↓zletE, ↓reduceIte, ↓zciX c0, ↓zciX c1, ↓zciX c2, e12, rl61 hx, dl61 hx, rl61 (show x / 61 < 2 ^ 31 by omega), dl3721 hx, rl5 (show x / 3721 < 2 ^ 31 by omega), dl18605 hx, rl7 (show x / 18605 < 2 ^ 31 by omega), dl130235 hx, rl20 (show x / 130235 < 2 ^ 31 by omega), rl81 hy, dl81 hy, rl81 (show y / 81 < 2 ^ 31 by omega), dl6561 hy, rl5 (show y / 6561 < 2 ^ 31 by omega), dl32805 hy, rl5 (show y / 32805 < 2 ^ 31 by omega), ↓zciX a1, ↓zciX a2, ↓zciX b1, ↓zciX b2]
  exact law_loop hb' hL (show n0 % 19 + 12 ≤ 30 by omega) (n0 % 19 + 12) 0 _ D4 (by omega) hLI b3 32 (by omega)
end P76
