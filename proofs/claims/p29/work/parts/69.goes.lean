/-! PURE: what was told comes to pass. -/
def XO (F : Fld) : Nat → List Fld
  | 0 => []
  | n + 1 => XO F n ++ [offF F n]
theorem XO_len {F : Fld} : ∀ n, (XO F n).length = n
  | 0 => rfl
  | n + 1 => by
    show (XO F n ++ [offF F n]).length = n + 1
    rw [List.length_append, XO_len n]; rfl
section P69
variable {w : zW} {D : zD} {s T : Nat} {F G : Fld} {L X : List Fld} {V : Nat → Option Fld} {ns nh : Nat}
theorem FT_off (h : FT F T) {k : Nat} (hk : k ≤ 4) : FT (offF F k) T := by
  obtain ⟨t, ht, hS⟩ := h
  exact ⟨t, ht, FS_offN hS k hk⟩
theorem itk_aft {t : Nat} (hF : FS F t t True) (h1 : F 1 7 = nI ns) (hn : ns ≤ 4) {j : Nat} (hj : j < ns) : ∀ n, n ≤ 1000 → t + n < 1000000 → itk F n 7 j = aft F j n := by
  have hI := FS_S hF h1 hn j hj
  intro n
  induction n with
  | zero => intro _ _; exact (aft_0 hI).symm
  | succ n ih =>
    intro hn' ht
    have hK := itk_Kp hF n (by omega)
    have hS := (FS_on (itk_FS hF n (by omega)) (by omega)).2.2.2.1 ns ((hK 1 7 (by unfold Kc; omega)).trans h1) hn j hj
    show tk (itk F n) 7 j = _
    rw [hS]
    unfold stp
    rw [hK 8 j (by unfold Kc; omega), hK 4 j (by unfold Kc; omega), hK 5 j (by unfold Kc; omega), ih (by omega) (by omega)]
    by_cases h8 : F 8 j = 0
    · rw [if_pos h8]; unfold aft; rw [if_pos h8, if_pos h8]
    · rw [if_neg h8]; exact aft_s hI h8 (by omega)
theorem goes2L (hF : FT F T) (hn : ns ≤ 4) {q : Nat} (hq : ∀ L, Dn w (fun D s => f_SF_quietIn w D s) (F, L, V) (F, L, V) (nI q)) {x2 : Int32} : ∀ m k d D, k + m = ns → Tw w D s (offF F m, L.drop d ++ XO F m, V) → ∀ fuel, m < fuel → ∃ D' d', zlp (fun (_ : Int32) (_ : Int32) (_ : Int32) (_ : Int32) (_ : Int32) (_ : zD) => none) (S_LW_goes_S2 w s (s + 634) x2) fuel (F 26 6 + F 26 7) 1 (nI q) (nI ns) (nI k) D = some (1, D') ∧ Tw w D' s (F, L.drop d', V) ∧ ∀ q, q < s → D' q = D q := by
  intro m
  induction m with
  | zero =>
    intro k d D hk h fuel hf
    have hk : k = ns := hk
    subst hk
    have h : Tw w D s (F, L.drop d ++ [], V) := h
    rw [List.append_nil] at h
    have e6 : f_LW_tryAbout w D s 6 = some (F 26 6, D) := t_tryAbout h.1 (qa_6 h.1 (Tw_HF h))
    have e7 : f_LW_tryAbout w D s 7 = some (F 26 7, D) := t_tryAbout h.1 (qa_7 h.1 (Tw_HF h))
    obtain ⟨D1, a1, a2, a3⟩ := oneL (v := nI q) (fun D s => f_SF_quietIn w D s) (hq (L.drop d)) h
    have hle : nI k ≤ nI k := le_refl32
    match fuel, hf with
    | f + 1, _ =>
      refine ⟨D1, d, ?_, a2, a3⟩
      show S_LW_goes_S2 w s (s + 634) x2 _ (F 26 6 + F 26 7) 1 (nI q) (nI k) (nI k) D = _
      unfold S_LW_goes_S2
      simp only [↓zjpE, ↓zletE, ↓zciE, ↓zcvE, ↓zchkE, ↓reduceIte, zciE, zcvE, nI_1, ↓cl_0, ↓cl_1, ↓cl_2, ↓cl_3, ↓cl_4, ↓cl_5, ↓cl_6, ↓cl_7, ↓cl_8, ↓cl_9, ↓cl_10, ↓cl_11, ↓cl_12, ↓cl_13, ↓cl_14, ↓cl_15, ↓cl_16, d10, hle, ↓zciX e6, ↓zciX e7, ↓WSo h.1, ↓zciX a1, or_true]
  | succ m ih =>
    intro k d D hk h fuel hf
    have hle : ¬ nI ns ≤ nI k := nI_ge (show k < ns by omega) (by omega)
    have h : Tw w D s (offF F (m + 1), L.drop d ++ (XO F m ++ [offF F m]), V) := h
    rw [← List.append_assoc] at h
    obtain ⟨D1, D2, c1, c2, c3, c4, c5⟩ := w_undo (FT_NZ (FT_off hF (show m ≤ 4 by omega))) (FT_NZ (FT_off hF (show m + 1 ≤ 4 by omega))) h
    obtain ⟨t1, t2, t3⟩ := nI_pv (n := (L.drop d ++ XO F m).length) (by omega)
    have hstep : ∀ j, S_LW_goes_S2 w s (s + 634) x2 j (F 26 6 + F 26 7) 1 (nI q) (nI ns) (nI k) D = j (F 26 6 + F 26 7) 1 (nI q) (nI ns) (nI (k + 1)) D2 := fun j => by
      unfold S_LW_goes_S2
      simp only [↓zjpE, ↓zletE, ↓zciE, ↓zcvE, ↓zchkE, ↓reduceIte, zciE, zcvE, nI_1, ↓cl_0, ↓cl_1, ↓cl_2, ↓cl_3, ↓cl_4, ↓cl_5, ↓cl_6, ↓cl_7, ↓cl_8, ↓cl_9, ↓cl_10, ↓cl_11, ↓cl_12, ↓cl_13, ↓cl_14, ↓cl_15, ↓cl_16, d10, hle, ↓zciX c1, ↓zciX c2, ↓zciX (thr0 t1 t2 t3)]
    match fuel, hf with
    | f + 1, hf =>
      obtain ⟨D', d', y1, y2, y3⟩ := ih (k + 1) d D2 (by omega) c4 f (by omega)
      refine ⟨D', d', ?_, y2, fun q hq => (y3 q hq).trans (c5 q hq)⟩
      show S_LW_goes_S2 w s (s + 634) x2 _ (F 26 6 + F 26 7) 1 (nI q) (nI ns) (nI k) D = _
      rw [hstep]; exact y1
theorem goes1B (hT : T + 400 < 1000000) (hF : FT F T) (hn : ns ≤ 4) {q d : Nat} (hq9 : q ≤ 99) (hq1 : ∀ i, i < q → 0 < itk (offF F ns) i 19 7) (hq0 : itk (offF F ns) q 19 7 = 0) {x2 : Int32} (h : Tw w D s (offF F ns, L.drop d ++ XO F ns, V)) : ∃ D2 d', (∀ j, S_LW_goes_S1 w s (s + 634) x2 j (F 26 6 + F 26 7) 1 (nI q) (nI ns) (nI ns) D = zlp (fun (_ : Int32) (_ : Int32) (_ : Int32) (_ : Int32) (_ : Int32) (_ : zD) => none) (S_LW_goes_S2 w s (s + 634) x2) 6 (F 26 6 + F 26 7) 1 (nI q) (nI ns) 0 D2) ∧ Tw w D2 s (offF F ns, L.drop d' ++ XO F ns, V) ∧ ∀ q, q < s → D2 q = D q := by
  have hle : nI ns ≤ nI ns := le_refl32
  have h99 : ¬ (99 : Int32) < nI q := nI_nlt hq9 (by decide)
  have hO := FT_off hF hn
  have hX : (XO F ns).length + 3 < 14 := by rw [XO_len]; omega
  obtain ⟨D3, D4, d2, b1, b2, b3, b4, b5⟩ := l_go hT hO (n := q) (by omega) hX h
  have e4 : f_LW_tryAbout w D3 s 4 = some (0, D3) := t_tryAbout h.1 (by rw [← hq0]; exact qa_4 h.1 b2)
  by_cases h1 : q ≤ 1
  · have c1 : nI q ≤ (1 : Int32) := nI_le h1 (by decide)
    refine ⟨D4, d2, fun j => ?_, b4, b5⟩
    unfold S_LW_goes_S1
    simp only [↓zjpE, ↓zletE, ↓zciE, ↓zcvE, ↓zchkE, ↓reduceIte, zciE, zcvE, nI_1, ↓cl_0, ↓cl_1, ↓cl_2, ↓cl_3, ↓cl_4, ↓cl_5, ↓cl_6, ↓cl_7, ↓cl_8, ↓cl_9, ↓cl_10, ↓cl_11, ↓cl_12, ↓cl_13, ↓cl_14, ↓cl_15, ↓cl_16, d10, hle, h99, ↓zciX b1, ↓zciX e4, ↓zciX b3, c1]
  · have c1 : ¬ nI q ≤ (1 : Int32) := nI_ge (show 1 < q by omega) (by omega)
    obtain ⟨p, rfl⟩ : ∃ p, q = p + 1 := ⟨q - 1, by omega⟩
    obtain ⟨D5, D6, d3, g1, g2, g3, g4, g5⟩ := l_go hT hO (n := p) (by omega) hX b4
    have e4' : f_LW_tryAbout w D5 s 4 = some (itk (offF F ns) p 19 7, D5) := t_tryAbout h.1 (qa_4 h.1 g2)
    have hp : ¬ itk (offF F ns) p 19 7 ≤ 0 := by
      have := hq1 p (by omega)
      clear hq1
      generalize itk (offF F ns) p 19 7 = y at this
      exact Int32.not_le.2 this
    refine ⟨D6, d3, fun j => ?_, g4, fun q hq => (g5 q hq).trans (b5 q hq)⟩
    unfold S_LW_goes_S1
    simp only [↓zjpE, ↓zletE, ↓zciE, ↓zcvE, ↓zchkE, ↓reduceIte, zciE, zcvE, nI_1, ↓cl_0, ↓cl_1, ↓cl_2, ↓cl_3, ↓cl_4, ↓cl_5, ↓cl_6, ↓cl_7, ↓cl_8, ↓cl_9, ↓cl_10, ↓cl_11, ↓cl_12, ↓cl_13, ↓cl_14, ↓cl_15, ↓cl_16, d10, hle, h99, ↓zciX b1, ↓zciX e4, ↓zciX b3, c1, nI_s1, ↓zciX g1, ↓zciX e4', hp, ↓zciX g3]
theorem goes1L (hT : T + 400 < 1000000) (hF : FT F T) (h1 : F 1 7 = nI ns) (hn : ns ≤ 4) {q : Nat} (hq : ∀ L, Dn w (fun D s => f_SF_quietIn w D s) (F, L, V) (F, L, V) (nI q)) (hq9 : q ≤ 99) (hq1 : ∀ i, i < q → 0 < itk (offF F ns) i 19 7) (hq0 : itk (offF F ns) q 19 7 = 0) {x2 : Int32} : ∀ m k d D, k + m = ns → Tw w D s (offF F k, L.drop d ++ XO F k, V) → ∀ fuel, m < fuel → ∃ D' d', zlp (fun (_ : Int32) (_ : Int32) (_ : Int32) (_ : Int32) (_ : Int32) (_ : zD) => none) (S_LW_goes_S1 w s (s + 634) x2) fuel (F 26 6 + F 26 7) 1 (nI q) (nI ns) (nI k) D = some (1, D') ∧ Tw w D' s (F, L.drop d', V) ∧ ∀ q, q < s → D' q = D q := by
  intro m
  induction m with
  | zero =>
    intro k d D hk h fuel hf
    have hk : k = ns := hk
    subst hk
    obtain ⟨D2, d2, e, h2, f2⟩ := goes1B (x2 := x2) hT hF hn hq9 hq1 hq0 h
    obtain ⟨D', d', y1, y2, y3⟩ := goes2L (x2 := x2) hF hn hq k 0 d2 D2 (by omega) h2 6 (by omega)
    match fuel, hf with
    | f + 1, _ =>
      refine ⟨D', d', ?_, y2, fun q hq => (y3 q hq).trans (f2 q hq)⟩
      show S_LW_goes_S1 w s (s + 634) x2 _ (F 26 6 + F 26 7) 1 (nI q) (nI k) (nI k) D = _
      rw [e]; exact y1
  | succ m ih =>
    intro k d D hk h fuel hf
    have hle : ¬ nI ns ≤ nI k := nI_ge (show k < ns by omega) (by omega)
    have hO := FT_off hF (show k ≤ 4 by omega)
    have h1' : offF F k 1 7 = nI ns := by rw [offF_o (by decide)]; exact h1
    obtain ⟨D1, D2, a1, a2, a3, a4⟩ := two (v := nI (onsum (upd2 (offF F k) 8 k 0) ns)) (fun D s => f_LW_turned w D s (nI k) 0) (fun D s hw hA => by
      obtain ⟨D', b1, b2, b3⟩ := a_turn hw hA hO h1' hn (show k < ns by omega) (Or.inl rfl)
      exact ⟨D', t_turned hw b1, b2, b3⟩) h
    have hos := onsum_le (G := upd2 (offF F k) 8 k 0) (k := ns)
    have hneg : ¬ nI (onsum (upd2 (offF F k) 8 k 0) ns) < 0 := nI_pos (by omega)
    obtain ⟨d1, e1⟩ := push_drop (F := offF F k) (L := L) (d := d) (X := XO F k) (by rw [XO_len]; omega) (Tw_len h)
    have a3 : Tw w D2 s (offF F (k + 1), push (L.drop d ++ XO F k) (offF F k), V) := a3
    rw [e1] at a3
    have hstep : ∀ j, S_LW_goes_S1 w s (s + 634) x2 j (F 26 6 + F 26 7) 1 (nI q) (nI ns) (nI k) D = j (F 26 6 + F 26 7) 1 (nI q) (nI ns) (nI (k + 1)) D2 := fun j => by
      unfold S_LW_goes_S1
      simp only [↓zjpE, ↓zletE, ↓zciE, ↓zcvE, ↓zchkE, ↓reduceIte, zciE, zcvE, nI_1, ↓cl_0, ↓cl_1, ↓cl_2, ↓cl_3, ↓cl_4, ↓cl_5, ↓cl_6, ↓cl_7, ↓cl_8, ↓cl_9, ↓cl_10, ↓cl_11, ↓cl_12, ↓cl_13, ↓cl_14, ↓cl_15, ↓cl_16, d10, hle, ↓zciX a1, ↓zciX a2, hneg]
    match fuel, hf with
    | f + 1, hf =>
      obtain ⟨D', d', y1, y2, y3⟩ := ih (k + 1) d1 D2 (by omega) a3 f (by omega)
      refine ⟨D', d', ?_, y2, fun q hq => (y3 q hq).trans (a4 q hq)⟩
      show S_LW_goes_S1 w s (s + 634) x2 _ (F 26 6 + F 26 7) 1 (nI q) (nI ns) (nI k) D = _
      rw [hstep]; exact y1
theorem h200 : (200 : Int32) = nI 200 := rfl
theorem l_goes (hF : FT F T) (hH : Has F) (hT : T + 1000 < 1000000) {n : Nat} (hn : n < 2 ^ 31) (h : Tw w D s (F, L, V)) : ∃ D' d, f_LW_goes w D s (s + 634) (nI n) = some (1, D') ∧ Tw w D' s (F, L.drop d, V) ∧ ∀ q, q < s → D' q = D q := by
  obtain ⟨ns, nh, h1, h2, h3, h4, h5, h6⟩ := id hH
  obtain ⟨t, ht, hS⟩ := id hF
  obtain ⟨i, hi⟩ : ∃ i, i = n % nh := ⟨_, rfl⟩
  obtain ⟨j, hj⟩ : ∃ j, j = n / 4 % ns := ⟨_, rfl⟩
  have hi' : i < nh := by rw [hi]; exact Nat.mod_lt _ h5
  have hj' : j < ns := by rw [hj]; exact Nat.mod_lt _ h2
  obtain ⟨v, hv, hw⟩ := t_heard hS (by omega) h4 h6 h1 h3 hi' hj'
  have hnz : ∀ k, 0 < k → k ≤ 4 → ¬ nI k = 0 := fun k h0 h4 h => absurd (nI_inj (n := 0) h (by omega) (by omega)) (by omega)
  have z1 := hnz ns h2 h3
  have z9 := hnz nh h5 h6
  have r9 : zirem (nI n) (nI nh) = nI i := by rw [hi]; exact pk_rem (d := nh) (by omega) h5 (by omega)
  have r1 : zirem (nI n / 4) (nI ns) = nI j := by rw [hj, dl4 hn]; exact pk_rem (d := ns) (by omega) h2 (by omega)
  have e1 : f_LW_tryAbout w D s 1 = some (nI nh, D) := t_tryAbout h.1 (by rw [← h4]; exact qa_1 h.1 (Tw_HF h))
  have e0 : f_LW_tryAbout w D s 0 = some (nI ns, D) := t_tryAbout h.1 (by rw [← h1]; exact qa_0 h.1 (Tw_HF h))
  obtain ⟨D1, a1, a2, a3⟩ := oneL (v := v) (fun D s => f_LW_tryWhen w D s (nI i) (nI j)) (fun D s hw' hA => by
    obtain ⟨D', b1, b2, b3⟩ := hw w D s L V hw' hA
    exact ⟨D', t_tryWhen hw' b1, b2, b3⟩) h
  have e27 : f_LW_tryHeard w D1 s (nI i) (nI j) 0 = some (F 27 (4 * i + j), D1) := t_tryHeard h.1 (qe_0 h.1 (Tw_HF a2) h4 h6 h1 h3 hi' hj')
  obtain ⟨g, g1, g2, hg, hgv⟩ : ∃ g, 1 ≤ g ∧ g ≤ 200 ∧ (∀ m, m < g → itk F m 27 (4 * i + j) ≤ F 27 (4 * i + j)) ∧ ((v = -1 ∧ g = 200 ∧ itk F g 27 (4 * i + j) ≤ F 27 (4 * i + j)) ∨ (¬ v = -1 ∧ v = nI g ∧ ¬ itk F g 27 (4 * i + j) ≤ F 27 (4 * i + j))) := by
    rcases hv with ⟨g, g1, g2, rfl, g3, g4⟩ | ⟨rfl, g3⟩
    · exact ⟨g, g1, g2, g3, Or.inr ⟨nI_ne_m1 (by omega), rfl, g4⟩⟩
    · exact ⟨200, by omega, by omega, fun m hm => g3 m (by omega), Or.inl ⟨rfl, rfl, g3 200 (by omega)⟩⟩
  have hIS : IS F ns := FS_S hS h1 h3
  have ein : f_LW_tryIn w D1 s (nI j) (nI g) 1 = some (aft F j g, D1) := t_tryIn h.1 (qi_1 h.1 (Tw_HF a2) h1 h3 hIS hj' (by omega))
  have e6 : f_LW_tryAbout w D1 s 6 = some (F 26 6, D1) := t_tryAbout h.1 (qa_6 h.1 (Tw_HF a2))
  have e7 : f_LW_tryAbout w D1 s 7 = some (F 26 7, D1) := t_tryAbout h.1 (qa_7 h.1 (Tw_HF a2))
  have a2' : Tw w D1 s (F, L.drop 0 ++ [], V) := by rw [List.append_nil]; exact a2
  obtain ⟨D2, D3, d1, b1, b2, b3, b4, b5⟩ := l_go (by omega) hF (n := g) g2 (by decide) a2'
  have hFT : ∀ n, n ≤ 200 → FT (itk F n) (T + n) := fun n hn => (addT hF (by omega) (by omega)).1
  have hK : ∀ n, n ≤ 200 → Kp F (itk F n) := fun n hn => itk_Kp hS n (by omega)
  have k1 : ∀ n, n ≤ 200 → itk F n 1 7 = nI ns := fun n hn => (hK n hn 1 7 (by unfold Kc; omega)).trans h1
  have k9 : ∀ n, n ≤ 200 → itk F n 9 6 = nI nh := fun n hn => (hK n hn 9 6 (by unfold Kc; omega)).trans h4
  have q27 : f_LW_tryHeard w D2 s (nI i) (nI j) 0 = some (itk F g 27 (4 * i + j), D2) := t_tryHeard h.1 (qe_0 h.1 b2 (k9 g g2) h6 (k1 g g2) h3 hi' hj')
  have q7 : f_LW_trySiren w D2 s (nI j) 6 = some (aft F j g, D2) := t_trySiren h.1 (by rw [← itk_aft hS h1 h3 hj' g (by omega) (by omega)]; exact qs_6 h.1 b2 (k1 g g2) h3 (FT_S (hFT g g2) (k1 g g2) h3) hj')
  obtain ⟨q, hq9, hq1, hq0, hqq⟩ := t_quiet hS (by omega) h1 h3
  have hQ : ∀ L, Dn w (fun D s => f_SF_quietIn w D s) (F, L, V) (F, L, V) (nI q) := fun L D s hw hA => hqq w D s L V hw hA
  by_cases hg1 : g ≤ 1
  · have c1 : nI g ≤ (1 : Int32) := nI_le hg1 (by decide)
    obtain ⟨D6, y1, y2, y3⟩ := oneL (v := nI q) (fun D s => f_SF_quietIn w D s) (hQ _) b4
    have e0' : f_LW_tryAbout w D6 s 0 = some (nI ns, D6) := t_tryAbout h.1 (by rw [← h1]; exact qa_0 h.1 (Tw_HF y2))
    obtain ⟨D', d', u1, u2, u3⟩ := goes1L (x2 := nI n) (by omega) hF h1 h3 hQ hq9 hq1 hq0 ns 0 d1 D6 (by omega) y2 6 (by omega)
    refine ⟨D', d', ?_, u2, fun q hq => (u3 q hq).trans ((y3 q hq).trans ((b5 q hq).trans (a3 q hq)))⟩
    rw [u_LW_goes]
    rcases hgv with ⟨k1, k2, k3⟩ | ⟨k1, k2, k3⟩
    · omega
    · subst k2
      simp only [↓zjpE, ↓zletE, ↓zchkE, ↓reduceIte, ↓cl_0, ↓cl_1, ↓cl_2, ↓cl_3, ↓cl_4, ↓cl_5, ↓cl_6, ↓cl_7, ↓cl_8, ↓cl_9, ↓cl_10, ↓cl_11, ↓cl_12, ↓cl_13, ↓cl_14, ↓cl_15, ↓cl_16, d10, ↓zciX e1, ↓zciX e0, z1, z9, not_false_eq_true, r9, r1, ↓zciX a1, ↓zciX e27, k1, ↓zciX ein, ↓zciX e6, ↓zciX e7, ↓zciX b1, ↓zciX q27, k3, ↓zciX q7, ↓zciX b3, c1, ↓WSo h.1, ↓zciX y1, ↓zciX e0']
      exact u1
  · have c1 : ¬ nI g ≤ (1 : Int32) := nI_ge (show 1 < g by omega) (by omega)
    obtain ⟨p, hp⟩ : ∃ p, g = p + 1 := ⟨g - 1, by omega⟩
    have hs1 : nI g - 1 = nI p := by rw [hp]; exact nI_s1
    obtain ⟨D4, D5, d2, f1, f2, f3, f4, f5⟩ := l_go (by omega) hF (n := p) (by omega) (by decide) b4
    have p27 : f_LW_tryHeard w D4 s (nI i) (nI j) 0 = some (F 27 (4 * i + j), D4) := by
      have hEq : itk F p 27 (4 * i + j) = F 27 (4 * i + j) := by
        have u1 := hg p (by omega)
        have u2 := (itk_Gr hS p (by omega)).1 (4 * i + j) (by omega)
        generalize itk F p 27 (4 * i + j) = y at u1 u2
        generalize F 27 (4 * i + j) = z at u1 u2
        exact Int32.le_antisymm u1 u2
      exact t_tryHeard h.1 (by rw [← hEq]; exact qe_0 h.1 f2 (k9 p (by omega)) h6 (k1 p (by omega)) h3 hi' hj')
    obtain ⟨D6, y1, y2, y3⟩ := oneL (v := nI q) (fun D s => f_SF_quietIn w D s) (hQ _) f4
    have e0' : f_LW_tryAbout w D6 s 0 = some (nI ns, D6) := t_tryAbout h.1 (by rw [← h1]; exact qa_0 h.1 (Tw_HF y2))
    obtain ⟨D', d', u1, u2, u3⟩ := goes1L (x2 := nI n) (by omega) hF h1 h3 hQ hq9 hq1 hq0 ns 0 d2 D6 (by omega) y2 6 (by omega)
    refine ⟨D', d', ?_, u2, fun q hq => (u3 q hq).trans ((y3 q hq).trans ((f5 q hq).trans ((b5 q hq).trans (a3 q hq))))⟩
    rw [u_LW_goes]
    rcases hgv with ⟨k1, k2, k3⟩ | ⟨k1, k2, k3⟩
    · subst k1 k2
      simp only [↓zjpE, ↓zletE, ↓zchkE, ↓reduceIte, ↓cl_0, ↓cl_1, ↓cl_2, ↓cl_3, ↓cl_4, ↓cl_5, ↓cl_6, ↓cl_7, ↓cl_8, ↓cl_9, ↓cl_10, ↓cl_11, ↓cl_12, ↓cl_13, ↓cl_14, ↓cl_15, ↓cl_16, d10, ↓zciX e1, ↓zciX e0, z1, z9, not_false_eq_true, r9, r1, ↓zciX a1, ↓zciX e27, h200, ↓zciX ein, ↓zciX e6, ↓zciX e7, ↓zciX b1, ↓zciX q27, k3, ↓zciX q7, ↓zciX b3, c1, hs1, ↓zciX f1, ↓zciX p27, ↓zciX f3, ↓WSo h.1, ↓zciX y1, ↓zciX e0']
      exact u1
    · subst k2
      simp only [↓zjpE, ↓zletE, ↓zchkE, ↓reduceIte, ↓cl_0, ↓cl_1, ↓cl_2, ↓cl_3, ↓cl_4, ↓cl_5, ↓cl_6, ↓cl_7, ↓cl_8, ↓cl_9, ↓cl_10, ↓cl_11, ↓cl_12, ↓cl_13, ↓cl_14, ↓cl_15, ↓cl_16, d10, ↓zciX e1, ↓zciX e0, z1, z9, not_false_eq_true, r9, r1, ↓zciX a1, ↓zciX e27, k1, ↓zciX ein, ↓zciX e6, ↓zciX e7, ↓zciX b1, ↓zciX q27, k3, ↓zciX q7, ↓zciX b3, c1, hs1, ↓zciX f1, ↓zciX p27, ↓zciX f3, ↓WSo h.1, ↓zciX y1, ↓zciX e0']
      exact u1
end P69
