/-! PURE: to wait and to come back; the least speed. -/
section P68
variable {w : zW} {D : zD} {s T : Nat} {F G : Fld} {L X : List Fld} {V : Nat → Option Fld}
theorem Tw_len (h : Tw w D s (F, L, V)) : L.length ≤ 14 := by
  obtain ⟨-, -, ⟨-, -, -, -, ⟨p, -, -, -, b4, -⟩, -⟩, -⟩ := h
  exact b4
theorem Tw_HF (h : Tw w D s (F, L, V)) : HF D (s + 4) F := h.2.2.1.1
theorem l_go (hT : T + 400 < 1000000) (hF : FT F T) {n d : Nat} (hn : n ≤ 200) (hX : X.length + 3 < 14) (h : Tw w D s (F, L.drop d ++ X, V)) : ∃ D1 D2 d', f_LW_waits w D s (s + 634) (nI n) = some (1, D1) ∧ HF D1 (s + 4) (itk F n) ∧ f_LW_undoes w D1 s (s + 634) (nI n) = some (1, D2) ∧ Tw w D2 s (F, L.drop d' ++ X, V) ∧ ∀ q, q < s → D2 q = D q := by
  obtain ⟨D1, a1, a2, a3⟩ := l_waits hT hF hn h
  obtain ⟨d', e1, -⟩ := pw_drop (L := L) 3 n F d X hX (Tw_len h)
  rw [e1, ← List.append_assoc] at a2
  obtain ⟨D2, b1, b2, b3⟩ := l_back hT hF hn a2
  exact ⟨D1, D2, d', a1, Tw_HF a2, b1, b2, fun q hq => (b3 q hq).trans (a3 q hq)⟩
theorem Stk_drop (h : Stk F L) (d : Nat) : Stk F (L.drop d) := by
  obtain ⟨P, M, rfl, hM, hP⟩ := h
  refine ⟨P.drop d, M.drop (d - P.length), List.drop_append, fun f hf => hM f (List.mem_of_mem_drop hf), ?_⟩
  by_cases hd : P.length ≤ d
  · exact Or.inl (List.drop_eq_nil_of_le hd)
  · have e : M.drop (d - P.length) = M := by rw [show d - P.length = 0 by omega]; rfl
    rw [e]
    exact Or.inr (hP.resolve_left (fun h => by rw [h] at hd; exact hd (Nat.zero_le _)))
theorem LI_drop (h : LI (F, L, V) T) (d : Nat) : LI (F, L.drop d, V) T := ⟨⟨h.1.1, fun f hf => h.1.2.1 f (List.mem_of_mem_drop hf), h.1.2.2⟩, h.2.1, Stk_drop h.2.2.1 d, h.2.2.2⟩
theorem FT_c (h : FT F T) : 1 ≤ F 0 7 ∧ F 0 7 ≤ 9 := by
  obtain ⟨t, ht, -, G, ns, nh, nw, np, d, e, l, ⟨hR, -, -, -, -, -, -, -, ⟨c1, c2, -⟩, -⟩, -⟩ := h
  rw [r0_7 hR]
  exact ⟨c1, c2⟩
theorem leastL (hT : T + 400 < 1000000) (hF : FT F T) {x2 r : Int32} {n top : Nat} (hn1 : 1 ≤ n) (hn : n ≤ 99) (htop : top ≤ 9) (hc : ∀ v, 1 ≤ v → v ≤ top → (late F n v ∧ ¬ nI v = r) ∨ (¬ late F n v ∧ nI v = r)) (hl : Dn w (fun D s => f_LW_tryLeast w D s (nI n)) (F, L, V) (F, L, V) r) (hl' : ∀ d, Dn w (fun D s => f_LW_tryLeast w D s (nI n)) (F, L.drop d, V) (F, L.drop d, V) r) : ∀ m v d D, v + m = top + 1 → 1 ≤ v → Tw w D s (F, L.drop d, V) → ∀ fuel, m < fuel → ∃ D' d', zlp (fun (_ : Int32) (_ : Int32) (_ : Int32) (_ : Int32) (_ : Int32) (_ : Int32) (_ : zD) => none) (S_LW_least_S1 w s (s + 634) x2) fuel (nI n) r (F 26 8) (nI top) 1 (nI v) D = some (1, D') ∧ Tw w D' s (F, L.drop d', V) ∧ ∀ q, q < s → D' q = D q := by
  intro m
  induction m with
  | zero =>
    intro v d D hv h1 h fuel hf
    have ht : nI top < nI v := nI_lt (by omega) (by omega)
    have e8 : f_LW_tryAbout w D s 8 = some (F 26 8, D) := t_tryAbout h.1 (qa_8 h.1 (Tw_HF h))
    obtain ⟨D1, a1, a2, a3⟩ := oneL (v := r) (fun D s => f_LW_tryLeast w D s (nI n)) (hl' d) h
    match fuel, hf with
    | f + 1, _ =>
      refine ⟨D1, d, ?_, a2, a3⟩
      show S_LW_least_S1 w s (s + 634) x2 _ (nI n) r (F 26 8) (nI top) 1 (nI v) D = _
      unfold S_LW_least_S1
      simp only [↓zjpE, ↓zletE, ↓zciE, ↓zcvE, ↓zchkE, ↓reduceIte, zciE, zcvE, nI_1, ↓cl_0, ↓cl_1, ↓cl_2, ↓cl_3, ↓cl_4, ↓cl_5, ↓cl_6, ↓cl_7, ↓cl_8, ↓cl_9, ↓cl_10, ↓cl_11, ↓cl_12, ↓cl_13, ↓cl_14, ↓cl_15, ↓cl_16, d10, ht, ↓zciX e8, ↓zciX a1, or_true]
  | succ m ih =>
    intro v d D hv h1 h fuel hf
    have ht : ¬ nI top < nI v := nI_nlt (show v ≤ top by omega) (by omega)
    have hcv := hc v h1 (by omega)
    have hv9 : (1 : Int32) ≤ nI v ∧ nI v ≤ 9 := ⟨by rw [show (1 : Int32) = nI 1 from rfl]; exact nI_le h1 (by omega), nI_le (show v ≤ 9 by omega) (by decide)⟩
    have hc7 := FT_c hF
    have hG : FT (spd F v) T := by
      obtain ⟨t, ht, hS⟩ := hF
      exact ⟨t, ht, spd_FS hS h1 (by omega)⟩
    obtain ⟨D1, D2, a1, a2, a3, a4⟩ := two (v := F 0 7) (fun D s => f_LW_tryLay w D s 0 (nI v)) (fun D s hw hA => by
      obtain ⟨D', b1, b2, b3⟩ := a_set0 hw hA hF hv9
      exact ⟨D', t_tryLay hw b1, b2, b3⟩) h
    have w1 : ¬ F 0 7 ≤ 0 := by
      have := hc7.1
      generalize F 0 7 = y at this
      clear hc hl hl' ih hcv
      grind
    have hlen := Tw_len h
    obtain ⟨d1, e1⟩ := push_drop (F := F) (L := L) (d := d) (X := []) (by decide) (by rw [List.append_nil]; exact hlen)
    rw [List.append_nil] at e1
    have a3 : Tw w D2 s (spd F v, push (L.drop d) F, V) := a3
    rw [e1] at a3
    obtain ⟨D3, D4, d2, b1, b2, b3, b4, b5⟩ := l_go hT hG (n := n) (by omega) (by show 1 + 3 < 14; decide) a3
    have e8 : f_LW_tryAbout w D3 s 8 = some (itk (spd F v) n 26 8, D3) := t_tryAbout h.1 (qa_8 h.1 b2)
    have b4 : Tw w D4 s (spd F v, L.drop d2 ++ [F], V) := b4
    obtain ⟨D5, D6, c1, c2, c3, c4, c5⟩ := w_undo (FT_NZ hF) (FT_NZ hG) b4
    obtain ⟨t1, t2, t3⟩ := nI_pv (n := (L.drop d2).length) (by omega)
    have hstep : ∀ j, S_LW_least_S1 w s (s + 634) x2 j (nI n) r (F 26 8) (nI top) 1 (nI v) D = j (nI n) r (F 26 8) (nI top) 1 (nI (v + 1)) D6 := fun j => by
      unfold S_LW_least_S1
      rcases hcv with ⟨k1, k2⟩ | ⟨k1, k2⟩
      · have k1 : ¬ itk (spd F v) n 26 8 = F 26 8 := k1
        simp only [↓zjpE, ↓zletE, ↓zciE, ↓zcvE, ↓zchkE, ↓reduceIte, zciE, zcvE, nI_1, ↓cl_0, ↓cl_1, ↓cl_2, ↓cl_3, ↓cl_4, ↓cl_5, ↓cl_6, ↓cl_7, ↓cl_8, ↓cl_9, ↓cl_10, ↓cl_11, ↓cl_12, ↓cl_13, ↓cl_14, ↓cl_15, ↓cl_16, d10, ht, ↓zciX a1, ↓zciX a2, w1, ↓zciX b1, ↓zciX e8, k1, k2, ↓zciX b3, ↓zciX c1, ↓zciX c2, ↓zciX (thr0 t1 t2 t3)]
      · have k1 : itk (spd F v) n 26 8 = F 26 8 := Decidable.of_not_not k1
        subst k2
        simp only [↓zjpE, ↓zletE, ↓zciE, ↓zcvE, ↓zchkE, ↓reduceIte, zciE, zcvE, nI_1, ↓cl_0, ↓cl_1, ↓cl_2, ↓cl_3, ↓cl_4, ↓cl_5, ↓cl_6, ↓cl_7, ↓cl_8, ↓cl_9, ↓cl_10, ↓cl_11, ↓cl_12, ↓cl_13, ↓cl_14, ↓cl_15, ↓cl_16, d10, ht, ↓zciX a1, ↓zciX a2, w1, ↓zciX b1, ↓zciX e8, k1, ↓zciX b3, ↓zciX c1, ↓zciX c2, ↓zciX (thr0 t1 t2 t3)]
    match fuel, hf with
    | f + 1, hf =>
      obtain ⟨D', d', y1, y2, y3⟩ := ih (v + 1) d2 D6 (by omega) (by omega) c4 f (by omega)
      refine ⟨D', d', ?_, y2, fun q hq => (y3 q hq).trans ((c5 q hq).trans ((b5 q hq).trans (a4 q hq)))⟩
      show S_LW_least_S1 w s (s + 634) x2 _ (nI n) r (F 26 8) (nI top) 1 (nI v) D = _
      rw [hstep]; exact y1
theorem l_least (hF : FT F T) (hT : T + 1000 < 1000000) {n : Nat} (hn : n < 2 ^ 31) (h : Tw w D s (F, L, V)) : ∃ D' d, f_LW_least w D s (s + 634) (nI n) = some (1, D') ∧ Tw w D' s (F, L.drop d, V) ∧ ∀ q, q < s → D' q = D q := by
  obtain ⟨t, ht, hS⟩ := id hF
  obtain ⟨r, hr, hl⟩ := t_least hS (n := n % 60 + 1) (by omega) (by omega) (by omega)
  have hd : ∀ L, Dn w (fun D s => f_LW_tryLeast w D s (nI (n % 60 + 1))) (F, L, V) (F, L, V) r := fun L D s hw hA => by
    obtain ⟨D', b1, b2, b3⟩ := hl w D s L V hw hA
    exact ⟨D', t_tryLeast hw b1, b2, b3⟩
  obtain ⟨D1, a1, a2, a3⟩ := oneL (v := r) (fun D s => f_LW_tryLeast w D s (nI (n % 60 + 1))) (hd L) h
  have e8 : f_LW_tryAbout w D1 s 8 = some (F 26 8, D1) := t_tryAbout h.1 (qa_8 h.1 (Tw_HF a2))
  have e60 : (1 : Int32) + zirem (nI n) (60 : Int32) = nI (n % 60 + 1) := by rw [rl60 hn, one_nI]
  rcases hr with ⟨x, x1, x9, rfl, hlt, hx⟩ | ⟨rfl, hx⟩
  · have hne : ¬ nI x = -1 := nI_ne_m1 (by omega)
    obtain ⟨D', d, y1, y2, y3⟩ := leastL (x2 := nI n) (by omega) hF (by omega) (by omega) x9 (fun v hv hv9 => by
      by_cases he : v = x
      · subst he; exact Or.inr ⟨hx, rfl⟩
      · exact Or.inl ⟨hlt v hv (by omega), fun e => he (nI_inj e (by omega) (by omega))⟩) (hd L) (fun d => hd _) x 1 0 D1 (by omega) (by omega) a2 11 (by omega)
    refine ⟨D', d, ?_, y2, fun q hq => (y3 q hq).trans (a3 q hq)⟩
    rw [u_LW_least]
    simp only [↓zjpE, ↓zletE, e60, ↓cl_0, ↓cl_1, ↓cl_2, ↓cl_3, ↓cl_4, ↓cl_5, ↓cl_6, ↓cl_7, ↓cl_8, ↓cl_9, ↓cl_10, ↓cl_11, ↓cl_12, ↓cl_13, ↓cl_14, ↓cl_15, ↓cl_16, ↓zciX a1, ↓zciX e8, hne, ↓reduceIte]
    exact y1
  · obtain ⟨D', d, y1, y2, y3⟩ := leastL (x2 := nI n) (by omega) hF (by omega) (by omega) (Nat.le_refl 9) (fun v hv hv9 => Or.inl ⟨hx v hv hv9, nI_ne_m1 (by omega)⟩) (hd L) (fun d => hd _) 9 1 0 D1 (by omega) (by omega) a2 11 (by omega)
    refine ⟨D', d, ?_, y2, fun q hq => (y3 q hq).trans (a3 q hq)⟩
    rw [u_LW_least]
    simp only [↓zjpE, ↓zletE, e60, ↓cl_0, ↓cl_1, ↓cl_2, ↓cl_3, ↓cl_4, ↓cl_5, ↓cl_6, ↓cl_7, ↓cl_8, ↓cl_9, ↓cl_10, ↓cl_11, ↓cl_12, ↓cl_13, ↓cl_14, ↓cl_15, ↓cl_16, ↓zciX a1, ↓zciX e8, ↓reduceIte]
    exact y1
end P68
