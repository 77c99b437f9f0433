/-! PURE: both are made; what holds at the start. -/
theorem zlpS {γ : Type} {b : γ} {F : γ → γ} {n : Nat} : zlp b F (n + 1) = F (zlp b F n) := rfl
section P74m
variable {β : Type} {z z0 z' : zT} {D D0 D' : zD} {s n : Nat} {fs : List (Option (Option Nat))}
theorem made (h1 : z.1 = s + 1) (h3 : z.2.1 s = some (.inr (.inr (0, [some none, some none, some none, some none, some none, none, none, some none, some none])))) (h4 : ∀ j, D s j = 0) : ∃ z' D', f_SF_init z D s = some (z', D') ∧ GS z D s [some (some (s + 1)), some (some (s + 4)), some (some (s + 37)), some (some (s + 70)), some (some (s + 103)), none, none, some (some (s + 566)), some (some (s + 633))] 634 z' D' ∧ (∃ φ, z'.2.1 (s + 103) = some (.inr (.inl (14, φ))) ∧ ∀ i, i < 14 → φ i = some (s + 104 + 33 * i)) ∧ (∃ φ, z'.2.1 (s + 566) = some (.inr (.inl (2, φ))) ∧ ∀ i, i < 2 → φ i = some (s + 567 + 33 * i)) := by
  -- the saved ones, and the end
  have last : ∀ (zz : zT) m i z1 D1 φ fuel, i + m = 2 → m < fuel → GS z D s [some (some (s + 1)), some (some (s + 4)), some (some (s + 37)), some (some (s + 70)), some (some (s + 103)), none, none, some (some (s + 566)), some none] (566 + 1 + 33 * i) z1 D1 → (∃ φ, z1.2.1 (s + 103) = some (.inr (.inl (14, φ))) ∧ ∀ i, i < 14 → φ i = some (s + 104 + 33 * i)) → z1.2.1 (s + 566) = some (.inr (.inl (2, φ))) → (∀ k, k < i → φ k = some (s + (566 + 1) + 33 * k)) → ∃ z' D', zlp (fun (_ : Int32) (_ : zT) (_ : zD) => none) (S_SF_init_S2 zz s) fuel (nI i) z1 D1 = some (z', D') ∧ GS z D s [some (some (s + 1)), some (some (s + 4)), some (some (s + 37)), some (some (s + 70)), some (some (s + 103)), none, none, some (some (s + 566)), some (some (s + 633))] 634 z' D' ∧ (∃ φ, z'.2.1 (s + 103) = some (.inr (.inl (14, φ))) ∧ ∀ i, i < 14 → φ i = some (s + 104 + 33 * i)) ∧ (∃ φ, z'.2.1 (s + 566) = some (.inr (.inl (2, φ))) ∧ ∀ i, i < 2 → φ i = some (s + 567 + 33 * i)) := by
    intro zz m
    induction m with
    | zero =>
      intro i z1 D1 φ fuel hi hf hG hA hφ hφ2
      obtain rfl : i = 2 := by omega
      obtain ⟨n1, n2, n3, n4⟩ := GS_new (β := zT × zD) (e := .inl (2, 2)) hG (by omega) (Or.inr (Or.inr ⟨rfl, fun j => rfl⟩))
      obtain ⟨p1, p2⟩ := GS_put (β := zT × zD) (i := 8) (v := s + 633) n2 rfl
      obtain ⟨φa, hφa, hφa2⟩ := hA
      match fuel, hf with
      | f + 1, _ =>
        refine ⟨_, _, ?_, p2, ⟨φa, ?_, hφa2⟩, ⟨φ, ?_, fun i hi => hφ2 i hi⟩⟩
        · rw [zlpS]
          unfold S_SF_init_S2
          rw [if_pos (by decide)]
          refine (n1 _).trans ?_
          exact p1 _
        · rw [sh_o (by omega), n4 _ (by omega)]; exact hφa
        · rw [sh_o (by omega), n4 _ (by omega)]; exact hφ
    | succ m ih =>
      intro i z1 D1 φ fuel hi hf hG hA hφ hφ2
      have hc : ¬ (2 : Int32) ≤ nI i := by rw [zl 2, nI_leI (by omega) (by omega)]; omega
      obtain ⟨z2, D2, φ', g1, g2, g3, g4, g5⟩ := GS_row (β := zT × zD) hG (Or.inr ⟨rfl, rfl⟩) (by omega) hφ hφ2
      obtain ⟨φa, hφa, hφa2⟩ := hA
      match fuel, hf with
      | f + 1, hf =>
        obtain ⟨z', D', e1, e2, e3, e4⟩ := ih (i + 1) z2 D2 φ' f (by omega) (by omega) g1 ⟨φa, (g4 _ (by omega)).trans hφa, hφa2⟩ g2 g3
        refine ⟨z', D', ?_, e2, e3, e4⟩
        rw [zlpS, ← e1]
        have hs : ∀ j, S_SF_init_S2 zz s j (nI i) z1 D1 = j (nI (i + 1)) z2 D2 := fun j => by
          unfold S_SF_init_S2
          rw [if_neg hc]
          refine (ref_s (i := 7) hG rfl).trans ?_
          exact (g5 (fun z3 D2 => zlet (nI i + (1 : Int32)) (fun v16 => j v16 z3 D2))).trans (by rw [zletE, nI_1])
        exact hs _
  have first : ∀ (zz : zT) m i z1 D1 φ fuel, i + m = 14 → m < fuel → GS z D s [some (some (s + 1)), some (some (s + 4)), some (some (s + 37)), some (some (s + 70)), some (some (s + 103)), none, none, some none, some none] (103 + 1 + 33 * i) z1 D1 → z1.2.1 (s + 103) = some (.inr (.inl (14, φ))) → (∀ k, k < i → φ k = some (s + (103 + 1) + 33 * k)) → ∃ z' D', zlp (fun (_ : Int32) (_ : zT) (_ : zD) => none) (S_SF_init_S1 zz s) fuel (nI i) z1 D1 = some (z', D') ∧ GS z D s [some (some (s + 1)), some (some (s + 4)), some (some (s + 37)), some (some (s + 70)), some (some (s + 103)), none, none, some (some (s + 566)), some (some (s + 633))] 634 z' D' ∧ (∃ φ, z'.2.1 (s + 103) = some (.inr (.inl (14, φ))) ∧ ∀ i, i < 14 → φ i = some (s + 104 + 33 * i)) ∧ (∃ φ, z'.2.1 (s + 566) = some (.inr (.inl (2, φ))) ∧ ∀ i, i < 2 → φ i = some (s + 567 + 33 * i)) := by
    intro zz m
    induction m with
    | zero =>
      intro i z1 D1 φ fuel hi hf hG hφ hφ2
      obtain rfl : i = 14 := by omega
      obtain ⟨n1, n2, n3, n4⟩ := GS_new (β := zT × zD) (e := .inr (.inl (2, fun _ => none))) hG (by omega) (Or.inr (Or.inl rfl))
      obtain ⟨p1, p2⟩ := GS_put (β := zT × zD) (i := 7) (v := s + 566) n2 rfl
      obtain ⟨z', D', e1, e2⟩ := last zz 2 0 _ _ (fun _ => none) 3 (by omega) (by omega) p2 ⟨φ, (sh_o (by omega)).trans ((n4 _ (by omega)).trans hφ), fun i hi => hφ2 i hi⟩ ((sh_o (by omega)).trans n3) (fun k hk => absurd hk (Nat.not_lt_zero k))
      match fuel, hf with
      | f + 1, _ =>
        refine ⟨z', D', ?_, e2⟩
        rw [zlpS]
        unfold S_SF_init_S1
        rw [if_pos (by decide)]
        simp only [↓zjpE]
        refine (n1 _).trans ?_
        refine (p1 _).trans ?_
        exact e1
    | succ m ih =>
      intro i z1 D1 φ fuel hi hf hG hφ hφ2
      have hc : ¬ (14 : Int32) ≤ nI i := by rw [zl 14, nI_leI (by omega) (by omega)]; omega
      obtain ⟨z2, D2, φ', g1, g2, g3, g4, g5⟩ := GS_row (β := zT × zD) hG (Or.inl ⟨rfl, rfl⟩) (by omega) hφ hφ2
      match fuel, hf with
      | f + 1, hf =>
        obtain ⟨z', D', e1, e2⟩ := ih (i + 1) z2 D2 φ' f (by omega) (by omega) g1 g2 g3
        refine ⟨z', D', ?_, e2⟩
        rw [zlpS, ← e1]
        have hs : ∀ j, S_SF_init_S1 zz s j (nI i) z1 D1 = j (nI (i + 1)) z2 D2 := fun j => by
          unfold S_SF_init_S1
          rw [if_neg hc]
          refine (ref_s (i := 4) hG rfl).trans ?_
          exact (g5 (fun z3 D2 => zlet (nI i + (1 : Int32)) (fun v16 => j v16 z3 D2))).trans (by rw [zletE, nI_1])
        exact hs _
  obtain ⟨za, Da, ka, ga⟩ := GS_ft (β := zT × zD) h1 h3 h4
  obtain ⟨pa, ga'⟩ := GS_put (β := zT × zD) (i := 0) (v := s + 1) ga rfl
  obtain ⟨zb, Db, kb, gb, -⟩ := GS_field (β := zT × zD) ga' (Or.inl rfl)
  obtain ⟨pb, gb'⟩ := GS_put (β := zT × zD) (i := 1) (v := s + 4) gb rfl
  obtain ⟨zc, Dc, kc, gc, -⟩ := GS_field (β := zT × zD) gb' (Or.inr (Or.inl rfl))
  obtain ⟨pc, gc'⟩ := GS_put (β := zT × zD) (i := 2) (v := s + 37) gc rfl
  obtain ⟨zd, Dd, kd, gd, -⟩ := GS_field (β := zT × zD) gc' (Or.inr (Or.inr (Or.inl rfl)))
  obtain ⟨pd, gd'⟩ := GS_put (β := zT × zD) (i := 3) (v := s + 70) gd rfl
  obtain ⟨ne, ge, he, -⟩ := GS_new (β := zT × zD) (e := .inr (.inl (14, fun _ => none))) gd' (by omega) (Or.inl rfl)
  obtain ⟨pe, ge'⟩ := GS_put (β := zT × zD) (i := 4) (v := s + 103) ge rfl
  obtain ⟨z', D', e1, e2⟩ := first z 14 0 _ _ (fun _ => none) 15 (by omega) (by omega) ge' ((sh_o (by omega)).trans he) (fun k hk => absurd hk (Nat.not_lt_zero k))
  refine ⟨z', D', ?_, e2⟩
  rw [u_SF_init]
  simp only [↓zjpE]
  refine (ka (fun q29 z32 D33 => zputR z32 0 0 s q29 _)).trans ?_
  refine (pa _).trans ?_
  refine (kb (fun q z2 D2 => zputR z2 0 1 s q _)).trans ?_
  refine (pb _).trans ?_
  refine (kc (fun q z2 D2 => zputR z2 0 2 s q _)).trans ?_
  refine (pc _).trans ?_
  refine (kd (fun q z2 D2 => zputR z2 0 3 s q _)).trans ?_
  refine (pd _).trans ?_
  refine (ne _).trans ?_
  refine (pe _).trans ?_
  exact e1
end P74m
