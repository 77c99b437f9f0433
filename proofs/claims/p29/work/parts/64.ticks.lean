/-! PURE: two objects in one state; ticks and their undo, on both. -/
def Tw (w : zW) (D : zD) (s : Nat) (A : OS) : Prop := WL w s ∧ WL w (s + 634) ∧ At D s A ∧ At D (s + 634) A
section P64
variable {w : zW} {D : zD} {s T : Nat} {F G : Fld} {L Z : List Fld} {V : Nat → Option Fld} {A A' : OS}
/-- what each does, both do one after the other -/
theorem two {v : Int32} (g : zD → Nat → Option (Int32 × zD)) (H : ∀ (D : zD) (s : Nat), WL w s → At D s A → ∃ D', g D s = some (v, D') ∧ At D' s A' ∧ ∀ q, q < s ∨ s + 634 ≤ q → D' q = D q) (h : Tw w D s A) : ∃ D1 D2, g D s = some (v, D1) ∧ g D1 (s + 634) = some (v, D2) ∧ Tw w D2 s A' ∧ ∀ q, q < s → D2 q = D q := by
  obtain ⟨h1, h2, h3, h4⟩ := h
  obtain ⟨D1, a1, a2, a3⟩ := H D s h1 h3
  obtain ⟨D2, b1, b2, b3⟩ := H D1 (s + 634) h2 (At_fr h4 (fun q h _ => a3 q (Or.inr h)))
  exact ⟨D1, D2, a1, b1, ⟨h1, h2, At_fr a2 (fun q _ h => b3 q (Or.inl h)), b2⟩, fun q hq => (b3 q (Or.inl (by omega))).trans (a3 q (Or.inl hq))⟩
/-- one of them alone, that stays as it is -/
theorem oneL {v : Int32} (g : zD → Nat → Option (Int32 × zD)) (H : ∀ (D : zD) (s : Nat), WL w s → At D s A → ∃ D', g D s = some (v, D') ∧ At D' s A ∧ ∀ q, q < s ∨ s + 634 ≤ q → D' q = D q) (h : Tw w D s A) : ∃ D1, g D s = some (v, D1) ∧ Tw w D1 s A ∧ ∀ q, q < s → D1 q = D q := by
  obtain ⟨h1, h2, h3, h4⟩ := h
  obtain ⟨D1, a1, a2, a3⟩ := H D s h1 h3
  exact ⟨D1, a1, ⟨h1, h2, a2, At_fr h4 (fun q h _ => a3 q (Or.inr h))⟩, fun q hq => a3 q (Or.inl hq)⟩
theorem oneR {v : Int32} (g : zD → Nat → Option (Int32 × zD)) (H : ∀ (D : zD) (s : Nat), WL w s → At D s A → ∃ D', g D s = some (v, D') ∧ At D' s A ∧ ∀ q, q < s ∨ s + 634 ≤ q → D' q = D q) (h : Tw w D s A) : ∃ D1, g D (s + 634) = some (v, D1) ∧ Tw w D1 s A ∧ ∀ q, q < s → D1 q = D q := by
  obtain ⟨h1, h2, h3, h4⟩ := h
  obtain ⟨D1, a1, a2, a3⟩ := H D (s + 634) h2 h4
  exact ⟨D1, a1, ⟨h1, h2, At_fr h3 (fun q _ h => a3 q (Or.inl h)), a2⟩, fun q hq => a3 q (Or.inl (by omega))⟩
/-- how many are heard -/
theorem heard_n (hF : FT F T) {n : Nat} (hT : T + n < 1000000) : ∃ m, m < 2 ^ 30 ∧ (itk F n 26 6 + itk F n 26 7) - (F 26 6 + F 26 7) = nI m := by
  obtain ⟨t, ht, h⟩ := hF
  obtain ⟨-, d, e, l, d', e', l', a1, a2, -, a4, a5, -, a7, a8, -, a10, -⟩ := itk_Gr h n (by omega)
  refine ⟨d' + e' - (d + e), by omega, ?_⟩
  rw [a1, a2, a4, a5, nI_add, nI_add, pk_sub (by omega)]
theorem w_ticks (hF : FT F T) (hT : T + 99 < 1000000) {n : Nat} (hn : 1 ≤ n ∧ n ≤ 99) (h : Tw w D s (F, L, V)) : ∃ v D1 D2, f_LW_tryTicks w D s (nI n) = some (v, D1) ∧ f_LW_tryTicks w D1 (s + 634) (nI n) = some (v, D2) ∧ ¬ v < 0 ∧ Tw w D2 s (itk F n, push L F, V) ∧ ∀ q, q < s → D2 q = D q := by
  obtain ⟨m, hm, e⟩ := heard_n hF (n := n) (by omega)
  obtain ⟨D1, D2, a1, a2, a3, a4⟩ := two (v := nI m) (fun D s => f_LW_tryTicks w D s (nI n)) (fun D s hw hA => by
    obtain ⟨D', b1, b2, b3⟩ := a_ticks hw hA hF hn hT
    rw [e] at b1
    exact ⟨D', t_tryTicks hw b1, b2, b3⟩) h
  exact ⟨nI m, D1, D2, a1, a2, nI_pos (by omega), a3, a4⟩
noncomputable def pw (L : List Fld) (F : Fld) : Nat → Nat → List Fld := fun m => match m with
  | 0 => fun _ => L
  | m + 1 => fun n => if n = 0 then L else if n ≤ 99 then push L F else pw (push L F) (itk F 99) m (n - 99)
noncomputable def wl (F : Fld) : Nat → Nat → List Fld := fun m => match m with
  | 0 => fun _ => []
  | m + 1 => fun n => if n = 0 then [] else if n ≤ 99 then [F] else F :: wl (itk F 99) m (n - 99)
theorem waits0 {x : Int32} (hx : x ≤ 0) {s' : Nat} {x2 : Int32} {j : Int32 → Int32 → zD → Option (Int32 × zD)} : S_LW_waits_S1 w s s' x2 j 1 x D = some (1, D) := by
  unfold S_LW_waits_S1
  simp only [↓zjpE, ↓zletE, ↓zciE, ↓zcvE, ↓zchkE, ↓reduceIte, zciE, zcvE, nI_1, hx, or_true]
theorem waitsL (hT : T + 400 < 1000000) {x2 : Int32} : ∀ m n (F : Fld) (L : List Fld) (D : zD) (T1 : Nat), n ≤ 99 * m → T1 + n ≤ T + 200 → FT F T1 → Tw w D s (F, L, V) → ∀ fuel, m < fuel → ∃ D', zlp (fun (_ : Int32) (_ : Int32) (_ : zD) => none) (S_LW_waits_S1 w s (s + 634) x2) fuel 1 (nI n) D = some (1, D') ∧ Tw w D' s (itk F n, pw L F m n, V) ∧ ∀ q, q < s → D' q = D q := by
  intro m
  induction m with
  | zero =>
    intro n F L D T1 hn hT1 hF h fuel hf
    have : n = 0 := by omega
    subst this
    match fuel, hf with
    | f + 1, _ => exact ⟨D, waits0 (by decide), h, fun _ _ => rfl⟩
  | succ m ih =>
    intro n F L D T1 hn hT1 hF h fuel hf
    match fuel, hf with
    | f + 1, hf =>
      show ∃ D', S_LW_waits_S1 w s (s + 634) x2 (zlp (fun (_ : Int32) (_ : Int32) (_ : zD) => none) (S_LW_waits_S1 w s (s + 634) x2) f) 1 (nI n) D = _ ∧ _
      by_cases h0 : n = 0
      · subst h0
        have e : pw L F (m + 1) 0 = L := by
          show (if 0 = 0 then L else if 0 ≤ 99 then push L F else pw (push L F) (itk F 99) m (0 - 99)) = L
          exact if_pos rfl
        refine ⟨D, waits0 (by decide), ?_, fun _ _ => rfl⟩
        rw [e]; exact h
      · have c0 : ¬ nI n ≤ 0 := nI_nle (by omega) (by omega)
        by_cases h9 : n ≤ 99
        · obtain ⟨v, D1, D2, a1, a2, a3, a4, a5⟩ := w_ticks hF (by omega) (n := n) ⟨by omega, h9⟩ h
          have c9 : nI n ≤ 99 := nI_le h9 (by decide)
          have hx : nI n + (-99 : Int32) ≤ 0 := by
            have := le_refl32 (x := nI n)
            generalize nI n = y at *
            have c0' : 0 < y := Int32.not_le.1 c0
            clear this c0 a1 a2
            grind
          have hstep : ∀ j, S_LW_waits_S1 w s (s + 634) x2 j 1 (nI n) D = j 1 (nI n + -99) D2 := fun j => by
            unfold S_LW_waits_S1
            simp only [↓zjpE, ↓zletE, ↓zciE, ↓zcvE, ↓zchkE, ↓reduceIte, zciE, zcvE, nI_1, d10, c0, c9, ↓cl_0, ↓cl_1, ↓cl_2, ↓cl_3, ↓cl_4, ↓cl_5, ↓cl_6, ↓cl_7, ↓cl_8, ↓cl_9, ↓cl_10, ↓cl_11, ↓cl_12, ↓cl_13, ↓cl_14, ↓cl_15, ↓cl_16, ↓zciX a1, ↓zciX a2, a3]
          refine ⟨D2, ?_, ?_, a5⟩
          · rw [hstep]
            match f, hf with
            | g + 1, _ => exact waits0 hx
          · show Tw w D2 s (itk F n, (if n = 0 then L else if n ≤ 99 then push L F else _), V)
            rw [if_neg h0, if_pos h9]; exact a4
        · obtain ⟨v, D1, D2, a1, a2, a3, a4, a5⟩ := w_ticks hF (by omega) (n := 99) ⟨by omega, by omega⟩ h
          have c9 : ¬ nI n ≤ 99 := nI_ge (show 99 < n by omega) (by omega)
          have hx : nI n + (-99 : Int32) = nI (n - 99) := by
            rw [← pk_sub (show 99 ≤ n by omega)]
            have : nI 99 = 99 := rfl
            rw [this]
            generalize nI n = y
            grind
          have a1' : f_LW_tryTicks w D s (99 : Int32) = some (v, D1) := a1
          have a2' : f_LW_tryTicks w D1 (s + 634) (99 : Int32) = some (v, D2) := a2
          have hstep : ∀ j, S_LW_waits_S1 w s (s + 634) x2 j 1 (nI n) D = j 1 (nI (n - 99)) D2 := fun j => by
            unfold S_LW_waits_S1
            simp only [↓zjpE, ↓zletE, ↓zciE, ↓zcvE, ↓zchkE, ↓reduceIte, zciE, zcvE, nI_1, d10, c0, c9, ↓cl_0, ↓cl_1, ↓cl_2, ↓cl_3, ↓cl_4, ↓cl_5, ↓cl_6, ↓cl_7, ↓cl_8, ↓cl_9, ↓cl_10, ↓cl_11, ↓cl_12, ↓cl_13, ↓cl_14, ↓cl_15, ↓cl_16, ↓zciX a1', ↓zciX a2', a3, hx]
          obtain ⟨D3, b1, b2, b3⟩ := ih (n - 99) (itk F 99) (push L F) D2 (T1 + 99) (by omega) (by omega) (addT hF (by omega) (by omega)).1 a4 f (by omega)
          refine ⟨D3, by rw [hstep]; exact b1, ?_, fun q hq => (b3 q hq).trans (a5 q hq)⟩
          show Tw w D3 s (itk F n, (if n = 0 then L else if n ≤ 99 then push L F else pw (push L F) (itk F 99) m (n - 99)), V)
          rw [if_neg h0, if_neg h9]
          rw [itk_add, show 99 + (n - 99) = n by omega] at b2
          exact b2
theorem l_waits (hT : T + 400 < 1000000) (hF : FT F T) {n : Nat} (hn : n ≤ 200) (h : Tw w D s (F, L, V)) : ∃ D', f_LW_waits w D s (s + 634) (nI n) = some (1, D') ∧ Tw w D' s (itk F n, pw L F 3 n, V) ∧ ∀ q, q < s → D' q = D q := by
  rw [u_LW_waits]
  simp only [↓zjpE]
  exact waitsL hT 3 n F L D T (by omega) (by omega) hF h 6 (by omega)
theorem push_drop {d : Nat} {X : List Fld} (hX : X.length < 14) (h14 : (L.drop d ++ X).length ≤ 14) : ∃ d', push (L.drop d ++ X) F = L.drop d' ++ (X ++ [F]) := by
  unfold push
  by_cases hlt : (L.drop d ++ X).length < 14
  · exact ⟨d, by rw [if_pos hlt, List.append_assoc]⟩
  · rw [if_neg hlt]
    have hne : 1 ≤ (L.drop d).length := by rw [List.length_append] at hlt h14; omega
    refine ⟨d + 1, ?_⟩
    rw [List.drop_append_of_le_length hne, List.drop_drop, List.append_assoc]
theorem pw_drop : ∀ m n (F : Fld) (d : Nat) (X : List Fld), X.length + m < 14 → (L.drop d ++ X).length ≤ 14 → ∃ d', pw (L.drop d ++ X) F m n = L.drop d' ++ (X ++ wl F m n) ∧ (L.drop d' ++ (X ++ wl F m n)).length ≤ 14 := by
  intro m
  induction m with
  | zero => intro n F d X h1 h2; exact ⟨d, by show _ = _ ++ (X ++ []); rw [List.append_nil]; rfl, by show (_ ++ (X ++ [])).length ≤ 14; rw [List.append_nil]; exact h2⟩
  | succ m ih =>
    intro n F d X h1 h2
    show ∃ d', (if n = 0 then _ else if n ≤ 99 then push (L.drop d ++ X) F else pw (push (L.drop d ++ X) F) (itk F 99) m (n - 99)) = L.drop d' ++ (X ++ (if n = 0 then [] else if n ≤ 99 then [F] else F :: wl (itk F 99) m (n - 99))) ∧ (L.drop d' ++ (X ++ (if n = 0 then [] else if n ≤ 99 then [F] else F :: wl (itk F 99) m (n - 99)))).length ≤ 14
    have hp := (push_len (F := F) h2).1
    by_cases h0 : n = 0
    · rw [if_pos h0, if_pos h0, List.append_nil]; exact ⟨d, rfl, h2⟩
    · rw [if_neg h0, if_neg h0]
      obtain ⟨d1, e1⟩ := push_drop (F := F) (L := L) (d := d) (X := X) (by omega) h2
      rw [e1] at hp
      by_cases h9 : n ≤ 99
      · rw [if_pos h9, if_pos h9]; exact ⟨d1, e1, hp⟩
      · rw [if_neg h9, if_neg h9, e1]
        obtain ⟨d2, e2, l2⟩ := ih (n - 99) (itk F 99) d1 (X ++ [F]) (by rw [List.length_append]; simp only [List.length_cons, List.length_nil]; omega) hp
        have ea : X ++ [F] ++ wl (itk F 99) m (n - 99) = X ++ F :: wl (itk F 99) m (n - 99) := by rw [List.append_assoc]; rfl
        rw [ea] at e2 l2
        exact ⟨d2, e2, l2⟩
theorem wl_len : ∀ m n (F : Fld), n ≤ 99 * m → (wl F m n).length = (n + 98) / 99 := by
  intro m
  induction m with
  | zero => intro n F hn; have : n = 0 := by omega
            subst this; rfl
  | succ m ih =>
    intro n F hn
    show (if n = 0 then [] else if n ≤ 99 then [F] else F :: wl (itk F 99) m (n - 99)).length = _
    by_cases h0 : n = 0
    · subst h0; rfl
    · rw [if_neg h0]
      by_cases h9 : n ≤ 99
      · rw [if_pos h9]; show 1 = _; omega
      · rw [if_neg h9, List.length_cons, ih _ _ (by omega)]; omega
theorem wl_FT (hT : T + 400 < 1000000) : ∀ m n (F : Fld) (T1 : Nat), T1 + n ≤ T + 200 → FT F T1 → ∀ f, f ∈ wl F m n → FT f (T + 200) := by
  intro m
  induction m with
  | zero => intro n F T1 _ _ f hf; cases hf
  | succ m ih =>
    intro n F T1 hn hF f hf
    have hf : f ∈ (if n = 0 then [] else if n ≤ 99 then [F] else F :: wl (itk F 99) m (n - 99)) := hf
    by_cases h0 : n = 0
    · rw [if_pos h0] at hf; cases hf
    · rw [if_neg h0] at hf
      by_cases h9 : n ≤ 99
      · rw [if_pos h9] at hf
        rw [List.mem_singleton.1 hf]; exact FT_le hF (by omega)
      · rw [if_neg h9] at hf
        rcases List.mem_cons.1 hf with rfl | hf
        · exact FT_le hF (by omega)
        · exact ih (n - 99) (itk F 99) (T1 + 99) (by omega) (addT hF (by omega) (by omega)).1 f hf
theorem wl_head {m n : Nat} (hm : 0 < m) (h0 : 0 < n) : ∃ Y, wl F m n = F :: Y := by
  match m, hm with
  | m + 1, _ =>
    show ∃ Y, (if n = 0 then [] else if n ≤ 99 then [F] else F :: wl (itk F 99) m (n - 99)) = F :: Y
    rw [if_neg (by omega)]
    by_cases h9 : n ≤ 99
    · rw [if_pos h9]; exact ⟨[], rfl⟩
    · rw [if_neg h9]; exact ⟨_, rfl⟩
theorem w_undo {y : Fld} (hy : NZ y ∧ RZ y) (hG : NZ G ∧ RZ G) (h : Tw w D s (G, Z ++ [y], V)) : ∃ D1 D2, f_LW_tryUndo w D s = some (nI Z.length, D1) ∧ f_LW_tryUndo w D1 (s + 634) = some (nI Z.length, D2) ∧ Z.length ≤ 14 ∧ Tw w D2 s (y, Z, V) ∧ ∀ q, q < s → D2 q = D q := by
  have hl : Z.length ≤ 14 := by
    obtain ⟨-, -, ⟨-, -, -, -, ⟨p, -, -, -, b4, -⟩, -⟩, -⟩ := h
    have b4 : (Z ++ [y]).length ≤ 14 := b4
    rw [List.length_append] at b4; omega
  obtain ⟨D1, D2, a1, a2, a3, a4⟩ := two (v := nI Z.length) (fun D s => f_LW_tryUndo w D s) (fun D s hw hA => by
    obtain ⟨D', b1, b2, b3⟩ := a_undo hw hA hy hG
    exact ⟨D', t_tryUndo hw b1, b2, b3⟩) h
  exact ⟨D1, D2, a1, a2, hl, a3, a4⟩
/-- so many undos are left -/
def XK (x : Int32) (k : Nat) : Prop := (x ≤ 0 ∧ k = 0) ∨ ∃ n, 1 ≤ n ∧ n ≤ 1000 ∧ x = nI n ∧ k = (n + 98) / 99
theorem XK_s {x : Int32} {k : Nat} (h : XK x (k + 1)) : ¬ x ≤ 0 ∧ XK (x + -99) k := by
  rcases h with ⟨-, h⟩ | ⟨n, h1, h2, rfl, h4⟩
  · omega
  · have c0 : ¬ nI n ≤ 0 := nI_nle (by omega) (by omega)
    refine ⟨c0, ?_⟩
    by_cases h9 : n ≤ 99
    · refine Or.inl ⟨?_, by omega⟩
      have c9 : nI n ≤ 99 := nI_le h9 (by decide)
      generalize nI n = y at *
      have c0' : 0 < y := Int32.not_le.1 c0
      clear h4 c0
      grind
    · refine Or.inr ⟨n - 99, by omega, by omega, ?_, by omega⟩
      rw [← pk_sub (show 99 ≤ n by omega)]
      have : nI 99 = 99 := rfl
      rw [this]
      generalize nI n = y
      grind
theorem undoes0 {x : Int32} (hx : x ≤ 0) {s' : Nat} {x2 : Int32} {j : Int32 → Int32 → zD → Option (Int32 × zD)} : S_LW_undoes_S1 w s s' x2 j 1 x D = some (1, D) := by
  unfold S_LW_undoes_S1
  simp only [↓zjpE, ↓zletE, ↓zciE, ↓zcvE, ↓zchkE, ↓reduceIte, zciE, zcvE, nI_1, hx, or_true]
theorem undoesL {x2 : Int32} : ∀ k (x : Int32) (Y : List Fld) (G : Fld) (D : zD), XK x k → Y.length = k → (∀ f, f ∈ Y → NZ f ∧ RZ f) → (NZ G ∧ RZ G) → Tw w D s (G, Z ++ Y, V) → ∀ fuel, k < fuel → ∃ D' G', zlp (fun (_ : Int32) (_ : Int32) (_ : zD) => none) (S_LW_undoes_S1 w s (s + 634) x2) fuel 1 x D = some (1, D') ∧ Tw w D' s (G', Z, V) ∧ (∀ f Y', Y = f :: Y' → G' = f) ∧ (Y = [] → G' = G) ∧ ∀ q, q < s → D' q = D q := by
  intro k
  induction k with
  | zero =>
    intro x Y G D hx hY hz hG h fuel hf
    have hY0 : Y = [] := List.eq_nil_of_length_eq_zero hY
    subst hY0
    have hx0 : x ≤ 0 := by
      rcases hx with ⟨h1, -⟩ | ⟨n, h1, h2, rfl, h4⟩
      · exact h1
      · omega
    rw [List.append_nil] at h
    match fuel, hf with
    | f + 1, _ => exact ⟨D, G, undoes0 hx0, h, (fun f Y' he => nomatch he), (fun _ => rfl), fun _ _ => rfl⟩
  | succ k ih =>
    intro x Y G D hx hY hz hG h fuel hf
    obtain ⟨c0, hx'⟩ := XK_s hx
    have hne : Y ≠ [] := fun he => by rw [he] at hY; cases hY
    have hYe := List.dropLast_concat_getLast hne
    generalize Y.dropLast = Y1 at hYe
    generalize Y.getLast hne = y at hYe
    subst hYe
    rw [← List.append_assoc] at h
    obtain ⟨D1, D2, a1, a2, a3, a4, a5⟩ := w_undo (hz y (List.mem_append_right _ (List.mem_singleton_self y))) hG h
    obtain ⟨e1, e2, e3⟩ := nI_pv (n := (Z ++ Y1).length) (by omega)
    have hstep : ∀ j, S_LW_undoes_S1 w s (s + 634) x2 j 1 x D = j 1 (x + -99) D2 := fun j => by
      unfold S_LW_undoes_S1
      simp only [↓zjpE, ↓zletE, ↓zciE, ↓zcvE, ↓zchkE, ↓reduceIte, zciE, zcvE, nI_1, d10, c0, ↓cl_0, ↓cl_1, ↓cl_2, ↓cl_3, ↓cl_4, ↓cl_5, ↓cl_6, ↓cl_7, ↓cl_8, ↓cl_9, ↓cl_10, ↓cl_11, ↓cl_12, ↓cl_13, ↓cl_14, ↓cl_15, ↓cl_16, ↓zciX a1, ↓zciX a2, ↓zciX (thr0 e1 e2 e3)]
    match fuel, hf with
    | f + 1, hf =>
      obtain ⟨D', G', b1, b2, b3, b4, b5⟩ := ih (x + -99) Y1 y D2 hx' (by rw [List.length_append] at hY; simp only [List.length_cons, List.length_nil] at hY; omega) (fun g hg => hz g (List.mem_append_left _ hg)) (hz y (List.mem_append_right _ (List.mem_singleton_self y))) a4 f (by omega)
      refine ⟨D', G', ?_, b2, ?_, (fun he => by cases Y1 <;> cases he), fun q hq => (b5 q hq).trans (a5 q hq)⟩
      · show S_LW_undoes_S1 w s (s + 634) x2 _ 1 x D = _
        rw [hstep]; exact b1
      · intro f' Y' he
        match Y1, he with
        | [], he => cases he; exact b4 rfl
        | g :: Y2, he => cases he; exact b3 _ _ rfl
/-- back again -/
theorem l_back (hT : T + 400 < 1000000) (hF : FT F T) {n : Nat} (hn : n ≤ 200) (h : Tw w D s (itk F n, Z ++ wl F 3 n, V)) : ∃ D', f_LW_undoes w D s (s + 634) (nI n) = some (1, D') ∧ Tw w D' s (F, Z, V) ∧ ∀ q, q < s → D' q = D q := by
  have hx : XK (nI n) ((n + 98) / 99) := by
    by_cases h0 : n = 0
    · subst h0; exact Or.inl ⟨by decide, rfl⟩
    · exact Or.inr ⟨n, by omega, by omega, rfl, rfl⟩
  obtain ⟨D', G', a1, a2, a3, a4, a5⟩ := undoesL (x2 := nI n) ((n + 98) / 99) (nI n) (wl F 3 n) (itk F n) D hx (wl_len 3 n F (by omega)) (fun f hf => FT_NZ (wl_FT hT 3 n F T (by omega) hF f hf)) (FT_NZ (addT hF (by omega) (by omega)).1) h 6 (by omega)
  have hG : G' = F := by
    by_cases h0 : n = 0
    · subst h0; exact a4 rfl
    · obtain ⟨Y, hY⟩ := wl_head (F := F) (m := 3) (n := n) (by omega) (by omega)
      exact a3 _ _ hY
  rw [hG] at a2
  refine ⟨D', ?_, a2, a5⟩
  rw [u_LW_undoes]
  simp only [↓zjpE]
  exact a1
end P64
