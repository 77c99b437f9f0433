/-! PURE: what holds in each field. -/
theorem rl1001 {x : Nat} (hx : x < 2 ^ 31) : zirem (nI x) (1001 : Int32) = nI (x % 1001) := by
  unfold zirem; rw [zl 1001, pk_rem hx (by decide) (by decide)]
theorem sum0 {f : Nat → Nat} : ∀ n, (∀ i, i < n → f i = 0) → sumN f n = 0
  | 0, _ => rfl
  | n + 1, h => by
    show sumN f n + f n = 0
    rw [sum0 n (fun i hi => h i (by omega)), h n (by omega)]
theorem sum4 {f : Nat → Nat} {n : Nat} (hn : n ≤ 4) (h : ∀ i, n ≤ i → i < 4 → f i = 0) : sumN f n = sumN f 4 := by
  have hc : n = 0 ∨ n = 1 ∨ n = 2 ∨ n = 3 ∨ n = 4 := by omega
  have e4 : sumN f 4 = 0 + f 0 + f 1 + f 2 + f 3 := rfl
  rw [e4]
  rcases hc with rfl | rfl | rfl | rfl | rfl
  · have q0 := h 0 (by omega) (by omega)
    have q1 := h 1 (by omega) (by omega)
    have q2 := h 2 (by omega) (by omega)
    have q3 := h 3 (by omega) (by omega)
    show 0 = _
    omega
  · have q1 := h 1 (by omega) (by omega)
    have q2 := h 2 (by omega) (by omega)
    have q3 := h 3 (by omega) (by omega)
    show 0 + f 0 = _
    omega
  · have q2 := h 2 (by omega) (by omega)
    have q3 := h 3 (by omega) (by omega)
    show 0 + f 0 + f 1 = _
    omega
  · have q3 := h 3 (by omega) (by omega)
    show 0 + f 0 + f 1 + f 2 = _
    omega
  · rfl
def row (N : Nat → Nat) (h : Nat) : Nat → Nat := sumN (fun s => N (4 * h + s))
def tot (N : Nat → Nat) (ns : Nat) : Nat → Nat := sumN (fun h => row N h ns)
theorem sum_tot {N : Nat → Nat} {ns nh : Nat} (hn : ns ≤ 4) (hh : nh ≤ 4) (h0 : ∀ h s, h < 4 → s < 4 → (nh ≤ h ∨ ns ≤ s) → N (4 * h + s) = 0) : tot N ns nh = sumN N 16 := by
  have hr : ∀ h, h < 4 → row N h ns = sumN (fun s => N (4 * h + s)) 4 := fun h hh => sum4 hn (fun i h1 h2 => h0 h i hh h2 (Or.inr h1))
  have ht : tot N ns nh = sumN (fun h => row N h ns) 4 := sum4 hh (fun i h1 h2 => sum0 ns (fun j hj => h0 i j h2 (by omega) (Or.inl h1)))
  have e4 : sumN (fun h => row N h ns) 4 = 0 + row N 0 ns + row N 1 ns + row N 2 ns + row N 3 ns := rfl
  have e16 : sumN N 16 = 0 + N 0 + N 1 + N 2 + N 3 + N 4 + N 5 + N 6 + N 7 + N 8 + N 9 + N 10 + N 11 + N 12 + N 13 + N 14 + N 15 := rfl
  have r0 : row N 0 ns = 0 + N 0 + N 1 + N 2 + N 3 := hr 0 (by omega)
  have r1 : row N 1 ns = 0 + N 4 + N 5 + N 6 + N 7 := hr 1 (by omega)
  have r2 : row N 2 ns = 0 + N 8 + N 9 + N 10 + N 11 := hr 2 (by omega)
  have r3 : row N 3 ns = 0 + N 12 + N 13 + N 14 + N 15 := hr 3 (by omega)
  clear hr h0
  omega
def gC (r p : Nat) : Bool := decide (r = 0) || decide (8 * r ≤ p) || (decide (¬ nI r < ab (pX 0 (nI r) (nI p))) && decide (¬ nI r < ab (pY 0 (nI r) (nI p))) && decide (ab (pX 0 (nI r) (nI p)) = nI r ∨ ab (pY 0 (nI r) (nI p)) = nI r) && decide (nI p = 0 → pX 0 (nI r) (nI p) = -nI r ∧ pY 0 (nI r) (nI p) = -nI r) && decide (nI p = 4 * nI r → pX 0 (nI r) (nI p) = nI r ∧ pY 0 (nI r) (nI p) = nI r))
theorem g_dec0 : ∀ r, r < 6 → ∀ p, p < 41 → gC r p = true := by decide +kernel
theorem pX_0 {x r p : Int32} : pX x r p - x = pX 0 r p := by unfold pX; grind
theorem pY_0 {x r p : Int32} : pY x r p - x = pY 0 r p := by unfold pY; grind
theorem ring_ok {x y r sp pd on pl : Int32} (h : Is1 x y r sp pd on pl) : ¬ r < ab (pX x r pl - x) ∧ ¬ r < ab (pY y r pl - y) ∧ (ab (pX x r pl - x) = r ∨ (¬ ab (pX x r pl - x) = r ∧ ab (pY y r pl - y) = r)) ∧ (¬ pl = 0 ∨ (pl = 0 ∧ pX x r pl - x = -r ∧ pY y r pl - y = -r)) ∧ (¬ pl = 4 * r ∨ (pl = 4 * r ∧ pX x r pl - x = r ∧ pY y r pl - y = r)) := by
  obtain ⟨-, -, -, -, h1, h2, -, -, -, -, -, h3, h4⟩ := h
  rw [pX_0, pY_0]
  obtain ⟨r', hr, rfl⟩ := rg_nI (n := 5) (x := r) (by grind) h2 (by decide)
  obtain ⟨p', hp, rfl⟩ := rg_nI (n := 40) (x := pl) h3 (by
    have h40 : (8 : Int32) * nI r' ≤ 40 := by
      have e : (nI 40 : Int32) = 40 := rfl
      grind
    have e : (nI 40 : Int32) = 40 := rfl
    rw [e]
    grind) (by decide)
  have hr0 : ¬ r' = 0 := fun e => by subst e; exact absurd h1 (by decide)
  have hp8 : ¬ 8 * r' ≤ p' := fun e => by
    have e8 : (8 : Int32) * nI r' = nI (8 * r') := (show ∀ r, r < 6 → (8 : Int32) * nI r = nI (8 * r) from by decide) r' (by omega)
    rw [e8, nI_ltI (by omega) (by omega)] at h4
    omega
  have := g_dec0 r' (by omega) p' (by omega)
  unfold gC at this
  simp only [Bool.or_eq_true, Bool.and_eq_true, decide_eq_true_eq, hr0, hp8, false_or] at this
  obtain ⟨⟨⟨⟨a1, a2⟩, a3⟩, a4⟩, a5⟩ := this
  refine ⟨a1, a2, ?_, ?_, ?_⟩
  · by_cases hc : ab (pX 0 (nI r') (nI p')) = nI r'
    · exact Or.inl hc
    · exact Or.inr ⟨hc, a3.resolve_left hc⟩
  · by_cases hc : nI p' = 0
    · exact Or.inr ⟨hc, a4 hc⟩
    · exact Or.inl hc
  · by_cases hc : nI p' = 4 * nI r'
    · exact Or.inr ⟨hc, a5 hc⟩
    · exact Or.inl hc
theorem nst_ne {G : Fld} {x y : Int32} {n : Nat} (h0 : 0 < n) (hn : n ≤ 4) : ¬ (nst G x y n).1 = -1 := by
  obtain ⟨k, rfl⟩ : ∃ k, n = k + 1 := ⟨n - 1, by omega⟩
  unfold nst
  split
  · exact nI_ne_m1 (by omega)
  · rename_i h
    exact fun e => h (Or.inl e)
theorem ab_40 {x : Int32} (h : -40 ≤ x ∧ x ≤ 40) : ¬ (40 : Int32) < ab x := by unfold ab; grind
theorem ab_2 {x : Int32} (h : -2 ≤ x ∧ x ≤ 2) : ¬ (2 : Int32) < ab x := by unfold ab; grind
section P70
variable {w : zW} {D : zD} {s T : Nat} {F G : Fld} {L X : List Fld} {V : Nat → Option Fld} {ns nh np p : Nat}
/-- the rings -/
theorem holds1L (hw : WL w s) (hF : HF D (s + 4) F) (h1 : F 1 7 = nI ns) (hn : ns ≤ 4) (hS : IS F ns) (h7 : 1 ≤ F 0 7 ∧ F 0 7 ≤ 9) {n : Nat} (hn31 : n < 2 ^ 31) {a3 a4 a5 a7 a8 a9 a10 : Int32} : ∀ m k, k + m = ns → ∀ fuel, m < fuel → zlp (fun (_ : Int32) (_ : Int32) (_ : Int32) (_ : Int32) (_ : Int32) (_ : Int32) (_ : Int32) (_ : Int32) (_ : Int32) (_ : Int32) (_ : zD) => none) (S_LW_holds_S1 w s (nI n)) fuel (nI ns) a3 a4 a5 1 a7 a8 a9 a10 (nI k) D = zlp (fun (_ : Int32) (_ : Int32) (_ : Int32) (_ : Int32) (_ : Int32) (_ : Int32) (_ : Int32) (_ : Int32) (_ : Int32) (_ : Int32) (_ : zD) => none) (S_LW_holds_S2 w s (nI n)) 6 (nI ns) a3 a4 a5 1 a7 a8 a9 a10 0 D := by
  intro m
  induction m with
  | zero =>
    intro k hk fuel hf
    have hk : k = ns := hk
    subst hk
    have hle : nI k ≤ nI k := le_refl32
    match fuel, hf with
    | f + 1, _ =>
      show S_LW_holds_S1 w s (nI n) _ (nI k) a3 a4 a5 1 a7 a8 a9 a10 (nI k) D = _
      unfold S_LW_holds_S1
      simp only [↓zjpE, ↓zletE, ↓zciE, ↓zcvE, ↓zchkE, ↓reduceIte, zciE, zcvE, nI_1, hle]
  | succ m ih =>
    intro k hk fuel hf
    have hkn : k < ns := by omega
    have hle : ¬ nI ns ≤ nI k := nI_ge hkn (by omega)
    have h0n : 0 < ns := by omega
    obtain ⟨g1, g2, g3, g4, g5⟩ := ring_ok (hS k hkn)
    obtain ⟨-, -, -, -, -, -, -, -, -, -, -, i3, i4⟩ := hS k hkn
    have c2 : f_LW_trySiren w D s (nI k) 2 = some (F 4 k, D) := t_trySiren hw (qs_2 hw hF h1 hn hS hkn)
    have c6' : f_LW_trySiren w D s (nI k) 6 = some (F 7 k, D) := t_trySiren hw (qs_6 hw hF h1 hn hS hkn)
    have c7 : f_LW_trySiren w D s (nI k) 7 = some (pX (F 2 k) (F 4 k) (F 7 k), D) := t_trySiren hw (qs_7 hw hF h1 hn hS hkn)
    have c0 : f_LW_trySiren w D s (nI k) 0 = some (F 2 k, D) := t_trySiren hw (qs_0 hw hF h1 hn hS hkn)
    have c8 : f_LW_trySiren w D s (nI k) 8 = some (pY (F 3 k) (F 4 k) (F 7 k), D) := t_trySiren hw (qs_8 hw hF h1 hn hS hkn)
    have c1 : f_LW_trySiren w D s (nI k) 1 = some (F 3 k, D) := t_trySiren hw (qs_1 hw hF h1 hn hS hkn)
    have c9 : f_LW_trySiren w D s (nI k) 9 = some (if ab (F 5 k) ≤ F 0 7 then 0 else 1, D) := t_trySiren hw (qs_9 hw hF h1 hn hS hkn)
    have c3 : f_LW_trySiren w D s (nI k) 3 = some (F 5 k, D) := t_trySiren hw (qs_3 hw hF h1 hn hS hkn)
    have z9 : f_LW_trySiren w D s (0 : Int32) 9 = some (if ab (F 5 0) ≤ F 0 7 then 0 else 1, D) := t_trySiren hw (qs_9 (i := 0) hw hF h1 hn hS h0n)
    have z3 : f_LW_trySiren w D s (0 : Int32) 3 = some (F 5 0, D) := t_trySiren hw (qs_3 (i := 0) hw hF h1 hn hS h0n)
    have y0 : f_LW_tryIn w D s (nI k) (zirem (nI n) 1001) 0 = some (aft F k (n % 1001), D) := by
      rw [rl1001 hn31]; exact t_tryIn hw (qi_0 hw hF h1 hn hS hkn (by omega))
    have y1 : f_LW_tryIn w D s (nI k) (zirem (nI n) 1001) 1 = some (aft F k (n % 1001), D) := by
      rw [rl1001 hn31]; exact t_tryIn hw (qi_1 hw hF h1 hn hS hkn (by omega))
    have y2 : f_LW_tryIn w D s (nI k) 0 1 = some (F 7 k, D) := by
      rw [← aft_0 (hS k hkn)]; exact t_tryIn hw (qi_1 (n := 0) hw hF h1 hn hS hkn (by omega))
    have hD : (if ab (F 5 k) ≤ F 0 7 then (0 : Int32) else 1) = 0 ∨ (¬ (if ab (F 5 k) ≤ F 0 7 then (0 : Int32) else 1) = 0 ∧ ¬ ab (F 5 k) ≤ 1) := by
      have := h7.1
      generalize ab (F 5 k) = u
      generalize F 0 7 = v at this
      clear g1 g2 g3 g4 g5 ih
      grind
    have hE : (ab (F 5 k) ≤ ab (F 5 0) ∧ ¬ (if ab (F 5 0) ≤ F 0 7 then (0 : Int32) else 1) < (if ab (F 5 k) ≤ F 0 7 then (0 : Int32) else 1)) ∨ (¬ ab (F 5 k) ≤ ab (F 5 0) ∧ ¬ (if ab (F 5 k) ≤ F 0 7 then (0 : Int32) else 1) < (if ab (F 5 0) ≤ F 0 7 then (0 : Int32) else 1)) := by
      generalize ab (F 5 k) = u
      generalize ab (F 5 0) = u'
      generalize F 0 7 = v
      clear g1 g2 g3 g4 g5 ih
      grind
    generalize (if ab (F 5 k) ≤ F 0 7 then (0 : Int32) else 1) = sk at *
    generalize (if ab (F 5 0) ≤ F 0 7 then (0 : Int32) else 1) = sz at *
    have n0 : ¬ F 7 k < 0 := Int32.not_lt.2 i3
    have n8 : ¬ 8 * F 4 k ≤ F 7 k := Int32.not_le.2 i4
    have hstep : ∀ j, S_LW_holds_S1 w s (nI n) j (nI ns) a3 a4 a5 1 a7 a8 a9 a10 (nI k) D = j (nI ns) a3 a4 a5 1 a7 a8 a9 a10 (nI (k + 1)) D := fun j => by
      unfold S_LW_holds_S1
      simp only [↓zjpE, ↓zletE, ↓zciE, ↓zcvE, ↓zchkE, ↓reduceIte, zciE, zcvE, nI_1, ↓cl_0, ↓cl_1, ↓cl_2, ↓cl_3, ↓cl_4, ↓cl_5, ↓cl_6, ↓cl_7, ↓cl_8, ↓cl_9, ↓cl_10, ↓cl_11, ↓cl_12, ↓cl_13, ↓cl_14, ↓cl_15, ↓cl_16, d10, hle, ↓zciX c2, ↓zciX c6', ↓zciX c7, ↓zciX c0, ↓zciX c8, ↓zciX c1, n0, n8, ↓zciX (siz _), g1, g2, ↓zciX c9, ↓zciX c3, ↓zciX z9, ↓zciX z3, ↓zciX y0, ↓zciX y1, ↓zciX y2]
      rcases g3 with g3 | ⟨g3, g3'⟩ <;> rcases g4 with g4 | ⟨g4, g4', g4''⟩ <;> rcases g5 with g5 | ⟨g5, g5', g5''⟩ <;> rcases hD with hD | ⟨hD, hD'⟩ <;> rcases hE with ⟨hE, hE'⟩ | ⟨hE, hE'⟩
      · simp only [↓reduceIte, eq_true g3, eq_false g4, eq_false g5, eq_true hD, eq_true hE, eq_false hE']
      · simp only [↓reduceIte, eq_true g3, eq_false g4, eq_false g5, eq_true hD, eq_false hE, eq_false hE']
      · simp only [↓reduceIte, eq_true g3, eq_false g4, eq_false g5, eq_false hD, eq_false hD', eq_true hE, eq_false hE']
      · simp only [↓reduceIte, eq_true g3, eq_false g4, eq_false g5, eq_false hD, eq_false hD', eq_false hE, eq_false hE']
      · simp only [↓reduceIte, eq_true g3, eq_false g4, eq_true g5, eq_true g5', eq_true g5'', eq_true hD, eq_true hE, eq_false hE']
      · simp only [↓reduceIte, eq_true g3, eq_false g4, eq_true g5, eq_true g5', eq_true g5'', eq_true hD, eq_false hE, eq_false hE']
      · simp only [↓reduceIte, eq_true g3, eq_false g4, eq_true g5, eq_true g5', eq_true g5'', eq_false hD, eq_false hD', eq_true hE, eq_false hE']
      · simp only [↓reduceIte, eq_true g3, eq_false g4, eq_true g5, eq_true g5', eq_true g5'', eq_false hD, eq_false hD', eq_false hE, eq_false hE']
      · simp only [↓reduceIte, eq_true g3, eq_true g4, eq_true g4', eq_true g4'', eq_false g5, eq_true hD, eq_true hE, eq_false hE']
      · simp only [↓reduceIte, eq_true g3, eq_true g4, eq_true g4', eq_true g4'', eq_false g5, eq_true hD, eq_false hE, eq_false hE']
      · simp only [↓reduceIte, eq_true g3, eq_true g4, eq_true g4', eq_true g4'', eq_false g5, eq_false hD, eq_false hD', eq_true hE, eq_false hE']
      · simp only [↓reduceIte, eq_true g3, eq_true g4, eq_true g4', eq_true g4'', eq_false g5, eq_false hD, eq_false hD', eq_false hE, eq_false hE']
      · simp only [↓reduceIte, eq_true g3, eq_true g4, eq_true g4', eq_true g4'', eq_true g5, eq_true g5', eq_true g5'', eq_true hD, eq_true hE, eq_false hE']
      · simp only [↓reduceIte, eq_true g3, eq_true g4, eq_true g4', eq_true g4'', eq_true g5, eq_true g5', eq_true g5'', eq_true hD, eq_false hE, eq_false hE']
      · simp only [↓reduceIte, eq_true g3, eq_true g4, eq_true g4', eq_true g4'', eq_true g5, eq_true g5', eq_true g5'', eq_false hD, eq_false hD', eq_true hE, eq_false hE']
      · simp only [↓reduceIte, eq_true g3, eq_true g4, eq_true g4', eq_true g4'', eq_true g5, eq_true g5', eq_true g5'', eq_false hD, eq_false hD', eq_false hE, eq_false hE']
      · simp only [↓reduceIte, eq_false g3, eq_true g3', eq_false g4, eq_false g5, eq_true hD, eq_true hE, eq_false hE']
      · simp only [↓reduceIte, eq_false g3, eq_true g3', eq_false g4, eq_false g5, eq_true hD, eq_false hE, eq_false hE']
      · simp only [↓reduceIte, eq_false g3, eq_true g3', eq_false g4, eq_false g5, eq_false hD, eq_false hD', eq_true hE, eq_false hE']
      · simp only [↓reduceIte, eq_false g3, eq_true g3', eq_false g4, eq_false g5, eq_false hD, eq_false hD', eq_false hE, eq_false hE']
      · simp only [↓reduceIte, eq_false g3, eq_true g3', eq_false g4, eq_true g5, eq_true g5', eq_true g5'', eq_true hD, eq_true hE, eq_false hE']
      · simp only [↓reduceIte, eq_false g3, eq_true g3', eq_false g4, eq_true g5, eq_true g5', eq_true g5'', eq_true hD, eq_false hE, eq_false hE']
      · simp only [↓reduceIte, eq_false g3, eq_true g3', eq_false g4, eq_true g5, eq_true g5', eq_true g5'', eq_false hD, eq_false hD', eq_true hE, eq_false hE']
      · simp only [↓reduceIte, eq_false g3, eq_true g3', eq_false g4, eq_true g5, eq_true g5', eq_true g5'', eq_false hD, eq_false hD', eq_false hE, eq_false hE']
      · simp only [↓reduceIte, eq_false g3, eq_true g3', eq_true g4, eq_true g4', eq_true g4'', eq_false g5, eq_true hD, eq_true hE, eq_false hE']
      · simp only [↓reduceIte, eq_false g3, eq_true g3', eq_true g4, eq_true g4', eq_true g4'', eq_false g5, eq_true hD, eq_false hE, eq_false hE']
      · simp only [↓reduceIte, eq_false g3, eq_true g3', eq_true g4, eq_true g4', eq_true g4'', eq_false g5, eq_false hD, eq_false hD', eq_true hE, eq_false hE']
      · simp only [↓reduceIte, eq_false g3, eq_true g3', eq_true g4, eq_true g4', eq_true g4'', eq_false g5, eq_false hD, eq_false hD', eq_false hE, eq_false hE']
      · simp only [↓reduceIte, eq_false g3, eq_true g3', eq_true g4, eq_true g4', eq_true g4'', eq_true g5, eq_true g5', eq_true g5'', eq_true hD, eq_true hE, eq_false hE']
      · simp only [↓reduceIte, eq_false g3, eq_true g3', eq_true g4, eq_true g4', eq_true g4'', eq_true g5, eq_true g5', eq_true g5'', eq_true hD, eq_false hE, eq_false hE']
      · simp only [↓reduceIte, eq_false g3, eq_true g3', eq_true g4, eq_true g4', eq_true g4'', eq_true g5, eq_true g5', eq_true g5'', eq_false hD, eq_false hD', eq_true hE, eq_false hE']
      · simp only [↓reduceIte, eq_false g3, eq_true g3', eq_true g4, eq_true g4', eq_true g4'', eq_true g5, eq_true g5', eq_true g5'', eq_false hD, eq_false hD', eq_false hE, eq_false hE']
    match fuel, hf with
    | f + 1, hf =>
      show S_LW_holds_S1 w s (nI n) _ (nI ns) a3 a4 a5 1 a7 a8 a9 a10 (nI k) D = _
      rw [hstep]
      exact ih (k + 1) (by omega) f (by omega)
end P70
