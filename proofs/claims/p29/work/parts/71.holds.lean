/-! PURE: what holds in each field: the hearers, the pulses, the sums. -/
section P71
variable {w : zW} {D D' : zD} {s T t : Nat} {F G : Fld} {L X : List Fld} {V : Nat → Option Fld} {ns nh np nw p : Nat} {N E W : Nat → Nat}
theorem nI_ad {a b : Nat} : nI a + nI b = nI (a + b) := nI_add a b
theorem JE1_c {i n e l : Nat} (h : JE1 F t i n e l) : (n = 0 ∧ l = 0 ∧ F 30 i = -1 ∧ F 31 i = -1) ∨ (n = 1 ∧ l = 0 ∧ (∃ u, u ≤ t ∧ F 30 i = nI u) ∧ F 31 i = -1) ∨ (2 ≤ n ∧ l ≤ n - 1 ∧ (∃ u, u ≤ t ∧ F 30 i = nI u) ∧ ∃ v, v ≤ t ∧ F 31 i = nI v) := by
  obtain ⟨j1, j2, j3, j4, j5, j6, j7, j8⟩ := h
  match n, j4, j5, j6, j7, j8 with
  | 0, j4, j5, _, j7, _ => exact Or.inl ⟨rfl, Nat.eq_zero_of_le_zero j4, (j5 rfl).1, j7 (by decide)⟩
  | 1, j4, _, j6, j7, _ => exact Or.inr (Or.inl ⟨rfl, Nat.eq_zero_of_le_zero j4, j6 (by decide), j7 (by decide)⟩)
  | k + 2, j4, _, j6, _, j8 => exact Or.inr (Or.inr ⟨Nat.le_add_left 2 k, j4, j6 (Nat.succ_pos _), j8 (Nat.le_add_left 2 k)⟩)
/-- what one hearer heard of the sirens -/
theorem holds4L (hw : WL w s) (hF : HF D (s + 4) F) (h1 : F 1 7 = nI ns) (hn : ns ≤ 4) (hS : IS F ns) (h9 : F 9 6 = nI nh) (hn9 : nh ≤ 4) (ht : t < 1000000) (hE : ∀ i, i < 16 → JE1 F t i (N i) (E i) (W i)) (hN : ∀ i, i < 16 → N i < 2 ^ 30) {n : Nat} {h : Nat} (hh : h < nh) {x0 a4 a10 : Int32} {a b c : Nat} {j431 : Int32 → Int32 → Int32 → Int32 → Int32 → Int32 → Int32 → Int32 → Int32 → Int32 → zD → Option (Int32 × zD)} : ∀ m k, k + m = ns → ∀ fuel, m < fuel → zlp (fun (_ : Int32) (_ : Int32) (_ : Int32) (_ : Int32) (_ : Int32) (_ : Int32) (_ : Int32) (_ : Int32) (_ : Int32) (_ : Int32) (_ : Int32) (_ : zD) => none) (S_LW_holds_S4 w s x0 j431) fuel (nI ns) (nI nh) a4 (nI t) 1 (nI (a + row N h k)) (nI (b + row E h k)) (nI (c + row W h k)) a10 (nI h) (nI k) D = j431 (nI ns) (nI nh) a4 (nI t) 1 (nI (a + row N h ns)) (nI (b + row E h ns)) (nI (c + row W h ns)) a10 (nI (h + 1)) D := by
  intro m
  induction m with
  | zero =>
    intro k hk fuel hf
    have hk : k = ns := hk
    subst hk
    have hle : nI k ≤ nI k := le_refl32
    match fuel, hf with
    | f + 1, _ =>
      show S_LW_holds_S4 w s x0 j431 _ (nI k) (nI nh) a4 (nI t) 1 _ _ _ a10 (nI h) (nI k) D = _
      unfold S_LW_holds_S4
      simp only [↓zjpE, ↓zletE, ↓zciE, ↓zcvE, ↓zchkE, ↓reduceIte, zciE, zcvE, nI_1, hle]
  | succ m ih =>
    intro k hk fuel hf
    have hkn : k < ns := by omega
    have hle : ¬ nI ns ≤ nI k := nI_ge hkn (by omega)
    obtain ⟨q, hq⟩ : ∃ q, q = 4 * h + k := ⟨_, rfl⟩
    have hJ := JE1_c (hE q (by omega))
    obtain ⟨j1, j2, j3, -⟩ := hE q (by omega)
    have hNq := hN q (by omega)
    have c0 : f_LW_tryHeard w D s (nI h) (nI k) 0 = some (nI (N q), D) := t_tryHeard hw (by rw [← j1, hq]; exact qe_0 hw hF h9 hn9 h1 hn hh hkn)
    have c1 : f_LW_tryHeard w D s (nI h) (nI k) 1 = some (nI (E q), D) := t_tryHeard hw (by rw [← j2, hq]; exact qe_1 hw hF h9 hn9 h1 hn hh hkn)
    have c2 : f_LW_tryHeard w D s (nI h) (nI k) 2 = some (nI (W q), D) := t_tryHeard hw (by rw [← j3, hq]; exact qe_2 hw hF h9 hn9 h1 hn hh hkn)
    have c3 : f_LW_tryHeard w D s (nI h) (nI k) 3 = some (F 30 q, D) := t_tryHeard hw (by rw [hq]; exact qe_3 hw hF h9 hn9 h1 hn hh hkn)
    have c4 : f_LW_tryHeard w D s (nI h) (nI k) 4 = some (F 31 q, D) := t_tryHeard hw (by rw [hq]; exact qe_4 hw hF h9 hn9 h1 hn hh hkn)
    have c5 : f_LW_tryHeard w D s (nI h) (nI k) 5 = some (snd' (F 31 q) (F 6 k), D) := t_tryHeard hw (by rw [hq]; exact qe_5 hw hF h9 hn9 h1 hn hh hkn)
    have s4 : f_LW_trySiren w D s (nI k) 4 = some (F 6 k, D) := t_trySiren hw (qs_4 hw hF h1 hn hS hkn)
    have ea : a + row N h (k + 1) = a + row N h k + N q := by rw [hq]; exact (Nat.add_assoc _ _ _).symm
    have eb : b + row E h (k + 1) = b + row E h k + E q := by rw [hq]; exact (Nat.add_assoc _ _ _).symm
    have ec : c + row W h (k + 1) = c + row W h k + W q := by rw [hq]; exact (Nat.add_assoc _ _ _).symm
    have hstep : ∀ j, S_LW_holds_S4 w s x0 j431 j (nI ns) (nI nh) a4 (nI t) 1 (nI (a + row N h k)) (nI (b + row E h k)) (nI (c + row W h k)) a10 (nI h) (nI k) D = j (nI ns) (nI nh) a4 (nI t) 1 (nI (a + row N h (k + 1))) (nI (b + row E h (k + 1))) (nI (c + row W h (k + 1))) a10 (nI h) (nI (k + 1)) D := fun j => by
      rw [ea, eb, ec]
      generalize a + row N h k = aa
      generalize b + row E h k = bb
      generalize c + row W h k = cc
      generalize F 6 k = y at *
      unfold S_LW_holds_S4
      rcases hJ with ⟨hc, hl, n5, n6⟩ | ⟨hc, hl, ⟨u, hu, hu'⟩, n6⟩ | ⟨hc, hl, ⟨u, hu, hu'⟩, v, hv, hv'⟩
      · have n1 : nI (N q) ≤ 0 := by rw [hc]; decide
        have n2 : nI (N q) = 0 := by rw [hc]; rfl
        have n3 : ¬ (2 : Int32) ≤ nI (N q) := by rw [hc]; decide
        have n4 : ¬ (0 : Int32) < nI (W q) := by rw [hl]; decide
        have n7 : ¬ nI t < -1 := by
          have := nI_pos (n := t) (by omega)
          generalize nI t = z at this
          clear ih
          grind
        have e5 : snd' (-1) y = -1 := by unfold snd'; exact if_pos rfl
        rw [n6] at c4 c5
        rw [e5] at c5
        rw [n5] at c3
        simp only [↓zjpE, ↓zletE, ↓zciE, ↓zcvE, ↓zchkE, ↓reduceIte, zciE, zcvE, nI_1, ↓cl_0, ↓cl_1, ↓cl_2, ↓cl_3, ↓cl_4, ↓cl_5, ↓cl_6, ↓cl_7, ↓cl_8, ↓cl_9, ↓cl_10, ↓cl_11, ↓cl_12, ↓cl_13, ↓cl_14, ↓cl_15, ↓cl_16, d10, hle, ↓zciX c0, ↓zciX c1, ↓zciX c2, ↓zciX c3, ↓zciX c4, ↓zciX c5, ↓zciX s4, eq_true n1, eq_true n2, n3, n4, n7, nI_ad]
      · have n1 : ¬ nI (N q) ≤ 0 := by rw [hc]; decide
        have n2 : ¬ nI (N q) = 0 := by rw [hc]; decide
        have n3 : ¬ (2 : Int32) ≤ nI (N q) := by rw [hc]; decide
        have n4 : ¬ nI (N q) - 1 < nI (W q) := by rw [hl, hc]; decide
        have n5 : ¬ nI u = -1 := nI_ne_m1 (by omega)
        have n7 : ¬ nI t < nI u := nI_nlt hu (by omega)
        have e5 : snd' (-1) y = -1 := by unfold snd'; exact if_pos rfl
        rw [n6] at c4 c5
        rw [e5] at c5
        rw [hu'] at c3
        simp only [↓zjpE, ↓zletE, ↓zciE, ↓zcvE, ↓zchkE, ↓reduceIte, zciE, zcvE, nI_1, ↓cl_0, ↓cl_1, ↓cl_2, ↓cl_3, ↓cl_4, ↓cl_5, ↓cl_6, ↓cl_7, ↓cl_8, ↓cl_9, ↓cl_10, ↓cl_11, ↓cl_12, ↓cl_13, ↓cl_14, ↓cl_15, ↓cl_16, d10, hle, ↓zciX c0, ↓zciX c1, ↓zciX c2, ↓zciX c3, ↓zciX c4, ↓zciX c5, ↓zciX s4, n1, n2, n3, n4, n5, n7, nI_ad]
      · have n1 : ¬ nI (N q) ≤ 0 := nI_nle (by omega) (by omega)
        have n2 : ¬ nI (N q) = 0 := fun e => absurd (nI_inj (n := 0) e (by omega) (by omega)) (by omega)
        have n3 : (2 : Int32) ≤ nI (N q) := by rw [show (2 : Int32) = nI 2 from rfl]; exact nI_le hc (by omega)
        have n4 : ¬ nI (N q) - 1 < nI (W q) := by
          have e : nI (N q) - 1 = nI (N q - 1) := by
            obtain ⟨r, hr⟩ : ∃ r, N q = r + 1 := ⟨N q - 1, by omega⟩
            rw [hr]; exact nI_s1
          rw [e]; exact nI_nlt hl (by omega)
        have n5 : ¬ nI u = -1 := nI_ne_m1 (by omega)
        have n6 : ¬ nI v = -1 := nI_ne_m1 (by omega)
        have n7 : ¬ nI t < nI u := nI_nlt hu (by omega)
        rw [hv'] at c4 c5
        rw [hu'] at c3
        by_cases y1 : y ≤ nI v
        · by_cases y2 : nI v ≤ y
          · have e5 : snd' (nI v) y = 0 := by unfold snd'; rw [if_neg n6, if_pos y1, if_pos y2]
            rw [e5] at c5
            simp only [↓zjpE, ↓zletE, ↓zciE, ↓zcvE, ↓zchkE, ↓reduceIte, zciE, zcvE, nI_1, ↓cl_0, ↓cl_1, ↓cl_2, ↓cl_3, ↓cl_4, ↓cl_5, ↓cl_6, ↓cl_7, ↓cl_8, ↓cl_9, ↓cl_10, ↓cl_11, ↓cl_12, ↓cl_13, ↓cl_14, ↓cl_15, ↓cl_16, d10, hle, ↓zciX c0, ↓zciX c1, ↓zciX c2, ↓zciX c3, ↓zciX c4, ↓zciX c5, ↓zciX s4, n1, n2, n3, n4, n5, n6, n7, eq_true y1, eq_true y2, nI_ad]
          · have e5 : snd' (nI v) y = 2 := by unfold snd'; rw [if_neg n6, if_pos y1, if_neg y2]
            rw [e5] at c5
            simp only [↓zjpE, ↓zletE, ↓zciE, ↓zcvE, ↓zchkE, ↓reduceIte, zciE, zcvE, nI_1, ↓cl_0, ↓cl_1, ↓cl_2, ↓cl_3, ↓cl_4, ↓cl_5, ↓cl_6, ↓cl_7, ↓cl_8, ↓cl_9, ↓cl_10, ↓cl_11, ↓cl_12, ↓cl_13, ↓cl_14, ↓cl_15, ↓cl_16, d10, hle, ↓zciX c0, ↓zciX c1, ↓zciX c2, ↓zciX c3, ↓zciX c4, ↓zciX c5, ↓zciX s4, n1, n2, n3, n4, n5, n6, n7, eq_true y1, y2, nI_ad]
        · have e5 : snd' (nI v) y = 1 := by unfold snd'; rw [if_neg n6, if_neg y1]
          rw [e5] at c5
          simp only [↓zjpE, ↓zletE, ↓zciE, ↓zcvE, ↓zchkE, ↓reduceIte, zciE, zcvE, nI_1, ↓cl_0, ↓cl_1, ↓cl_2, ↓cl_3, ↓cl_4, ↓cl_5, ↓cl_6, ↓cl_7, ↓cl_8, ↓cl_9, ↓cl_10, ↓cl_11, ↓cl_12, ↓cl_13, ↓cl_14, ↓cl_15, ↓cl_16, d10, hle, ↓zciX c0, ↓zciX c1, ↓zciX c2, ↓zciX c3, ↓zciX c4, ↓zciX c5, ↓zciX s4, n1, n2, n3, n4, n5, n6, n7, y1, nI_ad]
    match fuel, hf with
    | f + 1, hf =>
      show S_LW_holds_S4 w s x0 j431 _ (nI ns) (nI nh) a4 (nI t) 1 _ _ _ a10 (nI h) (nI k) D = _
      rw [hstep]
      exact ih (k + 1) (by omega) f (by omega)
theorem holds2L (hw : WL w s) (hF : HF D (s + 4) F) (h1 : F 1 7 = nI ns) (hn : ns ≤ 4) (hn0 : 0 < ns) (hS : IS F ns) (h9 : F 9 6 = nI nh) (hn9 : nh ≤ 4) (hH : IH F nh) (ht : t < 1000000) (hE : ∀ i, i < 16 → JE1 F t i (N i) (E i) (W i)) (hN : ∀ i, i < 16 → N i < 2 ^ 30) {x0 a4 : Int32} : ∀ m h, h + m = nh → ∀ fuel, m < fuel → zlp (fun (_ : Int32) (_ : Int32) (_ : Int32) (_ : Int32) (_ : Int32) (_ : Int32) (_ : Int32) (_ : Int32) (_ : Int32) (_ : Int32) (_ : zD) => none) (S_LW_holds_S2 w s x0) fuel (nI ns) (nI nh) a4 (nI t) 1 (nI (tot N ns h)) (nI (tot E ns h)) (nI (tot W ns h)) (bsum F h) (nI h) D = zlp (fun (_ : Int32) (_ : Int32) (_ : Int32) (_ : Int32) (_ : Int32) (_ : Int32) (_ : Int32) (_ : Int32) (_ : Int32) (_ : Int32) (_ : zD) => none) (S_LW_holds_S3 w s x0) 62 (nI nh) a4 (nI t) 1 (nI (tot N ns nh)) (nI (tot E ns nh)) (nI (tot W ns nh)) (bsum F nh) 0 0 D := by
  intro m
  induction m with
  | zero =>
    intro k hk fuel hf
    have hk : k = nh := hk
    subst hk
    have hle : nI k ≤ nI k := le_refl32
    match fuel, hf with
    | f + 1, _ =>
      show S_LW_holds_S2 w s x0 _ (nI ns) (nI k) a4 (nI t) 1 _ _ _ _ (nI k) D = _
      unfold S_LW_holds_S2
      simp only [↓zjpE, ↓zletE, ↓zciE, ↓zcvE, ↓zchkE, ↓reduceIte, zciE, zcvE, nI_1, hle]
  | succ m ih =>
    intro h hk fuel hf
    have hh : h < nh := by omega
    have hle : ¬ nI nh ≤ nI h := nI_ge hh (by omega)
    obtain ⟨i1, i2, i3, i4, i5, i6, i7, i8⟩ := hH h hh
    have c4 : f_LW_tryHearer w D s (nI h) 4 = some (F 14 h, D) := t_tryHearer hw (qh_4 hw hF h9 hn9 hh)
    have c0 : f_LW_tryHearer w D s (nI h) 0 = some (F 10 h, D) := t_tryHearer hw (qh_0 hw hF h9 hn9 hh)
    have c1 : f_LW_tryHearer w D s (nI h) 1 = some (F 11 h, D) := t_tryHearer hw (qh_1 hw hF h9 hn9 hh)
    have c2 : f_LW_tryHearer w D s (nI h) 2 = some (F 12 h, D) := t_tryHearer hw (qh_2 hw hF h9 hn9 hh)
    have c3 : f_LW_tryHearer w D s (nI h) 3 = some (F 13 h, D) := t_tryHearer hw (qh_3 hw hF h9 hn9 hh)
    have c5 : f_LW_tryHearer w D s (nI h) 5 = some ((nst F (F 10 h) (F 11 h) ns).1, D) := t_tryHearer hw (qh_5 hw hF h9 hn9 hh h1 hn hS)
    have m5 := nst_ne (G := F) (x := F 10 h) (y := F 11 h) hn0 hn
    have hz : ¬ nI ns = 0 := fun e => absurd (nI_inj (n := 0) e (by omega) (by omega)) (by omega)
    have b0 := ab_40 ⟨i1, i2⟩
    have b1 := ab_40 ⟨i3, i4⟩
    have b2 := ab_2 ⟨i5, i6⟩
    have b3 := ab_2 ⟨i7, i8⟩
    have hstep : ∀ j a7 a8 a9 a10, S_LW_holds_S2 w s x0 j (nI ns) (nI nh) a4 (nI t) 1 a7 a8 a9 a10 (nI h) D = zlp (fun (_ : Int32) (_ : Int32) (_ : Int32) (_ : Int32) (_ : Int32) (_ : Int32) (_ : Int32) (_ : Int32) (_ : Int32) (_ : Int32) (_ : Int32) (_ : zD) => none) (S_LW_holds_S4 w s x0 j) 6 (nI ns) (nI nh) a4 (nI t) 1 a7 a8 a9 (a10 + F 14 h) (nI h) 0 D := fun j a7 a8 a9 a10 => by
      unfold S_LW_holds_S2
      simp only [↓zjpE, ↓zletE, ↓zciE, ↓zcvE, ↓zchkE, ↓reduceIte, zciE, zcvE, nI_1, ↓cl_0, ↓cl_1, ↓cl_2, ↓cl_3, ↓cl_4, ↓cl_5, ↓cl_6, ↓cl_7, ↓cl_8, ↓cl_9, ↓cl_10, ↓cl_11, ↓cl_12, ↓cl_13, ↓cl_14, ↓cl_15, ↓cl_16, d10, hle, ↓zciX c4, ↓zciX c0, ↓zciX c1, ↓zciX c2, ↓zciX c3, ↓zciX c5, ↓zciX (siz _), b0, b1, b2, b3, m5, hz]
    match fuel, hf with
    | f + 1, hf =>
      show S_LW_holds_S2 w s x0 _ (nI ns) (nI nh) a4 (nI t) 1 _ _ _ _ (nI h) D = _
      rw [hstep]
      exact (holds4L (a := tot N ns h) (b := tot E ns h) (c := tot W ns h) hw hF h1 hn hS h9 hn9 ht hE hN (n := 0) hh ns 0 (by omega) 6 (by omega)).trans (ih (h + 1) (by omega) f (by omega))
/-- the pulses -/
theorem holds3L (hw : WL w s) (hF : HF D (s + 4) F) (h1 : F 1 7 = nI ns) (hn : ns ≤ 4) (hS : IS F ns) (hn9 : nh ≤ 4) (h16 : F 16 2 = nI nw) (hnw : nw ≤ 3) (h6 : F 19 6 = nI p) (hp : p < 60) (h7 : F 19 7 = nI np) (hnp : np ≤ 60) (ht : t < 1000000) (hP : ∀ k, k < np → ∃ u s m, F 23 ((p + k) % 60) = nI u ∧ 1 ≤ u ∧ u ≤ t ∧ F 20 ((p + k) % 60) = nI s ∧ s < ns ∧ zirem (nI u) (F 6 s) = 0 ∧ F 25 ((p + k) % 60) = nI m ∧ m < 2 ^ nh ∧ (F 24 ((p + k) % 60) = -1 ∨ ∃ i, i < nw ∧ F 24 ((p + k) % 60) = nI i)) (hPs : ∀ k k', k ≤ k' → k' < np → F 23 ((p + k) % 60) ≤ F 23 ((p + k') % 60)) {x0 a7 a8 a9 a10 : Int32} (hex : ∀ j g, S_LW_holds_S3 w s x0 j (nI nh) (nI np) (nI t) 1 a7 a8 a9 a10 g (nI np) D = some (1, D')) : ∀ m k g, k + m = np → (∀ k', k ≤ k' → k' < np → g ≤ F 23 ((p + k') % 60)) → ∀ fuel, m < fuel → zlp (fun (_ : Int32) (_ : Int32) (_ : Int32) (_ : Int32) (_ : Int32) (_ : Int32) (_ : Int32) (_ : Int32) (_ : Int32) (_ : Int32) (_ : zD) => none) (S_LW_holds_S3 w s x0) fuel (nI nh) (nI np) (nI t) 1 a7 a8 a9 a10 g (nI k) D = some (1, D') := by
  intro m
  induction m with
  | zero =>
    intro k g hk _ fuel hf
    have hk : k = np := hk
    subst hk
    match fuel, hf with
    | f + 1, _ => exact hex _ g
  | succ m ih =>
    intro k g hk hg fuel hf
    have hkn : k < np := by omega
    have hle : ¬ nI np ≤ nI k := nI_ge hkn (by omega)
    obtain ⟨u, i, b, q1, q2, q3, q4, q5, q6, q7, q8, q9⟩ := hP k hkn
    have hgu := hg k (Nat.le_refl k) hkn
    rw [q1] at hgu
    have c3 : f_LW_tryPulse w D s (nI k) 3 = some (nI u, D) := t_tryPulse hw (by rw [← q1]; exact qp_3 hw hF h6 hp h7 hnp hkn)
    have c5 : f_LW_tryPulse w D s (nI k) 5 = some (nI b, D) := t_tryPulse hw (by rw [← q7]; exact qp_5 hw hF h6 hp h7 hnp hkn)
    have c0 : f_LW_tryPulse w D s (nI k) 0 = some (nI i, D) := t_tryPulse hw (by rw [← q4]; exact qp_0 hw hF h6 hp h7 hnp hkn)
    have c4 : f_LW_tryPulse w D s (nI k) 4 = some (F 24 ((p + k) % 60), D) := t_tryPulse hw (qp_4 hw hF h6 hp h7 hnp hkn)
    have s4 : f_LW_trySiren w D s (nI i) 4 = some (F 6 i, D) := t_trySiren hw (qs_4 hw hF h1 hn hS q5)
    have a2 : f_LW_tryAbout w D s 2 = some (nI nw, D) := t_tryAbout hw (by rw [← h16]; exact qa_2 hw hF)
    have hb16 : b < 16 := by
      have : 2 ^ nh ≤ 2 ^ 4 := Nat.pow_le_pow_right (by decide) hn9
      omega
    have n1 : ¬ nI u < g := Int32.not_lt.2 hgu
    have n2 : ¬ nI u ≤ 0 := nI_nle (by omega) (by omega)
    have n3 : ¬ nI t < nI u := nI_nlt q3 (by omega)
    have n4 : ¬ nI b < 0 := nI_pos (by omega)
    have n5 : ¬ ((1 : Int32) <<< ((nI nh) &&& 31)) ≤ nI b := by
      have e : ((1 : Int32) <<< ((nI nh) &&& 31)) = nI (2 ^ nh) := (show ∀ n, n < 5 → ((1 : Int32) <<< ((nI n) &&& 31)) = nI (2 ^ n) from by decide) nh (by omega)
      rw [e]
      have : 2 ^ nh ≤ 2 ^ 4 := Nat.pow_le_pow_right (by decide) hn9
      exact nI_ge q8 (by omega)
    have n6 : ¬ F 6 i = 0 := by
      obtain ⟨-, -, -, -, -, -, -, -, d1, -⟩ := hS i q5
      intro e
      rw [e] at d1
      exact absurd d1 (by decide)
    have n7 : ¬ nI nw ≤ F 24 ((p + k) % 60) := by
      rcases q9 with e | ⟨v, hv, e⟩
      · rw [e]
        have := nI_pos (n := nw) (by omega)
        generalize nI nw = z at this
        clear hex ih hg hP hPs q6
        grind
      · rw [e]; exact nI_ge hv (by omega)
    have hstep : ∀ j, S_LW_holds_S3 w s x0 j (nI nh) (nI np) (nI t) 1 a7 a8 a9 a10 g (nI k) D = j (nI nh) (nI np) (nI t) 1 a7 a8 a9 a10 (nI u) (nI (k + 1)) D := fun j => by
      unfold S_LW_holds_S3
      simp only [↓zjpE, ↓zletE, ↓zciE, ↓zcvE, ↓zchkE, ↓reduceIte, zciE, zcvE, nI_1, ↓cl_0, ↓cl_1, ↓cl_2, ↓cl_3, ↓cl_4, ↓cl_5, ↓cl_6, ↓cl_7, ↓cl_8, ↓cl_9, ↓cl_10, ↓cl_11, ↓cl_12, ↓cl_13, ↓cl_14, ↓cl_15, ↓cl_16, d10, hle, ↓zciX c3, ↓zciX c5, n1, n2, n3, ↓zciX c0, ↓zciX s4, n6, not_false_eq_true, eq_true q6, n4, n5, ↓zciX c4, ↓zciX a2, n7]
    match fuel, hf with
    | f + 1, hf =>
      show S_LW_holds_S3 w s x0 _ (nI nh) (nI np) (nI t) 1 a7 a8 a9 a10 g (nI k) D = _
      rw [hstep]
      exact ih (k + 1) (nI u) (by omega) (fun k' h1 h2 => by rw [← q1]; exact hPs k k' (by omega) h2) f (by omega)
theorem bsum_c {F G : Fld} : ∀ n, (∀ h, h < n → F 14 h = G 14 h) → bsum F n = bsum G n
  | 0, _ => rfl
  | n + 1, h => by
    show bsum F n + F 14 n = bsum G n + G 14 n
    rw [bsum_c n (fun i hi => h i (by omega)), h n (by omega)]
theorem lw_holds (hF : FT F T) (hH : Has F) (hT : T + 1000 < 1000000) {n : Nat} (hn : n < 2 ^ 31) : Dn w (fun D s => f_LW_holds w D s (nI n)) (F, L, V) (F, L, V) 1 := by
  intro D s hw hA
  obtain ⟨ns', nh', z1, z2, z3, z4, z5, z6⟩ := id hH
  have hc7 := FT_c hF
  obtain ⟨t, ht, hS⟩ := hF
  obtain ⟨-, G, ns, nh, nw, np, d, e, l, ⟨hR, ⟨p, p1, p2, p3, -, p5, p6⟩, -, r97, ⟨i1, i2, i3, i4, i5, i6, i7, i8⟩, -, rH, -, -, rP, -, ⟨k1, k2, k3, k4, k5⟩, -⟩, ⟨⟨P1, P2⟩, ⟨N, E, W, hE, sN, sE, sW, sZ⟩, gg, g1, g2, g3⟩⟩ := id hS
  have h1 : F 1 7 = nI ns := (r1_7 hR).trans i1
  have h9 : F 9 6 = nI nh := (r9_6 hR).trans i3
  have h16 : F 16 2 = nI nw := (r16_2 hR).trans i5
  have h05 : F 0 5 = nI t := (r0_5 hR).trans i7
  have hns : ns = ns' := nI_inj (h1.symm.trans z1) (by omega) (by omega)
  have hnh : nh = nh' := nI_inj (h9.symm.trans z4) (by omega) (by omega)
  have hn0 : 0 < ns := by omega
  have hn09 : 0 < nh := by omega
  clear hns hnh z1 z2 z3 z4 z5 z6
  have hIS := FS_S hS h1 i2
  obtain ⟨q, hq9, hq1, hq0, hqq⟩ := t_quiet hS (by omega) h1 i2
  have hHF : HF D (s + 4) F := hA.1
  obtain ⟨D', y1, y2, y3⟩ := hqq w D s L V hw hA
  have hIH : IH F nh := fun h hh => by
    have := rH h hh
    rw [← r10 hR (by omega), ← r11 hR (by omega), ← r12 hR (by omega), ← r13 hR (by omega)] at this
    exact this
  have hE' : ∀ i, i < 16 → JE1 F t i (N i) (E i) (W i) := fun i hi => by
    have := hE i hi
    unfold JE1 at this ⊢
    rw [r27 hR hi, r28 hR hi, r29 hR hi, r30 hR hi, r31 hR hi, r32 hR hi]
    exact this
  have hN : ∀ i, i < 16 → N i < 2 ^ 30 := fun i hi => by
    have := sumN_le (N := N) 16 hi
    omega
  have tN : tot N ns nh = d := (sum_tot i2 i4 (fun h s a b c => (sZ h s a b c).1)).trans sN
  have tE : tot E ns nh = e := (sum_tot i2 i4 (fun h s a b c => (sZ h s a b c).2.1)).trans sE
  have tW : tot W ns nh = l := (sum_tot i2 i4 (fun h s a b c => (sZ h s a b c).2.2)).trans sW
  have hB : bsum F nh = F 9 7 := by rw [r97]; exact bsum_c nh (fun h hh => r14 hR (by omega))
  have a0 : f_LW_tryAbout w D s 0 = some (nI ns, D) := t_tryAbout hw (by rw [← h1]; exact qa_0 hw hHF)
  have a1 : f_LW_tryAbout w D s 1 = some (nI nh, D) := t_tryAbout hw (by rw [← h9]; exact qa_1 hw hHF)
  have a4 : f_LW_tryAbout w D s 4 = some (nI np, D) := t_tryAbout hw (by rw [← p3]; exact qa_4 hw hHF)
  have a3 : f_LW_tryAbout w D s 3 = some (nI t, D) := t_tryAbout hw (by rw [← h05]; exact qa_3 hw hHF)
  have a5 : f_LW_tryAbout w D s 5 = some (nI gg, D) := t_tryAbout hw (by rw [← g1, ← r0_6 hR]; exact qa_5 hw hHF)
  have a6 : f_LW_tryAbout w D s 6 = some (nI (tot N ns nh), D) := t_tryAbout hw (by rw [tN, ← k1, ← r26_6 hR]; exact qa_6 hw hHF)
  have a7 : f_LW_tryAbout w D s 7 = some (nI (tot E ns nh), D) := t_tryAbout hw (by rw [tE, ← k2, ← r26_7 hR]; exact qa_7 hw hHF)
  have a8 : f_LW_tryAbout w D s 8 = some (nI (tot W ns nh), D) := t_tryAbout hw (by rw [tW, ← k3, ← r26_8 hR]; exact qa_8 hw hHF)
  have a9 : f_LW_tryAbout w D s 9 = some (bsum F nh, D) := t_tryAbout hw (by rw [hB]; exact qa_9 hw hHF)
  have c1 : ¬ (4 : Int32) < nI ns := nI_nlt i2 (by decide)
  have c2 : ¬ (4 : Int32) < nI nh := nI_nlt i4 (by decide)
  have c3 : ¬ (60 : Int32) < nI np := nI_nlt p5 (by decide)
  have c4 : ¬ nI gg < nI np := nI_nlt g2 (by omega)
  have hqn : (nI q = 0 ∧ nI np = 0) ∨ (¬ nI q = 0 ∧ ¬ nI np = 0) := by
    have e0 : itk (offF F ns) 0 19 7 = nI np := by
      show offF F ns 19 7 = _
      rw [offF_o (by decide)]; exact p3
    by_cases hq : q = 0
    · subst hq
      exact Or.inl ⟨rfl, by rw [← e0]; exact hq0⟩
    · refine Or.inr ⟨fun e => hq (nI_inj (n := 0) e (by omega) (by omega)), fun e => ?_⟩
      have := hq1 0 (by omega)
      rw [e0, e] at this
      exact absurd this (by decide)
  have hex : ∀ j g, S_LW_holds_S3 w s (nI n) j (nI nh) (nI np) (nI t) 1 (nI (tot N ns nh)) (nI (tot E ns nh)) (nI (tot W ns nh)) (bsum F nh) g (nI np) D = some (1, D') := fun j g => by
    have hle : nI np ≤ nI np := le_refl32
    unfold S_LW_holds_S3
    rcases hqn with ⟨u1, u2⟩ | ⟨u1, u2⟩
    · simp only [↓zjpE, ↓zletE, ↓zciE, ↓zcvE, ↓zchkE, ↓reduceIte, zciE, zcvE, nI_1, ↓cl_0, ↓cl_1, ↓cl_2, ↓cl_3, ↓cl_4, ↓cl_5, ↓cl_6, ↓cl_7, ↓cl_8, ↓cl_9, ↓cl_10, ↓cl_11, ↓cl_12, ↓cl_13, ↓cl_14, ↓cl_15, ↓cl_16, d10, eq_true hle, ↓zciX a6, ↓zciX a7, ↓zciX a8, ↓zciX a9, ↓WSo hw, ↓zciX y1, eq_true u1, eq_true u2, or_true]
    · simp only [↓zjpE, ↓zletE, ↓zciE, ↓zcvE, ↓zchkE, ↓reduceIte, zciE, zcvE, nI_1, ↓cl_0, ↓cl_1, ↓cl_2, ↓cl_3, ↓cl_4, ↓cl_5, ↓cl_6, ↓cl_7, ↓cl_8, ↓cl_9, ↓cl_10, ↓cl_11, ↓cl_12, ↓cl_13, ↓cl_14, ↓cl_15, ↓cl_16, d10, eq_true hle, ↓zciX a6, ↓zciX a7, ↓zciX a8, ↓zciX a9, ↓WSo hw, ↓zciX y1, u1, u2, or_true]
  have hP : ∀ k, k < np → ∃ u s m, F 23 ((p + k) % 60) = nI u ∧ 1 ≤ u ∧ u ≤ t ∧ F 20 ((p + k) % 60) = nI s ∧ s < ns ∧ zirem (nI u) (F 6 s) = 0 ∧ F 25 ((p + k) % 60) = nI m ∧ m < 2 ^ nh ∧ (F 24 ((p + k) % 60) = -1 ∨ ∃ i, i < nw ∧ F 24 ((p + k) % 60) = nI i) := fun k hk => by
    obtain ⟨u, s, m, b1, b2, b3, b4, b5, b6, b7, b8⟩ := P1 k hk
    have q3 : F 23 ((p + k) % 60) = G 23 k := p6 3 k (by decide) hk
    have q0 : F 20 ((p + k) % 60) = G 20 k := p6 0 k (by decide) hk
    have q5 : F 25 ((p + k) % 60) = G 25 k := p6 5 k (by decide) hk
    have q4 : F 24 ((p + k) % 60) = G 24 k := p6 4 k (by decide) hk
    exact ⟨u, s, m, q3.trans b1, b2, b3, q0.trans b4, b5, by rw [r6 hR (by omega)]; exact b6, q5.trans b7, b8, by rw [q4]; exact (rP k hk).2.2.2.2.2.2⟩
  have hPs : ∀ k k', k ≤ k' → k' < np → F 23 ((p + k) % 60) ≤ F 23 ((p + k') % 60) := fun k k' hk hk' => by
    have q3 : F 23 ((p + k) % 60) = G 23 k := p6 3 k (by decide) (by omega)
    have q3' : F 23 ((p + k') % 60) = G 23 k' := p6 3 k' (by decide) hk'
    rw [q3, q3']; exact P2 k k' hk hk'
  have m3 := holds3L (x0 := nI n) hw hHF h1 i2 hIS i4 h16 i6 p1 p2 p3 p5 (show t < 1000000 by omega) hP hPs hex np 0 0 (by omega) (fun k' _ hk' => by
    obtain ⟨u, -, -, b1, b2, b3, -⟩ := hP k' hk'
    rw [b1]; exact nI_pos' (by omega)) 62 (by omega)
  have m2 := holds2L (x0 := nI n) (a4 := nI np) hw hHF h1 i2 hn0 hIS h9 i4 hIH (show t < 1000000 by omega) hE' hN nh 0 (by omega) 6 (by omega)
  have m1 := holds1L hw hHF h1 i2 hIS hc7 hn (a3 := nI nh) (a4 := nI np) (a5 := nI t) (a7 := 0) (a8 := 0) (a9 := 0) (a10 := 0) ns 0 (by omega) 6 (by omega)
  refine ⟨D', ?_, y2, y3⟩
  show f_LW_holds w D s (nI n) = _
  rw [u_LW_holds]
  simp only [↓zjpE, ↓cl_0, ↓cl_1, ↓cl_2, ↓cl_3, ↓cl_4, ↓cl_5, ↓cl_6, ↓cl_7, ↓cl_8, ↓cl_9, ↓cl_10, ↓cl_11, ↓cl_12, ↓cl_13, ↓cl_14, ↓cl_15, ↓cl_16, ↓zciX a0, ↓zciX a1, ↓zciX a4, ↓zciX a3, ↓zciX a5, c1, c2, c3, c4, ↓reduceIte]
  exact m1.trans (m2.trans m3)
end P71
