/-! PURE: what would be: tried on the copy. -/
theorem shr33 (v : Int64) : ∃ n, n < 2 ^ 31 ∧ ((v.toUInt64 >>> ((33 : Int32).toInt64.toUInt64 &&& Int64.toUInt64 63)).toInt64).toInt32 = nI n := by
  have hb : ((33 : Int32).toInt64.toUInt64 &&& Int64.toUInt64 63) = 33 := by decide
  rw [hb]
  have h1 : (v.toUInt64 >>> (33 : UInt64)).toNat = v.toUInt64.toNat / 2 ^ 33 := by
    rw [UInt64.toNat_shiftRight, show (33 : UInt64).toNat % 64 = 33 from by decide, Nat.shiftRight_eq_div_pow]
  have h2 : v.toUInt64.toNat < 2 ^ 64 := v.toUInt64.toNat_lt
  refine ⟨v.toUInt64.toNat / 2 ^ 33, by omega, ?_⟩
  apply Int32.toBitVec_inj.mp
  apply BitVec.eq_of_toNat_eq
  show ((v.toUInt64 >>> (33 : UInt64)).toBitVec.signExtend 32).toNat = (BitVec.ofNat 32 (v.toUInt64.toNat / 2 ^ 33)).toNat
  rw [BitVec.signExtend_eq_setWidth_of_le _ (by decide), BitVec.toNat_setWidth, BitVec.toNat_ofNat, UInt64.toNat_toBitVec, h1]
section P61
variable {w : zW} {D : zD} {s t T ns nh : Nat} {F Q : Fld} {L : List Fld} {V : Nat → Option Fld}
theorem itk_off (h : FS Q t t False) : ∀ n, t + n < 1000000 → FS (itk Q n) (t + n) t False
  | 0, _ => h
  | n + 1, hn => by
    have := (tk_ok (itk_off h n (by omega)) (by omega) (fun hx => hx.elim)).1
    rw [Nat.add_assoc] at this
    exact this
theorem off_gone (h : FS Q t t False) (ht : t + 99 < 1000000) : itk Q 99 19 7 = 0 := (tk_ok (itk_off h 98 (by omega)) (by omega) (fun hx => hx.elim)).2.2.2.2.2 (by omega)
theorem off_U (h : FS Q t t False) {n : Nat} (hn : t + n < 1000000) : U (itk Q n) (itk Q (n + 1)) := (tk_ok (itk_off h n hn) hn (fun hx => hx.elim)).2.1
theorem on_U (h : FS F t t True) {n : Nat} (hn : t + n < 1000000) : U (itk F n) (itk F (n + 1)) := (FS_on (itk_FS h n hn) hn).2.1
/-- the copy that is tried -/
theorem try1 (hw : WL w s) (h : At D s (F, L, V)) (hF : NZ F ∧ RZ F) : f_Field_copyFrom w D (s + 70) (s + 4) = some (zblk D (s + 70) F) := copyB (WL70 hw) (WL4 hw) (by omega) h.2.1 h.1 hF.1 hF.2
theorem qloop (hQ : FS Q t t False) (ht : t + 100 < 1000000) : ∀ m k, k + m = 99 → ∃ n, k ≤ n ∧ n ≤ 99 ∧ (∀ i, k ≤ i → i < n → 0 < itk Q i 19 7) ∧ itk Q n 19 7 = 0 ∧ ∀ (w : zW) (D : zD) (s fuel : Nat), WL w s → m < fuel → zlp (fun (_ : Int32) (_ : zD) => none) (S_SF_quietIn_S1 w s) fuel (nI k) (zblk D (s + 70) (itk Q k)) = some (nI n, zblk D (s + 70) (itk Q n)) := by
  intro m
  induction m with
  | zero =>
    intro k hk
    have : k = 99 := by omega
    subst this
    refine ⟨99, Nat.le_refl _, Nat.le_refl _, fun i h1 h2 => by omega, off_gone hQ (by omega), fun w D s fuel hw hf => ?_⟩
    match fuel, hf with
    | f + 1, _ =>
      show S_SF_quietIn_S1 w s _ _ _ = _
      unfold S_SF_quietIn_S1
      simp only [↓zjpE, ↓zletE, ↓zciE, ↓zcvE, ↓zchkE, ↓reduceIte, zciE, zcvE, nI_1, show ((99 : Int32) ≤ nI 99) = True from eq_true (by decide)]
  | succ m ih =>
    intro k hk
    have hc : ¬ (99 : Int32) ≤ nI k := nI_ge (show k < 99 by omega) (by decide)
    obtain ⟨ns, nh, nw, np, -, -, -, -, -, -, e7, e60⟩ := FS_ns (itk_off hQ k (by omega))
    by_cases h0 : np = 0
    · have h0' : itk Q k 19 7 = 0 := by rw [e7, h0]; rfl
      refine ⟨k, Nat.le_refl _, by omega, fun i h1 h2 => by omega, h0', fun w D s fuel hw hf => ?_⟩
      have hT := WL70 hw
      match fuel, hf with
      | f + 1, _ =>
        show S_SF_quietIn_S1 w s _ _ _ = _
        unfold S_SF_quietIn_S1
        simp only [↓zjpE, ↓zletE, ↓zciE, ↓zcvE, ↓zchkE, ↓reduceIte, zciE, zcvE, nI_1, ↓WSo hw, ↓WSr0 hw, ↓WSr1 hw, ↓WSr2 hw, ↓WSr3 hw, ↓WSr4 hw, ↓WSg5 hw, ↓WSp5 hw, ↓WSg6 hw, ↓WSp6 hw, ↓WSr7 hw, ↓WSr8 hw, ↓WTo hw, ↓WTr0 hw, ↓WTg1 hw, ↓WTp1 hw, ↓WTg2 hw, ↓WTp2 hw, ↓WTg3 hw, ↓WTp3 hw, ↓WTr4 hw, hc, ↓Lo0 hT, ↓Lr0_0 hT, ↓Lr0_3 hT, ↓Lr0_4 hT, ↓Lg19_7 hT, ↓Lr26_0 hT, ↓Lg26_8 hT, ↓Lg26_6 hT, ↓Lp0_7 hT, h0', show ((0 : Int32) ≤ 0) = True from eq_true (by decide)]
    · have hp : 0 < itk Q k 19 7 := by rw [e7, show (0 : Int32) = nI 0 from rfl]; exact nI_lt (by omega) (by omega)
      have hp' : ¬ itk Q k 19 7 ≤ 0 := Int32.not_le.2 hp
      obtain ⟨n, i1, i2, i3, i4, i5⟩ := ih (k + 1) (by omega)
      refine ⟨n, by omega, i2, fun i h1 h2 => ?_, i4, fun w D s fuel hw hf => ?_⟩
      · by_cases hik : i = k
        · subst hik; exact hp
        · exact i3 i (by omega) h2
      · have hT := WL70 hw
        have hu := off_U hQ (n := k) (by omega) w (s + 70) D hT
        match fuel, hf with
        | f + 1, hf =>
          show S_SF_quietIn_S1 w s (zlp (fun (_ : Int32) (_ : zD) => none) (S_SF_quietIn_S1 w s) f) _ _ = _
          generalize hj : zlp (fun (_ : Int32) (_ : zD) => none) (S_SF_quietIn_S1 w s) f = j
          unfold S_SF_quietIn_S1
          simp only [↓zjpE, ↓zletE, ↓zciE, ↓zcvE, ↓zchkE, ↓reduceIte, zciE, zcvE, nI_1, ↓WSo hw, ↓WSr0 hw, ↓WSr1 hw, ↓WSr2 hw, ↓WSr3 hw, ↓WSr4 hw, ↓WSg5 hw, ↓WSp5 hw, ↓WSg6 hw, ↓WSp6 hw, ↓WSr7 hw, ↓WSr8 hw, ↓WTo hw, ↓WTr0 hw, ↓WTg1 hw, ↓WTp1 hw, ↓WTg2 hw, ↓WTp2 hw, ↓WTg3 hw, ↓WTp3 hw, ↓WTr4 hw, hc, ↓Lo0 hT, ↓Lr0_0 hT, ↓Lr0_3 hT, ↓Lr0_4 hT, ↓Lg19_7 hT, ↓Lr26_0 hT, ↓Lg26_8 hT, ↓Lg26_6 hT, ↓Lp0_7 hT, hp', ↓zcvX hu]
          subst hj
          exact i5 w D s f hw (by omega)
theorem FS_Z {F : Fld} {t tp : Nat} {A : Prop} (h : FS F t tp A) : NZ F ∧ RZ F := ⟨h.1, FS_RZ h⟩
theorem t_quiet (hF : FS F t t True) (ht : t + 100 < 1000000) (h1 : F 1 7 = nI ns) (hn : ns ≤ 4) : ∃ n, n ≤ 99 ∧ (∀ i, i < n → 0 < itk (offF F ns) i 19 7) ∧ itk (offF F ns) n 19 7 = 0 ∧ ∀ (w : zW) (D : zD) (s : Nat) (L : List Fld) (V : Nat → Option Fld), WL w s → At D s (F, L, V) → ∃ D', f_SF_quietIn w D s = some (nI n, D') ∧ At D' s (F, L, V) ∧ ∀ q, q < s ∨ s + 634 ≤ q → D' q = D q := by
  have hQ := FS_off hF h1 hn
  obtain ⟨n, -, a2, a3, a4, a5⟩ := qloop hQ ht 99 0 (by omega)
  refine ⟨n, a2, fun i hi => a3 i (Nat.zero_le i) hi, a4, fun w D s L V hw h => ?_⟩
  have hT := WL70 hw
  have hz := FS_Z (itk_off hQ n (by omega))
  refine ⟨zblk D (s + 70) (itk (offF F ns) n), ?_, At_trial h hz.1 hz.2, fun q hq => zblk_out (by omega)⟩
  rw [u_SF_quietIn]
  simp only [↓zjpE, ↓WSo hw, ↓WSr0 hw, ↓WSr1 hw, ↓WSr2 hw, ↓WSr3 hw, ↓WSr4 hw, ↓WSg5 hw, ↓WSp5 hw, ↓WSg6 hw, ↓WSp6 hw, ↓WSr7 hw, ↓WSr8 hw, ↓WTo hw, ↓WTr0 hw, ↓WTg1 hw, ↓WTp1 hw, ↓WTg2 hw, ↓WTp2 hw, ↓WTg3 hw, ↓WTp3 hw, ↓WTr4 hw, ↓Lo0 hT, ↓zcvX (try1 hw h (FS_Z hF)), ↓Lr0_0 hT, ↓Lo1 hT, ↓zcvX (c_allOff (D := D) hT hn h1)]
  exact a5 w D s zfuel hw (by unfold zfuel; omega)
theorem hloop (hF : FS F t t True) (ht : t + 300 < 1000000) {q : Nat} (hq : q < 16) : ∀ m k, k + m = 200 → (∀ i, i ≤ k → itk F i 27 q ≤ F 27 q) → ∃ v n', n' ≤ 200 ∧ ((∃ n, 1 ≤ n ∧ n ≤ 200 ∧ v = nI n ∧ (∀ i, i < n → itk F i 27 q ≤ F 27 q) ∧ ¬ itk F n 27 q ≤ F 27 q) ∨ (v = -1 ∧ ∀ i, i ≤ 200 → itk F i 27 q ≤ F 27 q)) ∧ ∀ (w : zW) (D : zD) (s fuel : Nat) (x1 x2 : Int32), WL w s → m < fuel → zlp (fun (_ : Int32) (_ : Int32) (_ : Int32) (_ : zD) => none) (S_SF_heardIn_S1 w s x1 x2) fuel (nI q) (F 27 q) (nI (k + 1)) (zblk D (s + 70) (itk F k)) = some (.inl v, zblk D (s + 70) (itk F n')) := by
  intro m
  induction m with
  | zero =>
    intro k hk hall
    have : k = 200 := by omega
    subst this
    refine ⟨-1, 200, Nat.le_refl _, Or.inr ⟨rfl, hall⟩, fun w D s fuel x1 x2 hw hf => ?_⟩
    match fuel, hf with
    | f + 1, _ =>
      show S_SF_heardIn_S1 w s x1 x2 _ _ _ _ _ = _
      unfold S_SF_heardIn_S1
      simp only [↓zjpE, ↓zletE, ↓zciE, ↓zcvE, ↓zchkE, ↓reduceIte, zciE, zcvE, nI_1, show ((200 : Int32) < nI (200 + 1)) = True from eq_true (by decide)]
  | succ m ih =>
    intro k hk hall
    have hc : ¬ (200 : Int32) < nI (k + 1) := Int32.not_lt.2 (nI_le (show k + 1 ≤ 200 by omega) (by decide))
    by_cases h0 : itk F (k + 1) 27 q ≤ F 27 q
    · obtain ⟨v, n', i1, i2, i3⟩ := ih (k + 1) (by omega) (fun i hi => by
        by_cases hik : i = k + 1
        · subst hik; exact h0
        · exact hall i (by omega))
      refine ⟨v, n', i1, i2, fun w D s fuel x1 x2 hw hf => ?_⟩
      have hT := WL70 hw
      have hu := on_U hF (n := k) (by omega) w (s + 70) D hT
      match fuel, hf with
      | f + 1, hf =>
        show S_SF_heardIn_S1 w s x1 x2 (zlp (fun (_ : Int32) (_ : Int32) (_ : Int32) (_ : zD) => none) (S_SF_heardIn_S1 w s x1 x2) f) _ _ _ _ = _
        generalize hj : zlp (fun (_ : Int32) (_ : Int32) (_ : Int32) (_ : zD) => none) (S_SF_heardIn_S1 w s x1 x2) f = j
        unfold S_SF_heardIn_S1
        simp only [↓zjpE, ↓zletE, ↓zciE, ↓zcvE, ↓zchkE, ↓reduceIte, zciE, zcvE, nI_1, ↓WSo hw, ↓WSr0 hw, ↓WSr1 hw, ↓WSr2 hw, ↓WSr3 hw, ↓WSr4 hw, ↓WSg5 hw, ↓WSp5 hw, ↓WSg6 hw, ↓WSp6 hw, ↓WSr7 hw, ↓WSr8 hw, ↓WTo hw, ↓WTr0 hw, ↓WTg1 hw, ↓WTp1 hw, ↓WTg2 hw, ↓WTp2 hw, ↓WTg3 hw, ↓WTp3 hw, ↓WTr4 hw, hc, ↓Lo0 hT, ↓Lr0_0 hT, ↓Lr0_3 hT, ↓Lr0_4 hT, ↓Lg19_7 hT, ↓Lr26_0 hT, ↓Lg26_8 hT, ↓Lg26_6 hT, ↓Lp0_7 hT, ↓zcvX hu, ↓La27 hT hq, h0]
        subst hj
        exact i3 w D s f x1 x2 hw (by omega)
    · refine ⟨nI (k + 1), k + 1, by omega, Or.inl ⟨k + 1, by omega, by omega, rfl, fun i hi => hall i (by omega), h0⟩, fun w D s fuel x1 x2 hw hf => ?_⟩
      have hT := WL70 hw
      have hu := on_U hF (n := k) (by omega) w (s + 70) D hT
      match fuel, hf with
      | f + 1, hf =>
        show S_SF_heardIn_S1 w s x1 x2 _ _ _ _ _ = _
        unfold S_SF_heardIn_S1
        simp only [↓zjpE, ↓zletE, ↓zciE, ↓zcvE, ↓zchkE, ↓reduceIte, zciE, zcvE, nI_1, ↓WSo hw, ↓WSr0 hw, ↓WSr1 hw, ↓WSr2 hw, ↓WSr3 hw, ↓WSr4 hw, ↓WSg5 hw, ↓WSp5 hw, ↓WSg6 hw, ↓WSp6 hw, ↓WSr7 hw, ↓WSr8 hw, ↓WTo hw, ↓WTr0 hw, ↓WTg1 hw, ↓WTp1 hw, ↓WTg2 hw, ↓WTp2 hw, ↓WTg3 hw, ↓WTp3 hw, ↓WTr4 hw, hc, ↓Lo0 hT, ↓Lr0_0 hT, ↓Lr0_3 hT, ↓Lr0_4 hT, ↓Lg19_7 hT, ↓Lr26_0 hT, ↓Lg26_8 hT, ↓Lg26_6 hT, ↓Lp0_7 hT, ↓zcvX hu, ↓La27 hT hq, h0]
theorem t_heard (hF : FS F t t True) (ht : t + 300 < 1000000) (h9 : F 9 6 = nI nh) (hn9 : nh ≤ 4) (h1 : F 1 7 = nI ns) (hn : ns ≤ 4) {i j : Nat} (hi : i < nh) (hj : j < ns) : ∃ v, ((∃ n, 1 ≤ n ∧ n ≤ 200 ∧ v = nI n ∧ (∀ m, m < n → itk F m 27 (4 * i + j) ≤ F 27 (4 * i + j)) ∧ ¬ itk F n 27 (4 * i + j) ≤ F 27 (4 * i + j)) ∨ (v = -1 ∧ ∀ m, m ≤ 200 → itk F m 27 (4 * i + j) ≤ F 27 (4 * i + j))) ∧ ∀ (w : zW) (D : zD) (s : Nat) (L : List Fld) (V : Nat → Option Fld), WL w s → At D s (F, L, V) → ∃ D', f_SF_heardIn w D s (nI i) (nI j) = some (.inl v, D') ∧ At D' s (F, L, V) ∧ ∀ q, q < s ∨ s + 634 ≤ q → D' q = D q := by
  have hq : 4 * i + j < 16 := by omega
  obtain ⟨v, n', a1, a2, a3⟩ := hloop hF ht hq 200 0 (by omega) (fun i hi => by rw [show i = 0 by omega]; exact le_refl32)
  refine ⟨v, a2, fun w D s L V hw h => ?_⟩
  have hT := WL70 hw
  have hL := WL4 hw
  have hz := FS_Z (itk_FS hF n' (by omega))
  refine ⟨zblk D (s + 70) (itk F n'), ?_, At_trial h hz.1 hz.2, fun q hq => zblk_out (by omega)⟩
  have hx : (0 ≤ nI i ∧ nI i < F 9 6) ∧ (0 ≤ nI j ∧ nI j < F 1 7) := ⟨⟨nI_pos' (by omega), by rw [h9]; exact nI_lt hi (by omega)⟩, nI_pos' (by omega), by rw [h1]; exact nI_lt hj (by omega)⟩
  have hp := e_hasP (D := D) (F := F) hL (x := nI i) (y := nI j)
  rw [if_pos hx, HF_blk h.1] at hp
  rw [u_SF_heardIn]
  simp only [↓zjpE, ↓zletE, ↓zciE, ↓zcvE, ↓zchkE, ↓reduceIte, zciE, zcvE, nI_1, ↓WSo hw, ↓WSr0 hw, ↓WSr1 hw, ↓WSr2 hw, ↓WSr3 hw, ↓WSr4 hw, ↓WSg5 hw, ↓WSp5 hw, ↓WSg6 hw, ↓WSp6 hw, ↓WSr7 hw, ↓WSr8 hw, ↓WTo hw, ↓WTr0 hw, ↓WTg1 hw, ↓WTp1 hw, ↓WTg2 hw, ↓WTp2 hw, ↓WTg3 hw, ↓WTp3 hw, ↓WTr4 hw, ↓Lo0 hL, ↓zciX hp, d10, ↓Lo0 hT, ↓zcvX (try1 hw h (FS_Z hF)), ↓zciX e_pairOf, ↓Lr0_4 hT, ↓Lr26_0 hT, ↓La27 hT hq]
  exact a3 w D s zfuel (nI i) (nI j) hw (by unfold zfuel; omega)
/-- late within n ticks -/
theorem lloop (hF : FS F t t True) {n : Nat} (ht : t + n < 1000000) : ∀ m k, k + m = n → itk F k 26 8 = F 26 8 → ∃ n', n' ≤ n ∧ ∀ (w : zW) (D : zD) (a fuel : Nat), LF w a → m < fuel → zlp (fun (_ : Int32) (_ : Int32) (_ : zD) => none) (S_Field_isLateWithin_S1 w a (nI n)) fuel (F 26 8) (nI k) (zblk D a (itk F k)) = some (if itk F n 26 8 = F 26 8 then 0 else 1, zblk D a (itk F n')) := by
  intro m
  induction m with
  | zero =>
    intro k hk heq
    have : k = n := by omega
    subst this
    refine ⟨k, Nat.le_refl _, fun w D a fuel hT hf => ?_⟩
    have hend : nI k ≤ nI k := nI_le (Nat.le_refl k) (by omega)
    match fuel, hf with
    | f + 1, _ =>
      show S_Field_isLateWithin_S1 w a (nI k) _ _ _ _ = _
      unfold S_Field_isLateWithin_S1
      rw [if_pos heq]
      simp only [↓zjpE, ↓zletE, ↓zciE, ↓zcvE, ↓zchkE, ↓reduceIte, zciE, zcvE, nI_1, hend, ↓Lo0 hT, ↓Lr0_0 hT, ↓Lr0_3 hT, ↓Lr0_4 hT, ↓Lg19_7 hT, ↓Lr26_0 hT, ↓Lg26_8 hT, ↓Lg26_6 hT, ↓Lp0_7 hT, heq, show (F 26 8 ≤ F 26 8) = True from eq_true le_refl32, true_or]
  | succ m ih =>
    intro k hk heq
    have hc : ¬ nI n ≤ nI k := by rw [nI_leI (by omega) (by omega)]; omega
    by_cases h0 : itk F (k + 1) 26 8 = F 26 8
    · obtain ⟨n', i1, i3⟩ := ih (k + 1) (by omega) h0
      refine ⟨n', i1, fun w D a fuel hT hf => ?_⟩
      have hu := on_U hF (n := k) (by omega) w a D hT
      match fuel, hf with
      | f + 1, hf =>
        show S_Field_isLateWithin_S1 w a (nI n) (zlp (fun (_ : Int32) (_ : Int32) (_ : zD) => none) (S_Field_isLateWithin_S1 w a (nI n)) f) _ _ _ = _
        generalize hj : zlp (fun (_ : Int32) (_ : Int32) (_ : zD) => none) (S_Field_isLateWithin_S1 w a (nI n)) f = j
        unfold S_Field_isLateWithin_S1
        simp only [↓zjpE, ↓zletE, ↓zciE, ↓zcvE, ↓zchkE, ↓reduceIte, zciE, zcvE, nI_1, hc, ↓Lo0 hT, ↓Lr0_0 hT, ↓Lr0_3 hT, ↓Lr0_4 hT, ↓Lg19_7 hT, ↓Lr26_0 hT, ↓Lg26_8 hT, ↓Lg26_6 hT, ↓Lp0_7 hT, heq, ↓zcvX hu]
        subst hj
        exact i3 w D a f hT (by omega)
    · -- one was late now; so it stays
      have hk1 := itk_FS hF (k + 1) (by omega)
      have g0 := itk_Gr hF (k + 1) (by omega)
      have g1 := itk_Gr hk1 (n - (k + 1)) (by omega)
      rw [itk_add, show k + 1 + (n - (k + 1)) = n by omega] at g1
      obtain ⟨-, d1, e1, l1, d2, e2, l2, -, -, b3, -, -, b6, -, -, b9, b10, b11⟩ := g0
      obtain ⟨-, d3, e3, l3, d4, e4, l4, -, -, c3, -, -, c6, -, -, c9, c10, c11⟩ := g1
      have q2 : l2 = l3 := nI_inj (b6.symm.trans c3) (by omega) (by omega)
      subst q2
      have hlt : l1 < l2 := by
        rcases Nat.lt_or_ge l1 l2 with h | h
        · exact h
        · exfalso; apply h0; rw [b6, b3, show l2 = l1 by omega]
      have hne : ¬ itk F n 26 8 = F 26 8 := by
        intro hx
        rw [c6, b3] at hx
        have := nI_inj hx (by omega) (by omega)
        omega
      have hnle : ¬ itk F (k + 1) 26 8 ≤ F 26 8 := by rw [b6, b3, nI_leI (by omega) (by omega)]; omega
      refine ⟨k + 1, by omega, fun w D a fuel hT hf => ?_⟩
      have hu := on_U hF (n := k) (by omega) w a D hT
      match fuel, hf with
      | f + 2, hf =>
        show S_Field_isLateWithin_S1 w a (nI n) (S_Field_isLateWithin_S1 w a (nI n) (zlp _ _ f)) _ _ _ = _
        rw [if_neg hne]
        unfold S_Field_isLateWithin_S1
        simp only [↓zjpE, ↓zletE, ↓zciE, ↓zcvE, ↓zchkE, ↓reduceIte, zciE, zcvE, nI_1, hc, ↓Lo0 hT, ↓Lr0_0 hT, ↓Lr0_3 hT, ↓Lr0_4 hT, ↓Lg19_7 hT, ↓Lr26_0 hT, ↓Lg26_8 hT, ↓Lg26_6 hT, ↓Lp0_7 hT, heq, ↓zcvX hu, h0, hnle, d10, or_true, true_or]
        split <;> rfl
theorem t_late (hF : FS F t t True) {n : Nat} (hn : n ≤ 1000) (ht : t + n < 1000000) : ∃ n', n' ≤ n ∧ ∀ (w : zW) (D : zD) (a : Nat), LF w a → f_Field_isLateWithin w (zblk D a F) a (nI n) = some (if itk F n 26 8 = F 26 8 then 0 else 1, zblk D a (itk F n')) := by
  obtain ⟨n', i1, i2⟩ := lloop hF ht n 0 (by omega) rfl
  refine ⟨n', i1, fun w D a hT => ?_⟩
  rw [u_Field_isLateWithin]
  simp only [↓zjpE, ↓Lr0_4 hT, ↓Lg26_8 hT]
  exact i2 w D a zfuel hT (by unfold zfuel; omega)
/-- with another speed of sound -/
def spd (F : Fld) (v : Nat) : Fld := upd2 F 0 7 (nI v)
def late (F : Fld) (n v : Nat) : Prop := ¬ itk (spd F v) n 26 8 = F 26 8
theorem spd_FS (hF : FS F t t True) {v : Nat} (h1 : 1 ≤ v) (h9 : v ≤ 9) : FS (spd F v) t t True := FS_set7 hF ⟨by rw [show (1 : Int32) = nI 1 from rfl]; exact nI_le h1 (by omega), nI_le h9 (by decide)⟩
theorem sloop (hF : FS F t t True) {n : Nat} (hn : n ≤ 99) (ht : t + n < 1000000) : ∀ m v, v + m = 10 → 1 ≤ v → (∀ u, 1 ≤ u → u < v → late F n u) → ∃ r, ((∃ x, 1 ≤ x ∧ x ≤ 9 ∧ r = nI x ∧ (∀ u, 1 ≤ u → u < x → late F n u) ∧ ¬ late F n x) ∨ (r = -1 ∧ ∀ u, 1 ≤ u → u ≤ 9 → late F n u)) ∧ ∀ (w : zW) (D : zD) (s fuel : Nat) (L : List Fld) (V : Nat → Option Fld), WL w s → At D s (F, L, V) → m < fuel → ∃ D', zlp (fun (_ : Int32) (_ : zD) => none) (S_SF_leastSpeed_S1 w s (nI n)) fuel (nI v) D = some (.inl r, D') ∧ At D' s (F, L, V) ∧ ∀ q, q < s ∨ s + 634 ≤ q → D' q = D q := by
  intro m
  induction m with
  | zero =>
    intro v hv h1 hall
    have : v = 10 := by omega
    subst this
    refine ⟨-1, Or.inr ⟨rfl, fun u a b => hall u a (by omega)⟩, fun w D s fuel L V hw h hf => ⟨D, ?_, h, fun _ _ => rfl⟩⟩
    match fuel, hf with
    | f + 1, _ =>
      show S_SF_leastSpeed_S1 w s (nI n) _ _ _ = _
      unfold S_SF_leastSpeed_S1
      simp only [↓zjpE, ↓zletE, ↓zciE, ↓zcvE, ↓zchkE, ↓reduceIte, zciE, zcvE, nI_1, show ((9 : Int32) < nI 10) = True from eq_true (by decide)]
  | succ m ih =>
    intro v hv h1 hall
    have hc : ¬ (9 : Int32) < nI v := Int32.not_lt.2 (nI_le (show v ≤ 9 by omega) (by decide))
    have hS := spd_FS hF h1 (show v ≤ 9 by omega)
    obtain ⟨n', i1, i2⟩ := t_late hS (n := n) (by omega) ht
    have e8 : spd F v 26 8 = F 26 8 := by unfold spd; rw [upd2_o (by decide)]
    rw [e8] at i2
    have hz := FS_Z (itk_FS hS n' (by omega))
    by_cases hl : late F n v
    · obtain ⟨r, j1, j2⟩ := ih (v + 1) (by omega) (by omega) (fun u a b => by
        by_cases huv : u = v
        · subst huv; exact hl
        · exact hall u a (by omega))
      refine ⟨r, j1, fun w D s fuel L V hw h hf => ?_⟩
      have hT := WL70 hw
      have i3 := i2 w D (s + 70) hT
      rw [if_neg (show ¬ itk (spd F v) n 26 8 = F 26 8 from hl)] at i3
      have h2 := At_trial h hz.1 hz.2
      match fuel, hf with
      | f + 1, hf =>
        obtain ⟨D', k1, k2, k3⟩ := j2 w (zblk D (s + 70) (itk (spd F v) n')) s f L V hw h2 (by omega)
        refine ⟨D', ?_, k2, fun q hq => (k3 q hq).trans (zblk_out (by omega))⟩
        show S_SF_leastSpeed_S1 w s (nI n) (zlp (fun (_ : Int32) (_ : zD) => none) (S_SF_leastSpeed_S1 w s (nI n)) f) _ _ = _
        generalize hj : zlp (fun (_ : Int32) (_ : zD) => none) (S_SF_leastSpeed_S1 w s (nI n)) f = j
        unfold S_SF_leastSpeed_S1
        simp only [↓zjpE, ↓zletE, ↓zciE, ↓zcvE, ↓zchkE, ↓reduceIte, zciE, zcvE, nI_1, ↓WSo hw, ↓WSr0 hw, ↓WSr1 hw, ↓WSr2 hw, ↓WSr3 hw, ↓WSr4 hw, ↓WSg5 hw, ↓WSp5 hw, ↓WSg6 hw, ↓WSp6 hw, ↓WSr7 hw, ↓WSr8 hw, ↓WTo hw, ↓WTr0 hw, ↓WTg1 hw, ↓WTp1 hw, ↓WTg2 hw, ↓WTp2 hw, ↓WTg3 hw, ↓WTp3 hw, ↓WTr4 hw, hc, ↓Lo0 hT, ↓zcvX (try1 hw h (FS_Z hF)), ↓Lp0_7 hT]
        have i4 : f_Field_isLateWithin w (zblk D (s + 70) (upd2 F 0 7 (nI v))) (s + 70) (nI n) = some (1, zblk D (s + 70) (itk (spd F v) n')) := i3
        simp only [↓zciX i4, d10, ↓reduceIte, ↓zletE, nI_1]
        subst hj
        exact k1
    · refine ⟨nI v, Or.inl ⟨v, h1, by omega, rfl, fun u a b => hall u a b, hl⟩, fun w D s fuel L V hw h hf => ?_⟩
      have hT := WL70 hw
      have i3 := i2 w D (s + 70) hT
      rw [if_pos (Decidable.not_not.1 (show ¬ ¬ itk (spd F v) n 26 8 = F 26 8 from hl))] at i3
      have h2 := At_trial h hz.1 hz.2
      match fuel, hf with
      | f + 1, hf =>
        refine ⟨_, ?_, h2, fun q hq => zblk_out (by omega)⟩
        show S_SF_leastSpeed_S1 w s (nI n) _ _ _ = _
        unfold S_SF_leastSpeed_S1
        simp only [↓zjpE, ↓zletE, ↓zciE, ↓zcvE, ↓zchkE, ↓reduceIte, zciE, zcvE, nI_1, ↓WSo hw, ↓WSr0 hw, ↓WSr1 hw, ↓WSr2 hw, ↓WSr3 hw, ↓WSr4 hw, ↓WSg5 hw, ↓WSp5 hw, ↓WSg6 hw, ↓WSp6 hw, ↓WSr7 hw, ↓WSr8 hw, ↓WTo hw, ↓WTr0 hw, ↓WTg1 hw, ↓WTp1 hw, ↓WTg2 hw, ↓WTp2 hw, ↓WTg3 hw, ↓WTp3 hw, ↓WTr4 hw, hc, ↓Lo0 hT, ↓zcvX (try1 hw h (FS_Z hF)), ↓Lp0_7 hT]
        have i4 : f_Field_isLateWithin w (zblk D (s + 70) (upd2 F 0 7 (nI v))) (s + 70) (nI n) = some (0, zblk D (s + 70) (itk (spd F v) n')) := i3
        simp only [↓zciX i4, ↓reduceIte]
theorem t_least (hF : FS F t t True) {n : Nat} (h1 : 1 ≤ n) (hn : n ≤ 99) (ht : t + n < 1000000) : ∃ r, ((∃ x, 1 ≤ x ∧ x ≤ 9 ∧ r = nI x ∧ (∀ u, 1 ≤ u → u < x → late F n u) ∧ ¬ late F n x) ∨ (r = -1 ∧ ∀ u, 1 ≤ u → u ≤ 9 → late F n u)) ∧ ∀ (w : zW) (D : zD) (s : Nat) (L : List Fld) (V : Nat → Option Fld), WL w s → At D s (F, L, V) → ∃ D', f_SF_leastSpeed w D s (nI n) = some (.inl r, D') ∧ At D' s (F, L, V) ∧ ∀ q, q < s ∨ s + 634 ≤ q → D' q = D q := by
  obtain ⟨r, a1, a2⟩ := sloop hF hn ht 9 1 (by omega) (by omega) (fun u a b => by omega)
  refine ⟨r, a1, fun w D s L V hw h => ?_⟩
  obtain ⟨D', b1, b2, b3⟩ := a2 w D s zfuel L V hw h (by unfold zfuel; omega)
  refine ⟨D', ?_, b2, b3⟩
  have hx : (1 : Int32) ≤ nI n ∧ nI n ≤ 99 := ⟨by rw [show (1 : Int32) = nI 1 from rfl]; exact nI_le h1 (by omega), nI_le hn (by decide)⟩
  rw [u_SF_leastSpeed]
  simp only [↓zjpE, ↓zletE, ↓zciE, ↓zcvE, ↓zchkE, ↓reduceIte, zciE, zcvE, nI_1, ↓zWi, d10, zone, eq_true hx]
  exact b1
theorem t_sim (hF : FT F T) (hT : T + 1000 < 1000000) {x : Int64} {m : Nat} (h1 : 1 ≤ m) (hm : m ≤ 60) : ∃ r, ∀ (w : zW) (D : zD) (s : Nat) (L : List Fld) (V : Nat → Option Fld), WL w s → At D s (F, L, V) → ∃ D', f_SF_simulate w D s x (nI m) = some (.inl r, D') ∧ At D' s (F, L, V) ∧ ∀ q, q < s ∨ s + 634 ≤ q → D' q = D q := by
  obtain ⟨S', hS', w1⟩ := lpU (δ := {y : zW × zD × Nat // WL y.1 y.2.2}) (bot := fun (_ : Int32) (_ : Int32) (_ : Int64) (_ : Int32) (_ : zD) => none) (st := fun y => S_SF_simulate_S1 y.1.1 y.1.2.2 x (nI m)) (β := (Int32 ⊕ String) × zD) (n := m) (fun k (q : Int64 × Fld) => FT q.2 (T + 12 * k)) (fun y g k q => g (F 26 6) (F 26 8) q.1 (nI k) (zblk y.1.2.1 (y.1.2.2 + 70) q.2)) (by
    intro k q hk hq
    obtain ⟨lx, F1⟩ := q
    obtain ⟨n, hn, hsh⟩ := shr33 (lx * (6364136223846793005 : Int64) + (1442695040888963407 : Int64))
    obtain ⟨F2, hR2, y1⟩ := takeTurn hq hn (by omega)
    have hc : ¬ nI m ≤ nI k := by rw [nI_leI (by omega) (by omega)]; omega
    refine ⟨(lx * (6364136223846793005 : Int64) + (1442695040888963407 : Int64), F2), ?_, ?_⟩
    · rw [show T + 12 * (k + 1) = T + 12 * k + 12 by omega]; exact hR2
    · intro y j
      have hw := y.2
      have y2 := y1 y.1.1 (y.1.2.2 + 70) y.1.2.1 (WL70 hw)
      unfold S_SF_simulate_S1
      simp only [↓zjpE, ↓zletE, ↓zciE, ↓zcvE, ↓zchkE, ↓reduceIte, zciE, zcvE, nI_1, ↓WSo hw, ↓WSr0 hw, ↓WSr1 hw, ↓WSr2 hw, ↓WSr3 hw, ↓WSr4 hw, ↓WSg5 hw, ↓WSp5 hw, ↓WSg6 hw, ↓WSp6 hw, ↓WSr7 hw, ↓WSr8 hw, ↓WTo hw, ↓WTr0 hw, ↓WTg1 hw, ↓WTp1 hw, ↓WTg2 hw, ↓WTp2 hw, ↓WTg3 hw, ↓WTp3 hw, ↓WTr4 hw, hc, hsh, ↓zcvX y2]) m 0 (x, F) (by omega) hF
  obtain ⟨lx, F1⟩ := S'
  have hend : nI m ≤ nI m := nI_le (Nat.le_refl m) (by omega)
  have hz := FT_NZ hS'
  refine ⟨(((10000 : Int32) * (zirem (F1 26 6 - F 26 6) (10000 : Int32))) + ((100 : Int32) * (zirem (F1 26 8 - F 26 8) (100 : Int32)))) + F1 19 7, fun w D s L V hw h => ⟨zblk D (s + 70) F1, ?_, At_trial h hz.1 hz.2, fun q hq => zblk_out (by omega)⟩⟩
  have hTt := WL70 hw
  obtain ⟨j, hj⟩ := w1 ⟨(w, D, s), hw⟩ zfuel (by unfold zfuel; omega)
  have hx : (1 : Int32) ≤ nI m ∧ nI m ≤ 60 := ⟨by rw [show (1 : Int32) = nI 1 from rfl]; exact nI_le h1 (by omega), nI_le hm (by decide)⟩
  rw [u_SF_simulate]
  simp only [↓zjpE, ↓zletE, ↓zciE, ↓zcvE, ↓zchkE, ↓reduceIte, zciE, zcvE, nI_1, ↓zWi, d10, zone, eq_true hx, ↓WSo hw, ↓WSr0 hw, ↓WSr1 hw, ↓WSr2 hw, ↓WSr3 hw, ↓WSr4 hw, ↓WSg5 hw, ↓WSp5 hw, ↓WSg6 hw, ↓WSp6 hw, ↓WSr7 hw, ↓WSr8 hw, ↓WTo hw, ↓WTr0 hw, ↓WTg1 hw, ↓WTp1 hw, ↓WTg2 hw, ↓WTp2 hw, ↓WTg3 hw, ↓WTp3 hw, ↓WTr4 hw, ↓Lo0 hTt, ↓zcvX (try1 hw h (FT_NZ hF)), ↓Lr0_4 hTt, ↓Lg26_6 hTt, ↓Lg26_8 hTt]
  refine hj.trans ?_
  unfold S_SF_simulate_S1
  simp (disch := omega) only [↓zjpE, ↓zletE, ↓zciE, ↓zcvE, ↓zchkE, ↓reduceIte, zciE, zcvE, nI_1, ↓WSo hw, ↓WSr0 hw, ↓WSr1 hw, ↓WSr2 hw, ↓WSr3 hw, ↓WSr4 hw, ↓WSg5 hw, ↓WSp5 hw, ↓WSg6 hw, ↓WSp6 hw, ↓WSr7 hw, ↓WSr8 hw, ↓WTo hw, ↓WTr0 hw, ↓WTg1 hw, ↓WTp1 hw, ↓WTg2 hw, ↓WTp2 hw, ↓WTg3 hw, ↓WTp3 hw, ↓WTr4 hw, hend, ↓Lr0_3 hTt, ↓Lr0_4 hTt, ↓Lg26_6 hTt, ↓Lg26_8 hTt, ↓Lg19_7 hTt]
end P61
