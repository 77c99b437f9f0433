/-! PURE: beats. -/
def csum (G : Nat → Nat → Int32) (t h : Nat) : Nat → Nat
  | 0 => 0
  | k + 1 => csum G t h k + (if G 30 (4 * h + k) = nI t then 1 else 0)
def pop4 (m : Nat) : Nat := m % 2 + m / 2 % 2 + m / 4 % 2 + m / 8 % 2
/-- the state while beats are counted: q hearers are done -/
def RT (F G : Nat → Nat → Int32) (ns nh nw t tp : Nat) (A : Prop) (np d e l c p q : Nat) : Prop := R1 F G ∧ (F 19 6 = nI p ∧ p < 60 ∧ F 19 7 = nI (keep G nh np).length ∧ G 19 7 = nI np ∧ np ≤ 60) ∧ (∀ f m i, f < 6 → (keep G nh np)[m]? = some i → F (20 + f) ((p + m) % 60) = G (20 + f) i) ∧ (∀ h, h < 4 → F 15 h = (if h < q then 0 else nI (msk G t h)) ∧ (nh ≤ h → F 15 h = 0)) ∧ (∀ h s, h < 4 → ns ≤ s → s < 4 → ¬ G 30 (4 * h + s) = nI t) ∧ F 9 7 = bsum G nh ∧ Ist G ns nh nw t tp A np ∧ IE G t ∧ IK G d e l c
theorem bsum_upd {G : Nat → Nat → Int32} {h n : Nat} {x : Int32} : bsum (upd2 G 14 h (G 14 h + x)) n = bsum G n + (if h < n then x else 0) := by
  induction n with
  | zero => unfold bsum; rw [if_neg (by omega)]; grind
  | succ n ih =>
    unfold bsum
    rw [ih]
    by_cases h1 : n = h
    · subst h1; rw [upd2_s, if_neg (by omega), if_pos (by omega)]; grind
    · rw [upd2_i h1]
      by_cases h2 : h < n
      · rw [if_pos h2, if_pos (by omega)]; grind
      · rw [if_neg h2, if_neg (by omega)]; grind
theorem csum_4 {G : Nat → Nat → Int32} {t h ns : Nat} (hn : ns ≤ 4) (hh : ∀ s, ns ≤ s → s < 4 → ¬ G 30 (4 * h + s) = nI t) : csum G t h ns = pop4 (msk G t h) := by
  have h4 : csum G t h 4 = pop4 (msk G t h) := by
    unfold msk
    simp only [csum, Nat.add_zero]
    by_cases c0 : G 30 (4 * h) = nI t <;> by_cases c1 : G 30 (4 * h + 1) = nI t <;> by_cases c2 : G 30 (4 * h + 2) = nI t <;> by_cases c3 : G 30 (4 * h + 3) = nI t <;> simp only [c0, c1, c2, c3, if_true, if_false] <;> decide
  rw [← h4]
  have aux : ∀ m, ns + m ≤ 4 → csum G t h (ns + m) = csum G t h ns := by
    intro m
    induction m with
    | zero => intro _; rfl
    | succ m ih =>
      intro hm
      show csum G t h (ns + m) + (if G 30 (4 * h + (ns + m)) = nI t then 1 else 0) = _
      rw [ih (by omega), if_neg (hh (ns + m) (by omega) (by omega)), Nat.add_zero]
  have := aux (4 - ns) (by omega)
  rw [show ns + (4 - ns) = 4 by omega] at this
  exact this.symm
theorem msk_lt {G : Nat → Nat → Int32} {t h : Nat} : msk G t h < 16 := by
  unfold msk
  split <;> split <;> split <;> split <;> omega
section P48
variable {A : Prop} {w : zW} {a b ns nh nw t te tp np d e l c p k : Nat} {D : zD} {F G : Nat → Nat → Int32}
theorem e_bit {m : Nat} (hm : m < 16) : f_Integer_bitCount w D (nI m) = some (nI (pop4 m), D) := by
  unfold f_Integer_bitCount
  simp only [zletE]
  have : m = 0 ∨ m = 1 ∨ m = 2 ∨ m = 3 ∨ m = 4 ∨ m = 5 ∨ m = 6 ∨ m = 7 ∨ m = 8 ∨ m = 9 ∨ m = 10 ∨ m = 11 ∨ m = 12 ∨ m = 13 ∨ m = 14 ∨ m = 15 := by omega
  rcases this with rfl | rfl | rfl | rfl | rfl | rfl | rfl | rfl | rfl | rfl | rfl | rfl | rfl | rfl | rfl | rfl <;> rfl
theorem e_beats (hb : w.1 b = some (.inl (0, 521))) {h : Nat} (hh : h < 4) (hn : ns ≤ 4) (g0 : G 1 7 = nI ns) (g3 : G 0 5 = nI t) : f_MD_beats w (zset D b (vec G)) b (nI h) = some (zset D b (vec (upd2 G 14 h (G 14 h + if csum G t h ns ≤ 1 then 0 else 1)))) := by
  obtain ⟨s', hs', w1⟩ := lpG (bot := fun (_ : Int32) (_ : Int32) (_ : zD) => none) (st := S_MD_beats_S1 w b (nI h)) (β := zD) (n := ns) (fun k (s : Nat) => s = csum G t h k) (fun D g k s => g (nI s) (nI k) (zset D b (vec G))) (by
    intro k s hk hs
    refine ⟨csum G t h (k + 1), rfl, ?_⟩
    intro D j
    have hc : ¬ nI ns ≤ nI k := by rw [nI_leI (by omega) (by omega)]; omega
    unfold S_MD_beats_S1
    by_cases h1 : G 30 (4 * h + k) = nI t
    · simp (disch := omega) only [↓zjpE, ↓zletE, ↓zciE, ↓zcvE, ↓zchkE, ↓reduceIte, zciE, zcvE, nI_1, ↓Mrc0 hb, ↓Mwc0 hb, ↓Mrc1 hb, ↓Mwc1 hb, ↓Mrc2 hb, ↓Mwc2 hb, ↓Mrc3 hb, ↓Mwc3 hb, ↓Mrc4 hb, ↓Mwc4 hb, ↓Mrc5 hb, ↓Mwc5 hb, ↓Mrc6 hb, ↓Mwc6 hb, ↓Mrc7 hb, ↓Mwc7 hb, ↓Mrc8 hb, ↓Mwc8 hb, ↓Mrc9 hb, ↓Mwc9 hb, ↓Mrc10 hb, ↓Mwc10 hb, ↓Mrs hb, ↓Mws hb, ↓Mrs0 hb, ↓Mws0 hb, ↓Mrs1 hb, ↓Mws1 hb, ↓Mrs2 hb, ↓Mws2 hb, ↓Mrs3 hb, ↓Mws3 hb, ↓Mrs4 hb, ↓Mws4 hb, ↓Mrs5 hb, ↓Mws5 hb, ↓Mrs6 hb, ↓Mws6 hb, ↓Mrh hb, ↓Mwh hb, ↓Mrh0 hb, ↓Mwh0 hb, ↓Mrh1 hb, ↓Mwh1 hb, ↓Mrh2 hb, ↓Mwh2 hb, ↓Mrh3 hb, ↓Mwh3 hb, ↓Mrh4 hb, ↓Mwh4 hb, ↓Mrw hb, ↓Mww hb, ↓Mrw0 hb, ↓Mww0 hb, ↓Mrw1 hb, ↓Mww1 hb, ↓Mre hb, ↓Mwe hb, ↓Mre0 hb, ↓Mwe0 hb, ↓Mre1 hb, ↓Mwe1 hb, ↓Mre2 hb, ↓Mwe2 hb, ↓Mre3 hb, ↓Mwe3 hb, ↓Mre4 hb, ↓Mwe4 hb, ↓Mre5 hb, ↓Mwe5 hb, ↓Mrp hb, ↓Mwp hb, ↓Mrp0 hb, ↓Mwp0 hb, ↓Mrp1 hb, ↓Mwp1 hb, ↓Mrp2 hb, ↓Mwp2 hb, ↓Mrp3 hb, ↓Mwp3 hb, ↓Mrp4 hb, ↓Mwp4 hb, ↓Mrp5 hb, ↓Mwp5 hb, ↓Mrk0 hb, ↓Mwk0 hb, ↓Mrk1 hb, ↓Mwk1 hb, ↓Mrx hb, ↓Mwx hb, ↓Mrx0 hb, ↓Mwx0 hb, ↓Mrx1 hb, ↓Mwx1 hb, ↓Mrx2 hb, ↓Mwx2 hb, ↓Mrx3 hb, ↓Mwx3 hb, ↓Mrx4 hb, ↓Mwx4 hb, ↓Mrx5 hb, ↓Mwx5 hb, ↓Mrt0 hb, ↓Mwt0 hb, ↓Mrt1 hb, ↓Mwt1 hb, ↓Mqs0 hb, ↓Mqs1 hb, ↓Mqs2 hb, ↓Mqs3 hb, ↓Mqs4 hb, ↓Mqs5 hb, ↓Mqs6 hb, ↓Mqh0 hb, ↓Mqh1 hb, ↓Mqh2 hb, ↓Mqh3 hb, ↓Mqh4 hb, ↓Mqp0 hb, ↓Mqp1 hb, ↓Mqp2 hb, ↓Mqp3 hb, ↓Mqp4 hb, ↓Mqp5 hb, g0, hc, g3, h1]
      subst hs
      rw [show csum G t h (k + 1) = csum G t h k + 1 by show csum G t h k + _ = _; rw [if_pos h1]]
    · simp (disch := omega) only [↓zjpE, ↓zletE, ↓zciE, ↓zcvE, ↓zchkE, ↓reduceIte, zciE, zcvE, nI_1, ↓Mrc0 hb, ↓Mwc0 hb, ↓Mrc1 hb, ↓Mwc1 hb, ↓Mrc2 hb, ↓Mwc2 hb, ↓Mrc3 hb, ↓Mwc3 hb, ↓Mrc4 hb, ↓Mwc4 hb, ↓Mrc5 hb, ↓Mwc5 hb, ↓Mrc6 hb, ↓Mwc6 hb, ↓Mrc7 hb, ↓Mwc7 hb, ↓Mrc8 hb, ↓Mwc8 hb, ↓Mrc9 hb, ↓Mwc9 hb, ↓Mrc10 hb, ↓Mwc10 hb, ↓Mrs hb, ↓Mws hb, ↓Mrs0 hb, ↓Mws0 hb, ↓Mrs1 hb, ↓Mws1 hb, ↓Mrs2 hb, ↓Mws2 hb, ↓Mrs3 hb, ↓Mws3 hb, ↓Mrs4 hb, ↓Mws4 hb, ↓Mrs5 hb, ↓Mws5 hb, ↓Mrs6 hb, ↓Mws6 hb, ↓Mrh hb, ↓Mwh hb, ↓Mrh0 hb, ↓Mwh0 hb, ↓Mrh1 hb, ↓Mwh1 hb, ↓Mrh2 hb, ↓Mwh2 hb, ↓Mrh3 hb, ↓Mwh3 hb, ↓Mrh4 hb, ↓Mwh4 hb, ↓Mrw hb, ↓Mww hb, ↓Mrw0 hb, ↓Mww0 hb, ↓Mrw1 hb, ↓Mww1 hb, ↓Mre hb, ↓Mwe hb, ↓Mre0 hb, ↓Mwe0 hb, ↓Mre1 hb, ↓Mwe1 hb, ↓Mre2 hb, ↓Mwe2 hb, ↓Mre3 hb, ↓Mwe3 hb, ↓Mre4 hb, ↓Mwe4 hb, ↓Mre5 hb, ↓Mwe5 hb, ↓Mrp hb, ↓Mwp hb, ↓Mrp0 hb, ↓Mwp0 hb, ↓Mrp1 hb, ↓Mwp1 hb, ↓Mrp2 hb, ↓Mwp2 hb, ↓Mrp3 hb, ↓Mwp3 hb, ↓Mrp4 hb, ↓Mwp4 hb, ↓Mrp5 hb, ↓Mwp5 hb, ↓Mrk0 hb, ↓Mwk0 hb, ↓Mrk1 hb, ↓Mwk1 hb, ↓Mrx hb, ↓Mwx hb, ↓Mrx0 hb, ↓Mwx0 hb, ↓Mrx1 hb, ↓Mwx1 hb, ↓Mrx2 hb, ↓Mwx2 hb, ↓Mrx3 hb, ↓Mwx3 hb, ↓Mrx4 hb, ↓Mwx4 hb, ↓Mrx5 hb, ↓Mwx5 hb, ↓Mrt0 hb, ↓Mwt0 hb, ↓Mrt1 hb, ↓Mwt1 hb, ↓Mqs0 hb, ↓Mqs1 hb, ↓Mqs2 hb, ↓Mqs3 hb, ↓Mqs4 hb, ↓Mqs5 hb, ↓Mqs6 hb, ↓Mqh0 hb, ↓Mqh1 hb, ↓Mqh2 hb, ↓Mqh3 hb, ↓Mqh4 hb, ↓Mqp0 hb, ↓Mqp1 hb, ↓Mqp2 hb, ↓Mqp3 hb, ↓Mqp4 hb, ↓Mqp5 hb, g0, hc, g3, h1]
      subst hs
      rw [show csum G t h (k + 1) = csum G t h k by show csum G t h k + _ = _; rw [if_neg h1]; rfl, show (0 : Int32) = nI 0 from rfl, nI_add]
      rfl) ns 0 0 (by omega) rfl
  subst hs'
  have hc4 : csum G t h ns ≤ ns := by
    clear w1 hn g0
    induction ns with
    | zero => exact Nat.le_refl _
    | succ n ih => show csum G t h n + _ ≤ _; split <;> omega
  obtain ⟨j, hj⟩ := w1 D zfuel (by unfold zfuel; omega)
  have hend : nI ns ≤ nI ns := nI_le (Nat.le_refl ns) (by omega)
  rw [u_MD_beats]
  simp only [↓zjpE]
  refine hj.trans ?_
  unfold S_MD_beats_S1
  by_cases h1 : csum G t h ns ≤ 1
  · have h2 : nI (csum G t h ns) ≤ 1 := nI_le h1 (by decide)
    simp (disch := omega) only [↓zjpE, ↓zletE, ↓zciE, ↓zcvE, ↓zchkE, ↓reduceIte, zciE, zcvE, nI_1, ↓Mrc0 hb, ↓Mwc0 hb, ↓Mrc1 hb, ↓Mwc1 hb, ↓Mrc2 hb, ↓Mwc2 hb, ↓Mrc3 hb, ↓Mwc3 hb, ↓Mrc4 hb, ↓Mwc4 hb, ↓Mrc5 hb, ↓Mwc5 hb, ↓Mrc6 hb, ↓Mwc6 hb, ↓Mrc7 hb, ↓Mwc7 hb, ↓Mrc8 hb, ↓Mwc8 hb, ↓Mrc9 hb, ↓Mwc9 hb, ↓Mrc10 hb, ↓Mwc10 hb, ↓Mrs hb, ↓Mws hb, ↓Mrs0 hb, ↓Mws0 hb, ↓Mrs1 hb, ↓Mws1 hb, ↓Mrs2 hb, ↓Mws2 hb, ↓Mrs3 hb, ↓Mws3 hb, ↓Mrs4 hb, ↓Mws4 hb, ↓Mrs5 hb, ↓Mws5 hb, ↓Mrs6 hb, ↓Mws6 hb, ↓Mrh hb, ↓Mwh hb, ↓Mrh0 hb, ↓Mwh0 hb, ↓Mrh1 hb, ↓Mwh1 hb, ↓Mrh2 hb, ↓Mwh2 hb, ↓Mrh3 hb, ↓Mwh3 hb, ↓Mrh4 hb, ↓Mwh4 hb, ↓Mrw hb, ↓Mww hb, ↓Mrw0 hb, ↓Mww0 hb, ↓Mrw1 hb, ↓Mww1 hb, ↓Mre hb, ↓Mwe hb, ↓Mre0 hb, ↓Mwe0 hb, ↓Mre1 hb, ↓Mwe1 hb, ↓Mre2 hb, ↓Mwe2 hb, ↓Mre3 hb, ↓Mwe3 hb, ↓Mre4 hb, ↓Mwe4 hb, ↓Mre5 hb, ↓Mwe5 hb, ↓Mrp hb, ↓Mwp hb, ↓Mrp0 hb, ↓Mwp0 hb, ↓Mrp1 hb, ↓Mwp1 hb, ↓Mrp2 hb, ↓Mwp2 hb, ↓Mrp3 hb, ↓Mwp3 hb, ↓Mrp4 hb, ↓Mwp4 hb, ↓Mrp5 hb, ↓Mwp5 hb, ↓Mrk0 hb, ↓Mwk0 hb, ↓Mrk1 hb, ↓Mwk1 hb, ↓Mrx hb, ↓Mwx hb, ↓Mrx0 hb, ↓Mwx0 hb, ↓Mrx1 hb, ↓Mwx1 hb, ↓Mrx2 hb, ↓Mwx2 hb, ↓Mrx3 hb, ↓Mwx3 hb, ↓Mrx4 hb, ↓Mwx4 hb, ↓Mrx5 hb, ↓Mwx5 hb, ↓Mrt0 hb, ↓Mwt0 hb, ↓Mrt1 hb, ↓Mwt1 hb, ↓Mqs0 hb, ↓Mqs1 hb, ↓Mqs2 hb, ↓Mqs3 hb, ↓Mqs4 hb, ↓Mqs5 hb, ↓Mqs6 hb, ↓Mqh0 hb, ↓Mqh1 hb, ↓Mqh2 hb, ↓Mqh3 hb, ↓Mqh4 hb, ↓Mqp0 hb, ↓Mqp1 hb, ↓Mqp2 hb, ↓Mqp3 hb, ↓Mqp4 hb, ↓Mqp5 hb, g0, hend, h2, h1]
  · have h2 : ¬ nI (csum G t h ns) ≤ 1 := nI_ge (show 1 < csum G t h ns by omega) (by omega)
    simp (disch := omega) only [↓zjpE, ↓zletE, ↓zciE, ↓zcvE, ↓zchkE, ↓reduceIte, zciE, zcvE, nI_1, ↓Mrc0 hb, ↓Mwc0 hb, ↓Mrc1 hb, ↓Mwc1 hb, ↓Mrc2 hb, ↓Mwc2 hb, ↓Mrc3 hb, ↓Mwc3 hb, ↓Mrc4 hb, ↓Mwc4 hb, ↓Mrc5 hb, ↓Mwc5 hb, ↓Mrc6 hb, ↓Mwc6 hb, ↓Mrc7 hb, ↓Mwc7 hb, ↓Mrc8 hb, ↓Mwc8 hb, ↓Mrc9 hb, ↓Mwc9 hb, ↓Mrc10 hb, ↓Mwc10 hb, ↓Mrs hb, ↓Mws hb, ↓Mrs0 hb, ↓Mws0 hb, ↓Mrs1 hb, ↓Mws1 hb, ↓Mrs2 hb, ↓Mws2 hb, ↓Mrs3 hb, ↓Mws3 hb, ↓Mrs4 hb, ↓Mws4 hb, ↓Mrs5 hb, ↓Mws5 hb, ↓Mrs6 hb, ↓Mws6 hb, ↓Mrh hb, ↓Mwh hb, ↓Mrh0 hb, ↓Mwh0 hb, ↓Mrh1 hb, ↓Mwh1 hb, ↓Mrh2 hb, ↓Mwh2 hb, ↓Mrh3 hb, ↓Mwh3 hb, ↓Mrh4 hb, ↓Mwh4 hb, ↓Mrw hb, ↓Mww hb, ↓Mrw0 hb, ↓Mww0 hb, ↓Mrw1 hb, ↓Mww1 hb, ↓Mre hb, ↓Mwe hb, ↓Mre0 hb, ↓Mwe0 hb, ↓Mre1 hb, ↓Mwe1 hb, ↓Mre2 hb, ↓Mwe2 hb, ↓Mre3 hb, ↓Mwe3 hb, ↓Mre4 hb, ↓Mwe4 hb, ↓Mre5 hb, ↓Mwe5 hb, ↓Mrp hb, ↓Mwp hb, ↓Mrp0 hb, ↓Mwp0 hb, ↓Mrp1 hb, ↓Mwp1 hb, ↓Mrp2 hb, ↓Mwp2 hb, ↓Mrp3 hb, ↓Mwp3 hb, ↓Mrp4 hb, ↓Mwp4 hb, ↓Mrp5 hb, ↓Mwp5 hb, ↓Mrk0 hb, ↓Mwk0 hb, ↓Mrk1 hb, ↓Mwk1 hb, ↓Mrx hb, ↓Mwx hb, ↓Mrx0 hb, ↓Mwx0 hb, ↓Mrx1 hb, ↓Mwx1 hb, ↓Mrx2 hb, ↓Mwx2 hb, ↓Mrx3 hb, ↓Mwx3 hb, ↓Mrx4 hb, ↓Mwx4 hb, ↓Mrx5 hb, ↓Mwx5 hb, ↓Mrt0 hb, ↓Mwt0 hb, ↓Mrt1 hb, ↓Mwt1 hb, ↓Mqs0 hb, ↓Mqs1 hb, ↓Mqs2 hb, ↓Mqs3 hb, ↓Mqs4 hb, ↓Mqs5 hb, ↓Mqs6 hb, ↓Mqh0 hb, ↓Mqh1 hb, ↓Mqh2 hb, ↓Mqh3 hb, ↓Mqh4 hb, ↓Mqp0 hb, ↓Mqp1 hb, ↓Mqp2 hb, ↓Mqp3 hb, ↓Mqp4 hb, ↓Mqp5 hb, g0, hend, h2, h1]
theorem RT_0 (h : RH F G ns nh nw t tp A np d e l c p np) : RT (upd2 F 19 7 (nI (keep G nh np).length)) G ns nh nw t tp A np d e l c p 0 := by
  obtain ⟨h1, ⟨q1, q2, q3, q4, q5⟩, a1, a2, aS, aB, a3⟩ := h
  refine ⟨R1_f h1 (by unfold St; omega), ⟨by rw [upd2_i (by decide)]; exact q1, q2, upd2_s, q4, q5⟩, ?_, ?_, aS.2, ?_, a3⟩
  · intro f m i hf hm; rw [upd2_o (by omega)]; exact a2 f m i hf hm
  · intro h hh; rw [upd2_o (by decide), if_neg (by omega)]; exact aS.1 h hh
  · rw [upd2_o (by decide)]; exact aB
theorem beat1 (hL : LF w a) (hb : w.1 b = some (.inl (0, 521))) {q : Nat} (h : RT F G ns nh nw t tp A np d e l c p q) (hq : q < nh) : ∃ F' G', RT F' G' ns nh nw t tp A np d e l c p (q + 1) ∧ (∀ o, o ≠ 14 → G' o = G o) ∧ (∀ D j, S_Hearers_countBeats_S1 w (a + 9) j (nI q) (zblk D a F) = j (nI (q + 1)) (zblk D a F')) ∧ (∀ D j, S_MD_tick_S5 w b j (nI q) (zset D b (vec G)) = j (nI (q + 1)) (zset D b (vec G'))) := by
  obtain ⟨h1, ⟨q1, q2, q3, q4, q5⟩, a2, aS, aN, aB, aI, aE, aK⟩ := id h
  obtain ⟨n0, n1, n2, n3, n4, n5, n6, n7⟩ := id aI.1
  have hq4 : q < 4 := by omega
  have hF9 : F 9 6 = nI nh := by rw [r9_6 h1, n2]
  have hc : ¬ nI nh ≤ nI q := by rw [nI_leI (by omega) (by omega)]; omega
  have h15 : F 15 q = nI (msk G t q) := by rw [(aS q hq4).1, if_neg (by omega)]
  have hbit := fun D => @e_bit w D (msk G t q) msk_lt
  have hcs : csum G t q ns = pop4 (msk G t q) := csum_4 n1 (fun s h2 h3 => aN q s hq4 h2 h3)
  have hp4 : pop4 (msk G t q) < 100 := by unfold pop4; omega
  have hM := fun D => e_beats (D := D) (t := t) hb hq4 n1 n0 n6
  have keepc : ∀ v, keep (upd2 G 14 q v) nh np = keep G nh np := by
    intro v; apply keep_congr; intro i hi; unfold gone; simp (disch := omega) only [upd2_o]
  have mskc : ∀ v h, msk (upd2 G 14 q v) t h = msk G t h := by
    intro v h; unfold msk; simp (disch := omega) only [upd2_o]
  have hmod : ∀ D j, S_MD_tick_S5 w b j (nI q) (zset D b (vec G)) = j (nI (q + 1)) (zset D b (vec (upd2 G 14 q (G 14 q + if csum G t q ns ≤ 1 then 0 else 1)))) := by
    intro D j
    unfold S_MD_tick_S5
    simp (disch := omega) only [↓zjpE, ↓zletE, ↓zciE, ↓zcvE, ↓zchkE, ↓reduceIte, zciE, zcvE, nI_1, ↓Mrc0 hb, ↓Mwc0 hb, ↓Mrc1 hb, ↓Mwc1 hb, ↓Mrc2 hb, ↓Mwc2 hb, ↓Mrc3 hb, ↓Mwc3 hb, ↓Mrc4 hb, ↓Mwc4 hb, ↓Mrc5 hb, ↓Mwc5 hb, ↓Mrc6 hb, ↓Mwc6 hb, ↓Mrc7 hb, ↓Mwc7 hb, ↓Mrc8 hb, ↓Mwc8 hb, ↓Mrc9 hb, ↓Mwc9 hb, ↓Mrc10 hb, ↓Mwc10 hb, ↓Mrs hb, ↓Mws hb, ↓Mrs0 hb, ↓Mws0 hb, ↓Mrs1 hb, ↓Mws1 hb, ↓Mrs2 hb, ↓Mws2 hb, ↓Mrs3 hb, ↓Mws3 hb, ↓Mrs4 hb, ↓Mws4 hb, ↓Mrs5 hb, ↓Mws5 hb, ↓Mrs6 hb, ↓Mws6 hb, ↓Mrh hb, ↓Mwh hb, ↓Mrh0 hb, ↓Mwh0 hb, ↓Mrh1 hb, ↓Mwh1 hb, ↓Mrh2 hb, ↓Mwh2 hb, ↓Mrh3 hb, ↓Mwh3 hb, ↓Mrh4 hb, ↓Mwh4 hb, ↓Mrw hb, ↓Mww hb, ↓Mrw0 hb, ↓Mww0 hb, ↓Mrw1 hb, ↓Mww1 hb, ↓Mre hb, ↓Mwe hb, ↓Mre0 hb, ↓Mwe0 hb, ↓Mre1 hb, ↓Mwe1 hb, ↓Mre2 hb, ↓Mwe2 hb, ↓Mre3 hb, ↓Mwe3 hb, ↓Mre4 hb, ↓Mwe4 hb, ↓Mre5 hb, ↓Mwe5 hb, ↓Mrp hb, ↓Mwp hb, ↓Mrp0 hb, ↓Mwp0 hb, ↓Mrp1 hb, ↓Mwp1 hb, ↓Mrp2 hb, ↓Mwp2 hb, ↓Mrp3 hb, ↓Mwp3 hb, ↓Mrp4 hb, ↓Mwp4 hb, ↓Mrp5 hb, ↓Mwp5 hb, ↓Mrk0 hb, ↓Mwk0 hb, ↓Mrk1 hb, ↓Mwk1 hb, ↓Mrx hb, ↓Mwx hb, ↓Mrx0 hb, ↓Mwx0 hb, ↓Mrx1 hb, ↓Mwx1 hb, ↓Mrx2 hb, ↓Mwx2 hb, ↓Mrx3 hb, ↓Mwx3 hb, ↓Mrx4 hb, ↓Mwx4 hb, ↓Mrx5 hb, ↓Mwx5 hb, ↓Mrt0 hb, ↓Mwt0 hb, ↓Mrt1 hb, ↓Mwt1 hb, ↓Mqs0 hb, ↓Mqs1 hb, ↓Mqs2 hb, ↓Mqs3 hb, ↓Mqs4 hb, ↓Mqs5 hb, ↓Mqs6 hb, ↓Mqh0 hb, ↓Mqh1 hb, ↓Mqh2 hb, ↓Mqh3 hb, ↓Mqh4 hb, ↓Mqp0 hb, ↓Mqp1 hb, ↓Mqp2 hb, ↓Mqp3 hb, ↓Mqp4 hb, ↓Mqp5 hb, n2, hc, ↓zcvX (hM D)]
  have h15' : ∀ (X : Nat → Nat → Int32) v, (∀ i, X 15 i = F 15 i) → ∀ h, h < 4 → (upd2 X 15 q 0) 15 h = (if h < q + 1 then 0 else nI (msk (upd2 G 14 q v) t h)) ∧ (nh ≤ h → (upd2 X 15 q 0) 15 h = 0) := by
    intro X v hX h hh
    rw [mskc]
    by_cases hhq : h = q
    · subst hhq; rw [upd2_s, if_pos (by omega)]; exact ⟨rfl, fun _ => rfl⟩
    · rw [upd2_i hhq, hX]
      refine ⟨?_, (aS h hh).2⟩
      rw [(aS h hh).1]
      by_cases hlt : h < q
      · rw [if_pos hlt, if_pos (by omega)]
      · rw [if_neg hlt, if_neg (by omega)]
  by_cases hb1 : csum G t q ns ≤ 1
  · have hlt : nI (pop4 (msk G t q)) < 2 := by rw [← hcs]; exact nI_lt (show csum G t q ns < 2 by omega) (by decide)
    refine ⟨upd2 F 15 q 0, upd2 G 14 q (G 14 q + 0), ?_, fun o ho => upd2_o ho, ?_, fun D j => by rw [hmod, if_pos hb1]⟩
    · have z0 : G 14 q + 0 = G 14 q := by grind
      refine ⟨R1_f (by rw [z0, upd2_self]; exact h1) (by unfold St; omega), ⟨by rw [upd2_o (by decide)]; exact q1, q2, by rw [upd2_o (by decide), keepc]; exact q3, by rw [upd2_o (by decide)]; exact q4, q5⟩, ?_, h15' F _ (fun _ => rfl), ?_, ?_, ?_, ?_, ?_⟩
      · intro f m i hf hm; rw [keepc] at hm; rw [upd2_o (by omega), upd2_o (by omega)]; exact a2 f m i hf hm
      · rw [upd2_o (by decide)]; exact aN
      · rw [z0, upd2_self, upd2_o (by decide)]; exact aB
      · exact Ist_congr aI (fun o _ _ h14 => upd2_o h14)
      · unfold IE at aE ⊢; simp (disch := omega) only [upd2_o]; exact aE
      · unfold IK at aK ⊢; simp (disch := omega) only [upd2_o]; exact aK
    · intro D j
      unfold S_Hearers_countBeats_S1
      simp (disch := omega) only [↓zjpE, ↓zletE, ↓zciE, ↓zcvE, ↓zchkE, ↓reduceIte, zciE, zcvE, nI_1, ↓Lo0 hL, Lo0 hL, ↓Lr0_0 hL, Lr0_0 hL, ↓Lr0_1 hL, Lr0_1 hL, ↓Lr0_2 hL, Lr0_2 hL, ↓Lr0_3 hL, Lr0_3 hL, ↓Lr0_4 hL, Lr0_4 hL, ↓Lg0_5 hL, Lg0_5 hL, ↓Lp0_5 hL, Lp0_5 hL, ↓Lg0_6 hL, Lg0_6 hL, ↓Lp0_6 hL, Lp0_6 hL, ↓Lg0_7 hL, Lg0_7 hL, ↓Lp0_7 hL, Lp0_7 hL, ↓Lg0_8 hL, Lg0_8 hL, ↓Lp0_8 hL, Lp0_8 hL, ↓Lo1 hL, Lo1 hL, ↓Lr1_0 hL, Lr1_0 hL, ↓Lr1_1 hL, Lr1_1 hL, ↓Lr1_2 hL, Lr1_2 hL, ↓Lr1_3 hL, Lr1_3 hL, ↓Lr1_4 hL, Lr1_4 hL, ↓Lr1_5 hL, Lr1_5 hL, ↓Lr1_6 hL, Lr1_6 hL, ↓Lg1_7 hL, Lg1_7 hL, ↓Lp1_7 hL, Lp1_7 hL, ↓Lo9 hL, Lo9 hL, ↓Lr9_0 hL, Lr9_0 hL, ↓Lr9_1 hL, Lr9_1 hL, ↓Lr9_2 hL, Lr9_2 hL, ↓Lr9_3 hL, Lr9_3 hL, ↓Lr9_4 hL, Lr9_4 hL, ↓Lr9_5 hL, Lr9_5 hL, ↓Lg9_6 hL, Lg9_6 hL, ↓Lp9_6 hL, Lp9_6 hL, ↓Lg9_7 hL, Lg9_7 hL, ↓Lp9_7 hL, Lp9_7 hL, ↓Lo16 hL, Lo16 hL, ↓Lr16_0 hL, Lr16_0 hL, ↓Lr16_1 hL, Lr16_1 hL, ↓Lg16_2 hL, Lg16_2 hL, ↓Lp16_2 hL, Lp16_2 hL, ↓Lo19 hL, Lo19 hL, ↓Lr19_0 hL, Lr19_0 hL, ↓Lr19_1 hL, Lr19_1 hL, ↓Lr19_2 hL, Lr19_2 hL, ↓Lr19_3 hL, Lr19_3 hL, ↓Lr19_4 hL, Lr19_4 hL, ↓Lr19_5 hL, Lr19_5 hL, ↓Lg19_6 hL, Lg19_6 hL, ↓Lp19_6 hL, Lp19_6 hL, ↓Lg19_7 hL, Lg19_7 hL, ↓Lp19_7 hL, Lp19_7 hL, ↓Lo26 hL, Lo26 hL, ↓Lr26_0 hL, Lr26_0 hL, ↓Lr26_1 hL, Lr26_1 hL, ↓Lr26_2 hL, Lr26_2 hL, ↓Lr26_3 hL, Lr26_3 hL, ↓Lr26_4 hL, Lr26_4 hL, ↓Lr26_5 hL, Lr26_5 hL, ↓Lg26_6 hL, Lg26_6 hL, ↓Lp26_6 hL, Lp26_6 hL, ↓Lg26_7 hL, Lg26_7 hL, ↓Lp26_7 hL, Lp26_7 hL, ↓Lg26_8 hL, Lg26_8 hL, ↓Lp26_8 hL, Lp26_8 hL, ↓La2 hL, La2 hL, ↓Ls2 hL, Ls2 hL, ↓La3 hL, La3 hL, ↓Ls3 hL, Ls3 hL, ↓La4 hL, La4 hL, ↓Ls4 hL, Ls4 hL, ↓La5 hL, La5 hL, ↓Ls5 hL, Ls5 hL, ↓La6 hL, La6 hL, ↓Ls6 hL, Ls6 hL, ↓La7 hL, La7 hL, ↓Ls7 hL, Ls7 hL, ↓La8 hL, La8 hL, ↓Ls8 hL, Ls8 hL, ↓La10 hL, La10 hL, ↓Ls10 hL, Ls10 hL, ↓La11 hL, La11 hL, ↓Ls11 hL, Ls11 hL, ↓La12 hL, La12 hL, ↓Ls12 hL, Ls12 hL, ↓La13 hL, La13 hL, ↓Ls13 hL, Ls13 hL, ↓La14 hL, La14 hL, ↓Ls14 hL, Ls14 hL, ↓La15 hL, La15 hL, ↓Ls15 hL, Ls15 hL, ↓La17 hL, La17 hL, ↓Ls17 hL, Ls17 hL, ↓La18 hL, La18 hL, ↓Ls18 hL, Ls18 hL, ↓La20 hL, La20 hL, ↓Ls20 hL, Ls20 hL, ↓La21 hL, La21 hL, ↓Ls21 hL, Ls21 hL, ↓La22 hL, La22 hL, ↓Ls22 hL, Ls22 hL, ↓La23 hL, La23 hL, ↓Ls23 hL, Ls23 hL, ↓La24 hL, La24 hL, ↓Ls24 hL, Ls24 hL, ↓La25 hL, La25 hL, ↓Ls25 hL, Ls25 hL, ↓La27 hL, La27 hL, ↓Ls27 hL, Ls27 hL, ↓La28 hL, La28 hL, ↓Ls28 hL, Ls28 hL, ↓La29 hL, La29 hL, ↓Ls29 hL, Ls29 hL, ↓La30 hL, La30 hL, ↓Ls30 hL, Ls30 hL, ↓La31 hL, La31 hL, ↓Ls31 hL, Ls31 hL, ↓La32 hL, La32 hL, ↓Ls32 hL, Ls32 hL, hF9, hc, h15, ↓zciX (hbit _), hlt]
  · have hlt : ¬ nI (pop4 (msk G t q)) < 2 := by rw [← hcs]; exact nI_nlt (show 2 ≤ csum G t q ns by omega) (by omega)
    refine ⟨upd2 (upd2 (upd2 F 14 q (F 14 q + 1)) 9 7 (F 9 7 + 1)) 15 q 0, upd2 G 14 q (G 14 q + 1), ?_, fun o ho => upd2_o ho, ?_, fun D j => by rw [hmod, if_neg hb1]⟩
    · refine ⟨R1_f (R1_f (R1_u h1 (by rw [r14 h1 hq4])) (by unfold St; omega)) (by unfold St; omega), ⟨by simp (disch := omega) only [upd2_o]; exact q1, q2, by simp (disch := omega) only [upd2_o]; rw [keepc]; exact q3, by rw [upd2_o (by decide)]; exact q4, q5⟩, ?_, h15' _ _ (fun i => by simp (disch := omega) only [upd2_o]), ?_, ?_, ?_, ?_, ?_⟩
      · intro f m i hf hm; rw [keepc] at hm; simp (disch := omega) only [upd2_o]; exact a2 f m i hf hm
      · rw [upd2_o (by decide)]; exact aN
      · rw [bsum_upd, if_pos hq, upd2_o (by decide), upd2_s, aB]
      · exact Ist_congr aI (fun o _ _ h14 => upd2_o h14)
      · unfold IE at aE ⊢; simp (disch := omega) only [upd2_o]; exact aE
      · unfold IK at aK ⊢; simp (disch := omega) only [upd2_o]; exact aK
    · intro D j
      unfold S_Hearers_countBeats_S1
      simp (disch := omega) only [↓zjpE, ↓zletE, ↓zciE, ↓zcvE, ↓zchkE, ↓reduceIte, zciE, zcvE, nI_1, ↓Lo0 hL, Lo0 hL, ↓Lr0_0 hL, Lr0_0 hL, ↓Lr0_1 hL, Lr0_1 hL, ↓Lr0_2 hL, Lr0_2 hL, ↓Lr0_3 hL, Lr0_3 hL, ↓Lr0_4 hL, Lr0_4 hL, ↓Lg0_5 hL, Lg0_5 hL, ↓Lp0_5 hL, Lp0_5 hL, ↓Lg0_6 hL, Lg0_6 hL, ↓Lp0_6 hL, Lp0_6 hL, ↓Lg0_7 hL, Lg0_7 hL, ↓Lp0_7 hL, Lp0_7 hL, ↓Lg0_8 hL, Lg0_8 hL, ↓Lp0_8 hL, Lp0_8 hL, ↓Lo1 hL, Lo1 hL, ↓Lr1_0 hL, Lr1_0 hL, ↓Lr1_1 hL, Lr1_1 hL, ↓Lr1_2 hL, Lr1_2 hL, ↓Lr1_3 hL, Lr1_3 hL, ↓Lr1_4 hL, Lr1_4 hL, ↓Lr1_5 hL, Lr1_5 hL, ↓Lr1_6 hL, Lr1_6 hL, ↓Lg1_7 hL, Lg1_7 hL, ↓Lp1_7 hL, Lp1_7 hL, ↓Lo9 hL, Lo9 hL, ↓Lr9_0 hL, Lr9_0 hL, ↓Lr9_1 hL, Lr9_1 hL, ↓Lr9_2 hL, Lr9_2 hL, ↓Lr9_3 hL, Lr9_3 hL, ↓Lr9_4 hL, Lr9_4 hL, ↓Lr9_5 hL, Lr9_5 hL, ↓Lg9_6 hL, Lg9_6 hL, ↓Lp9_6 hL, Lp9_6 hL, ↓Lg9_7 hL, Lg9_7 hL, ↓Lp9_7 hL, Lp9_7 hL, ↓Lo16 hL, Lo16 hL, ↓Lr16_0 hL, Lr16_0 hL, ↓Lr16_1 hL, Lr16_1 hL, ↓Lg16_2 hL, Lg16_2 hL, ↓Lp16_2 hL, Lp16_2 hL, ↓Lo19 hL, Lo19 hL, ↓Lr19_0 hL, Lr19_0 hL, ↓Lr19_1 hL, Lr19_1 hL, ↓Lr19_2 hL, Lr19_2 hL, ↓Lr19_3 hL, Lr19_3 hL, ↓Lr19_4 hL, Lr19_4 hL, ↓Lr19_5 hL, Lr19_5 hL, ↓Lg19_6 hL, Lg19_6 hL, ↓Lp19_6 hL, Lp19_6 hL, ↓Lg19_7 hL, Lg19_7 hL, ↓Lp19_7 hL, Lp19_7 hL, ↓Lo26 hL, Lo26 hL, ↓Lr26_0 hL, Lr26_0 hL, ↓Lr26_1 hL, Lr26_1 hL, ↓Lr26_2 hL, Lr26_2 hL, ↓Lr26_3 hL, Lr26_3 hL, ↓Lr26_4 hL, Lr26_4 hL, ↓Lr26_5 hL, Lr26_5 hL, ↓Lg26_6 hL, Lg26_6 hL, ↓Lp26_6 hL, Lp26_6 hL, ↓Lg26_7 hL, Lg26_7 hL, ↓Lp26_7 hL, Lp26_7 hL, ↓Lg26_8 hL, Lg26_8 hL, ↓Lp26_8 hL, Lp26_8 hL, ↓La2 hL, La2 hL, ↓Ls2 hL, Ls2 hL, ↓La3 hL, La3 hL, ↓Ls3 hL, Ls3 hL, ↓La4 hL, La4 hL, ↓Ls4 hL, Ls4 hL, ↓La5 hL, La5 hL, ↓Ls5 hL, Ls5 hL, ↓La6 hL, La6 hL, ↓Ls6 hL, Ls6 hL, ↓La7 hL, La7 hL, ↓Ls7 hL, Ls7 hL, ↓La8 hL, La8 hL, ↓Ls8 hL, Ls8 hL, ↓La10 hL, La10 hL, ↓Ls10 hL, Ls10 hL, ↓La11 hL, La11 hL, ↓Ls11 hL, Ls11 hL, ↓La12 hL, La12 hL, ↓Ls12 hL, Ls12 hL, ↓La13 hL, La13 hL, ↓Ls13 hL, Ls13 hL, ↓La14 hL, La14 hL, ↓Ls14 hL, Ls14 hL, ↓La15 hL, La15 hL, ↓Ls15 hL, Ls15 hL, ↓La17 hL, La17 hL, ↓Ls17 hL, Ls17 hL, ↓La18 hL, La18 hL, ↓Ls18 hL, Ls18 hL, ↓La20 hL, La20 hL, ↓Ls20 hL, Ls20 hL, ↓La21 hL, La21 hL, ↓Ls21 hL, Ls21 hL, ↓La22 hL, La22 hL, ↓Ls22 hL, Ls22 hL, ↓La23 hL, La23 hL, ↓Ls23 hL, Ls23 hL, ↓La24 hL, La24 hL, ↓Ls24 hL, Ls24 hL, ↓La25 hL, La25 hL, ↓Ls25 hL, Ls25 hL, ↓La27 hL, La27 hL, ↓Ls27 hL, Ls27 hL, ↓La28 hL, La28 hL, ↓Ls28 hL, Ls28 hL, ↓La29 hL, La29 hL, ↓Ls29 hL, Ls29 hL, ↓La30 hL, La30 hL, ↓Ls30 hL, Ls30 hL, ↓La31 hL, La31 hL, ↓Ls31 hL, Ls31 hL, ↓La32 hL, La32 hL, ↓Ls32 hL, Ls32 hL, hF9, hc, h15, ↓zciX (hbit _), hlt, upd2_o]
theorem beatAll (hL : LF w a) (hb : w.1 b = some (.inl (0, 521))) (h : RT F G ns nh nw t tp A np d e l c p 0) : ∃ F' G', RT F' G' ns nh nw t tp A np d e l c p nh ∧ (∀ o, o ≠ 14 → G' o = G o) ∧ (∀ D, f_Hearers_countBeats w (zblk D a F) (a + 9) = some (zblk D a F')) ∧ (∀ D, zlp (fun (_ : Int32) (_ : zD) => none) (S_MD_tick_S5 w b) zfuel 0 (zset D b (vec G)) = zlp (fun (_ : Int32) (_ : zD) => none) (S_MD_tick_S6 w b) zfuel (nI np - 1) (zset D b (vec G'))) := by
  obtain ⟨-, -, -, -, -, -, ⟨⟨-, -, -, n3, -⟩, -⟩, -⟩ := id h
  obtain ⟨s', ⟨hR, m4⟩, w1, w2⟩ := lpG2 (bot := fun (_ : Int32) (_ : zD) => none) (st := S_Hearers_countBeats_S1 w (a + 9)) (bot' := fun (_ : Int32) (_ : zD) => none) (st' := S_MD_tick_S5 w b) (n := nh) (fun q s => RT s.1 s.2 ns nh nw t tp A np d e l c p q ∧ (∀ o, o ≠ 14 → s.2 o = G o)) (fun D g q x => g (nI q) (zblk D a x.1)) (fun D g q x => g (nI q) (zset D b (vec x.2))) (by
    intro q x hq hx
    obtain ⟨hR, m4⟩ := hx
    obtain ⟨F', G', hR', z4, z6, z7⟩ := beat1 hL hb hR hq
    exact ⟨(F', G'), ⟨hR', fun o ho => (z4 o ho).trans (m4 o ho)⟩, z6, z7⟩) nh 0 (F, G) (by omega) ⟨h, fun _ _ => rfl⟩
  obtain ⟨x1, ⟨-, -, -, y4, -⟩, -, -, -, -, ⟨⟨-, -, y2, -⟩, -⟩, -⟩ := id hR
  have hend : nI nh ≤ nI nh := nI_le (Nat.le_refl nh) (by omega)
  refine ⟨s'.1, s'.2, hR, m4, ?_, ?_⟩
  · intro D
    obtain ⟨j, hj⟩ := w1 D zfuel (by unfold zfuel; omega)
    rw [u_Hearers_countBeats]
    simp only [↓zjpE]
    refine hj.trans ?_
    unfold S_Hearers_countBeats_S1
    simp only [↓zjpE, ↓zletE, ↓zciE, ↓zcvE, ↓zchkE, ↓reduceIte, zciE, zcvE, nI_1, ↓Lo0 hL, Lo0 hL, ↓Lr0_0 hL, Lr0_0 hL, ↓Lr0_1 hL, Lr0_1 hL, ↓Lr0_2 hL, Lr0_2 hL, ↓Lr0_3 hL, Lr0_3 hL, ↓Lr0_4 hL, Lr0_4 hL, ↓Lg0_5 hL, Lg0_5 hL, ↓Lp0_5 hL, Lp0_5 hL, ↓Lg0_6 hL, Lg0_6 hL, ↓Lp0_6 hL, Lp0_6 hL, ↓Lg0_7 hL, Lg0_7 hL, ↓Lp0_7 hL, Lp0_7 hL, ↓Lg0_8 hL, Lg0_8 hL, ↓Lp0_8 hL, Lp0_8 hL, ↓Lo1 hL, Lo1 hL, ↓Lr1_0 hL, Lr1_0 hL, ↓Lr1_1 hL, Lr1_1 hL, ↓Lr1_2 hL, Lr1_2 hL, ↓Lr1_3 hL, Lr1_3 hL, ↓Lr1_4 hL, Lr1_4 hL, ↓Lr1_5 hL, Lr1_5 hL, ↓Lr1_6 hL, Lr1_6 hL, ↓Lg1_7 hL, Lg1_7 hL, ↓Lp1_7 hL, Lp1_7 hL, ↓Lo9 hL, Lo9 hL, ↓Lr9_0 hL, Lr9_0 hL, ↓Lr9_1 hL, Lr9_1 hL, ↓Lr9_2 hL, Lr9_2 hL, ↓Lr9_3 hL, Lr9_3 hL, ↓Lr9_4 hL, Lr9_4 hL, ↓Lr9_5 hL, Lr9_5 hL, ↓Lg9_6 hL, Lg9_6 hL, ↓Lp9_6 hL, Lp9_6 hL, ↓Lg9_7 hL, Lg9_7 hL, ↓Lp9_7 hL, Lp9_7 hL, ↓Lo16 hL, Lo16 hL, ↓Lr16_0 hL, Lr16_0 hL, ↓Lr16_1 hL, Lr16_1 hL, ↓Lg16_2 hL, Lg16_2 hL, ↓Lp16_2 hL, Lp16_2 hL, ↓Lo19 hL, Lo19 hL, ↓Lr19_0 hL, Lr19_0 hL, ↓Lr19_1 hL, Lr19_1 hL, ↓Lr19_2 hL, Lr19_2 hL, ↓Lr19_3 hL, Lr19_3 hL, ↓Lr19_4 hL, Lr19_4 hL, ↓Lr19_5 hL, Lr19_5 hL, ↓Lg19_6 hL, Lg19_6 hL, ↓Lp19_6 hL, Lp19_6 hL, ↓Lg19_7 hL, Lg19_7 hL, ↓Lp19_7 hL, Lp19_7 hL, ↓Lo26 hL, Lo26 hL, ↓Lr26_0 hL, Lr26_0 hL, ↓Lr26_1 hL, Lr26_1 hL, ↓Lr26_2 hL, Lr26_2 hL, ↓Lr26_3 hL, Lr26_3 hL, ↓Lr26_4 hL, Lr26_4 hL, ↓Lr26_5 hL, Lr26_5 hL, ↓Lg26_6 hL, Lg26_6 hL, ↓Lp26_6 hL, Lp26_6 hL, ↓Lg26_7 hL, Lg26_7 hL, ↓Lp26_7 hL, Lp26_7 hL, ↓Lg26_8 hL, Lg26_8 hL, ↓Lp26_8 hL, Lp26_8 hL, ↓La2 hL, La2 hL, ↓Ls2 hL, Ls2 hL, ↓La3 hL, La3 hL, ↓Ls3 hL, Ls3 hL, ↓La4 hL, La4 hL, ↓Ls4 hL, Ls4 hL, ↓La5 hL, La5 hL, ↓Ls5 hL, Ls5 hL, ↓La6 hL, La6 hL, ↓Ls6 hL, Ls6 hL, ↓La7 hL, La7 hL, ↓Ls7 hL, Ls7 hL, ↓La8 hL, La8 hL, ↓Ls8 hL, Ls8 hL, ↓La10 hL, La10 hL, ↓Ls10 hL, Ls10 hL, ↓La11 hL, La11 hL, ↓Ls11 hL, Ls11 hL, ↓La12 hL, La12 hL, ↓Ls12 hL, Ls12 hL, ↓La13 hL, La13 hL, ↓Ls13 hL, Ls13 hL, ↓La14 hL, La14 hL, ↓Ls14 hL, Ls14 hL, ↓La15 hL, La15 hL, ↓Ls15 hL, Ls15 hL, ↓La17 hL, La17 hL, ↓Ls17 hL, Ls17 hL, ↓La18 hL, La18 hL, ↓Ls18 hL, Ls18 hL, ↓La20 hL, La20 hL, ↓Ls20 hL, Ls20 hL, ↓La21 hL, La21 hL, ↓Ls21 hL, Ls21 hL, ↓La22 hL, La22 hL, ↓Ls22 hL, Ls22 hL, ↓La23 hL, La23 hL, ↓Ls23 hL, Ls23 hL, ↓La24 hL, La24 hL, ↓Ls24 hL, Ls24 hL, ↓La25 hL, La25 hL, ↓Ls25 hL, Ls25 hL, ↓La27 hL, La27 hL, ↓Ls27 hL, Ls27 hL, ↓La28 hL, La28 hL, ↓Ls28 hL, Ls28 hL, ↓La29 hL, La29 hL, ↓Ls29 hL, Ls29 hL, ↓La30 hL, La30 hL, ↓Ls30 hL, Ls30 hL, ↓La31 hL, La31 hL, ↓Ls31 hL, Ls31 hL, ↓La32 hL, La32 hL, ↓Ls32 hL, Ls32 hL, r9_6 x1, y2, hend]
  · intro D
    obtain ⟨j, hj⟩ := w2 D zfuel (by unfold zfuel; omega)
    refine hj.trans ?_
    unfold S_MD_tick_S5
    simp only [↓zjpE, ↓zletE, ↓zciE, ↓zcvE, ↓zchkE, ↓reduceIte, zciE, zcvE, nI_1, ↓Mrc0 hb, ↓Mwc0 hb, ↓Mrc1 hb, ↓Mwc1 hb, ↓Mrc2 hb, ↓Mwc2 hb, ↓Mrc3 hb, ↓Mwc3 hb, ↓Mrc4 hb, ↓Mwc4 hb, ↓Mrc5 hb, ↓Mwc5 hb, ↓Mrc6 hb, ↓Mwc6 hb, ↓Mrc7 hb, ↓Mwc7 hb, ↓Mrc8 hb, ↓Mwc8 hb, ↓Mrc9 hb, ↓Mwc9 hb, ↓Mrc10 hb, ↓Mwc10 hb, ↓Mrs hb, ↓Mws hb, ↓Mrs0 hb, ↓Mws0 hb, ↓Mrs1 hb, ↓Mws1 hb, ↓Mrs2 hb, ↓Mws2 hb, ↓Mrs3 hb, ↓Mws3 hb, ↓Mrs4 hb, ↓Mws4 hb, ↓Mrs5 hb, ↓Mws5 hb, ↓Mrs6 hb, ↓Mws6 hb, ↓Mrh hb, ↓Mwh hb, ↓Mrh0 hb, ↓Mwh0 hb, ↓Mrh1 hb, ↓Mwh1 hb, ↓Mrh2 hb, ↓Mwh2 hb, ↓Mrh3 hb, ↓Mwh3 hb, ↓Mrh4 hb, ↓Mwh4 hb, ↓Mrw hb, ↓Mww hb, ↓Mrw0 hb, ↓Mww0 hb, ↓Mrw1 hb, ↓Mww1 hb, ↓Mre hb, ↓Mwe hb, ↓Mre0 hb, ↓Mwe0 hb, ↓Mre1 hb, ↓Mwe1 hb, ↓Mre2 hb, ↓Mwe2 hb, ↓Mre3 hb, ↓Mwe3 hb, ↓Mre4 hb, ↓Mwe4 hb, ↓Mre5 hb, ↓Mwe5 hb, ↓Mrp hb, ↓Mwp hb, ↓Mrp0 hb, ↓Mwp0 hb, ↓Mrp1 hb, ↓Mwp1 hb, ↓Mrp2 hb, ↓Mwp2 hb, ↓Mrp3 hb, ↓Mwp3 hb, ↓Mrp4 hb, ↓Mwp4 hb, ↓Mrp5 hb, ↓Mwp5 hb, ↓Mrk0 hb, ↓Mwk0 hb, ↓Mrk1 hb, ↓Mwk1 hb, ↓Mrx hb, ↓Mwx hb, ↓Mrx0 hb, ↓Mwx0 hb, ↓Mrx1 hb, ↓Mwx1 hb, ↓Mrx2 hb, ↓Mwx2 hb, ↓Mrx3 hb, ↓Mwx3 hb, ↓Mrx4 hb, ↓Mwx4 hb, ↓Mrx5 hb, ↓Mwx5 hb, ↓Mrt0 hb, ↓Mwt0 hb, ↓Mrt1 hb, ↓Mwt1 hb, ↓Mqs0 hb, ↓Mqs1 hb, ↓Mqs2 hb, ↓Mqs3 hb, ↓Mqs4 hb, ↓Mqs5 hb, ↓Mqs6 hb, ↓Mqh0 hb, ↓Mqh1 hb, ↓Mqh2 hb, ↓Mqh3 hb, ↓Mqh4 hb, ↓Mqp0 hb, ↓Mqp1 hb, ↓Mqp2 hb, ↓Mqp3 hb, ↓Mqp4 hb, ↓Mqp5 hb, y2, hend, y4]
end P48
