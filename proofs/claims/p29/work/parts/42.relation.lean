/-! PURE: what binds a Field's block F and the vector in coordinates G; what holds of G; loops. -/
def St (o j : Nat) : Prop := (o = 0 ∧ 5 ≤ j ∧ j < 9) ∨ (o = 1 ∧ j = 7) ∨ (2 ≤ o ∧ o < 9 ∧ j < 4) ∨ (o = 9 ∧ j = 6) ∨ (10 ≤ o ∧ o < 15 ∧ j < 4) ∨ (o = 16 ∧ j = 2) ∨ (17 ≤ o ∧ o < 19 ∧ j < 3) ∨ (o = 26 ∧ 6 ≤ j ∧ j < 9) ∨ (27 ≤ o ∧ o < 33 ∧ j < 16)
def R1 (F G : Nat → Nat → Int32) : Prop := ∀ o j, St o j → F o j = G o j
def RQ (F G : Nat → Nat → Int32) (p np : Nat) : Prop := F 19 6 = nI p ∧ p < 60 ∧ F 19 7 = nI np ∧ G 19 7 = nI np ∧ np ≤ 60 ∧ ∀ f k, f < 6 → k < np → F (20 + f) ((p + k) % 60) = G (20 + f) k
def RZ (F : Nat → Nat → Int32) : Prop := ∀ h, h < 4 → F 15 h = 0
def bsum (G : Nat → Nat → Int32) : Nat → Int32
  | 0 => 0
  | n + 1 => bsum G n + G 14 n
def I0 (G : Nat → Nat → Int32) (ns nh nw t : Nat) : Prop := G 1 7 = nI ns ∧ ns ≤ 4 ∧ G 9 6 = nI nh ∧ nh ≤ 4 ∧ G 16 2 = nI nw ∧ nw ≤ 3 ∧ G 0 5 = nI t ∧ t < 4000000
def Is1 (x y r sp pd on pl : Int32) : Prop := -30 ≤ x ∧ x ≤ 30 ∧ -30 ≤ y ∧ y ≤ 30 ∧ 1 ≤ r ∧ r ≤ 5 ∧ -3 ≤ sp ∧ sp ≤ 3 ∧ 1 ≤ pd ∧ pd ≤ 20 ∧ (on = 0 ∨ on = 1) ∧ 0 ≤ pl ∧ pl < 8 * r
def IS (G : Nat → Nat → Int32) (ns : Nat) : Prop := ∀ s, s < ns → Is1 (G 2 s) (G 3 s) (G 4 s) (G 5 s) (G 6 s) (G 8 s) (G 7 s)
def IH (G : Nat → Nat → Int32) (nh : Nat) : Prop := ∀ h, h < nh → -40 ≤ G 10 h ∧ G 10 h ≤ 40 ∧ -40 ≤ G 11 h ∧ G 11 h ≤ 40 ∧ -2 ≤ G 12 h ∧ G 12 h ≤ 2 ∧ -2 ≤ G 13 h ∧ G 13 h ≤ 2
def IW (G : Nat → Nat → Int32) (nw : Nat) : Prop := ∀ k, k < nw → (G 17 k = 0 ∨ G 17 k = 1) ∧ -40 ≤ G 18 k ∧ G 18 k ≤ 40
def IC (G : Nat → Nat → Int32) : Prop := 1 ≤ G 0 7 ∧ G 0 7 ≤ 9 ∧ 1 ≤ G 0 8 ∧ G 0 8 ≤ 99
def Ip1 (ns nw t : Nat) (s x y tk wl : Int32) : Prop := (∃ i, i < ns ∧ s = nI i) ∧ -400 ≤ x ∧ x ≤ 400 ∧ -400 ≤ y ∧ y ≤ 400 ∧ (∃ u, u ≤ t ∧ tk = nI u) ∧ (wl = -1 ∨ ∃ i, i < nw ∧ wl = nI i)
def IP (G : Nat → Nat → Int32) (ns nw t np : Nat) : Prop := ∀ k, k < np → Ip1 ns nw t (G 20 k) (G 21 k) (G 22 k) (G 23 k) (G 24 k)
def IE (G : Nat → Nat → Int32) (t : Nat) : Prop := ∀ i, i < 16 → (G 30 i = -1 ∧ G 31 i = -1) ∨ ∃ u, u ≤ t ∧ G 30 i = nI u
def IK (G : Nat → Nat → Int32) (d e l c : Nat) : Prop := G 26 6 = nI d ∧ G 26 7 = nI e ∧ G 26 8 = nI l ∧ d + e ≤ c ∧ l ≤ d
/-- all of it; c bounds what was heard -/
def IA (G : Nat → Nat → Int32) (ns : Nat) (A : Prop) : Prop := ∀ s, s < ns → G 8 s = 0 ∨ A
def RI (F G : Nat → Nat → Int32) (ns nh nw t te tp : Nat) (A : Prop) (np d e l c : Nat) : Prop := R1 F G ∧ (∃ p, RQ F G p np) ∧ RZ F ∧ F 9 7 = bsum G nh ∧ I0 G ns nh nw t ∧ IS G ns ∧ IH G nh ∧ IW G nw ∧ IC G ∧ IP G ns nw tp np ∧ IE G te ∧ IK G d e l c ∧ IA G ns A
theorem R1_u {F G : Nat → Nat → Int32} {o j : Nat} {v v' : Int32} (h : R1 F G) (hv : v = v') : R1 (upd2 F o j v) (upd2 G o j v') := by
  subst hv
  intro q i hq
  unfold upd2
  by_cases h1 : q = o
  · rw [if_pos h1, if_pos h1]
    by_cases h2 : i = j
    · rw [if_pos h2, if_pos h2]
    · rw [if_neg h2, if_neg h2]; exact h q i hq
  · rw [if_neg h1, if_neg h1]; exact h q i hq
theorem R1_f {F G : Nat → Nat → Int32} {o j : Nat} {v : Int32} (h : R1 F G) (hn : ¬ St o j) : R1 (upd2 F o j v) G := by
  intro q i hq
  unfold upd2
  by_cases h1 : q = o
  · by_cases h2 : i = j
    · subst h1 h2; exact absurd hq hn
    · rw [if_pos h1, if_neg h2]; exact h q i hq
  · rw [if_neg h1]; exact h q i hq
theorem R1_g {F G : Nat → Nat → Int32} {o j : Nat} {v : Int32} (h : R1 F G) (hn : ¬ St o j) : R1 F (upd2 G o j v) := by
  intro q i hq
  unfold upd2
  by_cases h1 : q = o
  · by_cases h2 : i = j
    · subst h1 h2; exact absurd hq hn
    · rw [if_pos h1, if_neg h2]; exact h q i hq
  · rw [if_neg h1]; exact h q i hq
theorem upd2_self {F : Nat → Nat → Int32} {o j : Nat} : upd2 F o j (F o j) = F := by
  funext q i
  unfold upd2
  by_cases h1 : q = o
  · by_cases h2 : i = j
    · subst h1 h2; simp
    · rw [if_pos h1, if_neg h2, h1]
  · rw [if_neg h1]
theorem upd2_upd2 {F : Nat → Nat → Int32} {o j : Nat} {v v' : Int32} : upd2 (upd2 F o j v) o j v' = upd2 F o j v' := by
  funext q i
  unfold upd2
  by_cases h1 : q = o
  · by_cases h2 : i = j <;> simp [h1, h2]
  · simp [h1]
section RRR
variable {F G : Nat → Nat → Int32}
theorem r0_5 (h : R1 F G) : F 0 5 = G 0 5 := h 0 5 (by unfold St; omega)
theorem r0_6 (h : R1 F G) : F 0 6 = G 0 6 := h 0 6 (by unfold St; omega)
theorem r0_7 (h : R1 F G) : F 0 7 = G 0 7 := h 0 7 (by unfold St; omega)
theorem r0_8 (h : R1 F G) : F 0 8 = G 0 8 := h 0 8 (by unfold St; omega)
theorem r1_7 (h : R1 F G) : F 1 7 = G 1 7 := h 1 7 (by unfold St; omega)
theorem r9_6 (h : R1 F G) : F 9 6 = G 9 6 := h 9 6 (by unfold St; omega)
theorem r16_2 (h : R1 F G) : F 16 2 = G 16 2 := h 16 2 (by unfold St; omega)
theorem r26_6 (h : R1 F G) : F 26 6 = G 26 6 := h 26 6 (by unfold St; omega)
theorem r26_7 (h : R1 F G) : F 26 7 = G 26 7 := h 26 7 (by unfold St; omega)
theorem r26_8 (h : R1 F G) : F 26 8 = G 26 8 := h 26 8 (by unfold St; omega)
theorem r2 (h : R1 F G) {j : Nat} (hj : j < 4) : F 2 j = G 2 j := h 2 j (by unfold St; omega)
theorem r3 (h : R1 F G) {j : Nat} (hj : j < 4) : F 3 j = G 3 j := h 3 j (by unfold St; omega)
theorem r4 (h : R1 F G) {j : Nat} (hj : j < 4) : F 4 j = G 4 j := h 4 j (by unfold St; omega)
theorem r5 (h : R1 F G) {j : Nat} (hj : j < 4) : F 5 j = G 5 j := h 5 j (by unfold St; omega)
theorem r6 (h : R1 F G) {j : Nat} (hj : j < 4) : F 6 j = G 6 j := h 6 j (by unfold St; omega)
theorem r7 (h : R1 F G) {j : Nat} (hj : j < 4) : F 7 j = G 7 j := h 7 j (by unfold St; omega)
theorem r8 (h : R1 F G) {j : Nat} (hj : j < 4) : F 8 j = G 8 j := h 8 j (by unfold St; omega)
theorem r10 (h : R1 F G) {j : Nat} (hj : j < 4) : F 10 j = G 10 j := h 10 j (by unfold St; omega)
theorem r11 (h : R1 F G) {j : Nat} (hj : j < 4) : F 11 j = G 11 j := h 11 j (by unfold St; omega)
theorem r12 (h : R1 F G) {j : Nat} (hj : j < 4) : F 12 j = G 12 j := h 12 j (by unfold St; omega)
theorem r13 (h : R1 F G) {j : Nat} (hj : j < 4) : F 13 j = G 13 j := h 13 j (by unfold St; omega)
theorem r14 (h : R1 F G) {j : Nat} (hj : j < 4) : F 14 j = G 14 j := h 14 j (by unfold St; omega)
theorem r17 (h : R1 F G) {j : Nat} (hj : j < 3) : F 17 j = G 17 j := h 17 j (by unfold St; omega)
theorem r18 (h : R1 F G) {j : Nat} (hj : j < 3) : F 18 j = G 18 j := h 18 j (by unfold St; omega)
theorem r27 (h : R1 F G) {j : Nat} (hj : j < 16) : F 27 j = G 27 j := h 27 j (by unfold St; omega)
theorem r28 (h : R1 F G) {j : Nat} (hj : j < 16) : F 28 j = G 28 j := h 28 j (by unfold St; omega)
theorem r29 (h : R1 F G) {j : Nat} (hj : j < 16) : F 29 j = G 29 j := h 29 j (by unfold St; omega)
theorem r30 (h : R1 F G) {j : Nat} (hj : j < 16) : F 30 j = G 30 j := h 30 j (by unfold St; omega)
theorem r31 (h : R1 F G) {j : Nat} (hj : j < 16) : F 31 j = G 31 j := h 31 j (by unfold St; omega)
theorem r32 (h : R1 F G) {j : Nat} (hj : j < 16) : F 32 j = G 32 j := h 32 j (by unfold St; omega)
end RRR
theorem zjpE {γ β : Type} {J : γ} {k : γ → Option β} : zjp J k = k J := by
  have h : zjp J k = k J ∧ True := ⟨rfl, trivial⟩
  exact h.1
theorem zletE {γ β : Type} {v : γ} {k : γ → Option β} : zlet v k = k v := by
  have h : zlet v k = k v ∧ True := ⟨rfl, trivial⟩
  exact h.1
theorem zciE {β : Type} {v : Int32} {D : zD} {k : Int32 → zD → Option β} : zci (some (v, D)) k = k v D := by
  have h : zci (some (v, D)) k = k v D ∧ True := ⟨rfl, trivial⟩
  exact h.1
theorem zcvE {β : Type} {D : zD} {k : zD → Option β} : zcv (some D) k = k D := by
  have h : zcv (some D) k = k D ∧ True := ⟨rfl, trivial⟩
  exact h.1
theorem zchkE {β : Type} {c : Prop} [Decidable c] {x : Option β} : zchk c x = if c then x else none := by
  have h : (zchk c x = if c then x else none) ∧ True := ⟨rfl, trivial⟩
  exact h.1
theorem lpG {γ δ σ β : Type} {bot : γ} {st : γ → γ} {n : Nat} (I : Nat → σ → Prop) (ev : δ → γ → Nat → σ → Option β) (h : ∀ k s, k < n → I k s → ∃ s', I (k + 1) s' ∧ ∀ D j, ev D (st j) k s = ev D j (k + 1) s') :
    ∀ m k s, k + m = n → I k s → ∃ s', I n s' ∧ ∀ D fuel, m < fuel → ∃ j, ev D (zlp bot st fuel) k s = ev D (st j) n s' := by
  intro m
  induction m with
  | zero =>
    intro k s hk hs
    have : k = n := by omega
    subst this
    refine ⟨s, hs, ?_⟩
    intro D fuel hf
    match fuel, hf with
    | f + 1, _ => exact ⟨zlp bot st f, rfl⟩
  | succ m ih =>
    intro k s hk hs
    obtain ⟨s1, hs1, h1⟩ := h k s (by omega) hs
    obtain ⟨s', hs', h2⟩ := ih (k + 1) s1 (by omega) hs1
    refine ⟨s', hs', ?_⟩
    intro D fuel hf
    match fuel, hf with
    | f + 1, hf =>
      obtain ⟨j, hj⟩ := h2 D f (by omega)
      exact ⟨j, ((h1 D (zlp bot st f)).trans hj)⟩
theorem lpG2 {γ γ' δ σ β β' : Type} {bot : γ} {st : γ → γ} {bot' : γ'} {st' : γ' → γ'} {n : Nat} (I : Nat → σ → Prop) (ev : δ → γ → Nat → σ → Option β) (ev' : δ → γ' → Nat → σ → Option β') (h : ∀ k s, k < n → I k s → ∃ s', I (k + 1) s' ∧ (∀ D j, ev D (st j) k s = ev D j (k + 1) s') ∧ (∀ D j, ev' D (st' j) k s = ev' D j (k + 1) s')) :
    ∀ m k s, k + m = n → I k s → ∃ s', I n s' ∧ (∀ D fuel, m < fuel → ∃ j, ev D (zlp bot st fuel) k s = ev D (st j) n s') ∧ (∀ D fuel, m < fuel → ∃ j, ev' D (zlp bot' st' fuel) k s = ev' D (st' j) n s') := by
  intro m
  induction m with
  | zero =>
    intro k s hk hs
    have : k = n := by omega
    subst this
    refine ⟨s, hs, ?_, ?_⟩
    · intro D fuel hf
      match fuel, hf with
      | f + 1, _ => exact ⟨zlp bot st f, rfl⟩
    · intro D fuel hf
      match fuel, hf with
      | f + 1, _ => exact ⟨zlp bot' st' f, rfl⟩
  | succ m ih =>
    intro k s hk hs
    obtain ⟨s1, hs1, h1, h1'⟩ := h k s (by omega) hs
    obtain ⟨s', hs', h2, h2'⟩ := ih (k + 1) s1 (by omega) hs1
    refine ⟨s', hs', ?_, ?_⟩
    · intro D fuel hf
      match fuel, hf with
      | f + 1, hf =>
        obtain ⟨j, hj⟩ := h2 D f (by omega)
        exact ⟨j, ((h1 D (zlp bot st f)).trans hj)⟩
    · intro D fuel hf
      match fuel, hf with
      | f + 1, hf =>
        obtain ⟨j, hj⟩ := h2' D f (by omega)
        exact ⟨j, ((h1' D (zlp bot' st' f)).trans hj)⟩
theorem zI_of {x : Int32} (n : Nat) (h0 : 0 ≤ x) (h1 : x ≤ nI n) (hn : n < 2 ^ 31) : ∃ j, j ≤ n ∧ x = nI j := nI_of2 (nI_toInt hn) (by grind) h1
