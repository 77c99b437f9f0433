/-! PURE: what else holds of a field: its pulses in order, what each hearer heard of each siren, the pulses given. -/
def sumN (N : Nat → Nat) : Nat → Nat
  | 0 => 0
  | n + 1 => sumN N n + N n
def updN (N : Nat → Nat) (i v : Nat) : Nat → Nat := fun j => if j = i then v else N j
theorem sumN_upd {N : Nat → Nat} {i x : Nat} : ∀ n, sumN (updN N i (N i + x)) n = sumN N n + (if i < n then x else 0) := by
  intro n
  induction n with
  | zero => rfl
  | succ n ih =>
    unfold sumN
    rw [ih]
    by_cases h1 : n = i
    · subst h1; unfold updN; rw [if_pos rfl, if_neg (by omega), if_pos (by omega)]; omega
    · have : updN N i (N i + x) n = N n := by unfold updN; rw [if_neg h1]
      rw [this]
      by_cases h2 : i < n
      · rw [if_pos h2, if_pos (by omega)]; omega
      · rw [if_neg h2, if_neg (by omega)]; omega
theorem sumN_le {N : Nat → Nat} {i : Nat} : ∀ n, i < n → N i ≤ sumN N n := by
  intro n
  induction n with
  | zero => intro h; omega
  | succ n ih =>
    intro h
    unfold sumN
    by_cases h1 : n = i
    · subst h1; omega
    · have := ih (by omega); omega
def JP (G : Nat → Nat → Int32) (ns nh np t : Nat) : Prop := (∀ k, k < np → ∃ u s m, G 23 k = nI u ∧ 1 ≤ u ∧ u ≤ t ∧ G 20 k = nI s ∧ s < ns ∧ zirem (nI u) (G 6 s) = 0 ∧ G 25 k = nI m ∧ m < 2 ^ nh) ∧ ∀ k k', k ≤ k' → k' < np → G 23 k ≤ G 23 k'
def JE1 (G : Nat → Nat → Int32) (t i n e l : Nat) : Prop := G 27 i = nI n ∧ G 28 i = nI e ∧ G 29 i = nI l ∧ l ≤ n - 1 ∧ (n = 0 → G 30 i = -1 ∧ G 32 i = -1) ∧ (0 < n → ∃ u, u ≤ t ∧ G 30 i = nI u) ∧ (n < 2 → G 31 i = -1) ∧ (2 ≤ n → ∃ v, v ≤ t ∧ G 31 i = nI v)
def JE (G : Nat → Nat → Int32) (ns nh t d e l : Nat) (N E L : Nat → Nat) : Prop := (∀ i, i < 16 → JE1 G t i (N i) (E i) (L i)) ∧ sumN N 16 = d ∧ sumN E 16 = e ∧ sumN L 16 = l ∧ ∀ h s, h < 4 → s < 4 → (nh ≤ h ∨ ns ≤ s) → N (4 * h + s) = 0 ∧ E (4 * h + s) = 0 ∧ L (4 * h + s) = 0
def JG (G : Nat → Nat → Int32) (np B : Nat) : Prop := ∃ g, G 0 6 = nI g ∧ np ≤ g ∧ g ≤ B
def JJ (G : Nat → Nat → Int32) (ns nh np t d e l B : Nat) : Prop := JP G ns nh np t ∧ (∃ N E L, JE G ns nh t d e l N E L) ∧ JG G np B
/-- what a tick leaves alone, or makes greater -/
def Fr (G G' : Nat → Nat → Int32) : Prop := (∀ o, 1 ≤ o → (o < 10 ∨ (16 ≤ o ∧ o < 19)) → G' o = G o) ∧ (∀ j, 7 ≤ j → G' 0 j = G 0 j) ∧ ∀ i, i < 16 → G 27 i ≤ G' 27 i
theorem le_refl32 {x : Int32} : x ≤ x := by grind
theorem le_trans32 {x y z : Int32} (h : x ≤ y) (h' : y ≤ z) : x ≤ z := by grind
theorem Fr_refl {G : Nat → Nat → Int32} : Fr G G := ⟨fun _ _ _ => rfl, fun _ _ => rfl, fun _ _ => le_refl32⟩
theorem Fr_trans {G G1 G2 : Nat → Nat → Int32} (h : Fr G G1) (h' : Fr G1 G2) : Fr G G2 := ⟨fun o h1 h2 => (h'.1 o h1 h2).trans (h.1 o h1 h2), fun j hj => (h'.2.1 j hj).trans (h.2.1 j hj), fun i hi => le_trans32 (h.2.2 i hi) (h'.2.2 i hi)⟩
/-- cells that are all the same but these few -/
theorem Fr_of {G G' : Nat → Nat → Int32} (h : ∀ o, 1 ≤ o → (o < 10 ∨ (16 ≤ o ∧ o < 19)) → G' o = G o) (h0 : ∀ j, 7 ≤ j → G' 0 j = G 0 j) (h27 : G' 27 = G 27) : Fr G G' := ⟨h, h0, fun i _ => by rw [h27]; exact le_refl32⟩
def dropG (G : Nat → Nat → Int32) (k n : Nat) : Nat → Nat → Int32 := fun o j => if 20 ≤ o ∧ o < 26 ∧ k ≤ j ∧ j + 1 < n then G o (j + 1) else G o j
theorem dropG_o {G : Nat → Nat → Int32} {k n o : Nat} (h : ¬ (20 ≤ o ∧ o < 26)) : dropG G k n o = G o := by
  funext j; unfold dropG; rw [if_neg (by omega)]
def addF (F : Nat → Nat → Int32) (r : Nat) (v0 v1 v2 v3 v4 n g : Int32) : Nat → Nat → Int32 := upd2 (upd2 (upd2 (upd2 (upd2 (upd2 (upd2 (upd2 F 20 r v0) 21 r v1) 22 r v2) 23 r v3) 24 r v4) 25 r 0) 19 7 n) 0 6 g
section P45
variable {A : Prop} {w : zW} {a b ns nh nw t te tp np d e l c p k B : Nat} {D : zD} {F G G' : Nat → Nat → Int32}

theorem JJ_congr (h : JJ G ns nh np t d e l B) (hG : ∀ o, o = 6 ∨ 20 ≤ o → G' o = G o) (h0 : G' 0 6 = G 0 6) : JJ G' ns nh np t d e l B := by
  unfold JJ JP JE JE1 JG at h ⊢
  simp (disch := omega) only [hG, h0]
  exact h
theorem JJ_mono (h : JJ G ns nh np t d e l B) {B' : Nat} (hB : B ≤ B') : JJ G ns nh np t d e l B' := by
  obtain ⟨h1, h2, g, q1, q2, q3⟩ := h
  exact ⟨h1, h2, g, q1, q2, by omega⟩
theorem JE1_t {t' i n e l : Nat} (h : JE1 G t i n e l) (ht : t ≤ t') : JE1 G t' i n e l := by
  obtain ⟨a1, a2, a3, a4, a5, a6, a7, a8⟩ := h
  refine ⟨a1, a2, a3, a4, a5, fun hn => ?_, a7, fun hn => ?_⟩
  · obtain ⟨u, hu, hq⟩ := a6 hn; exact ⟨u, by omega, hq⟩
  · obtain ⟨u, hu, hq⟩ := a8 hn; exact ⟨u, by omega, hq⟩
theorem JJ_t {t' : Nat} (h : JJ G ns nh np t d e l B) (ht : t ≤ t') : JJ G ns nh np t' d e l B := by
  obtain ⟨⟨h1, h1'⟩, ⟨N, E, L, hE, hs⟩, hg⟩ := h
  refine ⟨⟨fun k hk => ?_, h1'⟩, ⟨N, E, L, fun i hi => JE1_t (hE i hi) ht, hs⟩, hg⟩
  obtain ⟨u, s, m, q1, q2, q3, q4⟩ := h1 k hk
  exact ⟨u, s, m, q1, q2, by omega, q4⟩
theorem JJ_drop0 (h : JJ G ns nh 60 t d e l B) : JJ (upd2 (dropG G 0 60) 19 7 (nI 59)) ns nh 59 t d e l B := by
  obtain ⟨⟨h1, h1'⟩, ⟨N, E, L, hE⟩, g, q1, q2, q3⟩ := h
  have hd : ∀ o, ¬ (20 ≤ o ∧ o < 26) → dropG G 0 60 o = G o := fun o ho => dropG_o ho
  have hs : ∀ o k, 20 ≤ o → o < 26 → k < 59 → dropG G 0 60 o k = G o (k + 1) := fun o k h2 h3 h4 => by unfold dropG; rw [if_pos (by omega)]
  refine ⟨⟨fun k hk => ?_, fun k k' hk hk' => ?_⟩, ⟨N, E, L, ?_⟩, g, by simp (disch := omega) only [upd2_o, hd]; exact q1, by omega, q3⟩
  · have := h1 (k + 1) (by omega)
    simp (disch := omega) only [upd2_o, hd, hs]; exact this
  · have := h1' (k + 1) (k' + 1) (by omega) (by omega)
    simp (disch := omega) only [upd2_o, hs]; exact this
  · unfold JE JE1 at hE ⊢; simp (disch := omega) only [upd2_o, hd]; exact hE
theorem JJ_add (h : JJ G ns nh np t d e l B) (hB : B < 2 ^ 30) (ht : 1 ≤ t) (ht4 : t < 4000000) {i : Nat} (hi : i < ns) {x y wl : Int32} (hdue : zirem (nI t) (G 6 i) = 0) : JJ (addF G np (nI i) x y (nI t) wl (nI (np + 1)) (G 0 6 + 1)) ns nh (np + 1) t d e l (B + 1) := by
  obtain ⟨⟨h1, h1'⟩, ⟨N, E, L, hE⟩, g, q1, q2, q3⟩ := h
  unfold addF
  refine ⟨⟨fun k hk => ?_, fun k k' hk hk' => ?_⟩, ⟨N, E, L, ?_⟩, g + 1, by rw [upd2_s, q1, nI_1], by omega, by omega⟩
  · by_cases hkn : k = np
    · subst hkn
      refine ⟨t, i, 0, ?_⟩
      simp (disch := omega) only [upd2_o, upd2_s]
      exact ⟨trivial, ht, Nat.le_refl t, trivial, hi, hdue, rfl, Nat.two_pow_pos nh⟩
    · have := h1 k (by omega)
      simp (disch := omega) only [upd2_o, upd2_i]; exact this
  · by_cases hkn : k' = np
    · subst hkn
      by_cases hkn' : k = k'
      · subst hkn'; exact le_refl32
      · obtain ⟨u, -, -, e1, -, e2, -⟩ := h1 k (by omega)
        simp (disch := omega) only [upd2_o, upd2_i, upd2_s]
        rw [e1]; exact nI_le e2 (by omega)
    · have := h1' k k' hk (by omega)
      simp (disch := omega) only [upd2_o, upd2_i]; exact this
  · unfold JE JE1 at hE ⊢; simp (disch := omega) only [upd2_o]; exact hE
end P45
