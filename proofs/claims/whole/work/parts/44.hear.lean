/-! PURE: the state while pulses are heard: rows before k are filtered in the class, not yet in the model. -/
abbrev gone (G : Nat → Nat → Int32) (nh i : Nat) : Prop := (0 < nh ∧ G 25 i = (1 <<< (nI nh &&& 31)) - 1) ∨ ¬ (G 0 5 - G 23 i < G 0 8)
def keep (G : Nat → Nat → Int32) (nh : Nat) : Nat → List Nat
  | 0 => []
  | k + 1 => if gone G nh k then keep G nh k else keep G nh k ++ [k]
theorem keep_len {G : Nat → Nat → Int32} {nh k : Nat} : (keep G nh k).length ≤ k := by
  induction k with
  | zero => exact Nat.le_refl _
  | succ k ih =>
    unfold keep
    split
    · omega
    · rw [List.length_append]; simp only [List.length_cons, List.length_nil]; omega
theorem keep_lt {G : Nat → Nat → Int32} {nh k : Nat} : ∀ i ∈ keep G nh k, i < k := by
  induction k with
  | zero => intro i hi; cases hi
  | succ k ih =>
    intro i hi
    unfold keep at hi
    split at hi
    · have := ih i hi; omega
    · rcases List.mem_append.1 hi with h | h
      · have := ih i h; omega
      · rw [List.mem_singleton] at h; omega
theorem keep_congr {G G' : Nat → Nat → Int32} {nh k : Nat} (h : ∀ i, i < k → (gone G' nh i ↔ gone G nh i)) : keep G' nh k = keep G nh k := by
  induction k with
  | zero => rfl
  | succ k ih =>
    unfold keep
    rw [ih (fun i hi => h i (by omega))]
    by_cases hg : gone G nh k
    · rw [if_pos hg, if_pos ((h k (by omega)).2 hg)]
    · rw [if_neg hg, if_neg (fun hx => hg ((h k (by omega)).1 hx))]
theorem keep_at {G : Nat → Nat → Int32} {nh k m i : Nat} (h : (keep G nh k)[m]? = some i) : m < k ∧ i < k := by
  have h1 := keep_lt i (List.mem_of_getElem? h)
  have h2 := keep_len (G := G) (nh := nh) (k := k)
  have h3 : m < (keep G nh k).length := by
    rcases Nat.lt_or_ge m (keep G nh k).length with h4 | h4
    · exact h4
    · rw [List.getElem?_eq_none h4] at h; cases h
  exact ⟨by omega, h1⟩
def msk (G : Nat → Nat → Int32) (t h : Nat) : Nat := (if G 30 (4 * h) = nI t then 1 else 0) + (if G 30 (4 * h + 1) = nI t then 2 else 0) + (if G 30 (4 * h + 2) = nI t then 4 else 0) + (if G 30 (4 * h + 3) = nI t then 8 else 0)
def RS (F G : Nat → Nat → Int32) (t nh ns : Nat) : Prop := (∀ h, h < 4 → F 15 h = nI (msk G t h) ∧ (nh ≤ h → F 15 h = 0)) ∧ ∀ h s, h < 4 → ns ≤ s → s < 4 → ¬ G 30 (4 * h + s) = nI t
def Ist (G : Nat → Nat → Int32) (ns nh nw t tp : Nat) (A : Prop) (np : Nat) : Prop := I0 G ns nh nw t ∧ IS G ns ∧ IH G nh ∧ IW G nw ∧ IC G ∧ IP G ns nw tp np ∧ IA G ns A
def RH (F G : Nat → Nat → Int32) (ns nh nw t tp : Nat) (A : Prop) (np d e l c p k : Nat) : Prop := R1 F G ∧ (F 19 6 = nI p ∧ p < 60 ∧ F 19 7 = nI np ∧ G 19 7 = nI np ∧ np ≤ 60) ∧ (∀ f j, f < 6 → k ≤ j → j < np → F (20 + f) ((p + j) % 60) = G (20 + f) j) ∧ (∀ f m i, f < 6 → (keep G nh k)[m]? = some i → F (20 + f) ((p + m) % 60) = G (20 + f) i) ∧ RS F G t nh ns ∧ F 9 7 = bsum G nh ∧ Ist G ns nh nw t tp A np ∧ IE G t ∧ IK G d e l c
theorem bsum_congr {G G' : Nat → Nat → Int32} {n : Nat} (h : G' 14 = G 14) : bsum G' n = bsum G n := by
  induction n with
  | zero => rfl
  | succ n ih => unfold bsum; rw [ih, h]
theorem nI_ne_m1 {n : Nat} (h : n < 2 ^ 31) : ¬ nI n = -1 := by
  intro hx
  have := nI_toInt h
  rw [hx] at this
  have h2 : (-1 : Int32).toInt = -1 := by decide
  omega
theorem Ist_congr {G G' : Nat → Nat → Int32} {ns nh nw t tp np : Nat} {A : Prop} (h : Ist G ns nh nw t tp A np) (hG : ∀ o, o ≤ 24 → o ≠ 19 → o ≠ 14 → G' o = G o) : Ist G' ns nh nw t tp A np := by
  unfold Ist I0 IS IH IW IC IP IA at h ⊢
  simp (disch := omega) only [hG]
  exact h
section P44
variable {A : Prop} {w : zW} {a b ns nh nw t te tp np d e l c p k d' e' l' c' : Nat} {D : zD} {F G F' G' : Nat → Nat → Int32}
theorem RH_0 (h : RI F G ns nh nw t te tp A np d e l c) (ht : te < t) : ∃ p, RH F G ns nh nw t tp A np d e l c p 0 := by
  obtain ⟨h1, ⟨p, q1, q2, q3, q4, q5, q6⟩, hz, hB, i0, hS, hH, hW, hC, hP, hE, hK, hA⟩ := h
  have ht4 : t < 4000000 := i0.2.2.2.2.2.2.2
  have hne : ∀ i, i < 16 → ¬ G 30 i = nI t := by
    intro i hi hx
    rcases hE i hi with h | ⟨u, hu, h⟩
    · rw [h.1] at hx; exact nI_ne_m1 (by omega) hx.symm
    · rw [h, nI_eq (by omega) (by omega)] at hx; omega
  refine ⟨p, h1, ⟨q1, q2, q3, q4, q5⟩, fun f j hf _ hj => q6 f j hf hj, ?_, ?_, hB, ⟨i0, hS, hH, hW, hC, hP, hA⟩, ?_, hK⟩
  · intro f m i _ hm; unfold keep at hm; simp at hm
  · refine ⟨?_, fun h s hh _ hs => hne _ (by omega)⟩
    intro h hh
    refine ⟨?_, fun _ => hz h hh⟩
    unfold msk
    rw [hz h hh, if_neg (hne _ (by omega)), if_neg (hne _ (by omega)), if_neg (hne _ (by omega)), if_neg (hne _ (by omega))]; rfl
  · intro i hi
    rcases hE i hi with h | ⟨u, hu, h⟩
    · exact Or.inl h
    · exact Or.inr ⟨u, by omega, h⟩
theorem RH_upd (h : RH F G ns nh nw t tp A np d e l c p k) (hk : k < np) (r1 : R1 F' G') (hF : ∀ o, (o ≤ 14 ∨ o = 19 ∨ (20 ≤ o ∧ o < 25)) → F' o = F o) (hG : ∀ o, o ≤ 24 → G' o = G o) (h25F : ∀ r, r ≠ (p + k) % 60 → F' 25 r = F 25 r) (h25G : ∀ i, i ≠ k → G' 25 i = G 25 i) (h25 : F' 25 ((p + k) % 60) = G' 25 k) (hS : RS F' G' t nh ns) (hE : IE G' t) (hK : IK G' d' e' l' c') : RH F' G' ns nh nw t tp A np d' e' l' c' p k := by
  obtain ⟨-, ⟨q1, q2, q3, q4, q5⟩, a1, a2, -, aB, aI, -, -⟩ := h
  have hkeep : keep G' nh k = keep G nh k := by
    apply keep_congr
    intro i hi
    unfold gone
    rw [h25G i (by omega), hG 0 (by omega), hG 23 (by omega)]
  refine ⟨r1, ⟨by rw [hF 19 (by omega)]; exact q1, q2, by rw [hF 19 (by omega)]; exact q3, by rw [hG 19 (by omega)]; exact q4, q5⟩, ?_, ?_, hS, ?_, Ist_congr aI (fun o ho _ _ => hG o ho), hE, hK⟩
  · intro f j hf hj hjn
    by_cases h5 : f = 5
    · subst h5
      show F' 25 _ = G' 25 _
      by_cases hjk : j = k
      · subst hjk; exact h25
      · rw [h25F _ (by omega), h25G _ hjk]; exact a1 5 j hf hj hjn
    · rw [hF (20 + f) (by omega), hG (20 + f) (by omega)]; exact a1 f j hf hj hjn
  · intro f m i hf hm
    rw [hkeep] at hm
    obtain ⟨m1, m2⟩ := keep_at hm
    by_cases h5 : f = 5
    · subst h5
      show F' 25 _ = G' 25 _
      rw [h25F _ (by omega), h25G _ (by omega)]; exact a2 5 m i hf hm
    · rw [hF (20 + f) (by omega), hG (20 + f) (by omega)]; exact a2 f m i hf hm
  · rw [hF 9 (by omega), bsum_congr (hG 14 (by omega))]; exact aB
theorem RS_upd0 (h : ∀ h, h < 4 → F 15 h = nI (msk G t h)) {q s : Nat} (hq : q < 4) (hs : s < 4) (h1 : F' 15 q = F 15 q ||| (1 <<< (nI s &&& 31))) (h2 : ∀ i, i ≠ q → F' 15 i = F 15 i) (h3 : G' 30 (4 * q + s) = nI t) (h4 : ∀ i, i ≠ 4 * q + s → G' 30 i = G 30 i) : ∀ h, h < 4 → F' 15 h = nI (msk G' t h) := by
  intro r hr
  by_cases hrq : r = q
  · subst hrq
    rw [h1, h r hr]
    unfold msk
    have hs4 : s = 0 ∨ s = 1 ∨ s = 2 ∨ s = 3 := by omega
    rcases hs4 with rfl | rfl | rfl | rfl
    · rw [Nat.add_zero] at h3
      rw [if_pos h3, h4 (4 * r + 1) (by omega), h4 (4 * r + 2) (by omega), h4 (4 * r + 3) (by omega)]
      by_cases c0 : G 30 (4 * r) = nI t <;> by_cases c1 : G 30 (4 * r + 1) = nI t <;> by_cases c2 : G 30 (4 * r + 2) = nI t <;> by_cases c3 : G 30 (4 * r + 3) = nI t <;> simp only [c0, c1, c2, c3, if_true, if_false] <;> decide
    · rw [if_pos h3, h4 (4 * r) (by omega), h4 (4 * r + 2) (by omega), h4 (4 * r + 3) (by omega)]
      by_cases c0 : G 30 (4 * r) = nI t <;> by_cases c1 : G 30 (4 * r + 1) = nI t <;> by_cases c2 : G 30 (4 * r + 2) = nI t <;> by_cases c3 : G 30 (4 * r + 3) = nI t <;> simp only [c0, c1, c2, c3, if_true, if_false] <;> decide
    · rw [if_pos h3, h4 (4 * r) (by omega), h4 (4 * r + 1) (by omega), h4 (4 * r + 3) (by omega)]
      by_cases c0 : G 30 (4 * r) = nI t <;> by_cases c1 : G 30 (4 * r + 1) = nI t <;> by_cases c2 : G 30 (4 * r + 2) = nI t <;> by_cases c3 : G 30 (4 * r + 3) = nI t <;> simp only [c0, c1, c2, c3, if_true, if_false] <;> decide
    · rw [if_pos h3, h4 (4 * r) (by omega), h4 (4 * r + 1) (by omega), h4 (4 * r + 2) (by omega)]
      by_cases c0 : G 30 (4 * r) = nI t <;> by_cases c1 : G 30 (4 * r + 1) = nI t <;> by_cases c2 : G 30 (4 * r + 2) = nI t <;> by_cases c3 : G 30 (4 * r + 3) = nI t <;> simp only [c0, c1, c2, c3, if_true, if_false] <;> decide
  · rw [h2 r hrq, h r hr]
    unfold msk
    rw [h4 (4 * r) (by omega), h4 (4 * r + 1) (by omega), h4 (4 * r + 2) (by omega), h4 (4 * r + 3) (by omega)]
theorem RS_upd (h : RS F G t nh ns) {q s : Nat} (hq : q < 4) (hqn : q < nh) (hsn : s < ns) (hs : s < 4) (h1 : F' 15 q = F 15 q ||| (1 <<< (nI s &&& 31))) (h2 : ∀ i, i ≠ q → F' 15 i = F 15 i) (h3 : G' 30 (4 * q + s) = nI t) (h4 : ∀ i, i ≠ 4 * q + s → G' 30 i = G 30 i) : RS F' G' t nh ns := by
  have h0 := RS_upd0 (fun r hr => (h.1 r hr).1) hq hs h1 h2 h3 h4
  refine ⟨fun r hr => ⟨h0 r hr, fun hn => ?_⟩, ?_⟩
  · rw [h2 r (by omega)]; exact (h.1 r hr).2 hn
  · intro r i hr hi hi4
    rw [h4 (4 * r + i) (by omega)]; exact h.2 r i hr hi hi4
theorem RH_D (h : RH F G ns nh nw t tp A np d e l c p k) (hk : k < np) {q s : Nat} (hq : q < nh) (hs : s < ns) : ∃ l', l ≤ l' ∧ RH (upd2 (NF (upd2 F 25 ((p + k) % 60) (F 25 ((p + k) % 60) ||| (1 <<< (nI q &&& 31)))) (4 * q + s) (G 23 k) (G 0 5)) 15 q (F 15 q ||| (1 <<< (nI s &&& 31)))) (NF (upd2 G 25 k (G 25 k ||| (1 <<< (nI q &&& 31)))) (4 * q + s) (G 23 k) (G 0 5)) ns nh nw t tp A np (d + 1) e l' (c + 1) p k := by
  obtain ⟨h1, ⟨q1, q2, q3, q4, q5⟩, a1, a2, aS, aB, aI, aE, aK⟩ := id h
  have i0 := aI.1
  obtain ⟨-, n1, -, n2, -, n3, n4, n5⟩ := i0
  have hpr : 4 * q + s < 16 := by omega
  have h25 := a1 5 k (by decide) (Nat.le_refl k) hk
  rw [show 20 + 5 = 25 from rfl] at h25
  refine ⟨l + (if G 32 (4 * q + s) ≤ G 23 k then 0 else 1), Nat.le_add_right _ _, ?_⟩
  refine RH_upd h hk ?_ ?_ ?_ ?_ ?_ ?_ ?_ ?_ ?_
  · unfold NF
    simp (disch := omega) only [upd2_o, r26_6 h1, r26_8 h1, r27 h1, r29 h1, r30 h1, r32 h1]
    refine R1_f ?_ (by unfold St; omega)
    iterate 7 refine R1_u ?_ rfl
    exact R1_f (R1_g h1 (by unfold St; omega)) (by unfold St; omega)
  · intro o ho; unfold NF; simp (disch := omega) only [upd2_o]
  · intro o ho; unfold NF; simp (disch := omega) only [upd2_o]
  · intro r hr; unfold NF; simp (disch := omega) only [upd2_o, upd2_i]
  · intro r hr; unfold NF; simp (disch := omega) only [upd2_o, upd2_i]
  · unfold NF; simp (disch := omega) only [upd2_o, upd2_s, h25]
  · refine RS_upd aS (show q < 4 by omega) hq hs (show s < 4 by omega) ?_ ?_ ?_ ?_
    · rw [upd2_s]
    · intro i hi; unfold NF; simp (disch := omega) only [upd2_o, upd2_i]
    · unfold NF; simp (disch := omega) only [upd2_o, upd2_s]; exact n4
    · intro i hi; unfold NF; simp (disch := omega) only [upd2_o, upd2_i]
  · intro i hi
    by_cases hip : i = 4 * q + s
    · subst hip
      refine Or.inr ⟨t, Nat.le_refl t, ?_⟩
      unfold NF; simp (disch := omega) only [upd2_o, upd2_s]; exact n4
    · unfold NF; simp (disch := omega) only [upd2_o, upd2_i]; exact aE i hi
  · obtain ⟨k1, k2, k3, k4, k5⟩ := aK
    unfold NF IK
    simp (disch := omega) only [upd2_o, upd2_s, upd2_i]
    refine ⟨by rw [k1, nI_1], k2, ?_, by omega, ?_⟩
    · rw [k3]
      split
      · rw [show (0 : Int32) = nI 0 from rfl, nI_add]
      · rw [nI_1]
    · split <;> omega
theorem RH_E (h : RH F G ns nh nw t tp A np d e l c p k) (hk : k < np) {q s : Nat} (hq : q < nh) (hs : s < ns) : RH (EF (upd2 F 25 ((p + k) % 60) (F 25 ((p + k) % 60) ||| (1 <<< (nI q &&& 31)))) (4 * q + s)) (EF (upd2 G 25 k (G 25 k ||| (1 <<< (nI q &&& 31)))) (4 * q + s)) ns nh nw t tp A np d (e + 1) l (c + 1) p k := by
  obtain ⟨h1, ⟨q1, q2, q3, q4, q5⟩, a1, a2, aS, aB, aI, aE, aK⟩ := id h
  have i0 := aI.1
  obtain ⟨-, n1, -, n2, -, n3, n4, n5⟩ := i0
  have hpr : 4 * q + s < 16 := by omega
  have h25 := a1 5 k (by decide) (Nat.le_refl k) hk
  rw [show 20 + 5 = 25 from rfl] at h25
  refine RH_upd h hk ?_ ?_ ?_ ?_ ?_ ?_ ?_ ?_ ?_
  · unfold EF
    simp (disch := omega) only [upd2_o, r26_7 h1, r28 h1]
    iterate 2 refine R1_u ?_ rfl
    exact R1_f (R1_g h1 (by unfold St; omega)) (by unfold St; omega)
  · intro o ho; unfold EF; simp (disch := omega) only [upd2_o]
  · intro o ho; unfold EF; simp (disch := omega) only [upd2_o]
  · intro r hr; unfold EF; simp (disch := omega) only [upd2_o, upd2_i]
  · intro r hr; unfold EF; simp (disch := omega) only [upd2_o, upd2_i]
  · unfold EF; simp (disch := omega) only [upd2_o, upd2_s, h25]
  · unfold RS msk at aS ⊢; unfold EF; simp (disch := omega) only [upd2_o]; exact aS
  · unfold EF IE at *; simp (disch := omega) only [upd2_o]; exact aE
  · obtain ⟨k1, k2, k3, k4, k5⟩ := aK
    unfold EF IK
    simp (disch := omega) only [upd2_o, upd2_s, upd2_i]
    exact ⟨k1, by rw [k2, nI_1], k3, by omega, k5⟩
end P44
