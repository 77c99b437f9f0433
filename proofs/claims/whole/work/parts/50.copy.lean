/-! PURE: a Field is copied. -/
def cp2 (F : Nat → Nat → Int32) (o : Nat) (S : Nat → Int32) (n : Nat) : Nat → Nat → Int32 := fun q j => if q = o then (if j < n then S j else F q j) else F q j
theorem cp2_s {F : Nat → Nat → Int32} {o n j : Nat} {S : Nat → Int32} (h : j < n) : cp2 F o S n o j = S j := by unfold cp2; rw [if_pos rfl, if_pos h]
theorem cp2_o {F : Nat → Nat → Int32} {o q n : Nat} {S : Nat → Int32} (h : q ≠ o) : cp2 F o S n q = F q := by funext j; unfold cp2; rw [if_neg h]
theorem nar1 : vp_nar .boolean 1 = 1 := by decide
theorem nar0 : vp_nar .boolean 0 = 0 := by decide
/-- the cells that are copied -/
def Cp (o j : Nat) : Prop := (o = 0 ∧ 5 ≤ j ∧ j < 9) ∨ (o = 1 ∧ j = 7) ∨ (2 ≤ o ∧ o < 9 ∧ j < 4) ∨ (o = 9 ∧ 6 ≤ j ∧ j < 8) ∨ (10 ≤ o ∧ o < 15 ∧ j < 4) ∨ (o = 16 ∧ j = 2) ∨ (17 ≤ o ∧ o < 19 ∧ j < 3) ∨ (o = 19 ∧ 6 ≤ j ∧ j < 8) ∨ (20 ≤ o ∧ o < 26 ∧ j < 60) ∨ (o = 26 ∧ 6 ≤ j ∧ j < 9) ∨ (27 ≤ o ∧ o < 33 ∧ j < 16)
def Vp (o j : Nat) : Prop := (o = 0 ∧ 5 ≤ j ∧ j < 9) ∨ (o = 1 ∧ j = 7) ∨ (2 ≤ o ∧ o < 9 ∧ j < 4) ∨ (o = 9 ∧ j = 6) ∨ (10 ≤ o ∧ o < 15 ∧ j < 4) ∨ (o = 16 ∧ j = 2) ∨ (17 ≤ o ∧ o < 19 ∧ j < 3) ∨ (o = 19 ∧ j = 7) ∨ (20 ≤ o ∧ o < 26 ∧ j < 60) ∨ (o = 26 ∧ 6 ≤ j ∧ j < 9) ∨ (27 ≤ o ∧ o < 33 ∧ j < 16)
section P50
variable {A : Prop} {w : zW} {a b r ns nh nw t te tp np d e l c p k : Nat} {D : zD} {F G S : Nat → Nat → Int32}
theorem vp_co {o j : Nat} (h : Vp o j) : ci (o, j) < 521 ∧ co (ci (o, j)) = (o, j) := by
  unfold Vp at h
  rcases h with ⟨rfl, h1, h2⟩ | ⟨rfl, rfl⟩ | ⟨h1, h2, h3⟩ | ⟨rfl, rfl⟩ | ⟨h1, h2, h3⟩ | ⟨rfl, rfl⟩ | ⟨h1, h2, h3⟩ | ⟨rfl, rfl⟩ | ⟨h1, h2, h3⟩ | ⟨rfl, h1, h2⟩ | ⟨h1, h2, h3⟩
  · have : j = 5 ∨ j = 6 ∨ j = 7 ∨ j = 8 := by omega
    rcases this with rfl | rfl | rfl | rfl <;> decide
  · decide
  · have ho : o = 2 ∨ o = 3 ∨ o = 4 ∨ o = 5 ∨ o = 6 ∨ o = 7 ∨ o = 8 := by omega
    have hj : j = 0 ∨ j = 1 ∨ j = 2 ∨ j = 3 := by omega
    rcases ho with rfl | rfl | rfl | rfl | rfl | rfl | rfl <;> rcases hj with rfl | rfl | rfl | rfl <;> decide
  · decide
  · have e : ci (o, j) = 39 + 5 * j + (o - 10) := by
      unfold ci; dsimp only; rw [if_neg (by omega), if_neg (by omega), if_neg (by omega), if_neg (by omega), if_pos (by omega)]
    rw [e]
    refine ⟨by omega, ?_⟩
    rw [co_h h3 (by omega), show 10 + (o - 10) = o by omega]
  · decide
  · have e : ci (o, j) = 59 + 2 * j + (o - 17) := by
      unfold ci; dsimp only; rw [if_neg (by omega), if_neg (by omega), if_neg (by omega), if_pos (by omega)]
    rw [e]
    refine ⟨by omega, ?_⟩
    rw [co_w h3 (by omega), show 17 + (o - 17) = o by omega]
  · decide
  · have e : ci (o, j) = 161 + 6 * j + (o - 20) := by
      unfold ci; dsimp only; rw [if_neg (by omega), if_neg (by omega), if_pos (by omega)]
    rw [e]
    refine ⟨by omega, ?_⟩
    rw [co_p h3 (by omega), show 20 + (o - 20) = o by omega]
  · have : j = 6 ∨ j = 7 ∨ j = 8 := by omega
    rcases this with rfl | rfl | rfl <;> decide
  · have e : ci (o, j) = 65 + 6 * j + (o - 27) := by
      unfold ci; dsimp only; rw [if_neg (by omega), if_pos (by omega)]
    rw [e]
    refine ⟨by omega, ?_⟩
    rw [co_e h3 (by omega), show 27 + (o - 27) = o by omega]
theorem St_Cp {o j : Nat} (h : St o j) : Cp o j := by
  unfold St at h; unfold Cp
  rcases h with h | h | h | h | h | h | h | h | h
  · exact Or.inl h
  · exact Or.inr (Or.inl h)
  · exact Or.inr (Or.inr (Or.inl h))
  · exact Or.inr (Or.inr (Or.inr (Or.inl ⟨h.1, by omega, by omega⟩)))
  · exact Or.inr (Or.inr (Or.inr (Or.inr (Or.inl h))))
  · exact Or.inr (Or.inr (Or.inr (Or.inr (Or.inr (Or.inl h)))))
  · exact Or.inr (Or.inr (Or.inr (Or.inr (Or.inr (Or.inr (Or.inl h))))))
  · exact Or.inr (Or.inr (Or.inr (Or.inr (Or.inr (Or.inr (Or.inr (Or.inr (Or.inr (Or.inl h)))))))))
  · exact Or.inr (Or.inr (Or.inr (Or.inr (Or.inr (Or.inr (Or.inr (Or.inr (Or.inr (Or.inr (h))))))))))
theorem St_Vp {o j : Nat} (h : St o j) : Vp o j := by
  unfold St at h; unfold Vp
  rcases h with h | h | h | h | h | h | h | h | h
  · exact Or.inl h
  · exact Or.inr (Or.inl h)
  · exact Or.inr (Or.inr (Or.inl h))
  · exact Or.inr (Or.inr (Or.inr (Or.inl h)))
  · exact Or.inr (Or.inr (Or.inr (Or.inr (Or.inl h))))
  · exact Or.inr (Or.inr (Or.inr (Or.inr (Or.inr (Or.inl h)))))
  · exact Or.inr (Or.inr (Or.inr (Or.inr (Or.inr (Or.inr (Or.inl h))))))
  · exact Or.inr (Or.inr (Or.inr (Or.inr (Or.inr (Or.inr (Or.inr (Or.inr (Or.inr (Or.inl h)))))))))
  · exact Or.inr (Or.inr (Or.inr (Or.inr (Or.inr (Or.inr (Or.inr (Or.inr (Or.inr (Or.inr (h))))))))))
theorem RI_congr {F' G' : Nat → Nat → Int32} (h : RI F G ns nh nw t te tp A np d e l c) (hF : ∀ o j, Cp o j → F' o j = F o j) (hZ : ∀ j, j < 4 → F' 15 j = 0) (hG : ∀ o j, Vp o j → G' o j = G o j) : RI F' G' ns nh nw t te tp A np d e l c := by
  obtain ⟨h1, ⟨p, q1, q2, q3, q4, q5, q6⟩, hz, hB, ⟨n0, n1, n2, n3, n4, n5, n6, n7⟩, hS, hH, hW, hC, hP, hE, hK, hA⟩ := h
  refine ⟨?_, ⟨p, ?_⟩, hZ, ?_, ?_, ?_, ?_, ?_, ?_, ?_, ?_, ?_, ?_⟩
  · intro o j hs
    rw [hF o j (St_Cp hs), hG o j (St_Vp hs)]; exact h1 o j hs
  · refine ⟨by rw [hF 19 6 (by unfold Cp; omega)]; exact q1, q2, by rw [hF 19 7 (by unfold Cp; omega)]; exact q3, by rw [hG 19 7 (by unfold Vp; omega)]; exact q4, q5, ?_⟩
    intro f k hf hk
    rw [hF (20 + f) _ (by unfold Cp; omega), hG (20 + f) k (by unfold Vp; omega)]; exact q6 f k hf hk
  · have : ∀ n, n ≤ 4 → bsum G' n = bsum G n := by
      intro n
      induction n with
      | zero => intro _; rfl
      | succ n ih => intro hn; unfold bsum; rw [ih (by omega), hG 14 n (by unfold Vp; omega)]
    rw [hF 9 7 (by unfold Cp; omega), this nh n3]; exact hB
  · unfold I0
    rw [hG 1 7 (by unfold Vp; omega), hG 9 6 (by unfold Vp; omega), hG 16 2 (by unfold Vp; omega), hG 0 5 (by unfold Vp; omega)]; exact ⟨n0, n1, n2, n3, n4, n5, n6, n7⟩
  · intro s hs
    rw [hG 2 s (by unfold Vp; omega), hG 3 s (by unfold Vp; omega), hG 4 s (by unfold Vp; omega), hG 5 s (by unfold Vp; omega), hG 6 s (by unfold Vp; omega), hG 7 s (by unfold Vp; omega), hG 8 s (by unfold Vp; omega)]; exact hS s hs
  · intro s hs
    rw [hG 10 s (by unfold Vp; omega), hG 11 s (by unfold Vp; omega), hG 12 s (by unfold Vp; omega), hG 13 s (by unfold Vp; omega)]; exact hH s hs
  · intro s hs
    rw [hG 17 s (by unfold Vp; omega), hG 18 s (by unfold Vp; omega)]; exact hW s hs
  · unfold IC
    rw [hG 0 7 (by unfold Vp; omega), hG 0 8 (by unfold Vp; omega)]; exact hC
  · intro k hk
    rw [hG 20 k (by unfold Vp; omega), hG 21 k (by unfold Vp; omega), hG 22 k (by unfold Vp; omega), hG 23 k (by unfold Vp; omega), hG 24 k (by unfold Vp; omega)]; exact hP k hk
  · intro i hi
    rw [hG 30 i (by unfold Vp; omega), hG 31 i (by unfold Vp; omega)]; exact hE i hi
  · unfold IK
    rw [hG 26 6 (by unfold Vp; omega), hG 26 7 (by unfold Vp; omega), hG 26 8 (by unfold Vp; omega)]; exact hK
  · intro s hs
    rw [hG 8 s (by unfold Vp; omega)]; exact hA s hs
section CC
variable {β : Type}
theorem Lcg {o t n : Nat} {m : Int32} (hR : w.1 (r + o) = some (.inl (t, n))) (hL : w.1 (a + o) = some (.inl (t, n))) (hd : r + 33 ≤ a ∨ a + 33 ≤ r) (ho : o < 33) (hn : n ≤ 100) (hm : m = nI n) {k : zD → Option β} : zcpy w (zblk D a F) t (r + o) 0 (a + o) 0 m k = k (zblk D a (cp2 F o (D (r + o)) n)) := by
  have z : ∀ x : Nat, (nI 0).toNatClampNeg = 0 ∧ ¬ nI 0 < 0 := fun _ => by decide
  have hc : (nI n).toNatClampNeg = n := nI_clamp (by omega)
  have hz : (0 : Int32).toNatClampNeg = 0 := by decide
  have hp : ¬ nI n < 0 := nI_pos (by omega)
  have h0 : ¬ (0 : Int32) < 0 := by decide
  subst hm
  unfold zcpy
  rw [hR, hL]
  simp only [hc, hz, hp, h0, not_false_eq_true, true_and, Nat.zero_add, Nat.le_refl, and_self, if_true]
  congr 1
  funext q j
  by_cases hq : q = a + o
  · subst hq
    rw [if_pos rfl, zblk_at ho, zblk_at ho, zblk_out (by omega)]
    unfold va_cpy cp2
    rw [if_pos rfl]
    by_cases hj : j < n
    · rw [if_pos (by omega), if_pos hj]; congr 1; omega
    · rw [if_neg (by omega), if_neg hj]
  · rw [if_neg hq]
    unfold zblk
    by_cases hqa : a ≤ q ∧ q < a + 33
    · rw [if_pos hqa, if_pos hqa, cp2_o (by omega)]
    · rw [if_neg hqa, if_neg hqa]
theorem Lc2 (hL : LF w a) (hR : LF w r) (hd : r + 33 ≤ a ∨ a + 33 ≤ r) {k : zD → Option β} : zcpy w (zblk D a F) 0 (r + 2) 0 (a + 2) 0 4 k = k (zblk D a (cp2 F 2 (D (r + 2)) 4)) := Lcg (hR 2 (by decide)) (hL 2 (by decide)) hd (by decide) (by decide) rfl
theorem Lc3 (hL : LF w a) (hR : LF w r) (hd : r + 33 ≤ a ∨ a + 33 ≤ r) {k : zD → Option β} : zcpy w (zblk D a F) 0 (r + 3) 0 (a + 3) 0 4 k = k (zblk D a (cp2 F 3 (D (r + 3)) 4)) := Lcg (hR 3 (by decide)) (hL 3 (by decide)) hd (by decide) (by decide) rfl
theorem Lc4 (hL : LF w a) (hR : LF w r) (hd : r + 33 ≤ a ∨ a + 33 ≤ r) {k : zD → Option β} : zcpy w (zblk D a F) 0 (r + 4) 0 (a + 4) 0 4 k = k (zblk D a (cp2 F 4 (D (r + 4)) 4)) := Lcg (hR 4 (by decide)) (hL 4 (by decide)) hd (by decide) (by decide) rfl
theorem Lc5 (hL : LF w a) (hR : LF w r) (hd : r + 33 ≤ a ∨ a + 33 ≤ r) {k : zD → Option β} : zcpy w (zblk D a F) 0 (r + 5) 0 (a + 5) 0 4 k = k (zblk D a (cp2 F 5 (D (r + 5)) 4)) := Lcg (hR 5 (by decide)) (hL 5 (by decide)) hd (by decide) (by decide) rfl
theorem Lc6 (hL : LF w a) (hR : LF w r) (hd : r + 33 ≤ a ∨ a + 33 ≤ r) {k : zD → Option β} : zcpy w (zblk D a F) 0 (r + 6) 0 (a + 6) 0 4 k = k (zblk D a (cp2 F 6 (D (r + 6)) 4)) := Lcg (hR 6 (by decide)) (hL 6 (by decide)) hd (by decide) (by decide) rfl
theorem Lc7 (hL : LF w a) (hR : LF w r) (hd : r + 33 ≤ a ∨ a + 33 ≤ r) {k : zD → Option β} : zcpy w (zblk D a F) 0 (r + 7) 0 (a + 7) 0 4 k = k (zblk D a (cp2 F 7 (D (r + 7)) 4)) := Lcg (hR 7 (by decide)) (hL 7 (by decide)) hd (by decide) (by decide) rfl
theorem Lc8 (hL : LF w a) (hR : LF w r) (hd : r + 33 ≤ a ∨ a + 33 ≤ r) {k : zD → Option β} : zcpy w (zblk D a F) 2 (r + 8) 0 (a + 8) 0 4 k = k (zblk D a (cp2 F 8 (D (r + 8)) 4)) := Lcg (hR 8 (by decide)) (hL 8 (by decide)) hd (by decide) (by decide) rfl
theorem Lc10 (hL : LF w a) (hR : LF w r) (hd : r + 33 ≤ a ∨ a + 33 ≤ r) {k : zD → Option β} : zcpy w (zblk D a F) 0 (r + 10) 0 (a + 10) 0 4 k = k (zblk D a (cp2 F 10 (D (r + 10)) 4)) := Lcg (hR 10 (by decide)) (hL 10 (by decide)) hd (by decide) (by decide) rfl
theorem Lc11 (hL : LF w a) (hR : LF w r) (hd : r + 33 ≤ a ∨ a + 33 ≤ r) {k : zD → Option β} : zcpy w (zblk D a F) 0 (r + 11) 0 (a + 11) 0 4 k = k (zblk D a (cp2 F 11 (D (r + 11)) 4)) := Lcg (hR 11 (by decide)) (hL 11 (by decide)) hd (by decide) (by decide) rfl
theorem Lc12 (hL : LF w a) (hR : LF w r) (hd : r + 33 ≤ a ∨ a + 33 ≤ r) {k : zD → Option β} : zcpy w (zblk D a F) 0 (r + 12) 0 (a + 12) 0 4 k = k (zblk D a (cp2 F 12 (D (r + 12)) 4)) := Lcg (hR 12 (by decide)) (hL 12 (by decide)) hd (by decide) (by decide) rfl
theorem Lc13 (hL : LF w a) (hR : LF w r) (hd : r + 33 ≤ a ∨ a + 33 ≤ r) {k : zD → Option β} : zcpy w (zblk D a F) 0 (r + 13) 0 (a + 13) 0 4 k = k (zblk D a (cp2 F 13 (D (r + 13)) 4)) := Lcg (hR 13 (by decide)) (hL 13 (by decide)) hd (by decide) (by decide) rfl
theorem Lc14 (hL : LF w a) (hR : LF w r) (hd : r + 33 ≤ a ∨ a + 33 ≤ r) {k : zD → Option β} : zcpy w (zblk D a F) 0 (r + 14) 0 (a + 14) 0 4 k = k (zblk D a (cp2 F 14 (D (r + 14)) 4)) := Lcg (hR 14 (by decide)) (hL 14 (by decide)) hd (by decide) (by decide) rfl
theorem Lc17 (hL : LF w a) (hR : LF w r) (hd : r + 33 ≤ a ∨ a + 33 ≤ r) {k : zD → Option β} : zcpy w (zblk D a F) 2 (r + 17) 0 (a + 17) 0 3 k = k (zblk D a (cp2 F 17 (D (r + 17)) 3)) := Lcg (hR 17 (by decide)) (hL 17 (by decide)) hd (by decide) (by decide) rfl
theorem Lc18 (hL : LF w a) (hR : LF w r) (hd : r + 33 ≤ a ∨ a + 33 ≤ r) {k : zD → Option β} : zcpy w (zblk D a F) 0 (r + 18) 0 (a + 18) 0 3 k = k (zblk D a (cp2 F 18 (D (r + 18)) 3)) := Lcg (hR 18 (by decide)) (hL 18 (by decide)) hd (by decide) (by decide) rfl
theorem Lc20 (hL : LF w a) (hR : LF w r) (hd : r + 33 ≤ a ∨ a + 33 ≤ r) {k : zD → Option β} : zcpy w (zblk D a F) 0 (r + 20) 0 (a + 20) 0 60 k = k (zblk D a (cp2 F 20 (D (r + 20)) 60)) := Lcg (hR 20 (by decide)) (hL 20 (by decide)) hd (by decide) (by decide) rfl
theorem Lc21 (hL : LF w a) (hR : LF w r) (hd : r + 33 ≤ a ∨ a + 33 ≤ r) {k : zD → Option β} : zcpy w (zblk D a F) 0 (r + 21) 0 (a + 21) 0 60 k = k (zblk D a (cp2 F 21 (D (r + 21)) 60)) := Lcg (hR 21 (by decide)) (hL 21 (by decide)) hd (by decide) (by decide) rfl
theorem Lc22 (hL : LF w a) (hR : LF w r) (hd : r + 33 ≤ a ∨ a + 33 ≤ r) {k : zD → Option β} : zcpy w (zblk D a F) 0 (r + 22) 0 (a + 22) 0 60 k = k (zblk D a (cp2 F 22 (D (r + 22)) 60)) := Lcg (hR 22 (by decide)) (hL 22 (by decide)) hd (by decide) (by decide) rfl
theorem Lc23 (hL : LF w a) (hR : LF w r) (hd : r + 33 ≤ a ∨ a + 33 ≤ r) {k : zD → Option β} : zcpy w (zblk D a F) 0 (r + 23) 0 (a + 23) 0 60 k = k (zblk D a (cp2 F 23 (D (r + 23)) 60)) := Lcg (hR 23 (by decide)) (hL 23 (by decide)) hd (by decide) (by decide) rfl
theorem Lc24 (hL : LF w a) (hR : LF w r) (hd : r + 33 ≤ a ∨ a + 33 ≤ r) {k : zD → Option β} : zcpy w (zblk D a F) 0 (r + 24) 0 (a + 24) 0 60 k = k (zblk D a (cp2 F 24 (D (r + 24)) 60)) := Lcg (hR 24 (by decide)) (hL 24 (by decide)) hd (by decide) (by decide) rfl
theorem Lc25 (hL : LF w a) (hR : LF w r) (hd : r + 33 ≤ a ∨ a + 33 ≤ r) {k : zD → Option β} : zcpy w (zblk D a F) 0 (r + 25) 0 (a + 25) 0 60 k = k (zblk D a (cp2 F 25 (D (r + 25)) 60)) := Lcg (hR 25 (by decide)) (hL 25 (by decide)) hd (by decide) (by decide) rfl
theorem Lc27 (hL : LF w a) (hR : LF w r) (hd : r + 33 ≤ a ∨ a + 33 ≤ r) {k : zD → Option β} : zcpy w (zblk D a F) 0 (r + 27) 0 (a + 27) 0 16 k = k (zblk D a (cp2 F 27 (D (r + 27)) 16)) := Lcg (hR 27 (by decide)) (hL 27 (by decide)) hd (by decide) (by decide) rfl
theorem Lc28 (hL : LF w a) (hR : LF w r) (hd : r + 33 ≤ a ∨ a + 33 ≤ r) {k : zD → Option β} : zcpy w (zblk D a F) 0 (r + 28) 0 (a + 28) 0 16 k = k (zblk D a (cp2 F 28 (D (r + 28)) 16)) := Lcg (hR 28 (by decide)) (hL 28 (by decide)) hd (by decide) (by decide) rfl
theorem Lc29 (hL : LF w a) (hR : LF w r) (hd : r + 33 ≤ a ∨ a + 33 ≤ r) {k : zD → Option β} : zcpy w (zblk D a F) 0 (r + 29) 0 (a + 29) 0 16 k = k (zblk D a (cp2 F 29 (D (r + 29)) 16)) := Lcg (hR 29 (by decide)) (hL 29 (by decide)) hd (by decide) (by decide) rfl
theorem Lc30 (hL : LF w a) (hR : LF w r) (hd : r + 33 ≤ a ∨ a + 33 ≤ r) {k : zD → Option β} : zcpy w (zblk D a F) 0 (r + 30) 0 (a + 30) 0 16 k = k (zblk D a (cp2 F 30 (D (r + 30)) 16)) := Lcg (hR 30 (by decide)) (hL 30 (by decide)) hd (by decide) (by decide) rfl
theorem Lc31 (hL : LF w a) (hR : LF w r) (hd : r + 33 ≤ a ∨ a + 33 ≤ r) {k : zD → Option β} : zcpy w (zblk D a F) 0 (r + 31) 0 (a + 31) 0 16 k = k (zblk D a (cp2 F 31 (D (r + 31)) 16)) := Lcg (hR 31 (by decide)) (hL 31 (by decide)) hd (by decide) (by decide) rfl
theorem Lc32 (hL : LF w a) (hR : LF w r) (hd : r + 33 ≤ a ∨ a + 33 ≤ r) {k : zD → Option β} : zcpy w (zblk D a F) 0 (r + 32) 0 (a + 32) 0 16 k = k (zblk D a (cp2 F 32 (D (r + 32)) 16)) := Lcg (hR 32 (by decide)) (hL 32 (by decide)) hd (by decide) (by decide) rfl
theorem Lq0_5 (hR : LF w r) (hd : r + 33 ≤ a ∨ a + 33 ≤ r) {k : Int32 → Option β} : zfld w (zblk D a F) 3 5 r k = k (D r 5) := by
  rw [zfld_of (a := r) (hR 0 (by decide)) rfl, zblk_out (by omega)]
theorem Lq0_6 (hR : LF w r) (hd : r + 33 ≤ a ∨ a + 33 ≤ r) {k : Int32 → Option β} : zfld w (zblk D a F) 3 6 r k = k (D r 6) := by
  rw [zfld_of (a := r) (hR 0 (by decide)) rfl, zblk_out (by omega)]
theorem Lq0_7 (hR : LF w r) (hd : r + 33 ≤ a ∨ a + 33 ≤ r) {k : Int32 → Option β} : zfld w (zblk D a F) 3 7 r k = k (D r 7) := by
  rw [zfld_of (a := r) (hR 0 (by decide)) rfl, zblk_out (by omega)]
theorem Lq0_8 (hR : LF w r) (hd : r + 33 ≤ a ∨ a + 33 ≤ r) {k : Int32 → Option β} : zfld w (zblk D a F) 3 8 r k = k (D r 8) := by
  rw [zfld_of (a := r) (hR 0 (by decide)) rfl, zblk_out (by omega)]
theorem Lq1_7 (hR : LF w r) (hd : r + 33 ≤ a ∨ a + 33 ≤ r) {k : Int32 → Option β} : zfld w (zblk D a F) 6 7 (r + 1) k = k (D (r + 1) 7) := by
  rw [zfld_of (a := (r + 1)) (hR 1 (by decide)) rfl, zblk_out (by omega)]
theorem Lq9_6 (hR : LF w r) (hd : r + 33 ≤ a ∨ a + 33 ≤ r) {k : Int32 → Option β} : zfld w (zblk D a F) 4 6 (r + 9) k = k (D (r + 9) 6) := by
  rw [zfld_of (a := (r + 9)) (hR 9 (by decide)) rfl, zblk_out (by omega)]
theorem Lq9_7 (hR : LF w r) (hd : r + 33 ≤ a ∨ a + 33 ≤ r) {k : Int32 → Option β} : zfld w (zblk D a F) 4 7 (r + 9) k = k (D (r + 9) 7) := by
  rw [zfld_of (a := (r + 9)) (hR 9 (by decide)) rfl, zblk_out (by omega)]
theorem Lq16_2 (hR : LF w r) (hd : r + 33 ≤ a ∨ a + 33 ≤ r) {k : Int32 → Option β} : zfld w (zblk D a F) 7 2 (r + 16) k = k (D (r + 16) 2) := by
  rw [zfld_of (a := (r + 16)) (hR 16 (by decide)) rfl, zblk_out (by omega)]
theorem Lq19_6 (hR : LF w r) (hd : r + 33 ≤ a ∨ a + 33 ≤ r) {k : Int32 → Option β} : zfld w (zblk D a F) 5 6 (r + 19) k = k (D (r + 19) 6) := by
  rw [zfld_of (a := (r + 19)) (hR 19 (by decide)) rfl, zblk_out (by omega)]
theorem Lq19_7 (hR : LF w r) (hd : r + 33 ≤ a ∨ a + 33 ≤ r) {k : Int32 → Option β} : zfld w (zblk D a F) 5 7 (r + 19) k = k (D (r + 19) 7) := by
  rw [zfld_of (a := (r + 19)) (hR 19 (by decide)) rfl, zblk_out (by omega)]
theorem Lq26_6 (hR : LF w r) (hd : r + 33 ≤ a ∨ a + 33 ≤ r) {k : Int32 → Option β} : zfld w (zblk D a F) 1 6 (r + 26) k = k (D (r + 26) 6) := by
  rw [zfld_of (a := (r + 26)) (hR 26 (by decide)) rfl, zblk_out (by omega)]
theorem Lq26_7 (hR : LF w r) (hd : r + 33 ≤ a ∨ a + 33 ≤ r) {k : Int32 → Option β} : zfld w (zblk D a F) 1 7 (r + 26) k = k (D (r + 26) 7) := by
  rw [zfld_of (a := (r + 26)) (hR 26 (by decide)) rfl, zblk_out (by omega)]
theorem Lq26_8 (hR : LF w r) (hd : r + 33 ≤ a ∨ a + 33 ≤ r) {k : Int32 → Option β} : zfld w (zblk D a F) 1 8 (r + 26) k = k (D (r + 26) 8) := by
  rw [zfld_of (a := (r + 26)) (hR 26 (by decide)) rfl, zblk_out (by omega)]
end CC
theorem cp_Sirens (hL : LF w a) (hR : LF w r) (hd : r + 33 ≤ a ∨ a + 33 ≤ r) : f_Sirens_copyFrom w (zblk D a F) (a + 1) (r + 1) = some (zblk D a (cp2 (cp2 (cp2 (cp2 (cp2 (cp2 (cp2 (upd2 F 1 7 (D (r + 1) 7)) 2 (D (r + 2)) 4) 3 (D (r + 3)) 4) 4 (D (r + 4)) 4) 5 (D (r + 5)) 4) 6 (D (r + 6)) 4) 7 (D (r + 7)) 4) 8 (D (r + 8)) 4)) := by
  unfold f_Sirens_copyFrom
  simp only [↓zjpE, ↓zletE, ↓zciE, ↓zcvE, ↓zchkE, ↓reduceIte, zciE, zcvE, nI_1, ↓Lo0 hL, Lo0 hL, ↓Lr0_0 hL, Lr0_0 hL, ↓Lr0_1 hL, Lr0_1 hL, ↓Lr0_2 hL, Lr0_2 hL, ↓Lr0_3 hL, Lr0_3 hL, ↓Lr0_4 hL, Lr0_4 hL, ↓Lg0_5 hL, Lg0_5 hL, ↓Lp0_5 hL, Lp0_5 hL, ↓Lg0_6 hL, Lg0_6 hL, ↓Lp0_6 hL, Lp0_6 hL, ↓Lg0_7 hL, Lg0_7 hL, ↓Lp0_7 hL, Lp0_7 hL, ↓Lg0_8 hL, Lg0_8 hL, ↓Lp0_8 hL, Lp0_8 hL, ↓Lo1 hL, Lo1 hL, ↓Lr1_0 hL, Lr1_0 hL, ↓Lr1_1 hL, Lr1_1 hL, ↓Lr1_2 hL, Lr1_2 hL, ↓Lr1_3 hL, Lr1_3 hL, ↓Lr1_4 hL, Lr1_4 hL, ↓Lr1_5 hL, Lr1_5 hL, ↓Lr1_6 hL, Lr1_6 hL, ↓Lg1_7 hL, Lg1_7 hL, ↓Lp1_7 hL, Lp1_7 hL, ↓Lo9 hL, Lo9 hL, ↓Lr9_0 hL, Lr9_0 hL, ↓Lr9_1 hL, Lr9_1 hL, ↓Lr9_2 hL, Lr9_2 hL, ↓Lr9_3 hL, Lr9_3 hL, ↓Lr9_4 hL, Lr9_4 hL, ↓Lr9_5 hL, Lr9_5 hL, ↓Lg9_6 hL, Lg9_6 hL, ↓Lp9_6 hL, Lp9_6 hL, ↓Lg9_7 hL, Lg9_7 hL, ↓Lp9_7 hL, Lp9_7 hL, ↓Lo16 hL, Lo16 hL, ↓Lr16_0 hL, Lr16_0 hL, ↓Lr16_1 hL, Lr16_1 hL, ↓Lg16_2 hL, Lg16_2 hL, ↓Lp16_2 hL, Lp16_2 hL, ↓Lo19 hL, Lo19 hL, ↓Lr19_0 hL, Lr19_0 hL, ↓Lr19_1 hL, Lr19_1 hL, ↓Lr19_2 hL, Lr19_2 hL, ↓Lr19_3 hL, Lr19_3 hL, ↓Lr19_4 hL, Lr19_4 hL, ↓Lr19_5 hL, Lr19_5 hL, ↓Lg19_6 hL, Lg19_6 hL, ↓Lp19_6 hL, Lp19_6 hL, ↓Lg19_7 hL, Lg19_7 hL, ↓Lp19_7 hL, Lp19_7 hL, ↓Lo26 hL, Lo26 hL, ↓Lr26_0 hL, Lr26_0 hL, ↓Lr26_1 hL, Lr26_1 hL, ↓Lr26_2 hL, Lr26_2 hL, ↓Lr26_3 hL, Lr26_3 hL, ↓Lr26_4 hL, Lr26_4 hL, ↓Lr26_5 hL, Lr26_5 hL, ↓Lg26_6 hL, Lg26_6 hL, ↓Lp26_6 hL, Lp26_6 hL, ↓Lg26_7 hL, Lg26_7 hL, ↓Lp26_7 hL, Lp26_7 hL, ↓Lg26_8 hL, Lg26_8 hL, ↓Lp26_8 hL, Lp26_8 hL, ↓La2 hL, La2 hL, ↓Ls2 hL, Ls2 hL, ↓La3 hL, La3 hL, ↓Ls3 hL, Ls3 hL, ↓La4 hL, La4 hL, ↓Ls4 hL, Ls4 hL, ↓La5 hL, La5 hL, ↓Ls5 hL, Ls5 hL, ↓La6 hL, La6 hL, ↓Ls6 hL, Ls6 hL, ↓La7 hL, La7 hL, ↓Ls7 hL, Ls7 hL, ↓La8 hL, La8 hL, ↓Ls8 hL, Ls8 hL, ↓La10 hL, La10 hL, ↓Ls10 hL, Ls10 hL, ↓La11 hL, La11 hL, ↓Ls11 hL, Ls11 hL, ↓La12 hL, La12 hL, ↓Ls12 hL, Ls12 hL, ↓La13 hL, La13 hL, ↓Ls13 hL, Ls13 hL, ↓La14 hL, La14 hL, ↓Ls14 hL, Ls14 hL, ↓La15 hL, La15 hL, ↓Ls15 hL, Ls15 hL, ↓La17 hL, La17 hL, ↓Ls17 hL, Ls17 hL, ↓La18 hL, La18 hL, ↓Ls18 hL, Ls18 hL, ↓La20 hL, La20 hL, ↓Ls20 hL, Ls20 hL, ↓La21 hL, La21 hL, ↓Ls21 hL, Ls21 hL, ↓La22 hL, La22 hL, ↓Ls22 hL, Ls22 hL, ↓La23 hL, La23 hL, ↓Ls23 hL, Ls23 hL, ↓La24 hL, La24 hL, ↓Ls24 hL, Ls24 hL, ↓La25 hL, La25 hL, ↓Ls25 hL, Ls25 hL, ↓La27 hL, La27 hL, ↓Ls27 hL, Ls27 hL, ↓La28 hL, La28 hL, ↓Ls28 hL, Ls28 hL, ↓La29 hL, La29 hL, ↓Ls29 hL, Ls29 hL, ↓La30 hL, La30 hL, ↓Ls30 hL, Ls30 hL, ↓La31 hL, La31 hL, ↓Ls31 hL, Ls31 hL, ↓La32 hL, La32 hL, ↓Ls32 hL, Ls32 hL, ↓Lo0 hR, ↓Lr0_0 hR, ↓Lr0_1 hR, ↓Lr0_2 hR, ↓Lr0_3 hR, ↓Lr0_4 hR, ↓Lo1 hR, ↓Lr1_0 hR, ↓Lr1_1 hR, ↓Lr1_2 hR, ↓Lr1_3 hR, ↓Lr1_4 hR, ↓Lr1_5 hR, ↓Lr1_6 hR, ↓Lo9 hR, ↓Lr9_0 hR, ↓Lr9_1 hR, ↓Lr9_2 hR, ↓Lr9_3 hR, ↓Lr9_4 hR, ↓Lr9_5 hR, ↓Lo16 hR, ↓Lr16_0 hR, ↓Lr16_1 hR, ↓Lo19 hR, ↓Lr19_0 hR, ↓Lr19_1 hR, ↓Lr19_2 hR, ↓Lr19_3 hR, ↓Lr19_4 hR, ↓Lr19_5 hR, ↓Lo26 hR, ↓Lr26_0 hR, ↓Lr26_1 hR, ↓Lr26_2 hR, ↓Lr26_3 hR, ↓Lr26_4 hR, ↓Lr26_5 hR, ↓Lc2 hL hR hd, ↓Lc3 hL hR hd, ↓Lc4 hL hR hd, ↓Lc5 hL hR hd, ↓Lc6 hL hR hd, ↓Lc7 hL hR hd, ↓Lc8 hL hR hd, ↓Lc10 hL hR hd, ↓Lc11 hL hR hd, ↓Lc12 hL hR hd, ↓Lc13 hL hR hd, ↓Lc14 hL hR hd, ↓Lc17 hL hR hd, ↓Lc18 hL hR hd, ↓Lc20 hL hR hd, ↓Lc21 hL hR hd, ↓Lc22 hL hR hd, ↓Lc23 hL hR hd, ↓Lc24 hL hR hd, ↓Lc25 hL hR hd, ↓Lc27 hL hR hd, ↓Lc28 hL hR hd, ↓Lc29 hL hR hd, ↓Lc30 hL hR hd, ↓Lc31 hL hR hd, ↓Lc32 hL hR hd, ↓Lq0_5 hR hd, ↓Lq0_6 hR hd, ↓Lq0_7 hR hd, ↓Lq0_8 hR hd, ↓Lq1_7 hR hd, ↓Lq9_6 hR hd, ↓Lq9_7 hR hd, ↓Lq16_2 hR hd, ↓Lq19_6 hR hd, ↓Lq19_7 hR hd, ↓Lq26_6 hR hd, ↓Lq26_7 hR hd, ↓Lq26_8 hR hd]
theorem cp_Hearers (hL : LF w a) (hR : LF w r) (hd : r + 33 ≤ a ∨ a + 33 ≤ r) : f_Hearers_copyFrom w (zblk D a F) (a + 9) (r + 9) = some (zblk D a (cp2 (cp2 (cp2 (cp2 (cp2 (upd2 (upd2 F 9 6 (D (r + 9) 6)) 9 7 (D (r + 9) 7)) 10 (D (r + 10)) 4) 11 (D (r + 11)) 4) 12 (D (r + 12)) 4) 13 (D (r + 13)) 4) 14 (D (r + 14)) 4)) := by
  unfold f_Hearers_copyFrom
  simp only [↓zjpE, ↓zletE, ↓zciE, ↓zcvE, ↓zchkE, ↓reduceIte, zciE, zcvE, nI_1, ↓Lo0 hL, Lo0 hL, ↓Lr0_0 hL, Lr0_0 hL, ↓Lr0_1 hL, Lr0_1 hL, ↓Lr0_2 hL, Lr0_2 hL, ↓Lr0_3 hL, Lr0_3 hL, ↓Lr0_4 hL, Lr0_4 hL, ↓Lg0_5 hL, Lg0_5 hL, ↓Lp0_5 hL, Lp0_5 hL, ↓Lg0_6 hL, Lg0_6 hL, ↓Lp0_6 hL, Lp0_6 hL, ↓Lg0_7 hL, Lg0_7 hL, ↓Lp0_7 hL, Lp0_7 hL, ↓Lg0_8 hL, Lg0_8 hL, ↓Lp0_8 hL, Lp0_8 hL, ↓Lo1 hL, Lo1 hL, ↓Lr1_0 hL, Lr1_0 hL, ↓Lr1_1 hL, Lr1_1 hL, ↓Lr1_2 hL, Lr1_2 hL, ↓Lr1_3 hL, Lr1_3 hL, ↓Lr1_4 hL, Lr1_4 hL, ↓Lr1_5 hL, Lr1_5 hL, ↓Lr1_6 hL, Lr1_6 hL, ↓Lg1_7 hL, Lg1_7 hL, ↓Lp1_7 hL, Lp1_7 hL, ↓Lo9 hL, Lo9 hL, ↓Lr9_0 hL, Lr9_0 hL, ↓Lr9_1 hL, Lr9_1 hL, ↓Lr9_2 hL, Lr9_2 hL, ↓Lr9_3 hL, Lr9_3 hL, ↓Lr9_4 hL, Lr9_4 hL, ↓Lr9_5 hL, Lr9_5 hL, ↓Lg9_6 hL, Lg9_6 hL, ↓Lp9_6 hL, Lp9_6 hL, ↓Lg9_7 hL, Lg9_7 hL, ↓Lp9_7 hL, Lp9_7 hL, ↓Lo16 hL, Lo16 hL, ↓Lr16_0 hL, Lr16_0 hL, ↓Lr16_1 hL, Lr16_1 hL, ↓Lg16_2 hL, Lg16_2 hL, ↓Lp16_2 hL, Lp16_2 hL, ↓Lo19 hL, Lo19 hL, ↓Lr19_0 hL, Lr19_0 hL, ↓Lr19_1 hL, Lr19_1 hL, ↓Lr19_2 hL, Lr19_2 hL, ↓Lr19_3 hL, Lr19_3 hL, ↓Lr19_4 hL, Lr19_4 hL, ↓Lr19_5 hL, Lr19_5 hL, ↓Lg19_6 hL, Lg19_6 hL, ↓Lp19_6 hL, Lp19_6 hL, ↓Lg19_7 hL, Lg19_7 hL, ↓Lp19_7 hL, Lp19_7 hL, ↓Lo26 hL, Lo26 hL, ↓Lr26_0 hL, Lr26_0 hL, ↓Lr26_1 hL, Lr26_1 hL, ↓Lr26_2 hL, Lr26_2 hL, ↓Lr26_3 hL, Lr26_3 hL, ↓Lr26_4 hL, Lr26_4 hL, ↓Lr26_5 hL, Lr26_5 hL, ↓Lg26_6 hL, Lg26_6 hL, ↓Lp26_6 hL, Lp26_6 hL, ↓Lg26_7 hL, Lg26_7 hL, ↓Lp26_7 hL, Lp26_7 hL, ↓Lg26_8 hL, Lg26_8 hL, ↓Lp26_8 hL, Lp26_8 hL, ↓La2 hL, La2 hL, ↓Ls2 hL, Ls2 hL, ↓La3 hL, La3 hL, ↓Ls3 hL, Ls3 hL, ↓La4 hL, La4 hL, ↓Ls4 hL, Ls4 hL, ↓La5 hL, La5 hL, ↓Ls5 hL, Ls5 hL, ↓La6 hL, La6 hL, ↓Ls6 hL, Ls6 hL, ↓La7 hL, La7 hL, ↓Ls7 hL, Ls7 hL, ↓La8 hL, La8 hL, ↓Ls8 hL, Ls8 hL, ↓La10 hL, La10 hL, ↓Ls10 hL, Ls10 hL, ↓La11 hL, La11 hL, ↓Ls11 hL, Ls11 hL, ↓La12 hL, La12 hL, ↓Ls12 hL, Ls12 hL, ↓La13 hL, La13 hL, ↓Ls13 hL, Ls13 hL, ↓La14 hL, La14 hL, ↓Ls14 hL, Ls14 hL, ↓La15 hL, La15 hL, ↓Ls15 hL, Ls15 hL, ↓La17 hL, La17 hL, ↓Ls17 hL, Ls17 hL, ↓La18 hL, La18 hL, ↓Ls18 hL, Ls18 hL, ↓La20 hL, La20 hL, ↓Ls20 hL, Ls20 hL, ↓La21 hL, La21 hL, ↓Ls21 hL, Ls21 hL, ↓La22 hL, La22 hL, ↓Ls22 hL, Ls22 hL, ↓La23 hL, La23 hL, ↓Ls23 hL, Ls23 hL, ↓La24 hL, La24 hL, ↓Ls24 hL, Ls24 hL, ↓La25 hL, La25 hL, ↓Ls25 hL, Ls25 hL, ↓La27 hL, La27 hL, ↓Ls27 hL, Ls27 hL, ↓La28 hL, La28 hL, ↓Ls28 hL, Ls28 hL, ↓La29 hL, La29 hL, ↓Ls29 hL, Ls29 hL, ↓La30 hL, La30 hL, ↓Ls30 hL, Ls30 hL, ↓La31 hL, La31 hL, ↓Ls31 hL, Ls31 hL, ↓La32 hL, La32 hL, ↓Ls32 hL, Ls32 hL, ↓Lo0 hR, ↓Lr0_0 hR, ↓Lr0_1 hR, ↓Lr0_2 hR, ↓Lr0_3 hR, ↓Lr0_4 hR, ↓Lo1 hR, ↓Lr1_0 hR, ↓Lr1_1 hR, ↓Lr1_2 hR, ↓Lr1_3 hR, ↓Lr1_4 hR, ↓Lr1_5 hR, ↓Lr1_6 hR, ↓Lo9 hR, ↓Lr9_0 hR, ↓Lr9_1 hR, ↓Lr9_2 hR, ↓Lr9_3 hR, ↓Lr9_4 hR, ↓Lr9_5 hR, ↓Lo16 hR, ↓Lr16_0 hR, ↓Lr16_1 hR, ↓Lo19 hR, ↓Lr19_0 hR, ↓Lr19_1 hR, ↓Lr19_2 hR, ↓Lr19_3 hR, ↓Lr19_4 hR, ↓Lr19_5 hR, ↓Lo26 hR, ↓Lr26_0 hR, ↓Lr26_1 hR, ↓Lr26_2 hR, ↓Lr26_3 hR, ↓Lr26_4 hR, ↓Lr26_5 hR, ↓Lc2 hL hR hd, ↓Lc3 hL hR hd, ↓Lc4 hL hR hd, ↓Lc5 hL hR hd, ↓Lc6 hL hR hd, ↓Lc7 hL hR hd, ↓Lc8 hL hR hd, ↓Lc10 hL hR hd, ↓Lc11 hL hR hd, ↓Lc12 hL hR hd, ↓Lc13 hL hR hd, ↓Lc14 hL hR hd, ↓Lc17 hL hR hd, ↓Lc18 hL hR hd, ↓Lc20 hL hR hd, ↓Lc21 hL hR hd, ↓Lc22 hL hR hd, ↓Lc23 hL hR hd, ↓Lc24 hL hR hd, ↓Lc25 hL hR hd, ↓Lc27 hL hR hd, ↓Lc28 hL hR hd, ↓Lc29 hL hR hd, ↓Lc30 hL hR hd, ↓Lc31 hL hR hd, ↓Lc32 hL hR hd, ↓Lq0_5 hR hd, ↓Lq0_6 hR hd, ↓Lq0_7 hR hd, ↓Lq0_8 hR hd, ↓Lq1_7 hR hd, ↓Lq9_6 hR hd, ↓Lq9_7 hR hd, ↓Lq16_2 hR hd, ↓Lq19_6 hR hd, ↓Lq19_7 hR hd, ↓Lq26_6 hR hd, ↓Lq26_7 hR hd, ↓Lq26_8 hR hd]
theorem cp_Walls (hL : LF w a) (hR : LF w r) (hd : r + 33 ≤ a ∨ a + 33 ≤ r) : f_Walls_copyFrom w (zblk D a F) (a + 16) (r + 16) = some (zblk D a (cp2 (cp2 (upd2 F 16 2 (D (r + 16) 2)) 17 (D (r + 17)) 3) 18 (D (r + 18)) 3)) := by
  unfold f_Walls_copyFrom
  simp only [↓zjpE, ↓zletE, ↓zciE, ↓zcvE, ↓zchkE, ↓reduceIte, zciE, zcvE, nI_1, ↓Lo0 hL, Lo0 hL, ↓Lr0_0 hL, Lr0_0 hL, ↓Lr0_1 hL, Lr0_1 hL, ↓Lr0_2 hL, Lr0_2 hL, ↓Lr0_3 hL, Lr0_3 hL, ↓Lr0_4 hL, Lr0_4 hL, ↓Lg0_5 hL, Lg0_5 hL, ↓Lp0_5 hL, Lp0_5 hL, ↓Lg0_6 hL, Lg0_6 hL, ↓Lp0_6 hL, Lp0_6 hL, ↓Lg0_7 hL, Lg0_7 hL, ↓Lp0_7 hL, Lp0_7 hL, ↓Lg0_8 hL, Lg0_8 hL, ↓Lp0_8 hL, Lp0_8 hL, ↓Lo1 hL, Lo1 hL, ↓Lr1_0 hL, Lr1_0 hL, ↓Lr1_1 hL, Lr1_1 hL, ↓Lr1_2 hL, Lr1_2 hL, ↓Lr1_3 hL, Lr1_3 hL, ↓Lr1_4 hL, Lr1_4 hL, ↓Lr1_5 hL, Lr1_5 hL, ↓Lr1_6 hL, Lr1_6 hL, ↓Lg1_7 hL, Lg1_7 hL, ↓Lp1_7 hL, Lp1_7 hL, ↓Lo9 hL, Lo9 hL, ↓Lr9_0 hL, Lr9_0 hL, ↓Lr9_1 hL, Lr9_1 hL, ↓Lr9_2 hL, Lr9_2 hL, ↓Lr9_3 hL, Lr9_3 hL, ↓Lr9_4 hL, Lr9_4 hL, ↓Lr9_5 hL, Lr9_5 hL, ↓Lg9_6 hL, Lg9_6 hL, ↓Lp9_6 hL, Lp9_6 hL, ↓Lg9_7 hL, Lg9_7 hL, ↓Lp9_7 hL, Lp9_7 hL, ↓Lo16 hL, Lo16 hL, ↓Lr16_0 hL, Lr16_0 hL, ↓Lr16_1 hL, Lr16_1 hL, ↓Lg16_2 hL, Lg16_2 hL, ↓Lp16_2 hL, Lp16_2 hL, ↓Lo19 hL, Lo19 hL, ↓Lr19_0 hL, Lr19_0 hL, ↓Lr19_1 hL, Lr19_1 hL, ↓Lr19_2 hL, Lr19_2 hL, ↓Lr19_3 hL, Lr19_3 hL, ↓Lr19_4 hL, Lr19_4 hL, ↓Lr19_5 hL, Lr19_5 hL, ↓Lg19_6 hL, Lg19_6 hL, ↓Lp19_6 hL, Lp19_6 hL, ↓Lg19_7 hL, Lg19_7 hL, ↓Lp19_7 hL, Lp19_7 hL, ↓Lo26 hL, Lo26 hL, ↓Lr26_0 hL, Lr26_0 hL, ↓Lr26_1 hL, Lr26_1 hL, ↓Lr26_2 hL, Lr26_2 hL, ↓Lr26_3 hL, Lr26_3 hL, ↓Lr26_4 hL, Lr26_4 hL, ↓Lr26_5 hL, Lr26_5 hL, ↓Lg26_6 hL, Lg26_6 hL, ↓Lp26_6 hL, Lp26_6 hL, ↓Lg26_7 hL, Lg26_7 hL, ↓Lp26_7 hL, Lp26_7 hL, ↓Lg26_8 hL, Lg26_8 hL, ↓Lp26_8 hL, Lp26_8 hL, ↓La2 hL, La2 hL, ↓Ls2 hL, Ls2 hL, ↓La3 hL, La3 hL, ↓Ls3 hL, Ls3 hL, ↓La4 hL, La4 hL, ↓Ls4 hL, Ls4 hL, ↓La5 hL, La5 hL, ↓Ls5 hL, Ls5 hL, ↓La6 hL, La6 hL, ↓Ls6 hL, Ls6 hL, ↓La7 hL, La7 hL, ↓Ls7 hL, Ls7 hL, ↓La8 hL, La8 hL, ↓Ls8 hL, Ls8 hL, ↓La10 hL, La10 hL, ↓Ls10 hL, Ls10 hL, ↓La11 hL, La11 hL, ↓Ls11 hL, Ls11 hL, ↓La12 hL, La12 hL, ↓Ls12 hL, Ls12 hL, ↓La13 hL, La13 hL, ↓Ls13 hL, Ls13 hL, ↓La14 hL, La14 hL, ↓Ls14 hL, Ls14 hL, ↓La15 hL, La15 hL, ↓Ls15 hL, Ls15 hL, ↓La17 hL, La17 hL, ↓Ls17 hL, Ls17 hL, ↓La18 hL, La18 hL, ↓Ls18 hL, Ls18 hL, ↓La20 hL, La20 hL, ↓Ls20 hL, Ls20 hL, ↓La21 hL, La21 hL, ↓Ls21 hL, Ls21 hL, ↓La22 hL, La22 hL, ↓Ls22 hL, Ls22 hL, ↓La23 hL, La23 hL, ↓Ls23 hL, Ls23 hL, ↓La24 hL, La24 hL, ↓Ls24 hL, Ls24 hL, ↓La25 hL, La25 hL, ↓Ls25 hL, Ls25 hL, ↓La27 hL, La27 hL, ↓Ls27 hL, Ls27 hL, ↓La28 hL, La28 hL, ↓Ls28 hL, Ls28 hL, ↓La29 hL, La29 hL, ↓Ls29 hL, Ls29 hL, ↓La30 hL, La30 hL, ↓Ls30 hL, Ls30 hL, ↓La31 hL, La31 hL, ↓Ls31 hL, Ls31 hL, ↓La32 hL, La32 hL, ↓Ls32 hL, Ls32 hL, ↓Lo0 hR, ↓Lr0_0 hR, ↓Lr0_1 hR, ↓Lr0_2 hR, ↓Lr0_3 hR, ↓Lr0_4 hR, ↓Lo1 hR, ↓Lr1_0 hR, ↓Lr1_1 hR, ↓Lr1_2 hR, ↓Lr1_3 hR, ↓Lr1_4 hR, ↓Lr1_5 hR, ↓Lr1_6 hR, ↓Lo9 hR, ↓Lr9_0 hR, ↓Lr9_1 hR, ↓Lr9_2 hR, ↓Lr9_3 hR, ↓Lr9_4 hR, ↓Lr9_5 hR, ↓Lo16 hR, ↓Lr16_0 hR, ↓Lr16_1 hR, ↓Lo19 hR, ↓Lr19_0 hR, ↓Lr19_1 hR, ↓Lr19_2 hR, ↓Lr19_3 hR, ↓Lr19_4 hR, ↓Lr19_5 hR, ↓Lo26 hR, ↓Lr26_0 hR, ↓Lr26_1 hR, ↓Lr26_2 hR, ↓Lr26_3 hR, ↓Lr26_4 hR, ↓Lr26_5 hR, ↓Lc2 hL hR hd, ↓Lc3 hL hR hd, ↓Lc4 hL hR hd, ↓Lc5 hL hR hd, ↓Lc6 hL hR hd, ↓Lc7 hL hR hd, ↓Lc8 hL hR hd, ↓Lc10 hL hR hd, ↓Lc11 hL hR hd, ↓Lc12 hL hR hd, ↓Lc13 hL hR hd, ↓Lc14 hL hR hd, ↓Lc17 hL hR hd, ↓Lc18 hL hR hd, ↓Lc20 hL hR hd, ↓Lc21 hL hR hd, ↓Lc22 hL hR hd, ↓Lc23 hL hR hd, ↓Lc24 hL hR hd, ↓Lc25 hL hR hd, ↓Lc27 hL hR hd, ↓Lc28 hL hR hd, ↓Lc29 hL hR hd, ↓Lc30 hL hR hd, ↓Lc31 hL hR hd, ↓Lc32 hL hR hd, ↓Lq0_5 hR hd, ↓Lq0_6 hR hd, ↓Lq0_7 hR hd, ↓Lq0_8 hR hd, ↓Lq1_7 hR hd, ↓Lq9_6 hR hd, ↓Lq9_7 hR hd, ↓Lq16_2 hR hd, ↓Lq19_6 hR hd, ↓Lq19_7 hR hd, ↓Lq26_6 hR hd, ↓Lq26_7 hR hd, ↓Lq26_8 hR hd]
theorem cp_Pulses (hL : LF w a) (hR : LF w r) (hd : r + 33 ≤ a ∨ a + 33 ≤ r) : f_Pulses_copyFrom w (zblk D a F) (a + 19) (r + 19) = some (zblk D a (cp2 (cp2 (cp2 (cp2 (cp2 (cp2 (upd2 (upd2 F 19 6 (D (r + 19) 6)) 19 7 (D (r + 19) 7)) 20 (D (r + 20)) 60) 21 (D (r + 21)) 60) 22 (D (r + 22)) 60) 23 (D (r + 23)) 60) 24 (D (r + 24)) 60) 25 (D (r + 25)) 60)) := by
  unfold f_Pulses_copyFrom
  simp only [↓zjpE, ↓zletE, ↓zciE, ↓zcvE, ↓zchkE, ↓reduceIte, zciE, zcvE, nI_1, ↓Lo0 hL, Lo0 hL, ↓Lr0_0 hL, Lr0_0 hL, ↓Lr0_1 hL, Lr0_1 hL, ↓Lr0_2 hL, Lr0_2 hL, ↓Lr0_3 hL, Lr0_3 hL, ↓Lr0_4 hL, Lr0_4 hL, ↓Lg0_5 hL, Lg0_5 hL, ↓Lp0_5 hL, Lp0_5 hL, ↓Lg0_6 hL, Lg0_6 hL, ↓Lp0_6 hL, Lp0_6 hL, ↓Lg0_7 hL, Lg0_7 hL, ↓Lp0_7 hL, Lp0_7 hL, ↓Lg0_8 hL, Lg0_8 hL, ↓Lp0_8 hL, Lp0_8 hL, ↓Lo1 hL, Lo1 hL, ↓Lr1_0 hL, Lr1_0 hL, ↓Lr1_1 hL, Lr1_1 hL, ↓Lr1_2 hL, Lr1_2 hL, ↓Lr1_3 hL, Lr1_3 hL, ↓Lr1_4 hL, Lr1_4 hL, ↓Lr1_5 hL, Lr1_5 hL, ↓Lr1_6 hL, Lr1_6 hL, ↓Lg1_7 hL, Lg1_7 hL, ↓Lp1_7 hL, Lp1_7 hL, ↓Lo9 hL, Lo9 hL, ↓Lr9_0 hL, Lr9_0 hL, ↓Lr9_1 hL, Lr9_1 hL, ↓Lr9_2 hL, Lr9_2 hL, ↓Lr9_3 hL, Lr9_3 hL, ↓Lr9_4 hL, Lr9_4 hL, ↓Lr9_5 hL, Lr9_5 hL, ↓Lg9_6 hL, Lg9_6 hL, ↓Lp9_6 hL, Lp9_6 hL, ↓Lg9_7 hL, Lg9_7 hL, ↓Lp9_7 hL, Lp9_7 hL, ↓Lo16 hL, Lo16 hL, ↓Lr16_0 hL, Lr16_0 hL, ↓Lr16_1 hL, Lr16_1 hL, ↓Lg16_2 hL, Lg16_2 hL, ↓Lp16_2 hL, Lp16_2 hL, ↓Lo19 hL, Lo19 hL, ↓Lr19_0 hL, Lr19_0 hL, ↓Lr19_1 hL, Lr19_1 hL, ↓Lr19_2 hL, Lr19_2 hL, ↓Lr19_3 hL, Lr19_3 hL, ↓Lr19_4 hL, Lr19_4 hL, ↓Lr19_5 hL, Lr19_5 hL, ↓Lg19_6 hL, Lg19_6 hL, ↓Lp19_6 hL, Lp19_6 hL, ↓Lg19_7 hL, Lg19_7 hL, ↓Lp19_7 hL, Lp19_7 hL, ↓Lo26 hL, Lo26 hL, ↓Lr26_0 hL, Lr26_0 hL, ↓Lr26_1 hL, Lr26_1 hL, ↓Lr26_2 hL, Lr26_2 hL, ↓Lr26_3 hL, Lr26_3 hL, ↓Lr26_4 hL, Lr26_4 hL, ↓Lr26_5 hL, Lr26_5 hL, ↓Lg26_6 hL, Lg26_6 hL, ↓Lp26_6 hL, Lp26_6 hL, ↓Lg26_7 hL, Lg26_7 hL, ↓Lp26_7 hL, Lp26_7 hL, ↓Lg26_8 hL, Lg26_8 hL, ↓Lp26_8 hL, Lp26_8 hL, ↓La2 hL, La2 hL, ↓Ls2 hL, Ls2 hL, ↓La3 hL, La3 hL, ↓Ls3 hL, Ls3 hL, ↓La4 hL, La4 hL, ↓Ls4 hL, Ls4 hL, ↓La5 hL, La5 hL, ↓Ls5 hL, Ls5 hL, ↓La6 hL, La6 hL, ↓Ls6 hL, Ls6 hL, ↓La7 hL, La7 hL, ↓Ls7 hL, Ls7 hL, ↓La8 hL, La8 hL, ↓Ls8 hL, Ls8 hL, ↓La10 hL, La10 hL, ↓Ls10 hL, Ls10 hL, ↓La11 hL, La11 hL, ↓Ls11 hL, Ls11 hL, ↓La12 hL, La12 hL, ↓Ls12 hL, Ls12 hL, ↓La13 hL, La13 hL, ↓Ls13 hL, Ls13 hL, ↓La14 hL, La14 hL, ↓Ls14 hL, Ls14 hL, ↓La15 hL, La15 hL, ↓Ls15 hL, Ls15 hL, ↓La17 hL, La17 hL, ↓Ls17 hL, Ls17 hL, ↓La18 hL, La18 hL, ↓Ls18 hL, Ls18 hL, ↓La20 hL, La20 hL, ↓Ls20 hL, Ls20 hL, ↓La21 hL, La21 hL, ↓Ls21 hL, Ls21 hL, ↓La22 hL, La22 hL, ↓Ls22 hL, Ls22 hL, ↓La23 hL, La23 hL, ↓Ls23 hL, Ls23 hL, ↓La24 hL, La24 hL, ↓Ls24 hL, Ls24 hL, ↓La25 hL, La25 hL, ↓Ls25 hL, Ls25 hL, ↓La27 hL, La27 hL, ↓Ls27 hL, Ls27 hL, ↓La28 hL, La28 hL, ↓Ls28 hL, Ls28 hL, ↓La29 hL, La29 hL, ↓Ls29 hL, Ls29 hL, ↓La30 hL, La30 hL, ↓Ls30 hL, Ls30 hL, ↓La31 hL, La31 hL, ↓Ls31 hL, Ls31 hL, ↓La32 hL, La32 hL, ↓Ls32 hL, Ls32 hL, ↓Lo0 hR, ↓Lr0_0 hR, ↓Lr0_1 hR, ↓Lr0_2 hR, ↓Lr0_3 hR, ↓Lr0_4 hR, ↓Lo1 hR, ↓Lr1_0 hR, ↓Lr1_1 hR, ↓Lr1_2 hR, ↓Lr1_3 hR, ↓Lr1_4 hR, ↓Lr1_5 hR, ↓Lr1_6 hR, ↓Lo9 hR, ↓Lr9_0 hR, ↓Lr9_1 hR, ↓Lr9_2 hR, ↓Lr9_3 hR, ↓Lr9_4 hR, ↓Lr9_5 hR, ↓Lo16 hR, ↓Lr16_0 hR, ↓Lr16_1 hR, ↓Lo19 hR, ↓Lr19_0 hR, ↓Lr19_1 hR, ↓Lr19_2 hR, ↓Lr19_3 hR, ↓Lr19_4 hR, ↓Lr19_5 hR, ↓Lo26 hR, ↓Lr26_0 hR, ↓Lr26_1 hR, ↓Lr26_2 hR, ↓Lr26_3 hR, ↓Lr26_4 hR, ↓Lr26_5 hR, ↓Lc2 hL hR hd, ↓Lc3 hL hR hd, ↓Lc4 hL hR hd, ↓Lc5 hL hR hd, ↓Lc6 hL hR hd, ↓Lc7 hL hR hd, ↓Lc8 hL hR hd, ↓Lc10 hL hR hd, ↓Lc11 hL hR hd, ↓Lc12 hL hR hd, ↓Lc13 hL hR hd, ↓Lc14 hL hR hd, ↓Lc17 hL hR hd, ↓Lc18 hL hR hd, ↓Lc20 hL hR hd, ↓Lc21 hL hR hd, ↓Lc22 hL hR hd, ↓Lc23 hL hR hd, ↓Lc24 hL hR hd, ↓Lc25 hL hR hd, ↓Lc27 hL hR hd, ↓Lc28 hL hR hd, ↓Lc29 hL hR hd, ↓Lc30 hL hR hd, ↓Lc31 hL hR hd, ↓Lc32 hL hR hd, ↓Lq0_5 hR hd, ↓Lq0_6 hR hd, ↓Lq0_7 hR hd, ↓Lq0_8 hR hd, ↓Lq1_7 hR hd, ↓Lq9_6 hR hd, ↓Lq9_7 hR hd, ↓Lq16_2 hR hd, ↓Lq19_6 hR hd, ↓Lq19_7 hR hd, ↓Lq26_6 hR hd, ↓Lq26_7 hR hd, ↓Lq26_8 hR hd]
theorem cp_Ears (hL : LF w a) (hR : LF w r) (hd : r + 33 ≤ a ∨ a + 33 ≤ r) : f_Ears_copyFrom w (zblk D a F) (a + 26) (r + 26) = some (zblk D a (cp2 (cp2 (cp2 (cp2 (cp2 (cp2 (upd2 (upd2 (upd2 F 26 6 (D (r + 26) 6)) 26 7 (D (r + 26) 7)) 26 8 (D (r + 26) 8)) 27 (D (r + 27)) 16) 28 (D (r + 28)) 16) 29 (D (r + 29)) 16) 30 (D (r + 30)) 16) 31 (D (r + 31)) 16) 32 (D (r + 32)) 16)) := by
  unfold f_Ears_copyFrom
  simp only [↓zjpE, ↓zletE, ↓zciE, ↓zcvE, ↓zchkE, ↓reduceIte, zciE, zcvE, nI_1, ↓Lo0 hL, Lo0 hL, ↓Lr0_0 hL, Lr0_0 hL, ↓Lr0_1 hL, Lr0_1 hL, ↓Lr0_2 hL, Lr0_2 hL, ↓Lr0_3 hL, Lr0_3 hL, ↓Lr0_4 hL, Lr0_4 hL, ↓Lg0_5 hL, Lg0_5 hL, ↓Lp0_5 hL, Lp0_5 hL, ↓Lg0_6 hL, Lg0_6 hL, ↓Lp0_6 hL, Lp0_6 hL, ↓Lg0_7 hL, Lg0_7 hL, ↓Lp0_7 hL, Lp0_7 hL, ↓Lg0_8 hL, Lg0_8 hL, ↓Lp0_8 hL, Lp0_8 hL, ↓Lo1 hL, Lo1 hL, ↓Lr1_0 hL, Lr1_0 hL, ↓Lr1_1 hL, Lr1_1 hL, ↓Lr1_2 hL, Lr1_2 hL, ↓Lr1_3 hL, Lr1_3 hL, ↓Lr1_4 hL, Lr1_4 hL, ↓Lr1_5 hL, Lr1_5 hL, ↓Lr1_6 hL, Lr1_6 hL, ↓Lg1_7 hL, Lg1_7 hL, ↓Lp1_7 hL, Lp1_7 hL, ↓Lo9 hL, Lo9 hL, ↓Lr9_0 hL, Lr9_0 hL, ↓Lr9_1 hL, Lr9_1 hL, ↓Lr9_2 hL, Lr9_2 hL, ↓Lr9_3 hL, Lr9_3 hL, ↓Lr9_4 hL, Lr9_4 hL, ↓Lr9_5 hL, Lr9_5 hL, ↓Lg9_6 hL, Lg9_6 hL, ↓Lp9_6 hL, Lp9_6 hL, ↓Lg9_7 hL, Lg9_7 hL, ↓Lp9_7 hL, Lp9_7 hL, ↓Lo16 hL, Lo16 hL, ↓Lr16_0 hL, Lr16_0 hL, ↓Lr16_1 hL, Lr16_1 hL, ↓Lg16_2 hL, Lg16_2 hL, ↓Lp16_2 hL, Lp16_2 hL, ↓Lo19 hL, Lo19 hL, ↓Lr19_0 hL, Lr19_0 hL, ↓Lr19_1 hL, Lr19_1 hL, ↓Lr19_2 hL, Lr19_2 hL, ↓Lr19_3 hL, Lr19_3 hL, ↓Lr19_4 hL, Lr19_4 hL, ↓Lr19_5 hL, Lr19_5 hL, ↓Lg19_6 hL, Lg19_6 hL, ↓Lp19_6 hL, Lp19_6 hL, ↓Lg19_7 hL, Lg19_7 hL, ↓Lp19_7 hL, Lp19_7 hL, ↓Lo26 hL, Lo26 hL, ↓Lr26_0 hL, Lr26_0 hL, ↓Lr26_1 hL, Lr26_1 hL, ↓Lr26_2 hL, Lr26_2 hL, ↓Lr26_3 hL, Lr26_3 hL, ↓Lr26_4 hL, Lr26_4 hL, ↓Lr26_5 hL, Lr26_5 hL, ↓Lg26_6 hL, Lg26_6 hL, ↓Lp26_6 hL, Lp26_6 hL, ↓Lg26_7 hL, Lg26_7 hL, ↓Lp26_7 hL, Lp26_7 hL, ↓Lg26_8 hL, Lg26_8 hL, ↓Lp26_8 hL, Lp26_8 hL, ↓La2 hL, La2 hL, ↓Ls2 hL, Ls2 hL, ↓La3 hL, La3 hL, ↓Ls3 hL, Ls3 hL, ↓La4 hL, La4 hL, ↓Ls4 hL, Ls4 hL, ↓La5 hL, La5 hL, ↓Ls5 hL, Ls5 hL, ↓La6 hL, La6 hL, ↓Ls6 hL, Ls6 hL, ↓La7 hL, La7 hL, ↓Ls7 hL, Ls7 hL, ↓La8 hL, La8 hL, ↓Ls8 hL, Ls8 hL, ↓La10 hL, La10 hL, ↓Ls10 hL, Ls10 hL, ↓La11 hL, La11 hL, ↓Ls11 hL, Ls11 hL, ↓La12 hL, La12 hL, ↓Ls12 hL, Ls12 hL, ↓La13 hL, La13 hL, ↓Ls13 hL, Ls13 hL, ↓La14 hL, La14 hL, ↓Ls14 hL, Ls14 hL, ↓La15 hL, La15 hL, ↓Ls15 hL, Ls15 hL, ↓La17 hL, La17 hL, ↓Ls17 hL, Ls17 hL, ↓La18 hL, La18 hL, ↓Ls18 hL, Ls18 hL, ↓La20 hL, La20 hL, ↓Ls20 hL, Ls20 hL, ↓La21 hL, La21 hL, ↓Ls21 hL, Ls21 hL, ↓La22 hL, La22 hL, ↓Ls22 hL, Ls22 hL, ↓La23 hL, La23 hL, ↓Ls23 hL, Ls23 hL, ↓La24 hL, La24 hL, ↓Ls24 hL, Ls24 hL, ↓La25 hL, La25 hL, ↓Ls25 hL, Ls25 hL, ↓La27 hL, La27 hL, ↓Ls27 hL, Ls27 hL, ↓La28 hL, La28 hL, ↓Ls28 hL, Ls28 hL, ↓La29 hL, La29 hL, ↓Ls29 hL, Ls29 hL, ↓La30 hL, La30 hL, ↓Ls30 hL, Ls30 hL, ↓La31 hL, La31 hL, ↓Ls31 hL, Ls31 hL, ↓La32 hL, La32 hL, ↓Ls32 hL, Ls32 hL, ↓Lo0 hR, ↓Lr0_0 hR, ↓Lr0_1 hR, ↓Lr0_2 hR, ↓Lr0_3 hR, ↓Lr0_4 hR, ↓Lo1 hR, ↓Lr1_0 hR, ↓Lr1_1 hR, ↓Lr1_2 hR, ↓Lr1_3 hR, ↓Lr1_4 hR, ↓Lr1_5 hR, ↓Lr1_6 hR, ↓Lo9 hR, ↓Lr9_0 hR, ↓Lr9_1 hR, ↓Lr9_2 hR, ↓Lr9_3 hR, ↓Lr9_4 hR, ↓Lr9_5 hR, ↓Lo16 hR, ↓Lr16_0 hR, ↓Lr16_1 hR, ↓Lo19 hR, ↓Lr19_0 hR, ↓Lr19_1 hR, ↓Lr19_2 hR, ↓Lr19_3 hR, ↓Lr19_4 hR, ↓Lr19_5 hR, ↓Lo26 hR, ↓Lr26_0 hR, ↓Lr26_1 hR, ↓Lr26_2 hR, ↓Lr26_3 hR, ↓Lr26_4 hR, ↓Lr26_5 hR, ↓Lc2 hL hR hd, ↓Lc3 hL hR hd, ↓Lc4 hL hR hd, ↓Lc5 hL hR hd, ↓Lc6 hL hR hd, ↓Lc7 hL hR hd, ↓Lc8 hL hR hd, ↓Lc10 hL hR hd, ↓Lc11 hL hR hd, ↓Lc12 hL hR hd, ↓Lc13 hL hR hd, ↓Lc14 hL hR hd, ↓Lc17 hL hR hd, ↓Lc18 hL hR hd, ↓Lc20 hL hR hd, ↓Lc21 hL hR hd, ↓Lc22 hL hR hd, ↓Lc23 hL hR hd, ↓Lc24 hL hR hd, ↓Lc25 hL hR hd, ↓Lc27 hL hR hd, ↓Lc28 hL hR hd, ↓Lc29 hL hR hd, ↓Lc30 hL hR hd, ↓Lc31 hL hR hd, ↓Lc32 hL hR hd, ↓Lq0_5 hR hd, ↓Lq0_6 hR hd, ↓Lq0_7 hR hd, ↓Lq0_8 hR hd, ↓Lq1_7 hR hd, ↓Lq9_6 hR hd, ↓Lq9_7 hR hd, ↓Lq16_2 hR hd, ↓Lq19_6 hR hd, ↓Lq19_7 hR hd, ↓Lq26_6 hR hd, ↓Lq26_7 hR hd, ↓Lq26_8 hR hd]
theorem copyF0 (hL : LF w a) (hR : LF w r) (hd : r + 33 ≤ a ∨ a + 33 ≤ r) : f_Field_copyFrom w (zblk D a F) a r = some (zblk D a (upd2 (upd2 (upd2 (upd2 (cp2 (cp2 (cp2 (cp2 (cp2 (cp2 (upd2 (upd2 (upd2 (cp2 (cp2 (cp2 (cp2 (cp2 (cp2 (upd2 (upd2 (cp2 (cp2 (upd2 (cp2 (cp2 (cp2 (cp2 (cp2 (upd2 (upd2 (cp2 (cp2 (cp2 (cp2 (cp2 (cp2 (cp2 (upd2 F 1 7 (D (r + 1) 7)) 2 (D (r + 2)) 4) 3 (D (r + 3)) 4) 4 (D (r + 4)) 4) 5 (D (r + 5)) 4) 6 (D (r + 6)) 4) 7 (D (r + 7)) 4) 8 (D (r + 8)) 4) 9 6 (D (r + 9) 6)) 9 7 (D (r + 9) 7)) 10 (D (r + 10)) 4) 11 (D (r + 11)) 4) 12 (D (r + 12)) 4) 13 (D (r + 13)) 4) 14 (D (r + 14)) 4) 16 2 (D (r + 16) 2)) 17 (D (r + 17)) 3) 18 (D (r + 18)) 3) 19 6 (D (r + 19) 6)) 19 7 (D (r + 19) 7)) 20 (D (r + 20)) 60) 21 (D (r + 21)) 60) 22 (D (r + 22)) 60) 23 (D (r + 23)) 60) 24 (D (r + 24)) 60) 25 (D (r + 25)) 60) 26 6 (D (r + 26) 6)) 26 7 (D (r + 26) 7)) 26 8 (D (r + 26) 8)) 27 (D (r + 27)) 16) 28 (D (r + 28)) 16) 29 (D (r + 29)) 16) 30 (D (r + 30)) 16) 31 (D (r + 31)) 16) 32 (D (r + 32)) 16) 0 5 (D r 5)) 0 6 (D r 6)) 0 7 (D r 7)) 0 8 (D r 8))) := by
  unfold f_Field_copyFrom
  simp only [↓zjpE, ↓zletE, ↓zciE, ↓zcvE, ↓zchkE, ↓reduceIte, zciE, zcvE, nI_1, ↓Lo0 hL, Lo0 hL, ↓Lr0_0 hL, Lr0_0 hL, ↓Lr0_1 hL, Lr0_1 hL, ↓Lr0_2 hL, Lr0_2 hL, ↓Lr0_3 hL, Lr0_3 hL, ↓Lr0_4 hL, Lr0_4 hL, ↓Lg0_5 hL, Lg0_5 hL, ↓Lp0_5 hL, Lp0_5 hL, ↓Lg0_6 hL, Lg0_6 hL, ↓Lp0_6 hL, Lp0_6 hL, ↓Lg0_7 hL, Lg0_7 hL, ↓Lp0_7 hL, Lp0_7 hL, ↓Lg0_8 hL, Lg0_8 hL, ↓Lp0_8 hL, Lp0_8 hL, ↓Lo1 hL, Lo1 hL, ↓Lr1_0 hL, Lr1_0 hL, ↓Lr1_1 hL, Lr1_1 hL, ↓Lr1_2 hL, Lr1_2 hL, ↓Lr1_3 hL, Lr1_3 hL, ↓Lr1_4 hL, Lr1_4 hL, ↓Lr1_5 hL, Lr1_5 hL, ↓Lr1_6 hL, Lr1_6 hL, ↓Lg1_7 hL, Lg1_7 hL, ↓Lp1_7 hL, Lp1_7 hL, ↓Lo9 hL, Lo9 hL, ↓Lr9_0 hL, Lr9_0 hL, ↓Lr9_1 hL, Lr9_1 hL, ↓Lr9_2 hL, Lr9_2 hL, ↓Lr9_3 hL, Lr9_3 hL, ↓Lr9_4 hL, Lr9_4 hL, ↓Lr9_5 hL, Lr9_5 hL, ↓Lg9_6 hL, Lg9_6 hL, ↓Lp9_6 hL, Lp9_6 hL, ↓Lg9_7 hL, Lg9_7 hL, ↓Lp9_7 hL, Lp9_7 hL, ↓Lo16 hL, Lo16 hL, ↓Lr16_0 hL, Lr16_0 hL, ↓Lr16_1 hL, Lr16_1 hL, ↓Lg16_2 hL, Lg16_2 hL, ↓Lp16_2 hL, Lp16_2 hL, ↓Lo19 hL, Lo19 hL, ↓Lr19_0 hL, Lr19_0 hL, ↓Lr19_1 hL, Lr19_1 hL, ↓Lr19_2 hL, Lr19_2 hL, ↓Lr19_3 hL, Lr19_3 hL, ↓Lr19_4 hL, Lr19_4 hL, ↓Lr19_5 hL, Lr19_5 hL, ↓Lg19_6 hL, Lg19_6 hL, ↓Lp19_6 hL, Lp19_6 hL, ↓Lg19_7 hL, Lg19_7 hL, ↓Lp19_7 hL, Lp19_7 hL, ↓Lo26 hL, Lo26 hL, ↓Lr26_0 hL, Lr26_0 hL, ↓Lr26_1 hL, Lr26_1 hL, ↓Lr26_2 hL, Lr26_2 hL, ↓Lr26_3 hL, Lr26_3 hL, ↓Lr26_4 hL, Lr26_4 hL, ↓Lr26_5 hL, Lr26_5 hL, ↓Lg26_6 hL, Lg26_6 hL, ↓Lp26_6 hL, Lp26_6 hL, ↓Lg26_7 hL, Lg26_7 hL, ↓Lp26_7 hL, Lp26_7 hL, ↓Lg26_8 hL, Lg26_8 hL, ↓Lp26_8 hL, Lp26_8 hL, ↓La2 hL, La2 hL, ↓Ls2 hL, Ls2 hL, ↓La3 hL, La3 hL, ↓Ls3 hL, Ls3 hL, ↓La4 hL, La4 hL, ↓Ls4 hL, Ls4 hL, ↓La5 hL, La5 hL, ↓Ls5 hL, Ls5 hL, ↓La6 hL, La6 hL, ↓Ls6 hL, Ls6 hL, ↓La7 hL, La7 hL, ↓Ls7 hL, Ls7 hL, ↓La8 hL, La8 hL, ↓Ls8 hL, Ls8 hL, ↓La10 hL, La10 hL, ↓Ls10 hL, Ls10 hL, ↓La11 hL, La11 hL, ↓Ls11 hL, Ls11 hL, ↓La12 hL, La12 hL, ↓Ls12 hL, Ls12 hL, ↓La13 hL, La13 hL, ↓Ls13 hL, Ls13 hL, ↓La14 hL, La14 hL, ↓Ls14 hL, Ls14 hL, ↓La15 hL, La15 hL, ↓Ls15 hL, Ls15 hL, ↓La17 hL, La17 hL, ↓Ls17 hL, Ls17 hL, ↓La18 hL, La18 hL, ↓Ls18 hL, Ls18 hL, ↓La20 hL, La20 hL, ↓Ls20 hL, Ls20 hL, ↓La21 hL, La21 hL, ↓Ls21 hL, Ls21 hL, ↓La22 hL, La22 hL, ↓Ls22 hL, Ls22 hL, ↓La23 hL, La23 hL, ↓Ls23 hL, Ls23 hL, ↓La24 hL, La24 hL, ↓Ls24 hL, Ls24 hL, ↓La25 hL, La25 hL, ↓Ls25 hL, Ls25 hL, ↓La27 hL, La27 hL, ↓Ls27 hL, Ls27 hL, ↓La28 hL, La28 hL, ↓Ls28 hL, Ls28 hL, ↓La29 hL, La29 hL, ↓Ls29 hL, Ls29 hL, ↓La30 hL, La30 hL, ↓Ls30 hL, Ls30 hL, ↓La31 hL, La31 hL, ↓Ls31 hL, Ls31 hL, ↓La32 hL, La32 hL, ↓Ls32 hL, Ls32 hL, ↓Lo0 hR, ↓Lr0_0 hR, ↓Lr0_1 hR, ↓Lr0_2 hR, ↓Lr0_3 hR, ↓Lr0_4 hR, ↓Lo1 hR, ↓Lr1_0 hR, ↓Lr1_1 hR, ↓Lr1_2 hR, ↓Lr1_3 hR, ↓Lr1_4 hR, ↓Lr1_5 hR, ↓Lr1_6 hR, ↓Lo9 hR, ↓Lr9_0 hR, ↓Lr9_1 hR, ↓Lr9_2 hR, ↓Lr9_3 hR, ↓Lr9_4 hR, ↓Lr9_5 hR, ↓Lo16 hR, ↓Lr16_0 hR, ↓Lr16_1 hR, ↓Lo19 hR, ↓Lr19_0 hR, ↓Lr19_1 hR, ↓Lr19_2 hR, ↓Lr19_3 hR, ↓Lr19_4 hR, ↓Lr19_5 hR, ↓Lo26 hR, ↓Lr26_0 hR, ↓Lr26_1 hR, ↓Lr26_2 hR, ↓Lr26_3 hR, ↓Lr26_4 hR, ↓Lr26_5 hR, ↓Lc2 hL hR hd, ↓Lc3 hL hR hd, ↓Lc4 hL hR hd, ↓Lc5 hL hR hd, ↓Lc6 hL hR hd, ↓Lc7 hL hR hd, ↓Lc8 hL hR hd, ↓Lc10 hL hR hd, ↓Lc11 hL hR hd, ↓Lc12 hL hR hd, ↓Lc13 hL hR hd, ↓Lc14 hL hR hd, ↓Lc17 hL hR hd, ↓Lc18 hL hR hd, ↓Lc20 hL hR hd, ↓Lc21 hL hR hd, ↓Lc22 hL hR hd, ↓Lc23 hL hR hd, ↓Lc24 hL hR hd, ↓Lc25 hL hR hd, ↓Lc27 hL hR hd, ↓Lc28 hL hR hd, ↓Lc29 hL hR hd, ↓Lc30 hL hR hd, ↓Lc31 hL hR hd, ↓Lc32 hL hR hd, ↓Lq0_5 hR hd, ↓Lq0_6 hR hd, ↓Lq0_7 hR hd, ↓Lq0_8 hR hd, ↓Lq1_7 hR hd, ↓Lq9_6 hR hd, ↓Lq9_7 hR hd, ↓Lq16_2 hR hd, ↓Lq19_6 hR hd, ↓Lq19_7 hR hd, ↓Lq26_6 hR hd, ↓Lq26_7 hR hd, ↓Lq26_8 hR hd, ↓zcvX (cp_Sirens hL hR hd), ↓zcvX (cp_Hearers hL hR hd), ↓zcvX (cp_Walls hL hR hd), ↓zcvX (cp_Pulses hL hR hd), ↓zcvX (cp_Ears hL hR hd)]
theorem copyF (hL : LF w a) (hR : LF w r) (hd : r + 33 ≤ a ∨ a + 33 ≤ r) : ∃ F', f_Field_copyFrom w (zblk D a F) a r = some (zblk D a F') ∧ (∀ o j, Cp o j → F' o j = D (r + o) j) ∧ F' 15 = F 15 := by
  refine ⟨_, copyF0 hL hR hd, ?_, ?_⟩
  · intro o j h
    unfold Cp at h
    rcases h with ⟨rfl, h1, h2⟩ | ⟨rfl, rfl⟩ | ⟨h1, h2, h3⟩ | ⟨rfl, h1, h2⟩ | ⟨h1, h2, h3⟩ | ⟨rfl, rfl⟩ | ⟨h1, h2, h3⟩ | ⟨rfl, h1, h2⟩ | ⟨h1, h2, h3⟩ | ⟨rfl, h1, h2⟩ | ⟨h1, h2, h3⟩
    · have hh : j = 5 ∨ j = 6 ∨ j = 7 ∨ j = 8 := by omega
      rcases hh with rfl | rfl | rfl | rfl <;> simp (disch := omega) only [upd2_s, upd2_o, upd2_i, cp2_s, cp2_o, Nat.add_zero]
    · simp (disch := omega) only [upd2_s, upd2_o, upd2_i, cp2_s, cp2_o, Nat.add_zero]
    · have hh : o = 2 ∨ o = 3 ∨ o = 4 ∨ o = 5 ∨ o = 6 ∨ o = 7 ∨ o = 8 := by omega
      rcases hh with rfl | rfl | rfl | rfl | rfl | rfl | rfl <;> simp (disch := omega) only [upd2_s, upd2_o, upd2_i, cp2_s, cp2_o, Nat.add_zero]
    · have hh : j = 6 ∨ j = 7 := by omega
      rcases hh with rfl | rfl <;> simp (disch := omega) only [upd2_s, upd2_o, upd2_i, cp2_s, cp2_o, Nat.add_zero]
    · have hh : o = 10 ∨ o = 11 ∨ o = 12 ∨ o = 13 ∨ o = 14 := by omega
      rcases hh with rfl | rfl | rfl | rfl | rfl <;> simp (disch := omega) only [upd2_s, upd2_o, upd2_i, cp2_s, cp2_o, Nat.add_zero]
    · simp (disch := omega) only [upd2_s, upd2_o, upd2_i, cp2_s, cp2_o, Nat.add_zero]
    · have hh : o = 17 ∨ o = 18 := by omega
      rcases hh with rfl | rfl <;> simp (disch := omega) only [upd2_s, upd2_o, upd2_i, cp2_s, cp2_o, Nat.add_zero]
    · have hh : j = 6 ∨ j = 7 := by omega
      rcases hh with rfl | rfl <;> simp (disch := omega) only [upd2_s, upd2_o, upd2_i, cp2_s, cp2_o, Nat.add_zero]
    · have hh : o = 20 ∨ o = 21 ∨ o = 22 ∨ o = 23 ∨ o = 24 ∨ o = 25 := by omega
      rcases hh with rfl | rfl | rfl | rfl | rfl | rfl <;> simp (disch := omega) only [upd2_s, upd2_o, upd2_i, cp2_s, cp2_o, Nat.add_zero]
    · have hh : j = 6 ∨ j = 7 ∨ j = 8 := by omega
      rcases hh with rfl | rfl | rfl <;> simp (disch := omega) only [upd2_s, upd2_o, upd2_i, cp2_s, cp2_o, Nat.add_zero]
    · have hh : o = 27 ∨ o = 28 ∨ o = 29 ∨ o = 30 ∨ o = 31 ∨ o = 32 := by omega
      rcases hh with rfl | rfl | rfl | rfl | rfl | rfl <;> simp (disch := omega) only [upd2_s, upd2_o, upd2_i, cp2_s, cp2_o, Nat.add_zero]
  · simp (disch := omega) only [upd2_s, upd2_o, upd2_i, cp2_s, cp2_o, Nat.add_zero]
end P50
