/-! PURE: the text's readers, on both sides. -/
def rdO (ch : Nat → Nat) (n lo hi p : Nat) : Option Nat × Nat := if p < n ∧ 48 ≤ ch p ∧ ch p ≤ 57 ∧ lo ≤ ch p - 48 ∧ ch p - 48 ≤ hi then (some (ch p - 48), p + 1) else (none, p)
def rdT (ch : Nat → Nat) (n lo hi p : Nat) : Option Nat × Nat := if p < n ∧ 48 ≤ ch p ∧ ch p ≤ 57 ∧ lo / 10 ≤ ch p - 48 ∧ ch p - 48 ≤ hi / 10 then (if p + 1 < n ∧ 48 ≤ ch (p + 1) ∧ ch (p + 1) ≤ 57 ∧ lo ≤ 10 * (ch p - 48) + (ch (p + 1) - 48) ∧ 10 * (ch p - 48) + (ch (p + 1) - 48) ≤ hi then (some (10 * (ch p - 48) + (ch (p + 1) - 48)), p + 2) else (none, p + 1)) else (none, p)
def rdE (ch : Nat → Nat) (n x y p : Nat) : Option Nat × Nat := if p < n ∧ (ch p = x ∨ ch p = y) then (some (ch p), p + 1) else (none, p)
def TX (D : zD) (s n : Nat) (ch : Nat → Nat) : Prop := n ≤ 120 ∧ D (s + 1) 1 = nI n ∧ ∀ i, i < n → ch i < 256 ∧ D (s + 2) i = nI (ch i)
def MX (D : zD) (s n : Nat) (ch : Nat → Nat) : Prop := n ≤ 120 ∧ D (s + 634) 2 = nI n ∧ ∀ i, i < n → ch i < 256 ∧ D (s + 635) i = nI (ch i)
def tD (D : zD) (s p : Nat) (l : Int32) (N : Nat → Int32) : zD := zset (zup (zup D (s + 1) 2 (nI p)) (s + 1) 3 l) (s + 3) N
def mD (D : zD) (s q o : Nat) (V : Nat → Int32) : zD := zset (zup (zup D (s + 634) 9 (nI q)) (s + 634) 10 (nI o)) (s + 637) V
section P69
variable {β : Type} {w : zW} {D : zD} {s n p q o lo hi k v : Nat} {l : Int32} {N V : Nat → Int32} {ch : Nat → Nat}
theorem tD_1 : tD D s p l N (s + 1) 1 = D (s + 1) 1 := by unfold tD; rw [zset_ne (by omega), zup_aj (by decide), zup_aj (by decide)]
theorem tD_2 : tD D s p l N (s + 1) 2 = nI p := by unfold tD; rw [zset_ne (by omega), zup_aj (by decide), zup_at]
theorem tD_3 : tD D s p l N (s + 1) 3 = l := by unfold tD; rw [zset_ne (by omega), zup_at]
theorem tD_c : tD D s p l N (s + 2) = D (s + 2) := by unfold tD; rw [zset_ne (by omega), zup_ne (by omega), zup_ne (by omega)]
theorem tD_n : tD D s p l N (s + 3) = N := by unfold tD; rw [zset_at]
theorem tD_o {r : Nat} (h1 : r ≠ s + 1) (h3 : r ≠ s + 3) : tD D s p l N r = D r := by unfold tD; rw [zset_ne h3, zup_ne h1, zup_ne h1]
theorem tD_w2 : zup (tD D s p l N) (s + 1) 2 (nI q) = tD D s q l N := by
  funext r j
  by_cases h1 : r = s + 1
  · subst h1
    unfold tD
    by_cases h2 : j = 2
    · subst h2; rw [zup_at, zset_ne (by omega), zup_aj (by decide), zup_at]
    · rw [zup_aj h2, zset_ne (by omega), zset_ne (by omega)]
      by_cases h3 : j = 3
      · subst h3; rw [zup_at, zup_at]
      · rw [zup_aj h3, zup_aj h3, zup_aj h2, zup_aj h2]
  · rw [zup_ne h1]
    unfold tD
    by_cases h2 : r = s + 3
    · subst h2; rw [zset_at, zset_at]
    · rw [zset_ne h2, zset_ne h2, zup_ne h1, zup_ne h1, zup_ne h1, zup_ne h1]
theorem tD_w3 {l' : Int32} : zup (tD D s p l N) (s + 1) 3 l' = tD D s p l' N := by
  funext r j
  by_cases h1 : r = s + 1
  · subst h1
    unfold tD
    by_cases h2 : j = 3
    · subst h2; rw [zup_at, zset_ne (by omega), zup_at]
    · rw [zup_aj h2, zset_ne (by omega), zset_ne (by omega), zup_aj h2, zup_aj h2]
  · rw [zup_ne h1]
    unfold tD
    by_cases h2 : r = s + 3
    · subst h2; rw [zset_at, zset_at]
    · rw [zset_ne h2, zset_ne h2, zup_ne h1, zup_ne h1, zup_ne h1, zup_ne h1]
theorem tD_wn {i : Nat} {x : Int32} : zup (tD D s p l N) (s + 3) i x = tD D s p l (upd N i x) := by unfold tD; rw [zup_zset]
theorem mD_2 : mD D s q o V (s + 634) 2 = D (s + 634) 2 := by unfold mD; rw [zset_ne (by omega), zup_aj (by decide), zup_aj (by decide)]
theorem mD_9 : mD D s q o V (s + 634) 9 = nI q := by unfold mD; rw [zset_ne (by omega), zup_aj (by decide), zup_at]
theorem mD_10 : mD D s q o V (s + 634) 10 = nI o := by unfold mD; rw [zset_ne (by omega), zup_at]
theorem mD_x : mD D s q o V (s + 635) = D (s + 635) := by unfold mD; rw [zset_ne (by omega), zup_ne (by omega), zup_ne (by omega)]
theorem mD_t : mD D s q o V (s + 637) = V := by unfold mD; rw [zset_at]
theorem mD_o {r : Nat} (h1 : r ≠ s + 634) (h3 : r ≠ s + 637) : mD D s q o V r = D r := by unfold mD; rw [zset_ne h3, zup_ne h1, zup_ne h1]
theorem mD_w9 {q' : Nat} : zup (mD D s q o V) (s + 634) 9 (nI q') = mD D s q' o V := by
  funext r j
  by_cases h1 : r = s + 634
  · subst h1
    unfold mD
    by_cases h2 : j = 9
    · subst h2; rw [zup_at, zset_ne (by omega), zup_aj (by decide), zup_at]
    · rw [zup_aj h2, zset_ne (by omega), zset_ne (by omega)]
      by_cases h3 : j = 10
      · subst h3; rw [zup_at, zup_at]
      · rw [zup_aj h3, zup_aj h3, zup_aj h2, zup_aj h2]
  · rw [zup_ne h1]
    unfold mD
    by_cases h2 : r = s + 637
    · subst h2; rw [zset_at, zset_at]
    · rw [zset_ne h2, zset_ne h2, zup_ne h1, zup_ne h1, zup_ne h1, zup_ne h1]
theorem mD_w10 {o' : Nat} : zup (mD D s q o V) (s + 634) 10 (nI o') = mD D s q o' V := by
  funext r j
  by_cases h1 : r = s + 634
  · subst h1
    unfold mD
    by_cases h2 : j = 10
    · subst h2; rw [zup_at, zset_ne (by omega), zup_at]
    · rw [zup_aj h2, zset_ne (by omega), zset_ne (by omega), zup_aj h2, zup_aj h2]
  · rw [zup_ne h1]
    unfold mD
    by_cases h2 : r = s + 637
    · subst h2; rw [zset_at, zset_at]
    · rw [zset_ne h2, zset_ne h2, zup_ne h1, zup_ne h1, zup_ne h1, zup_ne h1]
-- the class
theorem c_next (hw : WL w s) (hX : TX D s n ch) (hp : p ≤ 200) : f_FairText_next w (tD D s p l N) (s + 1) = some (if p < n then nI (ch p) else -1, tD D s p l N) := by
  obtain ⟨hn, e1, e2⟩ := hX
  have h0 : ¬ nI p < 0 := nI_pos (by omega)
  have hle : (nI n ≤ nI p) = (n ≤ p) := propext (nI_leI (by omega) (by omega))
  unfold f_FairText_next
  by_cases hpn : p < n
  · have hc : ¬ n ≤ p := by omega
    have h120 : nI p < 120 := nI_lt (b := 120) (by omega) (by decide)
    simp (disch := omega) only [↓zjpE, ↓zletE, ↓zciE, ↓zcvE, ↓zchkE, ↓reduceIte, zciE, zcvE, nI_1, ↓WSo hw, ↓WSr0 hw, ↓WSr1 hw, ↓WSr2 hw, ↓WSr3 hw, ↓WSr4 hw, ↓WSg5 hw, ↓WSp5 hw, ↓WSg6 hw, ↓WSp6 hw, ↓WSr7 hw, ↓WSr8 hw, ↓WTo hw, ↓WTr0 hw, ↓WTg1 hw, ↓WTp1 hw, ↓WTg2 hw, ↓WTp2 hw, ↓WTg3 hw, ↓WTp3 hw, ↓WTr4 hw, ↓WMo hw, ↓WMg0 hw, ↓WMp0 hw, ↓WMr1 hw, ↓WMg2 hw, ↓WMp2 hw, ↓WMr3 hw, ↓WMr4 hw, ↓WMr5 hw, ↓WMg6 hw, ↓WMp6 hw, ↓WMr7 hw, ↓WMr8 hw, ↓WMg9 hw, ↓WMp9 hw, ↓WMg10 hw, ↓WMp10 hw, tD_1, tD_2, tD_3, tD_c, tD_n, tD_w2, tD_w3, tD_wn, e1, h0, hle, hc, h120, ↓zald_of (i := p) (n := 120) (Wc hw) (by omega) (by decide), (e2 p hpn).2, hpn]
  · have hc : n ≤ p := by omega
    simp (disch := omega) only [↓zjpE, ↓zletE, ↓zciE, ↓zcvE, ↓zchkE, ↓reduceIte, zciE, zcvE, nI_1, ↓WSo hw, ↓WSr0 hw, ↓WSr1 hw, ↓WSr2 hw, ↓WSr3 hw, ↓WSr4 hw, ↓WSg5 hw, ↓WSp5 hw, ↓WSg6 hw, ↓WSp6 hw, ↓WSr7 hw, ↓WSr8 hw, ↓WTo hw, ↓WTr0 hw, ↓WTg1 hw, ↓WTp1 hw, ↓WTg2 hw, ↓WTp2 hw, ↓WTg3 hw, ↓WTp3 hw, ↓WTr4 hw, ↓WMo hw, ↓WMg0 hw, ↓WMp0 hw, ↓WMr1 hw, ↓WMg2 hw, ↓WMp2 hw, ↓WMr3 hw, ↓WMr4 hw, ↓WMr5 hw, ↓WMg6 hw, ↓WMp6 hw, ↓WMr7 hw, ↓WMr8 hw, ↓WMg9 hw, ↓WMp9 hw, ↓WMg10 hw, ↓WMp10 hw, tD_1, tD_2, tD_3, tD_c, tD_n, tD_w2, tD_w3, tD_wn, e1, h0, hle, hc, hpn]
theorem c_isNext (hw : WL w s) (hX : TX D s n ch) (hp : p ≤ 200) {x : Nat} (hx : x < 1000) : f_FairText_isNext w (tD D s p l N) (s + 1) (nI x) = some (if p < n ∧ ch p = x then 1 else 0, tD D s p l N) := by
  have hN := c_next (l := l) (N := N) hw hX hp
  obtain ⟨hn, e1, e2⟩ := hX
  unfold f_FairText_isNext
  by_cases hpn : p < n
  · rw [if_pos hpn] at hN
    have heq : (nI (ch p) = nI x) = (ch p = x) := propext (nI_eq (by have := (e2 p hpn).1; omega) (by omega))
    by_cases hc : ch p = x
    · simp only [↓zjpE, ↓zletE, ↓zciE, ↓zcvE, ↓zchkE, ↓reduceIte, zciE, zcvE, nI_1, ↓WSo hw, ↓WSr0 hw, ↓WSr1 hw, ↓WSr2 hw, ↓WSr3 hw, ↓WSr4 hw, ↓WSg5 hw, ↓WSp5 hw, ↓WSg6 hw, ↓WSp6 hw, ↓WSr7 hw, ↓WSr8 hw, ↓WTo hw, ↓WTr0 hw, ↓WTg1 hw, ↓WTp1 hw, ↓WTg2 hw, ↓WTp2 hw, ↓WTg3 hw, ↓WTp3 hw, ↓WTr4 hw, ↓WMo hw, ↓WMg0 hw, ↓WMp0 hw, ↓WMr1 hw, ↓WMg2 hw, ↓WMp2 hw, ↓WMr3 hw, ↓WMr4 hw, ↓WMr5 hw, ↓WMg6 hw, ↓WMp6 hw, ↓WMr7 hw, ↓WMr8 hw, ↓WMg9 hw, ↓WMp9 hw, ↓WMg10 hw, ↓WMp10 hw, ↓zciX hN, heq, hc, hpn, true_or, or_true, true_and, and_true, and_false, false_and, and_self, if_true, if_false]
    · simp only [↓zjpE, ↓zletE, ↓zciE, ↓zcvE, ↓zchkE, ↓reduceIte, zciE, zcvE, nI_1, ↓WSo hw, ↓WSr0 hw, ↓WSr1 hw, ↓WSr2 hw, ↓WSr3 hw, ↓WSr4 hw, ↓WSg5 hw, ↓WSp5 hw, ↓WSg6 hw, ↓WSp6 hw, ↓WSr7 hw, ↓WSr8 hw, ↓WTo hw, ↓WTr0 hw, ↓WTg1 hw, ↓WTp1 hw, ↓WTg2 hw, ↓WTp2 hw, ↓WTg3 hw, ↓WTp3 hw, ↓WTr4 hw, ↓WMo hw, ↓WMg0 hw, ↓WMp0 hw, ↓WMr1 hw, ↓WMg2 hw, ↓WMp2 hw, ↓WMr3 hw, ↓WMr4 hw, ↓WMr5 hw, ↓WMg6 hw, ↓WMp6 hw, ↓WMr7 hw, ↓WMr8 hw, ↓WMg9 hw, ↓WMp9 hw, ↓WMg10 hw, ↓WMp10 hw, ↓zciX hN, heq, hc, hpn, true_or, or_true, true_and, and_true, and_false, false_and, and_self, if_true, if_false]
  · rw [if_neg hpn] at hN
    have hm : ¬ (-1 : Int32) = nI x := fun h => nI_ne_m1 (by omega) h.symm
    simp only [↓zjpE, ↓zletE, ↓zciE, ↓zcvE, ↓zchkE, ↓reduceIte, zciE, zcvE, nI_1, ↓WSo hw, ↓WSr0 hw, ↓WSr1 hw, ↓WSr2 hw, ↓WSr3 hw, ↓WSr4 hw, ↓WSg5 hw, ↓WSp5 hw, ↓WSg6 hw, ↓WSp6 hw, ↓WSr7 hw, ↓WSr8 hw, ↓WTo hw, ↓WTr0 hw, ↓WTg1 hw, ↓WTp1 hw, ↓WTg2 hw, ↓WTp2 hw, ↓WTg3 hw, ↓WTp3 hw, ↓WTr4 hw, ↓WMo hw, ↓WMg0 hw, ↓WMp0 hw, ↓WMr1 hw, ↓WMg2 hw, ↓WMp2 hw, ↓WMr3 hw, ↓WMr4 hw, ↓WMr5 hw, ↓WMg6 hw, ↓WMp6 hw, ↓WMr7 hw, ↓WMr8 hw, ↓WMg9 hw, ↓WMp9 hw, ↓WMg10 hw, ↓WMp10 hw, ↓zciX hN, hm, hpn, true_or, or_true, true_and, and_true, and_false, false_and, and_self, if_true, if_false]
theorem c_digit (hw : WL w s) (hX : TX D s n ch) (hp : p ≤ 200) {x1 x2 : Int32} : f_FairText_nextDigit w (tD D s p l N) (s + 1) x1 x2 = some (if p < n ∧ 48 ≤ ch p ∧ ch p ≤ 57 ∧ ¬ nI (ch p - 48) < x1 ∧ ¬ x2 < nI (ch p - 48) then nI (ch p - 48) else -1, tD D s p l N) := by
  have hN := c_next (l := l) (N := N) hw hX hp
  obtain ⟨hn, e1, e2⟩ := hX
  unfold f_FairText_nextDigit
  by_cases hpn : p < n
  · rw [if_pos hpn] at hN
    have h256 := (e2 p hpn).1
    by_cases h48 : 48 ≤ ch p
    · have hs : nI (ch p) - 48 = nI (ch p - 48) := pk_sub h48
      have h0 : ¬ nI (ch p - 48) < 0 := nI_pos (by omega)
      by_cases h57 : ch p ≤ 57
      · have h9 : ¬ (9 : Int32) < nI (ch p - 48) := nI_nlt (a := 9) (by omega) (by decide)
        by_cases h1 : nI (ch p - 48) < x1
        · simp only [↓zjpE, ↓zletE, ↓zciE, ↓zcvE, ↓zchkE, ↓reduceIte, zciE, zcvE, nI_1, ↓WSo hw, ↓WSr0 hw, ↓WSr1 hw, ↓WSr2 hw, ↓WSr3 hw, ↓WSr4 hw, ↓WSg5 hw, ↓WSp5 hw, ↓WSg6 hw, ↓WSp6 hw, ↓WSr7 hw, ↓WSr8 hw, ↓WTo hw, ↓WTr0 hw, ↓WTg1 hw, ↓WTp1 hw, ↓WTg2 hw, ↓WTp2 hw, ↓WTg3 hw, ↓WTp3 hw, ↓WTr4 hw, ↓WMo hw, ↓WMg0 hw, ↓WMp0 hw, ↓WMr1 hw, ↓WMg2 hw, ↓WMp2 hw, ↓WMr3 hw, ↓WMr4 hw, ↓WMr5 hw, ↓WMg6 hw, ↓WMp6 hw, ↓WMr7 hw, ↓WMr8 hw, ↓WMg9 hw, ↓WMp9 hw, ↓WMg10 hw, ↓WMp10 hw, ↓zciX hN, hs, h0, h9, h1, hpn, h48, h57, not_true_eq_false, true_or, or_true, true_and, and_true, and_false, false_and, and_self, if_true, if_false]
        · by_cases h2 : x2 < nI (ch p - 48)
          · simp only [↓zjpE, ↓zletE, ↓zciE, ↓zcvE, ↓zchkE, ↓reduceIte, zciE, zcvE, nI_1, ↓WSo hw, ↓WSr0 hw, ↓WSr1 hw, ↓WSr2 hw, ↓WSr3 hw, ↓WSr4 hw, ↓WSg5 hw, ↓WSp5 hw, ↓WSg6 hw, ↓WSp6 hw, ↓WSr7 hw, ↓WSr8 hw, ↓WTo hw, ↓WTr0 hw, ↓WTg1 hw, ↓WTp1 hw, ↓WTg2 hw, ↓WTp2 hw, ↓WTg3 hw, ↓WTp3 hw, ↓WTr4 hw, ↓WMo hw, ↓WMg0 hw, ↓WMp0 hw, ↓WMr1 hw, ↓WMg2 hw, ↓WMp2 hw, ↓WMr3 hw, ↓WMr4 hw, ↓WMr5 hw, ↓WMg6 hw, ↓WMp6 hw, ↓WMr7 hw, ↓WMr8 hw, ↓WMg9 hw, ↓WMp9 hw, ↓WMg10 hw, ↓WMp10 hw, ↓zciX hN, hs, h0, h9, h1, h2, hpn, h48, h57, not_true_eq_false, not_false_eq_true, true_or, or_true, true_and, and_true, and_false, false_and, and_self, if_true, if_false]
          · simp only [↓zjpE, ↓zletE, ↓zciE, ↓zcvE, ↓zchkE, ↓reduceIte, zciE, zcvE, nI_1, ↓WSo hw, ↓WSr0 hw, ↓WSr1 hw, ↓WSr2 hw, ↓WSr3 hw, ↓WSr4 hw, ↓WSg5 hw, ↓WSp5 hw, ↓WSg6 hw, ↓WSp6 hw, ↓WSr7 hw, ↓WSr8 hw, ↓WTo hw, ↓WTr0 hw, ↓WTg1 hw, ↓WTp1 hw, ↓WTg2 hw, ↓WTp2 hw, ↓WTg3 hw, ↓WTp3 hw, ↓WTr4 hw, ↓WMo hw, ↓WMg0 hw, ↓WMp0 hw, ↓WMr1 hw, ↓WMg2 hw, ↓WMp2 hw, ↓WMr3 hw, ↓WMr4 hw, ↓WMr5 hw, ↓WMg6 hw, ↓WMp6 hw, ↓WMr7 hw, ↓WMr8 hw, ↓WMg9 hw, ↓WMp9 hw, ↓WMg10 hw, ↓WMp10 hw, ↓zciX hN, hs, h0, h9, h1, h2, hpn, h48, h57, not_true_eq_false, not_false_eq_true, true_or, or_true, true_and, and_true, and_false, false_and, and_self, if_true, if_false]
      · have h9 : (9 : Int32) < nI (ch p - 48) := nI_lt (a := 9) (by omega) (by omega)
        simp only [↓zjpE, ↓zletE, ↓zciE, ↓zcvE, ↓zchkE, ↓reduceIte, zciE, zcvE, nI_1, ↓WSo hw, ↓WSr0 hw, ↓WSr1 hw, ↓WSr2 hw, ↓WSr3 hw, ↓WSr4 hw, ↓WSg5 hw, ↓WSp5 hw, ↓WSg6 hw, ↓WSp6 hw, ↓WSr7 hw, ↓WSr8 hw, ↓WTo hw, ↓WTr0 hw, ↓WTg1 hw, ↓WTp1 hw, ↓WTg2 hw, ↓WTp2 hw, ↓WTg3 hw, ↓WTp3 hw, ↓WTr4 hw, ↓WMo hw, ↓WMg0 hw, ↓WMp0 hw, ↓WMr1 hw, ↓WMg2 hw, ↓WMp2 hw, ↓WMr3 hw, ↓WMr4 hw, ↓WMr5 hw, ↓WMg6 hw, ↓WMp6 hw, ↓WMr7 hw, ↓WMr8 hw, ↓WMg9 hw, ↓WMp9 hw, ↓WMg10 hw, ↓WMp10 hw, ↓zciX hN, hs, h0, h9, h57, true_or, or_true, true_and, and_true, and_false, false_and, and_self, if_true, if_false]
    · have h0 : nI (ch p) - 48 < 0 := pk_sneg (b := 48) (by decide) (by omega)
      simp only [↓zjpE, ↓zletE, ↓zciE, ↓zcvE, ↓zchkE, ↓reduceIte, zciE, zcvE, nI_1, ↓WSo hw, ↓WSr0 hw, ↓WSr1 hw, ↓WSr2 hw, ↓WSr3 hw, ↓WSr4 hw, ↓WSg5 hw, ↓WSp5 hw, ↓WSg6 hw, ↓WSp6 hw, ↓WSr7 hw, ↓WSr8 hw, ↓WTo hw, ↓WTr0 hw, ↓WTg1 hw, ↓WTp1 hw, ↓WTg2 hw, ↓WTp2 hw, ↓WTg3 hw, ↓WTp3 hw, ↓WTr4 hw, ↓WMo hw, ↓WMg0 hw, ↓WMp0 hw, ↓WMr1 hw, ↓WMg2 hw, ↓WMp2 hw, ↓WMr3 hw, ↓WMr4 hw, ↓WMr5 hw, ↓WMg6 hw, ↓WMp6 hw, ↓WMr7 hw, ↓WMr8 hw, ↓WMg9 hw, ↓WMp9 hw, ↓WMg10 hw, ↓WMp10 hw, ↓zciX hN, h0, h48, true_or, or_true, true_and, and_true, and_false, false_and, and_self, if_true, if_false]
  · rw [if_neg hpn] at hN
    have h0 : (-1 : Int32) - 48 < 0 := by decide
    simp only [↓zjpE, ↓zletE, ↓zciE, ↓zcvE, ↓zchkE, ↓reduceIte, zciE, zcvE, nI_1, ↓WSo hw, ↓WSr0 hw, ↓WSr1 hw, ↓WSr2 hw, ↓WSr3 hw, ↓WSr4 hw, ↓WSg5 hw, ↓WSp5 hw, ↓WSg6 hw, ↓WSp6 hw, ↓WSr7 hw, ↓WSr8 hw, ↓WTo hw, ↓WTr0 hw, ↓WTg1 hw, ↓WTp1 hw, ↓WTg2 hw, ↓WTp2 hw, ↓WTg3 hw, ↓WTp3 hw, ↓WTr4 hw, ↓WMo hw, ↓WMg0 hw, ↓WMp0 hw, ↓WMr1 hw, ↓WMg2 hw, ↓WMp2 hw, ↓WMr3 hw, ↓WMr4 hw, ↓WMr5 hw, ↓WMg6 hw, ↓WMp6 hw, ↓WMr7 hw, ↓WMr8 hw, ↓WMg9 hw, ↓WMp9 hw, ↓WMg10 hw, ↓WMp10 hw, ↓zciX hN, h0, hpn, true_or, or_true, true_and, and_true, and_false, false_and, and_self, if_true, if_false]
theorem sl1 {x y b : Nat} (hx : x < 10000) (hy : y < 10000) (hb : b < 10000) : (nI b < nI x - nI y) = (y + b < x) := propext (by
  rw [Int32.lt_iff_toInt_lt, pk_sub_toInt (by omega) (by omega), nI_toInt (by omega)]; omega)
theorem sl2 {x y b : Nat} (hx : x < 10000) (hy : y < 10000) (hb : b < 10000) : (nI x - nI y < nI b) = (x < y + b) := propext (by
  rw [Int32.lt_iff_toInt_lt, pk_sub_toInt (by omega) (by omega), nI_toInt (by omega)]; omega)
theorem cO1 (hw : WL w s) (hX : TX D s n ch) (hp : p ≤ 200) (hk : k < 5) (hl : lo ≤ 9) (hh : hi ≤ 9) (h : rdO ch n lo hi p = (some v, q)) : f_FairText_readOne w (tD D s p l N) (s + 1) (nI k) (nI lo) (nI hi) = some (1, tD D s q l (upd N k (nI v))) := by
  unfold rdO at h
  split at h
  · rename_i hC
    cases h
    have hd := c_digit (l := l) (N := N) (x1 := nI lo) (x2 := nI hi) hw hX hp
    rw [if_pos ⟨hC.1, hC.2.1, hC.2.2.1, nI_nlt hC.2.2.2.1 (by omega), nI_nlt hC.2.2.2.2 (by omega)⟩] at hd
    have m1 : ¬ nI (ch p - 48) = -1 := nI_ne_m1 (by omega)
    have k0 : ¬ nI k < 0 := nI_pos (by omega)
    have k5 : nI k < 5 := nI_lt (b := 5) hk (by decide)
    unfold f_FairText_readOne
    simp only [↓zjpE, ↓zletE, ↓zciE, ↓zcvE, ↓zchkE, ↓reduceIte, zciE, zcvE, nI_1, ↓WSo hw, ↓WSr0 hw, ↓WSr1 hw, ↓WSr2 hw, ↓WSr3 hw, ↓WSr4 hw, ↓WSg5 hw, ↓WSp5 hw, ↓WSg6 hw, ↓WSp6 hw, ↓WSr7 hw, ↓WSr8 hw, ↓WTo hw, ↓WTr0 hw, ↓WTg1 hw, ↓WTp1 hw, ↓WTg2 hw, ↓WTp2 hw, ↓WTg3 hw, ↓WTp3 hw, ↓WTr4 hw, ↓WMo hw, ↓WMg0 hw, ↓WMp0 hw, ↓WMr1 hw, ↓WMg2 hw, ↓WMp2 hw, ↓WMr3 hw, ↓WMr4 hw, ↓WMr5 hw, ↓WMg6 hw, ↓WMp6 hw, ↓WMr7 hw, ↓WMr8 hw, ↓WMg9 hw, ↓WMp9 hw, ↓WMg10 hw, ↓WMp10 hw, ↓zciX hd, m1, k0, k5, ↓zast_of (i := k) (Wu hw) hk (by decide), tD_1, tD_2, tD_3, tD_c, tD_n, tD_w2, tD_w3, tD_wn]
  · cases h
theorem cO0 (hw : WL w s) (hX : TX D s n ch) (hp : p ≤ 200) (hl : lo ≤ 9) (hh : hi ≤ 9) (h : rdO ch n lo hi p = (none, q)) {x : Int32} : f_FairText_readOne w (tD D s p l N) (s + 1) x (nI lo) (nI hi) = some (0, tD D s q l N) := by
  unfold rdO at h
  split at h
  · cases h
  · rename_i hC
    cases h
    have hd := c_digit (l := l) (N := N) (x1 := nI lo) (x2 := nI hi) hw hX hp
    rw [if_neg (fun hh => hC ⟨hh.1, hh.2.1, hh.2.2.1, by have := hh.2.2.2.1; rw [nI_ltI (by omega) (by omega)] at this; omega, by have := hh.2.2.2.2; rw [nI_ltI (by omega) (by omega)] at this; omega⟩)] at hd
    unfold f_FairText_readOne
    simp only [↓zjpE, ↓zletE, ↓zciE, ↓zcvE, ↓zchkE, ↓reduceIte, zciE, zcvE, nI_1, ↓WSo hw, ↓WSr0 hw, ↓WSr1 hw, ↓WSr2 hw, ↓WSr3 hw, ↓WSr4 hw, ↓WSg5 hw, ↓WSp5 hw, ↓WSg6 hw, ↓WSp6 hw, ↓WSr7 hw, ↓WSr8 hw, ↓WTo hw, ↓WTr0 hw, ↓WTg1 hw, ↓WTp1 hw, ↓WTg2 hw, ↓WTp2 hw, ↓WTg3 hw, ↓WTp3 hw, ↓WTr4 hw, ↓WMo hw, ↓WMg0 hw, ↓WMp0 hw, ↓WMr1 hw, ↓WMg2 hw, ↓WMp2 hw, ↓WMr3 hw, ↓WMr4 hw, ↓WMr5 hw, ↓WMg6 hw, ↓WMp6 hw, ↓WMr7 hw, ↓WMr8 hw, ↓WMg9 hw, ↓WMp9 hw, ↓WMg10 hw, ↓WMp10 hw, ↓zciX hd, tD_1, tD_2, tD_3, tD_c, tD_n, tD_w2, tD_w3, tD_wn]
theorem cT1 (hw : WL w s) (hX : TX D s n ch) (hp : p ≤ 199) (hk : k < 5) (hl : lo ≤ 99) (hh : hi ≤ 99) (h : rdT ch n lo hi p = (some v, q)) : f_FairText_readTwo w (tD D s p l N) (s + 1) (nI k) (nI lo) (nI hi) = some (1, tD D s q l (upd N k (nI v))) := by
  unfold rdT at h
  split at h
  · rename_i hC
    split at h
    · rename_i hC2
      cases h
      have hd := c_digit (l := l) (N := N) (x1 := nI (lo / 10)) (x2 := nI (hi / 10)) hw hX (show p ≤ 200 by omega)
      rw [if_pos ⟨hC.1, hC.2.1, hC.2.2.1, nI_nlt hC.2.2.2.1 (by omega), nI_nlt hC.2.2.2.2 (by omega)⟩] at hd
      have hd2 := c_digit (p := p + 1) (l := l) (N := N) (x1 := nI lo - nI (10 * (ch p - 48))) (x2 := nI hi - nI (10 * (ch p - 48))) hw hX (by omega)
      rw [if_pos ⟨hC2.1, hC2.2.1, hC2.2.2.1, by rw [sl1 (by omega) (by omega) (by omega)]; omega, by rw [sl2 (by omega) (by omega) (by omega)]; omega⟩] at hd2
      have m1 : ¬ nI (ch p - 48) = -1 := nI_ne_m1 (by omega)
      have m2 : ¬ nI (ch (p + 1) - 48) = -1 := nI_ne_m1 (by omega)
      have k0 : ¬ nI k < 0 := nI_pos (by omega)
      have k5 : nI k < 5 := nI_lt (b := 5) hk (by decide)
      have t10 : (10 : Int32) * nI (ch p - 48) = nI (10 * (ch p - 48)) := by simp only [zl, pk_mul]
      unfold f_FairText_readTwo
      simp only [↓zjpE, ↓zletE, ↓zciE, ↓zcvE, ↓zchkE, ↓reduceIte, zciE, zcvE, nI_1, ↓WSo hw, ↓WSr0 hw, ↓WSr1 hw, ↓WSr2 hw, ↓WSr3 hw, ↓WSr4 hw, ↓WSg5 hw, ↓WSp5 hw, ↓WSg6 hw, ↓WSp6 hw, ↓WSr7 hw, ↓WSr8 hw, ↓WTo hw, ↓WTr0 hw, ↓WTg1 hw, ↓WTp1 hw, ↓WTg2 hw, ↓WTp2 hw, ↓WTg3 hw, ↓WTp3 hw, ↓WTr4 hw, ↓WMo hw, ↓WMg0 hw, ↓WMp0 hw, ↓WMr1 hw, ↓WMg2 hw, ↓WMp2 hw, ↓WMr3 hw, ↓WMr4 hw, ↓WMr5 hw, ↓WMg6 hw, ↓WMp6 hw, ↓WMr7 hw, ↓WMr8 hw, ↓WMg9 hw, ↓WMp9 hw, ↓WMg10 hw, ↓WMp10 hw, dl10 (show lo < 2 ^ 31 by omega), dl10 (show hi < 2 ^ 31 by omega), ↓zciX hd, m1, k0, k5, t10, ↓zciX hd2, m2, nI_add, ↓zast_of (i := k) (Wu hw) hk (by decide), tD_1, tD_2, tD_3, tD_c, tD_n, tD_w2, tD_w3, tD_wn]
    · cases h
  · cases h
theorem cT0 (hw : WL w s) (hX : TX D s n ch) (hp : p ≤ 199) (hk : k < 5) (hl : lo ≤ 99) (hh : hi ≤ 99) (h : rdT ch n lo hi p = (none, q)) : f_FairText_readTwo w (tD D s p l N) (s + 1) (nI k) (nI lo) (nI hi) = some (0, tD D s q l N) := by
  unfold rdT at h
  split at h
  · rename_i hC
    split at h
    · cases h
    · rename_i hC2
      cases h
      have hd := c_digit (l := l) (N := N) (x1 := nI (lo / 10)) (x2 := nI (hi / 10)) hw hX (show p ≤ 200 by omega)
      rw [if_pos ⟨hC.1, hC.2.1, hC.2.2.1, nI_nlt hC.2.2.2.1 (by omega), nI_nlt hC.2.2.2.2 (by omega)⟩] at hd
      have hd2 : f_FairText_nextDigit w (tD D s (p + 1) l N) (s + 1) (nI lo - nI (10 * (ch p - 48))) (nI hi - nI (10 * (ch p - 48))) = some (-1, tD D s (p + 1) l N) := by
        rw [c_digit (p := p + 1) (l := l) (N := N) hw hX (by omega), if_neg (fun hh => hC2 ⟨hh.1, hh.2.1, hh.2.2.1, by have := hh.2.2.2.1; rw [sl1 (by omega) (by omega) (by omega)] at this; omega, by have := hh.2.2.2.2; rw [sl2 (by omega) (by omega) (by omega)] at this; omega⟩)]
      have m1 : ¬ nI (ch p - 48) = -1 := nI_ne_m1 (by omega)
      have k0 : ¬ nI k < 0 := nI_pos (by omega)
      have k5 : nI k < 5 := nI_lt (b := 5) hk (by decide)
      have t10 : (10 : Int32) * nI (ch p - 48) = nI (10 * (ch p - 48)) := by simp only [zl, pk_mul]
      unfold f_FairText_readTwo
      simp only [↓zjpE, ↓zletE, ↓zciE, ↓zcvE, ↓zchkE, ↓reduceIte, zciE, zcvE, nI_1, ↓WSo hw, ↓WSr0 hw, ↓WSr1 hw, ↓WSr2 hw, ↓WSr3 hw, ↓WSr4 hw, ↓WSg5 hw, ↓WSp5 hw, ↓WSg6 hw, ↓WSp6 hw, ↓WSr7 hw, ↓WSr8 hw, ↓WTo hw, ↓WTr0 hw, ↓WTg1 hw, ↓WTp1 hw, ↓WTg2 hw, ↓WTp2 hw, ↓WTg3 hw, ↓WTp3 hw, ↓WTr4 hw, ↓WMo hw, ↓WMg0 hw, ↓WMp0 hw, ↓WMr1 hw, ↓WMg2 hw, ↓WMp2 hw, ↓WMr3 hw, ↓WMr4 hw, ↓WMr5 hw, ↓WMg6 hw, ↓WMp6 hw, ↓WMr7 hw, ↓WMr8 hw, ↓WMg9 hw, ↓WMp9 hw, ↓WMg10 hw, ↓WMp10 hw, dl10 (show lo < 2 ^ 31 by omega), dl10 (show hi < 2 ^ 31 by omega), ↓zciX hd, m1, k0, k5, t10, ↓zciX hd2, tD_1, tD_2, tD_3, tD_c, tD_n, tD_w2, tD_w3, tD_wn]
  · rename_i hC
    cases h
    have hd := c_digit (l := l) (N := N) (x1 := nI (lo / 10)) (x2 := nI (hi / 10)) hw hX (show p ≤ 200 by omega)
    rw [if_neg (fun hh => hC ⟨hh.1, hh.2.1, hh.2.2.1, by have := hh.2.2.2.1; rw [nI_ltI (by omega) (by omega)] at this; omega, by have := hh.2.2.2.2; rw [nI_ltI (by omega) (by omega)] at this; omega⟩)] at hd
    unfold f_FairText_readTwo
    simp only [↓zjpE, ↓zletE, ↓zciE, ↓zcvE, ↓zchkE, ↓reduceIte, zciE, zcvE, nI_1, ↓WSo hw, ↓WSr0 hw, ↓WSr1 hw, ↓WSr2 hw, ↓WSr3 hw, ↓WSr4 hw, ↓WSg5 hw, ↓WSp5 hw, ↓WSg6 hw, ↓WSp6 hw, ↓WSr7 hw, ↓WSr8 hw, ↓WTo hw, ↓WTr0 hw, ↓WTg1 hw, ↓WTp1 hw, ↓WTg2 hw, ↓WTp2 hw, ↓WTg3 hw, ↓WTp3 hw, ↓WTr4 hw, ↓WMo hw, ↓WMg0 hw, ↓WMp0 hw, ↓WMr1 hw, ↓WMg2 hw, ↓WMp2 hw, ↓WMr3 hw, ↓WMr4 hw, ↓WMr5 hw, ↓WMg6 hw, ↓WMp6 hw, ↓WMr7 hw, ↓WMr8 hw, ↓WMg9 hw, ↓WMp9 hw, ↓WMg10 hw, ↓WMp10 hw, dl10 (show lo < 2 ^ 31 by omega), dl10 (show hi < 2 ^ 31 by omega), ↓zciX hd, tD_1, tD_2, tD_3, tD_c, tD_n, tD_w2, tD_w3, tD_wn]
theorem cE1 (hw : WL w s) (hX : TX D s n ch) (hp : p ≤ 200) (hk : k < 5) {x y : Nat} (hx : x < 256) (hy : y < 256) (h : rdE ch n x y p = (some v, q)) : f_FairText_readEither w (tD D s p l N) (s + 1) (nI k) (nI x) (nI y) = some (1, tD D s q l (upd N k (nI v))) := by
  unfold rdE at h
  split at h
  · rename_i hC
    cases h
    have hN := c_next (l := l) (N := N) hw hX hp
    rw [if_pos hC.1] at hN
    have i1 := c_isNext (l := l) (N := N) hw hX hp (x := x) (by omega)
    have i2 := c_isNext (l := l) (N := N) hw hX hp (x := y) (by omega)
    have k0 : ¬ nI k < 0 := nI_pos (by omega)
    have k5 : nI k < 5 := nI_lt (b := 5) hk (by decide)
    unfold f_FairText_readEither
    by_cases hxc : ch p = x
    · rw [if_pos ⟨hC.1, hxc⟩] at i1
      simp only [↓zjpE, ↓zletE, ↓zciE, ↓zcvE, ↓zchkE, ↓reduceIte, zciE, zcvE, nI_1, ↓WSo hw, ↓WSr0 hw, ↓WSr1 hw, ↓WSr2 hw, ↓WSr3 hw, ↓WSr4 hw, ↓WSg5 hw, ↓WSp5 hw, ↓WSg6 hw, ↓WSp6 hw, ↓WSr7 hw, ↓WSr8 hw, ↓WTo hw, ↓WTr0 hw, ↓WTg1 hw, ↓WTp1 hw, ↓WTg2 hw, ↓WTp2 hw, ↓WTg3 hw, ↓WTp3 hw, ↓WTr4 hw, ↓WMo hw, ↓WMg0 hw, ↓WMp0 hw, ↓WMr1 hw, ↓WMg2 hw, ↓WMp2 hw, ↓WMr3 hw, ↓WMr4 hw, ↓WMr5 hw, ↓WMg6 hw, ↓WMp6 hw, ↓WMr7 hw, ↓WMr8 hw, ↓WMg9 hw, ↓WMp9 hw, ↓WMg10 hw, ↓WMp10 hw, ↓zciX i1, d10, k0, k5, ↓zciX hN, ↓zast_of (i := k) (Wu hw) hk (by decide), tD_1, tD_2, tD_3, tD_c, tD_n, tD_w2, tD_w3, tD_wn]
    · rw [if_neg (fun h => hxc h.2)] at i1
      rw [if_pos ⟨hC.1, hC.2.resolve_left hxc⟩] at i2
      simp only [↓zjpE, ↓zletE, ↓zciE, ↓zcvE, ↓zchkE, ↓reduceIte, zciE, zcvE, nI_1, ↓WSo hw, ↓WSr0 hw, ↓WSr1 hw, ↓WSr2 hw, ↓WSr3 hw, ↓WSr4 hw, ↓WSg5 hw, ↓WSp5 hw, ↓WSg6 hw, ↓WSp6 hw, ↓WSr7 hw, ↓WSr8 hw, ↓WTo hw, ↓WTr0 hw, ↓WTg1 hw, ↓WTp1 hw, ↓WTg2 hw, ↓WTp2 hw, ↓WTg3 hw, ↓WTp3 hw, ↓WTr4 hw, ↓WMo hw, ↓WMg0 hw, ↓WMp0 hw, ↓WMr1 hw, ↓WMg2 hw, ↓WMp2 hw, ↓WMr3 hw, ↓WMr4 hw, ↓WMr5 hw, ↓WMg6 hw, ↓WMp6 hw, ↓WMr7 hw, ↓WMr8 hw, ↓WMg9 hw, ↓WMp9 hw, ↓WMg10 hw, ↓WMp10 hw, ↓zciX i1, ↓zciX i2, d10, k0, k5, ↓zciX hN, ↓zast_of (i := k) (Wu hw) hk (by decide), tD_1, tD_2, tD_3, tD_c, tD_n, tD_w2, tD_w3, tD_wn]
  · cases h
theorem cE0 (hw : WL w s) (hX : TX D s n ch) (hp : p ≤ 200) {x y : Nat} (hx : x < 256) (hy : y < 256) (h : rdE ch n x y p = (none, q)) {z : Int32} : f_FairText_readEither w (tD D s p l N) (s + 1) z (nI x) (nI y) = some (0, tD D s q l N) := by
  unfold rdE at h
  split at h
  · cases h
  · rename_i hC
    cases h
    have i1 := c_isNext (l := l) (N := N) hw hX hp (x := x) (by omega)
    have i2 := c_isNext (l := l) (N := N) hw hX hp (x := y) (by omega)
    rw [if_neg (fun h => hC ⟨h.1, Or.inl h.2⟩)] at i1
    rw [if_neg (fun h => hC ⟨h.1, Or.inr h.2⟩)] at i2
    unfold f_FairText_readEither
    simp only [↓zjpE, ↓zletE, ↓zciE, ↓zcvE, ↓zchkE, ↓reduceIte, zciE, zcvE, nI_1, ↓WSo hw, ↓WSr0 hw, ↓WSr1 hw, ↓WSr2 hw, ↓WSr3 hw, ↓WSr4 hw, ↓WSg5 hw, ↓WSp5 hw, ↓WSg6 hw, ↓WSp6 hw, ↓WSr7 hw, ↓WSr8 hw, ↓WTo hw, ↓WTr0 hw, ↓WTg1 hw, ↓WTp1 hw, ↓WTg2 hw, ↓WTp2 hw, ↓WTg3 hw, ↓WTp3 hw, ↓WTr4 hw, ↓WMo hw, ↓WMg0 hw, ↓WMp0 hw, ↓WMr1 hw, ↓WMg2 hw, ↓WMp2 hw, ↓WMr3 hw, ↓WMr4 hw, ↓WMr5 hw, ↓WMg6 hw, ↓WMp6 hw, ↓WMr7 hw, ↓WMr8 hw, ↓WMg9 hw, ↓WMp9 hw, ↓WMg10 hw, ↓WMp10 hw, ↓zciX i1, ↓zciX i2, tD_1, tD_2, tD_3, tD_c, tD_n, tD_w2, tD_w3, tD_wn]
-- the model
theorem m_fe (hw : WL w s) {ah dg x y : Int32} (hah : ¬ ah = -1) {z : Int32} {j : Int32 → Int32 → zD → Option (Int32 × zD)} : S_MD_figures_S1 w (s + 634) ah dg x y j z (nI 0) D = some (z, D) := by
  have h0 : nI 0 ≤ 0 := by decide
  unfold S_MD_figures_S1
  simp only [↓zjpE, ↓zletE, ↓zciE, ↓zcvE, ↓zchkE, ↓reduceIte, zciE, zcvE, nI_1, h0, hah]
theorem m_fs (hw : WL w s) (hM : MX D s n ch) (hq : q ≤ 200) {ah dg : Int32} (hah : ¬ ah = -1) {u : Nat} (hu : 1 ≤ u ∧ u ≤ 10) (hv : v ≤ 1000) (hl : lo ≤ 1000) (hh : hi ≤ 1000) {j : Int32 → Int32 → zD → Option (Int32 × zD)} : S_MD_figures_S1 w (s + 634) ah dg (nI lo) (nI hi) j (nI v) (nI u) (mD D s q o V) = if q < n ∧ 48 ≤ ch q ∧ ch q ≤ 57 ∧ v + (ch q - 48) * u ≤ hi ∧ lo ≤ v + (ch q - 48) * u + u - 1 then j (nI (v + (ch q - 48) * u)) (nI (u / 10)) (mD D s (q + 1) o V) else some (-1, mD D s q o V) := by
  obtain ⟨hn, e1, e2⟩ := hM
  have u0 : ¬ nI u ≤ 0 := nI_nle (by omega) (by omega)
  have hle : (nI n ≤ nI q) = (n ≤ q) := propext (nI_leI (by omega) (by omega))
  unfold S_MD_figures_S1
  by_cases hqn : q < n
  · have hc : ¬ n ≤ q := by omega
    have h256 := (e2 q hqn).1
    by_cases h48 : 48 ≤ ch q
    · have hs : nI (ch q) - 48 = nI (ch q - 48) := pk_sub h48
      have hb : (ch q - 48) * u ≤ 207 * 10 := Nat.mul_le_mul (by omega) hu.2
      have hvm : nI v + nI (ch q - 48) * nI u = nI (v + (ch q - 48) * u) := by rw [pk_mul, nI_add]
      have hin : ((0 : Int32) ≤ nI (ch q - 48) ∧ nI (ch q - 48) ≤ 9) = (ch q ≤ 57) := propext ⟨fun h => by
        have := (nI_leI (b := 9) (by omega) (by decide)).1 h.2
        omega, fun h => ⟨nI_pos' (by omega), nI_le (b := 9) (by omega) (by decide)⟩⟩
      generalize (ch q - 48) * u = m at *
      have h1 : (nI hi < nI (v + m)) = (hi < v + m) := propext (nI_ltI (by omega) (by omega))
      have h2 : nI (v + m) + nI u - 1 = nI (v + m + u - 1) := by
        rw [nI_add, show (1 : Int32) = nI 1 from rfl, pk_sub (by omega)]
      have h3 : (nI lo ≤ nI (v + m + u - 1)) = (lo ≤ v + m + u - 1) := propext (nI_leI (by omega) (by omega))
      by_cases h57 : ch q ≤ 57
      · by_cases g1 : hi < v + m
        · have g1' : ¬ v + m ≤ hi := by omega
          simp only [↓zjpE, ↓zletE, ↓zciE, ↓zcvE, ↓zchkE, ↓reduceIte, zciE, zcvE, nI_1, ↓WSo hw, ↓WSr0 hw, ↓WSr1 hw, ↓WSr2 hw, ↓WSr3 hw, ↓WSr4 hw, ↓WSg5 hw, ↓WSp5 hw, ↓WSg6 hw, ↓WSp6 hw, ↓WSr7 hw, ↓WSr8 hw, ↓WTo hw, ↓WTr0 hw, ↓WTg1 hw, ↓WTp1 hw, ↓WTg2 hw, ↓WTp2 hw, ↓WTg3 hw, ↓WTp3 hw, ↓WTr4 hw, ↓WMo hw, ↓WMg0 hw, ↓WMp0 hw, ↓WMr1 hw, ↓WMg2 hw, ↓WMp2 hw, ↓WMr3 hw, ↓WMr4 hw, ↓WMr5 hw, ↓WMg6 hw, ↓WMp6 hw, ↓WMr7 hw, ↓WMr8 hw, ↓WMg9 hw, ↓WMp9 hw, ↓WMg10 hw, ↓WMp10 hw, u0, hah, mD_2, mD_9, mD_10, mD_x, mD_w9, mD_w10, e1, hle, hc, ↓zald_of (i := q) (n := 120) (Wx hw) (by omega) (by decide), (e2 q hqn).2, hs, hvm, ↓zI0_9, hin, h57, h1, g1, g1', d10, true_or, or_true, true_and, and_true, and_false, false_and, and_self, if_true, if_false]
        · have g1' : v + m ≤ hi := by omega
          by_cases g2 : lo ≤ v + m + u - 1
          · simp only [↓zjpE, ↓zletE, ↓zciE, ↓zcvE, ↓zchkE, ↓reduceIte, zciE, zcvE, nI_1, ↓WSo hw, ↓WSr0 hw, ↓WSr1 hw, ↓WSr2 hw, ↓WSr3 hw, ↓WSr4 hw, ↓WSg5 hw, ↓WSp5 hw, ↓WSg6 hw, ↓WSp6 hw, ↓WSr7 hw, ↓WSr8 hw, ↓WTo hw, ↓WTr0 hw, ↓WTg1 hw, ↓WTp1 hw, ↓WTg2 hw, ↓WTp2 hw, ↓WTg3 hw, ↓WTp3 hw, ↓WTr4 hw, ↓WMo hw, ↓WMg0 hw, ↓WMp0 hw, ↓WMr1 hw, ↓WMg2 hw, ↓WMp2 hw, ↓WMr3 hw, ↓WMr4 hw, ↓WMr5 hw, ↓WMg6 hw, ↓WMp6 hw, ↓WMr7 hw, ↓WMr8 hw, ↓WMg9 hw, ↓WMp9 hw, ↓WMg10 hw, ↓WMp10 hw, u0, hah, mD_2, mD_9, mD_10, mD_x, mD_w9, mD_w10, e1, hle, hc, ↓zald_of (i := q) (n := 120) (Wx hw) (by omega) (by decide), (e2 q hqn).2, hs, hvm, ↓zI0_9, hin, h57, h48, hqn, h1, g1, g1', h2, h3, g2, d10, dl10 (show u < 2 ^ 31 by omega), true_or, or_true, true_and, and_true, and_false, false_and, and_self, if_true, if_false]
          · simp only [↓zjpE, ↓zletE, ↓zciE, ↓zcvE, ↓zchkE, ↓reduceIte, zciE, zcvE, nI_1, ↓WSo hw, ↓WSr0 hw, ↓WSr1 hw, ↓WSr2 hw, ↓WSr3 hw, ↓WSr4 hw, ↓WSg5 hw, ↓WSp5 hw, ↓WSg6 hw, ↓WSp6 hw, ↓WSr7 hw, ↓WSr8 hw, ↓WTo hw, ↓WTr0 hw, ↓WTg1 hw, ↓WTp1 hw, ↓WTg2 hw, ↓WTp2 hw, ↓WTg3 hw, ↓WTp3 hw, ↓WTr4 hw, ↓WMo hw, ↓WMg0 hw, ↓WMp0 hw, ↓WMr1 hw, ↓WMg2 hw, ↓WMp2 hw, ↓WMr3 hw, ↓WMr4 hw, ↓WMr5 hw, ↓WMg6 hw, ↓WMp6 hw, ↓WMr7 hw, ↓WMr8 hw, ↓WMg9 hw, ↓WMp9 hw, ↓WMg10 hw, ↓WMp10 hw, u0, hah, mD_2, mD_9, mD_10, mD_x, mD_w9, mD_w10, e1, hle, hc, ↓zald_of (i := q) (n := 120) (Wx hw) (by omega) (by decide), (e2 q hqn).2, hs, hvm, ↓zI0_9, hin, h57, h1, g1, g1', h2, h3, g2, d10, true_or, or_true, true_and, and_true, and_false, false_and, and_self, if_true, if_false]
      · simp only [↓zjpE, ↓zletE, ↓zciE, ↓zcvE, ↓zchkE, ↓reduceIte, zciE, zcvE, nI_1, ↓WSo hw, ↓WSr0 hw, ↓WSr1 hw, ↓WSr2 hw, ↓WSr3 hw, ↓WSr4 hw, ↓WSg5 hw, ↓WSp5 hw, ↓WSg6 hw, ↓WSp6 hw, ↓WSr7 hw, ↓WSr8 hw, ↓WTo hw, ↓WTr0 hw, ↓WTg1 hw, ↓WTp1 hw, ↓WTg2 hw, ↓WTp2 hw, ↓WTg3 hw, ↓WTp3 hw, ↓WTr4 hw, ↓WMo hw, ↓WMg0 hw, ↓WMp0 hw, ↓WMr1 hw, ↓WMg2 hw, ↓WMp2 hw, ↓WMr3 hw, ↓WMr4 hw, ↓WMr5 hw, ↓WMg6 hw, ↓WMp6 hw, ↓WMr7 hw, ↓WMr8 hw, ↓WMg9 hw, ↓WMp9 hw, ↓WMg10 hw, ↓WMp10 hw, u0, hah, mD_2, mD_9, mD_10, mD_x, mD_w9, mD_w10, e1, hle, hc, ↓zald_of (i := q) (n := 120) (Wx hw) (by omega) (by decide), (e2 q hqn).2, hs, hvm, ↓zI0_9, hin, h57, true_or, or_true, true_and, and_true, and_false, false_and, and_self, if_true, if_false]
    · have hin : ((0 : Int32) ≤ nI (ch q) - 48 ∧ nI (ch q) - 48 ≤ 9) = False := eq_false (fun h => absurd h.1 (Int32.not_le.mpr (pk_sneg (b := 48) (by decide) (by omega))))
      simp only [↓zjpE, ↓zletE, ↓zciE, ↓zcvE, ↓zchkE, ↓reduceIte, zciE, zcvE, nI_1, ↓WSo hw, ↓WSr0 hw, ↓WSr1 hw, ↓WSr2 hw, ↓WSr3 hw, ↓WSr4 hw, ↓WSg5 hw, ↓WSp5 hw, ↓WSg6 hw, ↓WSp6 hw, ↓WSr7 hw, ↓WSr8 hw, ↓WTo hw, ↓WTr0 hw, ↓WTg1 hw, ↓WTp1 hw, ↓WTg2 hw, ↓WTp2 hw, ↓WTg3 hw, ↓WTp3 hw, ↓WTr4 hw, ↓WMo hw, ↓WMg0 hw, ↓WMp0 hw, ↓WMr1 hw, ↓WMg2 hw, ↓WMp2 hw, ↓WMr3 hw, ↓WMr4 hw, ↓WMr5 hw, ↓WMg6 hw, ↓WMp6 hw, ↓WMr7 hw, ↓WMr8 hw, ↓WMg9 hw, ↓WMp9 hw, ↓WMg10 hw, ↓WMp10 hw, u0, hah, mD_2, mD_9, mD_10, mD_x, mD_w9, mD_w10, e1, hle, hc, ↓zald_of (i := q) (n := 120) (Wx hw) (by omega) (by decide), (e2 q hqn).2, ↓zI0_9, hin, h48, true_or, or_true, true_and, and_true, and_false, false_and, and_self, if_true, if_false]
  · have hc : n ≤ q := by omega
    have hin : ((0 : Int32) ≤ (-1 : Int32) ∧ (-1 : Int32) ≤ 9) = False := eq_false (by decide)
    simp only [↓zjpE, ↓zletE, ↓zciE, ↓zcvE, ↓zchkE, ↓reduceIte, zciE, zcvE, nI_1, ↓WSo hw, ↓WSr0 hw, ↓WSr1 hw, ↓WSr2 hw, ↓WSr3 hw, ↓WSr4 hw, ↓WSg5 hw, ↓WSp5 hw, ↓WSg6 hw, ↓WSp6 hw, ↓WSr7 hw, ↓WSr8 hw, ↓WTo hw, ↓WTr0 hw, ↓WTg1 hw, ↓WTp1 hw, ↓WTg2 hw, ↓WTp2 hw, ↓WTg3 hw, ↓WTp3 hw, ↓WTr4 hw, ↓WMo hw, ↓WMg0 hw, ↓WMp0 hw, ↓WMr1 hw, ↓WMg2 hw, ↓WMp2 hw, ↓WMr3 hw, ↓WMr4 hw, ↓WMr5 hw, ↓WMg6 hw, ↓WMp6 hw, ↓WMr7 hw, ↓WMr8 hw, ↓WMg9 hw, ↓WMp9 hw, ↓WMg10 hw, ↓WMp10 hw, u0, hah, mD_2, mD_9, mD_10, mD_x, mD_w9, mD_w10, e1, hle, hc, ↓zI0_9, hin, hqn, true_or, or_true, true_and, and_true, and_false, false_and, and_self, if_true, if_false]
theorem mX (hw : WL w s) {dg x y : Int32} : f_MD_figures w D (s + 634) (-1) dg x y = some (-1, D) := by
  have hA : ∀ j a b, S_MD_figures_S1 w (s + 634) (-1) dg x y j a b D = some (-1, D) := fun j a b => by
    unfold S_MD_figures_S1
    by_cases h : b ≤ 0
    · simp only [↓zjpE, ↓zletE, ↓zciE, ↓zcvE, ↓zchkE, ↓reduceIte, zciE, zcvE, nI_1, h]
    · simp only [↓zjpE, ↓zletE, ↓zciE, ↓zcvE, ↓zchkE, ↓reduceIte, zciE, zcvE, nI_1, h]
  rw [u_MD_figures]
  simp only [↓zjpE]
  split <;> rw [zlp_z, hA]
theorem mO1 (hw : WL w s) (hM : MX D s n ch) (hq : q ≤ 200) {ah : Int32} (hah : ¬ ah = -1) (hl : lo ≤ 9) (hh : hi ≤ 9) (h : rdO ch n lo hi q = (some v, p)) : f_MD_figures w (mD D s q o V) (s + 634) ah 1 (nI lo) (nI hi) = some (nI v, mD D s p o V) := by
  unfold rdO at h
  split at h
  · rename_i hC
    cases h
    have hs := m_fs (o := o) (V := V) (lo := lo) (hi := hi) (v := 0) (u := 1) (dg := 1) (j := zlp (fun (_ : Int32) (_ : Int32) (_ : zD) => none) (S_MD_figures_S1 w (s + 634) ah 1 (nI lo) (nI hi)) 7999) hw hM hq hah (by omega) (by omega) (by omega) (by omega)
    rw [if_pos ⟨hC.1, hC.2.1, hC.2.2.1, by omega, by omega⟩] at hs
    rw [u_MD_figures]
    simp only [↓zjpE]
    rw [if_neg (by decide), zlp_z]
    refine Eq.trans hs ?_
    show S_MD_figures_S1 w (s + 634) ah 1 (nI lo) (nI hi) _ _ (nI 0) _ = _
    rw [m_fe hw hah, Nat.zero_add, Nat.mul_one]
  · cases h
theorem mO0 (hw : WL w s) (hM : MX D s n ch) (hq : q ≤ 200) {ah : Int32} (hah : ¬ ah = -1) (hl : lo ≤ 9) (hh : hi ≤ 9) (h : rdO ch n lo hi q = (none, p)) : f_MD_figures w (mD D s q o V) (s + 634) ah 1 (nI lo) (nI hi) = some (-1, mD D s p o V) := by
  unfold rdO at h
  split at h
  · cases h
  · rename_i hC
    cases h
    have hs := m_fs (o := o) (V := V) (lo := lo) (hi := hi) (v := 0) (u := 1) (dg := 1) (j := zlp (fun (_ : Int32) (_ : Int32) (_ : zD) => none) (S_MD_figures_S1 w (s + 634) ah 1 (nI lo) (nI hi)) 7999) hw hM hq hah (by omega) (by omega) (by omega) (by omega)
    rw [if_neg (fun hh => hC ⟨hh.1, hh.2.1, hh.2.2.1, by omega, by omega⟩)] at hs
    rw [u_MD_figures]
    simp only [↓zjpE]
    rw [if_neg (by decide), zlp_z]
    exact hs
theorem mT1 (hw : WL w s) (hM : MX D s n ch) (hq : q ≤ 199) {ah : Int32} (hah : ¬ ah = -1) (hl : lo ≤ 99) (hh : hi ≤ 99) (h : rdT ch n lo hi q = (some v, p)) : f_MD_figures w (mD D s q o V) (s + 634) ah 2 (nI lo) (nI hi) = some (nI v, mD D s p o V) := by
  unfold rdT at h
  split at h
  · rename_i hC
    split at h
    · rename_i hC2
      cases h
      have hs := m_fs (o := o) (V := V) (lo := lo) (hi := hi) (v := 0) (u := 10) (dg := 2) (j := zlp (fun (_ : Int32) (_ : Int32) (_ : zD) => none) (S_MD_figures_S1 w (s + 634) ah 2 (nI lo) (nI hi)) 7999) hw hM (show q ≤ 200 by omega) hah (by omega) (by omega) (by omega) (by omega)
      have hs2 := m_fs (q := q + 1) (o := o) (V := V) (lo := lo) (hi := hi) (v := 0 + (ch q - 48) * 10) (u := 1) (dg := 2) (j := zlp (fun (_ : Int32) (_ : Int32) (_ : zD) => none) (S_MD_figures_S1 w (s + 634) ah 2 (nI lo) (nI hi)) 7998) hw hM (by omega) hah (by omega) (by omega) (by omega) (by omega)
      rw [if_pos ⟨hC2.1, hC2.2.1, hC2.2.2.1, by omega, by omega⟩] at hs2
      rw [if_pos ⟨hC.1, hC.2.1, hC.2.2.1, by omega, by omega⟩] at hs
      rw [u_MD_figures]
      simp only [↓zjpE]
      rw [if_pos (by decide), zlp_z]
      refine Eq.trans hs ?_
      refine Eq.trans hs2 ?_
      show S_MD_figures_S1 w (s + 634) ah 2 (nI lo) (nI hi) _ _ (nI 0) _ = _
      rw [m_fe hw hah, show 0 + (ch q - 48) * 10 + (ch (q + 1) - 48) * 1 = 10 * (ch q - 48) + (ch (q + 1) - 48) by omega]
    · cases h
  · cases h
theorem mT0 (hw : WL w s) (hM : MX D s n ch) (hq : q ≤ 199) {ah : Int32} (hah : ¬ ah = -1) (hl : lo ≤ 99) (hh : hi ≤ 99) (h : rdT ch n lo hi q = (none, p)) : f_MD_figures w (mD D s q o V) (s + 634) ah 2 (nI lo) (nI hi) = some (-1, mD D s p o V) := by
  unfold rdT at h
  have hs := m_fs (o := o) (V := V) (lo := lo) (hi := hi) (v := 0) (u := 10) (dg := 2) (j := zlp (fun (_ : Int32) (_ : Int32) (_ : zD) => none) (S_MD_figures_S1 w (s + 634) ah 2 (nI lo) (nI hi)) 7999) hw hM (show q ≤ 200 by omega) hah (by omega) (by omega) (by omega) (by omega)
  rw [u_MD_figures]
  simp only [↓zjpE]
  rw [if_pos (by decide), zlp_z]
  split at h
  · rename_i hC
    rw [if_pos ⟨hC.1, hC.2.1, hC.2.2.1, by omega, by omega⟩] at hs
    split at h
    · cases h
    · rename_i hC2
      cases h
      have hs2 := m_fs (q := q + 1) (o := o) (V := V) (lo := lo) (hi := hi) (v := 0 + (ch q - 48) * 10) (u := 1) (dg := 2) (j := zlp (fun (_ : Int32) (_ : Int32) (_ : zD) => none) (S_MD_figures_S1 w (s + 634) ah 2 (nI lo) (nI hi)) 7998) hw hM (by omega) hah (by omega) (by omega) (by omega) (by omega)
      rw [if_neg (fun hh => hC2 ⟨hh.1, hh.2.1, hh.2.2.1, by omega, by omega⟩)] at hs2
      refine Eq.trans hs ?_
      exact hs2
  · rename_i hC
    cases h
    rw [if_neg (fun hh => hC ⟨hh.1, hh.2.1, hh.2.2.1, by omega, by omega⟩)] at hs
    exact hs
theorem mEX (hw : WL w s) {x y : Int32} : f_MD_either w (mD D s q o V) (s + 634) (-1) x y = some (-1, mD D s q o V) := by
  have h0 : nI q + (0 : Int32) = nI q := nI_add q 0
  unfold f_MD_either
  simp only [↓zjpE, ↓zletE, ↓zciE, ↓zcvE, ↓zchkE, ↓reduceIte, zciE, zcvE, nI_1, ↓WSo hw, ↓WSr0 hw, ↓WSr1 hw, ↓WSr2 hw, ↓WSr3 hw, ↓WSr4 hw, ↓WSg5 hw, ↓WSp5 hw, ↓WSg6 hw, ↓WSp6 hw, ↓WSr7 hw, ↓WSr8 hw, ↓WTo hw, ↓WTr0 hw, ↓WTg1 hw, ↓WTp1 hw, ↓WTg2 hw, ↓WTp2 hw, ↓WTg3 hw, ↓WTp3 hw, ↓WTr4 hw, ↓WMo hw, ↓WMg0 hw, ↓WMp0 hw, ↓WMr1 hw, ↓WMg2 hw, ↓WMp2 hw, ↓WMr3 hw, ↓WMr4 hw, ↓WMr5 hw, ↓WMg6 hw, ↓WMp6 hw, ↓WMr7 hw, ↓WMr8 hw, ↓WMg9 hw, ↓WMp9 hw, ↓WMg10 hw, ↓WMp10 hw, mD_2, mD_9, mD_10, mD_x, mD_w9, mD_w10, h0]
theorem mE1 (hw : WL w s) (hM : MX D s n ch) (hq : q ≤ 200) {ah : Int32} (hah : ¬ ah = -1) {x y : Nat} (hx : x < 256) (hy : y < 256) (h : rdE ch n x y q = (some v, p)) : f_MD_either w (mD D s q o V) (s + 634) ah (nI x) (nI y) = some (if v = x then 1 else 0, mD D s p o V) := by
  obtain ⟨hn, e1, e2⟩ := hM
  unfold rdE at h
  split at h
  · rename_i hC
    cases h
    have h256 := (e2 q hC.1).1
    have hle : ¬ nI n ≤ nI q := nI_ge hC.1 (by omega)
    have hxe : (nI (ch q) = nI x) = (ch q = x) := propext (nI_eq (by omega) (by omega))
    have hye : (nI (ch q) = nI y) = (ch q = y) := propext (nI_eq (by omega) (by omega))
    unfold f_MD_either
    by_cases hxc : ch q = x
    · simp only [↓zjpE, ↓zletE, ↓zciE, ↓zcvE, ↓zchkE, ↓reduceIte, zciE, zcvE, nI_1, ↓WSo hw, ↓WSr0 hw, ↓WSr1 hw, ↓WSr2 hw, ↓WSr3 hw, ↓WSr4 hw, ↓WSg5 hw, ↓WSp5 hw, ↓WSg6 hw, ↓WSp6 hw, ↓WSr7 hw, ↓WSr8 hw, ↓WTo hw, ↓WTr0 hw, ↓WTg1 hw, ↓WTp1 hw, ↓WTg2 hw, ↓WTp2 hw, ↓WTg3 hw, ↓WTp3 hw, ↓WTr4 hw, ↓WMo hw, ↓WMg0 hw, ↓WMp0 hw, ↓WMr1 hw, ↓WMg2 hw, ↓WMp2 hw, ↓WMr3 hw, ↓WMr4 hw, ↓WMr5 hw, ↓WMg6 hw, ↓WMp6 hw, ↓WMr7 hw, ↓WMr8 hw, ↓WMg9 hw, ↓WMp9 hw, ↓WMg10 hw, ↓WMp10 hw, mD_2, mD_9, mD_10, mD_x, mD_w9, mD_w10, hah, e1, hle, ↓zald_of (i := q) (n := 120) (Wx hw) (by omega) (by decide), (e2 q hC.1).2, hxe, hxc, d10, true_or, or_true, true_and, and_true, and_false, false_and, and_self, if_true, if_false]
    · have hyc : ch q = y := hC.2.resolve_left hxc
      simp only [↓zjpE, ↓zletE, ↓zciE, ↓zcvE, ↓zchkE, ↓reduceIte, zciE, zcvE, nI_1, ↓WSo hw, ↓WSr0 hw, ↓WSr1 hw, ↓WSr2 hw, ↓WSr3 hw, ↓WSr4 hw, ↓WSg5 hw, ↓WSp5 hw, ↓WSg6 hw, ↓WSp6 hw, ↓WSr7 hw, ↓WSr8 hw, ↓WTo hw, ↓WTr0 hw, ↓WTg1 hw, ↓WTp1 hw, ↓WTg2 hw, ↓WTp2 hw, ↓WTg3 hw, ↓WTp3 hw, ↓WTr4 hw, ↓WMo hw, ↓WMg0 hw, ↓WMp0 hw, ↓WMr1 hw, ↓WMg2 hw, ↓WMp2 hw, ↓WMr3 hw, ↓WMr4 hw, ↓WMr5 hw, ↓WMg6 hw, ↓WMp6 hw, ↓WMr7 hw, ↓WMr8 hw, ↓WMg9 hw, ↓WMp9 hw, ↓WMg10 hw, ↓WMp10 hw, mD_2, mD_9, mD_10, mD_x, mD_w9, mD_w10, hah, e1, hle, ↓zald_of (i := q) (n := 120) (Wx hw) (by omega) (by decide), (e2 q hC.1).2, hxe, hye, eq_false hxc, eq_true hyc, d10, true_or, or_true, true_and, and_true, and_false, false_and, and_self, if_true, if_false]
  · cases h
theorem mE0 (hw : WL w s) (hM : MX D s n ch) (hq : q ≤ 200) {ah : Int32} (hah : ¬ ah = -1) {x y : Nat} (hx : x < 256) (hy : y < 256) (h : rdE ch n x y q = (none, p)) : f_MD_either w (mD D s q o V) (s + 634) ah (nI x) (nI y) = some (-1, mD D s p o V) := by
  obtain ⟨hn, e1, e2⟩ := hM
  have h0 : nI q + (0 : Int32) = nI q := nI_add q 0
  unfold rdE at h
  split at h
  · cases h
  · rename_i hC
    have hqp : q = p := congrArg Prod.snd h
    subst hqp
    unfold f_MD_either
    by_cases hqn : q < n
    · have h256 := (e2 q hqn).1
      have hle : ¬ nI n ≤ nI q := nI_ge hqn (by omega)
      have hxc : ¬ nI (ch q) = nI x := fun h => hC ⟨hqn, Or.inl ((nI_eq (by omega) (by omega)).1 h)⟩
      have hyc : ¬ nI (ch q) = nI y := fun h => hC ⟨hqn, Or.inr ((nI_eq (by omega) (by omega)).1 h)⟩
      simp only [↓zjpE, ↓zletE, ↓zciE, ↓zcvE, ↓zchkE, ↓reduceIte, zciE, zcvE, nI_1, ↓WSo hw, ↓WSr0 hw, ↓WSr1 hw, ↓WSr2 hw, ↓WSr3 hw, ↓WSr4 hw, ↓WSg5 hw, ↓WSp5 hw, ↓WSg6 hw, ↓WSp6 hw, ↓WSr7 hw, ↓WSr8 hw, ↓WTo hw, ↓WTr0 hw, ↓WTg1 hw, ↓WTp1 hw, ↓WTg2 hw, ↓WTp2 hw, ↓WTg3 hw, ↓WTp3 hw, ↓WTr4 hw, ↓WMo hw, ↓WMg0 hw, ↓WMp0 hw, ↓WMr1 hw, ↓WMg2 hw, ↓WMp2 hw, ↓WMr3 hw, ↓WMr4 hw, ↓WMr5 hw, ↓WMg6 hw, ↓WMp6 hw, ↓WMr7 hw, ↓WMr8 hw, ↓WMg9 hw, ↓WMp9 hw, ↓WMg10 hw, ↓WMp10 hw, mD_2, mD_9, mD_10, mD_x, mD_w9, mD_w10, hah, e1, hle, ↓zald_of (i := q) (n := 120) (Wx hw) (by omega) (by decide), (e2 q hqn).2, hxc, hyc, h0, true_or, or_true, true_and, and_true, and_false, false_and, and_self, if_true, if_false]
    · have hle : nI n ≤ nI q := nI_le (by omega) (by omega)
      simp only [↓zjpE, ↓zletE, ↓zciE, ↓zcvE, ↓zchkE, ↓reduceIte, zciE, zcvE, nI_1, ↓WSo hw, ↓WSr0 hw, ↓WSr1 hw, ↓WSr2 hw, ↓WSr3 hw, ↓WSr4 hw, ↓WSg5 hw, ↓WSp5 hw, ↓WSg6 hw, ↓WSp6 hw, ↓WSr7 hw, ↓WSr8 hw, ↓WTo hw, ↓WTr0 hw, ↓WTg1 hw, ↓WTp1 hw, ↓WTg2 hw, ↓WTp2 hw, ↓WTg3 hw, ↓WTp3 hw, ↓WTr4 hw, ↓WMo hw, ↓WMg0 hw, ↓WMp0 hw, ↓WMr1 hw, ↓WMg2 hw, ↓WMp2 hw, ↓WMr3 hw, ↓WMr4 hw, ↓WMr5 hw, ↓WMg6 hw, ↓WMp6 hw, ↓WMr7 hw, ↓WMr8 hw, ↓WMg9 hw, ↓WMp9 hw, ↓WMg10 hw, ↓WMp10 hw, mD_2, mD_9, mD_10, mD_x, mD_w9, mD_w10, hah, e1, hle, h0, true_or, or_true, true_and, and_true, and_false, false_and, and_self, if_true, if_false]
theorem m_done1 (hw : WL w s) : f_MD_done w (mD D s q o V) (s + 634) 1 = some (1, mD D s q o V) := by
  have h0 : nI o + (0 : Int32) = nI o := nI_add o 0
  unfold f_MD_done
  simp only [↓zjpE, ↓zletE, ↓zciE, ↓zcvE, ↓zchkE, ↓reduceIte, zciE, zcvE, nI_1, ↓WSo hw, ↓WSr0 hw, ↓WSr1 hw, ↓WSr2 hw, ↓WSr3 hw, ↓WSr4 hw, ↓WSg5 hw, ↓WSp5 hw, ↓WSg6 hw, ↓WSp6 hw, ↓WSr7 hw, ↓WSr8 hw, ↓WTo hw, ↓WTr0 hw, ↓WTg1 hw, ↓WTp1 hw, ↓WTg2 hw, ↓WTp2 hw, ↓WTg3 hw, ↓WTp3 hw, ↓WTr4 hw, ↓WMo hw, ↓WMg0 hw, ↓WMp0 hw, ↓WMr1 hw, ↓WMg2 hw, ↓WMp2 hw, ↓WMr3 hw, ↓WMr4 hw, ↓WMr5 hw, ↓WMg6 hw, ↓WMp6 hw, ↓WMr7 hw, ↓WMr8 hw, ↓WMg9 hw, ↓WMp9 hw, ↓WMg10 hw, ↓WMp10 hw, mD_2, mD_9, mD_10, mD_x, mD_w9, mD_w10, d10, h0]
theorem m_done0 (hw : WL w s) : f_MD_done w (mD D s q o V) (s + 634) 0 = some (1, mD D s q (o + 1) V) := by
  unfold f_MD_done
  simp only [↓zjpE, ↓zletE, ↓zciE, ↓zcvE, ↓zchkE, ↓reduceIte, zciE, zcvE, nI_1, ↓WSo hw, ↓WSr0 hw, ↓WSr1 hw, ↓WSr2 hw, ↓WSr3 hw, ↓WSr4 hw, ↓WSg5 hw, ↓WSp5 hw, ↓WSg6 hw, ↓WSp6 hw, ↓WSr7 hw, ↓WSr8 hw, ↓WTo hw, ↓WTr0 hw, ↓WTg1 hw, ↓WTp1 hw, ↓WTg2 hw, ↓WTp2 hw, ↓WTg3 hw, ↓WTp3 hw, ↓WTr4 hw, ↓WMo hw, ↓WMg0 hw, ↓WMp0 hw, ↓WMr1 hw, ↓WMg2 hw, ↓WMp2 hw, ↓WMr3 hw, ↓WMr4 hw, ↓WMr5 hw, ↓WMg6 hw, ↓WMp6 hw, ↓WMr7 hw, ↓WMr8 hw, ↓WMg9 hw, ↓WMp9 hw, ↓WMg10 hw, ↓WMp10 hw, mD_2, mD_9, mD_10, mD_x, mD_w9, mD_w10]
end P69
