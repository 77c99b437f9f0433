/-! PURE: a command of the text, on both sides. -/
section P70
variable {β : Type} {w : zW} {D : zD} {s n p q o lo hi k v T : Nat} {l : Int32} {N V : Nat → Int32} {F G : Nat → Nat → Int32} {ch : Nat → Nat}
theorem nd10 : ¬ (1 : Int32) = 0 := by decide
theorem nd01 : ¬ (0 : Int32) = 1 := by decide
theorem nd1m : ¬ (1 : Int32) = -1 := by decide
theorem nd0m : ¬ (0 : Int32) = -1 := by decide
theorem rdT_b (h : rdT ch n lo hi p = (some v, q)) : q = p + 2 ∧ q ≤ n ∧ lo ≤ v ∧ v ≤ hi := by
  unfold rdT at h
  split at h
  · split at h
    · rename_i hC2; cases h; exact ⟨rfl, by omega, hC2.2.2.2.1, hC2.2.2.2.2⟩
    · cases h
  · cases h
theorem rdT_n (hp : p ≤ n) (h : rdT ch n lo hi p = (none, q)) : q ≤ n := by
  unfold rdT at h
  split at h
  · split at h
    · cases h
    · rename_i hC _; cases h; omega
  · cases h; exact hp
theorem rdO_b (h : rdO ch n lo hi p = (some v, q)) : q = p + 1 ∧ q ≤ n ∧ lo ≤ v ∧ v ≤ hi := by
  unfold rdO at h
  split at h
  · rename_i hC; cases h; exact ⟨rfl, by omega, hC.2.2.2.1, hC.2.2.2.2⟩
  · cases h
theorem rdO_n (hp : p ≤ n) (h : rdO ch n lo hi p = (none, q)) : q ≤ n := by
  unfold rdO at h
  split at h
  · cases h
  · cases h; exact hp
theorem rdE_b (h : rdE ch n lo hi p = (some v, q)) : q = p + 1 ∧ q ≤ n ∧ (v = lo ∨ v = hi) := by
  unfold rdE at h
  split at h
  · rename_i hC; cases h; exact ⟨rfl, by omega, hC.2⟩
  · cases h
theorem rdE_n (hp : p ≤ n) (h : rdE ch n lo hi p = (none, q)) : q ≤ n := by
  unfold rdE at h
  split at h
  · cases h
  · cases h; exact hp
theorem zNu0 (hw : WL w s) {k : Int32 → Option β} : zald w (zblk D (s + 4) F) 0 (s + 3) (0 : Int32) k = k (D (s + 3) 0) := by rw [show (0 : Int32) = nI 0 from rfl, zald_of (Wu hw) (by decide) (by decide), zblk_out (by omega)]
theorem zNu1 (hw : WL w s) {k : Int32 → Option β} : zald w (zblk D (s + 4) F) 0 (s + 3) (1 : Int32) k = k (D (s + 3) 1) := by rw [show (1 : Int32) = nI 1 from rfl, zald_of (Wu hw) (by decide) (by decide), zblk_out (by omega)]
theorem zNu2 (hw : WL w s) {k : Int32 → Option β} : zald w (zblk D (s + 4) F) 0 (s + 3) (2 : Int32) k = k (D (s + 3) 2) := by rw [show (2 : Int32) = nI 2 from rfl, zald_of (Wu hw) (by decide) (by decide), zblk_out (by omega)]
theorem zNu3 (hw : WL w s) {k : Int32 → Option β} : zald w (zblk D (s + 4) F) 0 (s + 3) (3 : Int32) k = k (D (s + 3) 3) := by rw [show (3 : Int32) = nI 3 from rfl, zald_of (Wu hw) (by decide) (by decide), zblk_out (by omega)]
theorem zNu4 (hw : WL w s) {k : Int32 → Option β} : zald w (zblk D (s + 4) F) 0 (s + 3) (4 : Int32) k = k (D (s + 3) 4) := by rw [show (4 : Int32) = nI 4 from rfl, zald_of (Wu hw) (by decide) (by decide), zblk_out (by omega)]
theorem zLu (hw : WL w s) {k : Int32 → Option β} : zlen w 0 (s + 3) k = k (nI 5) := zlen_of (Wu hw)
theorem is_txt {x1 x2 x3 x4 x5 : Nat} (h1 : 10 ≤ x1 ∧ x1 ≤ 70) (h2 : 10 ≤ x2 ∧ x2 ≤ 70) (h3 : 1 ≤ x3 ∧ x3 ≤ 5) (h4 : x4 ≤ 6) (h5 : 1 ≤ x5 ∧ x5 ≤ 20) : Is1 (nI x1 - 40) (nI x2 - 40) (nI x3) (nI x4 - 3) (nI x5) 1 0 := by
  obtain ⟨j1, rfl⟩ : ∃ j, x1 = j + 10 := ⟨x1 - 10, by omega⟩
  obtain ⟨j2, rfl⟩ : ∃ j, x2 = j + 10 := ⟨x2 - 10, by omega⟩
  obtain ⟨j3, rfl⟩ : ∃ j, x3 = 1 + j := ⟨x3 - 1, by omega⟩
  obtain ⟨j5, rfl⟩ : ∃ j, x5 = 1 + j := ⟨x5 - 1, by omega⟩
  have h := is_new (j1 := j1) (j2 := j2) (j3 := j3) (j4 := x4) (j5 := j5) (by omega) (by omega) (by omega) (by omega) (by omega)
  have e : ∀ j, nI (j + 10) - 40 = nI j - 30 := fun j => by
    rw [← nI_add, show nI 10 = (10 : Int32) from rfl]; grind
  rw [e, e, ← nI_add, ← nI_add]
  exact h
/-- what a command of the text at p does, on both sides: it is wrong at q, or is done -/
def StepF (w : zW) (s n p : Nat) (ch : Nat → Nat) : Prop := ∃ (q : Nat) (l' : Int32), q ≤ n ∧ (∀ D l N, TX D s n ch → ∃ N', f_FairText_readCommand w (tD D s p l N) (s + 1) = some (0, tD D s q l' N')) ∧ (∀ D o V, MX D s n ch → f_MD_readCommand w (mD D s p o V) (s + 634) (s + 637) = some (0, mD D s q o V))
def StepG (w : zW) (s n p : Nat) (ch : Nat → Nat) : Prop := ∃ (q : Nat) (l' : Int32) (P : (Nat → Int32) → Prop), p < q ∧ q ≤ n ∧ (∀ D l N, TX D s n ch → ∃ N', f_FairText_readCommand w (tD D s p l N) (s + 1) = some (1, tD D s q l' N') ∧ P N') ∧ ∀ F G T, RP F G T → T + 99 < 4000000 → ∃ F' G' u, RP F' G' (T + 99) ∧ (u = 0 ∨ u = 1) ∧ (∀ D o, MX D s n ch → f_MD_readCommand w (mD D s p o (vec G)) (s + 634) (s + 637) = some (1, mD D s q (o + u) (vec G'))) ∧ (∀ D, P (D (s + 3)) → f_SF_obeys w (zblk D (s + 4) F) (s + 4) l' (s + 3) = some (if u = 0 then 1 else 0, zblk D (s + 4) F'))
theorem st_115 (hw : WL w s) (hn : n ≤ 120) (hp : p < n) (hc : ch p = 115) : StepF w s n p ch ∨ StepG w s n p ch := by
  have hL := WL4 hw
  have hb := Wt hw
  obtain ⟨r1, q1, h1⟩ : ∃ r q, rdT ch n 10 70 (p + 1) = (r, q) := ⟨_, _, rfl⟩
  cases r1 with
  | none =>
    have b1 := rdT_n (by omega) h1
    refine Or.inl ⟨q1, nI 115, b1, fun D l N hX => ⟨N, ?_⟩, fun D o V hM => ?_⟩
    · have hN := c_next (l := l) (N := N) hw hX (show p ≤ 200 by omega)
      rw [if_pos hp, hc] at hN
      have e1 : f_FairText_readTwo w (tD D s (p + 1) (nI 115) N) (s + 1) 0 10 70 = some (0, tD D s q1 (nI 115) N) := cT0 (l := nI 115) (N := N) (k := 0) (lo := 10) (hi := 70) hw hX (by omega) (by decide) (by decide) (by decide) h1
      unfold f_FairText_readCommand
      simp only [↓zjpE, ↓zletE, ↓zciE, ↓zcvE, ↓zchkE, ↓reduceIte, zciE, zcvE, nI_1, ↓WSo hw, ↓WSr0 hw, ↓WSr1 hw, ↓WSr2 hw, ↓WSr3 hw, ↓WSr4 hw, ↓WSg5 hw, ↓WSp5 hw, ↓WSg6 hw, ↓WSp6 hw, ↓WSr7 hw, ↓WSr8 hw, ↓WTo hw, ↓WTr0 hw, ↓WTg1 hw, ↓WTp1 hw, ↓WTg2 hw, ↓WTp2 hw, ↓WTg3 hw, ↓WTp3 hw, ↓WTr4 hw, ↓WMo hw, ↓WMg0 hw, ↓WMp0 hw, ↓WMr1 hw, ↓WMg2 hw, ↓WMp2 hw, ↓WMr3 hw, ↓WMr4 hw, ↓WMr5 hw, ↓WMg6 hw, ↓WMp6 hw, ↓WMr7 hw, ↓WMr8 hw, ↓WMg9 hw, ↓WMp9 hw, ↓WMg10 hw, ↓WMp10 hw, tD_1, tD_2, tD_3, tD_c, tD_n, tD_w2, tD_w3, tD_wn, ↓zciX hN, ↓zciX e1, show (nI 115 = (99 : Int32)) = False from eq_false (by decide), show (nI 115 = (104 : Int32)) = False from eq_false (by decide), show (nI 115 = (111 : Int32)) = False from eq_false (by decide), show (nI 115 = (115 : Int32)) = True from eq_true (by decide), show (nI 115 = (116 : Int32)) = False from eq_false (by decide), show (nI 115 = (119 : Int32)) = False from eq_false (by decide), d10, true_or, or_true, true_and, and_true, and_false, false_and, and_self, if_true, if_false]
    · have hle := (hM.2.2 p hp).2
      rw [hc] at hle
      have m1 : f_MD_figures w (mD D s (p + 1) o V) (s + 634) 0 2 10 70 = some (-1, mD D s q1 o V) := mT0 (lo := 10) (hi := 70) hw hM (by omega) (by decide) (by decide) (by decide) h1
      unfold f_MD_readCommand f_MD_readSiren
      simp only [↓zjpE, ↓zletE, ↓zciE, ↓zcvE, ↓zchkE, ↓reduceIte, zciE, zcvE, nI_1, ↓WSo hw, ↓WSr0 hw, ↓WSr1 hw, ↓WSr2 hw, ↓WSr3 hw, ↓WSr4 hw, ↓WSg5 hw, ↓WSp5 hw, ↓WSg6 hw, ↓WSp6 hw, ↓WSr7 hw, ↓WSr8 hw, ↓WTo hw, ↓WTr0 hw, ↓WTg1 hw, ↓WTp1 hw, ↓WTg2 hw, ↓WTp2 hw, ↓WTg3 hw, ↓WTp3 hw, ↓WTr4 hw, ↓WMo hw, ↓WMg0 hw, ↓WMp0 hw, ↓WMr1 hw, ↓WMg2 hw, ↓WMp2 hw, ↓WMr3 hw, ↓WMr4 hw, ↓WMr5 hw, ↓WMg6 hw, ↓WMp6 hw, ↓WMr7 hw, ↓WMr8 hw, ↓WMg9 hw, ↓WMp9 hw, ↓WMg10 hw, ↓WMp10 hw, mD_2, mD_9, mD_10, mD_x, mD_w9, mD_w10, ↓zald_of (i := p) (n := 120) (Wx hw) (show p < 120 by omega) (by decide), hle, ↓zciX m1, ↓zciX (mX hw), ↓zciX (mEX hw), show (nI 115 = (99 : Int32)) = False from eq_false (by decide), show (nI 115 = (104 : Int32)) = False from eq_false (by decide), show (nI 115 = (111 : Int32)) = False from eq_false (by decide), show (nI 115 = (115 : Int32)) = True from eq_true (by decide), show (nI 115 = (116 : Int32)) = False from eq_false (by decide), show (nI 115 = (119 : Int32)) = False from eq_false (by decide), d10, true_or, or_true, true_and, and_true, and_false, false_and, and_self, if_true, if_false]
  | some v1 =>
    have b1 := rdT_b h1
    obtain ⟨r2, q2, h2⟩ : ∃ r q, rdT ch n 10 70 q1 = (r, q) := ⟨_, _, rfl⟩
    cases r2 with
    | none =>
      have b2 := rdT_n (by omega) h2
      refine Or.inl ⟨q2, nI 115, b2, fun D l N hX => ⟨(upd N 0 (nI v1)), ?_⟩, fun D o V hM => ?_⟩
      · have hN := c_next (l := l) (N := N) hw hX (show p ≤ 200 by omega)
        rw [if_pos hp, hc] at hN
        have e1 : f_FairText_readTwo w (tD D s (p + 1) (nI 115) N) (s + 1) 0 10 70 = some (1, tD D s q1 (nI 115) (upd N 0 (nI v1))) := cT1 (l := nI 115) (N := N) (k := 0) (lo := 10) (hi := 70) hw hX (by omega) (by decide) (by decide) (by decide) h1
        have e2 : f_FairText_readTwo w (tD D s q1 (nI 115) (upd N 0 (nI v1))) (s + 1) 1 10 70 = some (0, tD D s q2 (nI 115) (upd N 0 (nI v1))) := cT0 (l := nI 115) (N := (upd N 0 (nI v1))) (k := 1) (lo := 10) (hi := 70) hw hX (by omega) (by decide) (by decide) (by decide) h2
        unfold f_FairText_readCommand
        simp only [↓zjpE, ↓zletE, ↓zciE, ↓zcvE, ↓zchkE, ↓reduceIte, zciE, zcvE, nI_1, ↓WSo hw, ↓WSr0 hw, ↓WSr1 hw, ↓WSr2 hw, ↓WSr3 hw, ↓WSr4 hw, ↓WSg5 hw, ↓WSp5 hw, ↓WSg6 hw, ↓WSp6 hw, ↓WSr7 hw, ↓WSr8 hw, ↓WTo hw, ↓WTr0 hw, ↓WTg1 hw, ↓WTp1 hw, ↓WTg2 hw, ↓WTp2 hw, ↓WTg3 hw, ↓WTp3 hw, ↓WTr4 hw, ↓WMo hw, ↓WMg0 hw, ↓WMp0 hw, ↓WMr1 hw, ↓WMg2 hw, ↓WMp2 hw, ↓WMr3 hw, ↓WMr4 hw, ↓WMr5 hw, ↓WMg6 hw, ↓WMp6 hw, ↓WMr7 hw, ↓WMr8 hw, ↓WMg9 hw, ↓WMp9 hw, ↓WMg10 hw, ↓WMp10 hw, tD_1, tD_2, tD_3, tD_c, tD_n, tD_w2, tD_w3, tD_wn, ↓zciX hN, ↓zciX e1, ↓zciX e2, show (nI 115 = (99 : Int32)) = False from eq_false (by decide), show (nI 115 = (104 : Int32)) = False from eq_false (by decide), show (nI 115 = (111 : Int32)) = False from eq_false (by decide), show (nI 115 = (115 : Int32)) = True from eq_true (by decide), show (nI 115 = (116 : Int32)) = False from eq_false (by decide), show (nI 115 = (119 : Int32)) = False from eq_false (by decide), d10, true_or, or_true, true_and, and_true, and_false, false_and, and_self, if_true, if_false]
      · have hle := (hM.2.2 p hp).2
        rw [hc] at hle
        have m1 : f_MD_figures w (mD D s (p + 1) o V) (s + 634) 0 2 10 70 = some (nI v1, mD D s q1 o V) := mT1 (lo := 10) (hi := 70) hw hM (by omega) (by decide) (by decide) (by decide) h1
        have m2 : f_MD_figures w (mD D s q1 o V) (s + 634) (nI v1) 2 10 70 = some (-1, mD D s q2 o V) := mT0 (lo := 10) (hi := 70) hw hM (by omega) (nI_ne_m1 (by omega)) (by decide) (by decide) h2
        unfold f_MD_readCommand f_MD_readSiren
        simp only [↓zjpE, ↓zletE, ↓zciE, ↓zcvE, ↓zchkE, ↓reduceIte, zciE, zcvE, nI_1, ↓WSo hw, ↓WSr0 hw, ↓WSr1 hw, ↓WSr2 hw, ↓WSr3 hw, ↓WSr4 hw, ↓WSg5 hw, ↓WSp5 hw, ↓WSg6 hw, ↓WSp6 hw, ↓WSr7 hw, ↓WSr8 hw, ↓WTo hw, ↓WTr0 hw, ↓WTg1 hw, ↓WTp1 hw, ↓WTg2 hw, ↓WTp2 hw, ↓WTg3 hw, ↓WTp3 hw, ↓WTr4 hw, ↓WMo hw, ↓WMg0 hw, ↓WMp0 hw, ↓WMr1 hw, ↓WMg2 hw, ↓WMp2 hw, ↓WMr3 hw, ↓WMr4 hw, ↓WMr5 hw, ↓WMg6 hw, ↓WMp6 hw, ↓WMr7 hw, ↓WMr8 hw, ↓WMg9 hw, ↓WMp9 hw, ↓WMg10 hw, ↓WMp10 hw, mD_2, mD_9, mD_10, mD_x, mD_w9, mD_w10, ↓zald_of (i := p) (n := 120) (Wx hw) (show p < 120 by omega) (by decide), hle, ↓zciX m1, ↓zciX m2, ↓zciX (mX hw), ↓zciX (mEX hw), show (nI 115 = (99 : Int32)) = False from eq_false (by decide), show (nI 115 = (104 : Int32)) = False from eq_false (by decide), show (nI 115 = (111 : Int32)) = False from eq_false (by decide), show (nI 115 = (115 : Int32)) = True from eq_true (by decide), show (nI 115 = (116 : Int32)) = False from eq_false (by decide), show (nI 115 = (119 : Int32)) = False from eq_false (by decide), d10, true_or, or_true, true_and, and_true, and_false, false_and, and_self, if_true, if_false]
    | some v2 =>
      have b2 := rdT_b h2
      obtain ⟨r3, q3, h3⟩ : ∃ r q, rdO ch n 1 5 q2 = (r, q) := ⟨_, _, rfl⟩
      cases r3 with
      | none =>
        have b3 := rdO_n (by omega) h3
        refine Or.inl ⟨q3, nI 115, b3, fun D l N hX => ⟨(upd (upd N 0 (nI v1)) 1 (nI v2)), ?_⟩, fun D o V hM => ?_⟩
        · have hN := c_next (l := l) (N := N) hw hX (show p ≤ 200 by omega)
          rw [if_pos hp, hc] at hN
          have e1 : f_FairText_readTwo w (tD D s (p + 1) (nI 115) N) (s + 1) 0 10 70 = some (1, tD D s q1 (nI 115) (upd N 0 (nI v1))) := cT1 (l := nI 115) (N := N) (k := 0) (lo := 10) (hi := 70) hw hX (by omega) (by decide) (by decide) (by decide) h1
          have e2 : f_FairText_readTwo w (tD D s q1 (nI 115) (upd N 0 (nI v1))) (s + 1) 1 10 70 = some (1, tD D s q2 (nI 115) (upd (upd N 0 (nI v1)) 1 (nI v2))) := cT1 (l := nI 115) (N := (upd N 0 (nI v1))) (k := 1) (lo := 10) (hi := 70) hw hX (by omega) (by decide) (by decide) (by decide) h2
          have e3 : f_FairText_readOne w (tD D s q2 (nI 115) (upd (upd N 0 (nI v1)) 1 (nI v2))) (s + 1) 2 1 5 = some (0, tD D s q3 (nI 115) (upd (upd N 0 (nI v1)) 1 (nI v2))) := cO0 (l := nI 115) (N := (upd (upd N 0 (nI v1)) 1 (nI v2))) (lo := 1) (hi := 5) hw hX (by omega) (by decide) (by decide) h3
          unfold f_FairText_readCommand
          simp only [↓zjpE, ↓zletE, ↓zciE, ↓zcvE, ↓zchkE, ↓reduceIte, zciE, zcvE, nI_1, ↓WSo hw, ↓WSr0 hw, ↓WSr1 hw, ↓WSr2 hw, ↓WSr3 hw, ↓WSr4 hw, ↓WSg5 hw, ↓WSp5 hw, ↓WSg6 hw, ↓WSp6 hw, ↓WSr7 hw, ↓WSr8 hw, ↓WTo hw, ↓WTr0 hw, ↓WTg1 hw, ↓WTp1 hw, ↓WTg2 hw, ↓WTp2 hw, ↓WTg3 hw, ↓WTp3 hw, ↓WTr4 hw, ↓WMo hw, ↓WMg0 hw, ↓WMp0 hw, ↓WMr1 hw, ↓WMg2 hw, ↓WMp2 hw, ↓WMr3 hw, ↓WMr4 hw, ↓WMr5 hw, ↓WMg6 hw, ↓WMp6 hw, ↓WMr7 hw, ↓WMr8 hw, ↓WMg9 hw, ↓WMp9 hw, ↓WMg10 hw, ↓WMp10 hw, tD_1, tD_2, tD_3, tD_c, tD_n, tD_w2, tD_w3, tD_wn, ↓zciX hN, ↓zciX e1, ↓zciX e2, ↓zciX e3, show (nI 115 = (99 : Int32)) = False from eq_false (by decide), show (nI 115 = (104 : Int32)) = False from eq_false (by decide), show (nI 115 = (111 : Int32)) = False from eq_false (by decide), show (nI 115 = (115 : Int32)) = True from eq_true (by decide), show (nI 115 = (116 : Int32)) = False from eq_false (by decide), show (nI 115 = (119 : Int32)) = False from eq_false (by decide), d10, true_or, or_true, true_and, and_true, and_false, false_and, and_self, if_true, if_false]
        · have hle := (hM.2.2 p hp).2
          rw [hc] at hle
          have m1 : f_MD_figures w (mD D s (p + 1) o V) (s + 634) 0 2 10 70 = some (nI v1, mD D s q1 o V) := mT1 (lo := 10) (hi := 70) hw hM (by omega) (by decide) (by decide) (by decide) h1
          have m2 : f_MD_figures w (mD D s q1 o V) (s + 634) (nI v1) 2 10 70 = some (nI v2, mD D s q2 o V) := mT1 (lo := 10) (hi := 70) hw hM (by omega) (nI_ne_m1 (by omega)) (by decide) (by decide) h2
          have m3 : f_MD_figures w (mD D s q2 o V) (s + 634) (nI v2) 1 1 5 = some (-1, mD D s q3 o V) := mO0 (lo := 1) (hi := 5) hw hM (by omega) (nI_ne_m1 (by omega)) (by decide) (by decide) h3
          unfold f_MD_readCommand f_MD_readSiren
          simp only [↓zjpE, ↓zletE, ↓zciE, ↓zcvE, ↓zchkE, ↓reduceIte, zciE, zcvE, nI_1, ↓WSo hw, ↓WSr0 hw, ↓WSr1 hw, ↓WSr2 hw, ↓WSr3 hw, ↓WSr4 hw, ↓WSg5 hw, ↓WSp5 hw, ↓WSg6 hw, ↓WSp6 hw, ↓WSr7 hw, ↓WSr8 hw, ↓WTo hw, ↓WTr0 hw, ↓WTg1 hw, ↓WTp1 hw, ↓WTg2 hw, ↓WTp2 hw, ↓WTg3 hw, ↓WTp3 hw, ↓WTr4 hw, ↓WMo hw, ↓WMg0 hw, ↓WMp0 hw, ↓WMr1 hw, ↓WMg2 hw, ↓WMp2 hw, ↓WMr3 hw, ↓WMr4 hw, ↓WMr5 hw, ↓WMg6 hw, ↓WMp6 hw, ↓WMr7 hw, ↓WMr8 hw, ↓WMg9 hw, ↓WMp9 hw, ↓WMg10 hw, ↓WMp10 hw, mD_2, mD_9, mD_10, mD_x, mD_w9, mD_w10, ↓zald_of (i := p) (n := 120) (Wx hw) (show p < 120 by omega) (by decide), hle, ↓zciX m1, ↓zciX m2, ↓zciX m3, ↓zciX (mX hw), ↓zciX (mEX hw), show (nI 115 = (99 : Int32)) = False from eq_false (by decide), show (nI 115 = (104 : Int32)) = False from eq_false (by decide), show (nI 115 = (111 : Int32)) = False from eq_false (by decide), show (nI 115 = (115 : Int32)) = True from eq_true (by decide), show (nI 115 = (116 : Int32)) = False from eq_false (by decide), show (nI 115 = (119 : Int32)) = False from eq_false (by decide), d10, true_or, or_true, true_and, and_true, and_false, false_and, and_self, if_true, if_false]
      | some v3 =>
        have b3 := rdO_b h3
        obtain ⟨r4, q4, h4⟩ : ∃ r q, rdO ch n 0 6 q3 = (r, q) := ⟨_, _, rfl⟩
        cases r4 with
        | none =>
          have b4 := rdO_n (by omega) h4
          refine Or.inl ⟨q4, nI 115, b4, fun D l N hX => ⟨(upd (upd (upd N 0 (nI v1)) 1 (nI v2)) 2 (nI v3)), ?_⟩, fun D o V hM => ?_⟩
          · have hN := c_next (l := l) (N := N) hw hX (show p ≤ 200 by omega)
            rw [if_pos hp, hc] at hN
            have e1 : f_FairText_readTwo w (tD D s (p + 1) (nI 115) N) (s + 1) 0 10 70 = some (1, tD D s q1 (nI 115) (upd N 0 (nI v1))) := cT1 (l := nI 115) (N := N) (k := 0) (lo := 10) (hi := 70) hw hX (by omega) (by decide) (by decide) (by decide) h1
            have e2 : f_FairText_readTwo w (tD D s q1 (nI 115) (upd N 0 (nI v1))) (s + 1) 1 10 70 = some (1, tD D s q2 (nI 115) (upd (upd N 0 (nI v1)) 1 (nI v2))) := cT1 (l := nI 115) (N := (upd N 0 (nI v1))) (k := 1) (lo := 10) (hi := 70) hw hX (by omega) (by decide) (by decide) (by decide) h2
            have e3 : f_FairText_readOne w (tD D s q2 (nI 115) (upd (upd N 0 (nI v1)) 1 (nI v2))) (s + 1) 2 1 5 = some (1, tD D s q3 (nI 115) (upd (upd (upd N 0 (nI v1)) 1 (nI v2)) 2 (nI v3))) := cO1 (l := nI 115) (N := (upd (upd N 0 (nI v1)) 1 (nI v2))) (k := 2) (lo := 1) (hi := 5) hw hX (by omega) (by decide) (by decide) (by decide) h3
            have e4 : f_FairText_readOne w (tD D s q3 (nI 115) (upd (upd (upd N 0 (nI v1)) 1 (nI v2)) 2 (nI v3))) (s + 1) 3 0 6 = some (0, tD D s q4 (nI 115) (upd (upd (upd N 0 (nI v1)) 1 (nI v2)) 2 (nI v3))) := cO0 (l := nI 115) (N := (upd (upd (upd N 0 (nI v1)) 1 (nI v2)) 2 (nI v3))) (lo := 0) (hi := 6) hw hX (by omega) (by decide) (by decide) h4
            unfold f_FairText_readCommand
            simp only [↓zjpE, ↓zletE, ↓zciE, ↓zcvE, ↓zchkE, ↓reduceIte, zciE, zcvE, nI_1, ↓WSo hw, ↓WSr0 hw, ↓WSr1 hw, ↓WSr2 hw, ↓WSr3 hw, ↓WSr4 hw, ↓WSg5 hw, ↓WSp5 hw, ↓WSg6 hw, ↓WSp6 hw, ↓WSr7 hw, ↓WSr8 hw, ↓WTo hw, ↓WTr0 hw, ↓WTg1 hw, ↓WTp1 hw, ↓WTg2 hw, ↓WTp2 hw, ↓WTg3 hw, ↓WTp3 hw, ↓WTr4 hw, ↓WMo hw, ↓WMg0 hw, ↓WMp0 hw, ↓WMr1 hw, ↓WMg2 hw, ↓WMp2 hw, ↓WMr3 hw, ↓WMr4 hw, ↓WMr5 hw, ↓WMg6 hw, ↓WMp6 hw, ↓WMr7 hw, ↓WMr8 hw, ↓WMg9 hw, ↓WMp9 hw, ↓WMg10 hw, ↓WMp10 hw, tD_1, tD_2, tD_3, tD_c, tD_n, tD_w2, tD_w3, tD_wn, ↓zciX hN, ↓zciX e1, ↓zciX e2, ↓zciX e3, ↓zciX e4, show (nI 115 = (99 : Int32)) = False from eq_false (by decide), show (nI 115 = (104 : Int32)) = False from eq_false (by decide), show (nI 115 = (111 : Int32)) = False from eq_false (by decide), show (nI 115 = (115 : Int32)) = True from eq_true (by decide), show (nI 115 = (116 : Int32)) = False from eq_false (by decide), show (nI 115 = (119 : Int32)) = False from eq_false (by decide), d10, true_or, or_true, true_and, and_true, and_false, false_and, and_self, if_true, if_false]
          · have hle := (hM.2.2 p hp).2
            rw [hc] at hle
            have m1 : f_MD_figures w (mD D s (p + 1) o V) (s + 634) 0 2 10 70 = some (nI v1, mD D s q1 o V) := mT1 (lo := 10) (hi := 70) hw hM (by omega) (by decide) (by decide) (by decide) h1
            have m2 : f_MD_figures w (mD D s q1 o V) (s + 634) (nI v1) 2 10 70 = some (nI v2, mD D s q2 o V) := mT1 (lo := 10) (hi := 70) hw hM (by omega) (nI_ne_m1 (by omega)) (by decide) (by decide) h2
            have m3 : f_MD_figures w (mD D s q2 o V) (s + 634) (nI v2) 1 1 5 = some (nI v3, mD D s q3 o V) := mO1 (lo := 1) (hi := 5) hw hM (by omega) (nI_ne_m1 (by omega)) (by decide) (by decide) h3
            have m4 : f_MD_figures w (mD D s q3 o V) (s + 634) (nI v3) 1 0 6 = some (-1, mD D s q4 o V) := mO0 (lo := 0) (hi := 6) hw hM (by omega) (nI_ne_m1 (by omega)) (by decide) (by decide) h4
            unfold f_MD_readCommand f_MD_readSiren
            simp only [↓zjpE, ↓zletE, ↓zciE, ↓zcvE, ↓zchkE, ↓reduceIte, zciE, zcvE, nI_1, ↓WSo hw, ↓WSr0 hw, ↓WSr1 hw, ↓WSr2 hw, ↓WSr3 hw, ↓WSr4 hw, ↓WSg5 hw, ↓WSp5 hw, ↓WSg6 hw, ↓WSp6 hw, ↓WSr7 hw, ↓WSr8 hw, ↓WTo hw, ↓WTr0 hw, ↓WTg1 hw, ↓WTp1 hw, ↓WTg2 hw, ↓WTp2 hw, ↓WTg3 hw, ↓WTp3 hw, ↓WTr4 hw, ↓WMo hw, ↓WMg0 hw, ↓WMp0 hw, ↓WMr1 hw, ↓WMg2 hw, ↓WMp2 hw, ↓WMr3 hw, ↓WMr4 hw, ↓WMr5 hw, ↓WMg6 hw, ↓WMp6 hw, ↓WMr7 hw, ↓WMr8 hw, ↓WMg9 hw, ↓WMp9 hw, ↓WMg10 hw, ↓WMp10 hw, mD_2, mD_9, mD_10, mD_x, mD_w9, mD_w10, ↓zald_of (i := p) (n := 120) (Wx hw) (show p < 120 by omega) (by decide), hle, ↓zciX m1, ↓zciX m2, ↓zciX m3, ↓zciX m4, ↓zciX (mX hw), ↓zciX (mEX hw), show (nI 115 = (99 : Int32)) = False from eq_false (by decide), show (nI 115 = (104 : Int32)) = False from eq_false (by decide), show (nI 115 = (111 : Int32)) = False from eq_false (by decide), show (nI 115 = (115 : Int32)) = True from eq_true (by decide), show (nI 115 = (116 : Int32)) = False from eq_false (by decide), show (nI 115 = (119 : Int32)) = False from eq_false (by decide), d10, true_or, or_true, true_and, and_true, and_false, false_and, and_self, if_true, if_false]
        | some v4 =>
          have b4 := rdO_b h4
          obtain ⟨r5, q5, h5⟩ : ∃ r q, rdT ch n 1 20 q4 = (r, q) := ⟨_, _, rfl⟩
          cases r5 with
          | none =>
            have b5 := rdT_n (by omega) h5
            refine Or.inl ⟨q5, nI 115, b5, fun D l N hX => ⟨(upd (upd (upd (upd N 0 (nI v1)) 1 (nI v2)) 2 (nI v3)) 3 (nI v4)), ?_⟩, fun D o V hM => ?_⟩
            · have hN := c_next (l := l) (N := N) hw hX (show p ≤ 200 by omega)
              rw [if_pos hp, hc] at hN
              have e1 : f_FairText_readTwo w (tD D s (p + 1) (nI 115) N) (s + 1) 0 10 70 = some (1, tD D s q1 (nI 115) (upd N 0 (nI v1))) := cT1 (l := nI 115) (N := N) (k := 0) (lo := 10) (hi := 70) hw hX (by omega) (by decide) (by decide) (by decide) h1
              have e2 : f_FairText_readTwo w (tD D s q1 (nI 115) (upd N 0 (nI v1))) (s + 1) 1 10 70 = some (1, tD D s q2 (nI 115) (upd (upd N 0 (nI v1)) 1 (nI v2))) := cT1 (l := nI 115) (N := (upd N 0 (nI v1))) (k := 1) (lo := 10) (hi := 70) hw hX (by omega) (by decide) (by decide) (by decide) h2
              have e3 : f_FairText_readOne w (tD D s q2 (nI 115) (upd (upd N 0 (nI v1)) 1 (nI v2))) (s + 1) 2 1 5 = some (1, tD D s q3 (nI 115) (upd (upd (upd N 0 (nI v1)) 1 (nI v2)) 2 (nI v3))) := cO1 (l := nI 115) (N := (upd (upd N 0 (nI v1)) 1 (nI v2))) (k := 2) (lo := 1) (hi := 5) hw hX (by omega) (by decide) (by decide) (by decide) h3
              have e4 : f_FairText_readOne w (tD D s q3 (nI 115) (upd (upd (upd N 0 (nI v1)) 1 (nI v2)) 2 (nI v3))) (s + 1) 3 0 6 = some (1, tD D s q4 (nI 115) (upd (upd (upd (upd N 0 (nI v1)) 1 (nI v2)) 2 (nI v3)) 3 (nI v4))) := cO1 (l := nI 115) (N := (upd (upd (upd N 0 (nI v1)) 1 (nI v2)) 2 (nI v3))) (k := 3) (lo := 0) (hi := 6) hw hX (by omega) (by decide) (by decide) (by decide) h4
              have e5 : f_FairText_readTwo w (tD D s q4 (nI 115) (upd (upd (upd (upd N 0 (nI v1)) 1 (nI v2)) 2 (nI v3)) 3 (nI v4))) (s + 1) 4 1 20 = some (0, tD D s q5 (nI 115) (upd (upd (upd (upd N 0 (nI v1)) 1 (nI v2)) 2 (nI v3)) 3 (nI v4))) := cT0 (l := nI 115) (N := (upd (upd (upd (upd N 0 (nI v1)) 1 (nI v2)) 2 (nI v3)) 3 (nI v4))) (k := 4) (lo := 1) (hi := 20) hw hX (by omega) (by decide) (by decide) (by decide) h5
              unfold f_FairText_readCommand
              simp only [↓zjpE, ↓zletE, ↓zciE, ↓zcvE, ↓zchkE, ↓reduceIte, zciE, zcvE, nI_1, ↓WSo hw, ↓WSr0 hw, ↓WSr1 hw, ↓WSr2 hw, ↓WSr3 hw, ↓WSr4 hw, ↓WSg5 hw, ↓WSp5 hw, ↓WSg6 hw, ↓WSp6 hw, ↓WSr7 hw, ↓WSr8 hw, ↓WTo hw, ↓WTr0 hw, ↓WTg1 hw, ↓WTp1 hw, ↓WTg2 hw, ↓WTp2 hw, ↓WTg3 hw, ↓WTp3 hw, ↓WTr4 hw, ↓WMo hw, ↓WMg0 hw, ↓WMp0 hw, ↓WMr1 hw, ↓WMg2 hw, ↓WMp2 hw, ↓WMr3 hw, ↓WMr4 hw, ↓WMr5 hw, ↓WMg6 hw, ↓WMp6 hw, ↓WMr7 hw, ↓WMr8 hw, ↓WMg9 hw, ↓WMp9 hw, ↓WMg10 hw, ↓WMp10 hw, tD_1, tD_2, tD_3, tD_c, tD_n, tD_w2, tD_w3, tD_wn, ↓zciX hN, ↓zciX e1, ↓zciX e2, ↓zciX e3, ↓zciX e4, ↓zciX e5, show (nI 115 = (99 : Int32)) = False from eq_false (by decide), show (nI 115 = (104 : Int32)) = False from eq_false (by decide), show (nI 115 = (111 : Int32)) = False from eq_false (by decide), show (nI 115 = (115 : Int32)) = True from eq_true (by decide), show (nI 115 = (116 : Int32)) = False from eq_false (by decide), show (nI 115 = (119 : Int32)) = False from eq_false (by decide), d10, true_or, or_true, true_and, and_true, and_false, false_and, and_self, if_true, if_false]
            · have hle := (hM.2.2 p hp).2
              rw [hc] at hle
              have m1 : f_MD_figures w (mD D s (p + 1) o V) (s + 634) 0 2 10 70 = some (nI v1, mD D s q1 o V) := mT1 (lo := 10) (hi := 70) hw hM (by omega) (by decide) (by decide) (by decide) h1
              have m2 : f_MD_figures w (mD D s q1 o V) (s + 634) (nI v1) 2 10 70 = some (nI v2, mD D s q2 o V) := mT1 (lo := 10) (hi := 70) hw hM (by omega) (nI_ne_m1 (by omega)) (by decide) (by decide) h2
              have m3 : f_MD_figures w (mD D s q2 o V) (s + 634) (nI v2) 1 1 5 = some (nI v3, mD D s q3 o V) := mO1 (lo := 1) (hi := 5) hw hM (by omega) (nI_ne_m1 (by omega)) (by decide) (by decide) h3
              have m4 : f_MD_figures w (mD D s q3 o V) (s + 634) (nI v3) 1 0 6 = some (nI v4, mD D s q4 o V) := mO1 (lo := 0) (hi := 6) hw hM (by omega) (nI_ne_m1 (by omega)) (by decide) (by decide) h4
              have m5 : f_MD_figures w (mD D s q4 o V) (s + 634) (nI v4) 2 1 20 = some (-1, mD D s q5 o V) := mT0 (lo := 1) (hi := 20) hw hM (by omega) (nI_ne_m1 (by omega)) (by decide) (by decide) h5
              unfold f_MD_readCommand f_MD_readSiren
              simp only [↓zjpE, ↓zletE, ↓zciE, ↓zcvE, ↓zchkE, ↓reduceIte, zciE, zcvE, nI_1, ↓WSo hw, ↓WSr0 hw, ↓WSr1 hw, ↓WSr2 hw, ↓WSr3 hw, ↓WSr4 hw, ↓WSg5 hw, ↓WSp5 hw, ↓WSg6 hw, ↓WSp6 hw, ↓WSr7 hw, ↓WSr8 hw, ↓WTo hw, ↓WTr0 hw, ↓WTg1 hw, ↓WTp1 hw, ↓WTg2 hw, ↓WTp2 hw, ↓WTg3 hw, ↓WTp3 hw, ↓WTr4 hw, ↓WMo hw, ↓WMg0 hw, ↓WMp0 hw, ↓WMr1 hw, ↓WMg2 hw, ↓WMp2 hw, ↓WMr3 hw, ↓WMr4 hw, ↓WMr5 hw, ↓WMg6 hw, ↓WMp6 hw, ↓WMr7 hw, ↓WMr8 hw, ↓WMg9 hw, ↓WMp9 hw, ↓WMg10 hw, ↓WMp10 hw, mD_2, mD_9, mD_10, mD_x, mD_w9, mD_w10, ↓zald_of (i := p) (n := 120) (Wx hw) (show p < 120 by omega) (by decide), hle, ↓zciX m1, ↓zciX m2, ↓zciX m3, ↓zciX m4, ↓zciX m5, ↓zciX (mX hw), ↓zciX (mEX hw), show (nI 115 = (99 : Int32)) = False from eq_false (by decide), show (nI 115 = (104 : Int32)) = False from eq_false (by decide), show (nI 115 = (111 : Int32)) = False from eq_false (by decide), show (nI 115 = (115 : Int32)) = True from eq_true (by decide), show (nI 115 = (116 : Int32)) = False from eq_false (by decide), show (nI 115 = (119 : Int32)) = False from eq_false (by decide), d10, true_or, or_true, true_and, and_true, and_false, false_and, and_self, if_true, if_false]
          | some v5 =>
            have b5 := rdT_b h5
            refine Or.inr ⟨q5, nI 115, fun N => N 0 = nI v1 ∧ N 1 = nI v2 ∧ N 2 = nI v3 ∧ N 3 = nI v4 ∧ N 4 = nI v5, by omega, by omega, fun D l N hX => ⟨(upd (upd (upd (upd (upd N 0 (nI v1)) 1 (nI v2)) 2 (nI v3)) 3 (nI v4)) 4 (nI v5)), ?_, ⟨by simp [upd], by simp [upd], by simp [upd], by simp [upd], by simp [upd]⟩⟩, fun F G T hRP hT => ?_⟩
            · have hN := c_next (l := l) (N := N) hw hX (show p ≤ 200 by omega)
              rw [if_pos hp, hc] at hN
              have e1 : f_FairText_readTwo w (tD D s (p + 1) (nI 115) N) (s + 1) 0 10 70 = some (1, tD D s q1 (nI 115) (upd N 0 (nI v1))) := cT1 (l := nI 115) (N := N) (k := 0) (lo := 10) (hi := 70) hw hX (by omega) (by decide) (by decide) (by decide) h1
              have e2 : f_FairText_readTwo w (tD D s q1 (nI 115) (upd N 0 (nI v1))) (s + 1) 1 10 70 = some (1, tD D s q2 (nI 115) (upd (upd N 0 (nI v1)) 1 (nI v2))) := cT1 (l := nI 115) (N := (upd N 0 (nI v1))) (k := 1) (lo := 10) (hi := 70) hw hX (by omega) (by decide) (by decide) (by decide) h2
              have e3 : f_FairText_readOne w (tD D s q2 (nI 115) (upd (upd N 0 (nI v1)) 1 (nI v2))) (s + 1) 2 1 5 = some (1, tD D s q3 (nI 115) (upd (upd (upd N 0 (nI v1)) 1 (nI v2)) 2 (nI v3))) := cO1 (l := nI 115) (N := (upd (upd N 0 (nI v1)) 1 (nI v2))) (k := 2) (lo := 1) (hi := 5) hw hX (by omega) (by decide) (by decide) (by decide) h3
              have e4 : f_FairText_readOne w (tD D s q3 (nI 115) (upd (upd (upd N 0 (nI v1)) 1 (nI v2)) 2 (nI v3))) (s + 1) 3 0 6 = some (1, tD D s q4 (nI 115) (upd (upd (upd (upd N 0 (nI v1)) 1 (nI v2)) 2 (nI v3)) 3 (nI v4))) := cO1 (l := nI 115) (N := (upd (upd (upd N 0 (nI v1)) 1 (nI v2)) 2 (nI v3))) (k := 3) (lo := 0) (hi := 6) hw hX (by omega) (by decide) (by decide) (by decide) h4
              have e5 : f_FairText_readTwo w (tD D s q4 (nI 115) (upd (upd (upd (upd N 0 (nI v1)) 1 (nI v2)) 2 (nI v3)) 3 (nI v4))) (s + 1) 4 1 20 = some (1, tD D s q5 (nI 115) (upd (upd (upd (upd (upd N 0 (nI v1)) 1 (nI v2)) 2 (nI v3)) 3 (nI v4)) 4 (nI v5))) := cT1 (l := nI 115) (N := (upd (upd (upd (upd N 0 (nI v1)) 1 (nI v2)) 2 (nI v3)) 3 (nI v4))) (k := 4) (lo := 1) (hi := 20) hw hX (by omega) (by decide) (by decide) (by decide) h5
              unfold f_FairText_readCommand
              simp only [↓zjpE, ↓zletE, ↓zciE, ↓zcvE, ↓zchkE, ↓reduceIte, zciE, zcvE, nI_1, ↓WSo hw, ↓WSr0 hw, ↓WSr1 hw, ↓WSr2 hw, ↓WSr3 hw, ↓WSr4 hw, ↓WSg5 hw, ↓WSp5 hw, ↓WSg6 hw, ↓WSp6 hw, ↓WSr7 hw, ↓WSr8 hw, ↓WTo hw, ↓WTr0 hw, ↓WTg1 hw, ↓WTp1 hw, ↓WTg2 hw, ↓WTp2 hw, ↓WTg3 hw, ↓WTp3 hw, ↓WTr4 hw, ↓WMo hw, ↓WMg0 hw, ↓WMp0 hw, ↓WMr1 hw, ↓WMg2 hw, ↓WMp2 hw, ↓WMr3 hw, ↓WMr4 hw, ↓WMr5 hw, ↓WMg6 hw, ↓WMp6 hw, ↓WMr7 hw, ↓WMr8 hw, ↓WMg9 hw, ↓WMp9 hw, ↓WMg10 hw, ↓WMp10 hw, tD_1, tD_2, tD_3, tD_c, tD_n, tD_w2, tD_w3, tD_wn, ↓zciX hN, ↓zciX e1, ↓zciX e2, ↓zciX e3, ↓zciX e4, ↓zciX e5, show (nI 115 = (99 : Int32)) = False from eq_false (by decide), show (nI 115 = (104 : Int32)) = False from eq_false (by decide), show (nI 115 = (111 : Int32)) = False from eq_false (by decide), show (nI 115 = (115 : Int32)) = True from eq_true (by decide), show (nI 115 = (116 : Int32)) = False from eq_false (by decide), show (nI 115 = (119 : Int32)) = False from eq_false (by decide), d10, true_or, or_true, true_and, and_true, and_false, false_and, and_self, if_true, if_false]
            obtain ⟨ns, nh, nw, np, d, e, l9, t, hRR, ht⟩ := id hRP
            obtain ⟨h1', ⟨p9, q1', q2', q3', q4', q5', q6'⟩, hz, hB, ⟨n0, n1, n2, n3, n4, n5, n6, n7⟩, hS, hH, hW, hC, hP, hE, hK, hA⟩ := id hRR
            have hF1 : F 1 7 = nI ns := (r1_7 h1').trans n0
            have hF9 : F 9 6 = nI nh := (r9_6 h1').trans n2
            have hF16 : F 16 2 = nI nw := (r16_2 h1').trans n4
            have hmk : ¬ nI v5 = -1 := nI_ne_m1 (by omega)
            by_cases hfull : ns < 4
            · have hge : ¬ (4 : Int32) ≤ nI ns := nI_ge hfull (by decide)
              have hm1 : ¬ nI ns = -1 := nI_ne_m1 (by omega)
              have h0 : ¬ nI ns < 0 := nI_pos (by omega)
              refine ⟨sirF F ns (nI v1 - 40) (nI v2 - 40) (nI v3) (nI v4 - 3) (nI v5), sirF G ns (nI v1 - 40) (nI v2 - 40) (nI v3) (nI v4 - 3) (nI v5), 0, ⟨ns + 1, nh, nw, np, d, e, l9, t, RI_sir hRR hfull trivial (is_txt (by omega) (by omega) (by omega) (by omega) (by omega)), by omega⟩, Or.inl rfl, fun D o hM => ?_, fun D hN => ?_⟩
              · have hle := (hM.2.2 p hp).2
                rw [hc] at hle
                have m1 : f_MD_figures w (mD D s (p + 1) o (vec G)) (s + 634) 0 2 10 70 = some (nI v1, mD D s q1 o (vec G)) := mT1 (lo := 10) (hi := 70) hw hM (by omega) (by decide) (by decide) (by decide) h1
                have m2 : f_MD_figures w (mD D s q1 o (vec G)) (s + 634) (nI v1) 2 10 70 = some (nI v2, mD D s q2 o (vec G)) := mT1 (lo := 10) (hi := 70) hw hM (by omega) (nI_ne_m1 (by omega)) (by decide) (by decide) h2
                have m3 : f_MD_figures w (mD D s q2 o (vec G)) (s + 634) (nI v2) 1 1 5 = some (nI v3, mD D s q3 o (vec G)) := mO1 (lo := 1) (hi := 5) hw hM (by omega) (nI_ne_m1 (by omega)) (by decide) (by decide) h3
                have m4 : f_MD_figures w (mD D s q3 o (vec G)) (s + 634) (nI v3) 1 0 6 = some (nI v4, mD D s q4 o (vec G)) := mO1 (lo := 0) (hi := 6) hw hM (by omega) (nI_ne_m1 (by omega)) (by decide) (by decide) h4
                have m5 : f_MD_figures w (mD D s q4 o (vec G)) (s + 634) (nI v4) 2 1 20 = some (nI v5, mD D s q5 o (vec G)) := mT1 (lo := 1) (hi := 20) hw hM (by omega) (nI_ne_m1 (by omega)) (by decide) (by decide) h5
                have rd0 : ∀ {β : Type} (q : Nat) {k : Int32 → Option β}, zald w (mD D s q o (vec G)) 0 (s + 637) (0 : Int32) k = k (G 1 7) := fun q => Mrc0 hb
                have w2 : f_MD_sirenOn w (mD D s q5 o (vec G)) (s + 637) (nI v1 - 40) (nI v2 - 40) (nI v3) (nI v4 - 3) (nI v5) = some (nI ns, mD D s q5 o (vec (sirF G ns (nI v1 - 40) (nI v2 - 40) (nI v3) (nI v4 - 3) (nI v5)))) := m_addS hb hfull n0
                have dn : f_MD_done w (mD D s q5 o (vec (sirF G ns (nI v1 - 40) (nI v2 - 40) (nI v3) (nI v4 - 3) (nI v5)))) (s + 634) 1 = some (1, mD D s q5 (o + 0) (vec (sirF G ns (nI v1 - 40) (nI v2 - 40) (nI v3) (nI v4 - 3) (nI v5)))) := m_done1 hw
                unfold f_MD_readCommand f_MD_readSiren
                simp only [↓zjpE, ↓zletE, ↓zciE, ↓zcvE, ↓zchkE, ↓reduceIte, zciE, zcvE, nI_1, ↓WSo hw, ↓WSr0 hw, ↓WSr1 hw, ↓WSr2 hw, ↓WSr3 hw, ↓WSr4 hw, ↓WSg5 hw, ↓WSp5 hw, ↓WSg6 hw, ↓WSp6 hw, ↓WSr7 hw, ↓WSr8 hw, ↓WTo hw, ↓WTr0 hw, ↓WTg1 hw, ↓WTp1 hw, ↓WTg2 hw, ↓WTp2 hw, ↓WTg3 hw, ↓WTp3 hw, ↓WTr4 hw, ↓WMo hw, ↓WMg0 hw, ↓WMp0 hw, ↓WMr1 hw, ↓WMg2 hw, ↓WMp2 hw, ↓WMr3 hw, ↓WMr4 hw, ↓WMr5 hw, ↓WMg6 hw, ↓WMp6 hw, ↓WMr7 hw, ↓WMr8 hw, ↓WMg9 hw, ↓WMp9 hw, ↓WMg10 hw, ↓WMp10 hw, mD_2, mD_9, mD_10, mD_x, mD_w9, mD_w10, ↓zald_of (i := p) (n := 120) (Wx hw) (show p < 120 by omega) (by decide), hle, ↓zciX m1, ↓zciX m2, ↓zciX m3, ↓zciX m4, ↓zciX m5, show (nI 115 = (99 : Int32)) = False from eq_false (by decide), show (nI 115 = (104 : Int32)) = False from eq_false (by decide), show (nI 115 = (111 : Int32)) = False from eq_false (by decide), show (nI 115 = (115 : Int32)) = True from eq_true (by decide), show (nI 115 = (116 : Int32)) = False from eq_false (by decide), show (nI 115 = (119 : Int32)) = False from eq_false (by decide), true_or, or_true, true_and, and_true, and_false, false_and, and_self, if_true, if_false, ↓rd0 q5, n0, hge, hmk, ↓zciX w2, h0, ↓zciX dn]
                try rw [if_neg nd1m]
                try rw [if_neg nd0m]
                try rw [if_neg nd10]
                try rw [if_neg nd01]
                try simp only [↓zjpE, ↓zletE, ↓zciE, ↓zcvE, ↓zchkE, ↓reduceIte, zciE, zcvE, nI_1, ↓WSo hw, ↓WSr0 hw, ↓WSr1 hw, ↓WSr2 hw, ↓WSr3 hw, ↓WSr4 hw, ↓WSg5 hw, ↓WSp5 hw, ↓WSg6 hw, ↓WSp6 hw, ↓WSr7 hw, ↓WSr8 hw, ↓WTo hw, ↓WTr0 hw, ↓WTg1 hw, ↓WTp1 hw, ↓WTg2 hw, ↓WTp2 hw, ↓WTg3 hw, ↓WTp3 hw, ↓WTr4 hw, ↓WMo hw, ↓WMg0 hw, ↓WMp0 hw, ↓WMr1 hw, ↓WMg2 hw, ↓WMp2 hw, ↓WMr3 hw, ↓WMr4 hw, ↓WMr5 hw, ↓WMg6 hw, ↓WMp6 hw, ↓WMr7 hw, ↓WMr8 hw, ↓WMg9 hw, ↓WMp9 hw, ↓WMg10 hw, ↓WMp10 hw, true_or, or_true, true_and, and_true, and_false, false_and, and_self, if_true, if_false, ↓rd0 q5, n0, hge, hmk, ↓zciX w2, h0, ↓zciX dn]
                try rw [if_neg nd1m]
                try rw [if_neg nd0m]
                try rw [if_neg nd10]
                try rw [if_neg nd01]
                try simp only [↓zjpE, ↓zletE, ↓zciE, ↓zcvE, ↓zchkE, ↓reduceIte, zciE, zcvE, nI_1, ↓WSo hw, ↓WSr0 hw, ↓WSr1 hw, ↓WSr2 hw, ↓WSr3 hw, ↓WSr4 hw, ↓WSg5 hw, ↓WSp5 hw, ↓WSg6 hw, ↓WSp6 hw, ↓WSr7 hw, ↓WSr8 hw, ↓WTo hw, ↓WTr0 hw, ↓WTg1 hw, ↓WTp1 hw, ↓WTg2 hw, ↓WTp2 hw, ↓WTg3 hw, ↓WTp3 hw, ↓WTr4 hw, ↓WMo hw, ↓WMg0 hw, ↓WMp0 hw, ↓WMr1 hw, ↓WMg2 hw, ↓WMp2 hw, ↓WMr3 hw, ↓WMr4 hw, ↓WMr5 hw, ↓WMg6 hw, ↓WMp6 hw, ↓WMr7 hw, ↓WMr8 hw, ↓WMg9 hw, ↓WMp9 hw, ↓WMg10 hw, ↓WMp10 hw, true_or, or_true, true_and, and_true, and_false, false_and, and_self, if_true, if_false, ↓rd0 q5, n0, hge, hmk, ↓zciX w2, h0, ↓zciX dn]
                try rw [if_neg nd1m]
                try rw [if_neg nd0m]
                try rw [if_neg nd10]
                try rw [if_neg nd01]
                try simp only [↓zjpE, ↓zletE, ↓zciE, ↓zcvE, ↓zchkE, ↓reduceIte, zciE, zcvE, nI_1, ↓WSo hw, ↓WSr0 hw, ↓WSr1 hw, ↓WSr2 hw, ↓WSr3 hw, ↓WSr4 hw, ↓WSg5 hw, ↓WSp5 hw, ↓WSg6 hw, ↓WSp6 hw, ↓WSr7 hw, ↓WSr8 hw, ↓WTo hw, ↓WTr0 hw, ↓WTg1 hw, ↓WTp1 hw, ↓WTg2 hw, ↓WTp2 hw, ↓WTg3 hw, ↓WTp3 hw, ↓WTr4 hw, ↓WMo hw, ↓WMg0 hw, ↓WMp0 hw, ↓WMr1 hw, ↓WMg2 hw, ↓WMp2 hw, ↓WMr3 hw, ↓WMr4 hw, ↓WMr5 hw, ↓WMg6 hw, ↓WMp6 hw, ↓WMr7 hw, ↓WMr8 hw, ↓WMg9 hw, ↓WMp9 hw, ↓WMg10 hw, ↓WMp10 hw, true_or, or_true, true_and, and_true, and_false, false_and, and_self, if_true, if_false, ↓rd0 q5, n0, hge, hmk, ↓zciX w2, h0, ↓zciX dn]
              · obtain ⟨g0, g1, g2, g3, g4⟩ := hN
                unfold f_SF_obeys
                simp only [↓zjpE, ↓zletE, ↓zciE, ↓zcvE, ↓zchkE, ↓reduceIte, zciE, zcvE, nI_1, ↓Lo0 hL, ↓Lr0_0 hL, ↓Lr0_1 hL, ↓Lr0_2 hL, ↓Lo1 hL, ↓Lo9 hL, ↓Lo16 hL, ↓Lp0_7 hL, ↓zLu hw, ↓zNu0 hw, ↓zNu1 hw, ↓zNu2 hw, ↓zNu3 hw, ↓zNu4 hw, show ((5 : Int32) ≤ nI 5) = True from eq_true (by decide), show (nI 115 = (99 : Int32)) = False from eq_false (by decide), show (nI 115 = (104 : Int32)) = False from eq_false (by decide), show (nI 115 = (111 : Int32)) = False from eq_false (by decide), show (nI 115 = (115 : Int32)) = True from eq_true (by decide), show (nI 115 = (116 : Int32)) = False from eq_false (by decide), show (nI 115 = (119 : Int32)) = False from eq_false (by decide), d10, true_or, or_true, true_and, and_true, and_false, false_and, and_self, if_true, if_false, g0, g1, g2, g3, g4, ↓zciX (c_addS (D := D) hL hfull hF1), hm1, h0]
            · have h4 : ns = 4 := by omega
              subst h4
              have hge : (4 : Int32) ≤ nI 4 := by decide
              refine ⟨F, G, 1, RP_le hRP (by omega), Or.inr rfl, fun D o hM => ?_, fun D hN => ?_⟩
              · have hle := (hM.2.2 p hp).2
                rw [hc] at hle
                have m1 : f_MD_figures w (mD D s (p + 1) o (vec G)) (s + 634) 0 2 10 70 = some (nI v1, mD D s q1 o (vec G)) := mT1 (lo := 10) (hi := 70) hw hM (by omega) (by decide) (by decide) (by decide) h1
                have m2 : f_MD_figures w (mD D s q1 o (vec G)) (s + 634) (nI v1) 2 10 70 = some (nI v2, mD D s q2 o (vec G)) := mT1 (lo := 10) (hi := 70) hw hM (by omega) (nI_ne_m1 (by omega)) (by decide) (by decide) h2
                have m3 : f_MD_figures w (mD D s q2 o (vec G)) (s + 634) (nI v2) 1 1 5 = some (nI v3, mD D s q3 o (vec G)) := mO1 (lo := 1) (hi := 5) hw hM (by omega) (nI_ne_m1 (by omega)) (by decide) (by decide) h3
                have m4 : f_MD_figures w (mD D s q3 o (vec G)) (s + 634) (nI v3) 1 0 6 = some (nI v4, mD D s q4 o (vec G)) := mO1 (lo := 0) (hi := 6) hw hM (by omega) (nI_ne_m1 (by omega)) (by decide) (by decide) h4
                have m5 : f_MD_figures w (mD D s q4 o (vec G)) (s + 634) (nI v4) 2 1 20 = some (nI v5, mD D s q5 o (vec G)) := mT1 (lo := 1) (hi := 20) hw hM (by omega) (nI_ne_m1 (by omega)) (by decide) (by decide) h5
                have rd0 : ∀ {β : Type} (q : Nat) {k : Int32 → Option β}, zald w (mD D s q o (vec G)) 0 (s + 637) (0 : Int32) k = k (G 1 7) := fun q => Mrc0 hb
                have dn : f_MD_done w (mD D s q5 o (vec (G))) (s + 634) 0 = some (1, mD D s q5 (o + 1) (vec (G))) := m_done0 hw
                unfold f_MD_readCommand f_MD_readSiren
                simp only [↓zjpE, ↓zletE, ↓zciE, ↓zcvE, ↓zchkE, ↓reduceIte, zciE, zcvE, nI_1, ↓WSo hw, ↓WSr0 hw, ↓WSr1 hw, ↓WSr2 hw, ↓WSr3 hw, ↓WSr4 hw, ↓WSg5 hw, ↓WSp5 hw, ↓WSg6 hw, ↓WSp6 hw, ↓WSr7 hw, ↓WSr8 hw, ↓WTo hw, ↓WTr0 hw, ↓WTg1 hw, ↓WTp1 hw, ↓WTg2 hw, ↓WTp2 hw, ↓WTg3 hw, ↓WTp3 hw, ↓WTr4 hw, ↓WMo hw, ↓WMg0 hw, ↓WMp0 hw, ↓WMr1 hw, ↓WMg2 hw, ↓WMp2 hw, ↓WMr3 hw, ↓WMr4 hw, ↓WMr5 hw, ↓WMg6 hw, ↓WMp6 hw, ↓WMr7 hw, ↓WMr8 hw, ↓WMg9 hw, ↓WMp9 hw, ↓WMg10 hw, ↓WMp10 hw, mD_2, mD_9, mD_10, mD_x, mD_w9, mD_w10, ↓zald_of (i := p) (n := 120) (Wx hw) (show p < 120 by omega) (by decide), hle, ↓zciX m1, ↓zciX m2, ↓zciX m3, ↓zciX m4, ↓zciX m5, show (nI 115 = (99 : Int32)) = False from eq_false (by decide), show (nI 115 = (104 : Int32)) = False from eq_false (by decide), show (nI 115 = (111 : Int32)) = False from eq_false (by decide), show (nI 115 = (115 : Int32)) = True from eq_true (by decide), show (nI 115 = (116 : Int32)) = False from eq_false (by decide), show (nI 115 = (119 : Int32)) = False from eq_false (by decide), true_or, or_true, true_and, and_true, and_false, false_and, and_self, if_true, if_false, ↓rd0 q5, n0, hge, hmk, ↓zciX dn]
                try rw [if_neg nd1m]
                try rw [if_neg nd0m]
                try rw [if_neg nd10]
                try rw [if_neg nd01]
                try simp only [↓zjpE, ↓zletE, ↓zciE, ↓zcvE, ↓zchkE, ↓reduceIte, zciE, zcvE, nI_1, ↓WSo hw, ↓WSr0 hw, ↓WSr1 hw, ↓WSr2 hw, ↓WSr3 hw, ↓WSr4 hw, ↓WSg5 hw, ↓WSp5 hw, ↓WSg6 hw, ↓WSp6 hw, ↓WSr7 hw, ↓WSr8 hw, ↓WTo hw, ↓WTr0 hw, ↓WTg1 hw, ↓WTp1 hw, ↓WTg2 hw, ↓WTp2 hw, ↓WTg3 hw, ↓WTp3 hw, ↓WTr4 hw, ↓WMo hw, ↓WMg0 hw, ↓WMp0 hw, ↓WMr1 hw, ↓WMg2 hw, ↓WMp2 hw, ↓WMr3 hw, ↓WMr4 hw, ↓WMr5 hw, ↓WMg6 hw, ↓WMp6 hw, ↓WMr7 hw, ↓WMr8 hw, ↓WMg9 hw, ↓WMp9 hw, ↓WMg10 hw, ↓WMp10 hw, true_or, or_true, true_and, and_true, and_false, false_and, and_self, if_true, if_false, ↓rd0 q5, n0, hge, hmk, ↓zciX dn]
                try rw [if_neg nd1m]
                try rw [if_neg nd0m]
                try rw [if_neg nd10]
                try rw [if_neg nd01]
                try simp only [↓zjpE, ↓zletE, ↓zciE, ↓zcvE, ↓zchkE, ↓reduceIte, zciE, zcvE, nI_1, ↓WSo hw, ↓WSr0 hw, ↓WSr1 hw, ↓WSr2 hw, ↓WSr3 hw, ↓WSr4 hw, ↓WSg5 hw, ↓WSp5 hw, ↓WSg6 hw, ↓WSp6 hw, ↓WSr7 hw, ↓WSr8 hw, ↓WTo hw, ↓WTr0 hw, ↓WTg1 hw, ↓WTp1 hw, ↓WTg2 hw, ↓WTp2 hw, ↓WTg3 hw, ↓WTp3 hw, ↓WTr4 hw, ↓WMo hw, ↓WMg0 hw, ↓WMp0 hw, ↓WMr1 hw, ↓WMg2 hw, ↓WMp2 hw, ↓WMr3 hw, ↓WMr4 hw, ↓WMr5 hw, ↓WMg6 hw, ↓WMp6 hw, ↓WMr7 hw, ↓WMr8 hw, ↓WMg9 hw, ↓WMp9 hw, ↓WMg10 hw, ↓WMp10 hw, true_or, or_true, true_and, and_true, and_false, false_and, and_self, if_true, if_false, ↓rd0 q5, n0, hge, hmk, ↓zciX dn]
                try rw [if_neg nd1m]
                try rw [if_neg nd0m]
                try rw [if_neg nd10]
                try rw [if_neg nd01]
                try simp only [↓zjpE, ↓zletE, ↓zciE, ↓zcvE, ↓zchkE, ↓reduceIte, zciE, zcvE, nI_1, ↓WSo hw, ↓WSr0 hw, ↓WSr1 hw, ↓WSr2 hw, ↓WSr3 hw, ↓WSr4 hw, ↓WSg5 hw, ↓WSp5 hw, ↓WSg6 hw, ↓WSp6 hw, ↓WSr7 hw, ↓WSr8 hw, ↓WTo hw, ↓WTr0 hw, ↓WTg1 hw, ↓WTp1 hw, ↓WTg2 hw, ↓WTp2 hw, ↓WTg3 hw, ↓WTp3 hw, ↓WTr4 hw, ↓WMo hw, ↓WMg0 hw, ↓WMp0 hw, ↓WMr1 hw, ↓WMg2 hw, ↓WMp2 hw, ↓WMr3 hw, ↓WMr4 hw, ↓WMr5 hw, ↓WMg6 hw, ↓WMp6 hw, ↓WMr7 hw, ↓WMr8 hw, ↓WMg9 hw, ↓WMp9 hw, ↓WMg10 hw, ↓WMp10 hw, true_or, or_true, true_and, and_true, and_false, false_and, and_self, if_true, if_false, ↓rd0 q5, n0, hge, hmk, ↓zciX dn]
              · obtain ⟨g0, g1, g2, g3, g4⟩ := hN
                unfold f_SF_obeys
                simp only [↓zjpE, ↓zletE, ↓zciE, ↓zcvE, ↓zchkE, ↓reduceIte, zciE, zcvE, nI_1, ↓Lo0 hL, ↓Lr0_0 hL, ↓Lr0_1 hL, ↓Lr0_2 hL, ↓Lo1 hL, ↓Lo9 hL, ↓Lo16 hL, ↓Lp0_7 hL, ↓zLu hw, ↓zNu0 hw, ↓zNu1 hw, ↓zNu2 hw, ↓zNu3 hw, ↓zNu4 hw, show ((5 : Int32) ≤ nI 5) = True from eq_true (by decide), show (nI 115 = (99 : Int32)) = False from eq_false (by decide), show (nI 115 = (104 : Int32)) = False from eq_false (by decide), show (nI 115 = (111 : Int32)) = False from eq_false (by decide), show (nI 115 = (115 : Int32)) = True from eq_true (by decide), show (nI 115 = (116 : Int32)) = False from eq_false (by decide), show (nI 115 = (119 : Int32)) = False from eq_false (by decide), d10, true_or, or_true, true_and, and_true, and_false, false_and, and_self, if_true, if_false, g0, g1, g2, g3, g4, ↓zciX (c_fullS (D := D) hL hF1), Nat.succ_ne_zero]
theorem st_104 (hw : WL w s) (hn : n ≤ 120) (hp : p < n) (hc : ch p = 104) : StepF w s n p ch ∨ StepG w s n p ch := by
  have hL := WL4 hw
  have hb := Wt hw
  obtain ⟨r1, q1, h1⟩ : ∃ r q, rdT ch n 0 80 (p + 1) = (r, q) := ⟨_, _, rfl⟩
  cases r1 with
  | none =>
    have b1 := rdT_n (by omega) h1
    refine Or.inl ⟨q1, nI 104, b1, fun D l N hX => ⟨N, ?_⟩, fun D o V hM => ?_⟩
    · have hN := c_next (l := l) (N := N) hw hX (show p ≤ 200 by omega)
      rw [if_pos hp, hc] at hN
      have e1 : f_FairText_readTwo w (tD D s (p + 1) (nI 104) N) (s + 1) 0 0 80 = some (0, tD D s q1 (nI 104) N) := cT0 (l := nI 104) (N := N) (k := 0) (lo := 0) (hi := 80) hw hX (by omega) (by decide) (by decide) (by decide) h1
      unfold f_FairText_readCommand
      simp only [↓zjpE, ↓zletE, ↓zciE, ↓zcvE, ↓zchkE, ↓reduceIte, zciE, zcvE, nI_1, ↓WSo hw, ↓WSr0 hw, ↓WSr1 hw, ↓WSr2 hw, ↓WSr3 hw, ↓WSr4 hw, ↓WSg5 hw, ↓WSp5 hw, ↓WSg6 hw, ↓WSp6 hw, ↓WSr7 hw, ↓WSr8 hw, ↓WTo hw, ↓WTr0 hw, ↓WTg1 hw, ↓WTp1 hw, ↓WTg2 hw, ↓WTp2 hw, ↓WTg3 hw, ↓WTp3 hw, ↓WTr4 hw, ↓WMo hw, ↓WMg0 hw, ↓WMp0 hw, ↓WMr1 hw, ↓WMg2 hw, ↓WMp2 hw, ↓WMr3 hw, ↓WMr4 hw, ↓WMr5 hw, ↓WMg6 hw, ↓WMp6 hw, ↓WMr7 hw, ↓WMr8 hw, ↓WMg9 hw, ↓WMp9 hw, ↓WMg10 hw, ↓WMp10 hw, tD_1, tD_2, tD_3, tD_c, tD_n, tD_w2, tD_w3, tD_wn, ↓zciX hN, ↓zciX e1, show (nI 104 = (99 : Int32)) = False from eq_false (by decide), show (nI 104 = (104 : Int32)) = True from eq_true (by decide), show (nI 104 = (111 : Int32)) = False from eq_false (by decide), show (nI 104 = (115 : Int32)) = False from eq_false (by decide), show (nI 104 = (116 : Int32)) = False from eq_false (by decide), show (nI 104 = (119 : Int32)) = False from eq_false (by decide), d10, true_or, or_true, true_and, and_true, and_false, false_and, and_self, if_true, if_false]
    · have hle := (hM.2.2 p hp).2
      rw [hc] at hle
      have m1 : f_MD_figures w (mD D s (p + 1) o V) (s + 634) 0 2 0 80 = some (-1, mD D s q1 o V) := mT0 (lo := 0) (hi := 80) hw hM (by omega) (by decide) (by decide) (by decide) h1
      unfold f_MD_readCommand f_MD_readHearer
      simp only [↓zjpE, ↓zletE, ↓zciE, ↓zcvE, ↓zchkE, ↓reduceIte, zciE, zcvE, nI_1, ↓WSo hw, ↓WSr0 hw, ↓WSr1 hw, ↓WSr2 hw, ↓WSr3 hw, ↓WSr4 hw, ↓WSg5 hw, ↓WSp5 hw, ↓WSg6 hw, ↓WSp6 hw, ↓WSr7 hw, ↓WSr8 hw, ↓WTo hw, ↓WTr0 hw, ↓WTg1 hw, ↓WTp1 hw, ↓WTg2 hw, ↓WTp2 hw, ↓WTg3 hw, ↓WTp3 hw, ↓WTr4 hw, ↓WMo hw, ↓WMg0 hw, ↓WMp0 hw, ↓WMr1 hw, ↓WMg2 hw, ↓WMp2 hw, ↓WMr3 hw, ↓WMr4 hw, ↓WMr5 hw, ↓WMg6 hw, ↓WMp6 hw, ↓WMr7 hw, ↓WMr8 hw, ↓WMg9 hw, ↓WMp9 hw, ↓WMg10 hw, ↓WMp10 hw, mD_2, mD_9, mD_10, mD_x, mD_w9, mD_w10, ↓zald_of (i := p) (n := 120) (Wx hw) (show p < 120 by omega) (by decide), hle, ↓zciX m1, ↓zciX (mX hw), ↓zciX (mEX hw), show (nI 104 = (99 : Int32)) = False from eq_false (by decide), show (nI 104 = (104 : Int32)) = True from eq_true (by decide), show (nI 104 = (111 : Int32)) = False from eq_false (by decide), show (nI 104 = (115 : Int32)) = False from eq_false (by decide), show (nI 104 = (116 : Int32)) = False from eq_false (by decide), show (nI 104 = (119 : Int32)) = False from eq_false (by decide), d10, true_or, or_true, true_and, and_true, and_false, false_and, and_self, if_true, if_false]
  | some v1 =>
    have b1 := rdT_b h1
    obtain ⟨r2, q2, h2⟩ : ∃ r q, rdT ch n 0 80 q1 = (r, q) := ⟨_, _, rfl⟩
    cases r2 with
    | none =>
      have b2 := rdT_n (by omega) h2
      refine Or.inl ⟨q2, nI 104, b2, fun D l N hX => ⟨(upd N 0 (nI v1)), ?_⟩, fun D o V hM => ?_⟩
      · have hN := c_next (l := l) (N := N) hw hX (show p ≤ 200 by omega)
        rw [if_pos hp, hc] at hN
        have e1 : f_FairText_readTwo w (tD D s (p + 1) (nI 104) N) (s + 1) 0 0 80 = some (1, tD D s q1 (nI 104) (upd N 0 (nI v1))) := cT1 (l := nI 104) (N := N) (k := 0) (lo := 0) (hi := 80) hw hX (by omega) (by decide) (by decide) (by decide) h1
        have e2 : f_FairText_readTwo w (tD D s q1 (nI 104) (upd N 0 (nI v1))) (s + 1) 1 0 80 = some (0, tD D s q2 (nI 104) (upd N 0 (nI v1))) := cT0 (l := nI 104) (N := (upd N 0 (nI v1))) (k := 1) (lo := 0) (hi := 80) hw hX (by omega) (by decide) (by decide) (by decide) h2
        unfold f_FairText_readCommand
        simp only [↓zjpE, ↓zletE, ↓zciE, ↓zcvE, ↓zchkE, ↓reduceIte, zciE, zcvE, nI_1, ↓WSo hw, ↓WSr0 hw, ↓WSr1 hw, ↓WSr2 hw, ↓WSr3 hw, ↓WSr4 hw, ↓WSg5 hw, ↓WSp5 hw, ↓WSg6 hw, ↓WSp6 hw, ↓WSr7 hw, ↓WSr8 hw, ↓WTo hw, ↓WTr0 hw, ↓WTg1 hw, ↓WTp1 hw, ↓WTg2 hw, ↓WTp2 hw, ↓WTg3 hw, ↓WTp3 hw, ↓WTr4 hw, ↓WMo hw, ↓WMg0 hw, ↓WMp0 hw, ↓WMr1 hw, ↓WMg2 hw, ↓WMp2 hw, ↓WMr3 hw, ↓WMr4 hw, ↓WMr5 hw, ↓WMg6 hw, ↓WMp6 hw, ↓WMr7 hw, ↓WMr8 hw, ↓WMg9 hw, ↓WMp9 hw, ↓WMg10 hw, ↓WMp10 hw, tD_1, tD_2, tD_3, tD_c, tD_n, tD_w2, tD_w3, tD_wn, ↓zciX hN, ↓zciX e1, ↓zciX e2, show (nI 104 = (99 : Int32)) = False from eq_false (by decide), show (nI 104 = (104 : Int32)) = True from eq_true (by decide), show (nI 104 = (111 : Int32)) = False from eq_false (by decide), show (nI 104 = (115 : Int32)) = False from eq_false (by decide), show (nI 104 = (116 : Int32)) = False from eq_false (by decide), show (nI 104 = (119 : Int32)) = False from eq_false (by decide), d10, true_or, or_true, true_and, and_true, and_false, false_and, and_self, if_true, if_false]
      · have hle := (hM.2.2 p hp).2
        rw [hc] at hle
        have m1 : f_MD_figures w (mD D s (p + 1) o V) (s + 634) 0 2 0 80 = some (nI v1, mD D s q1 o V) := mT1 (lo := 0) (hi := 80) hw hM (by omega) (by decide) (by decide) (by decide) h1
        have m2 : f_MD_figures w (mD D s q1 o V) (s + 634) (nI v1) 2 0 80 = some (-1, mD D s q2 o V) := mT0 (lo := 0) (hi := 80) hw hM (by omega) (nI_ne_m1 (by omega)) (by decide) (by decide) h2
        unfold f_MD_readCommand f_MD_readHearer
        simp only [↓zjpE, ↓zletE, ↓zciE, ↓zcvE, ↓zchkE, ↓reduceIte, zciE, zcvE, nI_1, ↓WSo hw, ↓WSr0 hw, ↓WSr1 hw, ↓WSr2 hw, ↓WSr3 hw, ↓WSr4 hw, ↓WSg5 hw, ↓WSp5 hw, ↓WSg6 hw, ↓WSp6 hw, ↓WSr7 hw, ↓WSr8 hw, ↓WTo hw, ↓WTr0 hw, ↓WTg1 hw, ↓WTp1 hw, ↓WTg2 hw, ↓WTp2 hw, ↓WTg3 hw, ↓WTp3 hw, ↓WTr4 hw, ↓WMo hw, ↓WMg0 hw, ↓WMp0 hw, ↓WMr1 hw, ↓WMg2 hw, ↓WMp2 hw, ↓WMr3 hw, ↓WMr4 hw, ↓WMr5 hw, ↓WMg6 hw, ↓WMp6 hw, ↓WMr7 hw, ↓WMr8 hw, ↓WMg9 hw, ↓WMp9 hw, ↓WMg10 hw, ↓WMp10 hw, mD_2, mD_9, mD_10, mD_x, mD_w9, mD_w10, ↓zald_of (i := p) (n := 120) (Wx hw) (show p < 120 by omega) (by decide), hle, ↓zciX m1, ↓zciX m2, ↓zciX (mX hw), ↓zciX (mEX hw), show (nI 104 = (99 : Int32)) = False from eq_false (by decide), show (nI 104 = (104 : Int32)) = True from eq_true (by decide), show (nI 104 = (111 : Int32)) = False from eq_false (by decide), show (nI 104 = (115 : Int32)) = False from eq_false (by decide), show (nI 104 = (116 : Int32)) = False from eq_false (by decide), show (nI 104 = (119 : Int32)) = False from eq_false (by decide), d10, true_or, or_true, true_and, and_true, and_false, false_and, and_self, if_true, if_false]
    | some v2 =>
      have b2 := rdT_b h2
      obtain ⟨r3, q3, h3⟩ : ∃ r q, rdO ch n 0 4 q2 = (r, q) := ⟨_, _, rfl⟩
      cases r3 with
      | none =>
        have b3 := rdO_n (by omega) h3
        refine Or.inl ⟨q3, nI 104, b3, fun D l N hX => ⟨(upd (upd N 0 (nI v1)) 1 (nI v2)), ?_⟩, fun D o V hM => ?_⟩
        · have hN := c_next (l := l) (N := N) hw hX (show p ≤ 200 by omega)
          rw [if_pos hp, hc] at hN
          have e1 : f_FairText_readTwo w (tD D s (p + 1) (nI 104) N) (s + 1) 0 0 80 = some (1, tD D s q1 (nI 104) (upd N 0 (nI v1))) := cT1 (l := nI 104) (N := N) (k := 0) (lo := 0) (hi := 80) hw hX (by omega) (by decide) (by decide) (by decide) h1
          have e2 : f_FairText_readTwo w (tD D s q1 (nI 104) (upd N 0 (nI v1))) (s + 1) 1 0 80 = some (1, tD D s q2 (nI 104) (upd (upd N 0 (nI v1)) 1 (nI v2))) := cT1 (l := nI 104) (N := (upd N 0 (nI v1))) (k := 1) (lo := 0) (hi := 80) hw hX (by omega) (by decide) (by decide) (by decide) h2
          have e3 : f_FairText_readOne w (tD D s q2 (nI 104) (upd (upd N 0 (nI v1)) 1 (nI v2))) (s + 1) 2 0 4 = some (0, tD D s q3 (nI 104) (upd (upd N 0 (nI v1)) 1 (nI v2))) := cO0 (l := nI 104) (N := (upd (upd N 0 (nI v1)) 1 (nI v2))) (lo := 0) (hi := 4) hw hX (by omega) (by decide) (by decide) h3
          unfold f_FairText_readCommand
          simp only [↓zjpE, ↓zletE, ↓zciE, ↓zcvE, ↓zchkE, ↓reduceIte, zciE, zcvE, nI_1, ↓WSo hw, ↓WSr0 hw, ↓WSr1 hw, ↓WSr2 hw, ↓WSr3 hw, ↓WSr4 hw, ↓WSg5 hw, ↓WSp5 hw, ↓WSg6 hw, ↓WSp6 hw, ↓WSr7 hw, ↓WSr8 hw, ↓WTo hw, ↓WTr0 hw, ↓WTg1 hw, ↓WTp1 hw, ↓WTg2 hw, ↓WTp2 hw, ↓WTg3 hw, ↓WTp3 hw, ↓WTr4 hw, ↓WMo hw, ↓WMg0 hw, ↓WMp0 hw, ↓WMr1 hw, ↓WMg2 hw, ↓WMp2 hw, ↓WMr3 hw, ↓WMr4 hw, ↓WMr5 hw, ↓WMg6 hw, ↓WMp6 hw, ↓WMr7 hw, ↓WMr8 hw, ↓WMg9 hw, ↓WMp9 hw, ↓WMg10 hw, ↓WMp10 hw, tD_1, tD_2, tD_3, tD_c, tD_n, tD_w2, tD_w3, tD_wn, ↓zciX hN, ↓zciX e1, ↓zciX e2, ↓zciX e3, show (nI 104 = (99 : Int32)) = False from eq_false (by decide), show (nI 104 = (104 : Int32)) = True from eq_true (by decide), show (nI 104 = (111 : Int32)) = False from eq_false (by decide), show (nI 104 = (115 : Int32)) = False from eq_false (by decide), show (nI 104 = (116 : Int32)) = False from eq_false (by decide), show (nI 104 = (119 : Int32)) = False from eq_false (by decide), d10, true_or, or_true, true_and, and_true, and_false, false_and, and_self, if_true, if_false]
        · have hle := (hM.2.2 p hp).2
          rw [hc] at hle
          have m1 : f_MD_figures w (mD D s (p + 1) o V) (s + 634) 0 2 0 80 = some (nI v1, mD D s q1 o V) := mT1 (lo := 0) (hi := 80) hw hM (by omega) (by decide) (by decide) (by decide) h1
          have m2 : f_MD_figures w (mD D s q1 o V) (s + 634) (nI v1) 2 0 80 = some (nI v2, mD D s q2 o V) := mT1 (lo := 0) (hi := 80) hw hM (by omega) (nI_ne_m1 (by omega)) (by decide) (by decide) h2
          have m3 : f_MD_figures w (mD D s q2 o V) (s + 634) (nI v2) 1 0 4 = some (-1, mD D s q3 o V) := mO0 (lo := 0) (hi := 4) hw hM (by omega) (nI_ne_m1 (by omega)) (by decide) (by decide) h3
          unfold f_MD_readCommand f_MD_readHearer
          simp only [↓zjpE, ↓zletE, ↓zciE, ↓zcvE, ↓zchkE, ↓reduceIte, zciE, zcvE, nI_1, ↓WSo hw, ↓WSr0 hw, ↓WSr1 hw, ↓WSr2 hw, ↓WSr3 hw, ↓WSr4 hw, ↓WSg5 hw, ↓WSp5 hw, ↓WSg6 hw, ↓WSp6 hw, ↓WSr7 hw, ↓WSr8 hw, ↓WTo hw, ↓WTr0 hw, ↓WTg1 hw, ↓WTp1 hw, ↓WTg2 hw, ↓WTp2 hw, ↓WTg3 hw, ↓WTp3 hw, ↓WTr4 hw, ↓WMo hw, ↓WMg0 hw, ↓WMp0 hw, ↓WMr1 hw, ↓WMg2 hw, ↓WMp2 hw, ↓WMr3 hw, ↓WMr4 hw, ↓WMr5 hw, ↓WMg6 hw, ↓WMp6 hw, ↓WMr7 hw, ↓WMr8 hw, ↓WMg9 hw, ↓WMp9 hw, ↓WMg10 hw, ↓WMp10 hw, mD_2, mD_9, mD_10, mD_x, mD_w9, mD_w10, ↓zald_of (i := p) (n := 120) (Wx hw) (show p < 120 by omega) (by decide), hle, ↓zciX m1, ↓zciX m2, ↓zciX m3, ↓zciX (mX hw), ↓zciX (mEX hw), show (nI 104 = (99 : Int32)) = False from eq_false (by decide), show (nI 104 = (104 : Int32)) = True from eq_true (by decide), show (nI 104 = (111 : Int32)) = False from eq_false (by decide), show (nI 104 = (115 : Int32)) = False from eq_false (by decide), show (nI 104 = (116 : Int32)) = False from eq_false (by decide), show (nI 104 = (119 : Int32)) = False from eq_false (by decide), d10, true_or, or_true, true_and, and_true, and_false, false_and, and_self, if_true, if_false]
      | some v3 =>
        have b3 := rdO_b h3
        obtain ⟨r4, q4, h4⟩ : ∃ r q, rdO ch n 0 4 q3 = (r, q) := ⟨_, _, rfl⟩
        cases r4 with
        | none =>
          have b4 := rdO_n (by omega) h4
          refine Or.inl ⟨q4, nI 104, b4, fun D l N hX => ⟨(upd (upd (upd N 0 (nI v1)) 1 (nI v2)) 2 (nI v3)), ?_⟩, fun D o V hM => ?_⟩
          · have hN := c_next (l := l) (N := N) hw hX (show p ≤ 200 by omega)
            rw [if_pos hp, hc] at hN
            have e1 : f_FairText_readTwo w (tD D s (p + 1) (nI 104) N) (s + 1) 0 0 80 = some (1, tD D s q1 (nI 104) (upd N 0 (nI v1))) := cT1 (l := nI 104) (N := N) (k := 0) (lo := 0) (hi := 80) hw hX (by omega) (by decide) (by decide) (by decide) h1
            have e2 : f_FairText_readTwo w (tD D s q1 (nI 104) (upd N 0 (nI v1))) (s + 1) 1 0 80 = some (1, tD D s q2 (nI 104) (upd (upd N 0 (nI v1)) 1 (nI v2))) := cT1 (l := nI 104) (N := (upd N 0 (nI v1))) (k := 1) (lo := 0) (hi := 80) hw hX (by omega) (by decide) (by decide) (by decide) h2
            have e3 : f_FairText_readOne w (tD D s q2 (nI 104) (upd (upd N 0 (nI v1)) 1 (nI v2))) (s + 1) 2 0 4 = some (1, tD D s q3 (nI 104) (upd (upd (upd N 0 (nI v1)) 1 (nI v2)) 2 (nI v3))) := cO1 (l := nI 104) (N := (upd (upd N 0 (nI v1)) 1 (nI v2))) (k := 2) (lo := 0) (hi := 4) hw hX (by omega) (by decide) (by decide) (by decide) h3
            have e4 : f_FairText_readOne w (tD D s q3 (nI 104) (upd (upd (upd N 0 (nI v1)) 1 (nI v2)) 2 (nI v3))) (s + 1) 3 0 4 = some (0, tD D s q4 (nI 104) (upd (upd (upd N 0 (nI v1)) 1 (nI v2)) 2 (nI v3))) := cO0 (l := nI 104) (N := (upd (upd (upd N 0 (nI v1)) 1 (nI v2)) 2 (nI v3))) (lo := 0) (hi := 4) hw hX (by omega) (by decide) (by decide) h4
            unfold f_FairText_readCommand
            simp only [↓zjpE, ↓zletE, ↓zciE, ↓zcvE, ↓zchkE, ↓reduceIte, zciE, zcvE, nI_1, ↓WSo hw, ↓WSr0 hw, ↓WSr1 hw, ↓WSr2 hw, ↓WSr3 hw, ↓WSr4 hw, ↓WSg5 hw, ↓WSp5 hw, ↓WSg6 hw, ↓WSp6 hw, ↓WSr7 hw, ↓WSr8 hw, ↓WTo hw, ↓WTr0 hw, ↓WTg1 hw, ↓WTp1 hw, ↓WTg2 hw, ↓WTp2 hw, ↓WTg3 hw, ↓WTp3 hw, ↓WTr4 hw, ↓WMo hw, ↓WMg0 hw, ↓WMp0 hw, ↓WMr1 hw, ↓WMg2 hw, ↓WMp2 hw, ↓WMr3 hw, ↓WMr4 hw, ↓WMr5 hw, ↓WMg6 hw, ↓WMp6 hw, ↓WMr7 hw, ↓WMr8 hw, ↓WMg9 hw, ↓WMp9 hw, ↓WMg10 hw, ↓WMp10 hw, tD_1, tD_2, tD_3, tD_c, tD_n, tD_w2, tD_w3, tD_wn, ↓zciX hN, ↓zciX e1, ↓zciX e2, ↓zciX e3, ↓zciX e4, show (nI 104 = (99 : Int32)) = False from eq_false (by decide), show (nI 104 = (104 : Int32)) = True from eq_true (by decide), show (nI 104 = (111 : Int32)) = False from eq_false (by decide), show (nI 104 = (115 : Int32)) = False from eq_false (by decide), show (nI 104 = (116 : Int32)) = False from eq_false (by decide), show (nI 104 = (119 : Int32)) = False from eq_false (by decide), d10, true_or, or_true, true_and, and_true, and_false, false_and, and_self, if_true, if_false]
          · have hle := (hM.2.2 p hp).2
            rw [hc] at hle
            have m1 : f_MD_figures w (mD D s (p + 1) o V) (s + 634) 0 2 0 80 = some (nI v1, mD D s q1 o V) := mT1 (lo := 0) (hi := 80) hw hM (by omega) (by decide) (by decide) (by decide) h1
            have m2 : f_MD_figures w (mD D s q1 o V) (s + 634) (nI v1) 2 0 80 = some (nI v2, mD D s q2 o V) := mT1 (lo := 0) (hi := 80) hw hM (by omega) (nI_ne_m1 (by omega)) (by decide) (by decide) h2
            have m3 : f_MD_figures w (mD D s q2 o V) (s + 634) (nI v2) 1 0 4 = some (nI v3, mD D s q3 o V) := mO1 (lo := 0) (hi := 4) hw hM (by omega) (nI_ne_m1 (by omega)) (by decide) (by decide) h3
            have m4 : f_MD_figures w (mD D s q3 o V) (s + 634) (nI v3) 1 0 4 = some (-1, mD D s q4 o V) := mO0 (lo := 0) (hi := 4) hw hM (by omega) (nI_ne_m1 (by omega)) (by decide) (by decide) h4
            unfold f_MD_readCommand f_MD_readHearer
            simp only [↓zjpE, ↓zletE, ↓zciE, ↓zcvE, ↓zchkE, ↓reduceIte, zciE, zcvE, nI_1, ↓WSo hw, ↓WSr0 hw, ↓WSr1 hw, ↓WSr2 hw, ↓WSr3 hw, ↓WSr4 hw, ↓WSg5 hw, ↓WSp5 hw, ↓WSg6 hw, ↓WSp6 hw, ↓WSr7 hw, ↓WSr8 hw, ↓WTo hw, ↓WTr0 hw, ↓WTg1 hw, ↓WTp1 hw, ↓WTg2 hw, ↓WTp2 hw, ↓WTg3 hw, ↓WTp3 hw, ↓WTr4 hw, ↓WMo hw, ↓WMg0 hw, ↓WMp0 hw, ↓WMr1 hw, ↓WMg2 hw, ↓WMp2 hw, ↓WMr3 hw, ↓WMr4 hw, ↓WMr5 hw, ↓WMg6 hw, ↓WMp6 hw, ↓WMr7 hw, ↓WMr8 hw, ↓WMg9 hw, ↓WMp9 hw, ↓WMg10 hw, ↓WMp10 hw, mD_2, mD_9, mD_10, mD_x, mD_w9, mD_w10, ↓zald_of (i := p) (n := 120) (Wx hw) (show p < 120 by omega) (by decide), hle, ↓zciX m1, ↓zciX m2, ↓zciX m3, ↓zciX m4, ↓zciX (mX hw), ↓zciX (mEX hw), show (nI 104 = (99 : Int32)) = False from eq_false (by decide), show (nI 104 = (104 : Int32)) = True from eq_true (by decide), show (nI 104 = (111 : Int32)) = False from eq_false (by decide), show (nI 104 = (115 : Int32)) = False from eq_false (by decide), show (nI 104 = (116 : Int32)) = False from eq_false (by decide), show (nI 104 = (119 : Int32)) = False from eq_false (by decide), d10, true_or, or_true, true_and, and_true, and_false, false_and, and_self, if_true, if_false]
        | some v4 =>
          have b4 := rdO_b h4
          refine Or.inr ⟨q4, nI 104, fun N => N 0 = nI v1 ∧ N 1 = nI v2 ∧ N 2 = nI v3 ∧ N 3 = nI v4, by omega, by omega, fun D l N hX => ⟨(upd (upd (upd (upd N 0 (nI v1)) 1 (nI v2)) 2 (nI v3)) 3 (nI v4)), ?_, ⟨by simp [upd], by simp [upd], by simp [upd], by simp [upd]⟩⟩, fun F G T hRP hT => ?_⟩
          · have hN := c_next (l := l) (N := N) hw hX (show p ≤ 200 by omega)
            rw [if_pos hp, hc] at hN
            have e1 : f_FairText_readTwo w (tD D s (p + 1) (nI 104) N) (s + 1) 0 0 80 = some (1, tD D s q1 (nI 104) (upd N 0 (nI v1))) := cT1 (l := nI 104) (N := N) (k := 0) (lo := 0) (hi := 80) hw hX (by omega) (by decide) (by decide) (by decide) h1
            have e2 : f_FairText_readTwo w (tD D s q1 (nI 104) (upd N 0 (nI v1))) (s + 1) 1 0 80 = some (1, tD D s q2 (nI 104) (upd (upd N 0 (nI v1)) 1 (nI v2))) := cT1 (l := nI 104) (N := (upd N 0 (nI v1))) (k := 1) (lo := 0) (hi := 80) hw hX (by omega) (by decide) (by decide) (by decide) h2
            have e3 : f_FairText_readOne w (tD D s q2 (nI 104) (upd (upd N 0 (nI v1)) 1 (nI v2))) (s + 1) 2 0 4 = some (1, tD D s q3 (nI 104) (upd (upd (upd N 0 (nI v1)) 1 (nI v2)) 2 (nI v3))) := cO1 (l := nI 104) (N := (upd (upd N 0 (nI v1)) 1 (nI v2))) (k := 2) (lo := 0) (hi := 4) hw hX (by omega) (by decide) (by decide) (by decide) h3
            have e4 : f_FairText_readOne w (tD D s q3 (nI 104) (upd (upd (upd N 0 (nI v1)) 1 (nI v2)) 2 (nI v3))) (s + 1) 3 0 4 = some (1, tD D s q4 (nI 104) (upd (upd (upd (upd N 0 (nI v1)) 1 (nI v2)) 2 (nI v3)) 3 (nI v4))) := cO1 (l := nI 104) (N := (upd (upd (upd N 0 (nI v1)) 1 (nI v2)) 2 (nI v3))) (k := 3) (lo := 0) (hi := 4) hw hX (by omega) (by decide) (by decide) (by decide) h4
            unfold f_FairText_readCommand
            simp only [↓zjpE, ↓zletE, ↓zciE, ↓zcvE, ↓zchkE, ↓reduceIte, zciE, zcvE, nI_1, ↓WSo hw, ↓WSr0 hw, ↓WSr1 hw, ↓WSr2 hw, ↓WSr3 hw, ↓WSr4 hw, ↓WSg5 hw, ↓WSp5 hw, ↓WSg6 hw, ↓WSp6 hw, ↓WSr7 hw, ↓WSr8 hw, ↓WTo hw, ↓WTr0 hw, ↓WTg1 hw, ↓WTp1 hw, ↓WTg2 hw, ↓WTp2 hw, ↓WTg3 hw, ↓WTp3 hw, ↓WTr4 hw, ↓WMo hw, ↓WMg0 hw, ↓WMp0 hw, ↓WMr1 hw, ↓WMg2 hw, ↓WMp2 hw, ↓WMr3 hw, ↓WMr4 hw, ↓WMr5 hw, ↓WMg6 hw, ↓WMp6 hw, ↓WMr7 hw, ↓WMr8 hw, ↓WMg9 hw, ↓WMp9 hw, ↓WMg10 hw, ↓WMp10 hw, tD_1, tD_2, tD_3, tD_c, tD_n, tD_w2, tD_w3, tD_wn, ↓zciX hN, ↓zciX e1, ↓zciX e2, ↓zciX e3, ↓zciX e4, show (nI 104 = (99 : Int32)) = False from eq_false (by decide), show (nI 104 = (104 : Int32)) = True from eq_true (by decide), show (nI 104 = (111 : Int32)) = False from eq_false (by decide), show (nI 104 = (115 : Int32)) = False from eq_false (by decide), show (nI 104 = (116 : Int32)) = False from eq_false (by decide), show (nI 104 = (119 : Int32)) = False from eq_false (by decide), d10, true_or, or_true, true_and, and_true, and_false, false_and, and_self, if_true, if_false]
          obtain ⟨ns, nh, nw, np, d, e, l9, t, hRR, ht⟩ := id hRP
          obtain ⟨h1', ⟨p9, q1', q2', q3', q4', q5', q6'⟩, hz, hB, ⟨n0, n1, n2, n3, n4, n5, n6, n7⟩, hS, hH, hW, hC, hP, hE, hK, hA⟩ := id hRR
          have hF1 : F 1 7 = nI ns := (r1_7 h1').trans n0
          have hF9 : F 9 6 = nI nh := (r9_6 h1').trans n2
          have hF16 : F 16 2 = nI nw := (r16_2 h1').trans n4
          have hmk : ¬ nI v4 = -1 := nI_ne_m1 (by omega)
          by_cases hfull : nh < 4
          · have hge : ¬ (4 : Int32) ≤ nI nh := nI_ge hfull (by decide)
            have hm1 : ¬ nI nh = -1 := nI_ne_m1 (by omega)
            have h0 : ¬ nI nh < 0 := nI_pos (by omega)
            refine ⟨heaF F nh (nI v1 - 40) (nI v2 - 40) (nI v3 - 2) (nI v4 - 2), heaF G nh (nI v1 - 40) (nI v2 - 40) (nI v3 - 2) (nI v4 - 2), 0, ⟨ns, nh + 1, nw, np, d, e, l9, t, RI_hea hRR hfull (hv_new (by omega) (by omega) (by omega) (by omega)), by omega⟩, Or.inl rfl, fun D o hM => ?_, fun D hN => ?_⟩
            · have hle := (hM.2.2 p hp).2
              rw [hc] at hle
              have m1 : f_MD_figures w (mD D s (p + 1) o (vec G)) (s + 634) 0 2 0 80 = some (nI v1, mD D s q1 o (vec G)) := mT1 (lo := 0) (hi := 80) hw hM (by omega) (by decide) (by decide) (by decide) h1
              have m2 : f_MD_figures w (mD D s q1 o (vec G)) (s + 634) (nI v1) 2 0 80 = some (nI v2, mD D s q2 o (vec G)) := mT1 (lo := 0) (hi := 80) hw hM (by omega) (nI_ne_m1 (by omega)) (by decide) (by decide) h2
              have m3 : f_MD_figures w (mD D s q2 o (vec G)) (s + 634) (nI v2) 1 0 4 = some (nI v3, mD D s q3 o (vec G)) := mO1 (lo := 0) (hi := 4) hw hM (by omega) (nI_ne_m1 (by omega)) (by decide) (by decide) h3
              have m4 : f_MD_figures w (mD D s q3 o (vec G)) (s + 634) (nI v3) 1 0 4 = some (nI v4, mD D s q4 o (vec G)) := mO1 (lo := 0) (hi := 4) hw hM (by omega) (nI_ne_m1 (by omega)) (by decide) (by decide) h4
              have rd0 : ∀ {β : Type} (q : Nat) {k : Int32 → Option β}, zald w (mD D s q o (vec G)) 0 (s + 637) (1 : Int32) k = k (G 9 6) := fun q => Mrc1 hb
              have w2 : f_MD_hearerOn w (mD D s q4 o (vec G)) (s + 637) (nI v1 - 40) (nI v2 - 40) (nI v3 - 2) (nI v4 - 2) = some (nI nh, mD D s q4 o (vec (heaF G nh (nI v1 - 40) (nI v2 - 40) (nI v3 - 2) (nI v4 - 2)))) := m_addH hb hfull n2
              have dn : f_MD_done w (mD D s q4 o (vec (heaF G nh (nI v1 - 40) (nI v2 - 40) (nI v3 - 2) (nI v4 - 2)))) (s + 634) 1 = some (1, mD D s q4 (o + 0) (vec (heaF G nh (nI v1 - 40) (nI v2 - 40) (nI v3 - 2) (nI v4 - 2)))) := m_done1 hw
              unfold f_MD_readCommand f_MD_readHearer
              simp only [↓zjpE, ↓zletE, ↓zciE, ↓zcvE, ↓zchkE, ↓reduceIte, zciE, zcvE, nI_1, ↓WSo hw, ↓WSr0 hw, ↓WSr1 hw, ↓WSr2 hw, ↓WSr3 hw, ↓WSr4 hw, ↓WSg5 hw, ↓WSp5 hw, ↓WSg6 hw, ↓WSp6 hw, ↓WSr7 hw, ↓WSr8 hw, ↓WTo hw, ↓WTr0 hw, ↓WTg1 hw, ↓WTp1 hw, ↓WTg2 hw, ↓WTp2 hw, ↓WTg3 hw, ↓WTp3 hw, ↓WTr4 hw, ↓WMo hw, ↓WMg0 hw, ↓WMp0 hw, ↓WMr1 hw, ↓WMg2 hw, ↓WMp2 hw, ↓WMr3 hw, ↓WMr4 hw, ↓WMr5 hw, ↓WMg6 hw, ↓WMp6 hw, ↓WMr7 hw, ↓WMr8 hw, ↓WMg9 hw, ↓WMp9 hw, ↓WMg10 hw, ↓WMp10 hw, mD_2, mD_9, mD_10, mD_x, mD_w9, mD_w10, ↓zald_of (i := p) (n := 120) (Wx hw) (show p < 120 by omega) (by decide), hle, ↓zciX m1, ↓zciX m2, ↓zciX m3, ↓zciX m4, show (nI 104 = (99 : Int32)) = False from eq_false (by decide), show (nI 104 = (104 : Int32)) = True from eq_true (by decide), show (nI 104 = (111 : Int32)) = False from eq_false (by decide), show (nI 104 = (115 : Int32)) = False from eq_false (by decide), show (nI 104 = (116 : Int32)) = False from eq_false (by decide), show (nI 104 = (119 : Int32)) = False from eq_false (by decide), true_or, or_true, true_and, and_true, and_false, false_and, and_self, if_true, if_false, ↓rd0 q4, n2, hge, hmk, ↓zciX w2, h0, ↓zciX dn]
              try rw [if_neg nd1m]
              try rw [if_neg nd0m]
              try rw [if_neg nd10]
              try rw [if_neg nd01]
              try simp only [↓zjpE, ↓zletE, ↓zciE, ↓zcvE, ↓zchkE, ↓reduceIte, zciE, zcvE, nI_1, ↓WSo hw, ↓WSr0 hw, ↓WSr1 hw, ↓WSr2 hw, ↓WSr3 hw, ↓WSr4 hw, ↓WSg5 hw, ↓WSp5 hw, ↓WSg6 hw, ↓WSp6 hw, ↓WSr7 hw, ↓WSr8 hw, ↓WTo hw, ↓WTr0 hw, ↓WTg1 hw, ↓WTp1 hw, ↓WTg2 hw, ↓WTp2 hw, ↓WTg3 hw, ↓WTp3 hw, ↓WTr4 hw, ↓WMo hw, ↓WMg0 hw, ↓WMp0 hw, ↓WMr1 hw, ↓WMg2 hw, ↓WMp2 hw, ↓WMr3 hw, ↓WMr4 hw, ↓WMr5 hw, ↓WMg6 hw, ↓WMp6 hw, ↓WMr7 hw, ↓WMr8 hw, ↓WMg9 hw, ↓WMp9 hw, ↓WMg10 hw, ↓WMp10 hw, true_or, or_true, true_and, and_true, and_false, false_and, and_self, if_true, if_false, ↓rd0 q4, n2, hge, hmk, ↓zciX w2, h0, ↓zciX dn]
              try rw [if_neg nd1m]
              try rw [if_neg nd0m]
              try rw [if_neg nd10]
              try rw [if_neg nd01]
              try simp only [↓zjpE, ↓zletE, ↓zciE, ↓zcvE, ↓zchkE, ↓reduceIte, zciE, zcvE, nI_1, ↓WSo hw, ↓WSr0 hw, ↓WSr1 hw, ↓WSr2 hw, ↓WSr3 hw, ↓WSr4 hw, ↓WSg5 hw, ↓WSp5 hw, ↓WSg6 hw, ↓WSp6 hw, ↓WSr7 hw, ↓WSr8 hw, ↓WTo hw, ↓WTr0 hw, ↓WTg1 hw, ↓WTp1 hw, ↓WTg2 hw, ↓WTp2 hw, ↓WTg3 hw, ↓WTp3 hw, ↓WTr4 hw, ↓WMo hw, ↓WMg0 hw, ↓WMp0 hw, ↓WMr1 hw, ↓WMg2 hw, ↓WMp2 hw, ↓WMr3 hw, ↓WMr4 hw, ↓WMr5 hw, ↓WMg6 hw, ↓WMp6 hw, ↓WMr7 hw, ↓WMr8 hw, ↓WMg9 hw, ↓WMp9 hw, ↓WMg10 hw, ↓WMp10 hw, true_or, or_true, true_and, and_true, and_false, false_and, and_self, if_true, if_false, ↓rd0 q4, n2, hge, hmk, ↓zciX w2, h0, ↓zciX dn]
              try rw [if_neg nd1m]
              try rw [if_neg nd0m]
              try rw [if_neg nd10]
              try rw [if_neg nd01]
              try simp only [↓zjpE, ↓zletE, ↓zciE, ↓zcvE, ↓zchkE, ↓reduceIte, zciE, zcvE, nI_1, ↓WSo hw, ↓WSr0 hw, ↓WSr1 hw, ↓WSr2 hw, ↓WSr3 hw, ↓WSr4 hw, ↓WSg5 hw, ↓WSp5 hw, ↓WSg6 hw, ↓WSp6 hw, ↓WSr7 hw, ↓WSr8 hw, ↓WTo hw, ↓WTr0 hw, ↓WTg1 hw, ↓WTp1 hw, ↓WTg2 hw, ↓WTp2 hw, ↓WTg3 hw, ↓WTp3 hw, ↓WTr4 hw, ↓WMo hw, ↓WMg0 hw, ↓WMp0 hw, ↓WMr1 hw, ↓WMg2 hw, ↓WMp2 hw, ↓WMr3 hw, ↓WMr4 hw, ↓WMr5 hw, ↓WMg6 hw, ↓WMp6 hw, ↓WMr7 hw, ↓WMr8 hw, ↓WMg9 hw, ↓WMp9 hw, ↓WMg10 hw, ↓WMp10 hw, true_or, or_true, true_and, and_true, and_false, false_and, and_self, if_true, if_false, ↓rd0 q4, n2, hge, hmk, ↓zciX w2, h0, ↓zciX dn]
            · obtain ⟨g0, g1, g2, g3⟩ := hN
              unfold f_SF_obeys
              simp only [↓zjpE, ↓zletE, ↓zciE, ↓zcvE, ↓zchkE, ↓reduceIte, zciE, zcvE, nI_1, ↓Lo0 hL, ↓Lr0_0 hL, ↓Lr0_1 hL, ↓Lr0_2 hL, ↓Lo1 hL, ↓Lo9 hL, ↓Lo16 hL, ↓Lp0_7 hL, ↓zLu hw, ↓zNu0 hw, ↓zNu1 hw, ↓zNu2 hw, ↓zNu3 hw, ↓zNu4 hw, show ((5 : Int32) ≤ nI 5) = True from eq_true (by decide), show (nI 104 = (99 : Int32)) = False from eq_false (by decide), show (nI 104 = (104 : Int32)) = True from eq_true (by decide), show (nI 104 = (111 : Int32)) = False from eq_false (by decide), show (nI 104 = (115 : Int32)) = False from eq_false (by decide), show (nI 104 = (116 : Int32)) = False from eq_false (by decide), show (nI 104 = (119 : Int32)) = False from eq_false (by decide), d10, true_or, or_true, true_and, and_true, and_false, false_and, and_self, if_true, if_false, g0, g1, g2, g3, ↓zciX (c_addH (D := D) hL hfull hF9), hm1, h0]
          · have h4 : nh = 4 := by omega
            subst h4
            have hge : (4 : Int32) ≤ nI 4 := by decide
            refine ⟨F, G, 1, RP_le hRP (by omega), Or.inr rfl, fun D o hM => ?_, fun D hN => ?_⟩
            · have hle := (hM.2.2 p hp).2
              rw [hc] at hle
              have m1 : f_MD_figures w (mD D s (p + 1) o (vec G)) (s + 634) 0 2 0 80 = some (nI v1, mD D s q1 o (vec G)) := mT1 (lo := 0) (hi := 80) hw hM (by omega) (by decide) (by decide) (by decide) h1
              have m2 : f_MD_figures w (mD D s q1 o (vec G)) (s + 634) (nI v1) 2 0 80 = some (nI v2, mD D s q2 o (vec G)) := mT1 (lo := 0) (hi := 80) hw hM (by omega) (nI_ne_m1 (by omega)) (by decide) (by decide) h2
              have m3 : f_MD_figures w (mD D s q2 o (vec G)) (s + 634) (nI v2) 1 0 4 = some (nI v3, mD D s q3 o (vec G)) := mO1 (lo := 0) (hi := 4) hw hM (by omega) (nI_ne_m1 (by omega)) (by decide) (by decide) h3
              have m4 : f_MD_figures w (mD D s q3 o (vec G)) (s + 634) (nI v3) 1 0 4 = some (nI v4, mD D s q4 o (vec G)) := mO1 (lo := 0) (hi := 4) hw hM (by omega) (nI_ne_m1 (by omega)) (by decide) (by decide) h4
              have rd0 : ∀ {β : Type} (q : Nat) {k : Int32 → Option β}, zald w (mD D s q o (vec G)) 0 (s + 637) (1 : Int32) k = k (G 9 6) := fun q => Mrc1 hb
              have dn : f_MD_done w (mD D s q4 o (vec (G))) (s + 634) 0 = some (1, mD D s q4 (o + 1) (vec (G))) := m_done0 hw
              unfold f_MD_readCommand f_MD_readHearer
              simp only [↓zjpE, ↓zletE, ↓zciE, ↓zcvE, ↓zchkE, ↓reduceIte, zciE, zcvE, nI_1, ↓WSo hw, ↓WSr0 hw, ↓WSr1 hw, ↓WSr2 hw, ↓WSr3 hw, ↓WSr4 hw, ↓WSg5 hw, ↓WSp5 hw, ↓WSg6 hw, ↓WSp6 hw, ↓WSr7 hw, ↓WSr8 hw, ↓WTo hw, ↓WTr0 hw, ↓WTg1 hw, ↓WTp1 hw, ↓WTg2 hw, ↓WTp2 hw, ↓WTg3 hw, ↓WTp3 hw, ↓WTr4 hw, ↓WMo hw, ↓WMg0 hw, ↓WMp0 hw, ↓WMr1 hw, ↓WMg2 hw, ↓WMp2 hw, ↓WMr3 hw, ↓WMr4 hw, ↓WMr5 hw, ↓WMg6 hw, ↓WMp6 hw, ↓WMr7 hw, ↓WMr8 hw, ↓WMg9 hw, ↓WMp9 hw, ↓WMg10 hw, ↓WMp10 hw, mD_2, mD_9, mD_10, mD_x, mD_w9, mD_w10, ↓zald_of (i := p) (n := 120) (Wx hw) (show p < 120 by omega) (by decide), hle, ↓zciX m1, ↓zciX m2, ↓zciX m3, ↓zciX m4, show (nI 104 = (99 : Int32)) = False from eq_false (by decide), show (nI 104 = (104 : Int32)) = True from eq_true (by decide), show (nI 104 = (111 : Int32)) = False from eq_false (by decide), show (nI 104 = (115 : Int32)) = False from eq_false (by decide), show (nI 104 = (116 : Int32)) = False from eq_false (by decide), show (nI 104 = (119 : Int32)) = False from eq_false (by decide), true_or, or_true, true_and, and_true, and_false, false_and, and_self, if_true, if_false, ↓rd0 q4, n2, hge, hmk, ↓zciX dn]
              try rw [if_neg nd1m]
              try rw [if_neg nd0m]
              try rw [if_neg nd10]
              try rw [if_neg nd01]
              try simp only [↓zjpE, ↓zletE, ↓zciE, ↓zcvE, ↓zchkE, ↓reduceIte, zciE, zcvE, nI_1, ↓WSo hw, ↓WSr0 hw, ↓WSr1 hw, ↓WSr2 hw, ↓WSr3 hw, ↓WSr4 hw, ↓WSg5 hw, ↓WSp5 hw, ↓WSg6 hw, ↓WSp6 hw, ↓WSr7 hw, ↓WSr8 hw, ↓WTo hw, ↓WTr0 hw, ↓WTg1 hw, ↓WTp1 hw, ↓WTg2 hw, ↓WTp2 hw, ↓WTg3 hw, ↓WTp3 hw, ↓WTr4 hw, ↓WMo hw, ↓WMg0 hw, ↓WMp0 hw, ↓WMr1 hw, ↓WMg2 hw, ↓WMp2 hw, ↓WMr3 hw, ↓WMr4 hw, ↓WMr5 hw, ↓WMg6 hw, ↓WMp6 hw, ↓WMr7 hw, ↓WMr8 hw, ↓WMg9 hw, ↓WMp9 hw, ↓WMg10 hw, ↓WMp10 hw, true_or, or_true, true_and, and_true, and_false, false_and, and_self, if_true, if_false, ↓rd0 q4, n2, hge, hmk, ↓zciX dn]
              try rw [if_neg nd1m]
              try rw [if_neg nd0m]
              try rw [if_neg nd10]
              try rw [if_neg nd01]
              try simp only [↓zjpE, ↓zletE, ↓zciE, ↓zcvE, ↓zchkE, ↓reduceIte, zciE, zcvE, nI_1, ↓WSo hw, ↓WSr0 hw, ↓WSr1 hw, ↓WSr2 hw, ↓WSr3 hw, ↓WSr4 hw, ↓WSg5 hw, ↓WSp5 hw, ↓WSg6 hw, ↓WSp6 hw, ↓WSr7 hw, ↓WSr8 hw, ↓WTo hw, ↓WTr0 hw, ↓WTg1 hw, ↓WTp1 hw, ↓WTg2 hw, ↓WTp2 hw, ↓WTg3 hw, ↓WTp3 hw, ↓WTr4 hw, ↓WMo hw, ↓WMg0 hw, ↓WMp0 hw, ↓WMr1 hw, ↓WMg2 hw, ↓WMp2 hw, ↓WMr3 hw, ↓WMr4 hw, ↓WMr5 hw, ↓WMg6 hw, ↓WMp6 hw, ↓WMr7 hw, ↓WMr8 hw, ↓WMg9 hw, ↓WMp9 hw, ↓WMg10 hw, ↓WMp10 hw, true_or, or_true, true_and, and_true, and_false, false_and, and_self, if_true, if_false, ↓rd0 q4, n2, hge, hmk, ↓zciX dn]
              try rw [if_neg nd1m]
              try rw [if_neg nd0m]
              try rw [if_neg nd10]
              try rw [if_neg nd01]
              try simp only [↓zjpE, ↓zletE, ↓zciE, ↓zcvE, ↓zchkE, ↓reduceIte, zciE, zcvE, nI_1, ↓WSo hw, ↓WSr0 hw, ↓WSr1 hw, ↓WSr2 hw, ↓WSr3 hw, ↓WSr4 hw, ↓WSg5 hw, ↓WSp5 hw, ↓WSg6 hw, ↓WSp6 hw, ↓WSr7 hw, ↓WSr8 hw, ↓WTo hw, ↓WTr0 hw, ↓WTg1 hw, ↓WTp1 hw, ↓WTg2 hw, ↓WTp2 hw, ↓WTg3 hw, ↓WTp3 hw, ↓WTr4 hw, ↓WMo hw, ↓WMg0 hw, ↓WMp0 hw, ↓WMr1 hw, ↓WMg2 hw, ↓WMp2 hw, ↓WMr3 hw, ↓WMr4 hw, ↓WMr5 hw, ↓WMg6 hw, ↓WMp6 hw, ↓WMr7 hw, ↓WMr8 hw, ↓WMg9 hw, ↓WMp9 hw, ↓WMg10 hw, ↓WMp10 hw, true_or, or_true, true_and, and_true, and_false, false_and, and_self, if_true, if_false, ↓rd0 q4, n2, hge, hmk, ↓zciX dn]
            · obtain ⟨g0, g1, g2, g3⟩ := hN
              unfold f_SF_obeys
              simp only [↓zjpE, ↓zletE, ↓zciE, ↓zcvE, ↓zchkE, ↓reduceIte, zciE, zcvE, nI_1, ↓Lo0 hL, ↓Lr0_0 hL, ↓Lr0_1 hL, ↓Lr0_2 hL, ↓Lo1 hL, ↓Lo9 hL, ↓Lo16 hL, ↓Lp0_7 hL, ↓zLu hw, ↓zNu0 hw, ↓zNu1 hw, ↓zNu2 hw, ↓zNu3 hw, ↓zNu4 hw, show ((5 : Int32) ≤ nI 5) = True from eq_true (by decide), show (nI 104 = (99 : Int32)) = False from eq_false (by decide), show (nI 104 = (104 : Int32)) = True from eq_true (by decide), show (nI 104 = (111 : Int32)) = False from eq_false (by decide), show (nI 104 = (115 : Int32)) = False from eq_false (by decide), show (nI 104 = (116 : Int32)) = False from eq_false (by decide), show (nI 104 = (119 : Int32)) = False from eq_false (by decide), d10, true_or, or_true, true_and, and_true, and_false, false_and, and_self, if_true, if_false, g0, g1, g2, g3, ↓zciX (c_fullH (D := D) hL hF9), Nat.succ_ne_zero]
theorem st_99 (hw : WL w s) (hn : n ≤ 120) (hp : p < n) (hc : ch p = 99) : StepF w s n p ch ∨ StepG w s n p ch := by
  have hL := WL4 hw
  have hb := Wt hw
  obtain ⟨r1, q1, h1⟩ : ∃ r q, rdO ch n 1 9 (p + 1) = (r, q) := ⟨_, _, rfl⟩
  cases r1 with
  | none =>
    have b1 := rdO_n (by omega) h1
    refine Or.inl ⟨q1, nI 99, b1, fun D l N hX => ⟨N, ?_⟩, fun D o V hM => ?_⟩
    · have hN := c_next (l := l) (N := N) hw hX (show p ≤ 200 by omega)
      rw [if_pos hp, hc] at hN
      have e1 : f_FairText_readOne w (tD D s (p + 1) (nI 99) N) (s + 1) 0 1 9 = some (0, tD D s q1 (nI 99) N) := cO0 (l := nI 99) (N := N) (lo := 1) (hi := 9) hw hX (by omega) (by decide) (by decide) h1
      unfold f_FairText_readCommand
      simp only [↓zjpE, ↓zletE, ↓zciE, ↓zcvE, ↓zchkE, ↓reduceIte, zciE, zcvE, nI_1, ↓WSo hw, ↓WSr0 hw, ↓WSr1 hw, ↓WSr2 hw, ↓WSr3 hw, ↓WSr4 hw, ↓WSg5 hw, ↓WSp5 hw, ↓WSg6 hw, ↓WSp6 hw, ↓WSr7 hw, ↓WSr8 hw, ↓WTo hw, ↓WTr0 hw, ↓WTg1 hw, ↓WTp1 hw, ↓WTg2 hw, ↓WTp2 hw, ↓WTg3 hw, ↓WTp3 hw, ↓WTr4 hw, ↓WMo hw, ↓WMg0 hw, ↓WMp0 hw, ↓WMr1 hw, ↓WMg2 hw, ↓WMp2 hw, ↓WMr3 hw, ↓WMr4 hw, ↓WMr5 hw, ↓WMg6 hw, ↓WMp6 hw, ↓WMr7 hw, ↓WMr8 hw, ↓WMg9 hw, ↓WMp9 hw, ↓WMg10 hw, ↓WMp10 hw, tD_1, tD_2, tD_3, tD_c, tD_n, tD_w2, tD_w3, tD_wn, ↓zciX hN, ↓zciX e1, show (nI 99 = (99 : Int32)) = True from eq_true (by decide), show (nI 99 = (104 : Int32)) = False from eq_false (by decide), show (nI 99 = (111 : Int32)) = False from eq_false (by decide), show (nI 99 = (115 : Int32)) = False from eq_false (by decide), show (nI 99 = (116 : Int32)) = False from eq_false (by decide), show (nI 99 = (119 : Int32)) = False from eq_false (by decide), d10, true_or, or_true, true_and, and_true, and_false, false_and, and_self, if_true, if_false]
    · have hle := (hM.2.2 p hp).2
      rw [hc] at hle
      have m1 : f_MD_figures w (mD D s (p + 1) o V) (s + 634) 0 1 1 9 = some (-1, mD D s q1 o V) := mO0 (lo := 1) (hi := 9) hw hM (by omega) (by decide) (by decide) (by decide) h1
      unfold f_MD_readCommand
      simp only [↓zjpE, ↓zletE, ↓zciE, ↓zcvE, ↓zchkE, ↓reduceIte, zciE, zcvE, nI_1, ↓WSo hw, ↓WSr0 hw, ↓WSr1 hw, ↓WSr2 hw, ↓WSr3 hw, ↓WSr4 hw, ↓WSg5 hw, ↓WSp5 hw, ↓WSg6 hw, ↓WSp6 hw, ↓WSr7 hw, ↓WSr8 hw, ↓WTo hw, ↓WTr0 hw, ↓WTg1 hw, ↓WTp1 hw, ↓WTg2 hw, ↓WTp2 hw, ↓WTg3 hw, ↓WTp3 hw, ↓WTr4 hw, ↓WMo hw, ↓WMg0 hw, ↓WMp0 hw, ↓WMr1 hw, ↓WMg2 hw, ↓WMp2 hw, ↓WMr3 hw, ↓WMr4 hw, ↓WMr5 hw, ↓WMg6 hw, ↓WMp6 hw, ↓WMr7 hw, ↓WMr8 hw, ↓WMg9 hw, ↓WMp9 hw, ↓WMg10 hw, ↓WMp10 hw, mD_2, mD_9, mD_10, mD_x, mD_w9, mD_w10, ↓zald_of (i := p) (n := 120) (Wx hw) (show p < 120 by omega) (by decide), hle, ↓zciX m1, ↓zciX (mX hw), ↓zciX (mEX hw), show (nI 99 = (99 : Int32)) = True from eq_true (by decide), show (nI 99 = (104 : Int32)) = False from eq_false (by decide), show (nI 99 = (111 : Int32)) = False from eq_false (by decide), show (nI 99 = (115 : Int32)) = False from eq_false (by decide), show (nI 99 = (116 : Int32)) = False from eq_false (by decide), show (nI 99 = (119 : Int32)) = False from eq_false (by decide), d10, true_or, or_true, true_and, and_true, and_false, false_and, and_self, if_true, if_false]
  | some v1 =>
    have b1 := rdO_b h1
    refine Or.inr ⟨q1, nI 99, fun N => N 0 = nI v1, by omega, by omega, fun D l N hX => ⟨(upd N 0 (nI v1)), ?_, by simp [upd]⟩, fun F G T hRP hT => ?_⟩
    · have hN := c_next (l := l) (N := N) hw hX (show p ≤ 200 by omega)
      rw [if_pos hp, hc] at hN
      have e1 : f_FairText_readOne w (tD D s (p + 1) (nI 99) N) (s + 1) 0 1 9 = some (1, tD D s q1 (nI 99) (upd N 0 (nI v1))) := cO1 (l := nI 99) (N := N) (k := 0) (lo := 1) (hi := 9) hw hX (by omega) (by decide) (by decide) (by decide) h1
      unfold f_FairText_readCommand
      simp only [↓zjpE, ↓zletE, ↓zciE, ↓zcvE, ↓zchkE, ↓reduceIte, zciE, zcvE, nI_1, ↓WSo hw, ↓WSr0 hw, ↓WSr1 hw, ↓WSr2 hw, ↓WSr3 hw, ↓WSr4 hw, ↓WSg5 hw, ↓WSp5 hw, ↓WSg6 hw, ↓WSp6 hw, ↓WSr7 hw, ↓WSr8 hw, ↓WTo hw, ↓WTr0 hw, ↓WTg1 hw, ↓WTp1 hw, ↓WTg2 hw, ↓WTp2 hw, ↓WTg3 hw, ↓WTp3 hw, ↓WTr4 hw, ↓WMo hw, ↓WMg0 hw, ↓WMp0 hw, ↓WMr1 hw, ↓WMg2 hw, ↓WMp2 hw, ↓WMr3 hw, ↓WMr4 hw, ↓WMr5 hw, ↓WMg6 hw, ↓WMp6 hw, ↓WMr7 hw, ↓WMr8 hw, ↓WMg9 hw, ↓WMp9 hw, ↓WMg10 hw, ↓WMp10 hw, tD_1, tD_2, tD_3, tD_c, tD_n, tD_w2, tD_w3, tD_wn, ↓zciX hN, ↓zciX e1, show (nI 99 = (99 : Int32)) = True from eq_true (by decide), show (nI 99 = (104 : Int32)) = False from eq_false (by decide), show (nI 99 = (111 : Int32)) = False from eq_false (by decide), show (nI 99 = (115 : Int32)) = False from eq_false (by decide), show (nI 99 = (116 : Int32)) = False from eq_false (by decide), show (nI 99 = (119 : Int32)) = False from eq_false (by decide), d10, true_or, or_true, true_and, and_true, and_false, false_and, and_self, if_true, if_false]
    obtain ⟨ns, nh, nw, np, d, e, l9, t, hRR, ht⟩ := id hRP
    obtain ⟨h1', ⟨p9, q1', q2', q3', q4', q5', q6'⟩, hz, hB, ⟨n0, n1, n2, n3, n4, n5, n6, n7⟩, hS, hH, hW, hC, hP, hE, hK, hA⟩ := id hRR
    have hF1 : F 1 7 = nI ns := (r1_7 h1').trans n0
    have hF9 : F 9 6 = nI nh := (r9_6 h1').trans n2
    have hF16 : F 16 2 = nI nw := (r16_2 h1').trans n4
    have hv : (1 : Int32) ≤ nI v1 ∧ nI v1 ≤ 9 := ⟨nI_le (a := 1) (by omega) (by omega), nI_le (b := 9) (by omega) (by decide)⟩
    have hm1 : ¬ nI v1 = -1 := nI_ne_m1 (by omega)
    have hpos : ¬ G 0 7 < 0 := fun h => absurd (Int32.lt_of_le_of_lt hC.1 h) (by decide)
    refine ⟨upd2 F 0 7 (nI v1), upd2 G 0 7 (nI v1), 0, ⟨ns, nh, nw, np, d, e, l9, t, RI_set7 hRR hv, by omega⟩, Or.inl rfl, fun D o hM => ?_, fun D hN => ?_⟩
    · have hle := (hM.2.2 p hp).2
      rw [hc] at hle
      have m1 : f_MD_figures w (mD D s (p + 1) o (vec G)) (s + 634) 0 1 1 9 = some (nI v1, mD D s q1 o (vec G)) := mO1 (lo := 1) (hi := 9) hw hM (by omega) (by decide) (by decide) (by decide) h1
      have w2 : f_MD_change w (mD D s q1 o (vec G)) (s + 637) 0 (nI v1) = some (G 0 7, mD D s q1 o (vec (upd2 G 0 7 (nI v1)))) := m_chg0 hb
      have dn : f_MD_done w (mD D s q1 o (vec (upd2 G 0 7 (nI v1)))) (s + 634) 1 = some (1, mD D s q1 (o + 0) (vec (upd2 G 0 7 (nI v1)))) := m_done1 hw
      unfold f_MD_readCommand
      simp only [↓zjpE, ↓zletE, ↓zciE, ↓zcvE, ↓zchkE, ↓reduceIte, zciE, zcvE, nI_1, ↓WSo hw, ↓WSr0 hw, ↓WSr1 hw, ↓WSr2 hw, ↓WSr3 hw, ↓WSr4 hw, ↓WSg5 hw, ↓WSp5 hw, ↓WSg6 hw, ↓WSp6 hw, ↓WSr7 hw, ↓WSr8 hw, ↓WTo hw, ↓WTr0 hw, ↓WTg1 hw, ↓WTp1 hw, ↓WTg2 hw, ↓WTp2 hw, ↓WTg3 hw, ↓WTp3 hw, ↓WTr4 hw, ↓WMo hw, ↓WMg0 hw, ↓WMp0 hw, ↓WMr1 hw, ↓WMg2 hw, ↓WMp2 hw, ↓WMr3 hw, ↓WMr4 hw, ↓WMr5 hw, ↓WMg6 hw, ↓WMp6 hw, ↓WMr7 hw, ↓WMr8 hw, ↓WMg9 hw, ↓WMp9 hw, ↓WMg10 hw, ↓WMp10 hw, mD_2, mD_9, mD_10, mD_x, mD_w9, mD_w10, ↓zald_of (i := p) (n := 120) (Wx hw) (show p < 120 by omega) (by decide), hle, ↓zciX m1, show (nI 99 = (99 : Int32)) = True from eq_true (by decide), show (nI 99 = (104 : Int32)) = False from eq_false (by decide), show (nI 99 = (111 : Int32)) = False from eq_false (by decide), show (nI 99 = (115 : Int32)) = False from eq_false (by decide), show (nI 99 = (116 : Int32)) = False from eq_false (by decide), show (nI 99 = (119 : Int32)) = False from eq_false (by decide), true_or, or_true, true_and, and_true, and_false, false_and, and_self, if_true, if_false, hm1, ↓zciX w2, hpos, ↓zciX dn]
      try rw [if_neg nd1m]
      try rw [if_neg nd0m]
      try rw [if_neg nd10]
      try rw [if_neg nd01]
      try simp only [↓zjpE, ↓zletE, ↓zciE, ↓zcvE, ↓zchkE, ↓reduceIte, zciE, zcvE, nI_1, ↓WSo hw, ↓WSr0 hw, ↓WSr1 hw, ↓WSr2 hw, ↓WSr3 hw, ↓WSr4 hw, ↓WSg5 hw, ↓WSp5 hw, ↓WSg6 hw, ↓WSp6 hw, ↓WSr7 hw, ↓WSr8 hw, ↓WTo hw, ↓WTr0 hw, ↓WTg1 hw, ↓WTp1 hw, ↓WTg2 hw, ↓WTp2 hw, ↓WTg3 hw, ↓WTp3 hw, ↓WTr4 hw, ↓WMo hw, ↓WMg0 hw, ↓WMp0 hw, ↓WMr1 hw, ↓WMg2 hw, ↓WMp2 hw, ↓WMr3 hw, ↓WMr4 hw, ↓WMr5 hw, ↓WMg6 hw, ↓WMp6 hw, ↓WMr7 hw, ↓WMr8 hw, ↓WMg9 hw, ↓WMp9 hw, ↓WMg10 hw, ↓WMp10 hw, true_or, or_true, true_and, and_true, and_false, false_and, and_self, if_true, if_false, hm1, ↓zciX w2, hpos, ↓zciX dn]
      try rw [if_neg nd1m]
      try rw [if_neg nd0m]
      try rw [if_neg nd10]
      try rw [if_neg nd01]
      try simp only [↓zjpE, ↓zletE, ↓zciE, ↓zcvE, ↓zchkE, ↓reduceIte, zciE, zcvE, nI_1, ↓WSo hw, ↓WSr0 hw, ↓WSr1 hw, ↓WSr2 hw, ↓WSr3 hw, ↓WSr4 hw, ↓WSg5 hw, ↓WSp5 hw, ↓WSg6 hw, ↓WSp6 hw, ↓WSr7 hw, ↓WSr8 hw, ↓WTo hw, ↓WTr0 hw, ↓WTg1 hw, ↓WTp1 hw, ↓WTg2 hw, ↓WTp2 hw, ↓WTg3 hw, ↓WTp3 hw, ↓WTr4 hw, ↓WMo hw, ↓WMg0 hw, ↓WMp0 hw, ↓WMr1 hw, ↓WMg2 hw, ↓WMp2 hw, ↓WMr3 hw, ↓WMr4 hw, ↓WMr5 hw, ↓WMg6 hw, ↓WMp6 hw, ↓WMr7 hw, ↓WMr8 hw, ↓WMg9 hw, ↓WMp9 hw, ↓WMg10 hw, ↓WMp10 hw, true_or, or_true, true_and, and_true, and_false, false_and, and_self, if_true, if_false, hm1, ↓zciX w2, hpos, ↓zciX dn]
      try rw [if_neg nd1m]
      try rw [if_neg nd0m]
      try rw [if_neg nd10]
      try rw [if_neg nd01]
      try simp only [↓zjpE, ↓zletE, ↓zciE, ↓zcvE, ↓zchkE, ↓reduceIte, zciE, zcvE, nI_1, ↓WSo hw, ↓WSr0 hw, ↓WSr1 hw, ↓WSr2 hw, ↓WSr3 hw, ↓WSr4 hw, ↓WSg5 hw, ↓WSp5 hw, ↓WSg6 hw, ↓WSp6 hw, ↓WSr7 hw, ↓WSr8 hw, ↓WTo hw, ↓WTr0 hw, ↓WTg1 hw, ↓WTp1 hw, ↓WTg2 hw, ↓WTp2 hw, ↓WTg3 hw, ↓WTp3 hw, ↓WTr4 hw, ↓WMo hw, ↓WMg0 hw, ↓WMp0 hw, ↓WMr1 hw, ↓WMg2 hw, ↓WMp2 hw, ↓WMr3 hw, ↓WMr4 hw, ↓WMr5 hw, ↓WMg6 hw, ↓WMp6 hw, ↓WMr7 hw, ↓WMr8 hw, ↓WMg9 hw, ↓WMp9 hw, ↓WMg10 hw, ↓WMp10 hw, true_or, or_true, true_and, and_true, and_false, false_and, and_self, if_true, if_false, hm1, ↓zciX w2, hpos, ↓zciX dn]
    · have g0 := hN
      unfold f_SF_obeys
      simp only [↓zjpE, ↓zletE, ↓zciE, ↓zcvE, ↓zchkE, ↓reduceIte, zciE, zcvE, nI_1, ↓Lo0 hL, ↓Lr0_0 hL, ↓Lr0_1 hL, ↓Lr0_2 hL, ↓Lo1 hL, ↓Lo9 hL, ↓Lo16 hL, ↓Lp0_7 hL, ↓zLu hw, ↓zNu0 hw, ↓zNu1 hw, ↓zNu2 hw, ↓zNu3 hw, ↓zNu4 hw, show ((5 : Int32) ≤ nI 5) = True from eq_true (by decide), show (nI 99 = (99 : Int32)) = True from eq_true (by decide), show (nI 99 = (104 : Int32)) = False from eq_false (by decide), show (nI 99 = (111 : Int32)) = False from eq_false (by decide), show (nI 99 = (115 : Int32)) = False from eq_false (by decide), show (nI 99 = (116 : Int32)) = False from eq_false (by decide), show (nI 99 = (119 : Int32)) = False from eq_false (by decide), d10, true_or, or_true, true_and, and_true, and_false, false_and, and_self, if_true, if_false, g0]
theorem st_116 (hw : WL w s) (hn : n ≤ 120) (hp : p < n) (hc : ch p = 116) : StepF w s n p ch ∨ StepG w s n p ch := by
  have hL := WL4 hw
  have hb := Wt hw
  obtain ⟨r1, q1, h1⟩ : ∃ r q, rdT ch n 1 99 (p + 1) = (r, q) := ⟨_, _, rfl⟩
  cases r1 with
  | none =>
    have b1 := rdT_n (by omega) h1
    refine Or.inl ⟨q1, nI 116, b1, fun D l N hX => ⟨N, ?_⟩, fun D o V hM => ?_⟩
    · have hN := c_next (l := l) (N := N) hw hX (show p ≤ 200 by omega)
      rw [if_pos hp, hc] at hN
      have e1 : f_FairText_readTwo w (tD D s (p + 1) (nI 116) N) (s + 1) 0 1 99 = some (0, tD D s q1 (nI 116) N) := cT0 (l := nI 116) (N := N) (k := 0) (lo := 1) (hi := 99) hw hX (by omega) (by decide) (by decide) (by decide) h1
      unfold f_FairText_readCommand
      simp only [↓zjpE, ↓zletE, ↓zciE, ↓zcvE, ↓zchkE, ↓reduceIte, zciE, zcvE, nI_1, ↓WSo hw, ↓WSr0 hw, ↓WSr1 hw, ↓WSr2 hw, ↓WSr3 hw, ↓WSr4 hw, ↓WSg5 hw, ↓WSp5 hw, ↓WSg6 hw, ↓WSp6 hw, ↓WSr7 hw, ↓WSr8 hw, ↓WTo hw, ↓WTr0 hw, ↓WTg1 hw, ↓WTp1 hw, ↓WTg2 hw, ↓WTp2 hw, ↓WTg3 hw, ↓WTp3 hw, ↓WTr4 hw, ↓WMo hw, ↓WMg0 hw, ↓WMp0 hw, ↓WMr1 hw, ↓WMg2 hw, ↓WMp2 hw, ↓WMr3 hw, ↓WMr4 hw, ↓WMr5 hw, ↓WMg6 hw, ↓WMp6 hw, ↓WMr7 hw, ↓WMr8 hw, ↓WMg9 hw, ↓WMp9 hw, ↓WMg10 hw, ↓WMp10 hw, tD_1, tD_2, tD_3, tD_c, tD_n, tD_w2, tD_w3, tD_wn, ↓zciX hN, ↓zciX e1, show (nI 116 = (99 : Int32)) = False from eq_false (by decide), show (nI 116 = (104 : Int32)) = False from eq_false (by decide), show (nI 116 = (111 : Int32)) = False from eq_false (by decide), show (nI 116 = (115 : Int32)) = False from eq_false (by decide), show (nI 116 = (116 : Int32)) = True from eq_true (by decide), show (nI 116 = (119 : Int32)) = False from eq_false (by decide), d10, true_or, or_true, true_and, and_true, and_false, false_and, and_self, if_true, if_false]
    · have hle := (hM.2.2 p hp).2
      rw [hc] at hle
      have m1 : f_MD_figures w (mD D s (p + 1) o V) (s + 634) 0 2 1 99 = some (-1, mD D s q1 o V) := mT0 (lo := 1) (hi := 99) hw hM (by omega) (by decide) (by decide) (by decide) h1
      unfold f_MD_readCommand
      simp only [↓zjpE, ↓zletE, ↓zciE, ↓zcvE, ↓zchkE, ↓reduceIte, zciE, zcvE, nI_1, ↓WSo hw, ↓WSr0 hw, ↓WSr1 hw, ↓WSr2 hw, ↓WSr3 hw, ↓WSr4 hw, ↓WSg5 hw, ↓WSp5 hw, ↓WSg6 hw, ↓WSp6 hw, ↓WSr7 hw, ↓WSr8 hw, ↓WTo hw, ↓WTr0 hw, ↓WTg1 hw, ↓WTp1 hw, ↓WTg2 hw, ↓WTp2 hw, ↓WTg3 hw, ↓WTp3 hw, ↓WTr4 hw, ↓WMo hw, ↓WMg0 hw, ↓WMp0 hw, ↓WMr1 hw, ↓WMg2 hw, ↓WMp2 hw, ↓WMr3 hw, ↓WMr4 hw, ↓WMr5 hw, ↓WMg6 hw, ↓WMp6 hw, ↓WMr7 hw, ↓WMr8 hw, ↓WMg9 hw, ↓WMp9 hw, ↓WMg10 hw, ↓WMp10 hw, mD_2, mD_9, mD_10, mD_x, mD_w9, mD_w10, ↓zald_of (i := p) (n := 120) (Wx hw) (show p < 120 by omega) (by decide), hle, ↓zciX m1, ↓zciX (mX hw), ↓zciX (mEX hw), show (nI 116 = (99 : Int32)) = False from eq_false (by decide), show (nI 116 = (104 : Int32)) = False from eq_false (by decide), show (nI 116 = (111 : Int32)) = False from eq_false (by decide), show (nI 116 = (115 : Int32)) = False from eq_false (by decide), show (nI 116 = (116 : Int32)) = True from eq_true (by decide), show (nI 116 = (119 : Int32)) = False from eq_false (by decide), d10, true_or, or_true, true_and, and_true, and_false, false_and, and_self, if_true, if_false]
  | some v1 =>
    have b1 := rdT_b h1
    refine Or.inr ⟨q1, nI 116, fun N => N 0 = nI v1, by omega, by omega, fun D l N hX => ⟨(upd N 0 (nI v1)), ?_, by simp [upd]⟩, fun F G T hRP hT => ?_⟩
    · have hN := c_next (l := l) (N := N) hw hX (show p ≤ 200 by omega)
      rw [if_pos hp, hc] at hN
      have e1 : f_FairText_readTwo w (tD D s (p + 1) (nI 116) N) (s + 1) 0 1 99 = some (1, tD D s q1 (nI 116) (upd N 0 (nI v1))) := cT1 (l := nI 116) (N := N) (k := 0) (lo := 1) (hi := 99) hw hX (by omega) (by decide) (by decide) (by decide) h1
      unfold f_FairText_readCommand
      simp only [↓zjpE, ↓zletE, ↓zciE, ↓zcvE, ↓zchkE, ↓reduceIte, zciE, zcvE, nI_1, ↓WSo hw, ↓WSr0 hw, ↓WSr1 hw, ↓WSr2 hw, ↓WSr3 hw, ↓WSr4 hw, ↓WSg5 hw, ↓WSp5 hw, ↓WSg6 hw, ↓WSp6 hw, ↓WSr7 hw, ↓WSr8 hw, ↓WTo hw, ↓WTr0 hw, ↓WTg1 hw, ↓WTp1 hw, ↓WTg2 hw, ↓WTp2 hw, ↓WTg3 hw, ↓WTp3 hw, ↓WTr4 hw, ↓WMo hw, ↓WMg0 hw, ↓WMp0 hw, ↓WMr1 hw, ↓WMg2 hw, ↓WMp2 hw, ↓WMr3 hw, ↓WMr4 hw, ↓WMr5 hw, ↓WMg6 hw, ↓WMp6 hw, ↓WMr7 hw, ↓WMr8 hw, ↓WMg9 hw, ↓WMp9 hw, ↓WMg10 hw, ↓WMp10 hw, tD_1, tD_2, tD_3, tD_c, tD_n, tD_w2, tD_w3, tD_wn, ↓zciX hN, ↓zciX e1, show (nI 116 = (99 : Int32)) = False from eq_false (by decide), show (nI 116 = (104 : Int32)) = False from eq_false (by decide), show (nI 116 = (111 : Int32)) = False from eq_false (by decide), show (nI 116 = (115 : Int32)) = False from eq_false (by decide), show (nI 116 = (116 : Int32)) = True from eq_true (by decide), show (nI 116 = (119 : Int32)) = False from eq_false (by decide), d10, true_or, or_true, true_and, and_true, and_false, false_and, and_self, if_true, if_false]
    obtain ⟨F', G', m, hR, hm, w1, w2, -⟩ := turnT hL hb hRP (n := v1) (by omega) (by omega)
    have hm1 : ¬ nI v1 = -1 := nI_ne_m1 (by omega)
    have hpos : ¬ nI m < 0 := nI_pos (by omega)
    refine ⟨F', G', 0, RP_le hR (by omega), Or.inl rfl, fun D o hM => ?_, fun D hN => ?_⟩
    · have hle := (hM.2.2 p hp).2
      rw [hc] at hle
      have m1 : f_MD_figures w (mD D s (p + 1) o (vec G)) (s + 634) 0 2 1 99 = some (nI v1, mD D s q1 o (vec G)) := mT1 (lo := 1) (hi := 99) hw hM (by omega) (by decide) (by decide) (by decide) h1
      have w2' : f_MD_ticksOn w (mD D s q1 o (vec G)) (s + 637) (nI v1) = some (nI m, mD D s q1 o (vec G')) := w2 _
      have dn : f_MD_done w (mD D s q1 o (vec (G'))) (s + 634) 1 = some (1, mD D s q1 (o + 0) (vec (G'))) := m_done1 hw
      unfold f_MD_readCommand
      simp only [↓zjpE, ↓zletE, ↓zciE, ↓zcvE, ↓zchkE, ↓reduceIte, zciE, zcvE, nI_1, ↓WSo hw, ↓WSr0 hw, ↓WSr1 hw, ↓WSr2 hw, ↓WSr3 hw, ↓WSr4 hw, ↓WSg5 hw, ↓WSp5 hw, ↓WSg6 hw, ↓WSp6 hw, ↓WSr7 hw, ↓WSr8 hw, ↓WTo hw, ↓WTr0 hw, ↓WTg1 hw, ↓WTp1 hw, ↓WTg2 hw, ↓WTp2 hw, ↓WTg3 hw, ↓WTp3 hw, ↓WTr4 hw, ↓WMo hw, ↓WMg0 hw, ↓WMp0 hw, ↓WMr1 hw, ↓WMg2 hw, ↓WMp2 hw, ↓WMr3 hw, ↓WMr4 hw, ↓WMr5 hw, ↓WMg6 hw, ↓WMp6 hw, ↓WMr7 hw, ↓WMr8 hw, ↓WMg9 hw, ↓WMp9 hw, ↓WMg10 hw, ↓WMp10 hw, mD_2, mD_9, mD_10, mD_x, mD_w9, mD_w10, ↓zald_of (i := p) (n := 120) (Wx hw) (show p < 120 by omega) (by decide), hle, ↓zciX m1, show (nI 116 = (99 : Int32)) = False from eq_false (by decide), show (nI 116 = (104 : Int32)) = False from eq_false (by decide), show (nI 116 = (111 : Int32)) = False from eq_false (by decide), show (nI 116 = (115 : Int32)) = False from eq_false (by decide), show (nI 116 = (116 : Int32)) = True from eq_true (by decide), show (nI 116 = (119 : Int32)) = False from eq_false (by decide), true_or, or_true, true_and, and_true, and_false, false_and, and_self, if_true, if_false, hm1, ↓zciX w2', hpos, ↓zciX dn]
      try rw [if_neg nd1m]
      try rw [if_neg nd0m]
      try rw [if_neg nd10]
      try rw [if_neg nd01]
      try simp only [↓zjpE, ↓zletE, ↓zciE, ↓zcvE, ↓zchkE, ↓reduceIte, zciE, zcvE, nI_1, ↓WSo hw, ↓WSr0 hw, ↓WSr1 hw, ↓WSr2 hw, ↓WSr3 hw, ↓WSr4 hw, ↓WSg5 hw, ↓WSp5 hw, ↓WSg6 hw, ↓WSp6 hw, ↓WSr7 hw, ↓WSr8 hw, ↓WTo hw, ↓WTr0 hw, ↓WTg1 hw, ↓WTp1 hw, ↓WTg2 hw, ↓WTp2 hw, ↓WTg3 hw, ↓WTp3 hw, ↓WTr4 hw, ↓WMo hw, ↓WMg0 hw, ↓WMp0 hw, ↓WMr1 hw, ↓WMg2 hw, ↓WMp2 hw, ↓WMr3 hw, ↓WMr4 hw, ↓WMr5 hw, ↓WMg6 hw, ↓WMp6 hw, ↓WMr7 hw, ↓WMr8 hw, ↓WMg9 hw, ↓WMp9 hw, ↓WMg10 hw, ↓WMp10 hw, true_or, or_true, true_and, and_true, and_false, false_and, and_self, if_true, if_false, hm1, ↓zciX w2', hpos, ↓zciX dn]
      try rw [if_neg nd1m]
      try rw [if_neg nd0m]
      try rw [if_neg nd10]
      try rw [if_neg nd01]
      try simp only [↓zjpE, ↓zletE, ↓zciE, ↓zcvE, ↓zchkE, ↓reduceIte, zciE, zcvE, nI_1, ↓WSo hw, ↓WSr0 hw, ↓WSr1 hw, ↓WSr2 hw, ↓WSr3 hw, ↓WSr4 hw, ↓WSg5 hw, ↓WSp5 hw, ↓WSg6 hw, ↓WSp6 hw, ↓WSr7 hw, ↓WSr8 hw, ↓WTo hw, ↓WTr0 hw, ↓WTg1 hw, ↓WTp1 hw, ↓WTg2 hw, ↓WTp2 hw, ↓WTg3 hw, ↓WTp3 hw, ↓WTr4 hw, ↓WMo hw, ↓WMg0 hw, ↓WMp0 hw, ↓WMr1 hw, ↓WMg2 hw, ↓WMp2 hw, ↓WMr3 hw, ↓WMr4 hw, ↓WMr5 hw, ↓WMg6 hw, ↓WMp6 hw, ↓WMr7 hw, ↓WMr8 hw, ↓WMg9 hw, ↓WMp9 hw, ↓WMg10 hw, ↓WMp10 hw, true_or, or_true, true_and, and_true, and_false, false_and, and_self, if_true, if_false, hm1, ↓zciX w2', hpos, ↓zciX dn]
      try rw [if_neg nd1m]
      try rw [if_neg nd0m]
      try rw [if_neg nd10]
      try rw [if_neg nd01]
      try simp only [↓zjpE, ↓zletE, ↓zciE, ↓zcvE, ↓zchkE, ↓reduceIte, zciE, zcvE, nI_1, ↓WSo hw, ↓WSr0 hw, ↓WSr1 hw, ↓WSr2 hw, ↓WSr3 hw, ↓WSr4 hw, ↓WSg5 hw, ↓WSp5 hw, ↓WSg6 hw, ↓WSp6 hw, ↓WSr7 hw, ↓WSr8 hw, ↓WTo hw, ↓WTr0 hw, ↓WTg1 hw, ↓WTp1 hw, ↓WTg2 hw, ↓WTp2 hw, ↓WTg3 hw, ↓WTp3 hw, ↓WTr4 hw, ↓WMo hw, ↓WMg0 hw, ↓WMp0 hw, ↓WMr1 hw, ↓WMg2 hw, ↓WMp2 hw, ↓WMr3 hw, ↓WMr4 hw, ↓WMr5 hw, ↓WMg6 hw, ↓WMp6 hw, ↓WMr7 hw, ↓WMr8 hw, ↓WMg9 hw, ↓WMp9 hw, ↓WMg10 hw, ↓WMp10 hw, true_or, or_true, true_and, and_true, and_false, false_and, and_self, if_true, if_false, hm1, ↓zciX w2', hpos, ↓zciX dn]
    · have g0 := hN
      unfold f_SF_obeys
      simp only [↓zjpE, ↓zletE, ↓zciE, ↓zcvE, ↓zchkE, ↓reduceIte, zciE, zcvE, nI_1, ↓Lo0 hL, ↓Lr0_0 hL, ↓Lr0_1 hL, ↓Lr0_2 hL, ↓Lo1 hL, ↓Lo9 hL, ↓Lo16 hL, ↓Lp0_7 hL, ↓zLu hw, ↓zNu0 hw, ↓zNu1 hw, ↓zNu2 hw, ↓zNu3 hw, ↓zNu4 hw, show ((5 : Int32) ≤ nI 5) = True from eq_true (by decide), show (nI 116 = (99 : Int32)) = False from eq_false (by decide), show (nI 116 = (104 : Int32)) = False from eq_false (by decide), show (nI 116 = (111 : Int32)) = False from eq_false (by decide), show (nI 116 = (115 : Int32)) = False from eq_false (by decide), show (nI 116 = (116 : Int32)) = True from eq_true (by decide), show (nI 116 = (119 : Int32)) = False from eq_false (by decide), d10, true_or, or_true, true_and, and_true, and_false, false_and, and_self, if_true, if_false, g0, ↓zcvX (w1 D)]
theorem st_119 (hw : WL w s) (hn : n ≤ 120) (hp : p < n) (hc : ch p = 119) : StepF w s n p ch ∨ StepG w s n p ch := by
  have hL := WL4 hw
  have hb := Wt hw
  obtain ⟨r1, q1, h1⟩ : ∃ r q, rdE ch n 117 108 (p + 1) = (r, q) := ⟨_, _, rfl⟩
  cases r1 with
  | none =>
    have b1 := rdE_n (by omega) h1
    refine Or.inl ⟨q1, nI 119, b1, fun D l N hX => ⟨N, ?_⟩, fun D o V hM => ?_⟩
    · have hN := c_next (l := l) (N := N) hw hX (show p ≤ 200 by omega)
      rw [if_pos hp, hc] at hN
      have e1 : f_FairText_readEither w (tD D s (p + 1) (nI 119) N) (s + 1) 0 117 108 = some (0, tD D s q1 (nI 119) N) := cE0 (l := nI 119) (N := N) (x := 117) (y := 108) hw hX (by omega) (by decide) (by decide) h1
      unfold f_FairText_readCommand
      simp only [↓zjpE, ↓zletE, ↓zciE, ↓zcvE, ↓zchkE, ↓reduceIte, zciE, zcvE, nI_1, ↓WSo hw, ↓WSr0 hw, ↓WSr1 hw, ↓WSr2 hw, ↓WSr3 hw, ↓WSr4 hw, ↓WSg5 hw, ↓WSp5 hw, ↓WSg6 hw, ↓WSp6 hw, ↓WSr7 hw, ↓WSr8 hw, ↓WTo hw, ↓WTr0 hw, ↓WTg1 hw, ↓WTp1 hw, ↓WTg2 hw, ↓WTp2 hw, ↓WTg3 hw, ↓WTp3 hw, ↓WTr4 hw, ↓WMo hw, ↓WMg0 hw, ↓WMp0 hw, ↓WMr1 hw, ↓WMg2 hw, ↓WMp2 hw, ↓WMr3 hw, ↓WMr4 hw, ↓WMr5 hw, ↓WMg6 hw, ↓WMp6 hw, ↓WMr7 hw, ↓WMr8 hw, ↓WMg9 hw, ↓WMp9 hw, ↓WMg10 hw, ↓WMp10 hw, tD_1, tD_2, tD_3, tD_c, tD_n, tD_w2, tD_w3, tD_wn, ↓zciX hN, ↓zciX e1, show (nI 119 = (99 : Int32)) = False from eq_false (by decide), show (nI 119 = (104 : Int32)) = False from eq_false (by decide), show (nI 119 = (111 : Int32)) = False from eq_false (by decide), show (nI 119 = (115 : Int32)) = False from eq_false (by decide), show (nI 119 = (116 : Int32)) = False from eq_false (by decide), show (nI 119 = (119 : Int32)) = True from eq_true (by decide), d10, true_or, or_true, true_and, and_true, and_false, false_and, and_self, if_true, if_false]
    · have hle := (hM.2.2 p hp).2
      rw [hc] at hle
      have m1 : f_MD_either w (mD D s (p + 1) o V) (s + 634) 0 117 108 = some ((-1 : Int32), mD D s q1 o V) := mE0 (x := 117) (y := 108) hw hM (by omega) (by decide) (by decide) (by decide) h1
      unfold f_MD_readCommand
      simp only [↓zjpE, ↓zletE, ↓zciE, ↓zcvE, ↓zchkE, ↓reduceIte, zciE, zcvE, nI_1, ↓WSo hw, ↓WSr0 hw, ↓WSr1 hw, ↓WSr2 hw, ↓WSr3 hw, ↓WSr4 hw, ↓WSg5 hw, ↓WSp5 hw, ↓WSg6 hw, ↓WSp6 hw, ↓WSr7 hw, ↓WSr8 hw, ↓WTo hw, ↓WTr0 hw, ↓WTg1 hw, ↓WTp1 hw, ↓WTg2 hw, ↓WTp2 hw, ↓WTg3 hw, ↓WTp3 hw, ↓WTr4 hw, ↓WMo hw, ↓WMg0 hw, ↓WMp0 hw, ↓WMr1 hw, ↓WMg2 hw, ↓WMp2 hw, ↓WMr3 hw, ↓WMr4 hw, ↓WMr5 hw, ↓WMg6 hw, ↓WMp6 hw, ↓WMr7 hw, ↓WMr8 hw, ↓WMg9 hw, ↓WMp9 hw, ↓WMg10 hw, ↓WMp10 hw, mD_2, mD_9, mD_10, mD_x, mD_w9, mD_w10, ↓zald_of (i := p) (n := 120) (Wx hw) (show p < 120 by omega) (by decide), hle, ↓zciX m1, ↓zciX (mX hw), ↓zciX (mEX hw), show (nI 119 = (99 : Int32)) = False from eq_false (by decide), show (nI 119 = (104 : Int32)) = False from eq_false (by decide), show (nI 119 = (111 : Int32)) = False from eq_false (by decide), show (nI 119 = (115 : Int32)) = False from eq_false (by decide), show (nI 119 = (116 : Int32)) = False from eq_false (by decide), show (nI 119 = (119 : Int32)) = True from eq_true (by decide), d10, true_or, or_true, true_and, and_true, and_false, false_and, and_self, if_true, if_false]
  | some v1 =>
    have b1 := rdE_b h1
    obtain ⟨r2, q2, h2⟩ : ∃ r q, rdT ch n 0 80 q1 = (r, q) := ⟨_, _, rfl⟩
    cases r2 with
    | none =>
      have b2 := rdT_n (by omega) h2
      refine Or.inl ⟨q2, nI 119, b2, fun D l N hX => ⟨(upd N 0 (nI v1)), ?_⟩, fun D o V hM => ?_⟩
      · have hN := c_next (l := l) (N := N) hw hX (show p ≤ 200 by omega)
        rw [if_pos hp, hc] at hN
        have e1 : f_FairText_readEither w (tD D s (p + 1) (nI 119) N) (s + 1) 0 117 108 = some (1, tD D s q1 (nI 119) (upd N 0 (nI v1))) := cE1 (l := nI 119) (N := N) (k := 0) (x := 117) (y := 108) hw hX (by omega) (by decide) (by decide) (by decide) h1
        have e2 : f_FairText_readTwo w (tD D s q1 (nI 119) (upd N 0 (nI v1))) (s + 1) 1 0 80 = some (0, tD D s q2 (nI 119) (upd N 0 (nI v1))) := cT0 (l := nI 119) (N := (upd N 0 (nI v1))) (k := 1) (lo := 0) (hi := 80) hw hX (by omega) (by decide) (by decide) (by decide) h2
        unfold f_FairText_readCommand
        simp only [↓zjpE, ↓zletE, ↓zciE, ↓zcvE, ↓zchkE, ↓reduceIte, zciE, zcvE, nI_1, ↓WSo hw, ↓WSr0 hw, ↓WSr1 hw, ↓WSr2 hw, ↓WSr3 hw, ↓WSr4 hw, ↓WSg5 hw, ↓WSp5 hw, ↓WSg6 hw, ↓WSp6 hw, ↓WSr7 hw, ↓WSr8 hw, ↓WTo hw, ↓WTr0 hw, ↓WTg1 hw, ↓WTp1 hw, ↓WTg2 hw, ↓WTp2 hw, ↓WTg3 hw, ↓WTp3 hw, ↓WTr4 hw, ↓WMo hw, ↓WMg0 hw, ↓WMp0 hw, ↓WMr1 hw, ↓WMg2 hw, ↓WMp2 hw, ↓WMr3 hw, ↓WMr4 hw, ↓WMr5 hw, ↓WMg6 hw, ↓WMp6 hw, ↓WMr7 hw, ↓WMr8 hw, ↓WMg9 hw, ↓WMp9 hw, ↓WMg10 hw, ↓WMp10 hw, tD_1, tD_2, tD_3, tD_c, tD_n, tD_w2, tD_w3, tD_wn, ↓zciX hN, ↓zciX e1, ↓zciX e2, show (nI 119 = (99 : Int32)) = False from eq_false (by decide), show (nI 119 = (104 : Int32)) = False from eq_false (by decide), show (nI 119 = (111 : Int32)) = False from eq_false (by decide), show (nI 119 = (115 : Int32)) = False from eq_false (by decide), show (nI 119 = (116 : Int32)) = False from eq_false (by decide), show (nI 119 = (119 : Int32)) = True from eq_true (by decide), d10, true_or, or_true, true_and, and_true, and_false, false_and, and_self, if_true, if_false]
      · have hle := (hM.2.2 p hp).2
        rw [hc] at hle
        have m1 : f_MD_either w (mD D s (p + 1) o V) (s + 634) 0 117 108 = some ((if v1 = 117 then 1 else 0), mD D s q1 o V) := mE1 (x := 117) (y := 108) hw hM (by omega) (by decide) (by decide) (by decide) h1
        have m2 : f_MD_figures w (mD D s q1 o V) (s + 634) (if v1 = 117 then 1 else 0) 2 0 80 = some (-1, mD D s q2 o V) := mT0 (lo := 0) (hi := 80) hw hM (by omega) (by split <;> decide) (by decide) (by decide) h2
        unfold f_MD_readCommand
        simp only [↓zjpE, ↓zletE, ↓zciE, ↓zcvE, ↓zchkE, ↓reduceIte, zciE, zcvE, nI_1, ↓WSo hw, ↓WSr0 hw, ↓WSr1 hw, ↓WSr2 hw, ↓WSr3 hw, ↓WSr4 hw, ↓WSg5 hw, ↓WSp5 hw, ↓WSg6 hw, ↓WSp6 hw, ↓WSr7 hw, ↓WSr8 hw, ↓WTo hw, ↓WTr0 hw, ↓WTg1 hw, ↓WTp1 hw, ↓WTg2 hw, ↓WTp2 hw, ↓WTg3 hw, ↓WTp3 hw, ↓WTr4 hw, ↓WMo hw, ↓WMg0 hw, ↓WMp0 hw, ↓WMr1 hw, ↓WMg2 hw, ↓WMp2 hw, ↓WMr3 hw, ↓WMr4 hw, ↓WMr5 hw, ↓WMg6 hw, ↓WMp6 hw, ↓WMr7 hw, ↓WMr8 hw, ↓WMg9 hw, ↓WMp9 hw, ↓WMg10 hw, ↓WMp10 hw, mD_2, mD_9, mD_10, mD_x, mD_w9, mD_w10, ↓zald_of (i := p) (n := 120) (Wx hw) (show p < 120 by omega) (by decide), hle, ↓zciX m1, ↓zciX m2, ↓zciX (mX hw), ↓zciX (mEX hw), show (nI 119 = (99 : Int32)) = False from eq_false (by decide), show (nI 119 = (104 : Int32)) = False from eq_false (by decide), show (nI 119 = (111 : Int32)) = False from eq_false (by decide), show (nI 119 = (115 : Int32)) = False from eq_false (by decide), show (nI 119 = (116 : Int32)) = False from eq_false (by decide), show (nI 119 = (119 : Int32)) = True from eq_true (by decide), d10, true_or, or_true, true_and, and_true, and_false, false_and, and_self, if_true, if_false]
    | some v2 =>
      have b2 := rdT_b h2
      obtain ⟨u9, hu9, hu9'⟩ : ∃ u : Int32, (u = 0 ∨ u = 1) ∧ u = (if v1 = 117 then 1 else 0) := ⟨_, by split <;> simp, rfl⟩
      refine Or.inr ⟨q2, nI 119, fun N => N 0 = nI v1 ∧ N 1 = nI v2, by omega, by omega, fun D l N hX => ⟨(upd (upd N 0 (nI v1)) 1 (nI v2)), ?_, ⟨by simp [upd], by simp [upd]⟩⟩, fun F G T hRP hT => ?_⟩
      · have hN := c_next (l := l) (N := N) hw hX (show p ≤ 200 by omega)
        rw [if_pos hp, hc] at hN
        have e1 : f_FairText_readEither w (tD D s (p + 1) (nI 119) N) (s + 1) 0 117 108 = some (1, tD D s q1 (nI 119) (upd N 0 (nI v1))) := cE1 (l := nI 119) (N := N) (k := 0) (x := 117) (y := 108) hw hX (by omega) (by decide) (by decide) (by decide) h1
        have e2 : f_FairText_readTwo w (tD D s q1 (nI 119) (upd N 0 (nI v1))) (s + 1) 1 0 80 = some (1, tD D s q2 (nI 119) (upd (upd N 0 (nI v1)) 1 (nI v2))) := cT1 (l := nI 119) (N := (upd N 0 (nI v1))) (k := 1) (lo := 0) (hi := 80) hw hX (by omega) (by decide) (by decide) (by decide) h2
        unfold f_FairText_readCommand
        simp only [↓zjpE, ↓zletE, ↓zciE, ↓zcvE, ↓zchkE, ↓reduceIte, zciE, zcvE, nI_1, ↓WSo hw, ↓WSr0 hw, ↓WSr1 hw, ↓WSr2 hw, ↓WSr3 hw, ↓WSr4 hw, ↓WSg5 hw, ↓WSp5 hw, ↓WSg6 hw, ↓WSp6 hw, ↓WSr7 hw, ↓WSr8 hw, ↓WTo hw, ↓WTr0 hw, ↓WTg1 hw, ↓WTp1 hw, ↓WTg2 hw, ↓WTp2 hw, ↓WTg3 hw, ↓WTp3 hw, ↓WTr4 hw, ↓WMo hw, ↓WMg0 hw, ↓WMp0 hw, ↓WMr1 hw, ↓WMg2 hw, ↓WMp2 hw, ↓WMr3 hw, ↓WMr4 hw, ↓WMr5 hw, ↓WMg6 hw, ↓WMp6 hw, ↓WMr7 hw, ↓WMr8 hw, ↓WMg9 hw, ↓WMp9 hw, ↓WMg10 hw, ↓WMp10 hw, tD_1, tD_2, tD_3, tD_c, tD_n, tD_w2, tD_w3, tD_wn, ↓zciX hN, ↓zciX e1, ↓zciX e2, show (nI 119 = (99 : Int32)) = False from eq_false (by decide), show (nI 119 = (104 : Int32)) = False from eq_false (by decide), show (nI 119 = (111 : Int32)) = False from eq_false (by decide), show (nI 119 = (115 : Int32)) = False from eq_false (by decide), show (nI 119 = (116 : Int32)) = False from eq_false (by decide), show (nI 119 = (119 : Int32)) = True from eq_true (by decide), d10, true_or, or_true, true_and, and_true, and_false, false_and, and_self, if_true, if_false]
      obtain ⟨ns, nh, nw, np, d, e, l9, t, hRR, ht⟩ := id hRP
      obtain ⟨h1', ⟨p9, q1', q2', q3', q4', q5', q6'⟩, hz, hB, ⟨n0, n1, n2, n3, n4, n5, n6, n7⟩, hS, hH, hW, hC, hP, hE, hK, hA⟩ := id hRR
      have hF1 : F 1 7 = nI ns := (r1_7 h1').trans n0
      have hF9 : F 9 6 = nI nh := (r9_6 h1').trans n2
      have hF16 : F 16 2 = nI nw := (r16_2 h1').trans n4
      have hm1 : ¬ nI v2 = -1 := nI_ne_m1 (by omega)
      have hu1 : ((if v1 = 117 then (1 : Int32) else 0) = 1) = (v1 = 117) := by by_cases h : v1 = 117 <;> simp [h]
      have hu2 : (nI v1 = (117 : Int32)) = (v1 = 117) := propext (nI_eq (b := 117) (by omega) (by decide))
      by_cases hfull : nw < 3
      · have hge : ¬ (3 : Int32) ≤ nI nw := nI_ge hfull (by decide)
        have hmw : ¬ nI nw = -1 := nI_ne_m1 (by omega)
        have h0 : ¬ nI nw < 0 := nI_pos (by omega)
        refine ⟨walF F nw u9 (nI v2 - 40), walF G nw u9 (nI v2 - 40), 0, ⟨ns, nh, nw + 1, np, d, e, l9, t, RI_wal hRR hfull ⟨hu9, (at_new (by omega)).1, (at_new (by omega)).2⟩, by omega⟩, Or.inl rfl, fun D o hM => ?_, fun D hN => ?_⟩
        · by_cases h117 : v1 = 117
          · rw [if_pos h117] at hu9'
            subst hu9'
            have hle := (hM.2.2 p hp).2
            rw [hc] at hle
            have m1 : f_MD_either w (mD D s (p + 1) o (vec G)) (s + 634) 0 117 108 = some ((if v1 = 117 then 1 else 0), mD D s q1 o (vec G)) := mE1 (x := 117) (y := 108) hw hM (by omega) (by decide) (by decide) (by decide) h1
            have m2 : f_MD_figures w (mD D s q1 o (vec G)) (s + 634) (if v1 = 117 then 1 else 0) 2 0 80 = some (nI v2, mD D s q2 o (vec G)) := mT1 (lo := 0) (hi := 80) hw hM (by omega) (by split <;> decide) (by decide) (by decide) h2
            have rd0 : ∀ {β : Type} (q : Nat) {k : Int32 → Option β}, zald w (mD D s q o (vec G)) 0 (s + 637) (2 : Int32) k = k (G 16 2) := fun q => Mrc2 hb
            have w2 : f_MD_wallOn w (mD D s q2 o (vec G)) (s + 637) 1 (nI v2 - 40) = some (nI nw, mD D s q2 o (vec (walF G nw 1 (nI v2 - 40)))) := m_addW hb hfull n4 (Or.inr rfl)
            have dn : f_MD_done w (mD D s q2 o (vec (walF G nw 1 (nI v2 - 40)))) (s + 634) 1 = some (1, mD D s q2 (o + 0) (vec (walF G nw 1 (nI v2 - 40)))) := m_done1 hw
            unfold f_MD_readCommand
            simp only [↓zjpE, ↓zletE, ↓zciE, ↓zcvE, ↓zchkE, ↓reduceIte, zciE, zcvE, nI_1, ↓WSo hw, ↓WSr0 hw, ↓WSr1 hw, ↓WSr2 hw, ↓WSr3 hw, ↓WSr4 hw, ↓WSg5 hw, ↓WSp5 hw, ↓WSg6 hw, ↓WSp6 hw, ↓WSr7 hw, ↓WSr8 hw, ↓WTo hw, ↓WTr0 hw, ↓WTg1 hw, ↓WTp1 hw, ↓WTg2 hw, ↓WTp2 hw, ↓WTg3 hw, ↓WTp3 hw, ↓WTr4 hw, ↓WMo hw, ↓WMg0 hw, ↓WMp0 hw, ↓WMr1 hw, ↓WMg2 hw, ↓WMp2 hw, ↓WMr3 hw, ↓WMr4 hw, ↓WMr5 hw, ↓WMg6 hw, ↓WMp6 hw, ↓WMr7 hw, ↓WMr8 hw, ↓WMg9 hw, ↓WMp9 hw, ↓WMg10 hw, ↓WMp10 hw, mD_2, mD_9, mD_10, mD_x, mD_w9, mD_w10, ↓zald_of (i := p) (n := 120) (Wx hw) (show p < 120 by omega) (by decide), hle, ↓zciX m1, ↓zciX m2, show (nI 119 = (99 : Int32)) = False from eq_false (by decide), show (nI 119 = (104 : Int32)) = False from eq_false (by decide), show (nI 119 = (111 : Int32)) = False from eq_false (by decide), show (nI 119 = (115 : Int32)) = False from eq_false (by decide), show (nI 119 = (116 : Int32)) = False from eq_false (by decide), show (nI 119 = (119 : Int32)) = True from eq_true (by decide), true_or, or_true, true_and, and_true, and_false, false_and, and_self, if_true, if_false, hm1, ↓rd0 q2, n4, hge, hu1, eq_true h117, ↓zciX w2, h0, ↓zciX dn]
            try rw [if_neg nd1m]
            try rw [if_neg nd0m]
            try rw [if_neg nd10]
            try rw [if_neg nd01]
            try simp only [↓zjpE, ↓zletE, ↓zciE, ↓zcvE, ↓zchkE, ↓reduceIte, zciE, zcvE, nI_1, ↓WSo hw, ↓WSr0 hw, ↓WSr1 hw, ↓WSr2 hw, ↓WSr3 hw, ↓WSr4 hw, ↓WSg5 hw, ↓WSp5 hw, ↓WSg6 hw, ↓WSp6 hw, ↓WSr7 hw, ↓WSr8 hw, ↓WTo hw, ↓WTr0 hw, ↓WTg1 hw, ↓WTp1 hw, ↓WTg2 hw, ↓WTp2 hw, ↓WTg3 hw, ↓WTp3 hw, ↓WTr4 hw, ↓WMo hw, ↓WMg0 hw, ↓WMp0 hw, ↓WMr1 hw, ↓WMg2 hw, ↓WMp2 hw, ↓WMr3 hw, ↓WMr4 hw, ↓WMr5 hw, ↓WMg6 hw, ↓WMp6 hw, ↓WMr7 hw, ↓WMr8 hw, ↓WMg9 hw, ↓WMp9 hw, ↓WMg10 hw, ↓WMp10 hw, true_or, or_true, true_and, and_true, and_false, false_and, and_self, if_true, if_false, hm1, ↓rd0 q2, n4, hge, hu1, eq_true h117, ↓zciX w2, h0, ↓zciX dn]
            try rw [if_neg nd1m]
            try rw [if_neg nd0m]
            try rw [if_neg nd10]
            try rw [if_neg nd01]
            try simp only [↓zjpE, ↓zletE, ↓zciE, ↓zcvE, ↓zchkE, ↓reduceIte, zciE, zcvE, nI_1, ↓WSo hw, ↓WSr0 hw, ↓WSr1 hw, ↓WSr2 hw, ↓WSr3 hw, ↓WSr4 hw, ↓WSg5 hw, ↓WSp5 hw, ↓WSg6 hw, ↓WSp6 hw, ↓WSr7 hw, ↓WSr8 hw, ↓WTo hw, ↓WTr0 hw, ↓WTg1 hw, ↓WTp1 hw, ↓WTg2 hw, ↓WTp2 hw, ↓WTg3 hw, ↓WTp3 hw, ↓WTr4 hw, ↓WMo hw, ↓WMg0 hw, ↓WMp0 hw, ↓WMr1 hw, ↓WMg2 hw, ↓WMp2 hw, ↓WMr3 hw, ↓WMr4 hw, ↓WMr5 hw, ↓WMg6 hw, ↓WMp6 hw, ↓WMr7 hw, ↓WMr8 hw, ↓WMg9 hw, ↓WMp9 hw, ↓WMg10 hw, ↓WMp10 hw, true_or, or_true, true_and, and_true, and_false, false_and, and_self, if_true, if_false, hm1, ↓rd0 q2, n4, hge, hu1, eq_true h117, ↓zciX w2, h0, ↓zciX dn]
            try rw [if_neg nd1m]
            try rw [if_neg nd0m]
            try rw [if_neg nd10]
            try rw [if_neg nd01]
            try simp only [↓zjpE, ↓zletE, ↓zciE, ↓zcvE, ↓zchkE, ↓reduceIte, zciE, zcvE, nI_1, ↓WSo hw, ↓WSr0 hw, ↓WSr1 hw, ↓WSr2 hw, ↓WSr3 hw, ↓WSr4 hw, ↓WSg5 hw, ↓WSp5 hw, ↓WSg6 hw, ↓WSp6 hw, ↓WSr7 hw, ↓WSr8 hw, ↓WTo hw, ↓WTr0 hw, ↓WTg1 hw, ↓WTp1 hw, ↓WTg2 hw, ↓WTp2 hw, ↓WTg3 hw, ↓WTp3 hw, ↓WTr4 hw, ↓WMo hw, ↓WMg0 hw, ↓WMp0 hw, ↓WMr1 hw, ↓WMg2 hw, ↓WMp2 hw, ↓WMr3 hw, ↓WMr4 hw, ↓WMr5 hw, ↓WMg6 hw, ↓WMp6 hw, ↓WMr7 hw, ↓WMr8 hw, ↓WMg9 hw, ↓WMp9 hw, ↓WMg10 hw, ↓WMp10 hw, true_or, or_true, true_and, and_true, and_false, false_and, and_self, if_true, if_false, hm1, ↓rd0 q2, n4, hge, hu1, eq_true h117, ↓zciX w2, h0, ↓zciX dn]
          · rw [if_neg h117] at hu9'
            subst hu9'
            have hle := (hM.2.2 p hp).2
            rw [hc] at hle
            have m1 : f_MD_either w (mD D s (p + 1) o (vec G)) (s + 634) 0 117 108 = some ((if v1 = 117 then 1 else 0), mD D s q1 o (vec G)) := mE1 (x := 117) (y := 108) hw hM (by omega) (by decide) (by decide) (by decide) h1
            have m2 : f_MD_figures w (mD D s q1 o (vec G)) (s + 634) (if v1 = 117 then 1 else 0) 2 0 80 = some (nI v2, mD D s q2 o (vec G)) := mT1 (lo := 0) (hi := 80) hw hM (by omega) (by split <;> decide) (by decide) (by decide) h2
            have rd0 : ∀ {β : Type} (q : Nat) {k : Int32 → Option β}, zald w (mD D s q o (vec G)) 0 (s + 637) (2 : Int32) k = k (G 16 2) := fun q => Mrc2 hb
            have w2 : f_MD_wallOn w (mD D s q2 o (vec G)) (s + 637) 0 (nI v2 - 40) = some (nI nw, mD D s q2 o (vec (walF G nw 0 (nI v2 - 40)))) := m_addW hb hfull n4 (Or.inl rfl)
            have dn : f_MD_done w (mD D s q2 o (vec (walF G nw 0 (nI v2 - 40)))) (s + 634) 1 = some (1, mD D s q2 (o + 0) (vec (walF G nw 0 (nI v2 - 40)))) := m_done1 hw
            unfold f_MD_readCommand
            simp only [↓zjpE, ↓zletE, ↓zciE, ↓zcvE, ↓zchkE, ↓reduceIte, zciE, zcvE, nI_1, ↓WSo hw, ↓WSr0 hw, ↓WSr1 hw, ↓WSr2 hw, ↓WSr3 hw, ↓WSr4 hw, ↓WSg5 hw, ↓WSp5 hw, ↓WSg6 hw, ↓WSp6 hw, ↓WSr7 hw, ↓WSr8 hw, ↓WTo hw, ↓WTr0 hw, ↓WTg1 hw, ↓WTp1 hw, ↓WTg2 hw, ↓WTp2 hw, ↓WTg3 hw, ↓WTp3 hw, ↓WTr4 hw, ↓WMo hw, ↓WMg0 hw, ↓WMp0 hw, ↓WMr1 hw, ↓WMg2 hw, ↓WMp2 hw, ↓WMr3 hw, ↓WMr4 hw, ↓WMr5 hw, ↓WMg6 hw, ↓WMp6 hw, ↓WMr7 hw, ↓WMr8 hw, ↓WMg9 hw, ↓WMp9 hw, ↓WMg10 hw, ↓WMp10 hw, mD_2, mD_9, mD_10, mD_x, mD_w9, mD_w10, ↓zald_of (i := p) (n := 120) (Wx hw) (show p < 120 by omega) (by decide), hle, ↓zciX m1, ↓zciX m2, show (nI 119 = (99 : Int32)) = False from eq_false (by decide), show (nI 119 = (104 : Int32)) = False from eq_false (by decide), show (nI 119 = (111 : Int32)) = False from eq_false (by decide), show (nI 119 = (115 : Int32)) = False from eq_false (by decide), show (nI 119 = (116 : Int32)) = False from eq_false (by decide), show (nI 119 = (119 : Int32)) = True from eq_true (by decide), true_or, or_true, true_and, and_true, and_false, false_and, and_self, if_true, if_false, hm1, ↓rd0 q2, n4, hge, hu1, eq_false h117, ↓zciX w2, h0, ↓zciX dn]
            try rw [if_neg nd1m]
            try rw [if_neg nd0m]
            try rw [if_neg nd10]
            try rw [if_neg nd01]
            try simp only [↓zjpE, ↓zletE, ↓zciE, ↓zcvE, ↓zchkE, ↓reduceIte, zciE, zcvE, nI_1, ↓WSo hw, ↓WSr0 hw, ↓WSr1 hw, ↓WSr2 hw, ↓WSr3 hw, ↓WSr4 hw, ↓WSg5 hw, ↓WSp5 hw, ↓WSg6 hw, ↓WSp6 hw, ↓WSr7 hw, ↓WSr8 hw, ↓WTo hw, ↓WTr0 hw, ↓WTg1 hw, ↓WTp1 hw, ↓WTg2 hw, ↓WTp2 hw, ↓WTg3 hw, ↓WTp3 hw, ↓WTr4 hw, ↓WMo hw, ↓WMg0 hw, ↓WMp0 hw, ↓WMr1 hw, ↓WMg2 hw, ↓WMp2 hw, ↓WMr3 hw, ↓WMr4 hw, ↓WMr5 hw, ↓WMg6 hw, ↓WMp6 hw, ↓WMr7 hw, ↓WMr8 hw, ↓WMg9 hw, ↓WMp9 hw, ↓WMg10 hw, ↓WMp10 hw, true_or, or_true, true_and, and_true, and_false, false_and, and_self, if_true, if_false, hm1, ↓rd0 q2, n4, hge, hu1, eq_false h117, ↓zciX w2, h0, ↓zciX dn]
            try rw [if_neg nd1m]
            try rw [if_neg nd0m]
            try rw [if_neg nd10]
            try rw [if_neg nd01]
            try simp only [↓zjpE, ↓zletE, ↓zciE, ↓zcvE, ↓zchkE, ↓reduceIte, zciE, zcvE, nI_1, ↓WSo hw, ↓WSr0 hw, ↓WSr1 hw, ↓WSr2 hw, ↓WSr3 hw, ↓WSr4 hw, ↓WSg5 hw, ↓WSp5 hw, ↓WSg6 hw, ↓WSp6 hw, ↓WSr7 hw, ↓WSr8 hw, ↓WTo hw, ↓WTr0 hw, ↓WTg1 hw, ↓WTp1 hw, ↓WTg2 hw, ↓WTp2 hw, ↓WTg3 hw, ↓WTp3 hw, ↓WTr4 hw, ↓WMo hw, ↓WMg0 hw, ↓WMp0 hw, ↓WMr1 hw, ↓WMg2 hw, ↓WMp2 hw, ↓WMr3 hw, ↓WMr4 hw, ↓WMr5 hw, ↓WMg6 hw, ↓WMp6 hw, ↓WMr7 hw, ↓WMr8 hw, ↓WMg9 hw, ↓WMp9 hw, ↓WMg10 hw, ↓WMp10 hw, true_or, or_true, true_and, and_true, and_false, false_and, and_self, if_true, if_false, hm1, ↓rd0 q2, n4, hge, hu1, eq_false h117, ↓zciX w2, h0, ↓zciX dn]
            try rw [if_neg nd1m]
            try rw [if_neg nd0m]
            try rw [if_neg nd10]
            try rw [if_neg nd01]
            try simp only [↓zjpE, ↓zletE, ↓zciE, ↓zcvE, ↓zchkE, ↓reduceIte, zciE, zcvE, nI_1, ↓WSo hw, ↓WSr0 hw, ↓WSr1 hw, ↓WSr2 hw, ↓WSr3 hw, ↓WSr4 hw, ↓WSg5 hw, ↓WSp5 hw, ↓WSg6 hw, ↓WSp6 hw, ↓WSr7 hw, ↓WSr8 hw, ↓WTo hw, ↓WTr0 hw, ↓WTg1 hw, ↓WTp1 hw, ↓WTg2 hw, ↓WTp2 hw, ↓WTg3 hw, ↓WTp3 hw, ↓WTr4 hw, ↓WMo hw, ↓WMg0 hw, ↓WMp0 hw, ↓WMr1 hw, ↓WMg2 hw, ↓WMp2 hw, ↓WMr3 hw, ↓WMr4 hw, ↓WMr5 hw, ↓WMg6 hw, ↓WMp6 hw, ↓WMr7 hw, ↓WMr8 hw, ↓WMg9 hw, ↓WMp9 hw, ↓WMg10 hw, ↓WMp10 hw, true_or, or_true, true_and, and_true, and_false, false_and, and_self, if_true, if_false, hm1, ↓rd0 q2, n4, hge, hu1, eq_false h117, ↓zciX w2, h0, ↓zciX dn]
        · obtain ⟨g0, g1⟩ := hN
          by_cases h117 : v1 = 117
          · rw [if_pos h117] at hu9'
            subst hu9'
            
            unfold f_SF_obeys
            simp only [↓zjpE, ↓zletE, ↓zciE, ↓zcvE, ↓zchkE, ↓reduceIte, zciE, zcvE, nI_1, ↓Lo0 hL, ↓Lr0_0 hL, ↓Lr0_1 hL, ↓Lr0_2 hL, ↓Lo1 hL, ↓Lo9 hL, ↓Lo16 hL, ↓Lp0_7 hL, ↓zLu hw, ↓zNu0 hw, ↓zNu1 hw, ↓zNu2 hw, ↓zNu3 hw, ↓zNu4 hw, show ((5 : Int32) ≤ nI 5) = True from eq_true (by decide), show (nI 119 = (99 : Int32)) = False from eq_false (by decide), show (nI 119 = (104 : Int32)) = False from eq_false (by decide), show (nI 119 = (111 : Int32)) = False from eq_false (by decide), show (nI 119 = (115 : Int32)) = False from eq_false (by decide), show (nI 119 = (116 : Int32)) = False from eq_false (by decide), show (nI 119 = (119 : Int32)) = True from eq_true (by decide), d10, true_or, or_true, true_and, and_true, and_false, false_and, and_self, if_true, if_false, g0, g1, hu2, eq_true h117, ↓zciX (c_addW (D := D) hL hfull hF16 (Or.inr rfl)), hmw]
          · rw [if_neg h117] at hu9'
            subst hu9'
            
            unfold f_SF_obeys
            simp only [↓zjpE, ↓zletE, ↓zciE, ↓zcvE, ↓zchkE, ↓reduceIte, zciE, zcvE, nI_1, ↓Lo0 hL, ↓Lr0_0 hL, ↓Lr0_1 hL, ↓Lr0_2 hL, ↓Lo1 hL, ↓Lo9 hL, ↓Lo16 hL, ↓Lp0_7 hL, ↓zLu hw, ↓zNu0 hw, ↓zNu1 hw, ↓zNu2 hw, ↓zNu3 hw, ↓zNu4 hw, show ((5 : Int32) ≤ nI 5) = True from eq_true (by decide), show (nI 119 = (99 : Int32)) = False from eq_false (by decide), show (nI 119 = (104 : Int32)) = False from eq_false (by decide), show (nI 119 = (111 : Int32)) = False from eq_false (by decide), show (nI 119 = (115 : Int32)) = False from eq_false (by decide), show (nI 119 = (116 : Int32)) = False from eq_false (by decide), show (nI 119 = (119 : Int32)) = True from eq_true (by decide), d10, true_or, or_true, true_and, and_true, and_false, false_and, and_self, if_true, if_false, g0, g1, hu2, eq_false h117, ↓zciX (c_addW (D := D) hL hfull hF16 (Or.inl rfl)), hmw]
      · have h4 : nw = 3 := by omega
        subst h4
        have hge : (3 : Int32) ≤ nI 3 := by decide
        refine ⟨F, G, 1, RP_le hRP (by omega), Or.inr rfl, fun D o hM => ?_, fun D hN => ?_⟩
        · have hle := (hM.2.2 p hp).2
          rw [hc] at hle
          have m1 : f_MD_either w (mD D s (p + 1) o (vec G)) (s + 634) 0 117 108 = some ((if v1 = 117 then 1 else 0), mD D s q1 o (vec G)) := mE1 (x := 117) (y := 108) hw hM (by omega) (by decide) (by decide) (by decide) h1
          have m2 : f_MD_figures w (mD D s q1 o (vec G)) (s + 634) (if v1 = 117 then 1 else 0) 2 0 80 = some (nI v2, mD D s q2 o (vec G)) := mT1 (lo := 0) (hi := 80) hw hM (by omega) (by split <;> decide) (by decide) (by decide) h2
          have rd0 : ∀ {β : Type} (q : Nat) {k : Int32 → Option β}, zald w (mD D s q o (vec G)) 0 (s + 637) (2 : Int32) k = k (G 16 2) := fun q => Mrc2 hb
          have dn : f_MD_done w (mD D s q2 o (vec (G))) (s + 634) 0 = some (1, mD D s q2 (o + 1) (vec (G))) := m_done0 hw
          unfold f_MD_readCommand
          simp only [↓zjpE, ↓zletE, ↓zciE, ↓zcvE, ↓zchkE, ↓reduceIte, zciE, zcvE, nI_1, ↓WSo hw, ↓WSr0 hw, ↓WSr1 hw, ↓WSr2 hw, ↓WSr3 hw, ↓WSr4 hw, ↓WSg5 hw, ↓WSp5 hw, ↓WSg6 hw, ↓WSp6 hw, ↓WSr7 hw, ↓WSr8 hw, ↓WTo hw, ↓WTr0 hw, ↓WTg1 hw, ↓WTp1 hw, ↓WTg2 hw, ↓WTp2 hw, ↓WTg3 hw, ↓WTp3 hw, ↓WTr4 hw, ↓WMo hw, ↓WMg0 hw, ↓WMp0 hw, ↓WMr1 hw, ↓WMg2 hw, ↓WMp2 hw, ↓WMr3 hw, ↓WMr4 hw, ↓WMr5 hw, ↓WMg6 hw, ↓WMp6 hw, ↓WMr7 hw, ↓WMr8 hw, ↓WMg9 hw, ↓WMp9 hw, ↓WMg10 hw, ↓WMp10 hw, mD_2, mD_9, mD_10, mD_x, mD_w9, mD_w10, ↓zald_of (i := p) (n := 120) (Wx hw) (show p < 120 by omega) (by decide), hle, ↓zciX m1, ↓zciX m2, show (nI 119 = (99 : Int32)) = False from eq_false (by decide), show (nI 119 = (104 : Int32)) = False from eq_false (by decide), show (nI 119 = (111 : Int32)) = False from eq_false (by decide), show (nI 119 = (115 : Int32)) = False from eq_false (by decide), show (nI 119 = (116 : Int32)) = False from eq_false (by decide), show (nI 119 = (119 : Int32)) = True from eq_true (by decide), true_or, or_true, true_and, and_true, and_false, false_and, and_self, if_true, if_false, hm1, ↓rd0 q2, n4, hge, ↓zciX dn]
          try rw [if_neg nd1m]
          try rw [if_neg nd0m]
          try rw [if_neg nd10]
          try rw [if_neg nd01]
          try simp only [↓zjpE, ↓zletE, ↓zciE, ↓zcvE, ↓zchkE, ↓reduceIte, zciE, zcvE, nI_1, ↓WSo hw, ↓WSr0 hw, ↓WSr1 hw, ↓WSr2 hw, ↓WSr3 hw, ↓WSr4 hw, ↓WSg5 hw, ↓WSp5 hw, ↓WSg6 hw, ↓WSp6 hw, ↓WSr7 hw, ↓WSr8 hw, ↓WTo hw, ↓WTr0 hw, ↓WTg1 hw, ↓WTp1 hw, ↓WTg2 hw, ↓WTp2 hw, ↓WTg3 hw, ↓WTp3 hw, ↓WTr4 hw, ↓WMo hw, ↓WMg0 hw, ↓WMp0 hw, ↓WMr1 hw, ↓WMg2 hw, ↓WMp2 hw, ↓WMr3 hw, ↓WMr4 hw, ↓WMr5 hw, ↓WMg6 hw, ↓WMp6 hw, ↓WMr7 hw, ↓WMr8 hw, ↓WMg9 hw, ↓WMp9 hw, ↓WMg10 hw, ↓WMp10 hw, true_or, or_true, true_and, and_true, and_false, false_and, and_self, if_true, if_false, hm1, ↓rd0 q2, n4, hge, ↓zciX dn]
          try rw [if_neg nd1m]
          try rw [if_neg nd0m]
          try rw [if_neg nd10]
          try rw [if_neg nd01]
          try simp only [↓zjpE, ↓zletE, ↓zciE, ↓zcvE, ↓zchkE, ↓reduceIte, zciE, zcvE, nI_1, ↓WSo hw, ↓WSr0 hw, ↓WSr1 hw, ↓WSr2 hw, ↓WSr3 hw, ↓WSr4 hw, ↓WSg5 hw, ↓WSp5 hw, ↓WSg6 hw, ↓WSp6 hw, ↓WSr7 hw, ↓WSr8 hw, ↓WTo hw, ↓WTr0 hw, ↓WTg1 hw, ↓WTp1 hw, ↓WTg2 hw, ↓WTp2 hw, ↓WTg3 hw, ↓WTp3 hw, ↓WTr4 hw, ↓WMo hw, ↓WMg0 hw, ↓WMp0 hw, ↓WMr1 hw, ↓WMg2 hw, ↓WMp2 hw, ↓WMr3 hw, ↓WMr4 hw, ↓WMr5 hw, ↓WMg6 hw, ↓WMp6 hw, ↓WMr7 hw, ↓WMr8 hw, ↓WMg9 hw, ↓WMp9 hw, ↓WMg10 hw, ↓WMp10 hw, true_or, or_true, true_and, and_true, and_false, false_and, and_self, if_true, if_false, hm1, ↓rd0 q2, n4, hge, ↓zciX dn]
          try rw [if_neg nd1m]
          try rw [if_neg nd0m]
          try rw [if_neg nd10]
          try rw [if_neg nd01]
          try simp only [↓zjpE, ↓zletE, ↓zciE, ↓zcvE, ↓zchkE, ↓reduceIte, zciE, zcvE, nI_1, ↓WSo hw, ↓WSr0 hw, ↓WSr1 hw, ↓WSr2 hw, ↓WSr3 hw, ↓WSr4 hw, ↓WSg5 hw, ↓WSp5 hw, ↓WSg6 hw, ↓WSp6 hw, ↓WSr7 hw, ↓WSr8 hw, ↓WTo hw, ↓WTr0 hw, ↓WTg1 hw, ↓WTp1 hw, ↓WTg2 hw, ↓WTp2 hw, ↓WTg3 hw, ↓WTp3 hw, ↓WTr4 hw, ↓WMo hw, ↓WMg0 hw, ↓WMp0 hw, ↓WMr1 hw, ↓WMg2 hw, ↓WMp2 hw, ↓WMr3 hw, ↓WMr4 hw, ↓WMr5 hw, ↓WMg6 hw, ↓WMp6 hw, ↓WMr7 hw, ↓WMr8 hw, ↓WMg9 hw, ↓WMp9 hw, ↓WMg10 hw, ↓WMp10 hw, true_or, or_true, true_and, and_true, and_false, false_and, and_self, if_true, if_false, hm1, ↓rd0 q2, n4, hge, ↓zciX dn]
        · obtain ⟨g0, g1⟩ := hN
          by_cases h117 : v1 = 117
          · 
            unfold f_SF_obeys
            simp only [↓zjpE, ↓zletE, ↓zciE, ↓zcvE, ↓zchkE, ↓reduceIte, zciE, zcvE, nI_1, ↓Lo0 hL, ↓Lr0_0 hL, ↓Lr0_1 hL, ↓Lr0_2 hL, ↓Lo1 hL, ↓Lo9 hL, ↓Lo16 hL, ↓Lp0_7 hL, ↓zLu hw, ↓zNu0 hw, ↓zNu1 hw, ↓zNu2 hw, ↓zNu3 hw, ↓zNu4 hw, show ((5 : Int32) ≤ nI 5) = True from eq_true (by decide), show (nI 119 = (99 : Int32)) = False from eq_false (by decide), show (nI 119 = (104 : Int32)) = False from eq_false (by decide), show (nI 119 = (111 : Int32)) = False from eq_false (by decide), show (nI 119 = (115 : Int32)) = False from eq_false (by decide), show (nI 119 = (116 : Int32)) = False from eq_false (by decide), show (nI 119 = (119 : Int32)) = True from eq_true (by decide), d10, true_or, or_true, true_and, and_true, and_false, false_and, and_self, if_true, if_false, g0, g1, hu2, eq_true h117, ↓zciX (c_fullW (D := D) hL hF16), Nat.succ_ne_zero]
          · 
            unfold f_SF_obeys
            simp only [↓zjpE, ↓zletE, ↓zciE, ↓zcvE, ↓zchkE, ↓reduceIte, zciE, zcvE, nI_1, ↓Lo0 hL, ↓Lr0_0 hL, ↓Lr0_1 hL, ↓Lr0_2 hL, ↓Lo1 hL, ↓Lo9 hL, ↓Lo16 hL, ↓Lp0_7 hL, ↓zLu hw, ↓zNu0 hw, ↓zNu1 hw, ↓zNu2 hw, ↓zNu3 hw, ↓zNu4 hw, show ((5 : Int32) ≤ nI 5) = True from eq_true (by decide), show (nI 119 = (99 : Int32)) = False from eq_false (by decide), show (nI 119 = (104 : Int32)) = False from eq_false (by decide), show (nI 119 = (111 : Int32)) = False from eq_false (by decide), show (nI 119 = (115 : Int32)) = False from eq_false (by decide), show (nI 119 = (116 : Int32)) = False from eq_false (by decide), show (nI 119 = (119 : Int32)) = True from eq_true (by decide), d10, true_or, or_true, true_and, and_true, and_false, false_and, and_self, if_true, if_false, g0, g1, hu2, eq_false h117, ↓zciX (c_fullW (D := D) hL hF16), Nat.succ_ne_zero]
theorem st_111 (hw : WL w s) (hn : n ≤ 120) (hp : p < n) (hc : ch p = 111) : StepF w s n p ch ∨ StepG w s n p ch := by
  have hL := WL4 hw
  have hb := Wt hw
  obtain ⟨r1, q1, h1⟩ : ∃ r q, rdO ch n 0 3 (p + 1) = (r, q) := ⟨_, _, rfl⟩
  cases r1 with
  | none =>
    have b1 := rdO_n (by omega) h1
    refine Or.inl ⟨q1, nI 111, b1, fun D l N hX => ⟨N, ?_⟩, fun D o V hM => ?_⟩
    · have hN := c_next (l := l) (N := N) hw hX (show p ≤ 200 by omega)
      rw [if_pos hp, hc] at hN
      have e1 : f_FairText_readOne w (tD D s (p + 1) (nI 111) N) (s + 1) 0 0 3 = some (0, tD D s q1 (nI 111) N) := cO0 (l := nI 111) (N := N) (lo := 0) (hi := 3) hw hX (by omega) (by decide) (by decide) h1
      unfold f_FairText_readCommand
      simp only [↓zjpE, ↓zletE, ↓zciE, ↓zcvE, ↓zchkE, ↓reduceIte, zciE, zcvE, nI_1, ↓WSo hw, ↓WSr0 hw, ↓WSr1 hw, ↓WSr2 hw, ↓WSr3 hw, ↓WSr4 hw, ↓WSg5 hw, ↓WSp5 hw, ↓WSg6 hw, ↓WSp6 hw, ↓WSr7 hw, ↓WSr8 hw, ↓WTo hw, ↓WTr0 hw, ↓WTg1 hw, ↓WTp1 hw, ↓WTg2 hw, ↓WTp2 hw, ↓WTg3 hw, ↓WTp3 hw, ↓WTr4 hw, ↓WMo hw, ↓WMg0 hw, ↓WMp0 hw, ↓WMr1 hw, ↓WMg2 hw, ↓WMp2 hw, ↓WMr3 hw, ↓WMr4 hw, ↓WMr5 hw, ↓WMg6 hw, ↓WMp6 hw, ↓WMr7 hw, ↓WMr8 hw, ↓WMg9 hw, ↓WMp9 hw, ↓WMg10 hw, ↓WMp10 hw, tD_1, tD_2, tD_3, tD_c, tD_n, tD_w2, tD_w3, tD_wn, ↓zciX hN, ↓zciX e1, show (nI 111 = (99 : Int32)) = False from eq_false (by decide), show (nI 111 = (104 : Int32)) = False from eq_false (by decide), show (nI 111 = (111 : Int32)) = True from eq_true (by decide), show (nI 111 = (115 : Int32)) = False from eq_false (by decide), show (nI 111 = (116 : Int32)) = False from eq_false (by decide), show (nI 111 = (119 : Int32)) = False from eq_false (by decide), d10, true_or, or_true, true_and, and_true, and_false, false_and, and_self, if_true, if_false]
    · have hle := (hM.2.2 p hp).2
      rw [hc] at hle
      have m1 : f_MD_figures w (mD D s (p + 1) o V) (s + 634) 0 1 0 3 = some (-1, mD D s q1 o V) := mO0 (lo := 0) (hi := 3) hw hM (by omega) (by decide) (by decide) (by decide) h1
      unfold f_MD_readCommand
      simp only [↓zjpE, ↓zletE, ↓zciE, ↓zcvE, ↓zchkE, ↓reduceIte, zciE, zcvE, nI_1, ↓WSo hw, ↓WSr0 hw, ↓WSr1 hw, ↓WSr2 hw, ↓WSr3 hw, ↓WSr4 hw, ↓WSg5 hw, ↓WSp5 hw, ↓WSg6 hw, ↓WSp6 hw, ↓WSr7 hw, ↓WSr8 hw, ↓WTo hw, ↓WTr0 hw, ↓WTg1 hw, ↓WTp1 hw, ↓WTg2 hw, ↓WTp2 hw, ↓WTg3 hw, ↓WTp3 hw, ↓WTr4 hw, ↓WMo hw, ↓WMg0 hw, ↓WMp0 hw, ↓WMr1 hw, ↓WMg2 hw, ↓WMp2 hw, ↓WMr3 hw, ↓WMr4 hw, ↓WMr5 hw, ↓WMg6 hw, ↓WMp6 hw, ↓WMr7 hw, ↓WMr8 hw, ↓WMg9 hw, ↓WMp9 hw, ↓WMg10 hw, ↓WMp10 hw, mD_2, mD_9, mD_10, mD_x, mD_w9, mD_w10, ↓zald_of (i := p) (n := 120) (Wx hw) (show p < 120 by omega) (by decide), hle, ↓zciX m1, ↓zciX (mX hw), ↓zciX (mEX hw), show (nI 111 = (99 : Int32)) = False from eq_false (by decide), show (nI 111 = (104 : Int32)) = False from eq_false (by decide), show (nI 111 = (111 : Int32)) = True from eq_true (by decide), show (nI 111 = (115 : Int32)) = False from eq_false (by decide), show (nI 111 = (116 : Int32)) = False from eq_false (by decide), show (nI 111 = (119 : Int32)) = False from eq_false (by decide), d10, true_or, or_true, true_and, and_true, and_false, false_and, and_self, if_true, if_false]
  | some v1 =>
    have b1 := rdO_b h1
    obtain ⟨r2, q2, h2⟩ : ∃ r q, rdE ch n 43 45 q1 = (r, q) := ⟨_, _, rfl⟩
    cases r2 with
    | none =>
      have b2 := rdE_n (by omega) h2
      refine Or.inl ⟨q2, nI 111, b2, fun D l N hX => ⟨(upd N 0 (nI v1)), ?_⟩, fun D o V hM => ?_⟩
      · have hN := c_next (l := l) (N := N) hw hX (show p ≤ 200 by omega)
        rw [if_pos hp, hc] at hN
        have e1 : f_FairText_readOne w (tD D s (p + 1) (nI 111) N) (s + 1) 0 0 3 = some (1, tD D s q1 (nI 111) (upd N 0 (nI v1))) := cO1 (l := nI 111) (N := N) (k := 0) (lo := 0) (hi := 3) hw hX (by omega) (by decide) (by decide) (by decide) h1
        have e2 : f_FairText_readEither w (tD D s q1 (nI 111) (upd N 0 (nI v1))) (s + 1) 1 43 45 = some (0, tD D s q2 (nI 111) (upd N 0 (nI v1))) := cE0 (l := nI 111) (N := (upd N 0 (nI v1))) (x := 43) (y := 45) hw hX (by omega) (by decide) (by decide) h2
        unfold f_FairText_readCommand
        simp only [↓zjpE, ↓zletE, ↓zciE, ↓zcvE, ↓zchkE, ↓reduceIte, zciE, zcvE, nI_1, ↓WSo hw, ↓WSr0 hw, ↓WSr1 hw, ↓WSr2 hw, ↓WSr3 hw, ↓WSr4 hw, ↓WSg5 hw, ↓WSp5 hw, ↓WSg6 hw, ↓WSp6 hw, ↓WSr7 hw, ↓WSr8 hw, ↓WTo hw, ↓WTr0 hw, ↓WTg1 hw, ↓WTp1 hw, ↓WTg2 hw, ↓WTp2 hw, ↓WTg3 hw, ↓WTp3 hw, ↓WTr4 hw, ↓WMo hw, ↓WMg0 hw, ↓WMp0 hw, ↓WMr1 hw, ↓WMg2 hw, ↓WMp2 hw, ↓WMr3 hw, ↓WMr4 hw, ↓WMr5 hw, ↓WMg6 hw, ↓WMp6 hw, ↓WMr7 hw, ↓WMr8 hw, ↓WMg9 hw, ↓WMp9 hw, ↓WMg10 hw, ↓WMp10 hw, tD_1, tD_2, tD_3, tD_c, tD_n, tD_w2, tD_w3, tD_wn, ↓zciX hN, ↓zciX e1, ↓zciX e2, show (nI 111 = (99 : Int32)) = False from eq_false (by decide), show (nI 111 = (104 : Int32)) = False from eq_false (by decide), show (nI 111 = (111 : Int32)) = True from eq_true (by decide), show (nI 111 = (115 : Int32)) = False from eq_false (by decide), show (nI 111 = (116 : Int32)) = False from eq_false (by decide), show (nI 111 = (119 : Int32)) = False from eq_false (by decide), d10, true_or, or_true, true_and, and_true, and_false, false_and, and_self, if_true, if_false]
      · have hle := (hM.2.2 p hp).2
        rw [hc] at hle
        have m1 : f_MD_figures w (mD D s (p + 1) o V) (s + 634) 0 1 0 3 = some (nI v1, mD D s q1 o V) := mO1 (lo := 0) (hi := 3) hw hM (by omega) (by decide) (by decide) (by decide) h1
        have m2 : f_MD_either w (mD D s q1 o V) (s + 634) (nI v1) 43 45 = some ((-1 : Int32), mD D s q2 o V) := mE0 (x := 43) (y := 45) hw hM (by omega) (nI_ne_m1 (by omega)) (by decide) (by decide) h2
        unfold f_MD_readCommand
        simp only [↓zjpE, ↓zletE, ↓zciE, ↓zcvE, ↓zchkE, ↓reduceIte, zciE, zcvE, nI_1, ↓WSo hw, ↓WSr0 hw, ↓WSr1 hw, ↓WSr2 hw, ↓WSr3 hw, ↓WSr4 hw, ↓WSg5 hw, ↓WSp5 hw, ↓WSg6 hw, ↓WSp6 hw, ↓WSr7 hw, ↓WSr8 hw, ↓WTo hw, ↓WTr0 hw, ↓WTg1 hw, ↓WTp1 hw, ↓WTg2 hw, ↓WTp2 hw, ↓WTg3 hw, ↓WTp3 hw, ↓WTr4 hw, ↓WMo hw, ↓WMg0 hw, ↓WMp0 hw, ↓WMr1 hw, ↓WMg2 hw, ↓WMp2 hw, ↓WMr3 hw, ↓WMr4 hw, ↓WMr5 hw, ↓WMg6 hw, ↓WMp6 hw, ↓WMr7 hw, ↓WMr8 hw, ↓WMg9 hw, ↓WMp9 hw, ↓WMg10 hw, ↓WMp10 hw, mD_2, mD_9, mD_10, mD_x, mD_w9, mD_w10, ↓zald_of (i := p) (n := 120) (Wx hw) (show p < 120 by omega) (by decide), hle, ↓zciX m1, ↓zciX m2, ↓zciX (mX hw), ↓zciX (mEX hw), show (nI 111 = (99 : Int32)) = False from eq_false (by decide), show (nI 111 = (104 : Int32)) = False from eq_false (by decide), show (nI 111 = (111 : Int32)) = True from eq_true (by decide), show (nI 111 = (115 : Int32)) = False from eq_false (by decide), show (nI 111 = (116 : Int32)) = False from eq_false (by decide), show (nI 111 = (119 : Int32)) = False from eq_false (by decide), d10, true_or, or_true, true_and, and_true, and_false, false_and, and_self, if_true, if_false]
    | some v2 =>
      have b2 := rdE_b h2
      refine Or.inr ⟨q2, nI 111, fun N => N 0 = nI v1 ∧ N 1 = nI v2, by omega, by omega, fun D l N hX => ⟨(upd (upd N 0 (nI v1)) 1 (nI v2)), ?_, ⟨by simp [upd], by simp [upd]⟩⟩, fun F G T hRP hT => ?_⟩
      · have hN := c_next (l := l) (N := N) hw hX (show p ≤ 200 by omega)
        rw [if_pos hp, hc] at hN
        have e1 : f_FairText_readOne w (tD D s (p + 1) (nI 111) N) (s + 1) 0 0 3 = some (1, tD D s q1 (nI 111) (upd N 0 (nI v1))) := cO1 (l := nI 111) (N := N) (k := 0) (lo := 0) (hi := 3) hw hX (by omega) (by decide) (by decide) (by decide) h1
        have e2 : f_FairText_readEither w (tD D s q1 (nI 111) (upd N 0 (nI v1))) (s + 1) 1 43 45 = some (1, tD D s q2 (nI 111) (upd (upd N 0 (nI v1)) 1 (nI v2))) := cE1 (l := nI 111) (N := (upd N 0 (nI v1))) (k := 1) (x := 43) (y := 45) hw hX (by omega) (by decide) (by decide) (by decide) h2
        unfold f_FairText_readCommand
        simp only [↓zjpE, ↓zletE, ↓zciE, ↓zcvE, ↓zchkE, ↓reduceIte, zciE, zcvE, nI_1, ↓WSo hw, ↓WSr0 hw, ↓WSr1 hw, ↓WSr2 hw, ↓WSr3 hw, ↓WSr4 hw, ↓WSg5 hw, ↓WSp5 hw, ↓WSg6 hw, ↓WSp6 hw, ↓WSr7 hw, ↓WSr8 hw, ↓WTo hw, ↓WTr0 hw, ↓WTg1 hw, ↓WTp1 hw, ↓WTg2 hw, ↓WTp2 hw, ↓WTg3 hw, ↓WTp3 hw, ↓WTr4 hw, ↓WMo hw, ↓WMg0 hw, ↓WMp0 hw, ↓WMr1 hw, ↓WMg2 hw, ↓WMp2 hw, ↓WMr3 hw, ↓WMr4 hw, ↓WMr5 hw, ↓WMg6 hw, ↓WMp6 hw, ↓WMr7 hw, ↓WMr8 hw, ↓WMg9 hw, ↓WMp9 hw, ↓WMg10 hw, ↓WMp10 hw, tD_1, tD_2, tD_3, tD_c, tD_n, tD_w2, tD_w3, tD_wn, ↓zciX hN, ↓zciX e1, ↓zciX e2, show (nI 111 = (99 : Int32)) = False from eq_false (by decide), show (nI 111 = (104 : Int32)) = False from eq_false (by decide), show (nI 111 = (111 : Int32)) = True from eq_true (by decide), show (nI 111 = (115 : Int32)) = False from eq_false (by decide), show (nI 111 = (116 : Int32)) = False from eq_false (by decide), show (nI 111 = (119 : Int32)) = False from eq_false (by decide), d10, true_or, or_true, true_and, and_true, and_false, false_and, and_self, if_true, if_false]
      have hu2 : (nI v2 = (43 : Int32)) = (v2 = 43) := propext (nI_eq (b := 43) (by omega) (by decide))
      have hu1 : ((if v2 = 43 then (1 : Int32) else 0) = 1) = (v2 = 43) := by by_cases h : v2 = 43 <;> simp [h]
      have hu3 : ((if v2 = 43 then (1 : Int32) else 0) = -1) = False := by by_cases h : v2 = 43 <;> simp [h]
      by_cases h43 : v2 = 43
      · obtain ⟨F', G', hR, ns', n1', n0', hh⟩ := turnO hL hb hRP (x := nI v1) (v := 1) (by decide)
        rcases hh with ⟨s', n', hs', hx', hn', w1, -, w3⟩ | ⟨hx, eF, eG, w1⟩
        · have h0 : ¬ nI n' < 0 := nI_pos (by omega)
          have hx9 : 0 ≤ nI v1 ∧ nI v1 < nI ns' := by rw [hx']; exact ⟨nI_pos' (by omega), nI_lt hs' (by omega)⟩
          refine ⟨F', G', 0, RP_le hR (by omega), Or.inl rfl, fun D o hM => ?_, fun D hN => ?_⟩
          · have hle := (hM.2.2 p hp).2
            rw [hc] at hle
            have m1 : f_MD_figures w (mD D s (p + 1) o (vec G)) (s + 634) 0 1 0 3 = some (nI v1, mD D s q1 o (vec G)) := mO1 (lo := 0) (hi := 3) hw hM (by omega) (by decide) (by decide) (by decide) h1
            have m2 : f_MD_either w (mD D s q1 o (vec G)) (s + 634) (nI v1) 43 45 = some ((if v2 = 43 then 1 else 0), mD D s q2 o (vec G)) := mE1 (x := 43) (y := 45) hw hM (by omega) (nI_ne_m1 (by omega)) (by decide) (by decide) h2
            have i9 : f_MD_isSiren w (mD D s q2 o (vec G)) (s + 637) (nI v1) = some (1, mD D s q2 o (vec G)) := (e_isSiren hb n1' n0').trans (by rw [if_pos hx9]; rfl)
            have w2 : f_MD_turnOn w (mD D s q2 o (vec G)) (s + 637) (nI v1) 1 = some (nI n', mD D s q2 o (vec G')) := w3 _
            have dn : f_MD_done w (mD D s q2 o (vec (G'))) (s + 634) 1 = some (1, mD D s q2 (o + 0) (vec (G'))) := m_done1 hw
            unfold f_MD_readCommand
            simp only [↓zjpE, ↓zletE, ↓zciE, ↓zcvE, ↓zchkE, ↓reduceIte, zciE, zcvE, nI_1, ↓WSo hw, ↓WSr0 hw, ↓WSr1 hw, ↓WSr2 hw, ↓WSr3 hw, ↓WSr4 hw, ↓WSg5 hw, ↓WSp5 hw, ↓WSg6 hw, ↓WSp6 hw, ↓WSr7 hw, ↓WSr8 hw, ↓WTo hw, ↓WTr0 hw, ↓WTg1 hw, ↓WTp1 hw, ↓WTg2 hw, ↓WTp2 hw, ↓WTg3 hw, ↓WTp3 hw, ↓WTr4 hw, ↓WMo hw, ↓WMg0 hw, ↓WMp0 hw, ↓WMr1 hw, ↓WMg2 hw, ↓WMp2 hw, ↓WMr3 hw, ↓WMr4 hw, ↓WMr5 hw, ↓WMg6 hw, ↓WMp6 hw, ↓WMr7 hw, ↓WMr8 hw, ↓WMg9 hw, ↓WMp9 hw, ↓WMg10 hw, ↓WMp10 hw, mD_2, mD_9, mD_10, mD_x, mD_w9, mD_w10, ↓zald_of (i := p) (n := 120) (Wx hw) (show p < 120 by omega) (by decide), hle, ↓zciX m1, ↓zciX m2, show (nI 111 = (99 : Int32)) = False from eq_false (by decide), show (nI 111 = (104 : Int32)) = False from eq_false (by decide), show (nI 111 = (111 : Int32)) = True from eq_true (by decide), show (nI 111 = (115 : Int32)) = False from eq_false (by decide), show (nI 111 = (116 : Int32)) = False from eq_false (by decide), show (nI 111 = (119 : Int32)) = False from eq_false (by decide), true_or, or_true, true_and, and_true, and_false, false_and, and_self, if_true, if_false, hu3, ↓zciX i9, eq_true hx9, hu1, eq_true h43, ↓zciX w2, h0, ↓zciX dn]
            try rw [if_neg nd1m]
            try rw [if_neg nd0m]
            try rw [if_neg nd10]
            try rw [if_neg nd01]
            try simp only [↓zjpE, ↓zletE, ↓zciE, ↓zcvE, ↓zchkE, ↓reduceIte, zciE, zcvE, nI_1, ↓WSo hw, ↓WSr0 hw, ↓WSr1 hw, ↓WSr2 hw, ↓WSr3 hw, ↓WSr4 hw, ↓WSg5 hw, ↓WSp5 hw, ↓WSg6 hw, ↓WSp6 hw, ↓WSr7 hw, ↓WSr8 hw, ↓WTo hw, ↓WTr0 hw, ↓WTg1 hw, ↓WTp1 hw, ↓WTg2 hw, ↓WTp2 hw, ↓WTg3 hw, ↓WTp3 hw, ↓WTr4 hw, ↓WMo hw, ↓WMg0 hw, ↓WMp0 hw, ↓WMr1 hw, ↓WMg2 hw, ↓WMp2 hw, ↓WMr3 hw, ↓WMr4 hw, ↓WMr5 hw, ↓WMg6 hw, ↓WMp6 hw, ↓WMr7 hw, ↓WMr8 hw, ↓WMg9 hw, ↓WMp9 hw, ↓WMg10 hw, ↓WMp10 hw, true_or, or_true, true_and, and_true, and_false, false_and, and_self, if_true, if_false, hu3, ↓zciX i9, eq_true hx9, hu1, eq_true h43, ↓zciX w2, h0, ↓zciX dn]
            try rw [if_neg nd1m]
            try rw [if_neg nd0m]
            try rw [if_neg nd10]
            try rw [if_neg nd01]
            try simp only [↓zjpE, ↓zletE, ↓zciE, ↓zcvE, ↓zchkE, ↓reduceIte, zciE, zcvE, nI_1, ↓WSo hw, ↓WSr0 hw, ↓WSr1 hw, ↓WSr2 hw, ↓WSr3 hw, ↓WSr4 hw, ↓WSg5 hw, ↓WSp5 hw, ↓WSg6 hw, ↓WSp6 hw, ↓WSr7 hw, ↓WSr8 hw, ↓WTo hw, ↓WTr0 hw, ↓WTg1 hw, ↓WTp1 hw, ↓WTg2 hw, ↓WTp2 hw, ↓WTg3 hw, ↓WTp3 hw, ↓WTr4 hw, ↓WMo hw, ↓WMg0 hw, ↓WMp0 hw, ↓WMr1 hw, ↓WMg2 hw, ↓WMp2 hw, ↓WMr3 hw, ↓WMr4 hw, ↓WMr5 hw, ↓WMg6 hw, ↓WMp6 hw, ↓WMr7 hw, ↓WMr8 hw, ↓WMg9 hw, ↓WMp9 hw, ↓WMg10 hw, ↓WMp10 hw, true_or, or_true, true_and, and_true, and_false, false_and, and_self, if_true, if_false, hu3, ↓zciX i9, eq_true hx9, hu1, eq_true h43, ↓zciX w2, h0, ↓zciX dn]
            try rw [if_neg nd1m]
            try rw [if_neg nd0m]
            try rw [if_neg nd10]
            try rw [if_neg nd01]
            try simp only [↓zjpE, ↓zletE, ↓zciE, ↓zcvE, ↓zchkE, ↓reduceIte, zciE, zcvE, nI_1, ↓WSo hw, ↓WSr0 hw, ↓WSr1 hw, ↓WSr2 hw, ↓WSr3 hw, ↓WSr4 hw, ↓WSg5 hw, ↓WSp5 hw, ↓WSg6 hw, ↓WSp6 hw, ↓WSr7 hw, ↓WSr8 hw, ↓WTo hw, ↓WTr0 hw, ↓WTg1 hw, ↓WTp1 hw, ↓WTg2 hw, ↓WTp2 hw, ↓WTg3 hw, ↓WTp3 hw, ↓WTr4 hw, ↓WMo hw, ↓WMg0 hw, ↓WMp0 hw, ↓WMr1 hw, ↓WMg2 hw, ↓WMp2 hw, ↓WMr3 hw, ↓WMr4 hw, ↓WMr5 hw, ↓WMg6 hw, ↓WMp6 hw, ↓WMr7 hw, ↓WMr8 hw, ↓WMg9 hw, ↓WMp9 hw, ↓WMg10 hw, ↓WMp10 hw, true_or, or_true, true_and, and_true, and_false, false_and, and_self, if_true, if_false, hu3, ↓zciX i9, eq_true hx9, hu1, eq_true h43, ↓zciX w2, h0, ↓zciX dn]
          · obtain ⟨g0, g1⟩ := hN
            
            unfold f_SF_obeys
            simp only [↓zjpE, ↓zletE, ↓zciE, ↓zcvE, ↓zchkE, ↓reduceIte, zciE, zcvE, nI_1, ↓Lo0 hL, ↓Lr0_0 hL, ↓Lr0_1 hL, ↓Lr0_2 hL, ↓Lo1 hL, ↓Lo9 hL, ↓Lo16 hL, ↓Lp0_7 hL, ↓zLu hw, ↓zNu0 hw, ↓zNu1 hw, ↓zNu2 hw, ↓zNu3 hw, ↓zNu4 hw, show ((5 : Int32) ≤ nI 5) = True from eq_true (by decide), show (nI 111 = (99 : Int32)) = False from eq_false (by decide), show (nI 111 = (104 : Int32)) = False from eq_false (by decide), show (nI 111 = (111 : Int32)) = True from eq_true (by decide), show (nI 111 = (115 : Int32)) = False from eq_false (by decide), show (nI 111 = (116 : Int32)) = False from eq_false (by decide), show (nI 111 = (119 : Int32)) = False from eq_false (by decide), d10, true_or, or_true, true_and, and_true, and_false, false_and, and_self, if_true, if_false, g0, g1, hu2, eq_true h43, ↓zciX (w1 D)]
        · subst eF eG
          refine ⟨F', G', 1, RP_le hR (by omega), Or.inr rfl, fun D o hM => ?_, fun D hN => ?_⟩
          · have hle := (hM.2.2 p hp).2
            rw [hc] at hle
            have m1 : f_MD_figures w (mD D s (p + 1) o (vec G')) (s + 634) 0 1 0 3 = some (nI v1, mD D s q1 o (vec G')) := mO1 (lo := 0) (hi := 3) hw hM (by omega) (by decide) (by decide) (by decide) h1
            have m2 : f_MD_either w (mD D s q1 o (vec G')) (s + 634) (nI v1) 43 45 = some ((if v2 = 43 then 1 else 0), mD D s q2 o (vec G')) := mE1 (x := 43) (y := 45) hw hM (by omega) (nI_ne_m1 (by omega)) (by decide) (by decide) h2
            have i9 : f_MD_isSiren w (mD D s q2 o (vec G')) (s + 637) (nI v1) = some (0, mD D s q2 o (vec G')) := (e_isSiren hb n1' n0').trans (by rw [if_neg hx]; rfl)
            have dn : f_MD_done w (mD D s q2 o (vec (G'))) (s + 634) 0 = some (1, mD D s q2 (o + 1) (vec (G'))) := m_done0 hw
            unfold f_MD_readCommand
            simp only [↓zjpE, ↓zletE, ↓zciE, ↓zcvE, ↓zchkE, ↓reduceIte, zciE, zcvE, nI_1, ↓WSo hw, ↓WSr0 hw, ↓WSr1 hw, ↓WSr2 hw, ↓WSr3 hw, ↓WSr4 hw, ↓WSg5 hw, ↓WSp5 hw, ↓WSg6 hw, ↓WSp6 hw, ↓WSr7 hw, ↓WSr8 hw, ↓WTo hw, ↓WTr0 hw, ↓WTg1 hw, ↓WTp1 hw, ↓WTg2 hw, ↓WTp2 hw, ↓WTg3 hw, ↓WTp3 hw, ↓WTr4 hw, ↓WMo hw, ↓WMg0 hw, ↓WMp0 hw, ↓WMr1 hw, ↓WMg2 hw, ↓WMp2 hw, ↓WMr3 hw, ↓WMr4 hw, ↓WMr5 hw, ↓WMg6 hw, ↓WMp6 hw, ↓WMr7 hw, ↓WMr8 hw, ↓WMg9 hw, ↓WMp9 hw, ↓WMg10 hw, ↓WMp10 hw, mD_2, mD_9, mD_10, mD_x, mD_w9, mD_w10, ↓zald_of (i := p) (n := 120) (Wx hw) (show p < 120 by omega) (by decide), hle, ↓zciX m1, ↓zciX m2, show (nI 111 = (99 : Int32)) = False from eq_false (by decide), show (nI 111 = (104 : Int32)) = False from eq_false (by decide), show (nI 111 = (111 : Int32)) = True from eq_true (by decide), show (nI 111 = (115 : Int32)) = False from eq_false (by decide), show (nI 111 = (116 : Int32)) = False from eq_false (by decide), show (nI 111 = (119 : Int32)) = False from eq_false (by decide), true_or, or_true, true_and, and_true, and_false, false_and, and_self, if_true, if_false, hu3, ↓zciX i9, hu1, eq_true h43, ↓zciX dn]
            try rw [if_neg nd1m]
            try rw [if_neg nd0m]
            try rw [if_neg nd10]
            try rw [if_neg nd01]
            try simp only [↓zjpE, ↓zletE, ↓zciE, ↓zcvE, ↓zchkE, ↓reduceIte, zciE, zcvE, nI_1, ↓WSo hw, ↓WSr0 hw, ↓WSr1 hw, ↓WSr2 hw, ↓WSr3 hw, ↓WSr4 hw, ↓WSg5 hw, ↓WSp5 hw, ↓WSg6 hw, ↓WSp6 hw, ↓WSr7 hw, ↓WSr8 hw, ↓WTo hw, ↓WTr0 hw, ↓WTg1 hw, ↓WTp1 hw, ↓WTg2 hw, ↓WTp2 hw, ↓WTg3 hw, ↓WTp3 hw, ↓WTr4 hw, ↓WMo hw, ↓WMg0 hw, ↓WMp0 hw, ↓WMr1 hw, ↓WMg2 hw, ↓WMp2 hw, ↓WMr3 hw, ↓WMr4 hw, ↓WMr5 hw, ↓WMg6 hw, ↓WMp6 hw, ↓WMr7 hw, ↓WMr8 hw, ↓WMg9 hw, ↓WMp9 hw, ↓WMg10 hw, ↓WMp10 hw, true_or, or_true, true_and, and_true, and_false, false_and, and_self, if_true, if_false, hu3, ↓zciX i9, hu1, eq_true h43, ↓zciX dn]
            try rw [if_neg nd1m]
            try rw [if_neg nd0m]
            try rw [if_neg nd10]
            try rw [if_neg nd01]
            try simp only [↓zjpE, ↓zletE, ↓zciE, ↓zcvE, ↓zchkE, ↓reduceIte, zciE, zcvE, nI_1, ↓WSo hw, ↓WSr0 hw, ↓WSr1 hw, ↓WSr2 hw, ↓WSr3 hw, ↓WSr4 hw, ↓WSg5 hw, ↓WSp5 hw, ↓WSg6 hw, ↓WSp6 hw, ↓WSr7 hw, ↓WSr8 hw, ↓WTo hw, ↓WTr0 hw, ↓WTg1 hw, ↓WTp1 hw, ↓WTg2 hw, ↓WTp2 hw, ↓WTg3 hw, ↓WTp3 hw, ↓WTr4 hw, ↓WMo hw, ↓WMg0 hw, ↓WMp0 hw, ↓WMr1 hw, ↓WMg2 hw, ↓WMp2 hw, ↓WMr3 hw, ↓WMr4 hw, ↓WMr5 hw, ↓WMg6 hw, ↓WMp6 hw, ↓WMr7 hw, ↓WMr8 hw, ↓WMg9 hw, ↓WMp9 hw, ↓WMg10 hw, ↓WMp10 hw, true_or, or_true, true_and, and_true, and_false, false_and, and_self, if_true, if_false, hu3, ↓zciX i9, hu1, eq_true h43, ↓zciX dn]
            try rw [if_neg nd1m]
            try rw [if_neg nd0m]
            try rw [if_neg nd10]
            try rw [if_neg nd01]
            try simp only [↓zjpE, ↓zletE, ↓zciE, ↓zcvE, ↓zchkE, ↓reduceIte, zciE, zcvE, nI_1, ↓WSo hw, ↓WSr0 hw, ↓WSr1 hw, ↓WSr2 hw, ↓WSr3 hw, ↓WSr4 hw, ↓WSg5 hw, ↓WSp5 hw, ↓WSg6 hw, ↓WSp6 hw, ↓WSr7 hw, ↓WSr8 hw, ↓WTo hw, ↓WTr0 hw, ↓WTg1 hw, ↓WTp1 hw, ↓WTg2 hw, ↓WTp2 hw, ↓WTg3 hw, ↓WTp3 hw, ↓WTr4 hw, ↓WMo hw, ↓WMg0 hw, ↓WMp0 hw, ↓WMr1 hw, ↓WMg2 hw, ↓WMp2 hw, ↓WMr3 hw, ↓WMr4 hw, ↓WMr5 hw, ↓WMg6 hw, ↓WMp6 hw, ↓WMr7 hw, ↓WMr8 hw, ↓WMg9 hw, ↓WMp9 hw, ↓WMg10 hw, ↓WMp10 hw, true_or, or_true, true_and, and_true, and_false, false_and, and_self, if_true, if_false, hu3, ↓zciX i9, hu1, eq_true h43, ↓zciX dn]
          · obtain ⟨g0, g1⟩ := hN
            
            unfold f_SF_obeys
            simp only [↓zjpE, ↓zletE, ↓zciE, ↓zcvE, ↓zchkE, ↓reduceIte, zciE, zcvE, nI_1, ↓Lo0 hL, ↓Lr0_0 hL, ↓Lr0_1 hL, ↓Lr0_2 hL, ↓Lo1 hL, ↓Lo9 hL, ↓Lo16 hL, ↓Lp0_7 hL, ↓zLu hw, ↓zNu0 hw, ↓zNu1 hw, ↓zNu2 hw, ↓zNu3 hw, ↓zNu4 hw, show ((5 : Int32) ≤ nI 5) = True from eq_true (by decide), show (nI 111 = (99 : Int32)) = False from eq_false (by decide), show (nI 111 = (104 : Int32)) = False from eq_false (by decide), show (nI 111 = (111 : Int32)) = True from eq_true (by decide), show (nI 111 = (115 : Int32)) = False from eq_false (by decide), show (nI 111 = (116 : Int32)) = False from eq_false (by decide), show (nI 111 = (119 : Int32)) = False from eq_false (by decide), d10, true_or, or_true, true_and, and_true, and_false, false_and, and_self, if_true, if_false, g0, g1, hu2, eq_true h43, ↓zciX (w1 D), Nat.succ_ne_zero]
      · obtain ⟨F', G', hR, ns', n1', n0', hh⟩ := turnO hL hb hRP (x := nI v1) (v := 0) (by decide)
        rcases hh with ⟨s', n', hs', hx', hn', w1, -, w3⟩ | ⟨hx, eF, eG, w1⟩
        · have h0 : ¬ nI n' < 0 := nI_pos (by omega)
          have hx9 : 0 ≤ nI v1 ∧ nI v1 < nI ns' := by rw [hx']; exact ⟨nI_pos' (by omega), nI_lt hs' (by omega)⟩
          refine ⟨F', G', 0, RP_le hR (by omega), Or.inl rfl, fun D o hM => ?_, fun D hN => ?_⟩
          · have hle := (hM.2.2 p hp).2
            rw [hc] at hle
            have m1 : f_MD_figures w (mD D s (p + 1) o (vec G)) (s + 634) 0 1 0 3 = some (nI v1, mD D s q1 o (vec G)) := mO1 (lo := 0) (hi := 3) hw hM (by omega) (by decide) (by decide) (by decide) h1
            have m2 : f_MD_either w (mD D s q1 o (vec G)) (s + 634) (nI v1) 43 45 = some ((if v2 = 43 then 1 else 0), mD D s q2 o (vec G)) := mE1 (x := 43) (y := 45) hw hM (by omega) (nI_ne_m1 (by omega)) (by decide) (by decide) h2
            have i9 : f_MD_isSiren w (mD D s q2 o (vec G)) (s + 637) (nI v1) = some (1, mD D s q2 o (vec G)) := (e_isSiren hb n1' n0').trans (by rw [if_pos hx9]; rfl)
            have w2 : f_MD_turnOn w (mD D s q2 o (vec G)) (s + 637) (nI v1) 0 = some (nI n', mD D s q2 o (vec G')) := w3 _
            have dn : f_MD_done w (mD D s q2 o (vec (G'))) (s + 634) 1 = some (1, mD D s q2 (o + 0) (vec (G'))) := m_done1 hw
            unfold f_MD_readCommand
            simp only [↓zjpE, ↓zletE, ↓zciE, ↓zcvE, ↓zchkE, ↓reduceIte, zciE, zcvE, nI_1, ↓WSo hw, ↓WSr0 hw, ↓WSr1 hw, ↓WSr2 hw, ↓WSr3 hw, ↓WSr4 hw, ↓WSg5 hw, ↓WSp5 hw, ↓WSg6 hw, ↓WSp6 hw, ↓WSr7 hw, ↓WSr8 hw, ↓WTo hw, ↓WTr0 hw, ↓WTg1 hw, ↓WTp1 hw, ↓WTg2 hw, ↓WTp2 hw, ↓WTg3 hw, ↓WTp3 hw, ↓WTr4 hw, ↓WMo hw, ↓WMg0 hw, ↓WMp0 hw, ↓WMr1 hw, ↓WMg2 hw, ↓WMp2 hw, ↓WMr3 hw, ↓WMr4 hw, ↓WMr5 hw, ↓WMg6 hw, ↓WMp6 hw, ↓WMr7 hw, ↓WMr8 hw, ↓WMg9 hw, ↓WMp9 hw, ↓WMg10 hw, ↓WMp10 hw, mD_2, mD_9, mD_10, mD_x, mD_w9, mD_w10, ↓zald_of (i := p) (n := 120) (Wx hw) (show p < 120 by omega) (by decide), hle, ↓zciX m1, ↓zciX m2, show (nI 111 = (99 : Int32)) = False from eq_false (by decide), show (nI 111 = (104 : Int32)) = False from eq_false (by decide), show (nI 111 = (111 : Int32)) = True from eq_true (by decide), show (nI 111 = (115 : Int32)) = False from eq_false (by decide), show (nI 111 = (116 : Int32)) = False from eq_false (by decide), show (nI 111 = (119 : Int32)) = False from eq_false (by decide), true_or, or_true, true_and, and_true, and_false, false_and, and_self, if_true, if_false, hu3, ↓zciX i9, eq_true hx9, hu1, eq_false h43, ↓zciX w2, h0, ↓zciX dn]
            try rw [if_neg nd1m]
            try rw [if_neg nd0m]
            try rw [if_neg nd10]
            try rw [if_neg nd01]
            try simp only [↓zjpE, ↓zletE, ↓zciE, ↓zcvE, ↓zchkE, ↓reduceIte, zciE, zcvE, nI_1, ↓WSo hw, ↓WSr0 hw, ↓WSr1 hw, ↓WSr2 hw, ↓WSr3 hw, ↓WSr4 hw, ↓WSg5 hw, ↓WSp5 hw, ↓WSg6 hw, ↓WSp6 hw, ↓WSr7 hw, ↓WSr8 hw, ↓WTo hw, ↓WTr0 hw, ↓WTg1 hw, ↓WTp1 hw, ↓WTg2 hw, ↓WTp2 hw, ↓WTg3 hw, ↓WTp3 hw, ↓WTr4 hw, ↓WMo hw, ↓WMg0 hw, ↓WMp0 hw, ↓WMr1 hw, ↓WMg2 hw, ↓WMp2 hw, ↓WMr3 hw, ↓WMr4 hw, ↓WMr5 hw, ↓WMg6 hw, ↓WMp6 hw, ↓WMr7 hw, ↓WMr8 hw, ↓WMg9 hw, ↓WMp9 hw, ↓WMg10 hw, ↓WMp10 hw, true_or, or_true, true_and, and_true, and_false, false_and, and_self, if_true, if_false, hu3, ↓zciX i9, eq_true hx9, hu1, eq_false h43, ↓zciX w2, h0, ↓zciX dn]
            try rw [if_neg nd1m]
            try rw [if_neg nd0m]
            try rw [if_neg nd10]
            try rw [if_neg nd01]
            try simp only [↓zjpE, ↓zletE, ↓zciE, ↓zcvE, ↓zchkE, ↓reduceIte, zciE, zcvE, nI_1, ↓WSo hw, ↓WSr0 hw, ↓WSr1 hw, ↓WSr2 hw, ↓WSr3 hw, ↓WSr4 hw, ↓WSg5 hw, ↓WSp5 hw, ↓WSg6 hw, ↓WSp6 hw, ↓WSr7 hw, ↓WSr8 hw, ↓WTo hw, ↓WTr0 hw, ↓WTg1 hw, ↓WTp1 hw, ↓WTg2 hw, ↓WTp2 hw, ↓WTg3 hw, ↓WTp3 hw, ↓WTr4 hw, ↓WMo hw, ↓WMg0 hw, ↓WMp0 hw, ↓WMr1 hw, ↓WMg2 hw, ↓WMp2 hw, ↓WMr3 hw, ↓WMr4 hw, ↓WMr5 hw, ↓WMg6 hw, ↓WMp6 hw, ↓WMr7 hw, ↓WMr8 hw, ↓WMg9 hw, ↓WMp9 hw, ↓WMg10 hw, ↓WMp10 hw, true_or, or_true, true_and, and_true, and_false, false_and, and_self, if_true, if_false, hu3, ↓zciX i9, eq_true hx9, hu1, eq_false h43, ↓zciX w2, h0, ↓zciX dn]
            try rw [if_neg nd1m]
            try rw [if_neg nd0m]
            try rw [if_neg nd10]
            try rw [if_neg nd01]
            try simp only [↓zjpE, ↓zletE, ↓zciE, ↓zcvE, ↓zchkE, ↓reduceIte, zciE, zcvE, nI_1, ↓WSo hw, ↓WSr0 hw, ↓WSr1 hw, ↓WSr2 hw, ↓WSr3 hw, ↓WSr4 hw, ↓WSg5 hw, ↓WSp5 hw, ↓WSg6 hw, ↓WSp6 hw, ↓WSr7 hw, ↓WSr8 hw, ↓WTo hw, ↓WTr0 hw, ↓WTg1 hw, ↓WTp1 hw, ↓WTg2 hw, ↓WTp2 hw, ↓WTg3 hw, ↓WTp3 hw, ↓WTr4 hw, ↓WMo hw, ↓WMg0 hw, ↓WMp0 hw, ↓WMr1 hw, ↓WMg2 hw, ↓WMp2 hw, ↓WMr3 hw, ↓WMr4 hw, ↓WMr5 hw, ↓WMg6 hw, ↓WMp6 hw, ↓WMr7 hw, ↓WMr8 hw, ↓WMg9 hw, ↓WMp9 hw, ↓WMg10 hw, ↓WMp10 hw, true_or, or_true, true_and, and_true, and_false, false_and, and_self, if_true, if_false, hu3, ↓zciX i9, eq_true hx9, hu1, eq_false h43, ↓zciX w2, h0, ↓zciX dn]
          · obtain ⟨g0, g1⟩ := hN
            
            unfold f_SF_obeys
            simp only [↓zjpE, ↓zletE, ↓zciE, ↓zcvE, ↓zchkE, ↓reduceIte, zciE, zcvE, nI_1, ↓Lo0 hL, ↓Lr0_0 hL, ↓Lr0_1 hL, ↓Lr0_2 hL, ↓Lo1 hL, ↓Lo9 hL, ↓Lo16 hL, ↓Lp0_7 hL, ↓zLu hw, ↓zNu0 hw, ↓zNu1 hw, ↓zNu2 hw, ↓zNu3 hw, ↓zNu4 hw, show ((5 : Int32) ≤ nI 5) = True from eq_true (by decide), show (nI 111 = (99 : Int32)) = False from eq_false (by decide), show (nI 111 = (104 : Int32)) = False from eq_false (by decide), show (nI 111 = (111 : Int32)) = True from eq_true (by decide), show (nI 111 = (115 : Int32)) = False from eq_false (by decide), show (nI 111 = (116 : Int32)) = False from eq_false (by decide), show (nI 111 = (119 : Int32)) = False from eq_false (by decide), d10, true_or, or_true, true_and, and_true, and_false, false_and, and_self, if_true, if_false, g0, g1, hu2, eq_false h43, ↓zciX (w1 D)]
        · subst eF eG
          refine ⟨F', G', 1, RP_le hR (by omega), Or.inr rfl, fun D o hM => ?_, fun D hN => ?_⟩
          · have hle := (hM.2.2 p hp).2
            rw [hc] at hle
            have m1 : f_MD_figures w (mD D s (p + 1) o (vec G')) (s + 634) 0 1 0 3 = some (nI v1, mD D s q1 o (vec G')) := mO1 (lo := 0) (hi := 3) hw hM (by omega) (by decide) (by decide) (by decide) h1
            have m2 : f_MD_either w (mD D s q1 o (vec G')) (s + 634) (nI v1) 43 45 = some ((if v2 = 43 then 1 else 0), mD D s q2 o (vec G')) := mE1 (x := 43) (y := 45) hw hM (by omega) (nI_ne_m1 (by omega)) (by decide) (by decide) h2
            have i9 : f_MD_isSiren w (mD D s q2 o (vec G')) (s + 637) (nI v1) = some (0, mD D s q2 o (vec G')) := (e_isSiren hb n1' n0').trans (by rw [if_neg hx]; rfl)
            have dn : f_MD_done w (mD D s q2 o (vec (G'))) (s + 634) 0 = some (1, mD D s q2 (o + 1) (vec (G'))) := m_done0 hw
            unfold f_MD_readCommand
            simp only [↓zjpE, ↓zletE, ↓zciE, ↓zcvE, ↓zchkE, ↓reduceIte, zciE, zcvE, nI_1, ↓WSo hw, ↓WSr0 hw, ↓WSr1 hw, ↓WSr2 hw, ↓WSr3 hw, ↓WSr4 hw, ↓WSg5 hw, ↓WSp5 hw, ↓WSg6 hw, ↓WSp6 hw, ↓WSr7 hw, ↓WSr8 hw, ↓WTo hw, ↓WTr0 hw, ↓WTg1 hw, ↓WTp1 hw, ↓WTg2 hw, ↓WTp2 hw, ↓WTg3 hw, ↓WTp3 hw, ↓WTr4 hw, ↓WMo hw, ↓WMg0 hw, ↓WMp0 hw, ↓WMr1 hw, ↓WMg2 hw, ↓WMp2 hw, ↓WMr3 hw, ↓WMr4 hw, ↓WMr5 hw, ↓WMg6 hw, ↓WMp6 hw, ↓WMr7 hw, ↓WMr8 hw, ↓WMg9 hw, ↓WMp9 hw, ↓WMg10 hw, ↓WMp10 hw, mD_2, mD_9, mD_10, mD_x, mD_w9, mD_w10, ↓zald_of (i := p) (n := 120) (Wx hw) (show p < 120 by omega) (by decide), hle, ↓zciX m1, ↓zciX m2, show (nI 111 = (99 : Int32)) = False from eq_false (by decide), show (nI 111 = (104 : Int32)) = False from eq_false (by decide), show (nI 111 = (111 : Int32)) = True from eq_true (by decide), show (nI 111 = (115 : Int32)) = False from eq_false (by decide), show (nI 111 = (116 : Int32)) = False from eq_false (by decide), show (nI 111 = (119 : Int32)) = False from eq_false (by decide), true_or, or_true, true_and, and_true, and_false, false_and, and_self, if_true, if_false, hu3, ↓zciX i9, hu1, eq_false h43, ↓zciX dn]
            try rw [if_neg nd1m]
            try rw [if_neg nd0m]
            try rw [if_neg nd10]
            try rw [if_neg nd01]
            try simp only [↓zjpE, ↓zletE, ↓zciE, ↓zcvE, ↓zchkE, ↓reduceIte, zciE, zcvE, nI_1, ↓WSo hw, ↓WSr0 hw, ↓WSr1 hw, ↓WSr2 hw, ↓WSr3 hw, ↓WSr4 hw, ↓WSg5 hw, ↓WSp5 hw, ↓WSg6 hw, ↓WSp6 hw, ↓WSr7 hw, ↓WSr8 hw, ↓WTo hw, ↓WTr0 hw, ↓WTg1 hw, ↓WTp1 hw, ↓WTg2 hw, ↓WTp2 hw, ↓WTg3 hw, ↓WTp3 hw, ↓WTr4 hw, ↓WMo hw, ↓WMg0 hw, ↓WMp0 hw, ↓WMr1 hw, ↓WMg2 hw, ↓WMp2 hw, ↓WMr3 hw, ↓WMr4 hw, ↓WMr5 hw, ↓WMg6 hw, ↓WMp6 hw, ↓WMr7 hw, ↓WMr8 hw, ↓WMg9 hw, ↓WMp9 hw, ↓WMg10 hw, ↓WMp10 hw, true_or, or_true, true_and, and_true, and_false, false_and, and_self, if_true, if_false, hu3, ↓zciX i9, hu1, eq_false h43, ↓zciX dn]
            try rw [if_neg nd1m]
            try rw [if_neg nd0m]
            try rw [if_neg nd10]
            try rw [if_neg nd01]
            try simp only [↓zjpE, ↓zletE, ↓zciE, ↓zcvE, ↓zchkE, ↓reduceIte, zciE, zcvE, nI_1, ↓WSo hw, ↓WSr0 hw, ↓WSr1 hw, ↓WSr2 hw, ↓WSr3 hw, ↓WSr4 hw, ↓WSg5 hw, ↓WSp5 hw, ↓WSg6 hw, ↓WSp6 hw, ↓WSr7 hw, ↓WSr8 hw, ↓WTo hw, ↓WTr0 hw, ↓WTg1 hw, ↓WTp1 hw, ↓WTg2 hw, ↓WTp2 hw, ↓WTg3 hw, ↓WTp3 hw, ↓WTr4 hw, ↓WMo hw, ↓WMg0 hw, ↓WMp0 hw, ↓WMr1 hw, ↓WMg2 hw, ↓WMp2 hw, ↓WMr3 hw, ↓WMr4 hw, ↓WMr5 hw, ↓WMg6 hw, ↓WMp6 hw, ↓WMr7 hw, ↓WMr8 hw, ↓WMg9 hw, ↓WMp9 hw, ↓WMg10 hw, ↓WMp10 hw, true_or, or_true, true_and, and_true, and_false, false_and, and_self, if_true, if_false, hu3, ↓zciX i9, hu1, eq_false h43, ↓zciX dn]
            try rw [if_neg nd1m]
            try rw [if_neg nd0m]
            try rw [if_neg nd10]
            try rw [if_neg nd01]
            try simp only [↓zjpE, ↓zletE, ↓zciE, ↓zcvE, ↓zchkE, ↓reduceIte, zciE, zcvE, nI_1, ↓WSo hw, ↓WSr0 hw, ↓WSr1 hw, ↓WSr2 hw, ↓WSr3 hw, ↓WSr4 hw, ↓WSg5 hw, ↓WSp5 hw, ↓WSg6 hw, ↓WSp6 hw, ↓WSr7 hw, ↓WSr8 hw, ↓WTo hw, ↓WTr0 hw, ↓WTg1 hw, ↓WTp1 hw, ↓WTg2 hw, ↓WTp2 hw, ↓WTg3 hw, ↓WTp3 hw, ↓WTr4 hw, ↓WMo hw, ↓WMg0 hw, ↓WMp0 hw, ↓WMr1 hw, ↓WMg2 hw, ↓WMp2 hw, ↓WMr3 hw, ↓WMr4 hw, ↓WMr5 hw, ↓WMg6 hw, ↓WMp6 hw, ↓WMr7 hw, ↓WMr8 hw, ↓WMg9 hw, ↓WMp9 hw, ↓WMg10 hw, ↓WMp10 hw, true_or, or_true, true_and, and_true, and_false, false_and, and_self, if_true, if_false, hu3, ↓zciX i9, hu1, eq_false h43, ↓zciX dn]
          · obtain ⟨g0, g1⟩ := hN
            
            unfold f_SF_obeys
            simp only [↓zjpE, ↓zletE, ↓zciE, ↓zcvE, ↓zchkE, ↓reduceIte, zciE, zcvE, nI_1, ↓Lo0 hL, ↓Lr0_0 hL, ↓Lr0_1 hL, ↓Lr0_2 hL, ↓Lo1 hL, ↓Lo9 hL, ↓Lo16 hL, ↓Lp0_7 hL, ↓zLu hw, ↓zNu0 hw, ↓zNu1 hw, ↓zNu2 hw, ↓zNu3 hw, ↓zNu4 hw, show ((5 : Int32) ≤ nI 5) = True from eq_true (by decide), show (nI 111 = (99 : Int32)) = False from eq_false (by decide), show (nI 111 = (104 : Int32)) = False from eq_false (by decide), show (nI 111 = (111 : Int32)) = True from eq_true (by decide), show (nI 111 = (115 : Int32)) = False from eq_false (by decide), show (nI 111 = (116 : Int32)) = False from eq_false (by decide), show (nI 111 = (119 : Int32)) = False from eq_false (by decide), d10, true_or, or_true, true_and, and_true, and_false, false_and, and_self, if_true, if_false, g0, g1, hu2, eq_false h43, ↓zciX (w1 D), Nat.succ_ne_zero]
theorem st_no (hw : WL w s) (hn : n ≤ 120) (hp : p < n) (hc99 : ¬ ch p = 99) (hc104 : ¬ ch p = 104) (hc111 : ¬ ch p = 111) (hc115 : ¬ ch p = 115) (hc116 : ¬ ch p = 116) (hc119 : ¬ ch p = 119) : StepF w s n p ch := by
  refine ⟨p, nI (ch p), by omega, fun D l N hX => ⟨N, ?_⟩, fun D o V hM => ?_⟩
  · have hN := c_next (l := l) (N := N) hw hX (show p ≤ 200 by omega)
    rw [if_pos hp] at hN
    have h256 := (hX.2.2 p hp).1
    have f99 : (nI (ch p) = (99 : Int32)) = False := eq_false (fun h => hc99 ((nI_eq (b := 99) (by omega) (by decide)).1 h))
    have f104 : (nI (ch p) = (104 : Int32)) = False := eq_false (fun h => hc104 ((nI_eq (b := 104) (by omega) (by decide)).1 h))
    have f111 : (nI (ch p) = (111 : Int32)) = False := eq_false (fun h => hc111 ((nI_eq (b := 111) (by omega) (by decide)).1 h))
    have f115 : (nI (ch p) = (115 : Int32)) = False := eq_false (fun h => hc115 ((nI_eq (b := 115) (by omega) (by decide)).1 h))
    have f116 : (nI (ch p) = (116 : Int32)) = False := eq_false (fun h => hc116 ((nI_eq (b := 116) (by omega) (by decide)).1 h))
    have f119 : (nI (ch p) = (119 : Int32)) = False := eq_false (fun h => hc119 ((nI_eq (b := 119) (by omega) (by decide)).1 h))
    unfold f_FairText_readCommand
    simp only [↓zjpE, ↓zletE, ↓zciE, ↓zcvE, ↓zchkE, ↓reduceIte, zciE, zcvE, nI_1, ↓WSo hw, ↓WSr0 hw, ↓WSr1 hw, ↓WSr2 hw, ↓WSr3 hw, ↓WSr4 hw, ↓WSg5 hw, ↓WSp5 hw, ↓WSg6 hw, ↓WSp6 hw, ↓WSr7 hw, ↓WSr8 hw, ↓WTo hw, ↓WTr0 hw, ↓WTg1 hw, ↓WTp1 hw, ↓WTg2 hw, ↓WTp2 hw, ↓WTg3 hw, ↓WTp3 hw, ↓WTr4 hw, ↓WMo hw, ↓WMg0 hw, ↓WMp0 hw, ↓WMr1 hw, ↓WMg2 hw, ↓WMp2 hw, ↓WMr3 hw, ↓WMr4 hw, ↓WMr5 hw, ↓WMg6 hw, ↓WMp6 hw, ↓WMr7 hw, ↓WMr8 hw, ↓WMg9 hw, ↓WMp9 hw, ↓WMg10 hw, ↓WMp10 hw, tD_1, tD_2, tD_3, tD_c, tD_n, tD_w2, tD_w3, tD_wn, ↓zciX hN, f99, f104, f111, f115, f116, f119, nI_s1, tD_1, tD_2, tD_3, tD_c, tD_n, tD_w2, tD_w3, tD_wn]
  · have h256 := (hM.2.2 p hp).1
    have hle := (hM.2.2 p hp).2
    have f99 : (nI (ch p) = (99 : Int32)) = False := eq_false (fun h => hc99 ((nI_eq (b := 99) (by omega) (by decide)).1 h))
    have f104 : (nI (ch p) = (104 : Int32)) = False := eq_false (fun h => hc104 ((nI_eq (b := 104) (by omega) (by decide)).1 h))
    have f111 : (nI (ch p) = (111 : Int32)) = False := eq_false (fun h => hc111 ((nI_eq (b := 111) (by omega) (by decide)).1 h))
    have f115 : (nI (ch p) = (115 : Int32)) = False := eq_false (fun h => hc115 ((nI_eq (b := 115) (by omega) (by decide)).1 h))
    have f116 : (nI (ch p) = (116 : Int32)) = False := eq_false (fun h => hc116 ((nI_eq (b := 116) (by omega) (by decide)).1 h))
    have f119 : (nI (ch p) = (119 : Int32)) = False := eq_false (fun h => hc119 ((nI_eq (b := 119) (by omega) (by decide)).1 h))
    unfold f_MD_readCommand
    simp only [↓zjpE, ↓zletE, ↓zciE, ↓zcvE, ↓zchkE, ↓reduceIte, zciE, zcvE, nI_1, ↓WSo hw, ↓WSr0 hw, ↓WSr1 hw, ↓WSr2 hw, ↓WSr3 hw, ↓WSr4 hw, ↓WSg5 hw, ↓WSp5 hw, ↓WSg6 hw, ↓WSp6 hw, ↓WSr7 hw, ↓WSr8 hw, ↓WTo hw, ↓WTr0 hw, ↓WTg1 hw, ↓WTp1 hw, ↓WTg2 hw, ↓WTp2 hw, ↓WTg3 hw, ↓WTp3 hw, ↓WTr4 hw, ↓WMo hw, ↓WMg0 hw, ↓WMp0 hw, ↓WMr1 hw, ↓WMg2 hw, ↓WMp2 hw, ↓WMr3 hw, ↓WMr4 hw, ↓WMr5 hw, ↓WMg6 hw, ↓WMp6 hw, ↓WMr7 hw, ↓WMr8 hw, ↓WMg9 hw, ↓WMp9 hw, ↓WMg10 hw, ↓WMp10 hw, mD_2, mD_9, mD_10, mD_x, mD_w9, mD_w10, ↓zald_of (i := p) (n := 120) (Wx hw) (show p < 120 by omega) (by decide), hle, f99, f104, f111, f115, f116, f119, nI_s1]
theorem step (hw : WL w s) (hn : n ≤ 120) (hp : p < n) : StepF w s n p ch ∨ StepG w s n p ch := by
  by_cases hc99 : ch p = 99
  · exact st_99 hw hn hp hc99
  by_cases hc104 : ch p = 104
  · exact st_104 hw hn hp hc104
  by_cases hc111 : ch p = 111
  · exact st_111 hw hn hp hc111
  by_cases hc115 : ch p = 115
  · exact st_115 hw hn hp hc115
  by_cases hc116 : ch p = 116
  · exact st_116 hw hn hp hc116
  by_cases hc119 : ch p = 119
  · exact st_119 hw hn hp hc119
  exact Or.inl (st_no hw hn hp hc99 hc104 hc111 hc115 hc116 hc119)
end P70
