/-! PURE: a siren's pulses; the tick's third phase. -/
section P40
variable {A : Prop} {w : zW} {a b ns nh nw t te tp np d e l c p : Nat} {D : zD} {F G : Nat → Nat → Int32}
theorem wk1 {x : Int32} (h : -200 ≤ x) : -400 ≤ x := by grind
theorem wk2 {x : Int32} (h : x ≤ 200) : x ≤ 400 := by grind
theorem mir {x y : Int32} (h : -40 ≤ x ∧ x ≤ 40) (h2 : -200 ≤ y ∧ y ≤ 200) : -400 ≤ 2 * x - y ∧ 2 * x - y ≤ 400 := by grind
theorem gsC (hL : LF w a) {k : Nat} {v0 x y : Int32} (hn : nw ≤ 3) (hk : k < nw) (hF : F 16 2 = nI nw) {j : Int32 → Int32 → Int32 → zD → Option zD} : S_Field_givePulses_S1 w a v0 j x y (nI k) (zblk D a F) = if F 17 k = 0 then (if y = F 18 k then j x y (nI (k + 1)) (zblk D a F) else zcv (f_Field_give w (zblk D a F) a v0 x (2 * F 18 k - y) (nI k)) (fun D => j x y (nI (k + 1)) D)) else (if x = F 18 k then j x y (nI (k + 1)) (zblk D a F) else zcv (f_Field_give w (zblk D a F) a v0 (2 * F 18 k - x) y (nI k)) (fun D => j x y (nI (k + 1)) D)) := by
  have hc : ¬ nI nw ≤ nI k := by rw [nI_leI (by omega) (by omega)]; omega
  unfold S_Field_givePulses_S1
  simp (disch := omega) only [zjp, zlet, nI_1, Lr0_2 hL, Lg16_2 hL, hF, hc, if_false, Lr16_0 hL, Lr16_1 hL, La17 hL, La18 hL, Lo0 hL]
  by_cases h0 : F 17 k = 0
  · rw [if_pos h0, if_pos h0, if_pos h0]
  · rw [if_neg h0, if_neg h0, if_neg h0]
theorem gsM (hb : w.1 b = some (.inl (0, 521))) {k : Nat} {v0 x y : Int32} (hn : nw ≤ 3) (hk : k < nw) (hG : G 16 2 = nI nw) {j : Int32 → Int32 → Int32 → zD → Option zD} (hu : G 17 k = 0 ∨ G 17 k = 1) : S_MD_gives_S1 w b v0 j x y (nI k) (zset D b (vec G)) = if G 17 k = 0 then (if y = G 18 k then j x y (nI (k + 1)) (zset D b (vec G)) else zcv (f_MD_give w (zset D b (vec G)) b v0 x (2 * G 18 k - y) (nI k)) (fun D => j x y (nI (k + 1)) D)) else (if x = G 18 k then j x y (nI (k + 1)) (zset D b (vec G)) else zcv (f_MD_give w (zset D b (vec G)) b v0 (2 * G 18 k - x) y (nI k)) (fun D => j x y (nI (k + 1)) D)) := by
  have hc : ¬ nI nw ≤ nI k := by rw [nI_leI (by omega) (by omega)]; omega
  unfold S_MD_gives_S1
  have d0 : ¬ (0 : Int32) = 1 := by decide
  have d1 : ¬ (1 : Int32) = 0 := by decide
  rcases hu with h0 | h0
  · simp (disch := omega) only [zjpE, zletE, nI_1, Mrc2 hb, Mrw hb, Mrw1 hb, hG, hc, if_false, h0, d0, if_true]
  · simp (disch := omega) only [zjpE, zletE, nI_1, Mrc2 hb, Mrw hb, Mrw1 hb, hG, hc, if_false, h0, d1, if_true]
theorem gives1 (ht : t ≤ tp) (hL : LF w a) (hb : w.1 b = some (.inl (0, 521))) (h : RI F G ns nh nw t te tp A np d e l c) {i k : Nat} (hi : i < ns) (hk : k < nw) {x y : Int32} (hx : -200 ≤ x ∧ x ≤ 200 ∧ -200 ≤ y ∧ y ≤ 200) : ∃ F' G' np', RI F' G' ns nh nw t te tp A np' d e l c ∧ (∀ D j, S_Field_givePulses_S1 w a (nI i) j x y (nI k) (zblk D a F) = j x y (nI (k + 1)) (zblk D a F')) ∧ (∀ D j, S_MD_gives_S1 w b (nI i) j x y (nI k) (zset D b (vec G)) = j x y (nI (k + 1)) (zset D b (vec G'))) := by
  obtain ⟨h1, -, -, -, ⟨-, -, -, -, e3, hn, -⟩, -, -, hW, -⟩ := id h
  have hF : F 16 2 = nI nw := by rw [r16_2 h1, e3]
  obtain ⟨hu, hat⟩ := hW k hk
  have hk3 : k < 3 := by omega
  have hC := fun D j => @gsC w a nw D F hL k (nI i) x y hn hk hF j
  have hM := fun D j => @gsM w b nw D G hb k (nI i) x y hn hk e3 j hu
  rw [r17 h1 hk3, r18 h1 hk3] at hC
  by_cases h0 : G 17 k = 0
  · by_cases hy : y = G 18 k
    · exact ⟨F, G, np, h, fun D j => by rw [hC, if_pos h0, if_pos hy], fun D j => by rw [hM, if_pos h0, if_pos hy]⟩
    · obtain ⟨F', G', np', g1, g2, g3⟩ := give1 ht hL hb h hi (x := x) (y := 2 * G 18 k - y) (wl := nI k) ⟨wk1 hx.1, wk2 hx.2.1, mir hat hx.2.2⟩ (Or.inr ⟨k, hk, rfl⟩)
      exact ⟨F', G', np', g1, fun D j => by rw [hC, if_pos h0, if_neg hy, g2]; rfl, fun D j => by rw [hM, if_pos h0, if_neg hy, g3]; rfl⟩
  · by_cases hy : x = G 18 k
    · exact ⟨F, G, np, h, fun D j => by rw [hC, if_neg h0, if_pos hy], fun D j => by rw [hM, if_neg h0, if_pos hy]⟩
    · obtain ⟨F', G', np', g1, g2, g3⟩ := give1 ht hL hb h hi (x := 2 * G 18 k - x) (y := y) (wl := nI k) ⟨(mir hat ⟨hx.1, hx.2.1⟩).1, (mir hat ⟨hx.1, hx.2.1⟩).2, wk1 hx.2.2.1, wk2 hx.2.2.2⟩ (Or.inr ⟨k, hk, rfl⟩)
      exact ⟨F', G', np', g1, fun D j => by rw [hC, if_neg h0, if_neg hy, g2]; rfl, fun D j => by rw [hM, if_neg h0, if_neg hy, g3]; rfl⟩
theorem gives (ht : t ≤ tp) (hL : LF w a) (hb : w.1 b = some (.inl (0, 521))) (h : RI F G ns nh nw t te tp A np d e l c) {i : Nat} (hi : i < ns) : ∃ F' G' np', RI F' G' ns nh nw t te tp A np' d e l c ∧ (∀ D, f_Field_givePulses w (zblk D a F) a (nI i) = some (zblk D a F')) ∧ (∀ D, f_MD_gives w (zset D b (vec G)) b (nI i) = some (zset D b (vec G'))) := by
  obtain ⟨h1, -, -, -, ⟨-, hns, -, -, e3, hn, -⟩, hS, -, hW, -⟩ := id h
  obtain ⟨s1, s2, s3, s4, s5, s6, -, -, -, -, -, s12, s13⟩ := hS i hi
  have hi4 : i < 4 := by omega
  obtain ⟨x1, x2⟩ := @pX_rg (G 2 i) (G 4 i) (G 7 i) ⟨s1, s2⟩ s5 s6 s12 s13
  obtain ⟨y1, y2⟩ := @pY_rg (G 3 i) (G 4 i) (G 7 i) ⟨s3, s4⟩ s5 s6 s12 s13
  obtain ⟨F0, G0, np0, g1, g2, g3⟩ := give1 ht hL hb h hi (x := pX (G 2 i) (G 4 i) (G 7 i)) (y := pY (G 3 i) (G 4 i) (G 7 i)) (wl := -1) ⟨wk1 x1, wk2 x2, wk1 y1, wk2 y2⟩ (Or.inl rfl)
  obtain ⟨s, ⟨np', hs⟩, q1, q2⟩ := lpG2 (bot := fun (_ : Int32) (_ : Int32) (_ : Int32) (_ : zD) => none) (st := S_Field_givePulses_S1 w a (nI i)) (bot' := fun (_ : Int32) (_ : Int32) (_ : Int32) (_ : zD) => none) (st' := S_MD_gives_S1 w b (nI i)) (n := nw) (fun _ s => ∃ np, RI s.1 s.2 ns nh nw t te tp A np d e l c) (fun D g k s => g (pX (G 2 i) (G 4 i) (G 7 i)) (pY (G 3 i) (G 4 i) (G 7 i)) (nI k) (zblk D a s.1)) (fun D g k s => g (pX (G 2 i) (G 4 i) (G 7 i)) (pY (G 3 i) (G 4 i) (G 7 i)) (nI k) (zset D b (vec s.2))) (by
    intro k s hk hs
    obtain ⟨np, hs⟩ := hs
    obtain ⟨F', G', np', r1, r2, r3⟩ := gives1 ht hL hb hs hi hk ⟨x1, x2, y1, y2⟩
    exact ⟨(F', G'), ⟨np', r1⟩, r2, r3⟩) nw 0 (F0, G0) (by omega) ⟨np0, g1⟩
  obtain ⟨k1, -, -, -, ⟨-, -, -, -, e4, -⟩, -⟩ := id hs
  refine ⟨s.1, s.2, np', hs, ?_, ?_⟩
  · intro D
    obtain ⟨j, hj⟩ := q1 D zfuel (by unfold zfuel; omega)
    rw [u_Field_givePulses]
    have p1 := @e_placeX w a D F hL i hi4 (by rw [r4 h1 hi4]; exact s5) (by rw [r4 h1 hi4]; exact s6) (by rw [r7 h1 hi4]; exact s12) (by rw [r7 h1 hi4, r4 h1 hi4]; exact s13)
    have p2 := @e_placeY w a D F hL i hi4 (by rw [r4 h1 hi4]; exact s5) (by rw [r4 h1 hi4]; exact s6) (by rw [r7 h1 hi4]; exact s12) (by rw [r7 h1 hi4, r4 h1 hi4]; exact s13)
    rw [r2 h1 hi4, r4 h1 hi4, r7 h1 hi4] at p1
    rw [r3 h1 hi4, r4 h1 hi4, r7 h1 hi4] at p2
    simp only [zjpE, zletE, zciE, zcvE, zchkE, nI_1, Lr0_0 hL, Lo0 hL, Lo1 hL, p1, p2, g2]
    refine hj.trans ?_
    unfold S_Field_givePulses_S1
    simp only [Lr0_2 hL, Lg16_2 hL, r16_2 k1, e4, nI_le (Nat.le_refl nw) (show nw < 2 ^ 31 by omega), if_true]
  · intro D
    obtain ⟨j, hj⟩ := q2 D zfuel (by unfold zfuel; omega)
    rw [u_MD_gives]
    have p1 := @e_xOf w b D G hb i hi4 s5 s6 s12 s13
    have p2 := @e_yOf w b D G hb i hi4 s5 s6 s12 s13
    simp only [zjpE, zletE, zciE, zcvE, zchkE, nI_1, p1, p2, g3]
    refine hj.trans ?_
    unfold S_MD_gives_S1
    simp only [Mrc2 hb, e4, nI_le (Nat.le_refl nw) (show nw < 2 ^ 31 by omega), if_true]
end P40
