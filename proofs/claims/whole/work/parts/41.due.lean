/-! PURE: the tick's third phase: sirens that are due give. -/
section P41
variable {A : Prop} {w : zW} {a b ns nh nw t te tp np d e l c p : Nat} {D : zD} {F G : Nat → Nat → Int32}
theorem due1 (hA : A → t ≤ tp) (hL : LF w a) (hb : w.1 b = some (.inl (0, 521))) (h : RI F G ns nh nw t te tp A np d e l c) {k : Nat} (hk : k < ns) : ∃ F' G' np', RI F' G' ns nh nw t te tp A np' d e l c ∧ (∀ D j, S_Field_tick_S1 w a j (nI k) (zblk D a F) = j (nI (k + 1)) (zblk D a F')) ∧ (∀ D j, S_MD_tick_S3 w b j (nI k) (zset D b (vec G)) = j (nI (k + 1)) (zset D b (vec G'))) := by
  obtain ⟨h1, -, -, -, ⟨e1, hn, -, -, -, -, e5, -⟩, hS, -, -, -, -, -, -, hIA⟩ := id h
  have hF : F 1 7 = nI ns := by rw [r1_7 h1, e1]
  have hc : ¬ nI ns ≤ nI k := by rw [nI_leI (by omega) (by omega)]; omega
  have hk4 : k < 4 := by omega
  obtain ⟨-, -, -, -, -, -, -, -, s9, -, s11, -⟩ := hS k hk
  have h0 : ¬ G 6 k = 0 := by clear hS h h1; grind
  have d0 : ¬ (0 : Int32) = 1 := by decide
  have d1 : ¬ (1 : Int32) = 0 := by decide
  have hd := fun D v => @e_isDue w a D F hL k hk4 v (by rw [r6 h1 hk4]; exact s9)
  rw [r6 h1 hk4, r8 h1 hk4] at hd
  have hF5 : F 0 5 = nI t := by rw [r0_5 h1, e5]
  by_cases hdue : ¬ G 8 k = 0 ∧ zirem (nI t) (G 6 k) = 0
  · obtain ⟨F', G', np', g1, g2, g3⟩ := gives (hA ((hIA k hk).resolve_left hdue.1)) hL hb h hk
    refine ⟨F', G', np', g1, ?_, ?_⟩
    · intro D j
      unfold S_Field_tick_S1
      simp only [zjpE, zletE, zciE, zcvE, zchkE, nI_1, Lr0_0 hL, Lg1_7 hL, hF, hc, if_false, Lg0_5 hL, hF5, Lo0 hL, Lo1 hL, hd, if_pos hdue, d1, g2]
    · intro D j
      have h8 : G 8 k = 1 := s11.resolve_left hdue.1
      unfold S_MD_tick_S3 f_MD_ofSiren
      simp (disch := omega) only [zjpE, zletE, zciE, zcvE, zchkE, nI_1, Mrc0 hb, Mrc3 hb, Mrs5 hb, Mrs4 hb, e1, e5, hc, if_false, h8, if_true, h0, hdue.2, g3, not_false_eq_true]
  · refine ⟨F, G, np, h, ?_, ?_⟩
    · intro D j
      unfold S_Field_tick_S1
      simp only [zjpE, zletE, zciE, zcvE, zchkE, nI_1, Lr0_0 hL, Lg1_7 hL, hF, hc, if_false, Lg0_5 hL, hF5, Lo0 hL, Lo1 hL, hd, if_neg hdue, if_true]
    · intro D j
      unfold S_MD_tick_S3 f_MD_ofSiren
      rcases s11 with h8 | h8
      · simp (disch := omega) only [zjpE, zletE, zciE, zcvE, zchkE, nI_1, Mrc0 hb, Mrc3 hb, Mrs5 hb, Mrs4 hb, e1, e5, hc, if_false, h8, d0]
      · have h9 : ¬ zirem (nI t) (G 6 k) = 0 := fun hh => hdue ⟨by rw [h8]; exact d1, hh⟩
        simp (disch := omega) only [zjpE, zletE, zciE, zcvE, zchkE, nI_1, Mrc0 hb, Mrc3 hb, Mrs5 hb, Mrs4 hb, e1, e5, hc, if_false, h8, if_true, h0, h9, not_false_eq_true]
theorem ph3 (hA : A → t ≤ tp) (hL : LF w a) (hb : w.1 b = some (.inl (0, 521))) (h : RI F G ns nh nw t te tp A np d e l c) : ∃ F' G' np', RI F' G' ns nh nw t te tp A np' d e l c ∧ (∀ D, zlp (fun (_ : Int32) (_ : zD) => none) (S_Field_tick_S1 w a) zfuel 0 (zblk D a F) = zcv (f_Field_hearPulses w (zblk D a F') a) (fun D4 => zcv (f_Hearers_countBeats w D4 (a + 9)) (fun D6 => some D6))) ∧ (∀ D, zlp (fun (_ : Int32) (_ : zD) => none) (S_MD_tick_S3 w b) zfuel 0 (zset D b (vec G)) = zlp (fun (_ : Int32) (_ : zD) => none) (S_MD_tick_S4 w b) zfuel 0 (zset D b (vec G'))) := by
  obtain ⟨-, -, -, -, ⟨-, hn, -⟩, -⟩ := id h
  obtain ⟨s, ⟨np', hs⟩, q1, q2⟩ := lpG2 (bot := fun (_ : Int32) (_ : zD) => none) (st := S_Field_tick_S1 w a) (bot' := fun (_ : Int32) (_ : zD) => none) (st' := S_MD_tick_S3 w b) (n := ns) (fun _ s => ∃ np, RI s.1 s.2 ns nh nw t te tp A np d e l c) (fun D g k s => g (nI k) (zblk D a s.1)) (fun D g k s => g (nI k) (zset D b (vec s.2))) (by
    intro k s hk hs
    obtain ⟨np, hs⟩ := hs
    obtain ⟨F', G', np', r1, r2, r3⟩ := due1 hA hL hb hs hk
    exact ⟨(F', G'), ⟨np', r1⟩, r2, r3⟩) ns 0 (F, G) (by omega) ⟨np, h⟩
  obtain ⟨h1, -, -, -, ⟨e1, -⟩, -⟩ := id hs
  refine ⟨s.1, s.2, np', hs, ?_, ?_⟩
  · intro D
    obtain ⟨j, hj⟩ := q1 D zfuel (by unfold zfuel; omega)
    refine hj.trans ?_
    unfold S_Field_tick_S1
    simp only [Lr0_0 hL, Lg1_7 hL, r1_7 h1, e1, nI_le (Nat.le_refl ns) (show ns < 2 ^ 31 by omega), if_true, Lo0 hL, Lr0_1 hL, Lo9 hL]
  · intro D
    obtain ⟨j, hj⟩ := q2 D zfuel (by unfold zfuel; omega)
    refine hj.trans ?_
    unfold S_MD_tick_S3
    simp only [Mrc0 hb, zjpE, e1, nI_le (Nat.le_refl ns) (show ns < 2 ^ 31 by omega), if_true]
end P41
