/-! PURE: both are made; what holds at the start. -/
def BkF : Fld := fun o j => if o < 33 then fr o j else 0
theorem BkF_at {o j : Nat} (h : o < 33) : BkF o j = fr o j := if_pos h
theorem BkF_NZ : NZ BkF := by
  intro o j hc h15
  unfold BkF
  by_cases ho : o < 33
  · rw [if_pos ho]
    unfold fr
    unfold Cp at hc
    rw [if_neg (by omega), if_neg (by omega), if_neg (by omega)]
  · rw [if_neg ho]
theorem BkF_RZ : RZ BkF := fun h hh => by
  rw [BkF_at (by decide)]
  unfold fr
  rw [if_neg (by omega), if_neg (by omega), if_neg (by omega)]
theorem BkF_FS : FS BkF 0 0 True := by
  have hE : ∀ i, i < 16 → BkF 27 i = nI 0 ∧ BkF 28 i = nI 0 ∧ BkF 29 i = nI 0 ∧ BkF 30 i = -1 ∧ BkF 31 i = -1 ∧ BkF 32 i = -1 := by decide +kernel
  refine ⟨BkF_NZ, BkF, 0, 0, 0, 0, 0, 0, 0, ⟨fun o j _ => rfl, ⟨0, by decide +kernel, by decide, by decide +kernel, by decide +kernel, by decide, fun f k _ hk => absurd hk (Nat.not_lt_zero k)⟩, BkF_RZ, by decide +kernel, ⟨by decide +kernel, by decide, by decide +kernel, by decide, by decide +kernel, by decide, by decide +kernel, by decide⟩, fun q hq => absurd hq (Nat.not_lt_zero q), fun q hq => absurd hq (Nat.not_lt_zero q), fun q hq => absurd hq (Nat.not_lt_zero q), ⟨by decide +kernel, by decide +kernel, by decide +kernel, by decide +kernel⟩, fun k hk => absurd hk (Nat.not_lt_zero k), fun i hi => Or.inl ⟨(hE i hi).2.2.2.1, (hE i hi).2.2.2.2.1⟩, ⟨by decide +kernel, by decide +kernel, by decide +kernel, by decide, by decide⟩, fun q hq => absurd hq (Nat.not_lt_zero q)⟩, ⟨⟨fun k hk => absurd hk (Nat.not_lt_zero k), fun k k' _ hk => absurd hk (Nat.not_lt_zero k')⟩, ⟨fun _ => 0, fun _ => 0, fun _ => 0, fun i hi => ?_, rfl, rfl, rfl, fun _ _ _ _ _ => ⟨rfl, rfl, rfl⟩⟩, 0, by decide +kernel, by decide, by decide⟩⟩
  obtain ⟨a1, a2, a3, a4, a5, a6⟩ := hE i hi
  exact ⟨a1, a2, a3, Nat.le_refl _, fun _ => ⟨a4, a6⟩, fun h => absurd h (Nat.lt_irrefl 0), fun _ => a5, fun h => absurd h (show ¬ (2 ≤ 0) by decide)⟩
theorem BkF_FT : FT BkF 0 := ⟨0, Nat.le_refl _, BkF_FS⟩
section P75a
variable {s n : Nat}
theorem tgt_f {o : Nat} (h : stt n) (ho : o < 33) : tgt s (n + o) = (shL (s + n))[o]? := by
  obtain ⟨b1, b2, b3, -, -⟩ := stt_b h (show n ≤ n + o by omega) (by omega)
  unfold tgt
  rw [if_neg (by omega), if_neg (by omega), if_neg (by omega), if_neg b3, b1, Nat.add_sub_cancel_left]
theorem dat_f {o j : Nat} (h : stt n) (ho : o < 33) : dat (n + o) j = fr o j := by
  obtain ⟨b1, b2, b3, -, -⟩ := stt_b h (show n ≤ n + o by omega) (by omega)
  unfold dat
  rw [if_neg (by omega), b1, Nat.add_sub_cancel_left]
end P75a
section P75
variable {β : Type} {z : zT} {w w' : zW} {D : zD} {s : Nat}
theorem WL_fr (h : WL w s) (hq : ∀ q, s ≤ q → q < s + 634 → w'.1 q = w.1 q) (hp : w'.2.2 = w.2.2) (hp1 : w'.1 w.2.2 = w.1 w.2.2) (hp2 : w'.2.1 w.2.2 = w.2.1 w.2.2) : WL w' s := by
  obtain ⟨⟨a1, a2, a3, a4⟩, ⟨b1, b2, b3⟩, ⟨⟨φ, c1, c2⟩, c3⟩, ⟨⟨ψ, d1, d2⟩, d3, d4⟩, e1, e2⟩ := h
  have hL : ∀ n, n + 33 ≤ 634 → LF w (s + n) → LF w' (s + n) := fun n hn hl o ho => by
    rw [hq _ (by omega) (by omega)]; exact hl o ho
  refine ⟨⟨?_, ?_, ?_, ?_⟩, ⟨hL 4 (by omega) b1, hL 37 (by omega) b2, hL 70 (by omega) b3⟩, ⟨⟨φ, ?_, c2⟩, fun i hi => ?_⟩, ⟨⟨ψ, ?_, d2⟩, fun i hi => ?_, ?_⟩, ?_, ?_⟩
  · rw [hq _ (by omega) (by omega)]; exact a1
  · rw [hq _ (by omega) (by omega)]; exact a2
  · rw [hq _ (by omega) (by omega)]; exact a3
  · rw [hq _ (by omega) (by omega)]; exact a4
  · rw [hq _ (by omega) (by omega)]; exact c1
  · have := c3 i hi
    rw [Nat.add_assoc] at this ⊢
    exact hL _ (by omega) this
  · rw [hq _ (by omega) (by omega)]; exact d1
  · have := d3 i hi
    rw [Nat.add_assoc] at this ⊢
    exact hL _ (by omega) this
  · rw [hq _ (by omega) (by omega)]; exact d4
  · rw [hp, hp1]; exact e1
  · rw [hp, hp2]; exact e2
theorem one_made (hs : z.1 = s) (hp : z.2.2.2 < s) (hpl : z.2.1 z.2.2.2 = some (.inl (5, 4)) ∧ z.2.2.1 z.2.2.2 0 = 1 ∧ z.2.2.1 z.2.2.2 1 = 100000 ∧ z.2.2.1 z.2.2.2 2 = 10000000000 ∧ z.2.2.1 z.2.2.2 3 = 1000000000000000) : ∃ z' D', (∀ K : Nat → zT → zD → Option β, znew z D (.inr (.inr (0, [some none, some none, some none, some none, some none, none, none, some none, some none])) : zS) (fun q z1 D1 => zcc (f_SF_init z1 D1 q) (fun z2 D2 => K q z2 D2)) = K s z' D') ∧ z'.1 = s + 634 ∧ WL z'.2 s ∧ At D' s (BkF, [], fun _ => none) ∧ z'.2.2.2 = z.2.2.2 ∧ ∀ q, q < s → z'.2.1 q = z.2.1 q ∧ z'.2.2.1 q = z.2.2.1 q ∧ D' q = D q := by
  have m1 : (zadd z (.inr (.inr (0, [some none, some none, some none, some none, some none, none, none, some none, some none])) : zS)).1 = s + 1 := by show z.1 + 1 = _; rw [hs]
  have m3 : (zadd z (.inr (.inr (0, [some none, some none, some none, some none, some none, none, none, some none, some none])) : zS)).2.1 s = some (.inr (.inr (0, [some none, some none, some none, some none, some none, none, none, some none, some none])) : zS) := by
    show (if s = z.1 then _ else _) = _
    rw [if_pos hs.symm]
  have m4 : ∀ j, zclr D s s j = 0 := fun j => by unfold zclr; rw [if_pos rfl]
  obtain ⟨z', D', e1, ⟨g1, g2, g3, g4, g5, g6⟩, hA, hB⟩ := made m1 m3 m4
  have old : ∀ q, q < s → z'.2.1 q = z.2.1 q ∧ z'.2.2.1 q = z.2.2.1 q ∧ D' q = D q := fun q hq => by
    obtain ⟨a1, a2, a3⟩ := g5 q hq
    refine ⟨a1.trans ?_, a2.trans ?_, a3.trans ?_⟩
    · show (if q = z.1 then _ else _) = _
      rw [if_neg (by omega)]
    · funext j
      show (if q = z.1 then _ else _) = _
      rw [if_neg (by omega)]
    · funext j; unfold zclr; rw [if_neg (by omega)]
  have c1 : ∀ n o, stt n → o < 33 → z'.2.1 (s + n + o) = (shL (s + n))[o]? ∧ ∀ j, D' (s + n + o) j = fr o j := fun n o hn ho => by
    obtain ⟨q1, q2, q3, q4, q5⟩ := stt_b hn (show n ≤ n + o by omega) (by omega)
    have h634 : n + o < 634 := by
      unfold stt at hn; omega
    obtain ⟨x1, x2⟩ := g2 (n + o) (by omega) h634 q4 q5
    rw [Nat.add_assoc]
    exact ⟨x1.trans (tgt_f hn ho), fun j => (x2 j).trans (dat_f hn ho)⟩
  have cL : ∀ n, stt n → LF z'.2 (s + n) := fun n hn o ho => (c1 n o hn ho).1
  have cD : ∀ n, stt n → HF D' (s + n) BkF := fun n hn o ho => by
    funext j; rw [BkF_at ho]; exact (c1 n o hn ho).2 j
  have s4 : stt 4 := Or.inl rfl
  have s37 : stt 37 := Or.inr (Or.inl rfl)
  have s70 : stt 70 := Or.inr (Or.inr (Or.inl rfl))
  have sr : ∀ i, i < 14 → stt (104 + 33 * i) := fun i hi => Or.inr (Or.inr (Or.inr (Or.inl ⟨i, hi, rfl⟩)))
  have ss : ∀ i, i < 2 → stt (567 + 33 * i) := fun i hi => Or.inr (Or.inr (Or.inr (Or.inr ⟨i, hi, rfl⟩)))
  have g6' : z'.2.2.2 = z.2.2.2 := g6
  refine ⟨z', D', fun K => ?_, g1, ⟨⟨?_, ?_, ?_, ?_⟩, ⟨cL 4 s4, cL 37 s37, cL 70 s70⟩, ⟨hA, fun i hi => ?_⟩, ⟨hB, fun i hi => ?_, ?_⟩, ?_⟩, ⟨?_, ?_, fun i hi => ?_, fun i hi => ?_, ⟨0, by decide, ?_, ?_, Nat.zero_le _, fun i f hf => by cases hf⟩, fun i hi => ?_⟩, g6', old⟩
  · have hz : ∀ K : Nat → zT → zD → Option β, znew z D (.inr (.inr (0, [some none, some none, some none, some none, some none, none, none, some none, some none])) : zS) K = K s (zadd z (.inr (.inr (0, [some none, some none, some none, some none, some none, none, none, some none, some none])) : zS)) (zclr D s) := fun K => by
      show K z.1 (zadd z _) (zclr D z.1) = _
      rw [hs]
    refine (hz _).trans ?_
    exact zccX e1
  · exact g3
  · exact (g2 1 (by decide) (by decide) (by decide) (by decide)).1
  · exact (g2 2 (by decide) (by decide) (by decide) (by decide)).1
  · exact (g2 3 (by decide) (by decide) (by decide) (by decide)).1
  · rw [Nat.add_assoc]; exact cL _ (sr i hi)
  · rw [Nat.add_assoc]; exact cL _ (ss i hi)
  · exact (g2 633 (by decide) (by decide) (by decide) (by decide)).1
  · rw [g6', (old _ hp).1, (old _ hp).2.1]
    exact hpl
  · exact cD 4 s4
  · exact CZ_of (cD 70 s70) BkF_NZ BkF_RZ
  · rw [Nat.add_assoc]; exact CZ_of (cD _ (sr i hi)) BkF_NZ BkF_RZ
  · rw [Nat.add_assoc]; exact CZ_of (cD _ (ss i hi)) BkF_NZ BkF_RZ
  · exact g4 5
  · exact g4 6
  · exact Or.inr ⟨rfl, (g2 633 (by decide) (by decide) (by decide) (by decide)).2 i⟩
theorem both_made (hs : z.1 = s) (hp : z.2.2.2 < s) (hpl : z.2.1 z.2.2.2 = some (.inl (5, 4)) ∧ z.2.2.1 z.2.2.2 0 = 1 ∧ z.2.2.1 z.2.2.2 1 = 100000 ∧ z.2.2.1 z.2.2.2 2 = 10000000000 ∧ z.2.2.1 z.2.2.2 3 = 1000000000000000) : ∃ z' D', (∀ K : Nat → Nat → zT → zD → Option β, znew z D (.inr (.inr (0, [some none, some none, some none, some none, some none, none, none, some none, some none])) : zS) (fun q z1 D1 => zcc (f_SF_init z1 D1 q) (fun z2 D2 => znew z2 D2 (.inr (.inr (0, [some none, some none, some none, some none, some none, none, none, some none, some none])) : zS) (fun q' z3 D3 => zcc (f_SF_init z3 D3 q') (fun z4 D4 => K q q' z4 D4)))) = K s (s + 634) z' D') ∧ Tw z'.2 D' s (BkF, [], fun _ => none) ∧ ∀ q, q < s → z'.2.1 q = z.2.1 q := by
  obtain ⟨z1, D1, e1, n1, w1, a1, p1, o1⟩ := one_made (β := β) (D := D) hs hp hpl
  have op := o1 _ hp
  obtain ⟨z2, D2, e2, n2, w2, a2, p2, o2⟩ := one_made (β := β) (z := z1) (D := D1) (s := s + 634) n1 (by omega) (by rw [p1, op.1, op.2.1]; exact hpl)
  have op2 := o2 z.2.2.2 (by omega)
  refine ⟨z2, D2, fun K => ?_, ⟨WL_fr w1 (fun q _ h => (o2 q (by omega)).1) p2 ?_ ?_, w2, At_fr a1 (fun q _ h => (o2 q (by omega)).2.2), a2⟩, fun q hq => (o2 q (by omega)).1.trans (o1 q hq).1⟩
  · refine (e1 (fun q z2 D2 => znew z2 D2 (.inr (.inr (0, [some none, some none, some none, some none, some none, none, none, some none, some none])) : zS) (fun q' z3 D3 => zcc (f_SF_init z3 D3 q') (fun z4 D4 => K q q' z4 D4)))).trans ?_
    exact e2 (fun q' z4 D4 => K s q' z4 D4)
  · show z2.2.1 z1.2.2.2 = z1.2.1 z1.2.2.2
    rw [p1]; exact op2.1
  · show z2.2.2.1 z1.2.2.2 = z1.2.2.1 z1.2.2.2
    rw [p1]; exact op2.2.1
end P75
