/-! PURE: what holds at the start of the law. -/
section P76
variable {β : Type} {z z0 z' : zT} {D D0 D' : zD} {s n a T : Nat} {fs : List (Option (Option Nat))} {F : Nat → Nat → Int32}
theorem mk_MD : f_MD_init (zst z a [.inr (.inr (8, [none, some none, none, some none, some none, some none, none, some none, some none, none, none]))]) (dst D a 1 z0F) a = some (zst z a [.inr (.inr (8, [none, some (some (a + 1)), none, some (some (a + 2)), some (some (a + 3)), some (some (a + 4)), none, some (some (a + 5)), some (some (a + 6)), none, none])), .inl (0, 120), .inl (0, 521), .inl (0, 521), .inl (0, 7294), .inl (0, 1042), .inl (2, 2)], zset (dst D a 7 z0F) (a + 2) (cl2 (fun _ => 0) 16)) := by
  unfold f_MD_init
  rw [zst_new]
  simp only [List.length_cons, List.length_nil, Nat.zero_add, Nat.reduceAdd, List.cons_append, List.nil_append, dst_z]
  rw [zst_put0 (j := 1) rfl rfl]
  simp only [List.set_cons_succ, List.set_cons_zero]
  rw [zst_new]
  simp only [List.length_cons, List.length_nil, Nat.zero_add, Nat.reduceAdd, List.cons_append, List.nil_append, dst_z]
  rw [zst_put0 (j := 3) rfl rfl]
  simp only [List.set_cons_succ, List.set_cons_zero]
  rw [zst_new]
  simp only [List.length_cons, List.length_nil, Nat.zero_add, Nat.reduceAdd, List.cons_append, List.nil_append, dst_z]
  rw [zst_put0 (j := 4) rfl rfl]
  simp only [List.set_cons_succ, List.set_cons_zero]
  rw [zst_new]
  simp only [List.length_cons, List.length_nil, Nat.zero_add, Nat.reduceAdd, List.cons_append, List.nil_append, dst_z]
  rw [zst_put0 (j := 5) rfl rfl]
  simp only [List.set_cons_succ, List.set_cons_zero]
  rw [zst_new]
  simp only [List.length_cons, List.length_nil, Nat.zero_add, Nat.reduceAdd, List.cons_append, List.nil_append, dst_z]
  rw [zst_put0 (j := 7) rfl rfl]
  simp only [List.set_cons_succ, List.set_cons_zero]
  rw [zst_new]
  simp only [List.length_cons, List.length_nil, Nat.zero_add, Nat.reduceAdd, List.cons_append, List.nil_append, dst_z]
  rw [zst_put0 (j := 8) rfl rfl]
  simp only [List.set_cons_succ, List.set_cons_zero]
  have hb : (zst z a [.inr (.inr (8, [none, some (some (a + 1)), none, some (some (a + 2)), some (some (a + 3)), some (some (a + 4)), none, some (some (a + 5)), some (some (a + 6)), none, none])), .inl (0, 120), .inl (0, 521), .inl (0, 521), .inl (0, 7294), .inl (0, 1042), .inl (2, 2)]).2.1 (a + 2) = some (.inl (0, 521)) := (zst_at (L := [.inr (.inr (8, [none, some (some (a + 1)), none, some (some (a + 2)), some (some (a + 3)), some (some (a + 4)), none, some (some (a + 5)), some (some (a + 6)), none, none])), .inl (0, 120), .inl (0, 521), .inl (0, 521), .inl (0, 7294), .inl (0, 1042), .inl (2, 2)]) (o := 2) (show 2 < 7 from by decide)).trans rfl
  have hr := fun (k : Nat → Option (zT × zD)) => zst_ref (z := z) (a := a) (L := [.inr (.inr (8, [none, some (some (a + 1)), none, some (some (a + 2)), some (some (a + 3)), some (some (a + 4)), none, some (some (a + 5)), some (some (a + 6)), none, none])), .inl (0, 120), .inl (0, 521), .inl (0, 521), .inl (0, 7294), .inl (0, 1042), .inl (2, 2)]) (o := 0) (ci := 8) (j := 3) (v := a + 2) rfl rfl (k := k)
  have hd : dst D a 7 z0F (a + 2) = fun _ => 0 := by unfold dst; rw [if_pos (by omega)]; rfl
  refine (hr _).trans ?_
  rw [zcvX (m_clear hb), hd]
theorem fa : ∀ o, o < 9 → ∀ j, j < 4 → 2 ≤ o → fr o j = clr (ci (o, j)) := by decide +kernel
theorem fb : ∀ o, o < 15 → ∀ j, j < 4 → 10 ≤ o → fr o j = clr (ci (o, j)) := by decide +kernel
theorem fc : ∀ o, o < 19 → ∀ j, j < 3 → 17 ≤ o → fr o j = clr (ci (o, j)) := by decide +kernel
theorem fd : ∀ o, o < 33 → ∀ j, j < 16 → 27 ≤ o → fr o j = clr (ci (o, j)) := by decide +kernel
theorem fe : ∀ j, j < 9 → 5 ≤ j → fr 0 j = clr (ci (0, j)) := by decide +kernel
theorem ff : ∀ j, j < 9 → 6 ≤ j → fr 26 j = clr (ci (26, j)) := by decide +kernel
theorem fr_clr0 {o j : Nat} (h : St o j) : fr o j = clr (ci (o, j)) := by
  unfold St at h
  rcases h with ⟨rfl, h1, h2⟩ | ⟨rfl, rfl⟩ | ⟨h1, h2, h3⟩ | ⟨rfl, rfl⟩ | ⟨h1, h2, h3⟩ | ⟨rfl, rfl⟩ | ⟨h1, h2, h3⟩ | ⟨rfl, h1, h2⟩ | ⟨h1, h2, h3⟩
  · exact fe j h2 h1
  · decide +kernel
  · exact fa o h2 j h3 h1
  · decide +kernel
  · exact fb o h2 j h3 h1
  · decide +kernel
  · exact fc o h2 j h3 h1
  · exact ff j h2 h1
  · exact fd o h2 j h3 h1
theorem RP_new (hF : ∀ o j, o < 33 → F o j = fr o j) : RP F (dev clr) 0 := by
  refine ⟨0, 0, 0, 0, 0, 0, 0, 0, ⟨fun o j h => ?_, ⟨0, ?_, by decide, ?_, by decide, by decide, fun f k _ hk => absurd hk (Nat.not_lt_zero k)⟩, fun h hh => ?_, ?_, ⟨by decide, by decide, by decide, by decide, by decide, by decide, by decide, by decide⟩, fun q hq => absurd hq (Nat.not_lt_zero q), fun q hq => absurd hq (Nat.not_lt_zero q), fun q hq => absurd hq (Nat.not_lt_zero q), ⟨by decide, by decide, by decide, by decide⟩, fun k hk => absurd hk (Nat.not_lt_zero k), fun i hi => ?_, ⟨by decide, by decide, by decide, by decide, by decide⟩, fun q hq => absurd hq (Nat.not_lt_zero q)⟩, Nat.le_refl _⟩
  · have ho : o < 33 ∧ j < 16 := by unfold St at h; omega
    rw [hF o j ho.1]
    exact fr_clr0 h
  · rw [hF 19 6 (by decide)]; decide
  · rw [hF 19 7 (by decide)]; decide
  · rw [hF 15 h (by decide)]
    unfold fr
    rw [if_neg (by omega), if_neg (by omega), if_neg (by omega)]
  · rw [hF 9 7 (by decide)]; decide
  · have : ∀ i, i < 16 → dev clr 30 i = -1 ∧ dev clr 31 i = -1 := by decide +kernel
    exact Or.inl (this i hi)
theorem tgt_f {o : Nat} (h : stt n) (ho : o < 33) : tgt s (n + o) = (shL (s + n))[o]? := by
  obtain ⟨b1, b2, b3, -, -⟩ := stt_b h (show n ≤ n + o by omega) (by omega)
  unfold tgt
  rw [if_neg (by omega), if_neg (by omega), if_neg (by omega), if_neg b3, b1, Nat.add_sub_cancel_left]
theorem dat_f {o j : Nat} (h : stt n) (ho : o < 33) : dat (n + o) j = fr o j := by
  obtain ⟨b1, b2, b3, -, -⟩ := stt_b h (show n ≤ n + o by omega) (by omega)
  unfold dat
  rw [if_neg (by omega), b1, Nat.add_sub_cancel_left]
theorem start {r0 : Nat} (hs : z.1 = s) (hp : z.2.2.2 < s) (hpl : z.2.1 z.2.2.2 = some (.inl (5, 4)) ∧ z.2.2.1 z.2.2.2 0 = 1 ∧ z.2.2.1 z.2.2.2 1 = 100000 ∧ z.2.2.1 z.2.2.2 2 = 10000000000 ∧ z.2.2.1 z.2.2.2 3 = 1000000000000000) : ∃ wf Df, f_LW_law z D r0 = zlp (fun (_ : Nat) (_ : Nat) (_ : Nat) (_ : Int32) (_ : zW) (_ : zD) => none) (S_LW_law_S1 z r0) 513 s (s + 634) (s + 641) 0 wf Df ∧ WL wf s ∧ Inv Df s 12000 ∧ wf.1 (s + 641) = some (.inl (3, 1)) ∧ wf.2.2 = z.2.2.2 ∧ ∀ q, q < s → wf.1 q = z.2.1 q ∧ Df q = D q := by
  have m1 : (zadd z (.inr (.inr (0, [some none, some none, some none, some none, some none, none, none, some none, some none])))).1 = s + 1 := by show z.1 + 1 = _; rw [hs]
  have m3 : (zadd z (.inr (.inr (0, [some none, some none, some none, some none, some none, none, none, some none, some none])))).2.1 s = some (.inr (.inr (0, [some none, some none, some none, some none, some none, none, none, some none, some none]))) := by
    show (if s = z.1 then _ else _) = _
    rw [if_pos hs.symm]
  have m4 : ∀ j, zclr D s s j = 0 := fun j => by unfold zclr; rw [if_pos rfl]
  obtain ⟨z', D', e1, ⟨g1, g2, g3, g4, g5, g6⟩, hA, hB⟩ := made m1 m3 m4
  have old : ∀ q, q < s → z'.2.1 q = z.2.1 q ∧ z'.2.2.1 q = z.2.2.1 q ∧ D' q = D q := fun q hq => by
    obtain ⟨a1, a2, a3⟩ := g5 q hq
    refine ⟨a1.trans ?_, a2.trans ?_, a3.trans ?_⟩
    · show (if q = z.1 then _ else _) = _
      rw [if_neg (by omega)]
    · funext j
      show (if q = z.1 then _ else _) = _
      rw [if_neg (by omega)]
    · funext j; unfold zclr; rw [if_neg (by omega)]
  have b1 : ∀ q, q < s + 634 → (zst z' (s + 634) ([.inr (.inr (8, [none, some (some (s + 634 + 1)), none, some (some (s + 634 + 2)), some (some (s + 634 + 3)), some (some (s + 634 + 4)), none, some (some (s + 634 + 5)), some (some (s + 634 + 6)), none, none])), .inl (0, 120), .inl (0, 521), .inl (0, 521), .inl (0, 7294), .inl (0, 1042), .inl (2, 2)] ++ [.inl (3, 1)])).2.1 q = z'.2.1 q := fun q hq => by
    show (if s + 634 ≤ q ∧ q < s + 634 + 8 then _ else _) = _
    rw [if_neg (by omega)]
  have b2 : ∀ q, q < s + 634 → zset (dst D' (s + 634) 8 z0F) (s + 634 + 2) (cl2 (fun _ => 0) 16) q = D' q := fun q hq => by
    rw [zset_ne (by omega)]; unfold dst; rw [if_neg (by omega)]
  have b3 : ∀ o, o < 8 → o ≠ 2 → ∀ j, zset (dst D' (s + 634) 8 z0F) (s + 634 + 2) (cl2 (fun _ => 0) 16) (s + 634 + o) j = 0 := fun o ho ho2 j => by
    rw [zset_ne (by omega)]; unfold dst; rw [if_pos (by omega)]; rfl
  have c1 : ∀ n o, stt n → o < 33 → z'.2.1 (s + n + o) = (shL (s + n))[o]? ∧ ∀ j, D' (s + n + o) j = fr o j := fun n o hn ho => by
    obtain ⟨q1, q2, q3, q4, q5⟩ := stt_b hn (show n ≤ n + o by omega) (by omega)
    have h634 : n + o < 634 := by
      unfold stt at hn; omega
    obtain ⟨x1, x2⟩ := g2 (n + o) (by omega) h634 q4 q5
    rw [Nat.add_assoc]
    exact ⟨x1.trans (tgt_f hn ho), fun j => (x2 j).trans (dat_f hn ho)⟩
  have cL : ∀ n, stt n → LF (zst z' (s + 634) ([.inr (.inr (8, [none, some (some (s + 634 + 1)), none, some (some (s + 634 + 2)), some (some (s + 634 + 3)), some (some (s + 634 + 4)), none, some (some (s + 634 + 5)), some (some (s + 634 + 6)), none, none])), .inl (0, 120), .inl (0, 521), .inl (0, 521), .inl (0, 7294), .inl (0, 1042), .inl (2, 2)] ++ [.inl (3, 1)])).2 (s + n) := fun n hn o ho => by
    have h634 : n + o < 634 := by unfold stt at hn; omega
    rw [b1 _ (by omega)]; exact (c1 n o hn ho).1
  have s4 : stt 4 := Or.inl rfl
  have s37 : stt 37 := Or.inr (Or.inl rfl)
  have s70 : stt 70 := Or.inr (Or.inr (Or.inl rfl))
  have sr : ∀ i, i < 14 → stt (104 + 33 * i) := fun i hi => Or.inr (Or.inr (Or.inr (Or.inl ⟨i, hi, rfl⟩)))
  have ss : ∀ i, i < 2 → stt (567 + 33 * i) := fun i hi => Or.inr (Or.inr (Or.inr (Or.inr ⟨i, hi, rfl⟩)))
  have zat : ∀ o, o < 8 → (zst z' (s + 634) ([.inr (.inr (8, [none, some (some (s + 634 + 1)), none, some (some (s + 634 + 2)), some (some (s + 634 + 3)), some (some (s + 634 + 4)), none, some (some (s + 634 + 5)), some (some (s + 634 + 6)), none, none])), .inl (0, 120), .inl (0, 521), .inl (0, 521), .inl (0, 7294), .inl (0, 1042), .inl (2, 2)] ++ [.inl (3, 1)])).2.1 (s + 634 + o) = ([.inr (.inr (8, [none, some (some (s + 634 + 1)), none, some (some (s + 634 + 2)), some (some (s + 634 + 3)), some (some (s + 634 + 4)), none, some (some (s + 634 + 5)), some (some (s + 634 + 6)), none, none])), .inl (0, 120), .inl (0, 521), .inl (0, 521), .inl (0, 7294), .inl (0, 1042), .inl (2, 2)] ++ [.inl (3, 1)])[o]? := fun o ho => zst_at ho
  have t0 : (zst z' (s + 634) ([.inr (.inr (8, [none, some (some (s + 634 + 1)), none, some (some (s + 634 + 2)), some (some (s + 634 + 3)), some (some (s + 634 + 4)), none, some (some (s + 634 + 5)), some (some (s + 634 + 6)), none, none])), .inl (0, 120), .inl (0, 521), .inl (0, 521), .inl (0, 7294), .inl (0, 1042), .inl (2, 2)] ++ [.inl (3, 1)])).2.1 (s + 634) = some (.inr (.inr (8, [none, some (some (s + 635)), none, some (some (s + 636)), some (some (s + 637)), some (some (s + 638)), none, some (some (s + 639)), some (some (s + 640)), none, none]))) := by
    have h := zat 0 (by decide)
    rw [show s + 634 + 1 = s + 635 by omega, show s + 634 + 2 = s + 636 by omega, show s + 634 + 3 = s + 637 by omega, show s + 634 + 4 = s + 638 by omega, show s + 634 + 5 = s + 639 by omega, show s + 634 + 6 = s + 640 by omega] at h ⊢
    exact h
  have t1 : (zst z' (s + 634) ([.inr (.inr (8, [none, some (some (s + 634 + 1)), none, some (some (s + 634 + 2)), some (some (s + 634 + 3)), some (some (s + 634 + 4)), none, some (some (s + 634 + 5)), some (some (s + 634 + 6)), none, none])), .inl (0, 120), .inl (0, 521), .inl (0, 521), .inl (0, 7294), .inl (0, 1042), .inl (2, 2)] ++ [.inl (3, 1)])).2.1 (s + 635) = some (.inl (0, 120)) := by
    have h := zat 1 (by decide)
    rw [show s + 634 + 1 = s + 635 from Nat.add_assoc s 634 1] at h
    exact h.trans rfl
  have t2 : (zst z' (s + 634) ([.inr (.inr (8, [none, some (some (s + 634 + 1)), none, some (some (s + 634 + 2)), some (some (s + 634 + 3)), some (some (s + 634 + 4)), none, some (some (s + 634 + 5)), some (some (s + 634 + 6)), none, none])), .inl (0, 120), .inl (0, 521), .inl (0, 521), .inl (0, 7294), .inl (0, 1042), .inl (2, 2)] ++ [.inl (3, 1)])).2.1 (s + 636) = some (.inl (0, 521)) := by
    have h := zat 2 (by decide)
    rw [show s + 634 + 2 = s + 636 from Nat.add_assoc s 634 2] at h
    exact h.trans rfl
  have t3 : (zst z' (s + 634) ([.inr (.inr (8, [none, some (some (s + 634 + 1)), none, some (some (s + 634 + 2)), some (some (s + 634 + 3)), some (some (s + 634 + 4)), none, some (some (s + 634 + 5)), some (some (s + 634 + 6)), none, none])), .inl (0, 120), .inl (0, 521), .inl (0, 521), .inl (0, 7294), .inl (0, 1042), .inl (2, 2)] ++ [.inl (3, 1)])).2.1 (s + 637) = some (.inl (0, 521)) := by
    have h := zat 3 (by decide)
    rw [show s + 634 + 3 = s + 637 from Nat.add_assoc s 634 3] at h
    exact h.trans rfl
  have t4 : (zst z' (s + 634) ([.inr (.inr (8, [none, some (some (s + 634 + 1)), none, some (some (s + 634 + 2)), some (some (s + 634 + 3)), some (some (s + 634 + 4)), none, some (some (s + 634 + 5)), some (some (s + 634 + 6)), none, none])), .inl (0, 120), .inl (0, 521), .inl (0, 521), .inl (0, 7294), .inl (0, 1042), .inl (2, 2)] ++ [.inl (3, 1)])).2.1 (s + 638) = some (.inl (0, 7294)) := by
    have h := zat 4 (by decide)
    rw [show s + 634 + 4 = s + 638 from Nat.add_assoc s 634 4] at h
    exact h.trans rfl
  have t5 : (zst z' (s + 634) ([.inr (.inr (8, [none, some (some (s + 634 + 1)), none, some (some (s + 634 + 2)), some (some (s + 634 + 3)), some (some (s + 634 + 4)), none, some (some (s + 634 + 5)), some (some (s + 634 + 6)), none, none])), .inl (0, 120), .inl (0, 521), .inl (0, 521), .inl (0, 7294), .inl (0, 1042), .inl (2, 2)] ++ [.inl (3, 1)])).2.1 (s + 639) = some (.inl (0, 1042)) := by
    have h := zat 5 (by decide)
    rw [show s + 634 + 5 = s + 639 from Nat.add_assoc s 634 5] at h
    exact h.trans rfl
  have t6 : (zst z' (s + 634) ([.inr (.inr (8, [none, some (some (s + 634 + 1)), none, some (some (s + 634 + 2)), some (some (s + 634 + 3)), some (some (s + 634 + 4)), none, some (some (s + 634 + 5)), some (some (s + 634 + 6)), none, none])), .inl (0, 120), .inl (0, 521), .inl (0, 521), .inl (0, 7294), .inl (0, 1042), .inl (2, 2)] ++ [.inl (3, 1)])).2.1 (s + 640) = some (.inl (2, 2)) := by
    have h := zat 6 (by decide)
    rw [show s + 634 + 6 = s + 640 from Nat.add_assoc s 634 6] at h
    exact h.trans rfl
  have t7 : (zst z' (s + 634) ([.inr (.inr (8, [none, some (some (s + 634 + 1)), none, some (some (s + 634 + 2)), some (some (s + 634 + 3)), some (some (s + 634 + 4)), none, some (some (s + 634 + 5)), some (some (s + 634 + 6)), none, none])), .inl (0, 120), .inl (0, 521), .inl (0, 521), .inl (0, 7294), .inl (0, 1042), .inl (2, 2)] ++ [.inl (3, 1)])).2.1 (s + 641) = some (.inl (3, 1)) := by
    have h := zat 7 (by decide)
    rw [show s + 634 + 7 = s + 641 from Nat.add_assoc s 634 7] at h
    exact h.trans rfl
  have e22 : (zst z' (s + 634) ([.inr (.inr (8, [none, some (some (s + 634 + 1)), none, some (some (s + 634 + 2)), some (some (s + 634 + 3)), some (some (s + 634 + 4)), none, some (some (s + 634 + 5)), some (some (s + 634 + 6)), none, none])), .inl (0, 120), .inl (0, 521), .inl (0, 521), .inl (0, 7294), .inl (0, 1042), .inl (2, 2)] ++ [.inl (3, 1)])).2.2.2 = z.2.2.2 := g6
  have e21 : (zst z' (s + 634) ([.inr (.inr (8, [none, some (some (s + 634 + 1)), none, some (some (s + 634 + 2)), some (some (s + 634 + 3)), some (some (s + 634 + 4)), none, some (some (s + 634 + 5)), some (some (s + 634 + 6)), none, none])), .inl (0, 120), .inl (0, 521), .inl (0, 521), .inl (0, 7294), .inl (0, 1042), .inl (2, 2)] ++ [.inl (3, 1)])).2.2.1 z.2.2.2 = z.2.2.1 z.2.2.2 := by
    funext j
    show (if s + 634 ≤ z.2.2.2 ∧ z.2.2.2 < s + 634 + 8 then _ else _) = _
    rw [if_neg (by omega), (old _ hp).2.1]
  clear zat
  generalize hzf : (zst z' (s + 634) ([.inr (.inr (8, [none, some (some (s + 634 + 1)), none, some (some (s + 634 + 2)), some (some (s + 634 + 3)), some (some (s + 634 + 4)), none, some (some (s + 634 + 5)), some (some (s + 634 + 6)), none, none])), .inl (0, 120), .inl (0, 521), .inl (0, 521), .inl (0, 7294), .inl (0, 1042), .inl (2, 2)] ++ [.inl (3, 1)])) = zf at *
  obtain ⟨φa, hφa, hφa2⟩ := hA
  obtain ⟨φb, hφb, hφb2⟩ := hB
  refine ⟨zf.2, zset (dst D' (s + 634) 8 z0F) (s + 634 + 2) (cl2 (fun _ => 0) 16), ?_, ⟨⟨?_, ?_, ?_, ?_⟩, ⟨cL 4 s4, cL 37 s37, cL 70 s70⟩, ⟨⟨φa, ?_, hφa2⟩, fun i hi => ?_⟩, ⟨⟨φb, ?_, hφb2⟩, fun i hi => ?_, ?_⟩, ⟨t0, t1, t2, t3, t4, t5, t6⟩, ?_⟩, ⟨?_, ?_, ⟨fun j hj => ?_, fun i j hi hj => ?_, fun i j hi hj => ?_⟩, ⟨0, by decide, ?_, ?_, fun i hi => absurd hi (Nat.not_lt_zero i)⟩, ⟨0, 0, by decide, by decide, ?_, ?_, ?_, fun i hi => absurd hi (Nat.not_lt_zero i)⟩, fun i hi => ?_⟩, t7, e22, fun q hq => ⟨(b1 q (by omega)).trans (old q hq).1, (b2 q (by omega)).trans (old q hq).2.2⟩⟩
  · subst hzf
    rw [u_LW_law]
    simp only [↓zjpE]
    have hz : ∀ K : Nat → zT → zD → Option Int32, znew z D (.inr (.inr (0, [some none, some none, some none, some none, some none, none, none, some none, some none])) : zS) K = K s (zadd z (.inr (.inr (0, [some none, some none, some none, some none, some none, none, none, some none, some none])) : zS)) (zclr D s) := fun K => by
      show K z.1 (zadd z _) (zclr D z.1) = _
      rw [hs]
    refine (hz _).trans ?_
    refine (zccX e1).trans ?_
    have hd1 : zclr D' (s + 634 + List.length ([] : List zS)) = dst D' (s + 634) 1 z0F := by
      have := dst_z (D := D') (a := s + 634) (m := 0)
      rw [dst_0] at this
      exact this
    have hn : ∀ k : Nat → zT → zD → Option Int32, znew z' D' (.inr (.inr (8, [none, some none, none, some none, some none, some none, none, some none, some none, none, none]))) k = k (s + 634) (zst z' (s + 634) [.inr (.inr (8, [none, some none, none, some none, some none, some none, none, some none, some none, none, none]))]) (dst D' (s + 634) 1 z0F) := fun k => by
      have h := zst_new (z := z') (a := s + 634) (L := []) (D := dst D' (s + 634) 0 z0F) (e := .inr (.inr (8, [none, some none, none, some none, some none, some none, none, some none, some none, none, none]))) (k := k)
      rw [zst_nil g1, dst_0, hd1] at h
      exact h
    refine (hn _).trans ?_
    refine (zccX mk_MD).trans ?_
    refine zst_new.trans ?_
    have hd8 : zclr (zset (dst D' (s + 634) 7 z0F) (s + 634 + 2) (cl2 (fun _ => 0) 16)) (s + 634 + 7) = zset (dst D' (s + 634) 8 z0F) (s + 634 + 2) (cl2 (fun _ => 0) 16) := by
      rw [← dst_z (m := 7)]
      funext q
      by_cases h1 : q = s + 634 + 2
      · subst h1; funext j; rw [zset_at]; unfold zclr; rw [if_neg (by omega), zset_at]
      · rw [zset_ne h1]; funext j; unfold zclr
        by_cases h2 : q = s + 634 + 7
        · rw [if_pos h2, if_pos h2]
        · rw [if_neg h2, if_neg h2, zset_ne h1]
    simp only [List.length_cons, List.length_nil, Nat.zero_add, Nat.reduceAdd]
    rw [hd8, show s + 634 + 7 = s + 641 from Nat.add_assoc s 634 7]
  · rw [b1 _ (by omega)]; exact g3
  · rw [b1 _ (by omega)]; exact (g2 1 (by decide) (by decide) (by decide) (by decide)).1
  · rw [b1 _ (by omega)]; exact (g2 2 (by decide) (by decide) (by decide) (by decide)).1
  · rw [b1 _ (by omega)]; exact (g2 3 (by decide) (by decide) (by decide) (by decide)).1
  · rw [b1 _ (by omega)]; exact hφa
  · rw [Nat.add_assoc]; exact cL _ (sr i hi)
  · rw [b1 _ (by omega)]; exact hφb
  · rw [Nat.add_assoc]; exact cL _ (ss i hi)
  · rw [b1 _ (by omega)]; exact (g2 633 (by decide) (by decide) (by decide) (by decide)).1
  · rw [e22, e21, b1 _ (by omega), (old _ hp).1]
    exact hpl
  · refine RP_le (RP_congr (RP_new (F := blk D' (s + 4)) (fun o j ho => (c1 4 o s4 ho).2 j)) (fun o j hc => ?_) (fun j hj => ?_) (fun o j hv => ?_)) (Nat.zero_le _)
    · have := Cp_lt hc
      show zset _ _ _ (s + 4 + o) j = D' (s + 4 + o) j
      rw [b2 _ (by omega)]
    · show zset _ _ _ (s + 4 + 15) j = 0
      rw [b2 _ (by omega), (c1 4 15 s4 (by decide)).2 j]
      unfold fr
      rw [if_neg (by omega), if_neg (by omega), if_neg (by omega)]
    · show zset _ (s + 636) _ (s + 636) (ci (o, j)) = clr (ci (o, j))
      rw [zset_at]
      unfold cl2 clr
      rw [if_pos (vp_co hv).1]
  · exact RP_new (fun o j ho => by
      show zset _ _ _ (s + 37 + o) j = _
      rw [b2 _ (by omega)]; exact (c1 37 o s37 ho).2 j)
  · rw [b2 _ (by omega), (c1 70 15 s70 (by decide)).2 j]
    unfold fr
    rw [if_neg (by omega), if_neg (by omega), if_neg (by omega)]
  · rw [b2 _ (by omega), Nat.add_assoc s 104, (c1 _ 15 (sr i hi) (by decide)).2 j]
    unfold fr
    rw [if_neg (by omega), if_neg (by omega), if_neg (by omega)]
  · rw [b2 _ (by omega), Nat.add_assoc s 567, (c1 _ 15 (ss i hi) (by decide)).2 j]
    unfold fr
    rw [if_neg (by omega), if_neg (by omega), if_neg (by omega)]
  · rw [b2 _ (by omega)]; exact (g2 1 (by decide) (by decide) (by decide) (by decide)).2 1
  · exact b3 0 (by decide) (by decide) 2
  · rw [b2 _ (by omega)]; exact g4 5
  · rw [b2 _ (by omega)]; exact g4 6
  · exact b3 0 (by decide) (by decide) 6
  · have x1 : zset (dst D' (s + 634) 8 z0F) (s + 634 + 2) (cl2 (fun _ => 0) 16) (s + 633) i = 0 := by
      rw [b2 _ (by omega)]; exact (g2 633 (by decide) (by decide) (by decide) (by decide)).2 i
    have x2 : zset (dst D' (s + 634) 8 z0F) (s + 634 + 2) (cl2 (fun _ => 0) 16) (s + 640) i = 0 := b3 6 (by decide) (by decide) i
    rw [x1, x2]
    exact ⟨rfl, Or.inl rfl, fun h => absurd h (by decide)⟩
end P76
