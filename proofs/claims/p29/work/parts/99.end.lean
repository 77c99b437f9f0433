-- ===== end of PART A; then your names; then what follows =====
/-! THE CLAIM OUT OF ONE WALK OF THE LAW'S BODY. Your part is whole_start (and what it stands on); all else here is the same for every law, but numbers. -/
def R_law : String := "SirenFairLaw"
def lw_P (b : Addr) (xs : List Int32) (args : Array Value) (s : State) : Prop := args = #[.ref b] ∧ s.IntsAt b xs ∧ xs.length ≤ 260 ∧ (Jvm.Cond.and given_1 narrow_1).before args s = true
def lw_Q (_ : Array Value) (s : State) (o : Outcome) (t : State) : Prop := o = .returned (some (.int 1)) ∧ Framed s o t [] 600086 7301442
def lw_Z (below : List Frame) (a : Array Value) (s : State) : State → Prop := fun t => ∃ o, t.status = .running ∧ Ended t below o ∧ lw_Q a s o t
/-- the law's own end, with 1 on the stack, nothing written that was there before, its room as the claim has it -/
theorem lw_ret {p : Program} {l : Launch} {e : Env} {s : State} {m : MethodId} {below : List Frame} {meth : Method} {c : Code} {b : Nat} (hx : p.tables.exec = Jvm.exec) (hb : c.code = code) (hr : meth.sig.returnType = ret) (hlocks : meth.locks = false) {pc : Nat} {H : Heap} {ls : Array Slot} (hdg : decode code pc = .ok (.ireturn, 1)) : W p l e room_1 s m #[Value.ref b] below meth c H [] 600086 7301442 (lw_Z below #[Value.ref b] s) (F0 m pc ls [.int 1]) := by
  intro T hT X
  obtain ⟨fs, hret, hrun, hended, hW, hframe⟩ := X.leave (v := some (.int 1)) (hlocks := hlocks) (fun h => by rw [hr] at h; cases h)
  have hmeth' : T.vm.method? m = some meth := X.method'
  refine ⟨T.setFrames fs, ?_, .returned (some (.int 1)), hrun, hended, rfl, ⟨_, rfl⟩, hW, hframe⟩
  jvm_step X.here [X.here.top, hx, hb, hdg, hmeth', hr, ret, narrow_b1]
  (try refine ⟨rfl, ?_⟩); (try refine ⟨rfl, ?_⟩)
  first | (intro acts; rw [hret _ acts rfl rfl rfl]) | rw [hret _ _ rfl rfl rfl]
  exact Steps.refl _
/-- what holds at the law's entry: the machine, the code, the tables' words (any of lw_tbl by 'hts w (by decide +kernel)'), the script of L ints xs at the cell b, what the Statement gives of the start (any of its parts by flat_of_before) -/
def lw_At (p : Program) (s : State) (m : MethodId) (meth : Method) (c : Code) (b L : Nat) (xs : Nat → Int32) : Prop :=
  p.tables.exec = Jvm.exec ∧ c.code = code ∧ meth.sig.returnType = ret ∧ c.maxLocals = 10 ∧ s.vm.findClass R_law = some m.cls ∧ (∀ w ∈ lw_tbl, w.before #[Value.ref b] s = true) ∧ va_X b L xs s s.heap ∧ b < s.heap.size ∧ meth.locks = false ∧ (Jvm.Cond.and given_1 narrow_1).before #[Value.ref b] s = true ∧ meth.name = x.name ∧ c.exceptionTable.toList = []
-- ===== YOUR PART BEGINS =====
/-- the law's pure program answers 1 -/
def lw_w (b L : Nat) (w : zW) : Prop := w.1 b = some (.inl (4, L)) ∧ w.1 w.2.2 = some (.inl (5, 4)) ∧ (∀ a e, w.1 a = some e → a = b ∨ a = w.2.2) ∧ w.2.1 w.2.2 0 = 1 ∧ w.2.1 w.2.2 1 = 100000 ∧ w.2.1 w.2.2 2 = 10000000000 ∧ w.2.1 w.2.2 3 = 1000000000000000
theorem w_ac_long : Cond.arrayClass .long ∈ zWd := zin 973 (by decide +kernel) rfl
theorem law_pure (b L : Nat) (z : zT) (D : zD) (hL : L ≤ 260) (hb : b < z.1) (hp : z.2.2.2 < z.1) (hbp : b ≠ z.2.2.2) (hw : lw_w b L z.2) : f_LW_law z D b = some 1 := by
  obtain ⟨w1, w2, w3, p0, p1, p2, p3⟩ := hw
  exact law_ok rfl hb hp w1 hL ⟨w2, p0, p1, p2, p3⟩
def lw_z (sz b L pw : Nat) : zT := (sz, (fun q => if q = b then some (.inl (4, L)) else if q = pw then some (.inl (5, 4)) else none), (fun q j => match j with
  | 0 => 1
  | 1 => 100000
  | 2 => 10000000000
  | _ => 1000000000000000), pw)
theorem lw_z_ok {sz b L pw : Nat} (h : b ≠ pw) : lw_w b L (lw_z sz b L pw).2 := by
  refine ⟨?_, ?_, fun a e he => ?_, rfl, rfl, rfl, rfl⟩
  · simp [lw_z]
  · simp [lw_z, Ne.symm h]
  · simp only [lw_z] at he ⊢
    by_cases h1 : a = b
    · exact Or.inl h1
    · by_cases h2 : a = pw
      · exact Or.inr h2
      · simp [h1, h2] at he
theorem lw_words {args : Array Value} {s : State} (hts : ∀ w ∈ lw_tbl, w.before args s = true) : ∀ w ∈ zWd, ∀ (a' : Array Value) (U : State), s.WarmedH U.vm → w.before a' U = true := by
  intro w hw a' U hU
  obtain ⟨h1, h2⟩ := List.mem_filter.mp hw
  have h := hts w h1
  unfold zgood at h2
  rw [Bool.or_eq_true] at h2
  rcases h2 with h2 | h2
  · exact word_at hU (good_of_word h2) h
  · split at h2
    · exact va_Nw.use rfl (va_Nw.warmM hU (va_Nw.of rfl h))
    · exact va_Nw.use rfl (va_Nw.warmC hU (va_Nw.of rfl h))
    · exact va_Nw.use rfl (va_Nw.warmD hU (va_Nw.of rfl h))
    · have h1 := (Cond.arrayOver_setVmC (args := args) hU.alike _).trans h
      exact h1
    · cases h2
theorem lw_strs {args : Array Value} {s : State} (hts : ∀ w ∈ lw_tbl, w.before args s = true) : ∀ (own : String) (i : Nat) (tx : String), Cond.stringRef own i tx ∈ lw_tbl → ∃ sa, vk_R own i tx sa s := by
  intro own i tx hm
  have h : (Cond.stringRef own i tx).before #[] s = true := hts _ hm
  obtain ⟨cur, hcur⟩ : ∃ cur, s.vm.findClass own = some cur := by
    have h1 := h
    simp only [Cond.before, Cond.holds, Cond.value] at h1
    cases hc : s.vm.findClass own with
    | none => simp [hc] at h1
    | some cur => exact ⟨cur, rfl⟩
  obtain ⟨k, cf, j, a, -, -, -, -, -, he⟩ := Cond.stringRef_spec hcur h
  exact ⟨a, h, he⟩
theorem lw_len {args : Array Value} {s : State} {t : Term} {b : Nat} {cell : Cell} {v : Value} (ht : t.eval args s none [] s = some (.ref b)) (harr : s.arrayAt? b = some cell) (hv : (Term.length t).eval args s none [] s = some v) : cell.slots.size < 2 ^ 31 := by
  simp only [Term.eval, ht, harr, Option.bind_eq_bind, Option.bind_some] at hv
  by_cases hlt : cell.slots.size < 2147483648
  · exact hlt
  · simp [hlt] at hv
theorem lw_arr {args : Array Value} {s : State} {ty : FieldType} (h : (Cond.arrayClass ty).before args s = true) (hp : ∀ C, ty ≠ .object C) : ∃ cA, ArrOfT s cA ty ∧ va_RA s cA ty := by
  obtain ⟨c, k, comp, h1, h2, h3⟩ := Cond.arrayClass_spec h
  refine ⟨c, fun n z => ⟨fun k h => (by cases h), k, h2, comp, h3⟩, ?_⟩
  cases ty <;> first | exact h1 | exact absurd rfl (hp _)
theorem lw_arrF {args : Array Value} {s : State} {C : String} (h : (Cond.arrayOver (.object C)).before args s = true) : ∃ cA, ArrOfT s cA (.object C) ∧ va_RA s cA (.object C) := by
  obtain ⟨comp, c, k, h1, h2, h3, h4, h5⟩ := Cond.arrayOver_spec h
  exact ⟨c, fun n z => ⟨fun k h => (by cases h), k, h3, comp, h4⟩, k, comp, h3, h4, h1, h5⟩
set_option maxHeartbeats 4000000 in
set_option maxRecDepth 100000 in
/-- YOUR PART: from the entry, for every script of at most 260 ints, the law comes to its end with true -/
theorem whole_start {p : Program} {e : Env} {s : State} {m : MethodId} {below : List Frame} {meth : Method} {c : Code} (l : Launch) (hflags : l.flags = flags0) {b L : Nat} {xs : Nat → Int32} (hL : L ≤ 260) (C0 : lw_At p s m meth c b L xs) : W p l e room_1 s m #[Value.ref b] below meth c s.heap [] 0 0 (lw_Z below #[Value.ref b] s) (entryFrame m ([Value.ref b] : List Value).toArray 10) := by
  obtain ⟨hx, hb, hr, hml, hown, hts, hX, hbl, hlocks, hgv, hname, htab⟩ := id C0
  have hfl := flat_of_before _ hgv
  have hbA : ∀ a : Nat, a < s.heap.size → ¬ s.heap.size ≤ a := fun a h => Nat.not_le.mpr h
  -- classes
  have kn : ∀ (C : String) (T : u_T) (n : Nat), (∀ w ∈ u_ws C T n, w ∈ zWd) → Cond.instantiable C n ∈ zWd → ∃ (cC : ClassId) (iS : Nat → Nat), u_Kn s C T n cC iS := fun C T n h1 h2 =>
    u_known (ws := zWd) (fun w hw => hts w (List.mem_filter.mp hw).1) h1 (hts _ (List.mem_filter.mp h2).1)
  obtain ⟨c0, i0, k0⟩ := kn _ _ _ in_SirenFair w_inst_SF
  obtain ⟨c1, i1, k1⟩ := kn _ _ _ in_Ears w_inst_Ears
  obtain ⟨c2, i2, k2⟩ := kn _ _ _ in_FairText w_inst_FairText
  obtain ⟨c3, i3, k3⟩ := kn _ _ _ in_Field w_inst_Field
  obtain ⟨c4, i4, k4⟩ := kn _ _ _ in_Hearers w_inst_Hearers
  obtain ⟨c5, i5, k5⟩ := kn _ _ _ in_Pulses w_inst_Pulses
  obtain ⟨c6, i6, k6⟩ := kn _ _ _ in_Sirens w_inst_Sirens
  obtain ⟨c7, i7, k7⟩ := kn _ _ _ in_Walls w_inst_Walls
  obtain ⟨aI, gI⟩ := lw_arr (hts (.arrayClass .int) (List.mem_filter.mp w_ac_int).1) (fun C h => by cases h)
  obtain ⟨aC, gC⟩ := lw_arr (hts (.arrayClass .char) (List.mem_filter.mp w_ac_char).1) (fun C h => by cases h)
  obtain ⟨aB, gB⟩ := lw_arr (hts (.arrayClass .boolean) (List.mem_filter.mp w_ac_boolean).1) (fun C h => by cases h)
  obtain ⟨aL, gL⟩ := lw_arr (hts (.arrayClass .long) (List.mem_filter.mp w_ac_long).1) (fun C h => by cases h)
  obtain ⟨aF, gF⟩ := lw_arrF (hts _ (List.mem_filter.mp w_over).1)
  -- the powers
  have hPl : (Cond.laysStatic "SirenFair" "POWERS" "[J").before #[Value.ref b] s = true := hts _ (by decide +kernel)
  have hPa : (Cond.arrayOf (.static "SirenFair" "POWERS" "[J") .long).before #[Value.ref b] s = true := hfl _ (by decide +kernel)
  have hPn : (Cond.eq (.length (.static "SirenFair" "POWERS" "[J")) (.int 4)).before #[Value.ref b] s = true := hfl _ (by decide +kernel)
  have hP0 : (Cond.eq (.elem (.static "SirenFair" "POWERS" "[J") (.int 0)) (.long 1)).before #[Value.ref b] s = true := hfl _ (by decide +kernel)
  have hP1 : (Cond.eq (.elem (.static "SirenFair" "POWERS" "[J") (.int 1)) (.long 100000)).before #[Value.ref b] s = true := hfl _ (by decide +kernel)
  have hP2 : (Cond.eq (.elem (.static "SirenFair" "POWERS" "[J") (.int 2)) (.long 10000000000)).before #[Value.ref b] s = true := hfl _ (by decide +kernel)
  have hP3 : (Cond.eq (.elem (.static "SirenFair" "POWERS" "[J") (.int 3)) (.long 1000000000000000)).before #[Value.ref b] s = true := hfl _ (by decide +kernel)
  obtain ⟨v, g1, g2⟩ := Cond.eq_one (show (Cond.eq _ _).holds _ s none s [] = true from hPn)
  obtain ⟨pw, pc9, e1, e2, e3⟩ := Term.length_spec g1
  obtain ⟨f1, f2, f3, -⟩ := State.arrayAt?_spec e2
  obtain ⟨hPt, -⟩ := Cond.arrayOf_spec hPa e1 f1
  have hPz : pc9.slots.size = 4 := by
    cases g2.symm.trans (show (Term.int 4).eval #[Value.ref b] s none [] s = some (.int 4) from rfl)
    have e3 : (4 : Int32) = pc9.slots.size.toInt32 := Value.int.inj e3
    by_cases hsm : pc9.slots.size < 2 ^ 31
    · have := congrArg Int32.toInt e3
      rw [show pc9.slots.size.toInt32 = nI pc9.slots.size from rfl, nI_toInt hsm] at this
      have h4 : (4 : Int32).toInt = 4 := by decide
      rw [h4] at this
      omega
    · exact absurd (lw_len e1 e2 g1) hsm
  have el : ∀ (j : Int32) (x : Int64) (n : Nat), j.toNatClampNeg = n → (Cond.eq (.elem (.static "SirenFair" "POWERS" "[J") (.int j)) (.long x)).before #[Value.ref b] s = true → pc9.slots[n]? = some (.long x) := by
    intro j x n hj h
    obtain ⟨v, g1, g2⟩ := Cond.eq_one (show (Cond.eq _ _).holds _ s none s [] = true from h)
    obtain ⟨a, j', cell, q1, q2, q3, q4, q5⟩ := Term.elem_spec g1
    cases e1.symm.trans q1
    cases e2.symm.trans q3
    cases q2.symm.trans (show (Term.int j).eval #[Value.ref b] s none [] s = some (.int j) from rfl)
    cases g2.symm.trans (show (Term.long x).eval #[Value.ref b] s none [] s = some (.long x) from rfl)
    rw [← hj]; exact q5
  have p0 := el 0 _ 0 rfl hP0
  have p1 := el 1 _ 1 rfl hP1
  have p2 := el 2 _ 2 rfl hP2
  have p3 := el 3 _ 3 rfl hP3
  have hpwl : pw < s.heap.size := (Array.getElem?_eq_some_iff.mp f1).1
  have hZ : va_Z "SirenFair" "POWERS" "[J" (.ref pw) (fun q => s.heap.size ≤ q) s s.heap := va_Zof hPl (hts (.initialized "SirenFair") (List.mem_filter.mp w_ini_SF).1) e1 hbA
  have hU : vx_Zq Bundle.tN "UNASSIGNED_STACK" Bundle.steD (fun q => s.heap.size ≤ q) s s.heap := vx_Zqof (args := #[Value.ref b]) (hts _ (by decide +kernel)) (hts _ (by decide +kernel)) (hfl _ (by decide +kernel)) hbA
  have hV : vx_Zq Bundle.tN "SUPPRESSED_SENTINEL" Bundle.listD (fun q => s.heap.size ≤ q) s s.heap := vx_Zqof (args := #[Value.ref b]) (hts _ (by decide +kernel)) (hts _ (by decide +kernel)) (hfl _ (by decide +kernel)) hbA
  have hNc : ∀ q ∈ zNc, va_Nc q.1 q.2 s := by
    intro q hq
    unfold zNc at hq
    simp only [List.mem_cons, List.not_mem_nil, or_false] at hq
    rcases hq with rfl | rfl | rfl
    · exact va_Nc.of (hfl _ (by decide +kernel))
    · exact va_Nc.of (hfl _ (by decide +kernel))
    · exact va_Nc.of (hfl _ (by decide +kernel))
  obtain ⟨scr, x1, x2, x3, x4, x5⟩ := hX
  have hbp : b ≠ pw := by
    intro h
    subst h
    cases x1.symm.trans f1
    obtain ⟨-, k1, hk1, m1, n1⟩ := x2
    obtain ⟨-, k2, hk2, m2, n2⟩ := hPt
    cases hk1.symm.trans hk2
    cases n1.symm.trans n2
  have ok : zOk (s, ((fun k => match k with
    | 0 => c0
    | 1 => c1
    | 2 => c2
    | 3 => c3
    | 4 => c4
    | 5 => c5
    | 6 => c6
    | _ => c7), (fun k => match k with
    | 0 => i0
    | 1 => i1
    | 2 => i2
    | 3 => i3
    | 4 => i4
    | 5 => i5
    | 6 => i6
    | _ => i7)), (fun k => match k with
    | 0 => aI
    | 1 => aC
    | 2 => aB
    | 3 => aL
    | _ => aF), pw) := by
    refine ⟨⟨fun k q hq => ?_, fun k q hq => ?_⟩, lw_words hts, hU, hV, hZ, lw_strs hts, hNc⟩
    · match k, hq with
      | 0, hq => cases hq; exact k0
      | 1, hq => cases hq; exact k1
      | 2, hq => cases hq; exact k2
      | 3, hq => cases hq; exact k3
      | 4, hq => cases hq; exact k4
      | 5, hq => cases hq; exact k5
      | 6, hq => cases hq; exact k6
      | 7, hq => cases hq; exact k7
      | k + 8, hq => simp [zcl] at hq
    · match k, hq with
      | 0, hq => cases hq; exact gI
      | 1, hq => cases hq; exact gC
      | 2, hq => cases hq; exact gB
      | 3, hq => cases hq; exact gL
      | 4, hq => cases hq; exact gF
      | k + 5, hq => simp [ztys] at hq
  intro T hT X
  have hroom : s.hasRoom e.platform (zrm 13 600086 7301442) = true := by
    have h := X.room
    have r1 : room_1.frames = 14 := rfl
    have r2 : room_1.cells = 600086 := rfl
    have r3 : room_1.slots = 7301442 := rfl
    have r4 : room_1.locals = 574 := rfl
    generalize room_1 = R1 at h r1 r2 r3 r4
    simp only [State.hasRoom, Bool.and_eq_true, decide_eq_true_eq] at h ⊢
    obtain ⟨⟨⟨⟨h1, h2, h3, h4, h5, h6⟩, h7⟩, h8⟩, h9⟩ := h
    exact ⟨⟨⟨⟨by omega, by omega, by omega, by omega, by omega, h6⟩, by rw [← r2]; exact h7⟩, by rw [← r3]; exact h8⟩, h9⟩
  have X2 : Stand p l e (zrm 13 600086 7301442) s m #[Value.ref b] below meth c T [] 0 0 := { X with room := hroom }
  rw [lg_entry_eq]
  have hpure := law_pure b L (lw_z s.heap.size b L pw) (fun _ j => xs j) hL hbl hpwl hbp (lw_z_ok hbp)
  have hG := c_LW_law (s, ((fun k => match k with
    | 0 => c0
    | 1 => c1
    | 2 => c2
    | 3 => c3
    | 4 => c4
    | 5 => c5
    | 6 => c6
    | _ => c7), (fun k => match k with
    | 0 => i0
    | 1 => i1
    | 2 => i2
    | 3 => i3
    | 4 => i4
    | 5 => i5
    | 6 => i6
    | _ => i7)), (fun k => match k with
    | 0 => aI
    | 1 => aC
    | 2 => aB
    | 3 => aL
    | _ => aF), pw) (lw_z s.heap.size b L pw) (fun _ j => xs j) b 1 hpure p l e s m #[Value.ref b] below meth c s.heap [] 0 0 _ ⟨hx, hb, hr, hlocks, hml, hown, State.WarmedH.refl s, ?_, hname, htab, Nat.le_refl _, fun _ _ => rfl, ok⟩ ⟨rfl, Nat.le_refl _, fun _ _ => rfl, rfl, fun a e h => ?_⟩ (fun q h => nomatch h) (lv_entry ([.ref b]) (n := 10) (Nat.le_of_ble_eq_true rfl)) (Nat.le_refl _) (Nat.le_refl _) T hT X2
  · obtain ⟨t, a1, o, b1, b2, b3⟩ := hG
    refine ⟨t, a1, o, b1, b2, ?_⟩
    rcases b3 with ⟨⟨v, z', D', c1, c2, -⟩, Ls, ⟨d1, d2, d3⟩, d4⟩ | ⟨q, c1, E, ce, Ls, ⟨z', D', c2, -⟩, -⟩
    · cases c2
      exact ⟨c1, d1, d2, d3.weaken (fun y hy hlt => absurd hlt (Nat.not_lt.mpr (d4 y hy))) (Nat.le_refl _) (Nat.le_refl _)⟩
    · cases c2
  · show l.stackTraces = false
    unfold Launch.stackTraces
    rw [hflags]
    decide +kernel
  · simp only [lw_z] at h ⊢
    split at h
    · rename_i hq
      subst hq
      cases h
      exact ⟨⟨scr, x1, x2, x3, x4, x5⟩, fun h => absurd h (by show ¬ (4 : Nat) < 4; decide)⟩
    · split at h
      · rename_i hq
        subst hq
        cases h
        refine ⟨⟨pc9, f1, hPt, f2, hPz, fun j hj => ?_⟩, fun h => absurd h (by show ¬ (5 : Nat) < 4; decide)⟩
        match j, hj with
        | 0, _ => exact p0
        | 1, _ => exact p1
        | 2, _ => exact p2
        | 3, _ => exact p3
        | j + 4, hj => exact absurd hj (by omega)
      · cases h
-- ===== YOUR PART ENDS =====
set_option maxHeartbeats 4000000 in
theorem lw_walk (l : Launch) (hflags : l.flags = flags0) (b : Addr) (xs : List Int32) : MetFree l x (headSpec (Jvm.Cond.code x code maxLocals ret :: tables_1) room_1) (lw_P b xs) (fun _ _ _ _ _ => True) lw_Q := by
  refine MetFree.of_bodyS (code := code) (maxLocals := maxLocals) (ret := ret) (by decide) ?_ ?_
  · intro args s m h hn
    obtain ⟨meth, c, h1, h2, h3, h4, h5, h6, -, -⟩ := Cond.code_spec hn (atoms_spec (ws := Jvm.Cond.code x code maxLocals ret :: tables_1) h _ List.mem_cons_self)
    exact ⟨meth, c, h1, h2, h3, h4, h5, h6⟩
  · intro p e s m args below meth c s₁ B hml0 hP _
    obtain ⟨rfl, hx, hbd, hgv⟩ := hP
    obtain ⟨scr, harrAt, hlist, hof, hsmall⟩ := hx
    obtain ⟨hcb, hkn, -, -⟩ := State.arrayAt?_spec harrAt
    have hown : s.vm.findClass R_law = some m.cls := findClass_of_methodNamed B.named
    have hts0 : ∀ c ∈ (Jvm.Cond.code x code maxLocals ret :: tables_1), c.before #[Value.ref b] s = true := atoms_spec (ws := Jvm.Cond.code x code maxLocals ret :: tables_1) B.pre
    have hts : ∀ w ∈ lw_tbl, w.before #[Value.ref b] s = true := k2_hts_sels lw_privs (fun w hw => hts0 w (List.mem_cons_of_mem _ hw)) lw_privs_ok
    have hml : c.maxLocals = 10 := B.maxLocals_eq (hts0 _ List.mem_cons_self)
    have htab : c.exceptionTable.toList = [] := by
      obtain ⟨meth9, c9, h1, h2, -, -, -, -, h7, -⟩ := Cond.code_spec B.named (hts0 _ List.mem_cons_self)
      cases Option.some.inj (h1.symm.trans B.method)
      cases Option.some.inj (h2.symm.trans (Stand.of_body B).code)
      rw [Array.isEmpty_iff.mp h7]
    have X₀ : Stand p l e room_1 s m #[Value.ref b] below meth c s₁ [] 0 0 := Stand.of_body B
    have hh0 : s₁.heap = s.heap := by rw [B.state]; rfl
    have hsz : scr.slots.size = xs.length := by rw [← Array.length_toList, hlist, List.length_map]
    have hval : ∀ j : Nat, j < xs.length → scr.slots[j]? = some (.int (xs.getD j 0)) := fun j hj => by
      rw [← Array.getElem?_toList, hlist]
      simp [hj]
    have hbl : b < s.heap.size := (Array.getElem?_eq_some_iff.mp hcb).1
    have hX : va_X b xs.length (fun j => xs.getD j 0) s s.heap := ⟨scr, hcb, hof, hkn, hsz, hval⟩
    have K : W p l e room_1 s m #[Value.ref b] below meth c s₁.heap [] 0 0 (lw_Z below #[Value.ref b] s) (entryFrame m ([Value.ref b] : List Value).toArray 10) := by
      rw [hh0]
      exact whole_start l hflags hbd ⟨B.exec, B.bytes, B.returns, hml, hown, hts, hX, hbl, B.notSynchronized, hgv, (name_of_methodNamed B.named B.method).1, htab⟩
    obtain ⟨t, a1, o, b1, b2, b3⟩ := K s₁ rfl X₀
    exact ⟨t, o, a1, b1, b2, b3⟩
theorem lw_pre_spec {args : Array Value} {s : State} (h : (Jvm.Cond.and given_1 narrow_1).before args s = true) (hr : rest_1_c.before args s = true) : ∃ (b : Addr) (xs : List Int32), lw_P b xs args s := by
  have hs := flat_of_before _ h
  have hq := flat_of_before _ hr
  have hc : (Cond.count 1).before args s = true := hs _ (by decide +kernel)
  have harr : (Cond.arrayOf (.arg 0) .int).before args s = true := hs _ (by decide +kernel)
  have hle : (Cond.le (.length (.arg 0)) (.int 260)).before args s = true := hs _ (by decide +kernel)
  have hlen : (Cond.isInt (.length (.arg 0))).before args s = true := hq _ (by decide +kernel)
  have hall : (Cond.all (.arg 0) (.isInt (.elem (.arg 0) (.index 0)))).before args s = true := hq _ (by decide +kernel)
  obtain ⟨b, xs, hb, hx⟩ := State.ints_of_pre rfl harr hlen hall
  have hsm : xs.length < 2 ^ 31 := hx.choose_spec.2.2.2
  have hev : (Term.length (.arg 0)).eval args s none [] s = some (.int xs.length.toInt32) := hx.length_eval hb
  have hv := Cond.le_ints hev (show (Term.int 260).eval args s none [] s = some (.int 260) from rfl)
  have hd : xs.length.toInt32 ≤ 260 := by
    simpa [Cond.before, Cond.holds, hv] using hle
  have hN : xs.length ≤ 260 := (Int32.ofNat_le_ofNat hsm (by decide)).mp (show Int32.ofNat xs.length ≤ Int32.ofNat 260 from hd)
  exact ⟨b, xs, Cond.one_arg hc (show args[0]? = some (.ref b) from hb), hx, hN, h⟩
theorem lw_comes (l : Launch) (hflags : l.flags = flags0) : Comes l x (Jvm.Cond.code x code maxLocals ret :: tables_1) room_1 (fun tb e args s => Calls_1 tb e args s ∧ rest_1 tb e args s ∧ Pre_1 tb e args s)
    (fun _ _ args s o t => lw_Q args s o t) := by
  intro p e ha hc hk s m args below hf hfit hheap happ hpre
  obtain ⟨b, xs, hP⟩ := lw_pre_spec hpre.2.2 hpre.2.1
  obtain ⟨k, o, h1, h2, h3, hQ⟩ := lw_walk l hflags b xs p e ha hc hk s m args below hf ((Spec.applies_iff_loose hf).mp happ).1 hP trivial
  exact ⟨k, o, h1, h2, h3, hQ⟩
theorem lw_frame {s t : State} {o : Outcome} {args : Array Value} (h : Framed s o t [] 600086 7301442) :
    Framed s o t (fieldLocs frame_1_writes args s ++ arrayLocs frame_1_arrays args s ++ staticLocs frame_1_statics s) 600086 7301442 := h
theorem lw_limb (L : Cond) (hL : ∀ (args : Array Value) (s t : State), L.after args s (.returned (some (.int 1))) t = true) :
    ArmFor flags0 classFile x code maxLocals ret World_1 tables_1 room_1 Calls_1 rest_1 Pre_1
      (fun tb e a s o t => postC L tb e a s o t ∧ Framed s o t (fieldLocs frame_1_writes a s ++ arrayLocs frame_1_arrays a s ++ staticLocs frame_1_statics s) 600086 7301442) := by
  intro l hflags _ _ p e ha hc hk s m args below hf hfit hheap happ hpre
  obtain ⟨k, o, h1, h2, h3, rfl, hF⟩ := lw_comes l hflags p e ha hc hk s m args below hf hfit hheap happ hpre
  exact ⟨k, _, h1, h2, h3, hL args s _, lw_frame hF⟩
theorem i_vc : Claimed_1_1 ∧ Claimed_1_2 := ⟨lw_limb limb_1_1 (fun args s t => by simp [limb_1_1, Cond.after, Cond.holds, Cond.value]), lw_limb limb_1_2 (fun args s t => Cond.after_iff.mpr (by
  first | (rw [show limb_1_2 = Cond.eq .result (.int 1) from rfl, Cond.eq_ints (x := 1) (y := 1) rfl rfl]; simp; done) | (simp [limb_1_2, Cond.value, Term.eval]; done)))⟩
