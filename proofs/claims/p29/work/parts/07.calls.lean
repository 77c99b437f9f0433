/-- vx_ofW for any method that no native takes the place of (after vx_ofW of the pasted rows) -/
theorem zx_ofW {l : Launch} {y : MethodName} {ws ws' : List Cond} {rm : Room} {Pc : Array Value → State → Prop} {Qc : Array Value → State → Outcome → State → Prop} {XC : String → State → State → Prop} {mc ms : Nat} {free : Addr → Prop} {cc : ByteArray} {maxL : Nat} {ret : Option FieldType}
    (hy : plainFor y = true) (hw : ws = Cond.code y cc maxL ret :: ws')
    (body : ∀ p e s m args below meth c s₁, BodyLoose p l y (headSpec ws rm) cc maxL ret e s m args below meth c s₁ → c.maxLocals = maxL → (∀ x ∈ c.exceptionTable.toList, False) → Pc args s →
      W p l e (headSpec ws rm).room s m args below meth c s.heap [] 0 0 (vx_MQ below Qc XC args s mc ms free) (entryFrame m args maxL)) : vx_Met l y ws rm Pc Qc XC mc ms free := by
  refine MetFree.of_bodySF (code := cc) (maxLocals := maxL) (ret := ret) hy ?_ ?_
  · intro args s m h hn
    obtain ⟨meth, c, h1, h2, h3, h4, h5, h6, -, -⟩ := Cond.code_spec hn (atoms_spec (ws := ws) h _ (by rw [hw]; exact List.mem_cons_self))
    exact ⟨meth, c, h1, h2, h3, h4, h5, h6⟩
  · intro p e s m args below meth c s₁ B hml hP _
    have hh0 : s₁.heap = s.heap := by rw [B.state]; rfl
    have ht : ∀ x ∈ c.exceptionTable.toList, False := by
      obtain ⟨meth9, c9, h1, h2, -, -, -, -, h7, -⟩ := Cond.code_spec B.named (atoms_spec (ws := ws) B.pre _ (by rw [hw]; exact List.mem_cons_self))
      cases Option.some.inj (h1.symm.trans B.method)
      cases Option.some.inj (h2.symm.trans (Stand.of_body B).code)
      intro x hx
      rw [Array.isEmpty_iff.mp h7] at hx
      cases hx
    obtain ⟨t, a1, o, b1, b2, b3⟩ := body p e s m args below meth c s₁ B hml ht hP s₁ hh0 (Stand.of_body B)
    exact ⟨t, o, a1, b1, b2, b3⟩
/-- from a body's walk to its contract -/
theorem zM_of {β : Type} {Y : zY} {N mc ms : Nat} {q : β → zO → zT → zD → Prop} {res : Option β} {vs : List Value} {z : zT} {D : zD} (hy : plainFor Y.1 = true) (hh : Y.2.2.2.2 = []) (hlen : (lg_sl vs).length ≤ Y.2.2.1) (ht : ∀ r E z' D', ¬ q r (.inr E) z' D')
    (hG : ∀ K, zGO K Y N mc ms q res mc ms z D 0 (lv_args 0 vs) []) : zM Y N mc ms q res vs z D := by
  intro K l ok hst r hr
  have hX : vx_Met l Y.1 [Cond.code Y.1 Y.2.1 Y.2.2.1 Y.2.2.2.1] (zrm N mc ms) (zPc K vs z D) (zQc K (q r)) (zXC K (q r)) mc ms (zfree K) := by
    refine zx_ofW (cc := Y.2.1) (maxL := Y.2.2.1) (ret := Y.2.2.2.1) (ws' := []) hy rfl ?_
    intro p e s m args below meth c s₁ B hml hx ⟨ha, hW, hH⟩
    subst ha
    rw [lg_entry_eq]
    refine hG K r hr p l e s m vs.toArray below meth c s.heap [] 0 0 _ ⟨B.exec, B.bytes, B.returns, B.notSynchronized, hml, findClass_of_methodNamed B.named, hW, hst, (name_of_methodNamed B.named B.method).1, ?_, hH.2.1, hH.2.2.1, ok⟩ hH (fun q h => nomatch h) (lv_entry vs hlen) (by omega) (by omega)
    rw [hh]
    exact List.eq_nil_iff_forall_not_mem.mpr (fun x h => hx x h)
  intro p e h1 h2 h3 s m args below h4 h5 h6 h7
  obtain ⟨n, o, a1, a2, a3, a4⟩ := hX p e h1 h2 h3 s m args below h4 h5 h6 h7
  refine ⟨n, o, a1, a2, a3, ?_⟩
  rcases a4 with a4 | ⟨x, ho, E, ce, L, ⟨z', D', hq, -⟩, -⟩
  · exact a4
  · exact absurd hq (ht _ _ _ _)
/-- the same for a method that may throw -/
theorem zMX_of {β : Type} {Y : zY} {N mc ms : Nat} {q : β → zO → zT → zD → Prop} {res : Option β} {vs : List Value} {z : zT} {D : zD} (hy : plainFor Y.1 = true) (hh : Y.2.2.2.2 = []) (hlen : (lg_sl vs).length ≤ Y.2.2.1)
    (hG : ∀ K, zGO K Y N mc ms q res mc ms z D 0 (lv_args 0 vs) []) : zMX Y N mc ms q res vs z D := by
  intro K l ok hst r hr
  refine zx_ofW (cc := Y.2.1) (maxL := Y.2.2.1) (ret := Y.2.2.2.1) (ws' := []) hy rfl ?_
  intro p e s m args below meth c s₁ B hml hx ⟨ha, hW, hH⟩
  subst ha
  rw [lg_entry_eq]
  refine hG K r hr p l e s m vs.toArray below meth c s.heap [] 0 0 _ ⟨B.exec, B.bytes, B.returns, B.notSynchronized, hml, findClass_of_methodNamed B.named, hW, hst, (name_of_methodNamed B.named B.method).1, ?_, hH.2.1, hH.2.2.1, ok⟩ hH (fun q h => nomatch h) (lv_entry vs hlen) (by omega) (by omega)
  rw [hh]
  exact List.eq_nil_iff_forall_not_mem.mpr (fun x h => hx x h)
/-- what a call's link needs: the callee's words -/
def zlk (Y2 : zY) (n : Nat) : Prop := Cond.code Y2.1 Y2.2.1 Y2.2.2.1 Y2.2.2.2.1 ∈ zWd ∧ Cond.initialized Y2.1.cls ∈ zWd ∧ (Y2.1.cls ≠ "java/lang/invoke/MethodHandle" ∧ Y2.1.cls ≠ "java/lang/invoke/VarHandle") ∧ (parseMethodDescriptor Y2.1.desc).map (fun d => d.parameters.length) = some n ∧ Y2.2.2.1 ≤ 21
def zlkV (own : String) (idx : Nat) (Y2 : zY) (n : Nat) : Prop := zlk Y2 n ∧ Cond.methodLink own idx Y2.1 ∈ zWd ∧ Cond.instanceMethod Y2.1 ∈ zWd ∧ Cond.selects Y2.1.cls Y2.1 Y2.1 ∈ zWd
def zlkS (own : String) (idx : Nat) (Y2 : zY) (n : Nat) : Prop := zlk Y2 n ∧ Cond.methodLink own idx Y2.1 ∈ zWd ∧ Cond.static Y2.1 ∈ zWd
def zlkI (own : String) (idx : Nat) (Y2 : zY) (n : Nat) : Prop := zlk Y2 n ∧ Cond.methodLink own idx Y2.1 ∈ zWd ∧ Cond.instanceMethod Y2.1 ∈ zWd ∧ Y2.1.name = "<init>" ∧ Y2.2.2.2.1 = none
def zlkSN (own : String) (idx : Nat) (Y2 : zY) (host : String) (n : Nat) : Prop := zlk Y2 n ∧ Cond.methodLinkNest own idx Y2.1 host ∈ zWd ∧ Cond.static Y2.1 ∈ zWd
def zlkIN (own : String) (idx : Nat) (Y2 : zY) (host : String) (n : Nat) : Prop := zlk Y2 n ∧ Cond.methodLinkNest own idx Y2.1 host ∈ zWd ∧ Cond.instanceMethod Y2.1 ∈ zWd ∧ Y2.1.name = "<init>" ∧ Y2.2.2.2.1 = none
section ZC
variable {K : zK} {Y Y2 : zY} {p : Program} {l : Launch} {e : Env} {s : State} {m : MethodId} {args : Array Value} {below : List Frame} {meth : Method} {c : Code} {H : Heap} {locs : List Loc} {cells slots : Nat} {N mc ms N2 mc2 ms2 idx n : Nat} {β2 : Type} {q2 : β2 → zO → zT → zD → Prop} {res2 : Option β2} {As : List Value} {b : Nat} {z : zT} {D : zD} {pc : Nat} {ls : Array Slot} {st0 st : List Value}
theorem zc_cb (C : zCx K Y p l s m meth c) (hl : zlk Y2 n) (hm : Cond.methodLink Y.1.cls idx Y2.1 ∈ zWd) (hN : N2 + 1 ≤ N) : CallB (zrm N mc ms) s args Y.1.cls idx Y2.1 Y2.2.1 Y2.2.2.1 Y2.2.2.2.1 [Cond.code Y2.1 Y2.2.1 Y2.2.2.1 Y2.2.2.2.1] (zrm N2 mc2 ms2) mc2 ms2 n := by
  obtain ⟨h1, h2, h3, h4, h5⟩ := hl
  refine ⟨rfl, rfl, hN, ?_, fun w hw a' U hU => ?_, List.mem_cons_self, zc_word C h1 args, zc_word C h2 args, h3, fun sig h => ?_, zc_word C hm args⟩
  · show 8 + (Y2.2.2.1 + 11) + 40 * N2 ≤ 40 * N
    omega
  · rw [List.mem_singleton.mp hw]
    exact zc_wordU C h1 a' hU
  · rw [h] at h4
    exact (Option.some.inj h4).symm
theorem zc_cn (C : zCx K Y p l s m meth c) {host : String} (hl : zlk Y2 n) (hm : Cond.methodLinkNest Y.1.cls idx Y2.1 host ∈ zWd) (hN : N2 + 1 ≤ N) : va_CN (zrm N mc ms) s args Y.1.cls idx Y2.1 host Y2.2.1 Y2.2.2.1 Y2.2.2.2.1 [Cond.code Y2.1 Y2.2.1 Y2.2.2.1 Y2.2.2.2.1] (zrm N2 mc2 ms2) mc2 ms2 n := by
  obtain ⟨h1, h2, h3, h4, h5⟩ := hl
  refine ⟨⟨rfl, rfl, hN, ?_, fun w hw a' U hU => ?_, List.mem_cons_self⟩, zc_word C h1 args, zc_word C h2 args, h3, fun sig h => ?_, zc_word C hm args⟩
  · show 8 + (Y2.2.2.1 + 11) + 40 * N2 ≤ 40 * N
    omega
  · rw [List.mem_singleton.mp hw]
    exact zc_wordU C h1 a' hU
  · rw [h] at h4
    exact (Option.some.inj h4).symm
theorem zPc_blind {vs : List Value} : FrameBlind (zPc K vs z D) := fun _ _ _ _ h => h
theorem zPc_at (C : zCx K Y p l s m meth c) (hH : zH K z D H) {vs : List Value} : ∀ U : State, U.heap = H → s.WarmedH U.vm → zPc K vs z D vs.toArray U := fun U hU hW => ⟨rfl, State.WarmedH.trans (zc_warm C) hW, by rw [hU]; exact hH⟩
theorem z_recv (C : zCx K Y p l s m meth c) (hH : zH K z D H) {ci nn : Nat} {T : u_T} {fs : List (Option (Option Nat))} {C0 : String} (hc : zcl[ci]? = some (C0, T, nn)) (hx : z.2.1 b = some (.inr (.inr (ci, fs)))) : ∃ cellB : Cell, H[b]? = some cellB ∧ cellB.vm.isStatics = false ∧ s.vm.findClass C0 = some cellB.cls := by
  obtain ⟨⟨r', hr', cell, q1, q2, q3, q4⟩, -⟩ := hH.2.2.2.2 b _ hx
  cases hr'.symm.trans hc
  obtain ⟨hS, hfc, -⟩ := (zc_K C).1 _ _ hc
  exact ⟨cell, q1, by rw [q3]; rfl, by rw [q2]; exact hfc⟩
theorem zc_fix (C : zCx K Y p l s m meth c) : CallFix p m c Y.2.1 Y.2.2.1 s args zWd Y.1.cls := ⟨C.1, C.2.1, zc_ml C, zc_own C, fun w hw => zc_word C hw args⟩
/-- behind a call's run: the walk goes on with what the callee left -/
theorem z_back {Q : State → Prop} {r2 : β2} {a2 : Array Value} (hL : ∀ q ∈ locs, K.1.heap.size ≤ q.base) (hr : va_Run p l e (zrm N mc ms) s m args below meth c H locs cells slots mc2 ms2 (F0 m pc ls st0) st (zQc K (q2 r2) a2) (zfree K))
    (kk : ∀ (v : Option Value) (z' : zT) (D' : zD) (H1 : Heap) (locs1 : List Loc), q2 r2 (.inl v) z' D' → zH K z' D' H1 → (∀ q ∈ locs1, K.1.heap.size ≤ q.base) → W p l e (zrm N mc ms) s m args below meth c H1 locs1 (cells + mc2) (slots + ms2) Q (F0 m (pc + 3) ls (v.toList ++ st))) : W p l e (zrm N mc ms) s m args below meth c H locs cells slots Q (F0 m pc ls st0) := by
  intro T hT X
  obtain ⟨v, s0, t, T', L, h0, X', hL', e1, e2, ⟨v', z', D', hv, hq, hH'⟩, go⟩ := hr T hT X
  cases hv
  obtain ⟨t2, a1, b1⟩ := kk v z' D' T'.heap (locs ++ L) hq (by rw [e1]; exact hH') (fun q hq => by
    rcases List.mem_append.mp hq with h | h
    · exact hL q h
    · exact hL' q h) T' rfl X'
  exact ⟨t2, go t2 a1, b1⟩
end ZC
section ZD
variable {β : Type} {K : zK} {Y Y2 : zY} {N mc ms N2 mc2 ms2 idx n : Nat} {q : β → zO → zT → zD → Prop} {res : Option β} {kc ks : Nat} {z : zT} {D : zD} {pc : Nat} {lv : List (Nat × Value)} {st st0 : List Value}
/-- a call of an instance method that answers an int -/
theorem z_callVi {ci nn b : Nat} {T : u_T} {res2 : Option (Int32 × zD)} {k : Int32 → zD → Option β} (As : List Value) (hk : zlkV Y.1.cls idx Y2 n) (hc : zcl[ci]? = some (Y2.1.cls, T, nn)) (hM : zM Y2 N2 0 0 (zqI z) res2 (.ref b :: As) z D) (hN : N2 + 1 ≤ N) (hn : As.length = n) (hst : st0 = As.reverse ++ .ref b :: st) (hW : (st.map fun v => v.category).sum ≤ 8)
    (hdg : decode Y.2.1 pc = .ok (.invokevirtual idx, 3)) (kk : ∀ v D', zGO K Y N mc ms q (k v D') kc ks z D' (pc + 3) lv (.int v :: st)) : zGO K Y N mc ms q (zobj z.2 ci b (zci res2 k)) kc ks z D pc lv st0 := by
  intro r hr p l e s m args below meth c H locs cells slots ls C hH hL hv h1 h2
  unfold zobj at hr
  split at hr
  · rename_i x hx
    split at hr
    · rename_i hci
      obtain ⟨ci', fs⟩ := x
      cases hci
      unfold zci at hr
      split at hr
      · rename_i r2
        refine z_back hL (va_runV (zc_fix C) (hM K l (zc_ok C) (zc_st C) r2 rfl) ⟨zc_cb C hk.1 hk.2.1 hN, zc_word C hk.2.2.1 args, zc_word C hk.2.2.2 args⟩ ⟨zPc_blind, z_recv C hH hc hx, zPc_at C hH⟩ rfl hn hv.1 hst (lv_room hW) hdg ⟨by show _ ≤ mc; omega, by show _ ≤ ms; omega⟩) ?_
        intro v z' D' H1 locs1 hq hH1 hL1
        obtain ⟨e1, e2, e3⟩ := hq
        cases e1; subst e2; subst e3
        exact kk _ _ r hr p l e s m args below meth c H1 locs1 _ _ ls C hH1 hL1 hv h1 h2
      · cases hr
    · cases hr
  · cases hr
theorem z_callVv {ci nn b : Nat} {T : u_T} {res2 : Option zD} {k : zD → Option β} (As : List Value) (hk : zlkV Y.1.cls idx Y2 n) (hc : zcl[ci]? = some (Y2.1.cls, T, nn)) (hM : zM Y2 N2 0 0 (zqV z) res2 (.ref b :: As) z D) (hN : N2 + 1 ≤ N) (hn : As.length = n) (hst : st0 = As.reverse ++ .ref b :: st) (hW : (st.map fun v => v.category).sum ≤ 8)
    (hdg : decode Y.2.1 pc = .ok (.invokevirtual idx, 3)) (kk : ∀ D', zGO K Y N mc ms q (k D') kc ks z D' (pc + 3) lv st) : zGO K Y N mc ms q (zobj z.2 ci b (zcv res2 k)) kc ks z D pc lv st0 := by
  intro r hr p l e s m args below meth c H locs cells slots ls C hH hL hv h1 h2
  unfold zobj at hr
  split at hr
  · rename_i x hx
    split at hr
    · rename_i hci
      obtain ⟨ci', fs⟩ := x
      cases hci
      unfold zcv at hr
      split at hr
      · rename_i r2
        refine z_back hL (va_runV (zc_fix C) (hM K l (zc_ok C) (zc_st C) r2 rfl) ⟨zc_cb C hk.1 hk.2.1 hN, zc_word C hk.2.2.1 args, zc_word C hk.2.2.2 args⟩ ⟨zPc_blind, z_recv C hH hc hx, zPc_at C hH⟩ rfl hn hv.1 hst (lv_room hW) hdg ⟨by show _ ≤ mc; omega, by show _ ≤ ms; omega⟩) ?_
        intro v z' D' H1 locs1 hq hH1 hL1
        obtain ⟨e1, e2, e3⟩ := hq
        cases e1; subst e2; subst e3
        exact kk _ r hr p l e s m args below meth c H1 locs1 _ _ ls C hH1 hL1 hv h1 h2
      · cases hr
    · cases hr
  · cases hr
theorem z_callSi {res2 : Option (Int32 × zD)} {k : Int32 → zD → Option β} (As : List Value) (hk : zlkS Y.1.cls idx Y2 n) (hM : zM Y2 N2 0 0 (zqI z) res2 As z D) (hN : N2 + 1 ≤ N) (hn : As.length = n) (hst : st0 = As.reverse ++ st) (hW : (st.map fun v => v.category).sum ≤ 8)
    (hdg : decode Y.2.1 pc = .ok (.invokestatic idx, 3)) (kk : ∀ v D', zGO K Y N mc ms q (k v D') kc ks z D' (pc + 3) lv (.int v :: st)) : zGO K Y N mc ms q (zci res2 k) kc ks z D pc lv st0 := by
  intro r hr p l e s m args below meth c H locs cells slots ls C hH hL hv h1 h2
  unfold zci at hr
  split at hr
  · rename_i r2
    refine z_back hL (va_runS (zc_fix C) (hM K l (zc_ok C) (zc_st C) r2 rfl) ⟨zc_cb C hk.1 hk.2.1 hN, zc_word C hk.2.2 args⟩ ⟨zPc_blind, zPc_at C hH⟩ rfl hn hv.1 hst (lv_room hW) hdg ⟨by show _ ≤ mc; omega, by show _ ≤ ms; omega⟩) ?_
    intro v z' D' H1 locs1 hq hH1 hL1
    obtain ⟨e1, e2, e3⟩ := hq
    cases e1; subst e2; subst e3
    exact kk _ _ r hr p l e s m args below meth c H1 locs1 _ _ ls C hH1 hL1 hv h1 h2
  · cases hr
theorem z_callSv {res2 : Option zD} {k : zD → Option β} (As : List Value) (hk : zlkS Y.1.cls idx Y2 n) (hM : zM Y2 N2 0 0 (zqV z) res2 As z D) (hN : N2 + 1 ≤ N) (hn : As.length = n) (hst : st0 = As.reverse ++ st) (hW : (st.map fun v => v.category).sum ≤ 8)
    (hdg : decode Y.2.1 pc = .ok (.invokestatic idx, 3)) (kk : ∀ D', zGO K Y N mc ms q (k D') kc ks z D' (pc + 3) lv st) : zGO K Y N mc ms q (zcv res2 k) kc ks z D pc lv st0 := by
  intro r hr p l e s m args below meth c H locs cells slots ls C hH hL hv h1 h2
  unfold zcv at hr
  split at hr
  · rename_i r2
    refine z_back hL (va_runS (zc_fix C) (hM K l (zc_ok C) (zc_st C) r2 rfl) ⟨zc_cb C hk.1 hk.2.1 hN, zc_word C hk.2.2 args⟩ ⟨zPc_blind, zPc_at C hH⟩ rfl hn hv.1 hst (lv_room hW) hdg ⟨by show _ ≤ mc; omega, by show _ ≤ ms; omega⟩) ?_
    intro v z' D' H1 locs1 hq hH1 hL1
    obtain ⟨e1, e2, e3⟩ := hq
    cases e1; subst e2; subst e3
    exact kk _ r hr p l e s m args below meth c H1 locs1 _ _ ls C hH1 hL1 hv h1 h2
  · cases hr
theorem z_callSNi {host : String} {res2 : Option (Int32 × zD)} {k : Int32 → zD → Option β} (As : List Value) (hk : zlkSN Y.1.cls idx Y2 host n) (hM : zM Y2 N2 0 0 (zqI z) res2 As z D) (hN : N2 + 1 ≤ N) (hn : As.length = n) (hst : st0 = As.reverse ++ st) (hW : (st.map fun v => v.category).sum ≤ 8)
    (hdg : decode Y.2.1 pc = .ok (.invokestatic idx, 3)) (kk : ∀ v D', zGO K Y N mc ms q (k v D') kc ks z D' (pc + 3) lv (.int v :: st)) : zGO K Y N mc ms q (zci res2 k) kc ks z D pc lv st0 := by
  intro r hr p l e s m args below meth c H locs cells slots ls C hH hL hv h1 h2
  unfold zci at hr
  split at hr
  · rename_i r2
    refine z_back hL (va_runSN (zc_fix C) (hM K l (zc_ok C) (zc_st C) r2 rfl) ⟨zc_cn C hk.1 hk.2.1 hN, zc_word C hk.2.2 args, trivial⟩ ⟨zPc_blind, zPc_at C hH⟩ rfl hn hv.1 hst (lv_room hW) hdg ⟨by show _ ≤ mc; omega, by show _ ≤ ms; omega⟩) ?_
    intro v z' D' H1 locs1 hq hH1 hL1
    obtain ⟨e1, e2, e3⟩ := hq
    cases e1; subst e2; subst e3
    exact kk _ _ r hr p l e s m args below meth c H1 locs1 _ _ ls C hH1 hL1 hv h1 h2
  · cases hr
/-- constructors: they make cells -/
theorem z_callIc {kc2 ks2 b : Nat} {res2 : Option (zT × zD)} {k : zT → zD → Option β} (As : List Value) (hk : zlkI Y.1.cls idx Y2 n) (hM : zM Y2 N2 mc2 ms2 zqC res2 (.ref b :: As) z D) (hN : N2 + 1 ≤ N) (hkc : mc2 + kc2 ≤ kc) (hks : ms2 + ks2 ≤ ks) (hn : As.length = n) (hst : st0 = As.reverse ++ .ref b :: st) (hW : (st.map fun v => v.category).sum ≤ 8)
    (hdg : decode Y.2.1 pc = .ok (.invokespecial idx, 3)) (kk : ∀ z' D', zGO K Y N mc ms q (k z' D') kc2 ks2 z' D' (pc + 3) lv st) : zGO K Y N mc ms q (zcc res2 k) kc ks z D pc lv st0 := by
  intro r hr p l e s m args below meth c H locs cells slots ls C hH hL hv h1 h2
  unfold zcc at hr
  split at hr
  · rename_i r2
    have hret := hk.2.2.2.2
    refine z_back hL (va_runI (maxL := Y2.2.2.1) (bytes := Y2.2.1) (zc_fix C) (hM K l (zc_ok C) (zc_st C) r2 rfl) ⟨by have h := zc_cb (mc := mc) (ms := ms) (mc2 := mc2) (ms2 := ms2) (args := args) C hk.1 hk.2.1 hN; rw [hret] at h ⊢; exact h, hk.2.2.2.1, zc_word C hk.2.2.1 args⟩ ⟨zPc_blind, zPc_at C hH⟩ rfl hn hv.1 hst (lv_room hW) hdg ⟨by show _ ≤ mc; omega, by show _ ≤ ms; omega⟩) ?_
    intro v z' D' H1 locs1 hq hH1 hL1
    obtain ⟨e1, e2, e3⟩ := hq
    cases e1; subst e2; subst e3
    exact kk _ _ r hr p l e s m args below meth c H1 locs1 _ _ ls C hH1 hL1 hv (by omega) (by omega)
  · cases hr
theorem z_callINc {host : String} {kc2 ks2 b : Nat} {res2 : Option (zT × zD)} {k : zT → zD → Option β} (As : List Value) (hk : zlkIN Y.1.cls idx Y2 host n) (hM : zM Y2 N2 mc2 ms2 zqC res2 (.ref b :: As) z D) (hN : N2 + 1 ≤ N) (hkc : mc2 + kc2 ≤ kc) (hks : ms2 + ks2 ≤ ks) (hn : As.length = n) (hst : st0 = As.reverse ++ .ref b :: st) (hW : (st.map fun v => v.category).sum ≤ 8)
    (hdg : decode Y.2.1 pc = .ok (.invokespecial idx, 3)) (kk : ∀ z' D', zGO K Y N mc ms q (k z' D') kc2 ks2 z' D' (pc + 3) lv st) : zGO K Y N mc ms q (zcc res2 k) kc ks z D pc lv st0 := by
  intro r hr p l e s m args below meth c H locs cells slots ls C hH hL hv h1 h2
  unfold zcc at hr
  split at hr
  · rename_i r2
    have hret := hk.2.2.2.2
    refine z_back hL (va_runIN (maxL := Y2.2.2.1) (bytes := Y2.2.1) (zc_fix C) (hM K l (zc_ok C) (zc_st C) r2 rfl) ⟨by have h := zc_cn (mc := mc) (ms := ms) (mc2 := mc2) (ms2 := ms2) (args := args) C hk.1 hk.2.1 hN; rw [hret] at h ⊢; exact h, hk.2.2.2.1, zc_word C hk.2.2.1 args⟩ ⟨zPc_blind, zPc_at C hH⟩ rfl hn hv.1 hst (lv_room hW) hdg ⟨by show _ ≤ mc; omega, by show _ ≤ ms; omega⟩) ?_
    intro v z' D' H1 locs1 hq hH1 hL1
    obtain ⟨e1, e2, e3⟩ := hq
    cases e1; subst e2; subst e3
    exact kk _ _ r hr p l e s m args below meth c H1 locs1 _ _ ls C hH1 hL1 hv (by omega) (by omega)
  · cases hr
/-- Object.<init> -/
theorem z_objInit {a idx : Nat} (hl : Cond.methodLink Y.1.cls idx Lib.objectInit ∈ zWd) (hi : Cond.instanceMethod Lib.objectInit ∈ zWd) (hc : Cond.code Lib.objectInit ⟨#[0xb1]⟩ 1 none ∈ zWd) (hN : 1 ≤ N) (hW : (st.map fun v => v.category).sum ≤ 8) (hdg : decode Y.2.1 pc = .ok (.invokespecial idx, 3)) (k : zGO K Y N mc ms q res kc ks z D (pc + 3) lv st) : zGO K Y N mc ms q res kc ks z D pc lv (.ref a :: st) := by
  intro r hr p l e s m args below meth c H locs cells slots ls C hH hL hv h1 h2
  refine W.objInit C.1 C.2.1 (zc_own C) (zc_word C hl args) (zc_word C hi args) (zc_word C hc args) rfl (by rw [zc_ml C]; exact hv.1) rfl hdg hN ?_ (k r hr p l e s m args below meth c H locs cells slots ls C hH hL hv h1 h2)
  show 2 * 0 + _ + 12 ≤ 40 * N
  omega
end ZD
