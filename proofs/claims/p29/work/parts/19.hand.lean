/-- what a handler's row catches -/
def zcatch (Y : zY) (pc : Nat) (E : String) (h : Nat) : Prop := ∃ (pre : List ExceptionTableEntry) (x : ExceptionTableEntry) (suf : List ExceptionTableEntry), tableOf Y.2.2.2.2 = pre ++ x :: suf ∧ x.handlerPc = h ∧ covers x pc = true ∧ x.catchType ≠ 0 ∧ Cond.classLink Y.1.cls x.catchType E ∈ zWd ∧ Cond.castable E E ∈ zWd ∧ ∀ y ∈ pre, y.catchType ≠ 0 ∧ ∃ nm, Cond.classLink Y.1.cls y.catchType nm ∈ zWd ∧ (E, nm) ∈ zNc
def zcx {β : Type} (o : Option ((Int32 ⊕ String) × zD)) (k : Int32 ⊕ String → zD → Option β) : Option β := match o with
  | some r => k r.1 r.2
  | none => none
abbrev zqH (z : zT) : Int32 × zW × zD → zO → zT → zD → Prop := fun r o z' D' => o = .inl (some (.int r.1)) ∧ z'.2 = r.2.1 ∧ z.1 ≤ z'.1 ∧ D' = r.2.2
def zch {β : Type} (o : Option (Int32 × zW × zD)) (k : Int32 → zW → zD → Option β) : Option β := match o with
  | some r => k r.1 r.2.1 r.2.2
  | none => none
/-- the contract of a method with handlers -/
def zMH {β : Type} (Y : zY) (N mc ms : Nat) (q : β → zO → zT → zD → Prop) (res : Option β) (vs : List Value) (z : zT) (D : zD) : Prop :=
  ∀ (K : zK) (l : Launch), zOk K → l.stackTraces = false → ∀ r, res = some r → Met l Y.1 [Cond.codeWith Y.1 Y.2.1 Y.2.2.1 Y.2.2.2.1 Y.2.2.2.2] (zrm N mc ms) (zPc K vs z D) (zQc K (q r)) mc ms (zfree K)
theorem zMH_of {β : Type} {Y : zY} {N mc ms : Nat} {q : β → zO → zT → zD → Prop} {res : Option β} {vs : List Value} {z : zT} {D : zD} (hy : plainName Y.1.cls = true) (hlen : (lg_sl vs).length ≤ Y.2.2.1) (ht : ∀ r E z' D', ¬ q r (.inr E) z' D')
    (hG : ∀ K, zGO K Y N mc ms q res mc ms z D 0 (lv_args 0 vs) []) : zMH Y N mc ms q res vs z D := by
  intro K l ok hst r hr
  have hX : vx_Met l Y.1 [Cond.codeWith Y.1 Y.2.1 Y.2.2.1 Y.2.2.2.1 Y.2.2.2.2] (zrm N mc ms) (zPc K vs z D) (zQc K (q r)) (zXC K (q r)) mc ms (zfree K) := by
    refine vx_ofWH (cc := Y.2.1) (maxL := Y.2.2.1) (ret := Y.2.2.2.1) (hh := Y.2.2.2.2) (ws' := []) hy rfl ?_
    intro p e s m args below meth c s₁ B hml ⟨ha, hW, hH⟩
    subst ha
    rw [lg_entry_eq]
    exact hG K r hr p l e s m vs.toArray below meth c s.heap [] 0 0 _ ⟨B.exec, B.bytes, B.returns, B.notSynchronized, hml, findClass_of_methodNamed B.named, hW, hst, (name_of_methodNamed B.named B.method).1, vx_table (x := Y.1) B (atoms_spec (ws := [Cond.codeWith Y.1 Y.2.1 Y.2.2.1 Y.2.2.2.1 Y.2.2.2.2]) B.pre _ List.mem_cons_self), hH.2.1, hH.2.2.1, ok⟩ hH (fun q h => nomatch h) (lv_entry vs hlen) (by omega) (by omega)
  intro p e h1 h2 h3 s m args below h4 h5 h6 h7
  obtain ⟨n, o, a1, a2, a3, a4⟩ := hX p e h1 h2 h3 s m args below h4 h5 h6 h7
  refine ⟨n, o, a1, a2, a3, ?_⟩
  rcases a4 with a4 | ⟨x, ho, E, ce, L, ⟨z', D', hq, -⟩, -⟩
  · exact a4
  · exact absurd hq (ht _ _ _ _)
def zlkH (own : String) (idx : Nat) (Y2 : zY) (n : Nat) : Prop := Cond.codeWith Y2.1 Y2.2.1 Y2.2.2.1 Y2.2.2.2.1 Y2.2.2.2.2 ∈ zWd ∧ Cond.initialized Y2.1.cls ∈ zWd ∧ (Y2.1.cls ≠ "java/lang/invoke/MethodHandle" ∧ Y2.1.cls ≠ "java/lang/invoke/VarHandle") ∧ (parseMethodDescriptor Y2.1.desc).map (fun d => d.parameters.length) = some n ∧ Y2.2.2.1 ≤ 21 ∧ Cond.methodLink own idx Y2.1 ∈ zWd ∧ Cond.static Y2.1 ∈ zWd
section ZX
variable {β : Type} {K : zK} {Y Y2 : zY} {N mc ms N2 mc2 ms2 idx n : Nat} {q : β → zO → zT → zD → Prop} {res : Option β} {kc ks kc2 ks2 : Nat} {z : zT} {D : zD} {pc : Nat} {lv : List (Nat × Value)} {st st0 : List Value}
/-- a call of a method that returns or throws, its throws caught here -/
theorem z_callX {ci nn b : Nat} {T : u_T} {res2 : Option ((Int32 ⊕ String) × zD)} {k : Int32 ⊕ String → zD → Option β} (As : List Value) (hk : zlkV Y.1.cls idx Y2 n) (hc : zcl[ci]? = some (Y2.1.cls, T, nn)) (hM : zMX Y2 N2 mc2 ms2 (zqX z) res2 (.ref b :: As) z D) (hN : N2 + 1 ≤ N) (hkc : mc2 + kc2 ≤ kc) (hks : ms2 + ks2 ≤ ks) (hn : As.length = n) (hst : st0 = As.reverse ++ .ref b :: st) (hW : (st.map fun v => v.category).sum ≤ 8)
    (hdg : decode Y.2.1 pc = .ok (.invokevirtual idx, 3)) (kn : ∀ v D' z1, z1.2 = z.2 → z.1 ≤ z1.1 → zGO K Y N mc ms q (k (.inl v) D') kc2 ks2 z1 D' (pc + 3) lv (.int v :: st))
    (kx : ∀ E D' r, k (.inr E) D' = some r → ∃ h, zcatch Y pc E h ∧ ∀ z1 a, z1.2 = z.2 → z.1 ≤ z1.1 → zGO K Y N mc ms q (k (.inr E) D') kc2 ks2 z1 D' h lv [.ref a]) : zGO K Y N mc ms q (zobj z.2 ci b (zcx res2 k)) kc ks z D pc lv st0 := by
  intro r hr p l e s m args below meth c H locs cells slots ls C hH hL hv h1 h2
  unfold zobj at hr
  split at hr
  · rename_i x hx
    split at hr
    · rename_i hci
      obtain ⟨ci', fs⟩ := x
      cases hci
      unfold zcx at hr
      split at hr
      · rename_i r2
        have hrun := vx_runV (zc_fix C) (hM K l (zc_ok C) (zc_st C) r2 rfl) (p := p) (e := e) (below := below) (meth := meth) (locs := locs) (cells := cells) (slots := slots) (H := H) (n := n) ⟨zc_cb (mc := mc) (ms := ms) (args := args) C hk.1 hk.2.1 hN, zc_word C hk.2.2.1 args, zc_word C hk.2.2.2 args⟩ ⟨zPc_blind, z_recv C hH hc hx, zPc_at C hH⟩ (g := F0 m pc ls st0) (rest := st) rfl hn hv.1 hst (lv_room (pc := pc) (ls := ls) (rest := st0) hW) hdg ⟨by show _ ≤ mc; omega, by show _ ≤ ms; omega⟩
        intro T hT X
        rcases hrun T hT X with ⟨v, s0, t, T', L, h0, X', hL', e1, e2, ⟨v', z', D', hv', hq, hH'⟩, go⟩ | ⟨x9, s0, t, T', L, E, ce, h0, X', hL', e1, e2, ⟨z', D', hq, hH'⟩, hce, hcv, hcl, go⟩
        · cases hv'
          obtain ⟨q1, q2, q3, q4⟩ := hq
          obtain ⟨o2, D2⟩ := r2
          rcases o2 with w | E
          · cases q1
            subst q4
            obtain ⟨t2, a1, b1⟩ := kn _ _ z' q2 q3 r hr p l e s m args below meth c T'.heap (locs ++ L) _ _ ls C (by rw [e1]; exact hH') (fun q hq => by
              rcases List.mem_append.mp hq with h | h
              · exact hL q h
              · exact hL' q h) hv (by omega) (by omega) T' rfl X'
            exact ⟨t2, go t2 a1, b1⟩
          · cases q1
        · obtain ⟨q1, q2, q3, q4⟩ := hq
          obtain ⟨o2, D2⟩ := r2
          rcases o2 with w | E'
          · cases q1
          · cases q1
            subst q4
            obtain ⟨h, ⟨pre, x, suf, t1, t2, t3, t4, t5, t6, t7⟩, kk⟩ := kx _ _ r hr
            have hgo := vx_catch (p := p) (l := l) (e := e) (R := zrm N mc ms) (args := args) (below := below) (meth := meth) (c := c) (rest := st) (ls := ls) (pc := pc) (cells := cells + mc2) (slots := slots + ms2) (locs := locs ++ L) (H := T'.heap) (Q := vx_MQ below (zQc K (q r)) (zXC K (q r)) args s mc ms (zfree K)) (zc_own C) pre x suf (by rw [zc_table C]; exact t1) (fun y hy => Or.inr ⟨(t7 y hy).1, by
              obtain ⟨nm, g1, g2⟩ := (t7 y hy).2
              exact ⟨nm, zc_word C g1 args, va_Nc.moved (zc_warm C).alike ((zc_ok C).2.2.2.2.2.2 _ g2)⟩⟩) t3 t4 (zc_word C t5 args) (zc_word C t6 args) (by rw [e1]; exact hce) hcv hcl (by
                rw [t2]
                exact kk z' x9 q2 q3 r hr p l e s m args below meth c T'.heap (locs ++ L) _ _ ls C (by rw [e1]; exact hH') (fun q hq => by
                  rcases List.mem_append.mp hq with h | h
                  · exact hL q h
                  · exact hL' q h) hv (by omega) (by omega))
            obtain ⟨t2, a1, b1⟩ := hgo T' rfl X'
            exact ⟨t2, go.trans a1, b1⟩
      · cases hr
    · cases hr
  · cases hr
def zhs1 {β : Type} (E a1 : String) (A1 : Option β) : Option β := if E = a1 then A1 else none
def zhs2 {β : Type} (E a1 a2 : String) (A1 A2 : Option β) : Option β := if E = a1 then A1 else if E = a2 then A2 else none
theorem z_callX1 {ci nn b h1 : Nat} {T : u_T} {a1 : String} {res2 : Option ((Int32 ⊕ String) × zD)} {f : Int32 → zD → Option β} {g1 : zD → Option β} (As : List Value) (hk : zlkV Y.1.cls idx Y2 n) (hc : zcl[ci]? = some (Y2.1.cls, T, nn)) (hM : zMX Y2 N2 mc2 ms2 (zqX z) res2 (.ref b :: As) z D) (hN : N2 + 1 ≤ N) (hkc : mc2 + kc2 ≤ kc) (hks : ms2 + ks2 ≤ ks) (hn : As.length = n) (hst : st0 = As.reverse ++ .ref b :: st) (hW : (st.map fun v => v.category).sum ≤ 8)
    (hdg : decode Y.2.1 pc = .ok (.invokevirtual idx, 3)) (c1 : zcatch Y pc a1 h1) (kn : ∀ v D' z1, z1.2 = z.2 → z.1 ≤ z1.1 → zGO K Y N mc ms q (f v D') kc2 ks2 z1 D' (pc + 3) lv (.int v :: st))
    (k1 : ∀ D' z1 a, z1.2 = z.2 → z.1 ≤ z1.1 → zGO K Y N mc ms q (g1 D') kc2 ks2 z1 D' h1 lv [.ref a]) : zGO K Y N mc ms q (zobj z.2 ci b (zcx res2 (fun r D' => Sum.elim (fun v => f v D') (fun E => zhs1 E a1 (g1 D')) r))) kc ks z D pc lv st0 := by
  refine z_callX As hk hc hM hN hkc hks hn hst hW hdg (fun v D' z1 e1 e2 => kn v D' z1 e1 e2) (fun E D' r hr => ?_)
  have hr : zhs1 E a1 (g1 D') = some r := hr
  unfold zhs1 at hr
  by_cases e1 : E = a1
  · subst e1
    refine ⟨h1, c1, fun z1 a g1' g2 => ?_⟩
    show zGO K Y N mc ms q (if E = E then g1 D' else none) kc2 ks2 z1 D' h1 lv [.ref a]
    rw [if_pos rfl]
    exact k1 D' z1 a g1' g2
  · rw [if_neg e1] at hr
    cases hr
theorem z_callX2 {ci nn b h1 h2 : Nat} {T : u_T} {a1 a2 : String} {res2 : Option ((Int32 ⊕ String) × zD)} {f : Int32 → zD → Option β} {g1 g2 : zD → Option β} (As : List Value) (hk : zlkV Y.1.cls idx Y2 n) (hc : zcl[ci]? = some (Y2.1.cls, T, nn)) (hM : zMX Y2 N2 mc2 ms2 (zqX z) res2 (.ref b :: As) z D) (hN : N2 + 1 ≤ N) (hkc : mc2 + kc2 ≤ kc) (hks : ms2 + ks2 ≤ ks) (hn : As.length = n) (hst : st0 = As.reverse ++ .ref b :: st) (hW : (st.map fun v => v.category).sum ≤ 8)
    (hdg : decode Y.2.1 pc = .ok (.invokevirtual idx, 3)) (c1 : zcatch Y pc a1 h1) (c2 : zcatch Y pc a2 h2) (kn : ∀ v D' z1, z1.2 = z.2 → z.1 ≤ z1.1 → zGO K Y N mc ms q (f v D') kc2 ks2 z1 D' (pc + 3) lv (.int v :: st))
    (k1 : ∀ D' z1 a, z1.2 = z.2 → z.1 ≤ z1.1 → zGO K Y N mc ms q (g1 D') kc2 ks2 z1 D' h1 lv [.ref a]) (k2 : ∀ D' z1 a, z1.2 = z.2 → z.1 ≤ z1.1 → zGO K Y N mc ms q (g2 D') kc2 ks2 z1 D' h2 lv [.ref a]) : zGO K Y N mc ms q (zobj z.2 ci b (zcx res2 (fun r D' => Sum.elim (fun v => f v D') (fun E => zhs2 E a1 a2 (g1 D') (g2 D')) r))) kc ks z D pc lv st0 := by
  refine z_callX As hk hc hM hN hkc hks hn hst hW hdg (fun v D' z1 e1 e2 => kn v D' z1 e1 e2) (fun E D' r hr => ?_)
  have hr : zhs2 E a1 a2 (g1 D') (g2 D') = some r := hr
  unfold zhs2 at hr
  by_cases e1 : E = a1
  · subst e1
    refine ⟨h1, c1, fun z1 a g1' g2' => ?_⟩
    show zGO K Y N mc ms q (if E = E then g1 D' else if E = a2 then g2 D' else none) kc2 ks2 z1 D' h1 lv [.ref a]
    rw [if_pos rfl]
    exact k1 D' z1 a g1' g2'
  · by_cases e2 : E = a2
    · subst e2
      refine ⟨h2, c2, fun z1 a g1' g2' => ?_⟩
      show zGO K Y N mc ms q (if E = a1 then g1 D' else if E = E then g2 D' else none) kc2 ks2 z1 D' h2 lv [.ref a]
      rw [if_neg e1, if_pos rfl]
      exact k2 D' z1 a g1' g2'
    · rw [if_neg e1, if_neg e2] at hr
      cases hr
/-- a handler's method returns -/
theorem z_hret {z0 : zT} {x : Int32} (hz : z0.1 ≤ z.1) (hdg : decode Y.2.1 pc = .ok (.ireturn, 1)) (hret : Y.2.2.2.1 = some .int) : zGO K Y N mc ms (zqH z0) (some (x, z.2, D)) kc ks z D pc lv [.int x] := by
  intro r hr p l e s m args below meth c H locs cells slots ls C hH hL hv h1 h2
  cases hr
  refine W.widen (k := mc) (n := ms) (by omega) (by omega) ?_
  exact vx_ret (W.iret C.1 C.2.1 (C.2.2.1.trans hret) (fun t ht _ => ⟨_, z, D, rfl, ⟨rfl, rfl, hz, rfl⟩, by rw [ht]; exact hH⟩) hL hdg C.2.2.2.1)
/-- a call of it -/
theorem z_callH {res2 : Option (Int32 × zW × zD)} {k : Int32 → zW → zD → Option β} (As : List Value) (hk : zlkH Y.1.cls idx Y2 n) (hM : zMH Y2 N2 mc2 ms2 (zqH z) res2 As z D) (hN : N2 + 1 ≤ N) (hkc : mc2 + kc2 ≤ kc) (hks : ms2 + ks2 ≤ ks) (hn : As.length = n) (hst : st0 = As.reverse ++ st) (hW : (st.map fun v => v.category).sum ≤ 8)
    (hdg : decode Y.2.1 pc = .ok (.invokestatic idx, 3)) (kk : ∀ v D' (z' : zT), zGO K Y N mc ms q (k v z'.2 D') kc2 ks2 z' D' (pc + 3) lv (.int v :: st)) : zGO K Y N mc ms q (zch res2 k) kc ks z D pc lv st0 := by
  intro r hr p l e s m args below meth c H locs cells slots ls C hH hL hv h1 h2
  unfold zch at hr
  split at hr
  · rename_i r2
    obtain ⟨w1, w2, w3, w4, w5, w6, w7⟩ := hk
    refine z_back hL (vx_runSW (hh := Y2.2.2.2.2) (ret := Y2.2.2.2.1) (maxL := Y2.2.2.1) (bytes := Y2.2.1) (zc_fix C) (hM K l (zc_ok C) (zc_st C) r2 rfl) ⟨⟨rfl, rfl, hN, by show 8 + (Y2.2.2.1 + 11) + 40 * N2 ≤ 40 * N; omega, fun w hw a' U hU => by rw [List.mem_singleton.mp hw]; exact zc_wordU C w1 a' hU, List.mem_cons_self⟩, zc_word C w1 args, zc_word C w2 args, w3, fun sig h => by rw [h] at w4; exact (Option.some.inj w4).symm, zc_word C w6 args, zc_word C w7 args⟩ ⟨zPc_blind, zPc_at C hH⟩ rfl hn hv.1 hst (lv_room hW) hdg ⟨by show _ ≤ mc; omega, by show _ ≤ ms; omega⟩) ?_
    intro v z' D' H1 locs1 hq hH1 hL1
    obtain ⟨e1, e2, e3, e4⟩ := hq
    cases e1; subst e4
    obtain ⟨o1, w1, D1⟩ := r2
    have e2 : z'.2 = w1 := e2
    subst e2
    exact kk _ _ z' r hr p l e s m args below meth c H1 locs1 _ _ ls C hH1 hL1 hv (by omega) (by omega)
  · cases hr
end ZX
abbrev zqL : Int32 → zO → zT → zD → Prop := fun r o _ _ => o = .inl (some (.int r))
section ZLR
variable {K : zK} {Y : zY} {N mc ms : Nat} {kc ks : Nat} {z : zT} {D : zD} {pc : Nat} {lv : List (Nat × Value)} {st : List Value}
theorem z_lret {x : Int32} (hdg : decode Y.2.1 pc = .ok (.ireturn, 1)) (hret : Y.2.2.2.1 = some .boolean) (hx : x = 0 ∨ x = 1) : zGO K Y N mc ms zqL (some x) kc ks z D pc lv [.int x] := by
  intro r hr p l e s m args below meth c H locs cells slots ls C hH hL hv h1 h2
  cases hr
  refine W.widen (k := mc) (n := ms) (by omega) (by omega) ?_
  refine vx_ret (W.zret C.1 C.2.1 (C.2.2.1.trans hret) ?_ (fun t ht _ => ⟨_, z, D, rfl, rfl, by rw [ht]; exact hH⟩) hL hdg C.2.2.2.1)
  rcases hx with rfl | rfl <;> rfl
end ZLR
