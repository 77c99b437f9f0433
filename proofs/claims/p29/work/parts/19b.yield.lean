/-! Methods of the law that make cells (exceptions) and leave the shapes as they were. -/
abbrev zqY (w : zW) : Int32 × zD → zO → zT → zD → Prop := fun r o z' D' => o = .inl (some (.int r.1)) ∧ z'.2 = w ∧ D' = r.2
section ZY
variable {β : Type} {K : zK} {Y Y2 : zY} {N mc ms N2 mc2 ms2 idx n : Nat} {q : β → zO → zT → zD → Prop} {kc ks kc2 ks2 : Nat} {z : zT} {D : zD} {pc : Nat} {lv : List (Nat × Value)} {st st0 : List Value} {w : zW}
theorem z_yret {x : Int32} (hz : z.2 = w) (hdg : decode Y.2.1 pc = .ok (.ireturn, 1)) (hret : Y.2.2.2.1 = some .int) : zGO K Y N mc ms (zqY w) (some (x, D)) kc ks z D pc lv [.int x] := by
  intro r hr p l e s m args below meth c H locs cells slots ls C hH hL hv h1 h2
  cases hr
  refine W.widen (k := mc) (n := ms) (by omega) (by omega) ?_
  exact vx_ret (W.iret C.1 C.2.1 (C.2.2.1.trans hret) (fun t ht _ => ⟨_, z, D, rfl, ⟨rfl, hz, rfl⟩, by rw [ht]; exact hH⟩) hL hdg C.2.2.2.1)
theorem z_yretZ {x : Int32} (hz : z.2 = w) (hdg : decode Y.2.1 pc = .ok (.ireturn, 1)) (hret : Y.2.2.2.1 = some .boolean) : zGO K Y N mc ms (zqY w) (zchk (x = 0 ∨ x = 1) (some (x, D))) kc ks z D pc lv [.int x] := by
  refine z_chk fun hx => ?_
  intro r hr p l e s m args below meth c H locs cells slots ls C hH hL hv h1 h2
  cases hr
  refine W.widen (k := mc) (n := ms) (by omega) (by omega) ?_
  refine vx_ret (W.zret C.1 C.2.1 (C.2.2.1.trans hret) ?_ (fun t ht _ => ⟨_, z, D, rfl, ⟨rfl, hz, rfl⟩, by rw [ht]; exact hH⟩) hL hdg C.2.2.2.1)
  rcases hx with rfl | rfl <;> rfl
theorem z_yretK {x : Int32} (hz : z.2 = w) (hdg : decode Y.2.1 pc = .ok (.ireturn, 1)) (hret : Y.2.2.2.1 = some .boolean) (hx : x = 0 ∨ x = 1) : zGO K Y N mc ms (zqY w) (some (x, D)) kc ks z D pc lv [.int x] := by
  intro r hr
  exact z_yretZ hz hdg hret r ((if_pos hx).trans hr)
theorem z_lretB {x : Int32} (hdg : decode Y.2.1 pc = .ok (.ireturn, 1)) (hret : Y.2.2.2.1 = some .boolean) : zGO K Y N mc ms zqL (zchk (x = 0 ∨ x = 1) (some x)) kc ks z D pc lv [.int x] := z_chk fun hx => z_lret hdg hret hx
/-- a call of a static method that makes cells -/
theorem z_callYA {res2 : Option (Int32 × zD)} {k : Int32 → zD → Option β} (As : List Value) (hk : zlkS Y.1.cls idx Y2 n) (hM : zM Y2 N2 mc2 ms2 (zqY z.2) res2 As z D) (hN : N2 + 1 ≤ N) (hkc : mc2 + kc2 ≤ kc) (hks : ms2 + ks2 ≤ ks) (hn : As.length = n) (hst : st0 = As.reverse ++ st) (hW : (st.map fun v => v.category).sum ≤ 8)
    (hdg : decode Y.2.1 pc = .ok (.invokestatic idx, 3)) (kk : ∀ v D' n', zGO K Y N mc ms q (k v D') kc2 ks2 (n', z.2) D' (pc + 3) lv (.int v :: st)) : zGO K Y N mc ms q (zci res2 k) kc ks z D pc lv st0 := by
  intro r hr p l e s m args below meth c H locs cells slots ls C hH hL hv h1 h2
  unfold zci at hr
  split at hr
  · rename_i r2
    refine z_back hL (va_runS (zc_fix C) (hM K l (zc_ok C) (zc_st C) r2 rfl) ⟨zc_cb C hk.1 hk.2.1 hN, zc_word C hk.2.2 args⟩ ⟨zPc_blind, zPc_at C hH⟩ rfl hn hv.1 hst (lv_room hW) hdg ⟨by show _ ≤ mc; omega, by show _ ≤ ms; omega⟩) ?_
    intro v z' D' H1 locs1 hq hH1 hL1
    obtain ⟨e1, e2, e3⟩ := hq
    cases e1; subst e3
    obtain ⟨n', w'⟩ := z'
    have e2 : w' = z.2 := e2
    subst e2
    exact kk _ _ n' r hr p l e s m args below meth c H1 locs1 _ _ ls C hH1 hL1 hv (by omega) (by omega)
  · cases hr
theorem z_callYH {res2 : Option (Int32 × zD)} {k : Int32 → zD → Option β} (As : List Value) (hk : zlkH Y.1.cls idx Y2 n) (hM : zMH Y2 N2 mc2 ms2 (zqY z.2) res2 As z D) (hN : N2 + 1 ≤ N) (hkc : mc2 + kc2 ≤ kc) (hks : ms2 + ks2 ≤ ks) (hn : As.length = n) (hst : st0 = As.reverse ++ st) (hW : (st.map fun v => v.category).sum ≤ 8)
    (hdg : decode Y.2.1 pc = .ok (.invokestatic idx, 3)) (kk : ∀ v D' n', zGO K Y N mc ms q (k v D') kc2 ks2 (n', z.2) D' (pc + 3) lv (.int v :: st)) : zGO K Y N mc ms q (zci res2 k) kc ks z D pc lv st0 := by
  intro r hr p l e s m args below meth c H locs cells slots ls C hH hL hv h1 h2
  unfold zci at hr
  split at hr
  · rename_i r2
    obtain ⟨w1, w2, w3, w4, w5, w6, w7⟩ := hk
    refine z_back hL (vx_runSW (hh := Y2.2.2.2.2) (ret := Y2.2.2.2.1) (maxL := Y2.2.2.1) (bytes := Y2.2.1) (zc_fix C) (hM K l (zc_ok C) (zc_st C) r2 rfl) ⟨⟨rfl, rfl, hN, by show 8 + (Y2.2.2.1 + 11) + 40 * N2 ≤ 40 * N; omega, fun w hw a' U hU => by rw [List.mem_singleton.mp hw]; exact zc_wordU C w1 a' hU, List.mem_cons_self⟩, zc_word C w1 args, zc_word C w2 args, w3, fun sig h => by rw [h] at w4; exact (Option.some.inj w4).symm, zc_word C w6 args, zc_word C w7 args⟩ ⟨zPc_blind, zPc_at C hH⟩ rfl hn hv.1 hst (lv_room hW) hdg ⟨by show _ ≤ mc; omega, by show _ ≤ ms; omega⟩) ?_
    intro v z' D' H1 locs1 hq hH1 hL1
    obtain ⟨e1, e2, e3⟩ := hq
    cases e1; subst e3
    obtain ⟨n', w'⟩ := z'
    have e2 : w' = z.2 := e2
    subst e2
    exact kk _ _ n' r hr p l e s m args below meth c H1 locs1 _ _ ls C hH1 hL1 hv (by omega) (by omega)
  · cases hr
end ZY
