section ZR2
variable {β : Type} {K : zK} {Y : zY} {N mc ms : Nat} {q : β → zO → zT → zD → Prop} {res : Option β} {kc ks : Nat} {z : zT} {D : zD} {pc : Nat} {lv : List (Nat × Value)} {st : List Value}
theorem z_leti {v : Int32} {f : Int32 → Option β} (k : ∀ x, zGO K Y N mc ms q (f x) kc ks z D pc lv (.int x :: st)) : zGO K Y N mc ms q (zlet v f) kc ks z D pc lv (.int v :: st) := k v
theorem z_letl {v : Int64} {f : Int64 → Option β} (k : ∀ x, zGO K Y N mc ms q (f x) kc ks z D pc lv (.long x :: st)) : zGO K Y N mc ms q (zlet v f) kc ks z D pc lv (.long v :: st) := k v
theorem z_lvc {lv2 : List (Nat × Value)} (h : lv = lv2) (k : zGO K Y N mc ms q res kc ks z D pc lv2 st) : zGO K Y N mc ms q res kc ks z D pc lv st := h ▸ k
theorem z_iincL {i : Nat} {n : Int} {x w : Int32} {f : Int32 → Option β} (hdg : decode Y.2.1 pc = .ok (.iinc i n, 3)) (hw : Int32.ofInt n = w) (j : Nat) (hk : lv[j]? = some (i, .int x)) (hn : i < Y.2.2.1) (kk : ∀ y, zGO K Y N mc ms q (f y) kc ks z D (pc + 3) ((i, Value.int y) :: lv.filter (fun q => !(q.1 == i) && !(q.1 + 1 == i && q.2.category == 2))) st) : zGO K Y N mc ms q (zlet (x + w) f) kc ks z D pc lv st := by
  subst hw
  exact z_iinc hdg j hk rfl hn rfl (kk _)
theorem z_lcmp {x y : Int64} {f : Int32 → Option β} (hdg : decode Y.2.1 pc = .ok (.lcmp, 1)) (k : ∀ v, zGO K Y N mc ms q (f v) kc ks z D (pc + 1) lv (.int v :: st)) : zGO K Y N mc ms q (zlet (lg_cmp x y) f) kc ks z D pc lv (.long y :: .long x :: st) := fun r hr p l e s m args below meth c H locs cells slots ls C hH hL hv h1 h2 => W.lcmp C.1 C.2.1 hdg (k _ r hr p l e s m args below meth c H locs cells slots ls C hH hL hv h1 h2)
theorem z_neI {x v : Int32} {n : Int} (h : ¬ x = v) (hv : v.toInt = n) : x.toInt ≠ n := fun q => h (Int32.toInt_inj.mp (q.trans hv.symm))
theorem z_ldc {i : Nat} {v : Int32} (hw : Cond.constant Y.1.cls i v ∈ zWd) (hdg : decode Y.2.1 pc = .ok (.ldc i, 2)) (k : zGO K Y N mc ms q res kc ks z D (pc + 2) lv (.int v :: st)) : zGO K Y N mc ms q res kc ks z D pc lv st := fun r hr p l e s m args below meth c H locs cells slots ls C hH hL hv h1 h2 => lv_ldc C.1 C.2.1 (zc_own C) (zc_word C hw args) hdg (k r hr p l e s m args below meth c H locs cells slots ls C hH hL hv h1 h2)
theorem z_ldcw {i : Nat} {v : Int32} (hw : Cond.constant Y.1.cls i v ∈ zWd) (hdg : decode Y.2.1 pc = .ok (.ldc_w i, 3)) (k : zGO K Y N mc ms q res kc ks z D (pc + 3) lv (.int v :: st)) : zGO K Y N mc ms q res kc ks z D pc lv st := fun r hr p l e s m args below meth c H locs cells slots ls C hH hL hv h1 h2 => lv_ldcw C.1 C.2.1 (zc_own C) (zc_word C hw args) hdg (k r hr p l e s m args below meth c H locs cells slots ls C hH hL hv h1 h2)
theorem z_ldc2 {i : Nat} {v : Int64} (hw : Cond.constantLong Y.1.cls i v ∈ zWd) (hdg : decode Y.2.1 pc = .ok (.ldc2_w i, 3)) (k : zGO K Y N mc ms q res kc ks z D (pc + 3) lv (.long v :: st)) : zGO K Y N mc ms q res kc ks z D pc lv st := fun r hr p l e s m args below meth c H locs cells slots ls C hH hL hv h1 h2 => lv_ldc2 C.1 C.2.1 (zc_own C) (zc_word C hw args) hdg (k r hr p l e s m args below meth c H locs cells slots ls C hH hL hv h1 h2)
theorem z_zretK {x : Int32} (hdg : decode Y.2.1 pc = .ok (.ireturn, 1)) (hret : Y.2.2.2.1 = some .boolean) (hx : x = 0 ∨ x = 1) : zGO K Y N mc ms (zqI z) (some (x, D)) kc ks z D pc lv [.int x] := by
  intro r hr
  exact z_zret hdg hret r ((if_pos hx).trans hr)
theorem zin {w : Cond} (i : Nat) (h : lw_tbl[i]? = some w) (hg : zgood w = true) : w ∈ zWd := List.mem_filter.mpr ⟨List.mem_of_getElem? h, hg⟩
theorem z_defs {n : Nat} {ty : Nat → FieldType} {fs : List (Option (Option Nat))} (h : (List.range n).all (fun j => decide (defaultValue (ty j) = zV fs (fun _ => 0) j)) = true) : ∀ j, j < n → defaultValue (ty j) = zV fs (fun _ => 0) j := fun j hj => of_decide_eq_true (List.all_eq_true.mp h j (List.mem_range.mpr hj))
end ZR2
/-- the words of 'throw new cls(text)' at a place of the pool -/
def zthA (own cls : String) (ic : Nat) (names : List String) : Prop := Bundle.fit cls = true ∧ (∀ n ∈ names, Bundle.fit n = true) ∧ (∀ w ∈ vx_atS own ic cls names, w ∈ zWd) ∧ (∀ w ∈ vx_atS own ic cls names, vx_ot w = true)
def zthr (own cls text : String) (ik is ic : Nat) (names : List String) : Prop := zthA own cls ic names ∧ Cond.classLink own ik cls ∈ zWd ∧ Cond.initialized cls ∈ zWd ∧ Cond.stringRef own is text ∈ lw_tbl
section ZTH
variable {β : Type} {K : zK} {Y : zY} {N mc ms : Nat} {kc ks : Nat} {z : zT} {D : zD} {pc : Nat} {lv : List (Nat × Value)} {st : List Value}
theorem z_throw {cls text : String} {ik is ic : Nat} {names : List String} (ht : zthr Y.1.cls cls text ik is ic names) (hh : Y.2.2.2.2 = []) (hN : names.length + 3 < N) (hst : (st.map fun v => v.category).sum ≤ 8) (hkc : 1 ≤ kc) (hks : 6 ≤ ks)
    (d0 : decode Y.2.1 pc = .ok (.new ik, 3)) (d3 : decode Y.2.1 (pc + 3) = .ok (.dup, 1)) (d4 : decode Y.2.1 (pc + 4) = .ok (.ldc is, 2)) (d6 : decode Y.2.1 (pc + 6) = .ok (.invokespecial ic, 3)) (d9 : decode Y.2.1 (pc + 9) = .ok (.athrow, 1)) :
    zGO K Y N mc ms (zqX z) (some (.inr cls, D)) kc ks z D pc lv st := by
  intro r hr p l e s m args below meth c H locs cells slots ls C hH hL hv h1 h2
  cases hr
  obtain ⟨⟨t1, t2, t3, t4⟩, t5, t6, t7⟩ := ht
  obtain ⟨sa, hsa⟩ := (zc_ok C).2.2.2.2.2.1 _ _ _ t7
  have hk : ∀ a : Nat, a < K.1.heap.size → ¬ K.1.heap.size ≤ a → s.heap[a]? = K.1.heap[a]? := fun a ha _ => zc_same C a ha
  have hU := (vx_Zq.moved (zc_warm C).alike (zc_ok C).2.2.1).kept hk
  have hV := (vx_Zq.moved (zc_warm C).alike (zc_ok C).2.2.2.1).kept hk
  intro T hT X
  have hsz : s.heap.size ≤ H.size := by rw [← hT]; exact X.same.2.1
  have hS : va_S (fun q => K.1.heap.size ≤ q) s.heap H locs := ⟨hsz, fun q _ hq => by rw [hH.2.2.1 q (Nat.not_le.mp hq), zc_same C q (Nat.not_le.mp hq)], hL⟩
  refine vx_throwS (names := names) (is := is) (ic := ic) (ik := ik) (cls := cls) (text := text) C.1 C.2.1 (zc_st C) (zc_own C) t1 t2 (zc_word C t5 args) (zc_word C t6 args) (vk_R.warm (zc_warm C) hsa) (fun w hw => zc_word C (t3 w hw) args) ?_ hU hV hS (hv.1.trans (zc_ml C).symm) d0 d3 d4 d6 d9 ?_ hN ?_ ?_ ?_ C.2.2.2.1 ?_ hL ?_ ?_ T hT X
  · intro w hw
    rcases List.mem_cons.mp hw with rfl | hw
    · rfl
    · rcases List.mem_cons.mp hw with rfl | hw
      · rfl
      · exact t4 w hw
  · rw [zc_table C, hh]
    exact fun x hx => nomatch hx
  · show _ ≤ 40 * N
    omega
  · show cells + 1 ≤ mc
    omega
  · show slots + 6 ≤ ms
    omega
  · intro t ht1 ht2 ht3
    refine ⟨(t.heap.size, z.2), D, ⟨rfl, rfl, by rw [← hH.1]; exact ht2, rfl⟩, rfl, Nat.le_trans hH.2.1 ht2, fun q hq => ?_, hH.2.2.2.1, fun a e he => ?_⟩
    · rw [ht3 q (Nat.lt_of_lt_of_le hq hH.2.1)]; exact hH.2.2.1 q hq
    · obtain ⟨g1, g2⟩ := hH.2.2.2.2 a e he
      exact ⟨g1.kept (ht3 a g1.lt), g2⟩
  · omega
  · omega
theorem z_throwW {cls text : String} {ik is ic : Nat} {names : List String} (ht : zthr Y.1.cls cls text ik is ic names) (hh : Y.2.2.2.2 = []) (hN : names.length + 3 < N) (hst : (st.map fun v => v.category).sum ≤ 8) (hkc : 1 ≤ kc) (hks : 6 ≤ ks)
    (d0 : decode Y.2.1 pc = .ok (.new ik, 3)) (d3 : decode Y.2.1 (pc + 3) = .ok (.dup, 1)) (d4 : decode Y.2.1 (pc + 4) = .ok (.ldc_w is, 3)) (d6 : decode Y.2.1 (pc + 7) = .ok (.invokespecial ic, 3)) (d9 : decode Y.2.1 (pc + 10) = .ok (.athrow, 1)) :
    zGO K Y N mc ms (zqX z) (some (.inr cls, D)) kc ks z D pc lv st := by
  intro r hr p l e s m args below meth c H locs cells slots ls C hH hL hv h1 h2
  cases hr
  obtain ⟨⟨t1, t2, t3, t4⟩, t5, t6, t7⟩ := ht
  obtain ⟨sa, hsa⟩ := (zc_ok C).2.2.2.2.2.1 _ _ _ t7
  have hk : ∀ a : Nat, a < K.1.heap.size → ¬ K.1.heap.size ≤ a → s.heap[a]? = K.1.heap[a]? := fun a ha _ => zc_same C a ha
  have hU := (vx_Zq.moved (zc_warm C).alike (zc_ok C).2.2.1).kept hk
  have hV := (vx_Zq.moved (zc_warm C).alike (zc_ok C).2.2.2.1).kept hk
  intro T hT X
  have hsz : s.heap.size ≤ H.size := by rw [← hT]; exact X.same.2.1
  have hS : va_S (fun q => K.1.heap.size ≤ q) s.heap H locs := ⟨hsz, fun q _ hq => by rw [hH.2.2.1 q (Nat.not_le.mp hq), zc_same C q (Nat.not_le.mp hq)], hL⟩
  refine vx_throwSW (names := names) (is := is) (ic := ic) (ik := ik) (cls := cls) (text := text) C.1 C.2.1 (zc_st C) (zc_own C) t1 t2 (zc_word C t5 args) (zc_word C t6 args) (vk_R.warm (zc_warm C) hsa) (fun w hw => zc_word C (t3 w hw) args) ?_ hU hV hS (hv.1.trans (zc_ml C).symm) d0 d3 d4 d6 d9 ?_ hN ?_ ?_ ?_ C.2.2.2.1 ?_ hL ?_ ?_ T hT X
  · intro w hw
    rcases List.mem_cons.mp hw with rfl | hw
    · rfl
    · rcases List.mem_cons.mp hw with rfl | hw
      · rfl
      · exact t4 w hw
  · rw [zc_table C, hh]
    exact fun x hx => nomatch hx
  · show _ ≤ 40 * N
    omega
  · show cells + 1 ≤ mc
    omega
  · show slots + 6 ≤ ms
    omega
  · intro t ht1 ht2 ht3
    refine ⟨(t.heap.size, z.2), D, ⟨rfl, rfl, by rw [← hH.1]; exact ht2, rfl⟩, rfl, Nat.le_trans hH.2.1 ht2, fun q hq => ?_, hH.2.2.2.1, fun a e he => ?_⟩
    · rw [ht3 q (Nat.lt_of_lt_of_le hq hH.2.1)]; exact hH.2.2.1 q hq
    · obtain ⟨g1, g2⟩ := hH.2.2.2.2 a e he
      exact ⟨g1.kept (ht3 a g1.lt), g2⟩
  · omega
  · omega
end ZTH
theorem z_lpA {γ : Type} {bot : γ} {F : γ → γ} (P : Nat → γ → Prop) (h0 : P 0 bot) (hs : ∀ n j, P n j → P (n + 1) (F j)) : ∀ n, P n (zlp bot F n)
  | 0 => h0
  | n + 1 => hs n _ (z_lpA P h0 hs n)
section ZKC
variable {β : Type} {K : zK} {Y : zY} {N mc ms : Nat} {q : β → zO → zT → zD → Prop} {res : Option β} {kc ks : Nat} {z : zT} {D : zD} {pc : Nat} {lv : List (Nat × Value)} {st : List Value}
theorem z_kc {kc' ks' : Nat} (h1 : kc' ≤ kc) (h2 : ks' ≤ ks) (k : zGO K Y N mc ms q res kc' ks' z D pc lv st) : zGO K Y N mc ms q res kc ks z D pc lv st := fun r hr p l e s m args below meth c H locs cells slots ls C hH hL hv h3 h4 => k r hr p l e s m args below meth c H locs cells slots ls C hH hL hv (by omega) (by omega)
end ZKC
