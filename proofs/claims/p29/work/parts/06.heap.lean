section ZA
variable {K : zK} {Y : zY} {p : Program} {l : Launch} {s : State} {m : MethodId} {meth : Method} {c : Code}
theorem zc_ml (C : zCx K Y p l s m meth c) : c.maxLocals = Y.2.2.1 := C.2.2.2.2.1
theorem zc_own (C : zCx K Y p l s m meth c) : s.vm.findClass Y.1.cls = some m.cls := C.2.2.2.2.2.1
theorem zc_warm (C : zCx K Y p l s m meth c) : K.1.WarmedH s.vm := C.2.2.2.2.2.2.1
theorem zc_st (C : zCx K Y p l s m meth c) : l.stackTraces = false := C.2.2.2.2.2.2.2.1
theorem zc_name (C : zCx K Y p l s m meth c) : meth.name = Y.1.name := C.2.2.2.2.2.2.2.2.1
theorem zc_table (C : zCx K Y p l s m meth c) : c.exceptionTable.toList = tableOf Y.2.2.2.2 := C.2.2.2.2.2.2.2.2.2.1
theorem zc_sz (C : zCx K Y p l s m meth c) : K.1.heap.size ≤ s.heap.size := C.2.2.2.2.2.2.2.2.2.2.1
theorem zc_same (C : zCx K Y p l s m meth c) : ∀ q, q < K.1.heap.size → s.heap[q]? = K.1.heap[q]? := C.2.2.2.2.2.2.2.2.2.2.2.1
theorem zc_ok (C : zCx K Y p l s m meth c) : zOk K := C.2.2.2.2.2.2.2.2.2.2.2.2
theorem zc_word (C : zCx K Y p l s m meth c) {w : Cond} (hw : w ∈ zWd) (args : Array Value) : w.before args s = true := (zc_ok C).2.1 w hw args s (zc_warm C)
theorem zc_wordU (C : zCx K Y p l s m meth c) {w : Cond} (hw : w ∈ zWd) (args : Array Value) {U : State} (hU : s.WarmedH U.vm) : w.before args U = true := (zc_ok C).2.1 w hw args U (State.WarmedH.trans (zc_warm C) hU)
theorem zc_K (C : zCx K Y p l s m meth c) : va_K K.2.1 zcl (ztys K) s := (zc_ok C).1.moved (zc_warm C).alike
end ZA
theorem zAt.kept {K : zK} {a : Nat} {e : zS} {d : Nat → Int32} {dl : Nat → Int64} {H H1 : Heap} (h : zAt K a e d dl H) (hq : H1[a]? = H[a]?) : zAt K a e d dl H1 := by
  rcases e with ⟨t, n⟩ | ⟨n, f⟩ | ⟨ci, fs⟩
  · have h : zArr K t n a d dl H := h
    show zArr K t n a d dl H1
    unfold zArr at h ⊢
    split at h
    · exact hq.trans h
    · exact hq.trans h
    · exact ⟨hq.trans h.1, h.2⟩
    · exact hq.trans h
    · obtain ⟨scr, h1, h2⟩ := h
      exact ⟨scr, hq.trans h1, h2⟩
    · obtain ⟨scr, h1, h2⟩ := h
      exact ⟨scr, hq.trans h1, h2⟩
  · exact hq.trans h
  · obtain ⟨r, h1, h2⟩ := h
    exact ⟨r, h1, h2.kept hq⟩
theorem zAt.lt {K : zK} {a : Nat} {e : zS} {d : Nat → Int32} {dl : Nat → Int64} {H : Heap} (h : zAt K a e d dl H) : a < H.size := by
  rcases e with ⟨t, n⟩ | ⟨n, f⟩ | ⟨ci, fs⟩
  · have h : zArr K t n a d dl H := h
    unfold zArr at h
    split at h
    · exact (Array.getElem?_eq_some_iff.mp h).1
    · exact (Array.getElem?_eq_some_iff.mp h).1
    · exact (Array.getElem?_eq_some_iff.mp h.1).1
    · exact (Array.getElem?_eq_some_iff.mp h).1
    · obtain ⟨scr, h1, h2⟩ := h
      exact (Array.getElem?_eq_some_iff.mp h1).1
    · obtain ⟨scr, h1, h2⟩ := h
      exact (Array.getElem?_eq_some_iff.mp h1).1
  · exact (Array.getElem?_eq_some_iff.mp (show H[a]? = some _ from h)).1
  · obtain ⟨r, h1, cell, h2, -⟩ := h
    exact (Array.getElem?_eq_some_iff.mp h2).1
/-- one old cell written anew -/
theorem zH.write {K : zK} {z z' : zT} {D D' : zD} {H H1 : Heap} {a : Nat} {e e' : zS} (hH : zH K z D H) (he : z.2.1 a = some e) (hw : zWr e) (z1 : z'.1 = z.1) (z4 : z'.2.2.2 = z.2.2.2) (he' : z'.2.1 a = some e') (hw' : zWr e')
    (hs : ∀ q, q ≠ a → z'.2.1 q = z.2.1 q) (hD : ∀ q, q ≠ a → D' q = D q) (hL : ∀ q, q ≠ a → z'.2.2.1 q = z.2.2.1 q) (hz : H1.size = H.size) (hq : ∀ q, q ≠ a → H1[q]? = H[q]?) (ha : zAt K a e' (D' a) (z'.2.2.1 a) H1) : zH K z' D' H1 := by
  obtain ⟨h1, h2, h3, h4, h5⟩ := hH
  have hb := (h5 a e he).2 hw
  refine ⟨hz.trans (h1.trans z1.symm), by rw [hz]; exact h2, fun q hl => ?_, z4.trans h4, fun q x hx => ?_⟩
  · rw [hq q (by omega)]; exact h3 q hl
  · by_cases hqa : q = a
    · subst hqa
      cases he'.symm.trans hx
      exact ⟨ha, fun _ => hb⟩
    · rw [hs q hqa] at hx
      rw [hD q hqa, hL q hqa]
      exact ⟨(h5 q x hx).1.kept (hq q hqa), (h5 q x hx).2⟩
theorem zH.base {K : zK} {z : zT} {D : zD} {H : Heap} {a : Nat} {e : zS} (hH : zH K z D H) (he : z.2.1 a = some e) (hw : zWr e) : K.1.heap.size ≤ a := (hH.2.2.2.2 a e he).2 hw
theorem z_lc {K : zK} {locs : List Loc} {a i : Nat} (hL : ∀ q ∈ locs, K.1.heap.size ≤ q.base) (ha : K.1.heap.size ≤ a) : ∀ q ∈ locs ++ [(⟨a, i⟩ : Loc)], K.1.heap.size ≤ q.base := by
  intro q hq
  rcases List.mem_append.mp hq with h | h
  · exact hL q h
  · rw [List.mem_singleton.mp h]; exact ha
theorem zup_ne {D : zD} {a k : Nat} {v : Int32} {q : Nat} (h : q ≠ a) : zup D a k v q = D q := by
  funext j; simp [zup, h]
theorem zup_self {D : zD} {a k : Nat} {v : Int32} : zup D a k v a = upd (D a) k v := by
  funext j; simp [zup, upd]
/-- a class of ours, by its place in zcl -/
def zcls (ci : Nat) (C0 : String) (T : u_T) (n : Nat) (ty : Nat → FieldType) : Prop := zcl[ci]? = some (C0, T, n) ∧ (∀ w ∈ u_ws C0 T n, w ∈ zWd) ∧ (∀ a, a < n → ∀ b, b < n → a ≠ b → (T a).2.1 ≠ (T b).2.1) ∧ ∀ k, k < n → parseFieldDescriptor (T k).2.2.1 = some (ty k)
/-- a field link of a class's pool -/
def zfl (own : String) (idx ci j : Nat) (ft : FieldType) (fin : Bool) : Prop := ∃ (C0 : String) (T : u_T) (n : Nat) (ty : Nat → FieldType), zcls ci C0 T n ty ∧ j < n ∧ Cond.fieldLink own idx (T j).1 (T j).2.1 (T j).2.2.1 ∈ zWd ∧ parseFieldDescriptor (T j).2.2.1 = some ft ∧ (T j).2.2.2 = fin ∧ (T j).1 = C0
section ZG
variable {β : Type} {K : zK} {Y : zY} {N mc ms : Nat} {q : β → zO → zT → zD → Prop} {res : Option β} {kc ks : Nat} {z : zT} {D : zD} {pc : Nat} {lv : List (Nat × Value)} {st : List Value}
theorem z_getI {idx ci j a : Nat} {fin : Bool} {k : Int32 → Option β} (hf : zfl Y.1.cls idx ci j .int fin) (hdg : decode Y.2.1 pc = .ok (.getfield idx, 3)) (kk : ∀ v, zGO K Y N mc ms q (k v) kc ks z D (pc + 3) lv (.int v :: st)) : zGO K Y N mc ms q (zfld z.2 D ci j a k) kc ks z D pc lv (.ref a :: st) := by
  intro r hr p l e s m args below meth c H locs cells slots ls C hH hL hv h1 h2
  obtain ⟨C0, T, n, ty, ⟨hc, hin, hnm, hty⟩, hj, hlink, hft, hfin, hC0⟩ := hf
  unfold zfld at hr
  split at hr
  · rename_i x hx
    split at hr
    · rename_i hcj
      obtain ⟨rfl, hj0⟩ := hcj
      obtain ⟨⟨r', hr', cell, q1, q2, q3, q4⟩, -⟩ := hH.2.2.2.2 a _ hx
      cases hr'.symm.trans hc
      obtain ⟨hS, hfc, kC, hkC, hkind⟩ := (zc_K C).1 _ _ hc
      obtain ⟨cf, kf, fi, f, hi, hsl⟩ := hS j hj
      refine W.getf C.1 C.2.1 (zc_own C) (zc_word C hlink args) hi (u_facts hfc hkC (u_lays (fun w hw => zc_word C hw args) hin hj) hi).1 q1 (by rw [q3]; exact fun h => by cases h) (v := .int (D a j)) ?_ rfl rfl hdg (kk _ r hr p l e s m args below meth c H locs cells slots ls C hH hL hv h1 h2)
      rw [hsl, q4 j hj]
      simp [zV, hj0]
    · cases hr
  · cases hr
theorem z_getR {idx ci j a : Nat} {ft : FieldType} {fin : Bool} {k : Nat → Option β} (hf : zfl Y.1.cls idx ci j ft fin) (hdg : decode Y.2.1 pc = .ok (.getfield idx, 3)) (kk : ∀ v, zGO K Y N mc ms q (k v) kc ks z D (pc + 3) lv (.ref v :: st)) : zGO K Y N mc ms q (zref z.2 ci j a k) kc ks z D pc lv (.ref a :: st) := by
  intro r hr p l e s m args below meth c H locs cells slots ls C hH hL hv h1 h2
  obtain ⟨C0, T, n, ty, ⟨hc, hin, hnm, hty⟩, hj, hlink, hft, hfin, hC0⟩ := hf
  unfold zref at hr
  split at hr
  · rename_i x hx
    split at hr
    · rename_i hci
      subst hci
      split at hr
      · rename_i v hj0
        obtain ⟨⟨r', hr', cell, q1, q2, q3, q4⟩, -⟩ := hH.2.2.2.2 a _ hx
        cases hr'.symm.trans hc
        obtain ⟨hS, hfc, kC, hkC, hkind⟩ := (zc_K C).1 _ _ hc
        obtain ⟨cf, kf, fi, f, hi, hsl⟩ := hS j hj
        refine W.getf C.1 C.2.1 (zc_own C) (zc_word C hlink args) hi (u_facts hfc hkC (u_lays (fun w hw => zc_word C hw args) hin hj) hi).1 q1 (by rw [q3]; exact fun h => by cases h) (v := .ref v) ?_ rfl rfl hdg (kk _ r hr p l e s m args below meth c H locs cells slots ls C hH hL hv h1 h2)
        rw [hsl, q4 j hj]
        simp [zV, hj0]
      · cases hr
    · cases hr
  · cases hr
theorem z_putI {idx ci j a : Nat} {v : Int32} {k : zD → Option β} (hf : zfl Y.1.cls idx ci j .int false) (hdg : decode Y.2.1 pc = .ok (.putfield idx, 3)) (kk : ∀ D', zGO K Y N mc ms q (k D') kc ks z D' (pc + 3) lv st) : zGO K Y N mc ms q (zput z.2 D ci j a v k) kc ks z D pc lv (.int v :: .ref a :: st) := by
  intro r hr p l e s m args below meth c H locs cells slots ls C hH hL hv h1 h2
  obtain ⟨C0, T, n, ty, ⟨hc, hin, hnm, hty⟩, hj, hlink, hft, hfin, hC0⟩ := hf
  unfold zput at hr
  split at hr
  · rename_i x hx
    split at hr
    · rename_i hcj
      obtain ⟨rfl, hj0⟩ := hcj
      obtain ⟨⟨r', hr', cell, q1, q2, q3, q4⟩, -⟩ := hH.2.2.2.2 a _ hx
      cases hr'.symm.trans hc
      have hts : ∀ w ∈ zWd, w.before args s = true := fun w hw => zc_word C hw args
      have hap := va_apart (own := Y.1.cls) hts hin ty hty hnm (zc_K C) hc
      obtain ⟨hS, hfc, kC, hkC, hkind⟩ := (zc_K C).1 _ _ hc
      obtain ⟨cf, kf, fi, f, hi, hsl⟩ := hS j hj
      have hlay := hts _ (hin _ (u_in_lay hj))
      unfold u_lay at hlay
      rw [if_neg (by rw [hfin]; decide)] at hlay
      have hst := (u_facts hfc hkC (u_lays hts hin hj) hi).1
      have h6 := u_store (v := .int v) hfc hkC hkind hlay hi hft rfl rfl
      refine W.putK C.1 C.2.1 (f := f) ⟨zc_own C, hts _ hlink, ⟨_, _, _, hi⟩, hst⟩ (by rw [q2]; exact h6) q1 q3 (by rw [hsl]; exact k2_hasslot (q4 j hj)) rfl rfl hdg fun H' e1 e2 e3 => ?_
      rw [hsl] at e1 ⊢
      have hb := hH.base hx trivial
      refine kk _ r hr p l e s m args below meth c H' _ cells slots ls C (hH.write (z' := z) (D' := zup D a j v) hx trivial rfl rfl hx trivial (fun _ _ => rfl) (fun q hq => zup_ne hq) (fun _ _ => rfl) e2 e3 ⟨_, hc, ?_⟩) (z_lc hL hb) hv h1 h2
      refine t_OB.to (V := updV (zV x.2 (D a)) j (.int v)) ⟨_, e1, q2, q3, t_set q4 hap hj (.int v)⟩ (fun i hi => ?_)
      by_cases hij : i = j
      · subst hij
        simp [updV, zV, hj0, zup]
      · simp only [updV, if_neg hij]
        simp [zV, zup, hij]
    · cases hr
  · cases hr
theorem z_iaload {a : Nat} {i : Int32} {k : Int32 → Option β} (hdg : decode Y.2.1 pc = .ok (.iaload, 1)) (kk : ∀ v, zGO K Y N mc ms q (k v) kc ks z D (pc + 1) lv (.int v :: st)) : zGO K Y N mc ms q (zald z.2 D 0 a i k) kc ks z D pc lv (.int i :: .ref a :: st) := by
  intro r hr p l e s m args below meth c H locs cells slots ls C hH hL hv h1 h2
  unfold zald at hr
  split at hr
  · rename_i x hx
    obtain ⟨t, n⟩ := x
    split at hr
    · rename_i hcj
      obtain ⟨ht, hin⟩ := hcj
      cases ht
      have hA : H[a]? = some (vp_cell (K.2.2.1 0) (n, .inl (D a))) := (hH.2.2.2.2 a _ hx).1
      have hlt : i.toNatClampNeg < n := Nat.not_le.mp fun q => hin (Or.inr q)
      exact W.iald (v := .int (D a i.toNatClampNeg)) C.1 C.2.1 hA (((zc_K C).2 0 _ rfl).1 n (fun j => .int (D a j))) (fun q => by cases q) (by show ¬ (i < 0 ∨ (arrV _ _ _).slots.size ≤ _); rw [arrV_size]; exact hin) (by show (arrV _ _ _).slots[_]? = _; rw [arrV_read _ _ hlt]) rfl rfl hdg (kk _ r hr p l e s m args below meth c H locs cells slots ls C hH hL hv h1 h2)
    · cases hr
  · cases hr
theorem z_caload {a : Nat} {i : Int32} {k : Int32 → Option β} (hdg : decode Y.2.1 pc = .ok (.caload, 1)) (kk : ∀ v, zGO K Y N mc ms q (k v) kc ks z D (pc + 1) lv (.int v :: st)) : zGO K Y N mc ms q (zald z.2 D 1 a i k) kc ks z D pc lv (.int i :: .ref a :: st) := by
  intro r hr p l e s m args below meth c H locs cells slots ls C hH hL hv h1 h2
  unfold zald at hr
  split at hr
  · rename_i x hx
    obtain ⟨t, n⟩ := x
    split at hr
    · rename_i hcj
      obtain ⟨ht, hin⟩ := hcj
      cases ht
      have hA : H[a]? = some (vp_cell (K.2.2.1 1) (n, .inl (D a))) := (hH.2.2.2.2 a _ hx).1
      have hlt : i.toNatClampNeg < n := Nat.not_le.mp fun q => hin (Or.inr q)
      exact W.cald (v := .int (D a i.toNatClampNeg)) C.1 C.2.1 hA (((zc_K C).2 1 _ rfl).1 n (fun j => .int (D a j))) (fun q => by cases q) (by show ¬ (i < 0 ∨ (arrV _ _ _).slots.size ≤ _); rw [arrV_size]; exact hin) (by show (arrV _ _ _).slots[_]? = _; rw [arrV_read _ _ hlt]) rfl rfl hdg (kk _ r hr p l e s m args below meth c H locs cells slots ls C hH hL hv h1 h2)
    · cases hr
  · cases hr
theorem z_baload {a : Nat} {i : Int32} {k : Int32 → Option β} (hdg : decode Y.2.1 pc = .ok (.baload, 1)) (kk : ∀ v, zGO K Y N mc ms q (k v) kc ks z D (pc + 1) lv (.int v :: st)) : zGO K Y N mc ms q (zald z.2 D 2 a i k) kc ks z D pc lv (.int i :: .ref a :: st) := by
  intro r hr p l e s m args below meth c H locs cells slots ls C hH hL hv h1 h2
  unfold zald at hr
  split at hr
  · rename_i x hx
    obtain ⟨t, n⟩ := x
    split at hr
    · rename_i hcj
      obtain ⟨ht, hin⟩ := hcj
      cases ht
      have hA : H[a]? = some (vp_cell (K.2.2.1 2) (n, .inl (D a))) := (hH.2.2.2.2 a _ hx).1.1
      have hlt : i.toNatClampNeg < n := Nat.not_le.mp fun q => hin (Or.inr q)
      exact W.zald (v := .int (D a i.toNatClampNeg)) C.1 C.2.1 hA (((zc_K C).2 2 _ rfl).1 n (fun j => .int (D a j))) (fun q => by cases q) (by show ¬ (i < 0 ∨ (arrV _ _ _).slots.size ≤ _); rw [arrV_size]; exact hin) (by show (arrV _ _ _).slots[_]? = _; rw [arrV_read _ _ hlt]) rfl rfl hdg (kk _ r hr p l e s m args below meth c H locs cells slots ls C hH hL hv h1 h2)
    · cases hr
  · cases hr
theorem z_iastore {a : Nat} {i v : Int32} {k : zD → Option β} (hdg : decode Y.2.1 pc = .ok (.iastore, 1)) (kk : ∀ D', zGO K Y N mc ms q (k D') kc ks z D' (pc + 1) lv st) : zGO K Y N mc ms q (zast z.2 D 0 a i v k) kc ks z D pc lv (.int v :: .int i :: .ref a :: st) := by
  intro r hr p l e s m args below meth c H locs cells slots ls C hH hL hv h1 h2
  unfold zast at hr
  split at hr
  · rename_i x hx
    obtain ⟨t, n⟩ := x
    split at hr
    · rename_i hcj
      obtain ⟨ht, hin⟩ := hcj
      cases ht
      have hA : H[a]? = some (vp_cell (K.2.2.1 0) (n, .inl (D a))) := (hH.2.2.2.2 a _ hx).1
      have hw : zWr (.inl (0, n)) := by show (0 : Nat) < 4; decide
      refine W.iast C.1 C.2.1 hA (((zc_K C).2 0 _ rfl).1 n (fun j => .int (D a j))) (fun q => by cases q) (by show ¬ (i < 0 ∨ (arrV _ _ _).slots.size ≤ _); rw [arrV_size]; exact hin) rfl rfl hdg fun H1 e1 e2 e3 => ?_
      refine kk _ r hr p l e s m args below meth c H1 _ cells slots ls C (hH.write (z' := z) (D' := zup D a i.toNatClampNeg v) hx hw rfl rfl hx hw (fun _ _ => rfl) (fun q hq => zup_ne hq) (fun _ _ => rfl) e2 e3 ?_) (z_lc hL (hH.base hx hw)) hv h1 h2
      show H1[a]? = some (vp_cell _ _)
      rw [e1, zup_self, vp_cell_i, vp_cell_i, arrV_store]
      congr 2
      funext q
      by_cases hq : q = i.toNatClampNeg
      · subst hq
        simp [updV, upd]
      · simp [updV, upd, hq]
    · cases hr
  · cases hr
theorem z_castore {a : Nat} {i v : Int32} {k : zD → Option β} (hdg : decode Y.2.1 pc = .ok (.castore, 1)) (kk : ∀ D', zGO K Y N mc ms q (k D') kc ks z D' (pc + 1) lv st) : zGO K Y N mc ms q (zast z.2 D 1 a i (vp_nar .char v) k) kc ks z D pc lv (.int v :: .int i :: .ref a :: st) := by
  intro r hr p l e s m args below meth c H locs cells slots ls C hH hL hv h1 h2
  unfold zast at hr
  split at hr
  · rename_i x hx
    obtain ⟨t, n⟩ := x
    split at hr
    · rename_i hcj
      obtain ⟨ht, hin⟩ := hcj
      cases ht
      have hA : H[a]? = some (vp_cell (K.2.2.1 1) (n, .inl (D a))) := (hH.2.2.2.2 a _ hx).1
      have hw : zWr (.inl (1, n)) := by show (1 : Nat) < 4; decide
      refine W.cast C.1 C.2.1 hA (((zc_K C).2 1 _ rfl).1 n (fun j => .int (D a j))) (fun q => by cases q) (by show ¬ (i < 0 ∨ (arrV _ _ _).slots.size ≤ _); rw [arrV_size]; exact hin) rfl rfl hdg fun H1 e1 e2 e3 => ?_
      refine kk _ r hr p l e s m args below meth c H1 _ cells slots ls C (hH.write (z' := z) (D' := zup D a i.toNatClampNeg (vp_nar .char v)) hx hw rfl rfl hx hw (fun _ _ => rfl) (fun q hq => zup_ne hq) (fun _ _ => rfl) e2 e3 ?_) (z_lc hL (hH.base hx hw)) hv h1 h2
      show H1[a]? = some (vp_cell _ _)
      rw [e1, zup_self, vp_cell_i, vp_cell_i, arrV_store]
      congr 2
      funext q
      by_cases hq : q = i.toNatClampNeg
      · subst hq
        simp [updV, upd, vp_nar]
        try rfl
      · simp [updV, upd, hq]
    · cases hr
  · cases hr
theorem z_and1 (x : Int32) : vp_nar .boolean x = 0 ∨ vp_nar .boolean x = 1 := by
  show x &&& 1 = 0 ∨ x &&& 1 = 1
  have h : (x &&& 1).toBitVec = x.toBitVec &&& 1#32 := rfl
  rw [BitVec.and_one_eq_setWidth_ofBool_getLsbD] at h
  cases hb : x.toBitVec.getLsbD 0
  · left
    apply Int32.toBitVec_inj.mp
    rw [h, hb]; rfl
  · right
    apply Int32.toBitVec_inj.mp
    rw [h, hb]; rfl
theorem z_bastore {a : Nat} {i v : Int32} {k : zD → Option β} (hdg : decode Y.2.1 pc = .ok (.bastore, 1)) (kk : ∀ D', zGO K Y N mc ms q (k D') kc ks z D' (pc + 1) lv st) : zGO K Y N mc ms q (zast z.2 D 2 a i (vp_nar .boolean v) k) kc ks z D pc lv (.int v :: .int i :: .ref a :: st) := by
  intro r hr p l e s m args below meth c H locs cells slots ls C hH hL hv h1 h2
  unfold zast at hr
  split at hr
  · rename_i x hx
    obtain ⟨t, n⟩ := x
    split at hr
    · rename_i hcj
      obtain ⟨ht, hin⟩ := hcj
      cases ht
      obtain ⟨hA, hb⟩ : H[a]? = some (vp_cell (K.2.2.1 2) (n, .inl (D a))) ∧ ∀ j, j < n → D a j = 0 ∨ D a j = 1 := (hH.2.2.2.2 a _ hx).1
      have hw : zWr (.inl (2, n)) := by show (2 : Nat) < 4; decide
      refine W.zast C.1 C.2.1 hA (((zc_K C).2 2 _ rfl).1 n (fun j => .int (D a j))) (fun q => by cases q) (by show ¬ (i < 0 ∨ (arrV _ _ _).slots.size ≤ _); rw [arrV_size]; exact hin) rfl rfl hdg fun H1 e1 e2 e3 => ?_
      refine kk _ r hr p l e s m args below meth c H1 _ cells slots ls C (hH.write (z' := z) (D' := zup D a i.toNatClampNeg (vp_nar .boolean v)) hx hw rfl rfl hx hw (fun _ _ => rfl) (fun q hq => zup_ne hq) (fun _ _ => rfl) e2 e3 ⟨?_, fun j hj => ?_⟩) (z_lc hL (hH.base hx hw)) hv h1 h2
      · show H1[a]? = some (vp_cell _ _)
        rw [e1, zup_self, vp_cell_i, vp_cell_i, arrV_store]
        congr 2
        funext q
        by_cases hq : q = i.toNatClampNeg
        · subst hq
          simp [updV, upd, vp_nar]
          try rfl
        · simp [updV, upd, hq]
      · rw [zup_self]
        unfold upd
        split
        · exact z_and1 v
        · exact hb j hj
    · cases hr
  · cases hr
theorem z_alen {a : Nat} {k : Int32 → Option β} (hdg : decode Y.2.1 pc = .ok (.arraylength, 1)) (kk : ∀ v, zGO K Y N mc ms q (k v) kc ks z D (pc + 1) lv (.int v :: st)) : zGO K Y N mc ms q (zlen z.2 0 a k) kc ks z D pc lv (.ref a :: st) := by
  intro r hr p l e s m args below meth c H locs cells slots ls C hH hL hv h1 h2
  unfold zlen at hr
  split at hr
  · rename_i x hx
    obtain ⟨t, n⟩ := x
    split at hr
    · rename_i ht
      cases ht
      have hA : H[a]? = some (vp_cell (K.2.2.1 0) (n, .inl (D a))) := (hH.2.2.2.2 a _ hx).1
      exact W.alen (n := Int32.ofNat n) C.1 C.2.1 hA (((zc_K C).2 0 _ rfl).1 n (fun j => .int (D a j))) (by rw [vp_cell_i, arrV_size] <;> rfl) rfl rfl hdg (kk _ r hr p l e s m args below meth c H locs cells slots ls C hH hL hv h1 h2)
    · cases hr
  · cases hr
theorem z_aaload {a : Nat} {i : Int32} {k : Nat → Option β} (hdg : decode Y.2.1 pc = .ok (.aaload, 1)) (kk : ∀ v, zGO K Y N mc ms q (k v) kc ks z D (pc + 1) lv (.ref v :: st)) : zGO K Y N mc ms q (zald4 z.2 a i k) kc ks z D pc lv (.int i :: .ref a :: st) := by
  intro r hr p l e s m args below meth c H locs cells slots ls C hH hL hv h1 h2
  unfold zald4 at hr
  split at hr
  · rename_i x hx
    obtain ⟨n, f⟩ := x
    split at hr
    · rename_i hin
      split at hr
      · rename_i v hfv
        have hA : H[a]? = some (vp_cell (K.2.2.1 4) (n, .inr (.inr (.inr (.inr f))))) := (hH.2.2.2.2 a _ hx).1
        have hlt : i.toNatClampNeg < n := Nat.not_le.mp fun q => hin (Or.inr q)
        refine W.aald (v := .ref v) (ty := .object "SirenFair$Field") C.1 C.2.1 hA (((zc_K C).2 4 _ rfl).1 n (fun j => va_rf (f j))) rfl (fun q => by cases q) (by show ¬ (i < 0 ∨ (arrV _ _ _).slots.size ≤ _); rw [arrV_size]; exact hin) ?_ rfl rfl hdg (kk _ r hr p l e s m args below meth c H locs cells slots ls C hH hL hv h1 h2)
        show (arrV _ _ _).slots[_]? = _
        rw [arrV_read _ _ hlt]
        have hfv' : f i.toNatClampNeg = some v := hfv
        rw [hfv']
        rfl
      · cases hr
    · cases hr
  · cases hr
end ZG
