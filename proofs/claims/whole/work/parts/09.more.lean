section ZR2
variable {β : Type} {K : zK} {Y : zY} {N mc ms : Nat} {q : β → zO → zT → zD → Prop} {res : Option β} {kc ks : Nat} {z : zT} {D : zD} {pc : Nat} {lv : List (Nat × Value)} {st : List Value}
theorem z_leti {v : Int32} {f : Int32 → Option β} (k : ∀ x, zGO K Y N mc ms q (f x) kc ks z D pc lv (.int x :: st)) : zGO K Y N mc ms q (zlet v f) kc ks z D pc lv (.int v :: st) := k v
theorem z_letl {v : Int64} {f : Int64 → Option β} (k : ∀ x, zGO K Y N mc ms q (f x) kc ks z D pc lv (.long x :: st)) : zGO K Y N mc ms q (zlet v f) kc ks z D pc lv (.long v :: st) := k v
theorem z_lvc {lv2 : List (Nat × Value)} (h : lv = lv2) (k : zGO K Y N mc ms q res kc ks z D pc lv2 st) : zGO K Y N mc ms q res kc ks z D pc lv st := h ▸ k
theorem z_iincL {i : Nat} {n : Int} {x w : Int32} {f : Int32 → Option β} (hdg : decode Y.2.1 pc = .ok (.iinc i n, 3)) (hw : Int32.ofInt n = w) (j : Nat) (hk : lv[j]? = some (i, .int x)) (hn : i < Y.2.2.1) (kk : ∀ y, zGO K Y N mc ms q (f y) kc ks z D (pc + 3) ((i, Value.int y) :: lv.filter (fun q => !(q.1 == i) && !(q.1 + 1 == i && q.2.category == 2))) st) : zGO K Y N mc ms q (zlet (x + w) f) kc ks z D pc lv st := by
  subst hw
  exact z_iinc hdg j hk rfl hn rfl (kk _)
theorem z_neI {x v : Int32} {n : Int} (h : ¬ x = v) (hv : v.toInt = n) : x.toInt ≠ n := fun q => h (Int32.toInt_inj.mp (q.trans hv.symm))
theorem z_ldc {i : Nat} {v : Int32} (hw : Cond.constant Y.1.cls i v ∈ zWd) (hdg : decode Y.2.1 pc = .ok (.ldc i, 2)) (k : zGO K Y N mc ms q res kc ks z D (pc + 2) lv (.int v :: st)) : zGO K Y N mc ms q res kc ks z D pc lv st := fun r hr p l e s m args below meth c H locs cells slots ls C hH hL hv h1 h2 => lv_ldc C.1 C.2.1 (zc_own C) (zc_word C hw args) hdg (k r hr p l e s m args below meth c H locs cells slots ls C hH hL hv h1 h2)
theorem z_ldcw {i : Nat} {v : Int32} (hw : Cond.constant Y.1.cls i v ∈ zWd) (hdg : decode Y.2.1 pc = .ok (.ldc_w i, 3)) (k : zGO K Y N mc ms q res kc ks z D (pc + 3) lv (.int v :: st)) : zGO K Y N mc ms q res kc ks z D pc lv st := fun r hr p l e s m args below meth c H locs cells slots ls C hH hL hv h1 h2 => lv_ldcw C.1 C.2.1 (zc_own C) (zc_word C hw args) hdg (k r hr p l e s m args below meth c H locs cells slots ls C hH hL hv h1 h2)
theorem z_ldc2 {i : Nat} {v : Int64} (hw : Cond.constantLong Y.1.cls i v ∈ zWd) (hdg : decode Y.2.1 pc = .ok (.ldc2_w i, 3)) (k : zGO K Y N mc ms q res kc ks z D (pc + 3) lv (.long v :: st)) : zGO K Y N mc ms q res kc ks z D pc lv st := fun r hr p l e s m args below meth c H locs cells slots ls C hH hL hv h1 h2 => lv_ldc2 C.1 C.2.1 (zc_own C) (zc_word C hw args) hdg (k r hr p l e s m args below meth c H locs cells slots ls C hH hL hv h1 h2)
theorem z_zretK {x : Int32} (hdg : decode Y.2.1 pc = .ok (.ireturn, 1)) (hret : Y.2.2.2.1 = some .boolean) (hx : x = 0 ∨ x = 1) : zGO K Y N mc ms (zqI z) (some (x, D)) kc ks z D pc lv [.int x] := by
  intro r hr
  exact z_zret hdg hret r ((if_pos hx).trans hr)
theorem zin {w : Cond} (i : Nat) (h : lw_tbl[i]? = some w) (hg : zgood w = true) : w ∈ zWd := List.mem_filter.mpr ⟨List.mem_of_getElem? h, hg⟩
theorem z_defs {n : Nat} {ty : Nat → FieldType} {fs : List (Option (Option Nat))} (h : (List.range n).all (fun j => decide (defaultValue (ty j) = zV fs (fun _ => 0) j)) = true) : ∀ j, j < n → defaultValue (ty j) = zV fs (fun _ => 0) j := fun j hj => of_decide_eq_true (List.all_eq_true.mp h j (List.mem_range.mpr hj))
end ZR2
