section ZN
variable {β : Type} {K : zK} {Y Y2 : zY} {N mc ms N2 mc2 ms2 idx n : Nat} {q : β → zO → zT → zD → Prop} {res : Option β} {kc ks kc2 ks2 : Nat} {z : zT} {D : zD} {pc : Nat} {lv : List (Nat × Value)} {st st0 : List Value}
theorem zclr_ne {D : zD} {a q : Nat} (h : q ≠ a) : zclr D a q = D q := by
  funext j; simp [zclr, h]
theorem zclr_self {D : zD} {a : Nat} : zclr D a a = fun _ => 0 := by
  funext j; simp [zclr]
/-- one new cell -/
theorem zH.push {H H1 : Heap} {e : zS} (hH : zH K z D H) (hz : H1.size = H.size + 1) (hq : ∀ q, q < H.size → H1[q]? = H[q]?) (ha : zAt K H.size e (fun _ => 0) (fun _ => 0) H1) : zH K (zadd z e) (zclr D z.1) H1 := by
  obtain ⟨h1, h2, h3, h4, h5⟩ := hH
  refine ⟨by rw [hz, h1]; rfl, by omega, fun q hl => ?_, h4, fun q x hx => ?_⟩
  · rw [hq q (by omega)]; exact h3 q hl
  · by_cases hqa : q = z.1
    · subst hqa
      have hx' : (if z.1 = z.1 then some e else z.2.1 z.1) = some x := hx
      rw [if_pos rfl] at hx'
      cases hx'
      refine ⟨?_, fun _ => by omega⟩
      rw [zclr_self]
      show zAt K z.1 e (fun _ => 0) (fun j => if z.1 = z.1 then 0 else z.2.2.1 z.1 j) H1
      simp only [if_true]
      rw [← h1]; exact ha
    · have hx' : (if q = z.1 then some e else z.2.1 q) = some x := hx
      rw [if_neg hqa] at hx'
      obtain ⟨g1, g2⟩ := h5 q x hx'
      refine ⟨?_, g2⟩
      rw [zclr_ne hqa]
      show zAt K q x (D q) (fun j => if q = z.1 then 0 else z.2.2.1 q j) H1
      simp only [if_neg hqa]
      exact g1.kept (hq q g1.lt)
theorem z_new {ci nn : Nat} {C0 : String} {T : u_T} {ty : Nat → FieldType} {fs0 : List (Option (Option Nat))} {k : Nat → zT → zD → Option β} (hc : zcls ci C0 T nn ty) (hcl : Cond.classLink Y.1.cls idx C0 ∈ zWd) (hinst : Cond.instantiable C0 nn ∈ zWd) (hini : Cond.initialized C0 ∈ zWd) (hfs : ∀ j, j < nn → defaultValue (ty j) = zV fs0 (fun _ => 0) j) (hkc : 1 + kc2 ≤ kc) (hks : nn + ks2 ≤ ks)
    (hdg : decode Y.2.1 pc = .ok (.new idx, 3)) (kk : ∀ v z' D', zGO K Y N mc ms q (k v z' D') kc2 ks2 z' D' (pc + 3) lv (.ref v :: st)) : zGO K Y N mc ms q (znew z D (.inr (.inr (ci, fs0))) k) kc ks z D pc lv st := by
  intro r hr p l e s m args below meth c H locs cells slots ls C hH hL hv h1 h2
  obtain ⟨hc, hin, hnm, hty⟩ := hc
  have hKn := (zc_K C).1 _ _ hc
  refine W.newcK C.1 C.2.1 (zc_own C) (zc_word C hcl args) (zc_word C hinst args) (zc_word C hini args) rfl hdg (by show _ ≤ mc; omega) (by show _ ≤ ms; omega) hKn.2.1 rfl fun H1 kC hkC e1 z1 o1 => ?_
  have hsz : H.size = z.1 := hH.1
  rw [hsz]
  refine kk _ _ _ r hr p l e s m args below meth c H1 locs (cells + 1) (slots + nn) ls C (hH.push z1 o1 ⟨_, hc, ?_⟩) hL hv (by omega) (by omega)
  exact (u_born ty (fun w hw => zc_word C hw args) hin hKn hkC e1 hty).to hfs
theorem z_newI {v : Int32} {n : Nat} {k : Nat → zT → zD → Option β} (hw : Cond.arrayClass .int ∈ zWd) (hn0 : ¬ v < 0) (hn : v.toNatClampNeg = n) (hb : n * componentBytes (newarray.typeOf .int) ≤ 536870912) (hkc : 1 + kc2 ≤ kc) (hks : n + ks2 ≤ ks) (hdg : decode Y.2.1 pc = .ok (.newarray .int, 2)) (kk : ∀ v z' D', zGO K Y N mc ms q (k v z' D') kc2 ks2 z' D' (pc + 2) lv (.ref v :: st)) : zGO K Y N mc ms q (znew z D (.inl (0, n)) k) kc ks z D pc lv (.int v :: st) := by
  intro r hr p l e s m args below meth c H locs cells slots ls C hH hL hv h1 h2
  refine va_newaK (atype := .int) C.1 C.2.1 (zc_word C hw args) rfl hdg rfl hn0 hn hb (by show _ ≤ mc; omega) (by show _ ≤ ms; omega) rfl fun H1 cA e1 z1 o1 hAr hNm => ?_
  have hsz : H.size = z.1 := hH.1
  have hcA : cA = K.2.2.1 0 := Option.some.inj (hNm.symm.trans ((zc_K C).2 0 _ rfl).2)
  subst hcA
  rw [hsz]
  exact kk _ _ _ r hr p l e s m args below meth c H1 locs (cells + 1) (slots + n) ls C (hH.push z1 o1 (show H1[H.size]? = some (vp_cell _ _) from e1)) hL hv (by omega) (by omega)
theorem z_newC {v : Int32} {n : Nat} {k : Nat → zT → zD → Option β} (hw : Cond.arrayClass .char ∈ zWd) (hn0 : ¬ v < 0) (hn : v.toNatClampNeg = n) (hb : n * componentBytes (newarray.typeOf .char) ≤ 536870912) (hkc : 1 + kc2 ≤ kc) (hks : n + ks2 ≤ ks) (hdg : decode Y.2.1 pc = .ok (.newarray .char, 2)) (kk : ∀ v z' D', zGO K Y N mc ms q (k v z' D') kc2 ks2 z' D' (pc + 2) lv (.ref v :: st)) : zGO K Y N mc ms q (znew z D (.inl (1, n)) k) kc ks z D pc lv (.int v :: st) := by
  intro r hr p l e s m args below meth c H locs cells slots ls C hH hL hv h1 h2
  refine va_newaK (atype := .char) C.1 C.2.1 (zc_word C hw args) rfl hdg rfl hn0 hn hb (by show _ ≤ mc; omega) (by show _ ≤ ms; omega) rfl fun H1 cA e1 z1 o1 hAr hNm => ?_
  have hsz : H.size = z.1 := hH.1
  have hcA : cA = K.2.2.1 1 := Option.some.inj (hNm.symm.trans ((zc_K C).2 1 _ rfl).2)
  subst hcA
  rw [hsz]
  exact kk _ _ _ r hr p l e s m args below meth c H1 locs (cells + 1) (slots + n) ls C (hH.push z1 o1 (show H1[H.size]? = some (vp_cell _ _) from e1)) hL hv (by omega) (by omega)
theorem z_newB {v : Int32} {n : Nat} {k : Nat → zT → zD → Option β} (hw : Cond.arrayClass .boolean ∈ zWd) (hn0 : ¬ v < 0) (hn : v.toNatClampNeg = n) (hb : n * componentBytes (newarray.typeOf .boolean) ≤ 536870912) (hkc : 1 + kc2 ≤ kc) (hks : n + ks2 ≤ ks) (hdg : decode Y.2.1 pc = .ok (.newarray .boolean, 2)) (kk : ∀ v z' D', zGO K Y N mc ms q (k v z' D') kc2 ks2 z' D' (pc + 2) lv (.ref v :: st)) : zGO K Y N mc ms q (znew z D (.inl (2, n)) k) kc ks z D pc lv (.int v :: st) := by
  intro r hr p l e s m args below meth c H locs cells slots ls C hH hL hv h1 h2
  refine va_newaK (atype := .boolean) C.1 C.2.1 (zc_word C hw args) rfl hdg rfl hn0 hn hb (by show _ ≤ mc; omega) (by show _ ≤ ms; omega) rfl fun H1 cA e1 z1 o1 hAr hNm => ?_
  have hsz : H.size = z.1 := hH.1
  have hcA : cA = K.2.2.1 2 := Option.some.inj (hNm.symm.trans ((zc_K C).2 2 _ rfl).2)
  subst hcA
  rw [hsz]
  exact kk _ _ _ r hr p l e s m args below meth c H1 locs (cells + 1) (slots + n) ls C (hH.push z1 o1 ⟨show H1[H.size]? = some (vp_cell _ _) from e1, fun _ _ => Or.inl rfl⟩) hL hv (by omega) (by omega)
theorem z_newL {v : Int32} {n : Nat} {k : Nat → zT → zD → Option β} (hw : Cond.arrayClass .long ∈ zWd) (hn0 : ¬ v < 0) (hn : v.toNatClampNeg = n) (hb : n * componentBytes (newarray.typeOf .long) ≤ 536870912) (hkc : 1 + kc2 ≤ kc) (hks : n + ks2 ≤ ks) (hdg : decode Y.2.1 pc = .ok (.newarray .long, 2)) (kk : ∀ v z' D', zGO K Y N mc ms q (k v z' D') kc2 ks2 z' D' (pc + 2) lv (.ref v :: st)) : zGO K Y N mc ms q (znew z D (.inl (3, n)) k) kc ks z D pc lv (.int v :: st) := by
  intro r hr p l e s m args below meth c H locs cells slots ls C hH hL hv h1 h2
  refine va_newaK (atype := .long) C.1 C.2.1 (zc_word C hw args) rfl hdg rfl hn0 hn hb (by show _ ≤ mc; omega) (by show _ ≤ ms; omega) rfl fun H1 cA e1 z1 o1 hAr hNm => ?_
  have hsz : H.size = z.1 := hH.1
  have hcA : cA = K.2.2.1 3 := Option.some.inj (hNm.symm.trans ((zc_K C).2 3 _ rfl).2)
  subst hcA
  rw [hsz]
  exact kk _ _ _ r hr p l e s m args below meth c H1 locs (cells + 1) (slots + n) ls C (hH.push z1 o1 (show H1[H.size]? = some (vp_cell _ _) from e1)) hL hv (by omega) (by omega)
theorem z_anew {v : Int32} {n : Nat} {k : Nat → zT → zD → Option β} (hcl : Cond.classLink Y.1.cls idx "SirenFair$Field" ∈ zWd) (hw : Cond.arrayOver (.object "SirenFair$Field") ∈ zWd) (hn0 : ¬ v < 0) (hn : v.toNatClampNeg = n) (hb : n * 4 ≤ 536870912) (hkc : 1 + kc2 ≤ kc) (hks : n + ks2 ≤ ks) (hdg : decode Y.2.1 pc = .ok (.anewarray idx, 3)) (kk : ∀ v z' D', zGO K Y N mc ms q (k v z' D') kc2 ks2 z' D' (pc + 3) lv (.ref v :: st)) : zGO K Y N mc ms q (znew z D (.inr (.inl (n, fun _ => none))) k) kc ks z D pc lv (.int v :: st) := by
  intro r hr p l e s m args below meth c H locs cells slots ls C hH hL hv h1 h2
  subst hn
  refine W.anew C.1 C.2.1 (zc_own C) (zc_word C hcl args) (zc_word C hw args) rfl hdg rfl hn0 hb (by show _ ≤ mc; omega) (by show _ ≤ ms; omega) fun cA kA comp g1 g2 g3 g4 => ?_
  have hsz : H.size = z.1 := hH.1
  obtain ⟨kA', comp', -, -, -, k4⟩ := ((zc_K C).2 4 _ rfl).2
  have hcA : cA = K.2.2.1 4 := Option.some.inj (g1.symm.trans k4)
  subst hcA
  rw [hsz]
  refine kk _ _ _ r hr p l e s m args below meth c _ locs (cells + 1) (slots + v.toNatClampNeg) ls C (hH.push (by simp) (fun q hq => by rw [Array.getElem?_push, if_neg (Nat.ne_of_lt hq)]) ?_) hL hv (by omega) (by omega)
  show (H.push _)[H.size]? = some (arrV (K.2.2.1 4) v.toNatClampNeg (fun _ => .null))
  rw [← arrV_new]
  simp
/-- a final reference field, in the class's constructor -/
theorem z_putR {ci j a v : Nat} {ft : FieldType} {k : zT → Option β} (hf : zfl Y.1.cls idx ci j ft true) (hin2 : Y.1.name = "<init>") (hC : ∀ C0 T nn, zcl[ci]? = some (C0, T, nn) → C0 = Y.1.cls) (hrt : (∃ n, ft = .object n) ∨ ∃ t, ft = .array t) (hdg : decode Y.2.1 pc = .ok (.putfield idx, 3)) (kk : ∀ z', zGO K Y N mc ms q (k z') kc ks z' D (pc + 3) lv st) : zGO K Y N mc ms q (zputR z ci j a v k) kc ks z D pc lv (.ref v :: .ref a :: st) := by
  intro r hr p l e s m args below meth c H locs cells slots ls C hH hL hv h1 h2
  obtain ⟨C0, T, n, ty, ⟨hc, hin, hnm, hty⟩, hj, hlink, hft, hfin, hC0⟩ := hf
  unfold zputR at hr
  split at hr
  · rename_i x hx
    split at hr
    · rename_i hcj
      obtain ⟨rfl, hjs, hj0⟩ := hcj
      obtain ⟨⟨r', hr', cell, q1, q2, q3, q4⟩, -⟩ := hH.2.2.2.2 a _ hx
      cases hr'.symm.trans hc
      have hts : ∀ w ∈ zWd, w.before args s = true := fun w hw => zc_word C hw args
      have hap := va_apart (own := Y.1.cls) hts hin ty hty hnm (zc_K C) hc
      obtain ⟨hS, hfc, kC, hkC, hkind⟩ := (zc_K C).1 _ _ hc
      obtain ⟨cf, kf, fi, f, hi, hsl⟩ := hS j hj
      have hlay := hts _ (hin _ (u_in_lay hj))
      unfold u_lay at hlay
      rw [if_pos hfin] at hlay
      have hst := (u_facts hfc hkC (u_lays hts hin hj) hi).1
      have hcf : m.cls = cf := by
        obtain ⟨_, _, c', _, _, _, -, -, hf', -, -, -, hown2, -⟩ := Cond.laysFinal_spec hlay
        have e1 : c' = cf := by have := hi.symm.trans hf'; simp at this; exact this.1.symm
        rw [hC0, hC _ _ _ hc] at hown2
        rw [← e1]; exact Option.some.inj ((zc_own C).symm.trans hown2)
      have h6 := u_fits (v := .ref v) hfc hkC hkind (Or.inr hlay) hi hft (by rcases hrt with ⟨_, rfl⟩ | ⟨_, rfl⟩ <;> rfl) (by rcases hrt with ⟨_, rfl⟩ | ⟨_, rfl⟩ <;> rfl)
      refine W.putFinK C.1 C.2.1 (zc_own C) (hts _ hlink) hi hst hcf ((zc_name C).trans hin2) (by rw [q2]; exact h6) q1 q3 (by rw [hsl]; exact k2_hasslot (q4 j hj)) rfl rfl hdg fun H' e1 e2 e3 => ?_
      rw [hsl] at e1 ⊢
      have hb := hH.base hx trivial
      refine kk _ r hr p l e s m args below meth c H' _ cells slots ls C (hH.write (z' := zsh z a (.inr (.inr (x.1, x.2.set j (some (some v)))))) (D' := D) (e' := .inr (.inr (x.1, x.2.set j (some (some v))))) hx trivial rfl rfl (by show (if a = a then some _ else _) = _; rw [if_pos rfl]) trivial (fun q hq => by show (if q = a then some _ else _) = _; rw [if_neg hq]) (fun q hq => rfl) (fun _ _ => rfl) e2 e3 ⟨_, hc, ?_⟩) (z_lc hL hb) hv h1 h2
      refine t_OB.to (V := updV (zV x.2 (D a)) j (.ref v)) ⟨_, e1, q2, q3, t_set q4 hap hj (.ref v)⟩ (fun i hi => ?_)
      have hjl : j < x.2.length := by
        rcases Nat.lt_or_ge j x.2.length with h | h
        · exact h
        · rw [List.getElem?_eq_none h] at hjs; cases hjs
      by_cases hij : i = j
      · subst hij
        simp [updV, zV, List.getElem?_set_self hjl]
      · simp only [updV, if_neg hij]
        simp [zV, List.getElem?_set_ne (Ne.symm hij)]
    · cases hr
  · cases hr
theorem z_aastore {a v : Nat} {i : Int32} {k : zT → Option β} (hdg : decode Y.2.1 pc = .ok (.aastore, 1)) (hc : ∃ T nn, zcl[3]? = some ("SirenFair$Field", T, nn)) (kk : ∀ z', zGO K Y N mc ms q (k z') kc ks z' D (pc + 1) lv st) : zGO K Y N mc ms q (zast4 z 3 a i v k) kc ks z D pc lv (.ref v :: .int i :: .ref a :: st) := by
  intro r hr p l e s m args below meth c H locs cells slots ls C hH hL hv h1 h2
  obtain ⟨T, nn, hc⟩ := hc
  unfold zast4 at hr
  split at hr
  · rename_i x y hx hy
    obtain ⟨n, f⟩ := x
    split at hr
    · rename_i hcj
      obtain ⟨hin, hci⟩ := hcj
      have hA : H[a]? = some (vp_cell (K.2.2.1 4) (n, .inr (.inr (.inr (.inr f))))) := (hH.2.2.2.2 a _ hx).1
      obtain ⟨⟨r', hr', cellV, g1, g2, g3, -⟩, -⟩ := hH.2.2.2.2 v _ hy
      rw [hci] at hr' g2
      cases hr'.symm.trans hc
      have hcls := ((zc_K C).1 3 _ hc).2
      obtain ⟨kA, comp, k1, k2, k3, -⟩ := ((zc_K C).2 4 _ rfl).2
      have hcomp : comp = K.2.1.1 3 := Option.some.inj (k3.symm.trans hcls.1)
      subst hcomp
      obtain ⟨kC, hkC, -⟩ := hcls.2
      have hlt : i.toNatClampNeg < n := Nat.not_le.mp fun q => hin (Or.inr q)
      have hw : zWr (.inr (.inl (n, f))) := trivial
      refine W.aast C.1 C.2.1 hA (fun q h => by cases h) (fun h => by cases h) k1 k2 rfl hkC ⟨fun q => hin (Or.inl q), by show _ < (arrV _ _ _).slots.size; rw [arrV_size]; exact hlt⟩ g1 (fun q h => by rw [g3] at h; cases h) (by rw [g2]; exact hkC) (by rw [g2]; exact va_assign hcls) rfl rfl hdg fun H1 e1 e2 e3 => ?_
      refine kk _ r hr p l e s m args below meth c H1 _ cells slots ls C (hH.write (z' := zsh z a (.inr (.inl (n, va_up f i.toNatClampNeg (some v))))) (D' := D) (e' := .inr (.inl (n, va_up f i.toNatClampNeg (some v)))) hx hw rfl rfl (by show (if a = a then some _ else _) = _; rw [if_pos rfl]) trivial (fun q hq => by show (if q = a then some _ else _) = _; rw [if_neg hq]) (fun q hq => rfl) (fun _ _ => rfl) e2 e3 ?_) (z_lc hL (hH.base hx hw)) hv h1 h2
      show H1[a]? = some (vp_cell _ _)
      rw [e1, vp_cell_q, vp_cell_q, arrV_store]
      congr 2
      funext q
      by_cases hq : q = i.toNatClampNeg
      · subst hq
        simp [updV, va_up, va_rf]
      · simp [updV, va_up, hq]
    · cases hr
  · cases hr
/-- arraycopy of ints -/
theorem z_copyi {a0 a : Nat} {sp dp n : Int32} {k : zD → Option β} (hlk : Cond.methodLink Y.1.cls idx arraycopyName ∈ zWd) (hnat : Cond.native arraycopyName ∈ zWd) (hstat : Cond.static arraycopyName ∈ zWd) (hini : Cond.initialized "java/lang/System" ∈ zWd) (t : Nat) (ht : t = 0 ∨ t = 2) (hN : 1 ≤ N) (hst : (st.map fun v => v.category).sum ≤ 8)
    (hdg : decode Y.2.1 pc = .ok (.invokestatic idx, 3)) (kk : ∀ D', zGO K Y N mc ms q (k D') kc ks z D' (pc + 3) lv st) : zGO K Y N mc ms q (zcpy z.2 D t a0 sp a dp n k) kc ks z D pc lv (.int n :: .int dp :: .ref a :: .int sp :: .ref a0 :: st) := by
  intro r hr p l e s m args below meth c H locs cells slots ls C hH hL hv h1 h2
  unfold zcpy at hr
  split at hr
  · rename_i x y hx hy
    obtain ⟨t0, n0⟩ := x
    obtain ⟨t1, n1⟩ := y
    split at hr
    · rename_i hc
      obtain ⟨e0, e1, g1, g2, g3, g4, g5⟩ := hc
      cases e0; cases e1
      have g4 : sp.toNatClampNeg + n.toNatClampNeg ≤ n0 := g4
      have g5 : dp.toNatClampNeg + n.toNatClampNeg ≤ n1 := g5
      have nn : ∀ z : Int32, ¬ z < 0 → z.toInt = (z.toNatClampNeg : Int) := by
        intro z hz
        have hz0 : (0 : Int) ≤ z.toInt := by
          have := Int32.not_lt.mp hz
          simpa using Int32.le_iff_toInt_le.mp this
        show z.toInt = ((z.toInt.toNat : Nat) : Int)
        omega
      obtain ⟨ty, hty, hA0, hA1, hfit, hbit, hprim⟩ : ∃ ty, (ztys K)[t0]? = some (K.2.2.1 t0, ty) ∧ H[a0]? = some (vp_cell (K.2.2.1 t0) (n0, .inl (D a0))) ∧ H[a]? = some (vp_cell (K.2.2.1 t0) (n1, .inl (D a))) ∧ (∀ i, i < n.toNatClampNeg → fits ty (.int (D a0 (sp.toNatClampNeg + i))) = true) ∧
          (∀ (d : Nat → Int32) (dl : Nat → Int64) (H1 : Heap), (∀ j, j < n1 → d j = D a j ∨ ∃ i, i < n0 ∧ d j = D a0 i) → H1[a]? = some (vp_cell (K.2.2.1 t0) (n1, .inl d)) → zArr K t0 n1 a d dl H1) ∧ refKind ty = false := by
        rcases ht with rfl | rfl
        · exact ⟨.int, rfl, (hH.2.2.2.2 a0 _ hx).1, (hH.2.2.2.2 a _ hy).1, fun _ _ => rfl, fun d dl H1 _ h => h, rfl⟩
        · obtain ⟨b1, b2⟩ := (hH.2.2.2.2 a0 _ hx).1
          obtain ⟨b3, b4⟩ := (hH.2.2.2.2 a _ hy).1
          refine ⟨.boolean, rfl, b1, b3, fun i hi => ?_, fun d dl H1 hd h => ⟨h, fun j hj => ?_⟩, rfl⟩
          · rcases b2 _ (show sp.toNatClampNeg + i < n0 by omega) with h | h <;> rw [h] <;> rfl
          · rcases hd j hj with h | ⟨i, hi, h⟩
            · rw [h]; exact b4 j hj
            · rw [h]; exact b2 i hi
      have hw : zWr (.inl (t0, n1)) := by show t0 < 4; rcases ht with rfl | rfl <;> decide
      obtain ⟨-, k0, hk0, cm0, hkk0⟩ := ((zc_K C).2 t0 _ hty).1 n0 (fun j => .int (D a0 j))
      obtain ⟨-, k1, hk1, cm1, hkk1⟩ := ((zc_K C).2 t0 _ hty).1 n1 (fun j => .int (D a j))
      intro T hT X
      obtain ⟨vm', X', step⟩ := X.arraycopy C.1 (zc_own C) (zc_word C hlk args) (zc_word C hnat args) (zc_word C hstat args) (zc_word C hini args) (src := a0) (dst := a) (cs := vp_cell (K.2.2.1 t0) (n0, .inl (D a0))) (cd := vp_cell (K.2.2.1 t0) (n1, .inl (D a))) (srcPos := sp) (destPos := dp) (n := n) (by rw [hT]; exact hA0) (by rw [hT]; exact hA1)
        (fun _ h => by cases h) (fun _ h => by cases h) (fun h => by cases h) (fun h => by cases h) hk0 hk1 hkk0 hkk1 (by simp [hprim]) g1 g2 g3
        (by rw [nn sp g1, nn n g3]; show ¬ _ > ((arrV _ n0 (fun j => .int (D a0 j))).slots.size : Int); rw [arrV_size]; omega)
        (by rw [nn dp g2, nn n g3]; show ¬ _ > ((arrV _ n1 (fun j => .int (D a j))).slots.size : Int); rw [arrV_size]; omega)
        (fun vm₁ _ i hi => by
          have e : (vp_cell (K.2.2.1 t0) (n0, .inl (D a0))).slots.getD (sp.toNatClampNeg + i) .null = .int (D a0 (sp.toNatClampNeg + i)) := by
            show (arrV _ n0 (fun j => .int (D a0 j))).slots.getD _ _ = _
            rw [Array.getD_eq_getD_getElem?, arrV_read _ _ (by omega)]
            rfl
          refine ⟨?_, ?_⟩
          · rw [e]; exact hfit i hi
          · rw [e]; exact trivial)
        (g := F0 m pc ls (.int n :: .int dp :: .ref a :: .int sp :: .ref a0 :: st)) rfl (by rw [zc_ml C]; exact hv.1) (rest := st) rfl (by rw [C.2.1]; exact hdg) hN (by
          show 2 * 0 + _ + (nativeFrameWords "java/lang/System" "arraycopy" 5 + 11) ≤ 40 * N
          have : nativeFrameWords "java/lang/System" "arraycopy" 5 ≤ 12 := by decide +kernel
          omega)
      have e1 : copied (vp_cell (K.2.2.1 t0) (n0, .inl (D a0))) (vp_cell (K.2.2.1 t0) (n1, .inl (D a))) sp dp n = vp_cell (K.2.2.1 t0) (n1, .inl (va_cpy (D a0) (D a) sp.toNatClampNeg dp.toNatClampNeg n.toNatClampNeg)) := va_copied (fun z => .int z) _ _ (D a0) (D a) g4
      rw [e1] at X' step
      have hl : a < H.size := (Array.getElem?_eq_some_iff.mp hA1).1
      have hheap : ((T.setVm vm').setCell a (vp_cell (K.2.2.1 t0) (n1, .inl (va_cpy (D a0) (D a) sp.toNatClampNeg dp.toNatClampNeg n.toNatClampNeg)))).heap = H.setIfInBounds a (vp_cell (K.2.2.1 t0) (n1, .inl (va_cpy (D a0) (D a) sp.toNatClampNeg dp.toNatClampNeg n.toNatClampNeg))) := by rw [← hT]; rfl
      have hb := hH.base hy hw
      obtain ⟨t, a1, b1⟩ := kk _ r hr p l e s m args below meth c _ _ cells slots ls C (hH.write (z' := z) (H1 := H.setIfInBounds a (vp_cell (K.2.2.1 t0) (n1, .inl (va_cpy (D a0) (D a) sp.toNatClampNeg dp.toNatClampNeg n.toNatClampNeg)))) (D' := fun q j => if q = a then va_cpy (D a0) (D a) sp.toNatClampNeg dp.toNatClampNeg n.toNatClampNeg j else D q j) hy hw rfl rfl hy hw (fun _ _ => rfl) (fun q hq => by funext j; simp [hq]) (fun _ _ => rfl) (by simp) (fun q hq => by simp [Array.getElem?_setIfInBounds, Ne.symm hq]) (by
          simp only [if_true]
          refine hbit _ _ _ (fun j hj => ?_) (by simp [Array.getElem?_setIfInBounds, hl])
          unfold va_cpy
          split
          · exact Or.inr ⟨_, by omega, rfl⟩
          · exact Or.inl rfl)) (fun q hq => by
          rcases List.mem_append.mp hq with h | h
          · exact hL q h
          · obtain ⟨z, -, hz⟩ := List.mem_map.mp h
            rw [← hz]
            exact hb) hv h1 h2 _ hheap X'
      exact ⟨t, step t a1, b1⟩
    · cases hr
  · cases hr
/-- the static row of powers -/
theorem z_getP {idx : Nat} (hl : Cond.fieldLink Y.1.cls idx "SirenFair" "POWERS" "[J" ∈ zWd) (hdg : decode Y.2.1 pc = .ok (.getstatic idx, 3)) (k : zGO K Y N mc ms q res kc ks z D (pc + 3) lv (.ref z.2.2.2 :: st)) : zGO K Y N mc ms q res kc ks z D pc lv st := by
  intro r hr p l e s m args below meth c H locs cells slots ls C hH hL hv h1 h2
  have k' := k r hr p l e s m args below meth c H locs cells slots ls C hH hL hv h1 h2
  rw [hH.2.2.2.1] at k'
  obtain ⟨cf, kf, fi, f, a, cell, g1, g2, g3, g4, g5, g6, g7, g8⟩ := va_Z.moved (zc_warm C).alike (zc_ok C).2.2.2.2.1
  exact W.gets C.1 C.2.1 (zc_own C) (zc_word C hl args) g1 g2 g3 g4 (by rw [hH.2.2.1 a (Array.getElem?_eq_some_iff.mp g5).1]; exact g5) (fun e => by rw [e] at g6; cases g6) g7 rfl hdg k'
theorem z_laloadR {a : Nat} {i : Int32} {k : Int64 → Option β} (hdg : decode Y.2.1 pc = .ok (.laload, 1)) (kk : ∀ v, zGO K Y N mc ms q (k v) kc ks z D (pc + 1) lv (.long v :: st)) : zGO K Y N mc ms q (zaldL z.2 5 a i k) kc ks z D pc lv (.int i :: .ref a :: st) := by
  intro r hr p l e s m args below meth c H locs cells slots ls C hH hL hv h1 h2
  unfold zaldL at hr
  split at hr
  · rename_i x hx
    obtain ⟨t, n⟩ := x
    split at hr
    · rename_i hcj
      obtain ⟨ht, hin⟩ := hcj
      cases ht
      obtain ⟨scr, s1, s2, s3, s4, s5⟩ : zRo K.1 .long n (fun j => .long (z.2.2.1 a j)) a H := (hH.2.2.2.2 a _ hx).1
      have hlt : i.toNatClampNeg < n := Nat.not_le.mp fun q => hin (Or.inr q)
      exact W.lald (v := .long (z.2.2.1 a i.toNatClampNeg)) C.1 C.2.1 s1 (State.isArrayOf_alike (zc_warm C).alike s2) s3 (by rw [s4]; exact hin) (s5 _ hlt) rfl rfl hdg (kk _ r hr p l e s m args below meth c H locs cells slots ls C hH hL hv h1 h2)
    · cases hr
  · cases hr
theorem z_laload {a : Nat} {i : Int32} {k : Int64 → Option β} (hdg : decode Y.2.1 pc = .ok (.laload, 1)) (kk : ∀ v, zGO K Y N mc ms q (k v) kc ks z D (pc + 1) lv (.long v :: st)) : zGO K Y N mc ms q (zaldL z.2 3 a i k) kc ks z D pc lv (.int i :: .ref a :: st) := by
  intro r hr p l e s m args below meth c H locs cells slots ls C hH hL hv h1 h2
  unfold zaldL at hr
  split at hr
  · rename_i x hx
    obtain ⟨t, n⟩ := x
    split at hr
    · rename_i hcj
      obtain ⟨ht, hin⟩ := hcj
      cases ht
      have hA : H[a]? = some (vp_cell (K.2.2.1 3) (n, .inr (.inl (z.2.2.1 a)))) := (hH.2.2.2.2 a _ hx).1
      have hlt : i.toNatClampNeg < n := Nat.not_le.mp fun q => hin (Or.inr q)
      exact W.lald (v := .long (z.2.2.1 a i.toNatClampNeg)) C.1 C.2.1 hA (((zc_K C).2 3 _ rfl).1 n (fun j => .long (z.2.2.1 a j))) (fun q => by cases q) (by show ¬ (i < 0 ∨ (arrV _ _ _).slots.size ≤ _); rw [arrV_size]; exact hin) (by show (arrV _ _ _).slots[_]? = _; rw [arrV_read _ _ hlt]) rfl rfl hdg (kk _ r hr p l e s m args below meth c H locs cells slots ls C hH hL hv h1 h2)
    · cases hr
  · cases hr
theorem z_lastore {a : Nat} {i : Int32} {v : Int64} {k : zW → Option β} (hdg : decode Y.2.1 pc = .ok (.lastore, 1)) (kk : ∀ z' : zT, z'.1 = z.1 → zGO K Y N mc ms q (k z'.2) kc ks z' D (pc + 1) lv st) : zGO K Y N mc ms q (zastL z.2 a i v k) kc ks z D pc lv (.long v :: .int i :: .ref a :: st) := by
  intro r hr p l e s m args below meth c H locs cells slots ls C hH hL hv h1 h2
  unfold zastL at hr
  split at hr
  · rename_i x hx
    obtain ⟨t, n⟩ := x
    split at hr
    · rename_i hcj
      obtain ⟨ht, hin⟩ := hcj
      cases ht
      have hA : H[a]? = some (vp_cell (K.2.2.1 3) (n, .inr (.inl (z.2.2.1 a)))) := (hH.2.2.2.2 a _ hx).1
      have hw : zWr (.inl (3, n)) := by show (3 : Nat) < 4; decide
      refine W.last C.1 C.2.1 hA (((zc_K C).2 3 _ rfl).1 n (fun j => .long (z.2.2.1 a j))) (fun q => by cases q) (by show ¬ (i < 0 ∨ (arrV _ _ _).slots.size ≤ _); rw [arrV_size]; exact hin) rfl rfl hdg fun H1 e1 e2 e3 => ?_
      refine kk (z.1, z.2.1, zupL z.2.2.1 a i.toNatClampNeg v, z.2.2.2) rfl r hr p l e s m args below meth c H1 _ cells slots ls C (hH.write (z' := (z.1, z.2.1, zupL z.2.2.1 a i.toNatClampNeg v, z.2.2.2)) (D' := D) hx hw rfl rfl hx hw (fun _ _ => rfl) (fun q hq => rfl) (fun q hq => by funext j; simp [zupL, hq]) e2 e3 ?_) (z_lc hL (hH.base hx hw)) hv h1 h2
      show H1[a]? = some (vp_cell _ _)
      rw [e1, vp_cell_l, vp_cell_l, arrV_store]
      congr 2
      funext q
      by_cases hq : q = i.toNatClampNeg
      · subst hq
        simp [updV, zupL]
      · simp [updV, zupL, hq]
    · cases hr
  · cases hr
/-- the script -/
theorem z_ialoadR {a : Nat} {i : Int32} {k : Int32 → Option β} (hdg : decode Y.2.1 pc = .ok (.iaload, 1)) (kk : ∀ v, zGO K Y N mc ms q (k v) kc ks z D (pc + 1) lv (.int v :: st)) : zGO K Y N mc ms q (zald z.2 D 4 a i k) kc ks z D pc lv (.int i :: .ref a :: st) := by
  intro r hr p l e s m args below meth c H locs cells slots ls C hH hL hv h1 h2
  unfold zald at hr
  split at hr
  · rename_i x hx
    obtain ⟨t, n⟩ := x
    split at hr
    · rename_i hcj
      obtain ⟨ht, hin⟩ := hcj
      cases ht
      obtain ⟨scr, s1, s2, s3, s4, s5⟩ : zRo K.1 .int n (fun j => .int (D a j)) a H := (hH.2.2.2.2 a _ hx).1
      have hlt : i.toNatClampNeg < n := Nat.not_le.mp fun q => hin (Or.inr q)
      exact W.iald (v := .int (D a i.toNatClampNeg)) C.1 C.2.1 s1 (State.isArrayOf_alike (zc_warm C).alike s2) s3 (by rw [s4]; exact hin) (s5 _ hlt) rfl rfl hdg (kk _ r hr p l e s m args below meth c H locs cells slots ls C hH hL hv h1 h2)
    · cases hr
  · cases hr
theorem z_alenR {a : Nat} {k : Int32 → Option β} (hdg : decode Y.2.1 pc = .ok (.arraylength, 1)) (kk : ∀ v, zGO K Y N mc ms q (k v) kc ks z D (pc + 1) lv (.int v :: st)) : zGO K Y N mc ms q (zlen z.2 4 a k) kc ks z D pc lv (.ref a :: st) := by
  intro r hr p l e s m args below meth c H locs cells slots ls C hH hL hv h1 h2
  unfold zlen at hr
  split at hr
  · rename_i x hx
    obtain ⟨t, n⟩ := x
    split at hr
    · rename_i ht
      cases ht
      obtain ⟨scr, s1, s2, s3, s4, s5⟩ : zRo K.1 .int n (fun j => .int (D a j)) a H := (hH.2.2.2.2 a _ hx).1
      exact W.alen (n := Int32.ofNat n) C.1 C.2.1 s1 (State.isArrayOf_alike (zc_warm C).alike s2) (by rw [s4] <;> rfl) rfl rfl hdg (kk _ r hr p l e s m args below meth c H locs cells slots ls C hH hL hv h1 h2)
    · cases hr
  · cases hr
end ZN
