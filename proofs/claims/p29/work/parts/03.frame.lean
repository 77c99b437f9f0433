/-! The frame of this proof: a pure picture of memory (shapes and numbers), a judgement zG 'from this frame, with this memory, the method ends as Q says', a row an instruction over results that are pure programs (zGO). -/
/-- words that hold at every warmer state -/
def zgood (w : Cond) : Bool := goodWord w || (match w with
  | .methodLinkNest _ _ _ _ => true
  | .castable _ _ => true
  | .declares _ => true
  | .arrayOver _ => true
  | _ => false)
def zWd : List Cond := lw_tbl.filter zgood
abbrev zS : Type := (Nat × Nat) ⊕ ((Nat × (Nat → Option Nat)) ⊕ (Nat × List (Option (Option Nat))))
/-- the shapes, the longs, the powers' cell -/
abbrev zW : Type := (Nat → Option zS) × (Nat → Nat → Int64) × Nat
/-- the next cell, and those -/
abbrev zT : Type := Nat × zW
abbrev zD : Type := Nat → Nat → Int32
/-- the start, the classes' numbers, the array classes, the powers' cell -/
abbrev zK : Type := State × va_G × (Nat → ClassId) × Nat
/-- a method: name, bytes, locals, result, handlers -/
abbrev zY : Type := MethodName × ByteArray × Nat × Option FieldType × List (Nat × Nat × Nat × Nat)
abbrev zO : Type := Option Value ⊕ String
def zV (fs : List (Option (Option Nat))) (d : Nat → Int32) (k : Nat) : Value := match fs[k]? with
  | some (some (some q)) => .ref q
  | some (some none) => .null
  | _ => .int (d k)
def zRo (U : State) (ty : FieldType) (n : Nat) (v : Nat → Value) (a : Nat) (H : Heap) : Prop := ∃ scr : Cell, H[a]? = some scr ∧ U.isArrayOf scr ty ∧ scr.vm ≠ .unknown ∧ scr.slots.size = n ∧ ∀ j, j < n → scr.slots[j]? = some (v j)
def zArr (K : zK) (t n a : Nat) (d : Nat → Int32) (dl : Nat → Int64) (H : Heap) : Prop := match t with
  | 0 => H[a]? = some (vp_cell (K.2.2.1 0) (n, .inl d))
  | 1 => H[a]? = some (vp_cell (K.2.2.1 1) (n, .inl d))
  | 2 => H[a]? = some (vp_cell (K.2.2.1 2) (n, .inl d)) ∧ ∀ j, j < n → d j = 0 ∨ d j = 1
  | 3 => H[a]? = some (vp_cell (K.2.2.1 3) (n, .inr (.inl dl)))
  | 4 => zRo K.1 .int n (fun j => .int (d j)) a H
  | _ => zRo K.1 .long n (fun j => .long (dl j)) a H
def zAt (K : zK) (a : Nat) (e : zS) (d : Nat → Int32) (dl : Nat → Int64) (H : Heap) : Prop := match e with
  | .inl x => zArr K x.1 x.2 a d dl H
  | .inr (.inl x) => H[a]? = some (vp_cell (K.2.2.1 4) (x.1, .inr (.inr (.inr (.inr x.2)))))
  | .inr (.inr x) => ∃ r : vw_C, zcl[x.1]? = some r ∧ t_OB a (K.2.1.1 x.1) r.2.2 (K.2.1.2 x.1) H (zV x.2 d)
def zWr (e : zS) : Prop := match e with
  | .inl x => x.1 < 4
  | _ => True
def zH (K : zK) (z : zT) (D : zD) (H : Heap) : Prop := H.size = z.1 ∧ K.1.heap.size ≤ H.size ∧ (∀ q, q < K.1.heap.size → H[q]? = K.1.heap[q]?) ∧ z.2.2.2 = K.2.2.2 ∧ ∀ a e, z.2.1 a = some e → zAt K a e (D a) (z.2.2.1 a) H ∧ (zWr e → K.1.heap.size ≤ a)
def ztys (K : zK) : List (ClassId × FieldType) := [(K.2.2.1 0, .int), (K.2.2.1 1, .char), (K.2.2.1 2, .boolean), (K.2.2.1 3, .long), (K.2.2.1 4, .object "SirenFair$Field")]
def zNc : List (String × String) := [("java/lang/IllegalStateException", "java/lang/IllegalArgumentException"), ("java/lang/IllegalArgumentException", "java/lang/IndexOutOfBoundsException"), ("java/lang/IllegalStateException", "java/lang/IndexOutOfBoundsException")]
/-- what is known of the start -/
def zOk (K : zK) : Prop := va_K K.2.1 zcl (ztys K) K.1 ∧ (∀ w ∈ zWd, ∀ (a' : Array Value) (U : State), K.1.WarmedH U.vm → w.before a' U = true) ∧
  vx_Zq Bundle.tN "UNASSIGNED_STACK" Bundle.steD (fun q => K.1.heap.size ≤ q) K.1 K.1.heap ∧ vx_Zq Bundle.tN "SUPPRESSED_SENTINEL" Bundle.listD (fun q => K.1.heap.size ≤ q) K.1 K.1.heap ∧
  va_Z "SirenFair" "POWERS" "[J" (.ref K.2.2.2) (fun q => K.1.heap.size ≤ q) K.1 K.1.heap ∧ (∀ (own : String) (i : Nat) (tx : String), Cond.stringRef own i tx ∈ lw_tbl → ∃ sa, vk_R own i tx sa K.1) ∧ ∀ q ∈ zNc, va_Nc q.1 q.2 K.1
abbrev zrm (N mc ms : Nat) : Room := { frames := N, cells := mc, slots := ms, locals := 40 * N }
def zQc (K : zK) (Q : zO → zT → zD → Prop) : Array Value → State → Outcome → State → Prop := fun _ _ o t => ∃ v z' D', o = .returned v ∧ Q (.inl v) z' D' ∧ zH K z' D' t.heap
def zXC (K : zK) (Q : zO → zT → zD → Prop) : String → State → State → Prop := fun E _ t => ∃ z' D', Q (.inr E) z' D' ∧ zH K z' D' t.heap
def zPc (K : zK) (vs : List Value) (z : zT) (D : zD) : Array Value → State → Prop := fun a U => a = vs.toArray ∧ K.1.WarmedH U.vm ∧ zH K z D U.heap
def zfree (K : zK) : Addr → Prop := fun q => K.1.heap.size ≤ q
/-- where a method's body stands -/
def zCx (K : zK) (Y : zY) (p : Program) (l : Launch) (s : State) (m : MethodId) (meth : Method) (c : Code) : Prop :=
  p.tables.exec = Jvm.exec ∧ c.code = Y.2.1 ∧ meth.sig.returnType = Y.2.2.2.1 ∧ meth.locks = false ∧ c.maxLocals = Y.2.2.1 ∧ s.vm.findClass Y.1.cls = some m.cls ∧ K.1.WarmedH s.vm ∧ l.stackTraces = false ∧ meth.name = Y.1.name ∧ c.exceptionTable.toList = tableOf Y.2.2.2.2 ∧ K.1.heap.size ≤ s.heap.size ∧ (∀ q, q < K.1.heap.size → s.heap[q]? = K.1.heap[q]?) ∧ zOk K
def zG (K : zK) (Y : zY) (N mc ms : Nat) (Q : zO → zT → zD → Prop) (kc ks : Nat) (z : zT) (D : zD) (pc : Nat) (lv : List (Nat × Value)) (st : List Value) : Prop :=
  ∀ (p : Program) (l : Launch) (e : Env) (s : State) (m : MethodId) (args : Array Value) (below : List Frame) (meth : Method) (c : Code) (H : Heap) (locs : List Loc) (cells slots : Nat) (ls : Array Slot),
    zCx K Y p l s m meth c → zH K z D H → (∀ q ∈ locs, K.1.heap.size ≤ q.base) → lv_has ls Y.2.2.1 lv → cells + kc ≤ mc → slots + ks ≤ ms →
    W p l e (zrm N mc ms) s m args below meth c H locs cells slots (vx_MQ below (zQc K Q) (zXC K Q) args s mc ms (zfree K)) (F0 m pc ls st)
def zGO {β : Type} (K : zK) (Y : zY) (N mc ms : Nat) (q : β → zO → zT → zD → Prop) (res : Option β) (kc ks : Nat) (z : zT) (D : zD) (pc : Nat) (lv : List (Nat × Value)) (st : List Value) : Prop :=
  ∀ r, res = some r → zG K Y N mc ms (q r) kc ks z D pc lv st
-- results
abbrev zqI (z : zT) : Int32 × zD → zO → zT → zD → Prop := fun r o z' D' => o = .inl (some (.int r.1)) ∧ z' = z ∧ D' = r.2
abbrev zqV (z : zT) : zD → zO → zT → zD → Prop := fun r o z' D' => o = .inl none ∧ z' = z ∧ D' = r
abbrev zqC : zT × zD → zO → zT → zD → Prop := fun r o z' D' => o = .inl none ∧ z' = r.1 ∧ D' = r.2
abbrev zqX (z : zT) : (Int32 ⊕ String) × zD → zO → zT → zD → Prop := fun r o z' D' => o = (match r.1 with
  | .inl v => .inl (some (.int v))
  | .inr E => .inr E) ∧ z'.2 = z.2 ∧ z.1 ≤ z'.1 ∧ D' = r.2
/-- a contract: a method that returns; one that returns or throws -/
def zM {β : Type} (Y : zY) (N mc ms : Nat) (q : β → zO → zT → zD → Prop) (res : Option β) (vs : List Value) (z : zT) (D : zD) : Prop :=
  ∀ (K : zK) (l : Launch), zOk K → l.stackTraces = false → ∀ r, res = some r → Met l Y.1 [Cond.code Y.1 Y.2.1 Y.2.2.1 Y.2.2.2.1] (zrm N mc ms) (zPc K vs z D) (zQc K (q r)) mc ms (zfree K)
def zMX {β : Type} (Y : zY) (N mc ms : Nat) (q : β → zO → zT → zD → Prop) (res : Option β) (vs : List Value) (z : zT) (D : zD) : Prop :=
  ∀ (K : zK) (l : Launch), zOk K → l.stackTraces = false → ∀ r, res = some r → vx_Met l Y.1 [Cond.code Y.1 Y.2.1 Y.2.2.1 Y.2.2.2.1] (zrm N mc ms) (zPc K vs z D) (zQc K (q r)) (zXC K (q r)) mc ms (zfree K)
-- pure programs
def zlet {α β : Type} (v : α) (k : α → Option β) : Option β := k v
def zchk {β : Type} (c : Prop) [Decidable c] (a : Option β) : Option β := if c then a else none
def zjp {γ β : Type} (J : γ) (k : γ → Option β) : Option β := k J
def zlp {γ : Type} (bot : γ) (F : γ → γ) : Nat → γ
  | 0 => bot
  | n + 1 => F (zlp bot F n)
def zup (D : zD) (a k : Nat) (v : Int32) : zD := fun q j => if q = a then (if j = k then v else D q j) else D q j
def zupL (L : Nat → Nat → Int64) (a k : Nat) (v : Int64) : Nat → Nat → Int64 := fun q j => if q = a then (if j = k then v else L q j) else L q j
def zald {β : Type} (w : zW) (D : zD) (t a : Nat) (i : Int32) (k : Int32 → Option β) : Option β := match w.1 a with
  | some (.inl x) => if x.1 = t ∧ ¬ (i < 0 ∨ x.2 ≤ i.toNatClampNeg) then k (D a i.toNatClampNeg) else none
  | _ => none
def zast {β : Type} (w : zW) (D : zD) (t a : Nat) (i v : Int32) (k : zD → Option β) : Option β := match w.1 a with
  | some (.inl x) => if x.1 = t ∧ ¬ (i < 0 ∨ x.2 ≤ i.toNatClampNeg) then k (zup D a i.toNatClampNeg v) else none
  | _ => none
def zlen {β : Type} (w : zW) (t a : Nat) (k : Int32 → Option β) : Option β := match w.1 a with
  | some (.inl x) => if x.1 = t then k (Int32.ofNat x.2) else none
  | _ => none
def zfld {β : Type} (w : zW) (D : zD) (ci j a : Nat) (k : Int32 → Option β) : Option β := match w.1 a with
  | some (.inr (.inr x)) => if x.1 = ci ∧ x.2[j]? = some none then k (D a j) else none
  | _ => none
def zput {β : Type} (w : zW) (D : zD) (ci j a : Nat) (v : Int32) (k : zD → Option β) : Option β := match w.1 a with
  | some (.inr (.inr x)) => if x.1 = ci ∧ x.2[j]? = some none then k (zup D a j v) else none
  | _ => none
def zref {β : Type} (w : zW) (ci j a : Nat) (k : Nat → Option β) : Option β := match w.1 a with
  | some (.inr (.inr x)) => if x.1 = ci then (match x.2[j]? with
    | some (some (some q)) => k q
    | _ => none) else none
  | _ => none
def zobj {β : Type} (w : zW) (ci a : Nat) (k : Option β) : Option β := match w.1 a with
  | some (.inr (.inr x)) => if x.1 = ci then k else none
  | _ => none
def zald4 {β : Type} (w : zW) (a : Nat) (i : Int32) (k : Nat → Option β) : Option β := match w.1 a with
  | some (.inr (.inl x)) => if ¬ (i < 0 ∨ x.1 ≤ i.toNatClampNeg) then (match x.2 i.toNatClampNeg with
    | some q => k q
    | none => none) else none
  | _ => none
def zci {β : Type} (o : Option (Int32 × zD)) (k : Int32 → zD → Option β) : Option β := match o with
  | some r => k r.1 r.2
  | none => none
def zcv {β : Type} (o : Option zD) (k : zD → Option β) : Option β := match o with
  | some r => k r
  | none => none
def zcpy {β : Type} (w : zW) (D : zD) (t a0 : Nat) (sp : Int32) (a : Nat) (dp n : Int32) (k : zD → Option β) : Option β := match w.1 a0, w.1 a with
  | some (.inl x), some (.inl y) => if x.1 = t ∧ y.1 = t ∧ ¬ sp < 0 ∧ ¬ dp < 0 ∧ ¬ n < 0 ∧ sp.toNatClampNeg + n.toNatClampNeg ≤ x.2 ∧ dp.toNatClampNeg + n.toNatClampNeg ≤ y.2 then k (fun q j => if q = a then va_cpy (D a0) (D a) sp.toNatClampNeg dp.toNatClampNeg n.toNatClampNeg j else D q j) else none
  | _, _ => none
def zaldL {β : Type} (w : zW) (t a : Nat) (i : Int32) (k : Int64 → Option β) : Option β := match w.1 a with
  | some (.inl x) => if x.1 = t ∧ ¬ (i < 0 ∨ x.2 ≤ i.toNatClampNeg) then k (w.2.1 a i.toNatClampNeg) else none
  | _ => none
def zastL {β : Type} (w : zW) (a : Nat) (i : Int32) (v : Int64) (k : zW → Option β) : Option β := match w.1 a with
  | some (.inl x) => if x.1 = 3 ∧ ¬ (i < 0 ∨ x.2 ≤ i.toNatClampNeg) then k (w.1, zupL w.2.1 a i.toNatClampNeg v, w.2.2) else none
  | _ => none
def zsh (z : zT) (a : Nat) (e : zS) : zT := (z.1, fun q => if q = a then some e else z.2.1 q, z.2.2)
def zast4 {β : Type} (z : zT) (ci a : Nat) (i : Int32) (v : Nat) (k : zT → Option β) : Option β := match z.2.1 a, z.2.1 v with
  | some (.inr (.inl x)), some (.inr (.inr y)) => if ¬ (i < 0 ∨ x.1 ≤ i.toNatClampNeg) ∧ y.1 = ci then k (zsh z a (.inr (.inl (x.1, va_up x.2 i.toNatClampNeg (some v))))) else none
  | _, _ => none
def zputR {β : Type} (z : zT) (ci j a v : Nat) (k : zT → Option β) : Option β := match z.2.1 a with
  | some (.inr (.inr x)) => if x.1 = ci ∧ x.2[j]?.isSome = true ∧ x.2[j]? ≠ some none then k (zsh z a (.inr (.inr (x.1, x.2.set j (some (some v)))))) else none
  | _ => none
def zadd (z : zT) (e : zS) : zT := (z.1 + 1, fun q => if q = z.1 then some e else z.2.1 q, fun q j => if q = z.1 then 0 else z.2.2.1 q j, z.2.2.2)
def zclr (D : zD) (a : Nat) : zD := fun q j => if q = a then 0 else D q j
def znew {β : Type} (z : zT) (D : zD) (e : zS) (k : Nat → zT → zD → Option β) : Option β := k z.1 (zadd z e) (zclr D z.1)
def zcc {β : Type} (o : Option (zT × zD)) (k : zT → zD → Option β) : Option β := match o with
  | some r => k r.1 r.2
  | none => none
