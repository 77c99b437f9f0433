/-! PURE: a new object, on both sides. -/
section P73
variable {β : Type} {z : zT} {D : zD} {s a o n : Nat} {L : List zS}
def zst (z : zT) (a : Nat) (L : List zS) : zT := (a + L.length, (fun q => if a ≤ q ∧ q < a + L.length then L[q - a]? else z.2.1 q), (fun q j => if a ≤ q ∧ q < a + L.length then 0 else z.2.2.1 q j), z.2.2.2)
theorem zst_nil (h : z.1 = a) : zst z a [] = z := by
  obtain ⟨z1, z2, z3, z4⟩ := z
  subst h
  unfold zst
  simp only [List.length_nil, Nat.add_zero, Nat.not_lt, Nat.lt_irrefl, show ∀ q : Nat, (z1 ≤ q ∧ q < z1) ↔ False from fun q => ⟨fun h => by omega, fun h => h.elim⟩, if_false]
theorem zst_new {e : zS} {k : Nat → zT → zD → Option β} : znew (zst z a L) D e k = k (a + L.length) (zst z a (L ++ [e])) (zclr D (a + L.length)) := by
  have h : zadd (zst z a L) e = zst z a (L ++ [e]) := by
    unfold zadd zst
    simp only [List.length_append, List.length_cons, List.length_nil]
    refine Prod.ext (by simp only; omega) (Prod.ext ?_ (Prod.ext ?_ rfl))
    · funext q
      simp only
      by_cases h1 : q = a + L.length
      · subst h1
        rw [if_pos rfl, if_pos (by omega), Nat.add_sub_cancel_left, List.getElem?_append_right (Nat.le_refl _), Nat.sub_self]
        rfl
      · rw [if_neg h1]
        by_cases h2 : a ≤ q ∧ q < a + L.length
        · rw [if_pos h2, if_pos (by omega), List.getElem?_append_left (by omega)]
        · rw [if_neg h2, if_neg (by omega)]
    · funext q j
      simp only
      by_cases h1 : q = a + L.length
      · subst h1; rw [if_pos rfl, if_pos (by omega)]
      · rw [if_neg h1]
        by_cases h2 : a ≤ q ∧ q < a + L.length
        · rw [if_pos h2, if_pos (by omega)]
        · rw [if_neg h2, if_neg (by omega)]
  show k (a + L.length) (zadd (zst z a L) e) (zclr D (a + L.length)) = _
  rw [h]
theorem zst_at (h : o < L.length) : (zst z a L).2.1 (a + o) = L[o]? := by
  show (if a ≤ a + o ∧ a + o < a + L.length then L[a + o - a]? else _) = _
  rw [if_pos (by omega), Nat.add_sub_cancel_left]
theorem zst_put {ci j v : Nat} {fs : List (Option (Option Nat))} (h : L[o]? = some (.inr (.inr (ci, fs)))) (hj : fs[j]? = some (some none)) {k : zT → Option β} : zputR (zst z a L) ci j (a + o) v k = k (zst z a (L.set o (.inr (.inr (ci, fs.set j (some (some v))))))) := by
  have hlt : o < L.length := by
    by_cases h1 : o < L.length
    · exact h1
    · rw [List.getElem?_eq_none (by omega)] at h; cases h
  have hs : zsh (zst z a L) (a + o) (.inr (.inr (ci, fs.set j (some (some v))))) = zst z a (L.set o (.inr (.inr (ci, fs.set j (some (some v)))))) := by
    unfold zsh zst
    refine Prod.ext (by simp) (Prod.ext ?_ (Prod.ext ?_ rfl))
    · funext q
      simp only [List.length_set]
      by_cases h1 : q = a + o
      · subst h1; rw [if_pos rfl, if_pos (by omega), Nat.add_sub_cancel_left, List.getElem?_set_self hlt]
      · rw [if_neg h1]
        by_cases h2 : a ≤ q ∧ q < a + L.length
        · rw [if_pos h2, if_pos h2, List.getElem?_set_ne (by omega)]
        · rw [if_neg h2, if_neg h2]
    · funext q j
      simp only [List.length_set]
  unfold zputR
  rw [zst_at hlt, h]
  simp only [hj, true_and]
  rw [if_pos ⟨rfl, by simp⟩, hs]
theorem zst_ref {ci j v : Nat} {fs : List (Option (Option Nat))} (h : L[o]? = some (.inr (.inr (ci, fs)))) (hj : fs[j]? = some (some (some v))) {k : Nat → Option β} : zref (zst z a L).2 ci j (a + o) k = k v := by
  have hlt : o < L.length := by
    by_cases h1 : o < L.length
    · exact h1
    · rw [List.getElem?_eq_none (by omega)] at h; cases h
  exact zref_of ((zst_at hlt).trans h) hj
/-- the contents of what lies there anew -/
def dst (D : zD) (a n : Nat) (F : Nat → Nat → Int32) : zD := fun q => if a ≤ q ∧ q < a + n then F (q - a) else D q
theorem dst_new {F : Nat → Nat → Int32} (h : F n = fun _ => 0) : zclr (dst D a n F) (a + n) = dst D a (n + 1) F := by
  funext q j
  unfold zclr dst
  by_cases h1 : q = a + n
  · subst h1; rw [if_pos rfl, if_pos (by omega), Nat.add_sub_cancel_left, h]
  · rw [if_neg h1]
    by_cases h2 : a ≤ q ∧ q < a + n
    · rw [if_pos h2, if_pos (by omega)]
    · rw [if_neg h2, if_neg (by omega)]
theorem dst_0 {F : Nat → Nat → Int32} : dst D a 0 F = D := by
  funext q; unfold dst; rw [if_neg (by omega)]
def z0F : Nat → Nat → Int32 := fun _ _ => 0
theorem dst_z {m : Nat} : zclr (dst D a m z0F) (a + m) = dst D a (m + 1) z0F := dst_new rfl
theorem c_fill {w : zW} {r : Nat} (h : w.1 r = some (.inl (0, 16))) : f_Arrays_fill w D r (-1) = some (zset D r (fun j => if j < 16 then -1 else D r j)) := by
  obtain ⟨s', hs', w1⟩ := lpG (bot := fun (_ : Int32) (_ : Int32) (_ : zD) => none) (st := S_Arrays_fill_S1 w r (-1)) (β := zD) (n := 16) (fun k (q : Nat → Int32) => q = fun j => if j < k then -1 else D r j) (fun (_ : Unit) g k q => g (nI k) (nI 16) (zset D r q)) (by
    intro k q hk hq
    subst hq
    have hc : ¬ nI 16 ≤ nI k := by rw [nI_leI (by omega) (by omega)]; omega
    refine ⟨fun j => if j < k + 1 then -1 else D r j, rfl, ?_⟩
    intro _ j
    have hu : upd (fun j => if j < k then -1 else D r j) k (-1) = fun j => if j < k + 1 then -1 else D r j := by
      funext i
      unfold upd
      by_cases h1 : i = k
      · subst h1; rw [if_pos rfl, if_pos (by omega)]
      · rw [if_neg h1]
        show (if i < k then (-1 : Int32) else D r i) = _
        by_cases h2 : i < k
        · rw [if_pos h2, if_pos (by omega)]
        · rw [if_neg h2, if_neg (by omega)]
    unfold S_Arrays_fill_S1
    simp only [hc, ↓reduceIte, zast_of (i := k) h (by omega) (by decide), zup_zset, ↓zletE, nI_1, hu]) 16 0 (fun j => if j < 0 then -1 else D r j) (by omega) rfl
  subst hs'
  obtain ⟨j, hj⟩ := w1 () zfuel (by unfold zfuel; omega)
  have h0 : zset D r (fun j => if j < 0 then -1 else D r j) = D := by
    have : (fun j => if j < 0 then -1 else D r j) = D r := by funext i; rw [if_neg (by omega)]
    rw [this, zset_eta]
  rw [h0] at hj
  rw [u_Arrays_fill]
  simp only [↓zjpE, zlen_of h]
  refine hj.trans ?_
  unfold S_Arrays_fill_S1
  rw [if_pos (by decide)]
def fr (o j : Nat) : Int32 := if o = 0 ∧ j = 7 then 3 else if o = 0 ∧ j = 8 then 40 else if 30 ≤ o ∧ j < 16 then -1 else 0
def e0F : zS := .inr (.inr (3, [some none, some none, some none, some none, some none, none, none, none, none]))
theorem zst_put0 {ci j v : Nat} {fs : List (Option (Option Nat))} (h : L[0]? = some (.inr (.inr (ci, fs)))) (hj : fs[j]? = some (some none)) {k : zT → Option β} : zputR (zst z a L) ci j a v k = k (zst z a (L.set 0 (.inr (.inr (ci, fs.set j (some (some v))))))) := zst_put (o := 0) h hj
theorem zccX {o : Option (zT × zD)} {z' : zT} {D' : zD} (h : o = some (z', D')) {k : zT → zD → Option β} : zcc o k = k z' D' := by rw [h]; rfl
theorem mk_Sirens : f_Sirens_init (zst z a [.inr (.inr (3, [some none, some none, some none, some none, some none, none, none, none, none])), .inr (.inr (6, [some none, some none, some none, some none, some none, some none, some none, none]))]) (dst D a 2 z0F) (a + 1) = some (zst z a [.inr (.inr (3, [some none, some none, some none, some none, some none, none, none, none, none])), .inr (.inr (6, [some (some (a + 2)), some (some (a + 3)), some (some (a + 4)), some (some (a + 5)), some (some (a + 6)), some (some (a + 7)), some (some (a + 8)), none])), .inl (0, 4), .inl (0, 4), .inl (0, 4), .inl (0, 4), .inl (0, 4), .inl (0, 4), .inl (2, 4)], dst D a 9 z0F) := by
  unfold f_Sirens_init
  rw [zst_new]
  simp only [List.length_cons, List.length_nil, Nat.zero_add, Nat.reduceAdd, List.cons_append, List.nil_append, dst_z]
  rw [zst_put (o := 1) (j := 0) rfl rfl]
  simp only [List.set_cons_succ, List.set_cons_zero]
  rw [zst_new]
  simp only [List.length_cons, List.length_nil, Nat.zero_add, Nat.reduceAdd, List.cons_append, List.nil_append, dst_z]
  rw [zst_put (o := 1) (j := 1) rfl rfl]
  simp only [List.set_cons_succ, List.set_cons_zero]
  rw [zst_new]
  simp only [List.length_cons, List.length_nil, Nat.zero_add, Nat.reduceAdd, List.cons_append, List.nil_append, dst_z]
  rw [zst_put (o := 1) (j := 2) rfl rfl]
  simp only [List.set_cons_succ, List.set_cons_zero]
  rw [zst_new]
  simp only [List.length_cons, List.length_nil, Nat.zero_add, Nat.reduceAdd, List.cons_append, List.nil_append, dst_z]
  rw [zst_put (o := 1) (j := 3) rfl rfl]
  simp only [List.set_cons_succ, List.set_cons_zero]
  rw [zst_new]
  simp only [List.length_cons, List.length_nil, Nat.zero_add, Nat.reduceAdd, List.cons_append, List.nil_append, dst_z]
  rw [zst_put (o := 1) (j := 4) rfl rfl]
  simp only [List.set_cons_succ, List.set_cons_zero]
  rw [zst_new]
  simp only [List.length_cons, List.length_nil, Nat.zero_add, Nat.reduceAdd, List.cons_append, List.nil_append, dst_z]
  rw [zst_put (o := 1) (j := 5) rfl rfl]
  simp only [List.set_cons_succ, List.set_cons_zero]
  rw [zst_new]
  simp only [List.length_cons, List.length_nil, Nat.zero_add, Nat.reduceAdd, List.cons_append, List.nil_append, dst_z]
  rw [zst_put (o := 1) (j := 6) rfl rfl]
  simp only [List.set_cons_succ, List.set_cons_zero]
theorem mk_Hearers : f_Hearers_init (zst z a [.inr (.inr (3, [some (some (a + 1)), some none, some none, some none, some none, none, none, none, none])), .inr (.inr (6, [some (some (a + 2)), some (some (a + 3)), some (some (a + 4)), some (some (a + 5)), some (some (a + 6)), some (some (a + 7)), some (some (a + 8)), none])), .inl (0, 4), .inl (0, 4), .inl (0, 4), .inl (0, 4), .inl (0, 4), .inl (0, 4), .inl (2, 4), .inr (.inr (4, [some none, some none, some none, some none, some none, some none, none, none]))]) (dst D a 10 z0F) (a + 9) = some (zst z a [.inr (.inr (3, [some (some (a + 1)), some none, some none, some none, some none, none, none, none, none])), .inr (.inr (6, [some (some (a + 2)), some (some (a + 3)), some (some (a + 4)), some (some (a + 5)), some (some (a + 6)), some (some (a + 7)), some (some (a + 8)), none])), .inl (0, 4), .inl (0, 4), .inl (0, 4), .inl (0, 4), .inl (0, 4), .inl (0, 4), .inl (2, 4), .inr (.inr (4, [some (some (a + 10)), some (some (a + 11)), some (some (a + 12)), some (some (a + 13)), some (some (a + 14)), some (some (a + 15)), none, none])), .inl (0, 4), .inl (0, 4), .inl (0, 4), .inl (0, 4), .inl (0, 4), .inl (0, 4)], dst D a 16 z0F) := by
  unfold f_Hearers_init
  rw [zst_new]
  simp only [List.length_cons, List.length_nil, Nat.zero_add, Nat.reduceAdd, List.cons_append, List.nil_append, dst_z]
  rw [zst_put (o := 9) (j := 0) rfl rfl]
  simp only [List.set_cons_succ, List.set_cons_zero]
  rw [zst_new]
  simp only [List.length_cons, List.length_nil, Nat.zero_add, Nat.reduceAdd, List.cons_append, List.nil_append, dst_z]
  rw [zst_put (o := 9) (j := 1) rfl rfl]
  simp only [List.set_cons_succ, List.set_cons_zero]
  rw [zst_new]
  simp only [List.length_cons, List.length_nil, Nat.zero_add, Nat.reduceAdd, List.cons_append, List.nil_append, dst_z]
  rw [zst_put (o := 9) (j := 2) rfl rfl]
  simp only [List.set_cons_succ, List.set_cons_zero]
  rw [zst_new]
  simp only [List.length_cons, List.length_nil, Nat.zero_add, Nat.reduceAdd, List.cons_append, List.nil_append, dst_z]
  rw [zst_put (o := 9) (j := 3) rfl rfl]
  simp only [List.set_cons_succ, List.set_cons_zero]
  rw [zst_new]
  simp only [List.length_cons, List.length_nil, Nat.zero_add, Nat.reduceAdd, List.cons_append, List.nil_append, dst_z]
  rw [zst_put (o := 9) (j := 4) rfl rfl]
  simp only [List.set_cons_succ, List.set_cons_zero]
  rw [zst_new]
  simp only [List.length_cons, List.length_nil, Nat.zero_add, Nat.reduceAdd, List.cons_append, List.nil_append, dst_z]
  rw [zst_put (o := 9) (j := 5) rfl rfl]
  simp only [List.set_cons_succ, List.set_cons_zero]
theorem mk_Walls : f_Walls_init (zst z a [.inr (.inr (3, [some (some (a + 1)), some (some (a + 9)), some none, some none, some none, none, none, none, none])), .inr (.inr (6, [some (some (a + 2)), some (some (a + 3)), some (some (a + 4)), some (some (a + 5)), some (some (a + 6)), some (some (a + 7)), some (some (a + 8)), none])), .inl (0, 4), .inl (0, 4), .inl (0, 4), .inl (0, 4), .inl (0, 4), .inl (0, 4), .inl (2, 4), .inr (.inr (4, [some (some (a + 10)), some (some (a + 11)), some (some (a + 12)), some (some (a + 13)), some (some (a + 14)), some (some (a + 15)), none, none])), .inl (0, 4), .inl (0, 4), .inl (0, 4), .inl (0, 4), .inl (0, 4), .inl (0, 4), .inr (.inr (7, [some none, some none, none]))]) (dst D a 17 z0F) (a + 16) = some (zst z a [.inr (.inr (3, [some (some (a + 1)), some (some (a + 9)), some none, some none, some none, none, none, none, none])), .inr (.inr (6, [some (some (a + 2)), some (some (a + 3)), some (some (a + 4)), some (some (a + 5)), some (some (a + 6)), some (some (a + 7)), some (some (a + 8)), none])), .inl (0, 4), .inl (0, 4), .inl (0, 4), .inl (0, 4), .inl (0, 4), .inl (0, 4), .inl (2, 4), .inr (.inr (4, [some (some (a + 10)), some (some (a + 11)), some (some (a + 12)), some (some (a + 13)), some (some (a + 14)), some (some (a + 15)), none, none])), .inl (0, 4), .inl (0, 4), .inl (0, 4), .inl (0, 4), .inl (0, 4), .inl (0, 4), .inr (.inr (7, [some (some (a + 17)), some (some (a + 18)), none])), .inl (2, 3), .inl (0, 3)], dst D a 19 z0F) := by
  unfold f_Walls_init
  rw [zst_new]
  simp only [List.length_cons, List.length_nil, Nat.zero_add, Nat.reduceAdd, List.cons_append, List.nil_append, dst_z]
  rw [zst_put (o := 16) (j := 0) rfl rfl]
  simp only [List.set_cons_succ, List.set_cons_zero]
  rw [zst_new]
  simp only [List.length_cons, List.length_nil, Nat.zero_add, Nat.reduceAdd, List.cons_append, List.nil_append, dst_z]
  rw [zst_put (o := 16) (j := 1) rfl rfl]
  simp only [List.set_cons_succ, List.set_cons_zero]
theorem mk_Pulses : f_Pulses_init (zst z a [.inr (.inr (3, [some (some (a + 1)), some (some (a + 9)), some (some (a + 16)), some none, some none, none, none, none, none])), .inr (.inr (6, [some (some (a + 2)), some (some (a + 3)), some (some (a + 4)), some (some (a + 5)), some (some (a + 6)), some (some (a + 7)), some (some (a + 8)), none])), .inl (0, 4), .inl (0, 4), .inl (0, 4), .inl (0, 4), .inl (0, 4), .inl (0, 4), .inl (2, 4), .inr (.inr (4, [some (some (a + 10)), some (some (a + 11)), some (some (a + 12)), some (some (a + 13)), some (some (a + 14)), some (some (a + 15)), none, none])), .inl (0, 4), .inl (0, 4), .inl (0, 4), .inl (0, 4), .inl (0, 4), .inl (0, 4), .inr (.inr (7, [some (some (a + 17)), some (some (a + 18)), none])), .inl (2, 3), .inl (0, 3), .inr (.inr (5, [some none, some none, some none, some none, some none, some none, none, none]))]) (dst D a 20 z0F) (a + 19) = some (zst z a [.inr (.inr (3, [some (some (a + 1)), some (some (a + 9)), some (some (a + 16)), some none, some none, none, none, none, none])), .inr (.inr (6, [some (some (a + 2)), some (some (a + 3)), some (some (a + 4)), some (some (a + 5)), some (some (a + 6)), some (some (a + 7)), some (some (a + 8)), none])), .inl (0, 4), .inl (0, 4), .inl (0, 4), .inl (0, 4), .inl (0, 4), .inl (0, 4), .inl (2, 4), .inr (.inr (4, [some (some (a + 10)), some (some (a + 11)), some (some (a + 12)), some (some (a + 13)), some (some (a + 14)), some (some (a + 15)), none, none])), .inl (0, 4), .inl (0, 4), .inl (0, 4), .inl (0, 4), .inl (0, 4), .inl (0, 4), .inr (.inr (7, [some (some (a + 17)), some (some (a + 18)), none])), .inl (2, 3), .inl (0, 3), .inr (.inr (5, [some (some (a + 20)), some (some (a + 21)), some (some (a + 22)), some (some (a + 23)), some (some (a + 24)), some (some (a + 25)), none, none])), .inl (0, 60), .inl (0, 60), .inl (0, 60), .inl (0, 60), .inl (0, 60), .inl (0, 60)], dst D a 26 z0F) := by
  unfold f_Pulses_init
  rw [zst_new]
  simp only [List.length_cons, List.length_nil, Nat.zero_add, Nat.reduceAdd, List.cons_append, List.nil_append, dst_z]
  rw [zst_put (o := 19) (j := 0) rfl rfl]
  simp only [List.set_cons_succ, List.set_cons_zero]
  rw [zst_new]
  simp only [List.length_cons, List.length_nil, Nat.zero_add, Nat.reduceAdd, List.cons_append, List.nil_append, dst_z]
  rw [zst_put (o := 19) (j := 1) rfl rfl]
  simp only [List.set_cons_succ, List.set_cons_zero]
  rw [zst_new]
  simp only [List.length_cons, List.length_nil, Nat.zero_add, Nat.reduceAdd, List.cons_append, List.nil_append, dst_z]
  rw [zst_put (o := 19) (j := 2) rfl rfl]
  simp only [List.set_cons_succ, List.set_cons_zero]
  rw [zst_new]
  simp only [List.length_cons, List.length_nil, Nat.zero_add, Nat.reduceAdd, List.cons_append, List.nil_append, dst_z]
  rw [zst_put (o := 19) (j := 3) rfl rfl]
  simp only [List.set_cons_succ, List.set_cons_zero]
  rw [zst_new]
  simp only [List.length_cons, List.length_nil, Nat.zero_add, Nat.reduceAdd, List.cons_append, List.nil_append, dst_z]
  rw [zst_put (o := 19) (j := 4) rfl rfl]
  simp only [List.set_cons_succ, List.set_cons_zero]
  rw [zst_new]
  simp only [List.length_cons, List.length_nil, Nat.zero_add, Nat.reduceAdd, List.cons_append, List.nil_append, dst_z]
  rw [zst_put (o := 19) (j := 5) rfl rfl]
  simp only [List.set_cons_succ, List.set_cons_zero]
theorem mk_Ears : f_Ears_init (zst z a [.inr (.inr (3, [some (some (a + 1)), some (some (a + 9)), some (some (a + 16)), some (some (a + 19)), some none, none, none, none, none])), .inr (.inr (6, [some (some (a + 2)), some (some (a + 3)), some (some (a + 4)), some (some (a + 5)), some (some (a + 6)), some (some (a + 7)), some (some (a + 8)), none])), .inl (0, 4), .inl (0, 4), .inl (0, 4), .inl (0, 4), .inl (0, 4), .inl (0, 4), .inl (2, 4), .inr (.inr (4, [some (some (a + 10)), some (some (a + 11)), some (some (a + 12)), some (some (a + 13)), some (some (a + 14)), some (some (a + 15)), none, none])), .inl (0, 4), .inl (0, 4), .inl (0, 4), .inl (0, 4), .inl (0, 4), .inl (0, 4), .inr (.inr (7, [some (some (a + 17)), some (some (a + 18)), none])), .inl (2, 3), .inl (0, 3), .inr (.inr (5, [some (some (a + 20)), some (some (a + 21)), some (some (a + 22)), some (some (a + 23)), some (some (a + 24)), some (some (a + 25)), none, none])), .inl (0, 60), .inl (0, 60), .inl (0, 60), .inl (0, 60), .inl (0, 60), .inl (0, 60), .inr (.inr (1, [some none, some none, some none, some none, some none, some none, none, none, none]))]) (dst D a 27 z0F) (a + 26) = some (zst z a [.inr (.inr (3, [some (some (a + 1)), some (some (a + 9)), some (some (a + 16)), some (some (a + 19)), some none, none, none, none, none])), .inr (.inr (6, [some (some (a + 2)), some (some (a + 3)), some (some (a + 4)), some (some (a + 5)), some (some (a + 6)), some (some (a + 7)), some (some (a + 8)), none])), .inl (0, 4), .inl (0, 4), .inl (0, 4), .inl (0, 4), .inl (0, 4), .inl (0, 4), .inl (2, 4), .inr (.inr (4, [some (some (a + 10)), some (some (a + 11)), some (some (a + 12)), some (some (a + 13)), some (some (a + 14)), some (some (a + 15)), none, none])), .inl (0, 4), .inl (0, 4), .inl (0, 4), .inl (0, 4), .inl (0, 4), .inl (0, 4), .inr (.inr (7, [some (some (a + 17)), some (some (a + 18)), none])), .inl (2, 3), .inl (0, 3), .inr (.inr (5, [some (some (a + 20)), some (some (a + 21)), some (some (a + 22)), some (some (a + 23)), some (some (a + 24)), some (some (a + 25)), none, none])), .inl (0, 60), .inl (0, 60), .inl (0, 60), .inl (0, 60), .inl (0, 60), .inl (0, 60), .inr (.inr (1, [some (some (a + 27)), some (some (a + 28)), some (some (a + 29)), some (some (a + 30)), some (some (a + 31)), some (some (a + 32)), none, none, none])), .inl (0, 16), .inl (0, 16), .inl (0, 16), .inl (0, 16), .inl (0, 16), .inl (0, 16)], zset (zset (zset (dst D a 33 z0F) (a + 30) (fun j => if j < 16 then -1 else 0)) (a + 31) (fun j => if j < 16 then -1 else 0)) (a + 32) (fun j => if j < 16 then -1 else 0)) := by
  unfold f_Ears_init
  rw [zst_new]
  simp only [List.length_cons, List.length_nil, Nat.zero_add, Nat.reduceAdd, List.cons_append, List.nil_append, dst_z]
  rw [zst_put (o := 26) (j := 0) rfl rfl]
  simp only [List.set_cons_succ, List.set_cons_zero]
  rw [zst_new]
  simp only [List.length_cons, List.length_nil, Nat.zero_add, Nat.reduceAdd, List.cons_append, List.nil_append, dst_z]
  rw [zst_put (o := 26) (j := 1) rfl rfl]
  simp only [List.set_cons_succ, List.set_cons_zero]
  rw [zst_new]
  simp only [List.length_cons, List.length_nil, Nat.zero_add, Nat.reduceAdd, List.cons_append, List.nil_append, dst_z]
  rw [zst_put (o := 26) (j := 2) rfl rfl]
  simp only [List.set_cons_succ, List.set_cons_zero]
  rw [zst_new]
  simp only [List.length_cons, List.length_nil, Nat.zero_add, Nat.reduceAdd, List.cons_append, List.nil_append, dst_z]
  rw [zst_put (o := 26) (j := 3) rfl rfl]
  simp only [List.set_cons_succ, List.set_cons_zero]
  rw [zst_new]
  simp only [List.length_cons, List.length_nil, Nat.zero_add, Nat.reduceAdd, List.cons_append, List.nil_append, dst_z]
  rw [zst_put (o := 26) (j := 4) rfl rfl]
  simp only [List.set_cons_succ, List.set_cons_zero]
  rw [zst_new]
  simp only [List.length_cons, List.length_nil, Nat.zero_add, Nat.reduceAdd, List.cons_append, List.nil_append, dst_z]
  rw [zst_put (o := 26) (j := 5) rfl rfl]
  simp only [List.set_cons_succ, List.set_cons_zero]
  have hE3 : (zst z a [.inr (.inr (3, [some (some (a + 1)), some (some (a + 9)), some (some (a + 16)), some (some (a + 19)), some none, none, none, none, none])), .inr (.inr (6, [some (some (a + 2)), some (some (a + 3)), some (some (a + 4)), some (some (a + 5)), some (some (a + 6)), some (some (a + 7)), some (some (a + 8)), none])), .inl (0, 4), .inl (0, 4), .inl (0, 4), .inl (0, 4), .inl (0, 4), .inl (0, 4), .inl (2, 4), .inr (.inr (4, [some (some (a + 10)), some (some (a + 11)), some (some (a + 12)), some (some (a + 13)), some (some (a + 14)), some (some (a + 15)), none, none])), .inl (0, 4), .inl (0, 4), .inl (0, 4), .inl (0, 4), .inl (0, 4), .inl (0, 4), .inr (.inr (7, [some (some (a + 17)), some (some (a + 18)), none])), .inl (2, 3), .inl (0, 3), .inr (.inr (5, [some (some (a + 20)), some (some (a + 21)), some (some (a + 22)), some (some (a + 23)), some (some (a + 24)), some (some (a + 25)), none, none])), .inl (0, 60), .inl (0, 60), .inl (0, 60), .inl (0, 60), .inl (0, 60), .inl (0, 60), .inr (.inr (1, [some (some (a + 27)), some (some (a + 28)), some (some (a + 29)), some (some (a + 30)), some (some (a + 31)), some (some (a + 32)), none, none, none])), .inl (0, 16), .inl (0, 16), .inl (0, 16), .inl (0, 16), .inl (0, 16), .inl (0, 16)]).2.1 (a + 30) = some (.inl (0, 16)) := (zst_at (L := [.inr (.inr (3, [some (some (a + 1)), some (some (a + 9)), some (some (a + 16)), some (some (a + 19)), some none, none, none, none, none])), .inr (.inr (6, [some (some (a + 2)), some (some (a + 3)), some (some (a + 4)), some (some (a + 5)), some (some (a + 6)), some (some (a + 7)), some (some (a + 8)), none])), .inl (0, 4), .inl (0, 4), .inl (0, 4), .inl (0, 4), .inl (0, 4), .inl (0, 4), .inl (2, 4), .inr (.inr (4, [some (some (a + 10)), some (some (a + 11)), some (some (a + 12)), some (some (a + 13)), some (some (a + 14)), some (some (a + 15)), none, none])), .inl (0, 4), .inl (0, 4), .inl (0, 4), .inl (0, 4), .inl (0, 4), .inl (0, 4), .inr (.inr (7, [some (some (a + 17)), some (some (a + 18)), none])), .inl (2, 3), .inl (0, 3), .inr (.inr (5, [some (some (a + 20)), some (some (a + 21)), some (some (a + 22)), some (some (a + 23)), some (some (a + 24)), some (some (a + 25)), none, none])), .inl (0, 60), .inl (0, 60), .inl (0, 60), .inl (0, 60), .inl (0, 60), .inl (0, 60), .inr (.inr (1, [some (some (a + 27)), some (some (a + 28)), some (some (a + 29)), some (some (a + 30)), some (some (a + 31)), some (some (a + 32)), none, none, none])), .inl (0, 16), .inl (0, 16), .inl (0, 16), .inl (0, 16), .inl (0, 16), .inl (0, 16)]) (o := 30) (show 30 < 33 from by decide)).trans rfl
  rw [zst_ref (o := 26) (j := 3) rfl rfl, zcvX (c_fill (r := a + 30) hE3)]
  have hE4 : (zst z a [.inr (.inr (3, [some (some (a + 1)), some (some (a + 9)), some (some (a + 16)), some (some (a + 19)), some none, none, none, none, none])), .inr (.inr (6, [some (some (a + 2)), some (some (a + 3)), some (some (a + 4)), some (some (a + 5)), some (some (a + 6)), some (some (a + 7)), some (some (a + 8)), none])), .inl (0, 4), .inl (0, 4), .inl (0, 4), .inl (0, 4), .inl (0, 4), .inl (0, 4), .inl (2, 4), .inr (.inr (4, [some (some (a + 10)), some (some (a + 11)), some (some (a + 12)), some (some (a + 13)), some (some (a + 14)), some (some (a + 15)), none, none])), .inl (0, 4), .inl (0, 4), .inl (0, 4), .inl (0, 4), .inl (0, 4), .inl (0, 4), .inr (.inr (7, [some (some (a + 17)), some (some (a + 18)), none])), .inl (2, 3), .inl (0, 3), .inr (.inr (5, [some (some (a + 20)), some (some (a + 21)), some (some (a + 22)), some (some (a + 23)), some (some (a + 24)), some (some (a + 25)), none, none])), .inl (0, 60), .inl (0, 60), .inl (0, 60), .inl (0, 60), .inl (0, 60), .inl (0, 60), .inr (.inr (1, [some (some (a + 27)), some (some (a + 28)), some (some (a + 29)), some (some (a + 30)), some (some (a + 31)), some (some (a + 32)), none, none, none])), .inl (0, 16), .inl (0, 16), .inl (0, 16), .inl (0, 16), .inl (0, 16), .inl (0, 16)]).2.1 (a + 31) = some (.inl (0, 16)) := (zst_at (L := [.inr (.inr (3, [some (some (a + 1)), some (some (a + 9)), some (some (a + 16)), some (some (a + 19)), some none, none, none, none, none])), .inr (.inr (6, [some (some (a + 2)), some (some (a + 3)), some (some (a + 4)), some (some (a + 5)), some (some (a + 6)), some (some (a + 7)), some (some (a + 8)), none])), .inl (0, 4), .inl (0, 4), .inl (0, 4), .inl (0, 4), .inl (0, 4), .inl (0, 4), .inl (2, 4), .inr (.inr (4, [some (some (a + 10)), some (some (a + 11)), some (some (a + 12)), some (some (a + 13)), some (some (a + 14)), some (some (a + 15)), none, none])), .inl (0, 4), .inl (0, 4), .inl (0, 4), .inl (0, 4), .inl (0, 4), .inl (0, 4), .inr (.inr (7, [some (some (a + 17)), some (some (a + 18)), none])), .inl (2, 3), .inl (0, 3), .inr (.inr (5, [some (some (a + 20)), some (some (a + 21)), some (some (a + 22)), some (some (a + 23)), some (some (a + 24)), some (some (a + 25)), none, none])), .inl (0, 60), .inl (0, 60), .inl (0, 60), .inl (0, 60), .inl (0, 60), .inl (0, 60), .inr (.inr (1, [some (some (a + 27)), some (some (a + 28)), some (some (a + 29)), some (some (a + 30)), some (some (a + 31)), some (some (a + 32)), none, none, none])), .inl (0, 16), .inl (0, 16), .inl (0, 16), .inl (0, 16), .inl (0, 16), .inl (0, 16)]) (o := 31) (show 31 < 33 from by decide)).trans rfl
  rw [zst_ref (o := 26) (j := 4) rfl rfl, zcvX (c_fill (r := a + 31) hE4)]
  have hE5 : (zst z a [.inr (.inr (3, [some (some (a + 1)), some (some (a + 9)), some (some (a + 16)), some (some (a + 19)), some none, none, none, none, none])), .inr (.inr (6, [some (some (a + 2)), some (some (a + 3)), some (some (a + 4)), some (some (a + 5)), some (some (a + 6)), some (some (a + 7)), some (some (a + 8)), none])), .inl (0, 4), .inl (0, 4), .inl (0, 4), .inl (0, 4), .inl (0, 4), .inl (0, 4), .inl (2, 4), .inr (.inr (4, [some (some (a + 10)), some (some (a + 11)), some (some (a + 12)), some (some (a + 13)), some (some (a + 14)), some (some (a + 15)), none, none])), .inl (0, 4), .inl (0, 4), .inl (0, 4), .inl (0, 4), .inl (0, 4), .inl (0, 4), .inr (.inr (7, [some (some (a + 17)), some (some (a + 18)), none])), .inl (2, 3), .inl (0, 3), .inr (.inr (5, [some (some (a + 20)), some (some (a + 21)), some (some (a + 22)), some (some (a + 23)), some (some (a + 24)), some (some (a + 25)), none, none])), .inl (0, 60), .inl (0, 60), .inl (0, 60), .inl (0, 60), .inl (0, 60), .inl (0, 60), .inr (.inr (1, [some (some (a + 27)), some (some (a + 28)), some (some (a + 29)), some (some (a + 30)), some (some (a + 31)), some (some (a + 32)), none, none, none])), .inl (0, 16), .inl (0, 16), .inl (0, 16), .inl (0, 16), .inl (0, 16), .inl (0, 16)]).2.1 (a + 32) = some (.inl (0, 16)) := (zst_at (L := [.inr (.inr (3, [some (some (a + 1)), some (some (a + 9)), some (some (a + 16)), some (some (a + 19)), some none, none, none, none, none])), .inr (.inr (6, [some (some (a + 2)), some (some (a + 3)), some (some (a + 4)), some (some (a + 5)), some (some (a + 6)), some (some (a + 7)), some (some (a + 8)), none])), .inl (0, 4), .inl (0, 4), .inl (0, 4), .inl (0, 4), .inl (0, 4), .inl (0, 4), .inl (2, 4), .inr (.inr (4, [some (some (a + 10)), some (some (a + 11)), some (some (a + 12)), some (some (a + 13)), some (some (a + 14)), some (some (a + 15)), none, none])), .inl (0, 4), .inl (0, 4), .inl (0, 4), .inl (0, 4), .inl (0, 4), .inl (0, 4), .inr (.inr (7, [some (some (a + 17)), some (some (a + 18)), none])), .inl (2, 3), .inl (0, 3), .inr (.inr (5, [some (some (a + 20)), some (some (a + 21)), some (some (a + 22)), some (some (a + 23)), some (some (a + 24)), some (some (a + 25)), none, none])), .inl (0, 60), .inl (0, 60), .inl (0, 60), .inl (0, 60), .inl (0, 60), .inl (0, 60), .inr (.inr (1, [some (some (a + 27)), some (some (a + 28)), some (some (a + 29)), some (some (a + 30)), some (some (a + 31)), some (some (a + 32)), none, none, none])), .inl (0, 16), .inl (0, 16), .inl (0, 16), .inl (0, 16), .inl (0, 16), .inl (0, 16)]) (o := 32) (show 32 < 33 from by decide)).trans rfl
  rw [zst_ref (o := 26) (j := 5) rfl rfl, zcvX (c_fill (r := a + 32) hE5)]
  have hz : ∀ q, q < 33 → dst D a 33 z0F (a + q) = fun _ => 0 := fun q hq => by unfold dst; rw [if_pos (by omega)]; rfl
  rw [zset_ne (show a + 32 ≠ a + 31 by omega), zset_ne (show a + 32 ≠ a + 30 by omega), zset_ne (show a + 31 ≠ a + 30 by omega), hz 30 (by decide), hz 31 (by decide), hz 32 (by decide)]
theorem mk_Field : f_Field_init (zst z a [e0F]) (dst D a 1 z0F) a = some (zst z a (shL a), zup (zup (zset (zset (zset (dst D a 33 z0F) (a + 30) (fun j => if j < 16 then -1 else 0)) (a + 31) (fun j => if j < 16 then -1 else 0)) (a + 32) (fun j => if j < 16 then -1 else 0)) a 7 3) a 8 40) := by
  unfold f_Field_init e0F
  rw [zst_new]
  simp only [List.length_cons, List.length_nil, Nat.zero_add, Nat.reduceAdd, List.cons_append, List.nil_append, dst_z]
  rw [zccX mk_Sirens, zst_put0 (j := 0) rfl rfl]
  simp only [List.set_cons_succ, List.set_cons_zero]
  rw [zst_new]
  simp only [List.length_cons, List.length_nil, Nat.zero_add, Nat.reduceAdd, List.cons_append, List.nil_append, dst_z]
  rw [zccX mk_Hearers, zst_put0 (j := 1) rfl rfl]
  simp only [List.set_cons_succ, List.set_cons_zero]
  rw [zst_new]
  simp only [List.length_cons, List.length_nil, Nat.zero_add, Nat.reduceAdd, List.cons_append, List.nil_append, dst_z]
  rw [zccX mk_Walls, zst_put0 (j := 2) rfl rfl]
  simp only [List.set_cons_succ, List.set_cons_zero]
  rw [zst_new]
  simp only [List.length_cons, List.length_nil, Nat.zero_add, Nat.reduceAdd, List.cons_append, List.nil_append, dst_z]
  rw [zccX mk_Pulses, zst_put0 (j := 3) rfl rfl]
  simp only [List.set_cons_succ, List.set_cons_zero]
  rw [zst_new]
  simp only [List.length_cons, List.length_nil, Nat.zero_add, Nat.reduceAdd, List.cons_append, List.nil_append, dst_z]
  rw [zccX mk_Ears, zst_put0 (j := 4) rfl rfl]
  simp only [List.set_cons_succ, List.set_cons_zero]
  have hA : (zst z a (shL a)).2.1 a = (shL a)[0]? := zst_at (o := 0) (show 0 < 33 from by decide)
  show zput (zst z a (shL a)).2 _ 3 7 a 3 _ = _
  refine (zput_of hA rfl).trans ?_
  exact zput_of hA rfl
theorem field_step {z : zT} {D : zD} : ∃ z' D', (∀ K : Nat → zT → zD → Option β, znew z D e0F (fun q z1 D1 => zcc (f_Field_init z1 D1 q) (fun z2 D2 => K q z2 D2)) = K z.1 z' D') ∧ z'.1 = z.1 + 33 ∧ (∀ o, o < 33 → z'.2.1 (z.1 + o) = (shL z.1)[o]?) ∧ (∀ q, q < z.1 → z'.2.1 q = z.2.1 q) ∧ (∀ o j, o < 33 → D' (z.1 + o) j = fr o j) ∧ (∀ q, q < z.1 → D' q = D q) ∧ (∀ q, q < z.1 → z'.2.2.1 q = z.2.2.1 q) ∧ z'.2.2.2 = z.2.2.2 := by
  refine ⟨zst z z.1 (shL z.1), zup (zup (zset (zset (zset (dst D z.1 33 z0F) (z.1 + 30) (fun j => if j < 16 then -1 else 0)) (z.1 + 31) (fun j => if j < 16 then -1 else 0)) (z.1 + 32) (fun j => if j < 16 then -1 else 0)) z.1 7 3) z.1 8 40, fun K => ?_, rfl, fun o ho => zst_at ho, fun q hq => ?_, fun o j ho => ?_, fun q hq => ?_, fun q hq => ?_, rfl⟩
  · have h := zst_new (z := z) (a := z.1) (L := []) (D := dst D z.1 0 z0F) (e := e0F) (k := fun q z1 D1 => zcc (f_Field_init z1 D1 q) (fun z2 D2 => K q z2 D2))
    rw [zst_nil rfl, dst_0] at h
    rw [h]
    have hd : zclr D (z.1 + List.length ([] : List zS)) = dst D z.1 1 z0F := by
      have := dst_z (D := D) (a := z.1) (m := 0)
      rw [dst_0] at this
      exact this
    rw [hd]
    exact zccX mk_Field
  · show (if z.1 ≤ q ∧ q < z.1 + 33 then _ else _) = _
    rw [if_neg (by omega)]
  · have hdz : ∀ q, q < 33 → ∀ j, dst D z.1 33 z0F (z.1 + q) j = 0 := fun q hq j => by unfold dst; rw [if_pos (by omega)]; rfl
    unfold fr
    by_cases h0 : o = 0
    · subst h0
      have e0 : z.1 + 0 = z.1 := rfl
      by_cases h8 : j = 8
      · subst h8; rw [if_neg (by omega), if_pos ⟨rfl, rfl⟩]; exact zup_at
      · by_cases h7 : j = 7
        · subst h7; rw [if_pos ⟨rfl, rfl⟩, e0, zup_aj (by decide), zup_at]
        · rw [if_neg (by omega), if_neg (by omega), if_neg (by omega), e0, zup_aj h8, zup_aj h7, zset_ne (by omega), zset_ne (by omega), zset_ne (by omega)]
          exact hdz 0 (by decide) j
    · rw [if_neg (by omega), if_neg (by omega), zup_ne (by omega), zup_ne (by omega)]
      by_cases h30 : o = 30
      · subst h30; rw [zset_ne (by omega), zset_ne (by omega), zset_at]
        by_cases hj : j < 16
        · simp [hj]
        · simp [hj]
      · by_cases h31 : o = 31
        · subst h31; rw [zset_ne (by omega), zset_at]
          by_cases hj : j < 16
          · simp [hj]
          · simp [hj]
        · by_cases h32 : o = 32
          · subst h32; rw [zset_at]
            by_cases hj : j < 16
            · simp [hj]
            · simp [hj]
          · rw [zset_ne (by omega), zset_ne (by omega), zset_ne (by omega), if_neg (by omega)]
            exact hdz o ho j
  · rw [zup_ne (by omega), zup_ne (by omega), zset_ne (by omega), zset_ne (by omega), zset_ne (by omega)]
    unfold dst; rw [if_neg (by omega)]
  · funext j
    show (if z.1 ≤ q ∧ q < z.1 + 33 then _ else _) = _
    rw [if_neg (by omega)]

end P73
