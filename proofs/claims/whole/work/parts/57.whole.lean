/-! PURE: where all lies: a SirenFair at s, its model at s + 634. -/
def WL (w : zW) (s : Nat) : Prop := (w.1 s = some (.inr (.inr (0, [some (some (s + 1)), some (some (s + 4)), some (some (s + 37)), some (some (s + 70)), some (some (s + 103)), none, none, some (some (s + 566)), some (some (s + 633))]))) ∧ w.1 (s + 1) = some (.inr (.inr (2, [some (some (s + 2)), none, none, none, some (some (s + 3))]))) ∧ w.1 (s + 2) = some (.inl (1, 120)) ∧ w.1 (s + 3) = some (.inl (0, 5))) ∧ (LF w (s + 4) ∧ LF w (s + 37) ∧ LF w (s + 70)) ∧ ((∃ φ, w.1 (s + 103) = some (.inr (.inl (14, φ))) ∧ ∀ i, i < 14 → φ i = some (s + 104 + 33 * i)) ∧ ∀ i, i < 14 → LF w (s + 104 + 33 * i)) ∧ ((∃ φ, w.1 (s + 566) = some (.inr (.inl (2, φ))) ∧ ∀ i, i < 2 → φ i = some (s + 567 + 33 * i)) ∧ (∀ i, i < 2 → LF w (s + 567 + 33 * i)) ∧ w.1 (s + 633) = some (.inl (2, 2))) ∧ (w.1 (s + 634) = some (.inr (.inr (8, [none, some (some (s + 635)), none, some (some (s + 636)), some (some (s + 637)), some (some (s + 638)), none, some (some (s + 639)), some (some (s + 640)), none, none]))) ∧ w.1 (s + 635) = some (.inl (0, 120)) ∧ w.1 (s + 636) = some (.inl (0, 521)) ∧ w.1 (s + 637) = some (.inl (0, 521)) ∧ w.1 (s + 638) = some (.inl (0, 7294)) ∧ w.1 (s + 639) = some (.inl (0, 1042)) ∧ w.1 (s + 640) = some (.inl (2, 2))) ∧ (w.1 w.2.2 = some (.inl (5, 4)) ∧ w.2.1 w.2.2 0 = 1 ∧ w.2.1 w.2.2 1 = 100000 ∧ w.2.1 w.2.2 2 = 10000000000 ∧ w.2.1 w.2.2 3 = 1000000000000000)
section P57
variable {β : Type} {w : zW} {D : zD} {s : Nat}
theorem WSo (h : WL w s) {k : Option β} : zobj w 0 s k = k := zobj_of h.1.1
theorem WSr0 (h : WL w s) {k : Nat → Option β} : zref w 0 0 s k = k (s + 1) := zref_of h.1.1 rfl
theorem WSr1 (h : WL w s) {k : Nat → Option β} : zref w 0 1 s k = k (s + 4) := zref_of h.1.1 rfl
theorem WSr2 (h : WL w s) {k : Nat → Option β} : zref w 0 2 s k = k (s + 37) := zref_of h.1.1 rfl
theorem WSr3 (h : WL w s) {k : Nat → Option β} : zref w 0 3 s k = k (s + 70) := zref_of h.1.1 rfl
theorem WSr4 (h : WL w s) {k : Nat → Option β} : zref w 0 4 s k = k (s + 103) := zref_of h.1.1 rfl
theorem WSg5 (h : WL w s) {k : Int32 → Option β} : zfld w D 0 5 s k = k (D s 5) := zfld_of h.1.1 rfl
theorem WSp5 (h : WL w s) {v : Int32} {k : zD → Option β} : zput w D 0 5 s v k = k (zup D s 5 v) := zput_of h.1.1 rfl
theorem WSg6 (h : WL w s) {k : Int32 → Option β} : zfld w D 0 6 s k = k (D s 6) := zfld_of h.1.1 rfl
theorem WSp6 (h : WL w s) {v : Int32} {k : zD → Option β} : zput w D 0 6 s v k = k (zup D s 6 v) := zput_of h.1.1 rfl
theorem WSr7 (h : WL w s) {k : Nat → Option β} : zref w 0 7 s k = k (s + 566) := zref_of h.1.1 rfl
theorem WSr8 (h : WL w s) {k : Nat → Option β} : zref w 0 8 s k = k (s + 633) := zref_of h.1.1 rfl
theorem WTo (h : WL w s) {k : Option β} : zobj w 2 (s + 1) k = k := zobj_of h.1.2.1
theorem WTr0 (h : WL w s) {k : Nat → Option β} : zref w 2 0 (s + 1) k = k (s + 2) := zref_of h.1.2.1 rfl
theorem WTg1 (h : WL w s) {k : Int32 → Option β} : zfld w D 2 1 (s + 1) k = k (D (s + 1) 1) := zfld_of h.1.2.1 rfl
theorem WTp1 (h : WL w s) {v : Int32} {k : zD → Option β} : zput w D 2 1 (s + 1) v k = k (zup D (s + 1) 1 v) := zput_of h.1.2.1 rfl
theorem WTg2 (h : WL w s) {k : Int32 → Option β} : zfld w D 2 2 (s + 1) k = k (D (s + 1) 2) := zfld_of h.1.2.1 rfl
theorem WTp2 (h : WL w s) {v : Int32} {k : zD → Option β} : zput w D 2 2 (s + 1) v k = k (zup D (s + 1) 2 v) := zput_of h.1.2.1 rfl
theorem WTg3 (h : WL w s) {k : Int32 → Option β} : zfld w D 2 3 (s + 1) k = k (D (s + 1) 3) := zfld_of h.1.2.1 rfl
theorem WTp3 (h : WL w s) {v : Int32} {k : zD → Option β} : zput w D 2 3 (s + 1) v k = k (zup D (s + 1) 3 v) := zput_of h.1.2.1 rfl
theorem WTr4 (h : WL w s) {k : Nat → Option β} : zref w 2 4 (s + 1) k = k (s + 3) := zref_of h.1.2.1 rfl
theorem WMo (h : WL w s) {k : Option β} : zobj w 8 (s + 634) k = k := zobj_of h.2.2.2.2.1.1
theorem WMg0 (h : WL w s) {k : Int32 → Option β} : zfld w D 8 0 (s + 634) k = k (D (s + 634) 0) := zfld_of h.2.2.2.2.1.1 rfl
theorem WMp0 (h : WL w s) {v : Int32} {k : zD → Option β} : zput w D 8 0 (s + 634) v k = k (zup D (s + 634) 0 v) := zput_of h.2.2.2.2.1.1 rfl
theorem WMr1 (h : WL w s) {k : Nat → Option β} : zref w 8 1 (s + 634) k = k (s + 635) := zref_of h.2.2.2.2.1.1 rfl
theorem WMg2 (h : WL w s) {k : Int32 → Option β} : zfld w D 8 2 (s + 634) k = k (D (s + 634) 2) := zfld_of h.2.2.2.2.1.1 rfl
theorem WMp2 (h : WL w s) {v : Int32} {k : zD → Option β} : zput w D 8 2 (s + 634) v k = k (zup D (s + 634) 2 v) := zput_of h.2.2.2.2.1.1 rfl
theorem WMr3 (h : WL w s) {k : Nat → Option β} : zref w 8 3 (s + 634) k = k (s + 636) := zref_of h.2.2.2.2.1.1 rfl
theorem WMr4 (h : WL w s) {k : Nat → Option β} : zref w 8 4 (s + 634) k = k (s + 637) := zref_of h.2.2.2.2.1.1 rfl
theorem WMr5 (h : WL w s) {k : Nat → Option β} : zref w 8 5 (s + 634) k = k (s + 638) := zref_of h.2.2.2.2.1.1 rfl
theorem WMg6 (h : WL w s) {k : Int32 → Option β} : zfld w D 8 6 (s + 634) k = k (D (s + 634) 6) := zfld_of h.2.2.2.2.1.1 rfl
theorem WMp6 (h : WL w s) {v : Int32} {k : zD → Option β} : zput w D 8 6 (s + 634) v k = k (zup D (s + 634) 6 v) := zput_of h.2.2.2.2.1.1 rfl
theorem WMr7 (h : WL w s) {k : Nat → Option β} : zref w 8 7 (s + 634) k = k (s + 639) := zref_of h.2.2.2.2.1.1 rfl
theorem WMr8 (h : WL w s) {k : Nat → Option β} : zref w 8 8 (s + 634) k = k (s + 640) := zref_of h.2.2.2.2.1.1 rfl
theorem WMg9 (h : WL w s) {k : Int32 → Option β} : zfld w D 8 9 (s + 634) k = k (D (s + 634) 9) := zfld_of h.2.2.2.2.1.1 rfl
theorem WMp9 (h : WL w s) {v : Int32} {k : zD → Option β} : zput w D 8 9 (s + 634) v k = k (zup D (s + 634) 9 v) := zput_of h.2.2.2.2.1.1 rfl
theorem WMg10 (h : WL w s) {k : Int32 → Option β} : zfld w D 8 10 (s + 634) k = k (D (s + 634) 10) := zfld_of h.2.2.2.2.1.1 rfl
theorem WMp10 (h : WL w s) {v : Int32} {k : zD → Option β} : zput w D 8 10 (s + 634) v k = k (zup D (s + 634) 10 v) := zput_of h.2.2.2.2.1.1 rfl
theorem WL4 (h : WL w s) : LF w (s + 4) := h.2.1.1
theorem WL37 (h : WL w s) : LF w (s + 37) := h.2.1.2.1
theorem WL70 (h : WL w s) : LF w (s + 70) := h.2.1.2.2
theorem WLr (h : WL w s) {i : Nat} (hi : i < 14) : LF w (s + 104 + 33 * i) := h.2.2.1.2 i hi
theorem WLs (h : WL w s) {i : Nat} (hi : i < 2) : LF w (s + 567 + 33 * i) := h.2.2.2.1.2.1 i hi
theorem Wn (h : WL w s) : w.1 (s + 636) = some (.inl (0, 521)) := h.2.2.2.2.1.2.2.1
theorem Wt (h : WL w s) : w.1 (s + 637) = some (.inl (0, 521)) := h.2.2.2.2.1.2.2.2.1
theorem Wd (h : WL w s) : w.1 (s + 638) = some (.inl (0, 7294)) := h.2.2.2.2.1.2.2.2.2.1
theorem Wk (h : WL w s) : w.1 (s + 639) = some (.inl (0, 1042)) := h.2.2.2.2.1.2.2.2.2.2.1
theorem Wx (h : WL w s) : w.1 (s + 635) = some (.inl (0, 120)) := h.2.2.2.2.1.2.1
theorem Wc (h : WL w s) : w.1 (s + 2) = some (.inl (1, 120)) := h.1.2.2.1
theorem Wu (h : WL w s) : w.1 (s + 3) = some (.inl (0, 5)) := h.1.2.2.2
theorem Wb (h : WL w s) : w.1 (s + 633) = some (.inl (2, 2)) := h.2.2.2.1.2.2
theorem Wb' (h : WL w s) : w.1 (s + 640) = some (.inl (2, 2)) := h.2.2.2.2.1.2.2.2.2.2.2
theorem W4r (h : WL w s) {i : Nat} (hi : i < 14) {k : Nat → Option β} : zald4 w (s + 103) (nI i) k = k (s + 104 + 33 * i) := by
  obtain ⟨φ, h1, h2⟩ := h.2.2.1.1
  unfold zald4
  rw [h1]
  simp only
  rw [if_pos (nI_bnd hi (by decide)), nI_clamp (by omega), h2 i hi]
theorem W4s (h : WL w s) {i : Nat} (hi : i < 2) {k : Nat → Option β} : zald4 w (s + 566) (nI i) k = k (s + 567 + 33 * i) := by
  obtain ⟨φ, h1, h2⟩ := h.2.2.2.1.1
  unfold zald4
  rw [h1]
  simp only
  rw [if_pos (nI_bnd hi (by decide)), nI_clamp (by omega), h2 i hi]
end P57
theorem zup_at {D : zD} {a k : Nat} {v : Int32} : zup D a k v a k = v := by unfold zup; rw [if_pos rfl, if_pos rfl]
theorem zup_aj {D : zD} {a k j : Nat} {v : Int32} (h : j ≠ k) : zup D a k v a j = D a j := by unfold zup; rw [if_pos rfl, if_neg h]
theorem zset_zup {D : zD} {a b k : Nat} {v : Int32} {N : Nat → Int32} (h : a ≠ b) : zset (zup D a k v) b N = zup (zset D b N) a k v := by
  funext q
  by_cases h1 : q = b
  · subst h1; rw [zset_at, zup_ne (Ne.symm h), zset_at]
  · by_cases h2 : q = a
    · subst h2; funext j; rw [zset_ne h1]; unfold zup; simp only [if_pos]; rw [zset_ne h1]
    · rw [zset_ne h1, zup_ne h2, zup_ne h2, zset_ne h1]
-- the state of all
abbrev blk (D : zD) (a : Nat) : Nat → Nat → Int32 := fun o => D (a + o)
abbrev sl (N : Nat → Int32) (o : Nat) : Nat → Int32 := fun i => N (o + i)
def clr (i : Nat) : Int32 := if i = 9 then 3 else if i = 10 then 40 else if 65 ≤ i ∧ i < 161 ∧ 3 ≤ (i - 65) % 6 then -1 else 0
def vIP (D : zD) (s T : Nat) : Prop := RP (blk D (s + 4)) (dev (D (s + 636))) T
def vIB (D : zD) (s : Nat) : Prop := RP (blk D (s + 37)) (dev clr) 0
def vIZ (D : zD) (s : Nat) : Prop := (∀ j, j < 4 → D (s + 70 + 15) j = 0) ∧ (∀ i j, i < 14 → j < 4 → D (s + 104 + 33 * i + 15) j = 0) ∧ (∀ i j, i < 2 → j < 4 → D (s + 567 + 33 * i + 15) j = 0)
def vIT (D : zD) (s : Nat) : Prop := ∃ n, n ≤ 120 ∧ D (s + 1) 1 = nI n ∧ D (s + 634) 2 = nI n ∧ ∀ i, i < n → ∃ c, c < 256 ∧ D (s + 2) i = nI c ∧ D (s + 635) i = nI c
def vIR (D : zD) (s T : Nat) : Prop := ∃ o k, o < 14 ∧ k ≤ 14 ∧ D s 5 = nI o ∧ D s 6 = nI k ∧ D (s + 634) 6 = nI k ∧ ∀ i, i < k → RP (blk D (s + 104 + 33 * ((o + i) % 14))) (dev (sl (D (s + 638)) (521 * i))) T
def vIS (D : zD) (s T : Nat) : Prop := ∀ i, i < 2 → D (s + 633) i = D (s + 640) i ∧ (D (s + 633) i = 0 ∨ D (s + 633) i = 1) ∧ (D (s + 633) i = 1 → RP (blk D (s + 567 + 33 * i)) (dev (sl (D (s + 639)) (521 * i))) T)
def Inv (D : zD) (s T : Nat) : Prop := vIP D s T ∧ vIB D s ∧ vIZ D s ∧ vIT D s ∧ vIR D s T ∧ vIS D s T
theorem RP_congr {F G F' G' : Nat → Nat → Int32} {T : Nat} (h : RP F G T) (hF : ∀ o j, Cp o j → F' o j = F o j) (hZ : ∀ j, j < 4 → F' 15 j = 0) (hG : ∀ o j, Vp o j → G' o j = G o j) : RP F' G' T := by
  obtain ⟨ns, nh, nw, np, d, e, l, t, h1, h2⟩ := h
  exact ⟨ns, nh, nw, np, d, e, l, t, RI_congr h1 hF hZ hG, h2⟩
theorem RP_Z {F G : Nat → Nat → Int32} {T : Nat} (h : RP F G T) : ∀ j, j < 4 → F 15 j = 0 := by
  obtain ⟨ns, nh, nw, np, d, e, l, t, h1, h2⟩ := h
  exact h1.2.2.1
theorem Cp_lt {o j : Nat} (h : Cp o j) : o < 33 := by unfold Cp at h; omega
/-- the same block, the same vector -/
theorem RP_same {D D' : zD} {a T : Nat} {N N' : Nat → Int32} (h : RP (blk D a) (dev N) T) (h1 : ∀ o, o < 33 → D' (a + o) = D (a + o)) (h2 : ∀ i, i < 521 → N' i = N i) : RP (blk D' a) (dev N') T := by
  refine RP_congr h (fun o j hc => ?_) (fun j hj => ?_) (fun o j hv => ?_)
  · show D' (a + o) j = D (a + o) j
    rw [h1 o (Cp_lt hc)]
  · show D' (a + 15) j = 0
    rw [h1 15 (by decide)]; exact RP_Z h j hj
  · exact h2 _ (vp_co hv).1
/-- a copy of both -/
theorem RP_copy {D D' : zD} {a a' T : Nat} {N N' : Nat → Int32} (h : RP (blk D a) (dev N) T) (h1 : ∀ o j, Cp o j → D' (a' + o) j = D (a + o) j) (hZ : ∀ j, j < 4 → D' (a' + 15) j = 0) (h2 : ∀ i, i < 521 → N' i = N i) : RP (blk D' a') (dev N') T :=
  RP_congr h (fun o j hc => h1 o j hc) hZ (fun o j hv => h2 _ (vp_co hv).1)
section P57b
variable {D D' : zD} {s T T' : Nat}
theorem vIP_mo (h : vIP D s T) (hT : T ≤ T') : vIP D s T' := RP_le h hT
theorem vIP_c (h : vIP D s T) (h1 : ∀ o, o < 33 → D' (s + 4 + o) = D (s + 4 + o)) (h2 : D' (s + 636) = D (s + 636)) : vIP D' s T := RP_same h h1 (fun i _ => by rw [h2])
theorem vIB_c (h : vIB D s) (h1 : ∀ o, o < 33 → D' (s + 37 + o) = D (s + 37 + o)) : vIB D' s := RP_same h h1 (fun _ _ => rfl)
theorem vIZ_c (h : vIZ D s) (h1 : D' (s + 85) = D (s + 85)) (h2 : ∀ i, i < 14 → D' (s + 104 + 33 * i + 15) = D (s + 104 + 33 * i + 15)) (h3 : ∀ i, i < 2 → D' (s + 567 + 33 * i + 15) = D (s + 567 + 33 * i + 15)) : vIZ D' s := by
  refine ⟨fun j hj => ?_, fun i j hi hj => ?_, fun i j hi hj => ?_⟩
  · rw [show s + 70 + 15 = s + 85 by omega, h1]; exact h.1 j hj
  · rw [h2 i hi]; exact h.2.1 i j hi hj
  · rw [h3 i hi]; exact h.2.2 i j hi hj
theorem vIT_c (h : vIT D s) (h1 : D' (s + 1) 1 = D (s + 1) 1) (h2 : D' (s + 2) = D (s + 2)) (h3 : D' (s + 634) 2 = D (s + 634) 2) (h4 : D' (s + 635) = D (s + 635)) : vIT D' s := by
  obtain ⟨n, h⟩ := h
  exact ⟨n, by rw [h1, h2, h3, h4]; exact h⟩
theorem vIR_c (h : vIR D s T) (h1 : D' s 5 = D s 5) (h2 : D' s 6 = D s 6) (h3 : D' (s + 634) 6 = D (s + 634) 6) (h4 : ∀ q, s + 104 ≤ q → q < s + 566 → D' q = D q) (h5 : D' (s + 638) = D (s + 638)) : vIR D' s T := by
  obtain ⟨o, k, ho, hk, e1, e2, e3, h⟩ := h
  refine ⟨o, k, ho, hk, by rw [h1]; exact e1, by rw [h2]; exact e2, by rw [h3]; exact e3, fun i hi => ?_⟩
  have := Nat.mod_lt (o + i) (show 0 < 14 by decide)
  exact RP_same (h i hi) (fun o' ho' => h4 _ (by omega) (by omega)) (fun j _ => by show D' (s + 638) _ = _; rw [h5])
theorem vIR_mo (h : vIR D s T) (hT : T ≤ T') : vIR D s T' := by
  obtain ⟨o, k, ho, hk, e1, e2, e3, h⟩ := h
  exact ⟨o, k, ho, hk, e1, e2, e3, fun i hi => RP_le (h i hi) hT⟩
theorem vIS_c (h : vIS D s T) (h1 : D' (s + 633) = D (s + 633)) (h2 : D' (s + 640) = D (s + 640)) (h3 : ∀ q, s + 567 ≤ q → q < s + 633 → D' q = D q) (h4 : D' (s + 639) = D (s + 639)) : vIS D' s T := by
  intro i hi
  obtain ⟨a1, a2, a3⟩ := h i hi
  rw [h1, h2]
  exact ⟨a1, a2, fun h => RP_same (a3 h) (fun o' ho' => h3 _ (by omega) (by omega)) (fun j _ => by show D' (s + 639) _ = _; rw [h4])⟩
theorem vIS_mo (h : vIS D s T) (hT : T ≤ T') : vIS D s T' := fun i hi => ⟨(h i hi).1, (h i hi).2.1, fun h1 => RP_le ((h i hi).2.2 h1) hT⟩
theorem Inv_mo (h : Inv D s T) (hT : T ≤ T') : Inv D s T' := ⟨vIP_mo h.1 hT, h.2.1, h.2.2.1, h.2.2.2.1, vIR_mo h.2.2.2.2.1 hT, vIS_mo h.2.2.2.2.2 hT⟩
/-- nothing but what the reference says of itself, its spot and what is left out, and what is tried -/
theorem Inv_free (h : Inv D s T) (h1 : ∀ q, s ≤ q → q < s + 641 → q ≠ s + 634 → q ≠ s + 637 → ¬ (s + 70 ≤ q ∧ q < s + 103) → q ≠ s + 1 → q ≠ s + 3 → D' q = D q) (h2 : D' (s + 634) 2 = D (s + 634) 2) (h3 : D' (s + 634) 6 = D (s + 634) 6) (h4 : ∀ j, j < 4 → D' (s + 70 + 15) j = 0) (h5 : D' (s + 1) 1 = D (s + 1) 1) : Inv D' s T := by
  obtain ⟨i1, i2, i3, i4, i5, i6⟩ := h
  refine ⟨vIP_c i1 (fun o ho => h1 _ (by omega) (by omega) (by omega) (by omega) (by omega) (by omega) (by omega)) (h1 _ (by omega) (by omega) (by omega) (by omega) (by omega) (by omega) (by omega)), vIB_c i2 (fun o ho => h1 _ (by omega) (by omega) (by omega) (by omega) (by omega) (by omega) (by omega)), ⟨h4, fun i j hi hj => ?_, fun i j hi hj => ?_⟩, vIT_c i4 h5 (h1 _ (by omega) (by omega) (by omega) (by omega) (by omega) (by omega) (by omega)) h2 (h1 _ (by omega) (by omega) (by omega) (by omega) (by omega) (by omega) (by omega)), vIR_c i5 ?_ ?_ h3 (fun q _ _ => h1 _ (by omega) (by omega) (by omega) (by omega) (by omega) (by omega) (by omega)) (h1 _ (by omega) (by omega) (by omega) (by omega) (by omega) (by omega) (by omega)), vIS_c i6 (h1 _ (by omega) (by omega) (by omega) (by omega) (by omega) (by omega) (by omega)) (h1 _ (by omega) (by omega) (by omega) (by omega) (by omega) (by omega) (by omega)) (fun q _ _ => h1 _ (by omega) (by omega) (by omega) (by omega) (by omega) (by omega) (by omega)) (h1 _ (by omega) (by omega) (by omega) (by omega) (by omega) (by omega) (by omega))⟩
  · rw [h1 _ (by omega) (by omega) (by omega) (by omega) (by omega) (by omega) (by omega)]; exact i3.2.1 i j hi hj
  · rw [h1 _ (by omega) (by omega) (by omega) (by omega) (by omega) (by omega) (by omega)]; exact i3.2.2 i j hi hj
  · rw [h1 _ (by omega) (by omega) (by omega) (by omega) (by omega) (by omega) (by omega)]
  · rw [h1 _ (by omega) (by omega) (by omega) (by omega) (by omega) (by omega) (by omega)]
/-- only what the reference says of itself -/
theorem Inv_ref (h : Inv D s T) {v : Int32} : Inv (zup D (s + 634) 0 v) s T := by
  refine Inv_free h (fun q _ _ h1 _ _ _ _ => zup_ne h1) (zup_aj (by decide)) (zup_aj (by decide)) (fun j hj => ?_) ?_
  · rw [zup_ne (by omega)]; exact h.2.2.1.1 j hj
  · rw [zup_ne (by omega)]
end P57b
