/-! PURE: where a SirenFair lies; what it holds. -/
abbrev Fld : Type := Nat → Nat → Int32
/-- the present, the remembered (the oldest first), the saved -/
abbrev OS : Type := Fld × List Fld × (Nat → Option Fld)
def WL (w : zW) (s : Nat) : Prop := (w.1 s = some (.inr (.inr (0, [some (some (s + 1)), some (some (s + 4)), some (some (s + 37)), some (some (s + 70)), some (some (s + 103)), none, none, some (some (s + 566)), some (some (s + 633))]))) ∧ w.1 (s + 1) = some (.inr (.inr (2, [some (some (s + 2)), none, none, none, some (some (s + 3))]))) ∧ w.1 (s + 2) = some (.inl (1, 120)) ∧ w.1 (s + 3) = some (.inl (0, 5))) ∧ (LF w (s + 4) ∧ LF w (s + 37) ∧ LF w (s + 70)) ∧ ((∃ φ, w.1 (s + 103) = some (.inr (.inl (14, φ))) ∧ ∀ i, i < 14 → φ i = some (s + 104 + 33 * i)) ∧ ∀ i, i < 14 → LF w (s + 104 + 33 * i)) ∧ ((∃ φ, w.1 (s + 566) = some (.inr (.inl (2, φ))) ∧ ∀ i, i < 2 → φ i = some (s + 567 + 33 * i)) ∧ (∀ i, i < 2 → LF w (s + 567 + 33 * i)) ∧ w.1 (s + 633) = some (.inl (2, 2))) ∧ (w.1 w.2.2 = some (.inl (5, 4)) ∧ w.2.1 w.2.2 0 = 1 ∧ w.2.1 w.2.2 1 = 100000 ∧ w.2.1 w.2.2 2 = 10000000000 ∧ w.2.1 w.2.2 3 = 1000000000000000)
section P57
variable {β : Type} {w : zW} {D : zD} {s : Nat}
theorem WSo (h : WL w s) {k : Option β} : zobj w 0 s k = k := zobj_of h.1.1
theorem WSr0 (h : WL w s) {k : Nat → Option β} : zref w 0 0 s k = k (s + 1) := zref_of h.1.1 rfl
theorem WSr1 (h : WL w s) {k : Nat → Option β} : zref w 0 1 s k = k (s + 4) := zref_of h.1.1 rfl
theorem WSr2 (h : WL w s) {k : Nat → Option β} : zref w 0 2 s k = k (s + 37) := zref_of h.1.1 rfl
theorem WSr3 (h : WL w s) {k : Nat → Option β} : zref w 0 3 s k = k (s + 70) := zref_of h.1.1 rfl
theorem WSr4 (h : WL w s) {k : Nat → Option β} : zref w 0 4 s k = k (s + 103) := zref_of h.1.1 rfl
theorem WSg5 (h : WL w s) {k : Int32 → Option β} : zfld w D 0 5 s k = k (D s 5) := zfld_of h.1.1 rfl
theorem WSp5 (h : WL w s) {v : Int32} {k : zD → Option β} : zput w D 0 5 s v k = k (zup D s 5 v) := zput_of h.1.1 rfl
theorem WSg6 (h : WL w s) {k : Int32 → Option β} : zfld w D 0 6 s k = k (D s 6) := zfld_of h.1.1 rfl
theorem WSp6 (h : WL w s) {v : Int32} {k : zD → Option β} : zput w D 0 6 s v k = k (zup D s 6 v) := zput_of h.1.1 rfl
theorem WSr7 (h : WL w s) {k : Nat → Option β} : zref w 0 7 s k = k (s + 566) := zref_of h.1.1 rfl
theorem WSr8 (h : WL w s) {k : Nat → Option β} : zref w 0 8 s k = k (s + 633) := zref_of h.1.1 rfl
theorem WTo (h : WL w s) {k : Option β} : zobj w 2 (s + 1) k = k := zobj_of h.1.2.1
theorem WTr0 (h : WL w s) {k : Nat → Option β} : zref w 2 0 (s + 1) k = k (s + 2) := zref_of h.1.2.1 rfl
theorem WTg1 (h : WL w s) {k : Int32 → Option β} : zfld w D 2 1 (s + 1) k = k (D (s + 1) 1) := zfld_of h.1.2.1 rfl
theorem WTp1 (h : WL w s) {v : Int32} {k : zD → Option β} : zput w D 2 1 (s + 1) v k = k (zup D (s + 1) 1 v) := zput_of h.1.2.1 rfl
theorem WTg2 (h : WL w s) {k : Int32 → Option β} : zfld w D 2 2 (s + 1) k = k (D (s + 1) 2) := zfld_of h.1.2.1 rfl
theorem WTp2 (h : WL w s) {v : Int32} {k : zD → Option β} : zput w D 2 2 (s + 1) v k = k (zup D (s + 1) 2 v) := zput_of h.1.2.1 rfl
theorem WTg3 (h : WL w s) {k : Int32 → Option β} : zfld w D 2 3 (s + 1) k = k (D (s + 1) 3) := zfld_of h.1.2.1 rfl
theorem WTp3 (h : WL w s) {v : Int32} {k : zD → Option β} : zput w D 2 3 (s + 1) v k = k (zup D (s + 1) 3 v) := zput_of h.1.2.1 rfl
theorem WTr4 (h : WL w s) {k : Nat → Option β} : zref w 2 4 (s + 1) k = k (s + 3) := zref_of h.1.2.1 rfl
theorem WL4 (h : WL w s) : LF w (s + 4) := h.2.1.1
theorem WL70 (h : WL w s) : LF w (s + 70) := h.2.1.2.2
theorem WLr (h : WL w s) {i : Nat} (hi : i < 14) : LF w (s + 104 + 33 * i) := h.2.2.1.2 i hi
theorem WLs (h : WL w s) {i : Nat} (hi : i < 2) : LF w (s + 567 + 33 * i) := h.2.2.2.1.2.1 i hi
theorem Wb (h : WL w s) : w.1 (s + 633) = some (.inl (2, 2)) := h.2.2.2.1.2.2
theorem W4r (h : WL w s) {i : Nat} (hi : i < 14) {k : Nat → Option β} : zald4 w (s + 103) (nI i) k = k (s + 104 + 33 * i) := by
  obtain ⟨φ, h1, h2⟩ := h.2.2.1.1
  unfold zald4
  rw [h1]
  simp only
  rw [if_pos (nI_bnd hi (by decide)), nI_clamp (by omega), h2 i hi]
theorem W4s (h : WL w s) {i : Nat} (hi : i < 2) {k : Nat → Option β} : zald4 w (s + 566) (nI i) k = k (s + 567 + 33 * i) := by
  obtain ⟨φ, h1, h2⟩ := h.2.2.2.1.1
  unfold zald4
  rw [h1]
  simp only
  rw [if_pos (nI_bnd hi (by decide)), nI_clamp (by omega), h2 i hi]
end P57
theorem zup_at {D : zD} {a k : Nat} {v : Int32} : zup D a k v a k = v := by unfold zup; rw [if_pos rfl, if_pos rfl]
theorem zup_aj {D : zD} {a k j : Nat} {v : Int32} (h : j ≠ k) : zup D a k v a j = D a j := by unfold zup; rw [if_pos rfl, if_neg h]
/-- a block holds F -/
def HF (D : zD) (b : Nat) (F : Fld) : Prop := ∀ o, o < 33 → D (b + o) = F o
/-- nothing lies beside the cells that are copied -/
def CZ (D : zD) (b : Nat) : Prop := ∀ o j, o < 33 → ¬ Cp o j → D (b + o) j = 0
theorem HF_blk {D : zD} {b : Nat} {F : Fld} (h : HF D b F) : zblk D b F = D := by
  funext q
  unfold zblk
  by_cases hq : b ≤ q ∧ q < b + 33
  · rw [if_pos hq, ← h (q - b) (by omega), show b + (q - b) = q by omega]
  · rw [if_neg hq]
theorem HF_put {D : zD} {b : Nat} {F : Fld} : HF (zblk D b F) b F := fun _ ho => zblk_at ho
theorem HF_fr {D D' : zD} {b : Nat} {F : Fld} (h : HF D b F) (hq : ∀ q, b ≤ q → q < b + 33 → D' q = D q) : HF D' b F := fun o ho => by rw [hq _ (by omega) (by omega)]; exact h o ho
theorem CZ_fr {D D' : zD} {b : Nat} (h : CZ D b) (hq : ∀ q, b ≤ q → q < b + 33 → D' q = D q) : CZ D' b := fun o j ho hc => by rw [hq _ (by omega) (by omega)]; exact h o j ho hc
theorem CZ_of {D : zD} {b : Nat} {F : Fld} (h : HF D b F) (hz : NZ F) (h5 : RZ F) : CZ D b := fun o j ho hc => by
  rw [h o ho]
  by_cases h15 : o = 15 ∧ j < 4
  · obtain ⟨rfl, hj⟩ := h15; exact h5 j hj
  · exact hz o j hc h15
/-- what a clean block holds -/
def bk (D : zD) (b : Nat) : Fld := fun o j => if o < 33 then D (b + o) j else 0
theorem bk_HF {D : zD} {b : Nat} : HF D b (bk D b) := fun o ho => by funext j; unfold bk; rw [if_pos ho]
theorem bk_NZ {D : zD} {b : Nat} (h : CZ D b) : NZ (bk D b) := fun o j hc _ => by
  unfold bk
  by_cases ho : o < 33
  · rw [if_pos ho]; exact h o j ho hc
  · rw [if_neg ho]
theorem bk_RZ {D : zD} {b : Nat} (h : CZ D b) : RZ (bk D b) := fun j hj => by
  unfold bk; rw [if_pos (by decide)]; exact h 15 j (by decide) (by unfold Cp; omega)
theorem FS_RZ {F : Fld} {t tp : Nat} {A : Prop} (h : FS F t tp A) : RZ F := by
  obtain ⟨hz, G, ns, nh, nw, np, d, e, l, h1, h2⟩ := h
  exact h1.2.2.1
theorem FT_NZ {F : Fld} {T : Nat} (h : FT F T) : NZ F ∧ RZ F := by
  obtain ⟨t, ht, h⟩ := h
  exact ⟨h.1, FS_RZ h⟩
/-- a copy onto a clean block -/
theorem copyB {w : zW} {D : zD} {a r : Nat} {R : Fld} (hL : LF w a) (hR : LF w r) (hd : r + 33 ≤ a ∨ a + 33 ≤ r) (hc : CZ D a) (hr : HF D r R) (hz : NZ R) (h5 : RZ R) : f_Field_copyFrom w D a r = some (zblk D a R) := by
  have := copyX (D := D) (F := bk D a) hL hR hd (bk_NZ hc) (bk_RZ hc) hr hz h5
  rw [HF_blk bk_HF] at this
  exact this
def At (D : zD) (s : Nat) (A : OS) : Prop := HF D (s + 4) A.1 ∧ CZ D (s + 70) ∧ (∀ i, i < 14 → CZ D (s + 104 + 33 * i)) ∧ (∀ i, i < 2 → CZ D (s + 567 + 33 * i)) ∧ (∃ p, p < 14 ∧ D s 5 = nI p ∧ D s 6 = nI A.2.1.length ∧ A.2.1.length ≤ 14 ∧ ∀ i f, A.2.1[i]? = some f → HF D (s + 104 + 33 * ((p + i) % 14)) f) ∧ ∀ i, i < 2 → (∃ f, A.2.2 i = some f ∧ D (s + 633) i = 1 ∧ HF D (s + 567 + 33 * i) f) ∨ (A.2.2 i = none ∧ D (s + 633) i = 0)
/-- the states that it holds are states, none older than T -/
def Ok (A : OS) (T : Nat) : Prop := FT A.1 T ∧ (∀ f, f ∈ A.2.1 → FT f T) ∧ ∀ i f, A.2.2 i = some f → FT f T
/-- a call, at every place, takes A to A' and answers r -/
def Ob {β : Type} (g : zW → zD → Nat → Option (β × zD)) (A A' : OS) (r : β) : Prop := ∀ (w : zW) (D : zD) (s : Nat), WL w s → At D s A → ∃ D', g w D s = some (r, D') ∧ At D' s A' ∧ ∀ q, q < s ∨ s + 634 ≤ q → D' q = D q
theorem At_fr {D D' : zD} {s : Nat} {A : OS} (h : At D s A) (hq : ∀ q, s ≤ q → q < s + 634 → D' q = D q) : At D' s A := by
  obtain ⟨a1, a2, a3, a4, ⟨p, b1, b2, b3, b4, b5⟩, a6⟩ := h
  refine ⟨HF_fr a1 (fun q _ _ => hq q (by omega) (by omega)), CZ_fr a2 (fun q _ _ => hq q (by omega) (by omega)), fun i hi => CZ_fr (a3 i hi) (fun q _ _ => hq q (by omega) (by omega)), fun i hi => CZ_fr (a4 i hi) (fun q _ _ => hq q (by omega) (by omega)), ⟨p, b1, by rw [hq s (by omega) (by omega)]; exact b2, by rw [hq s (by omega) (by omega)]; exact b3, b4, fun i f hf => ?_⟩, fun i hi => ?_⟩
  · have := Nat.mod_lt (p + i) (show 0 < 14 by decide)
    exact HF_fr (b5 i f hf) (fun q _ _ => hq q (by omega) (by omega))
  · rcases a6 i hi with ⟨f, c1, c2, c3⟩ | ⟨c1, c2⟩
    · exact Or.inl ⟨f, c1, by rw [hq _ (by omega) (by omega)]; exact c2, HF_fr c3 (fun q _ _ => hq q (by omega) (by omega))⟩
    · exact Or.inr ⟨c1, by rw [hq _ (by omega) (by omega)]; exact c2⟩
/-- the present is another -/
theorem At_pres {D : zD} {s : Nat} {F F' : Fld} {L : List Fld} {V : Nat → Option Fld} (h : At D s (F, L, V)) : At (zblk D (s + 4) F') s (F', L, V) := by
  obtain ⟨a1, a2, a3, a4, ⟨p, b1, b2, b3, b4, b5⟩, a6⟩ := h
  have hq : ∀ q, q < s + 4 ∨ s + 37 ≤ q → zblk D (s + 4) F' q = D q := fun q h => zblk_out (by omega)
  refine ⟨HF_put, CZ_fr a2 (fun q _ _ => hq q (by omega)), fun i hi => CZ_fr (a3 i hi) (fun q _ _ => hq q (by omega)), fun i hi => CZ_fr (a4 i hi) (fun q _ _ => hq q (by omega)), ⟨p, b1, by rw [hq s (by omega)]; exact b2, by rw [hq s (by omega)]; exact b3, b4, fun i f hf => ?_⟩, fun i hi => ?_⟩
  · have := Nat.mod_lt (p + i) (show 0 < 14 by decide)
    exact HF_fr (b5 i f hf) (fun q _ _ => hq q (by omega))
  · rcases a6 i hi with ⟨f, c1, c2, c3⟩ | ⟨c1, c2⟩
    · exact Or.inl ⟨f, c1, by rw [hq _ (by omega)]; exact c2, HF_fr c3 (fun q _ _ => hq q (by omega))⟩
    · exact Or.inr ⟨c1, by rw [hq _ (by omega)]; exact c2⟩
/-- what is tried is another -/
theorem At_trial {D : zD} {s : Nat} {F' : Fld} {A : OS} (h : At D s A) (hz : NZ F') (h5 : RZ F') : At (zblk D (s + 70) F') s A := by
  obtain ⟨a1, a2, a3, a4, ⟨p, b1, b2, b3, b4, b5⟩, a6⟩ := h
  have hq : ∀ q, q < s + 70 ∨ s + 103 ≤ q → zblk D (s + 70) F' q = D q := fun q h => zblk_out (by omega)
  refine ⟨HF_fr a1 (fun q _ _ => hq q (by omega)), CZ_of HF_put hz h5, fun i hi => CZ_fr (a3 i hi) (fun q _ _ => hq q (by omega)), fun i hi => CZ_fr (a4 i hi) (fun q _ _ => hq q (by omega)), ⟨p, b1, by rw [hq s (by omega)]; exact b2, by rw [hq s (by omega)]; exact b3, b4, fun i f hf => ?_⟩, fun i hi => ?_⟩
  · have := Nat.mod_lt (p + i) (show 0 < 14 by decide)
    exact HF_fr (b5 i f hf) (fun q _ _ => hq q (by omega))
  · rcases a6 i hi with ⟨f, c1, c2, c3⟩ | ⟨c1, c2⟩
    · exact Or.inl ⟨f, c1, by rw [hq _ (by omega)]; exact c2, HF_fr c3 (fun q _ _ => hq q (by omega))⟩
    · exact Or.inr ⟨c1, by rw [hq _ (by omega)]; exact c2⟩
theorem Ok_le {A : OS} {T T' : Nat} (h : Ok A T) (ht : T ≤ T') : Ok A T' := ⟨FT_le h.1 ht, fun f hf => FT_le (h.2.1 f hf) ht, fun i f hf => FT_le (h.2.2 i f hf) ht⟩
