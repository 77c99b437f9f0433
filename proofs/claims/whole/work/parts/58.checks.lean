/-! PURE: the checks as continuations; what a call answers. -/
def A1 (E : String) (r : Int32 ⊕ String) (v e : Int32) : Prop := (r = .inl v ∧ e = 0) ∨ (r = .inr E ∧ e = 1)
def A2 (E E' : String) (r : Int32 ⊕ String) (v e : Int32) : Prop := (r = .inl v ∧ e = 0) ∨ (r = .inr E ∧ e = 1) ∨ (r = .inr E' ∧ e = 2)
theorem d10 : ((1 : Int32) = 0) = False := eq_false (by decide)
theorem zone : (0 : Int32) = 0 ↔ True := ⟨fun _ => trivial, fun _ => rfl⟩
section P58
variable {β : Type} {w : zW} {D : zD} {s a : Nat} {F : Nat → Nat → Int32}
theorem zWi {x lo hi : Int32} {k : Int32 → zD → Option β} : zci (f_SF_isWithin w D x lo hi) k = if lo ≤ x ∧ x ≤ hi then k 1 D else k 0 D := by
  rw [e_within, zciE]; split <;> rfl
theorem zIn {x lo hi : Int32} {L H : Int64} (hl : lo.toInt64 = L) (hh : hi.toInt64 = H) {k : Int32 → zD → Option β} : zci (f_MD_in w D x.toInt64 L H) k = if lo ≤ x ∧ x ≤ hi then k 1 D else k 0 D := by
  rw [e_in hl hh, zciE]; split <;> rfl
theorem zI0_255 {x : Int32} {k : Int32 → zD → Option β} : zci (f_MD_in w D x.toInt64 (0 : Int64) (255 : Int64)) k = if (0 : Int32) ≤ x ∧ x ≤ (255 : Int32) then k 1 D else k 0 D := zIn (by decide) (by decide)
theorem zI0_9 {x : Int32} {k : Int32 → zD → Option β} : zci (f_MD_in w D x.toInt64 (0 : Int64) (9 : Int64)) k = if (0 : Int32) ≤ x ∧ x ≤ (9 : Int32) then k 1 D else k 0 D := zIn (by decide) (by decide)
theorem zI0_5 {x : Int32} {k : Int32 → zD → Option β} : zci (f_MD_in w D x.toInt64 (0 : Int64) (5 : Int64)) k = if (0 : Int32) ≤ x ∧ x ≤ (5 : Int32) then k 1 D else k 0 D := zIn (by decide) (by decide)
theorem zI0_1 {x : Int32} {k : Int32 → zD → Option β} : zci (f_MD_in w D x.toInt64 (0 : Int64) (1 : Int64)) k = if (0 : Int32) ≤ x ∧ x ≤ (1 : Int32) then k 1 D else k 0 D := zIn (by decide) (by decide)
theorem zI1_5 {x : Int32} {k : Int32 → zD → Option β} : zci (f_MD_in w D x.toInt64 (1 : Int64) (5 : Int64)) k = if (1 : Int32) ≤ x ∧ x ≤ (5 : Int32) then k 1 D else k 0 D := zIn (by decide) (by decide)
theorem zIm3_3 {x : Int32} {k : Int32 → zD → Option β} : zci (f_MD_in w D x.toInt64 (-3 : Int64) (3 : Int64)) k = if (-3 : Int32) ≤ x ∧ x ≤ (3 : Int32) then k 1 D else k 0 D := zIn (by decide) (by decide)
theorem zI1_20 {x : Int32} {k : Int32 → zD → Option β} : zci (f_MD_in w D x.toInt64 (1 : Int64) (20 : Int64)) k = if (1 : Int32) ≤ x ∧ x ≤ (20 : Int32) then k 1 D else k 0 D := zIn (by decide) (by decide)
theorem zIm40_40 {x : Int32} {k : Int32 → zD → Option β} : zci (f_MD_in w D x.toInt64 (-40 : Int64) (40 : Int64)) k = if (-40 : Int32) ≤ x ∧ x ≤ (40 : Int32) then k 1 D else k 0 D := zIn (by decide) (by decide)
theorem zIm30_30 {x : Int32} {k : Int32 → zD → Option β} : zci (f_MD_in w D x.toInt64 (-30 : Int64) (30 : Int64)) k = if (-30 : Int32) ≤ x ∧ x ≤ (30 : Int32) then k 1 D else k 0 D := zIn (by decide) (by decide)
theorem zIm2_2 {x : Int32} {k : Int32 → zD → Option β} : zci (f_MD_in w D x.toInt64 (-2 : Int64) (2 : Int64)) k = if (-2 : Int32) ≤ x ∧ x ≤ (2 : Int32) then k 1 D else k 0 D := zIn (by decide) (by decide)
theorem zI1_99 {x : Int32} {k : Int32 → zD → Option β} : zci (f_MD_in w D x.toInt64 (1 : Int64) (99 : Int64)) k = if (1 : Int32) ≤ x ∧ x ≤ (99 : Int32) then k 1 D else k 0 D := zIn (by decide) (by decide)
theorem zI0_1000 {x : Int32} {k : Int32 → zD → Option β} : zci (f_MD_in w D x.toInt64 (0 : Int64) (1000 : Int64)) k = if (0 : Int32) ≤ x ∧ x ≤ (1000 : Int32) then k 1 D else k 0 D := zIn (by decide) (by decide)
theorem zI1_3 {x : Int32} {k : Int32 → zD → Option β} : zci (f_MD_in w D x.toInt64 (1 : Int64) (3 : Int64)) k = if (1 : Int32) ≤ x ∧ x ≤ (3 : Int32) then k 1 D else k 0 D := zIn (by decide) (by decide)
theorem zI1_60 {x : Int32} {k : Int32 → zD → Option β} : zci (f_MD_in w D x.toInt64 (1 : Int64) (60 : Int64)) k = if (1 : Int32) ≤ x ∧ x ≤ (60 : Int32) then k 1 D else k 0 D := zIn (by decide) (by decide)
theorem zI1_9 {x : Int32} {k : Int32 → zD → Option β} : zci (f_MD_in w D x.toInt64 (1 : Int64) (9 : Int64)) k = if (1 : Int32) ≤ x ∧ x ≤ (9 : Int32) then k 1 D else k 0 D := zIn (by decide) (by decide)
theorem zInP {x v : Int32} {k : Int32 → zD → Option β} : zci (f_MD_in w D x.toInt64 (0 : Int64) ((v - (1 : Int32)).toInt64)) k = if (0 : Int32) ≤ x ∧ x ≤ v - 1 then k 1 D else k 0 D := zIn (by decide) rfl
theorem e_ref (hw : WL w s) {x : Int32} : f_MD_refused w D (s + 634) x = some (if x ≤ 0 then 0 else 1, zup D (s + 634) 0 x) := by
  unfold f_MD_refused
  simp only [↓zjpE, ↓zletE, ↓zciE, ↓zcvE, ↓zchkE, ↓reduceIte, zciE, zcvE, nI_1, ↓WSo hw, ↓WSr0 hw, ↓WSr1 hw, ↓WSr2 hw, ↓WSr3 hw, ↓WSr4 hw, ↓WSg5 hw, ↓WSp5 hw, ↓WSg6 hw, ↓WSp6 hw, ↓WSr7 hw, ↓WSr8 hw, ↓WTo hw, ↓WTr0 hw, ↓WTg1 hw, ↓WTp1 hw, ↓WTg2 hw, ↓WTp2 hw, ↓WTg3 hw, ↓WTp3 hw, ↓WTr4 hw, ↓WMo hw, ↓WMg0 hw, ↓WMp0 hw, ↓WMr1 hw, ↓WMg2 hw, ↓WMp2 hw, ↓WMr3 hw, ↓WMr4 hw, ↓WMr5 hw, ↓WMg6 hw, ↓WMp6 hw, ↓WMr7 hw, ↓WMr8 hw, ↓WMg9 hw, ↓WMp9 hw, ↓WMg10 hw, ↓WMp10 hw, d10, or_true, true_or]
  split <;> simp only [↓zjpE, ↓zletE, ↓zciE, ↓zcvE, ↓zchkE, ↓reduceIte, zciE, zcvE, nI_1, d10, or_true, true_or]
theorem zR0 (hw : WL w s) {k : Int32 → zD → Option β} : zci (f_MD_refused w D (s + 634) (0 : Int32)) k = k 0 (zup D (s + 634) 0 0) := by
  rw [e_ref hw, zciE, if_pos (by decide)]
theorem zR1 (hw : WL w s) {k : Int32 → zD → Option β} : zci (f_MD_refused w D (s + 634) (1 : Int32)) k = k 1 (zup D (s + 634) 0 1) := by
  rw [e_ref hw, zciE, if_neg (by decide)]
theorem zR2 (hw : WL w s) {k : Int32 → zD → Option β} : zci (f_MD_refused w D (s + 634) (2 : Int32)) k = k 1 (zup D (s + 634) 0 2) := by
  rw [e_ref hw, zciE, if_neg (by decide)]
theorem zHS (hL : LF w a) {x : Int32} {k : Int32 → zD → Option β} : zci (f_Sirens_has w (zblk D a F) (a + 1) x) k = if 0 ≤ x ∧ x < F 1 7 then k 1 (zblk D a F) else k 0 (zblk D a F) := by
  rw [e_hasS hL, zciE]; split <;> rfl
theorem zHH (hL : LF w a) {x : Int32} {k : Int32 → zD → Option β} : zci (f_Hearers_has w (zblk D a F) (a + 9) x) k = if 0 ≤ x ∧ x < F 9 6 then k 1 (zblk D a F) else k 0 (zblk D a F) := by
  rw [e_hasH hL, zciE]; split <;> rfl
theorem zHW (hL : LF w a) {x : Int32} {k : Int32 → zD → Option β} : zci (f_Walls_has w (zblk D a F) (a + 16) x) k = if 0 ≤ x ∧ x < F 16 2 then k 1 (zblk D a F) else k 0 (zblk D a F) := by
  rw [e_hasW hL, zciE]; split <;> rfl
theorem zHP (hL : LF w a) {x y : Int32} {k : Int32 → zD → Option β} : zci (f_Field_hasPair w (zblk D a F) a x y) k = if (0 ≤ x ∧ x < F 9 6) ∧ (0 ≤ y ∧ y < F 1 7) then k 1 (zblk D a F) else k 0 (zblk D a F) := by
  rw [e_hasP hL, zciE]; split <;> rfl
theorem zup_zs {m b k : Nat} {v : Int32} {N : Nat → Int32} (h : m ≠ b) : zup (zset D b N) m k v = zset (zup D m k v) b N := (zset_zup h).symm
end P58
theorem query {D : zD} {s T : Nat} (hI : Inv D s T) (f : zD → Option ((Int32 ⊕ String) × zD)) (g : zD → Option (Int32 × zD)) (P : Int32 ⊕ String → Int32 → Int32 → Prop) (H : ∀ F G ns nh nw np d e l t, RI F G ns nh nw t t t True np d e l (240 * t) → ∃ r v e, (∀ D, f (zblk D (s + 4) F) = some (r, zblk D (s + 4) F)) ∧ (∀ D, g (zset D (s + 636) (vec G)) = some (v, zset (zup D (s + 634) 0 e) (s + 636) (vec G))) ∧ P r v e) : ∃ r v e, f D = some (r, D) ∧ g D = some (v, zup D (s + 634) 0 e) ∧ P r v e := by
  obtain ⟨ns, nh, nw, np, d, e, l, t, hR, ht⟩ := hI.1
  obtain ⟨r, v, e, h1, h2, h3⟩ := H _ _ _ _ _ _ _ _ _ _ hR
  refine ⟨r, v, e, ?_, ?_, h3⟩
  · have := h1 D
    rw [show zblk D (s + 4) (blk D (s + 4)) = D from zblk_eta] at this
    exact this
  · have := h2 D
    rw [vec_dev, zset_zup (by omega), zset_eta] at this
    exact this
theorem c10 (x : Int32) : x = 0 ∨ x = 1 ∨ x = 2 ∨ x = 3 ∨ x = 4 ∨ x = 5 ∨ x = 6 ∨ x = 7 ∨ x = 8 ∨ x = 9 ∨ ¬ (0 ≤ x ∧ x ≤ 9) := by
  by_cases h : 0 ≤ x ∧ x ≤ 9
  · obtain ⟨j, hj, rfl⟩ := zI_of (x := x) 9 h.1 h.2 (by decide)
    have : j = 0 ∨ j = 1 ∨ j = 2 ∨ j = 3 ∨ j = 4 ∨ j = 5 ∨ j = 6 ∨ j = 7 ∨ j = 8 ∨ j = 9 := by omega
    rcases this with rfl | rfl | rfl | rfl | rfl | rfl | rfl | rfl | rfl | rfl <;> simp [nI]
  · simp only [h, not_false_eq_true, or_true]
theorem c6 (x : Int32) : x = 0 ∨ x = 1 ∨ x = 2 ∨ x = 3 ∨ x = 4 ∨ x = 5 ∨ ¬ (0 ≤ x ∧ x ≤ 5) := by
  by_cases h : 0 ≤ x ∧ x ≤ 5
  · obtain ⟨j, hj, rfl⟩ := zI_of (x := x) 5 h.1 h.2 (by decide)
    have : j = 0 ∨ j = 1 ∨ j = 2 ∨ j = 3 ∨ j = 4 ∨ j = 5 := by omega
    rcases this with rfl | rfl | rfl | rfl | rfl | rfl <;> simp [nI]
  · simp only [h, not_false_eq_true, or_true]
theorem c2 (x : Int32) : x = 0 ∨ x = 1 ∨ ¬ (0 ≤ x ∧ x ≤ 1) := by
  by_cases h : 0 ≤ x ∧ x ≤ 1
  · obtain ⟨j, hj, rfl⟩ := zI_of (x := x) 1 h.1 h.2 (by decide)
    have : j = 0 ∨ j = 1 := by omega
    rcases this with rfl | rfl <;> simp [nI]
  · simp only [h, not_false_eq_true, or_true]
