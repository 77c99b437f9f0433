/-! PURE: memory as blocks. D with an array's contents put in: zset; a Field's 33 cells: zblk. -/
def zset (D : zD) (b : Nat) (N : Nat → Int32) : zD := fun q => if q = b then N else D q
theorem zset_at {D : zD} {b : Nat} {N : Nat → Int32} : zset D b N b = N := by simp [zset]
theorem zset_ne {D : zD} {b q : Nat} {N : Nat → Int32} (h : q ≠ b) : zset D b N q = D q := by simp [zset, h]
theorem zset_eta {D : zD} {b : Nat} : zset D b (D b) = D := by
  funext q; by_cases h : q = b
  · subst h; simp [zset]
  · simp [zset, h]
theorem zset_zset {D : zD} {b : Nat} {N M : Nat → Int32} : zset (zset D b N) b M = zset D b M := by
  funext q; by_cases h : q = b <;> simp [zset, h]
theorem zup_zset {D : zD} {b i : Nat} {N : Nat → Int32} {v : Int32} : zup (zset D b N) b i v = zset D b (upd N i v) := by
  funext q j; by_cases h : q = b <;> simp [zset, zup, upd, h]
def upd2 (F : Nat → Nat → Int32) (o i : Nat) (v : Int32) : Nat → Nat → Int32 := fun q j => if q = o then (if j = i then v else F q j) else F q j
theorem upd2_s {F : Nat → Nat → Int32} {o i : Nat} {v : Int32} : upd2 F o i v o i = v := by simp [upd2]
theorem upd2_o {F : Nat → Nat → Int32} {o i q : Nat} {v : Int32} (h : q ≠ o) : upd2 F o i v q = F q := by funext j; simp [upd2, h]
theorem upd2_i {F : Nat → Nat → Int32} {o i j : Nat} {v : Int32} (h : j ≠ i) : upd2 F o i v o j = F o j := by simp [upd2, h]
def zblk (D : zD) (a : Nat) (F : Nat → Nat → Int32) : zD := fun q => if a ≤ q ∧ q < a + 33 then F (q - a) else D q
theorem zblk_at {D : zD} {a o : Nat} {F : Nat → Nat → Int32} (h : o < 33) : zblk D a F (a + o) = F o := by
  unfold zblk; rw [if_pos ⟨Nat.le_add_right _ _, by omega⟩, Nat.add_sub_cancel_left]
theorem zblk_out {D : zD} {a q : Nat} {F : Nat → Nat → Int32} (h : q < a ∨ a + 33 ≤ q) : zblk D a F q = D q := by
  unfold zblk; rw [if_neg (by omega)]
theorem zblk_eta {D : zD} {a : Nat} : zblk D a (fun o => D (a + o)) = D := by
  funext q; by_cases h : a ≤ q ∧ q < a + 33
  · unfold zblk; rw [if_pos h]; show D (a + (q - a)) = D q; rw [show a + (q - a) = q by omega]
  · unfold zblk; rw [if_neg h]
theorem zblk_zblk {D : zD} {a : Nat} {F G : Nat → Nat → Int32} : zblk (zblk D a F) a G = zblk D a G := by
  funext q; unfold zblk; split <;> rfl
theorem zup_zblk {D : zD} {a o i : Nat} {F : Nat → Nat → Int32} {v : Int32} (h : o < 33) : zup (zblk D a F) (a + o) i v = zblk D a (upd2 F o i v) := by
  funext q j
  unfold zup zblk upd2
  by_cases h1 : q = a + o
  · subst h1
    simp [h]
  · by_cases h2 : a ≤ q ∧ q < a + 33
    · have : q - a ≠ o := by omega
      simp [h1, h2, this]
    · simp [h1, h2]
-- reads and writes in general
theorem zref_of {β : Type} {w : zW} {ci j a v : Nat} {fs : List (Option (Option Nat))} {k : Nat → Option β} (h : w.1 a = some (.inr (.inr (ci, fs)))) (hj : fs[j]? = some (some (some v))) : zref w ci j a k = k v := by simp [zref, h, hj]
theorem zobj_of {β : Type} {w : zW} {ci a : Nat} {fs : List (Option (Option Nat))} {k : Option β} (h : w.1 a = some (.inr (.inr (ci, fs)))) : zobj w ci a k = k := by simp [zobj, h]
theorem zfld_of {β : Type} {w : zW} {D : zD} {ci j a : Nat} {fs : List (Option (Option Nat))} {k : Int32 → Option β} (h : w.1 a = some (.inr (.inr (ci, fs)))) (hj : fs[j]? = some none) : zfld w D ci j a k = k (D a j) := by simp [zfld, h, hj]
theorem zput_of {β : Type} {w : zW} {D : zD} {ci j a : Nat} {v : Int32} {fs : List (Option (Option Nat))} {k : zD → Option β} (h : w.1 a = some (.inr (.inr (ci, fs)))) (hj : fs[j]? = some none) : zput w D ci j a v k = k (zup D a j v) := by simp [zput, h, hj]
theorem nI_bnd {i n : Nat} (hi : i < n) (hn : n ≤ 100000) : ¬ (nI i < 0 ∨ n ≤ (nI i).toNatClampNeg) := nI_in hi (by omega)
theorem zald_of {β : Type} {w : zW} {D : zD} {t a n i : Nat} {k : Int32 → Option β} (h : w.1 a = some (.inl (t, n))) (hi : i < n) (hn : n ≤ 100000) : zald w D t a (nI i) k = k (D a i) := by
  unfold zald
  rw [h]
  simp only [true_and]
  rw [if_pos (nI_bnd hi hn), nI_clamp (by omega)]
theorem zast_of {β : Type} {w : zW} {D : zD} {t a n i : Nat} {v : Int32} {k : zD → Option β} (h : w.1 a = some (.inl (t, n))) (hi : i < n) (hn : n ≤ 100000) : zast w D t a (nI i) v k = k (zup D a i v) := by
  unfold zast
  rw [h]
  simp only [true_and]
  rw [if_pos (nI_bnd hi hn), nI_clamp (by omega)]
theorem zlen_of {β : Type} {w : zW} {t a n : Nat} {k : Int32 → Option β} (h : w.1 a = some (.inl (t, n))) : zlen w t a k = k (nI n) := by
  unfold zlen
  rw [h]
  simp [nI]

def shL (a : Nat) : List zS := [.inr (.inr (3, [some (some (a + 1)), some (some (a + 9)), some (some (a + 16)), some (some (a + 19)), some (some (a + 26)), none, none, none, none])), .inr (.inr (6, [some (some (a + 2)), some (some (a + 3)), some (some (a + 4)), some (some (a + 5)), some (some (a + 6)), some (some (a + 7)), some (some (a + 8)), none])), .inl (0, 4), .inl (0, 4), .inl (0, 4), .inl (0, 4), .inl (0, 4), .inl (0, 4), .inl (2, 4), .inr (.inr (4, [some (some (a + 10)), some (some (a + 11)), some (some (a + 12)), some (some (a + 13)), some (some (a + 14)), some (some (a + 15)), none, none])), .inl (0, 4), .inl (0, 4), .inl (0, 4), .inl (0, 4), .inl (0, 4), .inl (0, 4), .inr (.inr (7, [some (some (a + 17)), some (some (a + 18)), none])), .inl (2, 3), .inl (0, 3), .inr (.inr (5, [some (some (a + 20)), some (some (a + 21)), some (some (a + 22)), some (some (a + 23)), some (some (a + 24)), some (some (a + 25)), none, none])), .inl (0, 60), .inl (0, 60), .inl (0, 60), .inl (0, 60), .inl (0, 60), .inl (0, 60), .inr (.inr (1, [some (some (a + 27)), some (some (a + 28)), some (some (a + 29)), some (some (a + 30)), some (some (a + 31)), some (some (a + 32)), none, none, none])), .inl (0, 16), .inl (0, 16), .inl (0, 16), .inl (0, 16), .inl (0, 16), .inl (0, 16)]
/-- a Field lies at a -/
def LF (w : zW) (a : Nat) : Prop := ∀ o, o < 33 → w.1 (a + o) = (shL a)[o]?
section LFS
variable {β : Type} {w : zW} {a : Nat} {D : zD} {F : Nat → Nat → Int32}
theorem Lo0 (h : LF w a) {k : Option β} : zobj w 3 a k = k := zobj_of (h 0 (by decide))
theorem Lr0_0 (h : LF w a) {k : Nat → Option β} : zref w 3 0 a k = k (a + 1) := zref_of (h 0 (by decide)) rfl
theorem Lr0_1 (h : LF w a) {k : Nat → Option β} : zref w 3 1 a k = k (a + 9) := zref_of (h 0 (by decide)) rfl
theorem Lr0_2 (h : LF w a) {k : Nat → Option β} : zref w 3 2 a k = k (a + 16) := zref_of (h 0 (by decide)) rfl
theorem Lr0_3 (h : LF w a) {k : Nat → Option β} : zref w 3 3 a k = k (a + 19) := zref_of (h 0 (by decide)) rfl
theorem Lr0_4 (h : LF w a) {k : Nat → Option β} : zref w 3 4 a k = k (a + 26) := zref_of (h 0 (by decide)) rfl
theorem Lg0_5 (h : LF w a) {k : Int32 → Option β} : zfld w (zblk D a F) 3 5 a k = k (F 0 5) := by
  rw [zfld_of (a := a) (h 0 (by decide)) rfl, show zblk D a F a = F 0 from zblk_at (a := a) (o := 0) (by decide)]
theorem Lp0_5 (h : LF w a) {v : Int32} {k : zD → Option β} : zput w (zblk D a F) 3 5 a v k = k (zblk D a (upd2 F 0 5 v)) := by
  rw [zput_of (a := a) (h 0 (by decide)) rfl, show zup (zblk D a F) a 5 v = _ from zup_zblk (a := a) (o := 0) (by decide)]
theorem Lg0_6 (h : LF w a) {k : Int32 → Option β} : zfld w (zblk D a F) 3 6 a k = k (F 0 6) := by
  rw [zfld_of (a := a) (h 0 (by decide)) rfl, show zblk D a F a = F 0 from zblk_at (a := a) (o := 0) (by decide)]
theorem Lp0_6 (h : LF w a) {v : Int32} {k : zD → Option β} : zput w (zblk D a F) 3 6 a v k = k (zblk D a (upd2 F 0 6 v)) := by
  rw [zput_of (a := a) (h 0 (by decide)) rfl, show zup (zblk D a F) a 6 v = _ from zup_zblk (a := a) (o := 0) (by decide)]
theorem Lg0_7 (h : LF w a) {k : Int32 → Option β} : zfld w (zblk D a F) 3 7 a k = k (F 0 7) := by
  rw [zfld_of (a := a) (h 0 (by decide)) rfl, show zblk D a F a = F 0 from zblk_at (a := a) (o := 0) (by decide)]
theorem Lp0_7 (h : LF w a) {v : Int32} {k : zD → Option β} : zput w (zblk D a F) 3 7 a v k = k (zblk D a (upd2 F 0 7 v)) := by
  rw [zput_of (a := a) (h 0 (by decide)) rfl, show zup (zblk D a F) a 7 v = _ from zup_zblk (a := a) (o := 0) (by decide)]
theorem Lg0_8 (h : LF w a) {k : Int32 → Option β} : zfld w (zblk D a F) 3 8 a k = k (F 0 8) := by
  rw [zfld_of (a := a) (h 0 (by decide)) rfl, show zblk D a F a = F 0 from zblk_at (a := a) (o := 0) (by decide)]
theorem Lp0_8 (h : LF w a) {v : Int32} {k : zD → Option β} : zput w (zblk D a F) 3 8 a v k = k (zblk D a (upd2 F 0 8 v)) := by
  rw [zput_of (a := a) (h 0 (by decide)) rfl, show zup (zblk D a F) a 8 v = _ from zup_zblk (a := a) (o := 0) (by decide)]
theorem Lo1 (h : LF w a) {k : Option β} : zobj w 6 (a + 1) k = k := zobj_of (h 1 (by decide))
theorem Lr1_0 (h : LF w a) {k : Nat → Option β} : zref w 6 0 (a + 1) k = k (a + 2) := zref_of (h 1 (by decide)) rfl
theorem Lr1_1 (h : LF w a) {k : Nat → Option β} : zref w 6 1 (a + 1) k = k (a + 3) := zref_of (h 1 (by decide)) rfl
theorem Lr1_2 (h : LF w a) {k : Nat → Option β} : zref w 6 2 (a + 1) k = k (a + 4) := zref_of (h 1 (by decide)) rfl
theorem Lr1_3 (h : LF w a) {k : Nat → Option β} : zref w 6 3 (a + 1) k = k (a + 5) := zref_of (h 1 (by decide)) rfl
theorem Lr1_4 (h : LF w a) {k : Nat → Option β} : zref w 6 4 (a + 1) k = k (a + 6) := zref_of (h 1 (by decide)) rfl
theorem Lr1_5 (h : LF w a) {k : Nat → Option β} : zref w 6 5 (a + 1) k = k (a + 7) := zref_of (h 1 (by decide)) rfl
theorem Lr1_6 (h : LF w a) {k : Nat → Option β} : zref w 6 6 (a + 1) k = k (a + 8) := zref_of (h 1 (by decide)) rfl
theorem Lg1_7 (h : LF w a) {k : Int32 → Option β} : zfld w (zblk D a F) 6 7 (a + 1) k = k (F 1 7) := by
  rw [zfld_of (h 1 (by decide)) rfl]
  rw [zblk_at (a := a) (o := 1) (by decide)]
theorem Lp1_7 (h : LF w a) {v : Int32} {k : zD → Option β} : zput w (zblk D a F) 6 7 (a + 1) v k = k (zblk D a (upd2 F 1 7 v)) := by
  rw [zput_of (a := (a + 1)) (h 1 (by decide)) rfl, show zup (zblk D a F) (a + 1) 7 v = _ from zup_zblk (a := a) (o := 1) (by decide)]
theorem Lo9 (h : LF w a) {k : Option β} : zobj w 4 (a + 9) k = k := zobj_of (h 9 (by decide))
theorem Lr9_0 (h : LF w a) {k : Nat → Option β} : zref w 4 0 (a + 9) k = k (a + 10) := zref_of (h 9 (by decide)) rfl
theorem Lr9_1 (h : LF w a) {k : Nat → Option β} : zref w 4 1 (a + 9) k = k (a + 11) := zref_of (h 9 (by decide)) rfl
theorem Lr9_2 (h : LF w a) {k : Nat → Option β} : zref w 4 2 (a + 9) k = k (a + 12) := zref_of (h 9 (by decide)) rfl
theorem Lr9_3 (h : LF w a) {k : Nat → Option β} : zref w 4 3 (a + 9) k = k (a + 13) := zref_of (h 9 (by decide)) rfl
theorem Lr9_4 (h : LF w a) {k : Nat → Option β} : zref w 4 4 (a + 9) k = k (a + 14) := zref_of (h 9 (by decide)) rfl
theorem Lr9_5 (h : LF w a) {k : Nat → Option β} : zref w 4 5 (a + 9) k = k (a + 15) := zref_of (h 9 (by decide)) rfl
theorem Lg9_6 (h : LF w a) {k : Int32 → Option β} : zfld w (zblk D a F) 4 6 (a + 9) k = k (F 9 6) := by
  rw [zfld_of (h 9 (by decide)) rfl]
  rw [zblk_at (a := a) (o := 9) (by decide)]
theorem Lp9_6 (h : LF w a) {v : Int32} {k : zD → Option β} : zput w (zblk D a F) 4 6 (a + 9) v k = k (zblk D a (upd2 F 9 6 v)) := by
  rw [zput_of (a := (a + 9)) (h 9 (by decide)) rfl, show zup (zblk D a F) (a + 9) 6 v = _ from zup_zblk (a := a) (o := 9) (by decide)]
theorem Lg9_7 (h : LF w a) {k : Int32 → Option β} : zfld w (zblk D a F) 4 7 (a + 9) k = k (F 9 7) := by
  rw [zfld_of (h 9 (by decide)) rfl]
  rw [zblk_at (a := a) (o := 9) (by decide)]
theorem Lp9_7 (h : LF w a) {v : Int32} {k : zD → Option β} : zput w (zblk D a F) 4 7 (a + 9) v k = k (zblk D a (upd2 F 9 7 v)) := by
  rw [zput_of (a := (a + 9)) (h 9 (by decide)) rfl, show zup (zblk D a F) (a + 9) 7 v = _ from zup_zblk (a := a) (o := 9) (by decide)]
theorem Lo16 (h : LF w a) {k : Option β} : zobj w 7 (a + 16) k = k := zobj_of (h 16 (by decide))
theorem Lr16_0 (h : LF w a) {k : Nat → Option β} : zref w 7 0 (a + 16) k = k (a + 17) := zref_of (h 16 (by decide)) rfl
theorem Lr16_1 (h : LF w a) {k : Nat → Option β} : zref w 7 1 (a + 16) k = k (a + 18) := zref_of (h 16 (by decide)) rfl
theorem Lg16_2 (h : LF w a) {k : Int32 → Option β} : zfld w (zblk D a F) 7 2 (a + 16) k = k (F 16 2) := by
  rw [zfld_of (h 16 (by decide)) rfl]
  rw [zblk_at (a := a) (o := 16) (by decide)]
theorem Lp16_2 (h : LF w a) {v : Int32} {k : zD → Option β} : zput w (zblk D a F) 7 2 (a + 16) v k = k (zblk D a (upd2 F 16 2 v)) := by
  rw [zput_of (a := (a + 16)) (h 16 (by decide)) rfl, show zup (zblk D a F) (a + 16) 2 v = _ from zup_zblk (a := a) (o := 16) (by decide)]
theorem Lo19 (h : LF w a) {k : Option β} : zobj w 5 (a + 19) k = k := zobj_of (h 19 (by decide))
theorem Lr19_0 (h : LF w a) {k : Nat → Option β} : zref w 5 0 (a + 19) k = k (a + 20) := zref_of (h 19 (by decide)) rfl
theorem Lr19_1 (h : LF w a) {k : Nat → Option β} : zref w 5 1 (a + 19) k = k (a + 21) := zref_of (h 19 (by decide)) rfl
theorem Lr19_2 (h : LF w a) {k : Nat → Option β} : zref w 5 2 (a + 19) k = k (a + 22) := zref_of (h 19 (by decide)) rfl
theorem Lr19_3 (h : LF w a) {k : Nat → Option β} : zref w 5 3 (a + 19) k = k (a + 23) := zref_of (h 19 (by decide)) rfl
theorem Lr19_4 (h : LF w a) {k : Nat → Option β} : zref w 5 4 (a + 19) k = k (a + 24) := zref_of (h 19 (by decide)) rfl
theorem Lr19_5 (h : LF w a) {k : Nat → Option β} : zref w 5 5 (a + 19) k = k (a + 25) := zref_of (h 19 (by decide)) rfl
theorem Lg19_6 (h : LF w a) {k : Int32 → Option β} : zfld w (zblk D a F) 5 6 (a + 19) k = k (F 19 6) := by
  rw [zfld_of (h 19 (by decide)) rfl]
  rw [zblk_at (a := a) (o := 19) (by decide)]
theorem Lp19_6 (h : LF w a) {v : Int32} {k : zD → Option β} : zput w (zblk D a F) 5 6 (a + 19) v k = k (zblk D a (upd2 F 19 6 v)) := by
  rw [zput_of (a := (a + 19)) (h 19 (by decide)) rfl, show zup (zblk D a F) (a + 19) 6 v = _ from zup_zblk (a := a) (o := 19) (by decide)]
theorem Lg19_7 (h : LF w a) {k : Int32 → Option β} : zfld w (zblk D a F) 5 7 (a + 19) k = k (F 19 7) := by
  rw [zfld_of (h 19 (by decide)) rfl]
  rw [zblk_at (a := a) (o := 19) (by decide)]
theorem Lp19_7 (h : LF w a) {v : Int32} {k : zD → Option β} : zput w (zblk D a F) 5 7 (a + 19) v k = k (zblk D a (upd2 F 19 7 v)) := by
  rw [zput_of (a := (a + 19)) (h 19 (by decide)) rfl, show zup (zblk D a F) (a + 19) 7 v = _ from zup_zblk (a := a) (o := 19) (by decide)]
theorem Lo26 (h : LF w a) {k : Option β} : zobj w 1 (a + 26) k = k := zobj_of (h 26 (by decide))
theorem Lr26_0 (h : LF w a) {k : Nat → Option β} : zref w 1 0 (a + 26) k = k (a + 27) := zref_of (h 26 (by decide)) rfl
theorem Lr26_1 (h : LF w a) {k : Nat → Option β} : zref w 1 1 (a + 26) k = k (a + 28) := zref_of (h 26 (by decide)) rfl
theorem Lr26_2 (h : LF w a) {k : Nat → Option β} : zref w 1 2 (a + 26) k = k (a + 29) := zref_of (h 26 (by decide)) rfl
theorem Lr26_3 (h : LF w a) {k : Nat → Option β} : zref w 1 3 (a + 26) k = k (a + 30) := zref_of (h 26 (by decide)) rfl
theorem Lr26_4 (h : LF w a) {k : Nat → Option β} : zref w 1 4 (a + 26) k = k (a + 31) := zref_of (h 26 (by decide)) rfl
theorem Lr26_5 (h : LF w a) {k : Nat → Option β} : zref w 1 5 (a + 26) k = k (a + 32) := zref_of (h 26 (by decide)) rfl
theorem Lg26_6 (h : LF w a) {k : Int32 → Option β} : zfld w (zblk D a F) 1 6 (a + 26) k = k (F 26 6) := by
  rw [zfld_of (h 26 (by decide)) rfl]
  rw [zblk_at (a := a) (o := 26) (by decide)]
theorem Lp26_6 (h : LF w a) {v : Int32} {k : zD → Option β} : zput w (zblk D a F) 1 6 (a + 26) v k = k (zblk D a (upd2 F 26 6 v)) := by
  rw [zput_of (a := (a + 26)) (h 26 (by decide)) rfl, show zup (zblk D a F) (a + 26) 6 v = _ from zup_zblk (a := a) (o := 26) (by decide)]
theorem Lg26_7 (h : LF w a) {k : Int32 → Option β} : zfld w (zblk D a F) 1 7 (a + 26) k = k (F 26 7) := by
  rw [zfld_of (h 26 (by decide)) rfl]
  rw [zblk_at (a := a) (o := 26) (by decide)]
theorem Lp26_7 (h : LF w a) {v : Int32} {k : zD → Option β} : zput w (zblk D a F) 1 7 (a + 26) v k = k (zblk D a (upd2 F 26 7 v)) := by
  rw [zput_of (a := (a + 26)) (h 26 (by decide)) rfl, show zup (zblk D a F) (a + 26) 7 v = _ from zup_zblk (a := a) (o := 26) (by decide)]
theorem Lg26_8 (h : LF w a) {k : Int32 → Option β} : zfld w (zblk D a F) 1 8 (a + 26) k = k (F 26 8) := by
  rw [zfld_of (h 26 (by decide)) rfl]
  rw [zblk_at (a := a) (o := 26) (by decide)]
theorem Lp26_8 (h : LF w a) {v : Int32} {k : zD → Option β} : zput w (zblk D a F) 1 8 (a + 26) v k = k (zblk D a (upd2 F 26 8 v)) := by
  rw [zput_of (a := (a + 26)) (h 26 (by decide)) rfl, show zup (zblk D a F) (a + 26) 8 v = _ from zup_zblk (a := a) (o := 26) (by decide)]
theorem La2 (h : LF w a) {i : Nat} (hi : i < 4) {k : Int32 → Option β} : zald w (zblk D a F) 0 (a + 2) (nI i) k = k (F 2 i) := by
  rw [zald_of (h 2 (by decide)) hi (by decide), zblk_at (by decide)]
theorem Ls2 (h : LF w a) {i : Nat} (hi : i < 4) {v : Int32} {k : zD → Option β} : zast w (zblk D a F) 0 (a + 2) (nI i) v k = k (zblk D a (upd2 F 2 i v)) := by
  rw [zast_of (h 2 (by decide)) hi (by decide), zup_zblk (by decide)]
theorem La3 (h : LF w a) {i : Nat} (hi : i < 4) {k : Int32 → Option β} : zald w (zblk D a F) 0 (a + 3) (nI i) k = k (F 3 i) := by
  rw [zald_of (h 3 (by decide)) hi (by decide), zblk_at (by decide)]
theorem Ls3 (h : LF w a) {i : Nat} (hi : i < 4) {v : Int32} {k : zD → Option β} : zast w (zblk D a F) 0 (a + 3) (nI i) v k = k (zblk D a (upd2 F 3 i v)) := by
  rw [zast_of (h 3 (by decide)) hi (by decide), zup_zblk (by decide)]
theorem La4 (h : LF w a) {i : Nat} (hi : i < 4) {k : Int32 → Option β} : zald w (zblk D a F) 0 (a + 4) (nI i) k = k (F 4 i) := by
  rw [zald_of (h 4 (by decide)) hi (by decide), zblk_at (by decide)]
theorem Ls4 (h : LF w a) {i : Nat} (hi : i < 4) {v : Int32} {k : zD → Option β} : zast w (zblk D a F) 0 (a + 4) (nI i) v k = k (zblk D a (upd2 F 4 i v)) := by
  rw [zast_of (h 4 (by decide)) hi (by decide), zup_zblk (by decide)]
theorem La5 (h : LF w a) {i : Nat} (hi : i < 4) {k : Int32 → Option β} : zald w (zblk D a F) 0 (a + 5) (nI i) k = k (F 5 i) := by
  rw [zald_of (h 5 (by decide)) hi (by decide), zblk_at (by decide)]
theorem Ls5 (h : LF w a) {i : Nat} (hi : i < 4) {v : Int32} {k : zD → Option β} : zast w (zblk D a F) 0 (a + 5) (nI i) v k = k (zblk D a (upd2 F 5 i v)) := by
  rw [zast_of (h 5 (by decide)) hi (by decide), zup_zblk (by decide)]
theorem La6 (h : LF w a) {i : Nat} (hi : i < 4) {k : Int32 → Option β} : zald w (zblk D a F) 0 (a + 6) (nI i) k = k (F 6 i) := by
  rw [zald_of (h 6 (by decide)) hi (by decide), zblk_at (by decide)]
theorem Ls6 (h : LF w a) {i : Nat} (hi : i < 4) {v : Int32} {k : zD → Option β} : zast w (zblk D a F) 0 (a + 6) (nI i) v k = k (zblk D a (upd2 F 6 i v)) := by
  rw [zast_of (h 6 (by decide)) hi (by decide), zup_zblk (by decide)]
theorem La7 (h : LF w a) {i : Nat} (hi : i < 4) {k : Int32 → Option β} : zald w (zblk D a F) 0 (a + 7) (nI i) k = k (F 7 i) := by
  rw [zald_of (h 7 (by decide)) hi (by decide), zblk_at (by decide)]
theorem Ls7 (h : LF w a) {i : Nat} (hi : i < 4) {v : Int32} {k : zD → Option β} : zast w (zblk D a F) 0 (a + 7) (nI i) v k = k (zblk D a (upd2 F 7 i v)) := by
  rw [zast_of (h 7 (by decide)) hi (by decide), zup_zblk (by decide)]
theorem La8 (h : LF w a) {i : Nat} (hi : i < 4) {k : Int32 → Option β} : zald w (zblk D a F) 2 (a + 8) (nI i) k = k (F 8 i) := by
  rw [zald_of (h 8 (by decide)) hi (by decide), zblk_at (by decide)]
theorem Ls8 (h : LF w a) {i : Nat} (hi : i < 4) {v : Int32} {k : zD → Option β} : zast w (zblk D a F) 2 (a + 8) (nI i) v k = k (zblk D a (upd2 F 8 i v)) := by
  rw [zast_of (h 8 (by decide)) hi (by decide), zup_zblk (by decide)]
theorem La10 (h : LF w a) {i : Nat} (hi : i < 4) {k : Int32 → Option β} : zald w (zblk D a F) 0 (a + 10) (nI i) k = k (F 10 i) := by
  rw [zald_of (h 10 (by decide)) hi (by decide), zblk_at (by decide)]
theorem Ls10 (h : LF w a) {i : Nat} (hi : i < 4) {v : Int32} {k : zD → Option β} : zast w (zblk D a F) 0 (a + 10) (nI i) v k = k (zblk D a (upd2 F 10 i v)) := by
  rw [zast_of (h 10 (by decide)) hi (by decide), zup_zblk (by decide)]
theorem La11 (h : LF w a) {i : Nat} (hi : i < 4) {k : Int32 → Option β} : zald w (zblk D a F) 0 (a + 11) (nI i) k = k (F 11 i) := by
  rw [zald_of (h 11 (by decide)) hi (by decide), zblk_at (by decide)]
theorem Ls11 (h : LF w a) {i : Nat} (hi : i < 4) {v : Int32} {k : zD → Option β} : zast w (zblk D a F) 0 (a + 11) (nI i) v k = k (zblk D a (upd2 F 11 i v)) := by
  rw [zast_of (h 11 (by decide)) hi (by decide), zup_zblk (by decide)]
theorem La12 (h : LF w a) {i : Nat} (hi : i < 4) {k : Int32 → Option β} : zald w (zblk D a F) 0 (a + 12) (nI i) k = k (F 12 i) := by
  rw [zald_of (h 12 (by decide)) hi (by decide), zblk_at (by decide)]
theorem Ls12 (h : LF w a) {i : Nat} (hi : i < 4) {v : Int32} {k : zD → Option β} : zast w (zblk D a F) 0 (a + 12) (nI i) v k = k (zblk D a (upd2 F 12 i v)) := by
  rw [zast_of (h 12 (by decide)) hi (by decide), zup_zblk (by decide)]
theorem La13 (h : LF w a) {i : Nat} (hi : i < 4) {k : Int32 → Option β} : zald w (zblk D a F) 0 (a + 13) (nI i) k = k (F 13 i) := by
  rw [zald_of (h 13 (by decide)) hi (by decide), zblk_at (by decide)]
theorem Ls13 (h : LF w a) {i : Nat} (hi : i < 4) {v : Int32} {k : zD → Option β} : zast w (zblk D a F) 0 (a + 13) (nI i) v k = k (zblk D a (upd2 F 13 i v)) := by
  rw [zast_of (h 13 (by decide)) hi (by decide), zup_zblk (by decide)]
theorem La14 (h : LF w a) {i : Nat} (hi : i < 4) {k : Int32 → Option β} : zald w (zblk D a F) 0 (a + 14) (nI i) k = k (F 14 i) := by
  rw [zald_of (h 14 (by decide)) hi (by decide), zblk_at (by decide)]
theorem Ls14 (h : LF w a) {i : Nat} (hi : i < 4) {v : Int32} {k : zD → Option β} : zast w (zblk D a F) 0 (a + 14) (nI i) v k = k (zblk D a (upd2 F 14 i v)) := by
  rw [zast_of (h 14 (by decide)) hi (by decide), zup_zblk (by decide)]
theorem La15 (h : LF w a) {i : Nat} (hi : i < 4) {k : Int32 → Option β} : zald w (zblk D a F) 0 (a + 15) (nI i) k = k (F 15 i) := by
  rw [zald_of (h 15 (by decide)) hi (by decide), zblk_at (by decide)]
theorem Ls15 (h : LF w a) {i : Nat} (hi : i < 4) {v : Int32} {k : zD → Option β} : zast w (zblk D a F) 0 (a + 15) (nI i) v k = k (zblk D a (upd2 F 15 i v)) := by
  rw [zast_of (h 15 (by decide)) hi (by decide), zup_zblk (by decide)]
theorem La17 (h : LF w a) {i : Nat} (hi : i < 3) {k : Int32 → Option β} : zald w (zblk D a F) 2 (a + 17) (nI i) k = k (F 17 i) := by
  rw [zald_of (h 17 (by decide)) hi (by decide), zblk_at (by decide)]
theorem Ls17 (h : LF w a) {i : Nat} (hi : i < 3) {v : Int32} {k : zD → Option β} : zast w (zblk D a F) 2 (a + 17) (nI i) v k = k (zblk D a (upd2 F 17 i v)) := by
  rw [zast_of (h 17 (by decide)) hi (by decide), zup_zblk (by decide)]
theorem La18 (h : LF w a) {i : Nat} (hi : i < 3) {k : Int32 → Option β} : zald w (zblk D a F) 0 (a + 18) (nI i) k = k (F 18 i) := by
  rw [zald_of (h 18 (by decide)) hi (by decide), zblk_at (by decide)]
theorem Ls18 (h : LF w a) {i : Nat} (hi : i < 3) {v : Int32} {k : zD → Option β} : zast w (zblk D a F) 0 (a + 18) (nI i) v k = k (zblk D a (upd2 F 18 i v)) := by
  rw [zast_of (h 18 (by decide)) hi (by decide), zup_zblk (by decide)]
theorem La20 (h : LF w a) {i : Nat} (hi : i < 60) {k : Int32 → Option β} : zald w (zblk D a F) 0 (a + 20) (nI i) k = k (F 20 i) := by
  rw [zald_of (h 20 (by decide)) hi (by decide), zblk_at (by decide)]
theorem Ls20 (h : LF w a) {i : Nat} (hi : i < 60) {v : Int32} {k : zD → Option β} : zast w (zblk D a F) 0 (a + 20) (nI i) v k = k (zblk D a (upd2 F 20 i v)) := by
  rw [zast_of (h 20 (by decide)) hi (by decide), zup_zblk (by decide)]
theorem La21 (h : LF w a) {i : Nat} (hi : i < 60) {k : Int32 → Option β} : zald w (zblk D a F) 0 (a + 21) (nI i) k = k (F 21 i) := by
  rw [zald_of (h 21 (by decide)) hi (by decide), zblk_at (by decide)]
theorem Ls21 (h : LF w a) {i : Nat} (hi : i < 60) {v : Int32} {k : zD → Option β} : zast w (zblk D a F) 0 (a + 21) (nI i) v k = k (zblk D a (upd2 F 21 i v)) := by
  rw [zast_of (h 21 (by decide)) hi (by decide), zup_zblk (by decide)]
theorem La22 (h : LF w a) {i : Nat} (hi : i < 60) {k : Int32 → Option β} : zald w (zblk D a F) 0 (a + 22) (nI i) k = k (F 22 i) := by
  rw [zald_of (h 22 (by decide)) hi (by decide), zblk_at (by decide)]
theorem Ls22 (h : LF w a) {i : Nat} (hi : i < 60) {v : Int32} {k : zD → Option β} : zast w (zblk D a F) 0 (a + 22) (nI i) v k = k (zblk D a (upd2 F 22 i v)) := by
  rw [zast_of (h 22 (by decide)) hi (by decide), zup_zblk (by decide)]
theorem La23 (h : LF w a) {i : Nat} (hi : i < 60) {k : Int32 → Option β} : zald w (zblk D a F) 0 (a + 23) (nI i) k = k (F 23 i) := by
  rw [zald_of (h 23 (by decide)) hi (by decide), zblk_at (by decide)]
theorem Ls23 (h : LF w a) {i : Nat} (hi : i < 60) {v : Int32} {k : zD → Option β} : zast w (zblk D a F) 0 (a + 23) (nI i) v k = k (zblk D a (upd2 F 23 i v)) := by
  rw [zast_of (h 23 (by decide)) hi (by decide), zup_zblk (by decide)]
theorem La24 (h : LF w a) {i : Nat} (hi : i < 60) {k : Int32 → Option β} : zald w (zblk D a F) 0 (a + 24) (nI i) k = k (F 24 i) := by
  rw [zald_of (h 24 (by decide)) hi (by decide), zblk_at (by decide)]
theorem Ls24 (h : LF w a) {i : Nat} (hi : i < 60) {v : Int32} {k : zD → Option β} : zast w (zblk D a F) 0 (a + 24) (nI i) v k = k (zblk D a (upd2 F 24 i v)) := by
  rw [zast_of (h 24 (by decide)) hi (by decide), zup_zblk (by decide)]
theorem La25 (h : LF w a) {i : Nat} (hi : i < 60) {k : Int32 → Option β} : zald w (zblk D a F) 0 (a + 25) (nI i) k = k (F 25 i) := by
  rw [zald_of (h 25 (by decide)) hi (by decide), zblk_at (by decide)]
theorem Ls25 (h : LF w a) {i : Nat} (hi : i < 60) {v : Int32} {k : zD → Option β} : zast w (zblk D a F) 0 (a + 25) (nI i) v k = k (zblk D a (upd2 F 25 i v)) := by
  rw [zast_of (h 25 (by decide)) hi (by decide), zup_zblk (by decide)]
theorem La27 (h : LF w a) {i : Nat} (hi : i < 16) {k : Int32 → Option β} : zald w (zblk D a F) 0 (a + 27) (nI i) k = k (F 27 i) := by
  rw [zald_of (h 27 (by decide)) hi (by decide), zblk_at (by decide)]
theorem Ls27 (h : LF w a) {i : Nat} (hi : i < 16) {v : Int32} {k : zD → Option β} : zast w (zblk D a F) 0 (a + 27) (nI i) v k = k (zblk D a (upd2 F 27 i v)) := by
  rw [zast_of (h 27 (by decide)) hi (by decide), zup_zblk (by decide)]
theorem La28 (h : LF w a) {i : Nat} (hi : i < 16) {k : Int32 → Option β} : zald w (zblk D a F) 0 (a + 28) (nI i) k = k (F 28 i) := by
  rw [zald_of (h 28 (by decide)) hi (by decide), zblk_at (by decide)]
theorem Ls28 (h : LF w a) {i : Nat} (hi : i < 16) {v : Int32} {k : zD → Option β} : zast w (zblk D a F) 0 (a + 28) (nI i) v k = k (zblk D a (upd2 F 28 i v)) := by
  rw [zast_of (h 28 (by decide)) hi (by decide), zup_zblk (by decide)]
theorem La29 (h : LF w a) {i : Nat} (hi : i < 16) {k : Int32 → Option β} : zald w (zblk D a F) 0 (a + 29) (nI i) k = k (F 29 i) := by
  rw [zald_of (h 29 (by decide)) hi (by decide), zblk_at (by decide)]
theorem Ls29 (h : LF w a) {i : Nat} (hi : i < 16) {v : Int32} {k : zD → Option β} : zast w (zblk D a F) 0 (a + 29) (nI i) v k = k (zblk D a (upd2 F 29 i v)) := by
  rw [zast_of (h 29 (by decide)) hi (by decide), zup_zblk (by decide)]
theorem La30 (h : LF w a) {i : Nat} (hi : i < 16) {k : Int32 → Option β} : zald w (zblk D a F) 0 (a + 30) (nI i) k = k (F 30 i) := by
  rw [zald_of (h 30 (by decide)) hi (by decide), zblk_at (by decide)]
theorem Ls30 (h : LF w a) {i : Nat} (hi : i < 16) {v : Int32} {k : zD → Option β} : zast w (zblk D a F) 0 (a + 30) (nI i) v k = k (zblk D a (upd2 F 30 i v)) := by
  rw [zast_of (h 30 (by decide)) hi (by decide), zup_zblk (by decide)]
theorem La31 (h : LF w a) {i : Nat} (hi : i < 16) {k : Int32 → Option β} : zald w (zblk D a F) 0 (a + 31) (nI i) k = k (F 31 i) := by
  rw [zald_of (h 31 (by decide)) hi (by decide), zblk_at (by decide)]
theorem Ls31 (h : LF w a) {i : Nat} (hi : i < 16) {v : Int32} {k : zD → Option β} : zast w (zblk D a F) 0 (a + 31) (nI i) v k = k (zblk D a (upd2 F 31 i v)) := by
  rw [zast_of (h 31 (by decide)) hi (by decide), zup_zblk (by decide)]
theorem La32 (h : LF w a) {i : Nat} (hi : i < 16) {k : Int32 → Option β} : zald w (zblk D a F) 0 (a + 32) (nI i) k = k (F 32 i) := by
  rw [zald_of (h 32 (by decide)) hi (by decide), zblk_at (by decide)]
theorem Ls32 (h : LF w a) {i : Nat} (hi : i < 16) {v : Int32} {k : zD → Option β} : zast w (zblk D a F) 0 (a + 32) (nI i) v k = k (zblk D a (upd2 F 32 i v)) := by
  rw [zast_of (h 32 (by decide)) hi (by decide), zup_zblk (by decide)]
end LFS
theorem lt0 : (0 : Int32) = nI 0 := rfl
theorem lt1 : (1 : Int32) = nI 1 := rfl
theorem lt2 : (2 : Int32) = nI 2 := rfl
theorem lt3 : (3 : Int32) = nI 3 := rfl
theorem lt4 : (4 : Int32) = nI 4 := rfl
theorem lt5 : (5 : Int32) = nI 5 := rfl
theorem lt6 : (6 : Int32) = nI 6 := rfl
theorem lt7 : (7 : Int32) = nI 7 := rfl
theorem lt8 : (8 : Int32) = nI 8 := rfl
theorem lt9 : (9 : Int32) = nI 9 := rfl
theorem lt10 : (10 : Int32) = nI 10 := rfl
theorem lt11 : (11 : Int32) = nI 11 := rfl
theorem lt12 : (12 : Int32) = nI 12 := rfl
theorem lt13 : (13 : Int32) = nI 13 := rfl
theorem lt14 : (14 : Int32) = nI 14 := rfl
theorem lt15 : (15 : Int32) = nI 15 := rfl
theorem lt16 : (16 : Int32) = nI 16 := rfl
theorem lt17 : (17 : Int32) = nI 17 := rfl
theorem lt18 : (18 : Int32) = nI 18 := rfl
theorem lt19 : (19 : Int32) = nI 19 := rfl
theorem lt20 : (20 : Int32) = nI 20 := rfl
theorem lt21 : (21 : Int32) = nI 21 := rfl
theorem lt22 : (22 : Int32) = nI 22 := rfl
theorem lt23 : (23 : Int32) = nI 23 := rfl
theorem lt24 : (24 : Int32) = nI 24 := rfl
theorem lt25 : (25 : Int32) = nI 25 := rfl
theorem lt26 : (26 : Int32) = nI 26 := rfl
theorem lt27 : (27 : Int32) = nI 27 := rfl
theorem lt28 : (28 : Int32) = nI 28 := rfl
theorem lt29 : (29 : Int32) = nI 29 := rfl
theorem lt30 : (30 : Int32) = nI 30 := rfl
theorem lt31 : (31 : Int32) = nI 31 := rfl
theorem lt32 : (32 : Int32) = nI 32 := rfl
theorem lt33 : (33 : Int32) = nI 33 := rfl
theorem lt34 : (34 : Int32) = nI 34 := rfl
theorem lt35 : (35 : Int32) = nI 35 := rfl
theorem lt36 : (36 : Int32) = nI 36 := rfl
theorem lt37 : (37 : Int32) = nI 37 := rfl
theorem lt38 : (38 : Int32) = nI 38 := rfl
theorem lt39 : (39 : Int32) = nI 39 := rfl
theorem lt40 : (40 : Int32) = nI 40 := rfl
theorem lt41 : (41 : Int32) = nI 41 := rfl
theorem lt42 : (42 : Int32) = nI 42 := rfl
theorem lt43 : (43 : Int32) = nI 43 := rfl
theorem lt44 : (44 : Int32) = nI 44 := rfl
theorem lt45 : (45 : Int32) = nI 45 := rfl
theorem lt46 : (46 : Int32) = nI 46 := rfl
theorem lt47 : (47 : Int32) = nI 47 := rfl
theorem lt48 : (48 : Int32) = nI 48 := rfl
theorem lt49 : (49 : Int32) = nI 49 := rfl
theorem lt50 : (50 : Int32) = nI 50 := rfl
theorem lt51 : (51 : Int32) = nI 51 := rfl
theorem lt52 : (52 : Int32) = nI 52 := rfl
theorem lt53 : (53 : Int32) = nI 53 := rfl
theorem lt54 : (54 : Int32) = nI 54 := rfl
theorem lt55 : (55 : Int32) = nI 55 := rfl
theorem lt56 : (56 : Int32) = nI 56 := rfl
theorem lt57 : (57 : Int32) = nI 57 := rfl
theorem lt58 : (58 : Int32) = nI 58 := rfl
theorem lt59 : (59 : Int32) = nI 59 := rfl
theorem lt60 : (60 : Int32) = nI 60 := rfl
theorem lt61 : (61 : Int32) = nI 61 := rfl
theorem lt62 : (62 : Int32) = nI 62 := rfl
theorem lt63 : (63 : Int32) = nI 63 := rfl
theorem lt64 : (64 : Int32) = nI 64 := rfl
theorem lt65 : (65 : Int32) = nI 65 := rfl
theorem lt66 : (66 : Int32) = nI 66 := rfl
theorem lt67 : (67 : Int32) = nI 67 := rfl
theorem lt68 : (68 : Int32) = nI 68 := rfl
theorem lt69 : (69 : Int32) = nI 69 := rfl
theorem lt70 : (70 : Int32) = nI 70 := rfl
theorem lt71 : (71 : Int32) = nI 71 := rfl
theorem lt72 : (72 : Int32) = nI 72 := rfl
theorem lt73 : (73 : Int32) = nI 73 := rfl
theorem lt74 : (74 : Int32) = nI 74 := rfl
theorem lt75 : (75 : Int32) = nI 75 := rfl
theorem lt76 : (76 : Int32) = nI 76 := rfl
theorem lt77 : (77 : Int32) = nI 77 := rfl
theorem lt78 : (78 : Int32) = nI 78 := rfl
theorem lt79 : (79 : Int32) = nI 79 := rfl
theorem lt80 : (80 : Int32) = nI 80 := rfl
theorem lt81 : (81 : Int32) = nI 81 := rfl
theorem lt82 : (82 : Int32) = nI 82 := rfl
theorem lt83 : (83 : Int32) = nI 83 := rfl
theorem lt84 : (84 : Int32) = nI 84 := rfl
theorem lt85 : (85 : Int32) = nI 85 := rfl
theorem lt86 : (86 : Int32) = nI 86 := rfl
theorem lt87 : (87 : Int32) = nI 87 := rfl
theorem lt88 : (88 : Int32) = nI 88 := rfl
theorem lt89 : (89 : Int32) = nI 89 := rfl
theorem lt90 : (90 : Int32) = nI 90 := rfl
theorem lt91 : (91 : Int32) = nI 91 := rfl
theorem lt92 : (92 : Int32) = nI 92 := rfl
theorem lt93 : (93 : Int32) = nI 93 := rfl
theorem lt94 : (94 : Int32) = nI 94 := rfl
theorem lt95 : (95 : Int32) = nI 95 := rfl
theorem lt96 : (96 : Int32) = nI 96 := rfl
theorem lt97 : (97 : Int32) = nI 97 := rfl
theorem lt98 : (98 : Int32) = nI 98 := rfl
theorem lt99 : (99 : Int32) = nI 99 := rfl
theorem lt100 : (100 : Int32) = nI 100 := rfl
theorem lt101 : (101 : Int32) = nI 101 := rfl
theorem lt102 : (102 : Int32) = nI 102 := rfl
theorem lt103 : (103 : Int32) = nI 103 := rfl
theorem lt104 : (104 : Int32) = nI 104 := rfl
theorem lt105 : (105 : Int32) = nI 105 := rfl
theorem lt106 : (106 : Int32) = nI 106 := rfl
theorem lt107 : (107 : Int32) = nI 107 := rfl
theorem lt108 : (108 : Int32) = nI 108 := rfl
theorem lt109 : (109 : Int32) = nI 109 := rfl
theorem lt110 : (110 : Int32) = nI 110 := rfl
theorem lt111 : (111 : Int32) = nI 111 := rfl
theorem lt112 : (112 : Int32) = nI 112 := rfl
theorem lt113 : (113 : Int32) = nI 113 := rfl
theorem lt114 : (114 : Int32) = nI 114 := rfl
theorem lt115 : (115 : Int32) = nI 115 := rfl
theorem lt116 : (116 : Int32) = nI 116 := rfl
theorem lt117 : (117 : Int32) = nI 117 := rfl
theorem lt118 : (118 : Int32) = nI 118 := rfl
theorem lt119 : (119 : Int32) = nI 119 := rfl
theorem lt120 : (120 : Int32) = nI 120 := rfl
theorem lt121 : (121 : Int32) = nI 121 := rfl
theorem lt161 : (161 : Int32) = nI 161 := rfl
theorem lt200 : (200 : Int32) = nI 200 := rfl
theorem lt255 : (255 : Int32) = nI 255 := rfl
theorem lt521 : (521 : Int32) = nI 521 := rfl
theorem lt1000 : (1000 : Int32) = nI 1000 := rfl
