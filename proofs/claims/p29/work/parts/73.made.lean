/-! PURE: the class's constructor. -/
def bO (o : Nat) : Nat := if o < 37 then 4 else if o < 70 then 37 else if o < 103 then 70 else if o < 566 then 104 + 33 * ((o - 104) / 33) else 567 + 33 * ((o - 567) / 33)
def tgt (s o : Nat) : Option zS := if o = 1 then some (.inr (.inr (2, [some (some (s + 2)), none, none, none, some (some (s + 3))]))) else if o = 2 then some (.inl (1, 120)) else if o = 3 then some (.inl (0, 5)) else if o = 633 then some (.inl (2, 2)) else (shL (s + bO o))[o - bO o]?
def dat (o j : Nat) : Int32 := if o < 4 ∨ o = 633 then 0 else fr (o - bO o) j
def stt (n : Nat) : Prop := n = 4 ∨ n = 37 ∨ n = 70 ∨ (∃ i, i < 14 ∧ n = 104 + 33 * i) ∨ (∃ i, i < 2 ∧ n = 567 + 33 * i)
theorem stt_b {n o : Nat} (h : stt n) (h1 : n ≤ o) (h2 : o < n + 33) : bO o = n ∧ 4 ≤ o ∧ o ≠ 633 ∧ o ≠ 103 ∧ o ≠ 566 := by
  unfold bO
  rcases h with rfl | rfl | rfl | ⟨i, hi, rfl⟩ | ⟨i, hi, rfl⟩
  · rw [if_pos (by omega)]; omega
  · rw [if_neg (by omega), if_pos (by omega)]; omega
  · rw [if_neg (by omega), if_neg (by omega), if_pos (by omega)]; omega
  · rw [if_neg (by omega), if_neg (by omega), if_neg (by omega), if_pos (by omega)]; omega
  · rw [if_neg (by omega), if_neg (by omega), if_neg (by omega), if_neg (by omega)]; omega
section P74
variable {β : Type} {z z0 z' : zT} {D D0 D' : zD} {s n : Nat} {fs : List (Option (Option Nat))}
def GS (z0 : zT) (D0 : zD) (s : Nat) (fs : List (Option (Option Nat))) (n : Nat) (z : zT) (D : zD) : Prop := z.1 = s + n ∧ (∀ o, 1 ≤ o → o < n → o ≠ 103 → o ≠ 566 → z.2.1 (s + o) = tgt s o ∧ ∀ j, D (s + o) j = dat o j) ∧ z.2.1 s = some (.inr (.inr (0, fs))) ∧ (∀ j, D s j = 0) ∧ (∀ q, q < s → z.2.1 q = z0.2.1 q ∧ z.2.2.1 q = z0.2.2.1 q ∧ D q = D0 q) ∧ z.2.2.2 = z0.2.2.2
theorem GS_field (h : GS z0 D0 s fs n z D) (hn : stt n) : ∃ z' D', (∀ K : Nat → zT → zD → Option β, znew z D e0F (fun q z1 D1 => zcc (f_Field_init z1 D1 q) (fun z2 D2 => K q z2 D2)) = K (s + n) z' D') ∧ GS z0 D0 s fs (n + 33) z' D' ∧ ∀ q, q < s + n → z'.2.1 q = z.2.1 q := by
  obtain ⟨h1, h2, h3, h4, h5, h6⟩ := h
  obtain ⟨z', D', f1, f2, f3, f4, f5, f6, f7, f8⟩ := field_step (β := β) (z := z) (D := D)
  rw [h1] at f1 f2 f3 f4 f5 f6 f7
  have n4 : 4 ≤ n := (stt_b hn (Nat.le_refl n) (by omega)).2.1
  refine ⟨z', D', f1, ⟨by omega, fun o o1 o2 o3 o4 => ?_, ?_, fun j => ?_, fun q hq => ?_, f8.trans h6⟩, f4⟩
  · by_cases hon : o < n
    · rw [f4 _ (by omega), f6 _ (by omega)]; exact h2 o o1 hon o3 o4
    · obtain ⟨b1, b2, b3, -, -⟩ := stt_b hn (show n ≤ o by omega) o2
      constructor
      · have := f3 (o - n) (by omega)
        rw [show s + n + (o - n) = s + o by omega] at this
        rw [this]
        unfold tgt
        rw [if_neg (by omega), if_neg (by omega), if_neg (by omega), if_neg b3, b1]
      · intro j
        have := f5 (o - n) j (by omega)
        rw [show s + n + (o - n) = s + o by omega] at this
        rw [this]
        unfold dat
        rw [if_neg (by omega), b1]
  · rw [f4 _ (by omega)]; exact h3
  · rw [f6 _ (by omega)]; exact h4 j
  · rw [f4 _ (by omega), f7 _ (by omega), f6 _ (by omega)]; exact h5 q hq
theorem GS_put {v i : Nat} (h : GS z0 D0 s fs n z D) (hj : fs[i]? = some (some none)) : (∀ k : zT → Option β, zputR z 0 i s v k = k (zsh z s (.inr (.inr (0, fs.set i (some (some v))))))) ∧ GS z0 D0 s (fs.set i (some (some v))) n (zsh z s (.inr (.inr (0, fs.set i (some (some v)))))) D := by
  obtain ⟨h1, h2, h3, h4, h5, h6⟩ := h
  refine ⟨fun k => ?_, h1, fun o o1 o2 o3 o4 => ?_, ?_, h4, fun q hq => ?_, h6⟩
  · unfold zputR
    rw [h3]
    simp only [hj, true_and]
    rw [if_pos ⟨rfl, by simp⟩]
  · show (if s + o = s then _ else z.2.1 (s + o)) = _ ∧ _
    rw [if_neg (by omega)]; exact h2 o o1 o2 o3 o4
  · show (if s = s then _ else _) = _
    rw [if_pos rfl]
  · show (if q = s then _ else z.2.1 q) = _ ∧ _
    rw [if_neg (by omega)]; exact h5 q hq
theorem sh_o {e : zS} {q : Nat} (h : q ≠ s) : (zsh z s e).2.1 q = z.2.1 q := by
  show (if q = s then _ else z.2.1 q) = _
  rw [if_neg h]
theorem GS_new {e : zS} (h : GS z0 D0 s fs n z D) (n0 : 1 ≤ n) (hn : n = 103 ∨ n = 566 ∨ (tgt s n = some e ∧ ∀ j, dat n j = 0)) : (∀ k : Nat → zT → zD → Option β, znew z D e k = k (s + n) (zadd z e) (zclr D (s + n))) ∧ GS z0 D0 s fs (n + 1) (zadd z e) (zclr D (s + n)) ∧ (zadd z e).2.1 (s + n) = some e ∧ ∀ q, q < s + n → (zadd z e).2.1 q = z.2.1 q := by
  obtain ⟨h1, h2, h3, h4, h5, h6⟩ := h
  have a1 : ∀ q, q ≠ s + n → (zadd z e).2.1 q = z.2.1 q := fun q hq => by
    show (if q = z.1 then _ else _) = _
    rw [if_neg (by omega)]
  have a2 : (zadd z e).2.1 (s + n) = some e := by
    show (if s + n = z.1 then _ else _) = _
    rw [if_pos h1.symm]
  have a3 : ∀ q, q ≠ s + n → zclr D (s + n) q = D q := fun q hq => by funext j; unfold zclr; rw [if_neg hq]
  have a4 : ∀ q, q ≠ s + n → (zadd z e).2.2.1 q = z.2.2.1 q := fun q hq => by
    funext j
    show (if q = z.1 then _ else _) = _
    rw [if_neg (by omega)]
  refine ⟨fun k => ?_, ⟨?_, fun o o1 o2 o3 o4 => ?_, ?_, fun j => ?_, fun q hq => ?_, h6⟩, a2, fun q hq => a1 q (by omega)⟩
  · show k z.1 (zadd z e) (zclr D z.1) = _
    rw [h1]
  · show z.1 + 1 = _
    omega
  · by_cases hon : o = n
    · subst hon
      rcases hn with h | h | ⟨g1, g2⟩
      · exact absurd h o3
      · exact absurd h o4
      · refine ⟨a2.trans g1.symm, fun j => ?_⟩
        unfold zclr; rw [if_pos rfl, g2]
    · rw [a1 _ (by omega), a3 _ (by omega)]; exact h2 o o1 (by omega) o3 o4
  · rw [a1 _ (by omega)]; exact h3
  · rw [a3 _ (by omega)]; exact h4 j
  · rw [a1 _ (by omega), a3 _ (by omega), a4 _ (by omega)]; exact h5 q hq
theorem GS_sh {n' : Nat} {e : zS} (h : GS z0 D0 s fs n z D) (hn : n' = 103 ∨ n' = 566) : GS z0 D0 s fs n (zsh z (s + n') e) D := by
  obtain ⟨h1, h2, h3, h4, h5, h6⟩ := h
  refine ⟨h1, fun o o1 o2 o3 o4 => ?_, ?_, h4, fun q hq => ?_, h6⟩
  · rw [sh_o (by omega)]; exact h2 o o1 o2 o3 o4
  · rw [sh_o (by omega)]; exact h3
  · rw [sh_o (by omega)]; exact h5 q hq
theorem GS_ft (h1 : z.1 = s + 1) (h3 : z.2.1 s = some (.inr (.inr (0, fs)))) (h4 : ∀ j, D s j = 0) : ∃ z' D', (∀ K : Nat → zT → zD → Option β, znew z D (.inr (.inr (2, [some none, none, none, none, some none]))) (fun q z1 D1 => zcc (f_FairText_init z1 D1 q) (fun z2 D2 => K q z2 D2)) = K (s + 1) z' D') ∧ GS z D s fs 4 z' D' := by
  have hd : ∀ m, zclr (dst D (s + 1) m z0F) (s + 1 + m) = dst D (s + 1) (m + 1) z0F := fun m => dst_z
  have mk : f_FairText_init (zst z (s + 1) [.inr (.inr (2, [some none, none, none, none, some none]))]) (dst D (s + 1) 1 z0F) (s + 1) = some (zst z (s + 1) [.inr (.inr (2, [some (some (s + 1 + 1)), none, none, none, some (some (s + 1 + 2))])), .inl (1, 120), .inl (0, 5)], dst D (s + 1) 3 z0F) := by
    unfold f_FairText_init
    rw [zst_new]
    simp only [List.length_cons, List.length_nil, Nat.zero_add, Nat.reduceAdd, List.cons_append, List.nil_append]
    rw [hd 1, zst_put0 (j := 0) rfl rfl]
    simp only [List.set_cons_succ, List.set_cons_zero]
    rw [zst_new]
    simp only [List.length_cons, List.length_nil, Nat.zero_add, Nat.reduceAdd, List.cons_append, List.nil_append]
    rw [hd 2, zst_put0 (j := 4) rfl rfl]
    simp only [List.set_cons_succ, List.set_cons_zero]
  refine ⟨zst z (s + 1) [.inr (.inr (2, [some (some (s + 1 + 1)), none, none, none, some (some (s + 1 + 2))])), .inl (1, 120), .inl (0, 5)], dst D (s + 1) 3 z0F, fun K => ?_, rfl, fun o o1 o2 o3 o4 => ?_, ?_, fun j => ?_, fun q hq => ⟨?_, ?_, ?_⟩, rfl⟩
  · have h := zst_new (z := z) (a := s + 1) (L := []) (D := dst D (s + 1) 0 z0F) (e := .inr (.inr (2, [some none, none, none, none, some none]))) (k := fun q z1 D1 => zcc (f_FairText_init z1 D1 q) (fun z2 D2 => K q z2 D2))
    rw [zst_nil h1, dst_0] at h
    rw [h]
    have hd1 : zclr D (s + 1 + List.length ([] : List zS)) = dst D (s + 1) 1 z0F := by
      have := hd 0
      rw [dst_0] at this
      exact this
    rw [hd1]
    exact zccX mk
  · have ho : o = 1 ∨ o = 2 ∨ o = 3 := by omega
    rcases ho with rfl | rfl | rfl
    · exact ⟨zst_at (a := s + 1) (o := 0) (show 0 < 3 by decide), fun j => by unfold dst dat; rw [if_pos (by omega), if_pos (by omega)]; rfl⟩
    · exact ⟨zst_at (a := s + 1) (o := 1) (show 1 < 3 by decide), fun j => by unfold dst dat; rw [if_pos (by omega), if_pos (by omega)]; rfl⟩
    · exact ⟨zst_at (a := s + 1) (o := 2) (show 2 < 3 by decide), fun j => by unfold dst dat; rw [if_pos (by omega), if_pos (by omega)]; rfl⟩
  · show (if s + 1 ≤ s ∧ s < s + 1 + 3 then _ else z.2.1 s) = _
    rw [if_neg (by omega)]; exact h3
  · unfold dst; rw [if_neg (by omega)]; exact h4 j
  · show (if s + 1 ≤ q ∧ q < s + 1 + 3 then _ else z.2.1 q) = _
    rw [if_neg (by omega)]
  · funext j
    show (if s + 1 ≤ q ∧ q < s + 1 + 3 then _ else z.2.2.1 q j) = _
    rw [if_neg (by omega)]
  · unfold dst; rw [if_neg (by omega)]
theorem ref_s {v i : Nat} (h : GS z0 D0 s fs n z D) (hj : fs[i]? = some (some (some v))) {k : Nat → Option β} : zref z.2 0 i s k = k v := zref_of h.2.2.1 hj
theorem ast4 {a v m : Nat} {i : Nat} {φ : Nat → Option Nat} {fs' : List (Option (Option Nat))} (h1 : z.2.1 a = some (.inr (.inl (m, φ)))) (h2 : z.2.1 v = some (.inr (.inr (3, fs')))) (hi : i < m) (hm : m ≤ 100) {k : zT → Option β} : zast4 z 3 a (nI i) v k = k (zsh z a (.inr (.inl (m, va_up φ i (some v))))) := by
  unfold zast4
  rw [h1, h2]
  simp only [and_true]
  rw [if_pos (nI_bnd hi (by omega)), nI_clamp (by omega)]
/-- the loops of the rows: remembered (n0 = 103, m = 14, field 4), saved (566, 2, 7) -/
theorem GS_row {n0 m i : Nat} {φ : Nat → Option Nat} (h : GS z0 D0 s fs (n0 + 1 + 33 * i) z D) (hn : (n0 = 103 ∧ m = 14) ∨ (n0 = 566 ∧ m = 2)) (hi : i < m) (hφ : z.2.1 (s + n0) = some (.inr (.inl (m, φ)))) (hφ2 : ∀ k, k < i → φ k = some (s + (n0 + 1) + 33 * k)) : ∃ z' D' φ', GS z0 D0 s fs (n0 + 1 + 33 * (i + 1)) z' D' ∧ z'.2.1 (s + n0) = some (.inr (.inl (m, φ'))) ∧ (∀ k, k < i + 1 → φ' k = some (s + (n0 + 1) + 33 * k)) ∧ (∀ q, q < s + n0 → z'.2.1 q = z.2.1 q) ∧ ∀ K : zT → zD → Option β, znew z D e0F (fun q z1 D1 => zcc (f_Field_init z1 D1 q) (fun z2 D2 => zast4 z2 3 (s + n0) (nI i) q (fun z3 => K z3 D2))) = K z' D' := by
  have hst : stt (n0 + 1 + 33 * i) := by
    unfold stt
    rcases hn with ⟨rfl, rfl⟩ | ⟨rfl, rfl⟩
    · exact Or.inr (Or.inr (Or.inr (Or.inl ⟨i, hi, rfl⟩)))
    · exact Or.inr (Or.inr (Or.inr (Or.inr ⟨i, hi, rfl⟩)))
  obtain ⟨z1, D1, k1, g1, u1⟩ := GS_field (β := β) h hst
  have hφ1 : z1.2.1 (s + n0) = some (.inr (.inl (m, φ))) := by rw [u1 _ (by omega)]; exact hφ
  obtain ⟨b1, b2, b3, b4, b5⟩ := stt_b hst (Nat.le_refl _) (by omega)
  have hv := (g1.2.1 (n0 + 1 + 33 * i) (by omega) (by omega) b4 b5).1
  have hv' : z1.2.1 (s + (n0 + 1 + 33 * i)) = some (.inr (.inr (3, [some (some (s + (n0 + 1 + 33 * i) + 1)), some (some (s + (n0 + 1 + 33 * i) + 9)), some (some (s + (n0 + 1 + 33 * i) + 16)), some (some (s + (n0 + 1 + 33 * i) + 19)), some (some (s + (n0 + 1 + 33 * i) + 26)), none, none, none, none]))) := by
    rw [hv]
    unfold tgt
    rw [if_neg (by omega), if_neg (by omega), if_neg (by omega), if_neg b3, b1, Nat.sub_self]
    rfl
  refine ⟨zsh z1 (s + n0) (.inr (.inl (m, va_up φ i (some (s + (n0 + 1 + 33 * i)))))), D1, va_up φ i (some (s + (n0 + 1 + 33 * i))), ?_, ?_, fun k hk => ?_, fun q hq => ?_, fun K => ?_⟩
  · rw [show n0 + 1 + 33 * (i + 1) = n0 + 1 + 33 * i + 33 by omega]
    exact GS_sh g1 (by omega)
  · show (if s + n0 = s + n0 then _ else _) = _
    rw [if_pos rfl]
  · by_cases hki : k = i
    · subst hki; rw [va_up_self]; congr 1; omega
    · rw [va_up_ne _ _ hki]; exact hφ2 k (by omega)
  · rw [sh_o (by omega), u1 _ (by omega)]
  · refine (k1 (fun q z2 D2 => zast4 z2 3 (s + n0) (nI i) q (fun z3 => K z3 D2))).trans ?_
    exact ast4 hφ1 hv' hi (by omega)
end P74
