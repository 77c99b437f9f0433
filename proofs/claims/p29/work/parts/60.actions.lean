/-! PURE: the actions, undo, the save slots. -/
theorem rm14 {n : Nat} (hn : n < 1000) : zirem (nI n) (14 : Int32) = nI (n % 14) := pk_rem (d := 14) (by omega) (by decide) (by decide)
/-- one more is remembered -/
def push (L : List Fld) (F : Fld) : List Fld := (if L.length < 14 then L else L.drop 1) ++ [F]
theorem push_len {L : List Fld} {F : Fld} (h : L.length ≤ 14) : (push L F).length ≤ 14 ∧ 1 ≤ (push L F).length := by
  unfold push
  rw [List.length_append]
  split
  · simp only [List.length_cons, List.length_nil]; omega
  · simp only [List.length_cons, List.length_nil, List.length_drop]; omega
theorem push_mem {L : List Fld} {F f : Fld} (h : f ∈ push L F) : f ∈ L ∨ f = F := by
  unfold push at h
  rcases List.mem_append.1 h with h | h
  · split at h
    · exact Or.inl h
    · exact Or.inl (List.mem_of_mem_drop h)
  · exact Or.inr (List.mem_singleton.1 h)
section P60
variable {w : zW} {D : zD} {s : Nat} {F : Fld} {L : List Fld} {V : Nat → Option Fld} {T : Nat}
/-- the rows, the present, the slots, where no row is written but one, and the count -/
theorem At_row {p k : Nat} {f : Fld} (h : At D s (F, L, V)) (hp : p < 14) {L' : List Fld} (h14 : L'.length ≤ 14) (hf : NZ f ∧ RZ f) {r : Nat} (hr : r < 14) {D' : zD} (hq : ∀ q, q ≠ s → (q < s + 104 + 33 * r ∨ s + 104 + 33 * r + 33 ≤ q) → D' q = D q) (hrow : HF D' (s + 104 + 33 * r) f) (e5 : D' s 5 = nI p) (e6 : D' s 6 = nI L'.length) (hL : ∀ i g, L'[i]? = some g → HF D' (s + 104 + 33 * ((p + i) % 14)) g) : At D' s (F, L', V) := by
  obtain ⟨a1, a2, a3, a4, -, a6⟩ := h
  refine ⟨HF_fr a1 (fun q _ _ => hq q (by omega) (by omega)), CZ_fr a2 (fun q _ _ => hq q (by omega) (by omega)), fun i hi => ?_, fun i hi => CZ_fr (a4 i hi) (fun q _ _ => hq q (by omega) (by omega)), ⟨p, hp, e5, e6, h14, hL⟩, fun i hi => ?_⟩
  · by_cases hir : i = r
    · subst hir; exact CZ_of hrow hf.1 hf.2
    · exact CZ_fr (a3 i hi) (fun q _ _ => hq q (by omega) (by omega))
  · rcases a6 i hi with ⟨f, c1, c2, c3⟩ | ⟨c1, c2⟩
    · exact Or.inl ⟨f, c1, by rw [hq _ (by omega) (by omega)]; exact c2, HF_fr c3 (fun q _ _ => hq q (by omega) (by omega))⟩
    · exact Or.inr ⟨c1, by rw [hq _ (by omega) (by omega)]; exact c2⟩
theorem rem1 (hw : WL w s) (h : At D s (F, L, V)) (hF : NZ F ∧ RZ F) : ∃ D', f_SF_remember w D s = some D' ∧ At D' s (F, push L F, V) ∧ ∀ q, q < s ∨ s + 634 ≤ q → D' q = D q := by
  obtain ⟨a1, a2, a3, a4, ⟨p, b1, b2, b3, b4, b5⟩, a6⟩ := id h
  have b3 : D s 6 = nI L.length := b3
  have b4 : L.length ≤ 14 := b4
  have b5 : ∀ i f, L[i]? = some f → HF D (s + 104 + 33 * ((p + i) % 14)) f := b5
  unfold f_SF_remember
  simp only [↓zjpE, ↓WSo hw, ↓WSr0 hw, ↓WSr1 hw, ↓WSr2 hw, ↓WSr3 hw, ↓WSr4 hw, ↓WSg5 hw, ↓WSp5 hw, ↓WSg6 hw, ↓WSp6 hw, ↓WSr7 hw, ↓WSr8 hw, ↓WTo hw, ↓WTr0 hw, ↓WTg1 hw, ↓WTp1 hw, ↓WTg2 hw, ↓WTp2 hw, ↓WTg3 hw, ↓WTp3 hw, ↓WTr4 hw, b3]
  by_cases hk : L.length < 14
  · have hn : nI L.length < 14 := nI_lt hk (by decide)
    have hm : (p + L.length) % 14 < 14 := Nat.mod_lt _ (by decide)
    have hc := copyB (R := F) (WLr hw hm) (WL4 hw) (by omega) (a3 _ hm) a1 hF.1 hF.2
    have h6 : zblk D (s + 104 + 33 * ((p + L.length) % 14)) F s 6 = nI L.length := by rw [zblk_out (by omega)]; exact b3
    refine ⟨zup (zblk D (s + 104 + 33 * ((p + L.length) % 14)) F) s 6 (nI (L.length + 1)), ?_, ?_, ?_⟩
    · rw [if_pos hn]
      simp only [↓WSo hw, ↓WSr0 hw, ↓WSr1 hw, ↓WSr2 hw, ↓WSr3 hw, ↓WSr4 hw, ↓WSg5 hw, ↓WSp5 hw, ↓WSg6 hw, ↓WSp6 hw, ↓WSr7 hw, ↓WSr8 hw, ↓WTo hw, ↓WTr0 hw, ↓WTg1 hw, ↓WTp1 hw, ↓WTg2 hw, ↓WTp2 hw, ↓WTg3 hw, ↓WTp3 hw, ↓WTr4 hw, b2, b3, nI_add, rm14 (show p + L.length < 1000 by omega), ↓W4r hw hm, ↓Lo0 (WLr hw hm), ↓zcvX hc, h6, nI_1]
    · have hp' : push L F = L ++ [F] := by unfold push; rw [if_pos hk]
      rw [hp']
      refine At_row (k := 0) (f := F) (r := (p + L.length) % 14) h b1 (by rw [List.length_append]; simp only [List.length_cons, List.length_nil]; omega) hF hm (fun q h1 h2 => by rw [zup_ne h1, zblk_out h2]) (HF_fr (HF_put (D := D)) (fun q _ _ => zup_ne (by omega))) (by rw [zup_aj (by decide), zblk_out (by omega)]; exact b2) (by rw [zup_at, List.length_append]; rfl) ?_
      intro i g hg
      by_cases hi : i < L.length
      · rw [List.getElem?_append_left hi] at hg
        exact HF_fr (b5 i g hg) (fun q _ _ => by
          have : (p + i) % 14 ≠ (p + L.length) % 14 := by omega
          rw [zup_ne (by omega), zblk_out (by omega)])
      · rw [List.getElem?_append_right (by omega)] at hg
        have hm' := List.mem_of_getElem? hg
        rw [List.mem_singleton] at hm'
        have hi2 : i = L.length := by
          rcases Nat.lt_or_ge (i - L.length) 1 with h2 | h2
          · omega
          · rw [List.getElem?_eq_none (by simpa using h2)] at hg; cases hg
        subst hi2 hm'
        exact HF_fr (HF_put (D := D)) (fun q _ _ => zup_ne (by omega))
    · intro q hq; rw [zup_ne (by omega), zblk_out (by omega)]
  · have hk2 : L.length = 14 := by omega
    have hn : ¬ nI L.length < 14 := by rw [hk2]; decide
    have hp2 : (p + 1) % 14 < 14 := Nat.mod_lt _ (by decide)
    have hm : ((p + 1) % 14 + 13) % 14 < 14 := Nat.mod_lt _ (by decide)
    have e5 : zup (zup D s 5 (nI ((p + 1) % 14))) s 6 (nI 13) s 5 = nI ((p + 1) % 14) := by rw [zup_aj (by decide), zup_at]
    have e6 : zup (zup D s 5 (nI ((p + 1) % 14))) s 6 (nI 13) s 6 = nI 13 := zup_at
    have e6' : zup D s 5 (nI ((p + 1) % 14)) s 6 = nI 14 := by rw [zup_aj (by decide), b3, hk2]
    have fr : ∀ q, q ≠ s → zup (zup D s 5 (nI ((p + 1) % 14))) s 6 (nI 13) q = D q := fun q hq => by rw [zup_ne hq, zup_ne hq]
    have hc := copyB (R := F) (D := zup (zup D s 5 (nI ((p + 1) % 14))) s 6 (nI 13)) (WLr hw hm) (WL4 hw) (by omega) (CZ_fr (a3 _ hm) (fun q _ _ => fr q (by omega))) (HF_fr a1 (fun q _ _ => fr q (by omega))) hF.1 hF.2
    have h6 : zblk (zup (zup D s 5 (nI ((p + 1) % 14))) s 6 (nI 13)) (s + 104 + 33 * (((p + 1) % 14 + 13) % 14)) F s 6 = nI 13 := by rw [zblk_out (by omega)]; exact e6
    have hlen : (push L F).length = 14 := by unfold push; rw [if_neg hk, List.length_append, List.length_drop, hk2]; rfl
    refine ⟨zup (zblk (zup (zup D s 5 (nI ((p + 1) % 14))) s 6 (nI 13)) (s + 104 + 33 * (((p + 1) % 14 + 13) % 14)) F) s 6 (nI (13 + 1)), ?_, ?_, ?_⟩
    · rw [if_neg hn]
      simp only [↓WSo hw, ↓WSr0 hw, ↓WSr1 hw, ↓WSr2 hw, ↓WSr3 hw, ↓WSr4 hw, ↓WSg5 hw, ↓WSp5 hw, ↓WSg6 hw, ↓WSp6 hw, ↓WSr7 hw, ↓WSr8 hw, ↓WTo hw, ↓WTr0 hw, ↓WTg1 hw, ↓WTp1 hw, ↓WTg2 hw, ↓WTp2 hw, ↓WTg3 hw, ↓WTp3 hw, ↓WTr4 hw, b2, nI_1, rm14 (show p + 1 < 1000 by omega), e6', show nI 14 - 1 = nI 13 from by decide, e5, e6, nI_add, rm14 (show (p + 1) % 14 + 13 < 1000 by omega), ↓W4r hw hm, ↓Lo0 (WLr hw hm), ↓zcvX hc, h6]
    · refine At_row (k := 0) (f := F) (r := ((p + 1) % 14 + 13) % 14) h hp2 (by omega) hF hm (fun q h1 h2 => by rw [zup_ne h1, zblk_out h2, fr q h1]) (HF_fr (HF_put (D := zup (zup D s 5 (nI ((p + 1) % 14))) s 6 (nI 13))) (fun q _ _ => zup_ne (by omega))) (by rw [zup_aj (by decide), zblk_out (by omega)]; exact e5) (by rw [zup_at, hlen]) ?_
      intro i g hg
      have hpe : push L F = L.drop 1 ++ [F] := by unfold push; rw [if_neg hk]
      rw [hpe] at hg
      have hdl : (L.drop 1).length = 13 := by rw [List.length_drop, hk2]
      by_cases hi : i < 13
      · rw [List.getElem?_append_left (by omega), List.getElem?_drop] at hg
        have := b5 (1 + i) g hg
        rw [show (p + (1 + i)) % 14 = ((p + 1) % 14 + i) % 14 by omega] at this
        exact HF_fr this (fun q _ _ => by
          have : ((p + 1) % 14 + i) % 14 ≠ ((p + 1) % 14 + 13) % 14 := by omega
          rw [zup_ne (by omega), zblk_out (by omega), fr _ (by omega)])
      · rw [List.getElem?_append_right (by omega)] at hg
        have hm' := List.mem_of_getElem? hg
        rw [List.mem_singleton] at hm'
        have hi2 : i = 13 := by
          rcases Nat.lt_or_ge (i - (L.drop 1).length) 1 with h2 | h2
          · omega
          · rw [List.getElem?_eq_none (by simpa using h2)] at hg; cases hg
        subst hi2 hm'
        exact HF_fr (HF_put (D := zup (zup D s 5 (nI ((p + 1) % 14))) s 6 (nI 13))) (fun q _ _ => zup_ne (by omega))
    · intro q hq; rw [zup_ne (by omega), zblk_out (by omega), fr q (by omega)]
/-- an action: what is remembered, then what is done to the present -/
theorem act1 (hw : WL w s) (h : At D s (F, L, V)) (hF : NZ F ∧ RZ F) {v : Int32} {F' : Fld} (f : zD → Option ((Int32 ⊕ String) × zD)) (hf : ∀ D, f (zblk D (s + 4) F) = some (.inl v, zblk D (s + 4) F')) : ∃ D', zcv (f_SF_remember w D s) f = some (.inl v, D') ∧ At D' s (F', push L F, V) ∧ ∀ q, q < s ∨ s + 634 ≤ q → D' q = D q := by
  obtain ⟨D1, h1, h2, h3⟩ := rem1 hw h hF
  refine ⟨zblk D1 (s + 4) F', ?_, At_pres h2, fun q hq => by rw [zblk_out (by omega)]; exact h3 q hq⟩
  rw [h1, zcvE]
  have := hf D1
  rw [HF_blk h2.1] at this
  exact this
theorem a_siren (hw : WL w s) (h : At D s (F, L, V)) (hT : FT F T) {x y r sp pd : Int32} (c1 : (-30 : Int32) ≤ x ∧ x ≤ (30 : Int32)) (c2 : (-30 : Int32) ≤ y ∧ y ≤ (30 : Int32)) (c3 : (1 : Int32) ≤ r ∧ r ≤ (5 : Int32)) (c4 : (-3 : Int32) ≤ sp ∧ sp ≤ (3 : Int32)) (c5 : (1 : Int32) ≤ pd ∧ pd ≤ (20 : Int32)) {ns : Nat} (h1 : F 1 7 = nI ns) (hn : ns < 4) : ∃ D', f_SF_siren w D s x y r sp pd = some (.inl (nI ns), D') ∧ At D' s (sirF F ns x y r sp pd, push L F, V) ∧ ∀ q, q < s ∨ s + 634 ≤ q → D' q = D q := by
  have hL := WL4 hw
  have hlt : nI ns < 4 := nI_lt hn (by decide)
  have st : ∀ D, f_SF_siren w (zblk D (s + 4) F) s x y r sp pd = zcv (f_SF_remember w (zblk D (s + 4) F) s) (fun D4 => zci (f_Sirens_add w D4 (s + 4 + 1) x y r sp pd) (fun v D5 => some (.inl v, D5))) := fun D => by
    unfold f_SF_siren; simp (disch := omega) only [↓zjpE, ↓zletE, ↓zciE, ↓zcvE, ↓zchkE, ↓reduceIte, zciE, zcvE, nI_1, ↓Lo0 hL, Lo0 hL, ↓Lr0_0 hL, Lr0_0 hL, ↓Lr0_1 hL, Lr0_1 hL, ↓Lr0_2 hL, Lr0_2 hL, ↓Lr0_3 hL, Lr0_3 hL, ↓Lr0_4 hL, Lr0_4 hL, ↓Lg0_5 hL, Lg0_5 hL, ↓Lp0_5 hL, Lp0_5 hL, ↓Lg0_6 hL, Lg0_6 hL, ↓Lp0_6 hL, Lp0_6 hL, ↓Lg0_7 hL, Lg0_7 hL, ↓Lp0_7 hL, Lp0_7 hL, ↓Lg0_8 hL, Lg0_8 hL, ↓Lp0_8 hL, Lp0_8 hL, ↓Lo1 hL, Lo1 hL, ↓Lr1_0 hL, Lr1_0 hL, ↓Lr1_1 hL, Lr1_1 hL, ↓Lr1_2 hL, Lr1_2 hL, ↓Lr1_3 hL, Lr1_3 hL, ↓Lr1_4 hL, Lr1_4 hL, ↓Lr1_5 hL, Lr1_5 hL, ↓Lr1_6 hL, Lr1_6 hL, ↓Lg1_7 hL, Lg1_7 hL, ↓Lp1_7 hL, Lp1_7 hL, ↓Lo9 hL, Lo9 hL, ↓Lr9_0 hL, Lr9_0 hL, ↓Lr9_1 hL, Lr9_1 hL, ↓Lr9_2 hL, Lr9_2 hL, ↓Lr9_3 hL, Lr9_3 hL, ↓Lr9_4 hL, Lr9_4 hL, ↓Lr9_5 hL, Lr9_5 hL, ↓Lg9_6 hL, Lg9_6 hL, ↓Lp9_6 hL, Lp9_6 hL, ↓Lg9_7 hL, Lg9_7 hL, ↓Lp9_7 hL, Lp9_7 hL, ↓Lo16 hL, Lo16 hL, ↓Lr16_0 hL, Lr16_0 hL, ↓Lr16_1 hL, Lr16_1 hL, ↓Lg16_2 hL, Lg16_2 hL, ↓Lp16_2 hL, Lp16_2 hL, ↓Lo19 hL, Lo19 hL, ↓Lr19_0 hL, Lr19_0 hL, ↓Lr19_1 hL, Lr19_1 hL, ↓Lr19_2 hL, Lr19_2 hL, ↓Lr19_3 hL, Lr19_3 hL, ↓Lr19_4 hL, Lr19_4 hL, ↓Lr19_5 hL, Lr19_5 hL, ↓Lg19_6 hL, Lg19_6 hL, ↓Lp19_6 hL, Lp19_6 hL, ↓Lg19_7 hL, Lg19_7 hL, ↓Lp19_7 hL, Lp19_7 hL, ↓Lo26 hL, Lo26 hL, ↓Lr26_0 hL, Lr26_0 hL, ↓Lr26_1 hL, Lr26_1 hL, ↓Lr26_2 hL, Lr26_2 hL, ↓Lr26_3 hL, Lr26_3 hL, ↓Lr26_4 hL, Lr26_4 hL, ↓Lr26_5 hL, Lr26_5 hL, ↓Lg26_6 hL, Lg26_6 hL, ↓Lp26_6 hL, Lp26_6 hL, ↓Lg26_7 hL, Lg26_7 hL, ↓Lp26_7 hL, Lp26_7 hL, ↓Lg26_8 hL, Lg26_8 hL, ↓Lp26_8 hL, Lp26_8 hL, ↓La2 hL, La2 hL, ↓Ls2 hL, Ls2 hL, ↓La3 hL, La3 hL, ↓Ls3 hL, Ls3 hL, ↓La4 hL, La4 hL, ↓Ls4 hL, Ls4 hL, ↓La5 hL, La5 hL, ↓Ls5 hL, Ls5 hL, ↓La6 hL, La6 hL, ↓Ls6 hL, Ls6 hL, ↓La7 hL, La7 hL, ↓Ls7 hL, Ls7 hL, ↓La8 hL, La8 hL, ↓Ls8 hL, Ls8 hL, ↓La10 hL, La10 hL, ↓Ls10 hL, Ls10 hL, ↓La11 hL, La11 hL, ↓Ls11 hL, Ls11 hL, ↓La12 hL, La12 hL, ↓Ls12 hL, Ls12 hL, ↓La13 hL, La13 hL, ↓Ls13 hL, Ls13 hL, ↓La14 hL, La14 hL, ↓Ls14 hL, Ls14 hL, ↓La15 hL, La15 hL, ↓Ls15 hL, Ls15 hL, ↓La17 hL, La17 hL, ↓Ls17 hL, Ls17 hL, ↓La18 hL, La18 hL, ↓Ls18 hL, Ls18 hL, ↓La20 hL, La20 hL, ↓Ls20 hL, Ls20 hL, ↓La21 hL, La21 hL, ↓Ls21 hL, Ls21 hL, ↓La22 hL, La22 hL, ↓Ls22 hL, Ls22 hL, ↓La23 hL, La23 hL, ↓Ls23 hL, Ls23 hL, ↓La24 hL, La24 hL, ↓Ls24 hL, Ls24 hL, ↓La25 hL, La25 hL, ↓Ls25 hL, Ls25 hL, ↓La27 hL, La27 hL, ↓Ls27 hL, Ls27 hL, ↓La28 hL, La28 hL, ↓Ls28 hL, Ls28 hL, ↓La29 hL, La29 hL, ↓Ls29 hL, Ls29 hL, ↓La30 hL, La30 hL, ↓Ls30 hL, Ls30 hL, ↓La31 hL, La31 hL, ↓Ls31 hL, Ls31 hL, ↓La32 hL, La32 hL, ↓Ls32 hL, Ls32 hL, ↓WSo hw, ↓WSr0 hw, ↓WSr1 hw, ↓WSr2 hw, ↓WSr3 hw, ↓WSr4 hw, ↓WSg5 hw, ↓WSp5 hw, ↓WSg6 hw, ↓WSp6 hw, ↓WSr7 hw, ↓WSr8 hw, ↓WTo hw, ↓WTr0 hw, ↓WTg1 hw, ↓WTp1 hw, ↓WTg2 hw, ↓WTp2 hw, ↓WTg3 hw, ↓WTp3 hw, ↓WTr4 hw, ↓zWi, ↓zHS hL, ↓zHH hL, ↓zHW hL, ↓zHP hL, d10, zone, eq_true c1, eq_true c2, eq_true c3, eq_true c4, eq_true c5, h1, eq_true hlt]
  have s1 := st D
  rw [HF_blk h.1] at s1
  rw [s1]
  exact act1 hw h (FT_NZ hT) _ (fun D => by
    simp only [↓zciX (c_addS hL hn h1)])
theorem a_hearer (hw : WL w s) (h : At D s (F, L, V)) (hT : FT F T) {x y vx vy : Int32} (c1 : (-40 : Int32) ≤ x ∧ x ≤ (40 : Int32)) (c2 : (-40 : Int32) ≤ y ∧ y ≤ (40 : Int32)) (c3 : (-2 : Int32) ≤ vx ∧ vx ≤ (2 : Int32)) (c4 : (-2 : Int32) ≤ vy ∧ vy ≤ (2 : Int32)) {nh : Nat} (h9 : F 9 6 = nI nh) (hn : nh < 4) : ∃ D', f_SF_hearer w D s x y vx vy = some (.inl (nI nh), D') ∧ At D' s (heaF F nh x y vx vy, push L F, V) ∧ ∀ q, q < s ∨ s + 634 ≤ q → D' q = D q := by
  have hL := WL4 hw
  have hlt : nI nh < 4 := nI_lt hn (by decide)
  have st : ∀ D, f_SF_hearer w (zblk D (s + 4) F) s x y vx vy = zcv (f_SF_remember w (zblk D (s + 4) F) s) (fun D4 => zci (f_Hearers_add w D4 (s + 4 + 9) x y vx vy) (fun v D5 => some (.inl v, D5))) := fun D => by
    unfold f_SF_hearer; simp (disch := omega) only [↓zjpE, ↓zletE, ↓zciE, ↓zcvE, ↓zchkE, ↓reduceIte, zciE, zcvE, nI_1, ↓Lo0 hL, Lo0 hL, ↓Lr0_0 hL, Lr0_0 hL, ↓Lr0_1 hL, Lr0_1 hL, ↓Lr0_2 hL, Lr0_2 hL, ↓Lr0_3 hL, Lr0_3 hL, ↓Lr0_4 hL, Lr0_4 hL, ↓Lg0_5 hL, Lg0_5 hL, ↓Lp0_5 hL, Lp0_5 hL, ↓Lg0_6 hL, Lg0_6 hL, ↓Lp0_6 hL, Lp0_6 hL, ↓Lg0_7 hL, Lg0_7 hL, ↓Lp0_7 hL, Lp0_7 hL, ↓Lg0_8 hL, Lg0_8 hL, ↓Lp0_8 hL, Lp0_8 hL, ↓Lo1 hL, Lo1 hL, ↓Lr1_0 hL, Lr1_0 hL, ↓Lr1_1 hL, Lr1_1 hL, ↓Lr1_2 hL, Lr1_2 hL, ↓Lr1_3 hL, Lr1_3 hL, ↓Lr1_4 hL, Lr1_4 hL, ↓Lr1_5 hL, Lr1_5 hL, ↓Lr1_6 hL, Lr1_6 hL, ↓Lg1_7 hL, Lg1_7 hL, ↓Lp1_7 hL, Lp1_7 hL, ↓Lo9 hL, Lo9 hL, ↓Lr9_0 hL, Lr9_0 hL, ↓Lr9_1 hL, Lr9_1 hL, ↓Lr9_2 hL, Lr9_2 hL, ↓Lr9_3 hL, Lr9_3 hL, ↓Lr9_4 hL, Lr9_4 hL, ↓Lr9_5 hL, Lr9_5 hL, ↓Lg9_6 hL, Lg9_6 hL, ↓Lp9_6 hL, Lp9_6 hL, ↓Lg9_7 hL, Lg9_7 hL, ↓Lp9_7 hL, Lp9_7 hL, ↓Lo16 hL, Lo16 hL, ↓Lr16_0 hL, Lr16_0 hL, ↓Lr16_1 hL, Lr16_1 hL, ↓Lg16_2 hL, Lg16_2 hL, ↓Lp16_2 hL, Lp16_2 hL, ↓Lo19 hL, Lo19 hL, ↓Lr19_0 hL, Lr19_0 hL, ↓Lr19_1 hL, Lr19_1 hL, ↓Lr19_2 hL, Lr19_2 hL, ↓Lr19_3 hL, Lr19_3 hL, ↓Lr19_4 hL, Lr19_4 hL, ↓Lr19_5 hL, Lr19_5 hL, ↓Lg19_6 hL, Lg19_6 hL, ↓Lp19_6 hL, Lp19_6 hL, ↓Lg19_7 hL, Lg19_7 hL, ↓Lp19_7 hL, Lp19_7 hL, ↓Lo26 hL, Lo26 hL, ↓Lr26_0 hL, Lr26_0 hL, ↓Lr26_1 hL, Lr26_1 hL, ↓Lr26_2 hL, Lr26_2 hL, ↓Lr26_3 hL, Lr26_3 hL, ↓Lr26_4 hL, Lr26_4 hL, ↓Lr26_5 hL, Lr26_5 hL, ↓Lg26_6 hL, Lg26_6 hL, ↓Lp26_6 hL, Lp26_6 hL, ↓Lg26_7 hL, Lg26_7 hL, ↓Lp26_7 hL, Lp26_7 hL, ↓Lg26_8 hL, Lg26_8 hL, ↓Lp26_8 hL, Lp26_8 hL, ↓La2 hL, La2 hL, ↓Ls2 hL, Ls2 hL, ↓La3 hL, La3 hL, ↓Ls3 hL, Ls3 hL, ↓La4 hL, La4 hL, ↓Ls4 hL, Ls4 hL, ↓La5 hL, La5 hL, ↓Ls5 hL, Ls5 hL, ↓La6 hL, La6 hL, ↓Ls6 hL, Ls6 hL, ↓La7 hL, La7 hL, ↓Ls7 hL, Ls7 hL, ↓La8 hL, La8 hL, ↓Ls8 hL, Ls8 hL, ↓La10 hL, La10 hL, ↓Ls10 hL, Ls10 hL, ↓La11 hL, La11 hL, ↓Ls11 hL, Ls11 hL, ↓La12 hL, La12 hL, ↓Ls12 hL, Ls12 hL, ↓La13 hL, La13 hL, ↓Ls13 hL, Ls13 hL, ↓La14 hL, La14 hL, ↓Ls14 hL, Ls14 hL, ↓La15 hL, La15 hL, ↓Ls15 hL, Ls15 hL, ↓La17 hL, La17 hL, ↓Ls17 hL, Ls17 hL, ↓La18 hL, La18 hL, ↓Ls18 hL, Ls18 hL, ↓La20 hL, La20 hL, ↓Ls20 hL, Ls20 hL, ↓La21 hL, La21 hL, ↓Ls21 hL, Ls21 hL, ↓La22 hL, La22 hL, ↓Ls22 hL, Ls22 hL, ↓La23 hL, La23 hL, ↓Ls23 hL, Ls23 hL, ↓La24 hL, La24 hL, ↓Ls24 hL, Ls24 hL, ↓La25 hL, La25 hL, ↓Ls25 hL, Ls25 hL, ↓La27 hL, La27 hL, ↓Ls27 hL, Ls27 hL, ↓La28 hL, La28 hL, ↓Ls28 hL, Ls28 hL, ↓La29 hL, La29 hL, ↓Ls29 hL, Ls29 hL, ↓La30 hL, La30 hL, ↓Ls30 hL, Ls30 hL, ↓La31 hL, La31 hL, ↓Ls31 hL, Ls31 hL, ↓La32 hL, La32 hL, ↓Ls32 hL, Ls32 hL, ↓WSo hw, ↓WSr0 hw, ↓WSr1 hw, ↓WSr2 hw, ↓WSr3 hw, ↓WSr4 hw, ↓WSg5 hw, ↓WSp5 hw, ↓WSg6 hw, ↓WSp6 hw, ↓WSr7 hw, ↓WSr8 hw, ↓WTo hw, ↓WTr0 hw, ↓WTg1 hw, ↓WTp1 hw, ↓WTg2 hw, ↓WTp2 hw, ↓WTg3 hw, ↓WTp3 hw, ↓WTr4 hw, ↓zWi, ↓zHS hL, ↓zHH hL, ↓zHW hL, ↓zHP hL, d10, zone, eq_true c1, eq_true c2, eq_true c3, eq_true c4, h9, eq_true hlt]
  have s1 := st D
  rw [HF_blk h.1] at s1
  rw [s1]
  exact act1 hw h (FT_NZ hT) _ (fun D => by
    simp only [↓zciX (c_addH hL hn h9)])
theorem a_wall (hw : WL w s) (h : At D s (F, L, V)) (hT : FT F T) {u y : Int32} (c2 : (-40 : Int32) ≤ y ∧ y ≤ (40 : Int32)) {nw : Nat} (h16 : F 16 2 = nI nw) (hn : nw < 3) (hu : u = 0 ∨ u = 1) : ∃ D', f_SF_wall w D s u y = some (.inl (nI nw), D') ∧ At D' s (walF F nw u y, push L F, V) ∧ ∀ q, q < s ∨ s + 634 ≤ q → D' q = D q := by
  have hL := WL4 hw
  have hlt : nI nw < 3 := nI_lt hn (by decide)
  have st : ∀ D, f_SF_wall w (zblk D (s + 4) F) s u y = zcv (f_SF_remember w (zblk D (s + 4) F) s) (fun D4 => zci (f_Walls_add w D4 (s + 4 + 16) u y) (fun v D5 => some (.inl v, D5))) := fun D => by
    unfold f_SF_wall; simp (disch := omega) only [↓zjpE, ↓zletE, ↓zciE, ↓zcvE, ↓zchkE, ↓reduceIte, zciE, zcvE, nI_1, ↓Lo0 hL, Lo0 hL, ↓Lr0_0 hL, Lr0_0 hL, ↓Lr0_1 hL, Lr0_1 hL, ↓Lr0_2 hL, Lr0_2 hL, ↓Lr0_3 hL, Lr0_3 hL, ↓Lr0_4 hL, Lr0_4 hL, ↓Lg0_5 hL, Lg0_5 hL, ↓Lp0_5 hL, Lp0_5 hL, ↓Lg0_6 hL, Lg0_6 hL, ↓Lp0_6 hL, Lp0_6 hL, ↓Lg0_7 hL, Lg0_7 hL, ↓Lp0_7 hL, Lp0_7 hL, ↓Lg0_8 hL, Lg0_8 hL, ↓Lp0_8 hL, Lp0_8 hL, ↓Lo1 hL, Lo1 hL, ↓Lr1_0 hL, Lr1_0 hL, ↓Lr1_1 hL, Lr1_1 hL, ↓Lr1_2 hL, Lr1_2 hL, ↓Lr1_3 hL, Lr1_3 hL, ↓Lr1_4 hL, Lr1_4 hL, ↓Lr1_5 hL, Lr1_5 hL, ↓Lr1_6 hL, Lr1_6 hL, ↓Lg1_7 hL, Lg1_7 hL, ↓Lp1_7 hL, Lp1_7 hL, ↓Lo9 hL, Lo9 hL, ↓Lr9_0 hL, Lr9_0 hL, ↓Lr9_1 hL, Lr9_1 hL, ↓Lr9_2 hL, Lr9_2 hL, ↓Lr9_3 hL, Lr9_3 hL, ↓Lr9_4 hL, Lr9_4 hL, ↓Lr9_5 hL, Lr9_5 hL, ↓Lg9_6 hL, Lg9_6 hL, ↓Lp9_6 hL, Lp9_6 hL, ↓Lg9_7 hL, Lg9_7 hL, ↓Lp9_7 hL, Lp9_7 hL, ↓Lo16 hL, Lo16 hL, ↓Lr16_0 hL, Lr16_0 hL, ↓Lr16_1 hL, Lr16_1 hL, ↓Lg16_2 hL, Lg16_2 hL, ↓Lp16_2 hL, Lp16_2 hL, ↓Lo19 hL, Lo19 hL, ↓Lr19_0 hL, Lr19_0 hL, ↓Lr19_1 hL, Lr19_1 hL, ↓Lr19_2 hL, Lr19_2 hL, ↓Lr19_3 hL, Lr19_3 hL, ↓Lr19_4 hL, Lr19_4 hL, ↓Lr19_5 hL, Lr19_5 hL, ↓Lg19_6 hL, Lg19_6 hL, ↓Lp19_6 hL, Lp19_6 hL, ↓Lg19_7 hL, Lg19_7 hL, ↓Lp19_7 hL, Lp19_7 hL, ↓Lo26 hL, Lo26 hL, ↓Lr26_0 hL, Lr26_0 hL, ↓Lr26_1 hL, Lr26_1 hL, ↓Lr26_2 hL, Lr26_2 hL, ↓Lr26_3 hL, Lr26_3 hL, ↓Lr26_4 hL, Lr26_4 hL, ↓Lr26_5 hL, Lr26_5 hL, ↓Lg26_6 hL, Lg26_6 hL, ↓Lp26_6 hL, Lp26_6 hL, ↓Lg26_7 hL, Lg26_7 hL, ↓Lp26_7 hL, Lp26_7 hL, ↓Lg26_8 hL, Lg26_8 hL, ↓Lp26_8 hL, Lp26_8 hL, ↓La2 hL, La2 hL, ↓Ls2 hL, Ls2 hL, ↓La3 hL, La3 hL, ↓Ls3 hL, Ls3 hL, ↓La4 hL, La4 hL, ↓Ls4 hL, Ls4 hL, ↓La5 hL, La5 hL, ↓Ls5 hL, Ls5 hL, ↓La6 hL, La6 hL, ↓Ls6 hL, Ls6 hL, ↓La7 hL, La7 hL, ↓Ls7 hL, Ls7 hL, ↓La8 hL, La8 hL, ↓Ls8 hL, Ls8 hL, ↓La10 hL, La10 hL, ↓Ls10 hL, Ls10 hL, ↓La11 hL, La11 hL, ↓Ls11 hL, Ls11 hL, ↓La12 hL, La12 hL, ↓Ls12 hL, Ls12 hL, ↓La13 hL, La13 hL, ↓Ls13 hL, Ls13 hL, ↓La14 hL, La14 hL, ↓Ls14 hL, Ls14 hL, ↓La15 hL, La15 hL, ↓Ls15 hL, Ls15 hL, ↓La17 hL, La17 hL, ↓Ls17 hL, Ls17 hL, ↓La18 hL, La18 hL, ↓Ls18 hL, Ls18 hL, ↓La20 hL, La20 hL, ↓Ls20 hL, Ls20 hL, ↓La21 hL, La21 hL, ↓Ls21 hL, Ls21 hL, ↓La22 hL, La22 hL, ↓Ls22 hL, Ls22 hL, ↓La23 hL, La23 hL, ↓Ls23 hL, Ls23 hL, ↓La24 hL, La24 hL, ↓Ls24 hL, Ls24 hL, ↓La25 hL, La25 hL, ↓Ls25 hL, Ls25 hL, ↓La27 hL, La27 hL, ↓Ls27 hL, Ls27 hL, ↓La28 hL, La28 hL, ↓Ls28 hL, Ls28 hL, ↓La29 hL, La29 hL, ↓Ls29 hL, Ls29 hL, ↓La30 hL, La30 hL, ↓Ls30 hL, Ls30 hL, ↓La31 hL, La31 hL, ↓Ls31 hL, Ls31 hL, ↓La32 hL, La32 hL, ↓Ls32 hL, Ls32 hL, ↓WSo hw, ↓WSr0 hw, ↓WSr1 hw, ↓WSr2 hw, ↓WSr3 hw, ↓WSr4 hw, ↓WSg5 hw, ↓WSp5 hw, ↓WSg6 hw, ↓WSp6 hw, ↓WSr7 hw, ↓WSr8 hw, ↓WTo hw, ↓WTr0 hw, ↓WTg1 hw, ↓WTp1 hw, ↓WTg2 hw, ↓WTp2 hw, ↓WTg3 hw, ↓WTp3 hw, ↓WTr4 hw, ↓zWi, ↓zHS hL, ↓zHH hL, ↓zHW hL, ↓zHP hL, d10, zone, eq_true c2, h16, eq_true hlt]
  have s1 := st D
  rw [HF_blk h.1] at s1
  rw [s1]
  exact act1 hw h (FT_NZ hT) _ (fun D => by
    simp only [↓zciX (c_addW hL hn h16 hu)])
theorem a_turn (hw : WL w s) (h : At D s (F, L, V)) (hT : FT F T) {v : Int32} {ns i : Nat} (h1 : F 1 7 = nI ns) (hn : ns ≤ 4) (hi : i < ns) (hu : v = 0 ∨ v = 1) : ∃ D', f_SF_turn w D s (nI i) v = some (.inl (nI (onsum (upd2 F 8 i v) ns)), D') ∧ At D' s (upd2 F 8 i v, push L F, V) ∧ ∀ q, q < s ∨ s + 634 ≤ q → D' q = D q := by
  have hL := WL4 hw
  have hx : 0 ≤ nI i ∧ nI i < F 1 7 := ⟨nI_pos' (by omega), by rw [h1]; exact nI_lt hi (by omega)⟩
  have st : ∀ D, f_SF_turn w (zblk D (s + 4) F) s (nI i) v = zcv (f_SF_remember w (zblk D (s + 4) F) s) (fun D4 => zci (f_Sirens_turnTo w D4 (s + 4 + 1) (nI i) v) (fun _ D5 => zci (f_Sirens_howManyOn w D5 (s + 4 + 1)) (fun v D6 => some (.inl v, D6)))) := fun D => by
    unfold f_SF_turn; simp (disch := omega) only [↓zjpE, ↓zletE, ↓zciE, ↓zcvE, ↓zchkE, ↓reduceIte, zciE, zcvE, nI_1, ↓Lo0 hL, Lo0 hL, ↓Lr0_0 hL, Lr0_0 hL, ↓Lr0_1 hL, Lr0_1 hL, ↓Lr0_2 hL, Lr0_2 hL, ↓Lr0_3 hL, Lr0_3 hL, ↓Lr0_4 hL, Lr0_4 hL, ↓Lg0_5 hL, Lg0_5 hL, ↓Lp0_5 hL, Lp0_5 hL, ↓Lg0_6 hL, Lg0_6 hL, ↓Lp0_6 hL, Lp0_6 hL, ↓Lg0_7 hL, Lg0_7 hL, ↓Lp0_7 hL, Lp0_7 hL, ↓Lg0_8 hL, Lg0_8 hL, ↓Lp0_8 hL, Lp0_8 hL, ↓Lo1 hL, Lo1 hL, ↓Lr1_0 hL, Lr1_0 hL, ↓Lr1_1 hL, Lr1_1 hL, ↓Lr1_2 hL, Lr1_2 hL, ↓Lr1_3 hL, Lr1_3 hL, ↓Lr1_4 hL, Lr1_4 hL, ↓Lr1_5 hL, Lr1_5 hL, ↓Lr1_6 hL, Lr1_6 hL, ↓Lg1_7 hL, Lg1_7 hL, ↓Lp1_7 hL, Lp1_7 hL, ↓Lo9 hL, Lo9 hL, ↓Lr9_0 hL, Lr9_0 hL, ↓Lr9_1 hL, Lr9_1 hL, ↓Lr9_2 hL, Lr9_2 hL, ↓Lr9_3 hL, Lr9_3 hL, ↓Lr9_4 hL, Lr9_4 hL, ↓Lr9_5 hL, Lr9_5 hL, ↓Lg9_6 hL, Lg9_6 hL, ↓Lp9_6 hL, Lp9_6 hL, ↓Lg9_7 hL, Lg9_7 hL, ↓Lp9_7 hL, Lp9_7 hL, ↓Lo16 hL, Lo16 hL, ↓Lr16_0 hL, Lr16_0 hL, ↓Lr16_1 hL, Lr16_1 hL, ↓Lg16_2 hL, Lg16_2 hL, ↓Lp16_2 hL, Lp16_2 hL, ↓Lo19 hL, Lo19 hL, ↓Lr19_0 hL, Lr19_0 hL, ↓Lr19_1 hL, Lr19_1 hL, ↓Lr19_2 hL, Lr19_2 hL, ↓Lr19_3 hL, Lr19_3 hL, ↓Lr19_4 hL, Lr19_4 hL, ↓Lr19_5 hL, Lr19_5 hL, ↓Lg19_6 hL, Lg19_6 hL, ↓Lp19_6 hL, Lp19_6 hL, ↓Lg19_7 hL, Lg19_7 hL, ↓Lp19_7 hL, Lp19_7 hL, ↓Lo26 hL, Lo26 hL, ↓Lr26_0 hL, Lr26_0 hL, ↓Lr26_1 hL, Lr26_1 hL, ↓Lr26_2 hL, Lr26_2 hL, ↓Lr26_3 hL, Lr26_3 hL, ↓Lr26_4 hL, Lr26_4 hL, ↓Lr26_5 hL, Lr26_5 hL, ↓Lg26_6 hL, Lg26_6 hL, ↓Lp26_6 hL, Lp26_6 hL, ↓Lg26_7 hL, Lg26_7 hL, ↓Lp26_7 hL, Lp26_7 hL, ↓Lg26_8 hL, Lg26_8 hL, ↓Lp26_8 hL, Lp26_8 hL, ↓La2 hL, La2 hL, ↓Ls2 hL, Ls2 hL, ↓La3 hL, La3 hL, ↓Ls3 hL, Ls3 hL, ↓La4 hL, La4 hL, ↓Ls4 hL, Ls4 hL, ↓La5 hL, La5 hL, ↓Ls5 hL, Ls5 hL, ↓La6 hL, La6 hL, ↓Ls6 hL, Ls6 hL, ↓La7 hL, La7 hL, ↓Ls7 hL, Ls7 hL, ↓La8 hL, La8 hL, ↓Ls8 hL, Ls8 hL, ↓La10 hL, La10 hL, ↓Ls10 hL, Ls10 hL, ↓La11 hL, La11 hL, ↓Ls11 hL, Ls11 hL, ↓La12 hL, La12 hL, ↓Ls12 hL, Ls12 hL, ↓La13 hL, La13 hL, ↓Ls13 hL, Ls13 hL, ↓La14 hL, La14 hL, ↓Ls14 hL, Ls14 hL, ↓La15 hL, La15 hL, ↓Ls15 hL, Ls15 hL, ↓La17 hL, La17 hL, ↓Ls17 hL, Ls17 hL, ↓La18 hL, La18 hL, ↓Ls18 hL, Ls18 hL, ↓La20 hL, La20 hL, ↓Ls20 hL, Ls20 hL, ↓La21 hL, La21 hL, ↓Ls21 hL, Ls21 hL, ↓La22 hL, La22 hL, ↓Ls22 hL, Ls22 hL, ↓La23 hL, La23 hL, ↓Ls23 hL, Ls23 hL, ↓La24 hL, La24 hL, ↓Ls24 hL, Ls24 hL, ↓La25 hL, La25 hL, ↓Ls25 hL, Ls25 hL, ↓La27 hL, La27 hL, ↓Ls27 hL, Ls27 hL, ↓La28 hL, La28 hL, ↓Ls28 hL, Ls28 hL, ↓La29 hL, La29 hL, ↓Ls29 hL, Ls29 hL, ↓La30 hL, La30 hL, ↓Ls30 hL, Ls30 hL, ↓La31 hL, La31 hL, ↓Ls31 hL, Ls31 hL, ↓La32 hL, La32 hL, ↓Ls32 hL, Ls32 hL, ↓WSo hw, ↓WSr0 hw, ↓WSr1 hw, ↓WSr2 hw, ↓WSr3 hw, ↓WSr4 hw, ↓WSg5 hw, ↓WSp5 hw, ↓WSg6 hw, ↓WSp6 hw, ↓WSr7 hw, ↓WSr8 hw, ↓WTo hw, ↓WTr0 hw, ↓WTg1 hw, ↓WTp1 hw, ↓WTg2 hw, ↓WTp2 hw, ↓WTg3 hw, ↓WTp3 hw, ↓WTr4 hw, ↓zWi, ↓zHS hL, ↓zHH hL, ↓zHW hL, ↓zHP hL, d10, zone, eq_true hx]
  have s1 := st D
  rw [HF_blk h.1] at s1
  rw [s1]
  exact act1 hw h (FT_NZ hT) _ (fun D => by
    simp only [↓zciX (c_turn1 hL hi hn h1 hu), ↓zciX (c_many hL hn (show upd2 F 8 i v 1 7 = nI ns by rw [upd2_o (by decide)]; exact h1))])
theorem a_walk (hw : WL w s) (h : At D s (F, L, V)) (hT : FT F T) {vx vy : Int32} (c3 : (-2 : Int32) ≤ vx ∧ vx ≤ (2 : Int32)) (c4 : (-2 : Int32) ≤ vy ∧ vy ≤ (2 : Int32)) {nh i : Nat} (h9 : F 9 6 = nI nh) (hn : nh ≤ 4) (hi : i < nh) : ∃ D', f_SF_walk w D s (nI i) vx vy = some (.inl (F 10 i), D') ∧ At D' s (upd2 (upd2 F 12 i vx) 13 i vy, push L F, V) ∧ ∀ q, q < s ∨ s + 634 ≤ q → D' q = D q := by
  have hL := WL4 hw
  have hx : 0 ≤ nI i ∧ nI i < F 9 6 := ⟨nI_pos' (by omega), by rw [h9]; exact nI_lt hi (by omega)⟩
  have st : ∀ D, f_SF_walk w (zblk D (s + 4) F) s (nI i) vx vy = zcv (f_SF_remember w (zblk D (s + 4) F) s) (fun D4 => zci (f_Hearers_send w D4 (s + 4 + 9) (nI i) vx vy) (fun _ D5 => zald w D5 0 (s + 4 + 10) (nI i) (fun v => some (.inl v, D5)))) := fun D => by
    unfold f_SF_walk; simp (disch := omega) only [↓zjpE, ↓zletE, ↓zciE, ↓zcvE, ↓zchkE, ↓reduceIte, zciE, zcvE, nI_1, ↓Lo0 hL, Lo0 hL, ↓Lr0_0 hL, Lr0_0 hL, ↓Lr0_1 hL, Lr0_1 hL, ↓Lr0_2 hL, Lr0_2 hL, ↓Lr0_3 hL, Lr0_3 hL, ↓Lr0_4 hL, Lr0_4 hL, ↓Lg0_5 hL, Lg0_5 hL, ↓Lp0_5 hL, Lp0_5 hL, ↓Lg0_6 hL, Lg0_6 hL, ↓Lp0_6 hL, Lp0_6 hL, ↓Lg0_7 hL, Lg0_7 hL, ↓Lp0_7 hL, Lp0_7 hL, ↓Lg0_8 hL, Lg0_8 hL, ↓Lp0_8 hL, Lp0_8 hL, ↓Lo1 hL, Lo1 hL, ↓Lr1_0 hL, Lr1_0 hL, ↓Lr1_1 hL, Lr1_1 hL, ↓Lr1_2 hL, Lr1_2 hL, ↓Lr1_3 hL, Lr1_3 hL, ↓Lr1_4 hL, Lr1_4 hL, ↓Lr1_5 hL, Lr1_5 hL, ↓Lr1_6 hL, Lr1_6 hL, ↓Lg1_7 hL, Lg1_7 hL, ↓Lp1_7 hL, Lp1_7 hL, ↓Lo9 hL, Lo9 hL, ↓Lr9_0 hL, Lr9_0 hL, ↓Lr9_1 hL, Lr9_1 hL, ↓Lr9_2 hL, Lr9_2 hL, ↓Lr9_3 hL, Lr9_3 hL, ↓Lr9_4 hL, Lr9_4 hL, ↓Lr9_5 hL, Lr9_5 hL, ↓Lg9_6 hL, Lg9_6 hL, ↓Lp9_6 hL, Lp9_6 hL, ↓Lg9_7 hL, Lg9_7 hL, ↓Lp9_7 hL, Lp9_7 hL, ↓Lo16 hL, Lo16 hL, ↓Lr16_0 hL, Lr16_0 hL, ↓Lr16_1 hL, Lr16_1 hL, ↓Lg16_2 hL, Lg16_2 hL, ↓Lp16_2 hL, Lp16_2 hL, ↓Lo19 hL, Lo19 hL, ↓Lr19_0 hL, Lr19_0 hL, ↓Lr19_1 hL, Lr19_1 hL, ↓Lr19_2 hL, Lr19_2 hL, ↓Lr19_3 hL, Lr19_3 hL, ↓Lr19_4 hL, Lr19_4 hL, ↓Lr19_5 hL, Lr19_5 hL, ↓Lg19_6 hL, Lg19_6 hL, ↓Lp19_6 hL, Lp19_6 hL, ↓Lg19_7 hL, Lg19_7 hL, ↓Lp19_7 hL, Lp19_7 hL, ↓Lo26 hL, Lo26 hL, ↓Lr26_0 hL, Lr26_0 hL, ↓Lr26_1 hL, Lr26_1 hL, ↓Lr26_2 hL, Lr26_2 hL, ↓Lr26_3 hL, Lr26_3 hL, ↓Lr26_4 hL, Lr26_4 hL, ↓Lr26_5 hL, Lr26_5 hL, ↓Lg26_6 hL, Lg26_6 hL, ↓Lp26_6 hL, Lp26_6 hL, ↓Lg26_7 hL, Lg26_7 hL, ↓Lp26_7 hL, Lp26_7 hL, ↓Lg26_8 hL, Lg26_8 hL, ↓Lp26_8 hL, Lp26_8 hL, ↓La2 hL, La2 hL, ↓Ls2 hL, Ls2 hL, ↓La3 hL, La3 hL, ↓Ls3 hL, Ls3 hL, ↓La4 hL, La4 hL, ↓Ls4 hL, Ls4 hL, ↓La5 hL, La5 hL, ↓Ls5 hL, Ls5 hL, ↓La6 hL, La6 hL, ↓Ls6 hL, Ls6 hL, ↓La7 hL, La7 hL, ↓Ls7 hL, Ls7 hL, ↓La8 hL, La8 hL, ↓Ls8 hL, Ls8 hL, ↓La10 hL, La10 hL, ↓Ls10 hL, Ls10 hL, ↓La11 hL, La11 hL, ↓Ls11 hL, Ls11 hL, ↓La12 hL, La12 hL, ↓Ls12 hL, Ls12 hL, ↓La13 hL, La13 hL, ↓Ls13 hL, Ls13 hL, ↓La14 hL, La14 hL, ↓Ls14 hL, Ls14 hL, ↓La15 hL, La15 hL, ↓Ls15 hL, Ls15 hL, ↓La17 hL, La17 hL, ↓Ls17 hL, Ls17 hL, ↓La18 hL, La18 hL, ↓Ls18 hL, Ls18 hL, ↓La20 hL, La20 hL, ↓Ls20 hL, Ls20 hL, ↓La21 hL, La21 hL, ↓Ls21 hL, Ls21 hL, ↓La22 hL, La22 hL, ↓Ls22 hL, Ls22 hL, ↓La23 hL, La23 hL, ↓Ls23 hL, Ls23 hL, ↓La24 hL, La24 hL, ↓Ls24 hL, Ls24 hL, ↓La25 hL, La25 hL, ↓Ls25 hL, Ls25 hL, ↓La27 hL, La27 hL, ↓Ls27 hL, Ls27 hL, ↓La28 hL, La28 hL, ↓Ls28 hL, Ls28 hL, ↓La29 hL, La29 hL, ↓Ls29 hL, Ls29 hL, ↓La30 hL, La30 hL, ↓Ls30 hL, Ls30 hL, ↓La31 hL, La31 hL, ↓Ls31 hL, Ls31 hL, ↓La32 hL, La32 hL, ↓Ls32 hL, Ls32 hL, ↓WSo hw, ↓WSr0 hw, ↓WSr1 hw, ↓WSr2 hw, ↓WSr3 hw, ↓WSr4 hw, ↓WSg5 hw, ↓WSp5 hw, ↓WSg6 hw, ↓WSp6 hw, ↓WSr7 hw, ↓WSr8 hw, ↓WTo hw, ↓WTr0 hw, ↓WTg1 hw, ↓WTp1 hw, ↓WTg2 hw, ↓WTp2 hw, ↓WTg3 hw, ↓WTp3 hw, ↓WTr4 hw, ↓zWi, ↓zHS hL, ↓zHH hL, ↓zHW hL, ↓zHP hL, d10, zone, eq_true c3, eq_true c4, eq_true hx]
  have s1 := st D
  rw [HF_blk h.1] at s1
  rw [s1]
  exact act1 hw h (FT_NZ hT) _ (fun D => by
    simp (disch := omega) only [↓zciX (c_send1 hL hi hn h9), ↓La10 hL (show i < 4 by omega), upd2_o])
theorem a_ticks (hw : WL w s) (h : At D s (F, L, V)) (hT : FT F T) {n : Nat} (hn : 1 ≤ n ∧ n ≤ 99) (hTn : T + 99 < 1000000) : ∃ D', f_SF_ticks w D s (nI n) = some (.inl ((itk F n 26 6 + itk F n 26 7) - (F 26 6 + F 26 7)), D') ∧ At D' s (itk F n, push L F, V) ∧ ∀ q, q < s ∨ s + 634 ≤ q → D' q = D q := by
  have hL := WL4 hw
  have hx : (1 : Int32) ≤ nI n ∧ nI n ≤ 99 := ⟨by rw [show (1 : Int32) = nI 1 from rfl]; exact nI_le hn.1 (by omega), nI_le hn.2 (by decide)⟩
  have w1 := (addT hT (n := n) (by omega) (by omega)).2
  have st : ∀ D, f_SF_ticks w (zblk D (s + 4) F) s (nI n) = zcv (f_SF_remember w (zblk D (s + 4) F) s) (fun D4 => zfld w D4 1 6 (s + 4 + 26) (fun v6 => zfld w D4 1 7 (s + 4 + 26) (fun v9 => zcv (f_Field_pass w D4 (s + 4) (nI n)) (fun D5 => zfld w D5 1 6 (s + 4 + 26) (fun v15 => zfld w D5 1 7 (s + 4 + 26) (fun v18 => some (.inl ((v15 + v18) - (v6 + v9)), D5))))))) := fun D => by
    unfold f_SF_ticks; simp (disch := omega) only [↓zjpE, ↓zletE, ↓zciE, ↓zcvE, ↓zchkE, ↓reduceIte, zciE, zcvE, nI_1, ↓Lo0 hL, Lo0 hL, ↓Lr0_0 hL, Lr0_0 hL, ↓Lr0_1 hL, Lr0_1 hL, ↓Lr0_2 hL, Lr0_2 hL, ↓Lr0_3 hL, Lr0_3 hL, ↓Lr0_4 hL, Lr0_4 hL, ↓Lg0_5 hL, Lg0_5 hL, ↓Lp0_5 hL, Lp0_5 hL, ↓Lg0_6 hL, Lg0_6 hL, ↓Lp0_6 hL, Lp0_6 hL, ↓Lg0_7 hL, Lg0_7 hL, ↓Lp0_7 hL, Lp0_7 hL, ↓Lg0_8 hL, Lg0_8 hL, ↓Lp0_8 hL, Lp0_8 hL, ↓Lo1 hL, Lo1 hL, ↓Lr1_0 hL, Lr1_0 hL, ↓Lr1_1 hL, Lr1_1 hL, ↓Lr1_2 hL, Lr1_2 hL, ↓Lr1_3 hL, Lr1_3 hL, ↓Lr1_4 hL, Lr1_4 hL, ↓Lr1_5 hL, Lr1_5 hL, ↓Lr1_6 hL, Lr1_6 hL, ↓Lg1_7 hL, Lg1_7 hL, ↓Lp1_7 hL, Lp1_7 hL, ↓Lo9 hL, Lo9 hL, ↓Lr9_0 hL, Lr9_0 hL, ↓Lr9_1 hL, Lr9_1 hL, ↓Lr9_2 hL, Lr9_2 hL, ↓Lr9_3 hL, Lr9_3 hL, ↓Lr9_4 hL, Lr9_4 hL, ↓Lr9_5 hL, Lr9_5 hL, ↓Lg9_6 hL, Lg9_6 hL, ↓Lp9_6 hL, Lp9_6 hL, ↓Lg9_7 hL, Lg9_7 hL, ↓Lp9_7 hL, Lp9_7 hL, ↓Lo16 hL, Lo16 hL, ↓Lr16_0 hL, Lr16_0 hL, ↓Lr16_1 hL, Lr16_1 hL, ↓Lg16_2 hL, Lg16_2 hL, ↓Lp16_2 hL, Lp16_2 hL, ↓Lo19 hL, Lo19 hL, ↓Lr19_0 hL, Lr19_0 hL, ↓Lr19_1 hL, Lr19_1 hL, ↓Lr19_2 hL, Lr19_2 hL, ↓Lr19_3 hL, Lr19_3 hL, ↓Lr19_4 hL, Lr19_4 hL, ↓Lr19_5 hL, Lr19_5 hL, ↓Lg19_6 hL, Lg19_6 hL, ↓Lp19_6 hL, Lp19_6 hL, ↓Lg19_7 hL, Lg19_7 hL, ↓Lp19_7 hL, Lp19_7 hL, ↓Lo26 hL, Lo26 hL, ↓Lr26_0 hL, Lr26_0 hL, ↓Lr26_1 hL, Lr26_1 hL, ↓Lr26_2 hL, Lr26_2 hL, ↓Lr26_3 hL, Lr26_3 hL, ↓Lr26_4 hL, Lr26_4 hL, ↓Lr26_5 hL, Lr26_5 hL, ↓Lg26_6 hL, Lg26_6 hL, ↓Lp26_6 hL, Lp26_6 hL, ↓Lg26_7 hL, Lg26_7 hL, ↓Lp26_7 hL, Lp26_7 hL, ↓Lg26_8 hL, Lg26_8 hL, ↓Lp26_8 hL, Lp26_8 hL, ↓La2 hL, La2 hL, ↓Ls2 hL, Ls2 hL, ↓La3 hL, La3 hL, ↓Ls3 hL, Ls3 hL, ↓La4 hL, La4 hL, ↓Ls4 hL, Ls4 hL, ↓La5 hL, La5 hL, ↓Ls5 hL, Ls5 hL, ↓La6 hL, La6 hL, ↓Ls6 hL, Ls6 hL, ↓La7 hL, La7 hL, ↓Ls7 hL, Ls7 hL, ↓La8 hL, La8 hL, ↓Ls8 hL, Ls8 hL, ↓La10 hL, La10 hL, ↓Ls10 hL, Ls10 hL, ↓La11 hL, La11 hL, ↓Ls11 hL, Ls11 hL, ↓La12 hL, La12 hL, ↓Ls12 hL, Ls12 hL, ↓La13 hL, La13 hL, ↓Ls13 hL, Ls13 hL, ↓La14 hL, La14 hL, ↓Ls14 hL, Ls14 hL, ↓La15 hL, La15 hL, ↓Ls15 hL, Ls15 hL, ↓La17 hL, La17 hL, ↓Ls17 hL, Ls17 hL, ↓La18 hL, La18 hL, ↓Ls18 hL, Ls18 hL, ↓La20 hL, La20 hL, ↓Ls20 hL, Ls20 hL, ↓La21 hL, La21 hL, ↓Ls21 hL, Ls21 hL, ↓La22 hL, La22 hL, ↓Ls22 hL, Ls22 hL, ↓La23 hL, La23 hL, ↓Ls23 hL, Ls23 hL, ↓La24 hL, La24 hL, ↓Ls24 hL, Ls24 hL, ↓La25 hL, La25 hL, ↓Ls25 hL, Ls25 hL, ↓La27 hL, La27 hL, ↓Ls27 hL, Ls27 hL, ↓La28 hL, La28 hL, ↓Ls28 hL, Ls28 hL, ↓La29 hL, La29 hL, ↓Ls29 hL, Ls29 hL, ↓La30 hL, La30 hL, ↓Ls30 hL, Ls30 hL, ↓La31 hL, La31 hL, ↓Ls31 hL, Ls31 hL, ↓La32 hL, La32 hL, ↓Ls32 hL, Ls32 hL, ↓WSo hw, ↓WSr0 hw, ↓WSr1 hw, ↓WSr2 hw, ↓WSr3 hw, ↓WSr4 hw, ↓WSg5 hw, ↓WSp5 hw, ↓WSg6 hw, ↓WSp6 hw, ↓WSr7 hw, ↓WSr8 hw, ↓WTo hw, ↓WTr0 hw, ↓WTg1 hw, ↓WTp1 hw, ↓WTg2 hw, ↓WTp2 hw, ↓WTg3 hw, ↓WTp3 hw, ↓WTr4 hw, ↓zWi, ↓zHS hL, ↓zHH hL, ↓zHW hL, ↓zHP hL, d10, zone, eq_true hx]
  have s1 := st D
  rw [HF_blk h.1] at s1
  rw [s1]
  exact act1 hw h (FT_NZ hT) _ (fun D => by
    simp only [↓zcvX (w1 w (s + 4) D hL), ↓Lg26_6 hL, ↓Lg26_7 hL])
theorem a_set0 (hw : WL w s) (h : At D s (F, L, V)) (hT : FT F T) {v : Int32} (hv : 1 ≤ v ∧ v ≤ 9) : ∃ D', f_SF_set w D s 0 v = some (.inl (F 0 7), D') ∧ At D' s (upd2 F 0 7 v, push L F, V) ∧ ∀ q, q < s ∨ s + 634 ≤ q → D' q = D q := by
  have hL := WL4 hw
  have c1 : isSet 0 v := Or.inl ⟨rfl, hv⟩
  have st : ∀ D, f_SF_set w (zblk D (s + 4) F) s 0 v = zcv (f_SF_remember w (zblk D (s + 4) F) s) (fun D4 => zci (f_Field_change w D4 (s + 4) 0 v) (fun v D5 => some (.inl v, D5))) := fun D => by
    unfold f_SF_set; simp (disch := omega) only [↓zjpE, ↓zletE, ↓zciE, ↓zcvE, ↓zchkE, ↓reduceIte, zciE, zcvE, nI_1, ↓Lo0 hL, Lo0 hL, ↓Lr0_0 hL, Lr0_0 hL, ↓Lr0_1 hL, Lr0_1 hL, ↓Lr0_2 hL, Lr0_2 hL, ↓Lr0_3 hL, Lr0_3 hL, ↓Lr0_4 hL, Lr0_4 hL, ↓Lg0_5 hL, Lg0_5 hL, ↓Lp0_5 hL, Lp0_5 hL, ↓Lg0_6 hL, Lg0_6 hL, ↓Lp0_6 hL, Lp0_6 hL, ↓Lg0_7 hL, Lg0_7 hL, ↓Lp0_7 hL, Lp0_7 hL, ↓Lg0_8 hL, Lg0_8 hL, ↓Lp0_8 hL, Lp0_8 hL, ↓Lo1 hL, Lo1 hL, ↓Lr1_0 hL, Lr1_0 hL, ↓Lr1_1 hL, Lr1_1 hL, ↓Lr1_2 hL, Lr1_2 hL, ↓Lr1_3 hL, Lr1_3 hL, ↓Lr1_4 hL, Lr1_4 hL, ↓Lr1_5 hL, Lr1_5 hL, ↓Lr1_6 hL, Lr1_6 hL, ↓Lg1_7 hL, Lg1_7 hL, ↓Lp1_7 hL, Lp1_7 hL, ↓Lo9 hL, Lo9 hL, ↓Lr9_0 hL, Lr9_0 hL, ↓Lr9_1 hL, Lr9_1 hL, ↓Lr9_2 hL, Lr9_2 hL, ↓Lr9_3 hL, Lr9_3 hL, ↓Lr9_4 hL, Lr9_4 hL, ↓Lr9_5 hL, Lr9_5 hL, ↓Lg9_6 hL, Lg9_6 hL, ↓Lp9_6 hL, Lp9_6 hL, ↓Lg9_7 hL, Lg9_7 hL, ↓Lp9_7 hL, Lp9_7 hL, ↓Lo16 hL, Lo16 hL, ↓Lr16_0 hL, Lr16_0 hL, ↓Lr16_1 hL, Lr16_1 hL, ↓Lg16_2 hL, Lg16_2 hL, ↓Lp16_2 hL, Lp16_2 hL, ↓Lo19 hL, Lo19 hL, ↓Lr19_0 hL, Lr19_0 hL, ↓Lr19_1 hL, Lr19_1 hL, ↓Lr19_2 hL, Lr19_2 hL, ↓Lr19_3 hL, Lr19_3 hL, ↓Lr19_4 hL, Lr19_4 hL, ↓Lr19_5 hL, Lr19_5 hL, ↓Lg19_6 hL, Lg19_6 hL, ↓Lp19_6 hL, Lp19_6 hL, ↓Lg19_7 hL, Lg19_7 hL, ↓Lp19_7 hL, Lp19_7 hL, ↓Lo26 hL, Lo26 hL, ↓Lr26_0 hL, Lr26_0 hL, ↓Lr26_1 hL, Lr26_1 hL, ↓Lr26_2 hL, Lr26_2 hL, ↓Lr26_3 hL, Lr26_3 hL, ↓Lr26_4 hL, Lr26_4 hL, ↓Lr26_5 hL, Lr26_5 hL, ↓Lg26_6 hL, Lg26_6 hL, ↓Lp26_6 hL, Lp26_6 hL, ↓Lg26_7 hL, Lg26_7 hL, ↓Lp26_7 hL, Lp26_7 hL, ↓Lg26_8 hL, Lg26_8 hL, ↓Lp26_8 hL, Lp26_8 hL, ↓La2 hL, La2 hL, ↓Ls2 hL, Ls2 hL, ↓La3 hL, La3 hL, ↓Ls3 hL, Ls3 hL, ↓La4 hL, La4 hL, ↓Ls4 hL, Ls4 hL, ↓La5 hL, La5 hL, ↓Ls5 hL, Ls5 hL, ↓La6 hL, La6 hL, ↓Ls6 hL, Ls6 hL, ↓La7 hL, La7 hL, ↓Ls7 hL, Ls7 hL, ↓La8 hL, La8 hL, ↓Ls8 hL, Ls8 hL, ↓La10 hL, La10 hL, ↓Ls10 hL, Ls10 hL, ↓La11 hL, La11 hL, ↓Ls11 hL, Ls11 hL, ↓La12 hL, La12 hL, ↓Ls12 hL, Ls12 hL, ↓La13 hL, La13 hL, ↓Ls13 hL, Ls13 hL, ↓La14 hL, La14 hL, ↓Ls14 hL, Ls14 hL, ↓La15 hL, La15 hL, ↓Ls15 hL, Ls15 hL, ↓La17 hL, La17 hL, ↓Ls17 hL, Ls17 hL, ↓La18 hL, La18 hL, ↓Ls18 hL, Ls18 hL, ↓La20 hL, La20 hL, ↓Ls20 hL, Ls20 hL, ↓La21 hL, La21 hL, ↓Ls21 hL, Ls21 hL, ↓La22 hL, La22 hL, ↓Ls22 hL, Ls22 hL, ↓La23 hL, La23 hL, ↓Ls23 hL, Ls23 hL, ↓La24 hL, La24 hL, ↓Ls24 hL, Ls24 hL, ↓La25 hL, La25 hL, ↓Ls25 hL, Ls25 hL, ↓La27 hL, La27 hL, ↓Ls27 hL, Ls27 hL, ↓La28 hL, La28 hL, ↓Ls28 hL, Ls28 hL, ↓La29 hL, La29 hL, ↓Ls29 hL, Ls29 hL, ↓La30 hL, La30 hL, ↓Ls30 hL, Ls30 hL, ↓La31 hL, La31 hL, ↓Ls31 hL, Ls31 hL, ↓La32 hL, La32 hL, ↓Ls32 hL, Ls32 hL, ↓WSo hw, ↓WSr0 hw, ↓WSr1 hw, ↓WSr2 hw, ↓WSr3 hw, ↓WSr4 hw, ↓WSg5 hw, ↓WSp5 hw, ↓WSg6 hw, ↓WSp6 hw, ↓WSr7 hw, ↓WSr8 hw, ↓WTo hw, ↓WTr0 hw, ↓WTg1 hw, ↓WTp1 hw, ↓WTg2 hw, ↓WTp2 hw, ↓WTg3 hw, ↓WTp3 hw, ↓WTr4 hw, ↓zWi, ↓zHS hL, ↓zHH hL, ↓zHW hL, ↓zHP hL, d10, zone, ↓zSeC, eq_true c1]
  have s1 := st D
  rw [HF_blk h.1] at s1
  rw [s1]
  exact act1 hw h (FT_NZ hT) _ (fun D => by
    simp only [↓zciX (c_chg0 hL)])
theorem a_set1 (hw : WL w s) (h : At D s (F, L, V)) (hT : FT F T) {v : Int32} (hv : 1 ≤ v ∧ v ≤ 99) : ∃ D', f_SF_set w D s 1 v = some (.inl (F 0 8), D') ∧ At D' s (upd2 F 0 8 v, push L F, V) ∧ ∀ q, q < s ∨ s + 634 ≤ q → D' q = D q := by
  have hL := WL4 hw
  have c1 : isSet 1 v := Or.inr ⟨rfl, hv⟩
  have st : ∀ D, f_SF_set w (zblk D (s + 4) F) s 1 v = zcv (f_SF_remember w (zblk D (s + 4) F) s) (fun D4 => zci (f_Field_change w D4 (s + 4) 1 v) (fun v D5 => some (.inl v, D5))) := fun D => by
    unfold f_SF_set; simp (disch := omega) only [↓zjpE, ↓zletE, ↓zciE, ↓zcvE, ↓zchkE, ↓reduceIte, zciE, zcvE, nI_1, ↓Lo0 hL, Lo0 hL, ↓Lr0_0 hL, Lr0_0 hL, ↓Lr0_1 hL, Lr0_1 hL, ↓Lr0_2 hL, Lr0_2 hL, ↓Lr0_3 hL, Lr0_3 hL, ↓Lr0_4 hL, Lr0_4 hL, ↓Lg0_5 hL, Lg0_5 hL, ↓Lp0_5 hL, Lp0_5 hL, ↓Lg0_6 hL, Lg0_6 hL, ↓Lp0_6 hL, Lp0_6 hL, ↓Lg0_7 hL, Lg0_7 hL, ↓Lp0_7 hL, Lp0_7 hL, ↓Lg0_8 hL, Lg0_8 hL, ↓Lp0_8 hL, Lp0_8 hL, ↓Lo1 hL, Lo1 hL, ↓Lr1_0 hL, Lr1_0 hL, ↓Lr1_1 hL, Lr1_1 hL, ↓Lr1_2 hL, Lr1_2 hL, ↓Lr1_3 hL, Lr1_3 hL, ↓Lr1_4 hL, Lr1_4 hL, ↓Lr1_5 hL, Lr1_5 hL, ↓Lr1_6 hL, Lr1_6 hL, ↓Lg1_7 hL, Lg1_7 hL, ↓Lp1_7 hL, Lp1_7 hL, ↓Lo9 hL, Lo9 hL, ↓Lr9_0 hL, Lr9_0 hL, ↓Lr9_1 hL, Lr9_1 hL, ↓Lr9_2 hL, Lr9_2 hL, ↓Lr9_3 hL, Lr9_3 hL, ↓Lr9_4 hL, Lr9_4 hL, ↓Lr9_5 hL, Lr9_5 hL, ↓Lg9_6 hL, Lg9_6 hL, ↓Lp9_6 hL, Lp9_6 hL, ↓Lg9_7 hL, Lg9_7 hL, ↓Lp9_7 hL, Lp9_7 hL, ↓Lo16 hL, Lo16 hL, ↓Lr16_0 hL, Lr16_0 hL, ↓Lr16_1 hL, Lr16_1 hL, ↓Lg16_2 hL, Lg16_2 hL, ↓Lp16_2 hL, Lp16_2 hL, ↓Lo19 hL, Lo19 hL, ↓Lr19_0 hL, Lr19_0 hL, ↓Lr19_1 hL, Lr19_1 hL, ↓Lr19_2 hL, Lr19_2 hL, ↓Lr19_3 hL, Lr19_3 hL, ↓Lr19_4 hL, Lr19_4 hL, ↓Lr19_5 hL, Lr19_5 hL, ↓Lg19_6 hL, Lg19_6 hL, ↓Lp19_6 hL, Lp19_6 hL, ↓Lg19_7 hL, Lg19_7 hL, ↓Lp19_7 hL, Lp19_7 hL, ↓Lo26 hL, Lo26 hL, ↓Lr26_0 hL, Lr26_0 hL, ↓Lr26_1 hL, Lr26_1 hL, ↓Lr26_2 hL, Lr26_2 hL, ↓Lr26_3 hL, Lr26_3 hL, ↓Lr26_4 hL, Lr26_4 hL, ↓Lr26_5 hL, Lr26_5 hL, ↓Lg26_6 hL, Lg26_6 hL, ↓Lp26_6 hL, Lp26_6 hL, ↓Lg26_7 hL, Lg26_7 hL, ↓Lp26_7 hL, Lp26_7 hL, ↓Lg26_8 hL, Lg26_8 hL, ↓Lp26_8 hL, Lp26_8 hL, ↓La2 hL, La2 hL, ↓Ls2 hL, Ls2 hL, ↓La3 hL, La3 hL, ↓Ls3 hL, Ls3 hL, ↓La4 hL, La4 hL, ↓Ls4 hL, Ls4 hL, ↓La5 hL, La5 hL, ↓Ls5 hL, Ls5 hL, ↓La6 hL, La6 hL, ↓Ls6 hL, Ls6 hL, ↓La7 hL, La7 hL, ↓Ls7 hL, Ls7 hL, ↓La8 hL, La8 hL, ↓Ls8 hL, Ls8 hL, ↓La10 hL, La10 hL, ↓Ls10 hL, Ls10 hL, ↓La11 hL, La11 hL, ↓Ls11 hL, Ls11 hL, ↓La12 hL, La12 hL, ↓Ls12 hL, Ls12 hL, ↓La13 hL, La13 hL, ↓Ls13 hL, Ls13 hL, ↓La14 hL, La14 hL, ↓Ls14 hL, Ls14 hL, ↓La15 hL, La15 hL, ↓Ls15 hL, Ls15 hL, ↓La17 hL, La17 hL, ↓Ls17 hL, Ls17 hL, ↓La18 hL, La18 hL, ↓Ls18 hL, Ls18 hL, ↓La20 hL, La20 hL, ↓Ls20 hL, Ls20 hL, ↓La21 hL, La21 hL, ↓Ls21 hL, Ls21 hL, ↓La22 hL, La22 hL, ↓Ls22 hL, Ls22 hL, ↓La23 hL, La23 hL, ↓Ls23 hL, Ls23 hL, ↓La24 hL, La24 hL, ↓Ls24 hL, Ls24 hL, ↓La25 hL, La25 hL, ↓Ls25 hL, Ls25 hL, ↓La27 hL, La27 hL, ↓Ls27 hL, Ls27 hL, ↓La28 hL, La28 hL, ↓Ls28 hL, Ls28 hL, ↓La29 hL, La29 hL, ↓Ls29 hL, Ls29 hL, ↓La30 hL, La30 hL, ↓Ls30 hL, Ls30 hL, ↓La31 hL, La31 hL, ↓Ls31 hL, Ls31 hL, ↓La32 hL, La32 hL, ↓Ls32 hL, Ls32 hL, ↓WSo hw, ↓WSr0 hw, ↓WSr1 hw, ↓WSr2 hw, ↓WSr3 hw, ↓WSr4 hw, ↓WSg5 hw, ↓WSp5 hw, ↓WSg6 hw, ↓WSp6 hw, ↓WSr7 hw, ↓WSr8 hw, ↓WTo hw, ↓WTr0 hw, ↓WTg1 hw, ↓WTp1 hw, ↓WTg2 hw, ↓WTp2 hw, ↓WTg3 hw, ↓WTp3 hw, ↓WTr4 hw, ↓zWi, ↓zHS hL, ↓zHH hL, ↓zHW hL, ↓zHP hL, d10, zone, ↓zSeC, eq_true c1]
  have s1 := st D
  rw [HF_blk h.1] at s1
  rw [s1]
  exact act1 hw h (FT_NZ hT) _ (fun D => by
    simp only [↓zciX (c_chg1 hL)])
theorem a_undo (hw : WL w s) {f : Fld} (h : At D s (F, L ++ [f], V)) (hf : NZ f ∧ RZ f) (hF : NZ F ∧ RZ F) : ∃ D', f_SF_undo w D s = some (.inl (nI L.length), D') ∧ At D' s (f, L, V) ∧ ∀ q, q < s ∨ s + 634 ≤ q → D' q = D q := by
  obtain ⟨a1, a2, a3, a4, ⟨p, b1, b2, b3, b4, b5⟩, a6⟩ := id h
  have hlen : (L ++ [f]).length = L.length + 1 := by rw [List.length_append]; rfl
  have b3 : D s 6 = nI (L.length + 1) := by rw [← hlen]; exact b3
  have b4 : L.length + 1 ≤ 14 := by rw [← hlen]; exact b4
  have hrow : HF D (s + 104 + 33 * ((p + L.length) % 14)) f := b5 L.length f (by rw [List.getElem?_append_right (Nat.le_refl _), Nat.sub_self]; rfl)
  have hm : (p + L.length) % 14 < 14 := Nat.mod_lt _ (by decide)
  have hc0 : 0 < nI (L.length + 1) := by rw [show (0 : Int32) = nI 0 from rfl]; exact nI_lt (by omega) (by omega)
  have e5 : zup D s 6 (nI L.length) s 5 = nI p := by rw [zup_aj (by decide)]; exact b2
  have e6 : zup D s 6 (nI L.length) s 6 = nI L.length := zup_at
  have hc := copyB (R := f) (D := zup D s 6 (nI L.length)) (WL4 hw) (WLr hw hm) (by omega) (CZ_fr (CZ_of a1 hF.1 hF.2) (fun q _ _ => zup_ne (by omega))) (HF_fr hrow (fun q _ _ => zup_ne (by omega))) hf.1 hf.2
  have h6 : zblk (zup D s 6 (nI L.length)) (s + 4) f s 6 = nI L.length := by rw [zblk_out (by omega)]; exact e6
  refine ⟨zblk (zup D s 6 (nI L.length)) (s + 4) f, ?_, ?_, fun q hq => by rw [zblk_out (by omega), zup_ne (by omega)]⟩
  · unfold f_SF_undo
    simp only [↓WSo hw, ↓WSr0 hw, ↓WSr1 hw, ↓WSr2 hw, ↓WSr3 hw, ↓WSr4 hw, ↓WSg5 hw, ↓WSp5 hw, ↓WSg6 hw, ↓WSp6 hw, ↓WSr7 hw, ↓WSr8 hw, ↓WTo hw, ↓WTr0 hw, ↓WTg1 hw, ↓WTp1 hw, ↓WTg2 hw, ↓WTp2 hw, ↓WTg3 hw, ↓WTp3 hw, ↓WTr4 hw, b3, hc0, ↓reduceIte, nI_s1, e5, e6, nI_add, rm14 (show p + L.length < 1000 by omega), ↓W4r hw hm, ↓Lo0 (WL4 hw), ↓zcvX hc, h6]
  · refine At_pres (F := F) ?_
    refine At_row (k := 0) (f := f) (r := (p + L.length) % 14) h b1 (by omega) hf hm (fun q h1 _ => zup_ne h1) (HF_fr hrow (fun q _ _ => zup_ne (by omega))) e5 e6 ?_
    intro i g hg
    have hi : i < L.length := by
      rcases Nat.lt_or_ge i L.length with h2 | h2
      · exact h2
      · rw [List.getElem?_eq_none h2] at hg; cases hg
    exact HF_fr (b5 i g (by rw [List.getElem?_append_left hi]; exact hg)) (fun q _ _ => zup_ne (by omega))
theorem x_undo (hw : WL w s) (h : At D s (F, [], V)) : f_SF_undo w D s = some (.inr "java/lang/IllegalStateException", D) := by
  obtain ⟨-, -, -, -, ⟨p, b1, b2, b3, b4, b5⟩, -⟩ := h
  have b3 : D s 6 = nI 0 := b3
  unfold f_SF_undo
  simp only [↓WSo hw, ↓WSr0 hw, ↓WSr1 hw, ↓WSr2 hw, ↓WSr3 hw, ↓WSr4 hw, ↓WSg5 hw, ↓WSp5 hw, ↓WSg6 hw, ↓WSp6 hw, ↓WSr7 hw, ↓WSr8 hw, ↓WTo hw, ↓WTr0 hw, ↓WTg1 hw, ↓WTp1 hw, ↓WTg2 hw, ↓WTp2 hw, ↓WTg3 hw, ↓WTp3 hw, ↓WTr4 hw, b3, show ((0 : Int32) < nI 0) = False from eq_false (by decide), ↓reduceIte]
theorem a_save (hw : WL w s) (h : At D s (F, L, V)) (hF : NZ F ∧ RZ F) {i : Nat} (hi : i < 2) : ∃ D', f_SF_save w D s (nI i) = some (.inl (F 0 5), D') ∧ At D' s (F, L, fun j => if j = i then some F else V j) ∧ ∀ q, q < s ∨ s + 634 ≤ q → D' q = D q := by
  obtain ⟨a1, a2, a3, a4, ⟨p, b1, b2, b3, b4, b5⟩, a6⟩ := id h
  have hx : (0 : Int32) ≤ nI i ∧ nI i ≤ 1 := ⟨nI_pos' (by omega), nI_le (show i ≤ 1 by omega) (by decide)⟩
  have hc := copyB (R := F) (WLs hw hi) (WL4 hw) (by omega) (a4 i hi) a1 hF.1 hF.2
  have ha : ∀ {β : Type} {D : zD} {v : Int32} {k : zD → Option β}, zast w D 2 (s + 633) (nI i) v k = k (zup D (s + 633) i v) := fun {β D v k} => zast_of (Wb hw) hi (by decide)
  have hq : ∀ q, q ≠ s + 633 → (q < s + 567 + 33 * i ∨ s + 567 + 33 * i + 33 ≤ q) → zup (zblk D (s + 567 + 33 * i) F) (s + 633) i 1 q = D q := fun q h1 h2 => by rw [zup_ne h1, zblk_out h2]
  have e5 : zup (zblk D (s + 567 + 33 * i) F) (s + 633) i 1 (s + 4) 5 = F 0 5 := by
    rw [hq _ (by omega) (by omega)]
    have := congrFun (a1 0 (by decide)) 5
    exact this
  refine ⟨zup (zblk D (s + 567 + 33 * i) F) (s + 633) i 1, ?_, ?_, fun q h => hq q (by omega) (by omega)⟩
  · unfold f_SF_save
    have hg : ∀ {β : Type} {D : zD} {k : Int32 → Option β}, zfld w D 3 5 (s + 4) k = k (D (s + 4) 5) := fun {β D k} => zfld_of (a := s + 4) ((WL4 hw) 0 (by decide)) rfl
    simp only [↓zjpE, ↓zletE, ↓zciE, ↓zcvE, ↓zchkE, ↓reduceIte, zciE, zcvE, nI_1, ↓WSo hw, ↓WSr0 hw, ↓WSr1 hw, ↓WSr2 hw, ↓WSr3 hw, ↓WSr4 hw, ↓WSg5 hw, ↓WSp5 hw, ↓WSg6 hw, ↓WSp6 hw, ↓WSr7 hw, ↓WSr8 hw, ↓WTo hw, ↓WTr0 hw, ↓WTg1 hw, ↓WTp1 hw, ↓WTg2 hw, ↓WTp2 hw, ↓WTg3 hw, ↓WTp3 hw, ↓WTr4 hw, ↓zWi, d10, zone, eq_true hx, ↓W4s hw hi, ↓Lo0 (WLs hw hi), ↓zcvX hc, ha, nar1, hg, e5]
  · refine ⟨HF_fr a1 (fun q _ _ => hq q (by omega) (by omega)), CZ_fr a2 (fun q _ _ => hq q (by omega) (by omega)), fun j hj => CZ_fr (a3 j hj) (fun q _ _ => hq q (by omega) (by omega)), fun j hj => ?_, ⟨p, b1, by rw [hq s (by omega) (by omega)]; exact b2, by rw [hq s (by omega) (by omega)]; exact b3, b4, fun j f hf => ?_⟩, fun j hj => ?_⟩
    · by_cases hji : j = i
      · subst hji; exact CZ_fr (CZ_of (HF_put (D := D)) hF.1 hF.2) (fun q _ _ => zup_ne (by omega))
      · exact CZ_fr (a4 j hj) (fun q _ _ => hq q (by omega) (by omega))
    · have := Nat.mod_lt (p + j) (show 0 < 14 by decide)
      exact HF_fr (b5 j f hf) (fun q _ _ => hq q (by omega) (by omega))
    · by_cases hji : j = i
      · subst hji
        exact Or.inl ⟨F, if_pos rfl, zup_at, HF_fr (HF_put (D := D)) (fun q _ _ => zup_ne (by omega))⟩
      · have hne : ∀ x : Option Fld, (if j = i then some F else x) = x := fun x => if_neg hji
        rcases a6 j hj with ⟨f, c1, c2, c3⟩ | ⟨c1, c2⟩
        · exact Or.inl ⟨f, (hne _).trans c1, by rw [zup_aj hji, zblk_out (by omega)]; exact c2, HF_fr c3 (fun q _ _ => hq q (by omega) (by omega))⟩
        · exact Or.inr ⟨(hne _).trans c1, by rw [zup_aj hji, zblk_out (by omega)]; exact c2⟩
theorem a_restore (hw : WL w s) (h : At D s (F, L, V)) (hF : NZ F ∧ RZ F) {i : Nat} (hi : i < 2) {f : Fld} (hV : V i = some f) (hf : NZ f ∧ RZ f) : ∃ D', f_SF_restore w D s (nI i) = some (.inl (f 0 5), D') ∧ At D' s (f, [], V) ∧ ∀ q, q < s ∨ s + 634 ≤ q → D' q = D q := by
  obtain ⟨a1, a2, a3, a4, ⟨p, b1, b2, b3, b4, b5⟩, a6⟩ := id h
  have hx : (0 : Int32) ≤ nI i ∧ nI i ≤ 1 := ⟨nI_pos' (by omega), nI_le (show i ≤ 1 by omega) (by decide)⟩
  obtain ⟨h1, h2⟩ : D (s + 633) i = 1 ∧ HF D (s + 567 + 33 * i) f := by
    rcases a6 i hi with ⟨g, c1, c2, c3⟩ | ⟨c1, c2⟩
    · have c1 : V i = some g := c1
      rw [hV] at c1; cases c1; exact ⟨c2, c3⟩
    · have c1 : V i = none := c1
      rw [hV] at c1; cases c1
  have hc := copyB (R := f) (WL4 hw) (WLs hw hi) (by omega) (CZ_of a1 hF.1 hF.2) h2 hf.1 hf.2
  have ha : ∀ {β : Type} {D : zD} {k : Int32 → Option β}, zald w D 2 (s + 633) (nI i) k = k (D (s + 633) i) := fun {β D k} => zald_of (Wb hw) hi (by decide)
  have e5 : zup (zup (zblk D (s + 4) f) s 5 0) s 6 0 (s + 4) 5 = f 0 5 := by
    rw [zup_ne (by omega), zup_ne (by omega)]
    have := congrFun (HF_put (D := D) (b := s + 4) (F := f) 0 (by decide)) 5
    exact this
  have fr : ∀ q, q ≠ s → zup (zup (zblk D (s + 4) f) s 5 0) s 6 0 q = zblk D (s + 4) f q := fun q hq => by rw [zup_ne hq, zup_ne hq]
  refine ⟨zup (zup (zblk D (s + 4) f) s 5 0) s 6 0, ?_, ?_, fun q hq => by rw [fr q (by omega), zblk_out (by omega)]⟩
  · unfold f_SF_restore f_SF_forgetRemembered
    have hg : ∀ {β : Type} {D : zD} {k : Int32 → Option β}, zfld w D 3 5 (s + 4) k = k (D (s + 4) 5) := fun {β D k} => zfld_of (a := s + 4) ((WL4 hw) 0 (by decide)) rfl
    simp only [↓zjpE, ↓zletE, ↓zciE, ↓zcvE, ↓zchkE, ↓reduceIte, zciE, zcvE, nI_1, ↓WSo hw, ↓WSr0 hw, ↓WSr1 hw, ↓WSr2 hw, ↓WSr3 hw, ↓WSr4 hw, ↓WSg5 hw, ↓WSp5 hw, ↓WSg6 hw, ↓WSp6 hw, ↓WSr7 hw, ↓WSr8 hw, ↓WTo hw, ↓WTr0 hw, ↓WTg1 hw, ↓WTp1 hw, ↓WTg2 hw, ↓WTp2 hw, ↓WTg3 hw, ↓WTp3 hw, ↓WTr4 hw, ↓zWi, d10, zone, eq_true hx, ha, h1, ↓W4s hw hi, ↓Lo0 (WL4 hw), ↓zcvX hc, hg, e5]
  · obtain ⟨c1, c2, c3, c4, -, c6⟩ := At_pres (F' := f) h
    refine ⟨HF_fr c1 (fun q _ _ => fr q (by omega)), CZ_fr c2 (fun q _ _ => fr q (by omega)), fun j hj => CZ_fr (c3 j hj) (fun q _ _ => fr q (by omega)), fun j hj => CZ_fr (c4 j hj) (fun q _ _ => fr q (by omega)), ⟨0, by decide, by rw [zup_aj (by decide), zup_at]; rfl, zup_at, Nat.zero_le _, fun j g hg => by cases hg⟩, fun j hj => ?_⟩
    rcases c6 j hj with ⟨g, d1, d2, d3⟩ | ⟨d1, d2⟩
    · exact Or.inl ⟨g, d1, by rw [fr _ (by omega)]; exact d2, HF_fr d3 (fun q _ _ => fr q (by omega))⟩
    · exact Or.inr ⟨d1, by rw [fr _ (by omega)]; exact d2⟩
theorem x_restore (hw : WL w s) (h : At D s (F, L, V)) {i : Nat} (hi : i < 2) (hV : V i = none) : f_SF_restore w D s (nI i) = some (.inr "java/lang/IllegalStateException", D) := by
  obtain ⟨-, -, -, -, -, a6⟩ := h
  have hx : (0 : Int32) ≤ nI i ∧ nI i ≤ 1 := ⟨nI_pos' (by omega), nI_le (show i ≤ 1 by omega) (by decide)⟩
  have h1 : D (s + 633) i = 0 := by
    rcases a6 i hi with ⟨g, c1, c2, c3⟩ | ⟨c1, c2⟩
    · have c1 : V i = some g := c1
      rw [hV] at c1; cases c1
    · exact c2
  have ha : ∀ {β : Type} {D : zD} {k : Int32 → Option β}, zald w D 2 (s + 633) (nI i) k = k (D (s + 633) i) := fun {β D k} => zald_of (Wb hw) hi (by decide)
  unfold f_SF_restore
  simp only [↓zjpE, ↓zletE, ↓zciE, ↓zcvE, ↓zchkE, ↓reduceIte, zciE, zcvE, nI_1, ↓WSo hw, ↓WSr0 hw, ↓WSr1 hw, ↓WSr2 hw, ↓WSr3 hw, ↓WSr4 hw, ↓WSg5 hw, ↓WSp5 hw, ↓WSg6 hw, ↓WSp6 hw, ↓WSr7 hw, ↓WSr8 hw, ↓WTo hw, ↓WTr0 hw, ↓WTg1 hw, ↓WTp1 hw, ↓WTg2 hw, ↓WTp2 hw, ↓WTg3 hw, ↓WTp3 hw, ↓WTr4 hw, ↓zWi, d10, zone, eq_true hx, ha, h1]
end P60
