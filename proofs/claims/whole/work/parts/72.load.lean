/-! PURE: the error position, load. -/
section P72
variable {β : Type} {w : zW} {D : zD} {s n p q o b k T : Nat} {l : Int32} {N V : Nat → Int32} {F G : Nat → Nat → Int32} {ch : Nat → Nat}
theorem txt_ex (h : vIT D s) : ∃ n ch, TX D s n ch ∧ MX D s n ch := by
  obtain ⟨n, hn, e1, e2, e3⟩ := h
  have e4 : ∀ i, i < n → (D (s + 2) i).toNatClampNeg < 256 ∧ D (s + 2) i = nI (D (s + 2) i).toNatClampNeg ∧ D (s + 635) i = nI (D (s + 2) i).toNatClampNeg := fun i hi => by
    obtain ⟨c, hc, g1, g2⟩ := e3 i hi
    rw [g1, g2, nI_clamp (by omega)]; exact ⟨hc, rfl, rfl⟩
  exact ⟨n, fun i => (D (s + 2) i).toNatClampNeg, ⟨hn, e1, fun i hi => ⟨(e4 i hi).1, (e4 i hi).2.1⟩⟩, ⟨hn, e2, fun i hi => ⟨(e4 i hi).1, (e4 i hi).2.2⟩⟩⟩
theorem feC (hw : WL w s) (hX : TX D s n ch) : (¬ (0 < n ∧ ch 0 = 85) → f_FairText_firstError w D (s + 1) = some (0, tD D s 0 (D (s + 1) 3) (D (s + 3)))) ∧ (0 < n ∧ ch 0 = 85 → f_FairText_firstError w D (s + 1) = zlp (fun (_ : Int32) (_ : Int32) (_ : zD) => none) (S_FairText_firstError_S1 w (s + 1)) zfuel 1 0 (tD D s 1 (D (s + 1) 3) (D (s + 3)))) := by
  have tin : zup D (s + 1) 2 (0 : Int32) = tD D s 0 (D (s + 1) 3) (D (s + 3)) := tD_in (p := 0)
  have i1 : f_FairText_isNext w (tD D s 0 (D (s + 1) 3) (D (s + 3))) (s + 1) (85 : Int32) = some (if 0 < n ∧ ch 0 = 85 then 1 else 0, tD D s 0 (D (s + 1) 3) (D (s + 3))) := c_isNext (x := 85) hw hX (by decide) (by decide)
  have t1 : zup (tD D s 0 (D (s + 1) 3) (D (s + 3))) (s + 1) 2 (1 : Int32) = tD D s 1 (D (s + 1) 3) (D (s + 3)) := tD_w2 (q := 1)
  constructor
  · intro h
    rw [if_neg h] at i1
    rw [u_FairText_firstError]
    simp only [↓zjpE, ↓zletE, ↓zciE, ↓zcvE, ↓zchkE, ↓reduceIte, zciE, zcvE, nI_1, ↓WSo hw, ↓WSr0 hw, ↓WSr1 hw, ↓WSr2 hw, ↓WSr3 hw, ↓WSr4 hw, ↓WSg5 hw, ↓WSp5 hw, ↓WSg6 hw, ↓WSp6 hw, ↓WSr7 hw, ↓WSr8 hw, ↓WTo hw, ↓WTr0 hw, ↓WTg1 hw, ↓WTp1 hw, ↓WTg2 hw, ↓WTp2 hw, ↓WTg3 hw, ↓WTp3 hw, ↓WTr4 hw, ↓WMo hw, ↓WMg0 hw, ↓WMp0 hw, ↓WMr1 hw, ↓WMg2 hw, ↓WMp2 hw, ↓WMr3 hw, ↓WMr4 hw, ↓WMr5 hw, ↓WMg6 hw, ↓WMp6 hw, ↓WMr7 hw, ↓WMr8 hw, ↓WMg9 hw, ↓WMp9 hw, ↓WMg10 hw, ↓WMp10 hw, tin, ↓zciX i1, tD_2]
    rfl
  · intro h
    rw [if_pos h] at i1
    rw [u_FairText_firstError]
    unfold f_FairText_toFirstCommand
    simp only [↓zjpE, ↓zletE, ↓zciE, ↓zcvE, ↓zchkE, ↓reduceIte, zciE, zcvE, nI_1, ↓WSo hw, ↓WSr0 hw, ↓WSr1 hw, ↓WSr2 hw, ↓WSr3 hw, ↓WSr4 hw, ↓WSg5 hw, ↓WSp5 hw, ↓WSg6 hw, ↓WSp6 hw, ↓WSr7 hw, ↓WSr8 hw, ↓WTo hw, ↓WTr0 hw, ↓WTg1 hw, ↓WTp1 hw, ↓WTg2 hw, ↓WTp2 hw, ↓WTg3 hw, ↓WTp3 hw, ↓WTr4 hw, ↓WMo hw, ↓WMg0 hw, ↓WMp0 hw, ↓WMr1 hw, ↓WMg2 hw, ↓WMp2 hw, ↓WMr3 hw, ↓WMr4 hw, ↓WMr5 hw, ↓WMg6 hw, ↓WMp6 hw, ↓WMr7 hw, ↓WMr8 hw, ↓WMg9 hw, ↓WMp9 hw, ↓WMg10 hw, ↓WMp10 hw, tin, ↓zciX i1, d10, t1]
theorem rtM (hw : WL w s) (hM : MX D s n ch) : (¬ (0 < n ∧ ch 0 = 85) → f_MD_readText w D (s + 634) (s + 637) = some (0, mD D s 0 0 (cl2 (D (s + 637)) 16))) ∧ (0 < n ∧ ch 0 = 85 → f_MD_readText w D (s + 634) (s + 637) = zlp (fun (_ : zD) => none) (S_MD_readText_S1 w (s + 634) (s + 637)) zfuel (mD D s 1 0 (cl2 (D (s + 637)) 16))) := by
  have hcl := m_clear (D := D) (Wt hw)
  have min : zup (zup (zset D (s + 637) (cl2 (D (s + 637)) 16)) (s + 634) 10 (0 : Int32)) (s + 634) 9 (0 : Int32) = mD D s 0 0 (cl2 (D (s + 637)) 16) := mD_in (o := 0) (q := 0)
  have t1 : zup (mD D s 0 0 (cl2 (D (s + 637)) 16)) (s + 634) 9 (1 : Int32) = mD D s 1 0 (cl2 (D (s + 637)) 16) := mD_w9 (q' := 1)
  obtain ⟨hn, e1, e2⟩ := hM
  have hz : (nI n = 0) = (n = 0) := propext (nI_eq (b := 0) (by omega) (by decide))
  have k0 : ∀ {D : zD} {κ : Int32 → Option (Int32 × zD)}, zald w D 0 (s + 635) (0 : Int32) κ = κ (D (s + 635) 0) := zald_of (i := 0) (Wx hw) (by decide) (by decide)
  constructor
  · intro h
    rw [u_MD_readText]
    by_cases h0 : n = 0
    · simp only [↓zjpE, ↓zletE, ↓zciE, ↓zcvE, ↓zchkE, ↓reduceIte, zciE, zcvE, nI_1, ↓WSo hw, ↓WSr0 hw, ↓WSr1 hw, ↓WSr2 hw, ↓WSr3 hw, ↓WSr4 hw, ↓WSg5 hw, ↓WSp5 hw, ↓WSg6 hw, ↓WSp6 hw, ↓WSr7 hw, ↓WSr8 hw, ↓WTo hw, ↓WTr0 hw, ↓WTg1 hw, ↓WTp1 hw, ↓WTg2 hw, ↓WTp2 hw, ↓WTg3 hw, ↓WTp3 hw, ↓WTr4 hw, ↓WMo hw, ↓WMg0 hw, ↓WMp0 hw, ↓WMr1 hw, ↓WMg2 hw, ↓WMp2 hw, ↓WMr3 hw, ↓WMr4 hw, ↓WMr5 hw, ↓WMg6 hw, ↓WMp6 hw, ↓WMr7 hw, ↓WMr8 hw, ↓WMg9 hw, ↓WMp9 hw, ↓WMg10 hw, ↓WMp10 hw, ↓zcvX hcl, min, mD_2, e1, hz, eq_true h0]
    · have h256 := (e2 0 (by omega)).1
      have hc : ¬ nI (ch 0) = 85 := fun h9 => h ⟨by omega, (nI_eq (b := 85) (by omega) (by decide)).1 h9⟩
      simp only [↓zjpE, ↓zletE, ↓zciE, ↓zcvE, ↓zchkE, ↓reduceIte, zciE, zcvE, nI_1, ↓WSo hw, ↓WSr0 hw, ↓WSr1 hw, ↓WSr2 hw, ↓WSr3 hw, ↓WSr4 hw, ↓WSg5 hw, ↓WSp5 hw, ↓WSg6 hw, ↓WSp6 hw, ↓WSr7 hw, ↓WSr8 hw, ↓WTo hw, ↓WTr0 hw, ↓WTg1 hw, ↓WTp1 hw, ↓WTg2 hw, ↓WTp2 hw, ↓WTg3 hw, ↓WTp3 hw, ↓WTr4 hw, ↓WMo hw, ↓WMg0 hw, ↓WMp0 hw, ↓WMr1 hw, ↓WMg2 hw, ↓WMp2 hw, ↓WMr3 hw, ↓WMr4 hw, ↓WMr5 hw, ↓WMg6 hw, ↓WMp6 hw, ↓WMr7 hw, ↓WMr8 hw, ↓WMg9 hw, ↓WMp9 hw, ↓WMg10 hw, ↓WMp10 hw, ↓zcvX hcl, min, mD_2, e1, hz, h0, k0, mD_x, (e2 0 (by omega)).2, hc]
  · intro h
    have h0 : ¬ n = 0 := by omega
    have hc : nI (ch 0) = 85 := by rw [h.2]; rfl
    rw [u_MD_readText]
    simp only [↓zjpE, ↓zletE, ↓zciE, ↓zcvE, ↓zchkE, ↓reduceIte, zciE, zcvE, nI_1, ↓WSo hw, ↓WSr0 hw, ↓WSr1 hw, ↓WSr2 hw, ↓WSr3 hw, ↓WSr4 hw, ↓WSg5 hw, ↓WSp5 hw, ↓WSg6 hw, ↓WSp6 hw, ↓WSr7 hw, ↓WSr8 hw, ↓WTo hw, ↓WTr0 hw, ↓WTg1 hw, ↓WTp1 hw, ↓WTg2 hw, ↓WTp2 hw, ↓WTg3 hw, ↓WTp3 hw, ↓WTr4 hw, ↓WMo hw, ↓WMg0 hw, ↓WMp0 hw, ↓WMr1 hw, ↓WMg2 hw, ↓WMp2 hw, ↓WMr3 hw, ↓WMr4 hw, ↓WMr5 hw, ↓WMg6 hw, ↓WMp6 hw, ↓WMr7 hw, ↓WMr8 hw, ↓WMg9 hw, ↓WMp9 hw, ↓WMg10 hw, ↓WMp10 hw, ↓zcvX hcl, min, mD_2, e1, hz, h0, k0, mD_x, (e2 0 h.1).2, hc, t1]
theorem text (hw : WL w s) (hI : Inv D s T) : ∃ n ch, TX D s n ch ∧ MX D s n ch ∧ n ≤ 120 ∧ ∀ F0, (∀ o j, Cp o j → F0 o j = D (s + 37 + o) j) → (∀ j, j < 4 → F0 15 j = 0) →
    (∃ e l' N', e ≤ 120 ∧ f_FairText_firstError w D (s + 1) = some (nI e, tD D s e l' N') ∧ ∀ D', MX D' s n ch → D' (s + 637) = D (s + 637) → ∃ o' V, f_MD_readText w D' (s + 634) (s + 637) = some (nI e, mD D' s e o' V)) ∨
    (∃ F' G' u l' N', RP F' G' 12000 ∧ u ≤ 120 ∧ f_FairText_firstError w D (s + 1) = some (-1, tD D s n l' N') ∧ (∀ D', MX D' s n ch → D' (s + 637) = D (s + 637) → f_MD_readText w D' (s + 634) (s + 637) = some (-1, mD D' s n u (vec G'))) ∧ ∀ D' l N, TX D' s n ch → ∃ l' N', zlp (fun (_ : Int32) (_ : Int32) (_ : zD) => none) (S_SF_load_S2 w s) zfuel 0 0 (tD (zblk D' (s + 4) F0) s 1 l N) = some (.inl (nI u), tD (zblk D' (s + 4) F') s n l' N')) := by
  obtain ⟨n, ch, hX, hM⟩ := txt_ex hI.2.2.2.1
  refine ⟨n, ch, hX, hM, hX.1, fun F0 hF0 hz => ?_⟩
  by_cases hU : 0 < n ∧ ch 0 = 85
  · have hR0 : RP F0 (dev (cl2 (D (s + 637)) 16)) 0 := RP_clr hI.2.1 hF0 hz
    rcases parse (ch := ch) hw hX.1 119 1 0 0 F0 (dev (cl2 (D (s + 637)) 16)) 0 (by have := hX.1; omega) (Nat.le_refl _) hU.1 (by decide) hR0 (by decide) with ⟨e, he, p1, p2⟩ | ⟨F', G', u, hR', hu, p1, p2, p3⟩
    · obtain ⟨l', N', e1⟩ := p1 D (D (s + 1) 3) (D (s + 3)) zfuel hX (by unfold zfuel; omega)
      refine Or.inl ⟨e, l', N', by have := hX.1; omega, ((feC hw hX).2 hU).trans e1, fun D' hM' ht => ?_⟩
      obtain ⟨o', V, e2⟩ := p2 D' zfuel hM' (by unfold zfuel; omega)
      rw [vec_dev] at e2
      refine ⟨o', V, ?_⟩
      rw [(rtM hw hM').2 hU, ht]
      exact e2
    · obtain ⟨l', N', e1⟩ := p1 D (D (s + 1) 3) (D (s + 3)) zfuel hX (by unfold zfuel; omega)
      refine Or.inr ⟨F', G', u, l', N', RP_le hR' (by decide), by omega, ((feC hw hX).2 hU).trans e1, fun D' hM' ht => ?_, fun D' l N hX' => ?_⟩
      · have e2 := p2 D' zfuel hM' (by unfold zfuel; omega)
        rw [vec_dev, Nat.zero_add] at e2
        rw [(rtM hw hM').2 hU, ht]
        exact e2
      · obtain ⟨l2, N2, e3⟩ := p3 D' l N zfuel 0 hX' (by unfold zfuel; omega)
        rw [Nat.zero_add] at e3
        exact ⟨l2, N2, e3⟩
  · refine Or.inl ⟨0, D (s + 1) 3, D (s + 3), by decide, (feC hw hX).1 hU, fun D' hM' ht => ⟨0, cl2 (D' (s + 637)) 16, (rtM hw hM').1 hU⟩⟩
theorem mD_j {j : Nat} (h9 : j ≠ 9) (h10 : j ≠ 10) : mD D s q o V (s + 634) j = D (s + 634) j := by unfold mD; rw [zset_ne (by omega), zup_aj h10, zup_aj h9]
theorem tD_j {j : Nat} (h2 : j ≠ 2) (h3 : j ≠ 3) : tD D s p l N (s + 1) j = D (s + 1) j := by unfold tD; rw [zset_ne (by omega), zup_aj h3, zup_aj h2]
/-- a reading leaves all as it was, but the readers' own -/
theorem Inv_read (hI : Inv D s T) {e : Int32} : Inv (mD (zup (tD D s p l N) (s + 634) 0 e) s q o V) s T := by
  refine Inv_free hI (fun r h1 h2 h3 h4 h5 h6 h7 => ?_) ?_ ?_ (fun j hj => ?_) ?_
  · rw [mD_o h3 h4, zup_ne h3, tD_o h6 h7]
  · rw [mD_2, zup_aj (by decide), tD_o (by omega) (by omega)]
  · rw [mD_j (by decide) (by decide), zup_aj (by decide), tD_o (by omega) (by omega)]
  · rw [mD_o (by omega) (by omega), zup_ne (by omega), tD_o (by omega) (by omega)]; exact hI.2.2.1.1 j hj
  · rw [mD_o (by omega) (by omega), zup_ne (by omega), tD_1]
theorem k_errorPosition (hw : WL w s) (hI : Inv D s T) : Cl0 D s (T + 99) (fun D => f_SF_errorPosition w D s) (fun D => f_MD_errorPosition w D (s + 634)) := by
  obtain ⟨n, ch, hX, hM, hn, H⟩ := text hw hI
  have main : ∀ (v : Int32) (e n' : Nat) (l' : Int32) N', f_FairText_firstError w D (s + 1) = some (v, tD D s e l' N') → (∃ o' V, f_MD_readText w (zup (tD D s e l' N') (s + 634) 0 0) (s + 634) (s + 637) = some (v, mD (zup (tD D s e l' N') (s + 634) 0 0) s n' o' V)) → Cl0 D s (T + 99) (fun D => f_SF_errorPosition w D s) (fun D => f_MD_errorPosition w D (s + 634)) := by
    intro v e n' l' N' h1 h2
    obtain ⟨o', V, h2⟩ := h2
    refine ⟨v, tD D s e l' N', mD (zup (tD D s e l' N') (s + 634) 0 0) s n' o' V, ?_, ?_, Inv_mo (Inv_read hI) (by omega), fun r hr => ?_⟩
    · show f_SF_errorPosition w D s = _
      unfold f_SF_errorPosition
      simp only [↓zjpE, ↓zletE, ↓zciE, ↓zcvE, ↓zchkE, ↓reduceIte, zciE, zcvE, nI_1, ↓WSo hw, ↓WSr0 hw, ↓WSr1 hw, ↓WSr2 hw, ↓WSr3 hw, ↓WSr4 hw, ↓WSg5 hw, ↓WSp5 hw, ↓WSg6 hw, ↓WSp6 hw, ↓WSr7 hw, ↓WSr8 hw, ↓WTo hw, ↓WTr0 hw, ↓WTg1 hw, ↓WTp1 hw, ↓WTg2 hw, ↓WTp2 hw, ↓WTg3 hw, ↓WTp3 hw, ↓WTr4 hw, ↓WMo hw, ↓WMg0 hw, ↓WMp0 hw, ↓WMr1 hw, ↓WMg2 hw, ↓WMp2 hw, ↓WMr3 hw, ↓WMr4 hw, ↓WMr5 hw, ↓WMg6 hw, ↓WMp6 hw, ↓WMr7 hw, ↓WMr8 hw, ↓WMg9 hw, ↓WMp9 hw, ↓WMg10 hw, ↓WMp10 hw, ↓zciX h1]
    · show f_MD_errorPosition w _ (s + 634) = _
      unfold f_MD_errorPosition
      simp only [↓zjpE, ↓zletE, ↓zciE, ↓zcvE, ↓zchkE, ↓reduceIte, zciE, zcvE, nI_1, ↓WSo hw, ↓WSr0 hw, ↓WSr1 hw, ↓WSr2 hw, ↓WSr3 hw, ↓WSr4 hw, ↓WSg5 hw, ↓WSp5 hw, ↓WSg6 hw, ↓WSp6 hw, ↓WSr7 hw, ↓WSr8 hw, ↓WTo hw, ↓WTr0 hw, ↓WTg1 hw, ↓WTp1 hw, ↓WTg2 hw, ↓WTp2 hw, ↓WTg3 hw, ↓WTp3 hw, ↓WTr4 hw, ↓WMo hw, ↓WMg0 hw, ↓WMp0 hw, ↓WMr1 hw, ↓WMg2 hw, ↓WMp2 hw, ↓WMr3 hw, ↓WMr4 hw, ↓WMr5 hw, ↓WMg6 hw, ↓WMp6 hw, ↓WMr7 hw, ↓WMr8 hw, ↓WMg9 hw, ↓WMp9 hw, ↓WMg10 hw, ↓WMp10 hw, ↓zciX h2]
    · rw [mD_o (by omega) (by omega), zup_ne (by omega), tD_o (by omega) (by omega)]
  have hMX : ∀ e l' N', MX (zup (tD D s e l' N') (s + 634) 0 0) s n ch := fun e l' N' => MX_c hM (by rw [zup_aj (by decide), tD_o (by omega) (by omega)]) (by rw [zup_ne (by omega), tD_o (by omega) (by omega)])
  have ht : ∀ e l' N', zup (tD D s e l' N') (s + 634) 0 0 (s + 637) = D (s + 637) := fun e l' N' => by rw [zup_ne (by omega), tD_o (by omega) (by omega)]
  rcases H (blk D (s + 37)) (fun o j _ => rfl) (fun j hj => RP_Z hI.2.1 j hj) with ⟨e, l', N', he, h1, h2⟩ | ⟨F', G', u, l', N', hR, hu, h1, h2, h3⟩
  · exact main _ e e l' N' h1 (h2 _ (hMX _ _ _) (ht _ _ _))
  · exact main _ n n l' N' h1 ⟨u, _, h2 _ (hMX _ _ _) (ht _ _ _)⟩
theorem k_load (hw : WL w s) (hI : Inv D s T) (hT : 12000 ≤ T) : Cl D s (T + 99) (fun D => f_SF_load w D s) (fun D => f_MD_load w D (s + 634)) (A1 "java/lang/IllegalStateException") := by
  have hI0 := hI
  obtain ⟨n, ch, hX, hM, hn, H⟩ := text hw hI
  obtain ⟨iP, iB, iZ, iT, iR, iS⟩ := hI
  have hLB := hw.2.1.2.1
  obtain ⟨F0, hc0, hF0, h150⟩ := copyF (D := D) (F := blk D (s + 4)) (WL4 hw) hLB (by omega)
  rcases H F0 hF0 (fun j hj => by rw [h150]; exact RP_Z iP j hj) with ⟨e, l', N', he, h1, h2⟩ | ⟨F', G', u, l', N', hR, hu, h1, h2, h3⟩
  · obtain ⟨o', V, h2⟩ := h2 (tD D s e l' N') (MX_c hM (by rw [tD_o (by omega) (by omega)]) (by rw [tD_o (by omega) (by omega)])) (by rw [tD_o (by omega) (by omega)])
    have hm1 : ¬ nI e = -1 := nI_ne_m1 (by omega)
    have hcomm : zup (mD (tD D s e l' N') s e o' V) (s + 634) 0 1 = mD (zup (tD D s e l' N') (s + 634) 0 1) s e o' V := by
      funext r j
      by_cases h : r = s + 634
      · subst h
        by_cases h0 : j = 0
        · subst h0; rw [zup_at, mD_j (by decide) (by decide), zup_at]
        · rw [zup_aj h0]
          by_cases h9 : j = 9
          · subst h9; rw [mD_9, mD_9]
          · by_cases h10 : j = 10
            · subst h10; rw [mD_10, mD_10]
            · rw [mD_j h9 h10, mD_j h9 h10, zup_aj h0]
      · rw [zup_ne h]
        by_cases h7 : r = s + 637
        · subst h7; rw [mD_t, mD_t]
        · rw [mD_o h h7, mD_o h h7, zup_ne h]
    refine ⟨.inr "java/lang/IllegalStateException", tD D s e l' N', 0, mD (zup (tD D s e l' N') (s + 634) 0 1) s e o' V, ?_, ?_, Inv_mo (Inv_read hI0) (by omega), Or.inr ⟨rfl, ?_⟩, fun r hr => ?_, fun r hr => tD_o (by omega) (by omega)⟩
    · show f_SF_load w D s = _
      rw [u_SF_load]
      simp only [↓zjpE, ↓zletE, ↓zciE, ↓zcvE, ↓zchkE, ↓reduceIte, zciE, zcvE, nI_1, ↓WSo hw, ↓WSr0 hw, ↓WSr1 hw, ↓WSr2 hw, ↓WSr3 hw, ↓WSr4 hw, ↓WSg5 hw, ↓WSp5 hw, ↓WSg6 hw, ↓WSp6 hw, ↓WSr7 hw, ↓WSr8 hw, ↓WTo hw, ↓WTr0 hw, ↓WTg1 hw, ↓WTp1 hw, ↓WTg2 hw, ↓WTp2 hw, ↓WTg3 hw, ↓WTp3 hw, ↓WTr4 hw, ↓WMo hw, ↓WMg0 hw, ↓WMp0 hw, ↓WMr1 hw, ↓WMg2 hw, ↓WMp2 hw, ↓WMr3 hw, ↓WMr4 hw, ↓WMr5 hw, ↓WMg6 hw, ↓WMp6 hw, ↓WMr7 hw, ↓WMr8 hw, ↓WMg9 hw, ↓WMp9 hw, ↓WMg10 hw, ↓WMp10 hw, ↓zciX h1, hm1]
    · show f_MD_load w _ (s + 634) = _
      unfold f_MD_load
      simp only [↓zjpE, ↓zletE, ↓zciE, ↓zcvE, ↓zchkE, ↓reduceIte, zciE, zcvE, nI_1, ↓WSo hw, ↓WSr0 hw, ↓WSr1 hw, ↓WSr2 hw, ↓WSr3 hw, ↓WSr4 hw, ↓WSg5 hw, ↓WSp5 hw, ↓WSg6 hw, ↓WSp6 hw, ↓WSr7 hw, ↓WSr8 hw, ↓WTo hw, ↓WTr0 hw, ↓WTg1 hw, ↓WTp1 hw, ↓WTg2 hw, ↓WTp2 hw, ↓WTg3 hw, ↓WTp3 hw, ↓WTr4 hw, ↓WMo hw, ↓WMg0 hw, ↓WMp0 hw, ↓WMr1 hw, ↓WMg2 hw, ↓WMp2 hw, ↓WMr3 hw, ↓WMr4 hw, ↓WMr5 hw, ↓WMg6 hw, ↓WMp6 hw, ↓WMr7 hw, ↓WMr8 hw, ↓WMg9 hw, ↓WMp9 hw, ↓WMg10 hw, ↓WMp10 hw, ↓zciX h2, hm1, ↓zR1 hw, d10, hcomm]
    · rw [mD_j (by decide) (by decide), zup_at]
    · rw [mD_o (by omega) (by omega), zup_ne (by omega), tD_o (by omega) (by omega)]
  · -- the class behind the checks
    have e4 : ∀ r, r ≠ s + 1 → r ≠ s + 3 → tD D s n l' N' r = D r := fun r a1 a2 => tD_o a1 a2
    have hD3 : zblk (tD D s n l' N') (s + 4) (blk D (s + 4)) = tD D s n l' N' := zblk_same (fun o ho => by rw [e4 _ (by omega) (by omega)])
    obtain ⟨F0', hc, hF, h15⟩ := copyF (D := tD D s n l' N') (F := blk D (s + 4)) (WL4 hw) hLB (by omega)
    rw [hD3] at hc
    have hFF : zblk (tD D s n l' N') (s + 4) F0' = zblk (tD D s n l' N') (s + 4) F0 := by
      have h9 : f_Field_copyFrom w (zblk D (s + 4) (blk D (s + 4))) (s + 4) (s + 37) = some (zblk D (s + 4) F0) := hc0
      have hX0 := copyF0 (D := tD D s n l' N') (F := blk D (s + 4)) (WL4 hw) hLB (by omega)
      have hX1 := copyF0 (D := D) (F := blk D (s + 4)) (WL4 hw) hLB (by omega)
      have hY : ∀ o, o < 33 → tD D s n l' N' (s + 37 + o) = D (s + 37 + o) := fun o ho => e4 _ (by omega) (by omega)
      have hY0 : tD D s n l' N' (s + 37) = D (s + 37) := hY 0 (by decide)
      rw [hD3, hc] at hX0
      rw [h9] at hX1
      have a0 := Option.some.inj hX0
      have a1 := Option.some.inj hX1
      simp only [hY0, hY 1 (by decide), hY 2 (by decide), hY 3 (by decide), hY 4 (by decide), hY 5 (by decide), hY 6 (by decide), hY 7 (by decide), hY 8 (by decide), hY 9 (by decide), hY 10 (by decide), hY 11 (by decide), hY 12 (by decide), hY 13 (by decide), hY 14 (by decide), hY 16 (by decide), hY 17 (by decide), hY 18 (by decide), hY 19 (by decide), hY 20 (by decide), hY 21 (by decide), hY 22 (by decide), hY 23 (by decide), hY 24 (by decide), hY 25 (by decide), hY 26 (by decide), hY 27 (by decide), hY 28 (by decide), hY 29 (by decide), hY 30 (by decide), hY 31 (by decide), hY 32 (by decide)] at a0
      rw [a0]
      funext r
      by_cases hr : s + 4 ≤ r ∧ r < s + 37
      · have := congrFun a1 r
        unfold zblk at this ⊢
        rw [if_pos hr, if_pos hr] at this ⊢
        exact this.symm
      · rw [zblk_out (by omega), zblk_out (by omega)]
    rw [hFF] at hc
    generalize hDB : zup (zup (zup (zup (zblk (tD D s n l' N') (s + 4) F0) s 5 0) s 6 0) (s + 633) 0 0) (s + 633) 1 0 = DB
    have fB : ∀ r, r ≠ s → r ≠ s + 1 → r ≠ s + 3 → ¬ (s + 4 ≤ r ∧ r < s + 37) → r ≠ s + 633 → DB r = D r := fun r a1 a2 a3 a4 a5 => by
      rw [← hDB, zup_ne a5, zup_ne a5, zup_ne a1, zup_ne a1, zblk_out (by omega), e4 _ a2 a3]
    have fP : ∀ o, o < 33 → DB (s + 4 + o) = F0 o := fun o ho => by
      rw [← hDB, zup_ne (by omega), zup_ne (by omega), zup_ne (by omega), zup_ne (by omega), zblk_at ho]
    have fX : TX DB s n ch := TX_c hX (by rw [← hDB, zup_ne (by omega), zup_ne (by omega), zup_ne (by omega), zup_ne (by omega), zblk_out (by omega), tD_1]) (fB _ (by omega) (by omega) (by omega) (by omega) (by omega))
    have tB : zup DB (s + 1) 2 (1 : Int32) = tD DB s 1 (DB (s + 1) 3) (DB (s + 3)) := tD_in (p := 1)
    obtain ⟨l2, N2, e5⟩ := h3 DB (DB (s + 1) 3) (DB (s + 3)) fX
    rw [zblk_same (D := DB) (F := F0) fP] at e5
    generalize hD1 : tD (zblk DB (s + 4) F') s n l2 N2 = D1
    rw [hD1] at e5
    have f1 : ∀ r, r ≠ s → r ≠ s + 1 → r ≠ s + 3 → ¬ (s + 4 ≤ r ∧ r < s + 37) → r ≠ s + 633 → D1 r = D r := fun r a1 a2 a3 a4 a5 => by
      rw [← hD1, tD_o a2 a3, zblk_out (by omega), fB _ a1 a2 a3 a4 a5]
    have hb0 : ∀ {D : zD} {v : Int32} {κ : zD → Option ((Int32 ⊕ String) × zD)}, zast w D 2 (s + 633) (0 : Int32) v κ = κ (zup D (s + 633) 0 v) := zast_of (i := 0) (Wb hw) (by decide) (by decide)
    have hb1 : ∀ {D : zD} {v : Int32} {κ : zD → Option ((Int32 ⊕ String) × zD)}, zast w D 2 (s + 633) (1 : Int32) v κ = κ (zup D (s + 633) 1 v) := zast_of (i := 1) (Wb hw) (by decide) (by decide)
    have hb0' : ∀ {D : zD} {v : Int32} {κ : zD → Option (Int32 × zD)}, zast w D 2 (s + 640) (0 : Int32) v κ = κ (zup D (s + 640) 0 v) := zast_of (i := 0) (Wb' hw) (by decide) (by decide)
    have hb1' : ∀ {D : zD} {v : Int32} {κ : zD → Option (Int32 × zD)}, zast w D 2 (s + 640) (1 : Int32) v κ = κ (zup D (s + 640) 1 v) := zast_of (i := 1) (Wb' hw) (by decide) (by decide)
    have hcls : f_SF_load w D s = some (.inl (nI u), D1) := by
      have L0 : ∀ j, S_SF_load_S1 w s j 0 (zup (zup (zblk (tD D s n l' N') (s + 4) F0) s 5 0) s 6 0) = j 1 (zup (zup (zup (zblk (tD D s n l' N') (s + 4) F0) s 5 0) s 6 0) (s + 633) 0 0) := fun j => by
        unfold S_SF_load_S1
        simp only [↓zjpE, ↓zletE, ↓zciE, ↓zcvE, ↓zchkE, ↓reduceIte, zciE, zcvE, nI_1, ↓WSo hw, ↓WSr0 hw, ↓WSr1 hw, ↓WSr2 hw, ↓WSr3 hw, ↓WSr4 hw, ↓WSg5 hw, ↓WSp5 hw, ↓WSg6 hw, ↓WSp6 hw, ↓WSr7 hw, ↓WSr8 hw, ↓WTo hw, ↓WTr0 hw, ↓WTg1 hw, ↓WTp1 hw, ↓WTg2 hw, ↓WTp2 hw, ↓WTg3 hw, ↓WTp3 hw, ↓WTr4 hw, ↓WMo hw, ↓WMg0 hw, ↓WMp0 hw, ↓WMr1 hw, ↓WMg2 hw, ↓WMp2 hw, ↓WMr3 hw, ↓WMr4 hw, ↓WMr5 hw, ↓WMg6 hw, ↓WMp6 hw, ↓WMr7 hw, ↓WMr8 hw, ↓WMg9 hw, ↓WMp9 hw, ↓WMg10 hw, ↓WMp10 hw, show ((2 : Int32) ≤ 0) = False from eq_false (by decide), hb0, nar0]
        rfl
      have L1 : ∀ j, S_SF_load_S1 w s j 1 (zup (zup (zup (zblk (tD D s n l' N') (s + 4) F0) s 5 0) s 6 0) (s + 633) 0 0) = j 2 DB := fun j => by
        unfold S_SF_load_S1
        simp only [↓zjpE, ↓zletE, ↓zciE, ↓zcvE, ↓zchkE, ↓reduceIte, zciE, zcvE, nI_1, ↓WSo hw, ↓WSr0 hw, ↓WSr1 hw, ↓WSr2 hw, ↓WSr3 hw, ↓WSr4 hw, ↓WSg5 hw, ↓WSp5 hw, ↓WSg6 hw, ↓WSp6 hw, ↓WSr7 hw, ↓WSr8 hw, ↓WTo hw, ↓WTr0 hw, ↓WTg1 hw, ↓WTp1 hw, ↓WTg2 hw, ↓WTp2 hw, ↓WTg3 hw, ↓WTp3 hw, ↓WTr4 hw, ↓WMo hw, ↓WMg0 hw, ↓WMp0 hw, ↓WMr1 hw, ↓WMg2 hw, ↓WMp2 hw, ↓WMr3 hw, ↓WMr4 hw, ↓WMr5 hw, ↓WMg6 hw, ↓WMp6 hw, ↓WMr7 hw, ↓WMr8 hw, ↓WMg9 hw, ↓WMp9 hw, ↓WMg10 hw, ↓WMp10 hw, show ((2 : Int32) ≤ 1) = False from eq_false (by decide), hb1, nar0, hDB]
        rfl
      have L2 : ∀ j, S_SF_load_S1 w s j 2 DB = zlp (fun (_ : Int32) (_ : Int32) (_ : zD) => none) (S_SF_load_S2 w s) zfuel 0 0 (tD DB s 1 (DB (s + 1) 3) (DB (s + 3))) := fun j => by
        unfold S_SF_load_S1 f_FairText_toFirstCommand
        simp only [↓zjpE, ↓zletE, ↓zciE, ↓zcvE, ↓zchkE, ↓reduceIte, zciE, zcvE, nI_1, ↓WSo hw, ↓WSr0 hw, ↓WSr1 hw, ↓WSr2 hw, ↓WSr3 hw, ↓WSr4 hw, ↓WSg5 hw, ↓WSp5 hw, ↓WSg6 hw, ↓WSp6 hw, ↓WSr7 hw, ↓WSr8 hw, ↓WTo hw, ↓WTr0 hw, ↓WTg1 hw, ↓WTp1 hw, ↓WTg2 hw, ↓WTp2 hw, ↓WTg3 hw, ↓WTp3 hw, ↓WTr4 hw, ↓WMo hw, ↓WMg0 hw, ↓WMp0 hw, ↓WMr1 hw, ↓WMg2 hw, ↓WMp2 hw, ↓WMr3 hw, ↓WMr4 hw, ↓WMr5 hw, ↓WMg6 hw, ↓WMp6 hw, ↓WMr7 hw, ↓WMr8 hw, ↓WMg9 hw, ↓WMp9 hw, ↓WMg10 hw, ↓WMp10 hw, show ((2 : Int32) ≤ 2) = True from eq_true (by decide), tB]
      rw [u_SF_load]
      simp only [↓zjpE, ↓zletE, ↓zciE, ↓zcvE, ↓zchkE, ↓reduceIte, zciE, zcvE, nI_1, ↓WSo hw, ↓WSr0 hw, ↓WSr1 hw, ↓WSr2 hw, ↓WSr3 hw, ↓WSr4 hw, ↓WSg5 hw, ↓WSp5 hw, ↓WSg6 hw, ↓WSp6 hw, ↓WSr7 hw, ↓WSr8 hw, ↓WTo hw, ↓WTr0 hw, ↓WTg1 hw, ↓WTp1 hw, ↓WTg2 hw, ↓WTp2 hw, ↓WTg3 hw, ↓WTp3 hw, ↓WTr4 hw, ↓WMo hw, ↓WMg0 hw, ↓WMp0 hw, ↓WMr1 hw, ↓WMg2 hw, ↓WMp2 hw, ↓WMr3 hw, ↓WMr4 hw, ↓WMr5 hw, ↓WMg6 hw, ↓WMp6 hw, ↓WMr7 hw, ↓WMr8 hw, ↓WMg9 hw, ↓WMp9 hw, ↓WMg10 hw, ↓WMp10 hw, ↓zciX h1, ↓Lo0 (WL4 hw), ↓zcvX hc, ↓zForg hw]
      rw [zfS, L0, zf1, L1, zf2, L2]
      exact e5
    have hM1 : MX D1 s n ch := MX_c hM (by rw [f1 _ (by omega) (by omega) (by omega) (by omega) (by omega)]) (f1 _ (by omega) (by omega) (by omega) (by omega) (by omega))
    have hrt := h2 D1 hM1 (f1 _ (by omega) (by omega) (by omega) (by omega) (by omega))
    generalize hE : zup (mD D1 s n u (vec G')) (s + 634) 0 0 = E
    have hcm : f_MD_copyState w E (s + 637) 0 (s + 636) 0 = some (cpD E (s + 637) 0 (s + 636) 0 521) := m_copy (Wt hw) (Wn hw) (by omega) (by omega) (by omega) (by omega) (by omega) rfl rfl
    generalize hD2 : zup (zup (zup (cpD E (s + 637) 0 (s + 636) 0 521) (s + 634) 6 0) (s + 640) 0 0) (s + 640) 1 0 = D2
    have fq : ∀ r, r ≠ s → r ≠ s + 1 → r ≠ s + 3 → ¬ (s + 4 ≤ r ∧ r < s + 37) → r ≠ s + 633 → r ≠ s + 634 → r ≠ s + 636 → r ≠ s + 637 → r ≠ s + 640 → D2 r = D r := fun r a1 a2 a3 a4 a5 a6 a7 a8 a9 => by
      rw [← hD2, zup_ne a9, zup_ne a9, zup_ne a6, cpD_o a7, ← hE, zup_ne a6, mD_o a6 a8, f1 _ a1 a2 a3 a4 a5]
    have fE : ∀ r, r ≠ s + 634 → r ≠ s + 636 → r ≠ s + 637 → r ≠ s + 640 → D2 r = D1 r := fun r a6 a7 a8 a9 => by
      rw [← hD2, zup_ne a9, zup_ne a9, zup_ne a6, cpD_o a7, ← hE, zup_ne a6, mD_o a6 a8]
    have out : D2 (s + 634) 10 = nI u := by
      rw [← hD2, zup_ne (by omega), zup_ne (by omega), zup_aj (by decide), cpD_o (by omega), ← hE, zup_aj (by decide), mD_10]
    have hmod : f_MD_load w D1 (s + 634) = some (nI u, D2) := by
      unfold f_MD_load
      simp only [↓zjpE, ↓zletE, ↓zciE, ↓zcvE, ↓zchkE, ↓reduceIte, zciE, zcvE, nI_1, ↓WSo hw, ↓WSr0 hw, ↓WSr1 hw, ↓WSr2 hw, ↓WSr3 hw, ↓WSr4 hw, ↓WSg5 hw, ↓WSp5 hw, ↓WSg6 hw, ↓WSp6 hw, ↓WSr7 hw, ↓WSr8 hw, ↓WTo hw, ↓WTr0 hw, ↓WTg1 hw, ↓WTp1 hw, ↓WTg2 hw, ↓WTp2 hw, ↓WTg3 hw, ↓WTp3 hw, ↓WTr4 hw, ↓WMo hw, ↓WMg0 hw, ↓WMp0 hw, ↓WMr1 hw, ↓WMg2 hw, ↓WMp2 hw, ↓WMr3 hw, ↓WMr4 hw, ↓WMr5 hw, ↓WMg6 hw, ↓WMp6 hw, ↓WMr7 hw, ↓WMr8 hw, ↓WMg9 hw, ↓WMp9 hw, ↓WMg10 hw, ↓WMp10 hw, ↓zciX hrt, ↓zR0 hw, hE, ↓zcvX hcm, hb0', hb1', nar0, hD2, out]
    have fN : ∀ j, j < 521 → D2 (s + 636) j = vec G' j := fun j hj => by
      have h0 := cpD_in (D := E) (a := s + 637) (X := 0) (b := s + 636) (Y := 0) (k := 521) hj
      rw [Nat.zero_add] at h0
      rw [← hD2, zup_ne (by omega), zup_ne (by omega), zup_ne (by omega), h0, ← hE, zup_ne (by omega), mD_t]
    refine ⟨.inl (nI u), D1, nI u, D2, hcls, hmod, ⟨?_, vIB_c iB (fun o ho => fq _ (by omega) (by omega) (by omega) (by omega) (by omega) (by omega) (by omega) (by omega) (by omega)), ?_, ?_, ?_, ?_⟩, Or.inl ⟨rfl, ?_⟩, fun r hr => fq _ (by omega) (by omega) (by omega) (by omega) (by omega) (by omega) (by omega) (by omega) (by omega), fun r hr => f1 _ (by omega) (by omega) (by omega) (by omega) (by omega)⟩
    · refine vIP_mo (T := 12000) (RP_congr hR (fun o j hcp => ?_) (fun j hj => ?_) (fun o j hv => ?_)) (by omega)
      · have := Cp_lt hcp
        show D2 (s + 4 + o) j = _
        rw [fE _ (by omega) (by omega) (by omega) (by omega), ← hD1, tD_o (by omega) (by omega), zblk_at this]
      · show D2 (s + 4 + 15) j = _
        rw [fE _ (by omega) (by omega) (by omega) (by omega), ← hD1, tD_o (by omega) (by omega), zblk_at (by decide)]; exact RP_Z hR j hj
      · show D2 (s + 636) (ci (o, j)) = _
        rw [fN _ (vp_co hv).1]
        unfold vec
        rw [(vp_co hv).2]
    · exact vIZ_c iZ (fq _ (by omega) (by omega) (by omega) (by omega) (by omega) (by omega) (by omega) (by omega) (by omega)) (fun i hi => fq _ (by omega) (by omega) (by omega) (by omega) (by omega) (by omega) (by omega) (by omega) (by omega)) (fun i hi => fq _ (by omega) (by omega) (by omega) (by omega) (by omega) (by omega) (by omega) (by omega) (by omega))
    · refine vIT_c iT ?_ (fq _ (by omega) (by omega) (by omega) (by omega) (by omega) (by omega) (by omega) (by omega) (by omega)) ?_ (fq _ (by omega) (by omega) (by omega) (by omega) (by omega) (by omega) (by omega) (by omega) (by omega))
      · rw [fE _ (by omega) (by omega) (by omega) (by omega), ← hD1, tD_1, zblk_out (by omega), ← hDB, zup_ne (by omega), zup_ne (by omega), zup_ne (by omega), zup_ne (by omega), zblk_out (by omega), tD_1]
      · rw [← hD2, zup_ne (by omega), zup_ne (by omega), zup_aj (by decide), cpD_o (by omega), ← hE, zup_aj (by decide), mD_2, f1 _ (by omega) (by omega) (by omega) (by omega) (by omega)]
    · refine ⟨0, 0, by decide, by decide, ?_, ?_, ?_, fun i hi => absurd hi (Nat.not_lt_zero i)⟩
      · rw [fE _ (by omega) (by omega) (by omega) (by omega), ← hD1, tD_o (by omega) (by omega), zblk_out (by omega), ← hDB, zup_ne (by omega), zup_ne (by omega), zup_aj (by decide), zup_at]; rfl
      · rw [fE _ (by omega) (by omega) (by omega) (by omega), ← hD1, tD_o (by omega) (by omega), zblk_out (by omega), ← hDB, zup_ne (by omega), zup_ne (by omega), zup_at]; rfl
      · rw [← hD2, zup_ne (by omega), zup_ne (by omega), zup_at]; rfl
    · intro i hi
      have z1 : D2 (s + 633) i = 0 := by
        rw [fE _ (by omega) (by omega) (by omega) (by omega), ← hD1, tD_o (by omega) (by omega), zblk_out (by omega), ← hDB]
        have : i = 0 ∨ i = 1 := by omega
        rcases this with rfl | rfl
        · rw [zup_aj (by decide), zup_at]
        · rw [zup_at]
      have z2 : D2 (s + 640) i = 0 := by
        rw [← hD2]
        have : i = 0 ∨ i = 1 := by omega
        rcases this with rfl | rfl
        · rw [zup_aj (by decide), zup_at]
        · rw [zup_at]
      rw [z1, z2]
      exact ⟨rfl, Or.inl rfl, fun h => absurd h (by decide)⟩
    · rw [← hD2, zup_ne (by omega), zup_ne (by omega), zup_aj (by decide), cpD_o (by omega), ← hE, zup_at]
end P72
