/-! PURE: what is tried on a copy: the copies, the states tick by tick. -/
section P64
variable {β : Type} {w : zW} {D : zD} {s T a b ns nh nw t te tp np d e l c : Nat} {F G : Nat → Nat → Int32} {A : Prop}
theorem trialC (hw : WL w s) {F0 : Nat → Nat → Int32} (hz : ∀ j, j < 4 → F0 15 j = 0) : ∃ Ft, f_Field_copyFrom w (zblk D (s + 70) F0) (s + 70) (s + 4) = some (zblk D (s + 70) Ft) ∧ (∀ o j, Cp o j → Ft o j = blk D (s + 4) o j) ∧ ∀ j, j < 4 → Ft 15 j = 0 := by
  obtain ⟨Ft, h1, h2, h3⟩ := copyF (D := D) (F := F0) (WL70 hw) (WL4 hw) (by omega)
  exact ⟨Ft, h1, h2, fun j hj => by rw [h3]; exact hz j hj⟩
theorem trialM (hw : WL w s) : ∃ Gt, f_MD_copyState w D (s + 636) 0 (s + 637) 0 = some (zset D (s + 637) (vec Gt)) ∧ ∀ o j, Vp o j → Gt o j = dev (D (s + 636)) o j := by
  refine ⟨dev (fun i => if i < 521 then D (s + 636) i else D (s + 637) i), ?_, ?_⟩
  · have h0 : f_MD_copyState w D (s + 636) 0 (s + 637) 0 = some (cpD D (s + 636) 0 (s + 637) 0 521) := m_copy (X := 0) (Y := 0) (Wn hw) (Wt hw) (by omega) (by omega) (by omega) (by omega) (by omega) rfl rfl
    rw [h0, vec_dev]
    unfold cpD
    congr 2
    funext i
    simp
  · intro o j hv
    show (if ci (o, j) < 521 then D (s + 636) (ci (o, j)) else D (s + 637) (ci (o, j))) = _
    rw [if_pos (vp_co hv).1]
    rfl
theorem Inv_trial (hI : Inv D s T) {F' : Nat → Nat → Int32} (hz : ∀ j, j < 4 → F' 15 j = 0) {e : Int32} {V : Nat → Int32} : Inv (zset (zup (zblk D (s + 70) F') (s + 634) 0 e) (s + 637) V) s T := by
  refine Inv_free hI (fun q h1 h2 h3 h4 h5 _ _ => ?_) ?_ ?_ (fun j hj => ?_) ?_
  · rw [zset_ne h4, zup_ne h3, zblk_out (by omega)]
  · rw [zset_ne (by omega), zup_aj (by decide), zblk_out (by omega)]
  · rw [zset_ne (by omega), zup_aj (by decide), zblk_out (by omega)]
  · rw [zset_ne (by omega), zup_ne (by omega), zblk_at (by decide)]; exact hz j hj
  · rw [zset_ne (by omega), zup_ne (by omega), zblk_out (by omega)]
/-- what is tried on a copy, on both sides -/
theorem trial (hw : WL w s) (hI : Inv D s T) (hT : t ≤ T) (hRR : RI (blk D (s + 4)) (dev (D (s + 636))) ns nh nw t t t True np d e l (240 * t)) {ρ : Type} (fC : zD → Option (ρ × zD)) (fM : zD → Option (Int32 × zD)) (P : ρ → Int32 → Int32 → Prop) (H : ∀ F G, RI F G ns nh nw t t t True np d e l (240 * t) → (∀ o j, Vp o j → G o j = dev (D (s + 636)) o j) → ∃ r v F' G', (∀ j, j < 4 → F' 15 j = 0) ∧ (∀ D, fC (zblk D (s + 70) F) = some (r, zblk D (s + 70) F')) ∧ (∀ D', D' (s + 636) = D (s + 636) → fM (zset D' (s + 637) (vec G)) = some (v, zset D' (s + 637) (vec G'))) ∧ P r v 0) : ∃ r D1 v D2, zcv (f_Field_copyFrom w D (s + 70) (s + 4)) fC = some (r, D1) ∧ zcv (f_MD_copyState w (zup D1 (s + 634) 0 0) (s + 636) 0 (s + 637) 0) fM = some (v, D2) ∧ D1 (s + 636) = D (s + 636) ∧ Inv D2 s T ∧ P r v (D2 (s + 634) 0) ∧ (∀ q, q < s ∨ s + 641 ≤ q → D2 q = D q) ∧ ∀ q, q < s → D1 q = D q := by
  obtain ⟨Ft, c1, c2, c3⟩ := trialC (D := D) (F0 := blk D (s + 70)) hw hI.2.2.1.1
  rw [show zblk D (s + 70) (blk D (s + 70)) = D from zblk_eta] at c1
  obtain ⟨Gt, -, m2⟩ := trialM (D := D) hw
  have hRt : ∀ Gt, (∀ o j, Vp o j → Gt o j = dev (D (s + 636)) o j) → RI Ft Gt ns nh nw t t t True np d e l (240 * t) := fun Gt m2 => RI_congr hRR c2 c3 m2
  obtain ⟨r0, v0, F0, G0, z0, hC0, -, -⟩ := H Ft Gt (hRt Gt m2) m2
  have e636 : zup (zblk D (s + 70) F0) (s + 634) 0 0 (s + 636) = D (s + 636) := by rw [zup_ne (by omega), zblk_out (by omega)]
  obtain ⟨Gt', m1', m2'⟩ := trialM (D := zup (zblk D (s + 70) F0) (s + 634) 0 0) hw
  rw [e636] at m2'
  obtain ⟨r, v, F', G', z', hC, hM, hP⟩ := H Ft Gt' (hRt Gt' m2') m2'
  have hCC := (hC0 D).symm.trans (hC D)
  have hr : r0 = r := congrArg Prod.fst (Option.some.inj hCC)
  have hF : zblk D (s + 70) F0 = zblk D (s + 70) F' := congrArg Prod.snd (Option.some.inj hCC)
  refine ⟨r, zblk D (s + 70) F', v, zset (zup (zblk D (s + 70) F') (s + 634) 0 0) (s + 637) (vec G'), by rw [c1, zcvE]; exact hC D, ?_, by rw [zblk_out (by omega)], Inv_trial hI z', ?_, ?_, fun q hq => zblk_out (by omega)⟩
  · rw [← hF, m1', zcvE]
    exact hM _ e636
  · rw [zset_ne (by omega), zup_at]; exact hP
  · intro q hq
    rw [zset_ne (by omega), zup_ne (by omega), zblk_out (by omega)]
/-- the states tick by tick -/
theorem seqT (hL : LF w a) (hb : w.1 b = some (.inl (0, 521))) (h : RI F G ns nh nw t t tp A np d e l c) (n : Nat) (ht : t + n < 4000000) (hA : A → t + n ≤ tp) : ∃ S : Nat → (Nat → Nat → Int32) × (Nat → Nat → Int32) × Nat × Nat, S 0 = (F, G, l, np) ∧ (∀ i, i ≤ n → ∃ d e, RI (S i).1 (S i).2.1 ns nh nw (t + i) (t + i) tp A (S i).2.2.2 d e (S i).2.2.1 (c + 240 * i)) ∧ ∀ i, i < n → (S i).2.2.1 ≤ (S (i + 1)).2.2.1 ∧ (∀ k, k < (S (i + 1)).2.2.2 → (S (i + 1)).2.1 0 5 - (S (i + 1)).2.1 23 k < (S (i + 1)).2.1 0 8) ∧ (∀ D, f_Field_tick w (zblk D a (S i).1) a = some (zblk D a (S (i + 1)).1)) ∧ (∀ D, f_MD_tick w (zset D b (vec (S i).2.1)) b = some (zset D b (vec (S (i + 1)).2.1))) := by
  induction n with
  | zero =>
    refine ⟨fun _ => (F, G, l, np), rfl, fun i hi => ?_, fun i hi => absurd hi (Nat.not_lt_zero i)⟩
    obtain rfl : i = 0 := by omega
    exact ⟨d, e, h⟩
  | succ n ih =>
    obtain ⟨S, s0, s1, s2⟩ := ih (by omega) (fun q => by have := hA q; omega)
    obtain ⟨d1, e1, hR⟩ := s1 n (Nat.le_refl n)
    obtain ⟨F', G', np', d', e', l', hR', z1, z2, z3, z4, z5, z6⟩ := tick hL hb hR (Nat.le_refl _) (by omega) (fun q => by have := hA q; omega)
    refine ⟨fun i => if i ≤ n then S i else (F', G', l', np'), ?_, ?_, ?_⟩
    · show (if 0 ≤ n then S 0 else _) = _
      rw [if_pos (Nat.zero_le n)]; exact s0
    · intro i hi
      by_cases hin : i ≤ n
      · simp only [if_pos hin]; exact s1 i hin
      · obtain rfl : i = n + 1 := by omega
        simp only [if_neg hin]
        refine ⟨d', e', ?_⟩
        rw [show c + 240 * (n + 1) = c + 240 * n + 240 by omega]
        exact hR'
    · intro i hi
      by_cases hin : i < n
      · simp only [if_pos (show i ≤ n by omega), if_pos (show i + 1 ≤ n by omega)]; exact s2 i hin
      · obtain rfl : i = n := by omega
        simp only [if_pos (Nat.le_refl i), if_neg (show ¬ i + 1 ≤ i by omega)]
        exact ⟨z3, z4, z5, z6⟩
theorem shr33 (v : Int64) : ∃ n, n < 2 ^ 31 ∧ ((v.toUInt64 >>> ((33 : Int32).toInt64.toUInt64 &&& Int64.toUInt64 63)).toInt64).toInt32 = nI n := by
  have hb : ((33 : Int32).toInt64.toUInt64 &&& Int64.toUInt64 63) = 33 := by decide
  rw [hb]
  have h1 : (v.toUInt64 >>> (33 : UInt64)).toNat = v.toUInt64.toNat / 2 ^ 33 := by
    rw [UInt64.toNat_shiftRight, show (33 : UInt64).toNat % 64 = 33 from by decide, Nat.shiftRight_eq_div_pow]
  have h2 : v.toUInt64.toNat < 2 ^ 64 := v.toUInt64.toNat_lt
  refine ⟨v.toUInt64.toNat / 2 ^ 33, by omega, ?_⟩
  apply Int32.toBitVec_inj.mp
  apply BitVec.eq_of_toNat_eq
  show ((v.toUInt64 >>> (33 : UInt64)).toBitVec.signExtend 32).toNat = (BitVec.ofNat 32 (v.toUInt64.toNat / 2 ^ 33)).toNat
  rw [BitVec.signExtend_eq_setWidth_of_le _ (by decide), BitVec.toNat_setWidth, BitVec.toNat_ofNat, UInt64.toNat_toBitVec, h1]
end P64
