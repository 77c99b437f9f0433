/-! PURE: a pulse goes (the model), a pulse comes (both). -/
def dropG (G : Nat → Nat → Int32) (k n : Nat) : Nat → Nat → Int32 := fun o j => if 20 ≤ o ∧ o < 26 ∧ k ≤ j ∧ j + 1 < n then G o (j + 1) else G o j
def shN (N : Nat → Int32) (k m : Nat) : Nat → Int32 := fun q => if k ≤ q ∧ q < m then N (q + 6) else N q
theorem shN_0 {N : Nat → Int32} {k : Nat} : shN N k k = N := by
  funext q; unfold shN; rw [if_neg (by omega)]
theorem shN_s {N : Nat → Int32} {k m : Nat} (h : k ≤ m) : upd (shN N k m) m (N (m + 6)) = shN N k (m + 1) := by
  funext q
  unfold upd shN
  by_cases h1 : q = m
  · subst h1; rw [if_pos rfl, if_pos (by omega)]
  · rw [if_neg h1]
    by_cases h2 : k ≤ q ∧ q < m
    · rw [if_pos h2, if_pos (by omega)]
    · rw [if_neg h2, if_neg (by omega)]
theorem vec_drop {G : Nat → Nat → Int32} {k n : Nat} (h : k < n) (hn : n ≤ 60) : shN (vec G) (161 + 6 * k) (161 + 6 * (n - 1)) = vec (dropG G k n) := by
  funext q
  unfold shN
  by_cases h1 : 161 + 6 * k ≤ q ∧ q < 161 + 6 * (n - 1)
  · rw [if_pos h1]
    obtain ⟨j, m, hm, rfl⟩ : ∃ j m, m < 6 ∧ q = 161 + 6 * j + m := ⟨(q - 161) / 6, (q - 161) % 6, by omega, by omega⟩
    have e1 : 161 + 6 * j + m + 6 = 161 + 6 * (j + 1) + m := by omega
    unfold vec dropG
    rw [e1, co_p (by omega) hm, co_p (by omega) hm]
    dsimp only
    rw [if_pos (by omega)]
  · rw [if_neg h1]
    unfold vec dropG
    rw [if_neg]
    intro h2
    apply h1
    have h3 := ci_co q
    revert h2 h3
    generalize co q = c
    intro h2 h3
    unfold ci at h3
    rw [if_neg (by omega), if_neg (by omega), if_pos (by omega)] at h3
    omega
theorem dropG_o {G : Nat → Nat → Int32} {k n o : Nat} (h : ¬ (20 ≤ o ∧ o < 26)) : dropG G k n o = G o := by
  funext j; unfold dropG; rw [if_neg (by omega)]
section P37
variable {A : Prop} {w : zW} {a b ns nh nw t te tp np d e l c : Nat} {D : zD} {F G : Nat → Nat → Int32}
theorem e_drop (hb : w.1 b = some (.inl (0, 521))) {k : Nat} (hk : k < np) (hn : np ≤ 60) (hG : G 19 7 = nI np) : f_MD_dropPulse w (zset D b (vec G)) b (nI k) = some (zset D b (vec (upd2 (dropG G k np) 19 7 (nI (np - 1))))) := by
  have hx : (161 : Int32) + ((6 : Int32) * (nI np - (1 : Int32))) = nI (161 + 6 * (np - 1)) := by
    rw [show (1 : Int32) = nI 1 from rfl, pk_sub (by omega)]; simp only [zl, nI_add, pk_mul]
  have h4 : ∀ m, vec G 4 = nI np ∧ shN (vec G) (161 + 6 * k) (161 + 6 * k + m) 4 = nI np := by
    intro m
    have : vec G 4 = nI np := hG
    refine ⟨this, ?_⟩
    unfold shN; rw [if_neg (by omega)]; exact this
  obtain ⟨s, rfl, q⟩ := lpG (bot := fun (_ : Int32) (_ : zD) => none) (st := S_MD_dropPulse_S1 w b (nI k)) (n := 6 * (np - 1 - k)) (β := zD) (fun i s => s = shN (vec G) (161 + 6 * k) (161 + 6 * k + i)) (fun D g i s => g (nI (161 + 6 * k + i)) (zset D b s)) (by
    intro i s hi hs
    subst hs
    refine ⟨_, rfl, ?_⟩
    intro D j
    unfold S_MD_dropPulse_S1
    rw [show (4 : Int32) = nI 4 from rfl, zald_of hb (by decide) (by decide), zset_at, (h4 i).2, hx, if_neg (by rw [nI_leI (by omega) (by omega)]; omega)]
    rw [show (6 : Int32) = nI 6 from rfl, nI_add, zald_of hb (by omega) (by decide), zset_at, zast_of hb (by omega) (by decide), zup_zset]
    simp only [zlet, nI_1]
    have e1 : shN (vec G) (161 + 6 * k) (161 + 6 * k + i) (161 + 6 * k + i + 6) = vec G (161 + 6 * k + i + 6) := by unfold shN; rw [if_neg (by omega)]
    rw [e1, shN_s (by omega)]
    rfl) (6 * (np - 1 - k)) 0 (vec G) (by omega) (by rw [Nat.add_zero, shN_0])
  obtain ⟨j, hj⟩ := q D zfuel (by unfold zfuel; omega)
  rw [u_MD_dropPulse]
  simp only [zjp, zlet, zl 161, zl 6, nI_add, pk_mul]
  refine hj.trans ?_
  unfold S_MD_dropPulse_S1
  rw [show (4 : Int32) = nI 4 from rfl, zald_of hb (by decide) (by decide), zset_at, (h4 _).2, hx, if_pos (nI_le (by omega) (by omega)), zald_of hb (by decide) (by decide), zset_at, (h4 _).2, zast_of hb (by decide) (by decide), zup_zset, show 161 + 6 * k + 6 * (np - 1 - k) = 161 + 6 * (np - 1) by omega, vec_drop hk hn, upd_vec, show (1 : Int32) = nI 1 from rfl, pk_sub (by omega)]
  rfl
theorem e_rowOf (hL : LF w a) {p k : Nat} (hp : p < 60) (hk : k ≤ 60) (hF : F 19 6 = nI p) : f_Pulses_rowOf w (zblk D a F) (a + 19) (nI k) = some (nI ((p + k) % 60), zblk D a F) := by
  unfold f_Pulses_rowOf
  simp only [Lo0 hL, Lr0_0 hL, Lr0_1 hL, Lr0_2 hL, Lr0_3 hL, Lr0_4 hL, Lg0_5 hL, Lp0_5 hL, Lg0_6 hL, Lp0_6 hL, Lg0_7 hL, Lp0_7 hL, Lg0_8 hL, Lp0_8 hL, Lo1 hL, Lr1_0 hL, Lr1_1 hL, Lr1_2 hL, Lr1_3 hL, Lr1_4 hL, Lr1_5 hL, Lr1_6 hL, Lg1_7 hL, Lp1_7 hL, Lo9 hL, Lr9_0 hL, Lr9_1 hL, Lr9_2 hL, Lr9_3 hL, Lr9_4 hL, Lr9_5 hL, Lg9_6 hL, Lp9_6 hL, Lg9_7 hL, Lp9_7 hL, Lo16 hL, Lr16_0 hL, Lr16_1 hL, Lg16_2 hL, Lp16_2 hL, Lo19 hL, Lr19_0 hL, Lr19_1 hL, Lr19_2 hL, Lr19_3 hL, Lr19_4 hL, Lr19_5 hL, Lg19_6 hL, Lp19_6 hL, Lg19_7 hL, Lp19_7 hL, Lo26 hL, Lr26_0 hL, Lr26_1 hL, Lr26_2 hL, Lr26_3 hL, Lr26_4 hL, Lr26_5 hL, Lg26_6 hL, Lp26_6 hL, Lg26_7 hL, Lp26_7 hL, Lg26_8 hL, Lp26_8 hL, La2 hL, Ls2 hL, La3 hL, Ls3 hL, La4 hL, Ls4 hL, La5 hL, Ls5 hL, La6 hL, Ls6 hL, La7 hL, Ls7 hL, La8 hL, Ls8 hL, La10 hL, Ls10 hL, La11 hL, Ls11 hL, La12 hL, Ls12 hL, La13 hL, Ls13 hL, La14 hL, Ls14 hL, La15 hL, Ls15 hL, La17 hL, Ls17 hL, La18 hL, Ls18 hL, La20 hL, Ls20 hL, La21 hL, Ls21 hL, La22 hL, Ls22 hL, La23 hL, Ls23 hL, La24 hL, Ls24 hL, La25 hL, Ls25 hL, La27 hL, Ls27 hL, La28 hL, Ls28 hL, La29 hL, Ls29 hL, La30 hL, Ls30 hL, La31 hL, Ls31 hL, La32 hL, Ls32 hL, hF, nI_add]
  unfold zirem
  rw [show (60 : Int32) = nI 60 from rfl, pk_rem (by omega) (by decide) (by decide)]
end P37
