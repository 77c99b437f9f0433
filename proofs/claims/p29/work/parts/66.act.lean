/-! PURE: what is done in both. -/
def Has (F : Fld) : Prop := ∃ ns nh, F 1 7 = nI ns ∧ 0 < ns ∧ ns ≤ 4 ∧ F 9 6 = nI nh ∧ 0 < nh ∧ nh ≤ 4
/-- the remembered: first some that may lack a siren or a hearer, then such as have both -/
def Stk (F : Fld) (L : List Fld) : Prop := ∃ P M, L = P ++ M ∧ (∀ f, f ∈ M → Has f) ∧ (P = [] ∨ ∃ g Y, M ++ [F] = g :: Y ∧ ¬ (2 : Int32) ≤ g 0 5)
def LI (A : OS) (T : Nat) : Prop := Ok A T ∧ Has A.1 ∧ Stk A.1 A.2.1 ∧ ∀ i f, A.2.2 i = some f → Has f
def Dn (w : zW) (g : zD → Nat → Option (Int32 × zD)) (A A' : OS) (r : Int32) : Prop := ∀ (D : zD) (s : Nat), WL w s → At D s A → ∃ D', g D s = some (r, D') ∧ At D' s A' ∧ ∀ q, q < s ∨ s + 634 ≤ q → D' q = D q
section P66
variable {w : zW} {D : zD} {s T T' : Nat} {F F' : Fld} {L : List Fld} {V : Nat → Option Fld} {A : OS}
theorem Has_of (h : Has F) (h1 : F' 1 7 = F 1 7) (h9 : F' 9 6 = F 9 6) : Has F' := by
  obtain ⟨ns, nh, a1, a2, a3, b1, b2, b3⟩ := h
  exact ⟨ns, nh, h1.trans a1, a2, a3, h9.trans b1, b2, b3⟩
theorem Stk_push (h : Stk F L) (hH : Has F) : Stk F' (push L F) := by
  obtain ⟨P, M, rfl, hM, hP⟩ := h
  have hM' : ∀ f, f ∈ M ++ [F] → Has f := fun f hf => by
    rcases List.mem_append.1 hf with hf | hf
    · exact hM f hf
    · rw [List.mem_singleton.1 hf]; exact hH
  have hd : ∀ X : List Fld, (X = [] ∨ ∃ g Y, M ++ [F] = g :: Y ∧ ¬ (2 : Int32) ≤ g 0 5) → ∀ R, R = X ++ (M ++ [F]) → Stk F' R := fun X hX R hR => ⟨X, M ++ [F], hR, hM', hX.imp id (fun ⟨g, Y, e, ht⟩ => ⟨g, Y ++ [F'], by rw [e]; rfl, ht⟩)⟩
  unfold push
  split
  · exact hd P hP _ (List.append_assoc _ _ _)
  · match P, hP with
    | [], hP =>
      exact ⟨[], M.drop 1 ++ [F], rfl, fun f hf => hM' f (by
        rcases List.mem_append.1 hf with hf | hf
        · exact List.mem_append_left _ (List.mem_of_mem_drop hf)
        · exact List.mem_append_right _ hf), Or.inl rfl⟩
    | a :: P, hP => exact hd P (Or.inr (hP.resolve_left (fun h => nomatch h))) _ (List.append_assoc _ _ _)
theorem Stk_undo {f : Fld} (h : Stk F (L ++ [f])) (ht : (2 : Int32) ≤ F 0 5) : Stk f L ∧ Has f := by
  obtain ⟨P, M, e, hM, hP⟩ := h
  by_cases hne : M = []
  · subst hne
    rcases hP with rfl | ⟨g, Y, e2, ht2⟩
    · have := congrArg List.length e
      rw [List.length_append] at this
      simp only [List.length_cons, List.length_nil] at this
      cases this
    · cases e2
      exact absurd ht ht2
  · have hMe := List.dropLast_concat_getLast hne
    generalize M.dropLast = M1 at hMe
    generalize M.getLast hne = y at hMe
    subst hMe
    rw [← List.append_assoc] at e
    obtain ⟨e1, e2⟩ := List.append_inj' e rfl
    cases e2
    refine ⟨⟨P, M1, e1, fun g hg => hM g (List.mem_append_left _ hg), hP.imp id ?_⟩, hM f (List.mem_append_right _ (List.mem_singleton_self f))⟩
    rintro ⟨g, Y, e3, ht3⟩
    match M1, e3 with
    | [], e3 => cases e3; exact ⟨_, _, rfl, ht3⟩
    | m :: M1, e3 => cases e3; exact ⟨_, _, rfl, ht3⟩
theorem LI_push (hA : LI (F, L, V) T) (hT : T ≤ T') (hF : FT F' T') (hH : Has F') : LI (F', push L F, V) T' := by
  obtain ⟨⟨a1, a2, a3⟩, b, c, d⟩ := hA
  refine ⟨⟨hF, fun f hf => ?_, fun i f hf => FT_le (a3 i f hf) hT⟩, hH, Stk_push c b, d⟩
  rcases push_mem hf with hf | rfl
  · exact FT_le (a2 f hf) hT
  · exact FT_le a1 hT
theorem LI_le (hA : LI A T) (hT : T ≤ T') : LI A T' := ⟨Ok_le hA.1 hT, hA.2⟩
/-- refused: nothing is changed -/
theorem Dn_no {g : zD → Nat → Option (Int32 × zD)} {r : Int32} (h : ∀ D s, WL w s → At D s A → g D s = some (r, D)) : Dn w g A A r := fun D s hw hA => ⟨D, h D s hw hA, hA, fun _ _ => rfl⟩
theorem ac_siren (hA : LI (F, L, V) T) {x y r sp pd : Int32} (hv : Is1 x y r sp pd 1 0) : ∃ v A', LI A' T ∧ Dn w (fun D s => f_LW_sirens w D s x y r sp pd) (F, L, V) A' v := by
  obtain ⟨ns, nh, h1, h2, h3, h4, h5, h6⟩ := show Has F from hA.2.1
  have hF : FT F T := hA.1.1
  obtain ⟨a1, a2, b1, b2, c1, c2, d1, d2, e1, e2, -⟩ := id hv
  by_cases hlt : ns < 4
  · refine ⟨nI ns, (sirF F ns x y r sp pd, push L F, V), LI_push hA (Nat.le_refl T) ?_ ?_, fun D s hw h => ?_⟩
    · obtain ⟨t, ht, hS⟩ := hF
      exact ⟨t, ht, FS_sir hS h1 hlt hv⟩
    · refine ⟨ns + 1, nh, ?_, by omega, by omega, ?_, h5, h6⟩
      · unfold sirF; exact upd2_s
      · unfold sirF; simp (disch := omega) only [upd2_o]; exact h4
    · obtain ⟨D', q1, q2, q3⟩ := a_siren hw h hF ⟨a1, a2⟩ ⟨b1, b2⟩ ⟨c1, c2⟩ ⟨d1, d2⟩ ⟨e1, e2⟩ h1 hlt
      exact ⟨D', t_sirens hw q1, q2, q3⟩
  · have hf : F 1 7 = nI 4 := by rw [h1, show ns = 4 by omega]
    exact ⟨-9999003, _, hA, Dn_no (fun D s hw h => t_sirens_S hw (xt_sirenF hw h.1 ⟨a1, a2⟩ ⟨b1, b2⟩ ⟨c1, c2⟩ ⟨d1, d2⟩ ⟨e1, e2⟩ hf))⟩
theorem ac_hearer (hA : LI (F, L, V) T) {x y vx vy : Int32} (hv : -40 ≤ x ∧ x ≤ 40 ∧ -40 ≤ y ∧ y ≤ 40 ∧ -2 ≤ vx ∧ vx ≤ 2 ∧ -2 ≤ vy ∧ vy ≤ 2) : ∃ v A', LI A' T ∧ Dn w (fun D s => f_LW_hearers w D s x y vx vy) (F, L, V) A' v := by
  obtain ⟨ns, nh, h1, h2, h3, h4, h5, h6⟩ := show Has F from hA.2.1
  have hF : FT F T := hA.1.1
  obtain ⟨a1, a2, b1, b2, c1, c2, d1, d2⟩ := id hv
  by_cases hlt : nh < 4
  · refine ⟨nI nh, (heaF F nh x y vx vy, push L F, V), LI_push hA (Nat.le_refl T) ?_ ?_, fun D s hw h => ?_⟩
    · obtain ⟨t, ht, hS⟩ := hF
      exact ⟨t, ht, FS_hea hS h4 hlt hv⟩
    · refine ⟨ns, nh + 1, ?_, h2, h3, ?_, by omega, by omega⟩
      · unfold heaF; simp (disch := omega) only [upd2_o]; exact h1
      · unfold heaF; exact upd2_s
    · obtain ⟨D', q1, q2, q3⟩ := a_hearer hw h hF ⟨a1, a2⟩ ⟨b1, b2⟩ ⟨c1, c2⟩ ⟨d1, d2⟩ h4 hlt
      exact ⟨D', t_hearers hw q1, q2, q3⟩
  · have hf : F 9 6 = nI 4 := by rw [h4, show nh = 4 by omega]
    exact ⟨-9999003, _, hA, Dn_no (fun D s hw h => t_hearers_S hw (xt_hearerF hw h.1 ⟨a1, a2⟩ ⟨b1, b2⟩ ⟨c1, c2⟩ ⟨d1, d2⟩ hf))⟩
theorem FT_u (h : FT F T) : ∃ nw np p, F 16 2 = nI nw ∧ nw ≤ 3 ∧ F 19 7 = nI np ∧ np ≤ 60 ∧ F 19 6 = nI p ∧ p < 60 := by
  obtain ⟨t, ht, hS⟩ := h
  obtain ⟨-, G, ns, nh, nw, np, d, e, l, ⟨hR, ⟨p, q1, q2, q3, -, q5, -⟩, -, -, ⟨-, -, -, -, i5, i6, -⟩, -⟩, -⟩ := hS
  exact ⟨nw, np, p, (r16_2 hR).trans i5, i6, q3, q5, q1, q2⟩
theorem ac_wall (hA : LI (F, L, V) T) {u y : Int32} (hu : u = 0 ∨ u = 1) (hv : -40 ≤ y ∧ y ≤ 40) : ∃ v A', LI A' T ∧ Dn w (fun D s => f_LW_walls w D s u y) (F, L, V) A' v := by
  have hF : FT F T := hA.1.1
  obtain ⟨nw, np, p, h1, h2, -⟩ := FT_u hF
  by_cases hlt : nw < 3
  · refine ⟨nI nw, (walF F nw u y, push L F, V), LI_push hA (Nat.le_refl T) ?_ ?_, fun D s hw h => ?_⟩
    · obtain ⟨t, ht, hS⟩ := hF
      exact ⟨t, ht, FS_wal hS h1 hlt ⟨hu, hv⟩⟩
    · refine Has_of hA.2.1 ?_ ?_ <;> (unfold walF; simp (disch := omega) only [upd2_o])
    · obtain ⟨D', q1, q2, q3⟩ := a_wall hw h hF hv h1 hlt hu
      exact ⟨D', t_walls hw q1, q2, q3⟩
  · have hf : F 16 2 = nI 3 := by rw [h1, show nw = 3 by omega]
    exact ⟨-9999003, _, hA, Dn_no (fun D s hw h => t_walls_S hw (xt_wallF hw h.1 hv hf))⟩
theorem ac_turn (hA : LI (F, L, V) T) {v : Int32} (hu : v = 0 ∨ v = 1) {ns i : Nat} (h1 : F 1 7 = nI ns) (hn : ns ≤ 4) (hi : i < ns) : ∃ r, LI (upd2 F 8 i v, push L F, V) T ∧ ¬ r < 0 ∧ Dn w (fun D s => f_LW_turned w D s (nI i) v) (F, L, V) (upd2 F 8 i v, push L F, V) r := by
  have hF : FT F T := hA.1.1
  refine ⟨nI (onsum (upd2 F 8 i v) ns), LI_push hA (Nat.le_refl T) ?_ ?_, ?_, fun D s hw h => ?_⟩
  · obtain ⟨t, ht, hS⟩ := hF
    exact ⟨t, ht, FS_turn hS (by omega) hu⟩
  · refine Has_of hA.2.1 ?_ ?_ <;> simp (disch := omega) only [upd2_o]
  · have := onsum_le (G := upd2 F 8 i v) (k := ns)
    exact nI_pos (by omega)
  · obtain ⟨D', q1, q2, q3⟩ := a_turn hw h hF h1 hn hi hu
    exact ⟨D', t_turned hw q1, q2, q3⟩
theorem ac_walk (hA : LI (F, L, V) T) {vx vy : Int32} (c3 : (-2 : Int32) ≤ vx ∧ vx ≤ (2 : Int32)) (c4 : (-2 : Int32) ≤ vy ∧ vy ≤ (2 : Int32)) {nh i : Nat} (h9 : F 9 6 = nI nh) (hn : nh ≤ 4) (hi : i < nh) : ∃ v A', LI A' T ∧ Dn w (fun D s => f_LW_tryWalk w D s (nI i) vx vy) (F, L, V) A' v := by
  have hF : FT F T := hA.1.1
  refine ⟨F 10 i, (upd2 (upd2 F 12 i vx) 13 i vy, push L F, V), LI_push hA (Nat.le_refl T) ?_ ?_, fun D s hw h => ?_⟩
  · obtain ⟨t, ht, hS⟩ := hF
    exact ⟨t, ht, FS_send hS (by omega) ⟨c3.1, c3.2, c4.1, c4.2⟩⟩
  · refine Has_of hA.2.1 ?_ ?_ <;> simp (disch := omega) only [upd2_o]
  · obtain ⟨D', q1, q2, q3⟩ := a_walk hw h hF c3 c4 h9 hn hi
    exact ⟨D', t_tryWalk hw q1, q2, q3⟩
theorem ac_set0 (hA : LI (F, L, V) T) {v : Int32} (hv : 1 ≤ v ∧ v ≤ 9) : LI (upd2 F 0 7 v, push L F, V) T ∧ Dn w (fun D s => f_LW_tryLay w D s 0 v) (F, L, V) (upd2 F 0 7 v, push L F, V) (F 0 7) := by
  have hF : FT F T := hA.1.1
  refine ⟨LI_push hA (Nat.le_refl T) ?_ ?_, fun D s hw h => ?_⟩
  · obtain ⟨t, ht, hS⟩ := hF
    exact ⟨t, ht, FS_set7 hS hv⟩
  · refine Has_of hA.2.1 ?_ ?_ <;> simp (disch := omega) only [upd2_o]
  · obtain ⟨D', q1, q2, q3⟩ := a_set0 hw h hF hv
    exact ⟨D', t_tryLay hw q1, q2, q3⟩
theorem ac_set1 (hA : LI (F, L, V) T) {v : Int32} (hv : 1 ≤ v ∧ v ≤ 99) : LI (upd2 F 0 8 v, push L F, V) T ∧ Dn w (fun D s => f_LW_tryLay w D s 1 v) (F, L, V) (upd2 F 0 8 v, push L F, V) (F 0 8) := by
  have hF : FT F T := hA.1.1
  refine ⟨LI_push hA (Nat.le_refl T) ?_ ?_, fun D s hw h => ?_⟩
  · obtain ⟨t, ht, hS⟩ := hF
    exact ⟨t, ht, FS_set8 hS hv⟩
  · refine Has_of hA.2.1 ?_ ?_ <;> simp (disch := omega) only [upd2_o]
  · obtain ⟨D', q1, q2, q3⟩ := a_set1 hw h hF hv
    exact ⟨D', t_tryLay hw q1, q2, q3⟩
theorem Has_itk (hF : FT F T) (hH : Has F) {n : Nat} (hT : T + n < 1000000) : Has (itk F n) := by
  obtain ⟨t, ht, hS⟩ := hF
  have hK := itk_Kp hS n (by omega)
  exact Has_of hH (hK 1 7 (by unfold Kc; omega)) (hK 9 6 (by unfold Kc; omega))
theorem ac_ticks (hA : LI (F, L, V) T) (hT : T + 99 < 1000000) {n : Nat} (hn : 1 ≤ n ∧ n ≤ 99) : ∃ v, LI (itk F n, push L F, V) (T + n) ∧ Dn w (fun D s => f_LW_tryTicks w D s (nI n)) (F, L, V) (itk F n, push L F, V) v := by
  have hF : FT F T := hA.1.1
  refine ⟨(itk F n 26 6 + itk F n 26 7) - (F 26 6 + F 26 7), LI_push hA (by omega) (addT hF (by omega) (by omega)).1 (Has_itk hF hA.2.1 (by omega)), fun D s hw h => ?_⟩
  obtain ⟨D', q1, q2, q3⟩ := a_ticks hw h hF hn hT
  exact ⟨D', t_tryTicks hw q1, q2, q3⟩
theorem ac_undo (hA : LI (F, L, V) T) (ht : (2 : Int32) ≤ F 0 5) : ∃ v A', LI A' T ∧ Dn w (fun D s => f_LW_tryUndo w D s) (F, L, V) A' v := by
  have hF : FT F T := hA.1.1
  by_cases hne : L = []
  · subst hne
    exact ⟨-9999003, _, hA, Dn_no (fun D s hw h => t_tryUndo_S hw (x_undo hw h))⟩
  · have hLe := List.dropLast_concat_getLast hne
    generalize L.dropLast = Z at hLe
    generalize L.getLast hne = f at hLe
    subst hLe
    obtain ⟨⟨a1, a2, a3⟩, b, c, d⟩ := hA
    obtain ⟨c1, c2⟩ := Stk_undo c ht
    have hf : FT f T := a2 f (List.mem_append_right _ (List.mem_singleton_self f))
    refine ⟨nI Z.length, (f, Z, V), ⟨⟨hf, fun g hg => a2 g (List.mem_append_left _ hg), a3⟩, c2, c1, d⟩, fun D s hw h => ?_⟩
    obtain ⟨D', q1, q2, q3⟩ := a_undo hw h (FT_NZ hf) (FT_NZ hF)
    exact ⟨D', t_tryUndo hw q1, q2, q3⟩
theorem ac_save (hA : LI (F, L, V) T) {i : Nat} (hi : i < 2) : ∃ v A', LI A' T ∧ Dn w (fun D s => f_LW_tryKeep w D s (nI i)) (F, L, V) A' v := by
  obtain ⟨⟨a1, a2, a3⟩, b, c, d⟩ := hA
  refine ⟨F 0 5, (F, L, fun j => if j = i then some F else V j), ⟨⟨a1, a2, fun j f hf => ?_⟩, b, c, fun j f hf => ?_⟩, fun D s hw h => ?_⟩
  · have hf : (if j = i then some F else V j) = some f := hf
    split at hf
    · cases hf; exact a1
    · exact a3 j f hf
  · have hf : (if j = i then some F else V j) = some f := hf
    split at hf
    · cases hf; exact b
    · exact d j f hf
  · obtain ⟨D', q1, q2, q3⟩ := a_save hw h (FT_NZ a1) hi
    exact ⟨D', t_tryKeep hw q1, q2, q3⟩
theorem ac_back (hA : LI (F, L, V) T) {i : Nat} (hi : i < 2) : ∃ v A', LI A' T ∧ Dn w (fun D s => f_LW_tryBack w D s (nI i)) (F, L, V) A' v := by
  by_cases hV : V i = none
  · exact ⟨-9999003, _, hA, Dn_no (fun D s hw h => t_tryBack_S hw (x_restore hw h hi hV))⟩
  · obtain ⟨⟨a1, a2, a3⟩, b, c, d⟩ := hA
    obtain ⟨f, hf⟩ := Option.ne_none_iff_exists'.1 hV
    refine ⟨f 0 5, (f, [], V), ⟨⟨a3 i f hf, fun g hg => (nomatch hg), a3⟩, d i f hf, ⟨[], [], rfl, fun g hg => (nomatch hg), Or.inl rfl⟩, d⟩, fun D s hw h => ?_⟩
    obtain ⟨D', q1, q2, q3⟩ := a_restore hw h (FT_NZ a1) hi hf (FT_NZ (a3 i f hf))
    exact ⟨D', t_tryBack hw q1, q2, q3⟩
end P66
section A66
variable {w : zW} {D : zD} {s n y : Nat}
theorem act_0 (hn : n < 2 ^ 31) (hd : nI n / (16 : Int32) = nI y) (hy : y < 2 ^ 27) (e : zirem (nI n) (16 : Int32) = 0) : f_LW_act w D s (nI n) = f_LW_sirens w D s (nI (y % 61) - 30) (nI (y / 61 % 61) - 30) (1 + nI (y / 3721 % 5)) (nI (y / 18605 % 7) - 3) (1 + nI (y / 130235 % 20)) := by
  unfold f_LW_act
  simp (disch := omega) only [↓zjpE, ↓zletE, ↓zciE, ↓zcvE, ↓zchkE, ↓reduceIte, zciE, zcvE, nI_1, ↓cl_0, ↓cl_1, ↓cl_2, ↓cl_3, ↓cl_4, ↓cl_5, ↓cl_6, ↓cl_7, ↓cl_8, ↓cl_9, ↓cl_10, ↓cl_11, ↓cl_12, ↓cl_13, ↓cl_14, ↓cl_15, ↓cl_16, hd, e, rl61, rl5, rl7, rl20, dl61, dl3721, dl18605, dl130235, zci_eta]
theorem act_1 (hn : n < 2 ^ 31) (hd : nI n / (16 : Int32) = nI y) (hy : y < 2 ^ 27) (e : zirem (nI n) (16 : Int32) = 1) : f_LW_act w D s (nI n) = f_LW_hearers w D s (nI (y % 81) - 40) (nI (y / 81 % 81) - 40) (nI (y / 6561 % 5) - 2) (nI (y / 32805 % 5) - 2) := by
  have n0 : ¬ (1 : Int32) = (0 : Int32) := by decide
  unfold f_LW_act
  simp (disch := omega) only [↓zjpE, ↓zletE, ↓zciE, ↓zcvE, ↓zchkE, ↓reduceIte, zciE, zcvE, nI_1, ↓cl_0, ↓cl_1, ↓cl_2, ↓cl_3, ↓cl_4, ↓cl_5, ↓cl_6, ↓cl_7, ↓cl_8, ↓cl_9, ↓cl_10, ↓cl_11, ↓cl_12, ↓cl_13, ↓cl_14, ↓cl_15, ↓cl_16, hd, e, n0, rl81, rl5, dl81, dl6561, dl32805, zci_eta]
theorem act_2a (hn : n < 2 ^ 31) (hd : nI n / (16 : Int32) = nI y) (hy : y < 2 ^ 27) (e : zirem (nI n) (16 : Int32) = 2) (h2 : zirem (nI y) (2 : Int32) = 0) : f_LW_act w D s (nI n) = f_LW_walls w D s 1 (nI (y / 2 % 81) - 40) := by
  have n0 : ¬ (2 : Int32) = (0 : Int32) := by decide
  have n1 : ¬ (2 : Int32) = (1 : Int32) := by decide
  unfold f_LW_act
  simp (disch := omega) only [↓zjpE, ↓zletE, ↓zciE, ↓zcvE, ↓zchkE, ↓reduceIte, zciE, zcvE, nI_1, ↓cl_0, ↓cl_1, ↓cl_2, ↓cl_3, ↓cl_4, ↓cl_5, ↓cl_6, ↓cl_7, ↓cl_8, ↓cl_9, ↓cl_10, ↓cl_11, ↓cl_12, ↓cl_13, ↓cl_14, ↓cl_15, ↓cl_16, hd, e, n0, n1, h2, rl81, dl2, zci_eta]
theorem act_2b (hn : n < 2 ^ 31) (hd : nI n / (16 : Int32) = nI y) (hy : y < 2 ^ 27) (e : zirem (nI n) (16 : Int32) = 2) (h2 : ¬ zirem (nI y) (2 : Int32) = 0) : f_LW_act w D s (nI n) = f_LW_walls w D s 0 (nI (y / 2 % 81) - 40) := by
  have n0 : ¬ (2 : Int32) = (0 : Int32) := by decide
  have n1 : ¬ (2 : Int32) = (1 : Int32) := by decide
  unfold f_LW_act
  simp (disch := omega) only [↓zjpE, ↓zletE, ↓zciE, ↓zcvE, ↓zchkE, ↓reduceIte, zciE, zcvE, nI_1, ↓cl_0, ↓cl_1, ↓cl_2, ↓cl_3, ↓cl_4, ↓cl_5, ↓cl_6, ↓cl_7, ↓cl_8, ↓cl_9, ↓cl_10, ↓cl_11, ↓cl_12, ↓cl_13, ↓cl_14, ↓cl_15, ↓cl_16, hd, e, n0, n1, h2, rl81, dl2, zci_eta]
theorem act_3a (hn : n < 2 ^ 31) (hd : nI n / (16 : Int32) = nI y) (hy : y < 2 ^ 27) (e : zirem (nI n) (16 : Int32) = 3) {ns i : Nat} (a0 : f_LW_tryAbout w D s 0 = some (nI ns, D)) (hns : ¬ nI ns = 0) (hi : zirem (nI y) (nI ns) = nI i) (h3 : nI (y / 4 % 3) ≤ 0) : f_LW_act w D s (nI n) = f_LW_turned w D s (nI i) 0 := by
  have n0 : ¬ (3 : Int32) = (0 : Int32) := by decide
  have n1 : ¬ (3 : Int32) = (1 : Int32) := by decide
  have n2 : ¬ (3 : Int32) = (2 : Int32) := by decide
  unfold f_LW_act
  simp (disch := omega) only [↓zjpE, ↓zletE, ↓zciE, ↓zcvE, ↓zchkE, ↓reduceIte, zciE, zcvE, nI_1, ↓cl_0, ↓cl_1, ↓cl_2, ↓cl_3, ↓cl_4, ↓cl_5, ↓cl_6, ↓cl_7, ↓cl_8, ↓cl_9, ↓cl_10, ↓cl_11, ↓cl_12, ↓cl_13, ↓cl_14, ↓cl_15, ↓cl_16, hd, e, n0, n1, n2, ↓zciX a0, hns, hi, not_false_eq_true, ↓zchkE, rl3, dl4, h3, zci_eta]
theorem act_3b (hn : n < 2 ^ 31) (hd : nI n / (16 : Int32) = nI y) (hy : y < 2 ^ 27) (e : zirem (nI n) (16 : Int32) = 3) {ns i : Nat} (a0 : f_LW_tryAbout w D s 0 = some (nI ns, D)) (hns : ¬ nI ns = 0) (hi : zirem (nI y) (nI ns) = nI i) (h3 : ¬ nI (y / 4 % 3) ≤ 0) : f_LW_act w D s (nI n) = f_LW_turned w D s (nI i) 1 := by
  have n0 : ¬ (3 : Int32) = (0 : Int32) := by decide
  have n1 : ¬ (3 : Int32) = (1 : Int32) := by decide
  have n2 : ¬ (3 : Int32) = (2 : Int32) := by decide
  unfold f_LW_act
  simp (disch := omega) only [↓zjpE, ↓zletE, ↓zciE, ↓zcvE, ↓zchkE, ↓reduceIte, zciE, zcvE, nI_1, ↓cl_0, ↓cl_1, ↓cl_2, ↓cl_3, ↓cl_4, ↓cl_5, ↓cl_6, ↓cl_7, ↓cl_8, ↓cl_9, ↓cl_10, ↓cl_11, ↓cl_12, ↓cl_13, ↓cl_14, ↓cl_15, ↓cl_16, hd, e, n0, n1, n2, ↓zciX a0, hns, hi, not_false_eq_true, ↓zchkE, rl3, dl4, h3, zci_eta]
theorem act_4a (hn : n < 2 ^ 31) (hd : nI n / (16 : Int32) = nI y) (hy : y < 2 ^ 27) (e : zirem (nI n) (16 : Int32) = 4) {ns i : Nat} (a0 : f_LW_tryAbout w D s 0 = some (nI ns, D)) (hns : ¬ nI ns = 0) (hi : zirem (nI y) (nI ns) = nI i) (h3 : nI (y / 4 % 3) ≤ 0) : f_LW_act w D s (nI n) = f_LW_turned w D s (nI i) 0 := by
  have n0 : ¬ (4 : Int32) = (0 : Int32) := by decide
  have n1 : ¬ (4 : Int32) = (1 : Int32) := by decide
  have n2 : ¬ (4 : Int32) = (2 : Int32) := by decide
  have n3 : ¬ (4 : Int32) = (3 : Int32) := by decide
  unfold f_LW_act
  simp (disch := omega) only [↓zjpE, ↓zletE, ↓zciE, ↓zcvE, ↓zchkE, ↓reduceIte, zciE, zcvE, nI_1, ↓cl_0, ↓cl_1, ↓cl_2, ↓cl_3, ↓cl_4, ↓cl_5, ↓cl_6, ↓cl_7, ↓cl_8, ↓cl_9, ↓cl_10, ↓cl_11, ↓cl_12, ↓cl_13, ↓cl_14, ↓cl_15, ↓cl_16, hd, e, n0, n1, n2, n3, ↓zciX a0, hns, hi, not_false_eq_true, ↓zchkE, rl3, dl4, h3, zci_eta]
theorem act_4b (hn : n < 2 ^ 31) (hd : nI n / (16 : Int32) = nI y) (hy : y < 2 ^ 27) (e : zirem (nI n) (16 : Int32) = 4) {ns i : Nat} (a0 : f_LW_tryAbout w D s 0 = some (nI ns, D)) (hns : ¬ nI ns = 0) (hi : zirem (nI y) (nI ns) = nI i) (h3 : ¬ nI (y / 4 % 3) ≤ 0) : f_LW_act w D s (nI n) = f_LW_turned w D s (nI i) 1 := by
  have n0 : ¬ (4 : Int32) = (0 : Int32) := by decide
  have n1 : ¬ (4 : Int32) = (1 : Int32) := by decide
  have n2 : ¬ (4 : Int32) = (2 : Int32) := by decide
  have n3 : ¬ (4 : Int32) = (3 : Int32) := by decide
  unfold f_LW_act
  simp (disch := omega) only [↓zjpE, ↓zletE, ↓zciE, ↓zcvE, ↓zchkE, ↓reduceIte, zciE, zcvE, nI_1, ↓cl_0, ↓cl_1, ↓cl_2, ↓cl_3, ↓cl_4, ↓cl_5, ↓cl_6, ↓cl_7, ↓cl_8, ↓cl_9, ↓cl_10, ↓cl_11, ↓cl_12, ↓cl_13, ↓cl_14, ↓cl_15, ↓cl_16, hd, e, n0, n1, n2, n3, ↓zciX a0, hns, hi, not_false_eq_true, ↓zchkE, rl3, dl4, h3, zci_eta]
theorem act_5 (hn : n < 2 ^ 31) (hd : nI n / (16 : Int32) = nI y) (hy : y < 2 ^ 27) (e : zirem (nI n) (16 : Int32) = 5) {nh i : Nat} (a1 : f_LW_tryAbout w D s 1 = some (nI nh, D)) (hnh : ¬ nI nh = 0) (hi : zirem (nI y) (nI nh) = nI i) : f_LW_act w D s (nI n) = f_LW_tryWalk w D s (nI i) (nI (y / 4 % 5) - 2) (nI (y / 20 % 5) - 2) := by
  have n0 : ¬ (5 : Int32) = (0 : Int32) := by decide
  have n1 : ¬ (5 : Int32) = (1 : Int32) := by decide
  have n2 : ¬ (5 : Int32) = (2 : Int32) := by decide
  have n3 : ¬ (5 : Int32) = (3 : Int32) := by decide
  have n4 : ¬ (5 : Int32) = (4 : Int32) := by decide
  unfold f_LW_act
  simp (disch := omega) only [↓zjpE, ↓zletE, ↓zciE, ↓zcvE, ↓zchkE, ↓reduceIte, zciE, zcvE, nI_1, ↓cl_0, ↓cl_1, ↓cl_2, ↓cl_3, ↓cl_4, ↓cl_5, ↓cl_6, ↓cl_7, ↓cl_8, ↓cl_9, ↓cl_10, ↓cl_11, ↓cl_12, ↓cl_13, ↓cl_14, ↓cl_15, ↓cl_16, hd, e, n0, n1, n2, n3, n4, ↓zciX a1, hnh, hi, not_false_eq_true, ↓zchkE, rl5, dl4, dl20, zci_eta]
theorem act_6 (hn : n < 2 ^ 31) (hd : nI n / (16 : Int32) = nI y) (hy : y < 2 ^ 27) (e : zirem (nI n) (16 : Int32) = 6) : f_LW_act w D s (nI n) = f_LW_tryLay w D s 0 (1 + nI (y % 9)) := by
  have n0 : ¬ (6 : Int32) = (0 : Int32) := by decide
  have n1 : ¬ (6 : Int32) = (1 : Int32) := by decide
  have n2 : ¬ (6 : Int32) = (2 : Int32) := by decide
  have n3 : ¬ (6 : Int32) = (3 : Int32) := by decide
  have n4 : ¬ (6 : Int32) = (4 : Int32) := by decide
  have n5 : ¬ (6 : Int32) = (5 : Int32) := by decide
  unfold f_LW_act
  simp (disch := omega) only [↓zjpE, ↓zletE, ↓zciE, ↓zcvE, ↓zchkE, ↓reduceIte, zciE, zcvE, nI_1, ↓cl_0, ↓cl_1, ↓cl_2, ↓cl_3, ↓cl_4, ↓cl_5, ↓cl_6, ↓cl_7, ↓cl_8, ↓cl_9, ↓cl_10, ↓cl_11, ↓cl_12, ↓cl_13, ↓cl_14, ↓cl_15, ↓cl_16, hd, e, n0, n1, n2, n3, n4, n5, rl9, zci_eta]
theorem act_7 (hn : n < 2 ^ 31) (hd : nI n / (16 : Int32) = nI y) (hy : y < 2 ^ 27) (e : zirem (nI n) (16 : Int32) = 7) : f_LW_act w D s (nI n) = f_LW_tryLay w D s 1 (1 + nI (y % 99)) := by
  have n0 : ¬ (7 : Int32) = (0 : Int32) := by decide
  have n1 : ¬ (7 : Int32) = (1 : Int32) := by decide
  have n2 : ¬ (7 : Int32) = (2 : Int32) := by decide
  have n3 : ¬ (7 : Int32) = (3 : Int32) := by decide
  have n4 : ¬ (7 : Int32) = (4 : Int32) := by decide
  have n5 : ¬ (7 : Int32) = (5 : Int32) := by decide
  have n6 : ¬ (7 : Int32) = (6 : Int32) := by decide
  unfold f_LW_act
  simp (disch := omega) only [↓zjpE, ↓zletE, ↓zciE, ↓zcvE, ↓zchkE, ↓reduceIte, zciE, zcvE, nI_1, ↓cl_0, ↓cl_1, ↓cl_2, ↓cl_3, ↓cl_4, ↓cl_5, ↓cl_6, ↓cl_7, ↓cl_8, ↓cl_9, ↓cl_10, ↓cl_11, ↓cl_12, ↓cl_13, ↓cl_14, ↓cl_15, ↓cl_16, hd, e, n0, n1, n2, n3, n4, n5, n6, rl99, zci_eta]
theorem act_8a (hn : n < 2 ^ 31) (hd : nI n / (16 : Int32) = nI y) (hy : y < 2 ^ 27) (e : zirem (nI n) (16 : Int32) = 8) {t : Int32} (a3 : f_LW_tryAbout w D s 3 = some (t, D)) (h2 : (2 : Int32) ≤ t) : f_LW_act w D s (nI n) = f_LW_tryUndo w D s := by
  have n0 : ¬ (8 : Int32) = (0 : Int32) := by decide
  have n1 : ¬ (8 : Int32) = (1 : Int32) := by decide
  have n2 : ¬ (8 : Int32) = (2 : Int32) := by decide
  have n3 : ¬ (8 : Int32) = (3 : Int32) := by decide
  have n4 : ¬ (8 : Int32) = (4 : Int32) := by decide
  have n5 : ¬ (8 : Int32) = (5 : Int32) := by decide
  have n6 : ¬ (8 : Int32) = (6 : Int32) := by decide
  have n7 : ¬ (8 : Int32) = (7 : Int32) := by decide
  unfold f_LW_act
  simp (disch := omega) only [↓zjpE, ↓zletE, ↓zciE, ↓zcvE, ↓zchkE, ↓reduceIte, zciE, zcvE, nI_1, ↓cl_0, ↓cl_1, ↓cl_2, ↓cl_3, ↓cl_4, ↓cl_5, ↓cl_6, ↓cl_7, ↓cl_8, ↓cl_9, ↓cl_10, ↓cl_11, ↓cl_12, ↓cl_13, ↓cl_14, ↓cl_15, ↓cl_16, hd, e, n0, n1, n2, n3, n4, n5, n6, n7, ↓zciX a3, h2, zci_eta]
theorem act_8b (hn : n < 2 ^ 31) (hd : nI n / (16 : Int32) = nI y) (hy : y < 2 ^ 27) (e : zirem (nI n) (16 : Int32) = 8) {t : Int32} (a3 : f_LW_tryAbout w D s 3 = some (t, D)) (h2 : ¬ (2 : Int32) ≤ t) : f_LW_act w D s (nI n) = some (-1, D) := by
  have n0 : ¬ (8 : Int32) = (0 : Int32) := by decide
  have n1 : ¬ (8 : Int32) = (1 : Int32) := by decide
  have n2 : ¬ (8 : Int32) = (2 : Int32) := by decide
  have n3 : ¬ (8 : Int32) = (3 : Int32) := by decide
  have n4 : ¬ (8 : Int32) = (4 : Int32) := by decide
  have n5 : ¬ (8 : Int32) = (5 : Int32) := by decide
  have n6 : ¬ (8 : Int32) = (6 : Int32) := by decide
  have n7 : ¬ (8 : Int32) = (7 : Int32) := by decide
  unfold f_LW_act
  simp (disch := omega) only [↓zjpE, ↓zletE, ↓zciE, ↓zcvE, ↓zchkE, ↓reduceIte, zciE, zcvE, nI_1, ↓cl_0, ↓cl_1, ↓cl_2, ↓cl_3, ↓cl_4, ↓cl_5, ↓cl_6, ↓cl_7, ↓cl_8, ↓cl_9, ↓cl_10, ↓cl_11, ↓cl_12, ↓cl_13, ↓cl_14, ↓cl_15, ↓cl_16, hd, e, n0, n1, n2, n3, n4, n5, n6, n7, ↓zciX a3, h2, zci_eta]
theorem act_9a (hn : n < 2 ^ 31) (hd : nI n / (16 : Int32) = nI y) (hy : y < 2 ^ 27) (e : zirem (nI n) (16 : Int32) = 9) (h2 : nI (y % 2) = 0) : f_LW_act w D s (nI n) = f_LW_tryKeep w D s (nI (y / 2 % 2)) := by
  have n0 : ¬ (9 : Int32) = (0 : Int32) := by decide
  have n1 : ¬ (9 : Int32) = (1 : Int32) := by decide
  have n2 : ¬ (9 : Int32) = (2 : Int32) := by decide
  have n3 : ¬ (9 : Int32) = (3 : Int32) := by decide
  have n4 : ¬ (9 : Int32) = (4 : Int32) := by decide
  have n5 : ¬ (9 : Int32) = (5 : Int32) := by decide
  have n6 : ¬ (9 : Int32) = (6 : Int32) := by decide
  have n7 : ¬ (9 : Int32) = (7 : Int32) := by decide
  have n8 : ¬ (9 : Int32) = (8 : Int32) := by decide
  unfold f_LW_act
  simp (disch := omega) only [↓zjpE, ↓zletE, ↓zciE, ↓zcvE, ↓zchkE, ↓reduceIte, zciE, zcvE, nI_1, ↓cl_0, ↓cl_1, ↓cl_2, ↓cl_3, ↓cl_4, ↓cl_5, ↓cl_6, ↓cl_7, ↓cl_8, ↓cl_9, ↓cl_10, ↓cl_11, ↓cl_12, ↓cl_13, ↓cl_14, ↓cl_15, ↓cl_16, hd, e, n0, n1, n2, n3, n4, n5, n6, n7, n8, h2, rl2, dl2, zci_eta]
theorem act_9b (hn : n < 2 ^ 31) (hd : nI n / (16 : Int32) = nI y) (hy : y < 2 ^ 27) (e : zirem (nI n) (16 : Int32) = 9) (h2 : ¬ nI (y % 2) = 0) : f_LW_act w D s (nI n) = f_LW_tryBack w D s (nI (y / 2 % 2)) := by
  have n0 : ¬ (9 : Int32) = (0 : Int32) := by decide
  have n1 : ¬ (9 : Int32) = (1 : Int32) := by decide
  have n2 : ¬ (9 : Int32) = (2 : Int32) := by decide
  have n3 : ¬ (9 : Int32) = (3 : Int32) := by decide
  have n4 : ¬ (9 : Int32) = (4 : Int32) := by decide
  have n5 : ¬ (9 : Int32) = (5 : Int32) := by decide
  have n6 : ¬ (9 : Int32) = (6 : Int32) := by decide
  have n7 : ¬ (9 : Int32) = (7 : Int32) := by decide
  have n8 : ¬ (9 : Int32) = (8 : Int32) := by decide
  unfold f_LW_act
  simp (disch := omega) only [↓zjpE, ↓zletE, ↓zciE, ↓zcvE, ↓zchkE, ↓reduceIte, zciE, zcvE, nI_1, ↓cl_0, ↓cl_1, ↓cl_2, ↓cl_3, ↓cl_4, ↓cl_5, ↓cl_6, ↓cl_7, ↓cl_8, ↓cl_9, ↓cl_10, ↓cl_11, ↓cl_12, ↓cl_13, ↓cl_14, ↓cl_15, ↓cl_16, hd, e, n0, n1, n2, n3, n4, n5, n6, n7, n8, h2, rl2, dl2, zci_eta]
theorem act_k {k : Nat} (hn : n < 2 ^ 31) (hd : nI n / (16 : Int32) = nI y) (hy : y < 2 ^ 27) (e : zirem (nI n) (16 : Int32) = nI k) (hk : 10 ≤ k ∧ k < 16) : f_LW_act w D s (nI n) = f_LW_tryTicks w D s (1 + nI (y % 15)) := by
  have n0 : ¬ nI k = (0 : Int32) := fun h => absurd (nI_inj (n := 0) h (by omega) (by omega)) (by omega)
  have n1 : ¬ nI k = (1 : Int32) := fun h => absurd (nI_inj (n := 1) h (by omega) (by omega)) (by omega)
  have n2 : ¬ nI k = (2 : Int32) := fun h => absurd (nI_inj (n := 2) h (by omega) (by omega)) (by omega)
  have n3 : ¬ nI k = (3 : Int32) := fun h => absurd (nI_inj (n := 3) h (by omega) (by omega)) (by omega)
  have n4 : ¬ nI k = (4 : Int32) := fun h => absurd (nI_inj (n := 4) h (by omega) (by omega)) (by omega)
  have n5 : ¬ nI k = (5 : Int32) := fun h => absurd (nI_inj (n := 5) h (by omega) (by omega)) (by omega)
  have n6 : ¬ nI k = (6 : Int32) := fun h => absurd (nI_inj (n := 6) h (by omega) (by omega)) (by omega)
  have n7 : ¬ nI k = (7 : Int32) := fun h => absurd (nI_inj (n := 7) h (by omega) (by omega)) (by omega)
  have n8 : ¬ nI k = (8 : Int32) := fun h => absurd (nI_inj (n := 8) h (by omega) (by omega)) (by omega)
  have n9 : ¬ nI k = (9 : Int32) := fun h => absurd (nI_inj (n := 9) h (by omega) (by omega)) (by omega)
  unfold f_LW_act
  simp (disch := omega) only [↓zjpE, ↓zletE, ↓zciE, ↓zcvE, ↓zchkE, ↓reduceIte, zciE, zcvE, nI_1, ↓cl_0, ↓cl_1, ↓cl_2, ↓cl_3, ↓cl_4, ↓cl_5, ↓cl_6, ↓cl_7, ↓cl_8, ↓cl_9, ↓cl_10, ↓cl_11, ↓cl_12, ↓cl_13, ↓cl_14, ↓cl_15, ↓cl_16, hd, e, n0, n1, n2, n3, n4, n5, n6, n7, n8, n9, rl15, zci_eta]
end A66
section L66
variable {w : zW} {T n : Nat} {A : OS}
theorem one_nI {k : Nat} : (1 : Int32) + nI k = nI (k + 1) := by rw [show (1 : Int32) = nI 1 from rfl, nI_add, Nat.add_comm]
theorem Dn_eq {g g' : zD → Nat → Option (Int32 × zD)} {A A' : OS} {r : Int32} (h : Dn w g' A A' r) (e : ∀ D s, WL w s → At D s A → g D s = g' D s) : Dn w g A A' r := fun D s hw hA => by
  obtain ⟨D', a1, a2, a3⟩ := h D s hw hA
  exact ⟨D', (e D s hw hA).trans a1, a2, a3⟩
theorem l_act (hn : n < 2 ^ 31) (hT : T + 200 < 1000000) (hA : LI A T) : ∃ r A', LI A' (T + 15) ∧ Dn w (fun D s => f_LW_act w D s (nI n)) A A' r := by
  obtain ⟨F, L, V⟩ := A
  obtain ⟨ns, nh, h1, h2, h3, h4, h5, h6⟩ := show Has F from hA.2.1
  obtain ⟨y, hy⟩ : ∃ y, y = n / 16 := ⟨_, rfl⟩
  have hy2 : y < 2 ^ 27 := by omega
  have hd : nI n / (16 : Int32) = nI y := by rw [hy]; exact dl16 hn
  have he : zirem (nI n) (16 : Int32) = nI (n % 16) := rl16 hn
  have nz : ∀ k, 0 < k → k ≤ 4 → ¬ nI k = 0 := fun k h0 h4 h => absurd (nI_inj (n := 0) h (by omega) (by omega)) (by omega)
  have rm : ∀ k, 0 < k → k ≤ 4 → zirem (nI y) (nI k) = nI (y % k) := fun k h0 h4 => pk_rem (d := k) (by omega) h0 (by omega)
  have up : ∀ {g : zD → Nat → Option (Int32 × zD)}, (∃ r A', LI A' T ∧ Dn w g (F, L, V) A' r) → (∀ D s, WL w s → At D s (F, L, V) → f_LW_act w D s (nI n) = g D s) → ∃ r A', LI A' (T + 15) ∧ Dn w (fun D s => f_LW_act w D s (nI n)) (F, L, V) A' r := fun {g} ⟨r, A', q1, q2⟩ e => ⟨r, A', LI_le q1 (by omega), Dn_eq q2 e⟩
  have hcase : n % 16 = 0 ∨ n % 16 = 1 ∨ n % 16 = 2 ∨ n % 16 = 3 ∨ n % 16 = 4 ∨ n % 16 = 5 ∨ n % 16 = 6 ∨ n % 16 = 7 ∨ n % 16 = 8 ∨ n % 16 = 9 ∨ (10 ≤ n % 16 ∧ n % 16 < 16) := by omega
  rcases hcase with h | h | h | h | h | h | h | h | h | h | h
  · rw [h] at he
    exact up (ac_siren hA (is_new (j1 := y % 61) (j2 := y / 61 % 61) (j3 := y / 3721 % 5) (j4 := y / 18605 % 7) (j5 := y / 130235 % 20) (by omega) (by omega) (by omega) (by omega) (by omega))) (fun D s _ _ => act_0 hn hd hy2 he)
  · rw [h] at he
    exact up (ac_hearer hA (hv_new (j1 := y % 81) (j2 := y / 81 % 81) (j3 := y / 6561 % 5) (j4 := y / 32805 % 5) (by omega) (by omega) (by omega) (by omega))) (fun D s _ _ => act_1 hn hd hy2 he)
  · rw [h] at he
    by_cases hp : zirem (nI y) (2 : Int32) = 0
    · exact up (ac_wall hA (Or.inr rfl) (at_new (j := y / 2 % 81) (by omega))) (fun D s _ _ => act_2a hn hd hy2 he hp)
    · exact up (ac_wall hA (Or.inl rfl) (at_new (j := y / 2 % 81) (by omega))) (fun D s _ _ => act_2b hn hd hy2 he hp)
  · rw [h] at he
    have hi : y % ns < ns := Nat.mod_lt _ h2
    by_cases hp : nI (y / 4 % 3) ≤ 0
    · obtain ⟨r, q1, -, q2⟩ := ac_turn (w := w) hA (v := 0) (Or.inl rfl) h1 h3 hi
      exact up ⟨r, _, q1, q2⟩ (fun D s hw hX => act_3a hn hd hy2 he (t_tryAbout hw (by rw [← h1]; exact qa_0 hw hX.1)) (nz ns h2 h3) (rm ns h2 h3) hp)
    · obtain ⟨r, q1, -, q2⟩ := ac_turn (w := w) hA (v := 1) (Or.inr rfl) h1 h3 hi
      exact up ⟨r, _, q1, q2⟩ (fun D s hw hX => act_3b hn hd hy2 he (t_tryAbout hw (by rw [← h1]; exact qa_0 hw hX.1)) (nz ns h2 h3) (rm ns h2 h3) hp)
  · rw [h] at he
    have hi : y % ns < ns := Nat.mod_lt _ h2
    by_cases hp : nI (y / 4 % 3) ≤ 0
    · obtain ⟨r, q1, -, q2⟩ := ac_turn (w := w) hA (v := 0) (Or.inl rfl) h1 h3 hi
      exact up ⟨r, _, q1, q2⟩ (fun D s hw hX => act_4a hn hd hy2 he (t_tryAbout hw (by rw [← h1]; exact qa_0 hw hX.1)) (nz ns h2 h3) (rm ns h2 h3) hp)
    · obtain ⟨r, q1, -, q2⟩ := ac_turn (w := w) hA (v := 1) (Or.inr rfl) h1 h3 hi
      exact up ⟨r, _, q1, q2⟩ (fun D s hw hX => act_4b hn hd hy2 he (t_tryAbout hw (by rw [← h1]; exact qa_0 hw hX.1)) (nz ns h2 h3) (rm ns h2 h3) hp)
  · rw [h] at he
    have hi : y % nh < nh := Nat.mod_lt _ h5
    obtain ⟨-, -, -, -, c1, c2, c3, c4⟩ := hv_new (j1 := 0) (j2 := 0) (j3 := y / 4 % 5) (j4 := y / 20 % 5) (by omega) (by omega) (by omega) (by omega)
    exact up (ac_walk hA ⟨c1, c2⟩ ⟨c3, c4⟩ h4 h6 hi) (fun D s hw hX => act_5 hn hd hy2 he (t_tryAbout hw (by rw [← h4]; exact qa_1 hw hX.1)) (nz nh h5 h6) (rm nh h5 h6))
  · rw [h] at he
    obtain ⟨q1, q2⟩ := ac_set0 (w := w) hA (c_new (j := y % 9) (by omega))
    exact up ⟨_, _, q1, q2⟩ (fun D s _ _ => act_6 hn hd hy2 he)
  · rw [h] at he
    have hv : (1 : Int32) ≤ 1 + nI (y % 99) ∧ 1 + nI (y % 99) ≤ (99 : Int32) := by
      rw [one_nI]
      exact ⟨by rw [show (1 : Int32) = nI 1 from rfl]; exact nI_le (by omega) (by omega), nI_le (show y % 99 + 1 ≤ 99 by omega) (by decide)⟩
    obtain ⟨q1, q2⟩ := ac_set1 (w := w) hA hv
    exact up ⟨_, _, q1, q2⟩ (fun D s _ _ => act_7 hn hd hy2 he)
  · rw [h] at he
    by_cases hp : (2 : Int32) ≤ F 0 5
    · exact up (ac_undo hA hp) (fun D s hw hX => act_8a hn hd hy2 he (t_tryAbout hw (qa_3 hw hX.1)) hp)
    · exact up (g := fun D s => some (-1, D)) ⟨-1, _, hA, Dn_no (fun D s _ _ => rfl)⟩ (fun D s hw hX => act_8b hn hd hy2 he (t_tryAbout hw (qa_3 hw hX.1)) hp)
  · rw [h] at he
    by_cases hp : nI (y % 2) = 0
    · exact up (ac_save hA (i := y / 2 % 2) (by omega)) (fun D s _ _ => act_9a hn hd hy2 he hp)
    · exact up (ac_back hA (i := y / 2 % 2) (by omega)) (fun D s _ _ => act_9b hn hd hy2 he hp)
  · obtain ⟨v, q1, q2⟩ := ac_ticks (w := w) hA (by omega) (n := y % 15 + 1) ⟨by omega, by omega⟩
    refine ⟨v, _, LI_le q1 (by omega), Dn_eq q2 (fun D s _ _ => ?_)⟩
    show f_LW_act w D s (nI n) = f_LW_tryTicks w D s (nI (y % 15 + 1))
    rw [← one_nI]
    exact act_k hn hd hy2 he h
/-- all that is refused is refused -/
theorem l_refuses (hA : LI A T) {s : Nat} {D : zD} (hw : WL w s) (h : At D s A) (hn : n < 100000) : f_LW_refuses w D s (nI n) = some (1, D) := by
  obtain ⟨F, L, V⟩ := A
  obtain ⟨ns, nh, h1, h2, h3, h4, h5, h6⟩ := show Has F from hA.2.1
  obtain ⟨nw, np, p, b1, b2, b3, b4, b5, b6⟩ := FT_u hA.1.1
  have e9 : 0 ≤ zirem (nI n) 9 ∧ zirem (nI n) 9 ≤ 8 := by rw [rl9 (by omega)]; exact rN (show n % 9 ≤ 8 by omega) (by decide)
  have e99 : 0 ≤ zirem (nI n) 99 ∧ zirem (nI n) 99 ≤ 98 := by rw [rl99 (by omega)]; exact rN (show n % 99 ≤ 98 by omega) (by decide)
  have e50 : 0 ≤ zirem (nI n) 50 ∧ zirem (nI n) 50 ≤ 49 := by rw [rl50 (by omega)]; exact rN (show n % 50 ≤ 49 by omega) (by decide)
  have l0 : ¬ (nI n).toInt64 < 0 := fun hx => absurd (i64_lt.1 (show (nI n).toInt64 < (0 : Int32).toInt64 from hx)) (nI_pos (by omega))
  have l9 : ¬ (99999 : Int64) < (nI n).toInt64 := fun hx => absurd (i64_lt.1 (show (99999 : Int32).toInt64 < (nI n).toInt64 from hx)) (nI_nlt (show n ≤ 99999 by omega) (by decide))
  have hl0 : ¬ (100000 : Int64) + (nI n).toInt64 < 0 := by generalize (nI n).toInt64 = x at l0 l9; clear hA h; grind
  have hl1 : ¬ (100000 : Int64) + (nI n).toInt64 < 100000 := by generalize (nI n).toInt64 = x at l0 l9; clear hA h; grind
  by_cases hz : np = 0
  · by_cases hp : zirem (nI n) 2 = 0
    · exact ref_even0 hw h.1 h1 h3 h2 h4 h6 h5 b1 b2 b5 b6 b3 b4 e9 e99 e50 hl0 hl1 hp hz
    · exact ref_odd0 hw h.1 h1 h3 h2 h4 h6 h5 b1 b2 b5 b6 b3 b4 e9 e99 e50 hl0 hl1 hp hz
  · by_cases hp : zirem (nI n) 2 = 0
    · exact ref_even1 hw h.1 h1 h3 h2 h4 h6 h5 b1 b2 b5 b6 b3 b4 e9 e99 e50 hl0 hl1 hp (Nat.pos_of_ne_zero hz)
    · exact ref_odd1 hw h.1 h1 h3 h2 h4 h6 h5 b1 b2 b5 b6 b3 b4 e9 e99 e50 hl0 hl1 hp (Nat.pos_of_ne_zero hz)
end L66
