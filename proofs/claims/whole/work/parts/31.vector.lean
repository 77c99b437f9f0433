/-! PURE: the model's vector of 521 numbers, seen in a Field's coordinates (o, j). -/
theorem zl (n : Nat) : (OfNat.ofNat n : Int32) = nI n := rfl
def coT (i : Nat) : Nat × Nat := match i with
  | 0 => (1, 7)
  | 1 => (9, 6)
  | 2 => (16, 2)
  | 3 => (0, 5)
  | 4 => (19, 7)
  | 5 => (0, 6)
  | 6 => (26, 6)
  | 7 => (26, 7)
  | 8 => (26, 8)
  | 9 => (0, 7)
  | _ => (0, 8)
def co (i : Nat) : Nat × Nat :=
  if 521 ≤ i then (100, i) else if 161 ≤ i then (20 + (i - 161) % 6, (i - 161) / 6) else if 65 ≤ i then (27 + (i - 65) % 6, (i - 65) / 6)
  else if 59 ≤ i then (17 + (i - 59) % 2, (i - 59) / 2) else if 39 ≤ i then (10 + (i - 39) % 5, (i - 39) / 5)
  else if 11 ≤ i then (if (i - 11) % 7 < 5 then (i - 11) % 7 + 2 else 13 - (i - 11) % 7, (i - 11) / 7) else coT i
def ciT (p : Nat × Nat) : Nat := match p with
  | (1, 7) => 0
  | (9, 6) => 1
  | (16, 2) => 2
  | (0, 5) => 3
  | (19, 7) => 4
  | (0, 6) => 5
  | (26, 6) => 6
  | (26, 7) => 7
  | (26, 8) => 8
  | (0, 7) => 9
  | _ => 10
def ci (p : Nat × Nat) : Nat :=
  if p.1 = 100 then p.2 else if 27 ≤ p.1 then 65 + 6 * p.2 + (p.1 - 27) else if 20 ≤ p.1 ∧ p.1 < 26 then 161 + 6 * p.2 + (p.1 - 20)
  else if 17 ≤ p.1 ∧ p.1 < 19 then 59 + 2 * p.2 + (p.1 - 17) else if 10 ≤ p.1 ∧ p.1 < 15 then 39 + 5 * p.2 + (p.1 - 10)
  else if 2 ≤ p.1 ∧ p.1 < 7 then 11 + 7 * p.2 + (p.1 - 2) else if 7 ≤ p.1 ∧ p.1 < 9 then 11 + 7 * p.2 + (13 - p.1) else ciT p
theorem ci_co (i : Nat) : ci (co i) = i := by
  by_cases h11 : i < 11
  · have : ∀ i, i < 11 → ci (co i) = i := by decide +kernel
    exact this i h11
  · unfold co
    by_cases h1 : 521 ≤ i
    · rw [if_pos h1]; rfl
    · rw [if_neg h1]
      by_cases h2 : 161 ≤ i
      · rw [if_pos h2]; unfold ci; dsimp only; rw [if_neg (by omega), if_neg (by omega), if_pos (by omega)]; omega
      · rw [if_neg h2]
        by_cases h3 : 65 ≤ i
        · rw [if_pos h3]; unfold ci; dsimp only; rw [if_neg (by omega), if_pos (by omega)]; omega
        · rw [if_neg h3]
          by_cases h4 : 59 ≤ i
          · rw [if_pos h4]; unfold ci; dsimp only; rw [if_neg (by omega), if_neg (by omega), if_neg (by omega), if_pos (by omega)]; omega
          · rw [if_neg h4]
            by_cases h5 : 39 ≤ i
            · rw [if_pos h5]; unfold ci; dsimp only; rw [if_neg (by omega), if_neg (by omega), if_neg (by omega), if_neg (by omega), if_pos (by omega)]; omega
            · rw [if_neg h5, if_pos (by omega)]
              by_cases h6 : (i - 11) % 7 < 5
              · rw [if_pos h6]; unfold ci; dsimp only; rw [if_neg (by omega), if_neg (by omega), if_neg (by omega), if_neg (by omega), if_neg (by omega), if_pos (by omega)]; omega
              · rw [if_neg h6]; unfold ci; dsimp only; rw [if_neg (by omega), if_neg (by omega), if_neg (by omega), if_neg (by omega), if_neg (by omega), if_neg (by omega), if_pos (by omega)]; omega
def vec (G : Nat → Nat → Int32) (i : Nat) : Int32 := G (co i).1 (co i).2
/-- a vector's own coordinates -/
def dev (N : Nat → Int32) (o j : Nat) : Int32 := N (ci (o, j))
theorem vec_dev {N : Nat → Int32} : vec (dev N) = N := by
  funext i; show N (ci ((co i).1, (co i).2)) = N i; rw [show ((co i).1, (co i).2) = co i from rfl, ci_co]
theorem upd_vec {G : Nat → Nat → Int32} {i : Nat} {v : Int32} : upd (vec G) i v = vec (upd2 G (co i).1 (co i).2 v) := by
  funext q
  unfold upd vec upd2
  by_cases h : q = i
  · subst h; simp
  · rw [if_neg h]
    by_cases h1 : (co q).1 = (co i).1
    · rw [if_pos h1]
      by_cases h2 : (co q).2 = (co i).2
      · exact absurd (by rw [← ci_co q, ← ci_co i, show co q = co i from Prod.ext h1 h2]) h
      · rw [if_neg h2]
    · rw [if_neg h1]
theorem co_s {k m : Nat} (h : k < 4) (hm : m < 7) : co (11 + 7 * k + m) = (if m < 5 then m + 2 else 13 - m, k) := by
  have h1 : (11 + 7 * k + m - 11) % 7 = m := by omega
  have h2 : (11 + 7 * k + m - 11) / 7 = k := by omega
  unfold co; rw [if_neg (by omega), if_neg (by omega), if_neg (by omega), if_neg (by omega), if_neg (by omega), if_pos (by omega), h1, h2]
theorem co_h {k m : Nat} (h : k < 4) (hm : m < 5) : co (39 + 5 * k + m) = (10 + m, k) := by
  have h1 : (39 + 5 * k + m - 39) % 5 = m := by omega
  have h2 : (39 + 5 * k + m - 39) / 5 = k := by omega
  unfold co; rw [if_neg (by omega), if_neg (by omega), if_neg (by omega), if_neg (by omega), if_pos (by omega), h1, h2]
theorem co_w {k m : Nat} (h : k < 3) (hm : m < 2) : co (59 + 2 * k + m) = (17 + m, k) := by
  have h1 : (59 + 2 * k + m - 59) % 2 = m := by omega
  have h2 : (59 + 2 * k + m - 59) / 2 = k := by omega
  unfold co; rw [if_neg (by omega), if_neg (by omega), if_neg (by omega), if_pos (by omega), h1, h2]
theorem co_e {k m : Nat} (h : k < 16) (hm : m < 6) : co (65 + 6 * k + m) = (27 + m, k) := by
  have h1 : (65 + 6 * k + m - 65) % 6 = m := by omega
  have h2 : (65 + 6 * k + m - 65) / 6 = k := by omega
  unfold co; rw [if_neg (by omega), if_neg (by omega), if_pos (by omega), h1, h2]
theorem co_p {k m : Nat} (h : k < 60) (hm : m < 6) : co (161 + 6 * k + m) = (20 + m, k) := by
  have h1 : (161 + 6 * k + m - 161) % 6 = m := by omega
  have h2 : (161 + 6 * k + m - 161) / 6 = k := by omega
  unfold co; rw [if_neg (by omega), if_pos (by omega), h1, h2]
section MDL
variable {β : Type} {w : zW} {b : Nat} {D : zD} {G : Nat → Nat → Int32}
theorem Mr (h : w.1 b = some (.inl (0, 521))) {i o j : Nat} {v : Int32} {κ : Int32 → Option β} (hi : i < 521) (hc : co i = (o, j)) (hv : v = nI i) : zald w (zset D b (vec G)) 0 b v κ = κ (G o j) := by
  rw [hv, zald_of h hi (by omega), zset_at]; show κ (G (co i).1 (co i).2) = _; rw [hc]
theorem Mw (h : w.1 b = some (.inl (0, 521))) {i o j : Nat} {v x : Int32} {κ : zD → Option β} (hi : i < 521) (hc : co i = (o, j)) (hv : v = nI i) : zast w (zset D b (vec G)) 0 b v x κ = κ (zset D b (vec (upd2 G o j x))) := by
  rw [hv, zast_of h hi (by omega), zup_zset, upd_vec, hc]
theorem Mrc0 (h : w.1 b = some (.inl (0, 521)))  {κ : Int32 → Option β} : zald w (zset D b (vec G)) 0 b (0 : Int32) κ = κ (G 1 7) := Mr h (i := 0) (by omega) (by decide) (rfl)
theorem Mwc0 (h : w.1 b = some (.inl (0, 521)))  {x : Int32} {κ : zD → Option β} : zast w (zset D b (vec G)) 0 b (0 : Int32) x κ = κ (zset D b (vec (upd2 G 1 7 x))) := Mw h (i := 0) (by omega) (by decide) (rfl)
theorem Mrc1 (h : w.1 b = some (.inl (0, 521)))  {κ : Int32 → Option β} : zald w (zset D b (vec G)) 0 b (1 : Int32) κ = κ (G 9 6) := Mr h (i := 1) (by omega) (by decide) (rfl)
theorem Mwc1 (h : w.1 b = some (.inl (0, 521)))  {x : Int32} {κ : zD → Option β} : zast w (zset D b (vec G)) 0 b (1 : Int32) x κ = κ (zset D b (vec (upd2 G 9 6 x))) := Mw h (i := 1) (by omega) (by decide) (rfl)
theorem Mrc2 (h : w.1 b = some (.inl (0, 521)))  {κ : Int32 → Option β} : zald w (zset D b (vec G)) 0 b (2 : Int32) κ = κ (G 16 2) := Mr h (i := 2) (by omega) (by decide) (rfl)
theorem Mwc2 (h : w.1 b = some (.inl (0, 521)))  {x : Int32} {κ : zD → Option β} : zast w (zset D b (vec G)) 0 b (2 : Int32) x κ = κ (zset D b (vec (upd2 G 16 2 x))) := Mw h (i := 2) (by omega) (by decide) (rfl)
theorem Mrc3 (h : w.1 b = some (.inl (0, 521)))  {κ : Int32 → Option β} : zald w (zset D b (vec G)) 0 b (3 : Int32) κ = κ (G 0 5) := Mr h (i := 3) (by omega) (by decide) (rfl)
theorem Mwc3 (h : w.1 b = some (.inl (0, 521)))  {x : Int32} {κ : zD → Option β} : zast w (zset D b (vec G)) 0 b (3 : Int32) x κ = κ (zset D b (vec (upd2 G 0 5 x))) := Mw h (i := 3) (by omega) (by decide) (rfl)
theorem Mrc4 (h : w.1 b = some (.inl (0, 521)))  {κ : Int32 → Option β} : zald w (zset D b (vec G)) 0 b (4 : Int32) κ = κ (G 19 7) := Mr h (i := 4) (by omega) (by decide) (rfl)
theorem Mwc4 (h : w.1 b = some (.inl (0, 521)))  {x : Int32} {κ : zD → Option β} : zast w (zset D b (vec G)) 0 b (4 : Int32) x κ = κ (zset D b (vec (upd2 G 19 7 x))) := Mw h (i := 4) (by omega) (by decide) (rfl)
theorem Mrc5 (h : w.1 b = some (.inl (0, 521)))  {κ : Int32 → Option β} : zald w (zset D b (vec G)) 0 b (5 : Int32) κ = κ (G 0 6) := Mr h (i := 5) (by omega) (by decide) (rfl)
theorem Mwc5 (h : w.1 b = some (.inl (0, 521)))  {x : Int32} {κ : zD → Option β} : zast w (zset D b (vec G)) 0 b (5 : Int32) x κ = κ (zset D b (vec (upd2 G 0 6 x))) := Mw h (i := 5) (by omega) (by decide) (rfl)
theorem Mrc6 (h : w.1 b = some (.inl (0, 521)))  {κ : Int32 → Option β} : zald w (zset D b (vec G)) 0 b (6 : Int32) κ = κ (G 26 6) := Mr h (i := 6) (by omega) (by decide) (rfl)
theorem Mwc6 (h : w.1 b = some (.inl (0, 521)))  {x : Int32} {κ : zD → Option β} : zast w (zset D b (vec G)) 0 b (6 : Int32) x κ = κ (zset D b (vec (upd2 G 26 6 x))) := Mw h (i := 6) (by omega) (by decide) (rfl)
theorem Mrc7 (h : w.1 b = some (.inl (0, 521)))  {κ : Int32 → Option β} : zald w (zset D b (vec G)) 0 b (7 : Int32) κ = κ (G 26 7) := Mr h (i := 7) (by omega) (by decide) (rfl)
theorem Mwc7 (h : w.1 b = some (.inl (0, 521)))  {x : Int32} {κ : zD → Option β} : zast w (zset D b (vec G)) 0 b (7 : Int32) x κ = κ (zset D b (vec (upd2 G 26 7 x))) := Mw h (i := 7) (by omega) (by decide) (rfl)
theorem Mrc8 (h : w.1 b = some (.inl (0, 521)))  {κ : Int32 → Option β} : zald w (zset D b (vec G)) 0 b (8 : Int32) κ = κ (G 26 8) := Mr h (i := 8) (by omega) (by decide) (rfl)
theorem Mwc8 (h : w.1 b = some (.inl (0, 521)))  {x : Int32} {κ : zD → Option β} : zast w (zset D b (vec G)) 0 b (8 : Int32) x κ = κ (zset D b (vec (upd2 G 26 8 x))) := Mw h (i := 8) (by omega) (by decide) (rfl)
theorem Mrc9 (h : w.1 b = some (.inl (0, 521)))  {κ : Int32 → Option β} : zald w (zset D b (vec G)) 0 b (9 : Int32) κ = κ (G 0 7) := Mr h (i := 9) (by omega) (by decide) (rfl)
theorem Mwc9 (h : w.1 b = some (.inl (0, 521)))  {x : Int32} {κ : zD → Option β} : zast w (zset D b (vec G)) 0 b (9 : Int32) x κ = κ (zset D b (vec (upd2 G 0 7 x))) := Mw h (i := 9) (by omega) (by decide) (rfl)
theorem Mrc10 (h : w.1 b = some (.inl (0, 521)))  {κ : Int32 → Option β} : zald w (zset D b (vec G)) 0 b (10 : Int32) κ = κ (G 0 8) := Mr h (i := 10) (by omega) (by decide) (rfl)
theorem Mwc10 (h : w.1 b = some (.inl (0, 521)))  {x : Int32} {κ : zD → Option β} : zast w (zset D b (vec G)) 0 b (10 : Int32) x κ = κ (zset D b (vec (upd2 G 0 8 x))) := Mw h (i := 10) (by omega) (by decide) (rfl)
theorem Mrs (h : w.1 b = some (.inl (0, 521))) {k : Nat} (hk : k < 4) {κ : Int32 → Option β} : zald w (zset D b (vec G)) 0 b ((11 : Int32) + ((7 : Int32) * nI k)) κ = κ (G 2 k) := Mr h (i := 11 + 7 * k) (by omega) (co_s (m := 0) hk (by decide)) (by simp only [zl, nI_add, pk_mul])
theorem Mws (h : w.1 b = some (.inl (0, 521))) {k : Nat} (hk : k < 4) {x : Int32} {κ : zD → Option β} : zast w (zset D b (vec G)) 0 b ((11 : Int32) + ((7 : Int32) * nI k)) x κ = κ (zset D b (vec (upd2 G 2 k x))) := Mw h (i := 11 + 7 * k) (by omega) (co_s (m := 0) hk (by decide)) (by simp only [zl, nI_add, pk_mul])
theorem Mrs0 (h : w.1 b = some (.inl (0, 521))) {k : Nat} (hk : k < 4) {κ : Int32 → Option β} : zald w (zset D b (vec G)) 0 b (((11 : Int32) + ((7 : Int32) * nI k)) + (0 : Int32)) κ = κ (G 2 k) := Mr h (i := 11 + 7 * k + 0) (by omega) (co_s hk (by decide)) (by simp only [zl, nI_add, pk_mul])
theorem Mws0 (h : w.1 b = some (.inl (0, 521))) {k : Nat} (hk : k < 4) {x : Int32} {κ : zD → Option β} : zast w (zset D b (vec G)) 0 b (((11 : Int32) + ((7 : Int32) * nI k)) + (0 : Int32)) x κ = κ (zset D b (vec (upd2 G 2 k x))) := Mw h (i := 11 + 7 * k + 0) (by omega) (co_s hk (by decide)) (by simp only [zl, nI_add, pk_mul])
theorem Mrs1 (h : w.1 b = some (.inl (0, 521))) {k : Nat} (hk : k < 4) {κ : Int32 → Option β} : zald w (zset D b (vec G)) 0 b (((11 : Int32) + ((7 : Int32) * nI k)) + (1 : Int32)) κ = κ (G 3 k) := Mr h (i := 11 + 7 * k + 1) (by omega) (co_s hk (by decide)) (by simp only [zl, nI_add, pk_mul])
theorem Mws1 (h : w.1 b = some (.inl (0, 521))) {k : Nat} (hk : k < 4) {x : Int32} {κ : zD → Option β} : zast w (zset D b (vec G)) 0 b (((11 : Int32) + ((7 : Int32) * nI k)) + (1 : Int32)) x κ = κ (zset D b (vec (upd2 G 3 k x))) := Mw h (i := 11 + 7 * k + 1) (by omega) (co_s hk (by decide)) (by simp only [zl, nI_add, pk_mul])
theorem Mrs2 (h : w.1 b = some (.inl (0, 521))) {k : Nat} (hk : k < 4) {κ : Int32 → Option β} : zald w (zset D b (vec G)) 0 b (((11 : Int32) + ((7 : Int32) * nI k)) + (2 : Int32)) κ = κ (G 4 k) := Mr h (i := 11 + 7 * k + 2) (by omega) (co_s hk (by decide)) (by simp only [zl, nI_add, pk_mul])
theorem Mws2 (h : w.1 b = some (.inl (0, 521))) {k : Nat} (hk : k < 4) {x : Int32} {κ : zD → Option β} : zast w (zset D b (vec G)) 0 b (((11 : Int32) + ((7 : Int32) * nI k)) + (2 : Int32)) x κ = κ (zset D b (vec (upd2 G 4 k x))) := Mw h (i := 11 + 7 * k + 2) (by omega) (co_s hk (by decide)) (by simp only [zl, nI_add, pk_mul])
theorem Mrs3 (h : w.1 b = some (.inl (0, 521))) {k : Nat} (hk : k < 4) {κ : Int32 → Option β} : zald w (zset D b (vec G)) 0 b (((11 : Int32) + ((7 : Int32) * nI k)) + (3 : Int32)) κ = κ (G 5 k) := Mr h (i := 11 + 7 * k + 3) (by omega) (co_s hk (by decide)) (by simp only [zl, nI_add, pk_mul])
theorem Mws3 (h : w.1 b = some (.inl (0, 521))) {k : Nat} (hk : k < 4) {x : Int32} {κ : zD → Option β} : zast w (zset D b (vec G)) 0 b (((11 : Int32) + ((7 : Int32) * nI k)) + (3 : Int32)) x κ = κ (zset D b (vec (upd2 G 5 k x))) := Mw h (i := 11 + 7 * k + 3) (by omega) (co_s hk (by decide)) (by simp only [zl, nI_add, pk_mul])
theorem Mrs4 (h : w.1 b = some (.inl (0, 521))) {k : Nat} (hk : k < 4) {κ : Int32 → Option β} : zald w (zset D b (vec G)) 0 b (((11 : Int32) + ((7 : Int32) * nI k)) + (4 : Int32)) κ = κ (G 6 k) := Mr h (i := 11 + 7 * k + 4) (by omega) (co_s hk (by decide)) (by simp only [zl, nI_add, pk_mul])
theorem Mws4 (h : w.1 b = some (.inl (0, 521))) {k : Nat} (hk : k < 4) {x : Int32} {κ : zD → Option β} : zast w (zset D b (vec G)) 0 b (((11 : Int32) + ((7 : Int32) * nI k)) + (4 : Int32)) x κ = κ (zset D b (vec (upd2 G 6 k x))) := Mw h (i := 11 + 7 * k + 4) (by omega) (co_s hk (by decide)) (by simp only [zl, nI_add, pk_mul])
theorem Mrs5 (h : w.1 b = some (.inl (0, 521))) {k : Nat} (hk : k < 4) {κ : Int32 → Option β} : zald w (zset D b (vec G)) 0 b (((11 : Int32) + ((7 : Int32) * nI k)) + (5 : Int32)) κ = κ (G 8 k) := Mr h (i := 11 + 7 * k + 5) (by omega) (co_s hk (by decide)) (by simp only [zl, nI_add, pk_mul])
theorem Mws5 (h : w.1 b = some (.inl (0, 521))) {k : Nat} (hk : k < 4) {x : Int32} {κ : zD → Option β} : zast w (zset D b (vec G)) 0 b (((11 : Int32) + ((7 : Int32) * nI k)) + (5 : Int32)) x κ = κ (zset D b (vec (upd2 G 8 k x))) := Mw h (i := 11 + 7 * k + 5) (by omega) (co_s hk (by decide)) (by simp only [zl, nI_add, pk_mul])
theorem Mrs6 (h : w.1 b = some (.inl (0, 521))) {k : Nat} (hk : k < 4) {κ : Int32 → Option β} : zald w (zset D b (vec G)) 0 b (((11 : Int32) + ((7 : Int32) * nI k)) + (6 : Int32)) κ = κ (G 7 k) := Mr h (i := 11 + 7 * k + 6) (by omega) (co_s hk (by decide)) (by simp only [zl, nI_add, pk_mul])
theorem Mws6 (h : w.1 b = some (.inl (0, 521))) {k : Nat} (hk : k < 4) {x : Int32} {κ : zD → Option β} : zast w (zset D b (vec G)) 0 b (((11 : Int32) + ((7 : Int32) * nI k)) + (6 : Int32)) x κ = κ (zset D b (vec (upd2 G 7 k x))) := Mw h (i := 11 + 7 * k + 6) (by omega) (co_s hk (by decide)) (by simp only [zl, nI_add, pk_mul])
theorem Mrh (h : w.1 b = some (.inl (0, 521))) {k : Nat} (hk : k < 4) {κ : Int32 → Option β} : zald w (zset D b (vec G)) 0 b ((39 : Int32) + ((5 : Int32) * nI k)) κ = κ (G 10 k) := Mr h (i := 39 + 5 * k) (by omega) (co_h (m := 0) hk (by decide)) (by simp only [zl, nI_add, pk_mul])
theorem Mwh (h : w.1 b = some (.inl (0, 521))) {k : Nat} (hk : k < 4) {x : Int32} {κ : zD → Option β} : zast w (zset D b (vec G)) 0 b ((39 : Int32) + ((5 : Int32) * nI k)) x κ = κ (zset D b (vec (upd2 G 10 k x))) := Mw h (i := 39 + 5 * k) (by omega) (co_h (m := 0) hk (by decide)) (by simp only [zl, nI_add, pk_mul])
theorem Mrh0 (h : w.1 b = some (.inl (0, 521))) {k : Nat} (hk : k < 4) {κ : Int32 → Option β} : zald w (zset D b (vec G)) 0 b (((39 : Int32) + ((5 : Int32) * nI k)) + (0 : Int32)) κ = κ (G 10 k) := Mr h (i := 39 + 5 * k + 0) (by omega) (co_h hk (by decide)) (by simp only [zl, nI_add, pk_mul])
theorem Mwh0 (h : w.1 b = some (.inl (0, 521))) {k : Nat} (hk : k < 4) {x : Int32} {κ : zD → Option β} : zast w (zset D b (vec G)) 0 b (((39 : Int32) + ((5 : Int32) * nI k)) + (0 : Int32)) x κ = κ (zset D b (vec (upd2 G 10 k x))) := Mw h (i := 39 + 5 * k + 0) (by omega) (co_h hk (by decide)) (by simp only [zl, nI_add, pk_mul])
theorem Mrh1 (h : w.1 b = some (.inl (0, 521))) {k : Nat} (hk : k < 4) {κ : Int32 → Option β} : zald w (zset D b (vec G)) 0 b (((39 : Int32) + ((5 : Int32) * nI k)) + (1 : Int32)) κ = κ (G 11 k) := Mr h (i := 39 + 5 * k + 1) (by omega) (co_h hk (by decide)) (by simp only [zl, nI_add, pk_mul])
theorem Mwh1 (h : w.1 b = some (.inl (0, 521))) {k : Nat} (hk : k < 4) {x : Int32} {κ : zD → Option β} : zast w (zset D b (vec G)) 0 b (((39 : Int32) + ((5 : Int32) * nI k)) + (1 : Int32)) x κ = κ (zset D b (vec (upd2 G 11 k x))) := Mw h (i := 39 + 5 * k + 1) (by omega) (co_h hk (by decide)) (by simp only [zl, nI_add, pk_mul])
theorem Mrh2 (h : w.1 b = some (.inl (0, 521))) {k : Nat} (hk : k < 4) {κ : Int32 → Option β} : zald w (zset D b (vec G)) 0 b (((39 : Int32) + ((5 : Int32) * nI k)) + (2 : Int32)) κ = κ (G 12 k) := Mr h (i := 39 + 5 * k + 2) (by omega) (co_h hk (by decide)) (by simp only [zl, nI_add, pk_mul])
theorem Mwh2 (h : w.1 b = some (.inl (0, 521))) {k : Nat} (hk : k < 4) {x : Int32} {κ : zD → Option β} : zast w (zset D b (vec G)) 0 b (((39 : Int32) + ((5 : Int32) * nI k)) + (2 : Int32)) x κ = κ (zset D b (vec (upd2 G 12 k x))) := Mw h (i := 39 + 5 * k + 2) (by omega) (co_h hk (by decide)) (by simp only [zl, nI_add, pk_mul])
theorem Mrh3 (h : w.1 b = some (.inl (0, 521))) {k : Nat} (hk : k < 4) {κ : Int32 → Option β} : zald w (zset D b (vec G)) 0 b (((39 : Int32) + ((5 : Int32) * nI k)) + (3 : Int32)) κ = κ (G 13 k) := Mr h (i := 39 + 5 * k + 3) (by omega) (co_h hk (by decide)) (by simp only [zl, nI_add, pk_mul])
theorem Mwh3 (h : w.1 b = some (.inl (0, 521))) {k : Nat} (hk : k < 4) {x : Int32} {κ : zD → Option β} : zast w (zset D b (vec G)) 0 b (((39 : Int32) + ((5 : Int32) * nI k)) + (3 : Int32)) x κ = κ (zset D b (vec (upd2 G 13 k x))) := Mw h (i := 39 + 5 * k + 3) (by omega) (co_h hk (by decide)) (by simp only [zl, nI_add, pk_mul])
theorem Mrh4 (h : w.1 b = some (.inl (0, 521))) {k : Nat} (hk : k < 4) {κ : Int32 → Option β} : zald w (zset D b (vec G)) 0 b (((39 : Int32) + ((5 : Int32) * nI k)) + (4 : Int32)) κ = κ (G 14 k) := Mr h (i := 39 + 5 * k + 4) (by omega) (co_h hk (by decide)) (by simp only [zl, nI_add, pk_mul])
theorem Mwh4 (h : w.1 b = some (.inl (0, 521))) {k : Nat} (hk : k < 4) {x : Int32} {κ : zD → Option β} : zast w (zset D b (vec G)) 0 b (((39 : Int32) + ((5 : Int32) * nI k)) + (4 : Int32)) x κ = κ (zset D b (vec (upd2 G 14 k x))) := Mw h (i := 39 + 5 * k + 4) (by omega) (co_h hk (by decide)) (by simp only [zl, nI_add, pk_mul])
theorem Mrw (h : w.1 b = some (.inl (0, 521))) {k : Nat} (hk : k < 3) {κ : Int32 → Option β} : zald w (zset D b (vec G)) 0 b ((59 : Int32) + ((2 : Int32) * nI k)) κ = κ (G 17 k) := Mr h (i := 59 + 2 * k) (by omega) (co_w (m := 0) hk (by decide)) (by simp only [zl, nI_add, pk_mul])
theorem Mww (h : w.1 b = some (.inl (0, 521))) {k : Nat} (hk : k < 3) {x : Int32} {κ : zD → Option β} : zast w (zset D b (vec G)) 0 b ((59 : Int32) + ((2 : Int32) * nI k)) x κ = κ (zset D b (vec (upd2 G 17 k x))) := Mw h (i := 59 + 2 * k) (by omega) (co_w (m := 0) hk (by decide)) (by simp only [zl, nI_add, pk_mul])
theorem Mrw0 (h : w.1 b = some (.inl (0, 521))) {k : Nat} (hk : k < 3) {κ : Int32 → Option β} : zald w (zset D b (vec G)) 0 b (((59 : Int32) + ((2 : Int32) * nI k)) + (0 : Int32)) κ = κ (G 17 k) := Mr h (i := 59 + 2 * k + 0) (by omega) (co_w hk (by decide)) (by simp only [zl, nI_add, pk_mul])
theorem Mww0 (h : w.1 b = some (.inl (0, 521))) {k : Nat} (hk : k < 3) {x : Int32} {κ : zD → Option β} : zast w (zset D b (vec G)) 0 b (((59 : Int32) + ((2 : Int32) * nI k)) + (0 : Int32)) x κ = κ (zset D b (vec (upd2 G 17 k x))) := Mw h (i := 59 + 2 * k + 0) (by omega) (co_w hk (by decide)) (by simp only [zl, nI_add, pk_mul])
theorem Mrw1 (h : w.1 b = some (.inl (0, 521))) {k : Nat} (hk : k < 3) {κ : Int32 → Option β} : zald w (zset D b (vec G)) 0 b (((59 : Int32) + ((2 : Int32) * nI k)) + (1 : Int32)) κ = κ (G 18 k) := Mr h (i := 59 + 2 * k + 1) (by omega) (co_w hk (by decide)) (by simp only [zl, nI_add, pk_mul])
theorem Mww1 (h : w.1 b = some (.inl (0, 521))) {k : Nat} (hk : k < 3) {x : Int32} {κ : zD → Option β} : zast w (zset D b (vec G)) 0 b (((59 : Int32) + ((2 : Int32) * nI k)) + (1 : Int32)) x κ = κ (zset D b (vec (upd2 G 18 k x))) := Mw h (i := 59 + 2 * k + 1) (by omega) (co_w hk (by decide)) (by simp only [zl, nI_add, pk_mul])
theorem Mre (h : w.1 b = some (.inl (0, 521))) {k : Nat} (hk : k < 16) {κ : Int32 → Option β} : zald w (zset D b (vec G)) 0 b ((65 : Int32) + ((6 : Int32) * nI k)) κ = κ (G 27 k) := Mr h (i := 65 + 6 * k) (by omega) (co_e (m := 0) hk (by decide)) (by simp only [zl, nI_add, pk_mul])
theorem Mwe (h : w.1 b = some (.inl (0, 521))) {k : Nat} (hk : k < 16) {x : Int32} {κ : zD → Option β} : zast w (zset D b (vec G)) 0 b ((65 : Int32) + ((6 : Int32) * nI k)) x κ = κ (zset D b (vec (upd2 G 27 k x))) := Mw h (i := 65 + 6 * k) (by omega) (co_e (m := 0) hk (by decide)) (by simp only [zl, nI_add, pk_mul])
theorem Mre0 (h : w.1 b = some (.inl (0, 521))) {k : Nat} (hk : k < 16) {κ : Int32 → Option β} : zald w (zset D b (vec G)) 0 b (((65 : Int32) + ((6 : Int32) * nI k)) + (0 : Int32)) κ = κ (G 27 k) := Mr h (i := 65 + 6 * k + 0) (by omega) (co_e hk (by decide)) (by simp only [zl, nI_add, pk_mul])
theorem Mwe0 (h : w.1 b = some (.inl (0, 521))) {k : Nat} (hk : k < 16) {x : Int32} {κ : zD → Option β} : zast w (zset D b (vec G)) 0 b (((65 : Int32) + ((6 : Int32) * nI k)) + (0 : Int32)) x κ = κ (zset D b (vec (upd2 G 27 k x))) := Mw h (i := 65 + 6 * k + 0) (by omega) (co_e hk (by decide)) (by simp only [zl, nI_add, pk_mul])
theorem Mre1 (h : w.1 b = some (.inl (0, 521))) {k : Nat} (hk : k < 16) {κ : Int32 → Option β} : zald w (zset D b (vec G)) 0 b (((65 : Int32) + ((6 : Int32) * nI k)) + (1 : Int32)) κ = κ (G 28 k) := Mr h (i := 65 + 6 * k + 1) (by omega) (co_e hk (by decide)) (by simp only [zl, nI_add, pk_mul])
theorem Mwe1 (h : w.1 b = some (.inl (0, 521))) {k : Nat} (hk : k < 16) {x : Int32} {κ : zD → Option β} : zast w (zset D b (vec G)) 0 b (((65 : Int32) + ((6 : Int32) * nI k)) + (1 : Int32)) x κ = κ (zset D b (vec (upd2 G 28 k x))) := Mw h (i := 65 + 6 * k + 1) (by omega) (co_e hk (by decide)) (by simp only [zl, nI_add, pk_mul])
theorem Mre2 (h : w.1 b = some (.inl (0, 521))) {k : Nat} (hk : k < 16) {κ : Int32 → Option β} : zald w (zset D b (vec G)) 0 b (((65 : Int32) + ((6 : Int32) * nI k)) + (2 : Int32)) κ = κ (G 29 k) := Mr h (i := 65 + 6 * k + 2) (by omega) (co_e hk (by decide)) (by simp only [zl, nI_add, pk_mul])
theorem Mwe2 (h : w.1 b = some (.inl (0, 521))) {k : Nat} (hk : k < 16) {x : Int32} {κ : zD → Option β} : zast w (zset D b (vec G)) 0 b (((65 : Int32) + ((6 : Int32) * nI k)) + (2 : Int32)) x κ = κ (zset D b (vec (upd2 G 29 k x))) := Mw h (i := 65 + 6 * k + 2) (by omega) (co_e hk (by decide)) (by simp only [zl, nI_add, pk_mul])
theorem Mre3 (h : w.1 b = some (.inl (0, 521))) {k : Nat} (hk : k < 16) {κ : Int32 → Option β} : zald w (zset D b (vec G)) 0 b (((65 : Int32) + ((6 : Int32) * nI k)) + (3 : Int32)) κ = κ (G 30 k) := Mr h (i := 65 + 6 * k + 3) (by omega) (co_e hk (by decide)) (by simp only [zl, nI_add, pk_mul])
theorem Mwe3 (h : w.1 b = some (.inl (0, 521))) {k : Nat} (hk : k < 16) {x : Int32} {κ : zD → Option β} : zast w (zset D b (vec G)) 0 b (((65 : Int32) + ((6 : Int32) * nI k)) + (3 : Int32)) x κ = κ (zset D b (vec (upd2 G 30 k x))) := Mw h (i := 65 + 6 * k + 3) (by omega) (co_e hk (by decide)) (by simp only [zl, nI_add, pk_mul])
theorem Mre4 (h : w.1 b = some (.inl (0, 521))) {k : Nat} (hk : k < 16) {κ : Int32 → Option β} : zald w (zset D b (vec G)) 0 b (((65 : Int32) + ((6 : Int32) * nI k)) + (4 : Int32)) κ = κ (G 31 k) := Mr h (i := 65 + 6 * k + 4) (by omega) (co_e hk (by decide)) (by simp only [zl, nI_add, pk_mul])
theorem Mwe4 (h : w.1 b = some (.inl (0, 521))) {k : Nat} (hk : k < 16) {x : Int32} {κ : zD → Option β} : zast w (zset D b (vec G)) 0 b (((65 : Int32) + ((6 : Int32) * nI k)) + (4 : Int32)) x κ = κ (zset D b (vec (upd2 G 31 k x))) := Mw h (i := 65 + 6 * k + 4) (by omega) (co_e hk (by decide)) (by simp only [zl, nI_add, pk_mul])
theorem Mre5 (h : w.1 b = some (.inl (0, 521))) {k : Nat} (hk : k < 16) {κ : Int32 → Option β} : zald w (zset D b (vec G)) 0 b (((65 : Int32) + ((6 : Int32) * nI k)) + (5 : Int32)) κ = κ (G 32 k) := Mr h (i := 65 + 6 * k + 5) (by omega) (co_e hk (by decide)) (by simp only [zl, nI_add, pk_mul])
theorem Mwe5 (h : w.1 b = some (.inl (0, 521))) {k : Nat} (hk : k < 16) {x : Int32} {κ : zD → Option β} : zast w (zset D b (vec G)) 0 b (((65 : Int32) + ((6 : Int32) * nI k)) + (5 : Int32)) x κ = κ (zset D b (vec (upd2 G 32 k x))) := Mw h (i := 65 + 6 * k + 5) (by omega) (co_e hk (by decide)) (by simp only [zl, nI_add, pk_mul])
theorem Mrp (h : w.1 b = some (.inl (0, 521))) {k : Nat} (hk : k < 60) {κ : Int32 → Option β} : zald w (zset D b (vec G)) 0 b ((161 : Int32) + ((6 : Int32) * nI k)) κ = κ (G 20 k) := Mr h (i := 161 + 6 * k) (by omega) (co_p (m := 0) hk (by decide)) (by simp only [zl, nI_add, pk_mul])
theorem Mwp (h : w.1 b = some (.inl (0, 521))) {k : Nat} (hk : k < 60) {x : Int32} {κ : zD → Option β} : zast w (zset D b (vec G)) 0 b ((161 : Int32) + ((6 : Int32) * nI k)) x κ = κ (zset D b (vec (upd2 G 20 k x))) := Mw h (i := 161 + 6 * k) (by omega) (co_p (m := 0) hk (by decide)) (by simp only [zl, nI_add, pk_mul])
theorem Mrp0 (h : w.1 b = some (.inl (0, 521))) {k : Nat} (hk : k < 60) {κ : Int32 → Option β} : zald w (zset D b (vec G)) 0 b (((161 : Int32) + ((6 : Int32) * nI k)) + (0 : Int32)) κ = κ (G 20 k) := Mr h (i := 161 + 6 * k + 0) (by omega) (co_p hk (by decide)) (by simp only [zl, nI_add, pk_mul])
theorem Mwp0 (h : w.1 b = some (.inl (0, 521))) {k : Nat} (hk : k < 60) {x : Int32} {κ : zD → Option β} : zast w (zset D b (vec G)) 0 b (((161 : Int32) + ((6 : Int32) * nI k)) + (0 : Int32)) x κ = κ (zset D b (vec (upd2 G 20 k x))) := Mw h (i := 161 + 6 * k + 0) (by omega) (co_p hk (by decide)) (by simp only [zl, nI_add, pk_mul])
theorem Mrp1 (h : w.1 b = some (.inl (0, 521))) {k : Nat} (hk : k < 60) {κ : Int32 → Option β} : zald w (zset D b (vec G)) 0 b (((161 : Int32) + ((6 : Int32) * nI k)) + (1 : Int32)) κ = κ (G 21 k) := Mr h (i := 161 + 6 * k + 1) (by omega) (co_p hk (by decide)) (by simp only [zl, nI_add, pk_mul])
theorem Mwp1 (h : w.1 b = some (.inl (0, 521))) {k : Nat} (hk : k < 60) {x : Int32} {κ : zD → Option β} : zast w (zset D b (vec G)) 0 b (((161 : Int32) + ((6 : Int32) * nI k)) + (1 : Int32)) x κ = κ (zset D b (vec (upd2 G 21 k x))) := Mw h (i := 161 + 6 * k + 1) (by omega) (co_p hk (by decide)) (by simp only [zl, nI_add, pk_mul])
theorem Mrp2 (h : w.1 b = some (.inl (0, 521))) {k : Nat} (hk : k < 60) {κ : Int32 → Option β} : zald w (zset D b (vec G)) 0 b (((161 : Int32) + ((6 : Int32) * nI k)) + (2 : Int32)) κ = κ (G 22 k) := Mr h (i := 161 + 6 * k + 2) (by omega) (co_p hk (by decide)) (by simp only [zl, nI_add, pk_mul])
theorem Mwp2 (h : w.1 b = some (.inl (0, 521))) {k : Nat} (hk : k < 60) {x : Int32} {κ : zD → Option β} : zast w (zset D b (vec G)) 0 b (((161 : Int32) + ((6 : Int32) * nI k)) + (2 : Int32)) x κ = κ (zset D b (vec (upd2 G 22 k x))) := Mw h (i := 161 + 6 * k + 2) (by omega) (co_p hk (by decide)) (by simp only [zl, nI_add, pk_mul])
theorem Mrp3 (h : w.1 b = some (.inl (0, 521))) {k : Nat} (hk : k < 60) {κ : Int32 → Option β} : zald w (zset D b (vec G)) 0 b (((161 : Int32) + ((6 : Int32) * nI k)) + (3 : Int32)) κ = κ (G 23 k) := Mr h (i := 161 + 6 * k + 3) (by omega) (co_p hk (by decide)) (by simp only [zl, nI_add, pk_mul])
theorem Mwp3 (h : w.1 b = some (.inl (0, 521))) {k : Nat} (hk : k < 60) {x : Int32} {κ : zD → Option β} : zast w (zset D b (vec G)) 0 b (((161 : Int32) + ((6 : Int32) * nI k)) + (3 : Int32)) x κ = κ (zset D b (vec (upd2 G 23 k x))) := Mw h (i := 161 + 6 * k + 3) (by omega) (co_p hk (by decide)) (by simp only [zl, nI_add, pk_mul])
theorem Mrp4 (h : w.1 b = some (.inl (0, 521))) {k : Nat} (hk : k < 60) {κ : Int32 → Option β} : zald w (zset D b (vec G)) 0 b (((161 : Int32) + ((6 : Int32) * nI k)) + (4 : Int32)) κ = κ (G 24 k) := Mr h (i := 161 + 6 * k + 4) (by omega) (co_p hk (by decide)) (by simp only [zl, nI_add, pk_mul])
theorem Mwp4 (h : w.1 b = some (.inl (0, 521))) {k : Nat} (hk : k < 60) {x : Int32} {κ : zD → Option β} : zast w (zset D b (vec G)) 0 b (((161 : Int32) + ((6 : Int32) * nI k)) + (4 : Int32)) x κ = κ (zset D b (vec (upd2 G 24 k x))) := Mw h (i := 161 + 6 * k + 4) (by omega) (co_p hk (by decide)) (by simp only [zl, nI_add, pk_mul])
theorem Mrp5 (h : w.1 b = some (.inl (0, 521))) {k : Nat} (hk : k < 60) {κ : Int32 → Option β} : zald w (zset D b (vec G)) 0 b (((161 : Int32) + ((6 : Int32) * nI k)) + (5 : Int32)) κ = κ (G 25 k) := Mr h (i := 161 + 6 * k + 5) (by omega) (co_p hk (by decide)) (by simp only [zl, nI_add, pk_mul])
theorem Mwp5 (h : w.1 b = some (.inl (0, 521))) {k : Nat} (hk : k < 60) {x : Int32} {κ : zD → Option β} : zast w (zset D b (vec G)) 0 b (((161 : Int32) + ((6 : Int32) * nI k)) + (5 : Int32)) x κ = κ (zset D b (vec (upd2 G 25 k x))) := Mw h (i := 161 + 6 * k + 5) (by omega) (co_p hk (by decide)) (by simp only [zl, nI_add, pk_mul])
theorem Mrk0 (h : w.1 b = some (.inl (0, 521))) {k : Nat} (hk : k < 4) {κ : Int32 → Option β} : zald w (zset D b (vec G)) 0 b ((((39 : Int32) + ((5 : Int32) * nI k)) + (0 : Int32)) + (2 : Int32)) κ = κ (G 12 k) := Mr h (i := 39 + 5 * k + 2) (by omega) (co_h hk (by decide)) (by simp only [zl, nI_add, pk_mul])
theorem Mwk0 (h : w.1 b = some (.inl (0, 521))) {k : Nat} (hk : k < 4) {x : Int32} {κ : zD → Option β} : zast w (zset D b (vec G)) 0 b ((((39 : Int32) + ((5 : Int32) * nI k)) + (0 : Int32)) + (2 : Int32)) x κ = κ (zset D b (vec (upd2 G 12 k x))) := Mw h (i := 39 + 5 * k + 2) (by omega) (co_h hk (by decide)) (by simp only [zl, nI_add, pk_mul])
theorem Mrk1 (h : w.1 b = some (.inl (0, 521))) {k : Nat} (hk : k < 4) {κ : Int32 → Option β} : zald w (zset D b (vec G)) 0 b ((((39 : Int32) + ((5 : Int32) * nI k)) + (1 : Int32)) + (2 : Int32)) κ = κ (G 13 k) := Mr h (i := 39 + 5 * k + 3) (by omega) (co_h hk (by decide)) (by simp only [zl, nI_add, pk_mul])
theorem Mwk1 (h : w.1 b = some (.inl (0, 521))) {k : Nat} (hk : k < 4) {x : Int32} {κ : zD → Option β} : zast w (zset D b (vec G)) 0 b ((((39 : Int32) + ((5 : Int32) * nI k)) + (1 : Int32)) + (2 : Int32)) x κ = κ (zset D b (vec (upd2 G 13 k x))) := Mw h (i := 39 + 5 * k + 3) (by omega) (co_h hk (by decide)) (by simp only [zl, nI_add, pk_mul])
theorem Mrx (h : w.1 b = some (.inl (0, 521))) {k s : Nat} (hk : k < 4) (hs : s < 4) {κ : Int32 → Option β} : zald w (zset D b (vec G)) 0 b ((65 : Int32) + ((6 : Int32) * (((4 : Int32) * nI k) + nI s))) κ = κ (G 27 (4 * k + s)) := Mr h (i := 65 + 6 * (4 * k + s)) (by omega) (co_e (m := 0) (by omega) (by decide)) (by simp only [zl, nI_add, pk_mul])
theorem Mwx (h : w.1 b = some (.inl (0, 521))) {k s : Nat} (hk : k < 4) (hs : s < 4) {x : Int32} {κ : zD → Option β} : zast w (zset D b (vec G)) 0 b ((65 : Int32) + ((6 : Int32) * (((4 : Int32) * nI k) + nI s))) x κ = κ (zset D b (vec (upd2 G 27 (4 * k + s) x))) := Mw h (i := 65 + 6 * (4 * k + s)) (by omega) (co_e (m := 0) (by omega) (by decide)) (by simp only [zl, nI_add, pk_mul])
theorem Mrx0 (h : w.1 b = some (.inl (0, 521))) {k s : Nat} (hk : k < 4) (hs : s < 4) {κ : Int32 → Option β} : zald w (zset D b (vec G)) 0 b (((65 : Int32) + ((6 : Int32) * (((4 : Int32) * nI k) + nI s))) + (0 : Int32)) κ = κ (G 27 (4 * k + s)) := Mr h (i := 65 + 6 * (4 * k + s) + 0) (by omega) (co_e (by omega) (by decide)) (by simp only [zl, nI_add, pk_mul])
theorem Mwx0 (h : w.1 b = some (.inl (0, 521))) {k s : Nat} (hk : k < 4) (hs : s < 4) {x : Int32} {κ : zD → Option β} : zast w (zset D b (vec G)) 0 b (((65 : Int32) + ((6 : Int32) * (((4 : Int32) * nI k) + nI s))) + (0 : Int32)) x κ = κ (zset D b (vec (upd2 G 27 (4 * k + s) x))) := Mw h (i := 65 + 6 * (4 * k + s) + 0) (by omega) (co_e (by omega) (by decide)) (by simp only [zl, nI_add, pk_mul])
theorem Mrx1 (h : w.1 b = some (.inl (0, 521))) {k s : Nat} (hk : k < 4) (hs : s < 4) {κ : Int32 → Option β} : zald w (zset D b (vec G)) 0 b (((65 : Int32) + ((6 : Int32) * (((4 : Int32) * nI k) + nI s))) + (1 : Int32)) κ = κ (G 28 (4 * k + s)) := Mr h (i := 65 + 6 * (4 * k + s) + 1) (by omega) (co_e (by omega) (by decide)) (by simp only [zl, nI_add, pk_mul])
theorem Mwx1 (h : w.1 b = some (.inl (0, 521))) {k s : Nat} (hk : k < 4) (hs : s < 4) {x : Int32} {κ : zD → Option β} : zast w (zset D b (vec G)) 0 b (((65 : Int32) + ((6 : Int32) * (((4 : Int32) * nI k) + nI s))) + (1 : Int32)) x κ = κ (zset D b (vec (upd2 G 28 (4 * k + s) x))) := Mw h (i := 65 + 6 * (4 * k + s) + 1) (by omega) (co_e (by omega) (by decide)) (by simp only [zl, nI_add, pk_mul])
theorem Mrx2 (h : w.1 b = some (.inl (0, 521))) {k s : Nat} (hk : k < 4) (hs : s < 4) {κ : Int32 → Option β} : zald w (zset D b (vec G)) 0 b (((65 : Int32) + ((6 : Int32) * (((4 : Int32) * nI k) + nI s))) + (2 : Int32)) κ = κ (G 29 (4 * k + s)) := Mr h (i := 65 + 6 * (4 * k + s) + 2) (by omega) (co_e (by omega) (by decide)) (by simp only [zl, nI_add, pk_mul])
theorem Mwx2 (h : w.1 b = some (.inl (0, 521))) {k s : Nat} (hk : k < 4) (hs : s < 4) {x : Int32} {κ : zD → Option β} : zast w (zset D b (vec G)) 0 b (((65 : Int32) + ((6 : Int32) * (((4 : Int32) * nI k) + nI s))) + (2 : Int32)) x κ = κ (zset D b (vec (upd2 G 29 (4 * k + s) x))) := Mw h (i := 65 + 6 * (4 * k + s) + 2) (by omega) (co_e (by omega) (by decide)) (by simp only [zl, nI_add, pk_mul])
theorem Mrx3 (h : w.1 b = some (.inl (0, 521))) {k s : Nat} (hk : k < 4) (hs : s < 4) {κ : Int32 → Option β} : zald w (zset D b (vec G)) 0 b (((65 : Int32) + ((6 : Int32) * (((4 : Int32) * nI k) + nI s))) + (3 : Int32)) κ = κ (G 30 (4 * k + s)) := Mr h (i := 65 + 6 * (4 * k + s) + 3) (by omega) (co_e (by omega) (by decide)) (by simp only [zl, nI_add, pk_mul])
theorem Mwx3 (h : w.1 b = some (.inl (0, 521))) {k s : Nat} (hk : k < 4) (hs : s < 4) {x : Int32} {κ : zD → Option β} : zast w (zset D b (vec G)) 0 b (((65 : Int32) + ((6 : Int32) * (((4 : Int32) * nI k) + nI s))) + (3 : Int32)) x κ = κ (zset D b (vec (upd2 G 30 (4 * k + s) x))) := Mw h (i := 65 + 6 * (4 * k + s) + 3) (by omega) (co_e (by omega) (by decide)) (by simp only [zl, nI_add, pk_mul])
theorem Mrx4 (h : w.1 b = some (.inl (0, 521))) {k s : Nat} (hk : k < 4) (hs : s < 4) {κ : Int32 → Option β} : zald w (zset D b (vec G)) 0 b (((65 : Int32) + ((6 : Int32) * (((4 : Int32) * nI k) + nI s))) + (4 : Int32)) κ = κ (G 31 (4 * k + s)) := Mr h (i := 65 + 6 * (4 * k + s) + 4) (by omega) (co_e (by omega) (by decide)) (by simp only [zl, nI_add, pk_mul])
theorem Mwx4 (h : w.1 b = some (.inl (0, 521))) {k s : Nat} (hk : k < 4) (hs : s < 4) {x : Int32} {κ : zD → Option β} : zast w (zset D b (vec G)) 0 b (((65 : Int32) + ((6 : Int32) * (((4 : Int32) * nI k) + nI s))) + (4 : Int32)) x κ = κ (zset D b (vec (upd2 G 31 (4 * k + s) x))) := Mw h (i := 65 + 6 * (4 * k + s) + 4) (by omega) (co_e (by omega) (by decide)) (by simp only [zl, nI_add, pk_mul])
theorem Mrx5 (h : w.1 b = some (.inl (0, 521))) {k s : Nat} (hk : k < 4) (hs : s < 4) {κ : Int32 → Option β} : zald w (zset D b (vec G)) 0 b (((65 : Int32) + ((6 : Int32) * (((4 : Int32) * nI k) + nI s))) + (5 : Int32)) κ = κ (G 32 (4 * k + s)) := Mr h (i := 65 + 6 * (4 * k + s) + 5) (by omega) (co_e (by omega) (by decide)) (by simp only [zl, nI_add, pk_mul])
theorem Mwx5 (h : w.1 b = some (.inl (0, 521))) {k s : Nat} (hk : k < 4) (hs : s < 4) {x : Int32} {κ : zD → Option β} : zast w (zset D b (vec G)) 0 b (((65 : Int32) + ((6 : Int32) * (((4 : Int32) * nI k) + nI s))) + (5 : Int32)) x κ = κ (zset D b (vec (upd2 G 32 (4 * k + s) x))) := Mw h (i := 65 + 6 * (4 * k + s) + 5) (by omega) (co_e (by omega) (by decide)) (by simp only [zl, nI_add, pk_mul])
theorem Mrt0 (h : w.1 b = some (.inl (0, 521)))  {κ : Int32 → Option β} : zald w (zset D b (vec G)) 0 b ((9 : Int32) + (0 : Int32)) κ = κ (G 0 7) := Mr h (i := 9) (by omega) (by decide) (rfl)
theorem Mwt0 (h : w.1 b = some (.inl (0, 521)))  {x : Int32} {κ : zD → Option β} : zast w (zset D b (vec G)) 0 b ((9 : Int32) + (0 : Int32)) x κ = κ (zset D b (vec (upd2 G 0 7 x))) := Mw h (i := 9) (by omega) (by decide) (rfl)
theorem Mrt1 (h : w.1 b = some (.inl (0, 521)))  {κ : Int32 → Option β} : zald w (zset D b (vec G)) 0 b ((9 : Int32) + (1 : Int32)) κ = κ (G 0 8) := Mr h (i := 10) (by omega) (by decide) (rfl)
theorem Mwt1 (h : w.1 b = some (.inl (0, 521)))  {x : Int32} {κ : zD → Option β} : zast w (zset D b (vec G)) 0 b ((9 : Int32) + (1 : Int32)) x κ = κ (zset D b (vec (upd2 G 0 8 x))) := Mw h (i := 10) (by omega) (by decide) (rfl)
end MDL
