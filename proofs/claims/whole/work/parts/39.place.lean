/-! PURE: a siren's place in the plane, and when it is due. -/
def pX (x r p : Int32) : Int32 := if p ≤ 2 * r then x - r + p else if p ≤ 4 * r then x + r else if p ≤ 6 * r then x + 5 * r - p else x - r
def pY (y r p : Int32) : Int32 := if p ≤ 2 * r then y - r else if p ≤ 4 * r then y - 3 * r + p else if p ≤ 6 * r then y + r else y + 7 * r - p
theorem pX_c {x r p : Int32} (h1 : 1 ≤ r) (h2 : r ≤ 5) (h3 : 0 ≤ p) (h4 : p < 8 * r) : (if 2 * r < p then (if 2 * (2 * r) < p then (if 3 * (2 * r) < p then x - r else x - r + 3 * (2 * r) - p) else x - r + 2 * r) else x - r + p) = pX x r p := by
  unfold pX
  by_cases a1 : p ≤ 2 * r
  · rw [if_neg (by grind), if_pos a1]
  · rw [if_pos (by grind), if_neg a1]
    by_cases a2 : p ≤ 4 * r
    · rw [if_neg (by grind), if_pos a2]; grind
    · rw [if_pos (by grind), if_neg a2]
      by_cases a3 : p ≤ 6 * r
      · rw [if_neg (by grind), if_pos a3]; grind
      · rw [if_pos (by grind), if_neg a3]
theorem pX_m {x r p : Int32} (h1 : 1 ≤ r) (h2 : r ≤ 5) (h3 : 0 ≤ p) (h4 : p < 8 * r) : (if 2 * r ≤ p then (if 4 * r ≤ p then (if 6 * r ≤ p then x + -r else x + (5 * r - p)) else x + r) else x + (p - r)) = pX x r p := by
  unfold pX
  by_cases a1 : p ≤ 2 * r
  · by_cases a1' : p = 2 * r
    · rw [if_pos (by grind), if_neg (by grind), if_pos a1]; grind
    · rw [if_neg (by grind), if_pos a1]; grind
  · rw [if_pos (by grind), if_neg a1]
    by_cases a2 : p ≤ 4 * r
    · by_cases a2' : p = 4 * r
      · rw [if_pos (by grind), if_neg (by grind), if_pos a2]; grind
      · rw [if_neg (by grind), if_pos a2]
    · rw [if_pos (by grind), if_neg a2]
      by_cases a3 : p ≤ 6 * r
      · by_cases a3' : p = 6 * r
        · rw [if_pos (by grind), if_pos a3]; grind
        · rw [if_neg (by grind), if_pos a3]; grind
      · rw [if_pos (by grind), if_neg a3]; grind
theorem pY_c {x r p : Int32} (h1 : 1 ≤ r) (h2 : r ≤ 5) (h3 : 0 ≤ p) (h4 : p < 8 * r) : (if 2 * r < p then (if 2 * (2 * r) < p then (if 3 * (2 * r) < p then x - r + 4 * (2 * r) - p else x - r + 2 * r) else x - r + p - 2 * r) else x - r) = pY x r p := by
  unfold pY
  by_cases a1 : p ≤ 2 * r
  · rw [if_neg (by grind), if_pos a1]
  · rw [if_pos (by grind), if_neg a1]
    by_cases a2 : p ≤ 4 * r
    · rw [if_neg (by grind), if_pos a2]; grind
    · rw [if_pos (by grind), if_neg a2]
      by_cases a3 : p ≤ 6 * r
      · rw [if_neg (by grind), if_pos a3]; grind
      · rw [if_pos (by grind), if_neg a3]; grind
theorem pY_m {x r p : Int32} (h1 : 1 ≤ r) (h2 : r ≤ 5) (h3 : 0 ≤ p) (h4 : p < 8 * r) : (if 2 * r ≤ p then (if 4 * r ≤ p then (if 6 * r ≤ p then x + (7 * r - p) else x + r) else x + (p - 3 * r)) else x + -r) = pY x r p := by
  unfold pY
  by_cases a1 : p ≤ 2 * r
  · by_cases a1' : p = 2 * r
    · rw [if_pos (by grind), if_neg (by grind), if_pos a1]; grind
    · rw [if_neg (by grind), if_pos a1]; grind
  · rw [if_pos (by grind), if_neg a1]
    by_cases a2 : p ≤ 4 * r
    · by_cases a2' : p = 4 * r
      · rw [if_pos (by grind), if_neg (by grind), if_pos a2]; grind
      · rw [if_neg (by grind), if_pos a2]; grind
    · rw [if_pos (by grind), if_neg a2]
      by_cases a3 : p ≤ 6 * r
      · by_cases a3' : p = 6 * r
        · rw [if_pos (by grind), if_pos a3]; grind
        · rw [if_neg (by grind), if_pos a3]
      · rw [if_pos (by grind), if_neg a3]; grind
