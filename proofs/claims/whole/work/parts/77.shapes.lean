/-! PURE: the model sees the shapes alone. -/
section P77
variable {w w' : zW}
theorem wc_thrown (h : w'.1 = w.1) {D : zD} {a : Nat} : f_MD_thrown w' D a = f_MD_thrown w D a := by
  obtain ⟨x, y⟩ := w
  obtain ⟨x9, y9⟩ := w'
  obtain rfl : x9 = x := h
  rfl
theorem wc_clearText (h : w'.1 = w.1) {D : zD} {a : Nat} : f_MD_clearText w' D a = f_MD_clearText w D a := by
  obtain ⟨x, y⟩ := w
  obtain ⟨x9, y9⟩ := w'
  obtain rfl : x9 = x := h
  rfl
theorem wc_append (h : w'.1 = w.1) {D : zD} {a : Nat} {x1 : Int32} : f_MD_append w' D a x1 = f_MD_append w D a x1 := by
  obtain ⟨x, y⟩ := w
  obtain ⟨x9, y9⟩ := w'
  obtain rfl : x9 = x := h
  rfl
theorem wc_about (h : w'.1 = w.1) {D : zD} {a : Nat} {x1 : Int32} : f_MD_about w' D a x1 = f_MD_about w D a x1 := by
  obtain ⟨x, y⟩ := w
  obtain ⟨x9, y9⟩ := w'
  obtain rfl : x9 = x := h
  rfl
theorem wc_wallOf (h : w'.1 = w.1) {D : zD} {a : Nat} {x1 : Int32} {x2 : Int32} : f_MD_wallOf w' D a x1 x2 = f_MD_wallOf w D a x1 x2 := by
  obtain ⟨x, y⟩ := w
  obtain ⟨x9, y9⟩ := w'
  obtain rfl : x9 = x := h
  rfl
theorem wc_pulse (h : w'.1 = w.1) {D : zD} {a : Nat} {x1 : Int32} {x2 : Int32} : f_MD_pulse w' D a x1 x2 = f_MD_pulse w D a x1 x2 := by
  obtain ⟨x, y⟩ := w
  obtain ⟨x9, y9⟩ := w'
  obtain rfl : x9 = x := h
  rfl
theorem wc_undo (h : w'.1 = w.1) {D : zD} {a : Nat} : f_MD_undo w' D a = f_MD_undo w D a := by
  obtain ⟨x, y⟩ := w
  obtain ⟨x9, y9⟩ := w'
  obtain rfl : x9 = x := h
  rfl
theorem wc_save (h : w'.1 = w.1) {D : zD} {a : Nat} {x1 : Int32} : f_MD_save w' D a x1 = f_MD_save w D a x1 := by
  obtain ⟨x, y⟩ := w
  obtain ⟨x9, y9⟩ := w'
  obtain rfl : x9 = x := h
  rfl
theorem wc_restore (h : w'.1 = w.1) {D : zD} {a : Nat} {x1 : Int32} : f_MD_restore w' D a x1 = f_MD_restore w D a x1 := by
  obtain ⟨x, y⟩ := w
  obtain ⟨x9, y9⟩ := w'
  obtain rfl : x9 = x := h
  rfl
theorem wc_sirenOf (h : w'.1 = w.1) {D : zD} {a : Nat} {x1 : Int32} {x2 : Int32} : f_MD_sirenOf w' D a x1 x2 = f_MD_sirenOf w D a x1 x2 := by
  obtain ⟨x, y⟩ := w
  obtain ⟨x9, y9⟩ := w'
  obtain rfl : x9 = x := h
  rfl
theorem wc_heard (h : w'.1 = w.1) {D : zD} {a : Nat} {x1 : Int32} {x2 : Int32} {x3 : Int32} : f_MD_heard w' D a x1 x2 x3 = f_MD_heard w D a x1 x2 x3 := by
  obtain ⟨x, y⟩ := w
  obtain ⟨x9, y9⟩ := w'
  obtain rfl : x9 = x := h
  rfl
theorem wc_siren (h : w'.1 = w.1) {D : zD} {a : Nat} {x1 : Int32} {x2 : Int32} {x3 : Int32} {x4 : Int32} {x5 : Int32} : f_MD_siren w' D a x1 x2 x3 x4 x5 = f_MD_siren w D a x1 x2 x3 x4 x5 := by
  obtain ⟨x, y⟩ := w
  obtain ⟨x9, y9⟩ := w'
  obtain rfl : x9 = x := h
  rfl
theorem wc_hearer (h : w'.1 = w.1) {D : zD} {a : Nat} {x1 : Int32} {x2 : Int32} {x3 : Int32} {x4 : Int32} : f_MD_hearer w' D a x1 x2 x3 x4 = f_MD_hearer w D a x1 x2 x3 x4 := by
  obtain ⟨x, y⟩ := w
  obtain ⟨x9, y9⟩ := w'
  obtain rfl : x9 = x := h
  rfl
theorem wc_wall (h : w'.1 = w.1) {D : zD} {a : Nat} {x1 : Int32} {x2 : Int32} : f_MD_wall w' D a x1 x2 = f_MD_wall w D a x1 x2 := by
  obtain ⟨x, y⟩ := w
  obtain ⟨x9, y9⟩ := w'
  obtain rfl : x9 = x := h
  rfl
theorem wc_turn (h : w'.1 = w.1) {D : zD} {a : Nat} {x1 : Int32} {x2 : Int32} : f_MD_turn w' D a x1 x2 = f_MD_turn w D a x1 x2 := by
  obtain ⟨x, y⟩ := w
  obtain ⟨x9, y9⟩ := w'
  obtain rfl : x9 = x := h
  rfl
theorem wc_walk (h : w'.1 = w.1) {D : zD} {a : Nat} {x1 : Int32} {x2 : Int32} {x3 : Int32} : f_MD_walk w' D a x1 x2 x3 = f_MD_walk w D a x1 x2 x3 := by
  obtain ⟨x, y⟩ := w
  obtain ⟨x9, y9⟩ := w'
  obtain rfl : x9 = x := h
  rfl
theorem wc_set (h : w'.1 = w.1) {D : zD} {a : Nat} {x1 : Int32} {x2 : Int32} : f_MD_set w' D a x1 x2 = f_MD_set w D a x1 x2 := by
  obtain ⟨x, y⟩ := w
  obtain ⟨x9, y9⟩ := w'
  obtain rfl : x9 = x := h
  rfl
theorem wc_hearerOf (h : w'.1 = w.1) {D : zD} {a : Nat} {x1 : Int32} {x2 : Int32} : f_MD_hearerOf w' D a x1 x2 = f_MD_hearerOf w D a x1 x2 := by
  obtain ⟨x, y⟩ := w
  obtain ⟨x9, y9⟩ := w'
  obtain rfl : x9 = x := h
  rfl
theorem wc_sirenIn (h : w'.1 = w.1) {D : zD} {a : Nat} {x1 : Int32} {x2 : Int32} {x3 : Int32} : f_MD_sirenIn w' D a x1 x2 x3 = f_MD_sirenIn w D a x1 x2 x3 := by
  obtain ⟨x, y⟩ := w
  obtain ⟨x9, y9⟩ := w'
  obtain rfl : x9 = x := h
  rfl
theorem wc_heardIn (h : w'.1 = w.1) {D : zD} {a : Nat} {x1 : Int32} {x2 : Int32} : f_MD_heardIn w' D a x1 x2 = f_MD_heardIn w D a x1 x2 := by
  obtain ⟨x, y⟩ := w
  obtain ⟨x9, y9⟩ := w'
  obtain rfl : x9 = x := h
  rfl
theorem wc_quietIn (h : w'.1 = w.1) {D : zD} {a : Nat} : f_MD_quietIn w' D a = f_MD_quietIn w D a := by
  obtain ⟨x, y⟩ := w
  obtain ⟨x9, y9⟩ := w'
  obtain rfl : x9 = x := h
  rfl
theorem wc_ticks (h : w'.1 = w.1) {D : zD} {a : Nat} {x1 : Int32} : f_MD_ticks w' D a x1 = f_MD_ticks w D a x1 := by
  obtain ⟨x, y⟩ := w
  obtain ⟨x9, y9⟩ := w'
  obtain rfl : x9 = x := h
  rfl
theorem wc_leastSpeed (h : w'.1 = w.1) {D : zD} {a : Nat} {x1 : Int32} : f_MD_leastSpeed w' D a x1 = f_MD_leastSpeed w D a x1 := by
  obtain ⟨x, y⟩ := w
  obtain ⟨x9, y9⟩ := w'
  obtain rfl : x9 = x := h
  rfl
theorem wc_runScript (h : w'.1 = w.1) {D : zD} {a : Nat} {x1 : Int32} {l2 : Int64} : f_MD_runScript w' D a x1 l2 = f_MD_runScript w D a x1 l2 := by
  obtain ⟨x, y⟩ := w
  obtain ⟨x9, y9⟩ := w'
  obtain rfl : x9 = x := h
  rfl
theorem wc_simulate (h : w'.1 = w.1) {D : zD} {a : Nat} {l1 : Int64} {x3 : Int32} : f_MD_simulate w' D a l1 x3 = f_MD_simulate w D a l1 x3 := by
  obtain ⟨x, y⟩ := w
  obtain ⟨x9, y9⟩ := w'
  obtain rfl : x9 = x := h
  rfl
theorem wc_errorPosition (h : w'.1 = w.1) {D : zD} {a : Nat} : f_MD_errorPosition w' D a = f_MD_errorPosition w D a := by
  obtain ⟨x, y⟩ := w
  obtain ⟨x9, y9⟩ := w'
  obtain rfl : x9 = x := h
  rfl
theorem wc_load (h : w'.1 = w.1) {D : zD} {a : Nat} : f_MD_load w' D a = f_MD_load w D a := by
  obtain ⟨x, y⟩ := w
  obtain ⟨x9, y9⟩ := w'
  obtain rfl : x9 = x := h
  rfl
end P77
