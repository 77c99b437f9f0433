def T_SirenFair : u_T := fun k => match k with
  | 0 => ("SirenFair", "text", "LSirenFair$FairText;", true)
  | 1 => ("SirenFair", "present", "LSirenFair$Field;", true)
  | 2 => ("SirenFair", "blank", "LSirenFair$Field;", true)
  | 3 => ("SirenFair", "trial", "LSirenFair$Field;", true)
  | 4 => ("SirenFair", "remembered", "[LSirenFair$Field;", true)
  | 5 => ("SirenFair", "oldestRemembered", "I", false)
  | 6 => ("SirenFair", "rememberedCount", "I", false)
  | 7 => ("SirenFair", "saved", "[LSirenFair$Field;", true)
  | _ => ("SirenFair", "isSaved", "[Z", true)
def ty_SirenFair : Nat → FieldType := fun k => match k with
  | 0 => .object "SirenFair$FairText"
  | 1 => .object "SirenFair$Field"
  | 2 => .object "SirenFair$Field"
  | 3 => .object "SirenFair$Field"
  | 4 => .array (.object "SirenFair$Field")
  | 5 => .int
  | 6 => .int
  | 7 => .array (.object "SirenFair$Field")
  | _ => .array .boolean
def T_Ears : u_T := fun k => match k with
  | 0 => ("SirenFair$Ears", "direct", "[I", true)
  | 1 => ("SirenFair$Ears", "echoes", "[I", true)
  | 2 => ("SirenFair$Ears", "late", "[I", true)
  | 3 => ("SirenFair$Ears", "latestTick", "[I", true)
  | 4 => ("SirenFair$Ears", "pause", "[I", true)
  | 5 => ("SirenFair$Ears", "latestGiven", "[I", true)
  | 6 => ("SirenFair$Ears", "allDirect", "I", false)
  | 7 => ("SirenFair$Ears", "allEchoes", "I", false)
  | _ => ("SirenFair$Ears", "allLate", "I", false)
def ty_Ears : Nat → FieldType := fun k => match k with
  | 0 => .array .int
  | 1 => .array .int
  | 2 => .array .int
  | 3 => .array .int
  | 4 => .array .int
  | 5 => .array .int
  | 6 => .int
  | 7 => .int
  | _ => .int
def T_FairText : u_T := fun k => match k with
  | 0 => ("SirenFair$FairText", "signs", "[C", true)
  | 1 => ("SirenFair$FairText", "length", "I", false)
  | 2 => ("SirenFair$FairText", "at", "I", false)
  | 3 => ("SirenFair$FairText", "letter", "I", false)
  | _ => ("SirenFair$FairText", "numbers", "[I", true)
def ty_FairText : Nat → FieldType := fun k => match k with
  | 0 => .array .char
  | 1 => .int
  | 2 => .int
  | 3 => .int
  | _ => .array .int
def T_Field : u_T := fun k => match k with
  | 0 => ("SirenFair$Field", "sirens", "LSirenFair$Sirens;", true)
  | 1 => ("SirenFair$Field", "hearers", "LSirenFair$Hearers;", true)
  | 2 => ("SirenFair$Field", "walls", "LSirenFair$Walls;", true)
  | 3 => ("SirenFair$Field", "pulses", "LSirenFair$Pulses;", true)
  | 4 => ("SirenFair$Field", "ears", "LSirenFair$Ears;", true)
  | 5 => ("SirenFair$Field", "time", "I", false)
  | 6 => ("SirenFair$Field", "given", "I", false)
  | 7 => ("SirenFair$Field", "speedOfSound", "I", false)
  | _ => ("SirenFair$Field", "lasting", "I", false)
def ty_Field : Nat → FieldType := fun k => match k with
  | 0 => .object "SirenFair$Sirens"
  | 1 => .object "SirenFair$Hearers"
  | 2 => .object "SirenFair$Walls"
  | 3 => .object "SirenFair$Pulses"
  | 4 => .object "SirenFair$Ears"
  | 5 => .int
  | 6 => .int
  | 7 => .int
  | _ => .int
def T_Hearers : u_T := fun k => match k with
  | 0 => ("SirenFair$Hearers", "x", "[I", true)
  | 1 => ("SirenFair$Hearers", "y", "[I", true)
  | 2 => ("SirenFair$Hearers", "vx", "[I", true)
  | 3 => ("SirenFair$Hearers", "vy", "[I", true)
  | 4 => ("SirenFair$Hearers", "beats", "[I", true)
  | 5 => ("SirenFair$Hearers", "sirensNow", "[I", true)
  | 6 => ("SirenFair$Hearers", "count", "I", false)
  | _ => ("SirenFair$Hearers", "allBeats", "I", false)
def ty_Hearers : Nat → FieldType := fun k => match k with
  | 0 => .array .int
  | 1 => .array .int
  | 2 => .array .int
  | 3 => .array .int
  | 4 => .array .int
  | 5 => .array .int
  | 6 => .int
  | _ => .int
def T_Pulses : u_T := fun k => match k with
  | 0 => ("SirenFair$Pulses", "siren", "[I", true)
  | 1 => ("SirenFair$Pulses", "x", "[I", true)
  | 2 => ("SirenFair$Pulses", "y", "[I", true)
  | 3 => ("SirenFair$Pulses", "tick", "[I", true)
  | 4 => ("SirenFair$Pulses", "wall", "[I", true)
  | 5 => ("SirenFair$Pulses", "heardBy", "[I", true)
  | 6 => ("SirenFair$Pulses", "oldest", "I", false)
  | _ => ("SirenFair$Pulses", "count", "I", false)
def ty_Pulses : Nat → FieldType := fun k => match k with
  | 0 => .array .int
  | 1 => .array .int
  | 2 => .array .int
  | 3 => .array .int
  | 4 => .array .int
  | 5 => .array .int
  | 6 => .int
  | _ => .int
def T_Sirens : u_T := fun k => match k with
  | 0 => ("SirenFair$Sirens", "x", "[I", true)
  | 1 => ("SirenFair$Sirens", "y", "[I", true)
  | 2 => ("SirenFair$Sirens", "r", "[I", true)
  | 3 => ("SirenFair$Sirens", "speed", "[I", true)
  | 4 => ("SirenFair$Sirens", "period", "[I", true)
  | 5 => ("SirenFair$Sirens", "place", "[I", true)
  | 6 => ("SirenFair$Sirens", "on", "[Z", true)
  | _ => ("SirenFair$Sirens", "count", "I", false)
def ty_Sirens : Nat → FieldType := fun k => match k with
  | 0 => .array .int
  | 1 => .array .int
  | 2 => .array .int
  | 3 => .array .int
  | 4 => .array .int
  | 5 => .array .int
  | 6 => .array .boolean
  | _ => .int
def T_Walls : u_T := fun k => match k with
  | 0 => ("SirenFair$Walls", "upright", "[Z", true)
  | 1 => ("SirenFair$Walls", "at", "[I", true)
  | _ => ("SirenFair$Walls", "count", "I", false)
def ty_Walls : Nat → FieldType := fun k => match k with
  | 0 => .array .boolean
  | 1 => .array .int
  | _ => .int
abbrev zcl : List vw_C := [("SirenFair", T_SirenFair, 9), ("SirenFair$Ears", T_Ears, 9), ("SirenFair$FairText", T_FairText, 5), ("SirenFair$Field", T_Field, 9), ("SirenFair$Hearers", T_Hearers, 8), ("SirenFair$Pulses", T_Pulses, 8), ("SirenFair$Sirens", T_Sirens, 8), ("SirenFair$Walls", T_Walls, 3)]
theorem nm_SirenFair : ∀ a, a < 9 → ∀ b, b < 9 → a ≠ b → (T_SirenFair a).2.1 ≠ (T_SirenFair b).2.1 := by decide +kernel
theorem tyok_SirenFair : ∀ k, k < 9 → parseFieldDescriptor (T_SirenFair k).2.2.1 = some (ty_SirenFair k) := by decide +kernel
theorem nm_Ears : ∀ a, a < 9 → ∀ b, b < 9 → a ≠ b → (T_Ears a).2.1 ≠ (T_Ears b).2.1 := by decide +kernel
theorem tyok_Ears : ∀ k, k < 9 → parseFieldDescriptor (T_Ears k).2.2.1 = some (ty_Ears k) := by decide +kernel
theorem nm_FairText : ∀ a, a < 5 → ∀ b, b < 5 → a ≠ b → (T_FairText a).2.1 ≠ (T_FairText b).2.1 := by decide +kernel
theorem tyok_FairText : ∀ k, k < 5 → parseFieldDescriptor (T_FairText k).2.2.1 = some (ty_FairText k) := by decide +kernel
theorem nm_Field : ∀ a, a < 9 → ∀ b, b < 9 → a ≠ b → (T_Field a).2.1 ≠ (T_Field b).2.1 := by decide +kernel
theorem tyok_Field : ∀ k, k < 9 → parseFieldDescriptor (T_Field k).2.2.1 = some (ty_Field k) := by decide +kernel
theorem nm_Hearers : ∀ a, a < 8 → ∀ b, b < 8 → a ≠ b → (T_Hearers a).2.1 ≠ (T_Hearers b).2.1 := by decide +kernel
theorem tyok_Hearers : ∀ k, k < 8 → parseFieldDescriptor (T_Hearers k).2.2.1 = some (ty_Hearers k) := by decide +kernel
theorem nm_Pulses : ∀ a, a < 8 → ∀ b, b < 8 → a ≠ b → (T_Pulses a).2.1 ≠ (T_Pulses b).2.1 := by decide +kernel
theorem tyok_Pulses : ∀ k, k < 8 → parseFieldDescriptor (T_Pulses k).2.2.1 = some (ty_Pulses k) := by decide +kernel
theorem nm_Sirens : ∀ a, a < 8 → ∀ b, b < 8 → a ≠ b → (T_Sirens a).2.1 ≠ (T_Sirens b).2.1 := by decide +kernel
theorem tyok_Sirens : ∀ k, k < 8 → parseFieldDescriptor (T_Sirens k).2.2.1 = some (ty_Sirens k) := by decide +kernel
theorem nm_Walls : ∀ a, a < 3 → ∀ b, b < 3 → a ≠ b → (T_Walls a).2.1 ≠ (T_Walls b).2.1 := by decide +kernel
theorem tyok_Walls : ∀ k, k < 3 → parseFieldDescriptor (T_Walls k).2.2.1 = some (ty_Walls k) := by decide +kernel
