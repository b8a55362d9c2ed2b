def RX0 : String := "ThawWords$Cape"
def TX0 : u_T := fun k => match k with
  | 0 => ("ThawWords$Cape", "colder", "[I", true)
  | 1 => ("ThawWords$Cape", "weather", "[I", true)
  | 2 => ("ThawWords$Cape", "melt", "[I", true)
  | 3 => ("ThawWords$Cape", "pitch", "[I", true)
  | 4 => ("ThawWords$Cape", "home", "[I", true)
  | 5 => ("ThawWords$Cape", "placeCount", "I", false)
  | 6 => ("ThawWords$Cape", "hourCount", "I", false)
  | 7 => ("ThawWords$Cape", "soundCount", "I", false)
  | _ => ("ThawWords$Cape", "personCount", "I", false)
def tyX0 : Nat → FieldType := fun k => match k with
  | 0 => .array .int
  | 1 => .array .int
  | 2 => .array .int
  | 3 => .array .int
  | 4 => .array .int
  | 5 => .int
  | 6 => .int
  | 7 => .int
  | _ => .int
abbrev wsX00 : List Cond := u_ws RX0 TX0 9
theorem nmX0 : ∀ a, a < 9 → ∀ b, b < 9 → a ≠ b → (TX0 a).2.1 ≠ (TX0 b).2.1 := by decide +kernel
theorem tyX0_ok : ∀ k, k < 9 → parseFieldDescriptor (TX0 k).2.2.1 = some (tyX0 k) := by decide +kernel
def RX1 : String := "ThawWords$Ear"
def TX1 : u_T := fun k => match k with
  | 0 => ("ThawWords$Ear", "sayings", "[I", true)
  | 1 => ("ThawWords$Ear", "sounds", "[I", true)
  | _ => ("ThawWords$Ear", "count", "I", false)
def tyX1 : Nat → FieldType := fun k => match k with
  | 0 => .array .int
  | 1 => .array .int
  | _ => .int
abbrev wsX10 : List Cond := u_ws RX1 TX1 3
theorem nmX1 : ∀ a, a < 3 → ∀ b, b < 3 → a ≠ b → (TX1 a).2.1 ≠ (TX1 b).2.1 := by decide +kernel
theorem tyX1_ok : ∀ k, k < 3 → parseFieldDescriptor (TX1 k).2.2.1 = some (tyX1 k) := by decide +kernel
def RX2 : String := "ThawWords$Saying"
def TX2 : u_T := fun k => match k with
  | 0 => ("ThawWords$Saying", "sounds", "[I", true)
  | 1 => ("ThawWords$Saying", "heardIn", "[I", true)
  | 2 => ("ThawWords$Saying", "length", "I", false)
  | 3 => ("ThawWords$Saying", "who", "I", false)
  | 4 => ("ThawWords$Saying", "where", "I", false)
  | 5 => ("ThawWords$Saying", "hour", "I", false)
  | 6 => ("ThawWords$Saying", "loud", "I", false)
  | _ => ("ThawWords$Saying", "standers", "I", false)
def tyX2 : Nat → FieldType := fun k => match k with
  | 0 => .array .int
  | 1 => .array .int
  | 2 => .int
  | 3 => .int
  | 4 => .int
  | 5 => .int
  | 6 => .int
  | _ => .int
abbrev wsX20 : List Cond := u_ws RX2 TX2 8
theorem nmX2 : ∀ a, a < 8 → ∀ b, b < 8 → a ≠ b → (TX2 a).2.1 ≠ (TX2 b).2.1 := by decide +kernel
theorem tyX2_ok : ∀ k, k < 8 → parseFieldDescriptor (TX2 k).2.2.1 = some (tyX2 k) := by decide +kernel
def RX3 : String := "ThawWords$Scene"
def TX3 : u_T := fun k => match k with
  | 0 => ("ThawWords$Scene", "sayings", "[LThawWords$Saying;", true)
  | 1 => ("ThawWords$Scene", "ears", "[LThawWords$Ear;", true)
  | 2 => ("ThawWords$Scene", "stands", "[I", true)
  | 3 => ("ThawWords$Scene", "sayingCount", "I", false)
  | 4 => ("ThawWords$Scene", "hour", "I", false)
  | 5 => ("ThawWords$Scene", "lanterns", "I", false)
  | _ => ("ThawWords$Scene", "kept", "Z", false)
def tyX3 : Nat → FieldType := fun k => match k with
  | 0 => .array (.object "ThawWords$Saying")
  | 1 => .array (.object "ThawWords$Ear")
  | 2 => .array .int
  | 3 => .int
  | 4 => .int
  | 5 => .int
  | _ => .boolean
abbrev wsX30 : List Cond := u_ws RX3 TX3 7
theorem nmX3 : ∀ a, a < 7 → ∀ b, b < 7 → a ≠ b → (TX3 a).2.1 ≠ (TX3 b).2.1 := by decide +kernel
theorem tyX3_ok : ∀ k, k < 7 → parseFieldDescriptor (TX3 k).2.2.1 = some (tyX3 k) := by decide +kernel
def RX4 : String := "ThawWords$Text"
def TX4 : u_T := fun k => match k with
  | 0 => ("ThawWords$Text", "bytes", "[I", true)
  | 1 => ("ThawWords$Text", "length", "I", false)
  | 2 => ("ThawWords$Text", "start", "I", false)
  | 3 => ("ThawWords$Text", "end", "I", false)
  | 4 => ("ThawWords$Text", "token", "I", false)
  | _ => ("ThawWords$Text", "value", "I", false)
def tyX4 : Nat → FieldType := fun k => match k with
  | 0 => .array .int
  | 1 => .int
  | 2 => .int
  | 3 => .int
  | 4 => .int
  | _ => .int
abbrev wsX40 : List Cond := u_ws RX4 TX4 6
theorem nmX4 : ∀ a, a < 6 → ∀ b, b < 6 → a ≠ b → (TX4 a).2.1 ≠ (TX4 b).2.1 := by decide +kernel
theorem tyX4_ok : ∀ k, k < 6 → parseFieldDescriptor (TX4 k).2.2.1 = some (tyX4 k) := by decide +kernel
def RX5 : String := "ThawWords"
def TX5 : u_T := fun k => match k with
  | 0 => ("ThawWords", "text", "LThawWords$Text;", true)
  | 1 => ("ThawWords", "known", "LThawWords$Cape;", true)
  | 2 => ("ThawWords", "draft", "LThawWords$Cape;", true)
  | 3 => ("ThawWords", "now", "LThawWords$Scene;", true)
  | 4 => ("ThawWords", "image0", "LThawWords$Scene;", true)
  | 5 => ("ThawWords", "image1", "LThawWords$Scene;", true)
  | _ => ("ThawWords", "trace", "J", false)
def tyX5 : Nat → FieldType := fun k => match k with
  | 0 => .object "ThawWords$Text"
  | 1 => .object "ThawWords$Cape"
  | 2 => .object "ThawWords$Cape"
  | 3 => .object "ThawWords$Scene"
  | 4 => .object "ThawWords$Scene"
  | 5 => .object "ThawWords$Scene"
  | _ => .long
abbrev wsX50 : List Cond := u_ws RX5 TX5 7
theorem nmX5 : ∀ a, a < 7 → ∀ b, b < 7 → a ≠ b → (TX5 a).2.1 ≠ (TX5 b).2.1 := by decide +kernel
theorem tyX5_ok : ∀ k, k < 7 → parseFieldDescriptor (TX5 k).2.2.1 = some (tyX5 k) := by decide +kernel
def RX6 : String := "ThawWordsModel"
def TX6 : u_T := fun k => match k with
  | 0 => ("ThawWordsModel", "thrown", "I", false)
  | 1 => ("ThawWordsModel", "trace", "J", false)
  | 2 => ("ThawWordsModel", "text", "[I", true)
  | 3 => ("ThawWordsModel", "typed", "I", false)
  | 4 => ("ThawWordsModel", "next", "I", false)
  | 5 => ("ThawWordsModel", "token", "I", false)
  | 6 => ("ThawWordsModel", "place", "I", false)
  | 7 => ("ThawWordsModel", "value", "I", false)
  | 8 => ("ThawWordsModel", "fault", "I", false)
  | 9 => ("ThawWordsModel", "colder", "[I", true)
  | 10 => ("ThawWordsModel", "weather", "[I", true)
  | 11 => ("ThawWordsModel", "melt", "[I", true)
  | 12 => ("ThawWordsModel", "pitch", "[I", true)
  | 13 => ("ThawWordsModel", "stands", "[I", true)
  | 14 => ("ThawWordsModel", "places", "I", false)
  | 15 => ("ThawWordsModel", "hours", "I", false)
  | 16 => ("ThawWordsModel", "sounds", "I", false)
  | 17 => ("ThawWordsModel", "people", "I", false)
  | 18 => ("ThawWordsModel", "draftPlaces", "I", false)
  | 19 => ("ThawWordsModel", "draftHours", "I", false)
  | 20 => ("ThawWordsModel", "draftSounds", "I", false)
  | 21 => ("ThawWordsModel", "draftPeople", "I", false)
  | 22 => ("ThawWordsModel", "s", "[I", true)
  | 23 => ("ThawWordsModel", "kept", "[I", true)
  | _ => ("ThawWordsModel", "isKept", "[Z", true)
def tyX6 : Nat → FieldType := fun k => match k with
  | 0 => .int
  | 1 => .long
  | 2 => .array .int
  | 3 => .int
  | 4 => .int
  | 5 => .int
  | 6 => .int
  | 7 => .int
  | 8 => .int
  | 9 => .array .int
  | 10 => .array .int
  | 11 => .array .int
  | 12 => .array .int
  | 13 => .array .int
  | 14 => .int
  | 15 => .int
  | 16 => .int
  | 17 => .int
  | 18 => .int
  | 19 => .int
  | 20 => .int
  | 21 => .int
  | 22 => .array .int
  | 23 => .array .int
  | _ => .array .boolean
abbrev wsX60 : List Cond := u_ws RX6 TX6 25
theorem nmX6 : ∀ a, a < 25 → ∀ b, b < 25 → a ≠ b → (TX6 a).2.1 ≠ (TX6 b).2.1 := by decide +kernel
theorem tyX6_ok : ∀ k, k < 25 → parseFieldDescriptor (TX6 k).2.2.1 = some (tyX6 k) := by decide +kernel
abbrev vwCl : List vw_C := [(RX0, TX0, 9), (RX1, TX1, 3), (RX2, TX2, 8), (RX3, TX3, 7), (RX4, TX4, 6), (RX5, TX5, 7), (RX6, TX6, 25)]
