def RX0 : String := "BurntHall$Act"
def TX0 : u_T := fun k => match k with
  | 0 => ("BurntHall$Act", "day", "I", false)
  | 1 => ("BurntHall$Act", "proofs", "I", false)
  | 2 => ("BurntHall$Act", "rules", "[I", true)
  | 3 => ("BurntHall$Act", "proofRow", "[I", true)
  | 4 => ("BurntHall$Act", "starts", "[I", true)
  | _ => ("BurntHall$Act", "steps", "[J", false)
def tyX0 : Nat → FieldType := fun k => match k with
  | 0 => .int
  | 1 => .int
  | 2 => .array .int
  | 3 => .array .int
  | 4 => .array .int
  | _ => .array .long
theorem nmX0 : ∀ a, a < 6 → ∀ b, b < 6 → a ≠ b → (TX0 a).2.1 ≠ (TX0 b).2.1 := by decide +kernel
theorem tyX0_ok : ∀ k, k < 6 → parseFieldDescriptor (TX0 k).2.2.1 = some (tyX0 k) := by decide +kernel
def RX1 : String := "BurntHall$Acts"
def TX1 : u_T := fun k => match k with
  | 0 => ("BurntHall$Acts", "size", "I", false)
  | 1 => ("BurntHall$Acts", "tape", "LBurntHall$Tape;", true)
  | 2 => ("BurntHall$Acts", "clauseWords", "[J", true)
  | 3 => ("BurntHall$Acts", "kindWords", "[J", true)
  | 4 => ("BurntHall$Acts", "reserved", "[J", true)
  | 5 => ("BurntHall$Acts", "slots", "[LBurntHall$Act;", true)
  | 6 => ("BurntHall$Acts", "steps", "[J", true)
  | 7 => ("BurntHall$Acts", "waiting", "[I", true)
  | 8 => ("BurntHall$Acts", "draft", "LBurntHall$Act;", false)
  | 9 => ("BurntHall$Acts", "stepCount", "I", false)
  | 10 => ("BurntHall$Acts", "toldClauses", "I", false)
  | _ => ("BurntHall$Acts", "tests", "I", false)
def tyX1 : Nat → FieldType := fun k => match k with
  | 0 => .int
  | 1 => .object "BurntHall$Tape"
  | 2 => .array .long
  | 3 => .array .long
  | 4 => .array .long
  | 5 => .array (.object "BurntHall$Act")
  | 6 => .array .long
  | 7 => .array .int
  | 8 => .object "BurntHall$Act"
  | 9 => .int
  | 10 => .int
  | _ => .int
theorem nmX1 : ∀ a, a < 12 → ∀ b, b < 12 → a ≠ b → (TX1 a).2.1 ≠ (TX1 b).2.1 := by decide +kernel
theorem tyX1_ok : ∀ k, k < 12 → parseFieldDescriptor (TX1 k).2.2.1 = some (tyX1 k) := by decide +kernel
def RX2 : String := "BurntHall$Chains"
def TX2 : u_T := fun k => match k with
  | 0 => ("BurntHall$Chains", "people", "LBurntHall$People;", true)
  | 1 => ("BurntHall$Chains", "lots", "LBurntHall$Lots;", true)
  | 2 => ("BurntHall$Chains", "evidence", "LBurntHall$Evidence;", true)
  | 3 => ("BurntHall$Chains", "heirs", "Z", false)
  | 4 => ("BurntHall$Chains", "asked", "I", false)
  | 5 => ("BurntHall$Chains", "roots", "J", false)
  | 6 => ("BurntHall$Chains", "size", "I", false)
  | 7 => ("BurntHall$Chains", "burnt", "[I", true)
  | 8 => ("BurntHall$Chains", "begin", "[I", true)
  | 9 => ("BurntHall$Chains", "finish", "[I", true)
  | 10 => ("BurntHall$Chains", "points", "[I", true)
  | 11 => ("BurntHall$Chains", "gave", "[I", true)
  | 12 => ("BurntHall$Chains", "got", "[I", true)
  | 13 => ("BurntHall$Chains", "enders", "I", false)
  | 14 => ("BurntHall$Chains", "followers", "[I", true)
  | 15 => ("BurntHall$Chains", "latest", "[I", true)
  | 16 => ("BurntHall$Chains", "sorted", "[I", true)
  | 17 => ("BurntHall$Chains", "row", "[I", true)
  | 18 => ("BurntHall$Chains", "found", "[I", true)
  | _ => ("BurntHall$Chains", "remembered", "[I", true)
def tyX2 : Nat → FieldType := fun k => match k with
  | 0 => .object "BurntHall$People"
  | 1 => .object "BurntHall$Lots"
  | 2 => .object "BurntHall$Evidence"
  | 3 => .boolean
  | 4 => .int
  | 5 => .long
  | 6 => .int
  | 7 => .array .int
  | 8 => .array .int
  | 9 => .array .int
  | 10 => .array .int
  | 11 => .array .int
  | 12 => .array .int
  | 13 => .int
  | 14 => .array .int
  | 15 => .array .int
  | 16 => .array .int
  | 17 => .array .int
  | 18 => .array .int
  | _ => .array .int
theorem nmX2 : ∀ a, a < 20 → ∀ b, b < 20 → a ≠ b → (TX2 a).2.1 ≠ (TX2 b).2.1 := by decide +kernel
theorem tyX2_ok : ∀ k, k < 20 → parseFieldDescriptor (TX2 k).2.2.1 = some (tyX2 k) := by decide +kernel
def RX3 : String := "BurntHall$Claims"
def TX3 : u_T := fun k => match k with
  | 0 => ("BurntHall$Claims", "size", "I", false)
  | 1 => ("BurntHall$Claims", "coin", "I", false)
  | 2 => ("BurntHall$Claims", "acts", "LBurntHall$Acts;", true)
  | 3 => ("BurntHall$Claims", "evidence", "LBurntHall$Evidence;", true)
  | 4 => ("BurntHall$Claims", "chains", "LBurntHall$Chains;", true)
  | 5 => ("BurntHall$Claims", "person", "[I", true)
  | 6 => ("BurntHall$Claims", "lot", "[I", true)
  | 7 => ("BurntHall$Claims", "noticed", "[I", true)
  | 8 => ("BurntHall$Claims", "state", "[I", true)
  | 9 => ("BurntHall$Claims", "pounds", "[I", true)
  | 10 => ("BurntHall$Claims", "winner", "[I", true)
  | 11 => ("BurntHall$Claims", "ruledOn", "[I", true)
  | 12 => ("BurntHall$Claims", "doubtDays", "[I", true)
  | 13 => ("BurntHall$Claims", "gaps", "I", false)
  | _ => ("BurntHall$Claims", "weakest", "I", false)
def tyX3 : Nat → FieldType := fun k => match k with
  | 0 => .int
  | 1 => .int
  | 2 => .object "BurntHall$Acts"
  | 3 => .object "BurntHall$Evidence"
  | 4 => .object "BurntHall$Chains"
  | 5 => .array .int
  | 6 => .array .int
  | 7 => .array .int
  | 8 => .array .int
  | 9 => .array .int
  | 10 => .array .int
  | 11 => .array .int
  | 12 => .array .int
  | 13 => .int
  | _ => .int
theorem nmX3 : ∀ a, a < 15 → ∀ b, b < 15 → a ≠ b → (TX3 a).2.1 ≠ (TX3 b).2.1 := by decide +kernel
theorem tyX3_ok : ∀ k, k < 15 → parseFieldDescriptor (TX3 k).2.2.1 = some (tyX3 k) := by decide +kernel
def RX4 : String := "BurntHall$Evidence"
def TX4 : u_T := fun k => match k with
  | 0 => ("BurntHall$Evidence", "burnts", "I", false)
  | 1 => ("BurntHall$Evidence", "people", "LBurntHall$People;", true)
  | 2 => ("BurntHall$Evidence", "lots", "LBurntHall$Lots;", true)
  | 3 => ("BurntHall$Evidence", "papers", "LBurntHall$Papers;", true)
  | 4 => ("BurntHall$Evidence", "acts", "LBurntHall$Acts;", true)
  | 5 => ("BurntHall$Evidence", "fresh", "Z", false)
  | 6 => ("BurntHall$Evidence", "day", "I", false)
  | 7 => ("BurntHall$Evidence", "actNumber", "I", false)
  | 8 => ("BurntHall$Evidence", "facts", "[I", true)
  | 9 => ("BurntHall$Evidence", "trusted", "[Z", true)
  | 10 => ("BurntHall$Evidence", "witnesses", "[I", true)
  | 11 => ("BurntHall$Evidence", "witnessCount", "I", false)
  | _ => ("BurntHall$Evidence", "oathWeights", "[I", true)
def tyX4 : Nat → FieldType := fun k => match k with
  | 0 => .int
  | 1 => .object "BurntHall$People"
  | 2 => .object "BurntHall$Lots"
  | 3 => .object "BurntHall$Papers"
  | 4 => .object "BurntHall$Acts"
  | 5 => .boolean
  | 6 => .int
  | 7 => .int
  | 8 => .array .int
  | 9 => .array .boolean
  | 10 => .array .int
  | 11 => .int
  | _ => .array .int
theorem nmX4 : ∀ a, a < 13 → ∀ b, b < 13 → a ≠ b → (TX4 a).2.1 ≠ (TX4 b).2.1 := by decide +kernel
theorem tyX4_ok : ∀ k, k < 13 → parseFieldDescriptor (TX4 k).2.2.1 = some (tyX4 k) := by decide +kernel
def RX5 : String := "BurntHall$Lots"
def TX5 : u_T := fun k => match k with
  | 0 => ("BurntHall$Lots", "size", "I", false)
  | 1 => ("BurntHall$Lots", "ways", "[J", true)
  | 2 => ("BurntHall$Lots", "feet", "[I", true)
  | 3 => ("BurntHall$Lots", "from", "[I", true)
  | 4 => ("BurntHall$Lots", "ended", "[I", true)
  | 5 => ("BurntHall$Lots", "splitLack", "[I", true)
  | 6 => ("BurntHall$Lots", "joinLack", "[I", true)
  | 7 => ("BurntHall$Lots", "origin", "[J", true)
  | 8 => ("BurntHall$Lots", "rootHolder", "[I", true)
  | 9 => ("BurntHall$Lots", "rootDay", "[I", true)
  | 10 => ("BurntHall$Lots", "sides", "[I", true)
  | 11 => ("BurntHall$Lots", "cornerX", "[I", true)
  | 12 => ("BurntHall$Lots", "cornerY", "[I", true)
  | 13 => ("BurntHall$Lots", "lines", "[I", true)
  | 14 => ("BurntHall$Lots", "draft", "[I", true)
  | 15 => ("BurntHall$Lots", "chosen", "[I", true)
  | 16 => ("BurntHall$Lots", "xs", "[I", true)
  | 17 => ("BurntHall$Lots", "ys", "[I", true)
  | 18 => ("BurntHall$Lots", "otherXs", "[I", true)
  | _ => ("BurntHall$Lots", "otherYs", "[I", true)
def tyX5 : Nat → FieldType := fun k => match k with
  | 0 => .int
  | 1 => .array .long
  | 2 => .array .int
  | 3 => .array .int
  | 4 => .array .int
  | 5 => .array .int
  | 6 => .array .int
  | 7 => .array .long
  | 8 => .array .int
  | 9 => .array .int
  | 10 => .array .int
  | 11 => .array .int
  | 12 => .array .int
  | 13 => .array .int
  | 14 => .array .int
  | 15 => .array .int
  | 16 => .array .int
  | 17 => .array .int
  | 18 => .array .int
  | _ => .array .int
theorem nmX5 : ∀ a, a < 20 → ∀ b, b < 20 → a ≠ b → (TX5 a).2.1 ≠ (TX5 b).2.1 := by decide +kernel
theorem tyX5_ok : ∀ k, k < 20 → parseFieldDescriptor (TX5 k).2.2.1 = some (tyX5 k) := by decide +kernel
def RX6 : String := "BurntHall$Mortgages"
def TX6 : u_T := fun k => match k with
  | 0 => ("BurntHall$Mortgages", "size", "I", false)
  | 1 => ("BurntHall$Mortgages", "lots", "LBurntHall$Lots;", true)
  | 2 => ("BurntHall$Mortgages", "acts", "LBurntHall$Acts;", true)
  | 3 => ("BurntHall$Mortgages", "lot", "[I", true)
  | 4 => ("BurntHall$Mortgages", "made", "[I", true)
  | 5 => ("BurntHall$Mortgages", "till", "[I", true)
  | 6 => ("BurntHall$Mortgages", "paidOn", "[I", true)
  | _ => ("BurntHall$Mortgages", "paidKnown", "[I", true)
def tyX6 : Nat → FieldType := fun k => match k with
  | 0 => .int
  | 1 => .object "BurntHall$Lots"
  | 2 => .object "BurntHall$Acts"
  | 3 => .array .int
  | 4 => .array .int
  | 5 => .array .int
  | 6 => .array .int
  | _ => .array .int
theorem nmX6 : ∀ a, a < 8 → ∀ b, b < 8 → a ≠ b → (TX6 a).2.1 ≠ (TX6 b).2.1 := by decide +kernel
theorem tyX6_ok : ∀ k, k < 8 → parseFieldDescriptor (TX6 k).2.2.1 = some (tyX6 k) := by decide +kernel
def RX7 : String := "BurntHall$Papers"
def TX7 : u_T := fun k => match k with
  | 0 => ("BurntHall$Papers", "size", "I", false)
  | 1 => ("BurntHall$Papers", "pageRoom", "I", false)
  | 2 => ("BurntHall$Papers", "kind", "[I", true)
  | 3 => ("BurntHall$Papers", "burnt", "[I", true)
  | 4 => ("BurntHall$Papers", "known", "[I", true)
  | 5 => ("BurntHall$Papers", "from", "[I", true)
  | 6 => ("BurntHall$Papers", "to", "[I", true)
  | 7 => ("BurntHall$Papers", "said", "[I", true)
  | 8 => ("BurntHall$Papers", "hand", "[I", true)
  | 9 => ("BurntHall$Papers", "writtenOn", "[I", true)
  | 10 => ("BurntHall$Papers", "page", "[I", true)
  | 11 => ("BurntHall$Papers", "markCount", "[I", true)
  | 12 => ("BurntHall$Papers", "markWords", "[J", true)
  | 13 => ("BurntHall$Papers", "markNumbers", "[I", true)
  | 14 => ("BurntHall$Papers", "draftWords", "[J", true)
  | 15 => ("BurntHall$Papers", "draftNumbers", "[I", true)
  | 16 => ("BurntHall$Papers", "draftCount", "I", false)
  | 17 => ("BurntHall$Papers", "weights", "[I", true)
  | _ => ("BurntHall$Papers", "stack", "[I", true)
def tyX7 : Nat → FieldType := fun k => match k with
  | 0 => .int
  | 1 => .int
  | 2 => .array .int
  | 3 => .array .int
  | 4 => .array .int
  | 5 => .array .int
  | 6 => .array .int
  | 7 => .array .int
  | 8 => .array .int
  | 9 => .array .int
  | 10 => .array .int
  | 11 => .array .int
  | 12 => .array .long
  | 13 => .array .int
  | 14 => .array .long
  | 15 => .array .int
  | 16 => .int
  | 17 => .array .int
  | _ => .array .int
theorem nmX7 : ∀ a, a < 19 → ∀ b, b < 19 → a ≠ b → (TX7 a).2.1 ≠ (TX7 b).2.1 := by decide +kernel
theorem tyX7_ok : ∀ k, k < 19 → parseFieldDescriptor (TX7 k).2.2.1 = some (tyX7 k) := by decide +kernel
def RX8 : String := "BurntHall$People"
def TX8 : u_T := fun k => match k with
  | 0 => ("BurntHall$People", "size", "I", false)
  | 1 => ("BurntHall$People", "tellings", "I", false)
  | 2 => ("BurntHall$People", "from", "[I", true)
  | 3 => ("BurntHall$People", "kind", "[I", true)
  | 4 => ("BurntHall$People", "who", "[I", true)
  | 5 => ("BurntHall$People", "what", "[I", true)
  | 6 => ("BurntHall$People", "told", "[I", true)
  | 7 => ("BurntHall$People", "knownDay", "I", false)
  | 8 => ("BurntHall$People", "knownSize", "I", false)
  | 9 => ("BurntHall$People", "knownTellings", "I", false)
  | 10 => ("BurntHall$People", "group", "[I", true)
  | 11 => ("BurntHall$People", "death", "[I", true)
  | 12 => ("BurntHall$People", "lowChildren", "[J", true)
  | _ => ("BurntHall$People", "highChildren", "[J", true)
def tyX8 : Nat → FieldType := fun k => match k with
  | 0 => .int
  | 1 => .int
  | 2 => .array .int
  | 3 => .array .int
  | 4 => .array .int
  | 5 => .array .int
  | 6 => .array .int
  | 7 => .int
  | 8 => .int
  | 9 => .int
  | 10 => .array .int
  | 11 => .array .int
  | 12 => .array .long
  | _ => .array .long
theorem nmX8 : ∀ a, a < 14 → ∀ b, b < 14 → a ≠ b → (TX8 a).2.1 ≠ (TX8 b).2.1 := by decide +kernel
theorem tyX8_ok : ∀ k, k < 14 → parseFieldDescriptor (TX8 k).2.2.1 = some (tyX8 k) := by decide +kernel
def RX9 : String := "BurntHall$Places"
def TX9 : u_T := fun k => match k with
  | 0 => ("BurntHall$Places", "size", "I", false)
  | 1 => ("BurntHall$Places", "acts", "LBurntHall$Acts;", true)
  | 2 => ("BurntHall$Places", "evidence", "LBurntHall$Evidence;", true)
  | 3 => ("BurntHall$Places", "chains", "LBurntHall$Chains;", true)
  | 4 => ("BurntHall$Places", "claims", "LBurntHall$Claims;", true)
  | 5 => ("BurntHall$Places", "cost", "[I", true)
  | 6 => ("BurntHall$Places", "burnt", "[I", true)
  | 7 => ("BurntHall$Places", "points", "[I", true)
  | 8 => ("BurntHall$Places", "added", "[I", true)
  | 9 => ("BurntHall$Places", "cases", "I", false)
  | 10 => ("BurntHall$Places", "lackCount", "[I", true)
  | 11 => ("BurntHall$Places", "lackBurnt", "[I", true)
  | 12 => ("BurntHall$Places", "lackPoints", "[I", true)
  | 13 => ("BurntHall$Places", "hasLooked", "Z", false)
  | 14 => ("BurntHall$Places", "lookedSet", "I", false)
  | _ => ("BurntHall$Places", "lookedCost", "I", false)
def tyX9 : Nat → FieldType := fun k => match k with
  | 0 => .int
  | 1 => .object "BurntHall$Acts"
  | 2 => .object "BurntHall$Evidence"
  | 3 => .object "BurntHall$Chains"
  | 4 => .object "BurntHall$Claims"
  | 5 => .array .int
  | 6 => .array .int
  | 7 => .array .int
  | 8 => .array .int
  | 9 => .int
  | 10 => .array .int
  | 11 => .array .int
  | 12 => .array .int
  | 13 => .boolean
  | 14 => .int
  | _ => .int
theorem nmX9 : ∀ a, a < 16 → ∀ b, b < 16 → a ≠ b → (TX9 a).2.1 ≠ (TX9 b).2.1 := by decide +kernel
theorem tyX9_ok : ∀ k, k < 16 → parseFieldDescriptor (TX9 k).2.2.1 = some (tyX9 k) := by decide +kernel
def RX10 : String := "BurntHall$Tape"
def TX10 : u_T := fun k => match k with
  | 0 => ("BurntHall$Tape", "bytes", "[B", true)
  | 1 => ("BurntHall$Tape", "length", "I", false)
  | 2 => ("BurntHall$Tape", "kind", "I", false)
  | 3 => ("BurntHall$Tape", "place", "I", false)
  | 4 => ("BurntHall$Tape", "value", "J", false)
  | 5 => ("BurntHall$Tape", "faultKind", "I", false)
  | 6 => ("BurntHall$Tape", "faultPlace", "I", false)
  | _ => ("BurntHall$Tape", "behind", "I", false)
def tyX10 : Nat → FieldType := fun k => match k with
  | 0 => .array .byte
  | 1 => .int
  | 2 => .int
  | 3 => .int
  | 4 => .long
  | 5 => .int
  | 6 => .int
  | _ => .int
theorem nmX10 : ∀ a, a < 8 → ∀ b, b < 8 → a ≠ b → (TX10 a).2.1 ≠ (TX10 b).2.1 := by decide +kernel
theorem tyX10_ok : ∀ k, k < 8 → parseFieldDescriptor (TX10 k).2.2.1 = some (tyX10 k) := by decide +kernel
def RX11 : String := "BurntHall"
def TX11 : u_T := fun k => match k with
  | 0 => ("BurntHall", "tape", "LBurntHall$Tape;", true)
  | 1 => ("BurntHall", "people", "LBurntHall$People;", true)
  | 2 => ("BurntHall", "lots", "LBurntHall$Lots;", true)
  | 3 => ("BurntHall", "acts", "LBurntHall$Acts;", true)
  | 4 => ("BurntHall", "papers", "LBurntHall$Papers;", true)
  | 5 => ("BurntHall", "evidence", "LBurntHall$Evidence;", true)
  | 6 => ("BurntHall", "chains", "LBurntHall$Chains;", true)
  | 7 => ("BurntHall", "mortgages", "LBurntHall$Mortgages;", true)
  | 8 => ("BurntHall", "claims", "LBurntHall$Claims;", true)
  | 9 => ("BurntHall", "places", "LBurntHall$Places;", true)
  | _ => ("BurntHall", "today", "I", false)
def tyX11 : Nat → FieldType := fun k => match k with
  | 0 => .object "BurntHall$Tape"
  | 1 => .object "BurntHall$People"
  | 2 => .object "BurntHall$Lots"
  | 3 => .object "BurntHall$Acts"
  | 4 => .object "BurntHall$Papers"
  | 5 => .object "BurntHall$Evidence"
  | 6 => .object "BurntHall$Chains"
  | 7 => .object "BurntHall$Mortgages"
  | 8 => .object "BurntHall$Claims"
  | 9 => .object "BurntHall$Places"
  | _ => .int
theorem nmX11 : ∀ a, a < 11 → ∀ b, b < 11 → a ≠ b → (TX11 a).2.1 ≠ (TX11 b).2.1 := by decide +kernel
theorem tyX11_ok : ∀ k, k < 11 → parseFieldDescriptor (TX11 k).2.2.1 = some (tyX11 k) := by decide +kernel
def RX12 : String := "BurntHallModel"
def TX12 : u_T := fun k => match k with
  | 0 => ("BurntHallModel", "tape", "[B", true)
  | 1 => ("BurntHallModel", "taped", "I", false)
  | 2 => ("BurntHallModel", "size", "I", false)
  | 3 => ("BurntHallModel", "sort", "I", false)
  | 4 => ("BurntHallModel", "key", "I", false)
  | 5 => ("BurntHallModel", "at", "I", false)
  | 6 => ("BurntHallModel", "end", "I", false)
  | 7 => ("BurntHallModel", "number", "I", false)
  | 8 => ("BurntHallModel", "faultKind", "I", false)
  | 9 => ("BurntHallModel", "faultPlace", "I", false)
  | 10 => ("BurntHallModel", "word", "J", false)
  | 11 => ("BurntHallModel", "clock", "I", false)
  | 12 => ("BurntHallModel", "persons", "I", false)
  | 13 => ("BurntHallModel", "tellings", "I", false)
  | 14 => ("BurntHallModel", "livesFrom", "[I", true)
  | 15 => ("BurntHallModel", "tKind", "[I", true)
  | 16 => ("BurntHallModel", "tOf", "[I", true)
  | 17 => ("BurntHallModel", "tWith", "[I", true)
  | 18 => ("BurntHallModel", "tKnown", "[I", true)
  | 19 => ("BurntHallModel", "leastOne", "[I", true)
  | 20 => ("BurntHallModel", "lots", "I", false)
  | 21 => ("BurntHallModel", "feet", "[I", true)
  | 22 => ("BurntHallModel", "came", "[I", true)
  | 23 => ("BurntHallModel", "gone", "[I", true)
  | 24 => ("BurntHallModel", "splitLack", "[I", true)
  | 25 => ("BurntHallModel", "joinLack", "[I", true)
  | 26 => ("BurntHallModel", "lineOf", "[J", true)
  | 27 => ("BurntHallModel", "lineMany", "[I", true)
  | 28 => ("BurntHallModel", "cornerX", "[I", true)
  | 29 => ("BurntHallModel", "cornerY", "[I", true)
  | 30 => ("BurntHallModel", "way", "[I", true)
  | 31 => ("BurntHallModel", "far", "[I", true)
  | 32 => ("BurntHallModel", "got", "I", false)
  | 33 => ("BurntHallModel", "px", "[I", true)
  | 34 => ("BurntHallModel", "py", "[I", true)
  | 35 => ("BurntHallModel", "acts", "I", false)
  | 36 => ("BurntHallModel", "actDay", "[I", true)
  | 37 => ("BurntHallModel", "rules", "[I", true)
  | 38 => ("BurntHallModel", "pKind", "[I", true)
  | 39 => ("BurntHallModel", "pNumber", "[I", true)
  | 40 => ("BurntHallModel", "pTests", "[I", true)
  | 41 => ("BurntHallModel", "pSteps", "[I", true)
  | 42 => ("BurntHallModel", "step", "[I", true)
  | 43 => ("BurntHallModel", "testOp", "[I", true)
  | 44 => ("BurntHallModel", "testLeft", "[I", true)
  | 45 => ("BurntHallModel", "testRight", "[I", true)
  | 46 => ("BurntHallModel", "termWord", "[J", true)
  | 47 => ("BurntHallModel", "termNumber", "[I", true)
  | 48 => ("BurntHallModel", "proof", "I", false)
  | 49 => ("BurntHallModel", "opens", "I", false)
  | 50 => ("BurntHallModel", "clauses", "I", false)
  | 51 => ("BurntHallModel", "seen", "I", false)
  | 52 => ("BurntHallModel", "burnts", "I", false)
  | 53 => ("BurntHallModel", "papers", "I", false)
  | 54 => ("BurntHallModel", "pageHolds", "I", false)
  | 55 => ("BurntHallModel", "kind", "[I", true)
  | 56 => ("BurntHallModel", "ofBurnt", "[I", true)
  | 57 => ("BurntHallModel", "said", "[I", true)
  | 58 => ("BurntHallModel", "from", "[I", true)
  | 59 => ("BurntHallModel", "to", "[I", true)
  | 60 => ("BurntHallModel", "knownOn", "[I", true)
  | 61 => ("BurntHallModel", "isWritten", "[Z", true)
  | 62 => ("BurntHallModel", "hand", "[I", true)
  | 63 => ("BurntHallModel", "writtenOn", "[I", true)
  | 64 => ("BurntHallModel", "book", "[I", true)
  | 65 => ("BurntHallModel", "page", "[I", true)
  | 66 => ("BurntHallModel", "markWord", "[J", true)
  | 67 => ("BurntHallModel", "markNumber", "[I", true)
  | 68 => ("BurntHallModel", "marks", "[I", true)
  | 69 => ("BurntHallModel", "stack", "[Z", true)
  | 70 => ("BurntHallModel", "shows", "[I", true)
  | 71 => ("BurntHallModel", "points", "[I", true)
  | 72 => ("BurntHallModel", "spanFrom", "[I", true)
  | 73 => ("BurntHallModel", "spanTo", "[I", true)
  | 74 => ("BurntHallModel", "quarrels", "[I", true)
  | 75 => ("BurntHallModel", "canBe", "[Z", true)
  | 76 => ("BurntHallModel", "weighs", "[I", true)
  | 77 => ("BurntHallModel", "oath", "[I", true)
  | 78 => ("BurntHallModel", "rootOf", "[I", true)
  | 79 => ("BurntHallModel", "rootDay", "[I", true)
  | 80 => ("BurntHallModel", "hasHeirs", "Z", false)
  | 81 => ("BurntHallModel", "asOf", "I", false)
  | 82 => ("BurntHallModel", "chainLine", "J", false)
  | 83 => ("BurntHallModel", "chainTo", "I", false)
  | 84 => ("BurntHallModel", "gaps", "I", false)
  | 85 => ("BurntHallModel", "weakest", "I", false)
  | 86 => ("BurntHallModel", "linkMany", "I", false)
  | 87 => ("BurntHallModel", "rootLot", "I", false)
  | 88 => ("BurntHallModel", "links", "[I", true)
  | 89 => ("BurntHallModel", "latest", "[I", true)
  | 90 => ("BurntHallModel", "isBehind", "[Z", true)
  | 91 => ("BurntHallModel", "isHead", "[Z", true)
  | 92 => ("BurntHallModel", "isTail", "[Z", true)
  | 93 => ("BurntHallModel", "toldGaps", "I", false)
  | 94 => ("BurntHallModel", "toldWeakest", "I", false)
  | 95 => ("BurntHallModel", "toldMany", "I", false)
  | 96 => ("BurntHallModel", "toldRoot", "I", false)
  | 97 => ("BurntHallModel", "hasTold", "Z", false)
  | 98 => ("BurntHallModel", "toldLinks", "[I", true)
  | 99 => ("BurntHallModel", "mortgages", "I", false)
  | 100 => ("BurntHallModel", "mLot", "[I", true)
  | 101 => ("BurntHallModel", "mTo", "[I", true)
  | 102 => ("BurntHallModel", "mDay", "[I", true)
  | 103 => ("BurntHallModel", "mTill", "[I", true)
  | 104 => ("BurntHallModel", "mPaid", "[I", true)
  | 105 => ("BurntHallModel", "mPaidKnown", "[I", true)
  | 106 => ("BurntHallModel", "claims", "I", false)
  | 107 => ("BurntHallModel", "coin", "I", false)
  | 108 => ("BurntHallModel", "cWho", "[I", true)
  | 109 => ("BurntHallModel", "cLot", "[I", true)
  | 110 => ("BurntHallModel", "cDay", "[I", true)
  | 111 => ("BurntHallModel", "cRuled", "[I", true)
  | 112 => ("BurntHallModel", "cHad", "[I", true)
  | 113 => ("BurntHallModel", "hasLot", "[I", true)
  | 114 => ("BurntHallModel", "ruledOn", "[I", true)
  | 115 => ("BurntHallModel", "ruledYears", "[I", true)
  | 116 => ("BurntHallModel", "cGaps", "[I", true)
  | 117 => ("BurntHallModel", "cWeakest", "[I", true)
  | 118 => ("BurntHallModel", "places", "I", false)
  | 119 => ("BurntHallModel", "placeCost", "[I", true)
  | 120 => ("BurntHallModel", "placeBurnt", "[I", true)
  | 121 => ("BurntHallModel", "placePoints", "[I", true)
  | 122 => ("BurntHallModel", "lookedSet", "I", false)
  | 123 => ("BurntHallModel", "lookedCost", "I", false)
  | _ => ("BurntHallModel", "settled", "[I", true)
def tyX12 : Nat → FieldType := fun k => match k with
  | 0 => .array .byte
  | 1 => .int
  | 2 => .int
  | 3 => .int
  | 4 => .int
  | 5 => .int
  | 6 => .int
  | 7 => .int
  | 8 => .int
  | 9 => .int
  | 10 => .long
  | 11 => .int
  | 12 => .int
  | 13 => .int
  | 14 => .array .int
  | 15 => .array .int
  | 16 => .array .int
  | 17 => .array .int
  | 18 => .array .int
  | 19 => .array .int
  | 20 => .int
  | 21 => .array .int
  | 22 => .array .int
  | 23 => .array .int
  | 24 => .array .int
  | 25 => .array .int
  | 26 => .array .long
  | 27 => .array .int
  | 28 => .array .int
  | 29 => .array .int
  | 30 => .array .int
  | 31 => .array .int
  | 32 => .int
  | 33 => .array .int
  | 34 => .array .int
  | 35 => .int
  | 36 => .array .int
  | 37 => .array .int
  | 38 => .array .int
  | 39 => .array .int
  | 40 => .array .int
  | 41 => .array .int
  | 42 => .array .int
  | 43 => .array .int
  | 44 => .array .int
  | 45 => .array .int
  | 46 => .array .long
  | 47 => .array .int
  | 48 => .int
  | 49 => .int
  | 50 => .int
  | 51 => .int
  | 52 => .int
  | 53 => .int
  | 54 => .int
  | 55 => .array .int
  | 56 => .array .int
  | 57 => .array .int
  | 58 => .array .int
  | 59 => .array .int
  | 60 => .array .int
  | 61 => .array .boolean
  | 62 => .array .int
  | 63 => .array .int
  | 64 => .array .int
  | 65 => .array .int
  | 66 => .array .long
  | 67 => .array .int
  | 68 => .array .int
  | 69 => .array .boolean
  | 70 => .array .int
  | 71 => .array .int
  | 72 => .array .int
  | 73 => .array .int
  | 74 => .array .int
  | 75 => .array .boolean
  | 76 => .array .int
  | 77 => .array .int
  | 78 => .array .int
  | 79 => .array .int
  | 80 => .boolean
  | 81 => .int
  | 82 => .long
  | 83 => .int
  | 84 => .int
  | 85 => .int
  | 86 => .int
  | 87 => .int
  | 88 => .array .int
  | 89 => .array .int
  | 90 => .array .boolean
  | 91 => .array .boolean
  | 92 => .array .boolean
  | 93 => .int
  | 94 => .int
  | 95 => .int
  | 96 => .int
  | 97 => .boolean
  | 98 => .array .int
  | 99 => .int
  | 100 => .array .int
  | 101 => .array .int
  | 102 => .array .int
  | 103 => .array .int
  | 104 => .array .int
  | 105 => .array .int
  | 106 => .int
  | 107 => .int
  | 108 => .array .int
  | 109 => .array .int
  | 110 => .array .int
  | 111 => .array .int
  | 112 => .array .int
  | 113 => .array .int
  | 114 => .array .int
  | 115 => .array .int
  | 116 => .array .int
  | 117 => .array .int
  | 118 => .int
  | 119 => .array .int
  | 120 => .array .int
  | 121 => .array .int
  | 122 => .int
  | 123 => .int
  | _ => .array .int
theorem nmX12 : ∀ a, a < 125 → ∀ b, b < 125 → a ≠ b → (TX12 a).2.1 ≠ (TX12 b).2.1 := by decide +kernel
theorem tyX12_ok : ∀ k, k < 125 → parseFieldDescriptor (TX12 k).2.2.1 = some (tyX12 k) := by decide +kernel
abbrev b_cl : List vw_C := [(RX0, TX0, 6), (RX1, TX1, 12), (RX2, TX2, 20), (RX3, TX3, 15), (RX4, TX4, 13), (RX5, TX5, 20), (RX6, TX6, 8), (RX7, TX7, 19), (RX8, TX8, 14), (RX9, TX9, 16), (RX10, TX10, 8), (RX11, TX11, 11), (RX12, TX12, 125)]
def b_T : List Cond := lw_tbl.filter goodWord
theorem b_mem {i : Nat} {w : Cond} (h : tables_1[i]? = some w) (g : goodWord w = true) : w ∈ b_T := List.mem_filter.mpr ⟨List.mem_append_right _ (List.mem_of_getElem? h), g⟩
theorem b_good : ∀ w ∈ b_T, w ∈ b_T ∧ ((w.onTables && w.keeps) = true ∨ ∃ ty, w = .arrayClass ty) := fun w h => ⟨h, good_of_word (List.mem_filter.mp h).2⟩
theorem b_lays {C : String} {T : u_T} {N : Nat} (is : List Nat) (h : ∀ k, k < N → tables_1[is.getD k 0]? = some (u_lay C T k)) (g : ∀ k, k < N → goodWord (u_lay C T k) = true) : ∀ w ∈ u_ws C T N, w ∈ b_T := by
  intro w hw
  obtain ⟨k, hk, rfl⟩ := List.mem_map.mp hw
  exact b_mem (h k (List.mem_range.mp hk)) (g k (List.mem_range.mp hk))
set_option maxRecDepth 100000 in
theorem inX0 : ∀ w ∈ u_ws RX0 TX0 6, w ∈ b_T := b_lays [287, 289, 291, 293, 295, 297] (by decide +kernel) (by decide +kernel)
set_option maxRecDepth 100000 in
theorem inX1 : ∀ w ∈ u_ws RX1 TX1 12, w ∈ b_T := b_lays [314, 316, 318, 320, 322, 324, 326, 328, 330, 332, 334, 336] (by decide +kernel) (by decide +kernel)
set_option maxRecDepth 100000 in
theorem inX2 : ∀ w ∈ u_ws RX2 TX2 20, w ∈ b_T := b_lays [494, 496, 498, 500, 502, 504, 506, 508, 510, 512, 514, 516, 518, 520, 522, 524, 526, 528, 530, 532] (by decide +kernel) (by decide +kernel)
set_option maxRecDepth 100000 in
theorem inX3 : ∀ w ∈ u_ws RX3 TX3 15, w ∈ b_T := b_lays [591, 593, 595, 597, 599, 601, 603, 605, 607, 609, 611, 613, 615, 617, 619] (by decide +kernel) (by decide +kernel)
set_option maxRecDepth 100000 in
theorem inX4 : ∀ w ∈ u_ws RX4 TX4 13, w ∈ b_T := b_lays [438, 440, 442, 444, 446, 448, 450, 452, 454, 456, 458, 460, 462] (by decide +kernel) (by decide +kernel)
set_option maxRecDepth 100000 in
theorem inX5 : ∀ w ∈ u_ws RX5 TX5 20, w ∈ b_T := b_lays [216, 218, 220, 222, 224, 226, 228, 230, 232, 234, 236, 238, 240, 242, 244, 246, 248, 250, 252, 254] (by decide +kernel) (by decide +kernel)
set_option maxRecDepth 100000 in
theorem inX6 : ∀ w ∈ u_ws RX6 TX6 8, w ∈ b_T := b_lays [550, 552, 554, 556, 558, 560, 562, 564] (by decide +kernel) (by decide +kernel)
set_option maxRecDepth 100000 in
theorem inX7 : ∀ w ∈ u_ws RX7 TX7 19, w ∈ b_T := b_lays [378, 380, 382, 384, 386, 388, 390, 392, 394, 396, 398, 400, 402, 404, 406, 408, 410, 412, 414] (by decide +kernel) (by decide +kernel)
set_option maxRecDepth 100000 in
theorem inX8 : ∀ w ∈ u_ws RX8 TX8 14, w ∈ b_T := b_lays [93, 95, 97, 99, 101, 103, 105, 107, 109, 111, 113, 115, 117, 119] (by decide +kernel) (by decide +kernel)
set_option maxRecDepth 100000 in
theorem inX9 : ∀ w ∈ u_ws RX9 TX9 16, w ∈ b_T := b_lays [645, 647, 649, 651, 653, 655, 657, 659, 661, 663, 665, 667, 669, 671, 673, 675] (by decide +kernel) (by decide +kernel)
set_option maxRecDepth 100000 in
theorem inX10 : ∀ w ∈ u_ws RX10 TX10 8, w ∈ b_T := b_lays [52, 54, 56, 58, 60, 62, 64, 66] (by decide +kernel) (by decide +kernel)
set_option maxRecDepth 100000 in
theorem inX11 : ∀ w ∈ u_ws RX11 TX11 11, w ∈ b_T := b_lays [689, 691, 693, 695, 697, 699, 701, 703, 705, 707, 709] (by decide +kernel) (by decide +kernel)
set_option maxRecDepth 100000 in
theorem inX12 : ∀ w ∈ u_ws RX12 TX12 125, w ∈ b_T := b_lays [1821, 1823, 1825, 1827, 1829, 1831, 1833, 1835, 1837, 1839, 1841, 1843, 1845, 1847, 1849, 1851, 1853, 1855, 1857, 1859, 1861, 1863, 1865, 1867, 1869, 1871, 1873, 1875, 1877, 1879, 1881, 1883, 1885, 1887, 1889, 1891, 1893, 1895, 1897, 1899, 1901, 1903, 1905, 1907, 1909, 1911, 1913, 1915, 1917, 1919, 1921, 1923, 1925, 1927, 1929, 1931, 1933, 1935, 1937, 1939, 1941, 1943, 1945, 1947, 1949, 1951, 1953, 1955, 1957, 1959, 1961, 1963, 1965, 1967, 1969, 1971, 1973, 1975, 1977, 1979, 1981, 1983, 1985, 1987, 1989, 1991, 1993, 1995, 1997, 1999, 2001, 2003, 2005, 2007, 2009, 2011, 2013, 2015, 2017, 2019, 2021, 2023, 2025, 2027, 2029, 2031, 2033, 2035, 2037, 2039, 2041, 2043, 2045, 2047, 2049, 2051, 2053, 2055, 2057, 2059, 2061, 2063, 2065, 2067, 2069] (by decide +kernel) (by decide +kernel)
def b_kdL : List (Nat × Nat × Nat) := [(0, 11, 11), (0, 10, 8), (0, 8, 14), (0, 5, 20), (0, 1, 12), (0, 7, 19), (0, 4, 13), (0, 2, 20), (0, 6, 8), (0, 3, 15), (0, 9, 16), (0, 12, 125), (0, 0, 6), (0, 0, 6), (0, 0, 6), (0, 0, 6), (0, 0, 6), (0, 0, 6), (0, 0, 6), (0, 0, 6), (0, 0, 6), (0, 0, 6), (1, 10, 0), (1, 10, 0), (1, 10, 0), (1, 10, 0), (1, 10, 0), (1, 10, 0), (1, 10, 0), (1, 10, 0), (1, 10, 0), (1, 10, 0), (1, 24, 0), (1, 24, 0), (1, 24, 0), (1, 24, 0), (1, 24, 0), (1, 24, 0), (1, 24, 0), (1, 24, 0), (1, 24, 0), (1, 24, 0), (9, 0, 0), (9, 0, 0), (9, 0, 0), (9, 0, 0), (9, 0, 0), (9, 0, 0), (9, 0, 0), (9, 0, 0), (9, 0, 0), (9, 0, 0), (1, 25, 0), (1, 25, 0), (1, 25, 0), (1, 25, 0), (1, 25, 0), (1, 25, 0), (1, 25, 0), (1, 25, 0), (1, 25, 0), (1, 25, 0), (6, 0, 0), (6, 0, 0), (6, 0, 0), (6, 0, 0), (6, 0, 0), (6, 0, 0), (6, 0, 0), (6, 0, 0), (6, 0, 0), (6, 0, 0), (2, 1000, 0), (9, 0, 0), (9, 0, 0), (9, 0, 0), (1, 80, 0), (1, 400, 0), (1, 400, 0), (1, 400, 0), (1, 400, 0), (1, 80, 0), (1, 80, 0), (4, 80, 0), (4, 80, 0), (4, 4, 0), (1, 60, 0), (1, 60, 0), (1, 60, 0), (1, 60, 0), (1, 60, 0), (4, 60, 0), (1, 60, 0), (1, 60, 0), (1, 60, 0), (1, 60, 0), (1, 60, 0), (1, 720, 0), (1, 12, 0), (1, 4, 0), (1, 13, 0), (1, 13, 0), (1, 13, 0), (1, 13, 0), (4, 11, 0), (4, 7, 0), (4, 7, 0), (5, 10, 0), (4, 1000, 0), (1, 6, 0), (1, 120, 0), (1, 120, 0), (1, 120, 0), (1, 120, 0), (1, 120, 0), (1, 360, 0), (1, 120, 0), (1, 120, 0), (1, 120, 0), (1, 120, 0), (4, 1440, 0), (1, 1440, 0), (4, 12, 0), (1, 12, 0), (1, 1080, 0), (1, 32, 0), (1, 300, 0), (3, 120, 0), (1, 120, 0), (1, 120, 0), (1, 30, 0), (1, 30, 0), (1, 30, 0), (1, 30, 0), (1, 30, 0), (1, 30, 0), (1, 90, 0), (1, 240, 0), (1, 30, 0), (1, 8, 0), (1, 12, 0), (1, 12, 0), (1, 40, 0), (1, 40, 0), (1, 40, 0), (1, 40, 0), (1, 40, 0), (1, 30, 0), (1, 30, 0), (1, 30, 0), (1, 30, 0), (1, 30, 0), (1, 60, 0), (1, 60, 0), (1, 60, 0), (1, 12, 0), (1, 12, 0), (1, 12, 0), (1, 30, 0), (1, 30, 0), (1, 240, 0), (1, 240, 0), (2, 1000, 0), (1, 80, 0), (1, 400, 0), (1, 400, 0), (1, 400, 0), (1, 400, 0), (1, 80, 0), (1, 60, 0), (1, 60, 0), (1, 60, 0), (1, 60, 0), (1, 60, 0), (4, 60, 0), (1, 60, 0), (1, 60, 0), (1, 60, 0), (1, 732, 0), (1, 732, 0), (1, 26, 0), (1, 26, 0), (1, 8, 0), (1, 110, 0), (1, 216, 0), (1, 216, 0), (1, 216, 0), (1, 216, 0), (1, 21600, 0), (1, 2592, 0), (1, 2592, 0), (1, 2592, 0), (4, 15552, 0), (1, 15552, 0), (1, 120, 0), (1, 120, 0), (1, 360, 0), (1, 120, 0), (1, 120, 0), (1, 120, 0), (3, 120, 0), (1, 120, 0), (1, 120, 0), (1, 120, 0), (1, 120, 0), (4, 1452, 0), (1, 1452, 0), (1, 121, 0), (3, 120, 0), (1, 90, 0), (1, 90, 0), (1, 30, 0), (1, 30, 0), (1, 30, 0), (3, 120, 0), (1, 120, 0), (1, 120, 0), (1, 60, 0), (1, 60, 0), (1, 8, 0), (1, 240, 0), (3, 900, 0), (3, 1800, 0), (3, 30, 0), (1, 8, 0), (1, 40, 0), (1, 40, 0), (1, 40, 0), (1, 40, 0), (1, 40, 0), (1, 40, 0), (1, 30, 0), (1, 30, 0), (1, 30, 0), (1, 30, 0), (1, 30, 0), (1, 60, 0), (1, 60, 0), (1, 60, 0), (1, 30, 0), (1, 30, 0), (1, 12, 0), (1, 12, 0), (1, 12, 0), (1, 4096, 0)]
abbrev b_NC : Nat := 245
def b_kd (c : Nat) : Nat × Nat × Nat := b_kdL.getD c (9, 0, 0)
def b_fkL : List (List (Nat × Nat)) := [[(0, 0), (0, 0), (3, 10), (3, 20), (3, 40), (3, 50)],
  [(0, 0), (2, 1), (2, 104), (2, 105), (2, 106), (2, 107), (2, 108), (2, 109), (4, 0), (0, 0), (0, 0), (0, 0)],
  [(2, 2), (2, 3), (2, 6), (0, 0), (0, 0), (1, 0), (0, 0), (2, 130), (2, 131), (2, 132), (2, 133), (2, 134), (2, 135), (0, 0), (2, 136), (2, 137), (2, 138), (2, 139), (2, 140), (2, 141)],
  [(0, 0), (0, 0), (2, 4), (2, 6), (2, 7), (2, 147), (2, 148), (2, 149), (2, 150), (2, 151), (2, 152), (2, 153), (2, 154), (0, 0), (0, 0)],
  [(0, 0), (2, 2), (2, 3), (2, 5), (2, 4), (0, 0), (0, 0), (0, 0), (2, 126), (2, 127), (2, 128), (0, 0), (2, 129)],
  [(0, 0), (2, 85), (2, 86), (2, 87), (2, 88), (2, 89), (2, 90), (2, 91), (2, 92), (2, 93), (2, 94), (2, 95), (2, 96), (2, 97), (2, 98), (2, 99), (2, 100), (2, 101), (2, 102), (2, 103)],
  [(0, 0), (2, 3), (2, 4), (2, 142), (2, 143), (2, 144), (2, 145), (2, 146)],
  [(0, 0), (0, 0), (2, 110), (2, 111), (2, 112), (2, 113), (2, 114), (2, 115), (2, 116), (2, 117), (2, 118), (2, 119), (2, 120), (2, 121), (2, 122), (2, 123), (0, 0), (2, 124), (2, 125)],
  [(0, 0), (0, 0), (2, 76), (2, 77), (2, 78), (2, 79), (2, 80), (0, 0), (0, 0), (0, 0), (2, 81), (2, 82), (2, 83), (2, 84)],
  [(0, 0), (2, 4), (2, 6), (2, 7), (2, 9), (2, 155), (2, 156), (2, 157), (2, 158), (0, 0), (2, 159), (2, 160), (2, 161), (0, 0), (0, 0), (0, 0)],
  [(2, 72), (0, 0), (0, 0), (0, 0), (1, 0), (0, 0), (0, 0), (0, 0)],
  [(2, 1), (2, 2), (2, 3), (2, 4), (2, 5), (2, 6), (2, 7), (2, 8), (2, 9), (2, 10), (0, 0)],
  [(2, 162), (0, 0), (0, 0), (0, 0), (0, 0), (0, 0), (0, 0), (0, 0), (0, 0), (0, 0), (1, 0), (0, 0), (0, 0), (0, 0), (2, 163), (2, 164), (2, 165), (2, 166), (2, 167), (2, 168), (0, 0), (2, 169), (2, 170), (2, 171), (2, 172), (2, 173), (2, 174), (2, 175), (2, 176), (2, 177), (2, 178), (2, 179), (0, 0), (2, 180), (2, 181), (0, 0), (2, 182), (2, 183), (2, 184), (2, 185), (2, 186), (2, 187), (2, 188), (2, 189), (2, 190), (2, 191), (2, 192), (2, 193), (0, 0), (0, 0), (0, 0), (0, 0), (0, 0), (0, 0), (0, 0), (2, 194), (2, 195), (2, 196), (2, 197), (2, 198), (2, 199), (2, 200), (2, 201), (2, 202), (2, 203), (2, 204), (2, 205), (2, 206), (2, 207), (2, 208), (2, 209), (2, 210), (2, 211), (2, 212), (2, 213), (2, 214), (2, 215), (2, 216), (2, 217), (2, 218), (0, 0), (0, 0), (1, 0), (0, 0), (0, 0), (0, 0), (0, 0), (0, 0), (2, 219), (2, 220), (2, 221), (2, 222), (2, 223), (0, 0), (0, 0), (0, 0), (0, 0), (0, 0), (2, 224), (0, 0), (2, 225), (2, 226), (2, 227), (2, 228), (2, 229), (2, 230), (0, 0), (0, 0), (2, 231), (2, 232), (2, 233), (2, 234), (2, 235), (2, 236), (2, 237), (2, 238), (2, 239), (2, 240), (0, 0), (2, 241), (2, 242), (2, 243), (0, 0), (0, 0), (2, 244)]]
def b_fk (ci k : Nat) : Nat × Nat := (b_fkL.getD ci []).getD k (9, 0)
