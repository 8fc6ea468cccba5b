def RX0 : String := "TwoGames$Best"
def TX0 : u_T := fun k => match k with
  | 0 => ("TwoGames$Best", "found", "Z", false)
  | 1 => ("TwoGames$Best", "gainSum", "J", false)
  | 2 => ("TwoGames$Best", "weightSum", "J", false)
  | 3 => ("TwoGames$Best", "gainScale", "J", false)
  | _ => ("TwoGames$Best", "numbers", "[I", true)
def tyX0 : Nat → FieldType := fun k => match k with
  | 0 => .boolean
  | 1 => .long
  | 2 => .long
  | 3 => .long
  | _ => .array .int
abbrev wsX00 : List Cond := u_ws RX0 TX0 5
theorem nmX0 : ∀ a, a < 5 → ∀ b, b < 5 → a ≠ b → (TX0 a).2.1 ≠ (TX0 b).2.1 := by decide +kernel
theorem tyX0_ok : ∀ k, k < 5 → parseFieldDescriptor (TX0 k).2.2.1 = some (tyX0 k) := by decide +kernel
def RX1 : String := "TwoGames$Fraction"
def TX1 : u_T := fun k => match k with
  | 0 => ("TwoGames$Fraction", "above", "J", false)
  | _ => ("TwoGames$Fraction", "below", "J", false)
def tyX1 : Nat → FieldType := fun k => match k with
  | 0 => .long
  | _ => .long
abbrev wsX10 : List Cond := u_ws RX1 TX1 2
theorem nmX1 : ∀ a, a < 2 → ∀ b, b < 2 → a ≠ b → (TX1 a).2.1 ≠ (TX1 b).2.1 := by decide +kernel
theorem tyX1_ok : ∀ k, k < 2 → parseFieldDescriptor (TX1 k).2.2.1 = some (tyX1 k) := by decide +kernel
def RX2 : String := "TwoGames$Play"
def TX2 : u_T := fun k => match k with
  | 0 => ("TwoGames$Play", "kind", "I", true)
  | 1 => ("TwoGames$Play", "size", "I", true)
  | _ => ("TwoGames$Play", "wins", "[I", true)
def tyX2 : Nat → FieldType := fun k => match k with
  | 0 => .int
  | 1 => .int
  | _ => .array .int
abbrev wsX20 : List Cond := u_ws RX2 TX2 3
theorem nmX2 : ∀ a, a < 3 → ∀ b, b < 3 → a ≠ b → (TX2 a).2.1 ≠ (TX2 b).2.1 := by decide +kernel
theorem tyX2_ok : ∀ k, k < 3 → parseFieldDescriptor (TX2 k).2.2.1 = some (tyX2 k) := by decide +kernel
def RX3 : String := "TwoGames$Purses"
def TX3 : u_T := fun k => match k with
  | 0 => ("TwoGames$Purses", "first", "I", false)
  | 1 => ("TwoGames$Purses", "turns", "I", false)
  | 2 => ("TwoGames$Purses", "scale", "J", false)
  | _ => ("TwoGames$Purses", "chances", "[J", true)
def tyX3 : Nat → FieldType := fun k => match k with
  | 0 => .int
  | 1 => .int
  | 2 => .long
  | _ => .array .long
abbrev wsX30 : List Cond := u_ws RX3 TX3 4
theorem nmX3 : ∀ a, a < 4 → ∀ b, b < 4 → a ≠ b → (TX3 a).2.1 ≠ (TX3 b).2.1 := by decide +kernel
theorem tyX3_ok : ∀ k, k < 4 → parseFieldDescriptor (TX3 k).2.2.1 = some (tyX3 k) := by decide +kernel
def RX4 : String := "TwoGames$Round"
def TX4 : u_T := fun k => match k with
  | 0 => ("TwoGames$Round", "rests", "I", false)
  | 1 => ("TwoGames$Round", "turns", "I", false)
  | 2 => ("TwoGames$Round", "scale", "J", false)
  | 3 => ("TwoGames$Round", "chances", "[J", true)
  | 4 => ("TwoGames$Round", "gains", "[J", true)
  | 5 => ("TwoGames$Round", "weights", "[J", true)
  | 6 => ("TwoGames$Round", "weightSum", "J", false)
  | _ => ("TwoGames$Round", "gainSum", "J", false)
def tyX4 : Nat → FieldType := fun k => match k with
  | 0 => .int
  | 1 => .int
  | 2 => .long
  | 3 => .array .long
  | 4 => .array .long
  | 5 => .array .long
  | 6 => .long
  | _ => .long
abbrev wsX40 : List Cond := u_ws RX4 TX4 8
theorem nmX4 : ∀ a, a < 8 → ∀ b, b < 8 → a ≠ b → (TX4 a).2.1 ≠ (TX4 b).2.1 := by decide +kernel
theorem tyX4_ok : ∀ k, k < 8 → parseFieldDescriptor (TX4 k).2.2.1 = some (tyX4 k) := by decide +kernel
def RX5 : String := "TwoGames$Row"
def TX5 : u_T := fun k => match k with
  | 0 => ("TwoGames$Row", "size", "I", false)
  | _ => ("TwoGames$Row", "places", "[I", true)
def tyX5 : Nat → FieldType := fun k => match k with
  | 0 => .int
  | _ => .array .int
abbrev wsX50 : List Cond := u_ws RX5 TX5 2
theorem nmX5 : ∀ a, a < 2 → ∀ b, b < 2 → a ≠ b → (TX5 a).2.1 ≠ (TX5 b).2.1 := by decide +kernel
theorem tyX5_ok : ∀ k, k < 2 → parseFieldDescriptor (TX5 k).2.2.1 = some (tyX5 k) := by decide +kernel
def RX6 : String := "TwoGames"
def TX6 : u_T := fun k => match k with
  | 0 => ("TwoGames", "rests", "I", false)
  | 1 => ("TwoGames", "playCount", "I", false)
  | 2 => ("TwoGames", "plays", "[LTwoGames$Play;", true)
  | 3 => ("TwoGames", "rows", "[LTwoGames$Row;", true)
  | 4 => ("TwoGames", "latestFinding", "I", false)
  | 5 => ("TwoGames", "findingCounts", "[I", true)
  | 6 => ("TwoGames", "fraction", "LTwoGames$Fraction;", true)
  | 7 => ("TwoGames", "chosen", "[I", true)
  | 8 => ("TwoGames", "rounds", "[LTwoGames$Round;", true)
  | 9 => ("TwoGames", "turnOdds", "[I", true)
  | 10 => ("TwoGames", "tried", "[I", true)
  | 11 => ("TwoGames", "trial", "LTwoGames$Row;", true)
  | 12 => ("TwoGames", "best", "LTwoGames$Best;", true)
  | _ => ("TwoGames", "purses", "LTwoGames$Purses;", true)
def tyX6 : Nat → FieldType := fun k => match k with
  | 0 => .int
  | 1 => .int
  | 2 => .array (.object "TwoGames$Play")
  | 3 => .array (.object "TwoGames$Row")
  | 4 => .int
  | 5 => .array .int
  | 6 => .object "TwoGames$Fraction"
  | 7 => .array .int
  | 8 => .array (.object "TwoGames$Round")
  | 9 => .array .int
  | 10 => .array .int
  | 11 => .object "TwoGames$Row"
  | 12 => .object "TwoGames$Best"
  | _ => .object "TwoGames$Purses"
abbrev wsX60 : List Cond := u_ws RX6 TX6 14
theorem nmX6 : ∀ a, a < 14 → ∀ b, b < 14 → a ≠ b → (TX6 a).2.1 ≠ (TX6 b).2.1 := by decide +kernel
theorem tyX6_ok : ∀ k, k < 14 → parseFieldDescriptor (TX6 k).2.2.1 = some (tyX6 k) := by decide +kernel
def RX7 : String := "TwoGamesModel"
def TX7 : u_T := fun k => match k with
  | 0 => ("TwoGamesModel", "finding", "I", false)
  | 1 => ("TwoGamesModel", "findings", "[I", true)
  | 2 => ("TwoGamesModel", "upper", "J", false)
  | 3 => ("TwoGamesModel", "lower", "J", false)
  | 4 => ("TwoGamesModel", "rests", "I", false)
  | 5 => ("TwoGamesModel", "plays", "I", false)
  | 6 => ("TwoGamesModel", "kinds", "[I", true)
  | 7 => ("TwoGamesModel", "oddsRow", "[I", true)
  | 8 => ("TwoGamesModel", "sizes", "[I", true)
  | 9 => ("TwoGamesModel", "rows", "[I", true)
  | 10 => ("TwoGamesModel", "moving", "[I", true)
  | 11 => ("TwoGamesModel", "turns", "I", false)
  | 12 => ("TwoGamesModel", "whole", "J", false)
  | 13 => ("TwoGamesModel", "wins", "[J", true)
  | 14 => ("TwoGamesModel", "all", "J", false)
  | 15 => ("TwoGamesModel", "leading", "[J", true)
  | 16 => ("TwoGamesModel", "gains", "[J", true)
  | 17 => ("TwoGamesModel", "now", "[J", true)
  | 18 => ("TwoGamesModel", "next", "[J", true)
  | 19 => ("TwoGamesModel", "shares", "[J", true)
  | 20 => ("TwoGamesModel", "allShares", "J", false)
  | 21 => ("TwoGamesModel", "gainUp", "J", false)
  | 22 => ("TwoGamesModel", "gainLow", "J", false)
  | 23 => ("TwoGamesModel", "bestUp", "J", false)
  | 24 => ("TwoGamesModel", "bestLow", "J", false)
  | 25 => ("TwoGamesModel", "held", "[I", true)
  | 26 => ("TwoGamesModel", "choices", "[I", true)
  | 27 => ("TwoGamesModel", "purses", "[J", true)
  | _ => ("TwoGamesModel", "later", "[J", true)
def tyX7 : Nat → FieldType := fun k => match k with
  | 0 => .int
  | 1 => .array .int
  | 2 => .long
  | 3 => .long
  | 4 => .int
  | 5 => .int
  | 6 => .array .int
  | 7 => .array .int
  | 8 => .array .int
  | 9 => .array .int
  | 10 => .array .int
  | 11 => .int
  | 12 => .long
  | 13 => .array .long
  | 14 => .long
  | 15 => .array .long
  | 16 => .array .long
  | 17 => .array .long
  | 18 => .array .long
  | 19 => .array .long
  | 20 => .long
  | 21 => .long
  | 22 => .long
  | 23 => .long
  | 24 => .long
  | 25 => .array .int
  | 26 => .array .int
  | 27 => .array .long
  | _ => .array .long
abbrev wsX70 : List Cond := u_ws RX7 TX7 29
theorem nmX7 : ∀ a, a < 29 → ∀ b, b < 29 → a ≠ b → (TX7 a).2.1 ≠ (TX7 b).2.1 := by decide +kernel
theorem tyX7_ok : ∀ k, k < 29 → parseFieldDescriptor (TX7 k).2.2.1 = some (tyX7 k) := by decide +kernel
abbrev vwCl : List vw_C := [(RX0, TX0, 5), (RX1, TX1, 2), (RX2, TX2, 3), (RX3, TX3, 4), (RX4, TX4, 8), (RX5, TX5, 2), (RX6, TX6, 14), (RX7, TX7, 29)]
/-- the type of a field, by class and place -/
def am_ty : Nat → Nat → FieldType := fun c => match c with
  | 0 => tyX0
  | 1 => tyX1
  | 2 => tyX2
  | 3 => tyX3
  | 4 => tyX4
  | 5 => tyX5
  | 6 => tyX6
  | _ => tyX7
/-- the component class of an array of references, by its kind -/
def am_ra : Nat → String := fun k => match k with
  | 2 => "TwoGames$Play"
  | 3 => "TwoGames$Round"
  | _ => "TwoGames$Row"
def RL : String := "TwoGamesLaw"
