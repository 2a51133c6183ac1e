-- names of the classes, their fields in the order of the slots; where the words stand in the tables (written by wip/whole/gen/gen02.py)
def R_Covering : String := "UnseenRing$Covering"
def F_Covering : u_T := fun k => match k with
  | 0 => ("UnseenRing$Covering", "hits", "[I", true)
  | 1 => ("UnseenRing$Covering", "fewest", "[I", true)
  | 2 => ("UnseenRing$Covering", "cells", "I", false)
  | _ => ("UnseenRing$Covering", "all", "I", false)
def t_Covering : Nat → FieldType := fun k => match k with
  | 0 => .array .int
  | 1 => .array .int
  | 2 => .int
  | _ => .int
def R_Days : String := "UnseenRing$Days"
def F_Days : u_T := fun k => match k with
  | 0 => ("UnseenRing$Days", "word", "[I", true)
  | 1 => ("UnseenRing$Days", "first", "[I", true)
  | 2 => ("UnseenRing$Days", "second", "[I", true)
  | 3 => ("UnseenRing$Days", "sign", "[I", true)
  | 4 => ("UnseenRing$Days", "partner", "[I", true)
  | 5 => ("UnseenRing$Days", "there", "Z", false)
  | 6 => ("UnseenRing$Days", "size", "I", false)
  | _ => ("UnseenRing$Days", "steps", "I", false)
def t_Days : Nat → FieldType := fun k => match k with
  | 0 => .array .int
  | 1 => .array .int
  | 2 => .array .int
  | 3 => .array .int
  | 4 => .array .int
  | 5 => .boolean
  | 6 => .int
  | _ => .int
def R_DaysReader : String := "UnseenRing$DaysReader"
def F_DaysReader : u_T := fun k => match k with
  | 0 => ("UnseenRing$DaysReader", "open", "[I", true)
  | _ => ("UnseenRing$DaysReader", "deep", "I", false)
def t_DaysReader : Nat → FieldType := fun k => match k with
  | 0 => .array .int
  | _ => .int
def R_Knowing : String := "UnseenRing$Knowing"
def F_Knowing : u_T := fun k => match k with
  | 0 => ("UnseenRing$Knowing", "sees", "[I", true)
  | 1 => ("UnseenRing$Knowing", "hearers", "I", false)
  | _ => ("UnseenRing$Knowing", "possible", "J", false)
def t_Knowing : Nat → FieldType := fun k => match k with
  | 0 => .array .int
  | 1 => .int
  | _ => .long
def R_Life : String := "UnseenRing$Life"
def F_Life : u_T := fun k => match k with
  | 0 => ("UnseenRing$Life", "timesLeft", "[I", true)
  | 1 => ("UnseenRing$Life", "drawn", "I", false)
  | 2 => ("UnseenRing$Life", "drawnTune", "I", false)
  | 3 => ("UnseenRing$Life", "drawnCell", "I", false)
  | 4 => ("UnseenRing$Life", "isPlay", "Z", false)
  | 5 => ("UnseenRing$Life", "missed", "I", false)
  | 6 => ("UnseenRing$Life", "plays", "I", false)
  | 7 => ("UnseenRing$Life", "coins", "I", false)
  | 8 => ("UnseenRing$Life", "hits", "I", false)
  | 9 => ("UnseenRing$Life", "isLeft", "Z", false)
  | 10 => ("UnseenRing$Life", "steps", "I", false)
  | _ => ("UnseenRing$Life", "hasRun", "Z", false)
def t_Life : Nat → FieldType := fun k => match k with
  | 0 => .array .int
  | 1 => .int
  | 2 => .int
  | 3 => .int
  | 4 => .boolean
  | 5 => .int
  | 6 => .int
  | 7 => .int
  | 8 => .int
  | 9 => .boolean
  | 10 => .int
  | _ => .boolean
def R_Placings : String := "UnseenRing$Placings"
def F_Placings : u_T := fun k => match k with
  | 0 => ("UnseenRing$Placings", "upFrom", "[I", true)
  | 1 => ("UnseenRing$Placings", "fewest", "[I", true)
  | _ => ("UnseenRing$Placings", "cells", "I", false)
def t_Placings : Nat → FieldType := fun k => match k with
  | 0 => .array .int
  | 1 => .array .int
  | _ => .int
def R_Rows : String := "UnseenRing$Rows"
def F_Rows : u_T := fun k => match k with
  | 0 => ("UnseenRing$Rows", "fewest", "[I", true)
  | 1 => ("UnseenRing$Rows", "fars", "[I", true)
  | 2 => ("UnseenRing$Rows", "likes", "[I", true)
  | 3 => ("UnseenRing$Rows", "timesPlayed", "[I", true)
  | 4 => ("UnseenRing$Rows", "square", "LUnseenRing$Square;", false)
  | _ => ("UnseenRing$Rows", "tunes", "I", false)
def t_Rows : Nat → FieldType := fun k => match k with
  | 0 => .array .int
  | 1 => .array .int
  | 2 => .array .int
  | 3 => .array .int
  | 4 => .object "UnseenRing$Square"
  | _ => .int
def R_Square : String := "UnseenRing$Square"
def F_Square : u_T := fun k => match k with
  | 0 => ("UnseenRing$Square", "names", "[J", true)
  | 1 => ("UnseenRing$Square", "at", "[I", true)
  | 2 => ("UnseenRing$Square", "coins", "[I", true)
  | 3 => ("UnseenRing$Square", "likes", "[I", true)
  | 4 => ("UnseenRing$Square", "dogAt", "[I", true)
  | 5 => ("UnseenRing$Square", "days", "LUnseenRing$Days;", false)
  | 6 => ("UnseenRing$Square", "wide", "I", false)
  | 7 => ("UnseenRing$Square", "high", "I", false)
  | 8 => ("UnseenRing$Square", "odds", "I", false)
  | 9 => ("UnseenRing$Square", "organ", "I", false)
  | 10 => ("UnseenRing$Square", "tunes", "I", false)
  | 11 => ("UnseenRing$Square", "hearers", "I", false)
  | 12 => ("UnseenRing$Square", "dogs", "I", false)
  | 13 => ("UnseenRing$Square", "cup", "I", false)
  | 14 => ("UnseenRing$Square", "played", "I", false)
  | _ => ("UnseenRing$Square", "seen", "I", false)
def t_Square : Nat → FieldType := fun k => match k with
  | 0 => .array .long
  | 1 => .array .int
  | 2 => .array .int
  | 3 => .array .int
  | 4 => .array .int
  | 5 => .object "UnseenRing$Days"
  | 6 => .int
  | 7 => .int
  | 8 => .int
  | 9 => .int
  | 10 => .int
  | 11 => .int
  | 12 => .int
  | 13 => .int
  | 14 => .int
  | _ => .int
def R_SquareReader : String := "UnseenRing$SquareReader"
def F_SquareReader : u_T := fun k => match k with
  | 0 => ("UnseenRing$SquareReader", "sizeTold", "Z", false)
  | 1 => ("UnseenRing$SquareReader", "oddsTold", "Z", false)
  | _ => ("UnseenRing$SquareReader", "organTold", "Z", false)
def t_SquareReader : Nat → FieldType := fun k => match k with
  | 0 => .boolean
  | 1 => .boolean
  | _ => .boolean
def R_Tokens : String := "UnseenRing$Tokens"
def F_Tokens : u_T := fun k => match k with
  | 0 => ("UnseenRing$Tokens", "bytes", "[B", true)
  | 1 => ("UnseenRing$Tokens", "reserved", "[J", true)
  | 2 => ("UnseenRing$Tokens", "kinds", "[I", true)
  | 3 => ("UnseenRing$Tokens", "places", "[I", true)
  | 4 => ("UnseenRing$Tokens", "values", "[J", true)
  | 5 => ("UnseenRing$Tokens", "count", "I", false)
  | 6 => ("UnseenRing$Tokens", "current", "I", false)
  | 7 => ("UnseenRing$Tokens", "length", "I", false)
  | 8 => ("UnseenRing$Tokens", "kind", "I", false)
  | 9 => ("UnseenRing$Tokens", "word", "I", false)
  | 10 => ("UnseenRing$Tokens", "fault", "I", false)
  | _ => ("UnseenRing$Tokens", "faultPlace", "I", false)
def t_Tokens : Nat → FieldType := fun k => match k with
  | 0 => .array .byte
  | 1 => .array .long
  | 2 => .array .int
  | 3 => .array .int
  | 4 => .array .long
  | 5 => .int
  | 6 => .int
  | 7 => .int
  | 8 => .int
  | 9 => .int
  | 10 => .int
  | _ => .int
def R_Tray : String := "UnseenRing$Tray"
def F_Tray : u_T := fun k => match k with
  | 0 => ("UnseenRing$Tray", "numbers", "[J", true)
  | 1 => ("UnseenRing$Tray", "sort", "I", false)
  | _ => ("UnseenRing$Tray", "many", "I", false)
def t_Tray : Nat → FieldType := fun k => match k with
  | 0 => .array .long
  | 1 => .int
  | _ => .int
def R_UnseenRing : String := "UnseenRing"
def F_UnseenRing : u_T := fun k => match k with
  | 0 => ("UnseenRing", "trays", "[LUnseenRing$Tray;", true)
  | 1 => ("UnseenRing", "tokens", "LUnseenRing$Tokens;", true)
  | 2 => ("UnseenRing", "squareReader", "LUnseenRing$SquareReader;", true)
  | 3 => ("UnseenRing", "daysReader", "LUnseenRing$DaysReader;", true)
  | 4 => ("UnseenRing", "marked", "[LUnseenRing$Square;", true)
  | 5 => ("UnseenRing", "life", "LUnseenRing$Life;", true)
  | 6 => ("UnseenRing", "trial", "LUnseenRing$Life;", true)
  | 7 => ("UnseenRing", "rows", "LUnseenRing$Rows;", true)
  | 8 => ("UnseenRing", "sets", "LUnseenRing$Placings;", true)
  | 9 => ("UnseenRing", "covering", "LUnseenRing$Covering;", true)
  | 10 => ("UnseenRing", "knowing", "LUnseenRing$Knowing;", true)
  | 11 => ("UnseenRing", "now", "LUnseenRing$Square;", false)
  | 12 => ("UnseenRing", "spare", "LUnseenRing$Square;", false)
  | 13 => ("UnseenRing", "spareDays", "LUnseenRing$Days;", false)
  | 14 => ("UnseenRing", "marks", "I", false)
  | 15 => ("UnseenRing", "status", "I", false)
  | 16 => ("UnseenRing", "top", "J", false)
  | _ => ("UnseenRing", "bottom", "J", false)
def t_UnseenRing : Nat → FieldType := fun k => match k with
  | 0 => .array (.object "UnseenRing$Tray")
  | 1 => .object "UnseenRing$Tokens"
  | 2 => .object "UnseenRing$SquareReader"
  | 3 => .object "UnseenRing$DaysReader"
  | 4 => .array (.object "UnseenRing$Square")
  | 5 => .object "UnseenRing$Life"
  | 6 => .object "UnseenRing$Life"
  | 7 => .object "UnseenRing$Rows"
  | 8 => .object "UnseenRing$Placings"
  | 9 => .object "UnseenRing$Covering"
  | 10 => .object "UnseenRing$Knowing"
  | 11 => .object "UnseenRing$Square"
  | 12 => .object "UnseenRing$Square"
  | 13 => .object "UnseenRing$Days"
  | 14 => .int
  | 15 => .int
  | 16 => .long
  | _ => .long
def R_Model : String := "UnseenRingModel"
def F_Model : u_T := fun k => match k with
  | 0 => ("UnseenRingModel", "at", "[I", true)
  | 1 => ("UnseenRingModel", "names", "[J", true)
  | 2 => ("UnseenRingModel", "status", "I", false)
  | 3 => ("UnseenRingModel", "top", "J", false)
  | 4 => ("UnseenRingModel", "bottom", "J", false)
  | 5 => ("UnseenRingModel", "sort", "[I", true)
  | 6 => ("UnseenRingModel", "trayMany", "[I", true)
  | 7 => ("UnseenRingModel", "trays", "[J", true)
  | 8 => ("UnseenRingModel", "tape", "[B", true)
  | 9 => ("UnseenRingModel", "text", "[B", true)
  | 10 => ("UnseenRingModel", "taped", "I", false)
  | 11 => ("UnseenRingModel", "size", "I", false)
  | 12 => ("UnseenRingModel", "token", "I", false)
  | 13 => ("UnseenRingModel", "from", "I", false)
  | 14 => ("UnseenRingModel", "end", "I", false)
  | 15 => ("UnseenRingModel", "value", "I", false)
  | 16 => ("UnseenRingModel", "faultKind", "I", false)
  | 17 => ("UnseenRingModel", "faultPlace", "I", false)
  | 18 => ("UnseenRingModel", "faults", "I", false)
  | 19 => ("UnseenRingModel", "seen", "I", false)
  | 20 => ("UnseenRingModel", "toldParts", "I", false)
  | 21 => ("UnseenRingModel", "opened", "[I", true)
  | 22 => ("UnseenRingModel", "depth", "I", false)
  | 23 => ("UnseenRingModel", "counted", "I", false)
  | 24 => ("UnseenRingModel", "leftBy", "[I", true)
  | 25 => ("UnseenRingModel", "whoBy", "[I", true)
  | 26 => ("UnseenRingModel", "whoMany", "I", false)
  | 27 => ("UnseenRingModel", "cellAt", "[I", true)
  | 28 => ("UnseenRingModel", "dogsAt", "[I", true)
  | 29 => ("UnseenRingModel", "inBy", "[I", true)
  | 30 => ("UnseenRingModel", "hitBy", "[I", true)
  | 31 => ("UnseenRingModel", "waysBy", "[I", true)
  | 32 => ("UnseenRingModel", "thenBy", "[I", true)
  | 33 => ("UnseenRingModel", "placingMany", "I", false)
  | 34 => ("UnseenRingModel", "throwsBy", "[I", true)
  | 35 => ("UnseenRingModel", "worldBy", "[Z", true)
  | 36 => ("UnseenRingModel", "nextWorld", "[Z", true)
  | 37 => ("UnseenRingModel", "seesBy", "[I", true)
  | 38 => ("UnseenRingModel", "doneAt", "[I", true)
  | 39 => ("UnseenRingModel", "coinsAt", "[I", true)
  | 40 => ("UnseenRingModel", "bannedAt", "[I", true)
  | 41 => ("UnseenRingModel", "gotAt", "[I", true)
  | 42 => ("UnseenRingModel", "bestDeed", "[I", true)
  | 43 => ("UnseenRingModel", "crowdBy", "[J", true)
  | 44 => ("UnseenRingModel", "drawn", "I", false)
  | 45 => ("UnseenRingModel", "ranSteps", "I", false)
  | 46 => ("UnseenRingModel", "loops", "[I", true)
  | 47 => ("UnseenRingModel", "ran", "[I", true)
  | 48 => ("UnseenRingModel", "told1", "[I", true)
  | 49 => ("UnseenRingModel", "isTold", "Z", false)
  | _ => ("UnseenRingModel", "marks", "I", false)
def t_Model : Nat → FieldType := fun k => match k with
  | 0 => .array .int
  | 1 => .array .long
  | 2 => .int
  | 3 => .long
  | 4 => .long
  | 5 => .array .int
  | 6 => .array .int
  | 7 => .array .long
  | 8 => .array .byte
  | 9 => .array .byte
  | 10 => .int
  | 11 => .int
  | 12 => .int
  | 13 => .int
  | 14 => .int
  | 15 => .int
  | 16 => .int
  | 17 => .int
  | 18 => .int
  | 19 => .int
  | 20 => .int
  | 21 => .array .int
  | 22 => .int
  | 23 => .int
  | 24 => .array .int
  | 25 => .array .int
  | 26 => .int
  | 27 => .array .int
  | 28 => .array .int
  | 29 => .array .int
  | 30 => .array .int
  | 31 => .array .int
  | 32 => .array .int
  | 33 => .int
  | 34 => .array .int
  | 35 => .array .boolean
  | 36 => .array .boolean
  | 37 => .array .int
  | 38 => .array .int
  | 39 => .array .int
  | 40 => .array .int
  | 41 => .array .int
  | 42 => .array .int
  | 43 => .array .long
  | 44 => .int
  | 45 => .int
  | 46 => .array .int
  | 47 => .array .int
  | 48 => .array .int
  | 49 => .boolean
  | _ => .int
def am_cl : List vw_C := [(R_Covering, F_Covering, 4), (R_Days, F_Days, 8), (R_DaysReader, F_DaysReader, 2), (R_Knowing, F_Knowing, 3), (R_Life, F_Life, 12), (R_Placings, F_Placings, 3), (R_Rows, F_Rows, 6), (R_Square, F_Square, 16), (R_SquareReader, F_SquareReader, 3), (R_Tokens, F_Tokens, 12), (R_Tray, F_Tray, 3), (R_UnseenRing, F_UnseenRing, 18), (R_Model, F_Model, 51)]
def am_ty : List (Nat → FieldType) := [t_Covering, t_Days, t_DaysReader, t_Knowing, t_Life, t_Placings, t_Rows, t_Square, t_SquareReader, t_Tokens, t_Tray, t_UnseenRing, t_Model]
/-- of each field: 0 an int, 1 a long, 2 a reference, 3 a boolean -/
def am_kinds : List (List Nat) := [[2, 2, 0, 0], [2, 2, 2, 2, 2, 3, 0, 0], [2, 0], [2, 0, 1], [2, 0, 0, 0, 3, 0, 0, 0, 0, 3, 0, 3], [2, 2, 0], [2, 2, 2, 2, 2, 0], [2, 2, 2, 2, 2, 2, 0, 0, 0, 0, 0, 0, 0, 0, 0, 0], [3, 3, 3], [2, 2, 2, 2, 2, 0, 0, 0, 0, 0, 0, 0], [2, 0, 0], [2, 2, 2, 2, 2, 2, 2, 2, 2, 2, 2, 2, 2, 2, 0, 0, 1, 1], [2, 2, 0, 1, 1, 2, 2, 2, 2, 2, 0, 0, 0, 0, 0, 0, 0, 0, 0, 0, 0, 2, 0, 0, 2, 2, 0, 2, 2, 2, 2, 2, 2, 0, 2, 2, 2, 2, 2, 2, 2, 2, 2, 2, 0, 0, 2, 2, 2, 3, 0]]
theorem n_Covering : ∀ a, a < 4 → ∀ b, b < 4 → a ≠ b → (F_Covering a).2.1 ≠ (F_Covering b).2.1 := by decide +kernel
theorem t_Covering_ok : ∀ k, k < 4 → parseFieldDescriptor (F_Covering k).2.2.1 = some (t_Covering k) := by decide +kernel
theorem i_Covering : ∀ w ∈ u_ws R_Covering F_Covering 4, w ∈ lw_tbl := by decide +kernel
theorem n_Days : ∀ a, a < 8 → ∀ b, b < 8 → a ≠ b → (F_Days a).2.1 ≠ (F_Days b).2.1 := by decide +kernel
theorem t_Days_ok : ∀ k, k < 8 → parseFieldDescriptor (F_Days k).2.2.1 = some (t_Days k) := by decide +kernel
theorem i_Days : ∀ w ∈ u_ws R_Days F_Days 8, w ∈ lw_tbl := by decide +kernel
theorem n_DaysReader : ∀ a, a < 2 → ∀ b, b < 2 → a ≠ b → (F_DaysReader a).2.1 ≠ (F_DaysReader b).2.1 := by decide +kernel
theorem t_DaysReader_ok : ∀ k, k < 2 → parseFieldDescriptor (F_DaysReader k).2.2.1 = some (t_DaysReader k) := by decide +kernel
theorem i_DaysReader : ∀ w ∈ u_ws R_DaysReader F_DaysReader 2, w ∈ lw_tbl := by decide +kernel
theorem n_Knowing : ∀ a, a < 3 → ∀ b, b < 3 → a ≠ b → (F_Knowing a).2.1 ≠ (F_Knowing b).2.1 := by decide +kernel
theorem t_Knowing_ok : ∀ k, k < 3 → parseFieldDescriptor (F_Knowing k).2.2.1 = some (t_Knowing k) := by decide +kernel
theorem i_Knowing : ∀ w ∈ u_ws R_Knowing F_Knowing 3, w ∈ lw_tbl := by decide +kernel
theorem n_Life : ∀ a, a < 12 → ∀ b, b < 12 → a ≠ b → (F_Life a).2.1 ≠ (F_Life b).2.1 := by decide +kernel
theorem t_Life_ok : ∀ k, k < 12 → parseFieldDescriptor (F_Life k).2.2.1 = some (t_Life k) := by decide +kernel
theorem i_Life : ∀ w ∈ u_ws R_Life F_Life 12, w ∈ lw_tbl := by decide +kernel
theorem n_Placings : ∀ a, a < 3 → ∀ b, b < 3 → a ≠ b → (F_Placings a).2.1 ≠ (F_Placings b).2.1 := by decide +kernel
theorem t_Placings_ok : ∀ k, k < 3 → parseFieldDescriptor (F_Placings k).2.2.1 = some (t_Placings k) := by decide +kernel
theorem i_Placings : ∀ w ∈ u_ws R_Placings F_Placings 3, w ∈ lw_tbl := by decide +kernel
theorem n_Rows : ∀ a, a < 6 → ∀ b, b < 6 → a ≠ b → (F_Rows a).2.1 ≠ (F_Rows b).2.1 := by decide +kernel
theorem t_Rows_ok : ∀ k, k < 6 → parseFieldDescriptor (F_Rows k).2.2.1 = some (t_Rows k) := by decide +kernel
theorem i_Rows : ∀ w ∈ u_ws R_Rows F_Rows 6, w ∈ lw_tbl := by decide +kernel
theorem n_Square : ∀ a, a < 16 → ∀ b, b < 16 → a ≠ b → (F_Square a).2.1 ≠ (F_Square b).2.1 := by decide +kernel
theorem t_Square_ok : ∀ k, k < 16 → parseFieldDescriptor (F_Square k).2.2.1 = some (t_Square k) := by decide +kernel
theorem i_Square : ∀ w ∈ u_ws R_Square F_Square 16, w ∈ lw_tbl := by decide +kernel
theorem n_SquareReader : ∀ a, a < 3 → ∀ b, b < 3 → a ≠ b → (F_SquareReader a).2.1 ≠ (F_SquareReader b).2.1 := by decide +kernel
theorem t_SquareReader_ok : ∀ k, k < 3 → parseFieldDescriptor (F_SquareReader k).2.2.1 = some (t_SquareReader k) := by decide +kernel
theorem i_SquareReader : ∀ w ∈ u_ws R_SquareReader F_SquareReader 3, w ∈ lw_tbl := by decide +kernel
theorem n_Tokens : ∀ a, a < 12 → ∀ b, b < 12 → a ≠ b → (F_Tokens a).2.1 ≠ (F_Tokens b).2.1 := by decide +kernel
theorem t_Tokens_ok : ∀ k, k < 12 → parseFieldDescriptor (F_Tokens k).2.2.1 = some (t_Tokens k) := by decide +kernel
theorem i_Tokens : ∀ w ∈ u_ws R_Tokens F_Tokens 12, w ∈ lw_tbl := by decide +kernel
theorem n_Tray : ∀ a, a < 3 → ∀ b, b < 3 → a ≠ b → (F_Tray a).2.1 ≠ (F_Tray b).2.1 := by decide +kernel
theorem t_Tray_ok : ∀ k, k < 3 → parseFieldDescriptor (F_Tray k).2.2.1 = some (t_Tray k) := by decide +kernel
theorem i_Tray : ∀ w ∈ u_ws R_Tray F_Tray 3, w ∈ lw_tbl := by decide +kernel
theorem n_UnseenRing : ∀ a, a < 18 → ∀ b, b < 18 → a ≠ b → (F_UnseenRing a).2.1 ≠ (F_UnseenRing b).2.1 := by decide +kernel
theorem t_UnseenRing_ok : ∀ k, k < 18 → parseFieldDescriptor (F_UnseenRing k).2.2.1 = some (t_UnseenRing k) := by decide +kernel
theorem i_UnseenRing : ∀ w ∈ u_ws R_UnseenRing F_UnseenRing 18, w ∈ lw_tbl := by decide +kernel
theorem n_Model : ∀ a, a < 51 → ∀ b, b < 51 → a ≠ b → (F_Model a).2.1 ≠ (F_Model b).2.1 := by decide +kernel
theorem t_Model_ok : ∀ k, k < 51 → parseFieldDescriptor (F_Model k).2.2.1 = some (t_Model k) := by decide +kernel
theorem i_Model : ∀ w ∈ u_ws R_Model F_Model 51, w ∈ lw_tbl := by decide +kernel
theorem tb_1 {w : Cond} (h : w ∈ tables_1_1) : w ∈ lw_tbl := List.mem_append_right _ (List.mem_append_left _ h)
theorem tb_2 {w : Cond} (h : w ∈ tables_1_2) : w ∈ lw_tbl := List.mem_append_right _ (List.mem_append_right _ (List.mem_append_left _ h))
theorem tb_3 {w : Cond} (h : w ∈ tables_1_3) : w ∈ lw_tbl := List.mem_append_right _ (List.mem_append_right _ (List.mem_append_right _ (List.mem_append_left _ h)))
theorem tb_4 {w : Cond} (h : w ∈ tables_1_4) : w ∈ lw_tbl := List.mem_append_right _ (List.mem_append_right _ (List.mem_append_right _ (List.mem_append_right _ (List.mem_append_left _ h))))
theorem tb_5 {w : Cond} (h : w ∈ tables_1_5) : w ∈ lw_tbl := List.mem_append_right _ (List.mem_append_right _ (List.mem_append_right _ (List.mem_append_right _ (List.mem_append_right _ (List.mem_append_left _ h)))))
theorem tb_6 {w : Cond} (h : w ∈ tables_1_6) : w ∈ lw_tbl := List.mem_append_right _ (List.mem_append_right _ (List.mem_append_right _ (List.mem_append_right _ (List.mem_append_right _ (List.mem_append_right _ (List.mem_append_left _ h))))))
theorem tb_7 {w : Cond} (h : w ∈ tables_1_7) : w ∈ lw_tbl := List.mem_append_right _ (List.mem_append_right _ (List.mem_append_right _ (List.mem_append_right _ (List.mem_append_right _ (List.mem_append_right _ (List.mem_append_right _ (List.mem_append_left _ h)))))))
theorem tb_8 {w : Cond} (h : w ∈ tables_1_8) : w ∈ lw_tbl := List.mem_append_right _ (List.mem_append_right _ (List.mem_append_right _ (List.mem_append_right _ (List.mem_append_right _ (List.mem_append_right _ (List.mem_append_right _ (List.mem_append_right _ (List.mem_append_left _ h))))))))
theorem tb_9 {w : Cond} (h : w ∈ tables_1_9) : w ∈ lw_tbl := List.mem_append_right _ (List.mem_append_right _ (List.mem_append_right _ (List.mem_append_right _ (List.mem_append_right _ (List.mem_append_right _ (List.mem_append_right _ (List.mem_append_right _ (List.mem_append_right _ (h)))))))))
