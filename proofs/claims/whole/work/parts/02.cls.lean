theorem goodIn_r {big : List Cond} (ws : List Cond) (ps : List Nat) (hp : ws = ps.filterMap (fun i => big[i]?)) (h : ws.all goodWord = true) : GoodIn big ws := by
  intro w hw
  have h1 := List.all_eq_true.mp h w hw
  rw [hp] at hw
  obtain ⟨i, -, hi⟩ := List.mem_filterMap.mp hw
  have hm : w ∈ big := by first | exact List.mem_of_getElem? hi | exact List.getElem?_mem hi
  exact ⟨hm, good_of_word h1⟩
theorem goodIn_app {big a b : List Cond} (ha : GoodIn big a) (hb : GoodIn big b) : GoodIn big (a ++ b) := fun w h => (List.mem_append.mp h).elim (ha w) (hb w)
theorem goodIn_ca {big a b : List Cond} {c : Cond} (ha : GoodIn big (c :: a)) (hb : GoodIn big b) : GoodIn big (c :: (a ++ b)) := fun w h => (List.mem_cons.mp h).elim (fun e => ha w (List.mem_cons.mpr (Or.inl e))) (fun h => (List.mem_append.mp h).elim (fun h => ha w (List.mem_cons.mpr (Or.inr h))) (hb w))
theorem goodIn_sub {big ws : List Cond} (hm : ∀ w ∈ ws, w ∈ big) (h : ws.all goodWord = true) : GoodIn big ws := fun w hw => ⟨hm w hw, good_of_word (List.all_eq_true.mp h w hw)⟩
def RX0 : String := "BackIndex$Acts"
def TX0 : u_T := fun k => match k with
  | 0 => ("BackIndex$Acts", "ring", "[LBackIndex$Kept;", true)
  | 1 => ("BackIndex$Acts", "next", "I", false)
  | _ => ("BackIndex$Acts", "count", "I", false)
def tyX0 : Nat → FieldType := fun k => match k with
  | 0 => .array (.object "BackIndex$Kept")
  | 1 => .int
  | _ => .int
abbrev wsX00 : List Cond := u_ws RX0 TX0 3
theorem nmX0 : ∀ a, a < 3 → ∀ b, b < 3 → a ≠ b → (TX0 a).2.1 ≠ (TX0 b).2.1 := by decide +kernel
theorem tyX0_ok : ∀ k, k < 3 → parseFieldDescriptor (TX0 k).2.2.1 = some (tyX0 k) := by decide +kernel
def RX1 : String := "BackIndex$Bits"
def TX1 : u_T := fun k => match k with
  | 0 => ("BackIndex$Bits", "at", "I", false)
  | 1 => ("BackIndex$Bits", "kind", "I", false)
  | _ => ("BackIndex$Bits", "value", "J", false)
def tyX1 : Nat → FieldType := fun k => match k with
  | 0 => .int
  | 1 => .int
  | _ => .long
abbrev wsX10 : List Cond := u_ws RX1 TX1 3
theorem nmX1 : ∀ a, a < 3 → ∀ b, b < 3 → a ≠ b → (TX1 a).2.1 ≠ (TX1 b).2.1 := by decide +kernel
theorem tyX1_ok : ∀ k, k < 3 → parseFieldDescriptor (TX1 k).2.2.1 = some (tyX1 k) := by decide +kernel
def RX2 : String := "BackIndex$Heads"
def TX2 : u_T := fun k => match k with
  | 0 => ("BackIndex$Heads", "own", "LBackIndex$Rows;", true)
  | 1 => ("BackIndex$Heads", "sorted", "LBackIndex$Rows;", true)
  | 2 => ("BackIndex$Heads", "gone", "[Z", true)
  | _ => ("BackIndex$Heads", "ever", "I", false)
def tyX2 : Nat → FieldType := fun k => match k with
  | 0 => .object "BackIndex$Rows"
  | 1 => .object "BackIndex$Rows"
  | 2 => .array .boolean
  | _ => .int
abbrev wsX20 : List Cond := u_ws RX2 TX2 4
theorem nmX2 : ∀ a, a < 4 → ∀ b, b < 4 → a ≠ b → (TX2 a).2.1 ≠ (TX2 b).2.1 := by decide +kernel
theorem tyX2_ok : ∀ k, k < 4 → parseFieldDescriptor (TX2 k).2.2.1 = some (tyX2 k) := by decide +kernel
def RX3 : String := "BackIndex$Index"
def TX3 : u_T := fun k => match k with
  | 0 => ("BackIndex$Index", "count", "I", false)
  | 1 => ("BackIndex$Index", "paths", "[I", true)
  | 2 => ("BackIndex$Index", "placeEnds", "[I", true)
  | 3 => ("BackIndex$Index", "leadEnds", "[I", true)
  | 4 => ("BackIndex$Index", "places", "[I", true)
  | 5 => ("BackIndex$Index", "placeCount", "I", false)
  | 6 => ("BackIndex$Index", "leads", "[I", true)
  | 7 => ("BackIndex$Index", "leadCount", "I", false)
  | 8 => ("BackIndex$Index", "loose", "[I", true)
  | 9 => ("BackIndex$Index", "looseCount", "I", false)
  | _ => ("BackIndex$Index", "signs", "LBackIndex$Rows;", true)
def tyX3 : Nat → FieldType := fun k => match k with
  | 0 => .int
  | 1 => .array .int
  | 2 => .array .int
  | 3 => .array .int
  | 4 => .array .int
  | 5 => .int
  | 6 => .array .int
  | 7 => .int
  | 8 => .array .int
  | 9 => .int
  | _ => .object "BackIndex$Rows"
abbrev wsX30 : List Cond := u_ws RX3 TX3 11
theorem nmX3 : ∀ a, a < 11 → ∀ b, b < 11 → a ≠ b → (TX3 a).2.1 ≠ (TX3 b).2.1 := by decide +kernel
theorem tyX3_ok : ∀ k, k < 11 → parseFieldDescriptor (TX3 k).2.2.1 = some (tyX3 k) := by decide +kernel
def RX4 : String := "BackIndex$Kept"
def TX4 : u_T := fun k => match k with
  | 0 => ("BackIndex$Kept", "words", "[I", true)
  | 1 => ("BackIndex$Kept", "wordCount", "I", false)
  | 2 => ("BackIndex$Kept", "heads", "LBackIndex$Heads;", true)
  | _ => ("BackIndex$Kept", "marks", "LBackIndex$Marks;", true)
def tyX4 : Nat → FieldType := fun k => match k with
  | 0 => .array .int
  | 1 => .int
  | 2 => .object "BackIndex$Heads"
  | _ => .object "BackIndex$Marks"
abbrev wsX40 : List Cond := u_ws RX4 TX4 4
theorem nmX4 : ∀ a, a < 4 → ∀ b, b < 4 → a ≠ b → (TX4 a).2.1 ≠ (TX4 b).2.1 := by decide +kernel
theorem tyX4_ok : ∀ k, k < 4 → parseFieldDescriptor (TX4 k).2.2.1 = some (tyX4 k) := by decide +kernel
def RX5 : String := "BackIndex$Keys"
def TX5 : u_T := fun k => match k with
  | 0 => ("BackIndex$Keys", "passed", "LBackIndex$Rows;", true)
  | 1 => ("BackIndex$Keys", "passedCount", "I", false)
  | 2 => ("BackIndex$Keys", "left", "LBackIndex$Bits;", true)
  | _ => ("BackIndex$Keys", "right", "LBackIndex$Bits;", true)
def tyX5 : Nat → FieldType := fun k => match k with
  | 0 => .object "BackIndex$Rows"
  | 1 => .int
  | 2 => .object "BackIndex$Bits"
  | _ => .object "BackIndex$Bits"
abbrev wsX50 : List Cond := u_ws RX5 TX5 4
theorem nmX5 : ∀ a, a < 4 → ∀ b, b < 4 → a ≠ b → (TX5 a).2.1 ≠ (TX5 b).2.1 := by decide +kernel
theorem tyX5_ok : ∀ k, k < 4 → parseFieldDescriptor (TX5 k).2.2.1 = some (tyX5 k) := by decide +kernel
def RX6 : String := "BackIndex$Maker"
def TX6 : u_T := fun k => match k with
  | 0 => ("BackIndex$Maker", "kept", "LBackIndex$Kept;", true)
  | 1 => ("BackIndex$Maker", "keys", "LBackIndex$Keys;", true)
  | 2 => ("BackIndex$Maker", "ranks", "[I", true)
  | 3 => ("BackIndex$Maker", "byRank", "[I", true)
  | 4 => ("BackIndex$Maker", "ranked", "I", false)
  | 5 => ("BackIndex$Maker", "byGap", "[I", true)
  | 6 => ("BackIndex$Maker", "listed", "I", false)
  | 7 => ("BackIndex$Maker", "isLoose", "[Z", true)
  | 8 => ("BackIndex$Maker", "ledBy", "[I", true)
  | 9 => ("BackIndex$Maker", "runs", "LBackIndex$Runs;", true)
  | 10 => ("BackIndex$Maker", "open", "I", false)
  | 11 => ("BackIndex$Maker", "near", "I", false)
  | 12 => ("BackIndex$Maker", "chief", "I", false)
  | _ => ("BackIndex$Maker", "flow", "I", false)
def tyX6 : Nat → FieldType := fun k => match k with
  | 0 => .object "BackIndex$Kept"
  | 1 => .object "BackIndex$Keys"
  | 2 => .array .int
  | 3 => .array .int
  | 4 => .int
  | 5 => .array .int
  | 6 => .int
  | 7 => .array .boolean
  | 8 => .array .int
  | 9 => .object "BackIndex$Runs"
  | 10 => .int
  | 11 => .int
  | 12 => .int
  | _ => .int
abbrev wsX60 : List Cond := u_ws RX6 TX6 14
theorem nmX6 : ∀ a, a < 14 → ∀ b, b < 14 → a ≠ b → (TX6 a).2.1 ≠ (TX6 b).2.1 := by decide +kernel
theorem tyX6_ok : ∀ k, k < 14 → parseFieldDescriptor (TX6 k).2.2.1 = some (tyX6 k) := by decide +kernel
def RX7 : String := "BackIndex$Marks"
def TX7 : u_T := fun k => match k with
  | 0 => ("BackIndex$Marks", "kinds", "[I", true)
  | 1 => ("BackIndex$Marks", "gaps", "[I", true)
  | 2 => ("BackIndex$Marks", "paths", "[I", true)
  | 3 => ("BackIndex$Marks", "notes", "[I", true)
  | 4 => ("BackIndex$Marks", "gone", "[Z", true)
  | _ => ("BackIndex$Marks", "ever", "I", false)
def tyX7 : Nat → FieldType := fun k => match k with
  | 0 => .array .int
  | 1 => .array .int
  | 2 => .array .int
  | 3 => .array .int
  | 4 => .array .boolean
  | _ => .int
abbrev wsX70 : List Cond := u_ws RX7 TX7 6
theorem nmX7 : ∀ a, a < 6 → ∀ b, b < 6 → a ≠ b → (TX7 a).2.1 ≠ (TX7 b).2.1 := by decide +kernel
theorem tyX7_ok : ∀ k, k < 6 → parseFieldDescriptor (TX7 k).2.2.1 = some (tyX7 k) := by decide +kernel
def RX8 : String := "BackIndex$Parts"
def TX8 : u_T := fun k => match k with
  | 0 => ("BackIndex$Parts", "pages", "[I", true)
  | 1 => ("BackIndex$Parts", "forms", "[I", true)
  | 2 => ("BackIndex$Parts", "numbers", "[I", true)
  | 3 => ("BackIndex$Parts", "letters", "[I", true)
  | 4 => ("BackIndex$Parts", "count", "I", false)
  | 5 => ("BackIndex$Parts", "signs", "[I", true)
  | _ => ("BackIndex$Parts", "signCount", "I", false)
def tyX8 : Nat → FieldType := fun k => match k with
  | 0 => .array .int
  | 1 => .array .int
  | 2 => .array .int
  | 3 => .array .int
  | 4 => .int
  | 5 => .array .int
  | _ => .int
abbrev wsX80 : List Cond := u_ws RX8 TX8 7
theorem nmX8 : ∀ a, a < 7 → ∀ b, b < 7 → a ≠ b → (TX8 a).2.1 ≠ (TX8 b).2.1 := by decide +kernel
theorem tyX8_ok : ∀ k, k < 7 → parseFieldDescriptor (TX8 k).2.2.1 = some (tyX8 k) := by decide +kernel
def RX9 : String := "BackIndex$Rows"
def TX9 : u_T := fun k => match k with
  | 0 => ("BackIndex$Rows", "signs", "[B", true)
  | _ => ("BackIndex$Rows", "counts", "[I", true)
def tyX9 : Nat → FieldType := fun k => match k with
  | 0 => .array .byte
  | _ => .array .int
abbrev wsX90 : List Cond := u_ws RX9 TX9 2
theorem nmX9 : ∀ a, a < 2 → ∀ b, b < 2 → a ≠ b → (TX9 a).2.1 ≠ (TX9 b).2.1 := by decide +kernel
theorem tyX9_ok : ∀ k, k < 2 → parseFieldDescriptor (TX9 k).2.2.1 = some (tyX9 k) := by decide +kernel
def RX10 : String := "BackIndex$Runs"
def TX10 : u_T := fun k => match k with
  | 0 => ("BackIndex$Runs", "firsts", "[I", true)
  | 1 => ("BackIndex$Runs", "lasts", "[I", true)
  | _ => ("BackIndex$Runs", "count", "I", false)
def tyX10 : Nat → FieldType := fun k => match k with
  | 0 => .array .int
  | 1 => .array .int
  | _ => .int
abbrev wsX100 : List Cond := u_ws RX10 TX10 3
theorem nmX10 : ∀ a, a < 3 → ∀ b, b < 3 → a ≠ b → (TX10 a).2.1 ≠ (TX10 b).2.1 := by decide +kernel
theorem tyX10_ok : ∀ k, k < 3 → parseFieldDescriptor (TX10 k).2.2.1 = some (tyX10 k) := by decide +kernel
def RX11 : String := "BackIndex"
def TX11 : u_T := fun k => match k with
  | 0 => ("BackIndex", "kept", "LBackIndex$Kept;", true)
  | 1 => ("BackIndex", "heads", "LBackIndex$Heads;", true)
  | 2 => ("BackIndex", "marks", "LBackIndex$Marks;", true)
  | 3 => ("BackIndex", "acts", "LBackIndex$Acts;", true)
  | 4 => ("BackIndex", "parts", "LBackIndex$Parts;", true)
  | 5 => ("BackIndex", "theName", "LBackIndex$Rows;", true)
  | 6 => ("BackIndex", "keys", "LBackIndex$Keys;", true)
  | 7 => ("BackIndex", "maker", "LBackIndex$Maker;", true)
  | 8 => ("BackIndex", "index", "LBackIndex$Index;", false)
  | 9 => ("BackIndex", "former", "LBackIndex$Index;", false)
  | 10 => ("BackIndex", "flow", "I", false)
  | 11 => ("BackIndex", "trace", "I", false)
  | 12 => ("BackIndex", "fault", "I", false)
  | 13 => ("BackIndex", "trayKind", "I", false)
  | _ => ("BackIndex", "trayNumber", "I", false)
def tyX11 : Nat → FieldType := fun k => match k with
  | 0 => .object "BackIndex$Kept"
  | 1 => .object "BackIndex$Heads"
  | 2 => .object "BackIndex$Marks"
  | 3 => .object "BackIndex$Acts"
  | 4 => .object "BackIndex$Parts"
  | 5 => .object "BackIndex$Rows"
  | 6 => .object "BackIndex$Keys"
  | 7 => .object "BackIndex$Maker"
  | 8 => .object "BackIndex$Index"
  | 9 => .object "BackIndex$Index"
  | 10 => .int
  | 11 => .int
  | 12 => .int
  | 13 => .int
  | _ => .int
abbrev wsX110 : List Cond := u_ws RX11 TX11 15
theorem nmX11 : ∀ a, a < 15 → ∀ b, b < 15 → a ≠ b → (TX11 a).2.1 ≠ (TX11 b).2.1 := by decide +kernel
theorem tyX11_ok : ∀ k, k < 15 → parseFieldDescriptor (TX11 k).2.2.1 = some (tyX11 k) := by decide +kernel
def RX12 : String := "BackIndexModel"
def TX12 : u_T := fun k => match k with
  | 0 => ("BackIndexModel", "fault", "I", false)
  | 1 => ("BackIndexModel", "trace", "I", false)
  | 2 => ("BackIndexModel", "now", "[I", true)
  | 3 => ("BackIndexModel", "acts", "[I", true)
  | 4 => ("BackIndexModel", "firstAct", "I", false)
  | 5 => ("BackIndexModel", "actMany", "I", false)
  | 6 => ("BackIndexModel", "name", "[I", true)
  | 7 => ("BackIndexModel", "nameLong", "I", false)
  | 8 => ("BackIndexModel", "passed", "[I", true)
  | 9 => ("BackIndexModel", "passedLong", "[I", true)
  | 10 => ("BackIndexModel", "passedMany", "I", false)
  | 11 => ("BackIndexModel", "flow", "I", false)
  | 12 => ("BackIndexModel", "parts", "I", false)
  | 13 => ("BackIndexModel", "partPage", "[I", true)
  | 14 => ("BackIndexModel", "partForm", "[I", true)
  | 15 => ("BackIndexModel", "partNumber", "[I", true)
  | 16 => ("BackIndexModel", "partLetter", "[I", true)
  | 17 => ("BackIndexModel", "moved", "[I", true)
  | 18 => ("BackIndexModel", "comes", "[I", true)
  | 19 => ("BackIndexModel", "out", "[I", true)
  | 20 => ("BackIndexModel", "outLong", "I", false)
  | 21 => ("BackIndexModel", "left", "I", false)
  | 22 => ("BackIndexModel", "bitKind", "I", false)
  | 23 => ("BackIndexModel", "bitIs", "J", false)
  | 24 => ("BackIndexModel", "bitEnd", "I", false)
  | 25 => ("BackIndexModel", "entries", "I", false)
  | 26 => ("BackIndexModel", "path", "[I", true)
  | 27 => ("BackIndexModel", "placeMany", "[I", true)
  | 28 => ("BackIndexModel", "placeAt", "[I", true)
  | 29 => ("BackIndexModel", "seeMany", "[I", true)
  | 30 => ("BackIndexModel", "seeAt", "[I", true)
  | 31 => ("BackIndexModel", "places", "[I", true)
  | 32 => ("BackIndexModel", "placeEnd", "I", false)
  | 33 => ("BackIndexModel", "seen", "[I", true)
  | 34 => ("BackIndexModel", "seeEnd", "I", false)
  | 35 => ("BackIndexModel", "oldEntries", "I", false)
  | 36 => ("BackIndexModel", "oldPath", "[I", true)
  | 37 => ("BackIndexModel", "oldPlaceMany", "[I", true)
  | 38 => ("BackIndexModel", "oldPlaceAt", "[I", true)
  | 39 => ("BackIndexModel", "oldSeeMany", "[I", true)
  | 40 => ("BackIndexModel", "oldSeeAt", "[I", true)
  | 41 => ("BackIndexModel", "oldPlaces", "[I", true)
  | 42 => ("BackIndexModel", "oldSeen", "[I", true)
  | 43 => ("BackIndexModel", "unmatchedMany", "I", false)
  | 44 => ("BackIndexModel", "unmatched", "[I", true)
  | 45 => ("BackIndexModel", "changedMany", "I", false)
  | 46 => ("BackIndexModel", "wasLong", "[I", true)
  | 47 => ("BackIndexModel", "wasSigns", "[I", true)
  | 48 => ("BackIndexModel", "runs", "I", false)
  | 49 => ("BackIndexModel", "runFirst", "[I", true)
  | 50 => ("BackIndexModel", "runLast", "[I", true)
  | 51 => ("BackIndexModel", "isCome", "[Z", true)
  | 52 => ("BackIndexModel", "trayKind", "I", false)
  | _ => ("BackIndexModel", "trayNumber", "I", false)
def tyX12 : Nat → FieldType := fun k => match k with
  | 0 => .int
  | 1 => .int
  | 2 => .array .int
  | 3 => .array .int
  | 4 => .int
  | 5 => .int
  | 6 => .array .int
  | 7 => .int
  | 8 => .array .int
  | 9 => .array .int
  | 10 => .int
  | 11 => .int
  | 12 => .int
  | 13 => .array .int
  | 14 => .array .int
  | 15 => .array .int
  | 16 => .array .int
  | 17 => .array .int
  | 18 => .array .int
  | 19 => .array .int
  | 20 => .int
  | 21 => .int
  | 22 => .int
  | 23 => .long
  | 24 => .int
  | 25 => .int
  | 26 => .array .int
  | 27 => .array .int
  | 28 => .array .int
  | 29 => .array .int
  | 30 => .array .int
  | 31 => .array .int
  | 32 => .int
  | 33 => .array .int
  | 34 => .int
  | 35 => .int
  | 36 => .array .int
  | 37 => .array .int
  | 38 => .array .int
  | 39 => .array .int
  | 40 => .array .int
  | 41 => .array .int
  | 42 => .array .int
  | 43 => .int
  | 44 => .array .int
  | 45 => .int
  | 46 => .array .int
  | 47 => .array .int
  | 48 => .int
  | 49 => .array .int
  | 50 => .array .int
  | 51 => .array .boolean
  | 52 => .int
  | _ => .int
abbrev wsX120 : List Cond := u_ws RX12 TX12 54
theorem nmX12 : ∀ a, a < 54 → ∀ b, b < 54 → a ≠ b → (TX12 a).2.1 ≠ (TX12 b).2.1 := by decide +kernel
theorem tyX12_ok : ∀ k, k < 54 → parseFieldDescriptor (TX12 k).2.2.1 = some (tyX12 k) := by decide +kernel
abbrev vwCl : List vw_C := [(RX0, TX0, 3), (RX1, TX1, 3), (RX2, TX2, 4), (RX3, TX3, 11), (RX4, TX4, 4), (RX5, TX5, 4), (RX6, TX6, 14), (RX7, TX7, 6), (RX8, TX8, 7), (RX9, TX9, 2), (RX10, TX10, 3), (RX11, TX11, 15), (RX12, TX12, 54)]
/-- nest mates' links: they are kept in the world, not among a method's words -/
def j_isN : Cond → Bool
  | .fieldLinkNest .. => true
  | .methodLinkNest .. => true
  | _ => false
def j_wg : List Cond := lw_tbl.filter goodWord
def j_wn : List Cond := lw_tbl.filter j_isN
theorem j_good : ∀ w ∈ j_wg, (w.onTables && w.keeps) = true ∨ ∃ ty, w = .arrayClass ty := fun _ h => good_of_word (List.mem_filter.mp h).2
theorem inX0 : ∀ w ∈ wsX00, w ∈ j_wg := by decide +kernel
theorem inX1 : ∀ w ∈ wsX10, w ∈ j_wg := by decide +kernel
theorem inX2 : ∀ w ∈ wsX20, w ∈ j_wg := by decide +kernel
theorem inX3 : ∀ w ∈ wsX30, w ∈ j_wg := by decide +kernel
theorem inX4 : ∀ w ∈ wsX40, w ∈ j_wg := by decide +kernel
theorem inX5 : ∀ w ∈ wsX50, w ∈ j_wg := by decide +kernel
theorem inX6 : ∀ w ∈ wsX60, w ∈ j_wg := by decide +kernel
theorem inX7 : ∀ w ∈ wsX70, w ∈ j_wg := by decide +kernel
theorem inX8 : ∀ w ∈ wsX80, w ∈ j_wg := by decide +kernel
theorem inX9 : ∀ w ∈ wsX90, w ∈ j_wg := by decide +kernel
theorem inX10 : ∀ w ∈ wsX100, w ∈ j_wg := by decide +kernel
theorem inX11 : ∀ w ∈ wsX110, w ∈ j_wg := by decide +kernel
theorem inX12 : ∀ w ∈ wsX120, w ∈ j_wg := by decide +kernel
