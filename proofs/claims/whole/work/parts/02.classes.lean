def gF_Desk : u_T := fun k => match k with
  | 0 => ("CounterDesk", "board", "LCounterDesk$Board;", true)
  | 1 => ("CounterDesk", "judge", "LCounterDesk$Judge;", true)
  | 2 => ("CounterDesk", "clerk", "LCounterDesk$Clerk;", true)
  | 3 => ("CounterDesk", "paper", "LCounterDesk$Paper;", true)
  | 4 => ("CounterDesk", "draws", "LCounterDesk$Draws;", true)
  | 5 => ("CounterDesk", "tape", "LCounterDesk$Tape;", true)
  | 6 => ("CounterDesk", "reader", "LCounterDesk$Reader;", true)
  | 7 => ("CounterDesk", "images", "[LCounterDesk$Board;", true)
  | 8 => ("CounterDesk", "imageKept", "[Z", true)
  | 9 => ("CounterDesk", "refused", "[I", true)
  | 10 => ("CounterDesk", "slipped", "[J", true)
  | 11 => ("CounterDesk", "blots", "I", false)
  | 12 => ("CounterDesk", "fault", "I", false)
  | _ => ("CounterDesk", "status", "I", false)
def gF_Board : u_T := fun k => match k with
  | 0 => ("CounterDesk$Board", "notes", "I", false)
  | 1 => ("CounterDesk$Board", "under", "[I", true)
  | 2 => ("CounterDesk$Board", "here", "[I", true)
  | 3 => ("CounterDesk$Board", "terms", "[I", true)
  | 4 => ("CounterDesk$Board", "heardCount", "I", false)
  | 5 => ("CounterDesk$Board", "heardFacts", "[I", true)
  | 6 => ("CounterDesk$Board", "heardNumbers", "[I", true)
  | 7 => ("CounterDesk$Board", "lawCount", "I", false)
  | 8 => ("CounterDesk$Board", "laws", "[LCounterDesk$Text;", true)
  | _ => ("CounterDesk$Board", "force", "I", false)
def gF_Clerk : u_T := fun k => match k with
  | 0 => ("CounterDesk$Clerk", "trail", "LCounterDesk$Trail;", true)
  | 1 => ("CounterDesk$Clerk", "stopped", "I", false)
  | 2 => ("CounterDesk$Clerk", "board", "LCounterDesk$Board;", true)
  | 3 => ("CounterDesk$Clerk", "judge", "LCounterDesk$Judge;", true)
  | 4 => ("CounterDesk$Clerk", "machine", "LCounterDesk$Machine;", true)
  | 5 => ("CounterDesk$Clerk", "boardAhead", "LCounterDesk$Board;", true)
  | 6 => ("CounterDesk$Clerk", "trailAhead", "LCounterDesk$Trail;", true)
  | 7 => ("CounterDesk$Clerk", "words", "[I", true)
  | 8 => ("CounterDesk$Clerk", "done", "I", false)
  | _ => ("CounterDesk$Clerk", "latest", "I", false)
def gF_Draws : u_T := fun k => match k with
  | 0 => ("CounterDesk$Draws", "paper", "LCounterDesk$Board;", true)
  | 1 => ("CounterDesk$Draws", "kept", "Z", false)
  | _ => ("CounterDesk$Draws", "s", "J", false)
def gF_Judge : u_T := fun k => match k with
  | 0 => ("CounterDesk$Judge", "machine", "LCounterDesk$Machine;", true)
  | 1 => ("CounterDesk$Judge", "words", "[I", true)
  | 2 => ("CounterDesk$Judge", "isFirst", "Z", false)
  | _ => ("CounterDesk$Judge", "underAhead", "I", false)
def gF_Machine : u_T := fun k => match k with
  | _ => ("CounterDesk$Machine", "stack", "[I", true)
def gF_Paper : u_T := fun k => match k with
  | 0 => ("CounterDesk$Paper", "narrowLow", "I", false)
  | 1 => ("CounterDesk$Paper", "cheapestCosts", "I", false)
  | 2 => ("CounterDesk$Paper", "judge", "LCounterDesk$Judge;", true)
  | 3 => ("CounterDesk$Paper", "costs", "LCounterDesk$Sheet;", true)
  | 4 => ("CounterDesk$Paper", "earns", "LCounterDesk$Sheet;", true)
  | 5 => ("CounterDesk$Paper", "bars", "LCounterDesk$Sheet;", true)
  | 6 => ("CounterDesk$Paper", "least", "[[I", true)
  | 7 => ("CounterDesk$Paper", "pick", "[[I", true)
  | 8 => ("CounterDesk$Paper", "many", "[[J", true)
  | 9 => ("CounterDesk$Paper", "open", "[[I", true)
  | 10 => ("CounterDesk$Paper", "lows", "[I", true)
  | 11 => ("CounterDesk$Paper", "highs", "[I", true)
  | _ => ("CounterDesk$Paper", "trial", "LCounterDesk$Board;", true)
def gF_Reader : u_T := fun k => match k with
  | 0 => ("CounterDesk$Reader", "draft", "LCounterDesk$Text;", true)
  | 1 => ("CounterDesk$Reader", "bytes", "[I", true)
  | 2 => ("CounterDesk$Reader", "length", "I", false)
  | 3 => ("CounterDesk$Reader", "isLaw", "Z", false)
  | 4 => ("CounterDesk$Reader", "kind", "I", false)
  | 5 => ("CounterDesk$Reader", "start", "I", false)
  | 6 => ("CounterDesk$Reader", "next", "I", false)
  | 7 => ("CounterDesk$Reader", "value", "I", false)
  | _ => ("CounterDesk$Reader", "parts", "I", false)
def gF_Sheet : u_T := fun k => match k with
  | 0 => ("CounterDesk$Sheet", "pages", "[[I", true)
  | 1 => ("CounterDesk$Sheet", "kind", "I", true)
  | 2 => ("CounterDesk$Sheet", "keys", "[J", true)
  | _ => ("CounterDesk$Sheet", "laws", "[LCounterDesk$Text;", true)
def gF_Tape : u_T := fun k => match k with
  | 0 => ("CounterDesk$Tape", "bytes", "[I", true)
  | _ => ("CounterDesk$Tape", "length", "I", false)
def gF_Text : u_T := fun k => match k with
  | 0 => ("CounterDesk$Text", "clauses", "I", false)
  | 1 => ("CounterDesk$Text", "length", "I", false)
  | 2 => ("CounterDesk$Text", "looksBack", "Z", false)
  | 3 => ("CounterDesk$Text", "kinds", "[I", true)
  | 4 => ("CounterDesk$Text", "times", "[I", true)
  | 5 => ("CounterDesk$Text", "starts", "[I", true)
  | 6 => ("CounterDesk$Text", "ops", "[I", true)
  | _ => ("CounterDesk$Text", "args", "[I", true)
def gF_Trail : u_T := fun k => match k with
  | 0 => ("CounterDesk$Trail", "kinds", "[I", true)
  | 1 => ("CounterDesk$Trail", "notes", "[I", true)
  | 2 => ("CounterDesk$Trail", "pitches", "[I", true)
  | _ => ("CounterDesk$Trail", "length", "I", false)
def gF_Model : u_T := fun k => match k with
  | 0 => ("CounterDeskModel", "status", "I", false)
  | 1 => ("CounterDeskModel", "refused", "[I", true)
  | 2 => ("CounterDeskModel", "kept", "[I", true)
  | 3 => ("CounterDeskModel", "images", "[I", true)
  | 4 => ("CounterDeskModel", "hasImage", "[Z", true)
  | 5 => ("CounterDeskModel", "aside", "[I", true)
  | 6 => ("CounterDeskModel", "blots0", "I", false)
  | 7 => ("CounterDeskModel", "words", "[B", true)
  | 8 => ("CounterDeskModel", "firstWord", "I", false)
  | 9 => ("CounterDeskModel", "lastWord", "I", false)
  | 10 => ("CounterDeskModel", "isOrders", "Z", false)
  | 11 => ("CounterDeskModel", "tape", "[B", true)
  | 12 => ("CounterDeskModel", "five", "[I", true)
  | 13 => ("CounterDeskModel", "taped", "I", false)
  | 14 => ("CounterDeskModel", "fault", "I", false)
  | 15 => ("CounterDeskModel", "code", "[I", true)
  | 16 => ("CounterDeskModel", "value", "[I", true)
  | 17 => ("CounterDeskModel", "placed", "[I", true)
  | 18 => ("CounterDeskModel", "tokens", "I", false)
  | 19 => ("CounterDeskModel", "token", "I", false)
  | 20 => ("CounterDeskModel", "leaves", "I", false)
  | 21 => ("CounterDeskModel", "bad", "I", false)
  | 22 => ("CounterDeskModel", "go", "I", false)
  | 23 => ("CounterDeskModel", "goEnd", "I", false)
  | 24 => ("CounterDeskModel", "broken", "Z", false)
  | 25 => ("CounterDeskModel", "inOrders", "Z", false)
  | 26 => ("CounterDeskModel", "asked", "[I", true)
  | 27 => ("CounterDeskModel", "orderDone", "I", false)
  | 28 => ("CounterDeskModel", "orderLatest", "I", false)
  | 29 => ("CounterDeskModel", "orderBarred", "I", false)
  | 30 => ("CounterDeskModel", "orderCosts", "I", false)
  | 31 => ("CounterDeskModel", "left0", "[I", true)
  | 32 => ("CounterDeskModel", "leftAhead", "[I", true)
  | 33 => ("CounterDeskModel", "undoMany", "I", false)
  | 34 => ("CounterDeskModel", "price", "[I", true)
  | 35 => ("CounterDeskModel", "gain", "[I", true)
  | 36 => ("CounterDeskModel", "can", "[Z", true)
  | 37 => ("CounterDeskModel", "rest", "[I", true)
  | 38 => ("CounterDeskModel", "waysRest", "[J", true)
  | 39 => ("CounterDeskModel", "facts", "[I", true)
  | 40 => ("CounterDeskModel", "shares", "[J", true)
  | 41 => ("CounterDeskModel", "stopped0", "I", false)
  | 42 => ("CounterDeskModel", "orderAt", "I", false)
  | 43 => ("CounterDeskModel", "howOften", "I", false)
  | 44 => ("CounterDeskModel", "head", "I", false)
  | 45 => ("CounterDeskModel", "sumsAre", "Z", false)
  | 46 => ("CounterDeskModel", "testIs", "Z", false)
  | 47 => ("CounterDeskModel", "sums", "[J", true)
  | 48 => ("CounterDeskModel", "drawnMoved", "[I", true)
  | 49 => ("CounterDeskModel", "drawnMany", "I", false)
  | _ => ("CounterDeskModel", "latest", "I", false)
/-- the classes whose objects a run makes, by number -/
abbrev gcl : List vw_C := [("CounterDesk", gF_Desk, 14), ("CounterDesk$Board", gF_Board, 10), ("CounterDesk$Clerk", gF_Clerk, 10), ("CounterDesk$Draws", gF_Draws, 3), ("CounterDesk$Judge", gF_Judge, 4), ("CounterDesk$Machine", gF_Machine, 1), ("CounterDesk$Paper", gF_Paper, 13), ("CounterDesk$Reader", gF_Reader, 9), ("CounterDesk$Sheet", gF_Sheet, 4), ("CounterDesk$Tape", gF_Tape, 2), ("CounterDesk$Text", gF_Text, 8), ("CounterDesk$Trail", gF_Trail, 4), ("CounterDeskModel", gF_Model, 51)]
theorem gn_Desk : ∀ a, a < 14 → ∀ b, b < 14 → a ≠ b → (gF_Desk a).2.1 ≠ (gF_Desk b).2.1 := by decide +kernel
theorem gi_Desk : ∀ w ∈ u_ws "CounterDesk" gF_Desk 14, w ∈ lw_tbl := by decide +kernel
theorem gt_Desk : ∀ k, k < 14 → ∃ ty, parseFieldDescriptor (gF_Desk k).2.2.1 = some ty := by
  have h : ∀ k, k < 14 → (parseFieldDescriptor (gF_Desk k).2.2.1).isSome = true := by decide +kernel
  exact fun k hk => Option.isSome_iff_exists.mp (h k hk)
theorem gn_Board : ∀ a, a < 10 → ∀ b, b < 10 → a ≠ b → (gF_Board a).2.1 ≠ (gF_Board b).2.1 := by decide +kernel
theorem gi_Board : ∀ w ∈ u_ws "CounterDesk$Board" gF_Board 10, w ∈ lw_tbl := by decide +kernel
theorem gt_Board : ∀ k, k < 10 → ∃ ty, parseFieldDescriptor (gF_Board k).2.2.1 = some ty := by
  have h : ∀ k, k < 10 → (parseFieldDescriptor (gF_Board k).2.2.1).isSome = true := by decide +kernel
  exact fun k hk => Option.isSome_iff_exists.mp (h k hk)
theorem gn_Clerk : ∀ a, a < 10 → ∀ b, b < 10 → a ≠ b → (gF_Clerk a).2.1 ≠ (gF_Clerk b).2.1 := by decide +kernel
theorem gi_Clerk : ∀ w ∈ u_ws "CounterDesk$Clerk" gF_Clerk 10, w ∈ lw_tbl := by decide +kernel
theorem gt_Clerk : ∀ k, k < 10 → ∃ ty, parseFieldDescriptor (gF_Clerk k).2.2.1 = some ty := by
  have h : ∀ k, k < 10 → (parseFieldDescriptor (gF_Clerk k).2.2.1).isSome = true := by decide +kernel
  exact fun k hk => Option.isSome_iff_exists.mp (h k hk)
theorem gn_Draws : ∀ a, a < 3 → ∀ b, b < 3 → a ≠ b → (gF_Draws a).2.1 ≠ (gF_Draws b).2.1 := by decide +kernel
theorem gi_Draws : ∀ w ∈ u_ws "CounterDesk$Draws" gF_Draws 3, w ∈ lw_tbl := by decide +kernel
theorem gt_Draws : ∀ k, k < 3 → ∃ ty, parseFieldDescriptor (gF_Draws k).2.2.1 = some ty := by
  have h : ∀ k, k < 3 → (parseFieldDescriptor (gF_Draws k).2.2.1).isSome = true := by decide +kernel
  exact fun k hk => Option.isSome_iff_exists.mp (h k hk)
theorem gn_Judge : ∀ a, a < 4 → ∀ b, b < 4 → a ≠ b → (gF_Judge a).2.1 ≠ (gF_Judge b).2.1 := by decide +kernel
theorem gi_Judge : ∀ w ∈ u_ws "CounterDesk$Judge" gF_Judge 4, w ∈ lw_tbl := by decide +kernel
theorem gt_Judge : ∀ k, k < 4 → ∃ ty, parseFieldDescriptor (gF_Judge k).2.2.1 = some ty := by
  have h : ∀ k, k < 4 → (parseFieldDescriptor (gF_Judge k).2.2.1).isSome = true := by decide +kernel
  exact fun k hk => Option.isSome_iff_exists.mp (h k hk)
theorem gn_Machine : ∀ a, a < 1 → ∀ b, b < 1 → a ≠ b → (gF_Machine a).2.1 ≠ (gF_Machine b).2.1 := by decide +kernel
theorem gi_Machine : ∀ w ∈ u_ws "CounterDesk$Machine" gF_Machine 1, w ∈ lw_tbl := by decide +kernel
theorem gt_Machine : ∀ k, k < 1 → ∃ ty, parseFieldDescriptor (gF_Machine k).2.2.1 = some ty := by
  have h : ∀ k, k < 1 → (parseFieldDescriptor (gF_Machine k).2.2.1).isSome = true := by decide +kernel
  exact fun k hk => Option.isSome_iff_exists.mp (h k hk)
theorem gn_Paper : ∀ a, a < 13 → ∀ b, b < 13 → a ≠ b → (gF_Paper a).2.1 ≠ (gF_Paper b).2.1 := by decide +kernel
theorem gi_Paper : ∀ w ∈ u_ws "CounterDesk$Paper" gF_Paper 13, w ∈ lw_tbl := by decide +kernel
theorem gt_Paper : ∀ k, k < 13 → ∃ ty, parseFieldDescriptor (gF_Paper k).2.2.1 = some ty := by
  have h : ∀ k, k < 13 → (parseFieldDescriptor (gF_Paper k).2.2.1).isSome = true := by decide +kernel
  exact fun k hk => Option.isSome_iff_exists.mp (h k hk)
theorem gn_Reader : ∀ a, a < 9 → ∀ b, b < 9 → a ≠ b → (gF_Reader a).2.1 ≠ (gF_Reader b).2.1 := by decide +kernel
theorem gi_Reader : ∀ w ∈ u_ws "CounterDesk$Reader" gF_Reader 9, w ∈ lw_tbl := by decide +kernel
theorem gt_Reader : ∀ k, k < 9 → ∃ ty, parseFieldDescriptor (gF_Reader k).2.2.1 = some ty := by
  have h : ∀ k, k < 9 → (parseFieldDescriptor (gF_Reader k).2.2.1).isSome = true := by decide +kernel
  exact fun k hk => Option.isSome_iff_exists.mp (h k hk)
theorem gn_Sheet : ∀ a, a < 4 → ∀ b, b < 4 → a ≠ b → (gF_Sheet a).2.1 ≠ (gF_Sheet b).2.1 := by decide +kernel
theorem gi_Sheet : ∀ w ∈ u_ws "CounterDesk$Sheet" gF_Sheet 4, w ∈ lw_tbl := by decide +kernel
theorem gt_Sheet : ∀ k, k < 4 → ∃ ty, parseFieldDescriptor (gF_Sheet k).2.2.1 = some ty := by
  have h : ∀ k, k < 4 → (parseFieldDescriptor (gF_Sheet k).2.2.1).isSome = true := by decide +kernel
  exact fun k hk => Option.isSome_iff_exists.mp (h k hk)
theorem gn_Tape : ∀ a, a < 2 → ∀ b, b < 2 → a ≠ b → (gF_Tape a).2.1 ≠ (gF_Tape b).2.1 := by decide +kernel
theorem gi_Tape : ∀ w ∈ u_ws "CounterDesk$Tape" gF_Tape 2, w ∈ lw_tbl := by decide +kernel
theorem gt_Tape : ∀ k, k < 2 → ∃ ty, parseFieldDescriptor (gF_Tape k).2.2.1 = some ty := by
  have h : ∀ k, k < 2 → (parseFieldDescriptor (gF_Tape k).2.2.1).isSome = true := by decide +kernel
  exact fun k hk => Option.isSome_iff_exists.mp (h k hk)
theorem gn_Text : ∀ a, a < 8 → ∀ b, b < 8 → a ≠ b → (gF_Text a).2.1 ≠ (gF_Text b).2.1 := by decide +kernel
theorem gi_Text : ∀ w ∈ u_ws "CounterDesk$Text" gF_Text 8, w ∈ lw_tbl := by decide +kernel
theorem gt_Text : ∀ k, k < 8 → ∃ ty, parseFieldDescriptor (gF_Text k).2.2.1 = some ty := by
  have h : ∀ k, k < 8 → (parseFieldDescriptor (gF_Text k).2.2.1).isSome = true := by decide +kernel
  exact fun k hk => Option.isSome_iff_exists.mp (h k hk)
theorem gn_Trail : ∀ a, a < 4 → ∀ b, b < 4 → a ≠ b → (gF_Trail a).2.1 ≠ (gF_Trail b).2.1 := by decide +kernel
theorem gi_Trail : ∀ w ∈ u_ws "CounterDesk$Trail" gF_Trail 4, w ∈ lw_tbl := by decide +kernel
theorem gt_Trail : ∀ k, k < 4 → ∃ ty, parseFieldDescriptor (gF_Trail k).2.2.1 = some ty := by
  have h : ∀ k, k < 4 → (parseFieldDescriptor (gF_Trail k).2.2.1).isSome = true := by decide +kernel
  exact fun k hk => Option.isSome_iff_exists.mp (h k hk)
theorem gn_Model : ∀ a, a < 51 → ∀ b, b < 51 → a ≠ b → (gF_Model a).2.1 ≠ (gF_Model b).2.1 := by decide +kernel
theorem gi_Model : ∀ w ∈ u_ws "CounterDeskModel" gF_Model 51, w ∈ lw_tbl := by decide +kernel
theorem gt_Model : ∀ k, k < 51 → ∃ ty, parseFieldDescriptor (gF_Model k).2.2.1 = some ty := by
  have h : ∀ k, k < 51 → (parseFieldDescriptor (gF_Model k).2.2.1).isSome = true := by decide +kernel
  exact fun k hk => Option.isSome_iff_exists.mp (h k hk)
def gOk (r : vw_C) : Prop := (∀ w ∈ u_ws r.1 r.2.1 r.2.2, w ∈ lw_tbl) ∧ (∀ k, k < r.2.2 → ∃ ty, parseFieldDescriptor (r.2.1 k).2.2.1 = some ty) ∧ ∀ a, a < r.2.2 → ∀ b, b < r.2.2 → a ≠ b → (r.2.1 a).2.1 ≠ (r.2.1 b).2.1
theorem gcl_ok : ∀ (q : Nat) (r : vw_C), gcl[q]? = some r → gOk r := by
  intro q r h
  match q, h with
  | 0, h => cases h; exact ⟨gi_Desk, gt_Desk, gn_Desk⟩
  | 1, h => cases h; exact ⟨gi_Board, gt_Board, gn_Board⟩
  | 2, h => cases h; exact ⟨gi_Clerk, gt_Clerk, gn_Clerk⟩
  | 3, h => cases h; exact ⟨gi_Draws, gt_Draws, gn_Draws⟩
  | 4, h => cases h; exact ⟨gi_Judge, gt_Judge, gn_Judge⟩
  | 5, h => cases h; exact ⟨gi_Machine, gt_Machine, gn_Machine⟩
  | 6, h => cases h; exact ⟨gi_Paper, gt_Paper, gn_Paper⟩
  | 7, h => cases h; exact ⟨gi_Reader, gt_Reader, gn_Reader⟩
  | 8, h => cases h; exact ⟨gi_Sheet, gt_Sheet, gn_Sheet⟩
  | 9, h => cases h; exact ⟨gi_Tape, gt_Tape, gn_Tape⟩
  | 10, h => cases h; exact ⟨gi_Text, gt_Text, gn_Text⟩
  | 11, h => cases h; exact ⟨gi_Trail, gt_Trail, gn_Trail⟩
  | 12, h => cases h; exact ⟨gi_Model, gt_Model, gn_Model⟩
  | q + 13, h => simp [gcl] at h
