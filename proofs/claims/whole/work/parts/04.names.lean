/-! NAMES, by program (wip/whole/names.py) -/
/-- the words that a callee may be given -/
def lw_T : List Cond := lw_tbl.filter goodWord
theorem tbF {w : Cond} (h : w ∈ lw_tbl) (hg : goodWord w = true) : w ∈ lw_T := List.mem_filter.mpr ⟨h, hg⟩
theorem tbS {ws : List Cond} (h : ∀ w ∈ ws, w ∈ lw_tbl) (hg : ws.all goodWord = true) : ∀ w ∈ ws, w ∈ lw_T := fun w hw => tbF (h w hw) (List.all_eq_true.mp hg w hw)
theorem tb1 {w : Cond} (h : w ∈ tables_1_1) (hg : goodWord w = true := by rfl) : w ∈ lw_T := tbF (List.mem_append_right _ (List.mem_append_left _ h)) hg
theorem tb2 {w : Cond} (h : w ∈ tables_1_2) (hg : goodWord w = true := by rfl) : w ∈ lw_T := tbF (List.mem_append_right _ (List.mem_append_right _ (List.mem_append_left _ h))) hg
theorem tb3 {w : Cond} (h : w ∈ tables_1_3) (hg : goodWord w = true := by rfl) : w ∈ lw_T := tbF (List.mem_append_right _ (List.mem_append_right _ (List.mem_append_right _ (List.mem_append_left _ h)))) hg
theorem tb4 {w : Cond} (h : w ∈ tables_1_4) (hg : goodWord w = true := by rfl) : w ∈ lw_T := tbF (List.mem_append_right _ (List.mem_append_right _ (List.mem_append_right _ (List.mem_append_right _ h)))) hg
theorem tb0 {y : MethodName} {n : Nat} (h : (y, n) ∈ lw_privs) : Cond.selects y.cls y y ∈ lw_T := tbF (List.mem_append_left _ (List.mem_map.mpr ⟨_, h, rfl⟩)) rfl
theorem tbl_good : ∀ w ∈ lw_T, (w.onTables && w.keeps) = true ∨ ∃ ty, w = .arrayClass ty := fun w h => good_of_word (List.mem_filter.mp h).2
def RX0 : String := "RadioPair$Bits"
def TX0 : u_T := fun k => match k with
  | 0 => ("RadioPair$Bits", "row", "[I", true)
  | _ => ("RadioPair$Bits", "length", "I", false)
def tyX0 : Nat → FieldType := fun k => match k with
  | 0 => .array .int
  | _ => .int
theorem nmX0 : ∀ a, a < 2 → ∀ b, b < 2 → a ≠ b → (TX0 a).2.1 ≠ (TX0 b).2.1 := by decide +kernel
theorem tX0 : ∀ k, k < 2 → parseFieldDescriptor (TX0 k).2.2.1 = some (tyX0 k) := by decide +kernel
theorem iX0 : ∀ w ∈ u_ws RX0 TX0 2, w ∈ lw_T := tbS (by decide +kernel) (by decide +kernel)
theorem nfX0 : ∀ j, j < 2 → defaultValue (tyX0 j) = vp_V [.null, .int 0] j := by decide +kernel
theorem pX0_0 : Fp (RX0, TX0, 2) tyX0 0 (.array .int) true := ⟨tX0, nmX0, rfl, by decide +kernel⟩
theorem pX0_1 : Fp (RX0, TX0, 2) tyX0 1 (.int) false := ⟨tX0, nmX0, rfl, by decide +kernel⟩
def RX1 : String := "RadioPair$Coder"
def TX1 : u_T := fun k => match k with
  | 0 => ("RadioPair$Coder", "address", "I", true)
  | 1 => ("RadioPair$Coder", "white", "LRadioPair$Bits;", true)
  | 2 => ("RadioPair$Coder", "head", "LRadioPair$Bits;", true)
  | 3 => ("RadioPair$Coder", "load", "LRadioPair$Bits;", true)
  | _ => ("RadioPair$Coder", "fifteen", "LRadioPair$Bits;", true)
def tyX1 : Nat → FieldType := fun k => match k with
  | 0 => .int
  | 1 => .object "RadioPair$Bits"
  | 2 => .object "RadioPair$Bits"
  | 3 => .object "RadioPair$Bits"
  | _ => .object "RadioPair$Bits"
theorem nmX1 : ∀ a, a < 5 → ∀ b, b < 5 → a ≠ b → (TX1 a).2.1 ≠ (TX1 b).2.1 := by decide +kernel
theorem tX1 : ∀ k, k < 5 → parseFieldDescriptor (TX1 k).2.2.1 = some (tyX1 k) := by decide +kernel
theorem iX1 : ∀ w ∈ u_ws RX1 TX1 5, w ∈ lw_T := tbS (by decide +kernel) (by decide +kernel)
theorem nfX1 : ∀ j, j < 5 → defaultValue (tyX1 j) = vp_V [.int 0, .null, .null, .null, .null] j := by decide +kernel
theorem pX1_0 : Fp (RX1, TX1, 5) tyX1 0 (.int) true := ⟨tX1, nmX1, rfl, by decide +kernel⟩
theorem pX1_1 : Fp (RX1, TX1, 5) tyX1 1 (.object "RadioPair$Bits") true := ⟨tX1, nmX1, rfl, by decide +kernel⟩
theorem pX1_2 : Fp (RX1, TX1, 5) tyX1 2 (.object "RadioPair$Bits") true := ⟨tX1, nmX1, rfl, by decide +kernel⟩
theorem pX1_3 : Fp (RX1, TX1, 5) tyX1 3 (.object "RadioPair$Bits") true := ⟨tX1, nmX1, rfl, by decide +kernel⟩
theorem pX1_4 : Fp (RX1, TX1, 5) tyX1 4 (.object "RadioPair$Bits") true := ⟨tX1, nmX1, rfl, by decide +kernel⟩
def RX2 : String := "RadioPair$Device"
def TX2 : u_T := fun k => match k with
  | 0 => ("RadioPair$Device", "outbox", "LRadioPair$Outbox;", true)
  | 1 => ("RadioPair$Device", "inbox", "LRadioPair$Inbox;", true)
  | 2 => ("RadioPair$Device", "bare", "LRadioPair$Frame;", true)
  | 3 => ("RadioPair$Device", "good", "Z", false)
  | _ => ("RadioPair$Device", "heard", "Z", false)
def tyX2 : Nat → FieldType := fun k => match k with
  | 0 => .object "RadioPair$Outbox"
  | 1 => .object "RadioPair$Inbox"
  | 2 => .object "RadioPair$Frame"
  | 3 => .boolean
  | _ => .boolean
theorem nmX2 : ∀ a, a < 5 → ∀ b, b < 5 → a ≠ b → (TX2 a).2.1 ≠ (TX2 b).2.1 := by decide +kernel
theorem tX2 : ∀ k, k < 5 → parseFieldDescriptor (TX2 k).2.2.1 = some (tyX2 k) := by decide +kernel
theorem iX2 : ∀ w ∈ u_ws RX2 TX2 5, w ∈ lw_T := tbS (by decide +kernel) (by decide +kernel)
theorem nfX2 : ∀ j, j < 5 → defaultValue (tyX2 j) = vp_V [.null, .null, .null, .int 0, .int 0] j := by decide +kernel
theorem pX2_0 : Fp (RX2, TX2, 5) tyX2 0 (.object "RadioPair$Outbox") true := ⟨tX2, nmX2, rfl, by decide +kernel⟩
theorem pX2_1 : Fp (RX2, TX2, 5) tyX2 1 (.object "RadioPair$Inbox") true := ⟨tX2, nmX2, rfl, by decide +kernel⟩
theorem pX2_2 : Fp (RX2, TX2, 5) tyX2 2 (.object "RadioPair$Frame") true := ⟨tX2, nmX2, rfl, by decide +kernel⟩
theorem pX2_3 : Fp (RX2, TX2, 5) tyX2 3 (.boolean) false := ⟨tX2, nmX2, rfl, by decide +kernel⟩
theorem pX2_4 : Fp (RX2, TX2, 5) tyX2 4 (.boolean) false := ⟨tX2, nmX2, rfl, by decide +kernel⟩
def RX3 : String := "RadioPair$Frame"
def TX3 : u_T := fun k => match k with
  | 0 => ("RadioPair$Frame", "bytes", "LRadioPair$Message;", true)
  | 1 => ("RadioPair$Frame", "kind", "I", false)
  | 2 => ("RadioPair$Frame", "ack", "I", false)
  | 3 => ("RadioPair$Frame", "turn", "I", false)
  | 4 => ("RadioPair$Frame", "begins", "Z", false)
  | _ => ("RadioPair$Frame", "corrected", "I", false)
def tyX3 : Nat → FieldType := fun k => match k with
  | 0 => .object "RadioPair$Message"
  | 1 => .int
  | 2 => .int
  | 3 => .int
  | 4 => .boolean
  | _ => .int
theorem nmX3 : ∀ a, a < 6 → ∀ b, b < 6 → a ≠ b → (TX3 a).2.1 ≠ (TX3 b).2.1 := by decide +kernel
theorem tX3 : ∀ k, k < 6 → parseFieldDescriptor (TX3 k).2.2.1 = some (tyX3 k) := by decide +kernel
theorem iX3 : ∀ w ∈ u_ws RX3 TX3 6, w ∈ lw_T := tbS (by decide +kernel) (by decide +kernel)
theorem nfX3 : ∀ j, j < 6 → defaultValue (tyX3 j) = vp_V [.null, .int 0, .int 0, .int 0, .int 0, .int 0] j := by decide +kernel
theorem pX3_0 : Fp (RX3, TX3, 6) tyX3 0 (.object "RadioPair$Message") true := ⟨tX3, nmX3, rfl, by decide +kernel⟩
theorem pX3_1 : Fp (RX3, TX3, 6) tyX3 1 (.int) false := ⟨tX3, nmX3, rfl, by decide +kernel⟩
theorem pX3_2 : Fp (RX3, TX3, 6) tyX3 2 (.int) false := ⟨tX3, nmX3, rfl, by decide +kernel⟩
theorem pX3_3 : Fp (RX3, TX3, 6) tyX3 3 (.int) false := ⟨tX3, nmX3, rfl, by decide +kernel⟩
theorem pX3_4 : Fp (RX3, TX3, 6) tyX3 4 (.boolean) false := ⟨tX3, nmX3, rfl, by decide +kernel⟩
theorem pX3_5 : Fp (RX3, TX3, 6) tyX3 5 (.int) false := ⟨tX3, nmX3, rfl, by decide +kernel⟩
def RX4 : String := "RadioPair$Inbox"
def TX4 : u_T := fun k => match k with
  | 0 => ("RadioPair$Inbox", "taken", "LRadioPair$MessageRow;", true)
  | 1 => ("RadioPair$Inbox", "partial", "LRadioPair$Message;", true)
  | 2 => ("RadioPair$Inbox", "putsTogether", "Z", false)
  | 3 => ("RadioPair$Inbox", "due", "I", false)
  | 4 => ("RadioPair$Inbox", "lastTurn", "I", false)
  | 5 => ("RadioPair$Inbox", "dropped", "I", false)
  | _ => ("RadioPair$Inbox", "corrected", "I", false)
def tyX4 : Nat → FieldType := fun k => match k with
  | 0 => .object "RadioPair$MessageRow"
  | 1 => .object "RadioPair$Message"
  | 2 => .boolean
  | 3 => .int
  | 4 => .int
  | 5 => .int
  | _ => .int
theorem nmX4 : ∀ a, a < 7 → ∀ b, b < 7 → a ≠ b → (TX4 a).2.1 ≠ (TX4 b).2.1 := by decide +kernel
theorem tX4 : ∀ k, k < 7 → parseFieldDescriptor (TX4 k).2.2.1 = some (tyX4 k) := by decide +kernel
theorem iX4 : ∀ w ∈ u_ws RX4 TX4 7, w ∈ lw_T := tbS (by decide +kernel) (by decide +kernel)
theorem nfX4 : ∀ j, j < 7 → defaultValue (tyX4 j) = vp_V [.null, .null, .int 0, .int 0, .int 0, .int 0, .int 0] j := by decide +kernel
theorem pX4_0 : Fp (RX4, TX4, 7) tyX4 0 (.object "RadioPair$MessageRow") true := ⟨tX4, nmX4, rfl, by decide +kernel⟩
theorem pX4_1 : Fp (RX4, TX4, 7) tyX4 1 (.object "RadioPair$Message") true := ⟨tX4, nmX4, rfl, by decide +kernel⟩
theorem pX4_2 : Fp (RX4, TX4, 7) tyX4 2 (.boolean) false := ⟨tX4, nmX4, rfl, by decide +kernel⟩
theorem pX4_3 : Fp (RX4, TX4, 7) tyX4 3 (.int) false := ⟨tX4, nmX4, rfl, by decide +kernel⟩
theorem pX4_4 : Fp (RX4, TX4, 7) tyX4 4 (.int) false := ⟨tX4, nmX4, rfl, by decide +kernel⟩
theorem pX4_5 : Fp (RX4, TX4, 7) tyX4 5 (.int) false := ⟨tX4, nmX4, rfl, by decide +kernel⟩
theorem pX4_6 : Fp (RX4, TX4, 7) tyX4 6 (.int) false := ⟨tX4, nmX4, rfl, by decide +kernel⟩
def RX5 : String := "RadioPair$Message"
def TX5 : u_T := fun k => match k with
  | 0 => ("RadioPair$Message", "bytes", "[I", true)
  | _ => ("RadioPair$Message", "size", "I", false)
def tyX5 : Nat → FieldType := fun k => match k with
  | 0 => .array .int
  | _ => .int
theorem nmX5 : ∀ a, a < 2 → ∀ b, b < 2 → a ≠ b → (TX5 a).2.1 ≠ (TX5 b).2.1 := by decide +kernel
theorem tX5 : ∀ k, k < 2 → parseFieldDescriptor (TX5 k).2.2.1 = some (tyX5 k) := by decide +kernel
theorem iX5 : ∀ w ∈ u_ws RX5 TX5 2, w ∈ lw_T := tbS (by decide +kernel) (by decide +kernel)
theorem nfX5 : ∀ j, j < 2 → defaultValue (tyX5 j) = vp_V [.null, .int 0] j := by decide +kernel
theorem pX5_0 : Fp (RX5, TX5, 2) tyX5 0 (.array .int) true := ⟨tX5, nmX5, rfl, by decide +kernel⟩
theorem pX5_1 : Fp (RX5, TX5, 2) tyX5 1 (.int) false := ⟨tX5, nmX5, rfl, by decide +kernel⟩
def RX6 : String := "RadioPair$MessageRow"
def TX6 : u_T := fun k => match k with
  | 0 => ("RadioPair$MessageRow", "ring", "[LRadioPair$Message;", true)
  | 1 => ("RadioPair$MessageRow", "first", "I", false)
  | _ => ("RadioPair$MessageRow", "size", "I", false)
def tyX6 : Nat → FieldType := fun k => match k with
  | 0 => .array (.object "RadioPair$Message")
  | 1 => .int
  | _ => .int
theorem nmX6 : ∀ a, a < 3 → ∀ b, b < 3 → a ≠ b → (TX6 a).2.1 ≠ (TX6 b).2.1 := by decide +kernel
theorem tX6 : ∀ k, k < 3 → parseFieldDescriptor (TX6 k).2.2.1 = some (tyX6 k) := by decide +kernel
theorem iX6 : ∀ w ∈ u_ws RX6 TX6 3, w ∈ lw_T := tbS (by decide +kernel) (by decide +kernel)
theorem nfX6 : ∀ j, j < 3 → defaultValue (tyX6 j) = vp_V [.null, .int 0, .int 0] j := by decide +kernel
theorem pX6_0 : Fp (RX6, TX6, 3) tyX6 0 (.array (.object "RadioPair$Message")) true := ⟨tX6, nmX6, rfl, by decide +kernel⟩
theorem pX6_1 : Fp (RX6, TX6, 3) tyX6 1 (.int) false := ⟨tX6, nmX6, rfl, by decide +kernel⟩
theorem pX6_2 : Fp (RX6, TX6, 3) tyX6 2 (.int) false := ⟨tX6, nmX6, rfl, by decide +kernel⟩
def RX7 : String := "RadioPair$Outbox"
def TX7 : u_T := fun k => match k with
  | 0 => ("RadioPair$Outbox", "written", "LRadioPair$Message;", true)
  | 1 => ("RadioPair$Outbox", "waiting", "LRadioPair$MessageRow;", true)
  | 2 => ("RadioPair$Outbox", "sending", "LRadioPair$Message;", true)
  | 3 => ("RadioPair$Outbox", "frame", "LRadioPair$Frame;", true)
  | 4 => ("RadioPair$Outbox", "framed", "I", false)
  | 5 => ("RadioPair$Outbox", "frameWaits", "Z", false)
  | 6 => ("RadioPair$Outbox", "guarded", "Z", false)
  | _ => ("RadioPair$Outbox", "turn", "I", false)
def tyX7 : Nat → FieldType := fun k => match k with
  | 0 => .object "RadioPair$Message"
  | 1 => .object "RadioPair$MessageRow"
  | 2 => .object "RadioPair$Message"
  | 3 => .object "RadioPair$Frame"
  | 4 => .int
  | 5 => .boolean
  | 6 => .boolean
  | _ => .int
theorem nmX7 : ∀ a, a < 8 → ∀ b, b < 8 → a ≠ b → (TX7 a).2.1 ≠ (TX7 b).2.1 := by decide +kernel
theorem tX7 : ∀ k, k < 8 → parseFieldDescriptor (TX7 k).2.2.1 = some (tyX7 k) := by decide +kernel
theorem iX7 : ∀ w ∈ u_ws RX7 TX7 8, w ∈ lw_T := tbS (by decide +kernel) (by decide +kernel)
theorem nfX7 : ∀ j, j < 8 → defaultValue (tyX7 j) = vp_V [.null, .null, .null, .null, .int 0, .int 0, .int 0, .int 0] j := by decide +kernel
theorem pX7_0 : Fp (RX7, TX7, 8) tyX7 0 (.object "RadioPair$Message") true := ⟨tX7, nmX7, rfl, by decide +kernel⟩
theorem pX7_1 : Fp (RX7, TX7, 8) tyX7 1 (.object "RadioPair$MessageRow") true := ⟨tX7, nmX7, rfl, by decide +kernel⟩
theorem pX7_2 : Fp (RX7, TX7, 8) tyX7 2 (.object "RadioPair$Message") true := ⟨tX7, nmX7, rfl, by decide +kernel⟩
theorem pX7_3 : Fp (RX7, TX7, 8) tyX7 3 (.object "RadioPair$Frame") true := ⟨tX7, nmX7, rfl, by decide +kernel⟩
theorem pX7_4 : Fp (RX7, TX7, 8) tyX7 4 (.int) false := ⟨tX7, nmX7, rfl, by decide +kernel⟩
theorem pX7_5 : Fp (RX7, TX7, 8) tyX7 5 (.boolean) false := ⟨tX7, nmX7, rfl, by decide +kernel⟩
theorem pX7_6 : Fp (RX7, TX7, 8) tyX7 6 (.boolean) false := ⟨tX7, nmX7, rfl, by decide +kernel⟩
theorem pX7_7 : Fp (RX7, TX7, 8) tyX7 7 (.int) false := ⟨tX7, nmX7, rfl, by decide +kernel⟩
def RX8 : String := "RadioPair"
def TX8 : u_T := fun k => match k with
  | 0 => ("RadioPair", "devices", "[LRadioPair$Device;", true)
  | 1 => ("RadioPair", "coder", "LRadioPair$Coder;", true)
  | 2 => ("RadioPair", "onAir", "LRadioPair$Bits;", true)
  | 3 => ("RadioPair", "heardFrame", "LRadioPair$Frame;", true)
  | _ => ("RadioPair", "clock", "I", false)
def tyX8 : Nat → FieldType := fun k => match k with
  | 0 => .array (.object "RadioPair$Device")
  | 1 => .object "RadioPair$Coder"
  | 2 => .object "RadioPair$Bits"
  | 3 => .object "RadioPair$Frame"
  | _ => .int
theorem nmX8 : ∀ a, a < 5 → ∀ b, b < 5 → a ≠ b → (TX8 a).2.1 ≠ (TX8 b).2.1 := by decide +kernel
theorem tX8 : ∀ k, k < 5 → parseFieldDescriptor (TX8 k).2.2.1 = some (tyX8 k) := by decide +kernel
theorem iX8 : ∀ w ∈ u_ws RX8 TX8 5, w ∈ lw_T := tbS (by decide +kernel) (by decide +kernel)
theorem nfX8 : ∀ j, j < 5 → defaultValue (tyX8 j) = vp_V [.null, .null, .null, .null, .int 0] j := by decide +kernel
theorem pX8_0 : Fp (RX8, TX8, 5) tyX8 0 (.array (.object "RadioPair$Device")) true := ⟨tX8, nmX8, rfl, by decide +kernel⟩
theorem pX8_1 : Fp (RX8, TX8, 5) tyX8 1 (.object "RadioPair$Coder") true := ⟨tX8, nmX8, rfl, by decide +kernel⟩
theorem pX8_2 : Fp (RX8, TX8, 5) tyX8 2 (.object "RadioPair$Bits") true := ⟨tX8, nmX8, rfl, by decide +kernel⟩
theorem pX8_3 : Fp (RX8, TX8, 5) tyX8 3 (.object "RadioPair$Frame") true := ⟨tX8, nmX8, rfl, by decide +kernel⟩
theorem pX8_4 : Fp (RX8, TX8, 5) tyX8 4 (.int) false := ⟨tX8, nmX8, rfl, by decide +kernel⟩
def RX9 : String := "RadioPairModel"
def TX9 : u_T := fun k => match k with
  | 0 => ("RadioPairModel", "address", "I", true)
  | 1 => ("RadioPairModel", "clock", "I", false)
  | 2 => ("RadioPairModel", "bits", "I", false)
  | 3 => ("RadioPairModel", "air", "[I", true)
  | 4 => ("RadioPairModel", "white", "[I", true)
  | 5 => ("RadioPairModel", "long0", "I", false)
  | 6 => ("RadioPairModel", "row", "[I", true)
  | 7 => ("RadioPairModel", "written", "[I", true)
  | 8 => ("RadioPairModel", "draft", "[I", true)
  | 9 => ("RadioPairModel", "waits", "[I", true)
  | 10 => ("RadioPairModel", "waitLength", "[I", true)
  | 11 => ("RadioPairModel", "wait", "[I", true)
  | 12 => ("RadioPairModel", "sendLength", "[I", true)
  | 13 => ("RadioPairModel", "sendAt", "[I", true)
  | 14 => ("RadioPairModel", "sending", "[I", true)
  | 15 => ("RadioPairModel", "frameLength", "[I", true)
  | 16 => ("RadioPairModel", "frameKind", "[I", true)
  | 17 => ("RadioPairModel", "frameBegins", "[Z", true)
  | 18 => ("RadioPairModel", "frame", "[I", true)
  | 19 => ("RadioPairModel", "taken", "[I", true)
  | 20 => ("RadioPairModel", "takenLength", "[I", true)
  | 21 => ("RadioPairModel", "message", "[I", true)
  | 22 => ("RadioPairModel", "due", "[I", true)
  | 23 => ("RadioPairModel", "got", "[I", true)
  | 24 => ("RadioPairModel", "part", "[I", true)
  | 25 => ("RadioPairModel", "plain", "[Z", true)
  | 26 => ("RadioPairModel", "turn", "[I", true)
  | 27 => ("RadioPairModel", "lastTurn", "[I", true)
  | 28 => ("RadioPairModel", "good", "[Z", true)
  | 29 => ("RadioPairModel", "heard", "[Z", true)
  | 30 => ("RadioPairModel", "dropped", "[I", true)
  | _ => ("RadioPairModel", "corrected", "[I", true)
def tyX9 : Nat → FieldType := fun k => match k with
  | 0 => .int
  | 1 => .int
  | 2 => .int
  | 3 => .array .int
  | 4 => .array .int
  | 5 => .int
  | 6 => .array .int
  | 7 => .array .int
  | 8 => .array .int
  | 9 => .array .int
  | 10 => .array .int
  | 11 => .array .int
  | 12 => .array .int
  | 13 => .array .int
  | 14 => .array .int
  | 15 => .array .int
  | 16 => .array .int
  | 17 => .array .boolean
  | 18 => .array .int
  | 19 => .array .int
  | 20 => .array .int
  | 21 => .array .int
  | 22 => .array .int
  | 23 => .array .int
  | 24 => .array .int
  | 25 => .array .boolean
  | 26 => .array .int
  | 27 => .array .int
  | 28 => .array .boolean
  | 29 => .array .boolean
  | 30 => .array .int
  | _ => .array .int
theorem nmX9 : ∀ a, a < 32 → ∀ b, b < 32 → a ≠ b → (TX9 a).2.1 ≠ (TX9 b).2.1 := by decide +kernel
theorem tX9 : ∀ k, k < 32 → parseFieldDescriptor (TX9 k).2.2.1 = some (tyX9 k) := by decide +kernel
theorem iX9 : ∀ w ∈ u_ws RX9 TX9 32, w ∈ lw_T := tbS (by decide +kernel) (by decide +kernel)
theorem nfX9 : ∀ j, j < 32 → defaultValue (tyX9 j) = vp_V [.int 0, .int 0, .int 0, .null, .null, .int 0, .null, .null, .null, .null, .null, .null, .null, .null, .null, .null, .null, .null, .null, .null, .null, .null, .null, .null, .null, .null, .null, .null, .null, .null, .null, .null] j := by decide +kernel
theorem pX9_0 : Fp (RX9, TX9, 32) tyX9 0 (.int) true := ⟨tX9, nmX9, rfl, by decide +kernel⟩
theorem pX9_1 : Fp (RX9, TX9, 32) tyX9 1 (.int) false := ⟨tX9, nmX9, rfl, by decide +kernel⟩
theorem pX9_2 : Fp (RX9, TX9, 32) tyX9 2 (.int) false := ⟨tX9, nmX9, rfl, by decide +kernel⟩
theorem pX9_3 : Fp (RX9, TX9, 32) tyX9 3 (.array .int) true := ⟨tX9, nmX9, rfl, by decide +kernel⟩
theorem pX9_4 : Fp (RX9, TX9, 32) tyX9 4 (.array .int) true := ⟨tX9, nmX9, rfl, by decide +kernel⟩
theorem pX9_5 : Fp (RX9, TX9, 32) tyX9 5 (.int) false := ⟨tX9, nmX9, rfl, by decide +kernel⟩
theorem pX9_6 : Fp (RX9, TX9, 32) tyX9 6 (.array .int) true := ⟨tX9, nmX9, rfl, by decide +kernel⟩
theorem pX9_7 : Fp (RX9, TX9, 32) tyX9 7 (.array .int) true := ⟨tX9, nmX9, rfl, by decide +kernel⟩
theorem pX9_8 : Fp (RX9, TX9, 32) tyX9 8 (.array .int) true := ⟨tX9, nmX9, rfl, by decide +kernel⟩
theorem pX9_9 : Fp (RX9, TX9, 32) tyX9 9 (.array .int) true := ⟨tX9, nmX9, rfl, by decide +kernel⟩
theorem pX9_10 : Fp (RX9, TX9, 32) tyX9 10 (.array .int) true := ⟨tX9, nmX9, rfl, by decide +kernel⟩
theorem pX9_11 : Fp (RX9, TX9, 32) tyX9 11 (.array .int) true := ⟨tX9, nmX9, rfl, by decide +kernel⟩
theorem pX9_12 : Fp (RX9, TX9, 32) tyX9 12 (.array .int) true := ⟨tX9, nmX9, rfl, by decide +kernel⟩
theorem pX9_13 : Fp (RX9, TX9, 32) tyX9 13 (.array .int) true := ⟨tX9, nmX9, rfl, by decide +kernel⟩
theorem pX9_14 : Fp (RX9, TX9, 32) tyX9 14 (.array .int) true := ⟨tX9, nmX9, rfl, by decide +kernel⟩
theorem pX9_15 : Fp (RX9, TX9, 32) tyX9 15 (.array .int) true := ⟨tX9, nmX9, rfl, by decide +kernel⟩
theorem pX9_16 : Fp (RX9, TX9, 32) tyX9 16 (.array .int) true := ⟨tX9, nmX9, rfl, by decide +kernel⟩
theorem pX9_17 : Fp (RX9, TX9, 32) tyX9 17 (.array .boolean) true := ⟨tX9, nmX9, rfl, by decide +kernel⟩
theorem pX9_18 : Fp (RX9, TX9, 32) tyX9 18 (.array .int) true := ⟨tX9, nmX9, rfl, by decide +kernel⟩
theorem pX9_19 : Fp (RX9, TX9, 32) tyX9 19 (.array .int) true := ⟨tX9, nmX9, rfl, by decide +kernel⟩
theorem pX9_20 : Fp (RX9, TX9, 32) tyX9 20 (.array .int) true := ⟨tX9, nmX9, rfl, by decide +kernel⟩
theorem pX9_21 : Fp (RX9, TX9, 32) tyX9 21 (.array .int) true := ⟨tX9, nmX9, rfl, by decide +kernel⟩
theorem pX9_22 : Fp (RX9, TX9, 32) tyX9 22 (.array .int) true := ⟨tX9, nmX9, rfl, by decide +kernel⟩
theorem pX9_23 : Fp (RX9, TX9, 32) tyX9 23 (.array .int) true := ⟨tX9, nmX9, rfl, by decide +kernel⟩
theorem pX9_24 : Fp (RX9, TX9, 32) tyX9 24 (.array .int) true := ⟨tX9, nmX9, rfl, by decide +kernel⟩
theorem pX9_25 : Fp (RX9, TX9, 32) tyX9 25 (.array .boolean) true := ⟨tX9, nmX9, rfl, by decide +kernel⟩
theorem pX9_26 : Fp (RX9, TX9, 32) tyX9 26 (.array .int) true := ⟨tX9, nmX9, rfl, by decide +kernel⟩
theorem pX9_27 : Fp (RX9, TX9, 32) tyX9 27 (.array .int) true := ⟨tX9, nmX9, rfl, by decide +kernel⟩
theorem pX9_28 : Fp (RX9, TX9, 32) tyX9 28 (.array .boolean) true := ⟨tX9, nmX9, rfl, by decide +kernel⟩
theorem pX9_29 : Fp (RX9, TX9, 32) tyX9 29 (.array .boolean) true := ⟨tX9, nmX9, rfl, by decide +kernel⟩
theorem pX9_30 : Fp (RX9, TX9, 32) tyX9 30 (.array .int) true := ⟨tX9, nmX9, rfl, by decide +kernel⟩
theorem pX9_31 : Fp (RX9, TX9, 32) tyX9 31 (.array .int) true := ⟨tX9, nmX9, rfl, by decide +kernel⟩
def RXL : String := "RadioPairLaw"
abbrev vwCl : List vw_C := [(RX0, TX0, 2), (RX1, TX1, 5), (RX2, TX2, 5), (RX3, TX3, 6), (RX4, TX4, 7), (RX5, TX5, 2), (RX6, TX6, 3), (RX7, TX7, 8), (RX8, TX8, 5), (RX9, TX9, 32)]
abbrev cX0_init : ByteArray := prog_2_method_1_code
def yX0_init : MethodName := ⟨RX0, "<init>", "(I)V"⟩
abbrev cX0_clear : ByteArray := prog_2_method_2_code
def yX0_clear : MethodName := ⟨RX0, "clear", "()V"⟩
abbrev cX0_has : ByteArray := prog_2_method_3_code
def yX0_has : MethodName := ⟨RX0, "has", "(I)Z"⟩
abbrev cX0_at : ByteArray := prog_2_method_4_code
def yX0_at : MethodName := ⟨RX0, "at", "(I)I"⟩
abbrev cX0_turnOver : ByteArray := prog_2_method_5_code
def yX0_turnOver : MethodName := ⟨RX0, "turnOver", "(I)V"⟩
abbrev cX0_add : ByteArray := prog_2_method_6_code
def yX0_add : MethodName := ⟨RX0, "add", "(I)V"⟩
abbrev cX0_addAll : ByteArray := prog_2_method_7_code
def yX0_addAll : MethodName := ⟨RX0, "addAll", "(LRadioPair$Bits;II)V"⟩
abbrev cX0_addNumber : ByteArray := prog_2_method_8_code
def yX0_addNumber : MethodName := ⟨RX0, "addNumber", "(II)V"⟩
abbrev cX0_addRemainder : ByteArray := prog_2_method_9_code
def yX0_addRemainder : MethodName := ⟨RX0, "addRemainder", "(II)V"⟩
abbrev cX0_numberAt : ByteArray := prog_2_method_10_code
def yX0_numberAt : MethodName := ⟨RX0, "numberAt", "(II)I"⟩
abbrev cX0_remainderOf : ByteArray := prog_2_method_11_code
def yX0_remainderOf : MethodName := ⟨RX0, "remainderOf", "(III)I"⟩
abbrev cX0_holds : ByteArray := prog_2_method_12_code
def yX0_holds : MethodName := ⟨RX0, "holds", "(III)Z"⟩
abbrev cX0_whiten : ByteArray := prog_2_method_13_code
def yX0_whiten : MethodName := ⟨RX0, "whiten", "(LRadioPair$Bits;I)V"⟩
abbrev cX1_init : ByteArray := prog_3_method_1_code
def yX1_init : MethodName := ⟨RX1, "<init>", "(I)V"⟩
abbrev cX1_put : ByteArray := prog_3_method_2_code
def yX1_put : MethodName := ⟨RX1, "put", "(LRadioPair$Frame;ILRadioPair$Bits;)V"⟩
abbrev cX1_take : ByteArray := prog_3_method_3_code
def yX1_take : MethodName := ⟨RX1, "take", "(LRadioPair$Bits;ILRadioPair$Frame;)I"⟩
abbrev cX1_makeWhite : ByteArray := prog_3_method_4_code
def yX1_makeWhite : MethodName := ⟨RX1, "makeWhite", "(I)V"⟩
abbrev cX1_putHead : ByteArray := prog_3_method_5_code
def yX1_putHead : MethodName := ⟨RX1, "putHead", "(LRadioPair$Frame;LRadioPair$Bits;)V"⟩
abbrev cX1_makeLoad : ByteArray := prog_3_method_6_code
def yX1_makeLoad : MethodName := ⟨RX1, "makeLoad", "(LRadioPair$Frame;)V"⟩
abbrev cX1_putTens : ByteArray := prog_3_method_7_code
def yX1_putTens : MethodName := ⟨RX1, "putTens", "(LRadioPair$Bits;)V"⟩
abbrev cX1_takeHead : ByteArray := prog_3_method_8_code
def yX1_takeHead : MethodName := ⟨RX1, "takeHead", "(LRadioPair$Bits;)V"⟩
abbrev cX1_headIsSound : ByteArray := prog_3_method_9_code
def yX1_headIsSound : MethodName := ⟨RX1, "headIsSound", "()Z"⟩
abbrev cX1_readHead : ByteArray := prog_3_method_10_code
def yX1_readHead : MethodName := ⟨RX1, "readHead", "(LRadioPair$Frame;)V"⟩
abbrev cX1_takePlain : ByteArray := prog_3_method_11_code
def yX1_takePlain : MethodName := ⟨RX1, "takePlain", "(LRadioPair$Bits;)Z"⟩
abbrev cX1_takeTens : ByteArray := prog_3_method_12_code
def yX1_takeTens : MethodName := ⟨RX1, "takeTens", "(LRadioPair$Bits;LRadioPair$Frame;)Z"⟩
abbrev cX1_mendFifteen : ByteArray := prog_3_method_13_code
def yX1_mendFifteen : MethodName := ⟨RX1, "mendFifteen", "()Z"⟩
abbrev cX1_readLoad : ByteArray := prog_3_method_14_code
def yX1_readLoad : MethodName := ⟨RX1, "readLoad", "(LRadioPair$Frame;)Z"⟩
abbrev cX2_init : ByteArray := prog_4_method_1_code
def yX2_init : MethodName := ⟨RX2, "<init>", "(I)V"⟩
abbrev cX2_speak : ByteArray := prog_4_method_2_code
def yX2_speak : MethodName := ⟨RX2, "speak", "()LRadioPair$Frame;"⟩
abbrev cX2_heed : ByteArray := prog_4_method_3_code
def yX2_heed : MethodName := ⟨RX2, "heed", "(LRadioPair$Frame;I)I"⟩
abbrev cX2_tell : ByteArray := prog_4_method_4_code
def yX2_tell : MethodName := ⟨RX2, "tell", "(I)I"⟩
abbrev cX3_init : ByteArray := prog_5_method_1_code
def yX3_init : MethodName := ⟨RX3, "<init>", "()V"⟩
abbrev cX3_hasLoad : ByteArray := prog_5_method_2_code
def yX3_hasLoad : MethodName := ⟨RX3, "hasLoad", "()Z"⟩
abbrev cX4_init : ByteArray := prog_6_method_1_code
def yX4_init : MethodName := ⟨RX4, "<init>", "()V"⟩
abbrev cX4_bytesSoFar : ByteArray := prog_6_method_2_code
def yX4_bytesSoFar : MethodName := ⟨RX4, "bytesSoFar", "()I"⟩
abbrev cX4_isNew : ByteArray := prog_6_method_3_code
def yX4_isNew : MethodName := ⟨RX4, "isNew", "(LRadioPair$Frame;)Z"⟩
abbrev cX4_use : ByteArray := prog_6_method_4_code
def yX4_use : MethodName := ⟨RX4, "use", "(LRadioPair$Frame;)V"⟩
abbrev cX4_beginMessage : ByteArray := prog_6_method_5_code
def yX4_beginMessage : MethodName := ⟨RX4, "beginMessage", "(I)V"⟩
abbrev cX4_endMessage : ByteArray := prog_6_method_6_code
def yX4_endMessage : MethodName := ⟨RX4, "endMessage", "()V"⟩
abbrev cX5_init : ByteArray := prog_7_method_1_code
def yX5_init : MethodName := ⟨RX5, "<init>", "(I)V"⟩
abbrev cX5_clear : ByteArray := prog_7_method_2_code
def yX5_clear : MethodName := ⟨RX5, "clear", "()V"⟩
abbrev cX5_isFull : ByteArray := prog_7_method_3_code
def yX5_isFull : MethodName := ⟨RX5, "isFull", "()Z"⟩
abbrev cX5_has : ByteArray := prog_7_method_4_code
def yX5_has : MethodName := ⟨RX5, "has", "(I)Z"⟩
abbrev cX5_at : ByteArray := prog_7_method_5_code
def yX5_at : MethodName := ⟨RX5, "at", "(I)I"⟩
abbrev cX5_add : ByteArray := prog_7_method_6_code
def yX5_add : MethodName := ⟨RX5, "add", "(I)V"⟩
abbrev cX5_addAll : ByteArray := prog_7_method_7_code
def yX5_addAll : MethodName := ⟨RX5, "addAll", "(LRadioPair$Message;II)V"⟩
abbrev cX5_become : ByteArray := prog_7_method_8_code
def yX5_become : MethodName := ⟨RX5, "become", "(LRadioPair$Message;)V"⟩
abbrev cX6_init : ByteArray := prog_8_method_1_code
def yX6_init : MethodName := ⟨RX6, "<init>", "(I)V"⟩
abbrev cX6_isFull : ByteArray := prog_8_method_2_code
def yX6_isFull : MethodName := ⟨RX6, "isFull", "()Z"⟩
abbrev cX6_oldest : ByteArray := prog_8_method_3_code
def yX6_oldest : MethodName := ⟨RX6, "oldest", "()LRadioPair$Message;"⟩
abbrev cX6_append : ByteArray := prog_8_method_4_code
def yX6_append : MethodName := ⟨RX6, "append", "(LRadioPair$Message;)V"⟩
abbrev cX6_dropOldest : ByteArray := prog_8_method_5_code
def yX6_dropOldest : MethodName := ⟨RX6, "dropOldest", "()V"⟩
abbrev cX7_init : ByteArray := prog_9_method_1_code
def yX7_init : MethodName := ⟨RX7, "<init>", "()V"⟩
abbrev cX7_bytesLeft : ByteArray := prog_9_method_2_code
def yX7_bytesLeft : MethodName := ⟨RX7, "bytesLeft", "()I"⟩
abbrev cX7_bytesUnacknowledged : ByteArray := prog_9_method_3_code
def yX7_bytesUnacknowledged : MethodName := ⟨RX7, "bytesUnacknowledged", "()I"⟩
abbrev cX7_loaded : ByteArray := prog_9_method_4_code
def yX7_loaded : MethodName := ⟨RX7, "loaded", "()LRadioPair$Frame;"⟩
abbrev cX7_acknowledge : ByteArray := prog_9_method_5_code
def yX7_acknowledge : MethodName := ⟨RX7, "acknowledge", "()V"⟩
abbrev cX7_beginMessage : ByteArray := prog_9_method_6_code
def yX7_beginMessage : MethodName := ⟨RX7, "beginMessage", "()V"⟩
abbrev cX7_makeFrame : ByteArray := prog_9_method_7_code
def yX7_makeFrame : MethodName := ⟨RX7, "makeFrame", "()V"⟩
abbrev cX8_init : ByteArray := prog_1_method_1_code
def yX8_init : MethodName := ⟨RX8, "<init>", "(I)V"⟩
abbrev cX8_guard : ByteArray := prog_1_method_2_code
def yX8_guard : MethodName := ⟨RX8, "guard", "(IZ)I"⟩
abbrev cX8_write : ByteArray := prog_1_method_3_code
def yX8_write : MethodName := ⟨RX8, "write", "(II)I"⟩
abbrev cX8_send : ByteArray := prog_1_method_4_code
def yX8_send : MethodName := ⟨RX8, "send", "(I)I"⟩
abbrev cX8_slot : ByteArray := prog_1_method_5_code
def yX8_slot : MethodName := ⟨RX8, "slot", "()I"⟩
abbrev cX8_air : ByteArray := prog_1_method_6_code
def yX8_air : MethodName := ⟨RX8, "air", "(I)I"⟩
abbrev cX8_flip : ByteArray := prog_1_method_7_code
def yX8_flip : MethodName := ⟨RX8, "flip", "(I)I"⟩
abbrev cX8_hear : ByteArray := prog_1_method_8_code
def yX8_hear : MethodName := ⟨RX8, "hear", "()I"⟩
abbrev cX8_read : ByteArray := prog_1_method_9_code
def yX8_read : MethodName := ⟨RX8, "read", "(II)I"⟩
abbrev cX8_next : ByteArray := prog_1_method_10_code
def yX8_next : MethodName := ⟨RX8, "next", "(I)I"⟩
abbrev cX8_state : ByteArray := prog_1_method_11_code
def yX8_state : MethodName := ⟨RX8, "state", "(II)I"⟩
abbrev cX8_count : ByteArray := prog_1_method_12_code
def yX8_count : MethodName := ⟨RX8, "count", "(I)I"⟩
abbrev cX8_isDevice : ByteArray := prog_1_method_13_code
def yX8_isDevice : MethodName := ⟨RX8, "isDevice", "(I)Z"⟩
abbrev cX8_deviceOfTurn : ByteArray := prog_1_method_14_code
def yX8_deviceOfTurn : MethodName := ⟨RX8, "deviceOfTurn", "()I"⟩
abbrev cX9_init : ByteArray := prog_11_method_1_code
def yX9_init : MethodName := ⟨RX9, "<init>", "(I)V"⟩
abbrev cX9_in : ByteArray := prog_11_method_2_code
def yX9_in : MethodName := ⟨RX9, "in", "(III)Z"⟩
abbrev cX9_guard : ByteArray := prog_11_method_3_code
def yX9_guard : MethodName := ⟨RX9, "guard", "(IZ)I"⟩
abbrev cX9_write : ByteArray := prog_11_method_4_code
def yX9_write : MethodName := ⟨RX9, "write", "(II)I"⟩
abbrev cX9_send : ByteArray := prog_11_method_5_code
def yX9_send : MethodName := ⟨RX9, "send", "(I)I"⟩
abbrev cX9_whiten : ByteArray := prog_11_method_6_code
def yX9_whiten : MethodName := ⟨RX9, "whiten", "(I)V"⟩
abbrev cX9_put : ByteArray := prog_11_method_7_code
def yX9_put : MethodName := ⟨RX9, "put", "(II)V"⟩
abbrev cX9_rem : ByteArray := prog_11_method_8_code
def yX9_rem : MethodName := ⟨RX9, "rem", "(IIII)I"⟩
abbrev cX9_twice : ByteArray := prog_11_method_9_code
def yX9_twice : MethodName := ⟨RX9, "twice", "(III)I"⟩
abbrev cX9_putRem : ByteArray := prog_11_method_10_code
def yX9_putRem : MethodName := ⟨RX9, "putRem", "(IIII)V"⟩
abbrev cX9_remStands : ByteArray := prog_11_method_11_code
def yX9_remStands : MethodName := ⟨RX9, "remStands", "(IIII)Z"⟩
abbrev cX9_number : ByteArray := prog_11_method_12_code
def yX9_number : MethodName := ⟨RX9, "number", "(II)I"⟩
abbrev cX9_startSending : ByteArray := prog_11_method_13_code
def yX9_startSending : MethodName := ⟨RX9, "startSending", "(I)V"⟩
abbrev cX9_newFrame : ByteArray := prog_11_method_14_code
def yX9_newFrame : MethodName := ⟨RX9, "newFrame", "(I)V"⟩
abbrev cX9_sendBits : ByteArray := prog_11_method_15_code
def yX9_sendBits : MethodName := ⟨RX9, "sendBits", "(I)V"⟩
abbrev cX9_push : ByteArray := prog_11_method_16_code
def yX9_push : MethodName := ⟨RX9, "push", "(I)V"⟩
abbrev cX9_speak : ByteArray := prog_11_method_17_code
def yX9_speak : MethodName := ⟨RX9, "speak", "(I)I"⟩
abbrev cX9_slot : ByteArray := prog_11_method_18_code
def yX9_slot : MethodName := ⟨RX9, "slot", "()I"⟩
abbrev cX9_air : ByteArray := prog_11_method_19_code
def yX9_air : MethodName := ⟨RX9, "air", "(I)I"⟩
abbrev cX9_flip : ByteArray := prog_11_method_20_code
def yX9_flip : MethodName := ⟨RX9, "flip", "(I)I"⟩
abbrev cX9_headGood : ByteArray := prog_11_method_21_code
def yX9_headGood : MethodName := ⟨RX9, "headGood", "()Z"⟩
abbrev cX9_mended : ByteArray := prog_11_method_22_code
def yX9_mended : MethodName := ⟨RX9, "mended", "(I)Z"⟩
abbrev cX9_loadBits : ByteArray := prog_11_method_23_code
def yX9_loadBits : MethodName := ⟨RX9, "loadBits", "(II)Z"⟩
abbrev cX9_loadGood : ByteArray := prog_11_method_24_code
def yX9_loadGood : MethodName := ⟨RX9, "loadGood", "(II)Z"⟩
abbrev cX9_finish : ByteArray := prog_11_method_25_code
def yX9_finish : MethodName := ⟨RX9, "finish", "(I)V"⟩
abbrev cX9_use : ByteArray := prog_11_method_26_code
def yX9_use : MethodName := ⟨RX9, "use", "(I)V"⟩
abbrev cX9_hear : ByteArray := prog_11_method_27_code
def yX9_hear : MethodName := ⟨RX9, "hear", "()I"⟩
abbrev cX9_read : ByteArray := prog_11_method_28_code
def yX9_read : MethodName := ⟨RX9, "read", "(II)I"⟩
abbrev cX9_next : ByteArray := prog_11_method_29_code
def yX9_next : MethodName := ⟨RX9, "next", "(I)I"⟩
abbrev cX9_state : ByteArray := prog_11_method_30_code
def yX9_state : MethodName := ⟨RX9, "state", "(II)I"⟩
abbrev cX9_count : ByteArray := prog_11_method_31_code
def yX9_count : MethodName := ⟨RX9, "count", "(I)I"⟩
abbrev cXL_cell : ByteArray := method_2_code
def yXL_cell : MethodName := ⟨RXL, "cell", "([II)I"⟩
abbrev cXL_law : ByteArray := code
theorem m_oi : Cond.instanceMethod Lib.objectInit ∈ lw_T := tb1 (List.mem_of_getElem? (i := 19) rfl)
theorem m_oc : Cond.code Lib.objectInit ⟨#[0xb1]⟩ 1 none ∈ lw_T := tb1 (List.mem_of_getElem? (i := 20) rfl)
theorem m_arrI : Cond.arrayClass .int ∈ lw_T := tb1 (List.mem_of_getElem? (i := 51) rfl)
theorem m_arrZ : Cond.arrayClass .boolean ∈ lw_T := tb3 (List.mem_of_getElem? (i := 172) rfl)
theorem m_arrX2 : "RadioPair$Device" ∈ overL := by decide
theorem m_arrX5 : "RadioPair$Message" ∈ overL := by decide
theorem m_min_s : Cond.static Lib.Math.min.name ∈ lw_T := tb1 (List.mem_of_getElem? (i := 202) rfl)
theorem m_min_c : Cond.code Lib.Math.min.name Lib.Math.min.code 2 (some .int) ∈ lw_T := tb1 (List.mem_of_getElem? (i := 203) rfl)
theorem m_max_s : Cond.static Lib.Math.max.name ∈ lw_T := tb1 (List.mem_of_getElem? (i := 205) rfl)
theorem m_max_c : Cond.code Lib.Math.max.name Lib.Math.max.code 2 (some .int) ∈ lw_T := tb1 (List.mem_of_getElem? (i := 206) rfl)
theorem m_Math_i : Cond.initialized "java/lang/Math" ∈ lw_T := tb1 (List.mem_of_getElem? (i := 9) rfl)
theorem mXL_c7 : Cond.classLink RXL 7 RX8 ∈ lw_T := tb1 (List.mem_of_getElem? (i := 13) rfl)
theorem nXL_7 : Cond.classLink RXL 7 RX8 ∈ lw_T ∧ Cond.instantiable RX8 5 ∈ lw_T ∧ Cond.initialized RX8 ∈ lw_T := ⟨mXL_c7, tb1 (List.mem_of_getElem? (i := 14) rfl), tb1 (List.mem_of_getElem? (i := 1) rfl)⟩
theorem kXL_15 : Kw lw_T RXL 15 yX8_init cX8_init 2 none 1 := ⟨tbl_good, tb1 (List.mem_of_getElem? (i := 15) rfl), tb1 (List.mem_of_getElem? (i := 1) rfl), tb1 (List.mem_of_getElem? (i := 17) rfl), by decide +kernel⟩
theorem mX8_3 : Cond.methodLink RX8 3 Lib.objectInit ∈ lw_T := tb1 (List.mem_of_getElem? (i := 18) rfl)
theorem mX8_c9 : Cond.classLink RX8 9 RX2 ∈ lw_T := tb1 (List.mem_of_getElem? (i := 21) rfl)
theorem nX8_9 : Cond.classLink RX8 9 RX2 ∈ lw_T ∧ Cond.instantiable RX2 5 ∈ lw_T ∧ Cond.initialized RX2 ∈ lw_T := ⟨mX8_c9, tb1 (List.mem_of_getElem? (i := 23) rfl), tb1 (List.mem_of_getElem? (i := 2) rfl)⟩
theorem kX8_15 : Kw lw_T RX8 15 yX2_init cX2_init 2 none 1 := ⟨tbl_good, tb1 (List.mem_of_getElem? (i := 24) rfl), tb1 (List.mem_of_getElem? (i := 2) rfl), tb1 (List.mem_of_getElem? (i := 26) rfl), by decide +kernel⟩
theorem mX2_3 : Cond.methodLink RX2 3 Lib.objectInit ∈ lw_T := tb1 (List.mem_of_getElem? (i := 27) rfl)
theorem mX2_c9 : Cond.classLink RX2 9 RX7 ∈ lw_T := tb1 (List.mem_of_getElem? (i := 28) rfl)
theorem nX2_9 : Cond.classLink RX2 9 RX7 ∈ lw_T ∧ Cond.instantiable RX7 8 ∈ lw_T ∧ Cond.initialized RX7 ∈ lw_T := ⟨mX2_c9, tb1 (List.mem_of_getElem? (i := 29) rfl), tb1 (List.mem_of_getElem? (i := 3) rfl)⟩
theorem kX2_11 : KwN lw_T RX2 11 yX7_init "RadioPair" cX7_init 1 none 0 := ⟨tbl_good, List.mem_of_getElem? (i := 0) rfl, tb1 (List.mem_of_getElem? (i := 3) rfl), tb1 (List.mem_of_getElem? (i := 32) rfl), by decide +kernel⟩
theorem mX7_3 : Cond.methodLink RX7 3 Lib.objectInit ∈ lw_T := tb1 (List.mem_of_getElem? (i := 33) rfl)
theorem mX7_c9 : Cond.classLink RX7 9 RX5 ∈ lw_T := tb1 (List.mem_of_getElem? (i := 34) rfl)
theorem nX7_9 : Cond.classLink RX7 9 RX5 ∈ lw_T ∧ Cond.instantiable RX5 2 ∈ lw_T ∧ Cond.initialized RX5 ∈ lw_T := ⟨mX7_c9, tb1 (List.mem_of_getElem? (i := 35) rfl), tb1 (List.mem_of_getElem? (i := 4) rfl)⟩
theorem kX7_11 : Kw lw_T RX7 11 yX5_init cX5_init 2 none 1 := ⟨tbl_good, tb1 (List.mem_of_getElem? (i := 36) rfl), tb1 (List.mem_of_getElem? (i := 4) rfl), tb1 (List.mem_of_getElem? (i := 38) rfl), by decide +kernel⟩
theorem mX5_1 : Cond.methodLink RX5 1 Lib.objectInit ∈ lw_T := tb1 (List.mem_of_getElem? (i := 39) rfl)
theorem fX5_7 : Fg lw_T RX5 7 (RX5, TX5, 2) 0 := ⟨iX5, by decide, tb1 (List.mem_of_getElem? (i := 40) rfl)⟩
theorem fX5_13 : Fg lw_T RX5 13 (RX5, TX5, 2) 1 := ⟨iX5, by decide, tb1 (List.mem_of_getElem? (i := 41) rfl)⟩
theorem fX7_41 : Fg lw_T RX7 41 (RX5, TX5, 2) 1 := ⟨iX5, by decide, tb1 (List.mem_of_getElem? (i := 42) rfl)⟩
theorem fX4_31 : Fg lw_T RX4 31 (RX5, TX5, 2) 1 := ⟨iX5, by decide, tb1 (List.mem_of_getElem? (i := 43) rfl)⟩
theorem fX8_75 : Fg lw_T RX8 75 (RX5, TX5, 2) 1 := ⟨iX5, by decide, tb1 (List.mem_of_getElem? (i := 44) rfl)⟩
theorem fX1_126 : Fg lw_T RX1 126 (RX5, TX5, 2) 1 := ⟨iX5, by decide, tb1 (List.mem_of_getElem? (i := 45) rfl)⟩
theorem mX7_c20 : Cond.classLink RX7 20 RX6 ∈ lw_T := tb1 (List.mem_of_getElem? (i := 52) rfl)
theorem nX7_20 : Cond.classLink RX7 20 RX6 ∈ lw_T ∧ Cond.instantiable RX6 3 ∈ lw_T ∧ Cond.initialized RX6 ∈ lw_T := ⟨mX7_c20, tb1 (List.mem_of_getElem? (i := 53) rfl), tb1 (List.mem_of_getElem? (i := 5) rfl)⟩
theorem kX7_22 : Kw lw_T RX7 22 yX6_init cX6_init 3 none 1 := ⟨tbl_good, tb1 (List.mem_of_getElem? (i := 54) rfl), tb1 (List.mem_of_getElem? (i := 5) rfl), tb1 (List.mem_of_getElem? (i := 56) rfl), by decide +kernel⟩
theorem mX6_3 : Cond.methodLink RX6 3 Lib.objectInit ∈ lw_T := tb1 (List.mem_of_getElem? (i := 57) rfl)
theorem mX6_c9 : Cond.classLink RX6 9 RX5 ∈ lw_T := tb1 (List.mem_of_getElem? (i := 58) rfl)
theorem nX6_9 : Cond.classLink RX6 9 RX5 ∈ lw_T ∧ Cond.instantiable RX5 2 ∈ lw_T ∧ Cond.initialized RX5 ∈ lw_T := ⟨mX6_c9, tb1 (List.mem_of_getElem? (i := 35) rfl), tb1 (List.mem_of_getElem? (i := 4) rfl)⟩
theorem kX6_17 : Kw lw_T RX6 17 yX5_init cX5_init 2 none 1 := ⟨tbl_good, tb1 (List.mem_of_getElem? (i := 60) rfl), tb1 (List.mem_of_getElem? (i := 4) rfl), tb1 (List.mem_of_getElem? (i := 38) rfl), by decide +kernel⟩
theorem fX6_11 : Fg lw_T RX6 11 (RX6, TX6, 3) 0 := ⟨iX6, by decide, tb1 (List.mem_of_getElem? (i := 61) rfl)⟩
theorem fX6_24 : Fg lw_T RX6 24 (RX6, TX6, 3) 1 := ⟨iX6, by decide, tb1 (List.mem_of_getElem? (i := 62) rfl)⟩
theorem fX6_20 : Fg lw_T RX6 20 (RX6, TX6, 3) 2 := ⟨iX6, by decide, tb1 (List.mem_of_getElem? (i := 63) rfl)⟩
theorem fX2_73 : Fg lw_T RX2 73 (RX6, TX6, 3) 2 := ⟨iX6, by decide, tb1 (List.mem_of_getElem? (i := 64) rfl)⟩
theorem fX8_93 : Fg lw_T RX8 93 (RX6, TX6, 3) 2 := ⟨iX6, by decide, tb1 (List.mem_of_getElem? (i := 65) rfl)⟩
theorem mX7_c30 : Cond.classLink RX7 30 RX3 ∈ lw_T := tb1 (List.mem_of_getElem? (i := 73) rfl)
theorem nX7_30 : Cond.classLink RX7 30 RX3 ∈ lw_T ∧ Cond.instantiable RX3 6 ∈ lw_T ∧ Cond.initialized RX3 ∈ lw_T := ⟨mX7_c30, tb1 (List.mem_of_getElem? (i := 74) rfl), tb1 (List.mem_of_getElem? (i := 6) rfl)⟩
theorem kX7_32 : KwN lw_T RX7 32 yX3_init "RadioPair" cX3_init 1 none 0 := ⟨tbl_good, List.mem_of_getElem? (i := 1) rfl, tb1 (List.mem_of_getElem? (i := 6) rfl), tb1 (List.mem_of_getElem? (i := 77) rfl), by decide +kernel⟩
theorem mX3_3 : Cond.methodLink RX3 3 Lib.objectInit ∈ lw_T := tb1 (List.mem_of_getElem? (i := 78) rfl)
theorem mX3_c9 : Cond.classLink RX3 9 RX5 ∈ lw_T := tb1 (List.mem_of_getElem? (i := 79) rfl)
theorem nX3_9 : Cond.classLink RX3 9 RX5 ∈ lw_T ∧ Cond.instantiable RX5 2 ∈ lw_T ∧ Cond.initialized RX5 ∈ lw_T := ⟨mX3_c9, tb1 (List.mem_of_getElem? (i := 35) rfl), tb1 (List.mem_of_getElem? (i := 4) rfl)⟩
theorem kX3_11 : Kw lw_T RX3 11 yX5_init cX5_init 2 none 1 := ⟨tbl_good, tb1 (List.mem_of_getElem? (i := 80) rfl), tb1 (List.mem_of_getElem? (i := 4) rfl), tb1 (List.mem_of_getElem? (i := 38) rfl), by decide +kernel⟩
theorem fX3_14 : Fg lw_T RX3 14 (RX3, TX3, 6) 0 := ⟨iX3, by decide, tb1 (List.mem_of_getElem? (i := 81) rfl)⟩
theorem fX1_67 : Fg lw_T RX1 67 (RX3, TX3, 6) 0 := ⟨iX3, by decide, tb1 (List.mem_of_getElem? (i := 82) rfl)⟩
theorem fX7_51 : Fg lw_T RX7 51 (RX3, TX3, 6) 0 := ⟨iX3, by decide, tb1 (List.mem_of_getElem? (i := 83) rfl)⟩
theorem fX4_46 : Fg lw_T RX4 46 (RX3, TX3, 6) 0 := ⟨iX3, by decide, tb1 (List.mem_of_getElem? (i := 84) rfl)⟩
theorem fX2_32 : Fg lw_T RX2 32 (RX3, TX3, 6) 1 := ⟨iX3, by decide, tb1 (List.mem_of_getElem? (i := 85) rfl)⟩
theorem fX3_20 : Fg lw_T RX3 20 (RX3, TX3, 6) 1 := ⟨iX3, by decide, tb1 (List.mem_of_getElem? (i := 86) rfl)⟩
theorem fX1_50 : Fg lw_T RX1 50 (RX3, TX3, 6) 1 := ⟨iX3, by decide, tb1 (List.mem_of_getElem? (i := 87) rfl)⟩
theorem fX8_110 : Fg lw_T RX8 110 (RX3, TX3, 6) 1 := ⟨iX3, by decide, tb1 (List.mem_of_getElem? (i := 88) rfl)⟩
theorem fX7_90 : Fg lw_T RX7 90 (RX3, TX3, 6) 1 := ⟨iX3, by decide, tb1 (List.mem_of_getElem? (i := 89) rfl)⟩
theorem fX2_51 : Fg lw_T RX2 51 (RX3, TX3, 6) 2 := ⟨iX3, by decide, tb1 (List.mem_of_getElem? (i := 90) rfl)⟩
theorem fX1_113 : Fg lw_T RX1 113 (RX3, TX3, 6) 2 := ⟨iX3, by decide, tb1 (List.mem_of_getElem? (i := 91) rfl)⟩
theorem fX2_47 : Fg lw_T RX2 47 (RX3, TX3, 6) 3 := ⟨iX3, by decide, tb1 (List.mem_of_getElem? (i := 92) rfl)⟩
theorem fX4_35 : Fg lw_T RX4 35 (RX3, TX3, 6) 3 := ⟨iX3, by decide, tb1 (List.mem_of_getElem? (i := 93) rfl)⟩
theorem fX1_116 : Fg lw_T RX1 116 (RX3, TX3, 6) 3 := ⟨iX3, by decide, tb1 (List.mem_of_getElem? (i := 94) rfl)⟩
theorem fX7_93 : Fg lw_T RX7 93 (RX3, TX3, 6) 3 := ⟨iX3, by decide, tb1 (List.mem_of_getElem? (i := 95) rfl)⟩
theorem fX4_43 : Fg lw_T RX4 43 (RX3, TX3, 6) 4 := ⟨iX3, by decide, tb1 (List.mem_of_getElem? (i := 96) rfl)⟩
theorem fX1_129 : Fg lw_T RX1 129 (RX3, TX3, 6) 4 := ⟨iX3, by decide, tb1 (List.mem_of_getElem? (i := 97) rfl)⟩
theorem fX7_94 : Fg lw_T RX7 94 (RX3, TX3, 6) 4 := ⟨iX3, by decide, tb1 (List.mem_of_getElem? (i := 98) rfl)⟩
theorem fX1_64 : Fg lw_T RX1 64 (RX3, TX3, 6) 5 := ⟨iX3, by decide, tb1 (List.mem_of_getElem? (i := 99) rfl)⟩
theorem fX2_57 : Fg lw_T RX2 57 (RX3, TX3, 6) 5 := ⟨iX3, by decide, tb1 (List.mem_of_getElem? (i := 100) rfl)⟩
theorem fX7_14 : Fg lw_T RX7 14 (RX7, TX7, 8) 0 := ⟨iX7, by decide, tb1 (List.mem_of_getElem? (i := 114) rfl)⟩
theorem fX8_62 : Fg lw_T RX8 62 (RX7, TX7, 8) 0 := ⟨iX7, by decide, tb1 (List.mem_of_getElem? (i := 115) rfl)⟩
theorem fX7_23 : Fg lw_T RX7 23 (RX7, TX7, 8) 1 := ⟨iX7, by decide, tb1 (List.mem_of_getElem? (i := 116) rfl)⟩
theorem fX8_79 : Fg lw_T RX8 79 (RX7, TX7, 8) 1 := ⟨iX7, by decide, tb1 (List.mem_of_getElem? (i := 117) rfl)⟩
theorem fX2_69 : Fg lw_T RX2 69 (RX7, TX7, 8) 1 := ⟨iX7, by decide, tb1 (List.mem_of_getElem? (i := 118) rfl)⟩
theorem fX7_27 : Fg lw_T RX7 27 (RX7, TX7, 8) 2 := ⟨iX7, by decide, tb1 (List.mem_of_getElem? (i := 119) rfl)⟩
theorem fX7_33 : Fg lw_T RX7 33 (RX7, TX7, 8) 3 := ⟨iX7, by decide, tb1 (List.mem_of_getElem? (i := 120) rfl)⟩
theorem fX7_45 : Fg lw_T RX7 45 (RX7, TX7, 8) 4 := ⟨iX7, by decide, tb1 (List.mem_of_getElem? (i := 121) rfl)⟩
theorem fX7_48 : Fg lw_T RX7 48 (RX7, TX7, 8) 5 := ⟨iX7, by decide, tb1 (List.mem_of_getElem? (i := 122) rfl)⟩
theorem fX7_37 : Fg lw_T RX7 37 (RX7, TX7, 8) 6 := ⟨iX7, by decide, tb1 (List.mem_of_getElem? (i := 123) rfl)⟩
theorem fX8_56 : Fg lw_T RX8 56 (RX7, TX7, 8) 6 := ⟨iX7, by decide, tb1 (List.mem_of_getElem? (i := 124) rfl)⟩
theorem fX2_44 : Fg lw_T RX2 44 (RX7, TX7, 8) 7 := ⟨iX7, by decide, tb1 (List.mem_of_getElem? (i := 125) rfl)⟩
theorem fX7_87 : Fg lw_T RX7 87 (RX7, TX7, 8) 7 := ⟨iX7, by decide, tb1 (List.mem_of_getElem? (i := 126) rfl)⟩
theorem mX2_c18 : Cond.classLink RX2 18 RX4 ∈ lw_T := tb1 (List.mem_of_getElem? (i := 144) rfl)
theorem nX2_18 : Cond.classLink RX2 18 RX4 ∈ lw_T ∧ Cond.instantiable RX4 7 ∈ lw_T ∧ Cond.initialized RX4 ∈ lw_T := ⟨mX2_c18, tb1 (List.mem_of_getElem? (i := 145) rfl), tb1 (List.mem_of_getElem? (i := 7) rfl)⟩
theorem kX2_20 : KwN lw_T RX2 20 yX4_init "RadioPair" cX4_init 1 none 0 := ⟨tbl_good, List.mem_of_getElem? (i := 2) rfl, tb1 (List.mem_of_getElem? (i := 7) rfl), tb1 (List.mem_of_getElem? (i := 148) rfl), by decide +kernel⟩
theorem mX4_3 : Cond.methodLink RX4 3 Lib.objectInit ∈ lw_T := tb1 (List.mem_of_getElem? (i := 149) rfl)
theorem mX4_c9 : Cond.classLink RX4 9 RX6 ∈ lw_T := tb1 (List.mem_of_getElem? (i := 150) rfl)
theorem nX4_9 : Cond.classLink RX4 9 RX6 ∈ lw_T ∧ Cond.instantiable RX6 3 ∈ lw_T ∧ Cond.initialized RX6 ∈ lw_T := ⟨mX4_c9, tb1 (List.mem_of_getElem? (i := 53) rfl), tb1 (List.mem_of_getElem? (i := 5) rfl)⟩
theorem kX4_11 : Kw lw_T RX4 11 yX6_init cX6_init 3 none 1 := ⟨tbl_good, tb1 (List.mem_of_getElem? (i := 151) rfl), tb1 (List.mem_of_getElem? (i := 5) rfl), tb1 (List.mem_of_getElem? (i := 56) rfl), by decide +kernel⟩
theorem mX4_c20 : Cond.classLink RX4 20 RX5 ∈ lw_T := tb1 (List.mem_of_getElem? (i := 152) rfl)
theorem nX4_20 : Cond.classLink RX4 20 RX5 ∈ lw_T ∧ Cond.instantiable RX5 2 ∈ lw_T ∧ Cond.initialized RX5 ∈ lw_T := ⟨mX4_c20, tb1 (List.mem_of_getElem? (i := 35) rfl), tb1 (List.mem_of_getElem? (i := 4) rfl)⟩
theorem kX4_22 : Kw lw_T RX4 22 yX5_init cX5_init 2 none 1 := ⟨tbl_good, tb1 (List.mem_of_getElem? (i := 153) rfl), tb1 (List.mem_of_getElem? (i := 4) rfl), tb1 (List.mem_of_getElem? (i := 38) rfl), by decide +kernel⟩
theorem fX4_14 : Fg lw_T RX4 14 (RX4, TX4, 7) 0 := ⟨iX4, by decide, tb1 (List.mem_of_getElem? (i := 154) rfl)⟩
theorem fX2_78 : Fg lw_T RX2 78 (RX4, TX4, 7) 0 := ⟨iX4, by decide, tb1 (List.mem_of_getElem? (i := 155) rfl)⟩
theorem fX8_138 : Fg lw_T RX8 138 (RX4, TX4, 7) 0 := ⟨iX4, by decide, tb1 (List.mem_of_getElem? (i := 156) rfl)⟩
theorem fX4_23 : Fg lw_T RX4 23 (RX4, TX4, 7) 1 := ⟨iX4, by decide, tb1 (List.mem_of_getElem? (i := 157) rfl)⟩
theorem fX4_27 : Fg lw_T RX4 27 (RX4, TX4, 7) 2 := ⟨iX4, by decide, tb1 (List.mem_of_getElem? (i := 158) rfl)⟩
theorem fX4_60 : Fg lw_T RX4 60 (RX4, TX4, 7) 3 := ⟨iX4, by decide, tb1 (List.mem_of_getElem? (i := 159) rfl)⟩
theorem fX4_40 : Fg lw_T RX4 40 (RX4, TX4, 7) 4 := ⟨iX4, by decide, tb1 (List.mem_of_getElem? (i := 160) rfl)⟩
theorem fX2_91 : Fg lw_T RX2 91 (RX4, TX4, 7) 5 := ⟨iX4, by decide, tb1 (List.mem_of_getElem? (i := 161) rfl)⟩
theorem fX4_66 : Fg lw_T RX4 66 (RX4, TX4, 7) 5 := ⟨iX4, by decide, tb1 (List.mem_of_getElem? (i := 162) rfl)⟩
theorem fX2_54 : Fg lw_T RX2 54 (RX4, TX4, 7) 6 := ⟨iX4, by decide, tb1 (List.mem_of_getElem? (i := 163) rfl)⟩
theorem mX2_c25 : Cond.classLink RX2 25 RX3 ∈ lw_T := tb1 (List.mem_of_getElem? (i := 179) rfl)
theorem nX2_25 : Cond.classLink RX2 25 RX3 ∈ lw_T ∧ Cond.instantiable RX3 6 ∈ lw_T ∧ Cond.initialized RX3 ∈ lw_T := ⟨mX2_c25, tb1 (List.mem_of_getElem? (i := 74) rfl), tb1 (List.mem_of_getElem? (i := 6) rfl)⟩
theorem kX2_27 : KwN lw_T RX2 27 yX3_init "RadioPair" cX3_init 1 none 0 := ⟨tbl_good, List.mem_of_getElem? (i := 3) rfl, tb1 (List.mem_of_getElem? (i := 6) rfl), tb1 (List.mem_of_getElem? (i := 77) rfl), by decide +kernel⟩
theorem fX2_12 : Fg lw_T RX2 12 (RX2, TX2, 5) 0 := ⟨iX2, by decide, tb1 (List.mem_of_getElem? (i := 181) rfl)⟩
theorem fX8_52 : Fg lw_T RX8 52 (RX2, TX2, 5) 0 := ⟨iX2, by decide, tb1 (List.mem_of_getElem? (i := 182) rfl)⟩
theorem fX2_21 : Fg lw_T RX2 21 (RX2, TX2, 5) 1 := ⟨iX2, by decide, tb1 (List.mem_of_getElem? (i := 183) rfl)⟩
theorem fX8_134 : Fg lw_T RX8 134 (RX2, TX2, 5) 1 := ⟨iX2, by decide, tb1 (List.mem_of_getElem? (i := 184) rfl)⟩
theorem fX2_28 : Fg lw_T RX2 28 (RX2, TX2, 5) 2 := ⟨iX2, by decide, tb1 (List.mem_of_getElem? (i := 185) rfl)⟩
theorem fX2_48 : Fg lw_T RX2 48 (RX2, TX2, 5) 3 := ⟨iX2, by decide, tb1 (List.mem_of_getElem? (i := 186) rfl)⟩
theorem fX2_36 : Fg lw_T RX2 36 (RX2, TX2, 5) 4 := ⟨iX2, by decide, tb1 (List.mem_of_getElem? (i := 187) rfl)⟩
theorem mX8_c18 : Cond.classLink RX8 18 RX1 ∈ lw_T := tb1 (List.mem_of_getElem? (i := 199) rfl)
theorem nX8_18 : Cond.classLink RX8 18 RX1 ∈ lw_T ∧ Cond.instantiable RX1 5 ∈ lw_T ∧ Cond.initialized RX1 ∈ lw_T := ⟨mX8_c18, tb1 (List.mem_of_getElem? (i := 200) rfl), tb1 (List.mem_of_getElem? (i := 8) rfl)⟩
theorem mX8_20 : Cond.methodLink RX8 20 Lib.Math.min.name ∈ lw_T := tb1 (List.mem_of_getElem? (i := 201) rfl)
theorem mX8_26 : Cond.methodLink RX8 26 Lib.Math.max.name ∈ lw_T := tb1 (List.mem_of_getElem? (i := 204) rfl)
theorem kX8_29 : Kw lw_T RX8 29 yX1_init cX1_init 2 none 1 := ⟨tbl_good, tb1 (List.mem_of_getElem? (i := 207) rfl), tb1 (List.mem_of_getElem? (i := 8) rfl), tb1 (List.mem_of_getElem? (i := 209) rfl), by decide +kernel⟩
theorem mX1_3 : Cond.methodLink RX1 3 Lib.objectInit ∈ lw_T := tb1 (List.mem_of_getElem? (i := 210) rfl)
theorem mX1_c9 : Cond.classLink RX1 9 RX0 ∈ lw_T := tb1 (List.mem_of_getElem? (i := 211) rfl)
theorem nX1_9 : Cond.classLink RX1 9 RX0 ∈ lw_T ∧ Cond.instantiable RX0 2 ∈ lw_T ∧ Cond.initialized RX0 ∈ lw_T := ⟨mX1_c9, tb1 (List.mem_of_getElem? (i := 212) rfl), tb1 (List.mem_of_getElem? (i := 10) rfl)⟩
theorem kX1_11 : Kw lw_T RX1 11 yX0_init cX0_init 2 none 1 := ⟨tbl_good, tb1 (List.mem_of_getElem? (i := 213) rfl), tb1 (List.mem_of_getElem? (i := 10) rfl), tb1 (List.mem_of_getElem? (i := 215) rfl), by decide +kernel⟩
theorem mX0_1 : Cond.methodLink RX0 1 Lib.objectInit ∈ lw_T := tb1 (List.mem_of_getElem? (i := 216) rfl)
theorem fX0_7 : Fg lw_T RX0 7 (RX0, TX0, 2) 0 := ⟨iX0, by decide, tb1 (List.mem_of_getElem? (i := 217) rfl)⟩
theorem fX0_13 : Fg lw_T RX0 13 (RX0, TX0, 2) 1 := ⟨iX0, by decide, tb1 (List.mem_of_getElem? (i := 218) rfl)⟩
theorem fX1_57 : Fg lw_T RX1 57 (RX0, TX0, 2) 1 := ⟨iX0, by decide, tb1 (List.mem_of_getElem? (i := 219) rfl)⟩
theorem fX8_123 : Fg lw_T RX8 123 (RX0, TX0, 2) 1 := ⟨iX0, by decide, tb1 (List.mem_of_getElem? (i := 220) rfl)⟩
theorem fX1_29 : Fg lw_T RX1 29 (RX1, TX1, 5) 0 := ⟨iX1, by decide, tb1 (List.mem_of_getElem? (i := 226) rfl)⟩
theorem fX1_14 : Fg lw_T RX1 14 (RX1, TX1, 5) 1 := ⟨iX1, by decide, tb1 (List.mem_of_getElem? (i := 227) rfl)⟩
theorem fX1_20 : Fg lw_T RX1 20 (RX1, TX1, 5) 2 := ⟨iX1, by decide, tb1 (List.mem_of_getElem? (i := 228) rfl)⟩
theorem fX1_23 : Fg lw_T RX1 23 (RX1, TX1, 5) 3 := ⟨iX1, by decide, tb1 (List.mem_of_getElem? (i := 229) rfl)⟩
theorem fX1_26 : Fg lw_T RX1 26 (RX1, TX1, 5) 4 := ⟨iX1, by decide, tb1 (List.mem_of_getElem? (i := 230) rfl)⟩
theorem mX8_c34 : Cond.classLink RX8 34 RX0 ∈ lw_T := tb2 (List.mem_of_getElem? (i := 2) rfl)
theorem nX8_34 : Cond.classLink RX8 34 RX0 ∈ lw_T ∧ Cond.instantiable RX0 2 ∈ lw_T ∧ Cond.initialized RX0 ∈ lw_T := ⟨mX8_c34, tb1 (List.mem_of_getElem? (i := 212) rfl), tb1 (List.mem_of_getElem? (i := 10) rfl)⟩
theorem kX8_36 : Kw lw_T RX8 36 yX0_init cX0_init 2 none 1 := ⟨tbl_good, tb2 (List.mem_of_getElem? (i := 3) rfl), tb1 (List.mem_of_getElem? (i := 10) rfl), tb1 (List.mem_of_getElem? (i := 215) rfl), by decide +kernel⟩
theorem mX8_c41 : Cond.classLink RX8 41 RX3 ∈ lw_T := tb2 (List.mem_of_getElem? (i := 4) rfl)
theorem nX8_41 : Cond.classLink RX8 41 RX3 ∈ lw_T ∧ Cond.instantiable RX3 6 ∈ lw_T ∧ Cond.initialized RX3 ∈ lw_T := ⟨mX8_c41, tb1 (List.mem_of_getElem? (i := 74) rfl), tb1 (List.mem_of_getElem? (i := 6) rfl)⟩
theorem kX8_43 : KwN lw_T RX8 43 yX3_init "RadioPair" cX3_init 1 none 0 := ⟨tbl_good, List.mem_of_getElem? (i := 4) rfl, tb1 (List.mem_of_getElem? (i := 6) rfl), tb1 (List.mem_of_getElem? (i := 77) rfl), by decide +kernel⟩
theorem fX8_11 : Fg lw_T RX8 11 (RX8, TX8, 5) 0 := ⟨iX8, by decide, tb2 (List.mem_of_getElem? (i := 6) rfl)⟩
theorem fX8_30 : Fg lw_T RX8 30 (RX8, TX8, 5) 1 := ⟨iX8, by decide, tb2 (List.mem_of_getElem? (i := 7) rfl)⟩
theorem fX8_37 : Fg lw_T RX8 37 (RX8, TX8, 5) 2 := ⟨iX8, by decide, tb2 (List.mem_of_getElem? (i := 8) rfl)⟩
theorem fX8_44 : Fg lw_T RX8 44 (RX8, TX8, 5) 3 := ⟨iX8, by decide, tb2 (List.mem_of_getElem? (i := 9) rfl)⟩
theorem fX8_103 : Fg lw_T RX8 103 (RX8, TX8, 5) 4 := ⟨iX8, by decide, tb2 (List.mem_of_getElem? (i := 10) rfl)⟩
theorem kXL_21 : Kw lw_T RXL 21 yX8_guard cX8_guard 3 (some .int) 2 := ⟨tbl_good, tb2 (List.mem_of_getElem? (i := 22) rfl), tb1 (List.mem_of_getElem? (i := 1) rfl), tb2 (List.mem_of_getElem? (i := 25) rfl), by decide +kernel⟩
theorem kX8_48 : Kw lw_T RX8 48 yX8_isDevice cX8_isDevice 1 (some .boolean) 1 := ⟨tbl_good, tb2 (List.mem_of_getElem? (i := 26) rfl), tb1 (List.mem_of_getElem? (i := 1) rfl), tb2 (List.mem_of_getElem? (i := 28) rfl), by decide +kernel⟩
theorem kXL_26 : Kw lw_T RXL 26 yX8_write cX8_write 4 (some .int) 2 := ⟨tbl_good, tb2 (List.mem_of_getElem? (i := 29) rfl), tb1 (List.mem_of_getElem? (i := 1) rfl), tb2 (List.mem_of_getElem? (i := 32) rfl), by decide +kernel⟩
theorem kX8_66 : Kw lw_T RX8 66 yX5_isFull cX5_isFull 1 (some .boolean) 0 := ⟨tbl_good, tb2 (List.mem_of_getElem? (i := 33) rfl), tb1 (List.mem_of_getElem? (i := 4) rfl), tb2 (List.mem_of_getElem? (i := 36) rfl), by decide +kernel⟩
theorem kX8_72 : Kw lw_T RX8 72 yX5_add cX5_add 2 none 1 := ⟨tbl_good, tb2 (List.mem_of_getElem? (i := 37) rfl), tb1 (List.mem_of_getElem? (i := 4) rfl), tb2 (List.mem_of_getElem? (i := 40) rfl), by decide +kernel⟩
theorem kXL_31 : Kw lw_T RXL 31 yX8_send cX8_send 3 (some .int) 1 := ⟨tbl_good, tb2 (List.mem_of_getElem? (i := 41) rfl), tb1 (List.mem_of_getElem? (i := 1) rfl), tb2 (List.mem_of_getElem? (i := 44) rfl), by decide +kernel⟩
theorem kX8_83 : Kw lw_T RX8 83 yX6_isFull cX6_isFull 1 (some .boolean) 0 := ⟨tbl_good, tb2 (List.mem_of_getElem? (i := 45) rfl), tb1 (List.mem_of_getElem? (i := 5) rfl), tb2 (List.mem_of_getElem? (i := 48) rfl), by decide +kernel⟩
theorem kX8_86 : Kw lw_T RX8 86 yX6_append cX6_append 2 none 1 := ⟨tbl_good, tb2 (List.mem_of_getElem? (i := 49) rfl), tb1 (List.mem_of_getElem? (i := 5) rfl), tb2 (List.mem_of_getElem? (i := 52) rfl), by decide +kernel⟩
theorem kX6_27 : Kw lw_T RX6 27 yX6_isFull cX6_isFull 1 (some .boolean) 0 := ⟨tbl_good, tb2 (List.mem_of_getElem? (i := 53) rfl), tb1 (List.mem_of_getElem? (i := 5) rfl), tb2 (List.mem_of_getElem? (i := 48) rfl), by decide +kernel⟩
theorem kX6_31 : Kw lw_T RX6 31 yX5_become cX5_become 2 none 1 := ⟨tbl_good, tb2 (List.mem_of_getElem? (i := 54) rfl), tb1 (List.mem_of_getElem? (i := 4) rfl), tb2 (List.mem_of_getElem? (i := 57) rfl), by decide +kernel⟩
theorem mX5_25 : Cond.methodLink RX5 25 Lib.Math.min.name ∈ lw_T := tb2 (List.mem_of_getElem? (i := 58) rfl)
theorem mX5_31 : Cond.methodLink RX5 31 arraycopyName ∈ lw_T ∧ Cond.native arraycopyName ∈ lw_T ∧ Cond.static arraycopyName ∈ lw_T ∧ Cond.initialized "java/lang/System" ∈ lw_T := ⟨tb2 (List.mem_of_getElem? (i := 59) rfl), tb2 (List.mem_of_getElem? (i := 61) rfl), tb2 (List.mem_of_getElem? (i := 60) rfl), tb1 (List.mem_of_getElem? (i := 12) rfl)⟩
theorem kX8_90 : Kw lw_T RX8 90 yX5_clear cX5_clear 1 none 0 := ⟨tbl_good, tb2 (List.mem_of_getElem? (i := 62) rfl), tb1 (List.mem_of_getElem? (i := 4) rfl), tb2 (List.mem_of_getElem? (i := 65) rfl), by decide +kernel⟩
theorem kXL_36 : Kw lw_T RXL 36 yX8_slot cX8_slot 2 (some .int) 0 := ⟨tbl_good, tb2 (List.mem_of_getElem? (i := 66) rfl), tb1 (List.mem_of_getElem? (i := 1) rfl), tb2 (List.mem_of_getElem? (i := 69) rfl), by decide +kernel⟩
theorem kX8_94 : Kw lw_T RX8 94 yX0_clear cX0_clear 1 none 0 := ⟨tbl_good, tb2 (List.mem_of_getElem? (i := 70) rfl), tb1 (List.mem_of_getElem? (i := 10) rfl), tb2 (List.mem_of_getElem? (i := 73) rfl), by decide +kernel⟩
theorem kX8_95 : Kw lw_T RX8 95 yX8_deviceOfTurn cX8_deviceOfTurn 1 (some .int) 0 := ⟨tbl_good, tb2 (List.mem_of_getElem? (i := 74) rfl), tb1 (List.mem_of_getElem? (i := 1) rfl), tb2 (List.mem_of_getElem? (i := 77) rfl), by decide +kernel⟩
theorem kX8_99 : Kw lw_T RX8 99 yX2_speak cX2_speak 2 (some (.object "RadioPair$Frame")) 0 := ⟨tbl_good, tb2 (List.mem_of_getElem? (i := 78) rfl), tb1 (List.mem_of_getElem? (i := 2) rfl), tb2 (List.mem_of_getElem? (i := 81) rfl), by decide +kernel⟩
theorem kX2_40 : Kw lw_T RX2 40 yX7_loaded cX7_loaded 1 (some (.object "RadioPair$Frame")) 0 := ⟨tbl_good, tb2 (List.mem_of_getElem? (i := 82) rfl), tb1 (List.mem_of_getElem? (i := 3) rfl), tb2 (List.mem_of_getElem? (i := 85) rfl), by decide +kernel⟩
theorem kX7_54 : Kw lw_T RX7 54 yX7_bytesLeft cX7_bytesLeft 1 (some .int) 0 := ⟨tbl_good, tb2 (List.mem_of_getElem? (i := 86) rfl), tb1 (List.mem_of_getElem? (i := 3) rfl), tb2 (List.mem_of_getElem? (i := 89) rfl), by decide +kernel⟩
theorem kX7_58 : Kw lw_T RX7 58 yX7_beginMessage cX7_beginMessage 2 none 0 := ⟨tbl_good, tb2 (List.mem_of_getElem? (i := 90) rfl), tb1 (List.mem_of_getElem? (i := 3) rfl), tb2 (List.mem_of_getElem? (i := 93) rfl), by decide +kernel⟩
theorem kX7_64 : Kw lw_T RX7 64 yX6_oldest cX6_oldest 1 (some (.object "RadioPair$Message")) 0 := ⟨tbl_good, tb2 (List.mem_of_getElem? (i := 94) rfl), tb1 (List.mem_of_getElem? (i := 5) rfl), tb2 (List.mem_of_getElem? (i := 97) rfl), by decide +kernel⟩
theorem kX7_68 : Kw lw_T RX7 68 yX5_clear cX5_clear 1 none 0 := ⟨tbl_good, tb2 (List.mem_of_getElem? (i := 98) rfl), tb1 (List.mem_of_getElem? (i := 4) rfl), tb2 (List.mem_of_getElem? (i := 65) rfl), by decide +kernel⟩
theorem kX7_71 : Kw lw_T RX7 71 yX5_add cX5_add 2 none 1 := ⟨tbl_good, tb2 (List.mem_of_getElem? (i := 99) rfl), tb1 (List.mem_of_getElem? (i := 4) rfl), tb2 (List.mem_of_getElem? (i := 40) rfl), by decide +kernel⟩
theorem kX7_74 : Kw lw_T RX7 74 yX5_addAll cX5_addAll 5 none 3 := ⟨tbl_good, tb2 (List.mem_of_getElem? (i := 100) rfl), tb1 (List.mem_of_getElem? (i := 4) rfl), tb2 (List.mem_of_getElem? (i := 103) rfl), by decide +kernel⟩
theorem kX5_17 : Kw lw_T RX5 17 yX5_at cX5_at 2 (some .int) 1 := ⟨tbl_good, tb2 (List.mem_of_getElem? (i := 104) rfl), tb1 (List.mem_of_getElem? (i := 4) rfl), tb2 (List.mem_of_getElem? (i := 107) rfl), by decide +kernel⟩
theorem kX5_21 : Kw lw_T RX5 21 yX5_add cX5_add 2 none 1 := ⟨tbl_good, tb2 (List.mem_of_getElem? (i := 108) rfl), tb1 (List.mem_of_getElem? (i := 4) rfl), tb2 (List.mem_of_getElem? (i := 40) rfl), by decide +kernel⟩
theorem kX7_78 : Kw lw_T RX7 78 yX6_dropOldest cX6_dropOldest 1 none 0 := ⟨tbl_good, tb2 (List.mem_of_getElem? (i := 109) rfl), tb1 (List.mem_of_getElem? (i := 5) rfl), tb2 (List.mem_of_getElem? (i := 112) rfl), by decide +kernel⟩
theorem kX7_61 : Kw lw_T RX7 61 yX7_makeFrame cX7_makeFrame 2 none 0 := ⟨tbl_good, tb2 (List.mem_of_getElem? (i := 113) rfl), tb1 (List.mem_of_getElem? (i := 3) rfl), tb2 (List.mem_of_getElem? (i := 116) rfl), by decide +kernel⟩
theorem mX7_81 : Cond.methodLink RX7 81 Lib.Math.min.name ∈ lw_T := tb2 (List.mem_of_getElem? (i := 117) rfl)
theorem kX8_106 : Kw lw_T RX8 106 yX1_put cX1_put 4 none 3 := ⟨tbl_good, tb2 (List.mem_of_getElem? (i := 118) rfl), tb1 (List.mem_of_getElem? (i := 8) rfl), tb2 (List.mem_of_getElem? (i := 121) rfl), by decide +kernel⟩
theorem kX1_33 : Kw lw_T RX1 33 yX1_makeWhite cX1_makeWhite 3 none 1 := ⟨tbl_good, tb2 (List.mem_of_getElem? (i := 122) rfl), tb1 (List.mem_of_getElem? (i := 8) rfl), tb2 (List.mem_of_getElem? (i := 125) rfl), by decide +kernel⟩
theorem kX1_85 : Kw lw_T RX1 85 yX0_clear cX0_clear 1 none 0 := ⟨tbl_good, tb2 (List.mem_of_getElem? (i := 126) rfl), tb1 (List.mem_of_getElem? (i := 10) rfl), tb2 (List.mem_of_getElem? (i := 73) rfl), by decide +kernel⟩
theorem kX1_102 : Kw lw_T RX1 102 yX0_addNumber cX0_addNumber 4 none 2 := ⟨tbl_good, tb2 (List.mem_of_getElem? (i := 127) rfl), tb1 (List.mem_of_getElem? (i := 10) rfl), tb2 (List.mem_of_getElem? (i := 130) rfl), by decide +kernel⟩
theorem kX0_25 : Kw lw_T RX0 25 yX0_add cX0_add 2 none 1 := ⟨tbl_good, tb2 (List.mem_of_getElem? (i := 131) rfl), tb1 (List.mem_of_getElem? (i := 10) rfl), tb2 (List.mem_of_getElem? (i := 134) rfl), by decide +kernel⟩
theorem kX1_106 : Kw lw_T RX1 106 yX0_at cX0_at 2 (some .int) 1 := ⟨tbl_good, tb2 (List.mem_of_getElem? (i := 135) rfl), tb1 (List.mem_of_getElem? (i := 10) rfl), tb2 (List.mem_of_getElem? (i := 138) rfl), by decide +kernel⟩
theorem kX1_110 : Kw lw_T RX1 110 yX0_add cX0_add 2 none 1 := ⟨tbl_good, tb2 (List.mem_of_getElem? (i := 139) rfl), tb1 (List.mem_of_getElem? (i := 10) rfl), tb2 (List.mem_of_getElem? (i := 134) rfl), by decide +kernel⟩
theorem kX1_36 : Kw lw_T RX1 36 yX1_putHead cX1_putHead 4 none 2 := ⟨tbl_good, tb2 (List.mem_of_getElem? (i := 140) rfl), tb1 (List.mem_of_getElem? (i := 8) rfl), tb2 (List.mem_of_getElem? (i := 143) rfl), by decide +kernel⟩
theorem kX1_119 : Kw lw_T RX1 119 yX0_remainderOf cX0_remainderOf 6 (some .int) 3 := ⟨tbl_good, tb2 (List.mem_of_getElem? (i := 144) rfl), tb1 (List.mem_of_getElem? (i := 10) rfl), tb2 (List.mem_of_getElem? (i := 147) rfl), by decide +kernel⟩
theorem kX0_21 : Kw lw_T RX0 21 yX0_at cX0_at 2 (some .int) 1 := ⟨tbl_good, tb2 (List.mem_of_getElem? (i := 148) rfl), tb1 (List.mem_of_getElem? (i := 10) rfl), tb2 (List.mem_of_getElem? (i := 138) rfl), by decide +kernel⟩
theorem kX1_123 : Kw lw_T RX1 123 yX0_addRemainder cX0_addRemainder 4 none 2 := ⟨tbl_good, tb2 (List.mem_of_getElem? (i := 149) rfl), tb1 (List.mem_of_getElem? (i := 10) rfl), tb2 (List.mem_of_getElem? (i := 152) rfl), by decide +kernel⟩
theorem kX1_94 : Kw lw_T RX1 94 yX0_whiten cX0_whiten 4 none 2 := ⟨tbl_good, tb2 (List.mem_of_getElem? (i := 153) rfl), tb1 (List.mem_of_getElem? (i := 10) rfl), tb2 (List.mem_of_getElem? (i := 156) rfl), by decide +kernel⟩
theorem kX1_40 : Kw lw_T RX1 40 yX3_hasLoad cX3_hasLoad 1 (some .boolean) 0 := ⟨tbl_good, tb2 (List.mem_of_getElem? (i := 157) rfl), tb1 (List.mem_of_getElem? (i := 6) rfl), tb2 (List.mem_of_getElem? (i := 160) rfl), by decide +kernel⟩
theorem kX1_46 : Kw lw_T RX1 46 yX1_makeLoad cX1_makeLoad 3 none 1 := ⟨tbl_good, tb2 (List.mem_of_getElem? (i := 161) rfl), tb1 (List.mem_of_getElem? (i := 8) rfl), tb2 (List.mem_of_getElem? (i := 164) rfl), by decide +kernel⟩
theorem kX1_133 : Kw lw_T RX1 133 yX5_at cX5_at 2 (some .int) 1 := ⟨tbl_good, tb2 (List.mem_of_getElem? (i := 165) rfl), tb1 (List.mem_of_getElem? (i := 4) rfl), tb2 (List.mem_of_getElem? (i := 107) rfl), by decide +kernel⟩
theorem mX1_k134 : Cond.constant RX1 134 (nI 69665) ∈ lw_T := tb2 (List.mem_of_getElem? (i := 166) rfl)
theorem kX1_53 : Kw lw_T RX1 53 yX1_putTens cX1_putTens 3 none 1 := ⟨tbl_good, tb2 (List.mem_of_getElem? (i := 167) rfl), tb1 (List.mem_of_getElem? (i := 8) rfl), tb2 (List.mem_of_getElem? (i := 170) rfl), by decide +kernel⟩
theorem kX1_60 : Kw lw_T RX1 60 yX0_addAll cX0_addAll 5 none 3 := ⟨tbl_good, tb2 (List.mem_of_getElem? (i := 171) rfl), tb1 (List.mem_of_getElem? (i := 10) rfl), tb2 (List.mem_of_getElem? (i := 174) rfl), by decide +kernel⟩
theorem kXL_41 : Kw lw_T RXL 41 yX8_air cX8_air 2 (some .int) 1 := ⟨tbl_good, tb2 (List.mem_of_getElem? (i := 175) rfl), tb1 (List.mem_of_getElem? (i := 1) rfl), tb2 (List.mem_of_getElem? (i := 178) rfl), by decide +kernel⟩
theorem kX8_113 : Kw lw_T RX8 113 yX0_has cX0_has 2 (some .boolean) 1 := ⟨tbl_good, tb2 (List.mem_of_getElem? (i := 179) rfl), tb1 (List.mem_of_getElem? (i := 10) rfl), tb2 (List.mem_of_getElem? (i := 182) rfl), by decide +kernel⟩
theorem kX8_116 : Kw lw_T RX8 116 yX0_at cX0_at 2 (some .int) 1 := ⟨tbl_good, tb2 (List.mem_of_getElem? (i := 183) rfl), tb1 (List.mem_of_getElem? (i := 10) rfl), tb2 (List.mem_of_getElem? (i := 138) rfl), by decide +kernel⟩
theorem kXL_45 : Kw lw_T RXL 45 yX8_flip cX8_flip 2 (some .int) 1 := ⟨tbl_good, tb2 (List.mem_of_getElem? (i := 184) rfl), tb1 (List.mem_of_getElem? (i := 1) rfl), tb2 (List.mem_of_getElem? (i := 187) rfl), by decide +kernel⟩
theorem kX8_120 : Kw lw_T RX8 120 yX0_turnOver cX0_turnOver 2 none 1 := ⟨tbl_good, tb2 (List.mem_of_getElem? (i := 188) rfl), tb1 (List.mem_of_getElem? (i := 10) rfl), tb2 (List.mem_of_getElem? (i := 191) rfl), by decide +kernel⟩
theorem kX0_17 : Kw lw_T RX0 17 yX0_has cX0_has 2 (some .boolean) 1 := ⟨tbl_good, tb2 (List.mem_of_getElem? (i := 192) rfl), tb1 (List.mem_of_getElem? (i := 10) rfl), tb2 (List.mem_of_getElem? (i := 182) rfl), by decide +kernel⟩
theorem kXL_49 : Kw lw_T RXL 49 yX8_hear cX8_hear 2 (some .int) 0 := ⟨tbl_good, tb2 (List.mem_of_getElem? (i := 193) rfl), tb1 (List.mem_of_getElem? (i := 1) rfl), tb2 (List.mem_of_getElem? (i := 196) rfl), by decide +kernel⟩
theorem kX8_126 : Kw lw_T RX8 126 yX1_take cX1_take 5 (some .int) 3 := ⟨tbl_good, tb2 (List.mem_of_getElem? (i := 197) rfl), tb1 (List.mem_of_getElem? (i := 8) rfl), tb2 (List.mem_of_getElem? (i := 200) rfl), by decide +kernel⟩
theorem kX1_71 : Kw lw_T RX1 71 yX5_clear cX5_clear 1 none 0 := ⟨tbl_good, tb2 (List.mem_of_getElem? (i := 201) rfl), tb1 (List.mem_of_getElem? (i := 4) rfl), tb2 (List.mem_of_getElem? (i := 65) rfl), by decide +kernel⟩
theorem kX1_76 : Kw lw_T RX1 76 yX1_takeHead cX1_takeHead 5 none 1 := ⟨tbl_good, tb2 (List.mem_of_getElem? (i := 202) rfl), tb1 (List.mem_of_getElem? (i := 8) rfl), tb2 (List.mem_of_getElem? (i := 205) rfl), by decide +kernel⟩
theorem kX1_79 : Kw lw_T RX1 79 yX1_headIsSound cX1_headIsSound 2 (some .boolean) 0 := ⟨tbl_good, tb2 (List.mem_of_getElem? (i := 206) rfl), tb1 (List.mem_of_getElem? (i := 8) rfl), tb2 (List.mem_of_getElem? (i := 209) rfl), by decide +kernel⟩
theorem kX1_135 : Kw lw_T RX1 135 yX0_numberAt cX0_numberAt 5 (some .int) 2 := ⟨tbl_good, tb2 (List.mem_of_getElem? (i := 210) rfl), tb1 (List.mem_of_getElem? (i := 10) rfl), tb2 (List.mem_of_getElem? (i := 213) rfl), by decide +kernel⟩
theorem kX1_139 : Kw lw_T RX1 139 yX0_holds cX0_holds 6 (some .boolean) 3 := ⟨tbl_good, tb2 (List.mem_of_getElem? (i := 214) rfl), tb1 (List.mem_of_getElem? (i := 10) rfl), tb2 (List.mem_of_getElem? (i := 217) rfl), by decide +kernel⟩
theorem kX0_29 : Kw lw_T RX0 29 yX0_remainderOf cX0_remainderOf 6 (some .int) 3 := ⟨tbl_good, tb2 (List.mem_of_getElem? (i := 218) rfl), tb1 (List.mem_of_getElem? (i := 10) rfl), tb2 (List.mem_of_getElem? (i := 147) rfl), by decide +kernel⟩
theorem kX1_82 : Kw lw_T RX1 82 yX1_readHead cX1_readHead 2 none 1 := ⟨tbl_good, tb2 (List.mem_of_getElem? (i := 219) rfl), tb1 (List.mem_of_getElem? (i := 8) rfl), tb2 (List.mem_of_getElem? (i := 222) rfl), by decide +kernel⟩
theorem kX1_86 : Kw lw_T RX1 86 yX1_takeTens cX1_takeTens 6 (some .boolean) 2 := ⟨tbl_good, tb2 (List.mem_of_getElem? (i := 223) rfl), tb1 (List.mem_of_getElem? (i := 8) rfl), tb2 (List.mem_of_getElem? (i := 226) rfl), by decide +kernel⟩
theorem kX1_143 : Kw lw_T RX1 143 yX1_mendFifteen cX1_mendFifteen 2 (some .boolean) 0 := ⟨tbl_good, tb2 (List.mem_of_getElem? (i := 227) rfl), tb1 (List.mem_of_getElem? (i := 8) rfl), tb2 (List.mem_of_getElem? (i := 230) rfl), by decide +kernel⟩
theorem kX1_146 : Kw lw_T RX1 146 yX0_turnOver cX0_turnOver 2 none 1 := ⟨tbl_good, tb2 (List.mem_of_getElem? (i := 231) rfl), tb1 (List.mem_of_getElem? (i := 10) rfl), tb2 (List.mem_of_getElem? (i := 191) rfl), by decide +kernel⟩
theorem kX1_90 : Kw lw_T RX1 90 yX1_takePlain cX1_takePlain 2 (some .boolean) 1 := ⟨tbl_good, tb2 (List.mem_of_getElem? (i := 232) rfl), tb1 (List.mem_of_getElem? (i := 8) rfl), tb2 (List.mem_of_getElem? (i := 235) rfl), by decide +kernel⟩
theorem kX1_98 : Kw lw_T RX1 98 yX1_readLoad cX1_readLoad 7 (some .boolean) 1 := ⟨tbl_good, tb2 (List.mem_of_getElem? (i := 236) rfl), tb1 (List.mem_of_getElem? (i := 8) rfl), tb2 (List.mem_of_getElem? (i := 239) rfl), by decide +kernel⟩
theorem kX1_149 : Kw lw_T RX1 149 yX5_add cX5_add 2 none 1 := ⟨tbl_good, tb3 (List.mem_of_getElem? (i := 0) rfl), tb1 (List.mem_of_getElem? (i := 4) rfl), tb2 (List.mem_of_getElem? (i := 40) rfl), by decide +kernel⟩
theorem kX8_130 : Kw lw_T RX8 130 yX2_heed cX2_heed 3 (some .int) 2 := ⟨tbl_good, tb3 (List.mem_of_getElem? (i := 1) rfl), tb1 (List.mem_of_getElem? (i := 2) rfl), tb3 (List.mem_of_getElem? (i := 4) rfl), by decide +kernel⟩
theorem kX2_58 : Kw lw_T RX2 58 yX7_acknowledge cX7_acknowledge 1 none 0 := ⟨tbl_good, tb3 (List.mem_of_getElem? (i := 5) rfl), tb1 (List.mem_of_getElem? (i := 3) rfl), tb3 (List.mem_of_getElem? (i := 8) rfl), by decide +kernel⟩
theorem kX2_61 : Kw lw_T RX2 61 yX4_isNew cX4_isNew 2 (some .boolean) 1 := ⟨tbl_good, tb3 (List.mem_of_getElem? (i := 9) rfl), tb1 (List.mem_of_getElem? (i := 7) rfl), tb3 (List.mem_of_getElem? (i := 12) rfl), by decide +kernel⟩
theorem kX2_65 : Kw lw_T RX2 65 yX4_use cX4_use 2 none 1 := ⟨tbl_good, tb3 (List.mem_of_getElem? (i := 13) rfl), tb1 (List.mem_of_getElem? (i := 7) rfl), tb3 (List.mem_of_getElem? (i := 16) rfl), by decide +kernel⟩
theorem kX4_49 : Kw lw_T RX4 49 yX5_at cX5_at 2 (some .int) 1 := ⟨tbl_good, tb3 (List.mem_of_getElem? (i := 17) rfl), tb1 (List.mem_of_getElem? (i := 4) rfl), tb2 (List.mem_of_getElem? (i := 107) rfl), by decide +kernel⟩
theorem kX4_53 : Kw lw_T RX4 53 yX4_beginMessage cX4_beginMessage 2 none 1 := ⟨tbl_good, tb3 (List.mem_of_getElem? (i := 18) rfl), tb1 (List.mem_of_getElem? (i := 7) rfl), tb3 (List.mem_of_getElem? (i := 21) rfl), by decide +kernel⟩
theorem kX4_69 : Kw lw_T RX4 69 yX5_clear cX5_clear 1 none 0 := ⟨tbl_good, tb3 (List.mem_of_getElem? (i := 22) rfl), tb1 (List.mem_of_getElem? (i := 4) rfl), tb2 (List.mem_of_getElem? (i := 65) rfl), by decide +kernel⟩
theorem kX4_56 : Kw lw_T RX4 56 yX5_addAll cX5_addAll 5 none 3 := ⟨tbl_good, tb3 (List.mem_of_getElem? (i := 23) rfl), tb1 (List.mem_of_getElem? (i := 4) rfl), tb2 (List.mem_of_getElem? (i := 103) rfl), by decide +kernel⟩
theorem kX4_63 : Kw lw_T RX4 63 yX4_endMessage cX4_endMessage 1 none 0 := ⟨tbl_good, tb3 (List.mem_of_getElem? (i := 24) rfl), tb1 (List.mem_of_getElem? (i := 7) rfl), tb3 (List.mem_of_getElem? (i := 27) rfl), by decide +kernel⟩
theorem kX4_72 : Kw lw_T RX4 72 yX6_isFull cX6_isFull 1 (some .boolean) 0 := ⟨tbl_good, tb3 (List.mem_of_getElem? (i := 28) rfl), tb1 (List.mem_of_getElem? (i := 5) rfl), tb2 (List.mem_of_getElem? (i := 48) rfl), by decide +kernel⟩
theorem kX4_76 : Kw lw_T RX4 76 yX6_append cX6_append 2 none 1 := ⟨tbl_good, tb3 (List.mem_of_getElem? (i := 29) rfl), tb1 (List.mem_of_getElem? (i := 5) rfl), tb2 (List.mem_of_getElem? (i := 52) rfl), by decide +kernel⟩
theorem kXL_53 : Kw lw_T RXL 53 yX8_read cX8_read 4 (some .int) 2 := ⟨tbl_good, tb3 (List.mem_of_getElem? (i := 30) rfl), tb1 (List.mem_of_getElem? (i := 1) rfl), tb3 (List.mem_of_getElem? (i := 33) rfl), by decide +kernel⟩
theorem kX8_143 : Kw lw_T RX8 143 yX6_oldest cX6_oldest 1 (some (.object "RadioPair$Message")) 0 := ⟨tbl_good, tb3 (List.mem_of_getElem? (i := 34) rfl), tb1 (List.mem_of_getElem? (i := 5) rfl), tb2 (List.mem_of_getElem? (i := 97) rfl), by decide +kernel⟩
theorem kX8_147 : Kw lw_T RX8 147 yX5_has cX5_has 2 (some .boolean) 1 := ⟨tbl_good, tb3 (List.mem_of_getElem? (i := 35) rfl), tb1 (List.mem_of_getElem? (i := 4) rfl), tb3 (List.mem_of_getElem? (i := 38) rfl), by decide +kernel⟩
theorem kX8_148 : Kw lw_T RX8 148 yX5_at cX5_at 2 (some .int) 1 := ⟨tbl_good, tb3 (List.mem_of_getElem? (i := 39) rfl), tb1 (List.mem_of_getElem? (i := 4) rfl), tb2 (List.mem_of_getElem? (i := 107) rfl), by decide +kernel⟩
theorem kXL_57 : Kw lw_T RXL 57 yX8_next cX8_next 4 (some .int) 1 := ⟨tbl_good, tb3 (List.mem_of_getElem? (i := 40) rfl), tb1 (List.mem_of_getElem? (i := 1) rfl), tb3 (List.mem_of_getElem? (i := 43) rfl), by decide +kernel⟩
theorem kX8_149 : Kw lw_T RX8 149 yX6_dropOldest cX6_dropOldest 1 none 0 := ⟨tbl_good, tb3 (List.mem_of_getElem? (i := 44) rfl), tb1 (List.mem_of_getElem? (i := 5) rfl), tb2 (List.mem_of_getElem? (i := 112) rfl), by decide +kernel⟩
theorem kXL_61 : Kw lw_T RXL 61 yX8_state cX8_state 3 (some .int) 2 := ⟨tbl_good, tb3 (List.mem_of_getElem? (i := 45) rfl), tb1 (List.mem_of_getElem? (i := 1) rfl), tb3 (List.mem_of_getElem? (i := 48) rfl), by decide +kernel⟩
theorem kX8_152 : Kw lw_T RX8 152 yX2_tell cX2_tell 2 (some .int) 1 := ⟨tbl_good, tb3 (List.mem_of_getElem? (i := 49) rfl), tb1 (List.mem_of_getElem? (i := 2) rfl), tb3 (List.mem_of_getElem? (i := 52) rfl), by decide +kernel⟩
theorem kX2_81 : Kw lw_T RX2 81 yX7_bytesLeft cX7_bytesLeft 1 (some .int) 0 := ⟨tbl_good, tb3 (List.mem_of_getElem? (i := 53) rfl), tb1 (List.mem_of_getElem? (i := 3) rfl), tb2 (List.mem_of_getElem? (i := 89) rfl), by decide +kernel⟩
theorem kX2_85 : Kw lw_T RX2 85 yX7_bytesUnacknowledged cX7_bytesUnacknowledged 1 (some .int) 0 := ⟨tbl_good, tb3 (List.mem_of_getElem? (i := 54) rfl), tb1 (List.mem_of_getElem? (i := 3) rfl), tb3 (List.mem_of_getElem? (i := 57) rfl), by decide +kernel⟩
theorem kX2_88 : Kw lw_T RX2 88 yX4_bytesSoFar cX4_bytesSoFar 1 (some .int) 0 := ⟨tbl_good, tb3 (List.mem_of_getElem? (i := 58) rfl), tb1 (List.mem_of_getElem? (i := 7) rfl), tb3 (List.mem_of_getElem? (i := 61) rfl), by decide +kernel⟩
theorem kXL_65 : Kw lw_T RXL 65 yX8_count cX8_count 2 (some .int) 1 := ⟨tbl_good, tb3 (List.mem_of_getElem? (i := 62) rfl), tb1 (List.mem_of_getElem? (i := 1) rfl), tb3 (List.mem_of_getElem? (i := 65) rfl), by decide +kernel⟩
theorem kXL_9 : Kw lw_T RXL 9 yXL_cell cXL_cell 2 (some .int) 2 := ⟨tbl_good, tb3 (List.mem_of_getElem? (i := 66) rfl), tb1 (List.mem_of_getElem? (i := 0) rfl), tb3 (List.mem_of_getElem? (i := 68) rfl), by decide +kernel⟩
theorem mXL_c18 : Cond.classLink RXL 18 RX9 ∈ lw_T := tb3 (List.mem_of_getElem? (i := 69) rfl)
theorem nXL_18 : Cond.classLink RXL 18 RX9 ∈ lw_T ∧ Cond.instantiable RX9 32 ∈ lw_T ∧ Cond.initialized RX9 ∈ lw_T := ⟨mXL_c18, tb3 (List.mem_of_getElem? (i := 70) rfl), tb1 (List.mem_of_getElem? (i := 11) rfl)⟩
theorem kXL_20 : Kw lw_T RXL 20 yX9_init cX9_init 3 none 1 := ⟨tbl_good, tb3 (List.mem_of_getElem? (i := 71) rfl), tb1 (List.mem_of_getElem? (i := 11) rfl), tb3 (List.mem_of_getElem? (i := 73) rfl), by decide +kernel⟩
theorem mX9_1 : Cond.methodLink RX9 1 Lib.objectInit ∈ lw_T := tb3 (List.mem_of_getElem? (i := 74) rfl)
theorem fX9_95 : Fg lw_T RX9 95 (RX9, TX9, 32) 0 := ⟨iX9, by decide, tb3 (List.mem_of_getElem? (i := 75) rfl)⟩
theorem fX9_131 : Fg lw_T RX9 131 (RX9, TX9, 32) 1 := ⟨iX9, by decide, tb3 (List.mem_of_getElem? (i := 76) rfl)⟩
theorem fX9_122 : Fg lw_T RX9 122 (RX9, TX9, 32) 2 := ⟨iX9, by decide, tb3 (List.mem_of_getElem? (i := 77) rfl)⟩
theorem fX9_7 : Fg lw_T RX9 7 (RX9, TX9, 32) 3 := ⟨iX9, by decide, tb3 (List.mem_of_getElem? (i := 78) rfl)⟩
theorem fX9_13 : Fg lw_T RX9 13 (RX9, TX9, 32) 4 := ⟨iX9, by decide, tb3 (List.mem_of_getElem? (i := 79) rfl)⟩
theorem fX9_103 : Fg lw_T RX9 103 (RX9, TX9, 32) 5 := ⟨iX9, by decide, tb3 (List.mem_of_getElem? (i := 80) rfl)⟩
theorem fX9_16 : Fg lw_T RX9 16 (RX9, TX9, 32) 6 := ⟨iX9, by decide, tb3 (List.mem_of_getElem? (i := 81) rfl)⟩
theorem fX9_19 : Fg lw_T RX9 19 (RX9, TX9, 32) 7 := ⟨iX9, by decide, tb3 (List.mem_of_getElem? (i := 82) rfl)⟩
theorem fX9_22 : Fg lw_T RX9 22 (RX9, TX9, 32) 8 := ⟨iX9, by decide, tb3 (List.mem_of_getElem? (i := 83) rfl)⟩
theorem fX9_25 : Fg lw_T RX9 25 (RX9, TX9, 32) 9 := ⟨iX9, by decide, tb3 (List.mem_of_getElem? (i := 84) rfl)⟩
theorem fX9_28 : Fg lw_T RX9 28 (RX9, TX9, 32) 10 := ⟨iX9, by decide, tb3 (List.mem_of_getElem? (i := 85) rfl)⟩
theorem fX9_31 : Fg lw_T RX9 31 (RX9, TX9, 32) 11 := ⟨iX9, by decide, tb3 (List.mem_of_getElem? (i := 86) rfl)⟩
theorem fX9_34 : Fg lw_T RX9 34 (RX9, TX9, 32) 12 := ⟨iX9, by decide, tb3 (List.mem_of_getElem? (i := 87) rfl)⟩
theorem fX9_37 : Fg lw_T RX9 37 (RX9, TX9, 32) 13 := ⟨iX9, by decide, tb3 (List.mem_of_getElem? (i := 88) rfl)⟩
theorem fX9_40 : Fg lw_T RX9 40 (RX9, TX9, 32) 14 := ⟨iX9, by decide, tb3 (List.mem_of_getElem? (i := 89) rfl)⟩
theorem fX9_43 : Fg lw_T RX9 43 (RX9, TX9, 32) 15 := ⟨iX9, by decide, tb3 (List.mem_of_getElem? (i := 90) rfl)⟩
theorem fX9_46 : Fg lw_T RX9 46 (RX9, TX9, 32) 16 := ⟨iX9, by decide, tb3 (List.mem_of_getElem? (i := 91) rfl)⟩
theorem fX9_49 : Fg lw_T RX9 49 (RX9, TX9, 32) 17 := ⟨iX9, by decide, tb3 (List.mem_of_getElem? (i := 92) rfl)⟩
theorem fX9_53 : Fg lw_T RX9 53 (RX9, TX9, 32) 18 := ⟨iX9, by decide, tb3 (List.mem_of_getElem? (i := 93) rfl)⟩
theorem fX9_56 : Fg lw_T RX9 56 (RX9, TX9, 32) 19 := ⟨iX9, by decide, tb3 (List.mem_of_getElem? (i := 94) rfl)⟩
theorem fX9_59 : Fg lw_T RX9 59 (RX9, TX9, 32) 20 := ⟨iX9, by decide, tb3 (List.mem_of_getElem? (i := 95) rfl)⟩
theorem fX9_62 : Fg lw_T RX9 62 (RX9, TX9, 32) 21 := ⟨iX9, by decide, tb3 (List.mem_of_getElem? (i := 96) rfl)⟩
theorem fX9_65 : Fg lw_T RX9 65 (RX9, TX9, 32) 22 := ⟨iX9, by decide, tb3 (List.mem_of_getElem? (i := 97) rfl)⟩
theorem fX9_68 : Fg lw_T RX9 68 (RX9, TX9, 32) 23 := ⟨iX9, by decide, tb3 (List.mem_of_getElem? (i := 98) rfl)⟩
theorem fX9_71 : Fg lw_T RX9 71 (RX9, TX9, 32) 24 := ⟨iX9, by decide, tb3 (List.mem_of_getElem? (i := 99) rfl)⟩
theorem fX9_74 : Fg lw_T RX9 74 (RX9, TX9, 32) 25 := ⟨iX9, by decide, tb3 (List.mem_of_getElem? (i := 100) rfl)⟩
theorem fX9_77 : Fg lw_T RX9 77 (RX9, TX9, 32) 26 := ⟨iX9, by decide, tb3 (List.mem_of_getElem? (i := 101) rfl)⟩
theorem fX9_80 : Fg lw_T RX9 80 (RX9, TX9, 32) 27 := ⟨iX9, by decide, tb3 (List.mem_of_getElem? (i := 102) rfl)⟩
theorem fX9_83 : Fg lw_T RX9 83 (RX9, TX9, 32) 28 := ⟨iX9, by decide, tb3 (List.mem_of_getElem? (i := 103) rfl)⟩
theorem fX9_86 : Fg lw_T RX9 86 (RX9, TX9, 32) 29 := ⟨iX9, by decide, tb3 (List.mem_of_getElem? (i := 104) rfl)⟩
theorem fX9_89 : Fg lw_T RX9 89 (RX9, TX9, 32) 30 := ⟨iX9, by decide, tb3 (List.mem_of_getElem? (i := 105) rfl)⟩
theorem fX9_92 : Fg lw_T RX9 92 (RX9, TX9, 32) 31 := ⟨iX9, by decide, tb3 (List.mem_of_getElem? (i := 106) rfl)⟩
theorem kXL_25 : Kw lw_T RXL 25 yX9_guard cX9_guard 3 (some .int) 2 := ⟨tbl_good, tb3 (List.mem_of_getElem? (i := 173) rfl), tb1 (List.mem_of_getElem? (i := 11) rfl), tb3 (List.mem_of_getElem? (i := 176) rfl), by decide +kernel⟩
theorem kX9_99 : Kw lw_T RX9 99 yX9_in cX9_in 3 (some .boolean) 3 := ⟨tbl_good, tb3 (List.mem_of_getElem? (i := 177) rfl), tb1 (List.mem_of_getElem? (i := 11) rfl), tb3 (List.mem_of_getElem? (i := 179) rfl), by decide +kernel⟩
theorem kXL_30 : Kw lw_T RXL 30 yX9_write cX9_write 3 (some .int) 2 := ⟨tbl_good, tb3 (List.mem_of_getElem? (i := 180) rfl), tb1 (List.mem_of_getElem? (i := 11) rfl), tb3 (List.mem_of_getElem? (i := 183) rfl), by decide +kernel⟩
theorem kXL_35 : Kw lw_T RXL 35 yX9_send cX9_send 4 (some .int) 1 := ⟨tbl_good, tb3 (List.mem_of_getElem? (i := 184) rfl), tb1 (List.mem_of_getElem? (i := 11) rfl), tb3 (List.mem_of_getElem? (i := 187) rfl), by decide +kernel⟩
theorem kXL_40 : Kw lw_T RXL 40 yX9_slot cX9_slot 3 (some .int) 0 := ⟨tbl_good, tb3 (List.mem_of_getElem? (i := 188) rfl), tb1 (List.mem_of_getElem? (i := 11) rfl), tb3 (List.mem_of_getElem? (i := 191) rfl), by decide +kernel⟩
theorem kX9_145 : Kw lw_T RX9 145 yX9_speak cX9_speak 5 (some .int) 1 := ⟨tbl_good, tb3 (List.mem_of_getElem? (i := 192) rfl), tb1 (List.mem_of_getElem? (i := 11) rfl), tb3 (List.mem_of_getElem? (i := 195) rfl), by decide +kernel⟩
theorem kX9_128 : Kw lw_T RX9 128 yX9_newFrame cX9_newFrame 5 none 1 := ⟨tbl_good, tb3 (List.mem_of_getElem? (i := 196) rfl), tb1 (List.mem_of_getElem? (i := 11) rfl), tb3 (List.mem_of_getElem? (i := 199) rfl), by decide +kernel⟩
theorem kX9_118 : Kw lw_T RX9 118 yX9_startSending cX9_startSending 5 none 1 := ⟨tbl_good, tb3 (List.mem_of_getElem? (i := 200) rfl), tb1 (List.mem_of_getElem? (i := 11) rfl), tb3 (List.mem_of_getElem? (i := 203) rfl), by decide +kernel⟩
theorem kX9_134 : Kw lw_T RX9 134 yX9_whiten cX9_whiten 3 none 1 := ⟨tbl_good, tb3 (List.mem_of_getElem? (i := 204) rfl), tb1 (List.mem_of_getElem? (i := 11) rfl), tb3 (List.mem_of_getElem? (i := 207) rfl), by decide +kernel⟩
theorem kX9_114 : Kw lw_T RX9 114 yX9_put cX9_put 4 none 2 := ⟨tbl_good, tb3 (List.mem_of_getElem? (i := 208) rfl), tb1 (List.mem_of_getElem? (i := 11) rfl), tb3 (List.mem_of_getElem? (i := 211) rfl), by decide +kernel⟩
theorem kX9_137 : Kw lw_T RX9 137 yX9_putRem cX9_putRem 7 none 4 := ⟨tbl_good, tb3 (List.mem_of_getElem? (i := 212) rfl), tb1 (List.mem_of_getElem? (i := 11) rfl), tb3 (List.mem_of_getElem? (i := 215) rfl), by decide +kernel⟩
theorem kX9_110 : Kw lw_T RX9 110 yX9_rem cX9_rem 8 (some .int) 4 := ⟨tbl_good, tb3 (List.mem_of_getElem? (i := 216) rfl), tb1 (List.mem_of_getElem? (i := 11) rfl), tb3 (List.mem_of_getElem? (i := 219) rfl), by decide +kernel⟩
theorem kX9_106 : Kw lw_T RX9 106 yX9_twice cX9_twice 3 (some .int) 3 := ⟨tbl_good, tb3 (List.mem_of_getElem? (i := 220) rfl), tb1 (List.mem_of_getElem? (i := 11) rfl), tb3 (List.mem_of_getElem? (i := 222) rfl), by decide +kernel⟩
theorem mX9_k141 : Cond.constant RX9 141 (nI 69665) ∈ lw_T := tb3 (List.mem_of_getElem? (i := 223) rfl)
theorem kX9_142 : Kw lw_T RX9 142 yX9_sendBits cX9_sendBits 7 none 1 := ⟨tbl_good, tb3 (List.mem_of_getElem? (i := 224) rfl), tb1 (List.mem_of_getElem? (i := 11) rfl), tb3 (List.mem_of_getElem? (i := 227) rfl), by decide +kernel⟩
theorem kX9_125 : Kw lw_T RX9 125 yX9_push cX9_push 2 none 1 := ⟨tbl_good, tb3 (List.mem_of_getElem? (i := 228) rfl), tb1 (List.mem_of_getElem? (i := 11) rfl), tb3 (List.mem_of_getElem? (i := 231) rfl), by decide +kernel⟩
theorem kXL_44 : Kw lw_T RXL 44 yX9_air cX9_air 2 (some .int) 1 := ⟨tbl_good, tb3 (List.mem_of_getElem? (i := 232) rfl), tb1 (List.mem_of_getElem? (i := 11) rfl), tb3 (List.mem_of_getElem? (i := 235) rfl), by decide +kernel⟩
theorem kXL_48 : Kw lw_T RXL 48 yX9_flip cX9_flip 2 (some .int) 1 := ⟨tbl_good, tb3 (List.mem_of_getElem? (i := 236) rfl), tb1 (List.mem_of_getElem? (i := 11) rfl), tb3 (List.mem_of_getElem? (i := 239) rfl), by decide +kernel⟩
theorem kXL_52 : Kw lw_T RXL 52 yX9_hear cX9_hear 7 (some .int) 0 := ⟨tbl_good, tb4 (List.mem_of_getElem? (i := 0) rfl), tb1 (List.mem_of_getElem? (i := 11) rfl), tb4 (List.mem_of_getElem? (i := 3) rfl), by decide +kernel⟩
theorem kX9_168 : Kw lw_T RX9 168 yX9_headGood cX9_headGood 3 (some .boolean) 0 := ⟨tbl_good, tb4 (List.mem_of_getElem? (i := 4) rfl), tb1 (List.mem_of_getElem? (i := 11) rfl), tb4 (List.mem_of_getElem? (i := 7) rfl), by decide +kernel⟩
theorem kX9_149 : Kw lw_T RX9 149 yX9_remStands cX9_remStands 7 (some .boolean) 4 := ⟨tbl_good, tb4 (List.mem_of_getElem? (i := 8) rfl), tb1 (List.mem_of_getElem? (i := 11) rfl), tb4 (List.mem_of_getElem? (i := 11) rfl), by decide +kernel⟩
theorem kX9_153 : Kw lw_T RX9 153 yX9_number cX9_number 5 (some .int) 2 := ⟨tbl_good, tb4 (List.mem_of_getElem? (i := 12) rfl), tb1 (List.mem_of_getElem? (i := 11) rfl), tb4 (List.mem_of_getElem? (i := 15) rfl), by decide +kernel⟩
theorem kX9_172 : Kw lw_T RX9 172 yX9_loadGood cX9_loadGood 4 (some .boolean) 2 := ⟨tbl_good, tb4 (List.mem_of_getElem? (i := 16) rfl), tb1 (List.mem_of_getElem? (i := 11) rfl), tb4 (List.mem_of_getElem? (i := 19) rfl), by decide +kernel⟩
theorem kX9_161 : Kw lw_T RX9 161 yX9_loadBits cX9_loadBits 6 (some .boolean) 2 := ⟨tbl_good, tb4 (List.mem_of_getElem? (i := 20) rfl), tb1 (List.mem_of_getElem? (i := 11) rfl), tb4 (List.mem_of_getElem? (i := 23) rfl), by decide +kernel⟩
theorem kX9_157 : Kw lw_T RX9 157 yX9_mended cX9_mended 3 (some .boolean) 1 := ⟨tbl_good, tb4 (List.mem_of_getElem? (i := 24) rfl), tb1 (List.mem_of_getElem? (i := 11) rfl), tb4 (List.mem_of_getElem? (i := 27) rfl), by decide +kernel⟩
theorem kX9_175 : Kw lw_T RX9 175 yX9_use cX9_use 5 none 1 := ⟨tbl_good, tb4 (List.mem_of_getElem? (i := 28) rfl), tb1 (List.mem_of_getElem? (i := 11) rfl), tb4 (List.mem_of_getElem? (i := 31) rfl), by decide +kernel⟩
theorem kX9_165 : Kw lw_T RX9 165 yX9_finish cX9_finish 4 none 1 := ⟨tbl_good, tb4 (List.mem_of_getElem? (i := 32) rfl), tb1 (List.mem_of_getElem? (i := 11) rfl), tb4 (List.mem_of_getElem? (i := 35) rfl), by decide +kernel⟩
theorem kXL_56 : Kw lw_T RXL 56 yX9_read cX9_read 3 (some .int) 2 := ⟨tbl_good, tb4 (List.mem_of_getElem? (i := 36) rfl), tb1 (List.mem_of_getElem? (i := 11) rfl), tb4 (List.mem_of_getElem? (i := 39) rfl), by decide +kernel⟩
theorem kXL_60 : Kw lw_T RXL 60 yX9_next cX9_next 5 (some .int) 1 := ⟨tbl_good, tb4 (List.mem_of_getElem? (i := 40) rfl), tb1 (List.mem_of_getElem? (i := 11) rfl), tb4 (List.mem_of_getElem? (i := 43) rfl), by decide +kernel⟩
theorem kXL_64 : Kw lw_T RXL 64 yX9_state cX9_state 3 (some .int) 2 := ⟨tbl_good, tb4 (List.mem_of_getElem? (i := 44) rfl), tb1 (List.mem_of_getElem? (i := 11) rfl), tb4 (List.mem_of_getElem? (i := 47) rfl), by decide +kernel⟩
theorem kXL_68 : Kw lw_T RXL 68 yX9_count cX9_count 2 (some .int) 1 := ⟨tbl_good, tb4 (List.mem_of_getElem? (i := 48) rfl), tb1 (List.mem_of_getElem? (i := 11) rfl), tb4 (List.mem_of_getElem? (i := 51) rfl), by decide +kernel⟩
theorem vX8_init : Cond.instanceMethod yX8_init ∈ lw_T ∧ yX8_init.name = "<init>" := ⟨tb1 (List.mem_of_getElem? (i := 16) rfl), rfl⟩
theorem vX2_init : Cond.instanceMethod yX2_init ∈ lw_T ∧ yX2_init.name = "<init>" := ⟨tb1 (List.mem_of_getElem? (i := 25) rfl), rfl⟩
theorem vX7_init : Cond.instanceMethod yX7_init ∈ lw_T ∧ yX7_init.name = "<init>" := ⟨tb1 (List.mem_of_getElem? (i := 31) rfl), rfl⟩
theorem vX5_init : Cond.instanceMethod yX5_init ∈ lw_T ∧ yX5_init.name = "<init>" := ⟨tb1 (List.mem_of_getElem? (i := 37) rfl), rfl⟩
theorem vX6_init : Cond.instanceMethod yX6_init ∈ lw_T ∧ yX6_init.name = "<init>" := ⟨tb1 (List.mem_of_getElem? (i := 55) rfl), rfl⟩
theorem vX3_init : Cond.instanceMethod yX3_init ∈ lw_T ∧ yX3_init.name = "<init>" := ⟨tb1 (List.mem_of_getElem? (i := 76) rfl), rfl⟩
theorem vX4_init : Cond.instanceMethod yX4_init ∈ lw_T ∧ yX4_init.name = "<init>" := ⟨tb1 (List.mem_of_getElem? (i := 147) rfl), rfl⟩
theorem vX1_init : Cond.instanceMethod yX1_init ∈ lw_T ∧ yX1_init.name = "<init>" := ⟨tb1 (List.mem_of_getElem? (i := 208) rfl), rfl⟩
theorem vX0_init : Cond.instanceMethod yX0_init ∈ lw_T ∧ yX0_init.name = "<init>" := ⟨tb1 (List.mem_of_getElem? (i := 214) rfl), rfl⟩
theorem vX8_guard : Cond.instanceMethod yX8_guard ∈ lw_T ∧ Cond.selects yX8_guard.cls yX8_guard yX8_guard ∈ lw_T := ⟨tb2 (List.mem_of_getElem? (i := 23) rfl), tb2 (List.mem_of_getElem? (i := 24) rfl)⟩
theorem vX8_isDevice : Cond.static yX8_isDevice ∈ lw_T := tb2 (List.mem_of_getElem? (i := 27) rfl)
theorem vX8_write : Cond.instanceMethod yX8_write ∈ lw_T ∧ Cond.selects yX8_write.cls yX8_write yX8_write ∈ lw_T := ⟨tb2 (List.mem_of_getElem? (i := 30) rfl), tb2 (List.mem_of_getElem? (i := 31) rfl)⟩
theorem vX5_isFull : Cond.instanceMethod yX5_isFull ∈ lw_T ∧ Cond.selects yX5_isFull.cls yX5_isFull yX5_isFull ∈ lw_T := ⟨tb2 (List.mem_of_getElem? (i := 34) rfl), tb2 (List.mem_of_getElem? (i := 35) rfl)⟩
theorem vX5_add : Cond.instanceMethod yX5_add ∈ lw_T ∧ Cond.selects yX5_add.cls yX5_add yX5_add ∈ lw_T := ⟨tb2 (List.mem_of_getElem? (i := 38) rfl), tb2 (List.mem_of_getElem? (i := 39) rfl)⟩
theorem vX8_send : Cond.instanceMethod yX8_send ∈ lw_T ∧ Cond.selects yX8_send.cls yX8_send yX8_send ∈ lw_T := ⟨tb2 (List.mem_of_getElem? (i := 42) rfl), tb2 (List.mem_of_getElem? (i := 43) rfl)⟩
theorem vX6_isFull : Cond.instanceMethod yX6_isFull ∈ lw_T ∧ Cond.selects yX6_isFull.cls yX6_isFull yX6_isFull ∈ lw_T := ⟨tb2 (List.mem_of_getElem? (i := 46) rfl), tb2 (List.mem_of_getElem? (i := 47) rfl)⟩
theorem vX6_append : Cond.instanceMethod yX6_append ∈ lw_T ∧ Cond.selects yX6_append.cls yX6_append yX6_append ∈ lw_T := ⟨tb2 (List.mem_of_getElem? (i := 50) rfl), tb2 (List.mem_of_getElem? (i := 51) rfl)⟩
theorem vX5_become : Cond.instanceMethod yX5_become ∈ lw_T ∧ Cond.selects yX5_become.cls yX5_become yX5_become ∈ lw_T := ⟨tb2 (List.mem_of_getElem? (i := 55) rfl), tb2 (List.mem_of_getElem? (i := 56) rfl)⟩
theorem vX5_clear : Cond.instanceMethod yX5_clear ∈ lw_T ∧ Cond.selects yX5_clear.cls yX5_clear yX5_clear ∈ lw_T := ⟨tb2 (List.mem_of_getElem? (i := 63) rfl), tb2 (List.mem_of_getElem? (i := 64) rfl)⟩
theorem vX8_slot : Cond.instanceMethod yX8_slot ∈ lw_T ∧ Cond.selects yX8_slot.cls yX8_slot yX8_slot ∈ lw_T := ⟨tb2 (List.mem_of_getElem? (i := 67) rfl), tb2 (List.mem_of_getElem? (i := 68) rfl)⟩
theorem vX0_clear : Cond.instanceMethod yX0_clear ∈ lw_T ∧ Cond.selects yX0_clear.cls yX0_clear yX0_clear ∈ lw_T := ⟨tb2 (List.mem_of_getElem? (i := 71) rfl), tb2 (List.mem_of_getElem? (i := 72) rfl)⟩
theorem vX8_deviceOfTurn : Cond.instanceMethod yX8_deviceOfTurn ∈ lw_T ∧ Cond.selects yX8_deviceOfTurn.cls yX8_deviceOfTurn yX8_deviceOfTurn ∈ lw_T := ⟨tb2 (List.mem_of_getElem? (i := 76) rfl), tb0 (y := yX8_deviceOfTurn) (List.mem_of_getElem? (i := 0) rfl)⟩
theorem vX2_speak : Cond.instanceMethod yX2_speak ∈ lw_T ∧ Cond.selects yX2_speak.cls yX2_speak yX2_speak ∈ lw_T := ⟨tb2 (List.mem_of_getElem? (i := 79) rfl), tb2 (List.mem_of_getElem? (i := 80) rfl)⟩
theorem vX7_loaded : Cond.instanceMethod yX7_loaded ∈ lw_T ∧ Cond.selects yX7_loaded.cls yX7_loaded yX7_loaded ∈ lw_T := ⟨tb2 (List.mem_of_getElem? (i := 83) rfl), tb2 (List.mem_of_getElem? (i := 84) rfl)⟩
theorem vX7_bytesLeft : Cond.instanceMethod yX7_bytesLeft ∈ lw_T ∧ Cond.selects yX7_bytesLeft.cls yX7_bytesLeft yX7_bytesLeft ∈ lw_T := ⟨tb2 (List.mem_of_getElem? (i := 87) rfl), tb2 (List.mem_of_getElem? (i := 88) rfl)⟩
theorem vX7_beginMessage : Cond.instanceMethod yX7_beginMessage ∈ lw_T ∧ Cond.selects yX7_beginMessage.cls yX7_beginMessage yX7_beginMessage ∈ lw_T := ⟨tb2 (List.mem_of_getElem? (i := 92) rfl), tb0 (y := yX7_beginMessage) (List.mem_of_getElem? (i := 1) rfl)⟩
theorem vX6_oldest : Cond.instanceMethod yX6_oldest ∈ lw_T ∧ Cond.selects yX6_oldest.cls yX6_oldest yX6_oldest ∈ lw_T := ⟨tb2 (List.mem_of_getElem? (i := 95) rfl), tb2 (List.mem_of_getElem? (i := 96) rfl)⟩
theorem vX5_addAll : Cond.instanceMethod yX5_addAll ∈ lw_T ∧ Cond.selects yX5_addAll.cls yX5_addAll yX5_addAll ∈ lw_T := ⟨tb2 (List.mem_of_getElem? (i := 101) rfl), tb2 (List.mem_of_getElem? (i := 102) rfl)⟩
theorem vX5_at : Cond.instanceMethod yX5_at ∈ lw_T ∧ Cond.selects yX5_at.cls yX5_at yX5_at ∈ lw_T := ⟨tb2 (List.mem_of_getElem? (i := 105) rfl), tb2 (List.mem_of_getElem? (i := 106) rfl)⟩
theorem vX6_dropOldest : Cond.instanceMethod yX6_dropOldest ∈ lw_T ∧ Cond.selects yX6_dropOldest.cls yX6_dropOldest yX6_dropOldest ∈ lw_T := ⟨tb2 (List.mem_of_getElem? (i := 110) rfl), tb2 (List.mem_of_getElem? (i := 111) rfl)⟩
theorem vX7_makeFrame : Cond.instanceMethod yX7_makeFrame ∈ lw_T ∧ Cond.selects yX7_makeFrame.cls yX7_makeFrame yX7_makeFrame ∈ lw_T := ⟨tb2 (List.mem_of_getElem? (i := 115) rfl), tb0 (y := yX7_makeFrame) (List.mem_of_getElem? (i := 2) rfl)⟩
theorem vX1_put : Cond.instanceMethod yX1_put ∈ lw_T ∧ Cond.selects yX1_put.cls yX1_put yX1_put ∈ lw_T := ⟨tb2 (List.mem_of_getElem? (i := 119) rfl), tb2 (List.mem_of_getElem? (i := 120) rfl)⟩
theorem vX1_makeWhite : Cond.instanceMethod yX1_makeWhite ∈ lw_T ∧ Cond.selects yX1_makeWhite.cls yX1_makeWhite yX1_makeWhite ∈ lw_T := ⟨tb2 (List.mem_of_getElem? (i := 124) rfl), tb0 (y := yX1_makeWhite) (List.mem_of_getElem? (i := 3) rfl)⟩
theorem vX0_addNumber : Cond.instanceMethod yX0_addNumber ∈ lw_T ∧ Cond.selects yX0_addNumber.cls yX0_addNumber yX0_addNumber ∈ lw_T := ⟨tb2 (List.mem_of_getElem? (i := 128) rfl), tb2 (List.mem_of_getElem? (i := 129) rfl)⟩
theorem vX0_add : Cond.instanceMethod yX0_add ∈ lw_T ∧ Cond.selects yX0_add.cls yX0_add yX0_add ∈ lw_T := ⟨tb2 (List.mem_of_getElem? (i := 132) rfl), tb2 (List.mem_of_getElem? (i := 133) rfl)⟩
theorem vX0_at : Cond.instanceMethod yX0_at ∈ lw_T ∧ Cond.selects yX0_at.cls yX0_at yX0_at ∈ lw_T := ⟨tb2 (List.mem_of_getElem? (i := 136) rfl), tb2 (List.mem_of_getElem? (i := 137) rfl)⟩
theorem vX1_putHead : Cond.instanceMethod yX1_putHead ∈ lw_T ∧ Cond.selects yX1_putHead.cls yX1_putHead yX1_putHead ∈ lw_T := ⟨tb2 (List.mem_of_getElem? (i := 142) rfl), tb0 (y := yX1_putHead) (List.mem_of_getElem? (i := 4) rfl)⟩
theorem vX0_remainderOf : Cond.instanceMethod yX0_remainderOf ∈ lw_T ∧ Cond.selects yX0_remainderOf.cls yX0_remainderOf yX0_remainderOf ∈ lw_T := ⟨tb2 (List.mem_of_getElem? (i := 145) rfl), tb2 (List.mem_of_getElem? (i := 146) rfl)⟩
theorem vX0_addRemainder : Cond.instanceMethod yX0_addRemainder ∈ lw_T ∧ Cond.selects yX0_addRemainder.cls yX0_addRemainder yX0_addRemainder ∈ lw_T := ⟨tb2 (List.mem_of_getElem? (i := 150) rfl), tb2 (List.mem_of_getElem? (i := 151) rfl)⟩
theorem vX0_whiten : Cond.instanceMethod yX0_whiten ∈ lw_T ∧ Cond.selects yX0_whiten.cls yX0_whiten yX0_whiten ∈ lw_T := ⟨tb2 (List.mem_of_getElem? (i := 154) rfl), tb2 (List.mem_of_getElem? (i := 155) rfl)⟩
theorem vX3_hasLoad : Cond.instanceMethod yX3_hasLoad ∈ lw_T ∧ Cond.selects yX3_hasLoad.cls yX3_hasLoad yX3_hasLoad ∈ lw_T := ⟨tb2 (List.mem_of_getElem? (i := 158) rfl), tb2 (List.mem_of_getElem? (i := 159) rfl)⟩
theorem vX1_makeLoad : Cond.instanceMethod yX1_makeLoad ∈ lw_T ∧ Cond.selects yX1_makeLoad.cls yX1_makeLoad yX1_makeLoad ∈ lw_T := ⟨tb2 (List.mem_of_getElem? (i := 163) rfl), tb0 (y := yX1_makeLoad) (List.mem_of_getElem? (i := 5) rfl)⟩
theorem vX1_putTens : Cond.instanceMethod yX1_putTens ∈ lw_T ∧ Cond.selects yX1_putTens.cls yX1_putTens yX1_putTens ∈ lw_T := ⟨tb2 (List.mem_of_getElem? (i := 169) rfl), tb0 (y := yX1_putTens) (List.mem_of_getElem? (i := 6) rfl)⟩
theorem vX0_addAll : Cond.instanceMethod yX0_addAll ∈ lw_T ∧ Cond.selects yX0_addAll.cls yX0_addAll yX0_addAll ∈ lw_T := ⟨tb2 (List.mem_of_getElem? (i := 172) rfl), tb2 (List.mem_of_getElem? (i := 173) rfl)⟩
theorem vX8_air : Cond.instanceMethod yX8_air ∈ lw_T ∧ Cond.selects yX8_air.cls yX8_air yX8_air ∈ lw_T := ⟨tb2 (List.mem_of_getElem? (i := 176) rfl), tb2 (List.mem_of_getElem? (i := 177) rfl)⟩
theorem vX0_has : Cond.instanceMethod yX0_has ∈ lw_T ∧ Cond.selects yX0_has.cls yX0_has yX0_has ∈ lw_T := ⟨tb2 (List.mem_of_getElem? (i := 180) rfl), tb2 (List.mem_of_getElem? (i := 181) rfl)⟩
theorem vX8_flip : Cond.instanceMethod yX8_flip ∈ lw_T ∧ Cond.selects yX8_flip.cls yX8_flip yX8_flip ∈ lw_T := ⟨tb2 (List.mem_of_getElem? (i := 185) rfl), tb2 (List.mem_of_getElem? (i := 186) rfl)⟩
theorem vX0_turnOver : Cond.instanceMethod yX0_turnOver ∈ lw_T ∧ Cond.selects yX0_turnOver.cls yX0_turnOver yX0_turnOver ∈ lw_T := ⟨tb2 (List.mem_of_getElem? (i := 189) rfl), tb2 (List.mem_of_getElem? (i := 190) rfl)⟩
theorem vX8_hear : Cond.instanceMethod yX8_hear ∈ lw_T ∧ Cond.selects yX8_hear.cls yX8_hear yX8_hear ∈ lw_T := ⟨tb2 (List.mem_of_getElem? (i := 194) rfl), tb2 (List.mem_of_getElem? (i := 195) rfl)⟩
theorem vX1_take : Cond.instanceMethod yX1_take ∈ lw_T ∧ Cond.selects yX1_take.cls yX1_take yX1_take ∈ lw_T := ⟨tb2 (List.mem_of_getElem? (i := 198) rfl), tb2 (List.mem_of_getElem? (i := 199) rfl)⟩
theorem vX1_takeHead : Cond.instanceMethod yX1_takeHead ∈ lw_T ∧ Cond.selects yX1_takeHead.cls yX1_takeHead yX1_takeHead ∈ lw_T := ⟨tb2 (List.mem_of_getElem? (i := 204) rfl), tb0 (y := yX1_takeHead) (List.mem_of_getElem? (i := 7) rfl)⟩
theorem vX1_headIsSound : Cond.instanceMethod yX1_headIsSound ∈ lw_T ∧ Cond.selects yX1_headIsSound.cls yX1_headIsSound yX1_headIsSound ∈ lw_T := ⟨tb2 (List.mem_of_getElem? (i := 208) rfl), tb0 (y := yX1_headIsSound) (List.mem_of_getElem? (i := 8) rfl)⟩
theorem vX0_numberAt : Cond.instanceMethod yX0_numberAt ∈ lw_T ∧ Cond.selects yX0_numberAt.cls yX0_numberAt yX0_numberAt ∈ lw_T := ⟨tb2 (List.mem_of_getElem? (i := 211) rfl), tb2 (List.mem_of_getElem? (i := 212) rfl)⟩
theorem vX0_holds : Cond.instanceMethod yX0_holds ∈ lw_T ∧ Cond.selects yX0_holds.cls yX0_holds yX0_holds ∈ lw_T := ⟨tb2 (List.mem_of_getElem? (i := 215) rfl), tb2 (List.mem_of_getElem? (i := 216) rfl)⟩
theorem vX1_readHead : Cond.instanceMethod yX1_readHead ∈ lw_T ∧ Cond.selects yX1_readHead.cls yX1_readHead yX1_readHead ∈ lw_T := ⟨tb2 (List.mem_of_getElem? (i := 221) rfl), tb0 (y := yX1_readHead) (List.mem_of_getElem? (i := 9) rfl)⟩
theorem vX1_takeTens : Cond.instanceMethod yX1_takeTens ∈ lw_T ∧ Cond.selects yX1_takeTens.cls yX1_takeTens yX1_takeTens ∈ lw_T := ⟨tb2 (List.mem_of_getElem? (i := 225) rfl), tb0 (y := yX1_takeTens) (List.mem_of_getElem? (i := 10) rfl)⟩
theorem vX1_mendFifteen : Cond.instanceMethod yX1_mendFifteen ∈ lw_T ∧ Cond.selects yX1_mendFifteen.cls yX1_mendFifteen yX1_mendFifteen ∈ lw_T := ⟨tb2 (List.mem_of_getElem? (i := 229) rfl), tb0 (y := yX1_mendFifteen) (List.mem_of_getElem? (i := 11) rfl)⟩
theorem vX1_takePlain : Cond.instanceMethod yX1_takePlain ∈ lw_T ∧ Cond.selects yX1_takePlain.cls yX1_takePlain yX1_takePlain ∈ lw_T := ⟨tb2 (List.mem_of_getElem? (i := 234) rfl), tb0 (y := yX1_takePlain) (List.mem_of_getElem? (i := 12) rfl)⟩
theorem vX1_readLoad : Cond.instanceMethod yX1_readLoad ∈ lw_T ∧ Cond.selects yX1_readLoad.cls yX1_readLoad yX1_readLoad ∈ lw_T := ⟨tb2 (List.mem_of_getElem? (i := 238) rfl), tb0 (y := yX1_readLoad) (List.mem_of_getElem? (i := 13) rfl)⟩
theorem vX2_heed : Cond.instanceMethod yX2_heed ∈ lw_T ∧ Cond.selects yX2_heed.cls yX2_heed yX2_heed ∈ lw_T := ⟨tb3 (List.mem_of_getElem? (i := 2) rfl), tb3 (List.mem_of_getElem? (i := 3) rfl)⟩
theorem vX7_acknowledge : Cond.instanceMethod yX7_acknowledge ∈ lw_T ∧ Cond.selects yX7_acknowledge.cls yX7_acknowledge yX7_acknowledge ∈ lw_T := ⟨tb3 (List.mem_of_getElem? (i := 6) rfl), tb3 (List.mem_of_getElem? (i := 7) rfl)⟩
theorem vX4_isNew : Cond.instanceMethod yX4_isNew ∈ lw_T ∧ Cond.selects yX4_isNew.cls yX4_isNew yX4_isNew ∈ lw_T := ⟨tb3 (List.mem_of_getElem? (i := 10) rfl), tb3 (List.mem_of_getElem? (i := 11) rfl)⟩
theorem vX4_use : Cond.instanceMethod yX4_use ∈ lw_T ∧ Cond.selects yX4_use.cls yX4_use yX4_use ∈ lw_T := ⟨tb3 (List.mem_of_getElem? (i := 14) rfl), tb3 (List.mem_of_getElem? (i := 15) rfl)⟩
theorem vX4_beginMessage : Cond.instanceMethod yX4_beginMessage ∈ lw_T ∧ Cond.selects yX4_beginMessage.cls yX4_beginMessage yX4_beginMessage ∈ lw_T := ⟨tb3 (List.mem_of_getElem? (i := 20) rfl), tb0 (y := yX4_beginMessage) (List.mem_of_getElem? (i := 14) rfl)⟩
theorem vX4_endMessage : Cond.instanceMethod yX4_endMessage ∈ lw_T ∧ Cond.selects yX4_endMessage.cls yX4_endMessage yX4_endMessage ∈ lw_T := ⟨tb3 (List.mem_of_getElem? (i := 26) rfl), tb0 (y := yX4_endMessage) (List.mem_of_getElem? (i := 15) rfl)⟩
theorem vX8_read : Cond.instanceMethod yX8_read ∈ lw_T ∧ Cond.selects yX8_read.cls yX8_read yX8_read ∈ lw_T := ⟨tb3 (List.mem_of_getElem? (i := 31) rfl), tb3 (List.mem_of_getElem? (i := 32) rfl)⟩
theorem vX5_has : Cond.instanceMethod yX5_has ∈ lw_T ∧ Cond.selects yX5_has.cls yX5_has yX5_has ∈ lw_T := ⟨tb3 (List.mem_of_getElem? (i := 36) rfl), tb3 (List.mem_of_getElem? (i := 37) rfl)⟩
theorem vX8_next : Cond.instanceMethod yX8_next ∈ lw_T ∧ Cond.selects yX8_next.cls yX8_next yX8_next ∈ lw_T := ⟨tb3 (List.mem_of_getElem? (i := 41) rfl), tb3 (List.mem_of_getElem? (i := 42) rfl)⟩
theorem vX8_state : Cond.instanceMethod yX8_state ∈ lw_T ∧ Cond.selects yX8_state.cls yX8_state yX8_state ∈ lw_T := ⟨tb3 (List.mem_of_getElem? (i := 46) rfl), tb3 (List.mem_of_getElem? (i := 47) rfl)⟩
theorem vX2_tell : Cond.instanceMethod yX2_tell ∈ lw_T ∧ Cond.selects yX2_tell.cls yX2_tell yX2_tell ∈ lw_T := ⟨tb3 (List.mem_of_getElem? (i := 50) rfl), tb3 (List.mem_of_getElem? (i := 51) rfl)⟩
theorem vX7_bytesUnacknowledged : Cond.instanceMethod yX7_bytesUnacknowledged ∈ lw_T ∧ Cond.selects yX7_bytesUnacknowledged.cls yX7_bytesUnacknowledged yX7_bytesUnacknowledged ∈ lw_T := ⟨tb3 (List.mem_of_getElem? (i := 55) rfl), tb3 (List.mem_of_getElem? (i := 56) rfl)⟩
theorem vX4_bytesSoFar : Cond.instanceMethod yX4_bytesSoFar ∈ lw_T ∧ Cond.selects yX4_bytesSoFar.cls yX4_bytesSoFar yX4_bytesSoFar ∈ lw_T := ⟨tb3 (List.mem_of_getElem? (i := 59) rfl), tb3 (List.mem_of_getElem? (i := 60) rfl)⟩
theorem vX8_count : Cond.instanceMethod yX8_count ∈ lw_T ∧ Cond.selects yX8_count.cls yX8_count yX8_count ∈ lw_T := ⟨tb3 (List.mem_of_getElem? (i := 63) rfl), tb3 (List.mem_of_getElem? (i := 64) rfl)⟩
theorem vXL_cell : Cond.static yXL_cell ∈ lw_T := tb3 (List.mem_of_getElem? (i := 67) rfl)
theorem vX9_init : Cond.instanceMethod yX9_init ∈ lw_T ∧ yX9_init.name = "<init>" := ⟨tb3 (List.mem_of_getElem? (i := 72) rfl), rfl⟩
theorem vX9_guard : Cond.instanceMethod yX9_guard ∈ lw_T ∧ Cond.selects yX9_guard.cls yX9_guard yX9_guard ∈ lw_T := ⟨tb3 (List.mem_of_getElem? (i := 174) rfl), tb3 (List.mem_of_getElem? (i := 175) rfl)⟩
theorem vX9_in : Cond.static yX9_in ∈ lw_T := tb3 (List.mem_of_getElem? (i := 178) rfl)
theorem vX9_write : Cond.instanceMethod yX9_write ∈ lw_T ∧ Cond.selects yX9_write.cls yX9_write yX9_write ∈ lw_T := ⟨tb3 (List.mem_of_getElem? (i := 181) rfl), tb3 (List.mem_of_getElem? (i := 182) rfl)⟩
theorem vX9_send : Cond.instanceMethod yX9_send ∈ lw_T ∧ Cond.selects yX9_send.cls yX9_send yX9_send ∈ lw_T := ⟨tb3 (List.mem_of_getElem? (i := 185) rfl), tb3 (List.mem_of_getElem? (i := 186) rfl)⟩
theorem vX9_slot : Cond.instanceMethod yX9_slot ∈ lw_T ∧ Cond.selects yX9_slot.cls yX9_slot yX9_slot ∈ lw_T := ⟨tb3 (List.mem_of_getElem? (i := 189) rfl), tb3 (List.mem_of_getElem? (i := 190) rfl)⟩
theorem vX9_speak : Cond.instanceMethod yX9_speak ∈ lw_T ∧ Cond.selects yX9_speak.cls yX9_speak yX9_speak ∈ lw_T := ⟨tb3 (List.mem_of_getElem? (i := 194) rfl), tb0 (y := yX9_speak) (List.mem_of_getElem? (i := 16) rfl)⟩
theorem vX9_newFrame : Cond.instanceMethod yX9_newFrame ∈ lw_T ∧ Cond.selects yX9_newFrame.cls yX9_newFrame yX9_newFrame ∈ lw_T := ⟨tb3 (List.mem_of_getElem? (i := 198) rfl), tb0 (y := yX9_newFrame) (List.mem_of_getElem? (i := 17) rfl)⟩
theorem vX9_startSending : Cond.instanceMethod yX9_startSending ∈ lw_T ∧ Cond.selects yX9_startSending.cls yX9_startSending yX9_startSending ∈ lw_T := ⟨tb3 (List.mem_of_getElem? (i := 202) rfl), tb0 (y := yX9_startSending) (List.mem_of_getElem? (i := 18) rfl)⟩
theorem vX9_whiten : Cond.instanceMethod yX9_whiten ∈ lw_T ∧ Cond.selects yX9_whiten.cls yX9_whiten yX9_whiten ∈ lw_T := ⟨tb3 (List.mem_of_getElem? (i := 206) rfl), tb0 (y := yX9_whiten) (List.mem_of_getElem? (i := 19) rfl)⟩
theorem vX9_put : Cond.instanceMethod yX9_put ∈ lw_T ∧ Cond.selects yX9_put.cls yX9_put yX9_put ∈ lw_T := ⟨tb3 (List.mem_of_getElem? (i := 210) rfl), tb0 (y := yX9_put) (List.mem_of_getElem? (i := 20) rfl)⟩
theorem vX9_putRem : Cond.instanceMethod yX9_putRem ∈ lw_T ∧ Cond.selects yX9_putRem.cls yX9_putRem yX9_putRem ∈ lw_T := ⟨tb3 (List.mem_of_getElem? (i := 214) rfl), tb0 (y := yX9_putRem) (List.mem_of_getElem? (i := 21) rfl)⟩
theorem vX9_rem : Cond.instanceMethod yX9_rem ∈ lw_T ∧ Cond.selects yX9_rem.cls yX9_rem yX9_rem ∈ lw_T := ⟨tb3 (List.mem_of_getElem? (i := 218) rfl), tb0 (y := yX9_rem) (List.mem_of_getElem? (i := 22) rfl)⟩
theorem vX9_twice : Cond.static yX9_twice ∈ lw_T := tb3 (List.mem_of_getElem? (i := 221) rfl)
theorem vX9_sendBits : Cond.instanceMethod yX9_sendBits ∈ lw_T ∧ Cond.selects yX9_sendBits.cls yX9_sendBits yX9_sendBits ∈ lw_T := ⟨tb3 (List.mem_of_getElem? (i := 226) rfl), tb0 (y := yX9_sendBits) (List.mem_of_getElem? (i := 23) rfl)⟩
theorem vX9_push : Cond.instanceMethod yX9_push ∈ lw_T ∧ Cond.selects yX9_push.cls yX9_push yX9_push ∈ lw_T := ⟨tb3 (List.mem_of_getElem? (i := 230) rfl), tb0 (y := yX9_push) (List.mem_of_getElem? (i := 24) rfl)⟩
theorem vX9_air : Cond.instanceMethod yX9_air ∈ lw_T ∧ Cond.selects yX9_air.cls yX9_air yX9_air ∈ lw_T := ⟨tb3 (List.mem_of_getElem? (i := 233) rfl), tb3 (List.mem_of_getElem? (i := 234) rfl)⟩
theorem vX9_flip : Cond.instanceMethod yX9_flip ∈ lw_T ∧ Cond.selects yX9_flip.cls yX9_flip yX9_flip ∈ lw_T := ⟨tb3 (List.mem_of_getElem? (i := 237) rfl), tb3 (List.mem_of_getElem? (i := 238) rfl)⟩
theorem vX9_hear : Cond.instanceMethod yX9_hear ∈ lw_T ∧ Cond.selects yX9_hear.cls yX9_hear yX9_hear ∈ lw_T := ⟨tb4 (List.mem_of_getElem? (i := 1) rfl), tb4 (List.mem_of_getElem? (i := 2) rfl)⟩
theorem vX9_headGood : Cond.instanceMethod yX9_headGood ∈ lw_T ∧ Cond.selects yX9_headGood.cls yX9_headGood yX9_headGood ∈ lw_T := ⟨tb4 (List.mem_of_getElem? (i := 6) rfl), tb0 (y := yX9_headGood) (List.mem_of_getElem? (i := 25) rfl)⟩
theorem vX9_remStands : Cond.instanceMethod yX9_remStands ∈ lw_T ∧ Cond.selects yX9_remStands.cls yX9_remStands yX9_remStands ∈ lw_T := ⟨tb4 (List.mem_of_getElem? (i := 10) rfl), tb0 (y := yX9_remStands) (List.mem_of_getElem? (i := 26) rfl)⟩
theorem vX9_number : Cond.instanceMethod yX9_number ∈ lw_T ∧ Cond.selects yX9_number.cls yX9_number yX9_number ∈ lw_T := ⟨tb4 (List.mem_of_getElem? (i := 14) rfl), tb0 (y := yX9_number) (List.mem_of_getElem? (i := 27) rfl)⟩
theorem vX9_loadGood : Cond.instanceMethod yX9_loadGood ∈ lw_T ∧ Cond.selects yX9_loadGood.cls yX9_loadGood yX9_loadGood ∈ lw_T := ⟨tb4 (List.mem_of_getElem? (i := 18) rfl), tb0 (y := yX9_loadGood) (List.mem_of_getElem? (i := 28) rfl)⟩
theorem vX9_loadBits : Cond.instanceMethod yX9_loadBits ∈ lw_T ∧ Cond.selects yX9_loadBits.cls yX9_loadBits yX9_loadBits ∈ lw_T := ⟨tb4 (List.mem_of_getElem? (i := 22) rfl), tb0 (y := yX9_loadBits) (List.mem_of_getElem? (i := 29) rfl)⟩
theorem vX9_mended : Cond.instanceMethod yX9_mended ∈ lw_T ∧ Cond.selects yX9_mended.cls yX9_mended yX9_mended ∈ lw_T := ⟨tb4 (List.mem_of_getElem? (i := 26) rfl), tb0 (y := yX9_mended) (List.mem_of_getElem? (i := 30) rfl)⟩
theorem vX9_use : Cond.instanceMethod yX9_use ∈ lw_T ∧ Cond.selects yX9_use.cls yX9_use yX9_use ∈ lw_T := ⟨tb4 (List.mem_of_getElem? (i := 30) rfl), tb0 (y := yX9_use) (List.mem_of_getElem? (i := 31) rfl)⟩
theorem vX9_finish : Cond.instanceMethod yX9_finish ∈ lw_T ∧ Cond.selects yX9_finish.cls yX9_finish yX9_finish ∈ lw_T := ⟨tb4 (List.mem_of_getElem? (i := 34) rfl), tb0 (y := yX9_finish) (List.mem_of_getElem? (i := 32) rfl)⟩
theorem vX9_read : Cond.instanceMethod yX9_read ∈ lw_T ∧ Cond.selects yX9_read.cls yX9_read yX9_read ∈ lw_T := ⟨tb4 (List.mem_of_getElem? (i := 37) rfl), tb4 (List.mem_of_getElem? (i := 38) rfl)⟩
theorem vX9_next : Cond.instanceMethod yX9_next ∈ lw_T ∧ Cond.selects yX9_next.cls yX9_next yX9_next ∈ lw_T := ⟨tb4 (List.mem_of_getElem? (i := 41) rfl), tb4 (List.mem_of_getElem? (i := 42) rfl)⟩
theorem vX9_state : Cond.instanceMethod yX9_state ∈ lw_T ∧ Cond.selects yX9_state.cls yX9_state yX9_state ∈ lw_T := ⟨tb4 (List.mem_of_getElem? (i := 45) rfl), tb4 (List.mem_of_getElem? (i := 46) rfl)⟩
theorem vX9_count : Cond.instanceMethod yX9_count ∈ lw_T ∧ Cond.selects yX9_count.cls yX9_count yX9_count ∈ lw_T := ⟨tb4 (List.mem_of_getElem? (i := 49) rfl), tb4 (List.mem_of_getElem? (i := 50) rfl)⟩
/-- the classes of arrays -/
def tyL (K : Nat → ClassId) : List (ClassId × FieldType) := [(K 0, .int), (K 1, .object "RadioPair$Message"), (K 2, .object "RadioPair$Device"), (K 3, .boolean)]
/-- a contract over this claim's tables -/
abbrev MT (l : Launch) (D : va_G) (K : Nat → ClassId) (y : MethodName) (cc : ByteArray) (nL : Nat) (ret : Option FieldType) (rm : Room) (As : List Value) (w : BW) (S : Type) (Q : Option Value → S → Prop) (w' : S → BW) : Prop := Mt l lw_T D vwCl (tyL K) y cc nL ret rm As w S Q w'
abbrev iBits : Nat := 0
abbrev iCoder : Nat := 1
abbrev iDev : Nat := 2
abbrev iFrame : Nat := 3
abbrev iInbox : Nat := 4
abbrev iMsg : Nat := 5
abbrev iRow : Nat := 6
abbrev iOut : Nat := 7
abbrev iRP : Nat := 8
abbrev iMod : Nat := 9
