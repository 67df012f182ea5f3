/-! the classes whose objects own code makes, by numbers: names, field tables (declaring class, name, descriptor, final), types -/
def clN : Nat → String := fun c => match c with
  | 0 => "RelayDesk"
  | 1 => "RelayDesk$Channel"
  | 2 => "RelayDesk$Intake"
  | 3 => "RelayDesk$Text"
  | 4 => "RelayDesk$Numbers"
  | 5 => "RelayDesk$Outlet"
  | 6 => "RelayDesk$Message"
  | 7 => "RelayDesk$Case"
  | 8 => "RelayDesk$Route"
  | 9 => "RelayDesk$Routes"
  | 10 => "RelayDesk$Header"
  | _ => "RelayDeskModel"
def clT0 : u_T := fun k => match k with
  | 0 => ("RelayDesk", "channels", "[LRelayDesk$Channel;", true)
  | 1 => ("RelayDesk", "messages", "[LRelayDesk$Message;", true)
  | 2 => ("RelayDesk", "cases", "[LRelayDesk$Case;", true)
  | 3 => ("RelayDesk", "routes", "LRelayDesk$Routes;", true)
  | 4 => ("RelayDesk", "header", "LRelayDesk$Header;", true)
  | 5 => ("RelayDesk", "messageCount", "I", false)
  | _ => ("RelayDesk", "caseCount", "I", false)
def clY0 : Nat → FieldType := fun k => match k with
  | 0 => (.array (.object "RelayDesk$Channel"))
  | 1 => (.array (.object "RelayDesk$Message"))
  | 2 => (.array (.object "RelayDesk$Case"))
  | 3 => (.object "RelayDesk$Routes")
  | 4 => (.object "RelayDesk$Header")
  | 5 => .int
  | _ => .int
def clT1 : u_T := fun k => match k with
  | 0 => ("RelayDesk$Channel", "isOpen", "Z", false)
  | 1 => ("RelayDesk$Channel", "intake", "LRelayDesk$Intake;", true)
  | 2 => ("RelayDesk$Channel", "numbers", "LRelayDesk$Numbers;", true)
  | _ => ("RelayDesk$Channel", "outlet", "LRelayDesk$Outlet;", true)
def clY1 : Nat → FieldType := fun k => match k with
  | 0 => .boolean
  | 1 => (.object "RelayDesk$Intake")
  | 2 => (.object "RelayDesk$Numbers")
  | _ => (.object "RelayDesk$Outlet")
def clT2 : u_T := fun k => match k with
  | 0 => ("RelayDesk$Intake", "text", "LRelayDesk$Text;", true)
  | 1 => ("RelayDesk$Intake", "inFigures", "Z", false)
  | 2 => ("RelayDesk$Intake", "came", "I", false)
  | 3 => ("RelayDesk$Intake", "cameBeforeLine", "I", false)
  | _ => ("RelayDesk$Intake", "lineNs", "I", false)
def clY2 : Nat → FieldType := fun k => match k with
  | 0 => (.object "RelayDesk$Text")
  | 1 => .boolean
  | 2 => .int
  | 3 => .int
  | _ => .int
def clT3 : u_T := fun k => match k with
  | 0 => ("RelayDesk$Text", "characters", "[C", true)
  | _ => ("RelayDesk$Text", "length", "I", false)
def clY3 : Nat → FieldType := fun k => match k with
  | 0 => (.array .char)
  | _ => .int
def clT4 : u_T := fun k => match k with
  | 0 => ("RelayDesk$Numbers", "last", "I", false)
  | 1 => ("RelayDesk$Numbers", "missing", "[I", true)
  | _ => ("RelayDesk$Numbers", "missingCount", "I", false)
def clY4 : Nat → FieldType := fun k => match k with
  | 0 => .int
  | 1 => (.array .int)
  | _ => .int
def clT5 : u_T := fun k => match k with
  | 0 => ("RelayDesk$Outlet", "channel", "I", true)
  | 1 => ("RelayDesk$Outlet", "tape", "LRelayDesk$Text;", true)
  | 2 => ("RelayDesk$Outlet", "position", "I", false)
  | 3 => ("RelayDesk$Outlet", "inFigures", "Z", false)
  | 4 => ("RelayDesk$Outlet", "current", "LRelayDesk$Message;", false)
  | 5 => ("RelayDesk$Outlet", "currentNumber", "I", false)
  | 6 => ("RelayDesk$Outlet", "isAgain", "Z", false)
  | 7 => ("RelayDesk$Outlet", "lastNumber", "I", false)
  | 8 => ("RelayDesk$Outlet", "asked", "[LRelayDesk$Message;", true)
  | 9 => ("RelayDesk$Outlet", "askedCount", "I", false)
  | _ => ("RelayDesk$Outlet", "kept", "[LRelayDesk$Message;", true)
def clY5 : Nat → FieldType := fun k => match k with
  | 0 => .int
  | 1 => (.object "RelayDesk$Text")
  | 2 => .int
  | 3 => .boolean
  | 4 => (.object "RelayDesk$Message")
  | 5 => .int
  | 6 => .boolean
  | 7 => .int
  | 8 => (.array (.object "RelayDesk$Message"))
  | 9 => .int
  | _ => (.array (.object "RelayDesk$Message"))
def clT6 : u_T := fun k => match k with
  | 0 => ("RelayDesk$Message", "precedence", "I", false)
  | 1 => ("RelayDesk$Message", "indicators", "[I", true)
  | 2 => ("RelayDesk$Message", "indicatorCount", "I", false)
  | 3 => ("RelayDesk$Message", "body", "LRelayDesk$Text;", true)
  | _ => ("RelayDesk$Message", "fates", "[I", true)
def clY6 : Nat → FieldType := fun k => match k with
  | 0 => .int
  | 1 => (.array .int)
  | 2 => .int
  | 3 => (.object "RelayDesk$Text")
  | _ => (.array .int)
def clT7 : u_T := fun k => match k with
  | 0 => ("RelayDesk$Case", "reason", "I", false)
  | _ => ("RelayDesk$Case", "text", "LRelayDesk$Text;", true)
def clY7 : Nat → FieldType := fun k => match k with
  | 0 => .int
  | _ => (.object "RelayDesk$Text")
def clT8 : u_T := fun k => match k with
  | 0 => ("RelayDesk$Route", "indicator", "I", false)
  | 1 => ("RelayDesk$Route", "channel", "I", false)
  | 2 => ("RelayDesk$Route", "alternate", "I", false)
  | 3 => ("RelayDesk$Route", "members", "[I", true)
  | _ => ("RelayDesk$Route", "memberCount", "I", false)
def clY8 : Nat → FieldType := fun k => match k with
  | 0 => .int
  | 1 => .int
  | 2 => .int
  | 3 => (.array .int)
  | _ => .int
def clT9 : u_T := fun k => match k with
  | 0 => ("RelayDesk$Routes", "rows", "[LRelayDesk$Route;", true)
  | _ => ("RelayDesk$Routes", "rowCount", "I", false)
def clY9 : Nat → FieldType := fun k => match k with
  | 0 => (.array (.object "RelayDesk$Route"))
  | _ => .int
def clT10 : u_T := fun k => match k with
  | 0 => ("RelayDesk$Header", "number", "I", false)
  | 1 => ("RelayDesk$Header", "precedence", "I", false)
  | 2 => ("RelayDesk$Header", "indicators", "[I", true)
  | 3 => ("RelayDesk$Header", "indicatorCount", "I", false)
  | 4 => ("RelayDesk$Header", "end", "I", false)
  | 5 => ("RelayDesk$Header", "wordStart", "I", false)
  | _ => ("RelayDesk$Header", "wordEnd", "I", false)
def clY10 : Nat → FieldType := fun k => match k with
  | 0 => .int
  | 1 => .int
  | 2 => (.array .int)
  | 3 => .int
  | 4 => .int
  | 5 => .int
  | _ => .int
def clT11 : u_T := fun k => match k with
  | 0 => ("RelayDeskModel", "fault", "I", false)
  | 1 => ("RelayDeskModel", "closed", "[Z", true)
  | 2 => ("RelayDeskModel", "many", "[I", true)
  | 3 => ("RelayDeskModel", "gathered", "[C", true)
  | 4 => ("RelayDeskModel", "isFigures", "[Z", true)
  | 5 => ("RelayDeskModel", "last", "[I", true)
  | 6 => ("RelayDeskModel", "missing", "[I", true)
  | 7 => ("RelayDeskModel", "missingNumbers", "[I", true)
  | 8 => ("RelayDeskModel", "routes", "I", false)
  | 9 => ("RelayDeskModel", "routeOf", "[I", true)
  | 10 => ("RelayDeskModel", "routeKind", "[I", true)
  | 11 => ("RelayDeskModel", "routeChannel", "[I", true)
  | 12 => ("RelayDeskModel", "routeOther", "[I", true)
  | 13 => ("RelayDeskModel", "memberCount", "[I", true)
  | 14 => ("RelayDeskModel", "members", "[I", true)
  | 15 => ("RelayDeskModel", "messages", "I", false)
  | 16 => ("RelayDeskModel", "precedence", "[I", true)
  | 17 => ("RelayDeskModel", "indicatorCount", "[I", true)
  | 18 => ("RelayDeskModel", "indicators", "[I", true)
  | 19 => ("RelayDeskModel", "bodySize", "[I", true)
  | 20 => ("RelayDeskModel", "bodies", "[C", true)
  | 21 => ("RelayDeskModel", "entry", "[I", true)
  | 22 => ("RelayDeskModel", "entryNumber", "[I", true)
  | 23 => ("RelayDeskModel", "cases", "I", false)
  | 24 => ("RelayDeskModel", "reasons", "[I", true)
  | 25 => ("RelayDeskModel", "caseSize", "[I", true)
  | 26 => ("RelayDeskModel", "caseText", "[C", true)
  | 27 => ("RelayDeskModel", "nextNumber", "[I", true)
  | 28 => ("RelayDeskModel", "sending", "[I", true)
  | 29 => ("RelayDeskModel", "sendingNumber", "[I", true)
  | 30 => ("RelayDeskModel", "isAgain", "[Z", true)
  | 31 => ("RelayDeskModel", "signsOut", "[I", true)
  | 32 => ("RelayDeskModel", "sentCount", "[I", true)
  | 33 => ("RelayDeskModel", "sentMessage", "[I", true)
  | 34 => ("RelayDeskModel", "sentNumber", "[I", true)
  | 35 => ("RelayDeskModel", "askedCount", "[I", true)
  | 36 => ("RelayDeskModel", "askedMessage", "[I", true)
  | 37 => ("RelayDeskModel", "askedNumber", "[I", true)
  | 38 => ("RelayDeskModel", "textSize", "I", false)
  | 39 => ("RelayDeskModel", "text", "[C", true)
  | 40 => ("RelayDeskModel", "isLong", "Z", false)
  | 41 => ("RelayDeskModel", "words", "I", false)
  | 42 => ("RelayDeskModel", "wordFrom", "[I", true)
  | 43 => ("RelayDeskModel", "wordSize", "[I", true)
  | 44 => ("RelayDeskModel", "foundNumber", "I", false)
  | 45 => ("RelayDeskModel", "foundPrecedence", "I", false)
  | 46 => ("RelayDeskModel", "foundFirst", "I", false)
  | 47 => ("RelayDeskModel", "foundBody", "I", false)
  | 48 => ("RelayDeskModel", "reached", "[Z", true)
  | 49 => ("RelayDeskModel", "isLost", "Z", false)
  | 50 => ("RelayDeskModel", "outSize", "I", false)
  | 51 => ("RelayDeskModel", "out", "[C", true)
  | 52 => ("RelayDeskModel", "signSize", "I", false)
  | 53 => ("RelayDeskModel", "signs", "[I", true)
  | _ => ("RelayDeskModel", "seen", "[Z", true)
def clY11 : Nat → FieldType := fun k => match k with
  | 0 => .int
  | 1 => (.array .boolean)
  | 2 => (.array .int)
  | 3 => (.array .char)
  | 4 => (.array .boolean)
  | 5 => (.array .int)
  | 6 => (.array .int)
  | 7 => (.array .int)
  | 8 => .int
  | 9 => (.array .int)
  | 10 => (.array .int)
  | 11 => (.array .int)
  | 12 => (.array .int)
  | 13 => (.array .int)
  | 14 => (.array .int)
  | 15 => .int
  | 16 => (.array .int)
  | 17 => (.array .int)
  | 18 => (.array .int)
  | 19 => (.array .int)
  | 20 => (.array .char)
  | 21 => (.array .int)
  | 22 => (.array .int)
  | 23 => .int
  | 24 => (.array .int)
  | 25 => (.array .int)
  | 26 => (.array .char)
  | 27 => (.array .int)
  | 28 => (.array .int)
  | 29 => (.array .int)
  | 30 => (.array .boolean)
  | 31 => (.array .int)
  | 32 => (.array .int)
  | 33 => (.array .int)
  | 34 => (.array .int)
  | 35 => (.array .int)
  | 36 => (.array .int)
  | 37 => (.array .int)
  | 38 => .int
  | 39 => (.array .char)
  | 40 => .boolean
  | 41 => .int
  | 42 => (.array .int)
  | 43 => (.array .int)
  | 44 => .int
  | 45 => .int
  | 46 => .int
  | 47 => .int
  | 48 => (.array .boolean)
  | 49 => .boolean
  | 50 => .int
  | 51 => (.array .char)
  | 52 => .int
  | 53 => (.array .int)
  | _ => (.array .boolean)
def clT : Nat → u_T := fun c => match c with
  | 0 => clT0
  | 1 => clT1
  | 2 => clT2
  | 3 => clT3
  | 4 => clT4
  | 5 => clT5
  | 6 => clT6
  | 7 => clT7
  | 8 => clT8
  | 9 => clT9
  | 10 => clT10
  | _ => clT11
def clY : Nat → Nat → FieldType := fun c => match c with
  | 0 => clY0
  | 1 => clY1
  | 2 => clY2
  | 3 => clY3
  | 4 => clY4
  | 5 => clY5
  | 6 => clY6
  | 7 => clY7
  | 8 => clY8
  | 9 => clY9
  | 10 => clY10
  | _ => clY11
def clF : Nat → Nat := fun c => match c with
  | 0 => 7
  | 1 => 4
  | 2 => 5
  | 3 => 2
  | 4 => 3
  | 5 => 11
  | 6 => 5
  | 7 => 2
  | 8 => 5
  | 9 => 2
  | 10 => 7
  | _ => 55
theorem cl_in0 : ∀ w ∈ u_ws (clN 0) (clT 0) (clF 0), w ∈ lw_tbl := by decide +kernel
theorem cl_nm0 : ∀ a, a < clF 0 → ∀ b, b < clF 0 → a ≠ b → (clT 0 a).2.1 ≠ (clT 0 b).2.1 := by decide +kernel
theorem cl_ty0 : ∀ k, k < clF 0 → parseFieldDescriptor (clT 0 k).2.2.1 = some (clY 0 k) := by decide +kernel
theorem cl_is0 : Cond.instantiable (clN 0) (clF 0) ∈ lw_tbl ∧ Cond.initialized (clN 0) ∈ lw_tbl := by decide +kernel
theorem cl_in1 : ∀ w ∈ u_ws (clN 1) (clT 1) (clF 1), w ∈ lw_tbl := by decide +kernel
theorem cl_nm1 : ∀ a, a < clF 1 → ∀ b, b < clF 1 → a ≠ b → (clT 1 a).2.1 ≠ (clT 1 b).2.1 := by decide +kernel
theorem cl_ty1 : ∀ k, k < clF 1 → parseFieldDescriptor (clT 1 k).2.2.1 = some (clY 1 k) := by decide +kernel
theorem cl_is1 : Cond.instantiable (clN 1) (clF 1) ∈ lw_tbl ∧ Cond.initialized (clN 1) ∈ lw_tbl := by decide +kernel
theorem cl_in2 : ∀ w ∈ u_ws (clN 2) (clT 2) (clF 2), w ∈ lw_tbl := by decide +kernel
theorem cl_nm2 : ∀ a, a < clF 2 → ∀ b, b < clF 2 → a ≠ b → (clT 2 a).2.1 ≠ (clT 2 b).2.1 := by decide +kernel
theorem cl_ty2 : ∀ k, k < clF 2 → parseFieldDescriptor (clT 2 k).2.2.1 = some (clY 2 k) := by decide +kernel
theorem cl_is2 : Cond.instantiable (clN 2) (clF 2) ∈ lw_tbl ∧ Cond.initialized (clN 2) ∈ lw_tbl := by decide +kernel
theorem cl_in3 : ∀ w ∈ u_ws (clN 3) (clT 3) (clF 3), w ∈ lw_tbl := by decide +kernel
theorem cl_nm3 : ∀ a, a < clF 3 → ∀ b, b < clF 3 → a ≠ b → (clT 3 a).2.1 ≠ (clT 3 b).2.1 := by decide +kernel
theorem cl_ty3 : ∀ k, k < clF 3 → parseFieldDescriptor (clT 3 k).2.2.1 = some (clY 3 k) := by decide +kernel
theorem cl_is3 : Cond.instantiable (clN 3) (clF 3) ∈ lw_tbl ∧ Cond.initialized (clN 3) ∈ lw_tbl := by decide +kernel
theorem cl_in4 : ∀ w ∈ u_ws (clN 4) (clT 4) (clF 4), w ∈ lw_tbl := by decide +kernel
theorem cl_nm4 : ∀ a, a < clF 4 → ∀ b, b < clF 4 → a ≠ b → (clT 4 a).2.1 ≠ (clT 4 b).2.1 := by decide +kernel
theorem cl_ty4 : ∀ k, k < clF 4 → parseFieldDescriptor (clT 4 k).2.2.1 = some (clY 4 k) := by decide +kernel
theorem cl_is4 : Cond.instantiable (clN 4) (clF 4) ∈ lw_tbl ∧ Cond.initialized (clN 4) ∈ lw_tbl := by decide +kernel
theorem cl_in5 : ∀ w ∈ u_ws (clN 5) (clT 5) (clF 5), w ∈ lw_tbl := by decide +kernel
theorem cl_nm5 : ∀ a, a < clF 5 → ∀ b, b < clF 5 → a ≠ b → (clT 5 a).2.1 ≠ (clT 5 b).2.1 := by decide +kernel
theorem cl_ty5 : ∀ k, k < clF 5 → parseFieldDescriptor (clT 5 k).2.2.1 = some (clY 5 k) := by decide +kernel
theorem cl_is5 : Cond.instantiable (clN 5) (clF 5) ∈ lw_tbl ∧ Cond.initialized (clN 5) ∈ lw_tbl := by decide +kernel
theorem cl_in6 : ∀ w ∈ u_ws (clN 6) (clT 6) (clF 6), w ∈ lw_tbl := by decide +kernel
theorem cl_nm6 : ∀ a, a < clF 6 → ∀ b, b < clF 6 → a ≠ b → (clT 6 a).2.1 ≠ (clT 6 b).2.1 := by decide +kernel
theorem cl_ty6 : ∀ k, k < clF 6 → parseFieldDescriptor (clT 6 k).2.2.1 = some (clY 6 k) := by decide +kernel
theorem cl_is6 : Cond.instantiable (clN 6) (clF 6) ∈ lw_tbl ∧ Cond.initialized (clN 6) ∈ lw_tbl := by decide +kernel
theorem cl_in7 : ∀ w ∈ u_ws (clN 7) (clT 7) (clF 7), w ∈ lw_tbl := by decide +kernel
theorem cl_nm7 : ∀ a, a < clF 7 → ∀ b, b < clF 7 → a ≠ b → (clT 7 a).2.1 ≠ (clT 7 b).2.1 := by decide +kernel
theorem cl_ty7 : ∀ k, k < clF 7 → parseFieldDescriptor (clT 7 k).2.2.1 = some (clY 7 k) := by decide +kernel
theorem cl_is7 : Cond.instantiable (clN 7) (clF 7) ∈ lw_tbl ∧ Cond.initialized (clN 7) ∈ lw_tbl := by decide +kernel
theorem cl_in8 : ∀ w ∈ u_ws (clN 8) (clT 8) (clF 8), w ∈ lw_tbl := by decide +kernel
theorem cl_nm8 : ∀ a, a < clF 8 → ∀ b, b < clF 8 → a ≠ b → (clT 8 a).2.1 ≠ (clT 8 b).2.1 := by decide +kernel
theorem cl_ty8 : ∀ k, k < clF 8 → parseFieldDescriptor (clT 8 k).2.2.1 = some (clY 8 k) := by decide +kernel
theorem cl_is8 : Cond.instantiable (clN 8) (clF 8) ∈ lw_tbl ∧ Cond.initialized (clN 8) ∈ lw_tbl := by decide +kernel
theorem cl_in9 : ∀ w ∈ u_ws (clN 9) (clT 9) (clF 9), w ∈ lw_tbl := by decide +kernel
theorem cl_nm9 : ∀ a, a < clF 9 → ∀ b, b < clF 9 → a ≠ b → (clT 9 a).2.1 ≠ (clT 9 b).2.1 := by decide +kernel
theorem cl_ty9 : ∀ k, k < clF 9 → parseFieldDescriptor (clT 9 k).2.2.1 = some (clY 9 k) := by decide +kernel
theorem cl_is9 : Cond.instantiable (clN 9) (clF 9) ∈ lw_tbl ∧ Cond.initialized (clN 9) ∈ lw_tbl := by decide +kernel
theorem cl_in10 : ∀ w ∈ u_ws (clN 10) (clT 10) (clF 10), w ∈ lw_tbl := by decide +kernel
theorem cl_nm10 : ∀ a, a < clF 10 → ∀ b, b < clF 10 → a ≠ b → (clT 10 a).2.1 ≠ (clT 10 b).2.1 := by decide +kernel
theorem cl_ty10 : ∀ k, k < clF 10 → parseFieldDescriptor (clT 10 k).2.2.1 = some (clY 10 k) := by decide +kernel
theorem cl_is10 : Cond.instantiable (clN 10) (clF 10) ∈ lw_tbl ∧ Cond.initialized (clN 10) ∈ lw_tbl := by decide +kernel
theorem cl_in11 : ∀ w ∈ u_ws (clN 11) (clT 11) (clF 11), w ∈ lw_tbl := by decide +kernel
theorem cl_nm11 : ∀ a, a < clF 11 → ∀ b, b < clF 11 → a ≠ b → (clT 11 a).2.1 ≠ (clT 11 b).2.1 := by decide +kernel
theorem cl_ty11 : ∀ k, k < clF 11 → parseFieldDescriptor (clT 11 k).2.2.1 = some (clY 11 k) := by decide +kernel
theorem cl_is11 : Cond.instantiable (clN 11) (clF 11) ∈ lw_tbl ∧ Cond.initialized (clN 11) ∈ lw_tbl := by decide +kernel
theorem cl_in : ∀ c, c < 12 → ∀ w ∈ u_ws (clN c) (clT c) (clF c), w ∈ lw_tbl := by
  intro c hc
  match c, hc with
  | 0, _ => exact cl_in0
  | 1, _ => exact cl_in1
  | 2, _ => exact cl_in2
  | 3, _ => exact cl_in3
  | 4, _ => exact cl_in4
  | 5, _ => exact cl_in5
  | 6, _ => exact cl_in6
  | 7, _ => exact cl_in7
  | 8, _ => exact cl_in8
  | 9, _ => exact cl_in9
  | 10, _ => exact cl_in10
  | 11, _ => exact cl_in11
  | c + 12, hc => omega
theorem cl_nm : ∀ c, c < 12 → ∀ a, a < clF c → ∀ b, b < clF c → a ≠ b → (clT c a).2.1 ≠ (clT c b).2.1 := by
  intro c hc
  match c, hc with
  | 0, _ => exact cl_nm0
  | 1, _ => exact cl_nm1
  | 2, _ => exact cl_nm2
  | 3, _ => exact cl_nm3
  | 4, _ => exact cl_nm4
  | 5, _ => exact cl_nm5
  | 6, _ => exact cl_nm6
  | 7, _ => exact cl_nm7
  | 8, _ => exact cl_nm8
  | 9, _ => exact cl_nm9
  | 10, _ => exact cl_nm10
  | 11, _ => exact cl_nm11
  | c + 12, hc => omega
theorem cl_ty : ∀ c, c < 12 → ∀ k, k < clF c → parseFieldDescriptor (clT c k).2.2.1 = some (clY c k) := by
  intro c hc
  match c, hc with
  | 0, _ => exact cl_ty0
  | 1, _ => exact cl_ty1
  | 2, _ => exact cl_ty2
  | 3, _ => exact cl_ty3
  | 4, _ => exact cl_ty4
  | 5, _ => exact cl_ty5
  | 6, _ => exact cl_ty6
  | 7, _ => exact cl_ty7
  | 8, _ => exact cl_ty8
  | 9, _ => exact cl_ty9
  | 10, _ => exact cl_ty10
  | 11, _ => exact cl_ty11
  | c + 12, hc => omega
theorem cl_is : ∀ c, c < 12 → Cond.instantiable (clN c) (clF c) ∈ lw_tbl ∧ Cond.initialized (clN c) ∈ lw_tbl := by
  intro c hc
  match c, hc with
  | 0, _ => exact cl_is0
  | 1, _ => exact cl_is1
  | 2, _ => exact cl_is2
  | 3, _ => exact cl_is3
  | 4, _ => exact cl_is4
  | 5, _ => exact cl_is5
  | 6, _ => exact cl_is6
  | 7, _ => exact cl_is7
  | 8, _ => exact cl_is8
  | 9, _ => exact cl_is9
  | 10, _ => exact cl_is10
  | 11, _ => exact cl_is11
  | c + 12, hc => omega
theorem cl_own : ∀ c, c < 12 → ∀ k, k < clF c → (clT c k).1 = clN c := by decide +kernel
