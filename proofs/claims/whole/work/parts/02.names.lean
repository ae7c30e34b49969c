/-! the classes, their fields; printed from the claim's names -/
def RX0 : String := "SwipedStripe$Draw"
def TX0 : u_T := fun k => match k with
  | 0 => ("SwipedStripe$Draw", "values", "LSwipedStripe$Row;", true)
  | _ => ("SwipedStripe$Draw", "soundPlaces", "I", false)
def tyX0 : Nat → FieldType := fun k => match k with
  | 0 => .object "SwipedStripe$Row"
  | _ => .int
theorem nmX0 : ∀ a, a < 2 → ∀ b, b < 2 → a ≠ b → (TX0 a).2.1 ≠ (TX0 b).2.1 := by decide +kernel
theorem tyX0_ok : ∀ k, k < 2 → parseFieldDescriptor (TX0 k).2.2.1 = some (tyX0 k) := by decide +kernel
def RX1 : String := "SwipedStripe$Draws"
def TX1 : u_T := fun k => match k with
  | 0 => ("SwipedStripe$Draws", "kept", "[LSwipedStripe$Draw;", true)
  | _ => ("SwipedStripe$Draws", "size", "I", false)
def tyX1 : Nat → FieldType := fun k => match k with
  | 0 => .array (.object "SwipedStripe$Draw")
  | _ => .int
theorem nmX1 : ∀ a, a < 2 → ∀ b, b < 2 → a ≠ b → (TX1 a).2.1 ≠ (TX1 b).2.1 := by decide +kernel
theorem tyX1_ok : ∀ k, k < 2 → parseFieldDescriptor (TX1 k).2.2.1 = some (tyX1 k) := by decide +kernel
def RX2 : String := "SwipedStripe$Finding"
def TX2 : u_T := fun k => match k with
  | 0 => ("SwipedStripe$Finding", "said", "LSwipedStripe$Row;", true)
  | 1 => ("SwipedStripe$Finding", "sound", "LSwipedStripe$Row;", true)
  | 2 => ("SwipedStripe$Finding", "verdict", "I", false)
  | 3 => ("SwipedStripe$Finding", "beginAt", "I", false)
  | 4 => ("SwipedStripe$Finding", "values", "I", false)
  | 5 => ("SwipedStripe$Finding", "valueBits", "I", false)
  | 6 => ("SwipedStripe$Finding", "oddOnes", "I", false)
  | 7 => ("SwipedStripe$Finding", "checked", "Z", false)
  | _ => ("SwipedStripe$Finding", "wrongChecks", "I", false)
def tyX2 : Nat → FieldType := fun k => match k with
  | 0 => .object "SwipedStripe$Row"
  | 1 => .object "SwipedStripe$Row"
  | 2 => .int
  | 3 => .int
  | 4 => .int
  | 5 => .int
  | 6 => .int
  | 7 => .boolean
  | _ => .int
theorem nmX2 : ∀ a, a < 9 → ∀ b, b < 9 → a ≠ b → (TX2 a).2.1 ≠ (TX2 b).2.1 := by decide +kernel
theorem tyX2_ok : ∀ k, k < 9 → parseFieldDescriptor (TX2 k).2.2.1 = some (tyX2 k) := by decide +kernel
def RX3 : String := "SwipedStripe$Reading"
def TX3 : u_T := fun k => match k with
  | 0 => ("SwipedStripe$Reading", "bits", "LSwipedStripe$Row;", true)
  | 1 => ("SwipedStripe$Reading", "firstGaps", "LSwipedStripe$Row;", true)
  | 2 => ("SwipedStripe$Reading", "clocks", "LSwipedStripe$Row;", true)
  | 3 => ("SwipedStripe$Reading", "fails", "I", false)
  | 4 => ("SwipedStripe$Reading", "failsAt", "I", false)
  | 5 => ("SwipedStripe$Reading", "marginAbove", "I", false)
  | _ => ("SwipedStripe$Reading", "marginBelow", "I", false)
def tyX3 : Nat → FieldType := fun k => match k with
  | 0 => .object "SwipedStripe$Row"
  | 1 => .object "SwipedStripe$Row"
  | 2 => .object "SwipedStripe$Row"
  | 3 => .int
  | 4 => .int
  | 5 => .int
  | _ => .int
theorem nmX3 : ∀ a, a < 7 → ∀ b, b < 7 → a ≠ b → (TX3 a).2.1 ≠ (TX3 b).2.1 := by decide +kernel
theorem tyX3_ok : ∀ k, k < 7 → parseFieldDescriptor (TX3 k).2.2.1 = some (tyX3 k) := by decide +kernel
def RX4 : String := "SwipedStripe$Row"
def TX4 : u_T := fun k => match k with
  | 0 => ("SwipedStripe$Row", "cells", "[I", true)
  | _ => ("SwipedStripe$Row", "size", "I", false)
def tyX4 : Nat → FieldType := fun k => match k with
  | 0 => .array .int
  | _ => .int
theorem nmX4 : ∀ a, a < 2 → ∀ b, b < 2 → a ≠ b → (TX4 a).2.1 ≠ (TX4 b).2.1 := by decide +kernel
theorem tyX4_ok : ∀ k, k < 2 → parseFieldDescriptor (TX4 k).2.2.1 = some (tyX4 k) := by decide +kernel
def RX5 : String := "SwipedStripe$Rules"
def TX5 : u_T := fun k => match k with
  | _ => ("SwipedStripe$Rules", "held", "[I", true)
def tyX5 : Nat → FieldType := fun k => match k with
  | _ => .array .int
theorem nmX5 : ∀ a, a < 1 → ∀ b, b < 1 → a ≠ b → (TX5 a).2.1 ≠ (TX5 b).2.1 := by decide +kernel
theorem tyX5_ok : ∀ k, k < 1 → parseFieldDescriptor (TX5 k).2.2.1 = some (tyX5 k) := by decide +kernel
def RX6 : String := "SwipedStripe$Sheet"
def TX6 : u_T := fun k => match k with
  | 0 => ("SwipedStripe$Sheet", "cells", "LSwipedStripe$Row;", true)
  | _ => ("SwipedStripe$Sheet", "lane", "I", false)
def tyX6 : Nat → FieldType := fun k => match k with
  | 0 => .object "SwipedStripe$Row"
  | _ => .int
theorem nmX6 : ∀ a, a < 2 → ∀ b, b < 2 → a ≠ b → (TX6 a).2.1 ≠ (TX6 b).2.1 := by decide +kernel
theorem tyX6_ok : ∀ k, k < 2 → parseFieldDescriptor (TX6 k).2.2.1 = some (tyX6 k) := by decide +kernel
def RX7 : String := "SwipedStripe$Smoothest"
def TX7 : u_T := fun k => match k with
  | 0 => ("SwipedStripe$Smoothest", "bits", "LSwipedStripe$Row;", true)
  | 1 => ("SwipedStripe$Smoothest", "behindZero", "LSwipedStripe$Row;", true)
  | 2 => ("SwipedStripe$Smoothest", "behindOne", "LSwipedStripe$Row;", true)
  | _ => ("SwipedStripe$Smoothest", "roughness", "I", false)
def tyX7 : Nat → FieldType := fun k => match k with
  | 0 => .object "SwipedStripe$Row"
  | 1 => .object "SwipedStripe$Row"
  | 2 => .object "SwipedStripe$Row"
  | _ => .int
theorem nmX7 : ∀ a, a < 4 → ∀ b, b < 4 → a ≠ b → (TX7 a).2.1 ≠ (TX7 b).2.1 := by decide +kernel
theorem tyX7_ok : ∀ k, k < 4 → parseFieldDescriptor (TX7 k).2.2.1 = some (tyX7 k) := by decide +kernel
def RX8 : String := "SwipedStripe$Stripe"
def TX8 : u_T := fun k => match k with
  | 0 => ("SwipedStripe$Stripe", "bits", "LSwipedStripe$Row;", true)
  | 1 => ("SwipedStripe$Stripe", "checks", "I", false)
  | _ => ("SwipedStripe$Stripe", "seed", "I", false)
def tyX8 : Nat → FieldType := fun k => match k with
  | 0 => .object "SwipedStripe$Row"
  | 1 => .int
  | _ => .int
theorem nmX8 : ∀ a, a < 3 → ∀ b, b < 3 → a ≠ b → (TX8 a).2.1 ≠ (TX8 b).2.1 := by decide +kernel
theorem tyX8_ok : ∀ k, k < 3 → parseFieldDescriptor (TX8 k).2.2.1 = some (tyX8 k) := by decide +kernel
def RX9 : String := "SwipedStripe$TextReader"
def TX9 : u_T := fun k => match k with
  | 0 => ("SwipedStripe$TextReader", "tape", "LSwipedStripe$Row;", true)
  | 1 => ("SwipedStripe$TextReader", "told", "LSwipedStripe$Rules;", true)
  | 2 => ("SwipedStripe$TextReader", "toldOnce", "I", false)
  | 3 => ("SwipedStripe$TextReader", "lines", "I", false)
  | 4 => ("SwipedStripe$TextReader", "faultFound", "I", false)
  | 5 => ("SwipedStripe$TextReader", "faultPlace", "I", false)
  | 6 => ("SwipedStripe$TextReader", "kind", "I", false)
  | 7 => ("SwipedStripe$TextReader", "start", "I", false)
  | 8 => ("SwipedStripe$TextReader", "next", "I", false)
  | _ => ("SwipedStripe$TextReader", "meaning", "I", false)
def tyX9 : Nat → FieldType := fun k => match k with
  | 0 => .object "SwipedStripe$Row"
  | 1 => .object "SwipedStripe$Rules"
  | 2 => .int
  | 3 => .int
  | 4 => .int
  | 5 => .int
  | 6 => .int
  | 7 => .int
  | 8 => .int
  | _ => .int
theorem nmX9 : ∀ a, a < 10 → ∀ b, b < 10 → a ≠ b → (TX9 a).2.1 ≠ (TX9 b).2.1 := by decide +kernel
theorem tyX9_ok : ∀ k, k < 10 → parseFieldDescriptor (TX9 k).2.2.1 = some (tyX9 k) := by decide +kernel
def RX10 : String := "SwipedStripe"
def TX10 : u_T := fun k => match k with
  | 0 => ("SwipedStripe", "rules", "LSwipedStripe$Rules;", true)
  | 1 => ("SwipedStripe", "tape", "LSwipedStripe$Row;", true)
  | 2 => ("SwipedStripe", "textReader", "LSwipedStripe$TextReader;", true)
  | 3 => ("SwipedStripe", "row", "LSwipedStripe$Row;", true)
  | 4 => ("SwipedStripe", "written", "LSwipedStripe$Stripe;", true)
  | 5 => ("SwipedStripe", "gaps", "LSwipedStripe$Row;", true)
  | 6 => ("SwipedStripe", "reading", "LSwipedStripe$Reading;", true)
  | 7 => ("SwipedStripe", "finding", "LSwipedStripe$Finding;", true)
  | 8 => ("SwipedStripe", "smoothest", "LSwipedStripe$Smoothest;", true)
  | 9 => ("SwipedStripe", "draws", "LSwipedStripe$Draws;", true)
  | 10 => ("SwipedStripe", "sheets", "[LSwipedStripe$Sheet;", true)
  | 11 => ("SwipedStripe", "textFault", "I", false)
  | _ => ("SwipedStripe", "loadFault", "I", false)
def tyX10 : Nat → FieldType := fun k => match k with
  | 0 => .object "SwipedStripe$Rules"
  | 1 => .object "SwipedStripe$Row"
  | 2 => .object "SwipedStripe$TextReader"
  | 3 => .object "SwipedStripe$Row"
  | 4 => .object "SwipedStripe$Stripe"
  | 5 => .object "SwipedStripe$Row"
  | 6 => .object "SwipedStripe$Reading"
  | 7 => .object "SwipedStripe$Finding"
  | 8 => .object "SwipedStripe$Smoothest"
  | 9 => .object "SwipedStripe$Draws"
  | 10 => .array (.object "SwipedStripe$Sheet")
  | 11 => .int
  | _ => .int
theorem nmX10 : ∀ a, a < 13 → ∀ b, b < 13 → a ≠ b → (TX10 a).2.1 ≠ (TX10 b).2.1 := by decide +kernel
theorem tyX10_ok : ∀ k, k < 13 → parseFieldDescriptor (TX10 k).2.2.1 = some (tyX10 k) := by decide +kernel
def RX11 : String := "SwipedStripeModel"
def TX11 : u_T := fun k => match k with
  | 0 => ("SwipedStripeModel", "tape", "[I", true)
  | 1 => ("SwipedStripeModel", "taped", "I", false)
  | 2 => ("SwipedStripeModel", "fault", "I", false)
  | 3 => ("SwipedStripeModel", "wrong", "I", false)
  | 4 => ("SwipedStripeModel", "wrongAt", "I", false)
  | 5 => ("SwipedStripeModel", "spot", "I", false)
  | 6 => ("SwipedStripeModel", "place", "I", false)
  | 7 => ("SwipedStripeModel", "token", "I", false)
  | 8 => ("SwipedStripeModel", "value", "I", false)
  | 9 => ("SwipedStripeModel", "cuts", "[I", true)
  | 10 => ("SwipedStripeModel", "letters", "[I", true)
  | 11 => ("SwipedStripeModel", "plain", "[I", true)
  | 12 => ("SwipedStripeModel", "leasts", "[I", true)
  | 13 => ("SwipedStripeModel", "mosts", "[I", true)
  | 14 => ("SwipedStripeModel", "holds", "[I", true)
  | 15 => ("SwipedStripeModel", "reads", "[I", true)
  | 16 => ("SwipedStripeModel", "toldOnes", "I", false)
  | 17 => ("SwipedStripeModel", "row", "[I", true)
  | 18 => ("SwipedStripeModel", "rowMany", "I", false)
  | 19 => ("SwipedStripeModel", "bits", "[I", true)
  | 20 => ("SwipedStripeModel", "bitMany", "I", false)
  | 21 => ("SwipedStripeModel", "gaps", "[I", true)
  | 22 => ("SwipedStripeModel", "gapMany", "I", false)
  | 23 => ("SwipedStripeModel", "seed", "I", false)
  | 24 => ("SwipedStripeModel", "heardBits", "[I", true)
  | 25 => ("SwipedStripeModel", "heardMany", "I", false)
  | 26 => ("SwipedStripeModel", "failed", "I", false)
  | 27 => ("SwipedStripeModel", "failedAt", "I", false)
  | 28 => ("SwipedStripeModel", "marginUp", "J", false)
  | 29 => ("SwipedStripeModel", "marginDown", "J", false)
  | 30 => ("SwipedStripeModel", "swayed", "I", false)
  | 31 => ("SwipedStripeModel", "verdict", "I", false)
  | 32 => ("SwipedStripeModel", "beginAt", "I", false)
  | 33 => ("SwipedStripeModel", "symbols", "[I", true)
  | 34 => ("SwipedStripeModel", "fitsOf", "[Z", true)
  | 35 => ("SwipedStripeModel", "symbolMany", "I", false)
  | 36 => ("SwipedStripeModel", "misfits", "I", false)
  | 37 => ("SwipedStripeModel", "otherChecks", "I", false)
  | 38 => ("SwipedStripeModel", "rest", "[I", true)
  | 39 => ("SwipedStripeModel", "smoothBits", "[I", true)
  | 40 => ("SwipedStripeModel", "smoothMany", "I", false)
  | 41 => ("SwipedStripeModel", "drawMany", "I", false)
  | 42 => ("SwipedStripeModel", "drawLong", "[I", true)
  | 43 => ("SwipedStripeModel", "drawn", "[I", true)
  | 44 => ("SwipedStripeModel", "drawnFits", "[Z", true)
  | 45 => ("SwipedStripeModel", "partMany", "I", false)
  | 46 => ("SwipedStripeModel", "lanes", "[I", true)
  | 47 => ("SwipedStripeModel", "lengths", "[I", true)
  | 48 => ("SwipedStripeModel", "cells", "[I", true)
  | _ => ("SwipedStripeModel", "torn", "I", false)
def tyX11 : Nat → FieldType := fun k => match k with
  | 0 => .array .int
  | 1 => .int
  | 2 => .int
  | 3 => .int
  | 4 => .int
  | 5 => .int
  | 6 => .int
  | 7 => .int
  | 8 => .int
  | 9 => .array .int
  | 10 => .array .int
  | 11 => .array .int
  | 12 => .array .int
  | 13 => .array .int
  | 14 => .array .int
  | 15 => .array .int
  | 16 => .int
  | 17 => .array .int
  | 18 => .int
  | 19 => .array .int
  | 20 => .int
  | 21 => .array .int
  | 22 => .int
  | 23 => .int
  | 24 => .array .int
  | 25 => .int
  | 26 => .int
  | 27 => .int
  | 28 => .long
  | 29 => .long
  | 30 => .int
  | 31 => .int
  | 32 => .int
  | 33 => .array .int
  | 34 => .array .boolean
  | 35 => .int
  | 36 => .int
  | 37 => .int
  | 38 => .array .int
  | 39 => .array .int
  | 40 => .int
  | 41 => .int
  | 42 => .array .int
  | 43 => .array .int
  | 44 => .array .boolean
  | 45 => .int
  | 46 => .array .int
  | 47 => .array .int
  | 48 => .array .int
  | _ => .int
theorem nmX11 : ∀ a, a < 50 → ∀ b, b < 50 → a ≠ b → (TX11 a).2.1 ≠ (TX11 b).2.1 := by decide +kernel
theorem tyX11_ok : ∀ k, k < 50 → parseFieldDescriptor (TX11 k).2.2.1 = some (tyX11 k) := by decide +kernel
abbrev jw_cl : List vw_C := [(RX0, TX0, 2), (RX1, TX1, 2), (RX2, TX2, 9), (RX3, TX3, 7), (RX4, TX4, 2), (RX5, TX5, 1), (RX6, TX6, 2), (RX7, TX7, 4), (RX8, TX8, 3), (RX9, TX9, 10), (RX10, TX10, 13), (RX11, TX11, 50)]
abbrev jw_ty (aC : Nat → ClassId) : List (ClassId × FieldType) := [(aC 0, .int), (aC 1, .boolean), (aC 2, .object "SwipedStripe$Draw"), (aC 3, .object "SwipedStripe$Sheet")]
theorem jw_inL (ws : List Cond) (ps : List Nat) (hp : ws = ps.filterMap (fun i => tables_1[i]?)) (h : ws.all goodWord = true) : ∀ w ∈ ws, w ∈ jw_gd := by
  intro w hw
  have h1 := List.all_eq_true.mp h w hw
  rw [hp] at hw
  obtain ⟨i, -, hi⟩ := List.mem_filterMap.mp hw
  exact jw_in hi h1
/-- a class as the rows of fields want it -/
def jw_F (ci : Nat) (C : String) (T : u_T) (N : Nat) (ty : Nat → FieldType) : Prop := jw_cl[ci]? = some (C, T, N) ∧ (∀ w ∈ u_ws C T N, w ∈ jw_gd) ∧ (∀ k, k < N → parseFieldDescriptor (T k).2.2.1 = some (ty k)) ∧ ∀ a, a < N → ∀ b, b < N → a ≠ b → (T a).2.1 ≠ (T b).2.1
set_option maxRecDepth 20000 in
theorem jw_F0 : jw_F 0 RX0 TX0 2 tyX0 := ⟨rfl, jw_inL _ [226, 228] (by decide +kernel) (by decide +kernel), tyX0_ok, nmX0⟩
set_option maxRecDepth 20000 in
theorem jw_F1 : jw_F 1 RX1 TX1 2 tyX1 := ⟨rfl, jw_inL _ [233, 235] (by decide +kernel) (by decide +kernel), tyX1_ok, nmX1⟩
set_option maxRecDepth 20000 in
theorem jw_F2 : jw_F 2 RX2 TX2 9 tyX2 := ⟨rfl, jw_inL _ [169, 171, 173, 175, 177, 179, 181, 183, 185] (by decide +kernel) (by decide +kernel), tyX2_ok, nmX2⟩
set_option maxRecDepth 20000 in
theorem jw_F3 : jw_F 3 RX3 TX3 7 tyX3 := ⟨rfl, jw_inL _ [137, 139, 141, 143, 145, 147, 149] (by decide +kernel) (by decide +kernel), tyX3_ok, nmX3⟩
set_option maxRecDepth 20000 in
theorem jw_F4 : jw_F 4 RX4 TX4 2 tyX4 := ⟨rfl, jw_inL _ [58, 60] (by decide +kernel) (by decide +kernel), tyX4_ok, nmX4⟩
set_option maxRecDepth 20000 in
theorem jw_F5 : jw_F 5 RX5 TX5 1 tyX5 := ⟨rfl, jw_inL _ [43] (by decide +kernel) (by decide +kernel), tyX5_ok, nmX5⟩
set_option maxRecDepth 20000 in
theorem jw_F6 : jw_F 6 RX6 TX6 2 tyX6 := ⟨rfl, jw_inL _ [249, 251] (by decide +kernel) (by decide +kernel), tyX6_ok, nmX6⟩
set_option maxRecDepth 20000 in
theorem jw_F7 : jw_F 7 RX7 TX7 4 tyX7 := ⟨rfl, jw_inL _ [200, 202, 204, 206] (by decide +kernel) (by decide +kernel), tyX7_ok, nmX7⟩
set_option maxRecDepth 20000 in
theorem jw_F8 : jw_F 8 RX8 TX8 3 tyX8 := ⟨rfl, jw_inL _ [115, 117, 119] (by decide +kernel) (by decide +kernel), tyX8_ok, nmX8⟩
set_option maxRecDepth 20000 in
theorem jw_F9 : jw_F 9 RX9 TX9 10 tyX9 := ⟨rfl, jw_inL _ [83, 85, 87, 89, 91, 93, 95, 97, 99, 101] (by decide +kernel) (by decide +kernel), tyX9_ok, nmX9⟩
set_option maxRecDepth 20000 in
theorem jw_F10 : jw_F 10 RX10 TX10 13 tyX10 := ⟨rfl, jw_inL _ [267, 269, 271, 273, 275, 277, 279, 281, 283, 285, 287, 289, 291] (by decide +kernel) (by decide +kernel), tyX10_ok, nmX10⟩
set_option maxRecDepth 20000 in
theorem jw_F11 : jw_F 11 RX11 TX11 50 tyX11 := ⟨rfl, jw_inL _ [1082, 1084, 1086, 1088, 1090, 1092, 1094, 1096, 1098, 1100, 1102, 1104, 1106, 1108, 1110, 1112, 1114, 1116, 1118, 1120, 1122, 1124, 1126, 1128, 1130, 1132, 1134, 1136, 1138, 1140, 1142, 1144, 1146, 1148, 1150, 1152, 1154, 1156, 1158, 1160, 1162, 1164, 1166, 1168, 1170, 1172, 1174, 1176, 1178, 1180] (by decide +kernel) (by decide +kernel), tyX11_ok, nmX11⟩
def jw_tb0 : List Int32 := [4, 1, 11, 15, 5, 5, 40, 1, 1]
def jw_tb1 : List Int32 := [0, 1, 1, 2, 3, 4, 5, 6, 7, 7, 8]
def jw_tb2 : List Int32 := [(-1), 1, 0, (-1), (-1), (-1), (-1), (-1), 1, 0, (-1)]
def jw_tb3 : List Int32 := [3, 0, 0, 0, 1, 1, 5, 0, 0]
def jw_tb4 : List Int32 := [6, 1, 63, 63, 20, 20, 60, 1, 2]
/-- the tables that nobody writes -/
def jw_ro : Nat → Option (Nat × (Nat → Int32))
  | 1000 => some (9, fun j => jw_tb0.getD j 0)
  | 1001 => some (11, fun j => jw_tb1.getD j 0)
  | 1002 => some (11, fun j => jw_tb2.getD j 0)
  | 1003 => some (9, fun j => jw_tb3.getD j 0)
  | 1004 => some (9, fun j => jw_tb4.getD j 0)
  | _ => none
def jw_sts : List (String × String × String × Nat) := [("SwipedStripe", "AT_FIRST", "[I", 1000), ("SwipedStripe", "RULE_OF_WORD", "[I", 1001), ("SwipedStripe", "SAID_BY_WORD", "[I", 1002), ("SwipedStripe", "LEAST_TOLD", "[I", 1003), ("SwipedStripe", "MOST_TOLD", "[I", 1004)]
def jw_strs : List (String × Nat × String × Nat) := [("SwipedStripe$TextReader", 140, "bits", 2000), ("SwipedStripe$TextReader", 142, "odd", 2001), ("SwipedStripe$TextReader", 144, "even", 2002), ("SwipedStripe$TextReader", 146, "begin", 2003), ("SwipedStripe$TextReader", 148, "close", 2004), ("SwipedStripe$TextReader", 150, "lead", 2005), ("SwipedStripe$TextReader", 152, "tail", 2006), ("SwipedStripe$TextReader", 154, "limit", 2007), ("SwipedStripe$TextReader", 156, "checked", 2008), ("SwipedStripe$TextReader", 158, "plain", 2009), ("SwipedStripe$TextReader", 160, "clock", 2010)]
def jw_len : List Nat := [4, 3, 4, 5, 5, 4, 4, 5, 7, 5, 5]
def jw_byt : List (List Int32) := [[98, 105, 116, 115], [111, 100, 100], [101, 118, 101, 110], [98, 101, 103, 105, 110], [99, 108, 111, 115, 101], [108, 101, 97, 100], [116, 97, 105, 108], [108, 105, 109, 105, 116], [99, 104, 101, 99, 107, 101, 100], [112, 108, 97, 105, 110], [99, 108, 111, 99, 107]]
def jw_ns : List Cond := [(Cond.fieldLinkNest "SwipedStripe$Rules" 18 "SwipedStripe" "AT_FIRST" "[I" "SwipedStripe"), (Cond.methodLinkNest "SwipedStripe$Rules" 21 ⟨"SwipedStripe", "entry", "([II)I"⟩ "SwipedStripe"), (Cond.methodLinkNest "SwipedStripe" 27 ⟨"SwipedStripe$TextReader", "<init>", "()V"⟩ "SwipedStripe"), (Cond.methodLinkNest "SwipedStripe" 37 ⟨"SwipedStripe$Stripe", "<init>", "()V"⟩ "SwipedStripe"), (Cond.methodLinkNest "SwipedStripe" 47 ⟨"SwipedStripe$Reading", "<init>", "()V"⟩ "SwipedStripe"), (Cond.methodLinkNest "SwipedStripe" 54 ⟨"SwipedStripe$Finding", "<init>", "()V"⟩ "SwipedStripe"), (Cond.methodLinkNest "SwipedStripe" 61 ⟨"SwipedStripe$Smoothest", "<init>", "()V"⟩ "SwipedStripe"), (Cond.methodLinkNest "SwipedStripe$Draws" 21 ⟨"SwipedStripe$Draw", "<init>", "()V"⟩ "SwipedStripe"), (Cond.methodLinkNest "SwipedStripe" 86 ⟨"SwipedStripe$Sheet", "<init>", "()V"⟩ "SwipedStripe"), (Cond.fieldLinkNest "SwipedStripe$TextReader" 75 "SwipedStripe" "RULE_OF_WORD" "[I" "SwipedStripe"), (Cond.methodLinkNest "SwipedStripe$TextReader" 82 ⟨"SwipedStripe", "entry", "([II)I"⟩ "SwipedStripe"), (Cond.fieldLinkNest "SwipedStripe$TextReader" 86 "SwipedStripe" "SAID_BY_WORD" "[I" "SwipedStripe"), (Cond.fieldLinkNest "SwipedStripe$TextReader" 92 "SwipedStripe" "LEAST_TOLD" "[I" "SwipedStripe"), (Cond.fieldLinkNest "SwipedStripe$TextReader" 95 "SwipedStripe" "MOST_TOLD" "[I" "SwipedStripe")]
