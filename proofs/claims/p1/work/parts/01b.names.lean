/-! ===== BEGIN words of one list among another's, by their places ===== -/
theorem goodIn_r {big : List Cond} (ws : List Cond) (ps : List Nat) (hp : ws = ps.filterMap (fun i => big[i]?)) (h : ws.all goodWord = true) : GoodIn big ws := by
  intro w hw
  have h1 := List.all_eq_true.mp h w hw
  rw [hp] at hw
  obtain ⟨i, -, hi⟩ := List.mem_filterMap.mp hw
  have hm : w ∈ big := by first | exact List.mem_of_getElem? hi | exact List.getElem?_mem hi
  exact ⟨hm, good_of_word h1⟩
theorem goodIn_app {big a b : List Cond} (ha : GoodIn big a) (hb : GoodIn big b) : GoodIn big (a ++ b) := fun w h => (List.mem_append.mp h).elim (ha w) (hb w)
theorem goodIn_ca {big a b : List Cond} {c : Cond} (ha : GoodIn big (c :: a)) (hb : GoodIn big b) : GoodIn big (c :: (a ++ b)) := fun w h => (List.mem_cons.mp h).elim (fun e => ha w (List.mem_cons.mpr (Or.inl e))) (fun h => (List.mem_append.mp h).elim (fun h => ha w (List.mem_cons.mpr (Or.inr h))) (hb w))
theorem goodIn_sub {big ws : List Cond} (hm : ∀ w ∈ ws, w ∈ big) (h : ws.all goodWord = true) : GoodIn big ws := fun w hw => ⟨hm w hw, good_of_word (List.all_eq_true.mp h w hw)⟩
/-! ===== END ===== -/

def RX0 : String := "DeadlineShare$Chooser"
def TX0 : u_T := fun k => match k with
  | 0 => ("DeadlineShare$Chooser", "terms", "LDeadlineShare$Terms;", true)
  | 1 => ("DeadlineShare$Chooser", "way", "I", false)
  | _ => ("DeadlineShare$Chooser", "drawn", "J", false)
def tyX0 : Nat → FieldType := fun k => match k with
  | 0 => .object "DeadlineShare$Terms"
  | 1 => .int
  | _ => .long
abbrev wsX00 : List Cond := u_ws RX0 TX0 3
theorem nmX0 : ∀ a, a < 3 → ∀ b, b < 3 → a ≠ b → (TX0 a).2.1 ≠ (TX0 b).2.1 := by decide +kernel
theorem tyX0_ok : ∀ k, k < 3 → parseFieldDescriptor (TX0 k).2.2.1 = some (tyX0 k) := by decide +kernel
abbrev cX0_init : ByteArray := prog_2_method_1_code
def yX0_init : MethodName := ⟨RX0, "<init>", "(LDeadlineShare$Terms;)V"⟩
def RX1 : String := "DeadlineShare$History"
def TX1 : u_T := fun k => match k with
  | 0 => ("DeadlineShare$History", "before", "[LDeadlineShare$State;", true)
  | 1 => ("DeadlineShare$History", "acts", "[I", true)
  | 2 => ("DeadlineShare$History", "next", "I", false)
  | _ => ("DeadlineShare$History", "size", "I", false)
def RX2 : String := "DeadlineShare$Log"
def TX2 : u_T := fun k => match k with
  | _ => ("DeadlineShare$Log", "rows", "[J", true)
def tyX2 : Nat → FieldType := fun k => match k with
  | _ => .array .long
abbrev wsX20 : List Cond := u_ws RX2 TX2 1
theorem nmX2 : ∀ a, a < 1 → ∀ b, b < 1 → a ≠ b → (TX2 a).2.1 ≠ (TX2 b).2.1 := by decide +kernel
theorem tyX2_ok : ∀ k, k < 1 → parseFieldDescriptor (TX2 k).2.2.1 = some (tyX2 k) := by decide +kernel
abbrev cX2_init : ByteArray := prog_4_method_1_code
def yX2_init : MethodName := ⟨RX2, "<init>", "()V"⟩
def RX3 : String := "DeadlineShare$Reader"
def TX3 : u_T := fun k => match k with
  | 0 => ("DeadlineShare$Reader", "script", "LDeadlineShare$Script;", true)
  | _ => ("DeadlineShare$Reader", "place", "I", false)
def RX4 : String := "DeadlineShare$Refusals"
def TX4 : u_T := fun k => match k with
  | 0 => ("DeadlineShare$Refusals", "counts", "[I", true)
  | _ => ("DeadlineShare$Refusals", "latest", "I", false)
def tyX4 : Nat → FieldType := fun k => match k with
  | 0 => .array .int
  | _ => .int
abbrev wsX40 : List Cond := u_ws RX4 TX4 2
theorem nmX4 : ∀ a, a < 2 → ∀ b, b < 2 → a ≠ b → (TX4 a).2.1 ≠ (TX4 b).2.1 := by decide +kernel
theorem tyX4_ok : ∀ k, k < 2 → parseFieldDescriptor (TX4 k).2.2.1 = some (tyX4 k) := by decide +kernel
abbrev cX4_init : ByteArray := prog_6_method_1_code
def yX4_init : MethodName := ⟨RX4, "<init>", "()V"⟩
abbrev cX4_add : ByteArray := prog_6_method_2_code
def yX4_add : MethodName := ⟨RX4, "add", "(I)I"⟩
abbrev cX4_none : ByteArray := prog_6_method_3_code
def yX4_none : MethodName := ⟨RX4, "none", "(I)I"⟩
abbrev cX4_countOf : ByteArray := prog_6_method_4_code
def yX4_countOf : MethodName := ⟨RX4, "countOf", "(I)I"⟩
abbrev cX4_placeOf : ByteArray := prog_6_method_5_code
def yX4_placeOf : MethodName := ⟨RX4, "placeOf", "(I)I"⟩
def RX5 : String := "DeadlineShare$Script"
def TX5 : u_T := fun k => match k with
  | 0 => ("DeadlineShare$Script", "steps", "[I", true)
  | 1 => ("DeadlineShare$Script", "size", "I", false)
  | 2 => ("DeadlineShare$Script", "at", "I", false)
  | 3 => ("DeadlineShare$Script", "toRun", "I", false)
  | _ => ("DeadlineShare$Script", "timesBack", "I", false)
def tyX5 : Nat → FieldType := fun k => match k with
  | 0 => .array .int
  | 1 => .int
  | 2 => .int
  | 3 => .int
  | _ => .int
abbrev wsX50 : List Cond := u_ws RX5 TX5 5
theorem nmX5 : ∀ a, a < 5 → ∀ b, b < 5 → a ≠ b → (TX5 a).2.1 ≠ (TX5 b).2.1 := by decide +kernel
theorem tyX5_ok : ∀ k, k < 5 → parseFieldDescriptor (TX5 k).2.2.1 = some (tyX5 k) := by decide +kernel
abbrev cX5_init : ByteArray := prog_7_method_1_code
def yX5_init : MethodName := ⟨RX5, "<init>", "()V"⟩
def RX6 : String := "DeadlineShare$State"
def TX6 : u_T := fun k => match k with
  | 0 => ("DeadlineShare$State", "terms", "LDeadlineShare$Terms;", true)
  | 1 => ("DeadlineShare$State", "tasks", "[LDeadlineShare$Task;", true)
  | 2 => ("DeadlineShare$State", "log", "LDeadlineShare$Log;", true)
  | 3 => ("DeadlineShare$State", "sum", "LDeadlineShare$Wide;", true)
  | 4 => ("DeadlineShare$State", "part", "LDeadlineShare$Wide;", true)
  | 5 => ("DeadlineShare$State", "count", "I", false)
  | 6 => ("DeadlineShare$State", "time", "I", false)
  | 7 => ("DeadlineShare$State", "rest", "J", false)
  | 8 => ("DeadlineShare$State", "last", "I", false)
  | _ => ("DeadlineShare$State", "holder", "I", false)
def RX7 : String := "DeadlineShare$Tape"
def TX7 : u_T := fun k => match k with
  | 0 => ("DeadlineShare$Tape", "bytes", "[B", true)
  | _ => ("DeadlineShare$Tape", "length", "I", false)
def tyX7 : Nat → FieldType := fun k => match k with
  | 0 => .array .byte
  | _ => .int
abbrev wsX70 : List Cond := u_ws RX7 TX7 2
theorem nmX7 : ∀ a, a < 2 → ∀ b, b < 2 → a ≠ b → (TX7 a).2.1 ≠ (TX7 b).2.1 := by decide +kernel
theorem tyX7_ok : ∀ k, k < 2 → parseFieldDescriptor (TX7 k).2.2.1 = some (tyX7 k) := by decide +kernel
abbrev cX7_init : ByteArray := prog_9_method_1_code
def yX7_init : MethodName := ⟨RX7, "<init>", "()V"⟩
def RX8 : String := "DeadlineShare$Task"
def TX8 : u_T := fun k => match k with
  | 0 => ("DeadlineShare$Task", "number", "I", true)
  | 1 => ("DeadlineShare$Task", "script", "LDeadlineShare$Script;", true)
  | 2 => ("DeadlineShare$Task", "weight", "I", false)
  | 3 => ("DeadlineShare$Task", "slice", "I", false)
  | 4 => ("DeadlineShare$Task", "state", "I", false)
  | 5 => ("DeadlineShare$Task", "v", "J", false)
  | 6 => ("DeadlineShare$Task", "left", "I", false)
  | 7 => ("DeadlineShare$Task", "lag", "LDeadlineShare$Wide;", true)
  | 8 => ("DeadlineShare$Task", "lagWeight", "I", false)
  | 9 => ("DeadlineShare$Task", "served", "I", false)
  | 10 => ("DeadlineShare$Task", "requests", "I", false)
  | 11 => ("DeadlineShare$Task", "late", "I", false)
  | 12 => ("DeadlineShare$Task", "wait", "I", false)
  | 13 => ("DeadlineShare$Task", "longest", "I", false)
  | 14 => ("DeadlineShare$Task", "napTill", "I", false)
  | 15 => ("DeadlineShare$Task", "budget", "I", false)
  | 16 => ("DeadlineShare$Task", "quota", "I", false)
  | _ => ("DeadlineShare$Task", "period", "I", false)
def RX9 : String := "DeadlineShare$Terms"
def TX9 : u_T := fun k => match k with
  | 0 => ("DeadlineShare$Terms", "mode", "I", false)
  | 1 => ("DeadlineShare$Terms", "carry", "I", false)
  | _ => ("DeadlineShare$Terms", "seed", "I", false)
def tyX9 : Nat → FieldType := fun k => match k with
  | 0 => .int
  | 1 => .int
  | _ => .int
abbrev wsX90 : List Cond := u_ws RX9 TX9 3
theorem nmX9 : ∀ a, a < 3 → ∀ b, b < 3 → a ≠ b → (TX9 a).2.1 ≠ (TX9 b).2.1 := by decide +kernel
theorem tyX9_ok : ∀ k, k < 3 → parseFieldDescriptor (TX9 k).2.2.1 = some (tyX9 k) := by decide +kernel
abbrev cX9_init : ByteArray := prog_11_method_1_code
def yX9_init : MethodName := ⟨RX9, "<init>", "()V"⟩
def RX10 : String := "DeadlineShare$Wide"
def TX10 : u_T := fun k => match k with
  | 0 => ("DeadlineShare$Wide", "high", "J", false)
  | _ => ("DeadlineShare$Wide", "low", "J", false)
abbrev cX10_init : ByteArray := prog_12_method_1_code
def yX10_init : MethodName := ⟨RX10, "<init>", "()V"⟩
def RX11 : String := "DeadlineShare"
def TX11 : u_T := fun k => match k with
  | 0 => ("DeadlineShare", "terms", "LDeadlineShare$Terms;", true)
  | 1 => ("DeadlineShare", "tape", "LDeadlineShare$Tape;", true)
  | 2 => ("DeadlineShare", "reader", "LDeadlineShare$Reader;", true)
  | 3 => ("DeadlineShare", "now", "LDeadlineShare$State;", true)
  | 4 => ("DeadlineShare", "paper", "LDeadlineShare$State;", true)
  | 5 => ("DeadlineShare", "asTold", "LDeadlineShare$Chooser;", true)
  | 6 => ("DeadlineShare", "onPaper", "LDeadlineShare$Chooser;", true)
  | 7 => ("DeadlineShare", "images", "[LDeadlineShare$State;", true)
  | 8 => ("DeadlineShare", "imageKept", "[Z", true)
  | 9 => ("DeadlineShare", "history", "LDeadlineShare$History;", true)
  | 10 => ("DeadlineShare", "refusals", "LDeadlineShare$Refusals;", true)
  | _ => ("DeadlineShare", "faultPlace", "I", false)
def RX12 : String := "DeadlineShareModel"
def TX12 : u_T := fun k => match k with
  | 0 => ("DeadlineShareModel", "thrown", "I", false)
  | 1 => ("DeadlineShareModel", "status", "I", false)
  | 2 => ("DeadlineShareModel", "refusals", "[I", true)
  | 3 => ("DeadlineShareModel", "term", "[I", true)
  | 4 => ("DeadlineShareModel", "row", "[J", true)
  | 5 => ("DeadlineShareModel", "undos", "[J", true)
  | 6 => ("DeadlineShareModel", "paper", "[J", true)
  | 7 => ("DeadlineShareModel", "images", "[J", true)
  | 8 => ("DeadlineShareModel", "isKept", "[Z", true)
  | 9 => ("DeadlineShareModel", "sorts", "[I", true)
  | 10 => ("DeadlineShareModel", "nUndo", "I", false)
  | 11 => ("DeadlineShareModel", "tape", "[I", true)
  | 12 => ("DeadlineShareModel", "taped", "I", false)
  | 13 => ("DeadlineShareModel", "from", "I", false)
  | 14 => ("DeadlineShareModel", "to", "I", false)
  | 15 => ("DeadlineShareModel", "sort", "I", false)
  | 16 => ("DeadlineShareModel", "worth", "J", false)
  | 17 => ("DeadlineShareModel", "fault", "I", false)
  | 18 => ("DeadlineShareModel", "bad", "Z", false)
  | 19 => ("DeadlineShareModel", "words", "[J", true)
  | 20 => ("DeadlineShareModel", "most", "[I", true)
  | 21 => ("DeadlineShareModel", "kinds", "[I", true)
  | 22 => ("DeadlineShareModel", "numbers", "[I", true)
  | 23 => ("DeadlineShareModel", "nSteps", "I", false)
  | 24 => ("DeadlineShareModel", "state", "J", false)
  | 25 => ("DeadlineShareModel", "most1", "J", false)
  | _ => ("DeadlineShareModel", "least1", "J", false)
def wsX0_init : List Cond := .code yX0_init cX0_init 2 none :: ([.methodLink RX0 3 objectInit, .instanceMethod objectInit, .code objectInit ⟨#[0xb1]⟩ 1 none, .fieldLink RX0 9 "DeadlineShare$Chooser" "terms" "LDeadlineShare$Terms;"] ++ wsX00)
def wsX2_init : List Cond := .code yX2_init cX2_init 1 none :: ([.methodLink RX2 5 objectInit, .instanceMethod objectInit, .code objectInit ⟨#[0xb1]⟩ 1 none, .arrayClass .long, .fieldLink RX2 11 "DeadlineShare$Log" "rows" "[J"] ++ wsX20)
def wsX10_init : List Cond := .code yX10_init cX10_init 1 none :: ([.methodLink RX10 3 objectInit, .instanceMethod objectInit, .code objectInit ⟨#[0xb1]⟩ 1 none])
def wsX5_init : List Cond := .code yX5_init cX5_init 1 none :: ([.methodLink RX5 3 objectInit, .instanceMethod objectInit, .code objectInit ⟨#[0xb1]⟩ 1 none, .arrayClass .int, .fieldLink RX5 11 "DeadlineShare$Script" "steps" "[I"] ++ wsX50)
def wsX4_init : List Cond := .code yX4_init cX4_init 1 none :: ([.methodLink RX4 3 objectInit, .instanceMethod objectInit, .code objectInit ⟨#[0xb1]⟩ 1 none, .arrayClass .int, .fieldLink RX4 9 "DeadlineShare$Refusals" "counts" "[I"] ++ wsX40)
def wsX4_placeOf : List Cond := .code yX4_placeOf cX4_placeOf 1 (some .int) :: ([])
def wsX4_add : List Cond := .code yX4_add cX4_add 2 (some .int) :: ([.fieldLink RX4 15 "DeadlineShare$Refusals" "latest" "I", .fieldLink RX4 9 "DeadlineShare$Refusals" "counts" "[I", .methodLink RX4 19 yX4_placeOf, .static yX4_placeOf, .initialized RX4, .code yX4_placeOf cX4_placeOf 1 (some .int)] ++ wsX40)
def wsX4_none : List Cond := .code yX4_none cX4_none 2 (some .int) :: ([.fieldLink RX4 15 "DeadlineShare$Refusals" "latest" "I"] ++ wsX40)
def wsX4_countOf : List Cond := .code yX4_countOf cX4_countOf 2 (some .int) :: ([.fieldLink RX4 9 "DeadlineShare$Refusals" "counts" "[I", .methodLink RX4 19 yX4_placeOf, .static yX4_placeOf, .initialized RX4, .code yX4_placeOf cX4_placeOf 1 (some .int)] ++ wsX40)
def wsX7_init : List Cond := .code yX7_init cX7_init 1 none :: ([.methodLink RX7 3 objectInit, .instanceMethod objectInit, .code objectInit ⟨#[0xb1]⟩ 1 none, .arrayClass .byte, .fieldLink RX7 11 "DeadlineShare$Tape" "bytes" "[B"] ++ wsX70)
def wsX9_init : List Cond := .code yX9_init cX9_init 1 none :: ([.methodLink RX9 1 objectInit, .instanceMethod objectInit, .code objectInit ⟨#[0xb1]⟩ 1 none, .fieldLink RX9 7 "DeadlineShare$Terms" "carry" "I", .fieldLink RX9 13 "DeadlineShare$Terms" "seed" "I"] ++ wsX90)
abbrev vwCl : List vw_C := [(RX0, TX0, 3), (RX1, TX1, 4), (RX2, TX2, 1), (RX3, TX3, 2), (RX4, TX4, 2), (RX5, TX5, 5), (RX6, TX6, 10), (RX7, TX7, 2), (RX8, TX8, 18), (RX9, TX9, 3), (RX10, TX10, 2), (RX11, TX11, 12), (RX12, TX12, 27)]
