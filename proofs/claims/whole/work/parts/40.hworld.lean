def TB : u_T := fun k => match k with
  | 0 => ("BitNumbers", "types", "[I", true)
  | 1 => ("BitNumbers", "rows", "[J", true)
  | 2 => ("BitNumbers", "count", "I", false)
  | _ => ("BitNumbers", "latestTrap", "I", false)
def tyTB : Nat → FieldType := fun k => match k with
  | 0 => .array .int
  | 1 => .array .long
  | 2 => .int
  | _ => .int
theorem tyTB_ok : ∀ k, k < 4 → parseFieldDescriptor (TB k).2.2.1 = some (tyTB k) := by decide +kernel
theorem nmTB : ∀ a, a < 4 → ∀ b, b < 4 → a ≠ b → (TB a).2.1 ≠ (TB b).2.1 := by decide +kernel
theorem inTB : ∀ w ∈ u_ws "BitNumbers" TB 4, w ∈ aw := by
  have h : ∀ w ∈ u_ws "BitNumbers" TB 4, w ∈ lw_tbl := by decide +kernel
  have h2 : (u_ws "BitNumbers" TB 4).all goodWord = true := by decide +kernel
  exact fun w hw => List.mem_filter.mpr ⟨h w hw, List.all_eq_true.mp h2 w hw⟩
theorem owTB : ∀ k, k < 4 → (TB k).1 = "BitNumbers" := by decide
def TM : u_T := fun k => match k with
  | 0 => ("BitNumbersModel", "thrown", "I", false)
  | 1 => ("BitNumbersModel", "trap", "I", false)
  | 2 => ("BitNumbersModel", "count", "I", false)
  | 3 => ("BitNumbersModel", "types", "[I", true)
  | 4 => ("BitNumbersModel", "values", "[J", true)
  | 5 => ("BitNumbersModel", "row", "[I", true)
  | 6 => ("BitNumbersModel", "other", "[I", true)
  | 7 => ("BitNumbersModel", "factor", "[I", true)
  | 8 => ("BitNumbersModel", "base", "I", false)
  | 9 => ("BitNumbersModel", "held", "I", false)
  | 10 => ("BitNumbersModel", "mode", "I", false)
  | 11 => ("BitNumbersModel", "dividend", "J", false)
  | 12 => ("BitNumbersModel", "divisor", "J", false)
  | _ => ("BitNumbersModel", "scale", "I", false)
def tyTM : Nat → FieldType := fun k => match k with
  | 0 => .int
  | 1 => .int
  | 2 => .int
  | 3 => .array .int
  | 4 => .array .long
  | 5 => .array .int
  | 6 => .array .int
  | 7 => .array .int
  | 8 => .int
  | 9 => .int
  | 10 => .int
  | 11 => .long
  | 12 => .long
  | _ => .int
theorem tyTM_ok : ∀ k, k < 14 → parseFieldDescriptor (TM k).2.2.1 = some (tyTM k) := by decide +kernel
theorem nmTM : ∀ a, a < 14 → ∀ b, b < 14 → a ≠ b → (TM a).2.1 ≠ (TM b).2.1 := by decide +kernel
theorem inTM : ∀ w ∈ u_ws "BitNumbersModel" TM 14, w ∈ aw := by
  have h : ∀ w ∈ u_ws "BitNumbersModel" TM 14, w ∈ lw_tbl := by decide +kernel
  have h2 : (u_ws "BitNumbersModel" TM 14).all goodWord = true := by decide +kernel
  exact fun w hw => List.mem_filter.mpr ⟨h w hw, List.all_eq_true.mp h2 w hw⟩
theorem owTM : ∀ k, k < 14 → (TM k).1 = "BitNumbersModel" := by decide
def clM : List vw_C := [("BitNumbers", TB, 4), ("BitNumbersModel", TM, 14)]
def tyA (ad : Nat → Nat) : List (ClassId × FieldType) := [(ad 6, .int), (ad 7, .long)]
abbrev MS : Type := (Int32) × (Int32) × (Int32) × (Int32) × (Int32) × (Int32) × (Int32) × (Int64) × (Int64) × (Nat → Int32) × (Nat → Int64) × (Nat → Int32) × (Nat → Int32) × (Nat → Int32)
def ms_thrown (σ : MS) : Int32 := σ.1
def ms_trap (σ : MS) : Int32 := σ.2.1
def ms_count (σ : MS) : Int32 := σ.2.2.1
def ms_base (σ : MS) : Int32 := σ.2.2.2.1
def ms_held (σ : MS) : Int32 := σ.2.2.2.2.1
def ms_mode (σ : MS) : Int32 := σ.2.2.2.2.2.1
def ms_scale (σ : MS) : Int32 := σ.2.2.2.2.2.2.1
def ms_dividend (σ : MS) : Int64 := σ.2.2.2.2.2.2.2.1
def ms_divisor (σ : MS) : Int64 := σ.2.2.2.2.2.2.2.2.1
def ms_types (σ : MS) : Nat → Int32 := σ.2.2.2.2.2.2.2.2.2.1
def ms_values (σ : MS) : Nat → Int64 := σ.2.2.2.2.2.2.2.2.2.2.1
def ms_row (σ : MS) : Nat → Int32 := σ.2.2.2.2.2.2.2.2.2.2.2.1
def ms_other (σ : MS) : Nat → Int32 := σ.2.2.2.2.2.2.2.2.2.2.2.2.1
def ms_factor (σ : MS) : Nat → Int32 := σ.2.2.2.2.2.2.2.2.2.2.2.2.2
def ms_set_thrown (σ : MS) (v : Int32) : MS := (v, ms_trap σ, ms_count σ, ms_base σ, ms_held σ, ms_mode σ, ms_scale σ, ms_dividend σ, ms_divisor σ, ms_types σ, ms_values σ, ms_row σ, ms_other σ, ms_factor σ)
def ms_set_trap (σ : MS) (v : Int32) : MS := (ms_thrown σ, v, ms_count σ, ms_base σ, ms_held σ, ms_mode σ, ms_scale σ, ms_dividend σ, ms_divisor σ, ms_types σ, ms_values σ, ms_row σ, ms_other σ, ms_factor σ)
def ms_set_count (σ : MS) (v : Int32) : MS := (ms_thrown σ, ms_trap σ, v, ms_base σ, ms_held σ, ms_mode σ, ms_scale σ, ms_dividend σ, ms_divisor σ, ms_types σ, ms_values σ, ms_row σ, ms_other σ, ms_factor σ)
def ms_set_base (σ : MS) (v : Int32) : MS := (ms_thrown σ, ms_trap σ, ms_count σ, v, ms_held σ, ms_mode σ, ms_scale σ, ms_dividend σ, ms_divisor σ, ms_types σ, ms_values σ, ms_row σ, ms_other σ, ms_factor σ)
def ms_set_held (σ : MS) (v : Int32) : MS := (ms_thrown σ, ms_trap σ, ms_count σ, ms_base σ, v, ms_mode σ, ms_scale σ, ms_dividend σ, ms_divisor σ, ms_types σ, ms_values σ, ms_row σ, ms_other σ, ms_factor σ)
def ms_set_mode (σ : MS) (v : Int32) : MS := (ms_thrown σ, ms_trap σ, ms_count σ, ms_base σ, ms_held σ, v, ms_scale σ, ms_dividend σ, ms_divisor σ, ms_types σ, ms_values σ, ms_row σ, ms_other σ, ms_factor σ)
def ms_set_scale (σ : MS) (v : Int32) : MS := (ms_thrown σ, ms_trap σ, ms_count σ, ms_base σ, ms_held σ, ms_mode σ, v, ms_dividend σ, ms_divisor σ, ms_types σ, ms_values σ, ms_row σ, ms_other σ, ms_factor σ)
def ms_set_dividend (σ : MS) (v : Int64) : MS := (ms_thrown σ, ms_trap σ, ms_count σ, ms_base σ, ms_held σ, ms_mode σ, ms_scale σ, v, ms_divisor σ, ms_types σ, ms_values σ, ms_row σ, ms_other σ, ms_factor σ)
def ms_set_divisor (σ : MS) (v : Int64) : MS := (ms_thrown σ, ms_trap σ, ms_count σ, ms_base σ, ms_held σ, ms_mode σ, ms_scale σ, ms_dividend σ, v, ms_types σ, ms_values σ, ms_row σ, ms_other σ, ms_factor σ)
def ms_set_types (σ : MS) (v : Nat → Int32) : MS := (ms_thrown σ, ms_trap σ, ms_count σ, ms_base σ, ms_held σ, ms_mode σ, ms_scale σ, ms_dividend σ, ms_divisor σ, v, ms_values σ, ms_row σ, ms_other σ, ms_factor σ)
def ms_set_values (σ : MS) (v : Nat → Int64) : MS := (ms_thrown σ, ms_trap σ, ms_count σ, ms_base σ, ms_held σ, ms_mode σ, ms_scale σ, ms_dividend σ, ms_divisor σ, ms_types σ, v, ms_row σ, ms_other σ, ms_factor σ)
def ms_set_row (σ : MS) (v : Nat → Int32) : MS := (ms_thrown σ, ms_trap σ, ms_count σ, ms_base σ, ms_held σ, ms_mode σ, ms_scale σ, ms_dividend σ, ms_divisor σ, ms_types σ, ms_values σ, v, ms_other σ, ms_factor σ)
def ms_set_other (σ : MS) (v : Nat → Int32) : MS := (ms_thrown σ, ms_trap σ, ms_count σ, ms_base σ, ms_held σ, ms_mode σ, ms_scale σ, ms_dividend σ, ms_divisor σ, ms_types σ, ms_values σ, ms_row σ, v, ms_factor σ)
def ms_set_factor (σ : MS) (v : Nat → Int32) : MS := (ms_thrown σ, ms_trap σ, ms_count σ, ms_base σ, ms_held σ, ms_mode σ, ms_scale σ, ms_dividend σ, ms_divisor σ, ms_types σ, ms_values σ, ms_row σ, ms_other σ, v)
theorem ms_thrown_thrown (σ : MS) (v : Int32) : ms_thrown (ms_set_thrown σ v) = v := rfl
theorem ms_trap_thrown (σ : MS) (v : Int32) : ms_trap (ms_set_thrown σ v) = ms_trap σ := rfl
theorem ms_count_thrown (σ : MS) (v : Int32) : ms_count (ms_set_thrown σ v) = ms_count σ := rfl
theorem ms_base_thrown (σ : MS) (v : Int32) : ms_base (ms_set_thrown σ v) = ms_base σ := rfl
theorem ms_held_thrown (σ : MS) (v : Int32) : ms_held (ms_set_thrown σ v) = ms_held σ := rfl
theorem ms_mode_thrown (σ : MS) (v : Int32) : ms_mode (ms_set_thrown σ v) = ms_mode σ := rfl
theorem ms_scale_thrown (σ : MS) (v : Int32) : ms_scale (ms_set_thrown σ v) = ms_scale σ := rfl
theorem ms_dividend_thrown (σ : MS) (v : Int32) : ms_dividend (ms_set_thrown σ v) = ms_dividend σ := rfl
theorem ms_divisor_thrown (σ : MS) (v : Int32) : ms_divisor (ms_set_thrown σ v) = ms_divisor σ := rfl
theorem ms_types_thrown (σ : MS) (v : Int32) : ms_types (ms_set_thrown σ v) = ms_types σ := rfl
theorem ms_values_thrown (σ : MS) (v : Int32) : ms_values (ms_set_thrown σ v) = ms_values σ := rfl
theorem ms_row_thrown (σ : MS) (v : Int32) : ms_row (ms_set_thrown σ v) = ms_row σ := rfl
theorem ms_other_thrown (σ : MS) (v : Int32) : ms_other (ms_set_thrown σ v) = ms_other σ := rfl
theorem ms_factor_thrown (σ : MS) (v : Int32) : ms_factor (ms_set_thrown σ v) = ms_factor σ := rfl
theorem ms_thrown_trap (σ : MS) (v : Int32) : ms_thrown (ms_set_trap σ v) = ms_thrown σ := rfl
theorem ms_trap_trap (σ : MS) (v : Int32) : ms_trap (ms_set_trap σ v) = v := rfl
theorem ms_count_trap (σ : MS) (v : Int32) : ms_count (ms_set_trap σ v) = ms_count σ := rfl
theorem ms_base_trap (σ : MS) (v : Int32) : ms_base (ms_set_trap σ v) = ms_base σ := rfl
theorem ms_held_trap (σ : MS) (v : Int32) : ms_held (ms_set_trap σ v) = ms_held σ := rfl
theorem ms_mode_trap (σ : MS) (v : Int32) : ms_mode (ms_set_trap σ v) = ms_mode σ := rfl
theorem ms_scale_trap (σ : MS) (v : Int32) : ms_scale (ms_set_trap σ v) = ms_scale σ := rfl
theorem ms_dividend_trap (σ : MS) (v : Int32) : ms_dividend (ms_set_trap σ v) = ms_dividend σ := rfl
theorem ms_divisor_trap (σ : MS) (v : Int32) : ms_divisor (ms_set_trap σ v) = ms_divisor σ := rfl
theorem ms_types_trap (σ : MS) (v : Int32) : ms_types (ms_set_trap σ v) = ms_types σ := rfl
theorem ms_values_trap (σ : MS) (v : Int32) : ms_values (ms_set_trap σ v) = ms_values σ := rfl
theorem ms_row_trap (σ : MS) (v : Int32) : ms_row (ms_set_trap σ v) = ms_row σ := rfl
theorem ms_other_trap (σ : MS) (v : Int32) : ms_other (ms_set_trap σ v) = ms_other σ := rfl
theorem ms_factor_trap (σ : MS) (v : Int32) : ms_factor (ms_set_trap σ v) = ms_factor σ := rfl
theorem ms_thrown_count (σ : MS) (v : Int32) : ms_thrown (ms_set_count σ v) = ms_thrown σ := rfl
theorem ms_trap_count (σ : MS) (v : Int32) : ms_trap (ms_set_count σ v) = ms_trap σ := rfl
theorem ms_count_count (σ : MS) (v : Int32) : ms_count (ms_set_count σ v) = v := rfl
theorem ms_base_count (σ : MS) (v : Int32) : ms_base (ms_set_count σ v) = ms_base σ := rfl
theorem ms_held_count (σ : MS) (v : Int32) : ms_held (ms_set_count σ v) = ms_held σ := rfl
theorem ms_mode_count (σ : MS) (v : Int32) : ms_mode (ms_set_count σ v) = ms_mode σ := rfl
theorem ms_scale_count (σ : MS) (v : Int32) : ms_scale (ms_set_count σ v) = ms_scale σ := rfl
theorem ms_dividend_count (σ : MS) (v : Int32) : ms_dividend (ms_set_count σ v) = ms_dividend σ := rfl
theorem ms_divisor_count (σ : MS) (v : Int32) : ms_divisor (ms_set_count σ v) = ms_divisor σ := rfl
theorem ms_types_count (σ : MS) (v : Int32) : ms_types (ms_set_count σ v) = ms_types σ := rfl
theorem ms_values_count (σ : MS) (v : Int32) : ms_values (ms_set_count σ v) = ms_values σ := rfl
theorem ms_row_count (σ : MS) (v : Int32) : ms_row (ms_set_count σ v) = ms_row σ := rfl
theorem ms_other_count (σ : MS) (v : Int32) : ms_other (ms_set_count σ v) = ms_other σ := rfl
theorem ms_factor_count (σ : MS) (v : Int32) : ms_factor (ms_set_count σ v) = ms_factor σ := rfl
theorem ms_thrown_base (σ : MS) (v : Int32) : ms_thrown (ms_set_base σ v) = ms_thrown σ := rfl
theorem ms_trap_base (σ : MS) (v : Int32) : ms_trap (ms_set_base σ v) = ms_trap σ := rfl
theorem ms_count_base (σ : MS) (v : Int32) : ms_count (ms_set_base σ v) = ms_count σ := rfl
theorem ms_base_base (σ : MS) (v : Int32) : ms_base (ms_set_base σ v) = v := rfl
theorem ms_held_base (σ : MS) (v : Int32) : ms_held (ms_set_base σ v) = ms_held σ := rfl
theorem ms_mode_base (σ : MS) (v : Int32) : ms_mode (ms_set_base σ v) = ms_mode σ := rfl
theorem ms_scale_base (σ : MS) (v : Int32) : ms_scale (ms_set_base σ v) = ms_scale σ := rfl
theorem ms_dividend_base (σ : MS) (v : Int32) : ms_dividend (ms_set_base σ v) = ms_dividend σ := rfl
theorem ms_divisor_base (σ : MS) (v : Int32) : ms_divisor (ms_set_base σ v) = ms_divisor σ := rfl
theorem ms_types_base (σ : MS) (v : Int32) : ms_types (ms_set_base σ v) = ms_types σ := rfl
theorem ms_values_base (σ : MS) (v : Int32) : ms_values (ms_set_base σ v) = ms_values σ := rfl
theorem ms_row_base (σ : MS) (v : Int32) : ms_row (ms_set_base σ v) = ms_row σ := rfl
theorem ms_other_base (σ : MS) (v : Int32) : ms_other (ms_set_base σ v) = ms_other σ := rfl
theorem ms_factor_base (σ : MS) (v : Int32) : ms_factor (ms_set_base σ v) = ms_factor σ := rfl
theorem ms_thrown_held (σ : MS) (v : Int32) : ms_thrown (ms_set_held σ v) = ms_thrown σ := rfl
theorem ms_trap_held (σ : MS) (v : Int32) : ms_trap (ms_set_held σ v) = ms_trap σ := rfl
theorem ms_count_held (σ : MS) (v : Int32) : ms_count (ms_set_held σ v) = ms_count σ := rfl
theorem ms_base_held (σ : MS) (v : Int32) : ms_base (ms_set_held σ v) = ms_base σ := rfl
theorem ms_held_held (σ : MS) (v : Int32) : ms_held (ms_set_held σ v) = v := rfl
theorem ms_mode_held (σ : MS) (v : Int32) : ms_mode (ms_set_held σ v) = ms_mode σ := rfl
theorem ms_scale_held (σ : MS) (v : Int32) : ms_scale (ms_set_held σ v) = ms_scale σ := rfl
theorem ms_dividend_held (σ : MS) (v : Int32) : ms_dividend (ms_set_held σ v) = ms_dividend σ := rfl
theorem ms_divisor_held (σ : MS) (v : Int32) : ms_divisor (ms_set_held σ v) = ms_divisor σ := rfl
theorem ms_types_held (σ : MS) (v : Int32) : ms_types (ms_set_held σ v) = ms_types σ := rfl
theorem ms_values_held (σ : MS) (v : Int32) : ms_values (ms_set_held σ v) = ms_values σ := rfl
theorem ms_row_held (σ : MS) (v : Int32) : ms_row (ms_set_held σ v) = ms_row σ := rfl
theorem ms_other_held (σ : MS) (v : Int32) : ms_other (ms_set_held σ v) = ms_other σ := rfl
theorem ms_factor_held (σ : MS) (v : Int32) : ms_factor (ms_set_held σ v) = ms_factor σ := rfl
theorem ms_thrown_mode (σ : MS) (v : Int32) : ms_thrown (ms_set_mode σ v) = ms_thrown σ := rfl
theorem ms_trap_mode (σ : MS) (v : Int32) : ms_trap (ms_set_mode σ v) = ms_trap σ := rfl
theorem ms_count_mode (σ : MS) (v : Int32) : ms_count (ms_set_mode σ v) = ms_count σ := rfl
theorem ms_base_mode (σ : MS) (v : Int32) : ms_base (ms_set_mode σ v) = ms_base σ := rfl
theorem ms_held_mode (σ : MS) (v : Int32) : ms_held (ms_set_mode σ v) = ms_held σ := rfl
theorem ms_mode_mode (σ : MS) (v : Int32) : ms_mode (ms_set_mode σ v) = v := rfl
theorem ms_scale_mode (σ : MS) (v : Int32) : ms_scale (ms_set_mode σ v) = ms_scale σ := rfl
theorem ms_dividend_mode (σ : MS) (v : Int32) : ms_dividend (ms_set_mode σ v) = ms_dividend σ := rfl
theorem ms_divisor_mode (σ : MS) (v : Int32) : ms_divisor (ms_set_mode σ v) = ms_divisor σ := rfl
theorem ms_types_mode (σ : MS) (v : Int32) : ms_types (ms_set_mode σ v) = ms_types σ := rfl
theorem ms_values_mode (σ : MS) (v : Int32) : ms_values (ms_set_mode σ v) = ms_values σ := rfl
theorem ms_row_mode (σ : MS) (v : Int32) : ms_row (ms_set_mode σ v) = ms_row σ := rfl
theorem ms_other_mode (σ : MS) (v : Int32) : ms_other (ms_set_mode σ v) = ms_other σ := rfl
theorem ms_factor_mode (σ : MS) (v : Int32) : ms_factor (ms_set_mode σ v) = ms_factor σ := rfl
theorem ms_thrown_scale (σ : MS) (v : Int32) : ms_thrown (ms_set_scale σ v) = ms_thrown σ := rfl
theorem ms_trap_scale (σ : MS) (v : Int32) : ms_trap (ms_set_scale σ v) = ms_trap σ := rfl
theorem ms_count_scale (σ : MS) (v : Int32) : ms_count (ms_set_scale σ v) = ms_count σ := rfl
theorem ms_base_scale (σ : MS) (v : Int32) : ms_base (ms_set_scale σ v) = ms_base σ := rfl
theorem ms_held_scale (σ : MS) (v : Int32) : ms_held (ms_set_scale σ v) = ms_held σ := rfl
theorem ms_mode_scale (σ : MS) (v : Int32) : ms_mode (ms_set_scale σ v) = ms_mode σ := rfl
theorem ms_scale_scale (σ : MS) (v : Int32) : ms_scale (ms_set_scale σ v) = v := rfl
theorem ms_dividend_scale (σ : MS) (v : Int32) : ms_dividend (ms_set_scale σ v) = ms_dividend σ := rfl
theorem ms_divisor_scale (σ : MS) (v : Int32) : ms_divisor (ms_set_scale σ v) = ms_divisor σ := rfl
theorem ms_types_scale (σ : MS) (v : Int32) : ms_types (ms_set_scale σ v) = ms_types σ := rfl
theorem ms_values_scale (σ : MS) (v : Int32) : ms_values (ms_set_scale σ v) = ms_values σ := rfl
theorem ms_row_scale (σ : MS) (v : Int32) : ms_row (ms_set_scale σ v) = ms_row σ := rfl
theorem ms_other_scale (σ : MS) (v : Int32) : ms_other (ms_set_scale σ v) = ms_other σ := rfl
theorem ms_factor_scale (σ : MS) (v : Int32) : ms_factor (ms_set_scale σ v) = ms_factor σ := rfl
theorem ms_thrown_dividend (σ : MS) (v : Int64) : ms_thrown (ms_set_dividend σ v) = ms_thrown σ := rfl
theorem ms_trap_dividend (σ : MS) (v : Int64) : ms_trap (ms_set_dividend σ v) = ms_trap σ := rfl
theorem ms_count_dividend (σ : MS) (v : Int64) : ms_count (ms_set_dividend σ v) = ms_count σ := rfl
theorem ms_base_dividend (σ : MS) (v : Int64) : ms_base (ms_set_dividend σ v) = ms_base σ := rfl
theorem ms_held_dividend (σ : MS) (v : Int64) : ms_held (ms_set_dividend σ v) = ms_held σ := rfl
theorem ms_mode_dividend (σ : MS) (v : Int64) : ms_mode (ms_set_dividend σ v) = ms_mode σ := rfl
theorem ms_scale_dividend (σ : MS) (v : Int64) : ms_scale (ms_set_dividend σ v) = ms_scale σ := rfl
theorem ms_dividend_dividend (σ : MS) (v : Int64) : ms_dividend (ms_set_dividend σ v) = v := rfl
theorem ms_divisor_dividend (σ : MS) (v : Int64) : ms_divisor (ms_set_dividend σ v) = ms_divisor σ := rfl
theorem ms_types_dividend (σ : MS) (v : Int64) : ms_types (ms_set_dividend σ v) = ms_types σ := rfl
theorem ms_values_dividend (σ : MS) (v : Int64) : ms_values (ms_set_dividend σ v) = ms_values σ := rfl
theorem ms_row_dividend (σ : MS) (v : Int64) : ms_row (ms_set_dividend σ v) = ms_row σ := rfl
theorem ms_other_dividend (σ : MS) (v : Int64) : ms_other (ms_set_dividend σ v) = ms_other σ := rfl
theorem ms_factor_dividend (σ : MS) (v : Int64) : ms_factor (ms_set_dividend σ v) = ms_factor σ := rfl
theorem ms_thrown_divisor (σ : MS) (v : Int64) : ms_thrown (ms_set_divisor σ v) = ms_thrown σ := rfl
theorem ms_trap_divisor (σ : MS) (v : Int64) : ms_trap (ms_set_divisor σ v) = ms_trap σ := rfl
theorem ms_count_divisor (σ : MS) (v : Int64) : ms_count (ms_set_divisor σ v) = ms_count σ := rfl
theorem ms_base_divisor (σ : MS) (v : Int64) : ms_base (ms_set_divisor σ v) = ms_base σ := rfl
theorem ms_held_divisor (σ : MS) (v : Int64) : ms_held (ms_set_divisor σ v) = ms_held σ := rfl
theorem ms_mode_divisor (σ : MS) (v : Int64) : ms_mode (ms_set_divisor σ v) = ms_mode σ := rfl
theorem ms_scale_divisor (σ : MS) (v : Int64) : ms_scale (ms_set_divisor σ v) = ms_scale σ := rfl
theorem ms_dividend_divisor (σ : MS) (v : Int64) : ms_dividend (ms_set_divisor σ v) = ms_dividend σ := rfl
theorem ms_divisor_divisor (σ : MS) (v : Int64) : ms_divisor (ms_set_divisor σ v) = v := rfl
theorem ms_types_divisor (σ : MS) (v : Int64) : ms_types (ms_set_divisor σ v) = ms_types σ := rfl
theorem ms_values_divisor (σ : MS) (v : Int64) : ms_values (ms_set_divisor σ v) = ms_values σ := rfl
theorem ms_row_divisor (σ : MS) (v : Int64) : ms_row (ms_set_divisor σ v) = ms_row σ := rfl
theorem ms_other_divisor (σ : MS) (v : Int64) : ms_other (ms_set_divisor σ v) = ms_other σ := rfl
theorem ms_factor_divisor (σ : MS) (v : Int64) : ms_factor (ms_set_divisor σ v) = ms_factor σ := rfl
theorem ms_thrown_types (σ : MS) (v : Nat → Int32) : ms_thrown (ms_set_types σ v) = ms_thrown σ := rfl
theorem ms_trap_types (σ : MS) (v : Nat → Int32) : ms_trap (ms_set_types σ v) = ms_trap σ := rfl
theorem ms_count_types (σ : MS) (v : Nat → Int32) : ms_count (ms_set_types σ v) = ms_count σ := rfl
theorem ms_base_types (σ : MS) (v : Nat → Int32) : ms_base (ms_set_types σ v) = ms_base σ := rfl
theorem ms_held_types (σ : MS) (v : Nat → Int32) : ms_held (ms_set_types σ v) = ms_held σ := rfl
theorem ms_mode_types (σ : MS) (v : Nat → Int32) : ms_mode (ms_set_types σ v) = ms_mode σ := rfl
theorem ms_scale_types (σ : MS) (v : Nat → Int32) : ms_scale (ms_set_types σ v) = ms_scale σ := rfl
theorem ms_dividend_types (σ : MS) (v : Nat → Int32) : ms_dividend (ms_set_types σ v) = ms_dividend σ := rfl
theorem ms_divisor_types (σ : MS) (v : Nat → Int32) : ms_divisor (ms_set_types σ v) = ms_divisor σ := rfl
theorem ms_types_types (σ : MS) (v : Nat → Int32) : ms_types (ms_set_types σ v) = v := rfl
theorem ms_values_types (σ : MS) (v : Nat → Int32) : ms_values (ms_set_types σ v) = ms_values σ := rfl
theorem ms_row_types (σ : MS) (v : Nat → Int32) : ms_row (ms_set_types σ v) = ms_row σ := rfl
theorem ms_other_types (σ : MS) (v : Nat → Int32) : ms_other (ms_set_types σ v) = ms_other σ := rfl
theorem ms_factor_types (σ : MS) (v : Nat → Int32) : ms_factor (ms_set_types σ v) = ms_factor σ := rfl
theorem ms_thrown_values (σ : MS) (v : Nat → Int64) : ms_thrown (ms_set_values σ v) = ms_thrown σ := rfl
theorem ms_trap_values (σ : MS) (v : Nat → Int64) : ms_trap (ms_set_values σ v) = ms_trap σ := rfl
theorem ms_count_values (σ : MS) (v : Nat → Int64) : ms_count (ms_set_values σ v) = ms_count σ := rfl
theorem ms_base_values (σ : MS) (v : Nat → Int64) : ms_base (ms_set_values σ v) = ms_base σ := rfl
theorem ms_held_values (σ : MS) (v : Nat → Int64) : ms_held (ms_set_values σ v) = ms_held σ := rfl
theorem ms_mode_values (σ : MS) (v : Nat → Int64) : ms_mode (ms_set_values σ v) = ms_mode σ := rfl
theorem ms_scale_values (σ : MS) (v : Nat → Int64) : ms_scale (ms_set_values σ v) = ms_scale σ := rfl
theorem ms_dividend_values (σ : MS) (v : Nat → Int64) : ms_dividend (ms_set_values σ v) = ms_dividend σ := rfl
theorem ms_divisor_values (σ : MS) (v : Nat → Int64) : ms_divisor (ms_set_values σ v) = ms_divisor σ := rfl
theorem ms_types_values (σ : MS) (v : Nat → Int64) : ms_types (ms_set_values σ v) = ms_types σ := rfl
theorem ms_values_values (σ : MS) (v : Nat → Int64) : ms_values (ms_set_values σ v) = v := rfl
theorem ms_row_values (σ : MS) (v : Nat → Int64) : ms_row (ms_set_values σ v) = ms_row σ := rfl
theorem ms_other_values (σ : MS) (v : Nat → Int64) : ms_other (ms_set_values σ v) = ms_other σ := rfl
theorem ms_factor_values (σ : MS) (v : Nat → Int64) : ms_factor (ms_set_values σ v) = ms_factor σ := rfl
theorem ms_thrown_row (σ : MS) (v : Nat → Int32) : ms_thrown (ms_set_row σ v) = ms_thrown σ := rfl
theorem ms_trap_row (σ : MS) (v : Nat → Int32) : ms_trap (ms_set_row σ v) = ms_trap σ := rfl
theorem ms_count_row (σ : MS) (v : Nat → Int32) : ms_count (ms_set_row σ v) = ms_count σ := rfl
theorem ms_base_row (σ : MS) (v : Nat → Int32) : ms_base (ms_set_row σ v) = ms_base σ := rfl
theorem ms_held_row (σ : MS) (v : Nat → Int32) : ms_held (ms_set_row σ v) = ms_held σ := rfl
theorem ms_mode_row (σ : MS) (v : Nat → Int32) : ms_mode (ms_set_row σ v) = ms_mode σ := rfl
theorem ms_scale_row (σ : MS) (v : Nat → Int32) : ms_scale (ms_set_row σ v) = ms_scale σ := rfl
theorem ms_dividend_row (σ : MS) (v : Nat → Int32) : ms_dividend (ms_set_row σ v) = ms_dividend σ := rfl
theorem ms_divisor_row (σ : MS) (v : Nat → Int32) : ms_divisor (ms_set_row σ v) = ms_divisor σ := rfl
theorem ms_types_row (σ : MS) (v : Nat → Int32) : ms_types (ms_set_row σ v) = ms_types σ := rfl
theorem ms_values_row (σ : MS) (v : Nat → Int32) : ms_values (ms_set_row σ v) = ms_values σ := rfl
theorem ms_row_row (σ : MS) (v : Nat → Int32) : ms_row (ms_set_row σ v) = v := rfl
theorem ms_other_row (σ : MS) (v : Nat → Int32) : ms_other (ms_set_row σ v) = ms_other σ := rfl
theorem ms_factor_row (σ : MS) (v : Nat → Int32) : ms_factor (ms_set_row σ v) = ms_factor σ := rfl
theorem ms_thrown_other (σ : MS) (v : Nat → Int32) : ms_thrown (ms_set_other σ v) = ms_thrown σ := rfl
theorem ms_trap_other (σ : MS) (v : Nat → Int32) : ms_trap (ms_set_other σ v) = ms_trap σ := rfl
theorem ms_count_other (σ : MS) (v : Nat → Int32) : ms_count (ms_set_other σ v) = ms_count σ := rfl
theorem ms_base_other (σ : MS) (v : Nat → Int32) : ms_base (ms_set_other σ v) = ms_base σ := rfl
theorem ms_held_other (σ : MS) (v : Nat → Int32) : ms_held (ms_set_other σ v) = ms_held σ := rfl
theorem ms_mode_other (σ : MS) (v : Nat → Int32) : ms_mode (ms_set_other σ v) = ms_mode σ := rfl
theorem ms_scale_other (σ : MS) (v : Nat → Int32) : ms_scale (ms_set_other σ v) = ms_scale σ := rfl
theorem ms_dividend_other (σ : MS) (v : Nat → Int32) : ms_dividend (ms_set_other σ v) = ms_dividend σ := rfl
theorem ms_divisor_other (σ : MS) (v : Nat → Int32) : ms_divisor (ms_set_other σ v) = ms_divisor σ := rfl
theorem ms_types_other (σ : MS) (v : Nat → Int32) : ms_types (ms_set_other σ v) = ms_types σ := rfl
theorem ms_values_other (σ : MS) (v : Nat → Int32) : ms_values (ms_set_other σ v) = ms_values σ := rfl
theorem ms_row_other (σ : MS) (v : Nat → Int32) : ms_row (ms_set_other σ v) = ms_row σ := rfl
theorem ms_other_other (σ : MS) (v : Nat → Int32) : ms_other (ms_set_other σ v) = v := rfl
theorem ms_factor_other (σ : MS) (v : Nat → Int32) : ms_factor (ms_set_other σ v) = ms_factor σ := rfl
theorem ms_thrown_factor (σ : MS) (v : Nat → Int32) : ms_thrown (ms_set_factor σ v) = ms_thrown σ := rfl
theorem ms_trap_factor (σ : MS) (v : Nat → Int32) : ms_trap (ms_set_factor σ v) = ms_trap σ := rfl
theorem ms_count_factor (σ : MS) (v : Nat → Int32) : ms_count (ms_set_factor σ v) = ms_count σ := rfl
theorem ms_base_factor (σ : MS) (v : Nat → Int32) : ms_base (ms_set_factor σ v) = ms_base σ := rfl
theorem ms_held_factor (σ : MS) (v : Nat → Int32) : ms_held (ms_set_factor σ v) = ms_held σ := rfl
theorem ms_mode_factor (σ : MS) (v : Nat → Int32) : ms_mode (ms_set_factor σ v) = ms_mode σ := rfl
theorem ms_scale_factor (σ : MS) (v : Nat → Int32) : ms_scale (ms_set_factor σ v) = ms_scale σ := rfl
theorem ms_dividend_factor (σ : MS) (v : Nat → Int32) : ms_dividend (ms_set_factor σ v) = ms_dividend σ := rfl
theorem ms_divisor_factor (σ : MS) (v : Nat → Int32) : ms_divisor (ms_set_factor σ v) = ms_divisor σ := rfl
theorem ms_types_factor (σ : MS) (v : Nat → Int32) : ms_types (ms_set_factor σ v) = ms_types σ := rfl
theorem ms_values_factor (σ : MS) (v : Nat → Int32) : ms_values (ms_set_factor σ v) = ms_values σ := rfl
theorem ms_row_factor (σ : MS) (v : Nat → Int32) : ms_row (ms_set_factor σ v) = ms_row σ := rfl
theorem ms_other_factor (σ : MS) (v : Nat → Int32) : ms_other (ms_set_factor σ v) = ms_other σ := rfl
theorem ms_factor_factor (σ : MS) (v : Nat → Int32) : ms_factor (ms_set_factor σ v) = v := rfl
def mw_f (ad : Nat → Nat) (σ : MS) : List Value := [.int (ms_thrown σ), .int (ms_trap σ), .int (ms_count σ), .ref (ad 1), .ref (ad 2), .ref (ad 3), .ref (ad 4), .ref (ad 5), .int (ms_base σ), .int (ms_held σ), .int (ms_mode σ), .long (ms_dividend σ), .long (ms_divisor σ), .int (ms_scale σ)]
def mw_c (ad : Nat → Nat) (σ : MS) : va_W := [(ad 0, .inr (1, mw_f ad σ)), (ad 1, .inl (ad 6, 64, .inl (ms_types σ))), (ad 2, .inl (ad 7, 64, .inr (.inl (ms_values σ)))), (ad 3, .inl (ad 6, 320, .inl (ms_row σ))), (ad 4, .inl (ad 6, 320, .inl (ms_other σ))), (ad 5, .inl (ad 6, 16, .inl (ms_factor σ)))]
theorem mw_fd_thrown (ad : Nat → Nat) (σ : MS) : (mw_f ad σ)[0]? = some (.int (ms_thrown σ)) := rfl
theorem mw_pt_thrown (ad : Nat → Nat) (σ : MS) (v : Int32) : (mw_c ad σ).set 0 (ad 0, .inr (1, (mw_f ad σ).set 0 (.int v))) = mw_c ad (ms_set_thrown σ v) := rfl
theorem mw_fd_trap (ad : Nat → Nat) (σ : MS) : (mw_f ad σ)[1]? = some (.int (ms_trap σ)) := rfl
theorem mw_pt_trap (ad : Nat → Nat) (σ : MS) (v : Int32) : (mw_c ad σ).set 0 (ad 0, .inr (1, (mw_f ad σ).set 1 (.int v))) = mw_c ad (ms_set_trap σ v) := rfl
theorem mw_fd_count (ad : Nat → Nat) (σ : MS) : (mw_f ad σ)[2]? = some (.int (ms_count σ)) := rfl
theorem mw_pt_count (ad : Nat → Nat) (σ : MS) (v : Int32) : (mw_c ad σ).set 0 (ad 0, .inr (1, (mw_f ad σ).set 2 (.int v))) = mw_c ad (ms_set_count σ v) := rfl
theorem mw_fd_types (ad : Nat → Nat) (σ : MS) : (mw_f ad σ)[3]? = some (.ref (ad 1)) := rfl
theorem mw_fd_values (ad : Nat → Nat) (σ : MS) : (mw_f ad σ)[4]? = some (.ref (ad 2)) := rfl
theorem mw_fd_row (ad : Nat → Nat) (σ : MS) : (mw_f ad σ)[5]? = some (.ref (ad 3)) := rfl
theorem mw_fd_other (ad : Nat → Nat) (σ : MS) : (mw_f ad σ)[6]? = some (.ref (ad 4)) := rfl
theorem mw_fd_factor (ad : Nat → Nat) (σ : MS) : (mw_f ad σ)[7]? = some (.ref (ad 5)) := rfl
theorem mw_fd_base (ad : Nat → Nat) (σ : MS) : (mw_f ad σ)[8]? = some (.int (ms_base σ)) := rfl
theorem mw_pt_base (ad : Nat → Nat) (σ : MS) (v : Int32) : (mw_c ad σ).set 0 (ad 0, .inr (1, (mw_f ad σ).set 8 (.int v))) = mw_c ad (ms_set_base σ v) := rfl
theorem mw_fd_held (ad : Nat → Nat) (σ : MS) : (mw_f ad σ)[9]? = some (.int (ms_held σ)) := rfl
theorem mw_pt_held (ad : Nat → Nat) (σ : MS) (v : Int32) : (mw_c ad σ).set 0 (ad 0, .inr (1, (mw_f ad σ).set 9 (.int v))) = mw_c ad (ms_set_held σ v) := rfl
theorem mw_fd_mode (ad : Nat → Nat) (σ : MS) : (mw_f ad σ)[10]? = some (.int (ms_mode σ)) := rfl
theorem mw_pt_mode (ad : Nat → Nat) (σ : MS) (v : Int32) : (mw_c ad σ).set 0 (ad 0, .inr (1, (mw_f ad σ).set 10 (.int v))) = mw_c ad (ms_set_mode σ v) := rfl
theorem mw_fd_dividend (ad : Nat → Nat) (σ : MS) : (mw_f ad σ)[11]? = some (.long (ms_dividend σ)) := rfl
theorem mw_pt_dividend (ad : Nat → Nat) (σ : MS) (v : Int64) : (mw_c ad σ).set 0 (ad 0, .inr (1, (mw_f ad σ).set 11 (.long v))) = mw_c ad (ms_set_dividend σ v) := rfl
theorem mw_fd_divisor (ad : Nat → Nat) (σ : MS) : (mw_f ad σ)[12]? = some (.long (ms_divisor σ)) := rfl
theorem mw_pt_divisor (ad : Nat → Nat) (σ : MS) (v : Int64) : (mw_c ad σ).set 0 (ad 0, .inr (1, (mw_f ad σ).set 12 (.long v))) = mw_c ad (ms_set_divisor σ v) := rfl
theorem mw_fd_scale (ad : Nat → Nat) (σ : MS) : (mw_f ad σ)[13]? = some (.int (ms_scale σ)) := rfl
theorem mw_pt_scale (ad : Nat → Nat) (σ : MS) (v : Int32) : (mw_c ad σ).set 0 (ad 0, .inr (1, (mw_f ad σ).set 13 (.int v))) = mw_c ad (ms_set_scale σ v) := rfl
theorem mw_ar_types (ad : Nat → Nat) (σ : MS) : (mw_c ad σ)[1]? = some (ad 1, .inl (ad 6, 64, .inl (ms_types σ))) := rfl
theorem mw_st_types (ad : Nat → Nat) (σ : MS) (f : Nat → Int32) : (mw_c ad σ).set 1 (ad 1, .inl (ad 6, 64, .inl f)) = mw_c ad (ms_set_types σ f) := rfl
theorem mw_ar_values (ad : Nat → Nat) (σ : MS) : (mw_c ad σ)[2]? = some (ad 2, .inl (ad 7, 64, .inr (.inl (ms_values σ)))) := rfl
theorem mw_st_values (ad : Nat → Nat) (σ : MS) (f : Nat → Int64) : (mw_c ad σ).set 2 (ad 2, .inl (ad 7, 64, .inr (.inl f))) = mw_c ad (ms_set_values σ f) := rfl
theorem mw_ar_row (ad : Nat → Nat) (σ : MS) : (mw_c ad σ)[3]? = some (ad 3, .inl (ad 6, 320, .inl (ms_row σ))) := rfl
theorem mw_st_row (ad : Nat → Nat) (σ : MS) (f : Nat → Int32) : (mw_c ad σ).set 3 (ad 3, .inl (ad 6, 320, .inl f)) = mw_c ad (ms_set_row σ f) := rfl
theorem mw_ar_other (ad : Nat → Nat) (σ : MS) : (mw_c ad σ)[4]? = some (ad 4, .inl (ad 6, 320, .inl (ms_other σ))) := rfl
theorem mw_st_other (ad : Nat → Nat) (σ : MS) (f : Nat → Int32) : (mw_c ad σ).set 4 (ad 4, .inl (ad 6, 320, .inl f)) = mw_c ad (ms_set_other σ f) := rfl
theorem mw_ar_factor (ad : Nat → Nat) (σ : MS) : (mw_c ad σ)[5]? = some (ad 5, .inl (ad 6, 16, .inl (ms_factor σ))) := rfl
theorem mw_st_factor (ad : Nat → Nat) (σ : MS) (f : Nat → Int32) : (mw_c ad σ).set 5 (ad 5, .inl (ad 6, 16, .inl f)) = mw_c ad (ms_set_factor σ f) := rfl
def mw (D : va_G) (ad : Nat → Nat) (A : Nat → Prop) (H0 H : Heap) (locs : List Loc) (σ : MS) : Prop := va_P D clM (mw_c ad σ) H ∧ va_D A (mw_c ad σ) ∧ va_S A H0 H locs
def mw_B (D : va_G) (ad : Nat → Nat) (σ : MS) (sz : Nat) : State → Prop := fun U => U.heap.size = sz ∧ va_P D clM (mw_c ad σ) U.heap ∧ va_K D clM (tyA ad) U ∧ va_D (fun _ => True) (mw_c ad σ)
def mw_E (D : va_G) (ad : Nat → Nat) (A : Nat → Prop) (u : MS) (t : State) : Prop := va_P D clM (mw_c ad u) t.heap ∧ va_K D clM (tyA ad) t ∧ va_D A (mw_c ad u)
section MW
variable {p : Program} {l : Launch} {e : Env} {R : Room} {s : State} {m : MethodId} {args : Array Value} {below : List Frame} {meth : Method} {c : Code} {H : Heap} {locs : List Loc} {cells slots : Nat} {Q : State → Prop} {cc : ByteArray} {pc : Nat} {ls : Array Slot} {rest st0 As : List Value} {a : Array Value} {D : va_G} {ad : Nat → Nat} {A : Nat → Prop} {H0 : Heap} {σ : MS}
theorem mw_get (hexec : p.tables.exec = Jvm.exec) (hb : c.code = cc) (hts : ∀ w ∈ aw, w.before args s = true) (hown : s.vm.findClass "BitNumbersModel" = some m.cls) (hK : va_K D clM (tyA ad) s) (hM : mw D ad A H0 H locs σ) (k : Nat) (hk : k < 14) {index : Nat} (hlink : (Cond.fieldLink "BitNumbersModel" index "BitNumbersModel" (TM k).2.1 (TM k).2.2.1).before args s = true) {v : Value} (hv : (mw_f ad σ)[k]? = some v) (hdg : decode cc pc = .ok (.getfield index, 3))
    (kk : W p l e R s m args below meth c H locs cells slots Q (F0 m (pc + 3) ls (v :: rest))) : W p l e R s m args below meth c H locs cells slots Q (F0 m pc ls (.ref (ad 0) :: rest)) :=
  va_get (ci := 1) (C := "BitNumbersModel") (T := TM) (N := 14) hexec hb hts inTM hown hK hM.1 0 rfl rfl k hk hlink (fun x h => by rw [owTM k hk] at h; exact h) hv hdg kk
theorem mw_put (hexec : p.tables.exec = Jvm.exec) (hb : c.code = cc) (hts : ∀ w ∈ aw, w.before args s = true) (hown : s.vm.findClass "BitNumbersModel" = some m.cls) (hK : va_K D clM (tyA ad) s) (hM : mw D ad A H0 H locs σ) (k : Nat) (hk : k < 14) {index : Nat} (hlink : (Cond.fieldLink "BitNumbersModel" index "BitNumbersModel" (TM k).2.1 (TM k).2.2.1).before args s = true) (hfin : (TM k).2.2.2 = false) {ty : FieldType} {v : Value} (hd : parseFieldDescriptor (TM k).2.2.1 = some ty) (hn : narrow ty v = v) (hfit : fits ty v = true) {σ' : MS} (hσ : (mw_c ad σ).set 0 (ad 0, .inr (1, (mw_f ad σ).set k v)) = mw_c ad σ') (hdg : decode cc pc = .ok (.putfield index, 3))
    (kk : ∀ (H1 : Heap) (locs1 : List Loc), mw D ad A H0 H1 locs1 σ' → W p l e R s m args below meth c H1 locs1 cells slots Q (F0 m (pc + 3) ls rest)) : W p l e R s m args below meth c H locs cells slots Q (F0 m pc ls (v :: .ref (ad 0) :: rest)) :=
  va_put (ci := 1) (C := "BitNumbersModel") (T := TM) (N := 14) hexec hb hts inTM tyTM tyTM_ok nmTM hown hK hM.1 hM.2.1 hM.2.2 0 rfl rfl k hk hlink (fun x h => by rw [owTM k hk] at h; exact h) hfin hd hn hfit hk hdg (fun H1 locs1 q1 q2 q3 => kk H1 locs1 ⟨by rw [← hσ]; exact q1, by rw [← hσ]; exact q2, q3⟩)
theorem mw_iald (hexec : p.tables.exec = Jvm.exec) (hb : c.code = cc) (hK : va_K D clM (tyA ad) s) (hM : mw D ad A H0 H locs σ) (j : Nat) {b n : Nat} {f : Nat → Int32} (ha : (mw_c ad σ)[j]? = some (b, .inl (ad 6, n, .inl f))) {i : Int32} (hin : vp_in i n) (hdg : decode cc pc = .ok (.iaload, 1))
    (kk : W p l e R s m args below meth c H locs cells slots Q (F0 m (pc + 1) ls (.int (f i.toNatClampNeg) :: rest))) : W p l e R s m args below meth c H locs cells slots Q (F0 m pc ls (.int i :: .ref b :: rest)) :=
  va_iald hexec hb hK hM.1 j 0 ha rfl hin hdg kk
theorem mw_lald (hexec : p.tables.exec = Jvm.exec) (hb : c.code = cc) (hK : va_K D clM (tyA ad) s) (hM : mw D ad A H0 H locs σ) (j : Nat) {b n : Nat} {f : Nat → Int64} (ha : (mw_c ad σ)[j]? = some (b, .inl (ad 7, n, .inr (.inl f)))) {i : Int32} (hin : vp_in i n) (hdg : decode cc pc = .ok (.laload, 1))
    (kk : W p l e R s m args below meth c H locs cells slots Q (F0 m (pc + 1) ls (.long (f i.toNatClampNeg) :: rest))) : W p l e R s m args below meth c H locs cells slots Q (F0 m pc ls (.int i :: .ref b :: rest)) :=
  va_lald hexec hb hK hM.1 j 1 ha rfl hin hdg kk
theorem mw_iast (hexec : p.tables.exec = Jvm.exec) (hb : c.code = cc) (hK : va_K D clM (tyA ad) s) (hM : mw D ad A H0 H locs σ) (j : Nat) {b n : Nat} {f : Nat → Int32} (ha : (mw_c ad σ)[j]? = some (b, .inl (ad 6, n, .inl f))) {i x : Int32} (hin : vp_in i n) {σ' : MS} (hσ : (mw_c ad σ).set j (b, .inl (ad 6, n, .inl (upd f i.toNatClampNeg x))) = mw_c ad σ') (hdg : decode cc pc = .ok (.iastore, 1))
    (kk : ∀ (H1 : Heap) (locs1 : List Loc), mw D ad A H0 H1 locs1 σ' → W p l e R s m args below meth c H1 locs1 cells slots Q (F0 m (pc + 1) ls rest)) : W p l e R s m args below meth c H locs cells slots Q (F0 m pc ls (.int x :: .int i :: .ref b :: rest)) :=
  va_iast hexec hb hK hM.1 hM.2.1 hM.2.2 j 0 ha rfl hin hdg (fun H1 locs1 q1 q2 q3 => kk H1 locs1 ⟨by rw [← hσ]; exact q1, by rw [← hσ]; exact q2, q3⟩)
theorem mw_last (hexec : p.tables.exec = Jvm.exec) (hb : c.code = cc) (hK : va_K D clM (tyA ad) s) (hM : mw D ad A H0 H locs σ) (j : Nat) {b n : Nat} {f : Nat → Int64} (ha : (mw_c ad σ)[j]? = some (b, .inl (ad 7, n, .inr (.inl f)))) {i : Int32} {x : Int64} (hin : vp_in i n) {σ' : MS} (hσ : (mw_c ad σ).set j (b, .inl (ad 7, n, .inr (.inl (vp_updL f i.toNatClampNeg x)))) = mw_c ad σ') (hdg : decode cc pc = .ok (.lastore, 1))
    (kk : ∀ (H1 : Heap) (locs1 : List Loc), mw D ad A H0 H1 locs1 σ' → W p l e R s m args below meth c H1 locs1 cells slots Q (F0 m (pc + 1) ls rest)) : W p l e R s m args below meth c H locs cells slots Q (F0 m pc ls (.long x :: .int i :: .ref b :: rest)) :=
  va_last hexec hb hK hM.1 hM.2.1 hM.2.2 j 1 ha rfl hin hdg (fun H1 locs1 q1 q2 q3 => kk H1 locs1 ⟨by rw [← hσ]; exact q1, by rw [← hσ]; exact q2, q3⟩)
theorem mw_preV (hK : va_K D clM (tyA ad) s) (hM : mw D ad A H0 H locs σ) : PreV s H "BitNumbersModel" (ad 0) (va_Pc (.ref (ad 0) :: As) (mw_B D ad σ H.size)) As :=
  ⟨fun a U g mk q => by obtain ⟨q0, q1, qP, qK, qD⟩ := q; exact ⟨q0, q1, qP, va_K.moved (u := U) (U := U.calling g mk a) (Vm.Alike.refl U.vm) qK, qD⟩, va_recv (ci := 1) (q0 := 0) hK hM.1 rfl rfl, fun U hU hW => ⟨rfl, by rw [hU], by rw [hU]; exact hM.1, va_K.moved hW.alike hK, hM.2.1.weaken (fun _ _ _ _ => trivial)⟩⟩
theorem mw_preS (hK : va_K D clM (tyA ad) s) (hM : mw D ad A H0 H locs σ) : PreS s H (va_Pc As (mw_B D ad σ H.size)) As :=
  ⟨fun a U g mk q => by obtain ⟨q0, q1, qP, qK, qD⟩ := q; exact ⟨q0, q1, qP, va_K.moved (u := U) (U := U.calling g mk a) (Vm.Alike.refl U.vm) qK, qD⟩, fun U hU hW => ⟨rfl, by rw [hU], by rw [hU]; exact hM.1, va_K.moved hW.alike hK, hM.2.1.weaken (fun _ _ _ _ => trivial)⟩⟩
theorem mw_calll {F : Int64 × MS} (hr : va_Run p l e R s m args below meth c H locs cells slots 0 0 (F0 m pc ls st0) rest (va_Ql (fun r u => (r, u) = F) (mw_E D ad (va_A (mw_c ad σ) H.size)) (va_A (mw_c ad σ) H.size) a) (va_A (mw_c ad σ) H.size)) (hM : mw D ad A s.heap H locs σ) (hA : ∀ q, s.heap.size ≤ q → A q)
    (kk : ∀ (H1 : Heap) (locs1 : List Loc), mw D ad A s.heap H1 locs1 F.2 → W p l e R s m args below meth c H1 locs1 cells slots Q (F0 m (pc + 3) ls (.long F.1 :: rest))) : W p l e R s m args below meth c H locs cells slots Q (F0 m pc ls st0) := by
  have hF := va_free (wc := mw_c ad σ) hM.2.1 hM.2.2 hA [0, 1, 2, 3, 4, 5] rfl
  refine va_calll hr hM.2.2 (fun q _ h => hF q h) hF (fun r u t H1 locs1 ht hvm hw hB hz hk hS => ?_)
  obtain ⟨hP1, hK1, hD1⟩ := hB
  have e1 : r = F.1 := congrArg Prod.fst hw
  have e2 : u = F.2 := congrArg Prod.snd hw
  rw [e1]
  rw [e2] at hP1 hD1
  exact kk H1 locs1 ⟨by rw [← ht]; exact hP1, hD1.weaken (fun _ q _ h => hF q.1 h), hS⟩
theorem mw_calli {F : Int32 × MS} (hr : va_Run p l e R s m args below meth c H locs cells slots 0 0 (F0 m pc ls st0) rest (va_Qi (fun r u => (r, u) = F) (mw_E D ad (va_A (mw_c ad σ) H.size)) (va_A (mw_c ad σ) H.size) a) (va_A (mw_c ad σ) H.size)) (hM : mw D ad A s.heap H locs σ) (hA : ∀ q, s.heap.size ≤ q → A q)
    (kk : ∀ (H1 : Heap) (locs1 : List Loc), mw D ad A s.heap H1 locs1 F.2 → W p l e R s m args below meth c H1 locs1 cells slots Q (F0 m (pc + 3) ls (.int F.1 :: rest))) : W p l e R s m args below meth c H locs cells slots Q (F0 m pc ls st0) := by
  have hF := va_free (wc := mw_c ad σ) hM.2.1 hM.2.2 hA [0, 1, 2, 3, 4, 5] rfl
  refine va_calli hr hM.2.2 (fun q _ h => hF q h) hF (fun r u t H1 locs1 ht hvm hw hB hz hk hS => ?_)
  obtain ⟨hP1, hK1, hD1⟩ := hB
  have e1 : r = F.1 := congrArg Prod.fst hw
  have e2 : u = F.2 := congrArg Prod.snd hw
  rw [e1]
  rw [e2] at hP1 hD1
  exact kk H1 locs1 ⟨by rw [← ht]; exact hP1, hD1.weaken (fun _ q _ h => hF q.1 h), hS⟩
theorem mw_callv {F : MS} (hr : va_Run p l e R s m args below meth c H locs cells slots 0 0 (F0 m pc ls st0) rest (va_Qv (fun u => u = F) (mw_E D ad (va_A (mw_c ad σ) H.size)) (va_A (mw_c ad σ) H.size) a) (va_A (mw_c ad σ) H.size)) (hM : mw D ad A s.heap H locs σ) (hA : ∀ q, s.heap.size ≤ q → A q)
    (kk : ∀ (H1 : Heap) (locs1 : List Loc), mw D ad A s.heap H1 locs1 F → W p l e R s m args below meth c H1 locs1 cells slots Q (F0 m (pc + 3) ls rest)) : W p l e R s m args below meth c H locs cells slots Q (F0 m pc ls st0) := by
  have hF := va_free (wc := mw_c ad σ) hM.2.1 hM.2.2 hA [0, 1, 2, 3, 4, 5] rfl
  refine va_callv hr hM.2.2 (fun q _ h => hF q h) hF (fun u t H1 locs1 ht hvm hw hB hz hk hS => ?_)
  obtain ⟨hP1, hK1, hD1⟩ := hB
  rw [hw] at hP1 hD1
  exact kk H1 locs1 ⟨by rw [← ht]; exact hP1, hD1.weaken (fun _ q _ h => hF q.1 h), hS⟩
end MW
def pw_U (i : Int32) (n : Nat) : Prop := 1 ≤ n ∧ i.toInt + 2 ≤ (n : Int)
def pw_UB (i : Int32) (n : Nat) : Prop := 1 ≤ n ∧ i.toInt + 1 ≤ (n : Int) ∧ 0 ≤ i.toInt
theorem pw_U_zero {i : Int32} : ¬ pw_U i 0 := fun h => by have := h.1; omega
theorem pw_U_init (i : Int32) : pw_U i ((i.toInt + 2).toNat + 1) := ⟨by omega, by omega⟩
theorem pw_UB_next {i : Int32} {n : Nat} (h : pw_UB i n) : pw_U (i + (-1)) n := by
  obtain ⟨h1, h2, h3⟩ := h
  have := i.toInt_lt
  refine ⟨h1, ?_⟩
  rw [bn_i_add] <;> rw [show (-1 : Int32).toInt = -1 from rfl] <;> omega
theorem pw_U_body {i : Int32} {n : Nat} (h : pw_U i (n + 1)) (hi : ¬ i < 0) : pw_UB i n := by
  obtain ⟨h1, h2⟩ := h
  rw [Int32.lt_iff_toInt_lt, show (0 : Int32).toInt = 0 from rfl] at hi
  exact ⟨by omega, by omega, by omega⟩
theorem pw_l1 {i : Int32} (h : ¬ i < 0) : 0 ≤ i.toInt := by rw [Int32.lt_iff_toInt_lt, show (0 : Int32).toInt = 0 from rfl] at h; omega
theorem pw_u1 {i N : Int32} {K : Nat} (h : ¬ N ≤ i) (hN : N.toInt = K) : i.toInt < K := by rw [Int32.le_iff_toInt_le, hN] at h; omega
theorem pw_u2 {i N : Int32} {K : Nat} (h : i < N) (hN : N.toInt = K) : i.toInt < K := by rw [Int32.lt_iff_toInt_lt, hN] at h; omega
theorem pw_Vin {i : Int32} {n : Nat} (h : pw_V i (n + 1) 321) (hi : ¬ i < 0) : vp_in i 320 := by
  obtain ⟨h1, h2, h3⟩ := h
  exact pw_vi (pw_l1 hi) (by show _ < ((320 : Nat) : Int); omega)
def pw_hd (σ : MS) (n : Nat) : Prop := ∃ k : Nat, ms_held σ = nI k ∧ k ≤ 320 ∧ n = k + 1
def pw_hb (σ : MS) (n : Nat) : Prop := ∃ k : Nat, ms_held σ = nI (k + 1) ∧ k + 1 ≤ 320 ∧ n = k + 1
theorem pw_hd_zero {σ : MS} : ¬ pw_hd σ 0 := fun ⟨k, _, _, h⟩ => by omega
theorem pw_hd_body {σ : MS} {n : Nat} (h : pw_hd σ (n + 1)) (hi : ¬ ms_held σ ≤ 0) : pw_hb σ n := by
  obtain ⟨k, h1, h2, h3⟩ := h
  rw [h1, Int32.le_iff_toInt_le, nI_toInt (by omega), show (0 : Int32).toInt = 0 from rfl] at hi
  exact ⟨k - 1, by rw [h1]; congr 1; omega, by omega, by omega⟩
theorem pw_sub1 (k : Nat) (h : k < 1000000) : nI (k + 1) - 1 = nI k := by
  apply Int32.toInt_inj.mp
  rw [bn_i_sub] <;> rw [nI_toInt (by omega), show (1 : Int32).toInt = 1 from rfl]
  · rw [nI_toInt (by omega)]; omega
  · omega
theorem pw_hb_next {σ : MS} {n : Nat} (h : pw_hb σ n) : pw_hd (ms_set_held σ (ms_held σ - 1)) n := by
  obtain ⟨k, h1, h2, h3⟩ := h
  exact ⟨k, by rw [ms_held_held, h1, pw_sub1 k (by omega)], by omega, by omega⟩
theorem pw_nin {k N : Nat} (h : k < N) (hN : N < 1000000) : vp_in (nI k) N := pw_vi (by rw [nI_toInt (by omega)]; omega) (by rw [nI_toInt (by omega)]; omega)
theorem pw_hin {σ : MS} {n : Nat} (h : pw_hb σ n) : vp_in (ms_held σ - 1) 320 := by
  obtain ⟨k, h1, h2, h3⟩ := h
  rw [h1, pw_sub1 k (by omega)]
  exact pw_nin (by omega) (by decide)
theorem pw_ij {i j : Int32} {n k : Nat} (h1 : pw_B i n 4) (h2 : pw_B j k 4) : vp_in (i + j) 16 := by
  obtain ⟨x, a1, a2, a3⟩ := h1
  obtain ⟨y, b1, b2, b3⟩ := h2
  have e : (i + j).toInt = x + y := by rw [bn_i_add] <;> rw [a1, b1, nI_toInt (by omega), nI_toInt (by omega)]; omega
  exact pw_vi (by omega) (by show _ < ((16 : Nat) : Int); omega)
theorem pw_i4 {i : Int32} {n : Nat} (h1 : pw_B i n 4) : vp_in (i + 4) 16 := by
  obtain ⟨x, a1, a2, a3⟩ := h1
  have e : (i + 4).toInt = x + 4 := by rw [bn_i_add] <;> rw [a1, nI_toInt (by omega), show (4 : Int32).toInt = 4 from rfl]; omega
  exact pw_vi (by omega) (by show _ < ((16 : Nat) : Int); omega)
theorem pw_shin {i : Int32} (h1 : ¬ i < 1) (h2 : ¬ 17 ≤ i) : vp_in (i - 1) 16 := by
  rw [Int32.lt_iff_toInt_lt, show (1 : Int32).toInt = 1 from rfl] at h1
  rw [Int32.le_iff_toInt_le, show (17 : Int32).toInt = 17 from rfl] at h2
  have e : (i - 1).toInt = i.toInt - 1 := by rw [bn_i_sub] <;> rw [show (1 : Int32).toInt = 1 from rfl]; omega
  exact pw_vi (by omega) (by show _ < ((16 : Nat) : Int); omega)
