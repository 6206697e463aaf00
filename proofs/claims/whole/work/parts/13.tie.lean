/-! THE METHODS THAT CALL EACH OTHER, tied: level n calls level n - 1 -/
abbrev rpT : Type := (Int32 → rm_S → Option (Int32 × rm_S)) × (Int32 → rm_S → Option (Int32 × rm_S)) × (Int32 → rm_S → Option (Int32 × rm_S)) × (Int32 → rm_S → Option (Int32 × rm_S)) × (Int32 → Int32 → rm_S → Option (Int32 × rm_S)) × (Int32 → rm_S → Option (Int32 × rm_S)) × (Int32 → rm_S → Option (Int32 × rm_S)) × (Int32 → Int32 → rm_S → Option (rm_S)) × (Int32 → rm_S → Option (Int32 × rm_S)) × (Int32 → Int32 → rm_S → Option (Int32 × rm_S)) × (rm_S → Option (Int32 × rm_S))
def rp (N : Nat) : Nat → rpT
  | 0 => (fun _ _ => none, fun _ _ => none, fun _ _ => none, fun _ _ => none, fun _ _ _ => none, fun _ _ => none, fun _ _ => none, fun _ _ _ => none, fun _ _ => none, fun _ _ _ => none, fun _ => none)
  | n + 1 => (f_RM_sum N (rp N n).2.1, f_RM_term N (rp N n).2.2.1, f_RM_factor N (rp N n).1 (rp N n).2.2.1, f_RM_cond N (rp N n).2.2.2.2.1, f_RM_tests N (rp N n).2.2.2.2.1 (rp N n).2.2.2.2.2.1, f_RM_test N (rp N n).2.2.2.2.2.1 (rp N n).2.2.2.1 (rp N n).1, f_RM_block N (rp N n).2.2.2.2.2.2.2.2.1, f_RM_sums N (rp N n).1, f_RM_statement N (rp N n).1 (rp N n).2.2.2.2.2.2.2.2.2.1 (rp N n).2.2.2.1 (rp N n).2.2.2.2.2.2.1, f_RM_named N (rp N n).2.2.2.2.2.2.2.1 (rp N n).1, f_RM_function N (rp N n).2.2.2.2.2.2.1)
def rp_sum (N n : Nat) : Int32 → rm_S → Option (Int32 × rm_S) := (rp N n).1
def rp_term (N n : Nat) : Int32 → rm_S → Option (Int32 × rm_S) := (rp N n).2.1
def rp_factor (N n : Nat) : Int32 → rm_S → Option (Int32 × rm_S) := (rp N n).2.2.1
def rp_cond (N n : Nat) : Int32 → rm_S → Option (Int32 × rm_S) := (rp N n).2.2.2.1
def rp_tests (N n : Nat) : Int32 → Int32 → rm_S → Option (Int32 × rm_S) := (rp N n).2.2.2.2.1
def rp_test (N n : Nat) : Int32 → rm_S → Option (Int32 × rm_S) := (rp N n).2.2.2.2.2.1
def rp_block (N n : Nat) : Int32 → rm_S → Option (Int32 × rm_S) := (rp N n).2.2.2.2.2.2.1
def rp_sums (N n : Nat) : Int32 → Int32 → rm_S → Option (rm_S) := (rp N n).2.2.2.2.2.2.2.1
def rp_statement (N n : Nat) : Int32 → rm_S → Option (Int32 × rm_S) := (rp N n).2.2.2.2.2.2.2.2.1
def rp_named (N n : Nat) : Int32 → Int32 → rm_S → Option (Int32 × rm_S) := (rp N n).2.2.2.2.2.2.2.2.2.1
def rp_function (N n : Nat) : rm_S → Option (Int32 × rm_S) := (rp N n).2.2.2.2.2.2.2.2.2.2
theorem rp_sum_s (N n : Nat) : rp_sum N (n + 1) = f_RM_sum N (rp_term N n) := rfl
theorem rp_term_s (N n : Nat) : rp_term N (n + 1) = f_RM_term N (rp_factor N n) := rfl
theorem rp_factor_s (N n : Nat) : rp_factor N (n + 1) = f_RM_factor N (rp_sum N n) (rp_factor N n) := rfl
theorem rp_cond_s (N n : Nat) : rp_cond N (n + 1) = f_RM_cond N (rp_tests N n) := rfl
theorem rp_tests_s (N n : Nat) : rp_tests N (n + 1) = f_RM_tests N (rp_tests N n) (rp_test N n) := rfl
theorem rp_test_s (N n : Nat) : rp_test N (n + 1) = f_RM_test N (rp_test N n) (rp_cond N n) (rp_sum N n) := rfl
theorem rp_block_s (N n : Nat) : rp_block N (n + 1) = f_RM_block N (rp_statement N n) := rfl
theorem rp_sums_s (N n : Nat) : rp_sums N (n + 1) = f_RM_sums N (rp_sum N n) := rfl
theorem rp_statement_s (N n : Nat) : rp_statement N (n + 1) = f_RM_statement N (rp_sum N n) (rp_named N n) (rp_cond N n) (rp_block N n) := rfl
theorem rp_named_s (N n : Nat) : rp_named N (n + 1) = f_RM_named N (rp_sums N n) (rp_sum N n) := rfl
theorem rp_function_s (N n : Nat) : rp_function N (n + 1) = f_RM_function N (rp_block N n) := rfl
theorem rp_ok {g : mv_G} {σ : mh_H} {m : Nat} {N : Nat} (H : rm_H g σ m) : ∀ n : Nat, (rkI1 g σ m M_RM_sum (40 + n) (1000 + 60 * n) (rp_sum N n)) ∧ (rkI1 g σ m M_RM_term (40 + n) (1000 + 60 * n) (rp_term N n)) ∧ (rkI1 g σ m M_RM_factor (40 + n) (1000 + 60 * n) (rp_factor N n)) ∧ (rkI1 g σ m M_RM_cond (40 + n) (1000 + 60 * n) (rp_cond N n)) ∧ (rkI2 g σ m M_RM_tests (40 + n) (1000 + 60 * n) (rp_tests N n)) ∧ (rkI1 g σ m M_RM_test (40 + n) (1000 + 60 * n) (rp_test N n)) ∧ (rkI1 g σ m M_RM_block (40 + n) (1000 + 60 * n) (rp_block N n)) ∧ (rkV2 g σ m M_RM_sums (40 + n) (1000 + 60 * n) (rp_sums N n)) ∧ (rkI1 g σ m M_RM_statement (40 + n) (1000 + 60 * n) (rp_statement N n)) ∧ (rkI2 g σ m M_RM_named (40 + n) (1000 + 60 * n) (rp_named N n)) ∧ (rkI0 g σ m M_RM_function (40 + n) (1000 + 60 * n) (rp_function N n)) := by
  intro n
  induction n with
  | zero => exact ⟨(fun _ _ _ h => by cases h), (fun _ _ _ h => by cases h), (fun _ _ _ h => by cases h), (fun _ _ _ h => by cases h), (fun _ _ _ _ h => by cases h), (fun _ _ _ h => by cases h), (fun _ _ _ h => by cases h), (fun _ _ _ _ h => by cases h), (fun _ _ _ h => by cases h), (fun _ _ _ _ h => by cases h), (fun _ _ h => by cases h)⟩
  | succ n ih =>
    obtain ⟨i0, i1, i2, i3, i4, i5, i6, i7, i8, i9, i10⟩ := ih
    have e : 1000 + 60 * (n + 1) = (1000 + 60 * n) + 60 := by omega
    rw [e]
    have hF : 40 ≤ 40 + n := by omega
    have hLw : 1000 ≤ 1000 + 60 * n := by omega
    exact ⟨c_RM_sum H i1 hF hLw, c_RM_term H i2 hF hLw, c_RM_factor H i0 i2 hF hLw, c_RM_cond H i4 hF hLw, c_RM_tests H i4 i5 hF hLw, c_RM_test H i5 i3 i0 hF hLw, c_RM_block H i8 hF hLw, c_RM_sums H i0 hF hLw, c_RM_statement H i0 i9 i3 i6 hF hLw, c_RM_named H i7 i0 hF hLw, c_RM_function H i6 hF hLw⟩
abbrev rwT : Type := (Int32 → Int32 → Int32 → Int32 → Int32 → rm_S → Option (rm_S)) × (Int32 → Int32 → Int32 → rm_S → Option (rm_S)) × (Int32 → Int32 → Int32 → rm_S → Option (rm_S)) × (Int32 → Int32 → Int32 → rm_S → Option (rm_S)) × (Int32 → Int32 → Int32 → rm_S → Option (rm_S)) × (Int32 → Int32 → rm_S → Option (rm_S))
def rw (N : Nat) : Nat → rwT
  | 0 => (fun _ _ _ _ _ _ => none, fun _ _ _ _ => none, fun _ _ _ _ => none, fun _ _ _ _ => none, fun _ _ _ _ => none, fun _ _ _ => none)
  | n + 1 => (f_RM_inside N (rw N n).2.2.2.2.2, f_RM_sayFactor N (rw N n).1, f_RM_sayTest N (rw N n).1, f_RM_commas N (rw N n).2.2.2.2.2, f_RM_statements N (rw N n).2.2.2.2.2 (rw N n).2.2.2.1, f_RM_show N (rw N n).2.2.2.2.2 (rw N n).2.2.2.1 (rw N n).2.2.2.2.1 (rw N n).2.1 (rw N n).2.2.1)
def rw_inside (N n : Nat) : Int32 → Int32 → Int32 → Int32 → Int32 → rm_S → Option (rm_S) := (rw N n).1
def rw_sayFactor (N n : Nat) : Int32 → Int32 → Int32 → rm_S → Option (rm_S) := (rw N n).2.1
def rw_sayTest (N n : Nat) : Int32 → Int32 → Int32 → rm_S → Option (rm_S) := (rw N n).2.2.1
def rw_commas (N n : Nat) : Int32 → Int32 → Int32 → rm_S → Option (rm_S) := (rw N n).2.2.2.1
def rw_statements (N n : Nat) : Int32 → Int32 → Int32 → rm_S → Option (rm_S) := (rw N n).2.2.2.2.1
def rw_show (N n : Nat) : Int32 → Int32 → rm_S → Option (rm_S) := (rw N n).2.2.2.2.2
theorem rw_inside_s (N n : Nat) : rw_inside N (n + 1) = f_RM_inside N (rw_show N n) := rfl
theorem rw_sayFactor_s (N n : Nat) : rw_sayFactor N (n + 1) = f_RM_sayFactor N (rw_inside N n) := rfl
theorem rw_sayTest_s (N n : Nat) : rw_sayTest N (n + 1) = f_RM_sayTest N (rw_inside N n) := rfl
theorem rw_commas_s (N n : Nat) : rw_commas N (n + 1) = f_RM_commas N (rw_show N n) := rfl
theorem rw_statements_s (N n : Nat) : rw_statements N (n + 1) = f_RM_statements N (rw_show N n) (rw_commas N n) := rfl
theorem rw_show_s (N n : Nat) : rw_show N (n + 1) = f_RM_show N (rw_show N n) (rw_commas N n) (rw_statements N n) (rw_sayFactor N n) (rw_sayTest N n) := rfl
theorem rw_ok {g : mv_G} {σ : mh_H} {m : Nat} {N : Nat} (H : rm_H g σ m) : ∀ n : Nat, (rkV5 g σ m M_RM_inside (40 + n) (1000 + 60 * n) (rw_inside N n)) ∧ (rkV3 g σ m M_RM_sayFactor (40 + n) (1000 + 60 * n) (rw_sayFactor N n)) ∧ (rkV3 g σ m M_RM_sayTest (40 + n) (1000 + 60 * n) (rw_sayTest N n)) ∧ (rkV3 g σ m M_RM_commas (40 + n) (1000 + 60 * n) (rw_commas N n)) ∧ (rkV3 g σ m M_RM_statements (40 + n) (1000 + 60 * n) (rw_statements N n)) ∧ (rkV2 g σ m M_RM_show (40 + n) (1000 + 60 * n) (rw_show N n)) := by
  intro n
  induction n with
  | zero => exact ⟨(fun _ _ _ _ _ _ _ h => by cases h), (fun _ _ _ _ _ h => by cases h), (fun _ _ _ _ _ h => by cases h), (fun _ _ _ _ _ h => by cases h), (fun _ _ _ _ _ h => by cases h), (fun _ _ _ _ h => by cases h)⟩
  | succ n ih =>
    obtain ⟨i0, i1, i2, i3, i4, i5⟩ := ih
    have e : 1000 + 60 * (n + 1) = (1000 + 60 * n) + 60 := by omega
    rw [e]
    have hF : 40 ≤ 40 + n := by omega
    have hLw : 1000 ≤ 1000 + 60 * n := by omega
    exact ⟨c_RM_inside H i5 hF hLw, c_RM_sayFactor H i0 hF hLw, c_RM_sayTest H i0 hF hLw, c_RM_commas H i5 hF hLw, c_RM_statements H i5 i3 hF hLw, c_RM_show H i5 i3 i4 i1 i2 hF hLw⟩
abbrev paT : Type := (Nat → Int32 → mh_H → Option (Bool × Int32 × mh_H)) × (Nat → Int32 → mh_H → Option (Bool × Int32 × mh_H)) × (Nat → Int32 → mh_H → Option (Bool × Int32 × mh_H)) × (Nat → Int32 → mh_H → Option (Bool × Int32 × mh_H)) × (Nat → Int32 → mh_H → Option (Bool × Int32 × mh_H)) × (Nat → Int32 → mh_H → Option (Bool × Int32 × mh_H)) × (Nat → Int32 → Int32 → Int32 → mh_H → Option (Bool × Int32 × mh_H)) × (Nat → Int32 → mh_H → Option (Bool × Int32 × mh_H)) × (Nat → Int32 → mh_H → Option (Bool × Int32 × mh_H)) × (Nat → Int32 → mh_H → Option (Bool × Int32 × mh_H)) × (Nat → Int32 → mh_H → Option (Bool × Int32 × mh_H)) × (Nat → Int32 → mh_H → Option (Bool × Int32 × mh_H)) × (Nat → mh_H → Option (Bool × Int32 × mh_H))
def pa (N : Nat) : Nat → paT
  | 0 => (fun _ _ _ => none, fun _ _ _ => none, fun _ _ _ => none, fun _ _ _ => none, fun _ _ _ => none, fun _ _ _ => none, fun _ _ _ _ _ => none, fun _ _ _ => none, fun _ _ _ => none, fun _ _ _ => none, fun _ _ _ => none, fun _ _ _ => none, fun _ _ => none)
  | n + 1 => (f_PA_block N (pa N n).2.1, f_PA_statement N (pa N n).2.2.1 (pa N n).2.2.2.1 (pa N n).2.2.2.2.1 (pa N n).2.2.2.2.2.1 (pa N n).2.2.2.2.2.2.2.2.2.1, f_PA_variable N (pa N n).2.2.2.2.2.2.2.2.2.1, f_PA_call N (pa N n).2.2.2.2.2.2.2.2.2.1, f_PA_assignment N (pa N n).2.2.2.2.2.2.2.2.2.1, f_PA_conditional N (pa N n).2.2.2.2.2.2.1 (pa N n).1, f_PA_condition N (pa N n).2.2.2.2.2.2.2.1, f_PA_both N (pa N n).2.2.2.2.2.2.2.2.1, f_PA_test N (pa N n).2.2.2.2.2.2.2.2.1 (pa N n).2.2.2.2.2.2.1 (pa N n).2.2.2.2.2.2.2.2.2.1, f_PA_sum N (pa N n).2.2.2.2.2.2.2.2.2.2.1, f_PA_term N (pa N n).2.2.2.2.2.2.2.2.2.2.2.1, f_PA_factor N (pa N n).2.2.2.2.2.2.2.2.2.2.2.1 (pa N n).2.2.2.2.2.2.2.2.2.1, f_PA_function N (pa N n).1)
def pa_block (N n : Nat) : Nat → Int32 → mh_H → Option (Bool × Int32 × mh_H) := (pa N n).1
def pa_statement (N n : Nat) : Nat → Int32 → mh_H → Option (Bool × Int32 × mh_H) := (pa N n).2.1
def pa_variable (N n : Nat) : Nat → Int32 → mh_H → Option (Bool × Int32 × mh_H) := (pa N n).2.2.1
def pa_call (N n : Nat) : Nat → Int32 → mh_H → Option (Bool × Int32 × mh_H) := (pa N n).2.2.2.1
def pa_assignment (N n : Nat) : Nat → Int32 → mh_H → Option (Bool × Int32 × mh_H) := (pa N n).2.2.2.2.1
def pa_conditional (N n : Nat) : Nat → Int32 → mh_H → Option (Bool × Int32 × mh_H) := (pa N n).2.2.2.2.2.1
def pa_condition (N n : Nat) : Nat → Int32 → Int32 → Int32 → mh_H → Option (Bool × Int32 × mh_H) := (pa N n).2.2.2.2.2.2.1
def pa_both (N n : Nat) : Nat → Int32 → mh_H → Option (Bool × Int32 × mh_H) := (pa N n).2.2.2.2.2.2.2.1
def pa_test (N n : Nat) : Nat → Int32 → mh_H → Option (Bool × Int32 × mh_H) := (pa N n).2.2.2.2.2.2.2.2.1
def pa_sum (N n : Nat) : Nat → Int32 → mh_H → Option (Bool × Int32 × mh_H) := (pa N n).2.2.2.2.2.2.2.2.2.1
def pa_term (N n : Nat) : Nat → Int32 → mh_H → Option (Bool × Int32 × mh_H) := (pa N n).2.2.2.2.2.2.2.2.2.2.1
def pa_factor (N n : Nat) : Nat → Int32 → mh_H → Option (Bool × Int32 × mh_H) := (pa N n).2.2.2.2.2.2.2.2.2.2.2.1
def pa_function (N n : Nat) : Nat → mh_H → Option (Bool × Int32 × mh_H) := (pa N n).2.2.2.2.2.2.2.2.2.2.2.2
theorem pa_block_s (N n : Nat) : pa_block N (n + 1) = f_PA_block N (pa_statement N n) := rfl
theorem pa_statement_s (N n : Nat) : pa_statement N (n + 1) = f_PA_statement N (pa_variable N n) (pa_call N n) (pa_assignment N n) (pa_conditional N n) (pa_sum N n) := rfl
theorem pa_variable_s (N n : Nat) : pa_variable N (n + 1) = f_PA_variable N (pa_sum N n) := rfl
theorem pa_call_s (N n : Nat) : pa_call N (n + 1) = f_PA_call N (pa_sum N n) := rfl
theorem pa_assignment_s (N n : Nat) : pa_assignment N (n + 1) = f_PA_assignment N (pa_sum N n) := rfl
theorem pa_conditional_s (N n : Nat) : pa_conditional N (n + 1) = f_PA_conditional N (pa_condition N n) (pa_block N n) := rfl
theorem pa_condition_s (N n : Nat) : pa_condition N (n + 1) = f_PA_condition N (pa_both N n) := rfl
theorem pa_both_s (N n : Nat) : pa_both N (n + 1) = f_PA_both N (pa_test N n) := rfl
theorem pa_test_s (N n : Nat) : pa_test N (n + 1) = f_PA_test N (pa_test N n) (pa_condition N n) (pa_sum N n) := rfl
theorem pa_sum_s (N n : Nat) : pa_sum N (n + 1) = f_PA_sum N (pa_term N n) := rfl
theorem pa_term_s (N n : Nat) : pa_term N (n + 1) = f_PA_term N (pa_factor N n) := rfl
theorem pa_factor_s (N n : Nat) : pa_factor N (n + 1) = f_PA_factor N (pa_factor N n) (pa_sum N n) := rfl
theorem pa_function_s (N n : Nat) : pa_function N (n + 1) = f_PA_function N (pa_block N n) := rfl
theorem pa_ok {g : mv_G} {N : Nat} (hl : (mg_l g).stackTraces = false) : ∀ n : Nat, (pkV1 g M_PA_block (40 + n) (1000 + 60 * n) (pa_block N n)) ∧ (pkV1 g M_PA_statement (40 + n) (1000 + 60 * n) (pa_statement N n)) ∧ (pkI1 g M_PA_variable (40 + n) (1000 + 60 * n) (pa_variable N n)) ∧ (pkI1 g M_PA_call (40 + n) (1000 + 60 * n) (pa_call N n)) ∧ (pkI1 g M_PA_assignment (40 + n) (1000 + 60 * n) (pa_assignment N n)) ∧ (pkI1 g M_PA_conditional (40 + n) (1000 + 60 * n) (pa_conditional N n)) ∧ (pkV3 g M_PA_condition (40 + n) (1000 + 60 * n) (pa_condition N n)) ∧ (pkV1 g M_PA_both (40 + n) (1000 + 60 * n) (pa_both N n)) ∧ (pkV1 g M_PA_test (40 + n) (1000 + 60 * n) (pa_test N n)) ∧ (pkV1 g M_PA_sum (40 + n) (1000 + 60 * n) (pa_sum N n)) ∧ (pkV1 g M_PA_term (40 + n) (1000 + 60 * n) (pa_term N n)) ∧ (pkV1 g M_PA_factor (40 + n) (1000 + 60 * n) (pa_factor N n)) ∧ (pkV0 g M_PA_function (40 + n) (1000 + 60 * n) (pa_function N n)) := by
  intro n
  induction n with
  | zero => exact ⟨(fun _ _ _ _ h => by cases h), (fun _ _ _ _ h => by cases h), (fun _ _ _ _ h => by cases h), (fun _ _ _ _ h => by cases h), (fun _ _ _ _ h => by cases h), (fun _ _ _ _ h => by cases h), (fun _ _ _ _ _ _ h => by cases h), (fun _ _ _ _ h => by cases h), (fun _ _ _ _ h => by cases h), (fun _ _ _ _ h => by cases h), (fun _ _ _ _ h => by cases h), (fun _ _ _ _ h => by cases h), (fun _ _ _ h => by cases h)⟩
  | succ n ih =>
    obtain ⟨i0, i1, i2, i3, i4, i5, i6, i7, i8, i9, i10, i11, i12⟩ := ih
    have e : 1000 + 60 * (n + 1) = (1000 + 60 * n) + 60 := by omega
    rw [e]
    have hF : 40 ≤ 40 + n := by omega
    have hLw : 1000 ≤ 1000 + 60 * n := by omega
    exact ⟨c_PA_block hl i1 hF hLw, c_PA_statement hl i2 i3 i4 i5 i9 hF hLw, c_PA_variable hl i9 hF hLw, c_PA_call hl i9 hF hLw, c_PA_assignment hl i9 hF hLw, c_PA_conditional hl i6 i0 hF hLw, c_PA_condition hl i7 hF hLw, c_PA_both hl i8 hF hLw, c_PA_test hl i8 i6 i9 hF hLw, c_PA_sum hl i10 hF hLw, c_PA_term hl i11 hF hLw, c_PA_factor hl i11 i9 hF hLw, c_PA_function hl i0 hF hLw⟩
