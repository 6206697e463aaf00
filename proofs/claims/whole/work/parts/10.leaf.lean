/-! leaves: letters, digits, blanks, rows of bytes -/
/-- byte i of a row of n bytes -/
def f_byteAt (n : Int32) (f : Nat → Int32) (i : Int32) : Int32 := if ¬ i < 0 ∧ ¬ n ≤ i then f i.toNatClampNeg &&& 255 else -1
def f_isLetter (b : Int32) : Bool := (!decide (b < 97) && decide (b ≤ 122)) || (!decide (b < 65) && decide (b ≤ 90)) || decide (b = 95)
def f_isDigit (b : Int32) : Bool := !decide (b < 48) && !decide (57 < b)
def f_isBlank (b : Int32) : Bool := decide (b = 9) || decide (b = 10) || decide (b = 13) || decide (b = 32)
def f_b (b : Bool) : Int32 := if b then 1 else 0

theorem c_BR_byteAt {g : mv_G} {σ : mh_H} {a b : Nat} {i : Int32} (ht : hT σ a = 1) (hb : hR σ 0 0 a = some b) (hbt : hT σ b = 4) (hn : ¬ i < 0 → ¬ hI σ 0 1 a ≤ i → vp_in i (hN σ b)) : mv_Met g M_BR_byteAt 0 0 0 0 [.ref a, .int i] σ (fun oc τ => τ = σ ∧ oc = .returned (some (.int (f_byteAt (hI σ 0 1 a) (hA σ b) i)))) := by
  refine mv_entry (L := [some (.ref a), some (.int i)]) rfl rfl (Nat.le_of_ble_eq_true rfl) rfl ?_
  refine vr_iload_n d_BR_byteAt_0 rfl rfl ?_
  refine vr_if_lt (tgt := 25) d_BR_byteAt_1 (by decide) (fun c1 => ?_) (fun c1 => ?_)
  · refine vr_iconst (-1) d_BR_byteAt_25 (by decide) ?_
    exact vr_iret d_BR_byteAt_26 rfl rfl ⟨rfl, by simp [f_byteAt, *]⟩
  · refine vr_iload_n d_BR_byteAt_4 rfl rfl ?_
    refine vr_aload_n d_BR_byteAt_5 rfl rfl ?_
    refine vr_getI d_BR_byteAt_6 F_BR_15 rfl ht ?_
    refine vr_icmp_ge (tgt := 25) d_BR_byteAt_9 (by decide) (fun c9 => ?_) (fun c9 => ?_)
    · refine vr_iconst (-1) d_BR_byteAt_25 (by decide) ?_
      exact vr_iret d_BR_byteAt_26 rfl rfl ⟨rfl, by simp [f_byteAt, *]⟩
    · refine vr_aload_n d_BR_byteAt_12 rfl rfl ?_
      refine vr_getR (b := b) d_BR_byteAt_13 F_BR_11 rfl ht hb ?_
      refine vr_iload_n d_BR_byteAt_16 rfl rfl ?_
      refine vr_bald (t := 1) d_BR_byteAt_17 rfl hbt (hn c1 c9) ?_
      refine vr_sipush (255) d_BR_byteAt_18 (by decide) ?_
      refine vr_iand d_BR_byteAt_21 ?_
      refine vr_goto (tgt := 26) d_BR_byteAt_22 (by decide) ?_
      exact vr_iret d_BR_byteAt_26 rfl rfl ⟨rfl, by simp [f_byteAt, *]⟩

theorem c_BR_clear {g : mv_G} {σ : mh_H} {a : Nat} (ht : hT σ a = 1) : mv_Met g M_BR_clear 0 0 0 0 [.ref a] σ (fun oc τ => τ = mh_setI (mh_setI σ 0 1 a 0) 0 2 a 0 ∧ oc = .returned none) := by
  refine mv_entry (L := [some (.ref a)]) rfl rfl (Nat.le_of_ble_eq_true rfl) rfl ?_
  refine vr_aload_n d_BR_clear_0 rfl rfl ?_
  refine vr_iconst (0) d_BR_clear_1 (by decide) ?_
  refine vr_putI d_BR_clear_2 W_BR_clear_15 rfl rfl rfl ht ?_
  refine vr_aload_n d_BR_clear_5 rfl rfl ?_
  refine vr_iconst (0) d_BR_clear_6 (by decide) ?_
  refine vr_putI d_BR_clear_7 W_BR_clear_19 rfl rfl rfl ht ?_
  exact vr_vret d_BR_clear_10 rfl ⟨rfl, rfl⟩

theorem c_PR_isLetter {g : mv_G} {σ : mh_H} {b : Int32}  : mv_Met g M_PR_isLetter 0 0 0 0 [.int b] σ (fun oc τ => τ = σ ∧ oc = .returned (some (.int (f_b (f_isLetter b))))) := by
  refine mv_entry (L := [some (.int b)]) rfl rfl (Nat.le_of_ble_eq_true rfl) rfl ?_
  refine vr_iload_n d_PR_isLetter_0 rfl rfl ?_
  refine vr_bipush (97) d_PR_isLetter_1 (by decide) ?_
  refine vr_icmp_lt (tgt := 12) d_PR_isLetter_3 (by decide) (fun c3 => ?_) (fun c3 => ?_)
  · refine vr_iload_n d_PR_isLetter_12 rfl rfl ?_
    refine vr_bipush (65) d_PR_isLetter_13 (by decide) ?_
    refine vr_icmp_lt (tgt := 24) d_PR_isLetter_15 (by decide) (fun c15 => ?_) (fun c15 => ?_)
    · refine vr_iload_n d_PR_isLetter_24 rfl rfl ?_
      refine vr_bipush (95) d_PR_isLetter_25 (by decide) ?_
      refine vr_icmp_ne (tgt := 34) d_PR_isLetter_27 (by decide) (fun c27 => ?_) (fun c27 => ?_)
      · refine vr_iconst (0) d_PR_isLetter_34 (by decide) ?_
        exact vr_iret d_PR_isLetter_35 rfl rfl ⟨rfl, by simp [f_b, f_isLetter, -Int32.not_lt, -Int32.not_le, *]⟩
      · refine vr_iconst (1) d_PR_isLetter_30 (by decide) ?_
        refine vr_goto (tgt := 35) d_PR_isLetter_31 (by decide) ?_
        exact vr_iret d_PR_isLetter_35 rfl rfl ⟨rfl, by simp [f_b, f_isLetter, -Int32.not_lt, -Int32.not_le, *]⟩
    · refine vr_iload_n d_PR_isLetter_18 rfl rfl ?_
      refine vr_bipush (90) d_PR_isLetter_19 (by decide) ?_
      refine vr_icmp_le (tgt := 30) d_PR_isLetter_21 (by decide) (fun c21 => ?_) (fun c21 => ?_)
      · refine vr_iconst (1) d_PR_isLetter_30 (by decide) ?_
        refine vr_goto (tgt := 35) d_PR_isLetter_31 (by decide) ?_
        exact vr_iret d_PR_isLetter_35 rfl rfl ⟨rfl, by simp [f_b, f_isLetter, -Int32.not_lt, -Int32.not_le, *]⟩
      · refine vr_iload_n d_PR_isLetter_24 rfl rfl ?_
        refine vr_bipush (95) d_PR_isLetter_25 (by decide) ?_
        refine vr_icmp_ne (tgt := 34) d_PR_isLetter_27 (by decide) (fun c27 => ?_) (fun c27 => ?_)
        · refine vr_iconst (0) d_PR_isLetter_34 (by decide) ?_
          exact vr_iret d_PR_isLetter_35 rfl rfl ⟨rfl, by simp [f_b, f_isLetter, -Int32.not_lt, -Int32.not_le, *]⟩
        · refine vr_iconst (1) d_PR_isLetter_30 (by decide) ?_
          refine vr_goto (tgt := 35) d_PR_isLetter_31 (by decide) ?_
          exact vr_iret d_PR_isLetter_35 rfl rfl ⟨rfl, by simp [f_b, f_isLetter, -Int32.not_lt, -Int32.not_le, *]⟩
  · refine vr_iload_n d_PR_isLetter_6 rfl rfl ?_
    refine vr_bipush (122) d_PR_isLetter_7 (by decide) ?_
    refine vr_icmp_le (tgt := 30) d_PR_isLetter_9 (by decide) (fun c9 => ?_) (fun c9 => ?_)
    · refine vr_iconst (1) d_PR_isLetter_30 (by decide) ?_
      refine vr_goto (tgt := 35) d_PR_isLetter_31 (by decide) ?_
      exact vr_iret d_PR_isLetter_35 rfl rfl ⟨rfl, by simp [f_b, f_isLetter, -Int32.not_lt, -Int32.not_le, *]⟩
    · refine vr_iload_n d_PR_isLetter_12 rfl rfl ?_
      refine vr_bipush (65) d_PR_isLetter_13 (by decide) ?_
      refine vr_icmp_lt (tgt := 24) d_PR_isLetter_15 (by decide) (fun c15 => ?_) (fun c15 => ?_)
      · refine vr_iload_n d_PR_isLetter_24 rfl rfl ?_
        refine vr_bipush (95) d_PR_isLetter_25 (by decide) ?_
        refine vr_icmp_ne (tgt := 34) d_PR_isLetter_27 (by decide) (fun c27 => ?_) (fun c27 => ?_)
        · refine vr_iconst (0) d_PR_isLetter_34 (by decide) ?_
          exact vr_iret d_PR_isLetter_35 rfl rfl ⟨rfl, by simp [f_b, f_isLetter, -Int32.not_lt, -Int32.not_le, *]⟩
        · refine vr_iconst (1) d_PR_isLetter_30 (by decide) ?_
          refine vr_goto (tgt := 35) d_PR_isLetter_31 (by decide) ?_
          exact vr_iret d_PR_isLetter_35 rfl rfl ⟨rfl, by simp [f_b, f_isLetter, -Int32.not_lt, -Int32.not_le, *]⟩
      · refine vr_iload_n d_PR_isLetter_18 rfl rfl ?_
        refine vr_bipush (90) d_PR_isLetter_19 (by decide) ?_
        refine vr_icmp_le (tgt := 30) d_PR_isLetter_21 (by decide) (fun c21 => ?_) (fun c21 => ?_)
        · refine vr_iconst (1) d_PR_isLetter_30 (by decide) ?_
          refine vr_goto (tgt := 35) d_PR_isLetter_31 (by decide) ?_
          exact vr_iret d_PR_isLetter_35 rfl rfl ⟨rfl, by simp [f_b, f_isLetter, -Int32.not_lt, -Int32.not_le, *]⟩
        · refine vr_iload_n d_PR_isLetter_24 rfl rfl ?_
          refine vr_bipush (95) d_PR_isLetter_25 (by decide) ?_
          refine vr_icmp_ne (tgt := 34) d_PR_isLetter_27 (by decide) (fun c27 => ?_) (fun c27 => ?_)
          · refine vr_iconst (0) d_PR_isLetter_34 (by decide) ?_
            exact vr_iret d_PR_isLetter_35 rfl rfl ⟨rfl, by simp [f_b, f_isLetter, -Int32.not_lt, -Int32.not_le, *]⟩
          · refine vr_iconst (1) d_PR_isLetter_30 (by decide) ?_
            refine vr_goto (tgt := 35) d_PR_isLetter_31 (by decide) ?_
            exact vr_iret d_PR_isLetter_35 rfl rfl ⟨rfl, by simp [f_b, f_isLetter, -Int32.not_lt, -Int32.not_le, *]⟩

theorem c_PR_isDigit {g : mv_G} {σ : mh_H} {b : Int32}  : mv_Met g M_PR_isDigit 0 0 0 0 [.int b] σ (fun oc τ => τ = σ ∧ oc = .returned (some (.int (f_b (f_isDigit b))))) := by
  refine mv_entry (L := [some (.int b)]) rfl rfl (Nat.le_of_ble_eq_true rfl) rfl ?_
  refine vr_iload_n d_PR_isDigit_0 rfl rfl ?_
  refine vr_bipush (48) d_PR_isDigit_1 (by decide) ?_
  refine vr_icmp_lt (tgt := 16) d_PR_isDigit_3 (by decide) (fun c3 => ?_) (fun c3 => ?_)
  · refine vr_iconst (0) d_PR_isDigit_16 (by decide) ?_
    exact vr_iret d_PR_isDigit_17 rfl rfl ⟨rfl, by simp [f_b, f_isDigit, -Int32.not_lt, -Int32.not_le, *]⟩
  · refine vr_iload_n d_PR_isDigit_6 rfl rfl ?_
    refine vr_bipush (57) d_PR_isDigit_7 (by decide) ?_
    refine vr_icmp_gt (tgt := 16) d_PR_isDigit_9 (by decide) (fun c9 => ?_) (fun c9 => ?_)
    · refine vr_iconst (0) d_PR_isDigit_16 (by decide) ?_
      exact vr_iret d_PR_isDigit_17 rfl rfl ⟨rfl, by simp [f_b, f_isDigit, -Int32.not_lt, -Int32.not_le, *]⟩
    · refine vr_iconst (1) d_PR_isDigit_12 (by decide) ?_
      refine vr_goto (tgt := 17) d_PR_isDigit_13 (by decide) ?_
      exact vr_iret d_PR_isDigit_17 rfl rfl ⟨rfl, by simp [f_b, f_isDigit, -Int32.not_lt, -Int32.not_le, *]⟩

theorem c_PR_isBlank {g : mv_G} {σ : mh_H} {b : Int32}  : mv_Met g M_PR_isBlank 0 0 0 0 [.int b] σ (fun oc τ => τ = σ ∧ oc = .returned (some (.int (f_b (f_isBlank b))))) := by
  refine mv_entry (L := [some (.int b)]) rfl rfl (Nat.le_of_ble_eq_true rfl) rfl ?_
  refine vr_iload_n d_PR_isBlank_0 rfl rfl ?_
  refine vr_bipush (9) d_PR_isBlank_1 (by decide) ?_
  refine vr_icmp_eq (tgt := 24) d_PR_isBlank_3 (by decide) (fun c3 => ?_) (fun c3 => ?_)
  · refine vr_iconst (1) d_PR_isBlank_24 (by decide) ?_
    refine vr_goto (tgt := 29) d_PR_isBlank_25 (by decide) ?_
    exact vr_iret d_PR_isBlank_29 rfl rfl ⟨rfl, by simp [f_b, f_isBlank, -Int32.not_lt, -Int32.not_le, *]⟩
  · refine vr_iload_n d_PR_isBlank_6 rfl rfl ?_
    refine vr_bipush (10) d_PR_isBlank_7 (by decide) ?_
    refine vr_icmp_eq (tgt := 24) d_PR_isBlank_9 (by decide) (fun c9 => ?_) (fun c9 => ?_)
    · refine vr_iconst (1) d_PR_isBlank_24 (by decide) ?_
      refine vr_goto (tgt := 29) d_PR_isBlank_25 (by decide) ?_
      exact vr_iret d_PR_isBlank_29 rfl rfl ⟨rfl, by simp [f_b, f_isBlank, -Int32.not_lt, -Int32.not_le, *]⟩
    · refine vr_iload_n d_PR_isBlank_12 rfl rfl ?_
      refine vr_bipush (13) d_PR_isBlank_13 (by decide) ?_
      refine vr_icmp_eq (tgt := 24) d_PR_isBlank_15 (by decide) (fun c15 => ?_) (fun c15 => ?_)
      · refine vr_iconst (1) d_PR_isBlank_24 (by decide) ?_
        refine vr_goto (tgt := 29) d_PR_isBlank_25 (by decide) ?_
        exact vr_iret d_PR_isBlank_29 rfl rfl ⟨rfl, by simp [f_b, f_isBlank, -Int32.not_lt, -Int32.not_le, *]⟩
      · refine vr_iload_n d_PR_isBlank_18 rfl rfl ?_
        refine vr_bipush (32) d_PR_isBlank_19 (by decide) ?_
        refine vr_icmp_ne (tgt := 28) d_PR_isBlank_21 (by decide) (fun c21 => ?_) (fun c21 => ?_)
        · refine vr_iconst (0) d_PR_isBlank_28 (by decide) ?_
          exact vr_iret d_PR_isBlank_29 rfl rfl ⟨rfl, by simp [f_b, f_isBlank, -Int32.not_lt, -Int32.not_le, *]⟩
        · refine vr_iconst (1) d_PR_isBlank_24 (by decide) ?_
          refine vr_goto (tgt := 29) d_PR_isBlank_25 (by decide) ?_
          exact vr_iret d_PR_isBlank_29 rfl rfl ⟨rfl, by simp [f_b, f_isBlank, -Int32.not_lt, -Int32.not_le, *]⟩
