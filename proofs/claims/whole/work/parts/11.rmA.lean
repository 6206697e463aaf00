/-! the reference, lifted: scanning -/
def k_RM_isLetter_24 (N : Nat) (y0 : Int32) : Option (Int32) := if y0 = 95 then (some (1)) else (some (0))
theorem q_RM_isLetter_24 {g : mv_G} {σ : mh_H} {N : Nat} (y0 : Int32) (r : Int32) (h : k_RM_isLetter_24 N y0 = some r) : mv_V g M_RM_isLetter 0 0 0 0 24 [some (.int y0)] [] σ (fun oc τ => τ = σ ∧ oc = .returned (some (.int r))) := by
  unfold k_RM_isLetter_24 at h
  refine vr_iload_n d_RM_isLetter_24 rfl rfl ?_
  refine vr_bipush 95 d_RM_isLetter_25 (by decide) ?_
  refine vr_icmp_ne (tgt := 34) d_RM_isLetter_27 (by decide) (fun c27 => ?_) (fun c27 => ?_)
  · replace h := l_ifn c27 h
    refine vr_iconst 0 d_RM_isLetter_34 (by decide) ?_
    cases h
    exact vr_iret d_RM_isLetter_35 rfl rfl ⟨rfl, rfl⟩
  · replace h := l_ifp c27 h
    refine vr_iconst 1 d_RM_isLetter_30 (by decide) ?_
    refine vr_goto (tgt := 35) d_RM_isLetter_31 (by decide) ?_
    cases h
    exact vr_iret d_RM_isLetter_35 rfl rfl ⟨rfl, rfl⟩

def k_RM_isLetter_12 (N : Nat) (y0 : Int32) : Option (Int32) := if y0 < 65 then (k_RM_isLetter_24 N y0) else (if y0 ≤ 90 then (some (1)) else (k_RM_isLetter_24 N y0))
theorem q_RM_isLetter_12 {g : mv_G} {σ : mh_H} {N : Nat} (y0 : Int32) (r : Int32) (h : k_RM_isLetter_12 N y0 = some r) : mv_V g M_RM_isLetter 0 0 0 0 12 [some (.int y0)] [] σ (fun oc τ => τ = σ ∧ oc = .returned (some (.int r))) := by
  unfold k_RM_isLetter_12 at h
  refine vr_iload_n d_RM_isLetter_12 rfl rfl ?_
  refine vr_bipush 65 d_RM_isLetter_13 (by decide) ?_
  refine vr_icmp_lt (tgt := 24) d_RM_isLetter_15 (by decide) (fun c15 => ?_) (fun c15 => ?_)
  · replace h := l_ifp c15 h
    exact mv_drop (q_RM_isLetter_24 _ _ h) (And.intro rfl trivial)
  · replace h := l_ifn c15 h
    refine vr_iload_n d_RM_isLetter_18 rfl rfl ?_
    refine vr_bipush 90 d_RM_isLetter_19 (by decide) ?_
    refine vr_icmp_le (tgt := 30) d_RM_isLetter_21 (by decide) (fun c21 => ?_) (fun c21 => ?_)
    · replace h := l_ifp c21 h
      refine vr_iconst 1 d_RM_isLetter_30 (by decide) ?_
      refine vr_goto (tgt := 35) d_RM_isLetter_31 (by decide) ?_
      cases h
      exact vr_iret d_RM_isLetter_35 rfl rfl ⟨rfl, rfl⟩
    · replace h := l_ifn c21 h
      exact mv_drop (q_RM_isLetter_24 _ _ h) (And.intro rfl trivial)

def f_RM_isLetter (N : Nat) (x0 : Int32) : Option (Int32) := if x0 < 97 then (k_RM_isLetter_12 N x0) else (if x0 ≤ 122 then (some (1)) else (k_RM_isLetter_12 N x0))
theorem c_RM_isLetter {g : mv_G} {σ : mh_H} {N : Nat} {x0 : Int32} {r : Int32} (h : f_RM_isLetter N x0 = some r) : mv_Met g M_RM_isLetter 0 0 0 0 [.int x0] σ (fun oc τ => τ = σ ∧ oc = .returned (some (.int r))) := by
  refine mv_entry (L := [some (.int x0)]) rfl rfl (Nat.le_of_ble_eq_true rfl) rfl ?_
  unfold f_RM_isLetter at h
  refine vr_iload_n d_RM_isLetter_0 rfl rfl ?_
  refine vr_bipush 97 d_RM_isLetter_1 (by decide) ?_
  refine vr_icmp_lt (tgt := 12) d_RM_isLetter_3 (by decide) (fun c3 => ?_) (fun c3 => ?_)
  · replace h := l_ifp c3 h
    exact mv_drop (q_RM_isLetter_12 _ _ h) (And.intro rfl trivial)
  · replace h := l_ifn c3 h
    refine vr_iload_n d_RM_isLetter_6 rfl rfl ?_
    refine vr_bipush 122 d_RM_isLetter_7 (by decide) ?_
    refine vr_icmp_le (tgt := 30) d_RM_isLetter_9 (by decide) (fun c9 => ?_) (fun c9 => ?_)
    · replace h := l_ifp c9 h
      refine vr_iconst 1 d_RM_isLetter_30 (by decide) ?_
      refine vr_goto (tgt := 35) d_RM_isLetter_31 (by decide) ?_
      cases h
      exact vr_iret d_RM_isLetter_35 rfl rfl ⟨rfl, rfl⟩
    · replace h := l_ifn c9 h
      exact mv_drop (q_RM_isLetter_12 _ _ h) (And.intro rfl trivial)

def f_RM_isDigit (N : Nat) (x0 : Int32) : Option (Int32) := if x0 < 48 then (some (0)) else (if 57 < x0 then (some (0)) else (some (1)))
theorem c_RM_isDigit {g : mv_G} {σ : mh_H} {N : Nat} {x0 : Int32} {r : Int32} (h : f_RM_isDigit N x0 = some r) : mv_Met g M_RM_isDigit 0 0 0 0 [.int x0] σ (fun oc τ => τ = σ ∧ oc = .returned (some (.int r))) := by
  refine mv_entry (L := [some (.int x0)]) rfl rfl (Nat.le_of_ble_eq_true rfl) rfl ?_
  unfold f_RM_isDigit at h
  refine vr_iload_n d_RM_isDigit_0 rfl rfl ?_
  refine vr_bipush 48 d_RM_isDigit_1 (by decide) ?_
  refine vr_icmp_lt (tgt := 16) d_RM_isDigit_3 (by decide) (fun c3 => ?_) (fun c3 => ?_)
  · replace h := l_ifp c3 h
    refine vr_iconst 0 d_RM_isDigit_16 (by decide) ?_
    cases h
    exact vr_iret d_RM_isDigit_17 rfl rfl ⟨rfl, rfl⟩
  · replace h := l_ifn c3 h
    refine vr_iload_n d_RM_isDigit_6 rfl rfl ?_
    refine vr_bipush 57 d_RM_isDigit_7 (by decide) ?_
    refine vr_icmp_gt (tgt := 16) d_RM_isDigit_9 (by decide) (fun c9 => ?_) (fun c9 => ?_)
    · replace h := l_ifp c9 h
      refine vr_iconst 0 d_RM_isDigit_16 (by decide) ?_
      cases h
      exact vr_iret d_RM_isDigit_17 rfl rfl ⟨rfl, rfl⟩
    · replace h := l_ifn c9 h
      refine vr_iconst 1 d_RM_isDigit_12 (by decide) ?_
      refine vr_goto (tgt := 17) d_RM_isDigit_13 (by decide) ?_
      cases h
      exact vr_iret d_RM_isDigit_17 rfl rfl ⟨rfl, rfl⟩

def f_RM_isWordByte (N : Nat) (x0 : Int32) : Option (Int32) := calP (f_RM_isLetter N x0) fun v1 => if v1 = 0 then (calP (f_RM_isDigit N x0) fun v2 => if v2 = 0 then (some (0)) else (some (1))) else (some (1))
theorem c_RM_isWordByte {g : mv_G} {σ : mh_H} {N : Nat} {x0 : Int32} {r : Int32} (h : f_RM_isWordByte N x0 = some r) : mv_Met g M_RM_isWordByte 1 20 0 0 [.int x0] σ (fun oc τ => τ = σ ∧ oc = .returned (some (.int r))) := by
  refine mv_entry (L := [some (.int x0)]) rfl rfl (Nat.le_of_ble_eq_true rfl) rfl ?_
  unfold f_RM_isWordByte at h
  refine vr_iload_n d_RM_isWordByte_0 rfl rfl ?_
  obtain ⟨v1, ev1, h⟩ := l_calP h
  refine vr_callSP [.int x0] d_RM_isWordByte_1 C_RM_113 (c_RM_isLetter ev1) rfl rfl (Nat.le_of_ble_eq_true rfl) (by decide) (Nat.le_of_ble_eq_true rfl) ?_
  refine vr_if_ne (tgt := 14) d_RM_isWordByte_4 (by decide) (fun c4 => ?_) (fun c4 => ?_)
  · replace h := l_ifn c4 h
    refine vr_iconst 1 d_RM_isWordByte_14 (by decide) ?_
    refine vr_goto (tgt := 19) d_RM_isWordByte_15 (by decide) ?_
    cases h
    exact vr_iret d_RM_isWordByte_19 rfl rfl ⟨rfl, rfl⟩
  · replace h := l_ifp c4 h
    refine vr_iload_n d_RM_isWordByte_7 rfl rfl ?_
    obtain ⟨v2, ev2, h⟩ := l_calP h
    refine vr_callSP [.int x0] d_RM_isWordByte_8 C_RM_117 (c_RM_isDigit ev2) rfl rfl (Nat.le_of_ble_eq_true rfl) (by decide) (Nat.le_of_ble_eq_true rfl) ?_
    refine vr_if_eq (tgt := 18) d_RM_isWordByte_11 (by decide) (fun c11 => ?_) (fun c11 => ?_)
    · replace h := l_ifp c11 h
      refine vr_iconst 0 d_RM_isWordByte_18 (by decide) ?_
      cases h
      exact vr_iret d_RM_isWordByte_19 rfl rfl ⟨rfl, rfl⟩
    · replace h := l_ifn c11 h
      refine vr_iconst 1 d_RM_isWordByte_14 (by decide) ?_
      refine vr_goto (tgt := 19) d_RM_isWordByte_15 (by decide) ?_
      cases h
      exact vr_iret d_RM_isWordByte_19 rfl rfl ⟨rfl, rfl⟩

def k_RM_add_60 (N : Nat) : Nat → Int32 → Int32 → rm_S → Option (Int32 × rm_S)
  | 0, _, _, _ => none
  | n + 1, y1, y7, S => if y7 = (-1) then (chk (ib y1 2) <| chk (ib y1 2) <| bnd (((S.2 19 (Int32.toNatClampNeg y1)) + 1)) fun v10 => chk (ib y1 2) <| bnd (((rs_a S 19 (Int32.toNatClampNeg y1) v10).2 19 (Int32.toNatClampNeg y1))) fun v12 => some ((v12 - 1), (rs_a S 19 (Int32.toNatClampNeg y1) v10))) else (chk (ib ((13000 * y1) + y7) 26000) <| chk (ib ((13000 * y1) + y7) 26000) <| bnd (((S.2 18 (Int32.toNatClampNeg ((13000 * y1) + y7))) + 1)) fun v15 => chk (ib ((13000 * y1) + y7) 26000) <| bnd (((rs_a S 18 (Int32.toNatClampNeg ((13000 * y1) + y7)) v15).2 17 (Int32.toNatClampNeg ((13000 * y1) + y7)))) fun v17 => k_RM_add_60 N n y1 v17 ((rs_a S 18 (Int32.toNatClampNeg ((13000 * y1) + y7)) v15)))
theorem q_RM_add_60 {g : mv_G} {σ : mh_H} {m : Nat} {N : Nat} (H : rm_H g σ m) : ∀ (n : Nat) (y1 : Int32) (y7 : Int32) (S : rm_S) (r : Int32 × rm_S), k_RM_add_60 N n y1 y7 S = some r → mv_V g M_RM_add 0 0 0 0 60 [some (.ref m), some (.int y1), none, none, none, none, none, some (.int y7)] [] (rz σ m S) (fun oc τ => τ = rz σ m r.2 ∧ oc = .returned (some (.int r.1))) := by
  intro n
  induction n with
  | zero =>
    intro y1 y7 S r h
    exact absurd h (by simp [k_RM_add_60])
  | succ n ih =>
    intro y1 y7 S r h 
    unfold k_RM_add_60 at h
    refine vr_iload d_RM_add_60 rfl ?_
    refine vr_iconst (-1) d_RM_add_62 (by decide) ?_
    refine vr_icmp_eq (tgt := 101) d_RM_add_63 (by decide) (fun c63 => ?_) (fun c63 => ?_)
    · replace h := l_ifp c63 h
      refine vr_aload_n d_RM_add_101 rfl rfl ?_
      refine rm_getR (o := 19) H d_RM_add_102 F_RM_68 rfl (by decide) ?_
      refine vr_iload_n d_RM_add_105 rfl rfl ?_
      refine vr_dup2_11 d_RM_add_106 rfl rfl ?_
      have q8 := (l_chk h).1
      replace h := (l_chk h).2
      refine rm_ald (o := 19) H (by decide) (by decide) d_RM_add_107 (ib_in q8) ?_
      refine vr_iconst 1 d_RM_add_108 (by decide) ?_
      refine vr_iadd d_RM_add_109 ?_
      have q9 := (l_chk h).1
      replace h := (l_chk h).2
      obtain ⟨v10, ev10, h⟩ := l_bnd h
      refine vr_nm ev10 ?_
      refine rm_ast (o := 19) H (by decide) (by decide) d_RM_add_110 (ib_in q9) ?_
      refine vr_aload_n d_RM_add_111 rfl rfl ?_
      refine rm_getR (o := 19) H d_RM_add_112 F_RM_68 rfl (by decide) ?_
      refine vr_iload_n d_RM_add_115 rfl rfl ?_
      have q11 := (l_chk h).1
      replace h := (l_chk h).2
      refine rm_ald (o := 19) H (by decide) (by decide) d_RM_add_116 (ib_in q11) ?_
      obtain ⟨v12, ev12, h⟩ := l_bnd h
      refine vr_nm ev12 ?_
      refine vr_iconst 1 d_RM_add_117 (by decide) ?_
      refine vr_isub d_RM_add_118 ?_
      cases h
      exact vr_iret d_RM_add_119 rfl rfl ⟨rfl, rfl⟩
    · replace h := l_ifn c63 h
      refine vr_aload_n d_RM_add_66 rfl rfl ?_
      refine rm_getR (o := 18) H d_RM_add_67 F_RM_65 rfl (by decide) ?_
      refine vr_sipush 13000 d_RM_add_70 (by decide) ?_
      refine vr_iload_n d_RM_add_73 rfl rfl ?_
      refine vr_imul d_RM_add_74 ?_
      refine vr_iload d_RM_add_75 rfl ?_
      refine vr_iadd d_RM_add_77 ?_
      refine vr_dup2_11 d_RM_add_78 rfl rfl ?_
      have q13 := (l_chk h).1
      replace h := (l_chk h).2
      refine rm_ald (o := 18) H (by decide) (by decide) d_RM_add_79 (ib_in q13) ?_
      refine vr_iconst 1 d_RM_add_80 (by decide) ?_
      refine vr_iadd d_RM_add_81 ?_
      have q14 := (l_chk h).1
      replace h := (l_chk h).2
      obtain ⟨v15, ev15, h⟩ := l_bnd h
      refine vr_nm ev15 ?_
      refine rm_ast (o := 18) H (by decide) (by decide) d_RM_add_82 (ib_in q14) ?_
      refine vr_aload_n d_RM_add_83 rfl rfl ?_
      refine rm_getR (o := 17) H d_RM_add_84 F_RM_62 rfl (by decide) ?_
      refine vr_sipush 13000 d_RM_add_87 (by decide) ?_
      refine vr_iload_n d_RM_add_90 rfl rfl ?_
      refine vr_imul d_RM_add_91 ?_
      refine vr_iload d_RM_add_92 rfl ?_
      refine vr_iadd d_RM_add_94 ?_
      have q16 := (l_chk h).1
      replace h := (l_chk h).2
      refine rm_ald (o := 17) H (by decide) (by decide) d_RM_add_95 (ib_in q16) ?_
      obtain ⟨v17, ev17, h⟩ := l_bnd h
      refine vr_nm ev17 ?_
      refine vr_istore (L' := [some (.ref m), some (.int y1), none, none, none, none, none, some (.int v17)]) d_RM_add_96 (by decide) rfl ?_
      refine vr_goto (tgt := 60) d_RM_add_98 (by decide) ?_
      exact mv_drop (ih _ _ _ _ h) (And.intro rfl (And.intro rfl (And.intro rfl trivial)))

def f_RM_add (N : Nat) (x1 : Int32) (x2 : Int32) (x3 : Int32) (x4 : Int32) (x5 : Int32) (S : rm_S) : Option (Int32 × rm_S) := chk (ib x1 2) <| bnd (((13000 * x1) + (S.2 19 (Int32.toNatClampNeg x1)))) fun v2 => chk (ib v2 26000) <| chk (ib v2 26000) <| chk (ib v2 26000) <| chk (ib v2 26000) <| chk (ib v2 26000) <| k_RM_add_60 N N x1 x5 ((rs_a (rs_a (rs_a (rs_a (rs_a S 14 (Int32.toNatClampNeg v2) x2) 15 (Int32.toNatClampNeg v2) x3) 16 (Int32.toNatClampNeg v2) x4) 17 (Int32.toNatClampNeg v2) x5) 18 (Int32.toNatClampNeg v2) 1))
theorem c_RM_add {g : mv_G} {σ : mh_H} {m : Nat} {N : Nat} (H : rm_H g σ m) {x1 : Int32} {x2 : Int32} {x3 : Int32} {x4 : Int32} {x5 : Int32} {S : rm_S} {r : Int32 × rm_S} (h : f_RM_add N x1 x2 x3 x4 x5 S = some r) : mv_Met g M_RM_add 0 0 0 0 [.ref m, .int x1, .int x2, .int x3, .int x4, .int x5] (rz σ m S) (fun oc τ => τ = rz σ m r.2 ∧ oc = .returned (some (.int r.1))) := by
  refine mv_entry (L := [some (.ref m), some (.int x1), some (.int x2), some (.int x3), some (.int x4), some (.int x5), none, none]) rfl rfl (Nat.le_of_ble_eq_true rfl) rfl ?_
  unfold f_RM_add at h
  refine vr_sipush 13000 d_RM_add_0 (by decide) ?_
  refine vr_iload_n d_RM_add_3 rfl rfl ?_
  refine vr_imul d_RM_add_4 ?_
  refine vr_aload_n d_RM_add_5 rfl rfl ?_
  refine rm_getR (o := 19) H d_RM_add_6 F_RM_68 rfl (by decide) ?_
  refine vr_iload_n d_RM_add_9 rfl rfl ?_
  have q1 := (l_chk h).1
  replace h := (l_chk h).2
  refine rm_ald (o := 19) H (by decide) (by decide) d_RM_add_10 (ib_in q1) ?_
  refine vr_iadd d_RM_add_11 ?_
  obtain ⟨v2, ev2, h⟩ := l_bnd h
  refine vr_nm ev2 ?_
  refine vr_istore (L' := [some (.ref m), some (.int x1), some (.int x2), some (.int x3), some (.int x4), some (.int x5), some (.int v2), none]) d_RM_add_12 (by decide) rfl ?_
  refine vr_aload_n d_RM_add_14 rfl rfl ?_
  refine rm_getR (o := 14) H d_RM_add_15 F_RM_53 rfl (by decide) ?_
  refine vr_iload d_RM_add_18 rfl ?_
  refine vr_iload_n d_RM_add_20 rfl rfl ?_
  have q3 := (l_chk h).1
  replace h := (l_chk h).2
  refine rm_ast (o := 14) H (by decide) (by decide) d_RM_add_21 (ib_in q3) ?_
  refine vr_aload_n d_RM_add_22 rfl rfl ?_
  refine rm_getR (o := 15) H d_RM_add_23 F_RM_56 rfl (by decide) ?_
  refine vr_iload d_RM_add_26 rfl ?_
  refine vr_iload_n d_RM_add_28 rfl rfl ?_
  have q4 := (l_chk h).1
  replace h := (l_chk h).2
  refine rm_ast (o := 15) H (by decide) (by decide) d_RM_add_29 (ib_in q4) ?_
  refine vr_aload_n d_RM_add_30 rfl rfl ?_
  refine rm_getR (o := 16) H d_RM_add_31 F_RM_59 rfl (by decide) ?_
  refine vr_iload d_RM_add_34 rfl ?_
  refine vr_iload d_RM_add_36 rfl ?_
  have q5 := (l_chk h).1
  replace h := (l_chk h).2
  refine rm_ast (o := 16) H (by decide) (by decide) d_RM_add_38 (ib_in q5) ?_
  refine vr_aload_n d_RM_add_39 rfl rfl ?_
  refine rm_getR (o := 17) H d_RM_add_40 F_RM_62 rfl (by decide) ?_
  refine vr_iload d_RM_add_43 rfl ?_
  refine vr_iload d_RM_add_45 rfl ?_
  have q6 := (l_chk h).1
  replace h := (l_chk h).2
  refine rm_ast (o := 17) H (by decide) (by decide) d_RM_add_47 (ib_in q6) ?_
  refine vr_aload_n d_RM_add_48 rfl rfl ?_
  refine rm_getR (o := 18) H d_RM_add_49 F_RM_65 rfl (by decide) ?_
  refine vr_iload d_RM_add_52 rfl ?_
  refine vr_iconst 1 d_RM_add_54 (by decide) ?_
  have q7 := (l_chk h).1
  replace h := (l_chk h).2
  refine rm_ast (o := 18) H (by decide) (by decide) d_RM_add_55 (ib_in q7) ?_
  refine vr_iload d_RM_add_56 rfl ?_
  refine vr_istore (L' := [some (.ref m), some (.int x1), some (.int x2), some (.int x3), some (.int x4), some (.int x5), some (.int v2), some (.int x5)]) d_RM_add_58 (by decide) rfl ?_
  exact mv_drop (q_RM_add_60 H N _ _ _ _ h) (And.intro rfl (And.intro rfl (And.intro rfl trivial)))

def f_RM_clear (N : Nat) (x1 : Int32) (S : rm_S) : Option (rm_S) := chk (ib x1 2) <| calI (f_RM_add N x1 0 0 0 (-1) ((rs_a S 19 (Int32.toNatClampNeg x1) 0))) fun v2 S2 => chk (ib (13000 * x1) 26000) <| some ((rs_a S2 15 (Int32.toNatClampNeg (13000 * x1)) (-1)))
theorem c_RM_clear {g : mv_G} {σ : mh_H} {m : Nat} {N : Nat} (H : rm_H g σ m) {x1 : Int32} {S : rm_S} {r : rm_S} (h : f_RM_clear N x1 S = some r) : mv_Met g M_RM_clear 1 27 0 0 [.ref m, .int x1] (rz σ m S) (fun oc τ => τ = rz σ m r ∧ oc = .returned none) := by
  refine mv_entry (L := [some (.ref m), some (.int x1)]) rfl rfl (Nat.le_of_ble_eq_true rfl) rfl ?_
  unfold f_RM_clear at h
  refine vr_aload_n d_RM_clear_0 rfl rfl ?_
  refine rm_getR (o := 19) H d_RM_clear_1 F_RM_68 rfl (by decide) ?_
  refine vr_iload_n d_RM_clear_4 rfl rfl ?_
  refine vr_iconst 0 d_RM_clear_5 (by decide) ?_
  have q1 := (l_chk h).1
  replace h := (l_chk h).2
  refine rm_ast (o := 19) H (by decide) (by decide) d_RM_clear_6 (ib_in q1) ?_
  refine vr_aload_n d_RM_clear_7 rfl rfl ?_
  refine vr_iload_n d_RM_clear_8 rfl rfl ?_
  refine vr_iconst 0 d_RM_clear_9 (by decide) ?_
  refine vr_iconst 0 d_RM_clear_10 (by decide) ?_
  refine vr_iconst 0 d_RM_clear_11 (by decide) ?_
  refine vr_iconst (-1) d_RM_clear_12 (by decide) ?_
  obtain ⟨v2, S2, ev2, h⟩ := l_calI h
  refine rm_callI [.int x1, .int 0, .int 0, .int 0, .int (-1)] H d_RM_clear_13 C_RM_103 (c_RM_add H ev2) rfl rfl rfl (Nat.le_of_ble_eq_true rfl) (by decide) (Nat.le_of_ble_eq_true rfl) ?_
  refine vr_pop d_RM_clear_16 rfl ?_
  refine vr_aload_n d_RM_clear_17 rfl rfl ?_
  refine rm_getR (o := 15) H d_RM_clear_18 F_RM_56 rfl (by decide) ?_
  refine vr_sipush 13000 d_RM_clear_21 (by decide) ?_
  refine vr_iload_n d_RM_clear_24 rfl rfl ?_
  refine vr_imul d_RM_clear_25 ?_
  refine vr_iconst (-1) d_RM_clear_26 (by decide) ?_
  have q3 := (l_chk h).1
  replace h := (l_chk h).2
  refine rm_ast (o := 15) H (by decide) (by decide) d_RM_clear_27 (ib_in q3) ?_
  cases h
  exact vr_vret d_RM_clear_28 rfl ⟨rfl, rfl⟩

def k_RM_feed_71 (N : Nat) (k18 : Int32 → Int32 → Int32 → Int32 → Int32 → Int32 → rm_S → Option (Int32 × rm_S)) (y1 : Int32) (y2 : Int32) (y3 : Int32) (y4 : Int32) (y5 : Int32) (y6 : Int32) (z0 : Int32) (S : rm_S) : Option (Int32 × rm_S) := chk (ib (S.1 2) 8000) <| bnd (((z0 >>> ((24 - (8 * (y6 - y6 / 4 * 4))) &&& 31)) &&& 255)) fun v2 => bnd (((rs_a S 1 (Int32.toNatClampNeg (S.1 2)) v2).1 2)) fun v3 => bnd ((v3 + 1)) fun v4 => k18 y1 y2 y3 y4 y5 ((y6 + 1)) ((rs_i (rs_a S 1 (Int32.toNatClampNeg (S.1 2)) v2) 2 v4))
theorem q_RM_feed_71 {g : mv_G} {σ : mh_H} {m : Nat} {N : Nat} {k18 : Int32 → Int32 → Int32 → Int32 → Int32 → Int32 → rm_S → Option (Int32 × rm_S)} (H : rm_H g σ m) (hk18 : ∀ (y1 : Int32) (y2 : Int32) (y3 : Int32) (y4 : Int32) (y5 : Int32) (y6 : Int32) (S : rm_S) (r : Int32 × rm_S), k18 y1 y2 y3 y4 y5 y6 S = some r → mv_V g M_RM_feed 0 0 0 0 18 [some (.ref m), some (.int y1), some (.int y2), some (.int y3), some (.int y4), some (.int y5), some (.int y6), none] [] (rz σ m S) (fun oc τ => τ = rz σ m r.2 ∧ oc = .returned (some (.int r.1)))) (y1 : Int32) (y2 : Int32) (y3 : Int32) (y4 : Int32) (y5 : Int32) (y6 : Int32) (z0 : Int32) (S : rm_S) (r : Int32 × rm_S) (h : k_RM_feed_71 N k18 y1 y2 y3 y4 y5 y6 z0 S = some r) : mv_V g M_RM_feed 0 0 0 0 71 [some (.ref m), some (.int y1), some (.int y2), some (.int y3), some (.int y4), some (.int y5), some (.int y6), none] [.int z0] (rz σ m S) (fun oc τ => τ = rz σ m r.2 ∧ oc = .returned (some (.int r.1))) := by
  unfold k_RM_feed_71 at h
  refine vr_istore (L' := [some (.ref m), some (.int y1), some (.int y2), some (.int y3), some (.int y4), some (.int y5), some (.int y6), some (.int z0)]) d_RM_feed_71 (by decide) rfl ?_
  refine vr_aload_n d_RM_feed_73 rfl rfl ?_
  refine rm_getR (o := 1) H d_RM_feed_74 F_RM_9 rfl (by decide) ?_
  refine vr_aload_n d_RM_feed_77 rfl rfl ?_
  refine rm_getI H d_RM_feed_78 F_RM_107 rfl ?_
  refine vr_iload d_RM_feed_81 rfl ?_
  refine vr_bipush 24 d_RM_feed_83 (by decide) ?_
  refine vr_bipush 8 d_RM_feed_85 (by decide) ?_
  refine vr_iload d_RM_feed_87 rfl ?_
  refine vr_iconst 4 d_RM_feed_89 (by decide) ?_
  refine vr_irem d_RM_feed_90 (by decide) ?_
  refine vr_imul d_RM_feed_91 ?_
  refine vr_isub d_RM_feed_92 ?_
  refine vr_ishr d_RM_feed_93 ?_
  refine vr_sipush 255 d_RM_feed_94 (by decide) ?_
  refine vr_iand d_RM_feed_97 ?_
  have q1 := (l_chk h).1
  replace h := (l_chk h).2
  obtain ⟨v2, ev2, h⟩ := l_bnd h
  refine vr_nm ev2 ?_
  refine rm_ast (o := 1) H (by decide) (by decide) d_RM_feed_98 (ib_in q1) ?_
  refine vr_aload_n d_RM_feed_99 rfl rfl ?_
  refine vr_dup d_RM_feed_100 rfl ?_
  refine rm_getI H d_RM_feed_101 F_RM_107 rfl ?_
  obtain ⟨v3, ev3, h⟩ := l_bnd h
  refine vr_nm ev3 ?_
  refine vr_iconst 1 d_RM_feed_104 (by decide) ?_
  refine vr_iadd d_RM_feed_105 ?_
  obtain ⟨v4, ev4, h⟩ := l_bnd h
  refine vr_nm ev4 ?_
  refine rm_putI H d_RM_feed_106 W_RM_feed_107 rfl rfl rfl ?_
  refine vr_iinc (L' := [some (.ref m), some (.int y1), some (.int y2), some (.int y3), some (.int y4), some (.int y5), some (.int (y6 + 1)), some (.int z0)]) (y6 + 1) d_RM_feed_109 (by decide) rfl rfl rfl ?_
  refine vr_goto (tgt := 18) d_RM_feed_112 (by decide) ?_
  exact mv_drop (hk18 _ _ _ _ _ _ _ _ h) (And.intro rfl (And.intro rfl (And.intro rfl (And.intro rfl (And.intro rfl (And.intro rfl (And.intro rfl trivial)))))))

def k_RM_feed_18 (N : Nat) : Nat → Int32 → Int32 → Int32 → Int32 → Int32 → Int32 → rm_S → Option (Int32 × rm_S)
  | 0, _, _, _, _, _, _, _ => none
  | n + 1, y1, y2, y3, y4, y5, y6, S => if 20 ≤ y6 then (some ((S.1 2), S)) else (if 4 ≤ y6 then (if 8 ≤ y6 then (if 12 ≤ y6 then (if 16 ≤ y6 then (k_RM_feed_71 N (k_RM_feed_18 N n) y1 y2 y3 y4 y5 y6 y5 S) else (k_RM_feed_71 N (k_RM_feed_18 N n) y1 y2 y3 y4 y5 y6 y4 S)) else (k_RM_feed_71 N (k_RM_feed_18 N n) y1 y2 y3 y4 y5 y6 y3 S)) else (k_RM_feed_71 N (k_RM_feed_18 N n) y1 y2 y3 y4 y5 y6 y2 S)) else (k_RM_feed_71 N (k_RM_feed_18 N n) y1 y2 y3 y4 y5 y6 y1 S))
theorem q_RM_feed_18 {g : mv_G} {σ : mh_H} {m : Nat} {N : Nat} (H : rm_H g σ m) : ∀ (n : Nat) (y1 : Int32) (y2 : Int32) (y3 : Int32) (y4 : Int32) (y5 : Int32) (y6 : Int32) (S : rm_S) (r : Int32 × rm_S), k_RM_feed_18 N n y1 y2 y3 y4 y5 y6 S = some r → mv_V g M_RM_feed 0 0 0 0 18 [some (.ref m), some (.int y1), some (.int y2), some (.int y3), some (.int y4), some (.int y5), some (.int y6), none] [] (rz σ m S) (fun oc τ => τ = rz σ m r.2 ∧ oc = .returned (some (.int r.1))) := by
  intro n
  induction n with
  | zero =>
    intro y1 y2 y3 y4 y5 y6 S r h
    exact absurd h (by simp [k_RM_feed_18])
  | succ n ih =>
    intro y1 y2 y3 y4 y5 y6 S r h 
    unfold k_RM_feed_18 at h
    refine vr_iload d_RM_feed_18 rfl ?_
    refine vr_bipush 20 d_RM_feed_20 (by decide) ?_
    refine vr_icmp_ge (tgt := 115) d_RM_feed_22 (by decide) (fun c22 => ?_) (fun c22 => ?_)
    · replace h := l_ifp c22 h
      refine vr_aload_n d_RM_feed_115 rfl rfl ?_
      refine rm_getI H d_RM_feed_116 F_RM_107 rfl ?_
      cases h
      exact vr_iret d_RM_feed_119 rfl rfl ⟨rfl, rfl⟩
    · replace h := l_ifn c22 h
      refine vr_iload d_RM_feed_25 rfl ?_
      refine vr_iconst 4 d_RM_feed_27 (by decide) ?_
      refine vr_icmp_ge (tgt := 35) d_RM_feed_28 (by decide) (fun c28 => ?_) (fun c28 => ?_)
      · replace h := l_ifp c28 h
        refine vr_iload d_RM_feed_35 rfl ?_
        refine vr_bipush 8 d_RM_feed_37 (by decide) ?_
        refine vr_icmp_ge (tgt := 46) d_RM_feed_39 (by decide) (fun c39 => ?_) (fun c39 => ?_)
        · replace h := l_ifp c39 h
          refine vr_iload d_RM_feed_46 rfl ?_
          refine vr_bipush 12 d_RM_feed_48 (by decide) ?_
          refine vr_icmp_ge (tgt := 57) d_RM_feed_50 (by decide) (fun c50 => ?_) (fun c50 => ?_)
          · replace h := l_ifp c50 h
            refine vr_iload d_RM_feed_57 rfl ?_
            refine vr_bipush 16 d_RM_feed_59 (by decide) ?_
            refine vr_icmp_ge (tgt := 69) d_RM_feed_61 (by decide) (fun c61 => ?_) (fun c61 => ?_)
            · replace h := l_ifp c61 h
              refine vr_iload d_RM_feed_69 rfl ?_
              exact mv_drop (q_RM_feed_71 H ih _ _ _ _ _ _ _ _ _ h) (And.intro rfl (And.intro rfl (And.intro rfl (And.intro rfl (And.intro rfl (And.intro rfl (And.intro rfl trivial)))))))
            · replace h := l_ifn c61 h
              refine vr_iload d_RM_feed_64 rfl ?_
              refine vr_goto (tgt := 71) d_RM_feed_66 (by decide) ?_
              exact mv_drop (q_RM_feed_71 H ih _ _ _ _ _ _ _ _ _ h) (And.intro rfl (And.intro rfl (And.intro rfl (And.intro rfl (And.intro rfl (And.intro rfl (And.intro rfl trivial)))))))
          · replace h := l_ifn c50 h
            refine vr_iload_n d_RM_feed_53 rfl rfl ?_
            refine vr_goto (tgt := 71) d_RM_feed_54 (by decide) ?_
            exact mv_drop (q_RM_feed_71 H ih _ _ _ _ _ _ _ _ _ h) (And.intro rfl (And.intro rfl (And.intro rfl (And.intro rfl (And.intro rfl (And.intro rfl (And.intro rfl trivial)))))))
        · replace h := l_ifn c39 h
          refine vr_iload_n d_RM_feed_42 rfl rfl ?_
          refine vr_goto (tgt := 71) d_RM_feed_43 (by decide) ?_
          exact mv_drop (q_RM_feed_71 H ih _ _ _ _ _ _ _ _ _ h) (And.intro rfl (And.intro rfl (And.intro rfl (And.intro rfl (And.intro rfl (And.intro rfl (And.intro rfl trivial)))))))
      · replace h := l_ifn c28 h
        refine vr_iload_n d_RM_feed_31 rfl rfl ?_
        refine vr_goto (tgt := 71) d_RM_feed_32 (by decide) ?_
        exact mv_drop (q_RM_feed_71 H ih _ _ _ _ _ _ _ _ _ h) (And.intro rfl (And.intro rfl (And.intro rfl (And.intro rfl (And.intro rfl (And.intro rfl (And.intro rfl trivial)))))))

def f_RM_feed (N : Nat) (x1 : Int32) (x2 : Int32) (x3 : Int32) (x4 : Int32) (x5 : Int32) (S : rm_S) : Option (Int32 × rm_S) := if ((S.1 2) + 20) ≤ 8000 then (k_RM_feed_18 N N x1 x2 x3 x4 x5 0 S) else (some ((-1), S))
theorem c_RM_feed {g : mv_G} {σ : mh_H} {m : Nat} {N : Nat} (H : rm_H g σ m) {x1 : Int32} {x2 : Int32} {x3 : Int32} {x4 : Int32} {x5 : Int32} {S : rm_S} {r : Int32 × rm_S} (h : f_RM_feed N x1 x2 x3 x4 x5 S = some r) : mv_Met g M_RM_feed 0 0 0 0 [.ref m, .int x1, .int x2, .int x3, .int x4, .int x5] (rz σ m S) (fun oc τ => τ = rz σ m r.2 ∧ oc = .returned (some (.int r.1))) := by
  refine mv_entry (L := [some (.ref m), some (.int x1), some (.int x2), some (.int x3), some (.int x4), some (.int x5), none, none]) rfl rfl (Nat.le_of_ble_eq_true rfl) rfl ?_
  unfold f_RM_feed at h
  refine vr_aload_n d_RM_feed_0 rfl rfl ?_
  refine rm_getI H d_RM_feed_1 F_RM_107 rfl ?_
  refine vr_bipush 20 d_RM_feed_4 (by decide) ?_
  refine vr_iadd d_RM_feed_6 ?_
  refine vr_sipush 8000 d_RM_feed_7 (by decide) ?_
  refine vr_icmp_le (tgt := 15) d_RM_feed_10 (by decide) (fun c10 => ?_) (fun c10 => ?_)
  · replace h := l_ifp c10 h
    refine vr_iconst 0 d_RM_feed_15 (by decide) ?_
    refine vr_istore (L' := [some (.ref m), some (.int x1), some (.int x2), some (.int x3), some (.int x4), some (.int x5), some (.int 0), none]) d_RM_feed_16 (by decide) rfl ?_
    exact mv_drop (q_RM_feed_18 H N _ _ _ _ _ _ _ _ h) (And.intro rfl (And.intro rfl (And.intro rfl (And.intro rfl (And.intro rfl (And.intro rfl (And.intro rfl trivial)))))))
  · replace h := l_ifn c10 h
    refine vr_iconst (-1) d_RM_feed_13 (by decide) ?_
    cases h
    exact vr_iret d_RM_feed_14 rfl rfl ⟨rfl, rfl⟩

def f_RM_isAt (N : Nat) (x1 : Int32) (x2 : Int32) (x3 : Int32) (S : rm_S) : Option (Int32 × rm_S) := if (S.1 3) ≤ (x1 + 1) then (some (0, S)) else (chk (ib x1 8000) <| if (S.2 1 (Int32.toNatClampNeg x1)) = x2 then (chk (ib (x1 + 1) 8000) <| if (S.2 1 (Int32.toNatClampNeg (x1 + 1))) = x3 then (some (1, S)) else (some (0, S))) else (some (0, S)))
theorem c_RM_isAt {g : mv_G} {σ : mh_H} {m : Nat} {N : Nat} (H : rm_H g σ m) {x1 : Int32} {x2 : Int32} {x3 : Int32} {S : rm_S} {r : Int32 × rm_S} (h : f_RM_isAt N x1 x2 x3 S = some r) : mv_Met g M_RM_isAt 0 0 0 0 [.ref m, .int x1, .int x2, .int x3] (rz σ m S) (fun oc τ => τ = rz σ m r.2 ∧ oc = .returned (some (.int r.1))) := by
  refine mv_entry (L := [some (.ref m), some (.int x1), some (.int x2), some (.int x3)]) rfl rfl (Nat.le_of_ble_eq_true rfl) rfl ?_
  unfold f_RM_isAt at h
  refine vr_iload_n d_RM_isAt_0 rfl rfl ?_
  refine vr_iconst 1 d_RM_isAt_1 (by decide) ?_
  refine vr_iadd d_RM_isAt_2 ?_
  refine vr_aload_n d_RM_isAt_3 rfl rfl ?_
  refine rm_getI H d_RM_isAt_4 F_RM_110 rfl ?_
  refine vr_icmp_ge (tgt := 36) d_RM_isAt_7 (by decide) (fun c7 => ?_) (fun c7 => ?_)
  · replace h := l_ifp c7 h
    refine vr_iconst 0 d_RM_isAt_36 (by decide) ?_
    cases h
    exact vr_iret d_RM_isAt_37 rfl rfl ⟨rfl, rfl⟩
  · replace h := l_ifn c7 h
    refine vr_aload_n d_RM_isAt_10 rfl rfl ?_
    refine rm_getR (o := 1) H d_RM_isAt_11 F_RM_9 rfl (by decide) ?_
    refine vr_iload_n d_RM_isAt_14 rfl rfl ?_
    have q1 := (l_chk h).1
    replace h := (l_chk h).2
    refine rm_ald (o := 1) H (by decide) (by decide) d_RM_isAt_15 (ib_in q1) ?_
    refine vr_iload_n d_RM_isAt_16 rfl rfl ?_
    refine vr_icmp_ne (tgt := 36) d_RM_isAt_17 (by decide) (fun c17 => ?_) (fun c17 => ?_)
    · replace h := l_ifn c17 h
      refine vr_iconst 0 d_RM_isAt_36 (by decide) ?_
      cases h
      exact vr_iret d_RM_isAt_37 rfl rfl ⟨rfl, rfl⟩
    · replace h := l_ifp c17 h
      refine vr_aload_n d_RM_isAt_20 rfl rfl ?_
      refine rm_getR (o := 1) H d_RM_isAt_21 F_RM_9 rfl (by decide) ?_
      refine vr_iload_n d_RM_isAt_24 rfl rfl ?_
      refine vr_iconst 1 d_RM_isAt_25 (by decide) ?_
      refine vr_iadd d_RM_isAt_26 ?_
      have q2 := (l_chk h).1
      replace h := (l_chk h).2
      refine rm_ald (o := 1) H (by decide) (by decide) d_RM_isAt_27 (ib_in q2) ?_
      refine vr_iload_n d_RM_isAt_28 rfl rfl ?_
      refine vr_icmp_ne (tgt := 36) d_RM_isAt_29 (by decide) (fun c29 => ?_) (fun c29 => ?_)
      · replace h := l_ifn c29 h
        refine vr_iconst 0 d_RM_isAt_36 (by decide) ?_
        cases h
        exact vr_iret d_RM_isAt_37 rfl rfl ⟨rfl, rfl⟩
      · replace h := l_ifp c29 h
        refine vr_iconst 1 d_RM_isAt_32 (by decide) ?_
        refine vr_goto (tgt := 37) d_RM_isAt_33 (by decide) ?_
        cases h
        exact vr_iret d_RM_isAt_37 rfl rfl ⟨rfl, rfl⟩

def f_RM_isWord (N : Nat) (x1 : Int32) (S : rm_S) : Option (Int32 × rm_S) := if (S.1 3) ≤ x1 then (some (0, S)) else (chk (ib x1 8000) <| calP (f_RM_isLetter N ((S.2 1 (Int32.toNatClampNeg x1)))) fun v2 => if v2 = 0 then (chk (ib x1 8000) <| calP (f_RM_isDigit N ((S.2 1 (Int32.toNatClampNeg x1)))) fun v4 => if v4 = 0 then (some (0, S)) else (some (1, S))) else (some (1, S)))
theorem c_RM_isWord {g : mv_G} {σ : mh_H} {m : Nat} {N : Nat} (H : rm_H g σ m) {x1 : Int32} {S : rm_S} {r : Int32 × rm_S} (h : f_RM_isWord N x1 S = some r) : mv_Met g M_RM_isWord 1 20 0 0 [.ref m, .int x1] (rz σ m S) (fun oc τ => τ = rz σ m r.2 ∧ oc = .returned (some (.int r.1))) := by
  refine mv_entry (L := [some (.ref m), some (.int x1)]) rfl rfl (Nat.le_of_ble_eq_true rfl) rfl ?_
  unfold f_RM_isWord at h
  refine vr_iload_n d_RM_isWord_0 rfl rfl ?_
  refine vr_aload_n d_RM_isWord_1 rfl rfl ?_
  refine rm_getI H d_RM_isWord_2 F_RM_110 rfl ?_
  refine vr_icmp_ge (tgt := 36) d_RM_isWord_5 (by decide) (fun c5 => ?_) (fun c5 => ?_)
  · replace h := l_ifp c5 h
    refine vr_iconst 0 d_RM_isWord_36 (by decide) ?_
    cases h
    exact vr_iret d_RM_isWord_37 rfl rfl ⟨rfl, rfl⟩
  · replace h := l_ifn c5 h
    refine vr_aload_n d_RM_isWord_8 rfl rfl ?_
    refine rm_getR (o := 1) H d_RM_isWord_9 F_RM_9 rfl (by decide) ?_
    refine vr_iload_n d_RM_isWord_12 rfl rfl ?_
    have q1 := (l_chk h).1
    replace h := (l_chk h).2
    refine rm_ald (o := 1) H (by decide) (by decide) d_RM_isWord_13 (ib_in q1) ?_
    obtain ⟨v2, ev2, h⟩ := l_calP h
    refine vr_callSP [.int (S.2 1 (Int32.toNatClampNeg x1))] d_RM_isWord_14 C_RM_113 (c_RM_isLetter ev2) rfl rfl (Nat.le_of_ble_eq_true rfl) (by decide) (Nat.le_of_ble_eq_true rfl) ?_
    refine vr_if_ne (tgt := 32) d_RM_isWord_17 (by decide) (fun c17 => ?_) (fun c17 => ?_)
    · replace h := l_ifn c17 h
      refine vr_iconst 1 d_RM_isWord_32 (by decide) ?_
      refine vr_goto (tgt := 37) d_RM_isWord_33 (by decide) ?_
      cases h
      exact vr_iret d_RM_isWord_37 rfl rfl ⟨rfl, rfl⟩
    · replace h := l_ifp c17 h
      refine vr_aload_n d_RM_isWord_20 rfl rfl ?_
      refine rm_getR (o := 1) H d_RM_isWord_21 F_RM_9 rfl (by decide) ?_
      refine vr_iload_n d_RM_isWord_24 rfl rfl ?_
      have q3 := (l_chk h).1
      replace h := (l_chk h).2
      refine rm_ald (o := 1) H (by decide) (by decide) d_RM_isWord_25 (ib_in q3) ?_
      obtain ⟨v4, ev4, h⟩ := l_calP h
      refine vr_callSP [.int (S.2 1 (Int32.toNatClampNeg x1))] d_RM_isWord_26 C_RM_117 (c_RM_isDigit ev4) rfl rfl (Nat.le_of_ble_eq_true rfl) (by decide) (Nat.le_of_ble_eq_true rfl) ?_
      refine vr_if_eq (tgt := 36) d_RM_isWord_29 (by decide) (fun c29 => ?_) (fun c29 => ?_)
      · replace h := l_ifp c29 h
        refine vr_iconst 0 d_RM_isWord_36 (by decide) ?_
        cases h
        exact vr_iret d_RM_isWord_37 rfl rfl ⟨rfl, rfl⟩
      · replace h := l_ifn c29 h
        refine vr_iconst 1 d_RM_isWord_32 (by decide) ?_
        refine vr_goto (tgt := 37) d_RM_isWord_33 (by decide) ?_
        cases h
        exact vr_iret d_RM_isWord_37 rfl rfl ⟨rfl, rfl⟩

def k_RM_behindBlanks_70 (N : Nat) (k4 : Int32 → Int32 → rm_S → Option (Int32 × rm_S)) : Nat → Int32 → Int32 → rm_S → Option (Int32 × rm_S)
  | 0, _, _, _ => none
  | n + 1, y2, y3, S => if (S.1 3) ≤ y2 then (k4 y2 y3 S) else (chk (ib y2 8000) <| if (S.2 1 (Int32.toNatClampNeg y2)) = 10 then (k4 y2 y3 S) else (k_RM_behindBlanks_70 N k4 n ((y2 + 1)) y3 S))
theorem q_RM_behindBlanks_70 {g : mv_G} {σ : mh_H} {m : Nat} {N : Nat} {k4 : Int32 → Int32 → rm_S → Option (Int32 × rm_S)} (H : rm_H g σ m) (hk4 : ∀ (y2 : Int32) (y3 : Int32) (S : rm_S) (r : Int32 × rm_S), k4 y2 y3 S = some r → mv_V g M_RM_behindBlanks 1 23 0 0 4 [some (.ref m), none, some (.int y2), some (.int y3), none] [] (rz σ m S) (fun oc τ => τ = rz σ m r.2 ∧ oc = .returned (some (.int r.1)))) : ∀ (n : Nat) (y2 : Int32) (y3 : Int32) (S : rm_S) (r : Int32 × rm_S), k_RM_behindBlanks_70 N k4 n y2 y3 S = some r → mv_V g M_RM_behindBlanks 1 23 0 0 70 [some (.ref m), none, some (.int y2), some (.int y3), none] [] (rz σ m S) (fun oc τ => τ = rz σ m r.2 ∧ oc = .returned (some (.int r.1))) := by
  intro n
  induction n with
  | zero =>
    intro y2 y3 S r h
    exact absurd h (by simp [k_RM_behindBlanks_70])
  | succ n ih =>
    intro y2 y3 S r h 
    unfold k_RM_behindBlanks_70 at h
    refine vr_iload_n d_RM_behindBlanks_70 rfl rfl ?_
    refine vr_aload_n d_RM_behindBlanks_71 rfl rfl ?_
    refine rm_getI H d_RM_behindBlanks_72 F_RM_110 rfl ?_
    refine vr_icmp_ge (tgt := 97) d_RM_behindBlanks_75 (by decide) (fun c75 => ?_) (fun c75 => ?_)
    · replace h := l_ifp c75 h
      refine vr_goto (tgt := 4) d_RM_behindBlanks_97 (by decide) ?_
      exact mv_drop (hk4 _ _ _ _ h) (And.intro rfl (And.intro rfl (And.intro rfl trivial)))
    · replace h := l_ifn c75 h
      refine vr_aload_n d_RM_behindBlanks_78 rfl rfl ?_
      refine rm_getR (o := 1) H d_RM_behindBlanks_79 F_RM_9 rfl (by decide) ?_
      refine vr_iload_n d_RM_behindBlanks_82 rfl rfl ?_
      have q4 := (l_chk h).1
      replace h := (l_chk h).2
      refine rm_ald (o := 1) H (by decide) (by decide) d_RM_behindBlanks_83 (ib_in q4) ?_
      refine vr_bipush 10 d_RM_behindBlanks_84 (by decide) ?_
      refine vr_icmp_eq (tgt := 97) d_RM_behindBlanks_86 (by decide) (fun c86 => ?_) (fun c86 => ?_)
      · replace h := l_ifp c86 h
        refine vr_goto (tgt := 4) d_RM_behindBlanks_97 (by decide) ?_
        exact mv_drop (hk4 _ _ _ _ h) (And.intro rfl (And.intro rfl (And.intro rfl trivial)))
      · replace h := l_ifn c86 h
        refine vr_iinc (L' := [some (.ref m), none, some (.int (y2 + 1)), some (.int y3), none]) (y2 + 1) d_RM_behindBlanks_89 (by decide) rfl rfl rfl ?_
        refine vr_goto (tgt := 70) d_RM_behindBlanks_92 (by decide) ?_
        exact mv_drop (ih _ _ _ _ h) (And.intro rfl (And.intro rfl (And.intro rfl trivial)))

def k_RM_behindBlanks_4 (N : Nat) : Nat → Int32 → Int32 → rm_S → Option (Int32 × rm_S)
  | 0, _, _, _ => none
  | n + 1, y2, y3, S => if y3 = 0 then (some (y2, S)) else (if (S.1 3) ≤ y2 then (some (y2, S)) else (chk (ib y2 8000) <| bnd ((S.2 1 (Int32.toNatClampNeg y2))) fun v2 => if v2 = 9 then (k_RM_behindBlanks_4 N n ((y2 + 1)) y3 S) else (if v2 = 10 then (k_RM_behindBlanks_4 N n ((y2 + 1)) y3 S) else (if v2 = 13 then (k_RM_behindBlanks_4 N n ((y2 + 1)) y3 S) else (if v2 = 32 then (k_RM_behindBlanks_4 N n ((y2 + 1)) y3 S) else (calI (f_RM_isAt N y2 47 47 S) fun v3 S3 => if v3 = 0 then (k_RM_behindBlanks_4 N n y2 0 S3) else (k_RM_behindBlanks_70 N (k_RM_behindBlanks_4 N n) N y2 y3 S3)))))))
theorem q_RM_behindBlanks_4 {g : mv_G} {σ : mh_H} {m : Nat} {N : Nat} (H : rm_H g σ m) : ∀ (n : Nat) (y2 : Int32) (y3 : Int32) (S : rm_S) (r : Int32 × rm_S), k_RM_behindBlanks_4 N n y2 y3 S = some r → mv_V g M_RM_behindBlanks 1 23 0 0 4 [some (.ref m), none, some (.int y2), some (.int y3), none] [] (rz σ m S) (fun oc τ => τ = rz σ m r.2 ∧ oc = .returned (some (.int r.1))) := by
  intro n
  induction n with
  | zero =>
    intro y2 y3 S r h
    exact absurd h (by simp [k_RM_behindBlanks_4])
  | succ n ih =>
    intro y2 y3 S r h 
    unfold k_RM_behindBlanks_4 at h
    refine vr_iload_n d_RM_behindBlanks_4 rfl rfl ?_
    refine vr_if_eq (tgt := 100) d_RM_behindBlanks_5 (by decide) (fun c5 => ?_) (fun c5 => ?_)
    · replace h := l_ifp c5 h
      refine vr_iload_n d_RM_behindBlanks_100 rfl rfl ?_
      cases h
      exact vr_iret d_RM_behindBlanks_101 rfl rfl ⟨rfl, rfl⟩
    · replace h := l_ifn c5 h
      refine vr_iload_n d_RM_behindBlanks_8 rfl rfl ?_
      refine vr_aload_n d_RM_behindBlanks_9 rfl rfl ?_
      refine rm_getI H d_RM_behindBlanks_10 F_RM_110 rfl ?_
      refine vr_icmp_ge (tgt := 100) d_RM_behindBlanks_13 (by decide) (fun c13 => ?_) (fun c13 => ?_)
      · replace h := l_ifp c13 h
        refine vr_iload_n d_RM_behindBlanks_100 rfl rfl ?_
        cases h
        exact vr_iret d_RM_behindBlanks_101 rfl rfl ⟨rfl, rfl⟩
      · replace h := l_ifn c13 h
        refine vr_aload_n d_RM_behindBlanks_16 rfl rfl ?_
        refine rm_getR (o := 1) H d_RM_behindBlanks_17 F_RM_9 rfl (by decide) ?_
        refine vr_iload_n d_RM_behindBlanks_20 rfl rfl ?_
        have q1 := (l_chk h).1
        replace h := (l_chk h).2
        refine rm_ald (o := 1) H (by decide) (by decide) d_RM_behindBlanks_21 (ib_in q1) ?_
        obtain ⟨v2, ev2, h⟩ := l_bnd h
        refine vr_nm ev2 ?_
        refine vr_istore (L' := [some (.ref m), none, some (.int y2), some (.int y3), some (.int v2)]) d_RM_behindBlanks_22 (by decide) rfl ?_
        refine vr_iload d_RM_behindBlanks_24 rfl ?_
        refine vr_bipush 9 d_RM_behindBlanks_26 (by decide) ?_
        refine vr_icmp_eq (tgt := 52) d_RM_behindBlanks_28 (by decide) (fun c28 => ?_) (fun c28 => ?_)
        · replace h := l_ifp c28 h
          refine vr_iinc (L' := [some (.ref m), none, some (.int (y2 + 1)), some (.int y3), some (.int v2)]) (y2 + 1) d_RM_behindBlanks_52 (by decide) rfl rfl rfl ?_
          refine vr_goto (tgt := 97) d_RM_behindBlanks_55 (by decide) ?_
          refine vr_goto (tgt := 4) d_RM_behindBlanks_97 (by decide) ?_
          exact mv_drop (ih _ _ _ _ h) (And.intro rfl (And.intro rfl (And.intro rfl trivial)))
        · replace h := l_ifn c28 h
          refine vr_iload d_RM_behindBlanks_31 rfl ?_
          refine vr_bipush 10 d_RM_behindBlanks_33 (by decide) ?_
          refine vr_icmp_eq (tgt := 52) d_RM_behindBlanks_35 (by decide) (fun c35 => ?_) (fun c35 => ?_)
          · replace h := l_ifp c35 h
            refine vr_iinc (L' := [some (.ref m), none, some (.int (y2 + 1)), some (.int y3), some (.int v2)]) (y2 + 1) d_RM_behindBlanks_52 (by decide) rfl rfl rfl ?_
            refine vr_goto (tgt := 97) d_RM_behindBlanks_55 (by decide) ?_
            refine vr_goto (tgt := 4) d_RM_behindBlanks_97 (by decide) ?_
            exact mv_drop (ih _ _ _ _ h) (And.intro rfl (And.intro rfl (And.intro rfl trivial)))
          · replace h := l_ifn c35 h
            refine vr_iload d_RM_behindBlanks_38 rfl ?_
            refine vr_bipush 13 d_RM_behindBlanks_40 (by decide) ?_
            refine vr_icmp_eq (tgt := 52) d_RM_behindBlanks_42 (by decide) (fun c42 => ?_) (fun c42 => ?_)
            · replace h := l_ifp c42 h
              refine vr_iinc (L' := [some (.ref m), none, some (.int (y2 + 1)), some (.int y3), some (.int v2)]) (y2 + 1) d_RM_behindBlanks_52 (by decide) rfl rfl rfl ?_
              refine vr_goto (tgt := 97) d_RM_behindBlanks_55 (by decide) ?_
              refine vr_goto (tgt := 4) d_RM_behindBlanks_97 (by decide) ?_
              exact mv_drop (ih _ _ _ _ h) (And.intro rfl (And.intro rfl (And.intro rfl trivial)))
            · replace h := l_ifn c42 h
              refine vr_iload d_RM_behindBlanks_45 rfl ?_
              refine vr_bipush 32 d_RM_behindBlanks_47 (by decide) ?_
              refine vr_icmp_ne (tgt := 58) d_RM_behindBlanks_49 (by decide) (fun c49 => ?_) (fun c49 => ?_)
              · replace h := l_ifn c49 h
                refine vr_aload_n d_RM_behindBlanks_58 rfl rfl ?_
                refine vr_iload_n d_RM_behindBlanks_59 rfl rfl ?_
                refine vr_bipush 47 d_RM_behindBlanks_60 (by decide) ?_
                refine vr_bipush 47 d_RM_behindBlanks_62 (by decide) ?_
                obtain ⟨v3, S3, ev3, h⟩ := l_calI h
                refine rm_callI [.int y2, .int 47, .int 47] H d_RM_behindBlanks_64 C_RM_120 (c_RM_isAt H ev3) rfl rfl rfl (Nat.le_of_ble_eq_true rfl) (by decide) (Nat.le_of_ble_eq_true rfl) ?_
                refine vr_if_eq (tgt := 95) d_RM_behindBlanks_67 (by decide) (fun c67 => ?_) (fun c67 => ?_)
                · replace h := l_ifp c67 h
                  refine vr_iconst 0 d_RM_behindBlanks_95 (by decide) ?_
                  refine vr_istore_n (L' := [some (.ref m), none, some (.int y2), some (.int 0), some (.int v2)]) d_RM_behindBlanks_96 rfl (by decide) rfl ?_
                  refine vr_goto (tgt := 4) d_RM_behindBlanks_97 (by decide) ?_
                  exact mv_drop (ih _ _ _ _ h) (And.intro rfl (And.intro rfl (And.intro rfl trivial)))
                · replace h := l_ifn c67 h
                  exact mv_drop (q_RM_behindBlanks_70 H ih N _ _ _ _ h) (And.intro rfl (And.intro rfl (And.intro rfl trivial)))
              · replace h := l_ifp c49 h
                refine vr_iinc (L' := [some (.ref m), none, some (.int (y2 + 1)), some (.int y3), some (.int v2)]) (y2 + 1) d_RM_behindBlanks_52 (by decide) rfl rfl rfl ?_
                refine vr_goto (tgt := 97) d_RM_behindBlanks_55 (by decide) ?_
                refine vr_goto (tgt := 4) d_RM_behindBlanks_97 (by decide) ?_
                exact mv_drop (ih _ _ _ _ h) (And.intro rfl (And.intro rfl (And.intro rfl trivial)))

def f_RM_behindBlanks (N : Nat) (x1 : Int32) (S : rm_S) : Option (Int32 × rm_S) := k_RM_behindBlanks_4 N N x1 1 S
theorem c_RM_behindBlanks {g : mv_G} {σ : mh_H} {m : Nat} {N : Nat} (H : rm_H g σ m) {x1 : Int32} {S : rm_S} {r : Int32 × rm_S} (h : f_RM_behindBlanks N x1 S = some r) : mv_Met g M_RM_behindBlanks 1 23 0 0 [.ref m, .int x1] (rz σ m S) (fun oc τ => τ = rz σ m r.2 ∧ oc = .returned (some (.int r.1))) := by
  refine mv_entry (L := [some (.ref m), some (.int x1), none, none, none]) rfl rfl (Nat.le_of_ble_eq_true rfl) rfl ?_
  unfold f_RM_behindBlanks at h
  refine vr_iload_n d_RM_behindBlanks_0 rfl rfl ?_
  refine vr_istore_n (L' := [some (.ref m), some (.int x1), some (.int x1), none, none]) d_RM_behindBlanks_1 rfl (by decide) rfl ?_
  refine vr_iconst 1 d_RM_behindBlanks_2 (by decide) ?_
  refine vr_istore_n (L' := [some (.ref m), some (.int x1), some (.int x1), some (.int 1), none]) d_RM_behindBlanks_3 rfl (by decide) rfl ?_
  exact mv_drop (q_RM_behindBlanks_4 H N _ _ _ _ h) (And.intro rfl (And.intro rfl (And.intro rfl trivial)))

def k_RM_isNumber_70 (N : Nat) (y1 : Int32) (y2 : Int32) (S : rm_S) : Option (Int32 × rm_S) := calI (f_RM_isWord N ((y1 + y2)) S) fun v4 S4 => if v4 = 0 then (some (1, S4)) else (some (0, S4))
theorem q_RM_isNumber_70 {g : mv_G} {σ : mh_H} {m : Nat} {N : Nat} (H : rm_H g σ m) (y1 : Int32) (y2 : Int32) (S : rm_S) (r : Int32 × rm_S) (h : k_RM_isNumber_70 N y1 y2 S = some r) : mv_V g M_RM_isNumber 2 41 0 0 70 [some (.ref m), some (.int y1), some (.int y2), none, none, none] [] (rz σ m S) (fun oc τ => τ = rz σ m r.2 ∧ oc = .returned (some (.int r.1))) := by
  unfold k_RM_isNumber_70 at h
  refine vr_aload_n d_RM_isNumber_70 rfl rfl ?_
  refine vr_iload_n d_RM_isNumber_71 rfl rfl ?_
  refine vr_iload_n d_RM_isNumber_72 rfl rfl ?_
  refine vr_iadd d_RM_isNumber_73 ?_
  obtain ⟨v4, S4, ev4, h⟩ := l_calI h
  refine rm_callI [.int (y1 + y2)] H d_RM_isNumber_74 C_RM_137 (c_RM_isWord H ev4) rfl rfl rfl (Nat.le_of_ble_eq_true rfl) (by decide) (Nat.le_of_ble_eq_true rfl) ?_
  refine vr_if_ne (tgt := 84) d_RM_isNumber_77 (by decide) (fun c77 => ?_) (fun c77 => ?_)
  · replace h := l_ifn c77 h
    refine vr_iconst 0 d_RM_isNumber_84 (by decide) ?_
    cases h
    exact vr_iret d_RM_isNumber_85 rfl rfl ⟨rfl, rfl⟩
  · replace h := l_ifp c77 h
    refine vr_iconst 1 d_RM_isNumber_80 (by decide) ?_
    refine vr_goto (tgt := 85) d_RM_isNumber_81 (by decide) ?_
    cases h
    exact vr_iret d_RM_isNumber_85 rfl rfl ⟨rfl, rfl⟩

def k_RM_isNumber_46 (N : Nat) (y1 : Int32) (y2 : Int32) (y3 : Int64) (S : rm_S) : Option (Int32 × rm_S) := if 0 < (lg_cmp y3 2147483647) then (some (0, S)) else (if y2 = 1 then (k_RM_isNumber_70 N y1 y2 S) else (chk (ib y1 8000) <| if (S.2 1 (Int32.toNatClampNeg y1)) = 48 then (some (0, S)) else (k_RM_isNumber_70 N y1 y2 S)))
theorem q_RM_isNumber_46 {g : mv_G} {σ : mh_H} {m : Nat} {N : Nat} (H : rm_H g σ m) (y1 : Int32) (y2 : Int32) (y3 : Int64) (S : rm_S) (r : Int32 × rm_S) (h : k_RM_isNumber_46 N y1 y2 y3 S = some r) : mv_V g M_RM_isNumber 2 41 0 0 46 [some (.ref m), some (.int y1), some (.int y2), some (.long y3), none, none] [] (rz σ m S) (fun oc τ => τ = rz σ m r.2 ∧ oc = .returned (some (.int r.1))) := by
  unfold k_RM_isNumber_46 at h
  refine vr_lload_n d_RM_isNumber_46 rfl rfl ?_
  refine vr_ldc2 d_RM_isNumber_47 w_1052 ?_
  refine vr_lcmp d_RM_isNumber_50 ?_
  refine vr_if_gt (tgt := 84) d_RM_isNumber_51 (by decide) (fun c51 => ?_) (fun c51 => ?_)
  · replace h := l_ifp c51 h
    refine vr_iconst 0 d_RM_isNumber_84 (by decide) ?_
    cases h
    exact vr_iret d_RM_isNumber_85 rfl rfl ⟨rfl, rfl⟩
  · replace h := l_ifn c51 h
    refine vr_iload_n d_RM_isNumber_54 rfl rfl ?_
    refine vr_iconst 1 d_RM_isNumber_55 (by decide) ?_
    refine vr_icmp_eq (tgt := 70) d_RM_isNumber_56 (by decide) (fun c56 => ?_) (fun c56 => ?_)
    · replace h := l_ifp c56 h
      exact mv_drop (q_RM_isNumber_70 H _ _ _ _ h) (And.intro rfl (And.intro rfl (And.intro rfl trivial)))
    · replace h := l_ifn c56 h
      refine vr_aload_n d_RM_isNumber_59 rfl rfl ?_
      refine rm_getR (o := 1) H d_RM_isNumber_60 F_RM_9 rfl (by decide) ?_
      refine vr_iload_n d_RM_isNumber_63 rfl rfl ?_
      have q3 := (l_chk h).1
      replace h := (l_chk h).2
      refine rm_ald (o := 1) H (by decide) (by decide) d_RM_isNumber_64 (ib_in q3) ?_
      refine vr_bipush 48 d_RM_isNumber_65 (by decide) ?_
      refine vr_icmp_eq (tgt := 84) d_RM_isNumber_67 (by decide) (fun c67 => ?_) (fun c67 => ?_)
      · replace h := l_ifp c67 h
        refine vr_iconst 0 d_RM_isNumber_84 (by decide) ?_
        cases h
        exact vr_iret d_RM_isNumber_85 rfl rfl ⟨rfl, rfl⟩
      · replace h := l_ifn c67 h
        exact mv_drop (q_RM_isNumber_70 H _ _ _ _ h) (And.intro rfl (And.intro rfl (And.intro rfl trivial)))

def k_RM_isNumber_5 (N : Nat) : Nat → Int32 → Int32 → Int64 → Int32 → rm_S → Option (Int32 × rm_S)
  | 0, _, _, _, _, _ => none
  | n + 1, y1, y2, y3, y5, S => if y2 ≤ y5 then (k_RM_isNumber_46 N y1 y2 y3 S) else (if 0 < (lg_cmp y3 2147483647) then (k_RM_isNumber_46 N y1 y2 y3 S) else (chk (ib (y1 + y5) 8000) <| bnd ((((10 * y3) + (Int32.toInt64 (S.2 1 (Int32.toNatClampNeg (y1 + y5))))) - 48)) fun v2 => k_RM_isNumber_5 N n y1 y2 v2 ((y5 + 1)) S))
theorem q_RM_isNumber_5 {g : mv_G} {σ : mh_H} {m : Nat} {N : Nat} (H : rm_H g σ m) : ∀ (n : Nat) (y1 : Int32) (y2 : Int32) (y3 : Int64) (y5 : Int32) (S : rm_S) (r : Int32 × rm_S), k_RM_isNumber_5 N n y1 y2 y3 y5 S = some r → mv_V g M_RM_isNumber 2 41 0 0 5 [some (.ref m), some (.int y1), some (.int y2), some (.long y3), none, some (.int y5)] [] (rz σ m S) (fun oc τ => τ = rz σ m r.2 ∧ oc = .returned (some (.int r.1))) := by
  intro n
  induction n with
  | zero =>
    intro y1 y2 y3 y5 S r h
    exact absurd h (by simp [k_RM_isNumber_5])
  | succ n ih =>
    intro y1 y2 y3 y5 S r h 
    unfold k_RM_isNumber_5 at h
    refine vr_iload d_RM_isNumber_5 rfl ?_
    refine vr_iload_n d_RM_isNumber_7 rfl rfl ?_
    refine vr_icmp_ge (tgt := 46) d_RM_isNumber_8 (by decide) (fun c8 => ?_) (fun c8 => ?_)
    · replace h := l_ifp c8 h
      exact mv_drop (q_RM_isNumber_46 H _ _ _ _ _ h) (And.intro rfl (And.intro rfl (And.intro rfl (And.intro rfl trivial))))
    · replace h := l_ifn c8 h
      refine vr_lload_n d_RM_isNumber_11 rfl rfl ?_
      refine vr_ldc2 d_RM_isNumber_12 w_1052 ?_
      refine vr_lcmp d_RM_isNumber_15 ?_
      refine vr_if_gt (tgt := 46) d_RM_isNumber_16 (by decide) (fun c16 => ?_) (fun c16 => ?_)
      · replace h := l_ifp c16 h
        exact mv_drop (q_RM_isNumber_46 H _ _ _ _ _ h) (And.intro rfl (And.intro rfl (And.intro rfl (And.intro rfl trivial))))
      · replace h := l_ifn c16 h
        refine vr_ldc2 d_RM_isNumber_19 w_1053 ?_
        refine vr_lload_n d_RM_isNumber_22 rfl rfl ?_
        refine vr_lmul d_RM_isNumber_23 ?_
        refine vr_aload_n d_RM_isNumber_24 rfl rfl ?_
        refine rm_getR (o := 1) H d_RM_isNumber_25 F_RM_9 rfl (by decide) ?_
        refine vr_iload_n d_RM_isNumber_28 rfl rfl ?_
        refine vr_iload d_RM_isNumber_29 rfl ?_
        refine vr_iadd d_RM_isNumber_31 ?_
        have q1 := (l_chk h).1
        replace h := (l_chk h).2
        refine rm_ald (o := 1) H (by decide) (by decide) d_RM_isNumber_32 (ib_in q1) ?_
        refine vr_i2l d_RM_isNumber_33 rfl ?_
        refine vr_ladd d_RM_isNumber_34 ?_
        refine vr_ldc2 d_RM_isNumber_35 w_1054 ?_
        refine vr_lsub d_RM_isNumber_38 ?_
        obtain ⟨v2, ev2, h⟩ := l_bnd h
        refine vr_nmJ ev2 ?_
        refine vr_lstore_n (L' := [some (.ref m), some (.int y1), some (.int y2), some (.long v2), none, some (.int y5)]) d_RM_isNumber_39 rfl (by decide) rfl ?_
        refine vr_iinc (L' := [some (.ref m), some (.int y1), some (.int y2), some (.long v2), none, some (.int (y5 + 1))]) (y5 + 1) d_RM_isNumber_40 (by decide) rfl rfl rfl ?_
        refine vr_goto (tgt := 5) d_RM_isNumber_43 (by decide) ?_
        exact mv_drop (ih _ _ _ _ _ _ h) (And.intro rfl (And.intro rfl (And.intro rfl (And.intro rfl (And.intro rfl trivial)))))

def f_RM_isNumber (N : Nat) (x1 : Int32) (x2 : Int32) (S : rm_S) : Option (Int32 × rm_S) := k_RM_isNumber_5 N N x1 x2 0 0 S
theorem c_RM_isNumber {g : mv_G} {σ : mh_H} {m : Nat} {N : Nat} (H : rm_H g σ m) {x1 : Int32} {x2 : Int32} {S : rm_S} {r : Int32 × rm_S} (h : f_RM_isNumber N x1 x2 S = some r) : mv_Met g M_RM_isNumber 2 41 0 0 [.ref m, .int x1, .int x2] (rz σ m S) (fun oc τ => τ = rz σ m r.2 ∧ oc = .returned (some (.int r.1))) := by
  refine mv_entry (L := [some (.ref m), some (.int x1), some (.int x2), none, none, none]) rfl rfl (Nat.le_of_ble_eq_true rfl) rfl ?_
  unfold f_RM_isNumber at h
  refine vr_lconst 0 d_RM_isNumber_0 (by decide) ?_
  refine vr_lstore_n (L' := [some (.ref m), some (.int x1), some (.int x2), some (.long 0), none, none]) d_RM_isNumber_1 rfl (by decide) rfl ?_
  refine vr_iconst 0 d_RM_isNumber_2 (by decide) ?_
  refine vr_istore (L' := [some (.ref m), some (.int x1), some (.int x2), some (.long 0), none, some (.int 0)]) d_RM_isNumber_3 (by decide) rfl ?_
  exact mv_drop (q_RM_isNumber_5 H N _ _ _ _ _ _ h) (And.intro rfl (And.intro rfl (And.intro rfl (And.intro rfl (And.intro rfl trivial)))))

def k_RM_wordOf_81 (N : Nat) (k2 : Int32 → Int32 → Int32 → rm_S → Option (Int32 × rm_S)) (y1 : Int32) (y2 : Int32) (y3 : Int32) (y4 : Int32) (S : rm_S) : Option (Int32 × rm_S) := if y4 = 0 then (k2 y1 y2 ((y3 + 1)) S) else (some ((300 + y3), S))
theorem q_RM_wordOf_81 {g : mv_G} {σ : mh_H} {m : Nat} {N : Nat} {k2 : Int32 → Int32 → Int32 → rm_S → Option (Int32 × rm_S)} (H : rm_H g σ m) (hk2 : ∀ (y1 : Int32) (y2 : Int32) (y3 : Int32) (S : rm_S) (r : Int32 × rm_S), k2 y1 y2 y3 S = some r → mv_V g M_RM_wordOf 7 141 0 0 2 [some (.ref m), some (.int y1), some (.int y2), some (.int y3), none, none] [] (rz σ m S) (fun oc τ => τ = rz σ m r.2 ∧ oc = .returned (some (.int r.1)))) (y1 : Int32) (y2 : Int32) (y3 : Int32) (y4 : Int32) (S : rm_S) (r : Int32 × rm_S) (h : k_RM_wordOf_81 N k2 y1 y2 y3 y4 S = some r) : mv_V g M_RM_wordOf 7 141 0 0 81 [some (.ref m), some (.int y1), some (.int y2), some (.int y3), some (.int y4), none] [] (rz σ m S) (fun oc τ => τ = rz σ m r.2 ∧ oc = .returned (some (.int r.1))) := by
  unfold k_RM_wordOf_81 at h
  refine vr_iload d_RM_wordOf_81 rfl ?_
  refine vr_if_eq (tgt := 92) d_RM_wordOf_83 (by decide) (fun c83 => ?_) (fun c83 => ?_)
  · replace h := l_ifp c83 h
    refine vr_iinc (L' := [some (.ref m), some (.int y1), some (.int y2), some (.int (y3 + 1)), some (.int y4), none]) (y3 + 1) d_RM_wordOf_92 (by decide) rfl rfl rfl ?_
    refine vr_goto (tgt := 2) d_RM_wordOf_95 (by decide) ?_
    exact mv_drop (hk2 _ _ _ _ _ h) (And.intro rfl (And.intro rfl (And.intro rfl (And.intro rfl trivial))))
  · replace h := l_ifn c83 h
    refine vr_sipush 300 d_RM_wordOf_86 (by decide) ?_
    refine vr_iload_n d_RM_wordOf_89 rfl rfl ?_
    refine vr_iadd d_RM_wordOf_90 ?_
    cases h
    exact vr_iret d_RM_wordOf_91 rfl rfl ⟨rfl, rfl⟩

def k_RM_wordOf_34 (N : Nat) (k2 : Int32 → Int32 → Int32 → rm_S → Option (Int32 × rm_S)) : Nat → Int32 → Int32 → Int32 → Int32 → Int32 → rm_S → Option (Int32 × rm_S)
  | 0, _, _, _, _, _, _ => none
  | n + 1, y1, y2, y3, y4, y5, S => if y2 ≤ y5 then (k_RM_wordOf_81 N k2 y1 y2 y3 y4 S) else (if y4 = 0 then (k_RM_wordOf_81 N k2 y1 y2 y3 y4 S) else (chk (ib (y1 + y5) 8000) <| chk (ib y3 8) <| chk ((46 + Int32.toNatClampNeg y3) < 67) <| chk (ib y5 (s_b ((46 + Int32.toNatClampNeg y3))).length) <| if (S.2 1 (Int32.toNatClampNeg (y1 + y5))) = (s_at ((46 + Int32.toNatClampNeg y3)) y5) then (k_RM_wordOf_34 N k2 n y1 y2 y3 1 ((y5 + 1)) S) else (k_RM_wordOf_34 N k2 n y1 y2 y3 0 ((y5 + 1)) S)))
theorem q_RM_wordOf_34 {g : mv_G} {σ : mh_H} {m : Nat} {N : Nat} {k2 : Int32 → Int32 → Int32 → rm_S → Option (Int32 × rm_S)} (H : rm_H g σ m) (hk2 : ∀ (y1 : Int32) (y2 : Int32) (y3 : Int32) (S : rm_S) (r : Int32 × rm_S), k2 y1 y2 y3 S = some r → mv_V g M_RM_wordOf 7 141 0 0 2 [some (.ref m), some (.int y1), some (.int y2), some (.int y3), none, none] [] (rz σ m S) (fun oc τ => τ = rz σ m r.2 ∧ oc = .returned (some (.int r.1)))) : ∀ (n : Nat) (y1 : Int32) (y2 : Int32) (y3 : Int32) (y4 : Int32) (y5 : Int32) (S : rm_S) (r : Int32 × rm_S), k_RM_wordOf_34 N k2 n y1 y2 y3 y4 y5 S = some r → mv_V g M_RM_wordOf 7 141 0 0 34 [some (.ref m), some (.int y1), some (.int y2), some (.int y3), some (.int y4), some (.int y5)] [] (rz σ m S) (fun oc τ => τ = rz σ m r.2 ∧ oc = .returned (some (.int r.1))) := by
  intro n
  induction n with
  | zero =>
    intro y1 y2 y3 y4 y5 S r h
    exact absurd h (by simp [k_RM_wordOf_34])
  | succ n ih =>
    intro y1 y2 y3 y4 y5 S r h 
    unfold k_RM_wordOf_34 at h
    refine vr_iload d_RM_wordOf_34 rfl ?_
    refine vr_iload_n d_RM_wordOf_36 rfl rfl ?_
    refine vr_icmp_ge (tgt := 81) d_RM_wordOf_37 (by decide) (fun c37 => ?_) (fun c37 => ?_)
    · replace h := l_ifp c37 h
      exact mv_drop (q_RM_wordOf_81 H hk2 _ _ _ _ _ _ h) (And.intro rfl (And.intro rfl (And.intro rfl (And.intro rfl (And.intro rfl trivial)))))
    · replace h := l_ifn c37 h
      refine vr_iload d_RM_wordOf_40 rfl ?_
      refine vr_if_eq (tgt := 81) d_RM_wordOf_42 (by decide) (fun c42 => ?_) (fun c42 => ?_)
      · replace h := l_ifp c42 h
        exact mv_drop (q_RM_wordOf_81 H hk2 _ _ _ _ _ _ h) (And.intro rfl (And.intro rfl (And.intro rfl (And.intro rfl (And.intro rfl trivial)))))
      · replace h := l_ifn c42 h
        refine vr_aload_n d_RM_wordOf_45 rfl rfl ?_
        refine rm_getR (o := 1) H d_RM_wordOf_46 F_RM_9 rfl (by decide) ?_
        refine vr_iload_n d_RM_wordOf_49 rfl rfl ?_
        refine vr_iload d_RM_wordOf_50 rfl ?_
        refine vr_iadd d_RM_wordOf_52 ?_
        have q3 := (l_chk h).1
        replace h := (l_chk h).2
        refine rm_ald (o := 1) H (by decide) (by decide) d_RM_wordOf_53 (ib_in q3) ?_
        refine vr_aload_n d_RM_wordOf_54 rfl rfl ?_
        refine rm_getW H d_RM_wordOf_55 F_RM_95 rfl ?_
        refine vr_iload_n d_RM_wordOf_58 rfl rfl ?_
        have q4 := (l_chk h).1
        replace h := (l_chk h).2
        refine rm_wald H d_RM_wordOf_59 q4 ?_
        refine vr_iload d_RM_wordOf_60 rfl ?_
        have q5 := (l_chk h).1
        replace h := (l_chk h).2
        have q6 := (l_chk h).1
        replace h := (l_chk h).2
        refine vr_strAt d_RM_wordOf_62 C_RM_127 q5 q6 (by decide) (Nat.le_of_ble_eq_true rfl) (Nat.le_of_ble_eq_true rfl) ?_
        refine vr_icmp_ne (tgt := 72) d_RM_wordOf_65 (by decide) (fun c65 => ?_) (fun c65 => ?_)
        · replace h := l_ifn c65 h
          refine vr_iconst 0 d_RM_wordOf_72 (by decide) ?_
          refine vr_istore (L' := [some (.ref m), some (.int y1), some (.int y2), some (.int y3), some (.int 0), some (.int y5)]) d_RM_wordOf_73 (by decide) rfl ?_
          refine vr_iinc (L' := [some (.ref m), some (.int y1), some (.int y2), some (.int y3), some (.int 0), some (.int (y5 + 1))]) (y5 + 1) d_RM_wordOf_75 (by decide) rfl rfl rfl ?_
          refine vr_goto (tgt := 34) d_RM_wordOf_78 (by decide) ?_
          exact mv_drop (ih _ _ _ _ _ _ _ h) (And.intro rfl (And.intro rfl (And.intro rfl (And.intro rfl (And.intro rfl (And.intro rfl trivial))))))
        · replace h := l_ifp c65 h
          refine vr_iconst 1 d_RM_wordOf_68 (by decide) ?_
          refine vr_goto (tgt := 73) d_RM_wordOf_69 (by decide) ?_
          refine vr_istore (L' := [some (.ref m), some (.int y1), some (.int y2), some (.int y3), some (.int 1), some (.int y5)]) d_RM_wordOf_73 (by decide) rfl ?_
          refine vr_iinc (L' := [some (.ref m), some (.int y1), some (.int y2), some (.int y3), some (.int 1), some (.int (y5 + 1))]) (y5 + 1) d_RM_wordOf_75 (by decide) rfl rfl rfl ?_
          refine vr_goto (tgt := 34) d_RM_wordOf_78 (by decide) ?_
          exact mv_drop (ih _ _ _ _ _ _ _ h) (And.intro rfl (And.intro rfl (And.intro rfl (And.intro rfl (And.intro rfl (And.intro rfl trivial))))))

def k_RM_wordOf_2 (N : Nat) : Nat → Int32 → Int32 → Int32 → rm_S → Option (Int32 × rm_S)
  | 0, _, _, _, _ => none
  | n + 1, y1, y2, y3, S => if 8 ≤ y3 then (if y2 ≤ 30 then (some (2, S)) else (some (1, S))) else (chk (ib y3 8) <| chk ((46 + Int32.toNatClampNeg y3) < 67) <| if y2 = (s_len ((46 + Int32.toNatClampNeg y3))) then (k_RM_wordOf_34 N (k_RM_wordOf_2 N n) N y1 y2 y3 1 0 S) else (k_RM_wordOf_34 N (k_RM_wordOf_2 N n) N y1 y2 y3 0 0 S))
theorem q_RM_wordOf_2 {g : mv_G} {σ : mh_H} {m : Nat} {N : Nat} (H : rm_H g σ m) : ∀ (n : Nat) (y1 : Int32) (y2 : Int32) (y3 : Int32) (S : rm_S) (r : Int32 × rm_S), k_RM_wordOf_2 N n y1 y2 y3 S = some r → mv_V g M_RM_wordOf 7 141 0 0 2 [some (.ref m), some (.int y1), some (.int y2), some (.int y3), none, none] [] (rz σ m S) (fun oc τ => τ = rz σ m r.2 ∧ oc = .returned (some (.int r.1))) := by
  intro n
  induction n with
  | zero =>
    intro y1 y2 y3 S r h
    exact absurd h (by simp [k_RM_wordOf_2])
  | succ n ih =>
    intro y1 y2 y3 S r h 
    unfold k_RM_wordOf_2 at h
    refine vr_iload_n d_RM_wordOf_2 rfl rfl ?_
    refine vr_aload_n d_RM_wordOf_3 rfl rfl ?_
    refine rm_getW H d_RM_wordOf_4 F_RM_95 rfl ?_
    refine rm_wlen H d_RM_wordOf_7 ?_
    refine vr_icmp_ge (tgt := 98) d_RM_wordOf_8 (by decide) (fun c8 => ?_) (fun c8 => ?_)
    · replace h := l_ifp c8 h
      refine vr_iload_n d_RM_wordOf_98 rfl rfl ?_
      refine vr_bipush 30 d_RM_wordOf_99 (by decide) ?_
      refine vr_icmp_le (tgt := 108) d_RM_wordOf_101 (by decide) (fun c101 => ?_) (fun c101 => ?_)
      · replace h := l_ifp c101 h
        refine vr_iconst 2 d_RM_wordOf_108 (by decide) ?_
        cases h
        exact vr_iret d_RM_wordOf_109 rfl rfl ⟨rfl, rfl⟩
      · replace h := l_ifn c101 h
        refine vr_iconst 1 d_RM_wordOf_104 (by decide) ?_
        refine vr_goto (tgt := 109) d_RM_wordOf_105 (by decide) ?_
        cases h
        exact vr_iret d_RM_wordOf_109 rfl rfl ⟨rfl, rfl⟩
    · replace h := l_ifn c8 h
      refine vr_iload_n d_RM_wordOf_11 rfl rfl ?_
      refine vr_aload_n d_RM_wordOf_12 rfl rfl ?_
      refine rm_getW H d_RM_wordOf_13 F_RM_95 rfl ?_
      refine vr_iload_n d_RM_wordOf_16 rfl rfl ?_
      have q1 := (l_chk h).1
      replace h := (l_chk h).2
      refine rm_wald H d_RM_wordOf_17 q1 ?_
      have q2 := (l_chk h).1
      replace h := (l_chk h).2
      refine vr_strLen d_RM_wordOf_18 C_RM_124 q2 (by decide) (Nat.le_of_ble_eq_true rfl) (Nat.le_of_ble_eq_true rfl) ?_
      refine vr_icmp_ne (tgt := 28) d_RM_wordOf_21 (by decide) (fun c21 => ?_) (fun c21 => ?_)
      · replace h := l_ifn c21 h
        refine vr_iconst 0 d_RM_wordOf_28 (by decide) ?_
        refine vr_istore (L' := [some (.ref m), some (.int y1), some (.int y2), some (.int y3), some (.int 0), none]) d_RM_wordOf_29 (by decide) rfl ?_
        refine vr_iconst 0 d_RM_wordOf_31 (by decide) ?_
        refine vr_istore (L' := [some (.ref m), some (.int y1), some (.int y2), some (.int y3), some (.int 0), some (.int 0)]) d_RM_wordOf_32 (by decide) rfl ?_
        exact mv_drop (q_RM_wordOf_34 H ih N _ _ _ _ _ _ _ h) (And.intro rfl (And.intro rfl (And.intro rfl (And.intro rfl (And.intro rfl (And.intro rfl trivial))))))
      · replace h := l_ifp c21 h
        refine vr_iconst 1 d_RM_wordOf_24 (by decide) ?_
        refine vr_goto (tgt := 29) d_RM_wordOf_25 (by decide) ?_
        refine vr_istore (L' := [some (.ref m), some (.int y1), some (.int y2), some (.int y3), some (.int 1), none]) d_RM_wordOf_29 (by decide) rfl ?_
        refine vr_iconst 0 d_RM_wordOf_31 (by decide) ?_
        refine vr_istore (L' := [some (.ref m), some (.int y1), some (.int y2), some (.int y3), some (.int 1), some (.int 0)]) d_RM_wordOf_32 (by decide) rfl ?_
        exact mv_drop (q_RM_wordOf_34 H ih N _ _ _ _ _ _ _ h) (And.intro rfl (And.intro rfl (And.intro rfl (And.intro rfl (And.intro rfl (And.intro rfl trivial))))))

def f_RM_wordOf (N : Nat) (x1 : Int32) (x2 : Int32) (S : rm_S) : Option (Int32 × rm_S) := k_RM_wordOf_2 N N x1 x2 0 S
theorem c_RM_wordOf {g : mv_G} {σ : mh_H} {m : Nat} {N : Nat} (H : rm_H g σ m) {x1 : Int32} {x2 : Int32} {S : rm_S} {r : Int32 × rm_S} (h : f_RM_wordOf N x1 x2 S = some r) : mv_Met g M_RM_wordOf 7 141 0 0 [.ref m, .int x1, .int x2] (rz σ m S) (fun oc τ => τ = rz σ m r.2 ∧ oc = .returned (some (.int r.1))) := by
  refine mv_entry (L := [some (.ref m), some (.int x1), some (.int x2), none, none, none]) rfl rfl (Nat.le_of_ble_eq_true rfl) rfl ?_
  unfold f_RM_wordOf at h
  refine vr_iconst 0 d_RM_wordOf_0 (by decide) ?_
  refine vr_istore_n (L' := [some (.ref m), some (.int x1), some (.int x2), some (.int 0), none, none]) d_RM_wordOf_1 rfl (by decide) rfl ?_
  exact mv_drop (q_RM_wordOf_2 H N _ _ _ _ _ h) (And.intro rfl (And.intro rfl (And.intro rfl (And.intro rfl trivial))))

def k_RM_scan_477 (N : Nat) (k13 : Int32 → Int32 → rm_S → Option (rm_S)) (y1 : Int32) (y3 : Int32) (z0 : Int32) (S : rm_S) : Option (rm_S) := calI (f_RM_behindBlanks N ((y1 + y3)) S) fun v22 S22 => k13 v22 z0 S22
theorem q_RM_scan_477 {g : mv_G} {σ : mh_H} {m : Nat} {N : Nat} {k13 : Int32 → Int32 → rm_S → Option (rm_S)} (H : rm_H g σ m) (hk13 : ∀ (y1 : Int32) (y2 : Int32) (S : rm_S) (r : rm_S), k13 y1 y2 S = some r → mv_V g M_RM_scan 8 166 0 0 13 [some (.ref m), some (.int y1), some (.int y2), none, none, none] [] (rz σ m S) (fun oc τ => τ = rz σ m r ∧ oc = .returned none)) (y1 : Int32) (y3 : Int32) (z0 : Int32) (S : rm_S) (r : rm_S) (h : k_RM_scan_477 N k13 y1 y3 z0 S = some r) : mv_V g M_RM_scan 8 166 0 0 477 [some (.ref m), some (.int y1), none, some (.int y3), none, none] [.int z0] (rz σ m S) (fun oc τ => τ = rz σ m r ∧ oc = .returned none) := by
  unfold k_RM_scan_477 at h
  refine vr_istore_n (L' := [some (.ref m), some (.int y1), some (.int z0), some (.int y3), none, none]) d_RM_scan_477 rfl (by decide) rfl ?_
  refine vr_aload_n d_RM_scan_478 rfl rfl ?_
  refine vr_iload_n d_RM_scan_479 rfl rfl ?_
  refine vr_iload_n d_RM_scan_480 rfl rfl ?_
  refine vr_iadd d_RM_scan_481 ?_
  obtain ⟨v22, S22, ev22, h⟩ := l_calI h
  refine rm_callI [.int (y1 + y3)] H d_RM_scan_482 C_RM_143 (c_RM_behindBlanks H ev22) rfl rfl rfl (Nat.le_of_ble_eq_true rfl) (by decide) (Nat.le_of_ble_eq_true rfl) ?_
  refine vr_istore_n (L' := [some (.ref m), some (.int v22), some (.int z0), some (.int y3), none, none]) d_RM_scan_485 rfl (by decide) rfl ?_
  refine vr_goto (tgt := 13) d_RM_scan_486 (by decide) ?_
  exact mv_drop (hk13 _ _ _ _ h) (And.intro rfl (And.intro rfl (And.intro rfl trivial)))

def k_RM_scan_420 (N : Nat) (k13 : Int32 → Int32 → rm_S → Option (rm_S)) (y1 : Int32) (y3 : Int32) (y4 : Int32) (S : rm_S) : Option (rm_S) := chk (ib (S.1 11) 8002) <| bnd (((rs_a S 4 (Int32.toNatClampNeg (S.1 11)) y4).1 11)) fun v12 => chk (ib v12 8002) <| bnd (((rs_a (rs_a S 4 (Int32.toNatClampNeg (S.1 11)) y4) 5 (Int32.toNatClampNeg v12) y1).1 11)) fun v14 => chk (ib v14 8002) <| bnd (((rs_a (rs_a (rs_a S 4 (Int32.toNatClampNeg (S.1 11)) y4) 5 (Int32.toNatClampNeg v12) y1) 6 (Int32.toNatClampNeg v14) y3).1 11)) fun v16 => bnd ((v16 + 1)) fun v17 => if y4 = 1 then (k_RM_scan_477 N k13 y1 y3 0 ((rs_i (rs_a (rs_a (rs_a S 4 (Int32.toNatClampNeg (S.1 11)) y4) 5 (Int32.toNatClampNeg v12) y1) 6 (Int32.toNatClampNeg v14) y3) 11 v17))) else (if y4 = 0 then (k_RM_scan_477 N k13 y1 y3 0 ((rs_i (rs_a (rs_a (rs_a S 4 (Int32.toNatClampNeg (S.1 11)) y4) 5 (Int32.toNatClampNeg v12) y1) 6 (Int32.toNatClampNeg v14) y3) 11 v17))) else (k_RM_scan_477 N k13 y1 y3 1 ((rs_i (rs_a (rs_a (rs_a S 4 (Int32.toNatClampNeg (S.1 11)) y4) 5 (Int32.toNatClampNeg v12) y1) 6 (Int32.toNatClampNeg v14) y3) 11 v17))))
theorem q_RM_scan_420 {g : mv_G} {σ : mh_H} {m : Nat} {N : Nat} {k13 : Int32 → Int32 → rm_S → Option (rm_S)} (H : rm_H g σ m) (hk13 : ∀ (y1 : Int32) (y2 : Int32) (S : rm_S) (r : rm_S), k13 y1 y2 S = some r → mv_V g M_RM_scan 8 166 0 0 13 [some (.ref m), some (.int y1), some (.int y2), none, none, none] [] (rz σ m S) (fun oc τ => τ = rz σ m r ∧ oc = .returned none)) (y1 : Int32) (y3 : Int32) (y4 : Int32) (S : rm_S) (r : rm_S) (h : k_RM_scan_420 N k13 y1 y3 y4 S = some r) : mv_V g M_RM_scan 8 166 0 0 420 [some (.ref m), some (.int y1), none, some (.int y3), some (.int y4), none] [] (rz σ m S) (fun oc τ => τ = rz σ m r ∧ oc = .returned none) := by
  unfold k_RM_scan_420 at h
  refine vr_aload_n d_RM_scan_420 rfl rfl ?_
  refine rm_getR (o := 4) H d_RM_scan_421 F_RM_19 rfl (by decide) ?_
  refine vr_aload_n d_RM_scan_424 rfl rfl ?_
  refine rm_getI H d_RM_scan_425 F_RM_140 rfl ?_
  refine vr_iload d_RM_scan_428 rfl ?_
  have q11 := (l_chk h).1
  replace h := (l_chk h).2
  refine rm_ast (o := 4) H (by decide) (by decide) d_RM_scan_430 (ib_in q11) ?_
  refine vr_aload_n d_RM_scan_431 rfl rfl ?_
  refine rm_getR (o := 5) H d_RM_scan_432 F_RM_22 rfl (by decide) ?_
  refine vr_aload_n d_RM_scan_435 rfl rfl ?_
  refine rm_getI H d_RM_scan_436 F_RM_140 rfl ?_
  obtain ⟨v12, ev12, h⟩ := l_bnd h
  refine vr_nm ev12 ?_
  refine vr_iload_n d_RM_scan_439 rfl rfl ?_
  have q13 := (l_chk h).1
  replace h := (l_chk h).2
  refine rm_ast (o := 5) H (by decide) (by decide) d_RM_scan_440 (ib_in q13) ?_
  refine vr_aload_n d_RM_scan_441 rfl rfl ?_
  refine rm_getR (o := 6) H d_RM_scan_442 F_RM_25 rfl (by decide) ?_
  refine vr_aload_n d_RM_scan_445 rfl rfl ?_
  refine rm_getI H d_RM_scan_446 F_RM_140 rfl ?_
  obtain ⟨v14, ev14, h⟩ := l_bnd h
  refine vr_nm ev14 ?_
  refine vr_iload_n d_RM_scan_449 rfl rfl ?_
  have q15 := (l_chk h).1
  replace h := (l_chk h).2
  refine rm_ast (o := 6) H (by decide) (by decide) d_RM_scan_450 (ib_in q15) ?_
  refine vr_aload_n d_RM_scan_451 rfl rfl ?_
  refine vr_dup d_RM_scan_452 rfl ?_
  refine rm_getI H d_RM_scan_453 F_RM_140 rfl ?_
  obtain ⟨v16, ev16, h⟩ := l_bnd h
  refine vr_nm ev16 ?_
  refine vr_iconst 1 d_RM_scan_456 (by decide) ?_
  refine vr_iadd d_RM_scan_457 ?_
  obtain ⟨v17, ev17, h⟩ := l_bnd h
  refine vr_nm ev17 ?_
  refine rm_putI H d_RM_scan_458 W_RM_scan_140 rfl rfl rfl ?_
  refine vr_iload d_RM_scan_461 rfl ?_
  refine vr_iconst 1 d_RM_scan_463 (by decide) ?_
  refine vr_icmp_eq (tgt := 476) d_RM_scan_464 (by decide) (fun c464 => ?_) (fun c464 => ?_)
  · replace h := l_ifp c464 h
    refine vr_iconst 0 d_RM_scan_476 (by decide) ?_
    exact mv_drop (q_RM_scan_477 H hk13 _ _ _ _ _ h) (And.intro rfl (And.intro rfl (And.intro rfl trivial)))
  · replace h := l_ifn c464 h
    refine vr_iload d_RM_scan_467 rfl ?_
    refine vr_if_eq (tgt := 476) d_RM_scan_469 (by decide) (fun c469 => ?_) (fun c469 => ?_)
    · replace h := l_ifp c469 h
      refine vr_iconst 0 d_RM_scan_476 (by decide) ?_
      exact mv_drop (q_RM_scan_477 H hk13 _ _ _ _ _ h) (And.intro rfl (And.intro rfl (And.intro rfl trivial)))
    · replace h := l_ifn c469 h
      refine vr_iconst 1 d_RM_scan_472 (by decide) ?_
      refine vr_goto (tgt := 477) d_RM_scan_473 (by decide) ?_
      exact mv_drop (q_RM_scan_477 H hk13 _ _ _ _ _ h) (And.intro rfl (And.intro rfl (And.intro rfl trivial)))

def k_RM_scan_222 (N : Nat) (k13 : Int32 → Int32 → rm_S → Option (rm_S)) (y1 : Int32) (y5 : Int32) (S : rm_S) : Option (rm_S) := if y5 = 60 then (k_RM_scan_420 N k13 y1 2 256 S) else (if y5 = 62 then (k_RM_scan_420 N k13 y1 2 257 S) else (if y5 = 61 then (k_RM_scan_420 N k13 y1 2 258 S) else (if y5 = 33 then (k_RM_scan_420 N k13 y1 2 259 S) else (if y5 = 38 then (k_RM_scan_420 N k13 y1 2 260 S) else (k_RM_scan_420 N k13 y1 2 261 S)))))
theorem q_RM_scan_222 {g : mv_G} {σ : mh_H} {m : Nat} {N : Nat} {k13 : Int32 → Int32 → rm_S → Option (rm_S)} (H : rm_H g σ m) (hk13 : ∀ (y1 : Int32) (y2 : Int32) (S : rm_S) (r : rm_S), k13 y1 y2 S = some r → mv_V g M_RM_scan 8 166 0 0 13 [some (.ref m), some (.int y1), some (.int y2), none, none, none] [] (rz σ m S) (fun oc τ => τ = rz σ m r ∧ oc = .returned none)) (y1 : Int32) (y5 : Int32) (S : rm_S) (r : rm_S) (h : k_RM_scan_222 N k13 y1 y5 S = some r) : mv_V g M_RM_scan 8 166 0 0 222 [some (.ref m), some (.int y1), none, none, none, some (.int y5)] [] (rz σ m S) (fun oc τ => τ = rz σ m r ∧ oc = .returned none) := by
  unfold k_RM_scan_222 at h
  refine vr_iconst 2 d_RM_scan_222 (by decide) ?_
  refine vr_istore_n (L' := [some (.ref m), some (.int y1), none, some (.int 2), none, some (.int y5)]) d_RM_scan_223 rfl (by decide) rfl ?_
  refine vr_iload d_RM_scan_224 rfl ?_
  refine vr_bipush 60 d_RM_scan_226 (by decide) ?_
  refine vr_icmp_ne (tgt := 237) d_RM_scan_228 (by decide) (fun c228 => ?_) (fun c228 => ?_)
  · replace h := l_ifn c228 h
    refine vr_iload d_RM_scan_237 rfl ?_
    refine vr_bipush 62 d_RM_scan_239 (by decide) ?_
    refine vr_icmp_ne (tgt := 250) d_RM_scan_241 (by decide) (fun c241 => ?_) (fun c241 => ?_)
    · replace h := l_ifn c241 h
      refine vr_iload d_RM_scan_250 rfl ?_
      refine vr_bipush 61 d_RM_scan_252 (by decide) ?_
      refine vr_icmp_ne (tgt := 263) d_RM_scan_254 (by decide) (fun c254 => ?_) (fun c254 => ?_)
      · replace h := l_ifn c254 h
        refine vr_iload d_RM_scan_263 rfl ?_
        refine vr_bipush 33 d_RM_scan_265 (by decide) ?_
        refine vr_icmp_ne (tgt := 276) d_RM_scan_267 (by decide) (fun c267 => ?_) (fun c267 => ?_)
        · replace h := l_ifn c267 h
          refine vr_iload d_RM_scan_276 rfl ?_
          refine vr_bipush 38 d_RM_scan_278 (by decide) ?_
          refine vr_icmp_ne (tgt := 289) d_RM_scan_280 (by decide) (fun c280 => ?_) (fun c280 => ?_)
          · replace h := l_ifn c280 h
            refine vr_sipush 261 d_RM_scan_289 (by decide) ?_
            refine vr_istore (L' := [some (.ref m), some (.int y1), none, some (.int 2), some (.int 261), some (.int y5)]) d_RM_scan_292 (by decide) rfl ?_
            refine vr_goto (tgt := 420) d_RM_scan_294 (by decide) ?_
            exact mv_drop (q_RM_scan_420 H hk13 _ _ _ _ _ h) (And.intro rfl (And.intro rfl (And.intro rfl (And.intro rfl trivial))))
          · replace h := l_ifp c280 h
            refine vr_sipush 260 d_RM_scan_283 (by decide) ?_
            refine vr_goto (tgt := 292) d_RM_scan_286 (by decide) ?_
            refine vr_istore (L' := [some (.ref m), some (.int y1), none, some (.int 2), some (.int 260), some (.int y5)]) d_RM_scan_292 (by decide) rfl ?_
            refine vr_goto (tgt := 420) d_RM_scan_294 (by decide) ?_
            exact mv_drop (q_RM_scan_420 H hk13 _ _ _ _ _ h) (And.intro rfl (And.intro rfl (And.intro rfl (And.intro rfl trivial))))
        · replace h := l_ifp c267 h
          refine vr_sipush 259 d_RM_scan_270 (by decide) ?_
          refine vr_goto (tgt := 292) d_RM_scan_273 (by decide) ?_
          refine vr_istore (L' := [some (.ref m), some (.int y1), none, some (.int 2), some (.int 259), some (.int y5)]) d_RM_scan_292 (by decide) rfl ?_
          refine vr_goto (tgt := 420) d_RM_scan_294 (by decide) ?_
          exact mv_drop (q_RM_scan_420 H hk13 _ _ _ _ _ h) (And.intro rfl (And.intro rfl (And.intro rfl (And.intro rfl trivial))))
      · replace h := l_ifp c254 h
        refine vr_sipush 258 d_RM_scan_257 (by decide) ?_
        refine vr_goto (tgt := 292) d_RM_scan_260 (by decide) ?_
        refine vr_istore (L' := [some (.ref m), some (.int y1), none, some (.int 2), some (.int 258), some (.int y5)]) d_RM_scan_292 (by decide) rfl ?_
        refine vr_goto (tgt := 420) d_RM_scan_294 (by decide) ?_
        exact mv_drop (q_RM_scan_420 H hk13 _ _ _ _ _ h) (And.intro rfl (And.intro rfl (And.intro rfl (And.intro rfl trivial))))
    · replace h := l_ifp c241 h
      refine vr_sipush 257 d_RM_scan_244 (by decide) ?_
      refine vr_goto (tgt := 292) d_RM_scan_247 (by decide) ?_
      refine vr_istore (L' := [some (.ref m), some (.int y1), none, some (.int 2), some (.int 257), some (.int y5)]) d_RM_scan_292 (by decide) rfl ?_
      refine vr_goto (tgt := 420) d_RM_scan_294 (by decide) ?_
      exact mv_drop (q_RM_scan_420 H hk13 _ _ _ _ _ h) (And.intro rfl (And.intro rfl (And.intro rfl (And.intro rfl trivial))))
  · replace h := l_ifp c228 h
    refine vr_sipush 256 d_RM_scan_231 (by decide) ?_
    refine vr_goto (tgt := 292) d_RM_scan_234 (by decide) ?_
    refine vr_istore (L' := [some (.ref m), some (.int y1), none, some (.int 2), some (.int 256), some (.int y5)]) d_RM_scan_292 (by decide) rfl ?_
    refine vr_goto (tgt := 420) d_RM_scan_294 (by decide) ?_
    exact mv_drop (q_RM_scan_420 H hk13 _ _ _ _ _ h) (And.intro rfl (And.intro rfl (And.intro rfl (And.intro rfl trivial))))

def k_RM_scan_131 (N : Nat) (k13 : Int32 → Int32 → rm_S → Option (rm_S)) (y1 : Int32) (y3 : Int32) (S : rm_S) : Option (rm_S) := calI (f_RM_isNumber N y1 y3 S) fun v23 S23 => if v23 = 0 then (k_RM_scan_420 N k13 y1 y3 1 S23) else (k_RM_scan_420 N k13 y1 y3 3 S23)
theorem q_RM_scan_131 {g : mv_G} {σ : mh_H} {m : Nat} {N : Nat} {k13 : Int32 → Int32 → rm_S → Option (rm_S)} (H : rm_H g σ m) (hk13 : ∀ (y1 : Int32) (y2 : Int32) (S : rm_S) (r : rm_S), k13 y1 y2 S = some r → mv_V g M_RM_scan 8 166 0 0 13 [some (.ref m), some (.int y1), some (.int y2), none, none, none] [] (rz σ m S) (fun oc τ => τ = rz σ m r ∧ oc = .returned none)) (y1 : Int32) (y3 : Int32) (S : rm_S) (r : rm_S) (h : k_RM_scan_131 N k13 y1 y3 S = some r) : mv_V g M_RM_scan 8 166 0 0 131 [some (.ref m), some (.int y1), none, some (.int y3), none, none] [] (rz σ m S) (fun oc τ => τ = rz σ m r ∧ oc = .returned none) := by
  unfold k_RM_scan_131 at h
  refine vr_aload_n d_RM_scan_131 rfl rfl ?_
  refine vr_iload_n d_RM_scan_132 rfl rfl ?_
  refine vr_iload_n d_RM_scan_133 rfl rfl ?_
  obtain ⟨v23, S23, ev23, h⟩ := l_calI h
  refine rm_callI [.int y1, .int y3] H d_RM_scan_134 C_RM_151 (c_RM_isNumber H ev23) rfl rfl rfl (Nat.le_of_ble_eq_true rfl) (by decide) (Nat.le_of_ble_eq_true rfl) ?_
  refine vr_if_eq (tgt := 144) d_RM_scan_137 (by decide) (fun c137 => ?_) (fun c137 => ?_)
  · replace h := l_ifp c137 h
    refine vr_iconst 1 d_RM_scan_144 (by decide) ?_
    refine vr_istore (L' := [some (.ref m), some (.int y1), none, some (.int y3), some (.int 1), none]) d_RM_scan_145 (by decide) rfl ?_
    refine vr_goto (tgt := 420) d_RM_scan_147 (by decide) ?_
    exact mv_drop (q_RM_scan_420 H hk13 _ _ _ _ _ h) (And.intro rfl (And.intro rfl (And.intro rfl (And.intro rfl trivial))))
  · replace h := l_ifn c137 h
    refine vr_iconst 3 d_RM_scan_140 (by decide) ?_
    refine vr_goto (tgt := 145) d_RM_scan_141 (by decide) ?_
    refine vr_istore (L' := [some (.ref m), some (.int y1), none, some (.int y3), some (.int 3), none]) d_RM_scan_145 (by decide) rfl ?_
    refine vr_goto (tgt := 420) d_RM_scan_147 (by decide) ?_
    exact mv_drop (q_RM_scan_420 H hk13 _ _ _ _ _ h) (And.intro rfl (And.intro rfl (And.intro rfl (And.intro rfl trivial))))

def k_RM_scan_101 (N : Nat) (k13 : Int32 → Int32 → rm_S → Option (rm_S)) : Nat → Int32 → Int32 → rm_S → Option (rm_S)
  | 0, _, _, _ => none
  | n + 1, y1, y3, S => if (S.1 3) ≤ (y1 + y3) then (k_RM_scan_131 N k13 y1 y3 S) else (chk (ib (y1 + y3) 8000) <| calP (f_RM_isDigit N ((S.2 1 (Int32.toNatClampNeg (y1 + y3))))) fun v19 => if v19 = 0 then (k_RM_scan_131 N k13 y1 y3 S) else (k_RM_scan_101 N k13 n y1 ((y3 + 1)) S))
theorem q_RM_scan_101 {g : mv_G} {σ : mh_H} {m : Nat} {N : Nat} {k13 : Int32 → Int32 → rm_S → Option (rm_S)} (H : rm_H g σ m) (hk13 : ∀ (y1 : Int32) (y2 : Int32) (S : rm_S) (r : rm_S), k13 y1 y2 S = some r → mv_V g M_RM_scan 8 166 0 0 13 [some (.ref m), some (.int y1), some (.int y2), none, none, none] [] (rz σ m S) (fun oc τ => τ = rz σ m r ∧ oc = .returned none)) : ∀ (n : Nat) (y1 : Int32) (y3 : Int32) (S : rm_S) (r : rm_S), k_RM_scan_101 N k13 n y1 y3 S = some r → mv_V g M_RM_scan 8 166 0 0 101 [some (.ref m), some (.int y1), none, some (.int y3), none, none] [] (rz σ m S) (fun oc τ => τ = rz σ m r ∧ oc = .returned none) := by
  intro n
  induction n with
  | zero =>
    intro y1 y3 S r h
    exact absurd h (by simp [k_RM_scan_101])
  | succ n ih =>
    intro y1 y3 S r h 
    unfold k_RM_scan_101 at h
    refine vr_iload_n d_RM_scan_101 rfl rfl ?_
    refine vr_iload_n d_RM_scan_102 rfl rfl ?_
    refine vr_iadd d_RM_scan_103 ?_
    refine vr_aload_n d_RM_scan_104 rfl rfl ?_
    refine rm_getI H d_RM_scan_105 F_RM_110 rfl ?_
    refine vr_icmp_ge (tgt := 131) d_RM_scan_108 (by decide) (fun c108 => ?_) (fun c108 => ?_)
    · replace h := l_ifp c108 h
      exact mv_drop (q_RM_scan_131 H hk13 _ _ _ _ h) (And.intro rfl (And.intro rfl (And.intro rfl trivial)))
    · replace h := l_ifn c108 h
      refine vr_aload_n d_RM_scan_111 rfl rfl ?_
      refine rm_getR (o := 1) H d_RM_scan_112 F_RM_9 rfl (by decide) ?_
      refine vr_iload_n d_RM_scan_115 rfl rfl ?_
      refine vr_iload_n d_RM_scan_116 rfl rfl ?_
      refine vr_iadd d_RM_scan_117 ?_
      have q18 := (l_chk h).1
      replace h := (l_chk h).2
      refine rm_ald (o := 1) H (by decide) (by decide) d_RM_scan_118 (ib_in q18) ?_
      obtain ⟨v19, ev19, h⟩ := l_calP h
      refine vr_callSP [.int (S.2 1 (Int32.toNatClampNeg (y1 + y3)))] d_RM_scan_119 C_RM_117 (c_RM_isDigit ev19) rfl rfl (Nat.le_of_ble_eq_true rfl) (by decide) (Nat.le_of_ble_eq_true rfl) ?_
      refine vr_if_eq (tgt := 131) d_RM_scan_122 (by decide) (fun c122 => ?_) (fun c122 => ?_)
      · replace h := l_ifp c122 h
        exact mv_drop (q_RM_scan_131 H hk13 _ _ _ _ h) (And.intro rfl (And.intro rfl (And.intro rfl trivial)))
      · replace h := l_ifn c122 h
        refine vr_iinc (L' := [some (.ref m), some (.int y1), none, some (.int (y3 + 1)), none, none]) (y3 + 1) d_RM_scan_125 (by decide) rfl rfl rfl ?_
        refine vr_goto (tgt := 101) d_RM_scan_128 (by decide) ?_
        exact mv_drop (ih _ _ _ _ h) (And.intro rfl (And.intro rfl (And.intro rfl trivial)))

def k_RM_scan_66 (N : Nat) (k13 : Int32 → Int32 → rm_S → Option (rm_S)) : Nat → Int32 → Int32 → rm_S → Option (rm_S)
  | 0, _, _, _ => none
  | n + 1, y1, y3, S => calI (f_RM_isWord N ((y1 + y3)) S) fun v20 S20 => if v20 = 0 then (calI (f_RM_wordOf N y1 y3 S20) fun v21 S21 => k_RM_scan_420 N k13 y1 y3 v21 S21) else (k_RM_scan_66 N k13 n y1 ((y3 + 1)) S20)
theorem q_RM_scan_66 {g : mv_G} {σ : mh_H} {m : Nat} {N : Nat} {k13 : Int32 → Int32 → rm_S → Option (rm_S)} (H : rm_H g σ m) (hk13 : ∀ (y1 : Int32) (y2 : Int32) (S : rm_S) (r : rm_S), k13 y1 y2 S = some r → mv_V g M_RM_scan 8 166 0 0 13 [some (.ref m), some (.int y1), some (.int y2), none, none, none] [] (rz σ m S) (fun oc τ => τ = rz σ m r ∧ oc = .returned none)) : ∀ (n : Nat) (y1 : Int32) (y3 : Int32) (S : rm_S) (r : rm_S), k_RM_scan_66 N k13 n y1 y3 S = some r → mv_V g M_RM_scan 8 166 0 0 66 [some (.ref m), some (.int y1), none, some (.int y3), none, none] [] (rz σ m S) (fun oc τ => τ = rz σ m r ∧ oc = .returned none) := by
  intro n
  induction n with
  | zero =>
    intro y1 y3 S r h
    exact absurd h (by simp [k_RM_scan_66])
  | succ n ih =>
    intro y1 y3 S r h 
    unfold k_RM_scan_66 at h
    refine vr_aload_n d_RM_scan_66 rfl rfl ?_
    refine vr_iload_n d_RM_scan_67 rfl rfl ?_
    refine vr_iload_n d_RM_scan_68 rfl rfl ?_
    refine vr_iadd d_RM_scan_69 ?_
    obtain ⟨v20, S20, ev20, h⟩ := l_calI h
    refine rm_callI [.int (y1 + y3)] H d_RM_scan_70 C_RM_137 (c_RM_isWord H ev20) rfl rfl rfl (Nat.le_of_ble_eq_true rfl) (by decide) (Nat.le_of_ble_eq_true rfl) ?_
    refine vr_if_eq (tgt := 82) d_RM_scan_73 (by decide) (fun c73 => ?_) (fun c73 => ?_)
    · replace h := l_ifp c73 h
      refine vr_aload_n d_RM_scan_82 rfl rfl ?_
      refine vr_iload_n d_RM_scan_83 rfl rfl ?_
      refine vr_iload_n d_RM_scan_84 rfl rfl ?_
      obtain ⟨v21, S21, ev21, h⟩ := l_calI h
      refine rm_callI [.int y1, .int y3] H d_RM_scan_85 C_RM_147 (c_RM_wordOf H ev21) rfl rfl rfl (Nat.le_of_ble_eq_true rfl) (by decide) (Nat.le_of_ble_eq_true rfl) ?_
      refine vr_istore (L' := [some (.ref m), some (.int y1), none, some (.int y3), some (.int v21), none]) d_RM_scan_88 (by decide) rfl ?_
      refine vr_goto (tgt := 420) d_RM_scan_90 (by decide) ?_
      exact mv_drop (q_RM_scan_420 H hk13 _ _ _ _ _ h) (And.intro rfl (And.intro rfl (And.intro rfl (And.intro rfl trivial))))
    · replace h := l_ifn c73 h
      refine vr_iinc (L' := [some (.ref m), some (.int y1), none, some (.int (y3 + 1)), none, none]) (y3 + 1) d_RM_scan_76 (by decide) rfl rfl rfl ?_
      refine vr_goto (tgt := 66) d_RM_scan_79 (by decide) ?_
      exact mv_drop (ih _ _ _ _ h) (And.intro rfl (And.intro rfl (And.intro rfl trivial)))

def k_RM_scan_40 (N : Nat) (k13 : Int32 → Int32 → rm_S → Option (rm_S)) (y1 : Int32) (y3 : Int32) (y4 : Int32) (z0 : Int32) (S : rm_S) : Option (rm_S) := if y1 < (S.1 3) then (calP (f_RM_isLetter N z0) fun v3 => if v3 = 0 then (calP (f_RM_isDigit N z0) fun v4 => if v4 = 0 then (calI (f_RM_isAt N y1 60 61 S) fun v5 S5 => if v5 = 0 then (calI (f_RM_isAt N y1 62 61 S5) fun v6 S6 => if v6 = 0 then (calI (f_RM_isAt N y1 61 61 S6) fun v7 S7 => if v7 = 0 then (calI (f_RM_isAt N y1 33 61 S7) fun v8 S8 => if v8 = 0 then (calI (f_RM_isAt N y1 38 38 S8) fun v9 S9 => if v9 = 0 then (calI (f_RM_isAt N y1 124 124 S9) fun v10 S10 => if v10 = 0 then (if z0 = 40 then (k_RM_scan_420 N k13 y1 y3 z0 S10) else (if z0 = 41 then (k_RM_scan_420 N k13 y1 y3 z0 S10) else (if z0 = 123 then (k_RM_scan_420 N k13 y1 y3 z0 S10) else (if z0 = 125 then (k_RM_scan_420 N k13 y1 y3 z0 S10) else (if z0 = 91 then (k_RM_scan_420 N k13 y1 y3 z0 S10) else (if z0 = 93 then (k_RM_scan_420 N k13 y1 y3 z0 S10) else (if z0 = 44 then (k_RM_scan_420 N k13 y1 y3 z0 S10) else (if z0 = 59 then (k_RM_scan_420 N k13 y1 y3 z0 S10) else (if z0 = 61 then (k_RM_scan_420 N k13 y1 y3 z0 S10) else (if z0 = 43 then (k_RM_scan_420 N k13 y1 y3 z0 S10) else (if z0 = 45 then (k_RM_scan_420 N k13 y1 y3 z0 S10) else (if z0 = 42 then (k_RM_scan_420 N k13 y1 y3 z0 S10) else (if z0 = 47 then (k_RM_scan_420 N k13 y1 y3 z0 S10) else (if z0 = 37 then (k_RM_scan_420 N k13 y1 y3 z0 S10) else (if z0 = 60 then (k_RM_scan_420 N k13 y1 y3 z0 S10) else (if z0 = 62 then (k_RM_scan_420 N k13 y1 y3 z0 S10) else (if z0 = 33 then (k_RM_scan_420 N k13 y1 y3 z0 S10) else (k_RM_scan_420 N k13 y1 y3 y4 S10)))))))))))))))))) else (k_RM_scan_222 N k13 y1 z0 S10)) else (k_RM_scan_222 N k13 y1 z0 S9)) else (k_RM_scan_222 N k13 y1 z0 S8)) else (k_RM_scan_222 N k13 y1 z0 S7)) else (k_RM_scan_222 N k13 y1 z0 S6)) else (k_RM_scan_222 N k13 y1 z0 S5)) else (k_RM_scan_101 N k13 N y1 y3 S)) else (k_RM_scan_66 N k13 N y1 y3 S)) else (k_RM_scan_420 N k13 y1 0 0 S)
theorem q_RM_scan_40 {g : mv_G} {σ : mh_H} {m : Nat} {N : Nat} {k13 : Int32 → Int32 → rm_S → Option (rm_S)} (H : rm_H g σ m) (hk13 : ∀ (y1 : Int32) (y2 : Int32) (S : rm_S) (r : rm_S), k13 y1 y2 S = some r → mv_V g M_RM_scan 8 166 0 0 13 [some (.ref m), some (.int y1), some (.int y2), none, none, none] [] (rz σ m S) (fun oc τ => τ = rz σ m r ∧ oc = .returned none)) (y1 : Int32) (y3 : Int32) (y4 : Int32) (z0 : Int32) (S : rm_S) (r : rm_S) (h : k_RM_scan_40 N k13 y1 y3 y4 z0 S = some r) : mv_V g M_RM_scan 8 166 0 0 40 [some (.ref m), some (.int y1), none, some (.int y3), some (.int y4), none] [.int z0] (rz σ m S) (fun oc τ => τ = rz σ m r ∧ oc = .returned none) := by
  unfold k_RM_scan_40 at h
  refine vr_istore (L' := [some (.ref m), some (.int y1), none, some (.int y3), some (.int y4), some (.int z0)]) d_RM_scan_40 (by decide) rfl ?_
  refine vr_iload_n d_RM_scan_42 rfl rfl ?_
  refine vr_aload_n d_RM_scan_43 rfl rfl ?_
  refine rm_getI H d_RM_scan_44 F_RM_110 rfl ?_
  refine vr_icmp_lt (tgt := 58) d_RM_scan_47 (by decide) (fun c47 => ?_) (fun c47 => ?_)
  · replace h := l_ifp c47 h
    refine vr_iload d_RM_scan_58 rfl ?_
    obtain ⟨v3, ev3, h⟩ := l_calP h
    refine vr_callSP [.int z0] d_RM_scan_60 C_RM_113 (c_RM_isLetter ev3) rfl rfl (Nat.le_of_ble_eq_true rfl) (by decide) (Nat.le_of_ble_eq_true rfl) ?_
    refine vr_if_eq (tgt := 93) d_RM_scan_63 (by decide) (fun c63 => ?_) (fun c63 => ?_)
    · replace h := l_ifp c63 h
      refine vr_iload d_RM_scan_93 rfl ?_
      obtain ⟨v4, ev4, h⟩ := l_calP h
      refine vr_callSP [.int z0] d_RM_scan_95 C_RM_117 (c_RM_isDigit ev4) rfl rfl (Nat.le_of_ble_eq_true rfl) (by decide) (Nat.le_of_ble_eq_true rfl) ?_
      refine vr_if_eq (tgt := 150) d_RM_scan_98 (by decide) (fun c98 => ?_) (fun c98 => ?_)
      · replace h := l_ifp c98 h
        refine vr_aload_n d_RM_scan_150 rfl rfl ?_
        refine vr_iload_n d_RM_scan_151 rfl rfl ?_
        refine vr_bipush 60 d_RM_scan_152 (by decide) ?_
        refine vr_bipush 61 d_RM_scan_154 (by decide) ?_
        obtain ⟨v5, S5, ev5, h⟩ := l_calI h
        refine rm_callI [.int y1, .int 60, .int 61] H d_RM_scan_156 C_RM_120 (c_RM_isAt H ev5) rfl rfl rfl (Nat.le_of_ble_eq_true rfl) (by decide) (Nat.le_of_ble_eq_true rfl) ?_
        refine vr_if_ne (tgt := 222) d_RM_scan_159 (by decide) (fun c159 => ?_) (fun c159 => ?_)
        · replace h := l_ifn c159 h
          exact mv_drop (q_RM_scan_222 H hk13 _ _ _ _ h) (And.intro rfl (And.intro rfl (And.intro rfl trivial)))
        · replace h := l_ifp c159 h
          refine vr_aload_n d_RM_scan_162 rfl rfl ?_
          refine vr_iload_n d_RM_scan_163 rfl rfl ?_
          refine vr_bipush 62 d_RM_scan_164 (by decide) ?_
          refine vr_bipush 61 d_RM_scan_166 (by decide) ?_
          obtain ⟨v6, S6, ev6, h⟩ := l_calI h
          refine rm_callI [.int y1, .int 62, .int 61] H d_RM_scan_168 C_RM_120 (c_RM_isAt H ev6) rfl rfl rfl (Nat.le_of_ble_eq_true rfl) (by decide) (Nat.le_of_ble_eq_true rfl) ?_
          refine vr_if_ne (tgt := 222) d_RM_scan_171 (by decide) (fun c171 => ?_) (fun c171 => ?_)
          · replace h := l_ifn c171 h
            exact mv_drop (q_RM_scan_222 H hk13 _ _ _ _ h) (And.intro rfl (And.intro rfl (And.intro rfl trivial)))
          · replace h := l_ifp c171 h
            refine vr_aload_n d_RM_scan_174 rfl rfl ?_
            refine vr_iload_n d_RM_scan_175 rfl rfl ?_
            refine vr_bipush 61 d_RM_scan_176 (by decide) ?_
            refine vr_bipush 61 d_RM_scan_178 (by decide) ?_
            obtain ⟨v7, S7, ev7, h⟩ := l_calI h
            refine rm_callI [.int y1, .int 61, .int 61] H d_RM_scan_180 C_RM_120 (c_RM_isAt H ev7) rfl rfl rfl (Nat.le_of_ble_eq_true rfl) (by decide) (Nat.le_of_ble_eq_true rfl) ?_
            refine vr_if_ne (tgt := 222) d_RM_scan_183 (by decide) (fun c183 => ?_) (fun c183 => ?_)
            · replace h := l_ifn c183 h
              exact mv_drop (q_RM_scan_222 H hk13 _ _ _ _ h) (And.intro rfl (And.intro rfl (And.intro rfl trivial)))
            · replace h := l_ifp c183 h
              refine vr_aload_n d_RM_scan_186 rfl rfl ?_
              refine vr_iload_n d_RM_scan_187 rfl rfl ?_
              refine vr_bipush 33 d_RM_scan_188 (by decide) ?_
              refine vr_bipush 61 d_RM_scan_190 (by decide) ?_
              obtain ⟨v8, S8, ev8, h⟩ := l_calI h
              refine rm_callI [.int y1, .int 33, .int 61] H d_RM_scan_192 C_RM_120 (c_RM_isAt H ev8) rfl rfl rfl (Nat.le_of_ble_eq_true rfl) (by decide) (Nat.le_of_ble_eq_true rfl) ?_
              refine vr_if_ne (tgt := 222) d_RM_scan_195 (by decide) (fun c195 => ?_) (fun c195 => ?_)
              · replace h := l_ifn c195 h
                exact mv_drop (q_RM_scan_222 H hk13 _ _ _ _ h) (And.intro rfl (And.intro rfl (And.intro rfl trivial)))
              · replace h := l_ifp c195 h
                refine vr_aload_n d_RM_scan_198 rfl rfl ?_
                refine vr_iload_n d_RM_scan_199 rfl rfl ?_
                refine vr_bipush 38 d_RM_scan_200 (by decide) ?_
                refine vr_bipush 38 d_RM_scan_202 (by decide) ?_
                obtain ⟨v9, S9, ev9, h⟩ := l_calI h
                refine rm_callI [.int y1, .int 38, .int 38] H d_RM_scan_204 C_RM_120 (c_RM_isAt H ev9) rfl rfl rfl (Nat.le_of_ble_eq_true rfl) (by decide) (Nat.le_of_ble_eq_true rfl) ?_
                refine vr_if_ne (tgt := 222) d_RM_scan_207 (by decide) (fun c207 => ?_) (fun c207 => ?_)
                · replace h := l_ifn c207 h
                  exact mv_drop (q_RM_scan_222 H hk13 _ _ _ _ h) (And.intro rfl (And.intro rfl (And.intro rfl trivial)))
                · replace h := l_ifp c207 h
                  refine vr_aload_n d_RM_scan_210 rfl rfl ?_
                  refine vr_iload_n d_RM_scan_211 rfl rfl ?_
                  refine vr_bipush 124 d_RM_scan_212 (by decide) ?_
                  refine vr_bipush 124 d_RM_scan_214 (by decide) ?_
                  obtain ⟨v10, S10, ev10, h⟩ := l_calI h
                  refine rm_callI [.int y1, .int 124, .int 124] H d_RM_scan_216 C_RM_120 (c_RM_isAt H ev10) rfl rfl rfl (Nat.le_of_ble_eq_true rfl) (by decide) (Nat.le_of_ble_eq_true rfl) ?_
                  refine vr_if_eq (tgt := 297) d_RM_scan_219 (by decide) (fun c219 => ?_) (fun c219 => ?_)
                  · replace h := l_ifp c219 h
                    refine vr_iload d_RM_scan_297 rfl ?_
                    refine vr_bipush 40 d_RM_scan_299 (by decide) ?_
                    refine vr_icmp_eq (tgt := 416) d_RM_scan_301 (by decide) (fun c301 => ?_) (fun c301 => ?_)
                    · replace h := l_ifp c301 h
                      refine vr_iload d_RM_scan_416 rfl ?_
                      refine vr_istore (L' := [some (.ref m), some (.int y1), none, some (.int y3), some (.int z0), some (.int z0)]) d_RM_scan_418 (by decide) rfl ?_
                      exact mv_drop (q_RM_scan_420 H hk13 _ _ _ _ _ h) (And.intro rfl (And.intro rfl (And.intro rfl (And.intro rfl trivial))))
                    · replace h := l_ifn c301 h
                      refine vr_iload d_RM_scan_304 rfl ?_
                      refine vr_bipush 41 d_RM_scan_306 (by decide) ?_
                      refine vr_icmp_eq (tgt := 416) d_RM_scan_308 (by decide) (fun c308 => ?_) (fun c308 => ?_)
                      · replace h := l_ifp c308 h
                        refine vr_iload d_RM_scan_416 rfl ?_
                        refine vr_istore (L' := [some (.ref m), some (.int y1), none, some (.int y3), some (.int z0), some (.int z0)]) d_RM_scan_418 (by decide) rfl ?_
                        exact mv_drop (q_RM_scan_420 H hk13 _ _ _ _ _ h) (And.intro rfl (And.intro rfl (And.intro rfl (And.intro rfl trivial))))
                      · replace h := l_ifn c308 h
                        refine vr_iload d_RM_scan_311 rfl ?_
                        refine vr_bipush 123 d_RM_scan_313 (by decide) ?_
                        refine vr_icmp_eq (tgt := 416) d_RM_scan_315 (by decide) (fun c315 => ?_) (fun c315 => ?_)
                        · replace h := l_ifp c315 h
                          refine vr_iload d_RM_scan_416 rfl ?_
                          refine vr_istore (L' := [some (.ref m), some (.int y1), none, some (.int y3), some (.int z0), some (.int z0)]) d_RM_scan_418 (by decide) rfl ?_
                          exact mv_drop (q_RM_scan_420 H hk13 _ _ _ _ _ h) (And.intro rfl (And.intro rfl (And.intro rfl (And.intro rfl trivial))))
                        · replace h := l_ifn c315 h
                          refine vr_iload d_RM_scan_318 rfl ?_
                          refine vr_bipush 125 d_RM_scan_320 (by decide) ?_
                          refine vr_icmp_eq (tgt := 416) d_RM_scan_322 (by decide) (fun c322 => ?_) (fun c322 => ?_)
                          · replace h := l_ifp c322 h
                            refine vr_iload d_RM_scan_416 rfl ?_
                            refine vr_istore (L' := [some (.ref m), some (.int y1), none, some (.int y3), some (.int z0), some (.int z0)]) d_RM_scan_418 (by decide) rfl ?_
                            exact mv_drop (q_RM_scan_420 H hk13 _ _ _ _ _ h) (And.intro rfl (And.intro rfl (And.intro rfl (And.intro rfl trivial))))
                          · replace h := l_ifn c322 h
                            refine vr_iload d_RM_scan_325 rfl ?_
                            refine vr_bipush 91 d_RM_scan_327 (by decide) ?_
                            refine vr_icmp_eq (tgt := 416) d_RM_scan_329 (by decide) (fun c329 => ?_) (fun c329 => ?_)
                            · replace h := l_ifp c329 h
                              refine vr_iload d_RM_scan_416 rfl ?_
                              refine vr_istore (L' := [some (.ref m), some (.int y1), none, some (.int y3), some (.int z0), some (.int z0)]) d_RM_scan_418 (by decide) rfl ?_
                              exact mv_drop (q_RM_scan_420 H hk13 _ _ _ _ _ h) (And.intro rfl (And.intro rfl (And.intro rfl (And.intro rfl trivial))))
                            · replace h := l_ifn c329 h
                              refine vr_iload d_RM_scan_332 rfl ?_
                              refine vr_bipush 93 d_RM_scan_334 (by decide) ?_
                              refine vr_icmp_eq (tgt := 416) d_RM_scan_336 (by decide) (fun c336 => ?_) (fun c336 => ?_)
                              · replace h := l_ifp c336 h
                                refine vr_iload d_RM_scan_416 rfl ?_
                                refine vr_istore (L' := [some (.ref m), some (.int y1), none, some (.int y3), some (.int z0), some (.int z0)]) d_RM_scan_418 (by decide) rfl ?_
                                exact mv_drop (q_RM_scan_420 H hk13 _ _ _ _ _ h) (And.intro rfl (And.intro rfl (And.intro rfl (And.intro rfl trivial))))
                              · replace h := l_ifn c336 h
                                refine vr_iload d_RM_scan_339 rfl ?_
                                refine vr_bipush 44 d_RM_scan_341 (by decide) ?_
                                refine vr_icmp_eq (tgt := 416) d_RM_scan_343 (by decide) (fun c343 => ?_) (fun c343 => ?_)
                                · replace h := l_ifp c343 h
                                  refine vr_iload d_RM_scan_416 rfl ?_
                                  refine vr_istore (L' := [some (.ref m), some (.int y1), none, some (.int y3), some (.int z0), some (.int z0)]) d_RM_scan_418 (by decide) rfl ?_
                                  exact mv_drop (q_RM_scan_420 H hk13 _ _ _ _ _ h) (And.intro rfl (And.intro rfl (And.intro rfl (And.intro rfl trivial))))
                                · replace h := l_ifn c343 h
                                  refine vr_iload d_RM_scan_346 rfl ?_
                                  refine vr_bipush 59 d_RM_scan_348 (by decide) ?_
                                  refine vr_icmp_eq (tgt := 416) d_RM_scan_350 (by decide) (fun c350 => ?_) (fun c350 => ?_)
                                  · replace h := l_ifp c350 h
                                    refine vr_iload d_RM_scan_416 rfl ?_
                                    refine vr_istore (L' := [some (.ref m), some (.int y1), none, some (.int y3), some (.int z0), some (.int z0)]) d_RM_scan_418 (by decide) rfl ?_
                                    exact mv_drop (q_RM_scan_420 H hk13 _ _ _ _ _ h) (And.intro rfl (And.intro rfl (And.intro rfl (And.intro rfl trivial))))
                                  · replace h := l_ifn c350 h
                                    refine vr_iload d_RM_scan_353 rfl ?_
                                    refine vr_bipush 61 d_RM_scan_355 (by decide) ?_
                                    refine vr_icmp_eq (tgt := 416) d_RM_scan_357 (by decide) (fun c357 => ?_) (fun c357 => ?_)
                                    · replace h := l_ifp c357 h
                                      refine vr_iload d_RM_scan_416 rfl ?_
                                      refine vr_istore (L' := [some (.ref m), some (.int y1), none, some (.int y3), some (.int z0), some (.int z0)]) d_RM_scan_418 (by decide) rfl ?_
                                      exact mv_drop (q_RM_scan_420 H hk13 _ _ _ _ _ h) (And.intro rfl (And.intro rfl (And.intro rfl (And.intro rfl trivial))))
                                    · replace h := l_ifn c357 h
                                      refine vr_iload d_RM_scan_360 rfl ?_
                                      refine vr_bipush 43 d_RM_scan_362 (by decide) ?_
                                      refine vr_icmp_eq (tgt := 416) d_RM_scan_364 (by decide) (fun c364 => ?_) (fun c364 => ?_)
                                      · replace h := l_ifp c364 h
                                        refine vr_iload d_RM_scan_416 rfl ?_
                                        refine vr_istore (L' := [some (.ref m), some (.int y1), none, some (.int y3), some (.int z0), some (.int z0)]) d_RM_scan_418 (by decide) rfl ?_
                                        exact mv_drop (q_RM_scan_420 H hk13 _ _ _ _ _ h) (And.intro rfl (And.intro rfl (And.intro rfl (And.intro rfl trivial))))
                                      · replace h := l_ifn c364 h
                                        refine vr_iload d_RM_scan_367 rfl ?_
                                        refine vr_bipush 45 d_RM_scan_369 (by decide) ?_
                                        refine vr_icmp_eq (tgt := 416) d_RM_scan_371 (by decide) (fun c371 => ?_) (fun c371 => ?_)
                                        · replace h := l_ifp c371 h
                                          refine vr_iload d_RM_scan_416 rfl ?_
                                          refine vr_istore (L' := [some (.ref m), some (.int y1), none, some (.int y3), some (.int z0), some (.int z0)]) d_RM_scan_418 (by decide) rfl ?_
                                          exact mv_drop (q_RM_scan_420 H hk13 _ _ _ _ _ h) (And.intro rfl (And.intro rfl (And.intro rfl (And.intro rfl trivial))))
                                        · replace h := l_ifn c371 h
                                          refine vr_iload d_RM_scan_374 rfl ?_
                                          refine vr_bipush 42 d_RM_scan_376 (by decide) ?_
                                          refine vr_icmp_eq (tgt := 416) d_RM_scan_378 (by decide) (fun c378 => ?_) (fun c378 => ?_)
                                          · replace h := l_ifp c378 h
                                            refine vr_iload d_RM_scan_416 rfl ?_
                                            refine vr_istore (L' := [some (.ref m), some (.int y1), none, some (.int y3), some (.int z0), some (.int z0)]) d_RM_scan_418 (by decide) rfl ?_
                                            exact mv_drop (q_RM_scan_420 H hk13 _ _ _ _ _ h) (And.intro rfl (And.intro rfl (And.intro rfl (And.intro rfl trivial))))
                                          · replace h := l_ifn c378 h
                                            refine vr_iload d_RM_scan_381 rfl ?_
                                            refine vr_bipush 47 d_RM_scan_383 (by decide) ?_
                                            refine vr_icmp_eq (tgt := 416) d_RM_scan_385 (by decide) (fun c385 => ?_) (fun c385 => ?_)
                                            · replace h := l_ifp c385 h
                                              refine vr_iload d_RM_scan_416 rfl ?_
                                              refine vr_istore (L' := [some (.ref m), some (.int y1), none, some (.int y3), some (.int z0), some (.int z0)]) d_RM_scan_418 (by decide) rfl ?_
                                              exact mv_drop (q_RM_scan_420 H hk13 _ _ _ _ _ h) (And.intro rfl (And.intro rfl (And.intro rfl (And.intro rfl trivial))))
                                            · replace h := l_ifn c385 h
                                              refine vr_iload d_RM_scan_388 rfl ?_
                                              refine vr_bipush 37 d_RM_scan_390 (by decide) ?_
                                              refine vr_icmp_eq (tgt := 416) d_RM_scan_392 (by decide) (fun c392 => ?_) (fun c392 => ?_)
                                              · replace h := l_ifp c392 h
                                                refine vr_iload d_RM_scan_416 rfl ?_
                                                refine vr_istore (L' := [some (.ref m), some (.int y1), none, some (.int y3), some (.int z0), some (.int z0)]) d_RM_scan_418 (by decide) rfl ?_
                                                exact mv_drop (q_RM_scan_420 H hk13 _ _ _ _ _ h) (And.intro rfl (And.intro rfl (And.intro rfl (And.intro rfl trivial))))
                                              · replace h := l_ifn c392 h
                                                refine vr_iload d_RM_scan_395 rfl ?_
                                                refine vr_bipush 60 d_RM_scan_397 (by decide) ?_
                                                refine vr_icmp_eq (tgt := 416) d_RM_scan_399 (by decide) (fun c399 => ?_) (fun c399 => ?_)
                                                · replace h := l_ifp c399 h
                                                  refine vr_iload d_RM_scan_416 rfl ?_
                                                  refine vr_istore (L' := [some (.ref m), some (.int y1), none, some (.int y3), some (.int z0), some (.int z0)]) d_RM_scan_418 (by decide) rfl ?_
                                                  exact mv_drop (q_RM_scan_420 H hk13 _ _ _ _ _ h) (And.intro rfl (And.intro rfl (And.intro rfl (And.intro rfl trivial))))
                                                · replace h := l_ifn c399 h
                                                  refine vr_iload d_RM_scan_402 rfl ?_
                                                  refine vr_bipush 62 d_RM_scan_404 (by decide) ?_
                                                  refine vr_icmp_eq (tgt := 416) d_RM_scan_406 (by decide) (fun c406 => ?_) (fun c406 => ?_)
                                                  · replace h := l_ifp c406 h
                                                    refine vr_iload d_RM_scan_416 rfl ?_
                                                    refine vr_istore (L' := [some (.ref m), some (.int y1), none, some (.int y3), some (.int z0), some (.int z0)]) d_RM_scan_418 (by decide) rfl ?_
                                                    exact mv_drop (q_RM_scan_420 H hk13 _ _ _ _ _ h) (And.intro rfl (And.intro rfl (And.intro rfl (And.intro rfl trivial))))
                                                  · replace h := l_ifn c406 h
                                                    refine vr_iload d_RM_scan_409 rfl ?_
                                                    refine vr_bipush 33 d_RM_scan_411 (by decide) ?_
                                                    refine vr_icmp_ne (tgt := 420) d_RM_scan_413 (by decide) (fun c413 => ?_) (fun c413 => ?_)
                                                    · replace h := l_ifn c413 h
                                                      exact mv_drop (q_RM_scan_420 H hk13 _ _ _ _ _ h) (And.intro rfl (And.intro rfl (And.intro rfl (And.intro rfl trivial))))
                                                    · replace h := l_ifp c413 h
                                                      refine vr_iload d_RM_scan_416 rfl ?_
                                                      refine vr_istore (L' := [some (.ref m), some (.int y1), none, some (.int y3), some (.int z0), some (.int z0)]) d_RM_scan_418 (by decide) rfl ?_
                                                      exact mv_drop (q_RM_scan_420 H hk13 _ _ _ _ _ h) (And.intro rfl (And.intro rfl (And.intro rfl (And.intro rfl trivial))))
                  · replace h := l_ifn c219 h
                    exact mv_drop (q_RM_scan_222 H hk13 _ _ _ _ h) (And.intro rfl (And.intro rfl (And.intro rfl trivial)))
      · replace h := l_ifn c98 h
        exact mv_drop (q_RM_scan_101 H hk13 N _ _ _ _ h) (And.intro rfl (And.intro rfl (And.intro rfl trivial)))
    · replace h := l_ifn c63 h
      exact mv_drop (q_RM_scan_66 H hk13 N _ _ _ _ h) (And.intro rfl (And.intro rfl (And.intro rfl trivial)))
  · replace h := l_ifn c47 h
    refine vr_iconst 0 d_RM_scan_50 (by decide) ?_
    refine vr_istore (L' := [some (.ref m), some (.int y1), none, some (.int y3), some (.int 0), some (.int z0)]) d_RM_scan_51 (by decide) rfl ?_
    refine vr_iconst 0 d_RM_scan_53 (by decide) ?_
    refine vr_istore_n (L' := [some (.ref m), some (.int y1), none, some (.int 0), some (.int 0), some (.int z0)]) d_RM_scan_54 rfl (by decide) rfl ?_
    refine vr_goto (tgt := 420) d_RM_scan_55 (by decide) ?_
    exact mv_drop (q_RM_scan_420 H hk13 _ _ _ _ _ h) (And.intro rfl (And.intro rfl (And.intro rfl (And.intro rfl trivial))))

def k_RM_scan_13 (N : Nat) : Nat → Int32 → Int32 → rm_S → Option (rm_S)
  | 0, _, _, _ => none
  | n + 1, y1, y2, S => if y2 = 0 then (some (S)) else (if (S.1 3) ≤ y1 then (k_RM_scan_40 N (k_RM_scan_13 N n) y1 1 1 0 S) else (chk (ib y1 8000) <| k_RM_scan_40 N (k_RM_scan_13 N n) y1 1 1 ((S.2 1 (Int32.toNatClampNeg y1))) S))
theorem q_RM_scan_13 {g : mv_G} {σ : mh_H} {m : Nat} {N : Nat} (H : rm_H g σ m) : ∀ (n : Nat) (y1 : Int32) (y2 : Int32) (S : rm_S) (r : rm_S), k_RM_scan_13 N n y1 y2 S = some r → mv_V g M_RM_scan 8 166 0 0 13 [some (.ref m), some (.int y1), some (.int y2), none, none, none] [] (rz σ m S) (fun oc τ => τ = rz σ m r ∧ oc = .returned none) := by
  intro n
  induction n with
  | zero =>
    intro y1 y2 S r h
    exact absurd h (by simp [k_RM_scan_13])
  | succ n ih =>
    intro y1 y2 S r h 
    unfold k_RM_scan_13 at h
    refine vr_iload_n d_RM_scan_13 rfl rfl ?_
    refine vr_if_eq (tgt := 489) d_RM_scan_14 (by decide) (fun c14 => ?_) (fun c14 => ?_)
    · replace h := l_ifp c14 h
      cases h
      exact vr_vret d_RM_scan_489 rfl ⟨rfl, rfl⟩
    · replace h := l_ifn c14 h
      refine vr_iconst 1 d_RM_scan_17 (by decide) ?_
      refine vr_istore_n (L' := [some (.ref m), some (.int y1), some (.int y2), some (.int 1), none, none]) d_RM_scan_18 rfl (by decide) rfl ?_
      refine vr_iconst 1 d_RM_scan_19 (by decide) ?_
      refine vr_istore (L' := [some (.ref m), some (.int y1), some (.int y2), some (.int 1), some (.int 1), none]) d_RM_scan_20 (by decide) rfl ?_
      refine vr_iload_n d_RM_scan_22 rfl rfl ?_
      refine vr_aload_n d_RM_scan_23 rfl rfl ?_
      refine rm_getI H d_RM_scan_24 F_RM_110 rfl ?_
      refine vr_icmp_ge (tgt := 39) d_RM_scan_27 (by decide) (fun c27 => ?_) (fun c27 => ?_)
      · replace h := l_ifp c27 h
        refine vr_iconst 0 d_RM_scan_39 (by decide) ?_
        exact mv_drop (q_RM_scan_40 H ih _ _ _ _ _ _ h) (And.intro rfl (And.intro rfl (And.intro rfl (And.intro rfl trivial))))
      · replace h := l_ifn c27 h
        refine vr_aload_n d_RM_scan_30 rfl rfl ?_
        refine rm_getR (o := 1) H d_RM_scan_31 F_RM_9 rfl (by decide) ?_
        refine vr_iload_n d_RM_scan_34 rfl rfl ?_
        have q2 := (l_chk h).1
        replace h := (l_chk h).2
        refine rm_ald (o := 1) H (by decide) (by decide) d_RM_scan_35 (ib_in q2) ?_
        refine vr_goto (tgt := 40) d_RM_scan_36 (by decide) ?_
        exact mv_drop (q_RM_scan_40 H ih _ _ _ _ _ _ h) (And.intro rfl (And.intro rfl (And.intro rfl (And.intro rfl trivial))))

def f_RM_scan (N : Nat) (S : rm_S) : Option (rm_S) := calI (f_RM_behindBlanks N 0 ((rs_i S 11 0))) fun v1 S1 => k_RM_scan_13 N N v1 1 S1
theorem c_RM_scan {g : mv_G} {σ : mh_H} {m : Nat} {N : Nat} (H : rm_H g σ m) {S : rm_S} {r : rm_S} (h : f_RM_scan N S = some r) : mv_Met g M_RM_scan 8 166 0 0 [.ref m] (rz σ m S) (fun oc τ => τ = rz σ m r ∧ oc = .returned none) := by
  refine mv_entry (L := [some (.ref m), none, none, none, none, none]) rfl rfl (Nat.le_of_ble_eq_true rfl) rfl ?_
  unfold f_RM_scan at h
  refine vr_aload_n d_RM_scan_0 rfl rfl ?_
  refine vr_iconst 0 d_RM_scan_1 (by decide) ?_
  refine rm_putI H d_RM_scan_2 W_RM_scan_140 rfl rfl rfl ?_
  refine vr_aload_n d_RM_scan_5 rfl rfl ?_
  refine vr_iconst 0 d_RM_scan_6 (by decide) ?_
  obtain ⟨v1, S1, ev1, h⟩ := l_calI h
  refine rm_callI [.int 0] H d_RM_scan_7 C_RM_143 (c_RM_behindBlanks H ev1) rfl rfl rfl (Nat.le_of_ble_eq_true rfl) (by decide) (Nat.le_of_ble_eq_true rfl) ?_
  refine vr_istore_n (L' := [some (.ref m), some (.int v1), none, none, none, none]) d_RM_scan_10 rfl (by decide) rfl ?_
  refine vr_iconst 1 d_RM_scan_11 (by decide) ?_
  refine vr_istore_n (L' := [some (.ref m), some (.int v1), some (.int 1), none, none, none]) d_RM_scan_12 rfl (by decide) rfl ?_
  exact mv_drop (q_RM_scan_13 H N _ _ _ _ h) (And.intro rfl (And.intro rfl (And.intro rfl trivial)))

