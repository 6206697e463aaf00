/-! the reference, lifted: what holds no text -/
def k_RM_isLetter_24 (N : Nat) (y0 : Int32) : Option (Int32) := if y0 = 95 then (some (1)) else (some (0))
theorem q_RM_isLetter_24 {g : mv_G} {σ : mh_H} {N : Nat} (y0 : Int32) (r : Int32) (h : k_RM_isLetter_24 N y0 = some r) : mv_V g M_RM_isLetter 0 0 0 0 24 [some (.int y0)] [] σ (fun oc τ => τ = σ ∧ oc = .returned (some (.int r))) := by
  unfold k_RM_isLetter_24 at h
  refine vr_iload_n d_RM_isLetter_24 rfl rfl ?_
  refine vr_bipush 95 d_RM_isLetter_25 (by decide) ?_
  refine vr_icmp_ne (tgt := 34) d_RM_isLetter_27 (by decide) (fun c27 => ?_) (fun c27 => ?_)
  · have h := l_ifn c27 h
    refine vr_iconst 0 d_RM_isLetter_34 (by decide) ?_
    cases h
    exact vr_iret d_RM_isLetter_35 rfl rfl ⟨rfl, rfl⟩
  · have h := l_ifp c27 h
    refine vr_iconst 1 d_RM_isLetter_30 (by decide) ?_
    refine vr_goto (tgt := 35) d_RM_isLetter_31 (by decide) ?_
    cases h
    exact vr_iret d_RM_isLetter_35 rfl rfl ⟨rfl, rfl⟩

def k_RM_isLetter_12 (N : Nat) (y0 : Int32) : Option (Int32) := if y0 < 65 then (k_RM_isLetter_24 N y0) else (if y0 ≤ 90 then (some (1)) else (k_RM_isLetter_24 N y0))
theorem q_RM_isLetter_12 {g : mv_G} {σ : mh_H} {N : Nat} (y0 : Int32) (r : Int32) (h : k_RM_isLetter_12 N y0 = some r) : mv_V g M_RM_isLetter 0 0 0 0 12 [some (.int y0)] [] σ (fun oc τ => τ = σ ∧ oc = .returned (some (.int r))) := by
  unfold k_RM_isLetter_12 at h
  refine vr_iload_n d_RM_isLetter_12 rfl rfl ?_
  refine vr_bipush 65 d_RM_isLetter_13 (by decide) ?_
  refine vr_icmp_lt (tgt := 24) d_RM_isLetter_15 (by decide) (fun c15 => ?_) (fun c15 => ?_)
  · have h := l_ifp c15 h
    exact mv_drop (q_RM_isLetter_24 _ _ h) (And.intro rfl trivial)
  · have h := l_ifn c15 h
    refine vr_iload_n d_RM_isLetter_18 rfl rfl ?_
    refine vr_bipush 90 d_RM_isLetter_19 (by decide) ?_
    refine vr_icmp_le (tgt := 30) d_RM_isLetter_21 (by decide) (fun c21 => ?_) (fun c21 => ?_)
    · have h := l_ifp c21 h
      refine vr_iconst 1 d_RM_isLetter_30 (by decide) ?_
      refine vr_goto (tgt := 35) d_RM_isLetter_31 (by decide) ?_
      cases h
      exact vr_iret d_RM_isLetter_35 rfl rfl ⟨rfl, rfl⟩
    · have h := l_ifn c21 h
      exact mv_drop (q_RM_isLetter_24 _ _ h) (And.intro rfl trivial)

def f_RM_isLetter (N : Nat) (x0 : Int32) : Option (Int32) := if x0 < 97 then (k_RM_isLetter_12 N x0) else (if x0 ≤ 122 then (some (1)) else (k_RM_isLetter_12 N x0))
theorem c_RM_isLetter {g : mv_G} {σ : mh_H} {N : Nat} {x0 : Int32} {r : Int32} (h : f_RM_isLetter N x0 = some r) : mv_Met g M_RM_isLetter 0 0 0 0 [.int x0] σ (fun oc τ => τ = σ ∧ oc = .returned (some (.int r))) := by
  refine mv_entry (L := [some (.int x0)]) rfl rfl (Nat.le_of_ble_eq_true rfl) rfl ?_
  unfold f_RM_isLetter at h
  refine vr_iload_n d_RM_isLetter_0 rfl rfl ?_
  refine vr_bipush 97 d_RM_isLetter_1 (by decide) ?_
  refine vr_icmp_lt (tgt := 12) d_RM_isLetter_3 (by decide) (fun c3 => ?_) (fun c3 => ?_)
  · have h := l_ifp c3 h
    exact mv_drop (q_RM_isLetter_12 _ _ h) (And.intro rfl trivial)
  · have h := l_ifn c3 h
    refine vr_iload_n d_RM_isLetter_6 rfl rfl ?_
    refine vr_bipush 122 d_RM_isLetter_7 (by decide) ?_
    refine vr_icmp_le (tgt := 30) d_RM_isLetter_9 (by decide) (fun c9 => ?_) (fun c9 => ?_)
    · have h := l_ifp c9 h
      refine vr_iconst 1 d_RM_isLetter_30 (by decide) ?_
      refine vr_goto (tgt := 35) d_RM_isLetter_31 (by decide) ?_
      cases h
      exact vr_iret d_RM_isLetter_35 rfl rfl ⟨rfl, rfl⟩
    · have h := l_ifn c9 h
      exact mv_drop (q_RM_isLetter_12 _ _ h) (And.intro rfl trivial)

def f_RM_isDigit (N : Nat) (x0 : Int32) : Option (Int32) := if x0 < 48 then (some (0)) else (if 57 < x0 then (some (0)) else (some (1)))
theorem c_RM_isDigit {g : mv_G} {σ : mh_H} {N : Nat} {x0 : Int32} {r : Int32} (h : f_RM_isDigit N x0 = some r) : mv_Met g M_RM_isDigit 0 0 0 0 [.int x0] σ (fun oc τ => τ = σ ∧ oc = .returned (some (.int r))) := by
  refine mv_entry (L := [some (.int x0)]) rfl rfl (Nat.le_of_ble_eq_true rfl) rfl ?_
  unfold f_RM_isDigit at h
  refine vr_iload_n d_RM_isDigit_0 rfl rfl ?_
  refine vr_bipush 48 d_RM_isDigit_1 (by decide) ?_
  refine vr_icmp_lt (tgt := 16) d_RM_isDigit_3 (by decide) (fun c3 => ?_) (fun c3 => ?_)
  · have h := l_ifp c3 h
    refine vr_iconst 0 d_RM_isDigit_16 (by decide) ?_
    cases h
    exact vr_iret d_RM_isDigit_17 rfl rfl ⟨rfl, rfl⟩
  · have h := l_ifn c3 h
    refine vr_iload_n d_RM_isDigit_6 rfl rfl ?_
    refine vr_bipush 57 d_RM_isDigit_7 (by decide) ?_
    refine vr_icmp_gt (tgt := 16) d_RM_isDigit_9 (by decide) (fun c9 => ?_) (fun c9 => ?_)
    · have h := l_ifp c9 h
      refine vr_iconst 0 d_RM_isDigit_16 (by decide) ?_
      cases h
      exact vr_iret d_RM_isDigit_17 rfl rfl ⟨rfl, rfl⟩
    · have h := l_ifn c9 h
      refine vr_iconst 1 d_RM_isDigit_12 (by decide) ?_
      refine vr_goto (tgt := 17) d_RM_isDigit_13 (by decide) ?_
      cases h
      exact vr_iret d_RM_isDigit_17 rfl rfl ⟨rfl, rfl⟩

def f_RM_isWordByte (N : Nat) (x0 : Int32) : Option (Int32) := calP (f_RM_isLetter N x0) fun v1 => if v1 = 0 then (calP (f_RM_isDigit N x0) fun v2 => if v2 = 0 then (some (0)) else (some (1))) else (some (1))
theorem c_RM_isWordByte {g : mv_G} {σ : mh_H} {N : Nat} {x0 : Int32} {r : Int32} (h : f_RM_isWordByte N x0 = some r) : mv_Met g M_RM_isWordByte 1 20 0 0 [.int x0] σ (fun oc τ => τ = σ ∧ oc = .returned (some (.int r))) := by
  refine mv_entry (L := [some (.int x0)]) rfl rfl (Nat.le_of_ble_eq_true rfl) rfl ?_
  unfold f_RM_isWordByte at h
  refine vr_iload_n d_RM_isWordByte_0 rfl rfl ?_
  obtain ⟨v1, ev1, h⟩ := l_calP h
  refine vr_callSP [.int x0] d_RM_isWordByte_1 C_RM_113 (c_RM_isLetter ev1) rfl rfl (by decide) (by decide) (Nat.le_of_ble_eq_true rfl) ?_
  refine vr_if_ne (tgt := 14) d_RM_isWordByte_4 (by decide) (fun c4 => ?_) (fun c4 => ?_)
  · have h := l_ifn c4 h
    refine vr_iconst 1 d_RM_isWordByte_14 (by decide) ?_
    refine vr_goto (tgt := 19) d_RM_isWordByte_15 (by decide) ?_
    cases h
    exact vr_iret d_RM_isWordByte_19 rfl rfl ⟨rfl, rfl⟩
  · have h := l_ifp c4 h
    refine vr_iload_n d_RM_isWordByte_7 rfl rfl ?_
    obtain ⟨v2, ev2, h⟩ := l_calP h
    refine vr_callSP [.int x0] d_RM_isWordByte_8 C_RM_117 (c_RM_isDigit ev2) rfl rfl (by decide) (by decide) (Nat.le_of_ble_eq_true rfl) ?_
    refine vr_if_eq (tgt := 18) d_RM_isWordByte_11 (by decide) (fun c11 => ?_) (fun c11 => ?_)
    · have h := l_ifp c11 h
      refine vr_iconst 0 d_RM_isWordByte_18 (by decide) ?_
      cases h
      exact vr_iret d_RM_isWordByte_19 rfl rfl ⟨rfl, rfl⟩
    · have h := l_ifn c11 h
      refine vr_iconst 1 d_RM_isWordByte_14 (by decide) ?_
      refine vr_goto (tgt := 19) d_RM_isWordByte_15 (by decide) ?_
      cases h
      exact vr_iret d_RM_isWordByte_19 rfl rfl ⟨rfl, rfl⟩

def k_RM_add_60 (N : Nat) : Nat → Int32 → Int32 → rm_S → Option (Int32 × rm_S)
  | 0, _, _, _ => none
  | n + 1, y1, y7, S => if y7 = (-1) then (chk (ib y1 2) <| chk (ib y1 2) <| bnd (((S.2 19 (Int32.toNatClampNeg y1)) + 1)) fun v10 => chk (ib y1 2) <| bnd (((rs_a S 19 (Int32.toNatClampNeg y1) v10).2 19 (Int32.toNatClampNeg y1))) fun v12 => some ((v12 - 1), (rs_a S 19 (Int32.toNatClampNeg y1) v10))) else (chk (ib ((13000 * y1) + y7) 26000) <| chk (ib ((13000 * y1) + y7) 26000) <| bnd (((S.2 18 (Int32.toNatClampNeg ((13000 * y1) + y7))) + 1)) fun v15 => chk (ib ((13000 * y1) + y7) 26000) <| bnd (((rs_a S 18 (Int32.toNatClampNeg ((13000 * y1) + y7)) v15).2 17 (Int32.toNatClampNeg ((13000 * y1) + y7)))) fun v17 => k_RM_add_60 N n y1 v17 ((rs_a S 18 (Int32.toNatClampNeg ((13000 * y1) + y7)) v15)))
theorem q_RM_add_60 {g : mv_G} {σ : mh_H} {m : Nat} {N : Nat} (H : rm_H g σ m) : ∀ (n : Nat) (y1 : Int32) (y7 : Int32) (S : rm_S) (r : Int32 × rm_S), k_RM_add_60 N n y1 y7 S = some r → mv_V g M_RM_add 0 0 0 0 60 [some (.ref m), some (.int y1), none, none, none, none, none, some (.int y7)] [] (rz σ m S) (fun oc τ => τ = rz σ m r.2 ∧ oc = .returned (some (.int r.1))) := by
  intro n
  induction n with
  | zero =>
    intro y1 y7 S r h
    exact absurd h (by simp [k_RM_add_60])
  | succ n ih =>
    intro y1 y7 S r h
    unfold k_RM_add_60 at h
    refine vr_iload d_RM_add_60 rfl ?_
    refine vr_iconst (-1) d_RM_add_62 (by decide) ?_
    refine vr_icmp_eq (tgt := 101) d_RM_add_63 (by decide) (fun c63 => ?_) (fun c63 => ?_)
    · have h := l_ifp c63 h
      refine vr_aload_n d_RM_add_101 rfl rfl ?_
      refine rm_getR (o := 19) H d_RM_add_102 F_RM_68 rfl (by decide) ?_
      refine vr_iload_n d_RM_add_105 rfl rfl ?_
      refine vr_dup2_11 d_RM_add_106 rfl rfl ?_
      have q8 := (l_chk h).1
      have h := (l_chk h).2
      refine rm_ald (o := 19) H (by decide) (by decide) d_RM_add_107 (ib_in q8) ?_
      refine vr_iconst 1 d_RM_add_108 (by decide) ?_
      refine vr_iadd d_RM_add_109 ?_
      have q9 := (l_chk h).1
      have h := (l_chk h).2
      obtain ⟨v10, ev10, h⟩ := l_bnd h
      refine vr_nm ev10 ?_
      refine rm_ast (o := 19) H (by decide) (by decide) d_RM_add_110 (ib_in q9) ?_
      refine vr_aload_n d_RM_add_111 rfl rfl ?_
      refine rm_getR (o := 19) H d_RM_add_112 F_RM_68 rfl (by decide) ?_
      refine vr_iload_n d_RM_add_115 rfl rfl ?_
      have q11 := (l_chk h).1
      have h := (l_chk h).2
      refine rm_ald (o := 19) H (by decide) (by decide) d_RM_add_116 (ib_in q11) ?_
      obtain ⟨v12, ev12, h⟩ := l_bnd h
      refine vr_nm ev12 ?_
      refine vr_iconst 1 d_RM_add_117 (by decide) ?_
      refine vr_isub d_RM_add_118 ?_
      cases h
      exact vr_iret d_RM_add_119 rfl rfl ⟨rfl, rfl⟩
    · have h := l_ifn c63 h
      refine vr_aload_n d_RM_add_66 rfl rfl ?_
      refine rm_getR (o := 18) H d_RM_add_67 F_RM_65 rfl (by decide) ?_
      refine vr_sipush 13000 d_RM_add_70 (by decide) ?_
      refine vr_iload_n d_RM_add_73 rfl rfl ?_
      refine vr_imul d_RM_add_74 ?_
      refine vr_iload d_RM_add_75 rfl ?_
      refine vr_iadd d_RM_add_77 ?_
      refine vr_dup2_11 d_RM_add_78 rfl rfl ?_
      have q13 := (l_chk h).1
      have h := (l_chk h).2
      refine rm_ald (o := 18) H (by decide) (by decide) d_RM_add_79 (ib_in q13) ?_
      refine vr_iconst 1 d_RM_add_80 (by decide) ?_
      refine vr_iadd d_RM_add_81 ?_
      have q14 := (l_chk h).1
      have h := (l_chk h).2
      obtain ⟨v15, ev15, h⟩ := l_bnd h
      refine vr_nm ev15 ?_
      refine rm_ast (o := 18) H (by decide) (by decide) d_RM_add_82 (ib_in q14) ?_
      refine vr_aload_n d_RM_add_83 rfl rfl ?_
      refine rm_getR (o := 17) H d_RM_add_84 F_RM_62 rfl (by decide) ?_
      refine vr_sipush 13000 d_RM_add_87 (by decide) ?_
      refine vr_iload_n d_RM_add_90 rfl rfl ?_
      refine vr_imul d_RM_add_91 ?_
      refine vr_iload d_RM_add_92 rfl ?_
      refine vr_iadd d_RM_add_94 ?_
      have q16 := (l_chk h).1
      have h := (l_chk h).2
      refine rm_ald (o := 17) H (by decide) (by decide) d_RM_add_95 (ib_in q16) ?_
      obtain ⟨v17, ev17, h⟩ := l_bnd h
      refine vr_nm ev17 ?_
      refine vr_istore (L' := [some (.ref m), some (.int y1), none, none, none, none, none, some (.int v17)]) d_RM_add_96 (by decide) rfl ?_
      refine vr_goto (tgt := 60) d_RM_add_98 (by decide) ?_
      exact mv_drop (ih _ _ _ _ h) (And.intro rfl (And.intro rfl (And.intro rfl trivial)))

def f_RM_add (N : Nat) (x1 : Int32) (x2 : Int32) (x3 : Int32) (x4 : Int32) (x5 : Int32) (S : rm_S) : Option (Int32 × rm_S) := chk (ib x1 2) <| bnd (((13000 * x1) + (S.2 19 (Int32.toNatClampNeg x1)))) fun v2 => chk (ib v2 26000) <| chk (ib v2 26000) <| chk (ib v2 26000) <| chk (ib v2 26000) <| chk (ib v2 26000) <| k_RM_add_60 N N x1 x5 ((rs_a (rs_a (rs_a (rs_a (rs_a S 14 (Int32.toNatClampNeg v2) x2) 15 (Int32.toNatClampNeg v2) x3) 16 (Int32.toNatClampNeg v2) x4) 17 (Int32.toNatClampNeg v2) x5) 18 (Int32.toNatClampNeg v2) 1))
theorem c_RM_add {g : mv_G} {σ : mh_H} {m : Nat} {N : Nat} (H : rm_H g σ m) {x1 : Int32} {x2 : Int32} {x3 : Int32} {x4 : Int32} {x5 : Int32} {S : rm_S} {r : Int32 × rm_S} (h : f_RM_add N x1 x2 x3 x4 x5 S = some r) : mv_Met g M_RM_add 0 0 0 0 [.ref m, .int x1, .int x2, .int x3, .int x4, .int x5] (rz σ m S) (fun oc τ => τ = rz σ m r.2 ∧ oc = .returned (some (.int r.1))) := by
  refine mv_entry (L := [some (.ref m), some (.int x1), some (.int x2), some (.int x3), some (.int x4), some (.int x5), none, none]) rfl rfl (Nat.le_of_ble_eq_true rfl) rfl ?_
  unfold f_RM_add at h
  refine vr_sipush 13000 d_RM_add_0 (by decide) ?_
  refine vr_iload_n d_RM_add_3 rfl rfl ?_
  refine vr_imul d_RM_add_4 ?_
  refine vr_aload_n d_RM_add_5 rfl rfl ?_
  refine rm_getR (o := 19) H d_RM_add_6 F_RM_68 rfl (by decide) ?_
  refine vr_iload_n d_RM_add_9 rfl rfl ?_
  have q1 := (l_chk h).1
  have h := (l_chk h).2
  refine rm_ald (o := 19) H (by decide) (by decide) d_RM_add_10 (ib_in q1) ?_
  refine vr_iadd d_RM_add_11 ?_
  obtain ⟨v2, ev2, h⟩ := l_bnd h
  refine vr_nm ev2 ?_
  refine vr_istore (L' := [some (.ref m), some (.int x1), some (.int x2), some (.int x3), some (.int x4), some (.int x5), some (.int v2), none]) d_RM_add_12 (by decide) rfl ?_
  refine vr_aload_n d_RM_add_14 rfl rfl ?_
  refine rm_getR (o := 14) H d_RM_add_15 F_RM_53 rfl (by decide) ?_
  refine vr_iload d_RM_add_18 rfl ?_
  refine vr_iload_n d_RM_add_20 rfl rfl ?_
  have q3 := (l_chk h).1
  have h := (l_chk h).2
  refine rm_ast (o := 14) H (by decide) (by decide) d_RM_add_21 (ib_in q3) ?_
  refine vr_aload_n d_RM_add_22 rfl rfl ?_
  refine rm_getR (o := 15) H d_RM_add_23 F_RM_56 rfl (by decide) ?_
  refine vr_iload d_RM_add_26 rfl ?_
  refine vr_iload_n d_RM_add_28 rfl rfl ?_
  have q4 := (l_chk h).1
  have h := (l_chk h).2
  refine rm_ast (o := 15) H (by decide) (by decide) d_RM_add_29 (ib_in q4) ?_
  refine vr_aload_n d_RM_add_30 rfl rfl ?_
  refine rm_getR (o := 16) H d_RM_add_31 F_RM_59 rfl (by decide) ?_
  refine vr_iload d_RM_add_34 rfl ?_
  refine vr_iload d_RM_add_36 rfl ?_
  have q5 := (l_chk h).1
  have h := (l_chk h).2
  refine rm_ast (o := 16) H (by decide) (by decide) d_RM_add_38 (ib_in q5) ?_
  refine vr_aload_n d_RM_add_39 rfl rfl ?_
  refine rm_getR (o := 17) H d_RM_add_40 F_RM_62 rfl (by decide) ?_
  refine vr_iload d_RM_add_43 rfl ?_
  refine vr_iload d_RM_add_45 rfl ?_
  have q6 := (l_chk h).1
  have h := (l_chk h).2
  refine rm_ast (o := 17) H (by decide) (by decide) d_RM_add_47 (ib_in q6) ?_
  refine vr_aload_n d_RM_add_48 rfl rfl ?_
  refine rm_getR (o := 18) H d_RM_add_49 F_RM_65 rfl (by decide) ?_
  refine vr_iload d_RM_add_52 rfl ?_
  refine vr_iconst 1 d_RM_add_54 (by decide) ?_
  have q7 := (l_chk h).1
  have h := (l_chk h).2
  refine rm_ast (o := 18) H (by decide) (by decide) d_RM_add_55 (ib_in q7) ?_
  refine vr_iload d_RM_add_56 rfl ?_
  refine vr_istore (L' := [some (.ref m), some (.int x1), some (.int x2), some (.int x3), some (.int x4), some (.int x5), some (.int v2), some (.int x5)]) d_RM_add_58 (by decide) rfl ?_
  exact mv_drop (q_RM_add_60 H N _ _ _ _ h) (And.intro rfl (And.intro rfl (And.intro rfl trivial)))

def f_RM_clear (N : Nat) (x1 : Int32) (S : rm_S) : Option (rm_S) := chk (ib x1 2) <| calI (f_RM_add N x1 0 0 0 (-1) ((rs_a S 19 (Int32.toNatClampNeg x1) 0))) fun v2 S2 => chk (ib (13000 * x1) 26000) <| some ((rs_a S2 15 (Int32.toNatClampNeg (13000 * x1)) (-1)))
theorem c_RM_clear {g : mv_G} {σ : mh_H} {m : Nat} {N : Nat} (H : rm_H g σ m) {x1 : Int32} {S : rm_S} {r : rm_S} (h : f_RM_clear N x1 S = some r) : mv_Met g M_RM_clear 1 27 0 0 [.ref m, .int x1] (rz σ m S) (fun oc τ => τ = rz σ m r ∧ oc = .returned none) := by
  refine mv_entry (L := [some (.ref m), some (.int x1)]) rfl rfl (Nat.le_of_ble_eq_true rfl) rfl ?_
  unfold f_RM_clear at h
  refine vr_aload_n d_RM_clear_0 rfl rfl ?_
  refine rm_getR (o := 19) H d_RM_clear_1 F_RM_68 rfl (by decide) ?_
  refine vr_iload_n d_RM_clear_4 rfl rfl ?_
  refine vr_iconst 0 d_RM_clear_5 (by decide) ?_
  have q1 := (l_chk h).1
  have h := (l_chk h).2
  refine rm_ast (o := 19) H (by decide) (by decide) d_RM_clear_6 (ib_in q1) ?_
  refine vr_aload_n d_RM_clear_7 rfl rfl ?_
  refine vr_iload_n d_RM_clear_8 rfl rfl ?_
  refine vr_iconst 0 d_RM_clear_9 (by decide) ?_
  refine vr_iconst 0 d_RM_clear_10 (by decide) ?_
  refine vr_iconst 0 d_RM_clear_11 (by decide) ?_
  refine vr_iconst (-1) d_RM_clear_12 (by decide) ?_
  obtain ⟨v2, S2, ev2, h⟩ := l_calI h
  refine rm_callI [.int x1, .int 0, .int 0, .int 0, .int (-1)] H d_RM_clear_13 C_RM_103 (c_RM_add H ev2) rfl rfl rfl (by decide) (by decide) (Nat.le_of_ble_eq_true rfl) ?_
  refine vr_pop d_RM_clear_16 rfl ?_
  refine vr_aload_n d_RM_clear_17 rfl rfl ?_
  refine rm_getR (o := 15) H d_RM_clear_18 F_RM_56 rfl (by decide) ?_
  refine vr_sipush 13000 d_RM_clear_21 (by decide) ?_
  refine vr_iload_n d_RM_clear_24 rfl rfl ?_
  refine vr_imul d_RM_clear_25 ?_
  refine vr_iconst (-1) d_RM_clear_26 (by decide) ?_
  have q3 := (l_chk h).1
  have h := (l_chk h).2
  refine rm_ast (o := 15) H (by decide) (by decide) d_RM_clear_27 (ib_in q3) ?_
  cases h
  exact vr_vret d_RM_clear_28 rfl ⟨rfl, rfl⟩

def k_RM_feed_71 (N : Nat) (k18 : Int32 → Int32 → Int32 → Int32 → Int32 → Int32 → rm_S → Option (Int32 × rm_S)) (y1 : Int32) (y2 : Int32) (y3 : Int32) (y4 : Int32) (y5 : Int32) (y6 : Int32) (z0 : Int32) (S : rm_S) : Option (Int32 × rm_S) := chk (ib (S.1 2) 8000) <| bnd (((z0 >>> ((24 - (8 * (y6 - y6 / 4 * 4))) &&& 31)) &&& 255)) fun v2 => bnd (((rs_a S 1 (Int32.toNatClampNeg (S.1 2)) v2).1 2)) fun v3 => bnd ((v3 + 1)) fun v4 => k18 y1 y2 y3 y4 y5 ((y6 + 1)) ((rs_i (rs_a S 1 (Int32.toNatClampNeg (S.1 2)) v2) 2 v4))
theorem q_RM_feed_71 {g : mv_G} {σ : mh_H} {m : Nat} {N : Nat} {k18 : Int32 → Int32 → Int32 → Int32 → Int32 → Int32 → rm_S → Option (Int32 × rm_S)} (H : rm_H g σ m) (hk18 : ∀ (y1 : Int32) (y2 : Int32) (y3 : Int32) (y4 : Int32) (y5 : Int32) (y6 : Int32) (S : rm_S) (r : Int32 × rm_S), k18 y1 y2 y3 y4 y5 y6 S = some r → mv_V g M_RM_feed 0 0 0 0 18 [some (.ref m), some (.int y1), some (.int y2), some (.int y3), some (.int y4), some (.int y5), some (.int y6), none] [] (rz σ m S) (fun oc τ => τ = rz σ m r.2 ∧ oc = .returned (some (.int r.1)))) (y1 : Int32) (y2 : Int32) (y3 : Int32) (y4 : Int32) (y5 : Int32) (y6 : Int32) (z0 : Int32) (S : rm_S) (r : Int32 × rm_S) (h : k_RM_feed_71 N k18 y1 y2 y3 y4 y5 y6 z0 S = some r) : mv_V g M_RM_feed 0 0 0 0 71 [some (.ref m), some (.int y1), some (.int y2), some (.int y3), some (.int y4), some (.int y5), some (.int y6), none] [.int z0] (rz σ m S) (fun oc τ => τ = rz σ m r.2 ∧ oc = .returned (some (.int r.1))) := by
  unfold k_RM_feed_71 at h
  refine vr_istore (L' := [some (.ref m), some (.int y1), some (.int y2), some (.int y3), some (.int y4), some (.int y5), some (.int y6), some (.int z0)]) d_RM_feed_71 (by decide) rfl ?_
  refine vr_aload_n d_RM_feed_73 rfl rfl ?_
  refine rm_getR (o := 1) H d_RM_feed_74 F_RM_9 rfl (by decide) ?_
  refine vr_aload_n d_RM_feed_77 rfl rfl ?_
  refine rm_getI H d_RM_feed_78 F_RM_107 rfl ?_
  refine vr_iload d_RM_feed_81 rfl ?_
  refine vr_bipush 24 d_RM_feed_83 (by decide) ?_
  refine vr_bipush 8 d_RM_feed_85 (by decide) ?_
  refine vr_iload d_RM_feed_87 rfl ?_
  refine vr_iconst 4 d_RM_feed_89 (by decide) ?_
  refine vr_irem d_RM_feed_90 (by decide) ?_
  refine vr_imul d_RM_feed_91 ?_
  refine vr_isub d_RM_feed_92 ?_
  refine vr_ishr d_RM_feed_93 ?_
  refine vr_sipush 255 d_RM_feed_94 (by decide) ?_
  refine vr_iand d_RM_feed_97 ?_
  have q1 := (l_chk h).1
  have h := (l_chk h).2
  obtain ⟨v2, ev2, h⟩ := l_bnd h
  refine vr_nm ev2 ?_
  refine rm_ast (o := 1) H (by decide) (by decide) d_RM_feed_98 (ib_in q1) ?_
  refine vr_aload_n d_RM_feed_99 rfl rfl ?_
  refine vr_dup d_RM_feed_100 rfl ?_
  refine rm_getI H d_RM_feed_101 F_RM_107 rfl ?_
  obtain ⟨v3, ev3, h⟩ := l_bnd h
  refine vr_nm ev3 ?_
  refine vr_iconst 1 d_RM_feed_104 (by decide) ?_
  refine vr_iadd d_RM_feed_105 ?_
  obtain ⟨v4, ev4, h⟩ := l_bnd h
  refine vr_nm ev4 ?_
  refine rm_putI H d_RM_feed_106 W_RM_feed_107 rfl rfl rfl ?_
  refine vr_iinc (L' := [some (.ref m), some (.int y1), some (.int y2), some (.int y3), some (.int y4), some (.int y5), some (.int (y6 + 1)), some (.int z0)]) (y6 + 1) d_RM_feed_109 (by decide) rfl rfl rfl ?_
  refine vr_goto (tgt := 18) d_RM_feed_112 (by decide) ?_
  exact mv_drop (hk18 _ _ _ _ _ _ _ _ h) (And.intro rfl (And.intro rfl (And.intro rfl (And.intro rfl (And.intro rfl (And.intro rfl (And.intro rfl trivial)))))))

def k_RM_feed_18 (N : Nat) : Nat → Int32 → Int32 → Int32 → Int32 → Int32 → Int32 → rm_S → Option (Int32 × rm_S)
  | 0, _, _, _, _, _, _, _ => none
  | n + 1, y1, y2, y3, y4, y5, y6, S => if 20 ≤ y6 then (some ((S.1 2), S)) else (if 4 ≤ y6 then (if 8 ≤ y6 then (if 12 ≤ y6 then (if 16 ≤ y6 then (k_RM_feed_71 N (k_RM_feed_18 N n) y1 y2 y3 y4 y5 y6 y5 S) else (k_RM_feed_71 N (k_RM_feed_18 N n) y1 y2 y3 y4 y5 y6 y4 S)) else (k_RM_feed_71 N (k_RM_feed_18 N n) y1 y2 y3 y4 y5 y6 y3 S)) else (k_RM_feed_71 N (k_RM_feed_18 N n) y1 y2 y3 y4 y5 y6 y2 S)) else (k_RM_feed_71 N (k_RM_feed_18 N n) y1 y2 y3 y4 y5 y6 y1 S))
theorem q_RM_feed_18 {g : mv_G} {σ : mh_H} {m : Nat} {N : Nat} (H : rm_H g σ m) : ∀ (n : Nat) (y1 : Int32) (y2 : Int32) (y3 : Int32) (y4 : Int32) (y5 : Int32) (y6 : Int32) (S : rm_S) (r : Int32 × rm_S), k_RM_feed_18 N n y1 y2 y3 y4 y5 y6 S = some r → mv_V g M_RM_feed 0 0 0 0 18 [some (.ref m), some (.int y1), some (.int y2), some (.int y3), some (.int y4), some (.int y5), some (.int y6), none] [] (rz σ m S) (fun oc τ => τ = rz σ m r.2 ∧ oc = .returned (some (.int r.1))) := by
  intro n
  induction n with
  | zero =>
    intro y1 y2 y3 y4 y5 y6 S r h
    exact absurd h (by simp [k_RM_feed_18])
  | succ n ih =>
    intro y1 y2 y3 y4 y5 y6 S r h
    unfold k_RM_feed_18 at h
    refine vr_iload d_RM_feed_18 rfl ?_
    refine vr_bipush 20 d_RM_feed_20 (by decide) ?_
    refine vr_icmp_ge (tgt := 115) d_RM_feed_22 (by decide) (fun c22 => ?_) (fun c22 => ?_)
    · have h := l_ifp c22 h
      refine vr_aload_n d_RM_feed_115 rfl rfl ?_
      refine rm_getI H d_RM_feed_116 F_RM_107 rfl ?_
      cases h
      exact vr_iret d_RM_feed_119 rfl rfl ⟨rfl, rfl⟩
    · have h := l_ifn c22 h
      refine vr_iload d_RM_feed_25 rfl ?_
      refine vr_iconst 4 d_RM_feed_27 (by decide) ?_
      refine vr_icmp_ge (tgt := 35) d_RM_feed_28 (by decide) (fun c28 => ?_) (fun c28 => ?_)
      · have h := l_ifp c28 h
        refine vr_iload d_RM_feed_35 rfl ?_
        refine vr_bipush 8 d_RM_feed_37 (by decide) ?_
        refine vr_icmp_ge (tgt := 46) d_RM_feed_39 (by decide) (fun c39 => ?_) (fun c39 => ?_)
        · have h := l_ifp c39 h
          refine vr_iload d_RM_feed_46 rfl ?_
          refine vr_bipush 12 d_RM_feed_48 (by decide) ?_
          refine vr_icmp_ge (tgt := 57) d_RM_feed_50 (by decide) (fun c50 => ?_) (fun c50 => ?_)
          · have h := l_ifp c50 h
            refine vr_iload d_RM_feed_57 rfl ?_
            refine vr_bipush 16 d_RM_feed_59 (by decide) ?_
            refine vr_icmp_ge (tgt := 69) d_RM_feed_61 (by decide) (fun c61 => ?_) (fun c61 => ?_)
            · have h := l_ifp c61 h
              refine vr_iload d_RM_feed_69 rfl ?_
              exact mv_drop (q_RM_feed_71 H ih _ _ _ _ _ _ _ _ _ h) (And.intro rfl (And.intro rfl (And.intro rfl (And.intro rfl (And.intro rfl (And.intro rfl (And.intro rfl trivial)))))))
            · have h := l_ifn c61 h
              refine vr_iload d_RM_feed_64 rfl ?_
              refine vr_goto (tgt := 71) d_RM_feed_66 (by decide) ?_
              exact mv_drop (q_RM_feed_71 H ih _ _ _ _ _ _ _ _ _ h) (And.intro rfl (And.intro rfl (And.intro rfl (And.intro rfl (And.intro rfl (And.intro rfl (And.intro rfl trivial)))))))
          · have h := l_ifn c50 h
            refine vr_iload_n d_RM_feed_53 rfl rfl ?_
            refine vr_goto (tgt := 71) d_RM_feed_54 (by decide) ?_
            exact mv_drop (q_RM_feed_71 H ih _ _ _ _ _ _ _ _ _ h) (And.intro rfl (And.intro rfl (And.intro rfl (And.intro rfl (And.intro rfl (And.intro rfl (And.intro rfl trivial)))))))
        · have h := l_ifn c39 h
          refine vr_iload_n d_RM_feed_42 rfl rfl ?_
          refine vr_goto (tgt := 71) d_RM_feed_43 (by decide) ?_
          exact mv_drop (q_RM_feed_71 H ih _ _ _ _ _ _ _ _ _ h) (And.intro rfl (And.intro rfl (And.intro rfl (And.intro rfl (And.intro rfl (And.intro rfl (And.intro rfl trivial)))))))
      · have h := l_ifn c28 h
        refine vr_iload_n d_RM_feed_31 rfl rfl ?_
        refine vr_goto (tgt := 71) d_RM_feed_32 (by decide) ?_
        exact mv_drop (q_RM_feed_71 H ih _ _ _ _ _ _ _ _ _ h) (And.intro rfl (And.intro rfl (And.intro rfl (And.intro rfl (And.intro rfl (And.intro rfl (And.intro rfl trivial)))))))

def f_RM_feed (N : Nat) (x1 : Int32) (x2 : Int32) (x3 : Int32) (x4 : Int32) (x5 : Int32) (S : rm_S) : Option (Int32 × rm_S) := if ((S.1 2) + 20) ≤ 8000 then (k_RM_feed_18 N N x1 x2 x3 x4 x5 0 S) else (some ((-1), S))
theorem c_RM_feed {g : mv_G} {σ : mh_H} {m : Nat} {N : Nat} (H : rm_H g σ m) {x1 : Int32} {x2 : Int32} {x3 : Int32} {x4 : Int32} {x5 : Int32} {S : rm_S} {r : Int32 × rm_S} (h : f_RM_feed N x1 x2 x3 x4 x5 S = some r) : mv_Met g M_RM_feed 0 0 0 0 [.ref m, .int x1, .int x2, .int x3, .int x4, .int x5] (rz σ m S) (fun oc τ => τ = rz σ m r.2 ∧ oc = .returned (some (.int r.1))) := by
  refine mv_entry (L := [some (.ref m), some (.int x1), some (.int x2), some (.int x3), some (.int x4), some (.int x5), none, none]) rfl rfl (Nat.le_of_ble_eq_true rfl) rfl ?_
  unfold f_RM_feed at h
  refine vr_aload_n d_RM_feed_0 rfl rfl ?_
  refine rm_getI H d_RM_feed_1 F_RM_107 rfl ?_
  refine vr_bipush 20 d_RM_feed_4 (by decide) ?_
  refine vr_iadd d_RM_feed_6 ?_
  refine vr_sipush 8000 d_RM_feed_7 (by decide) ?_
  refine vr_icmp_le (tgt := 15) d_RM_feed_10 (by decide) (fun c10 => ?_) (fun c10 => ?_)
  · have h := l_ifp c10 h
    refine vr_iconst 0 d_RM_feed_15 (by decide) ?_
    refine vr_istore (L' := [some (.ref m), some (.int x1), some (.int x2), some (.int x3), some (.int x4), some (.int x5), some (.int 0), none]) d_RM_feed_16 (by decide) rfl ?_
    exact mv_drop (q_RM_feed_18 H N _ _ _ _ _ _ _ _ h) (And.intro rfl (And.intro rfl (And.intro rfl (And.intro rfl (And.intro rfl (And.intro rfl (And.intro rfl trivial)))))))
  · have h := l_ifn c10 h
    refine vr_iconst (-1) d_RM_feed_13 (by decide) ?_
    cases h
    exact vr_iret d_RM_feed_14 rfl rfl ⟨rfl, rfl⟩

def f_RM_isAt (N : Nat) (x1 : Int32) (x2 : Int32) (x3 : Int32) (S : rm_S) : Option (Int32 × rm_S) := if (S.1 3) ≤ (x1 + 1) then (some (0, S)) else (chk (ib x1 8000) <| if (S.2 1 (Int32.toNatClampNeg x1)) = x2 then (chk (ib (x1 + 1) 8000) <| if (S.2 1 (Int32.toNatClampNeg (x1 + 1))) = x3 then (some (1, S)) else (some (0, S))) else (some (0, S)))
theorem c_RM_isAt {g : mv_G} {σ : mh_H} {m : Nat} {N : Nat} (H : rm_H g σ m) {x1 : Int32} {x2 : Int32} {x3 : Int32} {S : rm_S} {r : Int32 × rm_S} (h : f_RM_isAt N x1 x2 x3 S = some r) : mv_Met g M_RM_isAt 0 0 0 0 [.ref m, .int x1, .int x2, .int x3] (rz σ m S) (fun oc τ => τ = rz σ m r.2 ∧ oc = .returned (some (.int r.1))) := by
  refine mv_entry (L := [some (.ref m), some (.int x1), some (.int x2), some (.int x3)]) rfl rfl (Nat.le_of_ble_eq_true rfl) rfl ?_
  unfold f_RM_isAt at h
  refine vr_iload_n d_RM_isAt_0 rfl rfl ?_
  refine vr_iconst 1 d_RM_isAt_1 (by decide) ?_
  refine vr_iadd d_RM_isAt_2 ?_
  refine vr_aload_n d_RM_isAt_3 rfl rfl ?_
  refine rm_getI H d_RM_isAt_4 F_RM_110 rfl ?_
  refine vr_icmp_ge (tgt := 36) d_RM_isAt_7 (by decide) (fun c7 => ?_) (fun c7 => ?_)
  · have h := l_ifp c7 h
    refine vr_iconst 0 d_RM_isAt_36 (by decide) ?_
    cases h
    exact vr_iret d_RM_isAt_37 rfl rfl ⟨rfl, rfl⟩
  · have h := l_ifn c7 h
    refine vr_aload_n d_RM_isAt_10 rfl rfl ?_
    refine rm_getR (o := 1) H d_RM_isAt_11 F_RM_9 rfl (by decide) ?_
    refine vr_iload_n d_RM_isAt_14 rfl rfl ?_
    have q1 := (l_chk h).1
    have h := (l_chk h).2
    refine rm_ald (o := 1) H (by decide) (by decide) d_RM_isAt_15 (ib_in q1) ?_
    refine vr_iload_n d_RM_isAt_16 rfl rfl ?_
    refine vr_icmp_ne (tgt := 36) d_RM_isAt_17 (by decide) (fun c17 => ?_) (fun c17 => ?_)
    · have h := l_ifn c17 h
      refine vr_iconst 0 d_RM_isAt_36 (by decide) ?_
      cases h
      exact vr_iret d_RM_isAt_37 rfl rfl ⟨rfl, rfl⟩
    · have h := l_ifp c17 h
      refine vr_aload_n d_RM_isAt_20 rfl rfl ?_
      refine rm_getR (o := 1) H d_RM_isAt_21 F_RM_9 rfl (by decide) ?_
      refine vr_iload_n d_RM_isAt_24 rfl rfl ?_
      refine vr_iconst 1 d_RM_isAt_25 (by decide) ?_
      refine vr_iadd d_RM_isAt_26 ?_
      have q2 := (l_chk h).1
      have h := (l_chk h).2
      refine rm_ald (o := 1) H (by decide) (by decide) d_RM_isAt_27 (ib_in q2) ?_
      refine vr_iload_n d_RM_isAt_28 rfl rfl ?_
      refine vr_icmp_ne (tgt := 36) d_RM_isAt_29 (by decide) (fun c29 => ?_) (fun c29 => ?_)
      · have h := l_ifn c29 h
        refine vr_iconst 0 d_RM_isAt_36 (by decide) ?_
        cases h
        exact vr_iret d_RM_isAt_37 rfl rfl ⟨rfl, rfl⟩
      · have h := l_ifp c29 h
        refine vr_iconst 1 d_RM_isAt_32 (by decide) ?_
        refine vr_goto (tgt := 37) d_RM_isAt_33 (by decide) ?_
        cases h
        exact vr_iret d_RM_isAt_37 rfl rfl ⟨rfl, rfl⟩

def f_RM_isWord (N : Nat) (x1 : Int32) (S : rm_S) : Option (Int32 × rm_S) := if (S.1 3) ≤ x1 then (some (0, S)) else (chk (ib x1 8000) <| calP (f_RM_isLetter N ((S.2 1 (Int32.toNatClampNeg x1)))) fun v2 => if v2 = 0 then (chk (ib x1 8000) <| calP (f_RM_isDigit N ((S.2 1 (Int32.toNatClampNeg x1)))) fun v4 => if v4 = 0 then (some (0, S)) else (some (1, S))) else (some (1, S)))
theorem c_RM_isWord {g : mv_G} {σ : mh_H} {m : Nat} {N : Nat} (H : rm_H g σ m) {x1 : Int32} {S : rm_S} {r : Int32 × rm_S} (h : f_RM_isWord N x1 S = some r) : mv_Met g M_RM_isWord 1 20 0 0 [.ref m, .int x1] (rz σ m S) (fun oc τ => τ = rz σ m r.2 ∧ oc = .returned (some (.int r.1))) := by
  refine mv_entry (L := [some (.ref m), some (.int x1)]) rfl rfl (Nat.le_of_ble_eq_true rfl) rfl ?_
  unfold f_RM_isWord at h
  refine vr_iload_n d_RM_isWord_0 rfl rfl ?_
  refine vr_aload_n d_RM_isWord_1 rfl rfl ?_
  refine rm_getI H d_RM_isWord_2 F_RM_110 rfl ?_
  refine vr_icmp_ge (tgt := 36) d_RM_isWord_5 (by decide) (fun c5 => ?_) (fun c5 => ?_)
  · have h := l_ifp c5 h
    refine vr_iconst 0 d_RM_isWord_36 (by decide) ?_
    cases h
    exact vr_iret d_RM_isWord_37 rfl rfl ⟨rfl, rfl⟩
  · have h := l_ifn c5 h
    refine vr_aload_n d_RM_isWord_8 rfl rfl ?_
    refine rm_getR (o := 1) H d_RM_isWord_9 F_RM_9 rfl (by decide) ?_
    refine vr_iload_n d_RM_isWord_12 rfl rfl ?_
    have q1 := (l_chk h).1
    have h := (l_chk h).2
    refine rm_ald (o := 1) H (by decide) (by decide) d_RM_isWord_13 (ib_in q1) ?_
    obtain ⟨v2, ev2, h⟩ := l_calP h
    refine vr_callSP [.int (S.2 1 (Int32.toNatClampNeg x1))] d_RM_isWord_14 C_RM_113 (c_RM_isLetter ev2) rfl rfl (by decide) (by decide) (Nat.le_of_ble_eq_true rfl) ?_
    refine vr_if_ne (tgt := 32) d_RM_isWord_17 (by decide) (fun c17 => ?_) (fun c17 => ?_)
    · have h := l_ifn c17 h
      refine vr_iconst 1 d_RM_isWord_32 (by decide) ?_
      refine vr_goto (tgt := 37) d_RM_isWord_33 (by decide) ?_
      cases h
      exact vr_iret d_RM_isWord_37 rfl rfl ⟨rfl, rfl⟩
    · have h := l_ifp c17 h
      refine vr_aload_n d_RM_isWord_20 rfl rfl ?_
      refine rm_getR (o := 1) H d_RM_isWord_21 F_RM_9 rfl (by decide) ?_
      refine vr_iload_n d_RM_isWord_24 rfl rfl ?_
      have q3 := (l_chk h).1
      have h := (l_chk h).2
      refine rm_ald (o := 1) H (by decide) (by decide) d_RM_isWord_25 (ib_in q3) ?_
      obtain ⟨v4, ev4, h⟩ := l_calP h
      refine vr_callSP [.int (S.2 1 (Int32.toNatClampNeg x1))] d_RM_isWord_26 C_RM_117 (c_RM_isDigit ev4) rfl rfl (by decide) (by decide) (Nat.le_of_ble_eq_true rfl) ?_
      refine vr_if_eq (tgt := 36) d_RM_isWord_29 (by decide) (fun c29 => ?_) (fun c29 => ?_)
      · have h := l_ifp c29 h
        refine vr_iconst 0 d_RM_isWord_36 (by decide) ?_
        cases h
        exact vr_iret d_RM_isWord_37 rfl rfl ⟨rfl, rfl⟩
      · have h := l_ifn c29 h
        refine vr_iconst 1 d_RM_isWord_32 (by decide) ?_
        refine vr_goto (tgt := 37) d_RM_isWord_33 (by decide) ?_
        cases h
        exact vr_iret d_RM_isWord_37 rfl rfl ⟨rfl, rfl⟩

def k_RM_behindBlanks_70 (N : Nat) (k4 : Int32 → Int32 → rm_S → Option (Int32 × rm_S)) : Nat → Int32 → Int32 → rm_S → Option (Int32 × rm_S)
  | 0, _, _, _ => none
  | n + 1, y2, y3, S => if (S.1 3) ≤ y2 then (k4 y2 y3 S) else (chk (ib y2 8000) <| if (S.2 1 (Int32.toNatClampNeg y2)) = 10 then (k4 y2 y3 S) else (k_RM_behindBlanks_70 N k4 n ((y2 + 1)) y3 S))
theorem q_RM_behindBlanks_70 {g : mv_G} {σ : mh_H} {m : Nat} {N : Nat} {k4 : Int32 → Int32 → rm_S → Option (Int32 × rm_S)} (H : rm_H g σ m) (hk4 : ∀ (y2 : Int32) (y3 : Int32) (S : rm_S) (r : Int32 × rm_S), k4 y2 y3 S = some r → mv_V g M_RM_behindBlanks 1 23 0 0 4 [some (.ref m), none, some (.int y2), some (.int y3), none] [] (rz σ m S) (fun oc τ => τ = rz σ m r.2 ∧ oc = .returned (some (.int r.1)))) : ∀ (n : Nat) (y2 : Int32) (y3 : Int32) (S : rm_S) (r : Int32 × rm_S), k_RM_behindBlanks_70 N k4 n y2 y3 S = some r → mv_V g M_RM_behindBlanks 1 23 0 0 70 [some (.ref m), none, some (.int y2), some (.int y3), none] [] (rz σ m S) (fun oc τ => τ = rz σ m r.2 ∧ oc = .returned (some (.int r.1))) := by
  intro n
  induction n with
  | zero =>
    intro y2 y3 S r h
    exact absurd h (by simp [k_RM_behindBlanks_70])
  | succ n ih =>
    intro y2 y3 S r h
    unfold k_RM_behindBlanks_70 at h
    refine vr_iload_n d_RM_behindBlanks_70 rfl rfl ?_
    refine vr_aload_n d_RM_behindBlanks_71 rfl rfl ?_
    refine rm_getI H d_RM_behindBlanks_72 F_RM_110 rfl ?_
    refine vr_icmp_ge (tgt := 97) d_RM_behindBlanks_75 (by decide) (fun c75 => ?_) (fun c75 => ?_)
    · have h := l_ifp c75 h
      refine vr_goto (tgt := 4) d_RM_behindBlanks_97 (by decide) ?_
      exact mv_drop (hk4 _ _ _ _ h) (And.intro rfl (And.intro rfl (And.intro rfl trivial)))
    · have h := l_ifn c75 h
      refine vr_aload_n d_RM_behindBlanks_78 rfl rfl ?_
      refine rm_getR (o := 1) H d_RM_behindBlanks_79 F_RM_9 rfl (by decide) ?_
      refine vr_iload_n d_RM_behindBlanks_82 rfl rfl ?_
      have q4 := (l_chk h).1
      have h := (l_chk h).2
      refine rm_ald (o := 1) H (by decide) (by decide) d_RM_behindBlanks_83 (ib_in q4) ?_
      refine vr_bipush 10 d_RM_behindBlanks_84 (by decide) ?_
      refine vr_icmp_eq (tgt := 97) d_RM_behindBlanks_86 (by decide) (fun c86 => ?_) (fun c86 => ?_)
      · have h := l_ifp c86 h
        refine vr_goto (tgt := 4) d_RM_behindBlanks_97 (by decide) ?_
        exact mv_drop (hk4 _ _ _ _ h) (And.intro rfl (And.intro rfl (And.intro rfl trivial)))
      · have h := l_ifn c86 h
        refine vr_iinc (L' := [some (.ref m), none, some (.int (y2 + 1)), some (.int y3), none]) (y2 + 1) d_RM_behindBlanks_89 (by decide) rfl rfl rfl ?_
        refine vr_goto (tgt := 70) d_RM_behindBlanks_92 (by decide) ?_
        exact mv_drop (ih _ _ _ _ h) (And.intro rfl (And.intro rfl (And.intro rfl trivial)))

def k_RM_behindBlanks_4 (N : Nat) : Nat → Int32 → Int32 → rm_S → Option (Int32 × rm_S)
  | 0, _, _, _ => none
  | n + 1, y2, y3, S => if y3 = 0 then (some (y2, S)) else (if (S.1 3) ≤ y2 then (some (y2, S)) else (chk (ib y2 8000) <| bnd ((S.2 1 (Int32.toNatClampNeg y2))) fun v2 => if v2 = 9 then (k_RM_behindBlanks_4 N n ((y2 + 1)) y3 S) else (if v2 = 10 then (k_RM_behindBlanks_4 N n ((y2 + 1)) y3 S) else (if v2 = 13 then (k_RM_behindBlanks_4 N n ((y2 + 1)) y3 S) else (if v2 = 32 then (k_RM_behindBlanks_4 N n ((y2 + 1)) y3 S) else (calI (f_RM_isAt N y2 47 47 S) fun v3 S3 => if v3 = 0 then (k_RM_behindBlanks_4 N n y2 0 S3) else (k_RM_behindBlanks_70 N (k_RM_behindBlanks_4 N n) N y2 y3 S3)))))))
theorem q_RM_behindBlanks_4 {g : mv_G} {σ : mh_H} {m : Nat} {N : Nat} (H : rm_H g σ m) : ∀ (n : Nat) (y2 : Int32) (y3 : Int32) (S : rm_S) (r : Int32 × rm_S), k_RM_behindBlanks_4 N n y2 y3 S = some r → mv_V g M_RM_behindBlanks 1 23 0 0 4 [some (.ref m), none, some (.int y2), some (.int y3), none] [] (rz σ m S) (fun oc τ => τ = rz σ m r.2 ∧ oc = .returned (some (.int r.1))) := by
  intro n
  induction n with
  | zero =>
    intro y2 y3 S r h
    exact absurd h (by simp [k_RM_behindBlanks_4])
  | succ n ih =>
    intro y2 y3 S r h
    unfold k_RM_behindBlanks_4 at h
    refine vr_iload_n d_RM_behindBlanks_4 rfl rfl ?_
    refine vr_if_eq (tgt := 100) d_RM_behindBlanks_5 (by decide) (fun c5 => ?_) (fun c5 => ?_)
    · have h := l_ifp c5 h
      refine vr_iload_n d_RM_behindBlanks_100 rfl rfl ?_
      cases h
      exact vr_iret d_RM_behindBlanks_101 rfl rfl ⟨rfl, rfl⟩
    · have h := l_ifn c5 h
      refine vr_iload_n d_RM_behindBlanks_8 rfl rfl ?_
      refine vr_aload_n d_RM_behindBlanks_9 rfl rfl ?_
      refine rm_getI H d_RM_behindBlanks_10 F_RM_110 rfl ?_
      refine vr_icmp_ge (tgt := 100) d_RM_behindBlanks_13 (by decide) (fun c13 => ?_) (fun c13 => ?_)
      · have h := l_ifp c13 h
        refine vr_iload_n d_RM_behindBlanks_100 rfl rfl ?_
        cases h
        exact vr_iret d_RM_behindBlanks_101 rfl rfl ⟨rfl, rfl⟩
      · have h := l_ifn c13 h
        refine vr_aload_n d_RM_behindBlanks_16 rfl rfl ?_
        refine rm_getR (o := 1) H d_RM_behindBlanks_17 F_RM_9 rfl (by decide) ?_
        refine vr_iload_n d_RM_behindBlanks_20 rfl rfl ?_
        have q1 := (l_chk h).1
        have h := (l_chk h).2
        refine rm_ald (o := 1) H (by decide) (by decide) d_RM_behindBlanks_21 (ib_in q1) ?_
        obtain ⟨v2, ev2, h⟩ := l_bnd h
        refine vr_nm ev2 ?_
        refine vr_istore (L' := [some (.ref m), none, some (.int y2), some (.int y3), some (.int v2)]) d_RM_behindBlanks_22 (by decide) rfl ?_
        refine vr_iload d_RM_behindBlanks_24 rfl ?_
        refine vr_bipush 9 d_RM_behindBlanks_26 (by decide) ?_
        refine vr_icmp_eq (tgt := 52) d_RM_behindBlanks_28 (by decide) (fun c28 => ?_) (fun c28 => ?_)
        · have h := l_ifp c28 h
          refine vr_iinc (L' := [some (.ref m), none, some (.int (y2 + 1)), some (.int y3), some (.int v2)]) (y2 + 1) d_RM_behindBlanks_52 (by decide) rfl rfl rfl ?_
          refine vr_goto (tgt := 97) d_RM_behindBlanks_55 (by decide) ?_
          refine vr_goto (tgt := 4) d_RM_behindBlanks_97 (by decide) ?_
          exact mv_drop (ih _ _ _ _ h) (And.intro rfl (And.intro rfl (And.intro rfl trivial)))
        · have h := l_ifn c28 h
          refine vr_iload d_RM_behindBlanks_31 rfl ?_
          refine vr_bipush 10 d_RM_behindBlanks_33 (by decide) ?_
          refine vr_icmp_eq (tgt := 52) d_RM_behindBlanks_35 (by decide) (fun c35 => ?_) (fun c35 => ?_)
          · have h := l_ifp c35 h
            refine vr_iinc (L' := [some (.ref m), none, some (.int (y2 + 1)), some (.int y3), some (.int v2)]) (y2 + 1) d_RM_behindBlanks_52 (by decide) rfl rfl rfl ?_
            refine vr_goto (tgt := 97) d_RM_behindBlanks_55 (by decide) ?_
            refine vr_goto (tgt := 4) d_RM_behindBlanks_97 (by decide) ?_
            exact mv_drop (ih _ _ _ _ h) (And.intro rfl (And.intro rfl (And.intro rfl trivial)))
          · have h := l_ifn c35 h
            refine vr_iload d_RM_behindBlanks_38 rfl ?_
            refine vr_bipush 13 d_RM_behindBlanks_40 (by decide) ?_
            refine vr_icmp_eq (tgt := 52) d_RM_behindBlanks_42 (by decide) (fun c42 => ?_) (fun c42 => ?_)
            · have h := l_ifp c42 h
              refine vr_iinc (L' := [some (.ref m), none, some (.int (y2 + 1)), some (.int y3), some (.int v2)]) (y2 + 1) d_RM_behindBlanks_52 (by decide) rfl rfl rfl ?_
              refine vr_goto (tgt := 97) d_RM_behindBlanks_55 (by decide) ?_
              refine vr_goto (tgt := 4) d_RM_behindBlanks_97 (by decide) ?_
              exact mv_drop (ih _ _ _ _ h) (And.intro rfl (And.intro rfl (And.intro rfl trivial)))
            · have h := l_ifn c42 h
              refine vr_iload d_RM_behindBlanks_45 rfl ?_
              refine vr_bipush 32 d_RM_behindBlanks_47 (by decide) ?_
              refine vr_icmp_ne (tgt := 58) d_RM_behindBlanks_49 (by decide) (fun c49 => ?_) (fun c49 => ?_)
              · have h := l_ifn c49 h
                refine vr_aload_n d_RM_behindBlanks_58 rfl rfl ?_
                refine vr_iload_n d_RM_behindBlanks_59 rfl rfl ?_
                refine vr_bipush 47 d_RM_behindBlanks_60 (by decide) ?_
                refine vr_bipush 47 d_RM_behindBlanks_62 (by decide) ?_
                obtain ⟨v3, S3, ev3, h⟩ := l_calI h
                refine rm_callI [.int y2, .int 47, .int 47] H d_RM_behindBlanks_64 C_RM_120 (c_RM_isAt H ev3) rfl rfl rfl (by decide) (by decide) (Nat.le_of_ble_eq_true rfl) ?_
                refine vr_if_eq (tgt := 95) d_RM_behindBlanks_67 (by decide) (fun c67 => ?_) (fun c67 => ?_)
                · have h := l_ifp c67 h
                  refine vr_iconst 0 d_RM_behindBlanks_95 (by decide) ?_
                  refine vr_istore_n (L' := [some (.ref m), none, some (.int y2), some (.int 0), some (.int v2)]) d_RM_behindBlanks_96 rfl (by decide) rfl ?_
                  refine vr_goto (tgt := 4) d_RM_behindBlanks_97 (by decide) ?_
                  exact mv_drop (ih _ _ _ _ h) (And.intro rfl (And.intro rfl (And.intro rfl trivial)))
                · have h := l_ifn c67 h
                  exact mv_drop (q_RM_behindBlanks_70 H ih N _ _ _ _ h) (And.intro rfl (And.intro rfl (And.intro rfl trivial)))
              · have h := l_ifp c49 h
                refine vr_iinc (L' := [some (.ref m), none, some (.int (y2 + 1)), some (.int y3), some (.int v2)]) (y2 + 1) d_RM_behindBlanks_52 (by decide) rfl rfl rfl ?_
                refine vr_goto (tgt := 97) d_RM_behindBlanks_55 (by decide) ?_
                refine vr_goto (tgt := 4) d_RM_behindBlanks_97 (by decide) ?_
                exact mv_drop (ih _ _ _ _ h) (And.intro rfl (And.intro rfl (And.intro rfl trivial)))

def f_RM_behindBlanks (N : Nat) (x1 : Int32) (S : rm_S) : Option (Int32 × rm_S) := k_RM_behindBlanks_4 N N x1 1 S
theorem c_RM_behindBlanks {g : mv_G} {σ : mh_H} {m : Nat} {N : Nat} (H : rm_H g σ m) {x1 : Int32} {S : rm_S} {r : Int32 × rm_S} (h : f_RM_behindBlanks N x1 S = some r) : mv_Met g M_RM_behindBlanks 1 23 0 0 [.ref m, .int x1] (rz σ m S) (fun oc τ => τ = rz σ m r.2 ∧ oc = .returned (some (.int r.1))) := by
  refine mv_entry (L := [some (.ref m), some (.int x1), none, none, none]) rfl rfl (Nat.le_of_ble_eq_true rfl) rfl ?_
  unfold f_RM_behindBlanks at h
  refine vr_iload_n d_RM_behindBlanks_0 rfl rfl ?_
  refine vr_istore_n (L' := [some (.ref m), some (.int x1), some (.int x1), none, none]) d_RM_behindBlanks_1 rfl (by decide) rfl ?_
  refine vr_iconst 1 d_RM_behindBlanks_2 (by decide) ?_
  refine vr_istore_n (L' := [some (.ref m), some (.int x1), some (.int x1), some (.int 1), none]) d_RM_behindBlanks_3 rfl (by decide) rfl ?_
  exact mv_drop (q_RM_behindBlanks_4 H N _ _ _ _ h) (And.intro rfl (And.intro rfl (And.intro rfl trivial)))

def k_RM_isNumber_70 (N : Nat) (y1 : Int32) (y2 : Int32) (S : rm_S) : Option (Int32 × rm_S) := calI (f_RM_isWord N ((y1 + y2)) S) fun v4 S4 => if v4 = 0 then (some (1, S4)) else (some (0, S4))
theorem q_RM_isNumber_70 {g : mv_G} {σ : mh_H} {m : Nat} {N : Nat} (H : rm_H g σ m) (y1 : Int32) (y2 : Int32) (S : rm_S) (r : Int32 × rm_S) (h : k_RM_isNumber_70 N y1 y2 S = some r) : mv_V g M_RM_isNumber 2 41 0 0 70 [some (.ref m), some (.int y1), some (.int y2), none, none, none] [] (rz σ m S) (fun oc τ => τ = rz σ m r.2 ∧ oc = .returned (some (.int r.1))) := by
  unfold k_RM_isNumber_70 at h
  refine vr_aload_n d_RM_isNumber_70 rfl rfl ?_
  refine vr_iload_n d_RM_isNumber_71 rfl rfl ?_
  refine vr_iload_n d_RM_isNumber_72 rfl rfl ?_
  refine vr_iadd d_RM_isNumber_73 ?_
  obtain ⟨v4, S4, ev4, h⟩ := l_calI h
  refine rm_callI [.int (y1 + y2)] H d_RM_isNumber_74 C_RM_137 (c_RM_isWord H ev4) rfl rfl rfl (by decide) (by decide) (Nat.le_of_ble_eq_true rfl) ?_
  refine vr_if_ne (tgt := 84) d_RM_isNumber_77 (by decide) (fun c77 => ?_) (fun c77 => ?_)
  · have h := l_ifn c77 h
    refine vr_iconst 0 d_RM_isNumber_84 (by decide) ?_
    cases h
    exact vr_iret d_RM_isNumber_85 rfl rfl ⟨rfl, rfl⟩
  · have h := l_ifp c77 h
    refine vr_iconst 1 d_RM_isNumber_80 (by decide) ?_
    refine vr_goto (tgt := 85) d_RM_isNumber_81 (by decide) ?_
    cases h
    exact vr_iret d_RM_isNumber_85 rfl rfl ⟨rfl, rfl⟩

def k_RM_isNumber_46 (N : Nat) (y1 : Int32) (y2 : Int32) (y3 : Int64) (S : rm_S) : Option (Int32 × rm_S) := if 0 < (lg_cmp y3 2147483647) then (some (0, S)) else (if y2 = 1 then (k_RM_isNumber_70 N y1 y2 S) else (chk (ib y1 8000) <| if (S.2 1 (Int32.toNatClampNeg y1)) = 48 then (some (0, S)) else (k_RM_isNumber_70 N y1 y2 S)))
theorem q_RM_isNumber_46 {g : mv_G} {σ : mh_H} {m : Nat} {N : Nat} (H : rm_H g σ m) (y1 : Int32) (y2 : Int32) (y3 : Int64) (S : rm_S) (r : Int32 × rm_S) (h : k_RM_isNumber_46 N y1 y2 y3 S = some r) : mv_V g M_RM_isNumber 2 41 0 0 46 [some (.ref m), some (.int y1), some (.int y2), some (.long y3), none, none] [] (rz σ m S) (fun oc τ => τ = rz σ m r.2 ∧ oc = .returned (some (.int r.1))) := by
  unfold k_RM_isNumber_46 at h
  refine vr_lload_n d_RM_isNumber_46 rfl rfl ?_
  refine vr_ldc2 d_RM_isNumber_47 w_1030 ?_
  refine vr_lcmp d_RM_isNumber_50 ?_
  refine vr_if_gt (tgt := 84) d_RM_isNumber_51 (by decide) (fun c51 => ?_) (fun c51 => ?_)
  · have h := l_ifp c51 h
    refine vr_iconst 0 d_RM_isNumber_84 (by decide) ?_
    cases h
    exact vr_iret d_RM_isNumber_85 rfl rfl ⟨rfl, rfl⟩
  · have h := l_ifn c51 h
    refine vr_iload_n d_RM_isNumber_54 rfl rfl ?_
    refine vr_iconst 1 d_RM_isNumber_55 (by decide) ?_
    refine vr_icmp_eq (tgt := 70) d_RM_isNumber_56 (by decide) (fun c56 => ?_) (fun c56 => ?_)
    · have h := l_ifp c56 h
      exact mv_drop (q_RM_isNumber_70 H _ _ _ _ h) (And.intro rfl (And.intro rfl (And.intro rfl trivial)))
    · have h := l_ifn c56 h
      refine vr_aload_n d_RM_isNumber_59 rfl rfl ?_
      refine rm_getR (o := 1) H d_RM_isNumber_60 F_RM_9 rfl (by decide) ?_
      refine vr_iload_n d_RM_isNumber_63 rfl rfl ?_
      have q3 := (l_chk h).1
      have h := (l_chk h).2
      refine rm_ald (o := 1) H (by decide) (by decide) d_RM_isNumber_64 (ib_in q3) ?_
      refine vr_bipush 48 d_RM_isNumber_65 (by decide) ?_
      refine vr_icmp_eq (tgt := 84) d_RM_isNumber_67 (by decide) (fun c67 => ?_) (fun c67 => ?_)
      · have h := l_ifp c67 h
        refine vr_iconst 0 d_RM_isNumber_84 (by decide) ?_
        cases h
        exact vr_iret d_RM_isNumber_85 rfl rfl ⟨rfl, rfl⟩
      · have h := l_ifn c67 h
        exact mv_drop (q_RM_isNumber_70 H _ _ _ _ h) (And.intro rfl (And.intro rfl (And.intro rfl trivial)))

def k_RM_isNumber_5 (N : Nat) : Nat → Int32 → Int32 → Int64 → Int32 → rm_S → Option (Int32 × rm_S)
  | 0, _, _, _, _, _ => none
  | n + 1, y1, y2, y3, y5, S => if y2 ≤ y5 then (k_RM_isNumber_46 N y1 y2 y3 S) else (if 0 < (lg_cmp y3 2147483647) then (k_RM_isNumber_46 N y1 y2 y3 S) else (chk (ib (y1 + y5) 8000) <| bnd ((((10 * y3) + (Int32.toInt64 (S.2 1 (Int32.toNatClampNeg (y1 + y5))))) - 48)) fun v2 => k_RM_isNumber_5 N n y1 y2 v2 ((y5 + 1)) S))
theorem q_RM_isNumber_5 {g : mv_G} {σ : mh_H} {m : Nat} {N : Nat} (H : rm_H g σ m) : ∀ (n : Nat) (y1 : Int32) (y2 : Int32) (y3 : Int64) (y5 : Int32) (S : rm_S) (r : Int32 × rm_S), k_RM_isNumber_5 N n y1 y2 y3 y5 S = some r → mv_V g M_RM_isNumber 2 41 0 0 5 [some (.ref m), some (.int y1), some (.int y2), some (.long y3), none, some (.int y5)] [] (rz σ m S) (fun oc τ => τ = rz σ m r.2 ∧ oc = .returned (some (.int r.1))) := by
  intro n
  induction n with
  | zero =>
    intro y1 y2 y3 y5 S r h
    exact absurd h (by simp [k_RM_isNumber_5])
  | succ n ih =>
    intro y1 y2 y3 y5 S r h
    unfold k_RM_isNumber_5 at h
    refine vr_iload d_RM_isNumber_5 rfl ?_
    refine vr_iload_n d_RM_isNumber_7 rfl rfl ?_
    refine vr_icmp_ge (tgt := 46) d_RM_isNumber_8 (by decide) (fun c8 => ?_) (fun c8 => ?_)
    · have h := l_ifp c8 h
      exact mv_drop (q_RM_isNumber_46 H _ _ _ _ _ h) (And.intro rfl (And.intro rfl (And.intro rfl (And.intro rfl trivial))))
    · have h := l_ifn c8 h
      refine vr_lload_n d_RM_isNumber_11 rfl rfl ?_
      refine vr_ldc2 d_RM_isNumber_12 w_1030 ?_
      refine vr_lcmp d_RM_isNumber_15 ?_
      refine vr_if_gt (tgt := 46) d_RM_isNumber_16 (by decide) (fun c16 => ?_) (fun c16 => ?_)
      · have h := l_ifp c16 h
        exact mv_drop (q_RM_isNumber_46 H _ _ _ _ _ h) (And.intro rfl (And.intro rfl (And.intro rfl (And.intro rfl trivial))))
      · have h := l_ifn c16 h
        refine vr_ldc2 d_RM_isNumber_19 w_1031 ?_
        refine vr_lload_n d_RM_isNumber_22 rfl rfl ?_
        refine vr_lmul d_RM_isNumber_23 ?_
        refine vr_aload_n d_RM_isNumber_24 rfl rfl ?_
        refine rm_getR (o := 1) H d_RM_isNumber_25 F_RM_9 rfl (by decide) ?_
        refine vr_iload_n d_RM_isNumber_28 rfl rfl ?_
        refine vr_iload d_RM_isNumber_29 rfl ?_
        refine vr_iadd d_RM_isNumber_31 ?_
        have q1 := (l_chk h).1
        have h := (l_chk h).2
        refine rm_ald (o := 1) H (by decide) (by decide) d_RM_isNumber_32 (ib_in q1) ?_
        refine vr_i2l d_RM_isNumber_33 rfl ?_
        refine vr_ladd d_RM_isNumber_34 ?_
        refine vr_ldc2 d_RM_isNumber_35 w_1032 ?_
        refine vr_lsub d_RM_isNumber_38 ?_
        obtain ⟨v2, ev2, h⟩ := l_bnd h
        refine vr_nmJ ev2 ?_
        refine vr_lstore_n (L' := [some (.ref m), some (.int y1), some (.int y2), some (.long v2), none, some (.int y5)]) d_RM_isNumber_39 rfl (by decide) rfl ?_
        refine vr_iinc (L' := [some (.ref m), some (.int y1), some (.int y2), some (.long v2), none, some (.int (y5 + 1))]) (y5 + 1) d_RM_isNumber_40 (by decide) rfl rfl rfl ?_
        refine vr_goto (tgt := 5) d_RM_isNumber_43 (by decide) ?_
        exact mv_drop (ih _ _ _ _ _ _ h) (And.intro rfl (And.intro rfl (And.intro rfl (And.intro rfl (And.intro rfl trivial)))))

def f_RM_isNumber (N : Nat) (x1 : Int32) (x2 : Int32) (S : rm_S) : Option (Int32 × rm_S) := k_RM_isNumber_5 N N x1 x2 0 0 S
theorem c_RM_isNumber {g : mv_G} {σ : mh_H} {m : Nat} {N : Nat} (H : rm_H g σ m) {x1 : Int32} {x2 : Int32} {S : rm_S} {r : Int32 × rm_S} (h : f_RM_isNumber N x1 x2 S = some r) : mv_Met g M_RM_isNumber 2 41 0 0 [.ref m, .int x1, .int x2] (rz σ m S) (fun oc τ => τ = rz σ m r.2 ∧ oc = .returned (some (.int r.1))) := by
  refine mv_entry (L := [some (.ref m), some (.int x1), some (.int x2), none, none, none]) rfl rfl (Nat.le_of_ble_eq_true rfl) rfl ?_
  unfold f_RM_isNumber at h
  refine vr_lconst 0 d_RM_isNumber_0 (by decide) ?_
  refine vr_lstore_n (L' := [some (.ref m), some (.int x1), some (.int x2), some (.long 0), none, none]) d_RM_isNumber_1 rfl (by decide) rfl ?_
  refine vr_iconst 0 d_RM_isNumber_2 (by decide) ?_
  refine vr_istore (L' := [some (.ref m), some (.int x1), some (.int x2), some (.long 0), none, some (.int 0)]) d_RM_isNumber_3 (by decide) rfl ?_
  exact mv_drop (q_RM_isNumber_5 H N _ _ _ _ _ _ h) (And.intro rfl (And.intro rfl (And.intro rfl (And.intro rfl (And.intro rfl trivial)))))

