/-! the reference, lifted: leaves of the parser, answers -/
def f_RM_look (N : Nat) (S : rm_S) : Option (Int32 × rm_S) := if (S.1 13) = 0 then (chk (ib (S.1 12) 8002) <| some ((S.2 4 (Int32.toNatClampNeg (S.1 12))), S)) else (some (1, S))
theorem c_RM_look {g : mv_G} {σ : mh_H} {m : Nat} {N : Nat} (H : rm_H g σ m) {S : rm_S} {r : Int32 × rm_S} (h : f_RM_look N S = some r) : mv_Met g M_RM_look 0 0 0 0 [.ref m] (rz σ m S) (fun oc τ => τ = rz σ m r.2 ∧ oc = .returned (some (.int r.1))) := by
  refine mv_entry (L := [some (.ref m)]) rfl rfl (Nat.le_of_ble_eq_true rfl) rfl ?_
  unfold f_RM_look at h
  refine vr_aload_n d_RM_look_0 rfl rfl ?_
  refine rm_getI H d_RM_look_1 F_RM_155 rfl ?_
  refine vr_if_eq (tgt := 11) d_RM_look_4 (by decide) (fun c4 => ?_) (fun c4 => ?_)
  · replace h := l_ifp c4 h
    refine vr_aload_n d_RM_look_11 rfl rfl ?_
    refine rm_getR (o := 4) H d_RM_look_12 F_RM_19 rfl (by decide) ?_
    refine vr_aload_n d_RM_look_15 rfl rfl ?_
    refine rm_getI H d_RM_look_16 F_RM_159 rfl ?_
    have q1 := (l_chk h).1
    replace h := (l_chk h).2
    refine rm_ald (o := 4) H (by decide) (by decide) d_RM_look_19 (ib_in q1) ?_
    cases h
    exact vr_iret d_RM_look_20 rfl rfl ⟨rfl, rfl⟩
  · replace h := l_ifn c4 h
    refine vr_iconst 1 d_RM_look_7 (by decide) ?_
    refine vr_goto (tgt := 20) d_RM_look_8 (by decide) ?_
    cases h
    exact vr_iret d_RM_look_20 rfl rfl ⟨rfl, rfl⟩

def f_RM_need (N : Nat) (x1 : Int32) (S : rm_S) : Option (rm_S) := if x1 = 0 then (if (S.1 13) = 0 then (bnd (((rs_i S 13 1).1 12)) fun v1 => chk (ib v1 8002) <| bnd (((rs_i S 13 1).2 5 (Int32.toNatClampNeg v1))) fun v3 => some ((rs_i (rs_i S 13 1) 14 v3))) else (some (S))) else (some (S))
theorem c_RM_need {g : mv_G} {σ : mh_H} {m : Nat} {N : Nat} (H : rm_H g σ m) {x1 : Int32} {S : rm_S} {r : rm_S} (h : f_RM_need N x1 S = some r) : mv_Met g M_RM_need 0 0 0 0 [.ref m, .int x1] (rz σ m S) (fun oc τ => τ = rz σ m r ∧ oc = .returned none) := by
  refine mv_entry (L := [some (.ref m), some (.int x1)]) rfl rfl (Nat.le_of_ble_eq_true rfl) rfl ?_
  unfold f_RM_need at h
  refine vr_iload_n d_RM_need_0 rfl rfl ?_
  refine vr_if_ne (tgt := 29) d_RM_need_1 (by decide) (fun c1 => ?_) (fun c1 => ?_)
  · replace h := l_ifn c1 h
    cases h
    exact vr_vret d_RM_need_29 rfl ⟨rfl, rfl⟩
  · replace h := l_ifp c1 h
    refine vr_aload_n d_RM_need_4 rfl rfl ?_
    refine rm_getI H d_RM_need_5 F_RM_155 rfl ?_
    refine vr_if_ne (tgt := 29) d_RM_need_8 (by decide) (fun c8 => ?_) (fun c8 => ?_)
    · replace h := l_ifn c8 h
      cases h
      exact vr_vret d_RM_need_29 rfl ⟨rfl, rfl⟩
    · replace h := l_ifp c8 h
      refine vr_aload_n d_RM_need_11 rfl rfl ?_
      refine vr_iconst 1 d_RM_need_12 (by decide) ?_
      refine rm_putI H d_RM_need_13 W_RM_need_155 rfl rfl rfl ?_
      refine vr_aload_n d_RM_need_16 rfl rfl ?_
      refine vr_aload_n d_RM_need_17 rfl rfl ?_
      refine rm_getR (o := 5) H d_RM_need_18 F_RM_22 rfl (by decide) ?_
      refine vr_aload_n d_RM_need_21 rfl rfl ?_
      refine rm_getI H d_RM_need_22 F_RM_159 rfl ?_
      obtain ⟨v1, ev1, h⟩ := l_bnd h
      refine vr_nm ev1 ?_
      have q2 := (l_chk h).1
      replace h := (l_chk h).2
      refine rm_ald (o := 5) H (by decide) (by decide) d_RM_need_25 (ib_in q2) ?_
      obtain ⟨v3, ev3, h⟩ := l_bnd h
      refine vr_nm ev3 ?_
      refine rm_putI H d_RM_need_26 W_RM_need_28 rfl rfl rfl ?_
      cases h
      exact vr_vret d_RM_need_29 rfl ⟨rfl, rfl⟩

def k_RM_take_14 (N : Nat) (z0 : Int32) (S : rm_S) : Option (rm_S) := calV (f_RM_need N z0 S) fun S2 => if (S2.1 13) = 0 then (bnd (((S2.1 12) + 1)) fun v3 => some ((rs_i S2 12 v3))) else (bnd ((S2.1 12)) fun v4 => some ((rs_i S2 12 v4)))
theorem q_RM_take_14 {g : mv_G} {σ : mh_H} {m : Nat} {N : Nat} (H : rm_H g σ m) (z0 : Int32) (S : rm_S) (r : rm_S) (h : k_RM_take_14 N z0 S = some r) : mv_V g M_RM_take 1 21 0 0 14 [some (.ref m), none] [.int z0, .ref m] (rz σ m S) (fun oc τ => τ = rz σ m r ∧ oc = .returned none) := by
  unfold k_RM_take_14 at h
  obtain ⟨S2, eS2, h⟩ := l_calV h
  refine rm_callU [.int z0] H d_RM_take_14 C_RM_165 (c_RM_need H eS2) rfl rfl rfl (Nat.le_of_ble_eq_true rfl) (by decide) (Nat.le_of_ble_eq_true rfl) ?_
  refine vr_aload_n d_RM_take_17 rfl rfl ?_
  refine vr_aload_n d_RM_take_18 rfl rfl ?_
  refine rm_getI H d_RM_take_19 F_RM_155 rfl ?_
  refine vr_if_eq (tgt := 32) d_RM_take_22 (by decide) (fun c22 => ?_) (fun c22 => ?_)
  · replace h := l_ifp c22 h
    refine vr_aload_n d_RM_take_32 rfl rfl ?_
    refine rm_getI H d_RM_take_33 F_RM_159 rfl ?_
    refine vr_iconst 1 d_RM_take_36 (by decide) ?_
    refine vr_iadd d_RM_take_37 ?_
    obtain ⟨v3, ev3, h⟩ := l_bnd h
    refine vr_nm ev3 ?_
    refine rm_putI H d_RM_take_38 W_RM_take_159 rfl rfl rfl ?_
    cases h
    exact vr_vret d_RM_take_41 rfl ⟨rfl, rfl⟩
  · replace h := l_ifn c22 h
    refine vr_aload_n d_RM_take_25 rfl rfl ?_
    refine rm_getI H d_RM_take_26 F_RM_159 rfl ?_
    refine vr_goto (tgt := 38) d_RM_take_29 (by decide) ?_
    obtain ⟨v4, ev4, h⟩ := l_bnd h
    refine vr_nm ev4 ?_
    refine rm_putI H d_RM_take_38 W_RM_take_159 rfl rfl rfl ?_
    cases h
    exact vr_vret d_RM_take_41 rfl ⟨rfl, rfl⟩

def f_RM_take (N : Nat) (x1 : Int32) (S : rm_S) : Option (rm_S) := calI (f_RM_look N S) fun v1 S1 => if v1 = x1 then (k_RM_take_14 N 1 S1) else (k_RM_take_14 N 0 S1)
theorem c_RM_take {g : mv_G} {σ : mh_H} {m : Nat} {N : Nat} (H : rm_H g σ m) {x1 : Int32} {S : rm_S} {r : rm_S} (h : f_RM_take N x1 S = some r) : mv_Met g M_RM_take 1 21 0 0 [.ref m, .int x1] (rz σ m S) (fun oc τ => τ = rz σ m r ∧ oc = .returned none) := by
  refine mv_entry (L := [some (.ref m), some (.int x1)]) rfl rfl (Nat.le_of_ble_eq_true rfl) rfl ?_
  unfold f_RM_take at h
  refine vr_aload_n d_RM_take_0 rfl rfl ?_
  refine vr_aload_n d_RM_take_1 rfl rfl ?_
  obtain ⟨v1, S1, ev1, h⟩ := l_calI h
  refine rm_callI [] H d_RM_take_2 C_RM_162 (c_RM_look H ev1) rfl rfl rfl (Nat.le_of_ble_eq_true rfl) (by decide) (Nat.le_of_ble_eq_true rfl) ?_
  refine vr_iload_n d_RM_take_5 rfl rfl ?_
  refine vr_icmp_ne (tgt := 13) d_RM_take_6 (by decide) (fun c6 => ?_) (fun c6 => ?_)
  · replace h := l_ifn c6 h
    refine vr_iconst 0 d_RM_take_13 (by decide) ?_
    exact mv_drop (q_RM_take_14 H _ _ _ h) (And.intro rfl trivial)
  · replace h := l_ifp c6 h
    refine vr_iconst 1 d_RM_take_9 (by decide) ?_
    refine vr_goto (tgt := 14) d_RM_take_10 (by decide) ?_
    exact mv_drop (q_RM_take_14 H _ _ _ h) (And.intro rfl trivial)

def f_RM_draft (N : Nat) (x1 : Int32) (x2 : Int32) (x3 : Int32) (S : rm_S) : Option (Int32 × rm_S) := chk (ib (S.1 21) 26000) <| bnd (((rs_a S 7 (Int32.toNatClampNeg (S.1 21)) x1).1 21)) fun v2 => chk (ib v2 26000) <| bnd (((rs_a (rs_a S 7 (Int32.toNatClampNeg (S.1 21)) x1) 8 (Int32.toNatClampNeg v2) x2).1 21)) fun v4 => chk (ib v4 26000) <| bnd (((rs_a (rs_a (rs_a S 7 (Int32.toNatClampNeg (S.1 21)) x1) 8 (Int32.toNatClampNeg v2) x2) 9 (Int32.toNatClampNeg v4) x3).1 21)) fun v6 => chk (ib v6 26000) <| bnd (((rs_a (rs_a (rs_a (rs_a S 7 (Int32.toNatClampNeg (S.1 21)) x1) 8 (Int32.toNatClampNeg v2) x2) 9 (Int32.toNatClampNeg v4) x3) 10 (Int32.toNatClampNeg v6) (-1)).1 21)) fun v8 => chk (ib v8 26000) <| bnd (((rs_a (rs_a (rs_a (rs_a (rs_a S 7 (Int32.toNatClampNeg (S.1 21)) x1) 8 (Int32.toNatClampNeg v2) x2) 9 (Int32.toNatClampNeg v4) x3) 10 (Int32.toNatClampNeg v6) (-1)) 11 (Int32.toNatClampNeg v8) (-1)).1 21)) fun v10 => chk (ib v10 26000) <| bnd (((rs_a (rs_a (rs_a (rs_a (rs_a (rs_a S 7 (Int32.toNatClampNeg (S.1 21)) x1) 8 (Int32.toNatClampNeg v2) x2) 9 (Int32.toNatClampNeg v4) x3) 10 (Int32.toNatClampNeg v6) (-1)) 11 (Int32.toNatClampNeg v8) (-1)) 12 (Int32.toNatClampNeg v10) (-1)).1 21)) fun v12 => bnd ((v12 + 1)) fun v13 => bnd (((rs_i (rs_a (rs_a (rs_a (rs_a (rs_a (rs_a S 7 (Int32.toNatClampNeg (S.1 21)) x1) 8 (Int32.toNatClampNeg v2) x2) 9 (Int32.toNatClampNeg v4) x3) 10 (Int32.toNatClampNeg v6) (-1)) 11 (Int32.toNatClampNeg v8) (-1)) 12 (Int32.toNatClampNeg v10) (-1)) 21 v13).1 21)) fun v14 => some ((v14 - 1), (rs_i (rs_a (rs_a (rs_a (rs_a (rs_a (rs_a S 7 (Int32.toNatClampNeg (S.1 21)) x1) 8 (Int32.toNatClampNeg v2) x2) 9 (Int32.toNatClampNeg v4) x3) 10 (Int32.toNatClampNeg v6) (-1)) 11 (Int32.toNatClampNeg v8) (-1)) 12 (Int32.toNatClampNeg v10) (-1)) 21 v13))
theorem c_RM_draft {g : mv_G} {σ : mh_H} {m : Nat} {N : Nat} (H : rm_H g σ m) {x1 : Int32} {x2 : Int32} {x3 : Int32} {S : rm_S} {r : Int32 × rm_S} (h : f_RM_draft N x1 x2 x3 S = some r) : mv_Met g M_RM_draft 0 0 0 0 [.ref m, .int x1, .int x2, .int x3] (rz σ m S) (fun oc τ => τ = rz σ m r.2 ∧ oc = .returned (some (.int r.1))) := by
  refine mv_entry (L := [some (.ref m), some (.int x1), some (.int x2), some (.int x3)]) rfl rfl (Nat.le_of_ble_eq_true rfl) rfl ?_
  unfold f_RM_draft at h
  refine vr_aload_n d_RM_draft_0 rfl rfl ?_
  refine rm_getR (o := 7) H d_RM_draft_1 F_RM_32 rfl (by decide) ?_
  refine vr_aload_n d_RM_draft_4 rfl rfl ?_
  refine rm_getI H d_RM_draft_5 F_RM_169 rfl ?_
  refine vr_iload_n d_RM_draft_8 rfl rfl ?_
  have q1 := (l_chk h).1
  replace h := (l_chk h).2
  refine rm_ast (o := 7) H (by decide) (by decide) d_RM_draft_9 (ib_in q1) ?_
  refine vr_aload_n d_RM_draft_10 rfl rfl ?_
  refine rm_getR (o := 8) H d_RM_draft_11 F_RM_35 rfl (by decide) ?_
  refine vr_aload_n d_RM_draft_14 rfl rfl ?_
  refine rm_getI H d_RM_draft_15 F_RM_169 rfl ?_
  obtain ⟨v2, ev2, h⟩ := l_bnd h
  refine vr_nm ev2 ?_
  refine vr_iload_n d_RM_draft_18 rfl rfl ?_
  have q3 := (l_chk h).1
  replace h := (l_chk h).2
  refine rm_ast (o := 8) H (by decide) (by decide) d_RM_draft_19 (ib_in q3) ?_
  refine vr_aload_n d_RM_draft_20 rfl rfl ?_
  refine rm_getR (o := 9) H d_RM_draft_21 F_RM_38 rfl (by decide) ?_
  refine vr_aload_n d_RM_draft_24 rfl rfl ?_
  refine rm_getI H d_RM_draft_25 F_RM_169 rfl ?_
  obtain ⟨v4, ev4, h⟩ := l_bnd h
  refine vr_nm ev4 ?_
  refine vr_iload_n d_RM_draft_28 rfl rfl ?_
  have q5 := (l_chk h).1
  replace h := (l_chk h).2
  refine rm_ast (o := 9) H (by decide) (by decide) d_RM_draft_29 (ib_in q5) ?_
  refine vr_aload_n d_RM_draft_30 rfl rfl ?_
  refine rm_getR (o := 10) H d_RM_draft_31 F_RM_41 rfl (by decide) ?_
  refine vr_aload_n d_RM_draft_34 rfl rfl ?_
  refine rm_getI H d_RM_draft_35 F_RM_169 rfl ?_
  obtain ⟨v6, ev6, h⟩ := l_bnd h
  refine vr_nm ev6 ?_
  refine vr_iconst (-1) d_RM_draft_38 (by decide) ?_
  have q7 := (l_chk h).1
  replace h := (l_chk h).2
  refine rm_ast (o := 10) H (by decide) (by decide) d_RM_draft_39 (ib_in q7) ?_
  refine vr_aload_n d_RM_draft_40 rfl rfl ?_
  refine rm_getR (o := 11) H d_RM_draft_41 F_RM_44 rfl (by decide) ?_
  refine vr_aload_n d_RM_draft_44 rfl rfl ?_
  refine rm_getI H d_RM_draft_45 F_RM_169 rfl ?_
  obtain ⟨v8, ev8, h⟩ := l_bnd h
  refine vr_nm ev8 ?_
  refine vr_iconst (-1) d_RM_draft_48 (by decide) ?_
  have q9 := (l_chk h).1
  replace h := (l_chk h).2
  refine rm_ast (o := 11) H (by decide) (by decide) d_RM_draft_49 (ib_in q9) ?_
  refine vr_aload_n d_RM_draft_50 rfl rfl ?_
  refine rm_getR (o := 12) H d_RM_draft_51 F_RM_47 rfl (by decide) ?_
  refine vr_aload_n d_RM_draft_54 rfl rfl ?_
  refine rm_getI H d_RM_draft_55 F_RM_169 rfl ?_
  obtain ⟨v10, ev10, h⟩ := l_bnd h
  refine vr_nm ev10 ?_
  refine vr_iconst (-1) d_RM_draft_58 (by decide) ?_
  have q11 := (l_chk h).1
  replace h := (l_chk h).2
  refine rm_ast (o := 12) H (by decide) (by decide) d_RM_draft_59 (ib_in q11) ?_
  refine vr_aload_n d_RM_draft_60 rfl rfl ?_
  refine vr_dup d_RM_draft_61 rfl ?_
  refine rm_getI H d_RM_draft_62 F_RM_169 rfl ?_
  obtain ⟨v12, ev12, h⟩ := l_bnd h
  refine vr_nm ev12 ?_
  refine vr_iconst 1 d_RM_draft_65 (by decide) ?_
  refine vr_iadd d_RM_draft_66 ?_
  obtain ⟨v13, ev13, h⟩ := l_bnd h
  refine vr_nm ev13 ?_
  refine rm_putI H d_RM_draft_67 W_RM_draft_169 rfl rfl rfl ?_
  refine vr_aload_n d_RM_draft_70 rfl rfl ?_
  refine rm_getI H d_RM_draft_71 F_RM_169 rfl ?_
  obtain ⟨v14, ev14, h⟩ := l_bnd h
  refine vr_nm ev14 ?_
  refine vr_iconst 1 d_RM_draft_74 (by decide) ?_
  refine vr_isub d_RM_draft_75 ?_
  cases h
  exact vr_iret d_RM_draft_76 rfl rfl ⟨rfl, rfl⟩

def f_RM_join (N : Nat) (x1 : Int32) (x2 : Int32) (S : rm_S) : Option (rm_S) := if x2 = (-1) then (some (S)) else (chk (ib x1 26000) <| if (S.2 10 (Int32.toNatClampNeg x1)) = (-1) then (chk (ib x1 26000) <| chk (ib x1 26000) <| some ((rs_a (rs_a S 10 (Int32.toNatClampNeg x1) x2) 11 (Int32.toNatClampNeg x1) x2))) else (chk (ib x1 26000) <| chk (ib (S.2 11 (Int32.toNatClampNeg x1)) 26000) <| chk (ib x1 26000) <| some ((rs_a (rs_a S 12 (Int32.toNatClampNeg (S.2 11 (Int32.toNatClampNeg x1))) x2) 11 (Int32.toNatClampNeg x1) x2))))
theorem c_RM_join {g : mv_G} {σ : mh_H} {m : Nat} {N : Nat} (H : rm_H g σ m) {x1 : Int32} {x2 : Int32} {S : rm_S} {r : rm_S} (h : f_RM_join N x1 x2 S = some r) : mv_Met g M_RM_join 0 0 0 0 [.ref m, .int x1, .int x2] (rz σ m S) (fun oc τ => τ = rz σ m r ∧ oc = .returned none) := by
  refine mv_entry (L := [some (.ref m), some (.int x1), some (.int x2)]) rfl rfl (Nat.le_of_ble_eq_true rfl) rfl ?_
  unfold f_RM_join at h
  refine vr_iload_n d_RM_join_0 rfl rfl ?_
  refine vr_iconst (-1) d_RM_join_1 (by decide) ?_
  refine vr_icmp_ne (tgt := 6) d_RM_join_2 (by decide) (fun c2 => ?_) (fun c2 => ?_)
  · replace h := l_ifn c2 h
    refine vr_aload_n d_RM_join_6 rfl rfl ?_
    refine rm_getR (o := 10) H d_RM_join_7 F_RM_41 rfl (by decide) ?_
    refine vr_iload_n d_RM_join_10 rfl rfl ?_
    have q1 := (l_chk h).1
    replace h := (l_chk h).2
    refine rm_ald (o := 10) H (by decide) (by decide) d_RM_join_11 (ib_in q1) ?_
    refine vr_iconst (-1) d_RM_join_12 (by decide) ?_
    refine vr_icmp_ne (tgt := 26) d_RM_join_13 (by decide) (fun c13 => ?_) (fun c13 => ?_)
    · replace h := l_ifn c13 h
      refine vr_aload_n d_RM_join_26 rfl rfl ?_
      refine rm_getR (o := 12) H d_RM_join_27 F_RM_47 rfl (by decide) ?_
      refine vr_aload_n d_RM_join_30 rfl rfl ?_
      refine rm_getR (o := 11) H d_RM_join_31 F_RM_44 rfl (by decide) ?_
      refine vr_iload_n d_RM_join_34 rfl rfl ?_
      have q2 := (l_chk h).1
      replace h := (l_chk h).2
      refine rm_ald (o := 11) H (by decide) (by decide) d_RM_join_35 (ib_in q2) ?_
      refine vr_iload_n d_RM_join_36 rfl rfl ?_
      have q3 := (l_chk h).1
      replace h := (l_chk h).2
      refine rm_ast (o := 12) H (by decide) (by decide) d_RM_join_37 (ib_in q3) ?_
      refine vr_aload_n d_RM_join_38 rfl rfl ?_
      refine rm_getR (o := 11) H d_RM_join_39 F_RM_44 rfl (by decide) ?_
      refine vr_iload_n d_RM_join_42 rfl rfl ?_
      refine vr_iload_n d_RM_join_43 rfl rfl ?_
      have q4 := (l_chk h).1
      replace h := (l_chk h).2
      refine rm_ast (o := 11) H (by decide) (by decide) d_RM_join_44 (ib_in q4) ?_
      cases h
      exact vr_vret d_RM_join_45 rfl ⟨rfl, rfl⟩
    · replace h := l_ifp c13 h
      refine vr_aload_n d_RM_join_16 rfl rfl ?_
      refine rm_getR (o := 10) H d_RM_join_17 F_RM_41 rfl (by decide) ?_
      refine vr_iload_n d_RM_join_20 rfl rfl ?_
      refine vr_iload_n d_RM_join_21 rfl rfl ?_
      have q5 := (l_chk h).1
      replace h := (l_chk h).2
      refine rm_ast (o := 10) H (by decide) (by decide) d_RM_join_22 (ib_in q5) ?_
      refine vr_goto (tgt := 38) d_RM_join_23 (by decide) ?_
      refine vr_aload_n d_RM_join_38 rfl rfl ?_
      refine rm_getR (o := 11) H d_RM_join_39 F_RM_44 rfl (by decide) ?_
      refine vr_iload_n d_RM_join_42 rfl rfl ?_
      refine vr_iload_n d_RM_join_43 rfl rfl ?_
      have q6 := (l_chk h).1
      replace h := (l_chk h).2
      refine rm_ast (o := 11) H (by decide) (by decide) d_RM_join_44 (ib_in q6) ?_
      cases h
      exact vr_vret d_RM_join_45 rfl ⟨rfl, rfl⟩
  · replace h := l_ifp c2 h
    cases h
    exact vr_vret d_RM_join_5 rfl ⟨rfl, rfl⟩

def f_RM_name (N : Nat) (S : rm_S) : Option (Int32 × rm_S) := chk (ib (S.1 12) 8002) <| calI (f_RM_draft N 13 ((S.2 5 (Int32.toNatClampNeg (S.1 12)))) ((S.1 12)) S) fun v2 S2 => calV (f_RM_take N 2 S2) fun S3 => some (v2, S3)
theorem c_RM_name {g : mv_G} {σ : mh_H} {m : Nat} {N : Nat} (H : rm_H g σ m) {S : rm_S} {r : Int32 × rm_S} (h : f_RM_name N S = some r) : mv_Met g M_RM_name 2 42 0 0 [.ref m] (rz σ m S) (fun oc τ => τ = rz σ m r.2 ∧ oc = .returned (some (.int r.1))) := by
  refine mv_entry (L := [some (.ref m), none]) rfl rfl (Nat.le_of_ble_eq_true rfl) rfl ?_
  unfold f_RM_name at h
  refine vr_aload_n d_RM_name_0 rfl rfl ?_
  refine vr_bipush 13 d_RM_name_1 (by decide) ?_
  refine vr_aload_n d_RM_name_3 rfl rfl ?_
  refine rm_getR (o := 5) H d_RM_name_4 F_RM_22 rfl (by decide) ?_
  refine vr_aload_n d_RM_name_7 rfl rfl ?_
  refine rm_getI H d_RM_name_8 F_RM_159 rfl ?_
  have q1 := (l_chk h).1
  replace h := (l_chk h).2
  refine rm_ald (o := 5) H (by decide) (by decide) d_RM_name_11 (ib_in q1) ?_
  refine vr_aload_n d_RM_name_12 rfl rfl ?_
  refine rm_getI H d_RM_name_13 F_RM_159 rfl ?_
  obtain ⟨v2, S2, ev2, h⟩ := l_calI h
  refine rm_callI [.int 13, .int (S.2 5 (Int32.toNatClampNeg (S.1 12))), .int (S.1 12)] H d_RM_name_16 C_RM_172 (c_RM_draft H ev2) rfl rfl rfl (Nat.le_of_ble_eq_true rfl) (by decide) (Nat.le_of_ble_eq_true rfl) ?_
  refine vr_istore_n (L' := [some (.ref m), some (.int v2)]) d_RM_name_19 rfl (by decide) rfl ?_
  refine vr_aload_n d_RM_name_20 rfl rfl ?_
  refine vr_iconst 2 d_RM_name_21 (by decide) ?_
  obtain ⟨S3, eS3, h⟩ := l_calV h
  refine rm_callU [.int 2] H d_RM_name_22 C_RM_176 (c_RM_take H eS3) rfl rfl rfl (Nat.le_of_ble_eq_true rfl) (by decide) (Nat.le_of_ble_eq_true rfl) ?_
  refine vr_iload_n d_RM_name_25 rfl rfl ?_
  cases h
  exact vr_iret d_RM_name_26 rfl rfl ⟨rfl, rfl⟩

def k_RM_number_95 (N : Nat) (y2 : Int32) (y3 : Int32) (y4 : Int32) (S : rm_S) : Option (Int32 × rm_S) := calV (f_RM_take N 3 S) fun S6 => calI (f_RM_draft N 12 y2 ((y3 * y4)) S6) fun v7 S7 => some (v7, S7)
theorem q_RM_number_95 {g : mv_G} {σ : mh_H} {m : Nat} {N : Nat} (H : rm_H g σ m) (y2 : Int32) (y3 : Int32) (y4 : Int32) (S : rm_S) (r : Int32 × rm_S) (h : k_RM_number_95 N y2 y3 y4 S = some r) : mv_V g M_RM_number 2 42 0 0 95 [some (.ref m), none, some (.int y2), some (.int y3), some (.int y4), none] [] (rz σ m S) (fun oc τ => τ = rz σ m r.2 ∧ oc = .returned (some (.int r.1))) := by
  unfold k_RM_number_95 at h
  refine vr_aload_n d_RM_number_95 rfl rfl ?_
  refine vr_iconst 3 d_RM_number_96 (by decide) ?_
  obtain ⟨S6, eS6, h⟩ := l_calV h
  refine rm_callU [.int 3] H d_RM_number_97 C_RM_176 (c_RM_take H eS6) rfl rfl rfl (Nat.le_of_ble_eq_true rfl) (by decide) (Nat.le_of_ble_eq_true rfl) ?_
  refine vr_aload_n d_RM_number_100 rfl rfl ?_
  refine vr_bipush 12 d_RM_number_101 (by decide) ?_
  refine vr_iload_n d_RM_number_103 rfl rfl ?_
  refine vr_iload_n d_RM_number_104 rfl rfl ?_
  refine vr_iload d_RM_number_105 rfl ?_
  refine vr_imul d_RM_number_107 ?_
  obtain ⟨v7, S7, ev7, h⟩ := l_calI h
  refine rm_callI [.int 12, .int y2, .int (y3 * y4)] H d_RM_number_108 C_RM_172 (c_RM_draft H ev7) rfl rfl rfl (Nat.le_of_ble_eq_true rfl) (by decide) (Nat.le_of_ble_eq_true rfl) ?_
  cases h
  exact vr_iret d_RM_number_111 rfl rfl ⟨rfl, rfl⟩

def k_RM_number_47 (N : Nat) : Nat → Int32 → Int32 → Int32 → Int32 → rm_S → Option (Int32 × rm_S)
  | 0, _, _, _, _, _ => none
  | n + 1, y2, y3, y4, y5, S => chk (ib (S.1 12) 8002) <| if (S.2 6 (Int32.toNatClampNeg (S.1 12))) ≤ y5 then (k_RM_number_95 N y2 y3 y4 S) else (chk (ib (S.1 12) 8002) <| chk (ib ((S.2 5 (Int32.toNatClampNeg (S.1 12))) + y5) 8000) <| bnd ((((10 * y4) + (S.2 1 (Int32.toNatClampNeg ((S.2 5 (Int32.toNatClampNeg (S.1 12))) + y5)))) - 48)) fun v11 => k_RM_number_47 N n y2 y3 v11 ((y5 + 1)) S)
theorem q_RM_number_47 {g : mv_G} {σ : mh_H} {m : Nat} {N : Nat} (H : rm_H g σ m) : ∀ (n : Nat) (y2 : Int32) (y3 : Int32) (y4 : Int32) (y5 : Int32) (S : rm_S) (r : Int32 × rm_S), k_RM_number_47 N n y2 y3 y4 y5 S = some r → mv_V g M_RM_number 2 42 0 0 47 [some (.ref m), none, some (.int y2), some (.int y3), some (.int y4), some (.int y5)] [] (rz σ m S) (fun oc τ => τ = rz σ m r.2 ∧ oc = .returned (some (.int r.1))) := by
  intro n
  induction n with
  | zero =>
    intro y2 y3 y4 y5 S r h
    exact absurd h (by simp [k_RM_number_47])
  | succ n ih =>
    intro y2 y3 y4 y5 S r h 
    unfold k_RM_number_47 at h
    refine vr_iload d_RM_number_47 rfl ?_
    refine vr_aload_n d_RM_number_49 rfl rfl ?_
    refine rm_getR (o := 6) H d_RM_number_50 F_RM_25 rfl (by decide) ?_
    refine vr_aload_n d_RM_number_53 rfl rfl ?_
    refine rm_getI H d_RM_number_54 F_RM_159 rfl ?_
    have q8 := (l_chk h).1
    replace h := (l_chk h).2
    refine rm_ald (o := 6) H (by decide) (by decide) d_RM_number_57 (ib_in q8) ?_
    refine vr_icmp_ge (tgt := 95) d_RM_number_58 (by decide) (fun c58 => ?_) (fun c58 => ?_)
    · replace h := l_ifp c58 h
      exact mv_drop (q_RM_number_95 H _ _ _ _ _ h) (And.intro rfl (And.intro rfl (And.intro rfl (And.intro rfl trivial))))
    · replace h := l_ifn c58 h
      refine vr_bipush 10 d_RM_number_61 (by decide) ?_
      refine vr_iload d_RM_number_63 rfl ?_
      refine vr_imul d_RM_number_65 ?_
      refine vr_aload_n d_RM_number_66 rfl rfl ?_
      refine rm_getR (o := 1) H d_RM_number_67 F_RM_9 rfl (by decide) ?_
      refine vr_aload_n d_RM_number_70 rfl rfl ?_
      refine rm_getR (o := 5) H d_RM_number_71 F_RM_22 rfl (by decide) ?_
      refine vr_aload_n d_RM_number_74 rfl rfl ?_
      refine rm_getI H d_RM_number_75 F_RM_159 rfl ?_
      have q9 := (l_chk h).1
      replace h := (l_chk h).2
      refine rm_ald (o := 5) H (by decide) (by decide) d_RM_number_78 (ib_in q9) ?_
      refine vr_iload d_RM_number_79 rfl ?_
      refine vr_iadd d_RM_number_81 ?_
      have q10 := (l_chk h).1
      replace h := (l_chk h).2
      refine rm_ald (o := 1) H (by decide) (by decide) d_RM_number_82 (ib_in q10) ?_
      refine vr_iadd d_RM_number_83 ?_
      refine vr_bipush 48 d_RM_number_84 (by decide) ?_
      refine vr_isub d_RM_number_86 ?_
      obtain ⟨v11, ev11, h⟩ := l_bnd h
      refine vr_nm ev11 ?_
      refine vr_istore (L' := [some (.ref m), none, some (.int y2), some (.int y3), some (.int v11), some (.int y5)]) d_RM_number_87 (by decide) rfl ?_
      refine vr_iinc (L' := [some (.ref m), none, some (.int y2), some (.int y3), some (.int v11), some (.int (y5 + 1))]) (y5 + 1) d_RM_number_89 (by decide) rfl rfl rfl ?_
      refine vr_goto (tgt := 47) d_RM_number_92 (by decide) ?_
      exact mv_drop (ih _ _ _ _ _ _ h) (And.intro rfl (And.intro rfl (And.intro rfl (And.intro rfl (And.intro rfl trivial)))))

def k_RM_number_33 (N : Nat) (y2 : Int32) (y3 : Int32) (S : rm_S) : Option (Int32 × rm_S) := calI (f_RM_look N S) fun v5 S5 => if v5 = 3 then (k_RM_number_47 N N y2 y3 0 0 S5) else (k_RM_number_95 N y2 y3 0 S5)
theorem q_RM_number_33 {g : mv_G} {σ : mh_H} {m : Nat} {N : Nat} (H : rm_H g σ m) (y2 : Int32) (y3 : Int32) (S : rm_S) (r : Int32 × rm_S) (h : k_RM_number_33 N y2 y3 S = some r) : mv_V g M_RM_number 2 42 0 0 33 [some (.ref m), none, some (.int y2), some (.int y3), none, none] [] (rz σ m S) (fun oc τ => τ = rz σ m r.2 ∧ oc = .returned (some (.int r.1))) := by
  unfold k_RM_number_33 at h
  refine vr_iconst 0 d_RM_number_33 (by decide) ?_
  refine vr_istore (L' := [some (.ref m), none, some (.int y2), some (.int y3), some (.int 0), none]) d_RM_number_34 (by decide) rfl ?_
  refine vr_aload_n d_RM_number_36 rfl rfl ?_
  obtain ⟨v5, S5, ev5, h⟩ := l_calI h
  refine rm_callI [] H d_RM_number_37 C_RM_162 (c_RM_look H ev5) rfl rfl rfl (Nat.le_of_ble_eq_true rfl) (by decide) (Nat.le_of_ble_eq_true rfl) ?_
  refine vr_iconst 3 d_RM_number_40 (by decide) ?_
  refine vr_icmp_ne (tgt := 95) d_RM_number_41 (by decide) (fun c41 => ?_) (fun c41 => ?_)
  · replace h := l_ifn c41 h
    exact mv_drop (q_RM_number_95 H _ _ _ _ _ h) (And.intro rfl (And.intro rfl (And.intro rfl (And.intro rfl trivial))))
  · replace h := l_ifp c41 h
    refine vr_iconst 0 d_RM_number_44 (by decide) ?_
    refine vr_istore (L' := [some (.ref m), none, some (.int y2), some (.int y3), some (.int 0), some (.int 0)]) d_RM_number_45 (by decide) rfl ?_
    exact mv_drop (q_RM_number_47 H N _ _ _ _ _ _ h) (And.intro rfl (And.intro rfl (And.intro rfl (And.intro rfl (And.intro rfl trivial)))))

def f_RM_number (N : Nat) (x1 : Int32) (S : rm_S) : Option (Int32 × rm_S) := chk (ib (S.1 12) 8002) <| bnd ((S.2 5 (Int32.toNatClampNeg (S.1 12)))) fun v2 => if x1 = 0 then (k_RM_number_33 N v2 1 S) else (calI (f_RM_look N S) fun v3 S3 => if v3 = 45 then (calV (f_RM_take N 45 S3) fun S4 => k_RM_number_33 N v2 (-1) S4) else (k_RM_number_33 N v2 1 S3))
theorem c_RM_number {g : mv_G} {σ : mh_H} {m : Nat} {N : Nat} (H : rm_H g σ m) {x1 : Int32} {S : rm_S} {r : Int32 × rm_S} (h : f_RM_number N x1 S = some r) : mv_Met g M_RM_number 2 42 0 0 [.ref m, .int x1] (rz σ m S) (fun oc τ => τ = rz σ m r.2 ∧ oc = .returned (some (.int r.1))) := by
  refine mv_entry (L := [some (.ref m), some (.int x1), none, none, none, none]) rfl rfl (Nat.le_of_ble_eq_true rfl) rfl ?_
  unfold f_RM_number at h
  refine vr_aload_n d_RM_number_0 rfl rfl ?_
  refine rm_getR (o := 5) H d_RM_number_1 F_RM_22 rfl (by decide) ?_
  refine vr_aload_n d_RM_number_4 rfl rfl ?_
  refine rm_getI H d_RM_number_5 F_RM_159 rfl ?_
  have q1 := (l_chk h).1
  replace h := (l_chk h).2
  refine rm_ald (o := 5) H (by decide) (by decide) d_RM_number_8 (ib_in q1) ?_
  obtain ⟨v2, ev2, h⟩ := l_bnd h
  refine vr_nm ev2 ?_
  refine vr_istore_n (L' := [some (.ref m), some (.int x1), some (.int v2), none, none, none]) d_RM_number_9 rfl (by decide) rfl ?_
  refine vr_iconst 1 d_RM_number_10 (by decide) ?_
  refine vr_istore_n (L' := [some (.ref m), some (.int x1), some (.int v2), some (.int 1), none, none]) d_RM_number_11 rfl (by decide) rfl ?_
  refine vr_iload_n d_RM_number_12 rfl rfl ?_
  refine vr_if_eq (tgt := 33) d_RM_number_13 (by decide) (fun c13 => ?_) (fun c13 => ?_)
  · replace h := l_ifp c13 h
    exact mv_drop (q_RM_number_33 H _ _ _ _ h) (And.intro rfl (And.intro rfl (And.intro rfl trivial)))
  · replace h := l_ifn c13 h
    refine vr_aload_n d_RM_number_16 rfl rfl ?_
    obtain ⟨v3, S3, ev3, h⟩ := l_calI h
    refine rm_callI [] H d_RM_number_17 C_RM_162 (c_RM_look H ev3) rfl rfl rfl (Nat.le_of_ble_eq_true rfl) (by decide) (Nat.le_of_ble_eq_true rfl) ?_
    refine vr_bipush 45 d_RM_number_20 (by decide) ?_
    refine vr_icmp_ne (tgt := 33) d_RM_number_22 (by decide) (fun c22 => ?_) (fun c22 => ?_)
    · replace h := l_ifn c22 h
      exact mv_drop (q_RM_number_33 H _ _ _ _ h) (And.intro rfl (And.intro rfl (And.intro rfl trivial)))
    · replace h := l_ifp c22 h
      refine vr_aload_n d_RM_number_25 rfl rfl ?_
      refine vr_bipush 45 d_RM_number_26 (by decide) ?_
      obtain ⟨S4, eS4, h⟩ := l_calV h
      refine rm_callU [.int 45] H d_RM_number_28 C_RM_176 (c_RM_take H eS4) rfl rfl rfl (Nat.le_of_ble_eq_true rfl) (by decide) (Nat.le_of_ble_eq_true rfl) ?_
      refine vr_iconst (-1) d_RM_number_31 (by decide) ?_
      refine vr_istore_n (L' := [some (.ref m), some (.int x1), some (.int v2), some (.int (-1)), none, none]) d_RM_number_32 rfl (by decide) rfl ?_
      exact mv_drop (q_RM_number_33 H _ _ _ _ h) (And.intro rfl (And.intro rfl (And.intro rfl trivial)))

def f_RM_deep (N : Nat) (x1 : Int32) (S : rm_S) : Option (rm_S) := if 60 < x1 then (calV (f_RM_need N 0 S) fun S1 => some (S1)) else (calV (f_RM_need N 1 S) fun S2 => some (S2))
theorem c_RM_deep {g : mv_G} {σ : mh_H} {m : Nat} {N : Nat} (H : rm_H g σ m) {x1 : Int32} {S : rm_S} {r : rm_S} (h : f_RM_deep N x1 S = some r) : mv_Met g M_RM_deep 1 21 0 0 [.ref m, .int x1] (rz σ m S) (fun oc τ => τ = rz σ m r ∧ oc = .returned none) := by
  refine mv_entry (L := [some (.ref m), some (.int x1)]) rfl rfl (Nat.le_of_ble_eq_true rfl) rfl ?_
  unfold f_RM_deep at h
  refine vr_aload_n d_RM_deep_0 rfl rfl ?_
  refine vr_iload_n d_RM_deep_1 rfl rfl ?_
  refine vr_bipush 60 d_RM_deep_2 (by decide) ?_
  refine vr_icmp_gt (tgt := 11) d_RM_deep_4 (by decide) (fun c4 => ?_) (fun c4 => ?_)
  · replace h := l_ifp c4 h
    refine vr_iconst 0 d_RM_deep_11 (by decide) ?_
    obtain ⟨S1, eS1, h⟩ := l_calV h
    refine rm_callU [.int 0] H d_RM_deep_12 C_RM_165 (c_RM_need H eS1) rfl rfl rfl (Nat.le_of_ble_eq_true rfl) (by decide) (Nat.le_of_ble_eq_true rfl) ?_
    cases h
    exact vr_vret d_RM_deep_15 rfl ⟨rfl, rfl⟩
  · replace h := l_ifn c4 h
    refine vr_iconst 1 d_RM_deep_7 (by decide) ?_
    refine vr_goto (tgt := 12) d_RM_deep_8 (by decide) ?_
    obtain ⟨S2, eS2, h⟩ := l_calV h
    refine rm_callU [.int 1] H d_RM_deep_12 C_RM_165 (c_RM_need H eS2) rfl rfl rfl (Nat.le_of_ble_eq_true rfl) (by decide) (Nat.le_of_ble_eq_true rfl) ?_
    cases h
    exact vr_vret d_RM_deep_15 rfl ⟨rfl, rfl⟩

def k_RM_nameOf_115 (N : Nat) : Nat → Int32 → Int32 → rm_S → Option (Int32 × rm_S)
  | 0, _, _, _ => none
  | n + 1, y1, y2, S => chk (ib y1 8002) <| if (S.2 6 (Int32.toNatClampNeg y1)) ≤ y2 then (bnd (((S.1 31) + 1)) fun v5 => bnd (((rs_i S 31 v5).1 31)) fun v6 => bnd (((rs_i S 31 v5).1 31)) fun v7 => chk (ib (v7 - 1) 6001) <| bnd (((rs_i S 31 v5).2 21 (Int32.toNatClampNeg (v7 - 1)))) fun v9 => chk (ib y1 8002) <| bnd (((rs_i S 31 v5).2 6 (Int32.toNatClampNeg y1))) fun v11 => chk (ib v6 6001) <| bnd ((v9 + v11)) fun v13 => bnd (((rs_a (rs_i S 31 v5) 21 (Int32.toNatClampNeg v6) v13).1 31)) fun v14 => some ((v14 - 1), (rs_a (rs_i S 31 v5) 21 (Int32.toNatClampNeg v6) v13))) else (chk (ib (S.1 31) 6001) <| chk (ib y1 8002) <| chk (ib ((S.2 5 (Int32.toNatClampNeg y1)) + y2) 8000) <| chk (ib ((S.2 21 (Int32.toNatClampNeg (S.1 31))) + y2) 12000) <| bnd ((S.2 1 (Int32.toNatClampNeg ((S.2 5 (Int32.toNatClampNeg y1)) + y2)))) fun v19 => k_RM_nameOf_115 N n y1 ((y2 + 1)) ((rs_a S 20 (Int32.toNatClampNeg ((S.2 21 (Int32.toNatClampNeg (S.1 31))) + y2)) v19)))
theorem q_RM_nameOf_115 {g : mv_G} {σ : mh_H} {m : Nat} {N : Nat} (H : rm_H g σ m) : ∀ (n : Nat) (y1 : Int32) (y2 : Int32) (S : rm_S) (r : Int32 × rm_S), k_RM_nameOf_115 N n y1 y2 S = some r → mv_V g M_RM_nameOf 0 0 0 0 115 [some (.ref m), some (.int y1), some (.int y2), none, none] [] (rz σ m S) (fun oc τ => τ = rz σ m r.2 ∧ oc = .returned (some (.int r.1))) := by
  intro n
  induction n with
  | zero =>
    intro y1 y2 S r h
    exact absurd h (by simp [k_RM_nameOf_115])
  | succ n ih =>
    intro y1 y2 S r h 
    unfold k_RM_nameOf_115 at h
    refine vr_iload_n d_RM_nameOf_115 rfl rfl ?_
    refine vr_aload_n d_RM_nameOf_116 rfl rfl ?_
    refine rm_getR (o := 6) H d_RM_nameOf_117 F_RM_25 rfl (by decide) ?_
    refine vr_iload_n d_RM_nameOf_120 rfl rfl ?_
    have q4 := (l_chk h).1
    replace h := (l_chk h).2
    refine rm_ald (o := 6) H (by decide) (by decide) d_RM_nameOf_121 (ib_in q4) ?_
    refine vr_icmp_ge (tgt := 160) d_RM_nameOf_122 (by decide) (fun c122 => ?_) (fun c122 => ?_)
    · replace h := l_ifp c122 h
      refine vr_aload_n d_RM_nameOf_160 rfl rfl ?_
      refine vr_dup d_RM_nameOf_161 rfl ?_
      refine rm_getI H d_RM_nameOf_162 F_RM_223 rfl ?_
      refine vr_iconst 1 d_RM_nameOf_165 (by decide) ?_
      refine vr_iadd d_RM_nameOf_166 ?_
      obtain ⟨v5, ev5, h⟩ := l_bnd h
      refine vr_nm ev5 ?_
      refine rm_putI H d_RM_nameOf_167 W_RM_nameOf_223 rfl rfl rfl ?_
      refine vr_aload_n d_RM_nameOf_170 rfl rfl ?_
      refine rm_getR (o := 21) H d_RM_nameOf_171 F_RM_74 rfl (by decide) ?_
      refine vr_aload_n d_RM_nameOf_174 rfl rfl ?_
      refine rm_getI H d_RM_nameOf_175 F_RM_223 rfl ?_
      obtain ⟨v6, ev6, h⟩ := l_bnd h
      refine vr_nm ev6 ?_
      refine vr_aload_n d_RM_nameOf_178 rfl rfl ?_
      refine rm_getR (o := 21) H d_RM_nameOf_179 F_RM_74 rfl (by decide) ?_
      refine vr_aload_n d_RM_nameOf_182 rfl rfl ?_
      refine rm_getI H d_RM_nameOf_183 F_RM_223 rfl ?_
      obtain ⟨v7, ev7, h⟩ := l_bnd h
      refine vr_nm ev7 ?_
      refine vr_iconst 1 d_RM_nameOf_186 (by decide) ?_
      refine vr_isub d_RM_nameOf_187 ?_
      have q8 := (l_chk h).1
      replace h := (l_chk h).2
      refine rm_ald (o := 21) H (by decide) (by decide) d_RM_nameOf_188 (ib_in q8) ?_
      obtain ⟨v9, ev9, h⟩ := l_bnd h
      refine vr_nm ev9 ?_
      refine vr_aload_n d_RM_nameOf_189 rfl rfl ?_
      refine rm_getR (o := 6) H d_RM_nameOf_190 F_RM_25 rfl (by decide) ?_
      refine vr_iload_n d_RM_nameOf_193 rfl rfl ?_
      have q10 := (l_chk h).1
      replace h := (l_chk h).2
      refine rm_ald (o := 6) H (by decide) (by decide) d_RM_nameOf_194 (ib_in q10) ?_
      obtain ⟨v11, ev11, h⟩ := l_bnd h
      refine vr_nm ev11 ?_
      refine vr_iadd d_RM_nameOf_195 ?_
      have q12 := (l_chk h).1
      replace h := (l_chk h).2
      obtain ⟨v13, ev13, h⟩ := l_bnd h
      refine vr_nm ev13 ?_
      refine rm_ast (o := 21) H (by decide) (by decide) d_RM_nameOf_196 (ib_in q12) ?_
      refine vr_aload_n d_RM_nameOf_197 rfl rfl ?_
      refine rm_getI H d_RM_nameOf_198 F_RM_223 rfl ?_
      obtain ⟨v14, ev14, h⟩ := l_bnd h
      refine vr_nm ev14 ?_
      refine vr_iconst 1 d_RM_nameOf_201 (by decide) ?_
      refine vr_isub d_RM_nameOf_202 ?_
      cases h
      exact vr_iret d_RM_nameOf_203 rfl rfl ⟨rfl, rfl⟩
    · replace h := l_ifn c122 h
      refine vr_aload_n d_RM_nameOf_125 rfl rfl ?_
      refine rm_getR (o := 20) H d_RM_nameOf_126 F_RM_71 rfl (by decide) ?_
      refine vr_aload_n d_RM_nameOf_129 rfl rfl ?_
      refine rm_getR (o := 21) H d_RM_nameOf_130 F_RM_74 rfl (by decide) ?_
      refine vr_aload_n d_RM_nameOf_133 rfl rfl ?_
      refine rm_getI H d_RM_nameOf_134 F_RM_223 rfl ?_
      have q15 := (l_chk h).1
      replace h := (l_chk h).2
      refine rm_ald (o := 21) H (by decide) (by decide) d_RM_nameOf_137 (ib_in q15) ?_
      refine vr_iload_n d_RM_nameOf_138 rfl rfl ?_
      refine vr_iadd d_RM_nameOf_139 ?_
      refine vr_aload_n d_RM_nameOf_140 rfl rfl ?_
      refine rm_getR (o := 1) H d_RM_nameOf_141 F_RM_9 rfl (by decide) ?_
      refine vr_aload_n d_RM_nameOf_144 rfl rfl ?_
      refine rm_getR (o := 5) H d_RM_nameOf_145 F_RM_22 rfl (by decide) ?_
      refine vr_iload_n d_RM_nameOf_148 rfl rfl ?_
      have q16 := (l_chk h).1
      replace h := (l_chk h).2
      refine rm_ald (o := 5) H (by decide) (by decide) d_RM_nameOf_149 (ib_in q16) ?_
      refine vr_iload_n d_RM_nameOf_150 rfl rfl ?_
      refine vr_iadd d_RM_nameOf_151 ?_
      have q17 := (l_chk h).1
      replace h := (l_chk h).2
      refine rm_ald (o := 1) H (by decide) (by decide) d_RM_nameOf_152 (ib_in q17) ?_
      have q18 := (l_chk h).1
      replace h := (l_chk h).2
      obtain ⟨v19, ev19, h⟩ := l_bnd h
      refine vr_nm ev19 ?_
      refine rm_ast (o := 20) H (by decide) (by decide) d_RM_nameOf_153 (ib_in q18) ?_
      refine vr_iinc (L' := [some (.ref m), some (.int y1), some (.int (y2 + 1)), none, none]) (y2 + 1) d_RM_nameOf_154 (by decide) rfl rfl rfl ?_
      refine vr_goto (tgt := 115) d_RM_nameOf_157 (by decide) ?_
      exact mv_drop (ih _ _ _ _ h) (And.intro rfl (And.intro rfl (And.intro rfl trivial)))

def k_RM_nameOf_101 (N : Nat) (k2 : Int32 → Int32 → rm_S → Option (Int32 × rm_S)) (y1 : Int32) (y2 : Int32) (y3 : Int32) (S : rm_S) : Option (Int32 × rm_S) := if y3 = 0 then (k2 y1 ((y2 + 1)) S) else (some (y2, S))
theorem q_RM_nameOf_101 {g : mv_G} {σ : mh_H} {m : Nat} {N : Nat} {k2 : Int32 → Int32 → rm_S → Option (Int32 × rm_S)} (H : rm_H g σ m) (hk2 : ∀ (y1 : Int32) (y2 : Int32) (S : rm_S) (r : Int32 × rm_S), k2 y1 y2 S = some r → mv_V g M_RM_nameOf 0 0 0 0 2 [some (.ref m), some (.int y1), some (.int y2), none, none] [] (rz σ m S) (fun oc τ => τ = rz σ m r.2 ∧ oc = .returned (some (.int r.1)))) (y1 : Int32) (y2 : Int32) (y3 : Int32) (S : rm_S) (r : Int32 × rm_S) (h : k_RM_nameOf_101 N k2 y1 y2 y3 S = some r) : mv_V g M_RM_nameOf 0 0 0 0 101 [some (.ref m), some (.int y1), some (.int y2), some (.int y3), none] [] (rz σ m S) (fun oc τ => τ = rz σ m r.2 ∧ oc = .returned (some (.int r.1))) := by
  unfold k_RM_nameOf_101 at h
  refine vr_iload_n d_RM_nameOf_101 rfl rfl ?_
  refine vr_if_eq (tgt := 107) d_RM_nameOf_102 (by decide) (fun c102 => ?_) (fun c102 => ?_)
  · replace h := l_ifp c102 h
    refine vr_iinc (L' := [some (.ref m), some (.int y1), some (.int (y2 + 1)), some (.int y3), none]) (y2 + 1) d_RM_nameOf_107 (by decide) rfl rfl rfl ?_
    refine vr_goto (tgt := 2) d_RM_nameOf_110 (by decide) ?_
    exact mv_drop (hk2 _ _ _ _ h) (And.intro rfl (And.intro rfl (And.intro rfl trivial)))
  · replace h := l_ifn c102 h
    refine vr_iload_n d_RM_nameOf_105 rfl rfl ?_
    cases h
    exact vr_iret d_RM_nameOf_106 rfl rfl ⟨rfl, rfl⟩

def k_RM_nameOf_43 (N : Nat) (k2 : Int32 → Int32 → rm_S → Option (Int32 × rm_S)) : Nat → Int32 → Int32 → Int32 → Int32 → rm_S → Option (Int32 × rm_S)
  | 0, _, _, _, _, _ => none
  | n + 1, y1, y2, y3, y4, S => chk (ib y1 8002) <| if (S.2 6 (Int32.toNatClampNeg y1)) ≤ y4 then (k_RM_nameOf_101 N k2 y1 y2 y3 S) else (if y3 = 0 then (k_RM_nameOf_101 N k2 y1 y2 y3 S) else (chk (ib y2 6001) <| chk (ib ((S.2 21 (Int32.toNatClampNeg y2)) + y4) 12000) <| chk (ib y1 8002) <| chk (ib ((S.2 5 (Int32.toNatClampNeg y1)) + y4) 8000) <| if (S.2 20 (Int32.toNatClampNeg ((S.2 21 (Int32.toNatClampNeg y2)) + y4))) = (S.2 1 (Int32.toNatClampNeg ((S.2 5 (Int32.toNatClampNeg y1)) + y4))) then (k_RM_nameOf_43 N k2 n y1 y2 1 ((y4 + 1)) S) else (k_RM_nameOf_43 N k2 n y1 y2 0 ((y4 + 1)) S)))
theorem q_RM_nameOf_43 {g : mv_G} {σ : mh_H} {m : Nat} {N : Nat} {k2 : Int32 → Int32 → rm_S → Option (Int32 × rm_S)} (H : rm_H g σ m) (hk2 : ∀ (y1 : Int32) (y2 : Int32) (S : rm_S) (r : Int32 × rm_S), k2 y1 y2 S = some r → mv_V g M_RM_nameOf 0 0 0 0 2 [some (.ref m), some (.int y1), some (.int y2), none, none] [] (rz σ m S) (fun oc τ => τ = rz σ m r.2 ∧ oc = .returned (some (.int r.1)))) : ∀ (n : Nat) (y1 : Int32) (y2 : Int32) (y3 : Int32) (y4 : Int32) (S : rm_S) (r : Int32 × rm_S), k_RM_nameOf_43 N k2 n y1 y2 y3 y4 S = some r → mv_V g M_RM_nameOf 0 0 0 0 43 [some (.ref m), some (.int y1), some (.int y2), some (.int y3), some (.int y4)] [] (rz σ m S) (fun oc τ => τ = rz σ m r.2 ∧ oc = .returned (some (.int r.1))) := by
  intro n
  induction n with
  | zero =>
    intro y1 y2 y3 y4 S r h
    exact absurd h (by simp [k_RM_nameOf_43])
  | succ n ih =>
    intro y1 y2 y3 y4 S r h 
    unfold k_RM_nameOf_43 at h
    refine vr_iload d_RM_nameOf_43 rfl ?_
    refine vr_aload_n d_RM_nameOf_45 rfl rfl ?_
    refine rm_getR (o := 6) H d_RM_nameOf_46 F_RM_25 rfl (by decide) ?_
    refine vr_iload_n d_RM_nameOf_49 rfl rfl ?_
    have q20 := (l_chk h).1
    replace h := (l_chk h).2
    refine rm_ald (o := 6) H (by decide) (by decide) d_RM_nameOf_50 (ib_in q20) ?_
    refine vr_icmp_ge (tgt := 101) d_RM_nameOf_51 (by decide) (fun c51 => ?_) (fun c51 => ?_)
    · replace h := l_ifp c51 h
      exact mv_drop (q_RM_nameOf_101 H hk2 _ _ _ _ _ h) (And.intro rfl (And.intro rfl (And.intro rfl (And.intro rfl trivial))))
    · replace h := l_ifn c51 h
      refine vr_iload_n d_RM_nameOf_54 rfl rfl ?_
      refine vr_if_eq (tgt := 101) d_RM_nameOf_55 (by decide) (fun c55 => ?_) (fun c55 => ?_)
      · replace h := l_ifp c55 h
        exact mv_drop (q_RM_nameOf_101 H hk2 _ _ _ _ _ h) (And.intro rfl (And.intro rfl (And.intro rfl (And.intro rfl trivial))))
      · replace h := l_ifn c55 h
        refine vr_aload_n d_RM_nameOf_58 rfl rfl ?_
        refine rm_getR (o := 20) H d_RM_nameOf_59 F_RM_71 rfl (by decide) ?_
        refine vr_aload_n d_RM_nameOf_62 rfl rfl ?_
        refine rm_getR (o := 21) H d_RM_nameOf_63 F_RM_74 rfl (by decide) ?_
        refine vr_iload_n d_RM_nameOf_66 rfl rfl ?_
        have q21 := (l_chk h).1
        replace h := (l_chk h).2
        refine rm_ald (o := 21) H (by decide) (by decide) d_RM_nameOf_67 (ib_in q21) ?_
        refine vr_iload d_RM_nameOf_68 rfl ?_
        refine vr_iadd d_RM_nameOf_70 ?_
        have q22 := (l_chk h).1
        replace h := (l_chk h).2
        refine rm_ald (o := 20) H (by decide) (by decide) d_RM_nameOf_71 (ib_in q22) ?_
        refine vr_aload_n d_RM_nameOf_72 rfl rfl ?_
        refine rm_getR (o := 1) H d_RM_nameOf_73 F_RM_9 rfl (by decide) ?_
        refine vr_aload_n d_RM_nameOf_76 rfl rfl ?_
        refine rm_getR (o := 5) H d_RM_nameOf_77 F_RM_22 rfl (by decide) ?_
        refine vr_iload_n d_RM_nameOf_80 rfl rfl ?_
        have q23 := (l_chk h).1
        replace h := (l_chk h).2
        refine rm_ald (o := 5) H (by decide) (by decide) d_RM_nameOf_81 (ib_in q23) ?_
        refine vr_iload d_RM_nameOf_82 rfl ?_
        refine vr_iadd d_RM_nameOf_84 ?_
        have q24 := (l_chk h).1
        replace h := (l_chk h).2
        refine rm_ald (o := 1) H (by decide) (by decide) d_RM_nameOf_85 (ib_in q24) ?_
        refine vr_icmp_ne (tgt := 93) d_RM_nameOf_86 (by decide) (fun c86 => ?_) (fun c86 => ?_)
        · replace h := l_ifn c86 h
          refine vr_iconst 0 d_RM_nameOf_93 (by decide) ?_
          refine vr_istore_n (L' := [some (.ref m), some (.int y1), some (.int y2), some (.int 0), some (.int y4)]) d_RM_nameOf_94 rfl (by decide) rfl ?_
          refine vr_iinc (L' := [some (.ref m), some (.int y1), some (.int y2), some (.int 0), some (.int (y4 + 1))]) (y4 + 1) d_RM_nameOf_95 (by decide) rfl rfl rfl ?_
          refine vr_goto (tgt := 43) d_RM_nameOf_98 (by decide) ?_
          exact mv_drop (ih _ _ _ _ _ _ h) (And.intro rfl (And.intro rfl (And.intro rfl (And.intro rfl (And.intro rfl trivial)))))
        · replace h := l_ifp c86 h
          refine vr_iconst 1 d_RM_nameOf_89 (by decide) ?_
          refine vr_goto (tgt := 94) d_RM_nameOf_90 (by decide) ?_
          refine vr_istore_n (L' := [some (.ref m), some (.int y1), some (.int y2), some (.int 1), some (.int y4)]) d_RM_nameOf_94 rfl (by decide) rfl ?_
          refine vr_iinc (L' := [some (.ref m), some (.int y1), some (.int y2), some (.int 1), some (.int (y4 + 1))]) (y4 + 1) d_RM_nameOf_95 (by decide) rfl rfl rfl ?_
          refine vr_goto (tgt := 43) d_RM_nameOf_98 (by decide) ?_
          exact mv_drop (ih _ _ _ _ _ _ h) (And.intro rfl (And.intro rfl (And.intro rfl (And.intro rfl (And.intro rfl trivial)))))

def k_RM_nameOf_2 (N : Nat) : Nat → Int32 → Int32 → rm_S → Option (Int32 × rm_S)
  | 0, _, _, _ => none
  | n + 1, y1, y2, S => if (S.1 31) ≤ y2 then (k_RM_nameOf_115 N N y1 0 S) else (chk (ib (y2 + 1) 6001) <| chk (ib y2 6001) <| chk (ib y1 8002) <| if ((S.2 21 (Int32.toNatClampNeg (y2 + 1))) - (S.2 21 (Int32.toNatClampNeg y2))) = (S.2 6 (Int32.toNatClampNeg y1)) then (k_RM_nameOf_43 N (k_RM_nameOf_2 N n) N y1 y2 1 0 S) else (k_RM_nameOf_43 N (k_RM_nameOf_2 N n) N y1 y2 0 0 S))
theorem q_RM_nameOf_2 {g : mv_G} {σ : mh_H} {m : Nat} {N : Nat} (H : rm_H g σ m) : ∀ (n : Nat) (y1 : Int32) (y2 : Int32) (S : rm_S) (r : Int32 × rm_S), k_RM_nameOf_2 N n y1 y2 S = some r → mv_V g M_RM_nameOf 0 0 0 0 2 [some (.ref m), some (.int y1), some (.int y2), none, none] [] (rz σ m S) (fun oc τ => τ = rz σ m r.2 ∧ oc = .returned (some (.int r.1))) := by
  intro n
  induction n with
  | zero =>
    intro y1 y2 S r h
    exact absurd h (by simp [k_RM_nameOf_2])
  | succ n ih =>
    intro y1 y2 S r h 
    unfold k_RM_nameOf_2 at h
    refine vr_iload_n d_RM_nameOf_2 rfl rfl ?_
    refine vr_aload_n d_RM_nameOf_3 rfl rfl ?_
    refine rm_getI H d_RM_nameOf_4 F_RM_223 rfl ?_
    refine vr_icmp_ge (tgt := 113) d_RM_nameOf_7 (by decide) (fun c7 => ?_) (fun c7 => ?_)
    · replace h := l_ifp c7 h
      refine vr_iconst 0 d_RM_nameOf_113 (by decide) ?_
      refine vr_istore_n (L' := [some (.ref m), some (.int y1), some (.int 0), none, none]) d_RM_nameOf_114 rfl (by decide) rfl ?_
      exact mv_drop (q_RM_nameOf_115 H N _ _ _ _ h) (And.intro rfl (And.intro rfl (And.intro rfl trivial)))
    · replace h := l_ifn c7 h
      refine vr_aload_n d_RM_nameOf_10 rfl rfl ?_
      refine rm_getR (o := 21) H d_RM_nameOf_11 F_RM_74 rfl (by decide) ?_
      refine vr_iload_n d_RM_nameOf_14 rfl rfl ?_
      refine vr_iconst 1 d_RM_nameOf_15 (by decide) ?_
      refine vr_iadd d_RM_nameOf_16 ?_
      have q1 := (l_chk h).1
      replace h := (l_chk h).2
      refine rm_ald (o := 21) H (by decide) (by decide) d_RM_nameOf_17 (ib_in q1) ?_
      refine vr_aload_n d_RM_nameOf_18 rfl rfl ?_
      refine rm_getR (o := 21) H d_RM_nameOf_19 F_RM_74 rfl (by decide) ?_
      refine vr_iload_n d_RM_nameOf_22 rfl rfl ?_
      have q2 := (l_chk h).1
      replace h := (l_chk h).2
      refine rm_ald (o := 21) H (by decide) (by decide) d_RM_nameOf_23 (ib_in q2) ?_
      refine vr_isub d_RM_nameOf_24 ?_
      refine vr_aload_n d_RM_nameOf_25 rfl rfl ?_
      refine rm_getR (o := 6) H d_RM_nameOf_26 F_RM_25 rfl (by decide) ?_
      refine vr_iload_n d_RM_nameOf_29 rfl rfl ?_
      have q3 := (l_chk h).1
      replace h := (l_chk h).2
      refine rm_ald (o := 6) H (by decide) (by decide) d_RM_nameOf_30 (ib_in q3) ?_
      refine vr_icmp_ne (tgt := 38) d_RM_nameOf_31 (by decide) (fun c31 => ?_) (fun c31 => ?_)
      · replace h := l_ifn c31 h
        refine vr_iconst 0 d_RM_nameOf_38 (by decide) ?_
        refine vr_istore_n (L' := [some (.ref m), some (.int y1), some (.int y2), some (.int 0), none]) d_RM_nameOf_39 rfl (by decide) rfl ?_
        refine vr_iconst 0 d_RM_nameOf_40 (by decide) ?_
        refine vr_istore (L' := [some (.ref m), some (.int y1), some (.int y2), some (.int 0), some (.int 0)]) d_RM_nameOf_41 (by decide) rfl ?_
        exact mv_drop (q_RM_nameOf_43 H ih N _ _ _ _ _ _ h) (And.intro rfl (And.intro rfl (And.intro rfl (And.intro rfl (And.intro rfl trivial)))))
      · replace h := l_ifp c31 h
        refine vr_iconst 1 d_RM_nameOf_34 (by decide) ?_
        refine vr_goto (tgt := 39) d_RM_nameOf_35 (by decide) ?_
        refine vr_istore_n (L' := [some (.ref m), some (.int y1), some (.int y2), some (.int 1), none]) d_RM_nameOf_39 rfl (by decide) rfl ?_
        refine vr_iconst 0 d_RM_nameOf_40 (by decide) ?_
        refine vr_istore (L' := [some (.ref m), some (.int y1), some (.int y2), some (.int 1), some (.int 0)]) d_RM_nameOf_41 (by decide) rfl ?_
        exact mv_drop (q_RM_nameOf_43 H ih N _ _ _ _ _ _ h) (And.intro rfl (And.intro rfl (And.intro rfl (And.intro rfl (And.intro rfl trivial)))))

def f_RM_nameOf (N : Nat) (x1 : Int32) (S : rm_S) : Option (Int32 × rm_S) := k_RM_nameOf_2 N N x1 0 S
theorem c_RM_nameOf {g : mv_G} {σ : mh_H} {m : Nat} {N : Nat} (H : rm_H g σ m) {x1 : Int32} {S : rm_S} {r : Int32 × rm_S} (h : f_RM_nameOf N x1 S = some r) : mv_Met g M_RM_nameOf 0 0 0 0 [.ref m, .int x1] (rz σ m S) (fun oc τ => τ = rz σ m r.2 ∧ oc = .returned (some (.int r.1))) := by
  refine mv_entry (L := [some (.ref m), some (.int x1), none, none, none]) rfl rfl (Nat.le_of_ble_eq_true rfl) rfl ?_
  unfold f_RM_nameOf at h
  refine vr_iconst 0 d_RM_nameOf_0 (by decide) ?_
  refine vr_istore_n (L' := [some (.ref m), some (.int x1), some (.int 0), none, none]) d_RM_nameOf_1 rfl (by decide) rfl ?_
  exact mv_drop (q_RM_nameOf_2 H N _ _ _ _ h) (And.intro rfl (And.intro rfl (And.intro rfl trivial)))

def k_RM_keep_113 (N : Nat) (k8 : Int32 → Int32 → Int32 → Int32 → Int32 → rm_S → Option (rm_S)) (y1 : Int32) (y2 : Int32) (y3 : Int32) (y4 : Int32) (y5 : Int32) (y6 : Int32) (S : rm_S) : Option (rm_S) := chk (ib y4 26000) <| if (S.2 10 (Int32.toNatClampNeg y4)) = (-1) then (if y3 ≤ 0 then (k8 y1 y2 y3 (-1) y5 S) else (chk (ib (y3 + (-2)) 26000) <| bnd ((S.2 13 (Int32.toNatClampNeg (y3 + (-2))))) fun v15 => chk (ib ((y3 + (-2)) + 1) 26000) <| bnd ((S.2 13 (Int32.toNatClampNeg ((y3 + (-2)) + 1)))) fun v17 => k8 y1 y2 ((y3 + (-2))) v15 v17 S)) else (chk (ib y4 26000) <| bnd ((S.2 10 (Int32.toNatClampNeg y4))) fun v19 => k8 y1 y2 y3 v19 y6 S)
theorem q_RM_keep_113 {g : mv_G} {σ : mh_H} {m : Nat} {N : Nat} {k8 : Int32 → Int32 → Int32 → Int32 → Int32 → rm_S → Option (rm_S)} (H : rm_H g σ m) (hk8 : ∀ (y1 : Int32) (y2 : Int32) (y3 : Int32) (y4 : Int32) (y5 : Int32) (S : rm_S) (r : rm_S), k8 y1 y2 y3 y4 y5 S = some r → mv_V g M_RM_keep 1 27 0 0 8 [some (.ref m), some (.int y1), some (.int y2), some (.int y3), some (.int y4), some (.int y5), none] [] (rz σ m S) (fun oc τ => τ = rz σ m r ∧ oc = .returned none)) (y1 : Int32) (y2 : Int32) (y3 : Int32) (y4 : Int32) (y5 : Int32) (y6 : Int32) (S : rm_S) (r : rm_S) (h : k_RM_keep_113 N k8 y1 y2 y3 y4 y5 y6 S = some r) : mv_V g M_RM_keep 1 27 0 0 113 [some (.ref m), some (.int y1), some (.int y2), some (.int y3), some (.int y4), some (.int y5), some (.int y6)] [] (rz σ m S) (fun oc τ => τ = rz σ m r ∧ oc = .returned none) := by
  unfold k_RM_keep_113 at h
  refine vr_aload_n d_RM_keep_113 rfl rfl ?_
  refine rm_getR (o := 10) H d_RM_keep_114 F_RM_41 rfl (by decide) ?_
  refine vr_iload d_RM_keep_117 rfl ?_
  have q13 := (l_chk h).1
  replace h := (l_chk h).2
  refine rm_ald (o := 10) H (by decide) (by decide) d_RM_keep_119 (ib_in q13) ?_
  refine vr_iconst (-1) d_RM_keep_120 (by decide) ?_
  refine vr_icmp_eq (tgt := 140) d_RM_keep_121 (by decide) (fun c121 => ?_) (fun c121 => ?_)
  · replace h := l_ifp c121 h
    refine vr_iload_n d_RM_keep_140 rfl rfl ?_
    refine vr_if_le (tgt := 168) d_RM_keep_141 (by decide) (fun c141 => ?_) (fun c141 => ?_)
    · replace h := l_ifp c141 h
      refine vr_iconst (-1) d_RM_keep_168 (by decide) ?_
      refine vr_istore (L' := [some (.ref m), some (.int y1), some (.int y2), some (.int y3), some (.int (-1)), some (.int y5), some (.int y6)]) d_RM_keep_169 (by decide) rfl ?_
      refine vr_goto (tgt := 8) d_RM_keep_171 (by decide) ?_
      exact mv_drop (hk8 _ _ _ _ _ _ _ h) (And.intro rfl (And.intro rfl (And.intro rfl (And.intro rfl (And.intro rfl (And.intro rfl trivial))))))
    · replace h := l_ifn c141 h
      refine vr_iinc (L' := [some (.ref m), some (.int y1), some (.int y2), some (.int (y3 + (-2))), some (.int y4), some (.int y5), some (.int y6)]) (y3 + (-2)) d_RM_keep_144 (by decide) rfl rfl rfl ?_
      refine vr_aload_n d_RM_keep_147 rfl rfl ?_
      refine rm_getR (o := 13) H d_RM_keep_148 F_RM_50 rfl (by decide) ?_
      refine vr_iload_n d_RM_keep_151 rfl rfl ?_
      have q14 := (l_chk h).1
      replace h := (l_chk h).2
      refine rm_ald (o := 13) H (by decide) (by decide) d_RM_keep_152 (ib_in q14) ?_
      obtain ⟨v15, ev15, h⟩ := l_bnd h
      refine vr_nm ev15 ?_
      refine vr_istore (L' := [some (.ref m), some (.int y1), some (.int y2), some (.int (y3 + (-2))), some (.int v15), some (.int y5), some (.int y6)]) d_RM_keep_153 (by decide) rfl ?_
      refine vr_aload_n d_RM_keep_155 rfl rfl ?_
      refine rm_getR (o := 13) H d_RM_keep_156 F_RM_50 rfl (by decide) ?_
      refine vr_iload_n d_RM_keep_159 rfl rfl ?_
      refine vr_iconst 1 d_RM_keep_160 (by decide) ?_
      refine vr_iadd d_RM_keep_161 ?_
      have q16 := (l_chk h).1
      replace h := (l_chk h).2
      refine rm_ald (o := 13) H (by decide) (by decide) d_RM_keep_162 (ib_in q16) ?_
      obtain ⟨v17, ev17, h⟩ := l_bnd h
      refine vr_nm ev17 ?_
      refine vr_istore (L' := [some (.ref m), some (.int y1), some (.int y2), some (.int (y3 + (-2))), some (.int v15), some (.int v17), some (.int y6)]) d_RM_keep_163 (by decide) rfl ?_
      refine vr_goto (tgt := 171) d_RM_keep_165 (by decide) ?_
      refine vr_goto (tgt := 8) d_RM_keep_171 (by decide) ?_
      exact mv_drop (hk8 _ _ _ _ _ _ _ h) (And.intro rfl (And.intro rfl (And.intro rfl (And.intro rfl (And.intro rfl (And.intro rfl trivial))))))
  · replace h := l_ifn c121 h
    refine vr_aload_n d_RM_keep_124 rfl rfl ?_
    refine rm_getR (o := 10) H d_RM_keep_125 F_RM_41 rfl (by decide) ?_
    refine vr_iload d_RM_keep_128 rfl ?_
    have q18 := (l_chk h).1
    replace h := (l_chk h).2
    refine rm_ald (o := 10) H (by decide) (by decide) d_RM_keep_130 (ib_in q18) ?_
    obtain ⟨v19, ev19, h⟩ := l_bnd h
    refine vr_nm ev19 ?_
    refine vr_istore (L' := [some (.ref m), some (.int y1), some (.int y2), some (.int y3), some (.int v19), some (.int y5), some (.int y6)]) d_RM_keep_131 (by decide) rfl ?_
    refine vr_iload d_RM_keep_133 rfl ?_
    refine vr_istore (L' := [some (.ref m), some (.int y1), some (.int y2), some (.int y3), some (.int v19), some (.int y6), some (.int y6)]) d_RM_keep_135 (by decide) rfl ?_
    refine vr_goto (tgt := 171) d_RM_keep_137 (by decide) ?_
    refine vr_goto (tgt := 8) d_RM_keep_171 (by decide) ?_
    exact mv_drop (hk8 _ _ _ _ _ _ _ h) (And.intro rfl (And.intro rfl (And.intro rfl (And.intro rfl (And.intro rfl (And.intro rfl trivial))))))

def k_RM_keep_63 (N : Nat) (k8 : Int32 → Int32 → Int32 → Int32 → Int32 → rm_S → Option (rm_S)) (y1 : Int32) (y2 : Int32) (y3 : Int32) (y4 : Int32) (y5 : Int32) (z0 : Int32) (z1 : Int32) (z2 : Int32) (z3 : Int32) (S : rm_S) : Option (rm_S) := calI (f_RM_add N z3 z2 z1 z0 y5 S) fun v7 S7 => chk (ib y4 26000) <| if (S7.2 12 (Int32.toNatClampNeg y4)) = (-1) then (k_RM_keep_113 N k8 y1 y2 y3 y4 y5 v7 S7) else (if y4 = y2 then (k_RM_keep_113 N k8 y1 y2 y3 y4 y5 v7 S7) else (chk (ib y4 26000) <| chk (ib y3 26000) <| bnd ((S7.2 12 (Int32.toNatClampNeg y4))) fun v11 => chk (ib (y3 + 1) 26000) <| k_RM_keep_113 N k8 y1 y2 ((y3 + 2)) y4 y5 v7 ((rs_a (rs_a S7 13 (Int32.toNatClampNeg y3) v11) 13 (Int32.toNatClampNeg (y3 + 1)) y5))))
theorem q_RM_keep_63 {g : mv_G} {σ : mh_H} {m : Nat} {N : Nat} {k8 : Int32 → Int32 → Int32 → Int32 → Int32 → rm_S → Option (rm_S)} (H : rm_H g σ m) (hk8 : ∀ (y1 : Int32) (y2 : Int32) (y3 : Int32) (y4 : Int32) (y5 : Int32) (S : rm_S) (r : rm_S), k8 y1 y2 y3 y4 y5 S = some r → mv_V g M_RM_keep 1 27 0 0 8 [some (.ref m), some (.int y1), some (.int y2), some (.int y3), some (.int y4), some (.int y5), none] [] (rz σ m S) (fun oc τ => τ = rz σ m r ∧ oc = .returned none)) (y1 : Int32) (y2 : Int32) (y3 : Int32) (y4 : Int32) (y5 : Int32) (z0 : Int32) (z1 : Int32) (z2 : Int32) (z3 : Int32) (S : rm_S) (r : rm_S) (h : k_RM_keep_63 N k8 y1 y2 y3 y4 y5 z0 z1 z2 z3 S = some r) : mv_V g M_RM_keep 1 27 0 0 63 [some (.ref m), some (.int y1), some (.int y2), some (.int y3), some (.int y4), some (.int y5), none] [.int z0, .int z1, .int z2, .int z3, .ref m] (rz σ m S) (fun oc τ => τ = rz σ m r ∧ oc = .returned none) := by
  unfold k_RM_keep_63 at h
  refine vr_iload d_RM_keep_63 rfl ?_
  obtain ⟨v7, S7, ev7, h⟩ := l_calI h
  refine rm_callI [.int z3, .int z2, .int z1, .int z0, .int y5] H d_RM_keep_65 C_RM_103 (c_RM_add H ev7) rfl rfl rfl (Nat.le_of_ble_eq_true rfl) (by decide) (Nat.le_of_ble_eq_true rfl) ?_
  refine vr_istore (L' := [some (.ref m), some (.int y1), some (.int y2), some (.int y3), some (.int y4), some (.int y5), some (.int v7)]) d_RM_keep_68 (by decide) rfl ?_
  refine vr_aload_n d_RM_keep_70 rfl rfl ?_
  refine rm_getR (o := 12) H d_RM_keep_71 F_RM_47 rfl (by decide) ?_
  refine vr_iload d_RM_keep_74 rfl ?_
  have q8 := (l_chk h).1
  replace h := (l_chk h).2
  refine rm_ald (o := 12) H (by decide) (by decide) d_RM_keep_76 (ib_in q8) ?_
  refine vr_iconst (-1) d_RM_keep_77 (by decide) ?_
  refine vr_icmp_eq (tgt := 113) d_RM_keep_78 (by decide) (fun c78 => ?_) (fun c78 => ?_)
  · replace h := l_ifp c78 h
    exact mv_drop (q_RM_keep_113 H hk8 _ _ _ _ _ _ _ _ h) (And.intro rfl (And.intro rfl (And.intro rfl (And.intro rfl (And.intro rfl (And.intro rfl (And.intro rfl trivial)))))))
  · replace h := l_ifn c78 h
    refine vr_iload d_RM_keep_81 rfl ?_
    refine vr_iload_n d_RM_keep_83 rfl rfl ?_
    refine vr_icmp_eq (tgt := 113) d_RM_keep_84 (by decide) (fun c84 => ?_) (fun c84 => ?_)
    · replace h := l_ifp c84 h
      exact mv_drop (q_RM_keep_113 H hk8 _ _ _ _ _ _ _ _ h) (And.intro rfl (And.intro rfl (And.intro rfl (And.intro rfl (And.intro rfl (And.intro rfl (And.intro rfl trivial)))))))
    · replace h := l_ifn c84 h
      refine vr_aload_n d_RM_keep_87 rfl rfl ?_
      refine rm_getR (o := 13) H d_RM_keep_88 F_RM_50 rfl (by decide) ?_
      refine vr_iload_n d_RM_keep_91 rfl rfl ?_
      refine vr_aload_n d_RM_keep_92 rfl rfl ?_
      refine rm_getR (o := 12) H d_RM_keep_93 F_RM_47 rfl (by decide) ?_
      refine vr_iload d_RM_keep_96 rfl ?_
      have q9 := (l_chk h).1
      replace h := (l_chk h).2
      refine rm_ald (o := 12) H (by decide) (by decide) d_RM_keep_98 (ib_in q9) ?_
      have q10 := (l_chk h).1
      replace h := (l_chk h).2
      obtain ⟨v11, ev11, h⟩ := l_bnd h
      refine vr_nm ev11 ?_
      refine rm_ast (o := 13) H (by decide) (by decide) d_RM_keep_99 (ib_in q10) ?_
      refine vr_aload_n d_RM_keep_100 rfl rfl ?_
      refine rm_getR (o := 13) H d_RM_keep_101 F_RM_50 rfl (by decide) ?_
      refine vr_iload_n d_RM_keep_104 rfl rfl ?_
      refine vr_iconst 1 d_RM_keep_105 (by decide) ?_
      refine vr_iadd d_RM_keep_106 ?_
      refine vr_iload d_RM_keep_107 rfl ?_
      have q12 := (l_chk h).1
      replace h := (l_chk h).2
      refine rm_ast (o := 13) H (by decide) (by decide) d_RM_keep_109 (ib_in q12) ?_
      refine vr_iinc (L' := [some (.ref m), some (.int y1), some (.int y2), some (.int (y3 + 2)), some (.int y4), some (.int y5), some (.int v7)]) (y3 + 2) d_RM_keep_110 (by decide) rfl rfl rfl ?_
      exact mv_drop (q_RM_keep_113 H hk8 _ _ _ _ _ _ _ _ h) (And.intro rfl (And.intro rfl (And.intro rfl (And.intro rfl (And.intro rfl (And.intro rfl (And.intro rfl trivial)))))))

def k_RM_keep_8 (N : Nat) : Nat → Int32 → Int32 → Int32 → Int32 → Int32 → rm_S → Option (rm_S)
  | 0, _, _, _, _, _, _ => none
  | n + 1, y1, y2, y3, y4, y5, S => if y4 = (-1) then (some (S)) else (chk (ib y4 26000) <| chk (ib y4 26000) <| chk (ib y4 26000) <| if (S.2 7 (Int32.toNatClampNeg y4)) = 13 then (chk (ib y4 26000) <| calI (f_RM_nameOf N ((S.2 9 (Int32.toNatClampNeg y4))) S) fun v6 S6 => k_RM_keep_63 N (k_RM_keep_8 N n) y1 y2 y3 y4 y5 v6 ((S.2 8 (Int32.toNatClampNeg y4))) ((S.2 7 (Int32.toNatClampNeg y4))) y1 S6) else (chk (ib y4 26000) <| k_RM_keep_63 N (k_RM_keep_8 N n) y1 y2 y3 y4 y5 ((S.2 9 (Int32.toNatClampNeg y4))) ((S.2 8 (Int32.toNatClampNeg y4))) ((S.2 7 (Int32.toNatClampNeg y4))) y1 S))
theorem q_RM_keep_8 {g : mv_G} {σ : mh_H} {m : Nat} {N : Nat} (H : rm_H g σ m) : ∀ (n : Nat) (y1 : Int32) (y2 : Int32) (y3 : Int32) (y4 : Int32) (y5 : Int32) (S : rm_S) (r : rm_S), k_RM_keep_8 N n y1 y2 y3 y4 y5 S = some r → mv_V g M_RM_keep 1 27 0 0 8 [some (.ref m), some (.int y1), some (.int y2), some (.int y3), some (.int y4), some (.int y5), none] [] (rz σ m S) (fun oc τ => τ = rz σ m r ∧ oc = .returned none) := by
  intro n
  induction n with
  | zero =>
    intro y1 y2 y3 y4 y5 S r h
    exact absurd h (by simp [k_RM_keep_8])
  | succ n ih =>
    intro y1 y2 y3 y4 y5 S r h 
    unfold k_RM_keep_8 at h
    refine vr_iload d_RM_keep_8 rfl ?_
    refine vr_iconst (-1) d_RM_keep_10 (by decide) ?_
    refine vr_icmp_eq (tgt := 174) d_RM_keep_11 (by decide) (fun c11 => ?_) (fun c11 => ?_)
    · replace h := l_ifp c11 h
      cases h
      exact vr_vret d_RM_keep_174 rfl ⟨rfl, rfl⟩
    · replace h := l_ifn c11 h
      refine vr_aload_n d_RM_keep_14 rfl rfl ?_
      refine vr_iload_n d_RM_keep_15 rfl rfl ?_
      refine vr_aload_n d_RM_keep_16 rfl rfl ?_
      refine rm_getR (o := 7) H d_RM_keep_17 F_RM_32 rfl (by decide) ?_
      refine vr_iload d_RM_keep_20 rfl ?_
      have q1 := (l_chk h).1
      replace h := (l_chk h).2
      refine rm_ald (o := 7) H (by decide) (by decide) d_RM_keep_22 (ib_in q1) ?_
      refine vr_aload_n d_RM_keep_23 rfl rfl ?_
      refine rm_getR (o := 8) H d_RM_keep_24 F_RM_35 rfl (by decide) ?_
      refine vr_iload d_RM_keep_27 rfl ?_
      have q2 := (l_chk h).1
      replace h := (l_chk h).2
      refine rm_ald (o := 8) H (by decide) (by decide) d_RM_keep_29 (ib_in q2) ?_
      refine vr_aload_n d_RM_keep_30 rfl rfl ?_
      refine rm_getR (o := 7) H d_RM_keep_31 F_RM_32 rfl (by decide) ?_
      refine vr_iload d_RM_keep_34 rfl ?_
      have q3 := (l_chk h).1
      replace h := (l_chk h).2
      refine rm_ald (o := 7) H (by decide) (by decide) d_RM_keep_36 (ib_in q3) ?_
      refine vr_bipush 13 d_RM_keep_37 (by decide) ?_
      refine vr_icmp_ne (tgt := 56) d_RM_keep_39 (by decide) (fun c39 => ?_) (fun c39 => ?_)
      · replace h := l_ifn c39 h
        refine vr_aload_n d_RM_keep_56 rfl rfl ?_
        refine rm_getR (o := 9) H d_RM_keep_57 F_RM_38 rfl (by decide) ?_
        refine vr_iload d_RM_keep_60 rfl ?_
        have q4 := (l_chk h).1
        replace h := (l_chk h).2
        refine rm_ald (o := 9) H (by decide) (by decide) d_RM_keep_62 (ib_in q4) ?_
        exact mv_drop (q_RM_keep_63 H ih _ _ _ _ _ _ _ _ _ _ _ h) (And.intro rfl (And.intro rfl (And.intro rfl (And.intro rfl (And.intro rfl (And.intro rfl trivial))))))
      · replace h := l_ifp c39 h
        refine vr_aload_n d_RM_keep_42 rfl rfl ?_
        refine vr_aload_n d_RM_keep_43 rfl rfl ?_
        refine rm_getR (o := 9) H d_RM_keep_44 F_RM_38 rfl (by decide) ?_
        refine vr_iload d_RM_keep_47 rfl ?_
        have q5 := (l_chk h).1
        replace h := (l_chk h).2
        refine rm_ald (o := 9) H (by decide) (by decide) d_RM_keep_49 (ib_in q5) ?_
        obtain ⟨v6, S6, ev6, h⟩ := l_calI h
        refine rm_callI [.int (S.2 9 (Int32.toNatClampNeg y4))] H d_RM_keep_50 C_RM_226 (c_RM_nameOf H ev6) rfl rfl rfl (Nat.le_of_ble_eq_true rfl) (by decide) (Nat.le_of_ble_eq_true rfl) ?_
        refine vr_goto (tgt := 63) d_RM_keep_53 (by decide) ?_
        exact mv_drop (q_RM_keep_63 H ih _ _ _ _ _ _ _ _ _ _ _ h) (And.intro rfl (And.intro rfl (And.intro rfl (And.intro rfl (And.intro rfl (And.intro rfl trivial))))))

def f_RM_keep (N : Nat) (x1 : Int32) (x2 : Int32) (S : rm_S) : Option (rm_S) := k_RM_keep_8 N N x1 x2 0 x2 0 S
theorem c_RM_keep {g : mv_G} {σ : mh_H} {m : Nat} {N : Nat} (H : rm_H g σ m) {x1 : Int32} {x2 : Int32} {S : rm_S} {r : rm_S} (h : f_RM_keep N x1 x2 S = some r) : mv_Met g M_RM_keep 1 27 0 0 [.ref m, .int x1, .int x2] (rz σ m S) (fun oc τ => τ = rz σ m r ∧ oc = .returned none) := by
  refine mv_entry (L := [some (.ref m), some (.int x1), some (.int x2), none, none, none, none]) rfl rfl (Nat.le_of_ble_eq_true rfl) rfl ?_
  unfold f_RM_keep at h
  refine vr_iconst 0 d_RM_keep_0 (by decide) ?_
  refine vr_istore_n (L' := [some (.ref m), some (.int x1), some (.int x2), some (.int 0), none, none, none]) d_RM_keep_1 rfl (by decide) rfl ?_
  refine vr_iload_n d_RM_keep_2 rfl rfl ?_
  refine vr_istore (L' := [some (.ref m), some (.int x1), some (.int x2), some (.int 0), some (.int x2), none, none]) d_RM_keep_3 (by decide) rfl ?_
  refine vr_iconst 0 d_RM_keep_5 (by decide) ?_
  refine vr_istore (L' := [some (.ref m), some (.int x1), some (.int x2), some (.int 0), some (.int x2), some (.int 0), none]) d_RM_keep_6 (by decide) rfl ?_
  exact mv_drop (q_RM_keep_8 H N _ _ _ _ _ _ _ h) (And.intro rfl (And.intro rfl (And.intro rfl (And.intro rfl (And.intro rfl (And.intro rfl trivial))))))

def f_RM_has (N : Nat) (x1 : Int32) (x2 : Int32) (S : rm_S) : Option (Int32 × rm_S) := if x1 < 0 then (some (0, S)) else (if 2 ≤ x1 then (some (0, S)) else (if x2 < 0 then (some (0, S)) else (chk (ib x1 2) <| if (S.2 19 (Int32.toNatClampNeg x1)) ≤ x2 then (some (0, S)) else (some (1, S)))))
theorem c_RM_has {g : mv_G} {σ : mh_H} {m : Nat} {N : Nat} (H : rm_H g σ m) {x1 : Int32} {x2 : Int32} {S : rm_S} {r : Int32 × rm_S} (h : f_RM_has N x1 x2 S = some r) : mv_Met g M_RM_has 0 0 0 0 [.ref m, .int x1, .int x2] (rz σ m S) (fun oc τ => τ = rz σ m r.2 ∧ oc = .returned (some (.int r.1))) := by
  refine mv_entry (L := [some (.ref m), some (.int x1), some (.int x2)]) rfl rfl (Nat.le_of_ble_eq_true rfl) rfl ?_
  unfold f_RM_has at h
  refine vr_iload_n d_RM_has_0 rfl rfl ?_
  refine vr_if_lt (tgt := 27) d_RM_has_1 (by decide) (fun c1 => ?_) (fun c1 => ?_)
  · replace h := l_ifp c1 h
    refine vr_iconst 0 d_RM_has_27 (by decide) ?_
    cases h
    exact vr_iret d_RM_has_28 rfl rfl ⟨rfl, rfl⟩
  · replace h := l_ifn c1 h
    refine vr_iload_n d_RM_has_4 rfl rfl ?_
    refine vr_iconst 2 d_RM_has_5 (by decide) ?_
    refine vr_icmp_ge (tgt := 27) d_RM_has_6 (by decide) (fun c6 => ?_) (fun c6 => ?_)
    · replace h := l_ifp c6 h
      refine vr_iconst 0 d_RM_has_27 (by decide) ?_
      cases h
      exact vr_iret d_RM_has_28 rfl rfl ⟨rfl, rfl⟩
    · replace h := l_ifn c6 h
      refine vr_iload_n d_RM_has_9 rfl rfl ?_
      refine vr_if_lt (tgt := 27) d_RM_has_10 (by decide) (fun c10 => ?_) (fun c10 => ?_)
      · replace h := l_ifp c10 h
        refine vr_iconst 0 d_RM_has_27 (by decide) ?_
        cases h
        exact vr_iret d_RM_has_28 rfl rfl ⟨rfl, rfl⟩
      · replace h := l_ifn c10 h
        refine vr_iload_n d_RM_has_13 rfl rfl ?_
        refine vr_aload_n d_RM_has_14 rfl rfl ?_
        refine rm_getR (o := 19) H d_RM_has_15 F_RM_68 rfl (by decide) ?_
        refine vr_iload_n d_RM_has_18 rfl rfl ?_
        have q1 := (l_chk h).1
        replace h := (l_chk h).2
        refine rm_ald (o := 19) H (by decide) (by decide) d_RM_has_19 (ib_in q1) ?_
        refine vr_icmp_ge (tgt := 27) d_RM_has_20 (by decide) (fun c20 => ?_) (fun c20 => ?_)
        · replace h := l_ifp c20 h
          refine vr_iconst 0 d_RM_has_27 (by decide) ?_
          cases h
          exact vr_iret d_RM_has_28 rfl rfl ⟨rfl, rfl⟩
        · replace h := l_ifn c20 h
          refine vr_iconst 1 d_RM_has_23 (by decide) ?_
          refine vr_goto (tgt := 28) d_RM_has_24 (by decide) ?_
          cases h
          exact vr_iret d_RM_has_28 rfl rfl ⟨rfl, rfl⟩

def f_RM_nodes (N : Nat) (x1 : Int32) (S : rm_S) : Option (Int32 × rm_S) := if x1 < 0 then (some (0, S)) else (if x1 ≤ 1 then (chk (ib x1 2) <| some ((S.2 19 (Int32.toNatClampNeg x1)), S)) else (some (0, S)))
theorem c_RM_nodes {g : mv_G} {σ : mh_H} {m : Nat} {N : Nat} (H : rm_H g σ m) {x1 : Int32} {S : rm_S} {r : Int32 × rm_S} (h : f_RM_nodes N x1 S = some r) : mv_Met g M_RM_nodes 0 0 0 0 [.ref m, .int x1] (rz σ m S) (fun oc τ => τ = rz σ m r.2 ∧ oc = .returned (some (.int r.1))) := by
  refine mv_entry (L := [some (.ref m), some (.int x1)]) rfl rfl (Nat.le_of_ble_eq_true rfl) rfl ?_
  unfold f_RM_nodes at h
  refine vr_iload_n d_RM_nodes_0 rfl rfl ?_
  refine vr_if_lt (tgt := 9) d_RM_nodes_1 (by decide) (fun c1 => ?_) (fun c1 => ?_)
  · replace h := l_ifp c1 h
    refine vr_iconst 0 d_RM_nodes_9 (by decide) ?_
    refine vr_goto (tgt := 19) d_RM_nodes_10 (by decide) ?_
    cases h
    exact vr_iret d_RM_nodes_19 rfl rfl ⟨rfl, rfl⟩
  · replace h := l_ifn c1 h
    refine vr_iload_n d_RM_nodes_4 rfl rfl ?_
    refine vr_iconst 1 d_RM_nodes_5 (by decide) ?_
    refine vr_icmp_le (tgt := 13) d_RM_nodes_6 (by decide) (fun c6 => ?_) (fun c6 => ?_)
    · replace h := l_ifp c6 h
      refine vr_aload_n d_RM_nodes_13 rfl rfl ?_
      refine rm_getR (o := 19) H d_RM_nodes_14 F_RM_68 rfl (by decide) ?_
      refine vr_iload_n d_RM_nodes_17 rfl rfl ?_
      have q1 := (l_chk h).1
      replace h := (l_chk h).2
      refine rm_ald (o := 19) H (by decide) (by decide) d_RM_nodes_18 (ib_in q1) ?_
      cases h
      exact vr_iret d_RM_nodes_19 rfl rfl ⟨rfl, rfl⟩
    · replace h := l_ifn c6 h
      refine vr_iconst 0 d_RM_nodes_9 (by decide) ?_
      refine vr_goto (tgt := 19) d_RM_nodes_10 (by decide) ?_
      cases h
      exact vr_iret d_RM_nodes_19 rfl rfl ⟨rfl, rfl⟩

def k_RM_parts_7 (N : Nat) : Nat → Int32 → Int32 → Int32 → Int32 → rm_S → Option (Int32 × rm_S)
  | 0, _, _, _, _, _ => none
  | n + 1, y1, y2, y3, y4, S => chk (ib ((13000 * y1) + y2) 26000) <| if (y2 + (S.2 18 (Int32.toNatClampNeg ((13000 * y1) + y2)))) ≤ y4 then (some (y3, S)) else (chk (ib ((13000 * y1) + y4) 26000) <| bnd ((y4 + (S.2 18 (Int32.toNatClampNeg ((13000 * y1) + y4))))) fun v4 => k_RM_parts_7 N n y1 y2 ((y3 + 1)) v4 S)
theorem q_RM_parts_7 {g : mv_G} {σ : mh_H} {m : Nat} {N : Nat} (H : rm_H g σ m) : ∀ (n : Nat) (y1 : Int32) (y2 : Int32) (y3 : Int32) (y4 : Int32) (S : rm_S) (r : Int32 × rm_S), k_RM_parts_7 N n y1 y2 y3 y4 S = some r → mv_V g M_RM_parts 0 0 0 0 7 [some (.ref m), some (.int y1), some (.int y2), some (.int y3), some (.int y4)] [] (rz σ m S) (fun oc τ => τ = rz σ m r.2 ∧ oc = .returned (some (.int r.1))) := by
  intro n
  induction n with
  | zero =>
    intro y1 y2 y3 y4 S r h
    exact absurd h (by simp [k_RM_parts_7])
  | succ n ih =>
    intro y1 y2 y3 y4 S r h 
    unfold k_RM_parts_7 at h
    refine vr_iload d_RM_parts_7 rfl ?_
    refine vr_iload_n d_RM_parts_9 rfl rfl ?_
    refine vr_aload_n d_RM_parts_10 rfl rfl ?_
    refine rm_getR (o := 18) H d_RM_parts_11 F_RM_65 rfl (by decide) ?_
    refine vr_sipush 13000 d_RM_parts_14 (by decide) ?_
    refine vr_iload_n d_RM_parts_17 rfl rfl ?_
    refine vr_imul d_RM_parts_18 ?_
    refine vr_iload_n d_RM_parts_19 rfl rfl ?_
    refine vr_iadd d_RM_parts_20 ?_
    have q2 := (l_chk h).1
    replace h := (l_chk h).2
    refine rm_ald (o := 18) H (by decide) (by decide) d_RM_parts_21 (ib_in q2) ?_
    refine vr_iadd d_RM_parts_22 ?_
    refine vr_icmp_ge (tgt := 50) d_RM_parts_23 (by decide) (fun c23 => ?_) (fun c23 => ?_)
    · replace h := l_ifp c23 h
      refine vr_iload_n d_RM_parts_50 rfl rfl ?_
      cases h
      exact vr_iret d_RM_parts_51 rfl rfl ⟨rfl, rfl⟩
    · replace h := l_ifn c23 h
      refine vr_iinc (L' := [some (.ref m), some (.int y1), some (.int y2), some (.int (y3 + 1)), some (.int y4)]) (y3 + 1) d_RM_parts_26 (by decide) rfl rfl rfl ?_
      refine vr_iload d_RM_parts_29 rfl ?_
      refine vr_aload_n d_RM_parts_31 rfl rfl ?_
      refine rm_getR (o := 18) H d_RM_parts_32 F_RM_65 rfl (by decide) ?_
      refine vr_sipush 13000 d_RM_parts_35 (by decide) ?_
      refine vr_iload_n d_RM_parts_38 rfl rfl ?_
      refine vr_imul d_RM_parts_39 ?_
      refine vr_iload d_RM_parts_40 rfl ?_
      refine vr_iadd d_RM_parts_42 ?_
      have q3 := (l_chk h).1
      replace h := (l_chk h).2
      refine rm_ald (o := 18) H (by decide) (by decide) d_RM_parts_43 (ib_in q3) ?_
      refine vr_iadd d_RM_parts_44 ?_
      obtain ⟨v4, ev4, h⟩ := l_bnd h
      refine vr_nm ev4 ?_
      refine vr_istore (L' := [some (.ref m), some (.int y1), some (.int y2), some (.int (y3 + 1)), some (.int v4)]) d_RM_parts_45 (by decide) rfl ?_
      refine vr_goto (tgt := 7) d_RM_parts_47 (by decide) ?_
      exact mv_drop (ih _ _ _ _ _ _ h) (And.intro rfl (And.intro rfl (And.intro rfl (And.intro rfl (And.intro rfl trivial)))))

def f_RM_parts (N : Nat) (x1 : Int32) (x2 : Int32) (S : rm_S) : Option (Int32 × rm_S) := bnd ((x2 + 1)) fun v1 => k_RM_parts_7 N N x1 x2 0 v1 S
theorem c_RM_parts {g : mv_G} {σ : mh_H} {m : Nat} {N : Nat} (H : rm_H g σ m) {x1 : Int32} {x2 : Int32} {S : rm_S} {r : Int32 × rm_S} (h : f_RM_parts N x1 x2 S = some r) : mv_Met g M_RM_parts 0 0 0 0 [.ref m, .int x1, .int x2] (rz σ m S) (fun oc τ => τ = rz σ m r.2 ∧ oc = .returned (some (.int r.1))) := by
  refine mv_entry (L := [some (.ref m), some (.int x1), some (.int x2), none, none]) rfl rfl (Nat.le_of_ble_eq_true rfl) rfl ?_
  unfold f_RM_parts at h
  refine vr_iconst 0 d_RM_parts_0 (by decide) ?_
  refine vr_istore_n (L' := [some (.ref m), some (.int x1), some (.int x2), some (.int 0), none]) d_RM_parts_1 rfl (by decide) rfl ?_
  refine vr_iload_n d_RM_parts_2 rfl rfl ?_
  refine vr_iconst 1 d_RM_parts_3 (by decide) ?_
  refine vr_iadd d_RM_parts_4 ?_
  obtain ⟨v1, ev1, h⟩ := l_bnd h
  refine vr_nm ev1 ?_
  refine vr_istore (L' := [some (.ref m), some (.int x1), some (.int x2), some (.int 0), some (.int v1)]) d_RM_parts_5 (by decide) rfl ?_
  exact mv_drop (q_RM_parts_7 H N _ _ _ _ _ _ h) (And.intro rfl (And.intro rfl (And.intro rfl (And.intro rfl (And.intro rfl trivial)))))

def k_RM_part_23 (N : Nat) : Nat → Int32 → Int32 → Int32 → Int32 → Int32 → rm_S → Option (Int32 × rm_S)
  | 0, _, _, _, _, _, _ => none
  | n + 1, y1, y2, y3, y4, y5, S => chk (ib ((13000 * y1) + y2) 26000) <| if (y2 + (S.2 18 (Int32.toNatClampNeg ((13000 * y1) + y2)))) ≤ y5 then (some ((-1), S)) else (if y4 = y3 then (some (y5, S)) else (chk (ib ((13000 * y1) + y5) 26000) <| bnd ((y5 + (S.2 18 (Int32.toNatClampNeg ((13000 * y1) + y5))))) fun v5 => k_RM_part_23 N n y1 y2 y3 ((y4 + 1)) v5 S))
theorem q_RM_part_23 {g : mv_G} {σ : mh_H} {m : Nat} {N : Nat} (H : rm_H g σ m) : ∀ (n : Nat) (y1 : Int32) (y2 : Int32) (y3 : Int32) (y4 : Int32) (y5 : Int32) (S : rm_S) (r : Int32 × rm_S), k_RM_part_23 N n y1 y2 y3 y4 y5 S = some r → mv_V g M_RM_part 1 22 0 0 23 [some (.ref m), some (.int y1), some (.int y2), some (.int y3), some (.int y4), some (.int y5)] [] (rz σ m S) (fun oc τ => τ = rz σ m r.2 ∧ oc = .returned (some (.int r.1))) := by
  intro n
  induction n with
  | zero =>
    intro y1 y2 y3 y4 y5 S r h
    exact absurd h (by simp [k_RM_part_23])
  | succ n ih =>
    intro y1 y2 y3 y4 y5 S r h 
    unfold k_RM_part_23 at h
    refine vr_iload d_RM_part_23 rfl ?_
    refine vr_iload_n d_RM_part_25 rfl rfl ?_
    refine vr_aload_n d_RM_part_26 rfl rfl ?_
    refine rm_getR (o := 18) H d_RM_part_27 F_RM_65 rfl (by decide) ?_
    refine vr_sipush 13000 d_RM_part_30 (by decide) ?_
    refine vr_iload_n d_RM_part_33 rfl rfl ?_
    refine vr_imul d_RM_part_34 ?_
    refine vr_iload_n d_RM_part_35 rfl rfl ?_
    refine vr_iadd d_RM_part_36 ?_
    have q3 := (l_chk h).1
    replace h := (l_chk h).2
    refine rm_ald (o := 18) H (by decide) (by decide) d_RM_part_37 (ib_in q3) ?_
    refine vr_iadd d_RM_part_38 ?_
    refine vr_icmp_ge (tgt := 75) d_RM_part_39 (by decide) (fun c39 => ?_) (fun c39 => ?_)
    · replace h := l_ifp c39 h
      refine vr_iconst (-1) d_RM_part_75 (by decide) ?_
      cases h
      exact vr_iret d_RM_part_76 rfl rfl ⟨rfl, rfl⟩
    · replace h := l_ifn c39 h
      refine vr_iload d_RM_part_42 rfl ?_
      refine vr_iload_n d_RM_part_44 rfl rfl ?_
      refine vr_icmp_ne (tgt := 51) d_RM_part_45 (by decide) (fun c45 => ?_) (fun c45 => ?_)
      · replace h := l_ifn c45 h
        refine vr_iinc (L' := [some (.ref m), some (.int y1), some (.int y2), some (.int y3), some (.int (y4 + 1)), some (.int y5)]) (y4 + 1) d_RM_part_51 (by decide) rfl rfl rfl ?_
        refine vr_iload d_RM_part_54 rfl ?_
        refine vr_aload_n d_RM_part_56 rfl rfl ?_
        refine rm_getR (o := 18) H d_RM_part_57 F_RM_65 rfl (by decide) ?_
        refine vr_sipush 13000 d_RM_part_60 (by decide) ?_
        refine vr_iload_n d_RM_part_63 rfl rfl ?_
        refine vr_imul d_RM_part_64 ?_
        refine vr_iload d_RM_part_65 rfl ?_
        refine vr_iadd d_RM_part_67 ?_
        have q4 := (l_chk h).1
        replace h := (l_chk h).2
        refine rm_ald (o := 18) H (by decide) (by decide) d_RM_part_68 (ib_in q4) ?_
        refine vr_iadd d_RM_part_69 ?_
        obtain ⟨v5, ev5, h⟩ := l_bnd h
        refine vr_nm ev5 ?_
        refine vr_istore (L' := [some (.ref m), some (.int y1), some (.int y2), some (.int y3), some (.int (y4 + 1)), some (.int v5)]) d_RM_part_70 (by decide) rfl ?_
        refine vr_goto (tgt := 23) d_RM_part_72 (by decide) ?_
        exact mv_drop (ih _ _ _ _ _ _ _ h) (And.intro rfl (And.intro rfl (And.intro rfl (And.intro rfl (And.intro rfl (And.intro rfl trivial))))))
      · replace h := l_ifp c45 h
        refine vr_iload d_RM_part_48 rfl ?_
        cases h
        exact vr_iret d_RM_part_50 rfl rfl ⟨rfl, rfl⟩

def f_RM_part (N : Nat) (x1 : Int32) (x2 : Int32) (x3 : Int32) (S : rm_S) : Option (Int32 × rm_S) := calI (f_RM_has N x1 x2 S) fun v1 S1 => if v1 = 0 then (some ((-1), S1)) else (if 0 ≤ x3 then (bnd ((x2 + 1)) fun v2 => k_RM_part_23 N N x1 x2 x3 0 v2 S1) else (some ((-1), S1)))
theorem c_RM_part {g : mv_G} {σ : mh_H} {m : Nat} {N : Nat} (H : rm_H g σ m) {x1 : Int32} {x2 : Int32} {x3 : Int32} {S : rm_S} {r : Int32 × rm_S} (h : f_RM_part N x1 x2 x3 S = some r) : mv_Met g M_RM_part 1 22 0 0 [.ref m, .int x1, .int x2, .int x3] (rz σ m S) (fun oc τ => τ = rz σ m r.2 ∧ oc = .returned (some (.int r.1))) := by
  refine mv_entry (L := [some (.ref m), some (.int x1), some (.int x2), some (.int x3), none, none]) rfl rfl (Nat.le_of_ble_eq_true rfl) rfl ?_
  unfold f_RM_part at h
  refine vr_aload_n d_RM_part_0 rfl rfl ?_
  refine vr_iload_n d_RM_part_1 rfl rfl ?_
  refine vr_iload_n d_RM_part_2 rfl rfl ?_
  obtain ⟨v1, S1, ev1, h⟩ := l_calI h
  refine rm_callI [.int x1, .int x2] H d_RM_part_3 C_RM_238 (c_RM_has H ev1) rfl rfl rfl (Nat.le_of_ble_eq_true rfl) (by decide) (Nat.le_of_ble_eq_true rfl) ?_
  refine vr_if_eq (tgt := 13) d_RM_part_6 (by decide) (fun c6 => ?_) (fun c6 => ?_)
  · replace h := l_ifp c6 h
    refine vr_iconst (-1) d_RM_part_13 (by decide) ?_
    cases h
    exact vr_iret d_RM_part_14 rfl rfl ⟨rfl, rfl⟩
  · replace h := l_ifn c6 h
    refine vr_iload_n d_RM_part_9 rfl rfl ?_
    refine vr_if_ge (tgt := 15) d_RM_part_10 (by decide) (fun c10 => ?_) (fun c10 => ?_)
    · replace h := l_ifp c10 h
      refine vr_iconst 0 d_RM_part_15 (by decide) ?_
      refine vr_istore (L' := [some (.ref m), some (.int x1), some (.int x2), some (.int x3), some (.int 0), none]) d_RM_part_16 (by decide) rfl ?_
      refine vr_iload_n d_RM_part_18 rfl rfl ?_
      refine vr_iconst 1 d_RM_part_19 (by decide) ?_
      refine vr_iadd d_RM_part_20 ?_
      obtain ⟨v2, ev2, h⟩ := l_bnd h
      refine vr_nm ev2 ?_
      refine vr_istore (L' := [some (.ref m), some (.int x1), some (.int x2), some (.int x3), some (.int 0), some (.int v2)]) d_RM_part_21 (by decide) rfl ?_
      exact mv_drop (q_RM_part_23 H N _ _ _ _ _ _ _ h) (And.intro rfl (And.intro rfl (And.intro rfl (And.intro rfl (And.intro rfl (And.intro rfl trivial))))))
    · replace h := l_ifn c10 h
      refine vr_iconst (-1) d_RM_part_13 (by decide) ?_
      cases h
      exact vr_iret d_RM_part_14 rfl rfl ⟨rfl, rfl⟩

def f_RM_node (N : Nat) (x1 : Int32) (x2 : Int32) (x3 : Int32) (S : rm_S) : Option (Int32 × rm_S) := calI (f_RM_has N x1 x2 S) fun v1 S1 => if v1 = 0 then (some ((-2), S1)) else (bnd (((13000 * x1) + x2)) fun v2 => if x3 = 0 then (chk (ib v2 26000) <| some ((S1.2 14 (Int32.toNatClampNeg v2)), S1)) else (if x3 = 1 then (chk (ib v2 26000) <| some ((S1.2 15 (Int32.toNatClampNeg v2)), S1)) else (if x3 = 2 then (chk (ib v2 26000) <| some ((S1.2 16 (Int32.toNatClampNeg v2)), S1)) else (if x3 = 3 then (chk (ib v2 26000) <| some ((S1.2 18 (Int32.toNatClampNeg v2)), S1)) else (if x3 = 4 then (calI (f_RM_parts N x1 x2 S1) fun v3 S3 => some (v3, S3)) else (some ((-2), S1)))))))
theorem c_RM_node {g : mv_G} {σ : mh_H} {m : Nat} {N : Nat} (H : rm_H g σ m) {x1 : Int32} {x2 : Int32} {x3 : Int32} {S : rm_S} {r : Int32 × rm_S} (h : f_RM_node N x1 x2 x3 S = some r) : mv_Met g M_RM_node 1 24 0 0 [.ref m, .int x1, .int x2, .int x3] (rz σ m S) (fun oc τ => τ = rz σ m r.2 ∧ oc = .returned (some (.int r.1))) := by
  refine mv_entry (L := [some (.ref m), some (.int x1), some (.int x2), some (.int x3), none]) rfl rfl (Nat.le_of_ble_eq_true rfl) rfl ?_
  unfold f_RM_node at h
  refine vr_aload_n d_RM_node_0 rfl rfl ?_
  refine vr_iload_n d_RM_node_1 rfl rfl ?_
  refine vr_iload_n d_RM_node_2 rfl rfl ?_
  obtain ⟨v1, S1, ev1, h⟩ := l_calI h
  refine rm_callI [.int x1, .int x2] H d_RM_node_3 C_RM_238 (c_RM_has H ev1) rfl rfl rfl (Nat.le_of_ble_eq_true rfl) (by decide) (Nat.le_of_ble_eq_true rfl) ?_
  refine vr_if_ne (tgt := 12) d_RM_node_6 (by decide) (fun c6 => ?_) (fun c6 => ?_)
  · replace h := l_ifn c6 h
    refine vr_sipush 13000 d_RM_node_12 (by decide) ?_
    refine vr_iload_n d_RM_node_15 rfl rfl ?_
    refine vr_imul d_RM_node_16 ?_
    refine vr_iload_n d_RM_node_17 rfl rfl ?_
    refine vr_iadd d_RM_node_18 ?_
    obtain ⟨v2, ev2, h⟩ := l_bnd h
    refine vr_nm ev2 ?_
    refine vr_istore (L' := [some (.ref m), some (.int x1), some (.int x2), some (.int x3), some (.int v2)]) d_RM_node_19 (by decide) rfl ?_
    refine vr_iload_n d_RM_node_21 rfl rfl ?_
    refine vr_if_ne (tgt := 35) d_RM_node_22 (by decide) (fun c22 => ?_) (fun c22 => ?_)
    · replace h := l_ifn c22 h
      refine vr_iload_n d_RM_node_35 rfl rfl ?_
      refine vr_iconst 1 d_RM_node_36 (by decide) ?_
      refine vr_icmp_ne (tgt := 50) d_RM_node_37 (by decide) (fun c37 => ?_) (fun c37 => ?_)
      · replace h := l_ifn c37 h
        refine vr_iload_n d_RM_node_50 rfl rfl ?_
        refine vr_iconst 2 d_RM_node_51 (by decide) ?_
        refine vr_icmp_ne (tgt := 65) d_RM_node_52 (by decide) (fun c52 => ?_) (fun c52 => ?_)
        · replace h := l_ifn c52 h
          refine vr_iload_n d_RM_node_65 rfl rfl ?_
          refine vr_iconst 3 d_RM_node_66 (by decide) ?_
          refine vr_icmp_ne (tgt := 80) d_RM_node_67 (by decide) (fun c67 => ?_) (fun c67 => ?_)
          · replace h := l_ifn c67 h
            refine vr_iload_n d_RM_node_80 rfl rfl ?_
            refine vr_iconst 4 d_RM_node_81 (by decide) ?_
            refine vr_icmp_ne (tgt := 94) d_RM_node_82 (by decide) (fun c82 => ?_) (fun c82 => ?_)
            · replace h := l_ifn c82 h
              refine vr_bipush (-2) d_RM_node_94 (by decide) ?_
              cases h
              exact vr_iret d_RM_node_96 rfl rfl ⟨rfl, rfl⟩
            · replace h := l_ifp c82 h
              refine vr_aload_n d_RM_node_85 rfl rfl ?_
              refine vr_iload_n d_RM_node_86 rfl rfl ?_
              refine vr_iload_n d_RM_node_87 rfl rfl ?_
              obtain ⟨v3, S3, ev3, h⟩ := l_calI h
              refine rm_callI [.int x1, .int x2] H d_RM_node_88 C_RM_241 (c_RM_parts H ev3) rfl rfl rfl (Nat.le_of_ble_eq_true rfl) (by decide) (Nat.le_of_ble_eq_true rfl) ?_
              refine vr_goto (tgt := 96) d_RM_node_91 (by decide) ?_
              cases h
              exact vr_iret d_RM_node_96 rfl rfl ⟨rfl, rfl⟩
          · replace h := l_ifp c67 h
            refine vr_aload_n d_RM_node_70 rfl rfl ?_
            refine rm_getR (o := 18) H d_RM_node_71 F_RM_65 rfl (by decide) ?_
            refine vr_iload d_RM_node_74 rfl ?_
            have q4 := (l_chk h).1
            replace h := (l_chk h).2
            refine rm_ald (o := 18) H (by decide) (by decide) d_RM_node_76 (ib_in q4) ?_
            refine vr_goto (tgt := 96) d_RM_node_77 (by decide) ?_
            cases h
            exact vr_iret d_RM_node_96 rfl rfl ⟨rfl, rfl⟩
        · replace h := l_ifp c52 h
          refine vr_aload_n d_RM_node_55 rfl rfl ?_
          refine rm_getR (o := 16) H d_RM_node_56 F_RM_59 rfl (by decide) ?_
          refine vr_iload d_RM_node_59 rfl ?_
          have q5 := (l_chk h).1
          replace h := (l_chk h).2
          refine rm_ald (o := 16) H (by decide) (by decide) d_RM_node_61 (ib_in q5) ?_
          refine vr_goto (tgt := 96) d_RM_node_62 (by decide) ?_
          cases h
          exact vr_iret d_RM_node_96 rfl rfl ⟨rfl, rfl⟩
      · replace h := l_ifp c37 h
        refine vr_aload_n d_RM_node_40 rfl rfl ?_
        refine rm_getR (o := 15) H d_RM_node_41 F_RM_56 rfl (by decide) ?_
        refine vr_iload d_RM_node_44 rfl ?_
        have q6 := (l_chk h).1
        replace h := (l_chk h).2
        refine rm_ald (o := 15) H (by decide) (by decide) d_RM_node_46 (ib_in q6) ?_
        refine vr_goto (tgt := 96) d_RM_node_47 (by decide) ?_
        cases h
        exact vr_iret d_RM_node_96 rfl rfl ⟨rfl, rfl⟩
    · replace h := l_ifp c22 h
      refine vr_aload_n d_RM_node_25 rfl rfl ?_
      refine rm_getR (o := 14) H d_RM_node_26 F_RM_53 rfl (by decide) ?_
      refine vr_iload d_RM_node_29 rfl ?_
      have q7 := (l_chk h).1
      replace h := (l_chk h).2
      refine rm_ald (o := 14) H (by decide) (by decide) d_RM_node_31 (ib_in q7) ?_
      refine vr_goto (tgt := 96) d_RM_node_32 (by decide) ?_
      cases h
      exact vr_iret d_RM_node_96 rfl rfl ⟨rfl, rfl⟩
  · replace h := l_ifp c6 h
    refine vr_bipush (-2) d_RM_node_9 (by decide) ?_
    cases h
    exact vr_iret d_RM_node_11 rfl rfl ⟨rfl, rfl⟩

def f_RM_whole (N : Nat) (x1 : Int32) (x2 : Int32) (S : rm_S) : Option (Int32 × rm_S) := calI (f_RM_has N x1 x2 S) fun v1 S1 => if v1 = 0 then (some ((-1), S1)) else (chk (ib ((13000 * x1) + x2) 26000) <| some ((S1.2 17 (Int32.toNatClampNeg ((13000 * x1) + x2))), S1))
theorem c_RM_whole {g : mv_G} {σ : mh_H} {m : Nat} {N : Nat} (H : rm_H g σ m) {x1 : Int32} {x2 : Int32} {S : rm_S} {r : Int32 × rm_S} (h : f_RM_whole N x1 x2 S = some r) : mv_Met g M_RM_whole 1 22 0 0 [.ref m, .int x1, .int x2] (rz σ m S) (fun oc τ => τ = rz σ m r.2 ∧ oc = .returned (some (.int r.1))) := by
  refine mv_entry (L := [some (.ref m), some (.int x1), some (.int x2)]) rfl rfl (Nat.le_of_ble_eq_true rfl) rfl ?_
  unfold f_RM_whole at h
  refine vr_aload_n d_RM_whole_0 rfl rfl ?_
  refine vr_iload_n d_RM_whole_1 rfl rfl ?_
  refine vr_iload_n d_RM_whole_2 rfl rfl ?_
  obtain ⟨v1, S1, ev1, h⟩ := l_calI h
  refine rm_callI [.int x1, .int x2] H d_RM_whole_3 C_RM_238 (c_RM_has H ev1) rfl rfl rfl (Nat.le_of_ble_eq_true rfl) (by decide) (Nat.le_of_ble_eq_true rfl) ?_
  refine vr_if_eq (tgt := 24) d_RM_whole_6 (by decide) (fun c6 => ?_) (fun c6 => ?_)
  · replace h := l_ifp c6 h
    refine vr_iconst (-1) d_RM_whole_24 (by decide) ?_
    cases h
    exact vr_iret d_RM_whole_25 rfl rfl ⟨rfl, rfl⟩
  · replace h := l_ifn c6 h
    refine vr_aload_n d_RM_whole_9 rfl rfl ?_
    refine rm_getR (o := 17) H d_RM_whole_10 F_RM_62 rfl (by decide) ?_
    refine vr_sipush 13000 d_RM_whole_13 (by decide) ?_
    refine vr_iload_n d_RM_whole_16 rfl rfl ?_
    refine vr_imul d_RM_whole_17 ?_
    refine vr_iload_n d_RM_whole_18 rfl rfl ?_
    refine vr_iadd d_RM_whole_19 ?_
    have q2 := (l_chk h).1
    replace h := (l_chk h).2
    refine rm_ald (o := 17) H (by decide) (by decide) d_RM_whole_20 (ib_in q2) ?_
    refine vr_goto (tgt := 25) d_RM_whole_21 (by decide) ?_
    cases h
    exact vr_iret d_RM_whole_25 rfl rfl ⟨rfl, rfl⟩

def f_RM_names (N : Nat) (S : rm_S) : Option (Int32 × rm_S) := some ((S.1 31), S)
theorem c_RM_names {g : mv_G} {σ : mh_H} {m : Nat} {N : Nat} (H : rm_H g σ m) {S : rm_S} {r : Int32 × rm_S} (h : f_RM_names N S = some r) : mv_Met g M_RM_names 0 0 0 0 [.ref m] (rz σ m S) (fun oc τ => τ = rz σ m r.2 ∧ oc = .returned (some (.int r.1))) := by
  refine mv_entry (L := [some (.ref m)]) rfl rfl (Nat.le_of_ble_eq_true rfl) rfl ?_
  unfold f_RM_names at h
  refine vr_aload_n d_RM_names_0 rfl rfl ?_
  refine rm_getI H d_RM_names_1 F_RM_223 rfl ?_
  cases h
  exact vr_iret d_RM_names_4 rfl rfl ⟨rfl, rfl⟩

def f_RM_spelt (N : Nat) (x1 : Int32) (x2 : Int32) (S : rm_S) : Option (Int32 × rm_S) := if x1 < 0 then (some ((-1), S)) else (if (S.1 31) ≤ x1 then (some ((-1), S)) else (if x2 < 0 then (some ((-1), S)) else (chk (ib (x1 + 1) 6001) <| chk (ib x1 6001) <| if x2 < ((S.2 21 (Int32.toNatClampNeg (x1 + 1))) - (S.2 21 (Int32.toNatClampNeg x1))) then (chk (ib x1 6001) <| chk (ib ((S.2 21 (Int32.toNatClampNeg x1)) + x2) 12000) <| some ((S.2 20 (Int32.toNatClampNeg ((S.2 21 (Int32.toNatClampNeg x1)) + x2))), S)) else (some ((-1), S)))))
theorem c_RM_spelt {g : mv_G} {σ : mh_H} {m : Nat} {N : Nat} (H : rm_H g σ m) {x1 : Int32} {x2 : Int32} {S : rm_S} {r : Int32 × rm_S} (h : f_RM_spelt N x1 x2 S = some r) : mv_Met g M_RM_spelt 0 0 0 0 [.ref m, .int x1, .int x2] (rz σ m S) (fun oc τ => τ = rz σ m r.2 ∧ oc = .returned (some (.int r.1))) := by
  refine mv_entry (L := [some (.ref m), some (.int x1), some (.int x2)]) rfl rfl (Nat.le_of_ble_eq_true rfl) rfl ?_
  unfold f_RM_spelt at h
  refine vr_iload_n d_RM_spelt_0 rfl rfl ?_
  refine vr_if_lt (tgt := 35) d_RM_spelt_1 (by decide) (fun c1 => ?_) (fun c1 => ?_)
  · replace h := l_ifp c1 h
    refine vr_iconst (-1) d_RM_spelt_35 (by decide) ?_
    refine vr_goto (tgt := 52) d_RM_spelt_36 (by decide) ?_
    cases h
    exact vr_iret d_RM_spelt_52 rfl rfl ⟨rfl, rfl⟩
  · replace h := l_ifn c1 h
    refine vr_iload_n d_RM_spelt_4 rfl rfl ?_
    refine vr_aload_n d_RM_spelt_5 rfl rfl ?_
    refine rm_getI H d_RM_spelt_6 F_RM_223 rfl ?_
    refine vr_icmp_ge (tgt := 35) d_RM_spelt_9 (by decide) (fun c9 => ?_) (fun c9 => ?_)
    · replace h := l_ifp c9 h
      refine vr_iconst (-1) d_RM_spelt_35 (by decide) ?_
      refine vr_goto (tgt := 52) d_RM_spelt_36 (by decide) ?_
      cases h
      exact vr_iret d_RM_spelt_52 rfl rfl ⟨rfl, rfl⟩
    · replace h := l_ifn c9 h
      refine vr_iload_n d_RM_spelt_12 rfl rfl ?_
      refine vr_if_lt (tgt := 35) d_RM_spelt_13 (by decide) (fun c13 => ?_) (fun c13 => ?_)
      · replace h := l_ifp c13 h
        refine vr_iconst (-1) d_RM_spelt_35 (by decide) ?_
        refine vr_goto (tgt := 52) d_RM_spelt_36 (by decide) ?_
        cases h
        exact vr_iret d_RM_spelt_52 rfl rfl ⟨rfl, rfl⟩
      · replace h := l_ifn c13 h
        refine vr_iload_n d_RM_spelt_16 rfl rfl ?_
        refine vr_aload_n d_RM_spelt_17 rfl rfl ?_
        refine rm_getR (o := 21) H d_RM_spelt_18 F_RM_74 rfl (by decide) ?_
        refine vr_iload_n d_RM_spelt_21 rfl rfl ?_
        refine vr_iconst 1 d_RM_spelt_22 (by decide) ?_
        refine vr_iadd d_RM_spelt_23 ?_
        have q1 := (l_chk h).1
        replace h := (l_chk h).2
        refine rm_ald (o := 21) H (by decide) (by decide) d_RM_spelt_24 (ib_in q1) ?_
        refine vr_aload_n d_RM_spelt_25 rfl rfl ?_
        refine rm_getR (o := 21) H d_RM_spelt_26 F_RM_74 rfl (by decide) ?_
        refine vr_iload_n d_RM_spelt_29 rfl rfl ?_
        have q2 := (l_chk h).1
        replace h := (l_chk h).2
        refine rm_ald (o := 21) H (by decide) (by decide) d_RM_spelt_30 (ib_in q2) ?_
        refine vr_isub d_RM_spelt_31 ?_
        refine vr_icmp_lt (tgt := 39) d_RM_spelt_32 (by decide) (fun c32 => ?_) (fun c32 => ?_)
        · replace h := l_ifp c32 h
          refine vr_aload_n d_RM_spelt_39 rfl rfl ?_
          refine rm_getR (o := 20) H d_RM_spelt_40 F_RM_71 rfl (by decide) ?_
          refine vr_aload_n d_RM_spelt_43 rfl rfl ?_
          refine rm_getR (o := 21) H d_RM_spelt_44 F_RM_74 rfl (by decide) ?_
          refine vr_iload_n d_RM_spelt_47 rfl rfl ?_
          have q3 := (l_chk h).1
          replace h := (l_chk h).2
          refine rm_ald (o := 21) H (by decide) (by decide) d_RM_spelt_48 (ib_in q3) ?_
          refine vr_iload_n d_RM_spelt_49 rfl rfl ?_
          refine vr_iadd d_RM_spelt_50 ?_
          have q4 := (l_chk h).1
          replace h := (l_chk h).2
          refine rm_ald (o := 20) H (by decide) (by decide) d_RM_spelt_51 (ib_in q4) ?_
          cases h
          exact vr_iret d_RM_spelt_52 rfl rfl ⟨rfl, rfl⟩
        · replace h := l_ifn c32 h
          refine vr_iconst (-1) d_RM_spelt_35 (by decide) ?_
          refine vr_goto (tgt := 52) d_RM_spelt_36 (by decide) ?_
          cases h
          exact vr_iret d_RM_spelt_52 rfl rfl ⟨rfl, rfl⟩

def k_RM_same_23 (N : Nat) : Nat → Int32 → Int32 → rm_S → Option (Int32 × rm_S)
  | 0, _, _, _ => none
  | n + 1, y1, y2, S => chk (ib 0 2) <| if (S.2 19 (Int32.toNatClampNeg 0)) ≤ y2 then (chk (y1 = 0 ∨ y1 = 1) <| some (y1, S)) else (if y1 = 0 then (chk (y1 = 0 ∨ y1 = 1) <| some (y1, S)) else (chk (ib y2 26000) <| chk (ib (13000 + y2) 26000) <| if (S.2 14 (Int32.toNatClampNeg y2)) = (S.2 14 (Int32.toNatClampNeg (13000 + y2))) then (chk (ib y2 26000) <| chk (ib (13000 + y2) 26000) <| if (S.2 16 (Int32.toNatClampNeg y2)) = (S.2 16 (Int32.toNatClampNeg (13000 + y2))) then (chk (ib y2 26000) <| chk (ib (13000 + y2) 26000) <| if (S.2 17 (Int32.toNatClampNeg y2)) = (S.2 17 (Int32.toNatClampNeg (13000 + y2))) then (k_RM_same_23 N n 1 ((y2 + 1)) S) else (k_RM_same_23 N n 0 ((y2 + 1)) S)) else (k_RM_same_23 N n 0 ((y2 + 1)) S)) else (k_RM_same_23 N n 0 ((y2 + 1)) S)))
theorem q_RM_same_23 {g : mv_G} {σ : mh_H} {m : Nat} {N : Nat} (H : rm_H g σ m) : ∀ (n : Nat) (y1 : Int32) (y2 : Int32) (S : rm_S) (r : Int32 × rm_S), k_RM_same_23 N n y1 y2 S = some r → mv_V g M_RM_same 0 0 0 0 23 [some (.ref m), some (.int y1), some (.int y2)] [] (rz σ m S) (fun oc τ => τ = rz σ m r.2 ∧ oc = .returned (some (.int r.1))) := by
  intro n
  induction n with
  | zero =>
    intro y1 y2 S r h
    exact absurd h (by simp [k_RM_same_23])
  | succ n ih =>
    intro y1 y2 S r h 
    unfold k_RM_same_23 at h
    refine vr_iload_n d_RM_same_23 rfl rfl ?_
    refine vr_aload_n d_RM_same_24 rfl rfl ?_
    refine rm_getR (o := 19) H d_RM_same_25 F_RM_68 rfl (by decide) ?_
    refine vr_iconst 0 d_RM_same_28 (by decide) ?_
    have q3 := (l_chk h).1
    replace h := (l_chk h).2
    refine rm_ald (o := 19) H (by decide) (by decide) d_RM_same_29 (ib_in q3) ?_
    refine vr_icmp_ge (tgt := 106) d_RM_same_30 (by decide) (fun c30 => ?_) (fun c30 => ?_)
    · replace h := l_ifp c30 h
      refine vr_iload_n d_RM_same_106 rfl rfl ?_
      have q4 := (l_chk h).1
      replace h := (l_chk h).2
      cases h
      exact vr_iret d_RM_same_107 rfl (l_narZ q4) ⟨rfl, rfl⟩
    · replace h := l_ifn c30 h
      refine vr_iload_n d_RM_same_33 rfl rfl ?_
      refine vr_if_eq (tgt := 106) d_RM_same_34 (by decide) (fun c34 => ?_) (fun c34 => ?_)
      · replace h := l_ifp c34 h
        refine vr_iload_n d_RM_same_106 rfl rfl ?_
        have q5 := (l_chk h).1
        replace h := (l_chk h).2
        cases h
        exact vr_iret d_RM_same_107 rfl (l_narZ q5) ⟨rfl, rfl⟩
      · replace h := l_ifn c34 h
        refine vr_aload_n d_RM_same_37 rfl rfl ?_
        refine rm_getR (o := 14) H d_RM_same_38 F_RM_53 rfl (by decide) ?_
        refine vr_iload_n d_RM_same_41 rfl rfl ?_
        have q6 := (l_chk h).1
        replace h := (l_chk h).2
        refine rm_ald (o := 14) H (by decide) (by decide) d_RM_same_42 (ib_in q6) ?_
        refine vr_aload_n d_RM_same_43 rfl rfl ?_
        refine rm_getR (o := 14) H d_RM_same_44 F_RM_53 rfl (by decide) ?_
        refine vr_sipush 13000 d_RM_same_47 (by decide) ?_
        refine vr_iload_n d_RM_same_50 rfl rfl ?_
        refine vr_iadd d_RM_same_51 ?_
        have q7 := (l_chk h).1
        replace h := (l_chk h).2
        refine rm_ald (o := 14) H (by decide) (by decide) d_RM_same_52 (ib_in q7) ?_
        refine vr_icmp_ne (tgt := 98) d_RM_same_53 (by decide) (fun c53 => ?_) (fun c53 => ?_)
        · replace h := l_ifn c53 h
          refine vr_iconst 0 d_RM_same_98 (by decide) ?_
          refine vr_istore_n (L' := [some (.ref m), some (.int 0), some (.int y2)]) d_RM_same_99 rfl (by decide) rfl ?_
          refine vr_iinc (L' := [some (.ref m), some (.int 0), some (.int (y2 + 1))]) (y2 + 1) d_RM_same_100 (by decide) rfl rfl rfl ?_
          refine vr_goto (tgt := 23) d_RM_same_103 (by decide) ?_
          exact mv_drop (ih _ _ _ _ h) (And.intro rfl (And.intro rfl (And.intro rfl trivial)))
        · replace h := l_ifp c53 h
          refine vr_aload_n d_RM_same_56 rfl rfl ?_
          refine rm_getR (o := 16) H d_RM_same_57 F_RM_59 rfl (by decide) ?_
          refine vr_iload_n d_RM_same_60 rfl rfl ?_
          have q8 := (l_chk h).1
          replace h := (l_chk h).2
          refine rm_ald (o := 16) H (by decide) (by decide) d_RM_same_61 (ib_in q8) ?_
          refine vr_aload_n d_RM_same_62 rfl rfl ?_
          refine rm_getR (o := 16) H d_RM_same_63 F_RM_59 rfl (by decide) ?_
          refine vr_sipush 13000 d_RM_same_66 (by decide) ?_
          refine vr_iload_n d_RM_same_69 rfl rfl ?_
          refine vr_iadd d_RM_same_70 ?_
          have q9 := (l_chk h).1
          replace h := (l_chk h).2
          refine rm_ald (o := 16) H (by decide) (by decide) d_RM_same_71 (ib_in q9) ?_
          refine vr_icmp_ne (tgt := 98) d_RM_same_72 (by decide) (fun c72 => ?_) (fun c72 => ?_)
          · replace h := l_ifn c72 h
            refine vr_iconst 0 d_RM_same_98 (by decide) ?_
            refine vr_istore_n (L' := [some (.ref m), some (.int 0), some (.int y2)]) d_RM_same_99 rfl (by decide) rfl ?_
            refine vr_iinc (L' := [some (.ref m), some (.int 0), some (.int (y2 + 1))]) (y2 + 1) d_RM_same_100 (by decide) rfl rfl rfl ?_
            refine vr_goto (tgt := 23) d_RM_same_103 (by decide) ?_
            exact mv_drop (ih _ _ _ _ h) (And.intro rfl (And.intro rfl (And.intro rfl trivial)))
          · replace h := l_ifp c72 h
            refine vr_aload_n d_RM_same_75 rfl rfl ?_
            refine rm_getR (o := 17) H d_RM_same_76 F_RM_62 rfl (by decide) ?_
            refine vr_iload_n d_RM_same_79 rfl rfl ?_
            have q10 := (l_chk h).1
            replace h := (l_chk h).2
            refine rm_ald (o := 17) H (by decide) (by decide) d_RM_same_80 (ib_in q10) ?_
            refine vr_aload_n d_RM_same_81 rfl rfl ?_
            refine rm_getR (o := 17) H d_RM_same_82 F_RM_62 rfl (by decide) ?_
            refine vr_sipush 13000 d_RM_same_85 (by decide) ?_
            refine vr_iload_n d_RM_same_88 rfl rfl ?_
            refine vr_iadd d_RM_same_89 ?_
            have q11 := (l_chk h).1
            replace h := (l_chk h).2
            refine rm_ald (o := 17) H (by decide) (by decide) d_RM_same_90 (ib_in q11) ?_
            refine vr_icmp_ne (tgt := 98) d_RM_same_91 (by decide) (fun c91 => ?_) (fun c91 => ?_)
            · replace h := l_ifn c91 h
              refine vr_iconst 0 d_RM_same_98 (by decide) ?_
              refine vr_istore_n (L' := [some (.ref m), some (.int 0), some (.int y2)]) d_RM_same_99 rfl (by decide) rfl ?_
              refine vr_iinc (L' := [some (.ref m), some (.int 0), some (.int (y2 + 1))]) (y2 + 1) d_RM_same_100 (by decide) rfl rfl rfl ?_
              refine vr_goto (tgt := 23) d_RM_same_103 (by decide) ?_
              exact mv_drop (ih _ _ _ _ h) (And.intro rfl (And.intro rfl (And.intro rfl trivial)))
            · replace h := l_ifp c91 h
              refine vr_iconst 1 d_RM_same_94 (by decide) ?_
              refine vr_goto (tgt := 99) d_RM_same_95 (by decide) ?_
              refine vr_istore_n (L' := [some (.ref m), some (.int 1), some (.int y2)]) d_RM_same_99 rfl (by decide) rfl ?_
              refine vr_iinc (L' := [some (.ref m), some (.int 1), some (.int (y2 + 1))]) (y2 + 1) d_RM_same_100 (by decide) rfl rfl rfl ?_
              refine vr_goto (tgt := 23) d_RM_same_103 (by decide) ?_
              exact mv_drop (ih _ _ _ _ h) (And.intro rfl (And.intro rfl (And.intro rfl trivial)))

def f_RM_same (N : Nat) (S : rm_S) : Option (Int32 × rm_S) := chk (ib 0 2) <| chk (ib 1 2) <| if (S.2 19 (Int32.toNatClampNeg 0)) = (S.2 19 (Int32.toNatClampNeg 1)) then (k_RM_same_23 N N 1 0 S) else (k_RM_same_23 N N 0 0 S)
theorem c_RM_same {g : mv_G} {σ : mh_H} {m : Nat} {N : Nat} (H : rm_H g σ m) {S : rm_S} {r : Int32 × rm_S} (h : f_RM_same N S = some r) : mv_Met g M_RM_same 0 0 0 0 [.ref m] (rz σ m S) (fun oc τ => τ = rz σ m r.2 ∧ oc = .returned (some (.int r.1))) := by
  refine mv_entry (L := [some (.ref m), none, none]) rfl rfl (Nat.le_of_ble_eq_true rfl) rfl ?_
  unfold f_RM_same at h
  refine vr_aload_n d_RM_same_0 rfl rfl ?_
  refine rm_getR (o := 19) H d_RM_same_1 F_RM_68 rfl (by decide) ?_
  refine vr_iconst 0 d_RM_same_4 (by decide) ?_
  have q1 := (l_chk h).1
  replace h := (l_chk h).2
  refine rm_ald (o := 19) H (by decide) (by decide) d_RM_same_5 (ib_in q1) ?_
  refine vr_aload_n d_RM_same_6 rfl rfl ?_
  refine rm_getR (o := 19) H d_RM_same_7 F_RM_68 rfl (by decide) ?_
  refine vr_iconst 1 d_RM_same_10 (by decide) ?_
  have q2 := (l_chk h).1
  replace h := (l_chk h).2
  refine rm_ald (o := 19) H (by decide) (by decide) d_RM_same_11 (ib_in q2) ?_
  refine vr_icmp_ne (tgt := 19) d_RM_same_12 (by decide) (fun c12 => ?_) (fun c12 => ?_)
  · replace h := l_ifn c12 h
    refine vr_iconst 0 d_RM_same_19 (by decide) ?_
    refine vr_istore_n (L' := [some (.ref m), some (.int 0), none]) d_RM_same_20 rfl (by decide) rfl ?_
    refine vr_iconst 0 d_RM_same_21 (by decide) ?_
    refine vr_istore_n (L' := [some (.ref m), some (.int 0), some (.int 0)]) d_RM_same_22 rfl (by decide) rfl ?_
    exact mv_drop (q_RM_same_23 H N _ _ _ _ h) (And.intro rfl (And.intro rfl (And.intro rfl trivial)))
  · replace h := l_ifp c12 h
    refine vr_iconst 1 d_RM_same_15 (by decide) ?_
    refine vr_goto (tgt := 20) d_RM_same_16 (by decide) ?_
    refine vr_istore_n (L' := [some (.ref m), some (.int 1), none]) d_RM_same_20 rfl (by decide) rfl ?_
    refine vr_iconst 0 d_RM_same_21 (by decide) ?_
    refine vr_istore_n (L' := [some (.ref m), some (.int 1), some (.int 0)]) d_RM_same_22 rfl (by decide) rfl ?_
    exact mv_drop (q_RM_same_23 H N _ _ _ _ h) (And.intro rfl (And.intro rfl (And.intro rfl trivial)))

def f_RM_put (N : Nat) (x1 : Int32) (S : rm_S) : Option (rm_S) := if 8000 < (S.1 7) then (some (S)) else (chk (ib (S.1 7) 8001) <| bnd (((rs_a S 3 (Int32.toNatClampNeg (S.1 7)) x1).1 7)) fun v2 => bnd ((v2 + 1)) fun v3 => some ((rs_i (rs_a S 3 (Int32.toNatClampNeg (S.1 7)) x1) 7 v3)))
theorem c_RM_put {g : mv_G} {σ : mh_H} {m : Nat} {N : Nat} (H : rm_H g σ m) {x1 : Int32} {S : rm_S} {r : rm_S} (h : f_RM_put N x1 S = some r) : mv_Met g M_RM_put 0 0 0 0 [.ref m, .int x1] (rz σ m S) (fun oc τ => τ = rz σ m r ∧ oc = .returned none) := by
  refine mv_entry (L := [some (.ref m), some (.int x1)]) rfl rfl (Nat.le_of_ble_eq_true rfl) rfl ?_
  unfold f_RM_put at h
  refine vr_aload_n d_RM_put_0 rfl rfl ?_
  refine rm_getI H d_RM_put_1 F_RM_244 rfl ?_
  refine vr_sipush 8000 d_RM_put_4 (by decide) ?_
  refine vr_icmp_gt (tgt := 30) d_RM_put_7 (by decide) (fun c7 => ?_) (fun c7 => ?_)
  · replace h := l_ifp c7 h
    cases h
    exact vr_vret d_RM_put_30 rfl ⟨rfl, rfl⟩
  · replace h := l_ifn c7 h
    refine vr_aload_n d_RM_put_10 rfl rfl ?_
    refine rm_getR (o := 3) H d_RM_put_11 F_RM_16 rfl (by decide) ?_
    refine vr_aload_n d_RM_put_14 rfl rfl ?_
    refine rm_getI H d_RM_put_15 F_RM_244 rfl ?_
    refine vr_iload_n d_RM_put_18 rfl rfl ?_
    have q1 := (l_chk h).1
    replace h := (l_chk h).2
    refine rm_ast (o := 3) H (by decide) (by decide) d_RM_put_19 (ib_in q1) ?_
    refine vr_aload_n d_RM_put_20 rfl rfl ?_
    refine vr_dup d_RM_put_21 rfl ?_
    refine rm_getI H d_RM_put_22 F_RM_244 rfl ?_
    obtain ⟨v2, ev2, h⟩ := l_bnd h
    refine vr_nm ev2 ?_
    refine vr_iconst 1 d_RM_put_25 (by decide) ?_
    refine vr_iadd d_RM_put_26 ?_
    obtain ⟨v3, ev3, h⟩ := l_bnd h
    refine vr_nm ev3 ?_
    refine rm_putI H d_RM_put_27 W_RM_put_244 rfl rfl rfl ?_
    cases h
    exact vr_vret d_RM_put_30 rfl ⟨rfl, rfl⟩

def f_RM_begin (N : Nat) (x1 : Int32) (S : rm_S) : Option (rm_S) := if (S.1 7) ≤ 0 then (calV (f_RM_put N x1 S) fun S1 => some (S1)) else (calP (f_RM_isWordByte N x1) fun v2 => if v2 = 0 then (calV (f_RM_put N x1 S) fun S3 => some (S3)) else (chk (ib ((S.1 7) - 1) 8001) <| calP (f_RM_isWordByte N ((S.2 3 (Int32.toNatClampNeg ((S.1 7) - 1))))) fun v5 => if v5 = 0 then (calV (f_RM_put N x1 S) fun S6 => some (S6)) else (calV (f_RM_put N 32 S) fun S7 => calV (f_RM_put N x1 S7) fun S8 => some (S8))))
theorem c_RM_begin {g : mv_G} {σ : mh_H} {m : Nat} {N : Nat} (H : rm_H g σ m) {x1 : Int32} {S : rm_S} {r : rm_S} (h : f_RM_begin N x1 S = some r) : mv_Met g M_RM_begin 2 40 0 0 [.ref m, .int x1] (rz σ m S) (fun oc τ => τ = rz σ m r ∧ oc = .returned none) := by
  refine mv_entry (L := [some (.ref m), some (.int x1)]) rfl rfl (Nat.le_of_ble_eq_true rfl) rfl ?_
  unfold f_RM_begin at h
  refine vr_aload_n d_RM_begin_0 rfl rfl ?_
  refine rm_getI H d_RM_begin_1 F_RM_244 rfl ?_
  refine vr_if_le (tgt := 37) d_RM_begin_4 (by decide) (fun c4 => ?_) (fun c4 => ?_)
  · replace h := l_ifp c4 h
    refine vr_aload_n d_RM_begin_37 rfl rfl ?_
    refine vr_iload_n d_RM_begin_38 rfl rfl ?_
    obtain ⟨S1, eS1, h⟩ := l_calV h
    refine rm_callU [.int x1] H d_RM_begin_39 C_RM_250 (c_RM_put H eS1) rfl rfl rfl (Nat.le_of_ble_eq_true rfl) (by decide) (Nat.le_of_ble_eq_true rfl) ?_
    cases h
    exact vr_vret d_RM_begin_42 rfl ⟨rfl, rfl⟩
  · replace h := l_ifn c4 h
    refine vr_iload_n d_RM_begin_7 rfl rfl ?_
    obtain ⟨v2, ev2, h⟩ := l_calP h
    refine vr_callSP [.int x1] d_RM_begin_8 C_RM_247 (c_RM_isWordByte ev2) rfl rfl (Nat.le_of_ble_eq_true rfl) (by decide) (Nat.le_of_ble_eq_true rfl) ?_
    refine vr_if_eq (tgt := 37) d_RM_begin_11 (by decide) (fun c11 => ?_) (fun c11 => ?_)
    · replace h := l_ifp c11 h
      refine vr_aload_n d_RM_begin_37 rfl rfl ?_
      refine vr_iload_n d_RM_begin_38 rfl rfl ?_
      obtain ⟨S3, eS3, h⟩ := l_calV h
      refine rm_callU [.int x1] H d_RM_begin_39 C_RM_250 (c_RM_put H eS3) rfl rfl rfl (Nat.le_of_ble_eq_true rfl) (by decide) (Nat.le_of_ble_eq_true rfl) ?_
      cases h
      exact vr_vret d_RM_begin_42 rfl ⟨rfl, rfl⟩
    · replace h := l_ifn c11 h
      refine vr_aload_n d_RM_begin_14 rfl rfl ?_
      refine rm_getR (o := 3) H d_RM_begin_15 F_RM_16 rfl (by decide) ?_
      refine vr_aload_n d_RM_begin_18 rfl rfl ?_
      refine rm_getI H d_RM_begin_19 F_RM_244 rfl ?_
      refine vr_iconst 1 d_RM_begin_22 (by decide) ?_
      refine vr_isub d_RM_begin_23 ?_
      have q4 := (l_chk h).1
      replace h := (l_chk h).2
      refine rm_ald (o := 3) H (by decide) (by decide) d_RM_begin_24 (ib_in q4) ?_
      obtain ⟨v5, ev5, h⟩ := l_calP h
      refine vr_callSP [.int (S.2 3 (Int32.toNatClampNeg ((S.1 7) - 1)))] d_RM_begin_25 C_RM_247 (c_RM_isWordByte ev5) rfl rfl (Nat.le_of_ble_eq_true rfl) (by decide) (Nat.le_of_ble_eq_true rfl) ?_
      refine vr_if_eq (tgt := 37) d_RM_begin_28 (by decide) (fun c28 => ?_) (fun c28 => ?_)
      · replace h := l_ifp c28 h
        refine vr_aload_n d_RM_begin_37 rfl rfl ?_
        refine vr_iload_n d_RM_begin_38 rfl rfl ?_
        obtain ⟨S6, eS6, h⟩ := l_calV h
        refine rm_callU [.int x1] H d_RM_begin_39 C_RM_250 (c_RM_put H eS6) rfl rfl rfl (Nat.le_of_ble_eq_true rfl) (by decide) (Nat.le_of_ble_eq_true rfl) ?_
        cases h
        exact vr_vret d_RM_begin_42 rfl ⟨rfl, rfl⟩
      · replace h := l_ifn c28 h
        refine vr_aload_n d_RM_begin_31 rfl rfl ?_
        refine vr_bipush 32 d_RM_begin_32 (by decide) ?_
        obtain ⟨S7, eS7, h⟩ := l_calV h
        refine rm_callU [.int 32] H d_RM_begin_34 C_RM_250 (c_RM_put H eS7) rfl rfl rfl (Nat.le_of_ble_eq_true rfl) (by decide) (Nat.le_of_ble_eq_true rfl) ?_
        refine vr_aload_n d_RM_begin_37 rfl rfl ?_
        refine vr_iload_n d_RM_begin_38 rfl rfl ?_
        obtain ⟨S8, eS8, h⟩ := l_calV h
        refine rm_callU [.int x1] H d_RM_begin_39 C_RM_250 (c_RM_put H eS8) rfl rfl rfl (Nat.le_of_ble_eq_true rfl) (by decide) (Nat.le_of_ble_eq_true rfl) ?_
        cases h
        exact vr_vret d_RM_begin_42 rfl ⟨rfl, rfl⟩

def k_RM_text_11 (N : Nat) : Nat → Nat → Int32 → rm_S → Option (rm_S)
  | 0, _, _, _ => none
  | n + 1, y1, y2, S => chk (y1 < 67) <| if (s_len y1) ≤ y2 then (some (S)) else (chk (y1 < 67) <| chk (ib y2 (s_b y1).length) <| calV (f_RM_put N ((s_at y1 y2)) S) fun S7 => k_RM_text_11 N n y1 ((y2 + 1)) S7)
theorem q_RM_text_11 {g : mv_G} {σ : mh_H} {m : Nat} {N : Nat} (H : rm_H g σ m) : ∀ (n : Nat) (y1 : Nat) (y2 : Int32) (S : rm_S) (r : rm_S), k_RM_text_11 N n y1 y2 S = some r → mv_V g M_RM_text 7 141 0 0 11 [some (.ref m), some (.ref (mg_K g y1)), some (.int y2)] [] (rz σ m S) (fun oc τ => τ = rz σ m r ∧ oc = .returned none) := by
  intro n
  induction n with
  | zero =>
    intro y1 y2 S r h
    exact absurd h (by simp [k_RM_text_11])
  | succ n ih =>
    intro y1 y2 S r h 
    unfold k_RM_text_11 at h
    refine vr_iload_n d_RM_text_11 rfl rfl ?_
    refine vr_aload_n d_RM_text_12 rfl rfl ?_
    have q4 := (l_chk h).1
    replace h := (l_chk h).2
    refine vr_strLen d_RM_text_13 C_RM_124 q4 (by decide) (Nat.le_of_ble_eq_true rfl) (Nat.le_of_ble_eq_true rfl) ?_
    refine vr_icmp_ge (tgt := 34) d_RM_text_16 (by decide) (fun c16 => ?_) (fun c16 => ?_)
    · replace h := l_ifp c16 h
      cases h
      exact vr_vret d_RM_text_34 rfl ⟨rfl, rfl⟩
    · replace h := l_ifn c16 h
      refine vr_aload_n d_RM_text_19 rfl rfl ?_
      refine vr_aload_n d_RM_text_20 rfl rfl ?_
      refine vr_iload_n d_RM_text_21 rfl rfl ?_
      have q5 := (l_chk h).1
      replace h := (l_chk h).2
      have q6 := (l_chk h).1
      replace h := (l_chk h).2
      refine vr_strAt d_RM_text_22 C_RM_127 q5 q6 (by decide) (Nat.le_of_ble_eq_true rfl) (Nat.le_of_ble_eq_true rfl) ?_
      obtain ⟨S7, eS7, h⟩ := l_calV h
      refine rm_callU [.int (s_at y1 y2)] H d_RM_text_25 C_RM_250 (c_RM_put H eS7) rfl rfl rfl (Nat.le_of_ble_eq_true rfl) (by decide) (Nat.le_of_ble_eq_true rfl) ?_
      refine vr_iinc (L' := [some (.ref m), some (.ref (mg_K g y1)), some (.int (y2 + 1))]) (y2 + 1) d_RM_text_28 (by decide) rfl rfl rfl ?_
      refine vr_goto (tgt := 11) d_RM_text_31 (by decide) ?_
      exact mv_drop (ih _ _ _ _ h) (And.intro rfl (And.intro rfl (And.intro rfl trivial)))

def f_RM_text (N : Nat) (x1 : Nat) (S : rm_S) : Option (rm_S) := chk (x1 < 67) <| chk (ib 0 (s_b x1).length) <| calV (f_RM_begin N ((s_at x1 0)) S) fun S3 => k_RM_text_11 N N x1 1 S3
theorem c_RM_text {g : mv_G} {σ : mh_H} {m : Nat} {N : Nat} (H : rm_H g σ m) {x1 : Nat} {S : rm_S} {r : rm_S} (h : f_RM_text N x1 S = some r) : mv_Met g M_RM_text 7 141 0 0 [.ref m, .ref (mg_K g x1)] (rz σ m S) (fun oc τ => τ = rz σ m r ∧ oc = .returned none) := by
  refine mv_entry (L := [some (.ref m), some (.ref (mg_K g x1)), none]) rfl rfl (Nat.le_of_ble_eq_true rfl) rfl ?_
  unfold f_RM_text at h
  refine vr_aload_n d_RM_text_0 rfl rfl ?_
  refine vr_aload_n d_RM_text_1 rfl rfl ?_
  refine vr_iconst 0 d_RM_text_2 (by decide) ?_
  have q1 := (l_chk h).1
  replace h := (l_chk h).2
  have q2 := (l_chk h).1
  replace h := (l_chk h).2
  refine vr_strAt d_RM_text_3 C_RM_127 q1 q2 (by decide) (Nat.le_of_ble_eq_true rfl) (Nat.le_of_ble_eq_true rfl) ?_
  obtain ⟨S3, eS3, h⟩ := l_calV h
  refine rm_callU [.int (s_at x1 0)] H d_RM_text_6 C_RM_253 (c_RM_begin H eS3) rfl rfl rfl (Nat.le_of_ble_eq_true rfl) (by decide) (Nat.le_of_ble_eq_true rfl) ?_
  refine vr_iconst 1 d_RM_text_9 (by decide) ?_
  refine vr_istore_n (L' := [some (.ref m), some (.ref (mg_K g x1)), some (.int 1)]) d_RM_text_10 rfl (by decide) rfl ?_
  exact mv_drop (q_RM_text_11 H N _ _ _ _ h) (And.intro rfl (And.intro rfl (And.intro rfl trivial)))

def k_RM_sayName_7 (N : Nat) : Nat → Int32 → Int32 → rm_S → Option (rm_S)
  | 0, _, _, _ => none
  | n + 1, y1, y2, S => chk (ib (y1 + 1) 6001) <| if (S.2 21 (Int32.toNatClampNeg (y1 + 1))) ≤ y2 then (some (S)) else (chk (ib y1 6001) <| if y2 = (S.2 21 (Int32.toNatClampNeg y1)) then (chk (ib y2 12000) <| calV (f_RM_begin N ((S.2 20 (Int32.toNatClampNeg y2))) S) fun S8 => k_RM_sayName_7 N n y1 ((y2 + 1)) S8) else (chk (ib y2 12000) <| calV (f_RM_put N ((S.2 20 (Int32.toNatClampNeg y2))) S) fun S6 => k_RM_sayName_7 N n y1 ((y2 + 1)) S6))
theorem q_RM_sayName_7 {g : mv_G} {σ : mh_H} {m : Nat} {N : Nat} (H : rm_H g σ m) : ∀ (n : Nat) (y1 : Int32) (y2 : Int32) (S : rm_S) (r : rm_S), k_RM_sayName_7 N n y1 y2 S = some r → mv_V g M_RM_sayName 3 61 0 0 7 [some (.ref m), some (.int y1), some (.int y2)] [] (rz σ m S) (fun oc τ => τ = rz σ m r ∧ oc = .returned none) := by
  intro n
  induction n with
  | zero =>
    intro y1 y2 S r h
    exact absurd h (by simp [k_RM_sayName_7])
  | succ n ih =>
    intro y1 y2 S r h 
    unfold k_RM_sayName_7 at h
    refine vr_iload_n d_RM_sayName_7 rfl rfl ?_
    refine vr_aload_n d_RM_sayName_8 rfl rfl ?_
    refine rm_getR (o := 21) H d_RM_sayName_9 F_RM_74 rfl (by decide) ?_
    refine vr_iload_n d_RM_sayName_12 rfl rfl ?_
    refine vr_iconst 1 d_RM_sayName_13 (by decide) ?_
    refine vr_iadd d_RM_sayName_14 ?_
    have q3 := (l_chk h).1
    replace h := (l_chk h).2
    refine rm_ald (o := 21) H (by decide) (by decide) d_RM_sayName_15 (ib_in q3) ?_
    refine vr_icmp_ge (tgt := 58) d_RM_sayName_16 (by decide) (fun c16 => ?_) (fun c16 => ?_)
    · replace h := l_ifp c16 h
      cases h
      exact vr_vret d_RM_sayName_58 rfl ⟨rfl, rfl⟩
    · replace h := l_ifn c16 h
      refine vr_iload_n d_RM_sayName_19 rfl rfl ?_
      refine vr_aload_n d_RM_sayName_20 rfl rfl ?_
      refine rm_getR (o := 21) H d_RM_sayName_21 F_RM_74 rfl (by decide) ?_
      refine vr_iload_n d_RM_sayName_24 rfl rfl ?_
      have q4 := (l_chk h).1
      replace h := (l_chk h).2
      refine rm_ald (o := 21) H (by decide) (by decide) d_RM_sayName_25 (ib_in q4) ?_
      refine vr_icmp_ne (tgt := 42) d_RM_sayName_26 (by decide) (fun c26 => ?_) (fun c26 => ?_)
      · replace h := l_ifn c26 h
        refine vr_aload_n d_RM_sayName_42 rfl rfl ?_
        refine vr_aload_n d_RM_sayName_43 rfl rfl ?_
        refine rm_getR (o := 20) H d_RM_sayName_44 F_RM_71 rfl (by decide) ?_
        refine vr_iload_n d_RM_sayName_47 rfl rfl ?_
        have q5 := (l_chk h).1
        replace h := (l_chk h).2
        refine rm_ald (o := 20) H (by decide) (by decide) d_RM_sayName_48 (ib_in q5) ?_
        obtain ⟨S6, eS6, h⟩ := l_calV h
        refine rm_callU [.int (S.2 20 (Int32.toNatClampNeg y2))] H d_RM_sayName_49 C_RM_250 (c_RM_put H eS6) rfl rfl rfl (Nat.le_of_ble_eq_true rfl) (by decide) (Nat.le_of_ble_eq_true rfl) ?_
        refine vr_iinc (L' := [some (.ref m), some (.int y1), some (.int (y2 + 1))]) (y2 + 1) d_RM_sayName_52 (by decide) rfl rfl rfl ?_
        refine vr_goto (tgt := 7) d_RM_sayName_55 (by decide) ?_
        exact mv_drop (ih _ _ _ _ h) (And.intro rfl (And.intro rfl (And.intro rfl trivial)))
      · replace h := l_ifp c26 h
        refine vr_aload_n d_RM_sayName_29 rfl rfl ?_
        refine vr_aload_n d_RM_sayName_30 rfl rfl ?_
        refine rm_getR (o := 20) H d_RM_sayName_31 F_RM_71 rfl (by decide) ?_
        refine vr_iload_n d_RM_sayName_34 rfl rfl ?_
        have q7 := (l_chk h).1
        replace h := (l_chk h).2
        refine rm_ald (o := 20) H (by decide) (by decide) d_RM_sayName_35 (ib_in q7) ?_
        obtain ⟨S8, eS8, h⟩ := l_calV h
        refine rm_callU [.int (S.2 20 (Int32.toNatClampNeg y2))] H d_RM_sayName_36 C_RM_253 (c_RM_begin H eS8) rfl rfl rfl (Nat.le_of_ble_eq_true rfl) (by decide) (Nat.le_of_ble_eq_true rfl) ?_
        refine vr_goto (tgt := 52) d_RM_sayName_39 (by decide) ?_
        refine vr_iinc (L' := [some (.ref m), some (.int y1), some (.int (y2 + 1))]) (y2 + 1) d_RM_sayName_52 (by decide) rfl rfl rfl ?_
        refine vr_goto (tgt := 7) d_RM_sayName_55 (by decide) ?_
        exact mv_drop (ih _ _ _ _ h) (And.intro rfl (And.intro rfl (And.intro rfl trivial)))

def f_RM_sayName (N : Nat) (x1 : Int32) (S : rm_S) : Option (rm_S) := chk (ib x1 6001) <| bnd ((S.2 21 (Int32.toNatClampNeg x1))) fun v2 => k_RM_sayName_7 N N x1 v2 S
theorem c_RM_sayName {g : mv_G} {σ : mh_H} {m : Nat} {N : Nat} (H : rm_H g σ m) {x1 : Int32} {S : rm_S} {r : rm_S} (h : f_RM_sayName N x1 S = some r) : mv_Met g M_RM_sayName 3 61 0 0 [.ref m, .int x1] (rz σ m S) (fun oc τ => τ = rz σ m r ∧ oc = .returned none) := by
  refine mv_entry (L := [some (.ref m), some (.int x1), none]) rfl rfl (Nat.le_of_ble_eq_true rfl) rfl ?_
  unfold f_RM_sayName at h
  refine vr_aload_n d_RM_sayName_0 rfl rfl ?_
  refine rm_getR (o := 21) H d_RM_sayName_1 F_RM_74 rfl (by decide) ?_
  refine vr_iload_n d_RM_sayName_4 rfl rfl ?_
  have q1 := (l_chk h).1
  replace h := (l_chk h).2
  refine rm_ald (o := 21) H (by decide) (by decide) d_RM_sayName_5 (ib_in q1) ?_
  obtain ⟨v2, ev2, h⟩ := l_bnd h
  refine vr_nm ev2 ?_
  refine vr_istore_n (L' := [some (.ref m), some (.int x1), some (.int v2)]) d_RM_sayName_6 rfl (by decide) rfl ?_
  exact mv_drop (q_RM_sayName_7 H N _ _ _ _ h) (And.intro rfl (And.intro rfl (And.intro rfl trivial)))

def k_RM_sayNumber_101 (N : Nat) (k59 : Int64 → Int64 → Int32 → rm_S → Option (rm_S)) (y2 : Int64) (y4 : Int64) (S : rm_S) : Option (rm_S) := bnd ((y4 / 10)) fun v10 => k59 y2 v10 0 S
theorem q_RM_sayNumber_101 {g : mv_G} {σ : mh_H} {m : Nat} {N : Nat} {k59 : Int64 → Int64 → Int32 → rm_S → Option (rm_S)} (H : rm_H g σ m) (hk59 : ∀ (y2 : Int64) (y4 : Int64) (y6 : Int32) (S : rm_S) (r : rm_S), k59 y2 y4 y6 S = some r → mv_V g M_RM_sayNumber 3 61 0 0 59 [some (.ref m), none, some (.long y2), none, some (.long y4), none, some (.int y6), none] [] (rz σ m S) (fun oc τ => τ = rz σ m r ∧ oc = .returned none)) (y2 : Int64) (y4 : Int64) (S : rm_S) (r : rm_S) (h : k_RM_sayNumber_101 N k59 y2 y4 S = some r) : mv_V g M_RM_sayNumber 3 61 0 0 101 [some (.ref m), none, some (.long y2), none, some (.long y4), none, none, none] [] (rz σ m S) (fun oc τ => τ = rz σ m r ∧ oc = .returned none) := by
  unfold k_RM_sayNumber_101 at h
  refine vr_iconst 0 d_RM_sayNumber_101 (by decide) ?_
  refine vr_istore (L' := [some (.ref m), none, some (.long y2), none, some (.long y4), none, some (.int 0), none]) d_RM_sayNumber_102 (by decide) rfl ?_
  refine vr_lload d_RM_sayNumber_104 rfl ?_
  refine vr_ldc2 d_RM_sayNumber_106 w_1053 ?_
  refine vr_ldiv d_RM_sayNumber_109 (by decide) ?_
  obtain ⟨v10, ev10, h⟩ := l_bnd h
  refine vr_nmJ ev10 ?_
  refine vr_lstore (L' := [some (.ref m), none, some (.long y2), none, some (.long v10), none, some (.int 0), none]) d_RM_sayNumber_110 (by decide) rfl ?_
  refine vr_goto (tgt := 59) d_RM_sayNumber_112 (by decide) ?_
  exact mv_drop (hk59 _ _ _ _ _ h) (And.intro rfl (And.intro rfl (And.intro rfl (And.intro rfl trivial))))

def k_RM_sayNumber_59 (N : Nat) : Nat → Int64 → Int64 → Int32 → rm_S → Option (rm_S)
  | 0, _, _, _, _ => none
  | n + 1, y2, y4, y6, S => if (lg_cmp y4 0) ≤ 0 then (some (S)) else (chk (¬ y4 = 0) <| bnd ((Int64.toInt32 (48 + ((y2 / y4) - (y2 / y4) / 10 * 10)))) fun v7 => if y6 = 0 then (calV (f_RM_put N v7 S) fun S8 => k_RM_sayNumber_101 N (k_RM_sayNumber_59 N n) y2 y4 S8) else (calV (f_RM_begin N v7 S) fun S9 => k_RM_sayNumber_101 N (k_RM_sayNumber_59 N n) y2 y4 S9))
theorem q_RM_sayNumber_59 {g : mv_G} {σ : mh_H} {m : Nat} {N : Nat} (H : rm_H g σ m) : ∀ (n : Nat) (y2 : Int64) (y4 : Int64) (y6 : Int32) (S : rm_S) (r : rm_S), k_RM_sayNumber_59 N n y2 y4 y6 S = some r → mv_V g M_RM_sayNumber 3 61 0 0 59 [some (.ref m), none, some (.long y2), none, some (.long y4), none, some (.int y6), none] [] (rz σ m S) (fun oc τ => τ = rz σ m r ∧ oc = .returned none) := by
  intro n
  induction n with
  | zero =>
    intro y2 y4 y6 S r h
    exact absurd h (by simp [k_RM_sayNumber_59])
  | succ n ih =>
    intro y2 y4 y6 S r h 
    unfold k_RM_sayNumber_59 at h
    refine vr_lload d_RM_sayNumber_59 rfl ?_
    refine vr_lconst 0 d_RM_sayNumber_61 (by decide) ?_
    refine vr_lcmp d_RM_sayNumber_62 ?_
    refine vr_if_le (tgt := 115) d_RM_sayNumber_63 (by decide) (fun c63 => ?_) (fun c63 => ?_)
    · replace h := l_ifp c63 h
      cases h
      exact vr_vret d_RM_sayNumber_115 rfl ⟨rfl, rfl⟩
    · replace h := l_ifn c63 h
      refine vr_ldc2 d_RM_sayNumber_66 w_1054 ?_
      refine vr_lload_n d_RM_sayNumber_69 rfl rfl ?_
      refine vr_lload d_RM_sayNumber_70 rfl ?_
      have q6 := (l_chk h).1
      replace h := (l_chk h).2
      refine vr_ldiv d_RM_sayNumber_72 q6 ?_
      refine vr_ldc2 d_RM_sayNumber_73 w_1053 ?_
      refine vr_lrem d_RM_sayNumber_76 (by decide) ?_
      refine vr_ladd d_RM_sayNumber_77 ?_
      refine vr_l2i d_RM_sayNumber_78 rfl ?_
      obtain ⟨v7, ev7, h⟩ := l_bnd h
      refine vr_nm ev7 ?_
      refine vr_istore (L' := [some (.ref m), none, some (.long y2), none, some (.long y4), none, some (.int y6), some (.int v7)]) d_RM_sayNumber_79 (by decide) rfl ?_
      refine vr_iload d_RM_sayNumber_81 rfl ?_
      refine vr_if_eq (tgt := 95) d_RM_sayNumber_83 (by decide) (fun c83 => ?_) (fun c83 => ?_)
      · replace h := l_ifp c83 h
        refine vr_aload_n d_RM_sayNumber_95 rfl rfl ?_
        refine vr_iload d_RM_sayNumber_96 rfl ?_
        obtain ⟨S8, eS8, h⟩ := l_calV h
        refine rm_callU [.int v7] H d_RM_sayNumber_98 C_RM_250 (c_RM_put H eS8) rfl rfl rfl (Nat.le_of_ble_eq_true rfl) (by decide) (Nat.le_of_ble_eq_true rfl) ?_
        exact mv_drop (q_RM_sayNumber_101 H ih _ _ _ _ h) (And.intro rfl (And.intro rfl (And.intro rfl trivial)))
      · replace h := l_ifn c83 h
        refine vr_aload_n d_RM_sayNumber_86 rfl rfl ?_
        refine vr_iload d_RM_sayNumber_87 rfl ?_
        obtain ⟨S9, eS9, h⟩ := l_calV h
        refine rm_callU [.int v7] H d_RM_sayNumber_89 C_RM_253 (c_RM_begin H eS9) rfl rfl rfl (Nat.le_of_ble_eq_true rfl) (by decide) (Nat.le_of_ble_eq_true rfl) ?_
        refine vr_goto (tgt := 101) d_RM_sayNumber_92 (by decide) ?_
        exact mv_drop (q_RM_sayNumber_101 H ih _ _ _ _ h) (And.intro rfl (And.intro rfl (And.intro rfl trivial)))

def k_RM_sayNumber_26 (N : Nat) : Nat → Int32 → Int64 → Int64 → rm_S → Option (rm_S)
  | 0, _, _, _, _ => none
  | n + 1, y1, y2, y4, S => chk (¬ y4 = 0) <| if (lg_cmp (y2 / y4) 9) ≤ 0 then (if y1 < 0 then (k_RM_sayNumber_59 N N y2 y4 0 S) else (k_RM_sayNumber_59 N N y2 y4 1 S)) else (bnd ((10 * y4)) fun v5 => k_RM_sayNumber_26 N n y1 y2 v5 S)
theorem q_RM_sayNumber_26 {g : mv_G} {σ : mh_H} {m : Nat} {N : Nat} (H : rm_H g σ m) : ∀ (n : Nat) (y1 : Int32) (y2 : Int64) (y4 : Int64) (S : rm_S) (r : rm_S), k_RM_sayNumber_26 N n y1 y2 y4 S = some r → mv_V g M_RM_sayNumber 3 61 0 0 26 [some (.ref m), some (.int y1), some (.long y2), none, some (.long y4), none, none, none] [] (rz σ m S) (fun oc τ => τ = rz σ m r ∧ oc = .returned none) := by
  intro n
  induction n with
  | zero =>
    intro y1 y2 y4 S r h
    exact absurd h (by simp [k_RM_sayNumber_26])
  | succ n ih =>
    intro y1 y2 y4 S r h 
    unfold k_RM_sayNumber_26 at h
    refine vr_lload_n d_RM_sayNumber_26 rfl rfl ?_
    refine vr_lload d_RM_sayNumber_27 rfl ?_
    have q4 := (l_chk h).1
    replace h := (l_chk h).2
    refine vr_ldiv d_RM_sayNumber_29 q4 ?_
    refine vr_ldc2 d_RM_sayNumber_30 w_1218 ?_
    refine vr_lcmp d_RM_sayNumber_33 ?_
    refine vr_if_le (tgt := 48) d_RM_sayNumber_34 (by decide) (fun c34 => ?_) (fun c34 => ?_)
    · replace h := l_ifp c34 h
      refine vr_iload_n d_RM_sayNumber_48 rfl rfl ?_
      refine vr_if_lt (tgt := 56) d_RM_sayNumber_49 (by decide) (fun c49 => ?_) (fun c49 => ?_)
      · replace h := l_ifp c49 h
        refine vr_iconst 0 d_RM_sayNumber_56 (by decide) ?_
        refine vr_istore (L' := [some (.ref m), some (.int y1), some (.long y2), none, some (.long y4), none, some (.int 0), none]) d_RM_sayNumber_57 (by decide) rfl ?_
        exact mv_drop (q_RM_sayNumber_59 H N _ _ _ _ _ h) (And.intro rfl (And.intro rfl (And.intro rfl (And.intro rfl trivial))))
      · replace h := l_ifn c49 h
        refine vr_iconst 1 d_RM_sayNumber_52 (by decide) ?_
        refine vr_goto (tgt := 57) d_RM_sayNumber_53 (by decide) ?_
        refine vr_istore (L' := [some (.ref m), some (.int y1), some (.long y2), none, some (.long y4), none, some (.int 1), none]) d_RM_sayNumber_57 (by decide) rfl ?_
        exact mv_drop (q_RM_sayNumber_59 H N _ _ _ _ _ h) (And.intro rfl (And.intro rfl (And.intro rfl (And.intro rfl trivial))))
    · replace h := l_ifn c34 h
      refine vr_ldc2 d_RM_sayNumber_37 w_1053 ?_
      refine vr_lload d_RM_sayNumber_40 rfl ?_
      refine vr_lmul d_RM_sayNumber_42 ?_
      obtain ⟨v5, ev5, h⟩ := l_bnd h
      refine vr_nmJ ev5 ?_
      refine vr_lstore (L' := [some (.ref m), some (.int y1), some (.long y2), none, some (.long v5), none, none, none]) d_RM_sayNumber_43 (by decide) rfl ?_
      refine vr_goto (tgt := 26) d_RM_sayNumber_45 (by decide) ?_
      exact mv_drop (ih _ _ _ _ _ h) (And.intro rfl (And.intro rfl (And.intro rfl (And.intro rfl trivial))))

def k_RM_sayNumber_10 (N : Nat) (y1 : Int32) (S : rm_S) : Option (rm_S) := if 0 ≤ y1 then (bnd ((Int32.toInt64 y1)) fun v2 => k_RM_sayNumber_26 N N y1 v2 1 S) else (bnd ((-(Int32.toInt64 y1))) fun v3 => k_RM_sayNumber_26 N N y1 v3 1 S)
theorem q_RM_sayNumber_10 {g : mv_G} {σ : mh_H} {m : Nat} {N : Nat} (H : rm_H g σ m) (y1 : Int32) (S : rm_S) (r : rm_S) (h : k_RM_sayNumber_10 N y1 S = some r) : mv_V g M_RM_sayNumber 3 61 0 0 10 [some (.ref m), some (.int y1), none, none, none, none, none, none] [] (rz σ m S) (fun oc τ => τ = rz σ m r ∧ oc = .returned none) := by
  unfold k_RM_sayNumber_10 at h
  refine vr_iload_n d_RM_sayNumber_10 rfl rfl ?_
  refine vr_if_ge (tgt := 20) d_RM_sayNumber_11 (by decide) (fun c11 => ?_) (fun c11 => ?_)
  · replace h := l_ifp c11 h
    refine vr_iload_n d_RM_sayNumber_20 rfl rfl ?_
    refine vr_i2l d_RM_sayNumber_21 rfl ?_
    obtain ⟨v2, ev2, h⟩ := l_bnd h
    refine vr_nmJ ev2 ?_
    refine vr_lstore_n (L' := [some (.ref m), some (.int y1), some (.long v2), none, none, none, none, none]) d_RM_sayNumber_22 rfl (by decide) rfl ?_
    refine vr_lconst 1 d_RM_sayNumber_23 (by decide) ?_
    refine vr_lstore (L' := [some (.ref m), some (.int y1), some (.long v2), none, some (.long 1), none, none, none]) d_RM_sayNumber_24 (by decide) rfl ?_
    exact mv_drop (q_RM_sayNumber_26 H N _ _ _ _ _ h) (And.intro rfl (And.intro rfl (And.intro rfl (And.intro rfl trivial))))
  · replace h := l_ifn c11 h
    refine vr_iload_n d_RM_sayNumber_14 rfl rfl ?_
    refine vr_i2l d_RM_sayNumber_15 rfl ?_
    refine vr_lneg d_RM_sayNumber_16 ?_
    refine vr_goto (tgt := 22) d_RM_sayNumber_17 (by decide) ?_
    obtain ⟨v3, ev3, h⟩ := l_bnd h
    refine vr_nmJ ev3 ?_
    refine vr_lstore_n (L' := [some (.ref m), some (.int y1), some (.long v3), none, none, none, none, none]) d_RM_sayNumber_22 rfl (by decide) rfl ?_
    refine vr_lconst 1 d_RM_sayNumber_23 (by decide) ?_
    refine vr_lstore (L' := [some (.ref m), some (.int y1), some (.long v3), none, some (.long 1), none, none, none]) d_RM_sayNumber_24 (by decide) rfl ?_
    exact mv_drop (q_RM_sayNumber_26 H N _ _ _ _ _ h) (And.intro rfl (And.intro rfl (And.intro rfl (And.intro rfl trivial))))

def f_RM_sayNumber (N : Nat) (x1 : Int32) (S : rm_S) : Option (rm_S) := if 0 ≤ x1 then (k_RM_sayNumber_10 N x1 S) else (calV (f_RM_begin N 45 S) fun S1 => k_RM_sayNumber_10 N x1 S1)
theorem c_RM_sayNumber {g : mv_G} {σ : mh_H} {m : Nat} {N : Nat} (H : rm_H g σ m) {x1 : Int32} {S : rm_S} {r : rm_S} (h : f_RM_sayNumber N x1 S = some r) : mv_Met g M_RM_sayNumber 3 61 0 0 [.ref m, .int x1] (rz σ m S) (fun oc τ => τ = rz σ m r ∧ oc = .returned none) := by
  refine mv_entry (L := [some (.ref m), some (.int x1), none, none, none, none, none, none]) rfl rfl (Nat.le_of_ble_eq_true rfl) rfl ?_
  unfold f_RM_sayNumber at h
  refine vr_iload_n d_RM_sayNumber_0 rfl rfl ?_
  refine vr_if_ge (tgt := 10) d_RM_sayNumber_1 (by decide) (fun c1 => ?_) (fun c1 => ?_)
  · replace h := l_ifp c1 h
    exact mv_drop (q_RM_sayNumber_10 H _ _ _ h) (And.intro rfl (And.intro rfl trivial))
  · replace h := l_ifn c1 h
    refine vr_aload_n d_RM_sayNumber_4 rfl rfl ?_
    refine vr_bipush 45 d_RM_sayNumber_5 (by decide) ?_
    obtain ⟨S1, eS1, h⟩ := l_calV h
    refine rm_callU [.int 45] H d_RM_sayNumber_7 C_RM_253 (c_RM_begin H eS1) rfl rfl rfl (Nat.le_of_ble_eq_true rfl) (by decide) (Nat.le_of_ble_eq_true rfl) ?_
    exact mv_drop (q_RM_sayNumber_10 H _ _ _ h) (And.intro rfl (And.intro rfl trivial))

def f_RM_kindAt (N : Nat) (x1 : Int32) (x2 : Int32) (S : rm_S) : Option (Int32 × rm_S) := chk (ib ((13000 * x1) + x2) 26000) <| some ((S.2 14 (Int32.toNatClampNeg ((13000 * x1) + x2))), S)
theorem c_RM_kindAt {g : mv_G} {σ : mh_H} {m : Nat} {N : Nat} (H : rm_H g σ m) {x1 : Int32} {x2 : Int32} {S : rm_S} {r : Int32 × rm_S} (h : f_RM_kindAt N x1 x2 S = some r) : mv_Met g M_RM_kindAt 0 0 0 0 [.ref m, .int x1, .int x2] (rz σ m S) (fun oc τ => τ = rz σ m r.2 ∧ oc = .returned (some (.int r.1))) := by
  refine mv_entry (L := [some (.ref m), some (.int x1), some (.int x2)]) rfl rfl (Nat.le_of_ble_eq_true rfl) rfl ?_
  unfold f_RM_kindAt at h
  refine vr_aload_n d_RM_kindAt_0 rfl rfl ?_
  refine rm_getR (o := 14) H d_RM_kindAt_1 F_RM_53 rfl (by decide) ?_
  refine vr_sipush 13000 d_RM_kindAt_4 (by decide) ?_
  refine vr_iload_n d_RM_kindAt_7 rfl rfl ?_
  refine vr_imul d_RM_kindAt_8 ?_
  refine vr_iload_n d_RM_kindAt_9 rfl rfl ?_
  refine vr_iadd d_RM_kindAt_10 ?_
  have q1 := (l_chk h).1
  replace h := (l_chk h).2
  refine rm_ald (o := 14) H (by decide) (by decide) d_RM_kindAt_11 (ib_in q1) ?_
  cases h
  exact vr_iret d_RM_kindAt_12 rfl rfl ⟨rfl, rfl⟩

def f_RM_behind (N : Nat) (x1 : Int32) (x2 : Int32) (S : rm_S) : Option (Int32 × rm_S) := chk (ib ((13000 * x1) + x2) 26000) <| some ((x2 + (S.2 18 (Int32.toNatClampNeg ((13000 * x1) + x2)))), S)
theorem c_RM_behind {g : mv_G} {σ : mh_H} {m : Nat} {N : Nat} (H : rm_H g σ m) {x1 : Int32} {x2 : Int32} {S : rm_S} {r : Int32 × rm_S} (h : f_RM_behind N x1 x2 S = some r) : mv_Met g M_RM_behind 0 0 0 0 [.ref m, .int x1, .int x2] (rz σ m S) (fun oc τ => τ = rz σ m r.2 ∧ oc = .returned (some (.int r.1))) := by
  refine mv_entry (L := [some (.ref m), some (.int x1), some (.int x2)]) rfl rfl (Nat.le_of_ble_eq_true rfl) rfl ?_
  unfold f_RM_behind at h
  refine vr_iload_n d_RM_behind_0 rfl rfl ?_
  refine vr_aload_n d_RM_behind_1 rfl rfl ?_
  refine rm_getR (o := 18) H d_RM_behind_2 F_RM_65 rfl (by decide) ?_
  refine vr_sipush 13000 d_RM_behind_5 (by decide) ?_
  refine vr_iload_n d_RM_behind_8 rfl rfl ?_
  refine vr_imul d_RM_behind_9 ?_
  refine vr_iload_n d_RM_behind_10 rfl rfl ?_
  refine vr_iadd d_RM_behind_11 ?_
  have q1 := (l_chk h).1
  replace h := (l_chk h).2
  refine rm_ald (o := 18) H (by decide) (by decide) d_RM_behind_12 (ib_in q1) ?_
  refine vr_iadd d_RM_behind_13 ?_
  cases h
  exact vr_iret d_RM_behind_14 rfl rfl ⟨rfl, rfl⟩

def f_RM_sign (N : Nat) (x1 : Int32) (S : rm_S) : Option (Nat × rm_S) := if x1 = 18 then (some (54, S)) else (if x1 = 19 then (some (55, S)) else (if x1 = 21 then (some (56, S)) else (if x1 = 22 then (some (57, S)) else (if x1 = 23 then (some (58, S)) else (if x1 = 27 then (some (59, S)) else (if x1 = 28 then (some (60, S)) else (if x1 = 29 then (some (61, S)) else (if x1 = 30 then (some (62, S)) else (if x1 = 31 then (some (63, S)) else (some (64, S)))))))))))
theorem c_RM_sign {g : mv_G} {σ : mh_H} {m : Nat} {N : Nat} (H : rm_H g σ m) {x1 : Int32} {S : rm_S} {r : Nat × rm_S} (h : f_RM_sign N x1 S = some r) : mv_Met g M_RM_sign 0 0 0 0 [.ref m, .int x1] (rz σ m S) (fun oc τ => τ = rz σ m r.2 ∧ oc = .returned (some (.ref (mg_K g r.1)))) := by
  refine mv_entry (L := [some (.ref m), some (.int x1)]) rfl rfl (Nat.le_of_ble_eq_true rfl) rfl ?_
  unfold f_RM_sign at h
  refine vr_iload_n d_RM_sign_0 rfl rfl ?_
  refine vr_bipush 18 d_RM_sign_1 (by decide) ?_
  refine vr_icmp_ne (tgt := 12) d_RM_sign_3 (by decide) (fun c3 => ?_) (fun c3 => ?_)
  · replace h := l_ifn c3 h
    refine vr_iload_n d_RM_sign_12 rfl rfl ?_
    refine vr_bipush 19 d_RM_sign_13 (by decide) ?_
    refine vr_icmp_ne (tgt := 24) d_RM_sign_15 (by decide) (fun c15 => ?_) (fun c15 => ?_)
    · replace h := l_ifn c15 h
      refine vr_iload_n d_RM_sign_24 rfl rfl ?_
      refine vr_bipush 21 d_RM_sign_25 (by decide) ?_
      refine vr_icmp_ne (tgt := 36) d_RM_sign_27 (by decide) (fun c27 => ?_) (fun c27 => ?_)
      · replace h := l_ifn c27 h
        refine vr_iload_n d_RM_sign_36 rfl rfl ?_
        refine vr_bipush 22 d_RM_sign_37 (by decide) ?_
        refine vr_icmp_ne (tgt := 48) d_RM_sign_39 (by decide) (fun c39 => ?_) (fun c39 => ?_)
        · replace h := l_ifn c39 h
          refine vr_iload_n d_RM_sign_48 rfl rfl ?_
          refine vr_bipush 23 d_RM_sign_49 (by decide) ?_
          refine vr_icmp_ne (tgt := 60) d_RM_sign_51 (by decide) (fun c51 => ?_) (fun c51 => ?_)
          · replace h := l_ifn c51 h
            refine vr_iload_n d_RM_sign_60 rfl rfl ?_
            refine vr_bipush 27 d_RM_sign_61 (by decide) ?_
            refine vr_icmp_ne (tgt := 72) d_RM_sign_63 (by decide) (fun c63 => ?_) (fun c63 => ?_)
            · replace h := l_ifn c63 h
              refine vr_iload_n d_RM_sign_72 rfl rfl ?_
              refine vr_bipush 28 d_RM_sign_73 (by decide) ?_
              refine vr_icmp_ne (tgt := 84) d_RM_sign_75 (by decide) (fun c75 => ?_) (fun c75 => ?_)
              · replace h := l_ifn c75 h
                refine vr_iload_n d_RM_sign_84 rfl rfl ?_
                refine vr_bipush 29 d_RM_sign_85 (by decide) ?_
                refine vr_icmp_ne (tgt := 96) d_RM_sign_87 (by decide) (fun c87 => ?_) (fun c87 => ?_)
                · replace h := l_ifn c87 h
                  refine vr_iload_n d_RM_sign_96 rfl rfl ?_
                  refine vr_bipush 30 d_RM_sign_97 (by decide) ?_
                  refine vr_icmp_ne (tgt := 108) d_RM_sign_99 (by decide) (fun c99 => ?_) (fun c99 => ?_)
                  · replace h := l_ifn c99 h
                    refine vr_iload_n d_RM_sign_108 rfl rfl ?_
                    refine vr_bipush 31 d_RM_sign_109 (by decide) ?_
                    refine vr_icmp_ne (tgt := 120) d_RM_sign_111 (by decide) (fun c111 => ?_) (fun c111 => ?_)
                    · replace h := l_ifn c111 h
                      refine vr_ldcSw 64 d_RM_sign_120 rfl ?_
                      cases h
                      exact vr_aret d_RM_sign_123 rfl (by first | exact Or.inl ⟨_, rfl⟩ | exact Or.inr ⟨_, rfl⟩) ⟨rfl, rfl⟩
                    · replace h := l_ifp c111 h
                      refine vr_ldcSw 63 d_RM_sign_114 rfl ?_
                      refine vr_goto (tgt := 123) d_RM_sign_117 (by decide) ?_
                      cases h
                      exact vr_aret d_RM_sign_123 rfl (by first | exact Or.inl ⟨_, rfl⟩ | exact Or.inr ⟨_, rfl⟩) ⟨rfl, rfl⟩
                  · replace h := l_ifp c99 h
                    refine vr_ldcSw 62 d_RM_sign_102 rfl ?_
                    refine vr_goto (tgt := 123) d_RM_sign_105 (by decide) ?_
                    cases h
                    exact vr_aret d_RM_sign_123 rfl (by first | exact Or.inl ⟨_, rfl⟩ | exact Or.inr ⟨_, rfl⟩) ⟨rfl, rfl⟩
                · replace h := l_ifp c87 h
                  refine vr_ldcSw 61 d_RM_sign_90 rfl ?_
                  refine vr_goto (tgt := 123) d_RM_sign_93 (by decide) ?_
                  cases h
                  exact vr_aret d_RM_sign_123 rfl (by first | exact Or.inl ⟨_, rfl⟩ | exact Or.inr ⟨_, rfl⟩) ⟨rfl, rfl⟩
              · replace h := l_ifp c75 h
                refine vr_ldcSw 60 d_RM_sign_78 rfl ?_
                refine vr_goto (tgt := 123) d_RM_sign_81 (by decide) ?_
                cases h
                exact vr_aret d_RM_sign_123 rfl (by first | exact Or.inl ⟨_, rfl⟩ | exact Or.inr ⟨_, rfl⟩) ⟨rfl, rfl⟩
            · replace h := l_ifp c63 h
              refine vr_ldcSw 59 d_RM_sign_66 rfl ?_
              refine vr_goto (tgt := 123) d_RM_sign_69 (by decide) ?_
              cases h
              exact vr_aret d_RM_sign_123 rfl (by first | exact Or.inl ⟨_, rfl⟩ | exact Or.inr ⟨_, rfl⟩) ⟨rfl, rfl⟩
          · replace h := l_ifp c51 h
            refine vr_ldcSw 58 d_RM_sign_54 rfl ?_
            refine vr_goto (tgt := 123) d_RM_sign_57 (by decide) ?_
            cases h
            exact vr_aret d_RM_sign_123 rfl (by first | exact Or.inl ⟨_, rfl⟩ | exact Or.inr ⟨_, rfl⟩) ⟨rfl, rfl⟩
        · replace h := l_ifp c39 h
          refine vr_ldcSw 57 d_RM_sign_42 rfl ?_
          refine vr_goto (tgt := 123) d_RM_sign_45 (by decide) ?_
          cases h
          exact vr_aret d_RM_sign_123 rfl (by first | exact Or.inl ⟨_, rfl⟩ | exact Or.inr ⟨_, rfl⟩) ⟨rfl, rfl⟩
      · replace h := l_ifp c27 h
        refine vr_ldcSw 56 d_RM_sign_30 rfl ?_
        refine vr_goto (tgt := 123) d_RM_sign_33 (by decide) ?_
        cases h
        exact vr_aret d_RM_sign_123 rfl (by first | exact Or.inl ⟨_, rfl⟩ | exact Or.inr ⟨_, rfl⟩) ⟨rfl, rfl⟩
    · replace h := l_ifp c15 h
      refine vr_ldcSw 55 d_RM_sign_18 rfl ?_
      refine vr_goto (tgt := 123) d_RM_sign_21 (by decide) ?_
      cases h
      exact vr_aret d_RM_sign_123 rfl (by first | exact Or.inl ⟨_, rfl⟩ | exact Or.inr ⟨_, rfl⟩) ⟨rfl, rfl⟩
  · replace h := l_ifp c3 h
    refine vr_ldcSw 54 d_RM_sign_6 rfl ?_
    refine vr_goto (tgt := 123) d_RM_sign_9 (by decide) ?_
    cases h
    exact vr_aret d_RM_sign_123 rfl (by first | exact Or.inl ⟨_, rfl⟩ | exact Or.inr ⟨_, rfl⟩) ⟨rfl, rfl⟩

def f_RM_written (N : Nat) (x1 : Int32) (S : rm_S) : Option (Int32 × rm_S) := if x1 < 0 then (some ((-1), S)) else (if x1 < (S.1 5) then (chk (ib x1 8000) <| some ((S.2 2 (Int32.toNatClampNeg x1)), S)) else (some ((-1), S)))
theorem c_RM_written {g : mv_G} {σ : mh_H} {m : Nat} {N : Nat} (H : rm_H g σ m) {x1 : Int32} {S : rm_S} {r : Int32 × rm_S} (h : f_RM_written N x1 S = some r) : mv_Met g M_RM_written 0 0 0 0 [.ref m, .int x1] (rz σ m S) (fun oc τ => τ = rz σ m r.2 ∧ oc = .returned (some (.int r.1))) := by
  refine mv_entry (L := [some (.ref m), some (.int x1)]) rfl rfl (Nat.le_of_ble_eq_true rfl) rfl ?_
  unfold f_RM_written at h
  refine vr_iload_n d_RM_written_0 rfl rfl ?_
  refine vr_if_lt (tgt := 12) d_RM_written_1 (by decide) (fun c1 => ?_) (fun c1 => ?_)
  · replace h := l_ifp c1 h
    refine vr_iconst (-1) d_RM_written_12 (by decide) ?_
    refine vr_goto (tgt := 22) d_RM_written_13 (by decide) ?_
    cases h
    exact vr_iret d_RM_written_22 rfl rfl ⟨rfl, rfl⟩
  · replace h := l_ifn c1 h
    refine vr_iload_n d_RM_written_4 rfl rfl ?_
    refine vr_aload_n d_RM_written_5 rfl rfl ?_
    refine rm_getI H d_RM_written_6 F_RM_325 rfl ?_
    refine vr_icmp_lt (tgt := 16) d_RM_written_9 (by decide) (fun c9 => ?_) (fun c9 => ?_)
    · replace h := l_ifp c9 h
      refine vr_aload_n d_RM_written_16 rfl rfl ?_
      refine rm_getR (o := 2) H d_RM_written_17 F_RM_13 rfl (by decide) ?_
      refine vr_iload_n d_RM_written_20 rfl rfl ?_
      have q1 := (l_chk h).1
      replace h := (l_chk h).2
      refine rm_ald (o := 2) H (by decide) (by decide) d_RM_written_21 (ib_in q1) ?_
      cases h
      exact vr_iret d_RM_written_22 rfl rfl ⟨rfl, rfl⟩
    · replace h := l_ifn c9 h
      refine vr_iconst (-1) d_RM_written_12 (by decide) ?_
      refine vr_goto (tgt := 22) d_RM_written_13 (by decide) ?_
      cases h
      exact vr_iret d_RM_written_22 rfl rfl ⟨rfl, rfl⟩

def k_RM_again_10 (N : Nat) : Nat → Int32 → rm_S → Option (Int32 × rm_S)
  | 0, _, _ => none
  | n + 1, y1, S => if (S.1 2) ≤ y1 then (some ((S.1 2), S)) else (chk (ib y1 8000) <| chk (ib y1 8000) <| bnd ((S.2 2 (Int32.toNatClampNeg y1))) fun v4 => k_RM_again_10 N n ((y1 + 1)) ((rs_a S 1 (Int32.toNatClampNeg y1) v4)))
theorem q_RM_again_10 {g : mv_G} {σ : mh_H} {m : Nat} {N : Nat} (H : rm_H g σ m) : ∀ (n : Nat) (y1 : Int32) (S : rm_S) (r : Int32 × rm_S), k_RM_again_10 N n y1 S = some r → mv_V g M_RM_again 0 0 0 0 10 [some (.ref m), some (.int y1)] [] (rz σ m S) (fun oc τ => τ = rz σ m r.2 ∧ oc = .returned (some (.int r.1))) := by
  intro n
  induction n with
  | zero =>
    intro y1 S r h
    exact absurd h (by simp [k_RM_again_10])
  | succ n ih =>
    intro y1 S r h 
    unfold k_RM_again_10 at h
    refine vr_iload_n d_RM_again_10 rfl rfl ?_
    refine vr_aload_n d_RM_again_11 rfl rfl ?_
    refine rm_getI H d_RM_again_12 F_RM_107 rfl ?_
    refine vr_icmp_ge (tgt := 36) d_RM_again_15 (by decide) (fun c15 => ?_) (fun c15 => ?_)
    · replace h := l_ifp c15 h
      refine vr_aload_n d_RM_again_36 rfl rfl ?_
      refine rm_getI H d_RM_again_37 F_RM_107 rfl ?_
      cases h
      exact vr_iret d_RM_again_40 rfl rfl ⟨rfl, rfl⟩
    · replace h := l_ifn c15 h
      refine vr_aload_n d_RM_again_18 rfl rfl ?_
      refine rm_getR (o := 1) H d_RM_again_19 F_RM_9 rfl (by decide) ?_
      refine vr_iload_n d_RM_again_22 rfl rfl ?_
      refine vr_aload_n d_RM_again_23 rfl rfl ?_
      refine rm_getR (o := 2) H d_RM_again_24 F_RM_13 rfl (by decide) ?_
      refine vr_iload_n d_RM_again_27 rfl rfl ?_
      have q2 := (l_chk h).1
      replace h := (l_chk h).2
      refine rm_ald (o := 2) H (by decide) (by decide) d_RM_again_28 (ib_in q2) ?_
      have q3 := (l_chk h).1
      replace h := (l_chk h).2
      obtain ⟨v4, ev4, h⟩ := l_bnd h
      refine vr_nm ev4 ?_
      refine rm_ast (o := 1) H (by decide) (by decide) d_RM_again_29 (ib_in q3) ?_
      refine vr_iinc (L' := [some (.ref m), some (.int (y1 + 1))]) (y1 + 1) d_RM_again_30 (by decide) rfl rfl rfl ?_
      refine vr_goto (tgt := 10) d_RM_again_33 (by decide) ?_
      exact mv_drop (ih _ _ _ h) (And.intro rfl (And.intro rfl trivial))

def f_RM_again (N : Nat) (S : rm_S) : Option (Int32 × rm_S) := bnd ((S.1 5)) fun v1 => k_RM_again_10 N N 0 ((rs_i S 2 v1))
theorem c_RM_again {g : mv_G} {σ : mh_H} {m : Nat} {N : Nat} (H : rm_H g σ m) {S : rm_S} {r : Int32 × rm_S} (h : f_RM_again N S = some r) : mv_Met g M_RM_again 0 0 0 0 [.ref m] (rz σ m S) (fun oc τ => τ = rz σ m r.2 ∧ oc = .returned (some (.int r.1))) := by
  refine mv_entry (L := [some (.ref m), none]) rfl rfl (Nat.le_of_ble_eq_true rfl) rfl ?_
  unfold f_RM_again at h
  refine vr_aload_n d_RM_again_0 rfl rfl ?_
  refine vr_aload_n d_RM_again_1 rfl rfl ?_
  refine rm_getI H d_RM_again_2 F_RM_325 rfl ?_
  obtain ⟨v1, ev1, h⟩ := l_bnd h
  refine vr_nm ev1 ?_
  refine rm_putI H d_RM_again_5 W_RM_again_107 rfl rfl rfl ?_
  refine vr_iconst 0 d_RM_again_8 (by decide) ?_
  refine vr_istore_n (L' := [some (.ref m), some (.int 0)]) d_RM_again_9 rfl (by decide) rfl ?_
  exact mv_drop (q_RM_again_10 H N _ _ _ h) (And.intro rfl (And.intro rfl trivial))

