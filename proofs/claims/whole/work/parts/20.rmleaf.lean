/-! the reference: leaves of its parser -/
def r_look (S : rm_S) : Int32 := if S.1 13 = 0 then S.2 4 (S.1 12).toNatClampNeg else 1
def r_need (S : rm_S) (fine : Int32) : rm_S := if fine = 0 ∧ S.1 13 = 0 then rs_i (rs_i S 13 1) 14 (S.2 5 (S.1 12).toNatClampNeg) else S
/-- the reader's place is within the tokens' rows -/
def r_at (S : rm_S) : Prop := vp_in (S.1 12) 8002
theorem r_need_at {S : rm_S} {f : Int32} (h : r_at S) : r_at (r_need S f) := by
  unfold r_need
  split
  · exact h
  · exact h

theorem c_RM_look {g : mv_G} {σ : mh_H} {m : Nat} {S : rm_S}  (H : rm_H σ m) (h : r_at S) : mv_Met g M_RM_look 0 0 0 0 [.ref m] (rz σ m S) (fun oc τ => τ = rz σ m (S) ∧ oc = .returned (some (.int (r_look S)))) := by
  refine mv_entry (L := [some (.ref m)]) rfl rfl (by decide) rfl ?_
  refine vr_aload_n d_RM_look_0 rfl rfl ?_
  refine rm_getI H d_RM_look_1 F_RM_155 rfl ?_
  refine vr_if_eq (tgt := 11) d_RM_look_4 (by decide) (fun c4 => ?_) (fun c4 => ?_)
  · refine vr_aload_n d_RM_look_11 rfl rfl ?_
    refine rm_getR (o := 4) H d_RM_look_12 F_RM_19 rfl (by decide) ?_
    refine vr_aload_n d_RM_look_15 rfl rfl ?_
    refine rm_getI H d_RM_look_16 F_RM_159 rfl ?_
    refine rm_ald (o := 4) H (by decide) (by decide) d_RM_look_19 (by sorry) ?_
    exact vr_iret d_RM_look_20 rfl rfl (by sorry)
  · refine vr_iconst (1) d_RM_look_7 (by decide) ?_
    refine vr_goto (tgt := 20) d_RM_look_8 (by decide) ?_
    exact vr_iret d_RM_look_20 rfl rfl (by sorry)

theorem c_RM_need {g : mv_G} {σ : mh_H} {m : Nat} {S : rm_S} {b : Int32} (H : rm_H σ m) (h : r_at S) : mv_Met g M_RM_need 0 0 0 0 [.ref m, .int b] (rz σ m S) (fun oc τ => τ = rz σ m (r_need S b) ∧ oc = .returned none) := by
  refine mv_entry (L := [some (.ref m), some (.int b)]) rfl rfl (by decide) rfl ?_
  refine vr_iload_n d_RM_need_0 rfl rfl ?_
  refine vr_if_ne (tgt := 29) d_RM_need_1 (by decide) (fun c1 => ?_) (fun c1 => ?_)
  · exact vr_vret d_RM_need_29 rfl (by sorry)
  · refine vr_aload_n d_RM_need_4 rfl rfl ?_
    refine rm_getI H d_RM_need_5 F_RM_155 rfl ?_
    refine vr_if_ne (tgt := 29) d_RM_need_8 (by decide) (fun c8 => ?_) (fun c8 => ?_)
    · exact vr_vret d_RM_need_29 rfl (by sorry)
    · refine vr_aload_n d_RM_need_11 rfl rfl ?_
      refine vr_iconst (1) d_RM_need_12 (by decide) ?_
      refine rm_putI H d_RM_need_13 W_RM_need_155 rfl rfl rfl ?_
      refine vr_aload_n d_RM_need_16 rfl rfl ?_
      refine vr_aload_n d_RM_need_17 rfl rfl ?_
      refine rm_getR (o := 5) H d_RM_need_18 F_RM_22 rfl (by decide) ?_
      refine vr_aload_n d_RM_need_21 rfl rfl ?_
      refine rm_getI H d_RM_need_22 F_RM_159 rfl ?_
      refine rm_ald (o := 5) H (by decide) (by decide) d_RM_need_25 (by sorry) ?_
      refine rm_putI H d_RM_need_26 W_RM_need_28 rfl rfl rfl ?_
      exact vr_vret d_RM_need_29 rfl (by sorry)
