/-! the reference, lifted: the parser -/
def k_RM_sum_139 (N : Nat) (p_RM_term : Int32 → rm_S → Option (Int32 × rm_S)) (k62 : Int32 → Int32 → rm_S → Option (Int32 × rm_S)) (y1 : Int32) (y3 : Int32) (y4 : Int32) (z0 : Int32) (z1 : Int32) (S : rm_S) : Option (Int32 × rm_S) := calV (f_RM_join N z1 z0 S) fun S16 => calV (f_RM_join N y3 y4 S16) fun S17 => k62 y1 y3 S17
theorem q_RM_sum_139 {g : mv_G} {σ : mh_H} {m : Nat} {N : Nat} {p_RM_term : Int32 → rm_S → Option (Int32 × rm_S)} {k62 : Int32 → Int32 → rm_S → Option (Int32 × rm_S)} (H : rm_H g σ m) {F Lw : Nat} (h_RM_term : rkI1 g σ m M_RM_term F Lw p_RM_term) (hF : 40 ≤ F) (hLw : 1000 ≤ Lw) (hk62 : ∀ (y1 : Int32) (y3 : Int32) (S : rm_S) (r : Int32 × rm_S), k62 y1 y3 S = some r → mv_V g M_RM_sum (F + 1) (Lw + 60) 0 0 62 [some (.ref m), some (.int y1), none, some (.int y3), none] [] (rz σ m S) (fun oc τ => τ = rz σ m r.2 ∧ oc = .returned (some (.int r.1)))) (y1 : Int32) (y3 : Int32) (y4 : Int32) (z0 : Int32) (z1 : Int32) (S : rm_S) (r : Int32 × rm_S) (h : k_RM_sum_139 N p_RM_term k62 y1 y3 y4 z0 z1 S = some r) : mv_V g M_RM_sum (F + 1) (Lw + 60) 0 0 139 [some (.ref m), some (.int y1), none, some (.int y3), some (.int y4)] [.int z0, .int z1, .ref m] (rz σ m S) (fun oc τ => τ = rz σ m r.2 ∧ oc = .returned (some (.int r.1))) := by
  unfold k_RM_sum_139 at h
  obtain ⟨S16, eS16, h⟩ := l_calV h
  refine rm_callU [.int z1, .int z0] H d_RM_sum_139 C_RM_185 (c_RM_join H eS16) rfl rfl rfl (Nat.le_of_ble_eq_true rfl) (by omega) (by show 8 + (3 + 11) + 0 ≤ Lw + 60; omega) ?_
  refine vr_aload_n d_RM_sum_142 rfl rfl ?_
  refine vr_iload_n d_RM_sum_143 rfl rfl ?_
  refine vr_iload d_RM_sum_144 rfl ?_
  obtain ⟨S17, eS17, h⟩ := l_calV h
  refine rm_callU [.int y3, .int y4] H d_RM_sum_146 C_RM_185 (c_RM_join H eS17) rfl rfl rfl (Nat.le_of_ble_eq_true rfl) (by omega) (by show 8 + (3 + 11) + 0 ≤ Lw + 60; omega) ?_
  refine vr_goto (tgt := 62) d_RM_sum_149 (by decide) ?_
  exact mv_drop (hk62 _ _ _ _ h) (And.intro rfl (And.intro rfl (And.intro rfl trivial)))

def k_RM_sum_97 (N : Nat) (p_RM_term : Int32 → rm_S → Option (Int32 × rm_S)) (k62 : Int32 → Int32 → rm_S → Option (Int32 × rm_S)) (y1 : Int32) (y3 : Int32) (z0 : Int32) (S : rm_S) : Option (Int32 × rm_S) := chk (ib (S.1 12) 8002) <| calI (f_RM_draft N z0 ((S.2 5 (Int32.toNatClampNeg (S.1 12)))) 0 S) fun v12 S12 => calI (f_RM_look N S12) fun v13 S13 => calV (f_RM_take N v13 S13) fun S14 => if (S14.1 13) = 0 then (calI (p_RM_term y1 S14) fun v15 S15 => k_RM_sum_139 N p_RM_term k62 y1 y3 v12 v15 v12 S15) else (k_RM_sum_139 N p_RM_term k62 y1 y3 v12 (-1) v12 S14)
theorem q_RM_sum_97 {g : mv_G} {σ : mh_H} {m : Nat} {N : Nat} {p_RM_term : Int32 → rm_S → Option (Int32 × rm_S)} {k62 : Int32 → Int32 → rm_S → Option (Int32 × rm_S)} (H : rm_H g σ m) {F Lw : Nat} (h_RM_term : rkI1 g σ m M_RM_term F Lw p_RM_term) (hF : 40 ≤ F) (hLw : 1000 ≤ Lw) (hk62 : ∀ (y1 : Int32) (y3 : Int32) (S : rm_S) (r : Int32 × rm_S), k62 y1 y3 S = some r → mv_V g M_RM_sum (F + 1) (Lw + 60) 0 0 62 [some (.ref m), some (.int y1), none, some (.int y3), none] [] (rz σ m S) (fun oc τ => τ = rz σ m r.2 ∧ oc = .returned (some (.int r.1)))) (y1 : Int32) (y3 : Int32) (z0 : Int32) (S : rm_S) (r : Int32 × rm_S) (h : k_RM_sum_97 N p_RM_term k62 y1 y3 z0 S = some r) : mv_V g M_RM_sum (F + 1) (Lw + 60) 0 0 97 [some (.ref m), some (.int y1), none, some (.int y3), none] [.int z0, .ref m] (rz σ m S) (fun oc τ => τ = rz σ m r.2 ∧ oc = .returned (some (.int r.1))) := by
  unfold k_RM_sum_97 at h
  refine vr_aload_n d_RM_sum_97 rfl rfl ?_
  refine rm_getR (o := 5) H d_RM_sum_98 F_RM_22 rfl (by decide) ?_
  refine vr_aload_n d_RM_sum_101 rfl rfl ?_
  refine rm_getI H d_RM_sum_102 F_RM_159 rfl ?_
  have q11 := (l_chk h).1
  replace h := (l_chk h).2
  refine rm_ald (o := 5) H (by decide) (by decide) d_RM_sum_105 (ib_in q11) ?_
  refine vr_iconst 0 d_RM_sum_106 (by decide) ?_
  obtain ⟨v12, S12, ev12, h⟩ := l_calI h
  refine rm_callI [.int z0, .int (S.2 5 (Int32.toNatClampNeg (S.1 12))), .int 0] H d_RM_sum_107 C_RM_172 (c_RM_draft H ev12) rfl rfl rfl (Nat.le_of_ble_eq_true rfl) (by omega) (by show 8 + (4 + 11) + 0 ≤ Lw + 60; omega) ?_
  refine vr_istore (L' := [some (.ref m), some (.int y1), none, some (.int y3), some (.int v12)]) d_RM_sum_110 (by decide) rfl ?_
  refine vr_aload_n d_RM_sum_112 rfl rfl ?_
  refine vr_aload_n d_RM_sum_113 rfl rfl ?_
  obtain ⟨v13, S13, ev13, h⟩ := l_calI h
  refine rm_callI [] H d_RM_sum_114 C_RM_162 (c_RM_look H ev13) rfl rfl rfl (Nat.le_of_ble_eq_true rfl) (by omega) (by show 8 + (1 + 11) + 0 ≤ Lw + 60; omega) ?_
  obtain ⟨S14, eS14, h⟩ := l_calV h
  refine rm_callU [.int v13] H d_RM_sum_117 C_RM_176 (c_RM_take H eS14) rfl rfl rfl (Nat.le_of_ble_eq_true rfl) (by omega) (by show 8 + (2 + 11) + 21 ≤ Lw + 60; omega) ?_
  refine vr_aload_n d_RM_sum_120 rfl rfl ?_
  refine vr_iload d_RM_sum_121 rfl ?_
  refine vr_aload_n d_RM_sum_123 rfl rfl ?_
  refine rm_getI H d_RM_sum_124 F_RM_155 rfl ?_
  refine vr_if_eq (tgt := 134) d_RM_sum_127 (by decide) (fun c127 => ?_) (fun c127 => ?_)
  · replace h := l_ifp c127 h
    refine vr_aload_n d_RM_sum_134 rfl rfl ?_
    refine vr_iload_n d_RM_sum_135 rfl rfl ?_
    obtain ⟨v15, S15, ev15, h⟩ := l_calI h
    refine rm_callI [.int y1] H d_RM_sum_136 C_RM_182 (h_RM_term _ _ _ ev15) rfl rfl rfl (Nat.le_of_ble_eq_true rfl) (by omega) (by show 8 + (5 + 11) + Lw ≤ Lw + 60; omega) ?_
    exact mv_drop (q_RM_sum_139 H h_RM_term hF hLw hk62 _ _ _ _ _ _ _ h) (And.intro rfl (And.intro rfl (And.intro rfl (And.intro rfl trivial))))
  · replace h := l_ifn c127 h
    refine vr_iconst (-1) d_RM_sum_130 (by decide) ?_
    refine vr_goto (tgt := 139) d_RM_sum_131 (by decide) ?_
    exact mv_drop (q_RM_sum_139 H h_RM_term hF hLw hk62 _ _ _ _ _ _ _ h) (And.intro rfl (And.intro rfl (And.intro rfl (And.intro rfl trivial))))

def k_RM_sum_80 (N : Nat) (p_RM_term : Int32 → rm_S → Option (Int32 × rm_S)) (k62 : Int32 → Int32 → rm_S → Option (Int32 × rm_S)) (y1 : Int32) (y3 : Int32) (S : rm_S) : Option (Int32 × rm_S) := calI (f_RM_look N S) fun v10 S10 => if v10 = 43 then (k_RM_sum_97 N p_RM_term k62 y1 y3 18 S10) else (k_RM_sum_97 N p_RM_term k62 y1 y3 19 S10)
theorem q_RM_sum_80 {g : mv_G} {σ : mh_H} {m : Nat} {N : Nat} {p_RM_term : Int32 → rm_S → Option (Int32 × rm_S)} {k62 : Int32 → Int32 → rm_S → Option (Int32 × rm_S)} (H : rm_H g σ m) {F Lw : Nat} (h_RM_term : rkI1 g σ m M_RM_term F Lw p_RM_term) (hF : 40 ≤ F) (hLw : 1000 ≤ Lw) (hk62 : ∀ (y1 : Int32) (y3 : Int32) (S : rm_S) (r : Int32 × rm_S), k62 y1 y3 S = some r → mv_V g M_RM_sum (F + 1) (Lw + 60) 0 0 62 [some (.ref m), some (.int y1), none, some (.int y3), none] [] (rz σ m S) (fun oc τ => τ = rz σ m r.2 ∧ oc = .returned (some (.int r.1)))) (y1 : Int32) (y3 : Int32) (S : rm_S) (r : Int32 × rm_S) (h : k_RM_sum_80 N p_RM_term k62 y1 y3 S = some r) : mv_V g M_RM_sum (F + 1) (Lw + 60) 0 0 80 [some (.ref m), some (.int y1), none, some (.int y3), none] [] (rz σ m S) (fun oc τ => τ = rz σ m r.2 ∧ oc = .returned (some (.int r.1))) := by
  unfold k_RM_sum_80 at h
  refine vr_aload_n d_RM_sum_80 rfl rfl ?_
  refine vr_aload_n d_RM_sum_81 rfl rfl ?_
  obtain ⟨v10, S10, ev10, h⟩ := l_calI h
  refine rm_callI [] H d_RM_sum_82 C_RM_162 (c_RM_look H ev10) rfl rfl rfl (Nat.le_of_ble_eq_true rfl) (by omega) (by show 8 + (1 + 11) + 0 ≤ Lw + 60; omega) ?_
  refine vr_bipush 43 d_RM_sum_85 (by decide) ?_
  refine vr_icmp_ne (tgt := 95) d_RM_sum_87 (by decide) (fun c87 => ?_) (fun c87 => ?_)
  · replace h := l_ifn c87 h
    refine vr_bipush 19 d_RM_sum_95 (by decide) ?_
    exact mv_drop (q_RM_sum_97 H h_RM_term hF hLw hk62 _ _ _ _ _ h) (And.intro rfl (And.intro rfl (And.intro rfl trivial)))
  · replace h := l_ifp c87 h
    refine vr_bipush 18 d_RM_sum_90 (by decide) ?_
    refine vr_goto (tgt := 97) d_RM_sum_92 (by decide) ?_
    exact mv_drop (q_RM_sum_97 H h_RM_term hF hLw hk62 _ _ _ _ _ h) (And.intro rfl (And.intro rfl (And.intro rfl trivial)))

def k_RM_sum_62 (N : Nat) (p_RM_term : Int32 → rm_S → Option (Int32 × rm_S)) : Nat → Int32 → Int32 → rm_S → Option (Int32 × rm_S)
  | 0, _, _, _ => none
  | n + 1, y1, y3, S => calI (f_RM_look N S) fun v8 S8 => if v8 = 43 then (k_RM_sum_80 N p_RM_term (k_RM_sum_62 N p_RM_term n) y1 y3 S8) else (calI (f_RM_look N S8) fun v9 S9 => if v9 = 45 then (k_RM_sum_80 N p_RM_term (k_RM_sum_62 N p_RM_term n) y1 y3 S9) else (some (y3, S9)))
theorem q_RM_sum_62 {g : mv_G} {σ : mh_H} {m : Nat} {N : Nat} {p_RM_term : Int32 → rm_S → Option (Int32 × rm_S)} (H : rm_H g σ m) {F Lw : Nat} (h_RM_term : rkI1 g σ m M_RM_term F Lw p_RM_term) (hF : 40 ≤ F) (hLw : 1000 ≤ Lw) : ∀ (n : Nat) (y1 : Int32) (y3 : Int32) (S : rm_S) (r : Int32 × rm_S), k_RM_sum_62 N p_RM_term n y1 y3 S = some r → mv_V g M_RM_sum (F + 1) (Lw + 60) 0 0 62 [some (.ref m), some (.int y1), none, some (.int y3), none] [] (rz σ m S) (fun oc τ => τ = rz σ m r.2 ∧ oc = .returned (some (.int r.1))) := by
  intro n
  induction n with
  | zero =>
    intro y1 y3 S r h
    exact absurd h (by simp [k_RM_sum_62])
  | succ n ih =>
    intro y1 y3 S r h 
    unfold k_RM_sum_62 at h
    refine vr_aload_n d_RM_sum_62 rfl rfl ?_
    obtain ⟨v8, S8, ev8, h⟩ := l_calI h
    refine rm_callI [] H d_RM_sum_63 C_RM_162 (c_RM_look H ev8) rfl rfl rfl (Nat.le_of_ble_eq_true rfl) (by omega) (by show 8 + (1 + 11) + 0 ≤ Lw + 60; omega) ?_
    refine vr_bipush 43 d_RM_sum_66 (by decide) ?_
    refine vr_icmp_eq (tgt := 80) d_RM_sum_68 (by decide) (fun c68 => ?_) (fun c68 => ?_)
    · replace h := l_ifp c68 h
      exact mv_drop (q_RM_sum_80 H h_RM_term hF hLw ih _ _ _ _ h) (And.intro rfl (And.intro rfl (And.intro rfl trivial)))
    · replace h := l_ifn c68 h
      refine vr_aload_n d_RM_sum_71 rfl rfl ?_
      obtain ⟨v9, S9, ev9, h⟩ := l_calI h
      refine rm_callI [] H d_RM_sum_72 C_RM_162 (c_RM_look H ev9) rfl rfl rfl (Nat.le_of_ble_eq_true rfl) (by omega) (by show 8 + (1 + 11) + 0 ≤ Lw + 60; omega) ?_
      refine vr_bipush 45 d_RM_sum_75 (by decide) ?_
      refine vr_icmp_ne (tgt := 152) d_RM_sum_77 (by decide) (fun c77 => ?_) (fun c77 => ?_)
      · replace h := l_ifn c77 h
        refine vr_iload_n d_RM_sum_152 rfl rfl ?_
        cases h
        exact vr_iret d_RM_sum_153 rfl rfl ⟨rfl, rfl⟩
      · replace h := l_ifp c77 h
        exact mv_drop (q_RM_sum_80 H h_RM_term hF hLw ih _ _ _ _ h) (And.intro rfl (And.intro rfl (And.intro rfl trivial)))

def k_RM_sum_42 (N : Nat) (p_RM_term : Int32 → rm_S → Option (Int32 × rm_S)) (y1 : Int32) (y2 : Int32) (S : rm_S) : Option (Int32 × rm_S) := chk (ib y2 26000) <| calI (f_RM_draft N 17 ((S.2 8 (Int32.toNatClampNeg y2))) 0 S) fun v6 S6 => calV (f_RM_join N v6 y2 S6) fun S7 => k_RM_sum_62 N p_RM_term N y1 v6 S7
theorem q_RM_sum_42 {g : mv_G} {σ : mh_H} {m : Nat} {N : Nat} {p_RM_term : Int32 → rm_S → Option (Int32 × rm_S)} (H : rm_H g σ m) {F Lw : Nat} (h_RM_term : rkI1 g σ m M_RM_term F Lw p_RM_term) (hF : 40 ≤ F) (hLw : 1000 ≤ Lw) (y1 : Int32) (y2 : Int32) (S : rm_S) (r : Int32 × rm_S) (h : k_RM_sum_42 N p_RM_term y1 y2 S = some r) : mv_V g M_RM_sum (F + 1) (Lw + 60) 0 0 42 [some (.ref m), some (.int y1), some (.int y2), none, none] [] (rz σ m S) (fun oc τ => τ = rz σ m r.2 ∧ oc = .returned (some (.int r.1))) := by
  unfold k_RM_sum_42 at h
  refine vr_aload_n d_RM_sum_42 rfl rfl ?_
  refine vr_bipush 17 d_RM_sum_43 (by decide) ?_
  refine vr_aload_n d_RM_sum_45 rfl rfl ?_
  refine rm_getR (o := 8) H d_RM_sum_46 F_RM_35 rfl (by decide) ?_
  refine vr_iload_n d_RM_sum_49 rfl rfl ?_
  have q5 := (l_chk h).1
  replace h := (l_chk h).2
  refine rm_ald (o := 8) H (by decide) (by decide) d_RM_sum_50 (ib_in q5) ?_
  refine vr_iconst 0 d_RM_sum_51 (by decide) ?_
  obtain ⟨v6, S6, ev6, h⟩ := l_calI h
  refine rm_callI [.int 17, .int (S.2 8 (Int32.toNatClampNeg y2)), .int 0] H d_RM_sum_52 C_RM_172 (c_RM_draft H ev6) rfl rfl rfl (Nat.le_of_ble_eq_true rfl) (by omega) (by show 8 + (4 + 11) + 0 ≤ Lw + 60; omega) ?_
  refine vr_istore_n (L' := [some (.ref m), some (.int y1), some (.int y2), some (.int v6), none]) d_RM_sum_55 rfl (by decide) rfl ?_
  refine vr_aload_n d_RM_sum_56 rfl rfl ?_
  refine vr_iload_n d_RM_sum_57 rfl rfl ?_
  refine vr_iload_n d_RM_sum_58 rfl rfl ?_
  obtain ⟨S7, eS7, h⟩ := l_calV h
  refine rm_callU [.int v6, .int y2] H d_RM_sum_59 C_RM_185 (c_RM_join H eS7) rfl rfl rfl (Nat.le_of_ble_eq_true rfl) (by omega) (by show 8 + (3 + 11) + 0 ≤ Lw + 60; omega) ?_
  exact mv_drop (q_RM_sum_62 H h_RM_term hF hLw N _ _ _ _ h) (And.intro rfl (And.intro rfl (And.intro rfl trivial)))

def k_RM_sum_21 (N : Nat) (p_RM_term : Int32 → rm_S → Option (Int32 × rm_S)) (y1 : Int32) (z0 : Int32) (S : rm_S) : Option (Int32 × rm_S) := calI (f_RM_look N S) fun v3 S3 => if v3 = 43 then (k_RM_sum_42 N p_RM_term y1 z0 S3) else (calI (f_RM_look N S3) fun v4 S4 => if v4 = 45 then (k_RM_sum_42 N p_RM_term y1 z0 S4) else (some (z0, S4)))
theorem q_RM_sum_21 {g : mv_G} {σ : mh_H} {m : Nat} {N : Nat} {p_RM_term : Int32 → rm_S → Option (Int32 × rm_S)} (H : rm_H g σ m) {F Lw : Nat} (h_RM_term : rkI1 g σ m M_RM_term F Lw p_RM_term) (hF : 40 ≤ F) (hLw : 1000 ≤ Lw) (y1 : Int32) (z0 : Int32) (S : rm_S) (r : Int32 × rm_S) (h : k_RM_sum_21 N p_RM_term y1 z0 S = some r) : mv_V g M_RM_sum (F + 1) (Lw + 60) 0 0 21 [some (.ref m), some (.int y1), none, none, none] [.int z0] (rz σ m S) (fun oc τ => τ = rz σ m r.2 ∧ oc = .returned (some (.int r.1))) := by
  unfold k_RM_sum_21 at h
  refine vr_istore_n (L' := [some (.ref m), some (.int y1), some (.int z0), none, none]) d_RM_sum_21 rfl (by decide) rfl ?_
  refine vr_aload_n d_RM_sum_22 rfl rfl ?_
  obtain ⟨v3, S3, ev3, h⟩ := l_calI h
  refine rm_callI [] H d_RM_sum_23 C_RM_162 (c_RM_look H ev3) rfl rfl rfl (Nat.le_of_ble_eq_true rfl) (by omega) (by show 8 + (1 + 11) + 0 ≤ Lw + 60; omega) ?_
  refine vr_bipush 43 d_RM_sum_26 (by decide) ?_
  refine vr_icmp_eq (tgt := 42) d_RM_sum_28 (by decide) (fun c28 => ?_) (fun c28 => ?_)
  · replace h := l_ifp c28 h
    exact mv_drop (q_RM_sum_42 H h_RM_term hF hLw _ _ _ _ h) (And.intro rfl (And.intro rfl (And.intro rfl trivial)))
  · replace h := l_ifn c28 h
    refine vr_aload_n d_RM_sum_31 rfl rfl ?_
    obtain ⟨v4, S4, ev4, h⟩ := l_calI h
    refine rm_callI [] H d_RM_sum_32 C_RM_162 (c_RM_look H ev4) rfl rfl rfl (Nat.le_of_ble_eq_true rfl) (by omega) (by show 8 + (1 + 11) + 0 ≤ Lw + 60; omega) ?_
    refine vr_bipush 45 d_RM_sum_35 (by decide) ?_
    refine vr_icmp_eq (tgt := 42) d_RM_sum_37 (by decide) (fun c37 => ?_) (fun c37 => ?_)
    · replace h := l_ifp c37 h
      exact mv_drop (q_RM_sum_42 H h_RM_term hF hLw _ _ _ _ h) (And.intro rfl (And.intro rfl (And.intro rfl trivial)))
    · replace h := l_ifn c37 h
      refine vr_iload_n d_RM_sum_40 rfl rfl ?_
      cases h
      exact vr_iret d_RM_sum_41 rfl rfl ⟨rfl, rfl⟩

def f_RM_sum (N : Nat) (p_RM_term : Int32 → rm_S → Option (Int32 × rm_S)) (x1 : Int32) (S : rm_S) : Option (Int32 × rm_S) := calV (f_RM_deep N x1 S) fun S1 => if (S1.1 13) = 0 then (calI (p_RM_term x1 S1) fun v2 S2 => k_RM_sum_21 N p_RM_term x1 v2 S2) else (k_RM_sum_21 N p_RM_term x1 (-1) S1)
theorem c_RM_sum {g : mv_G} {σ : mh_H} {m : Nat} {N : Nat} {p_RM_term : Int32 → rm_S → Option (Int32 × rm_S)} (H : rm_H g σ m) {F Lw : Nat} (h_RM_term : rkI1 g σ m M_RM_term F Lw p_RM_term) (hF : 40 ≤ F) (hLw : 1000 ≤ Lw) : rkI1 g σ m M_RM_sum (F + 1) (Lw + 60) (f_RM_sum N p_RM_term) := by
  intro x1 S r h
  refine mv_entry (L := [some (.ref m), some (.int x1), none, none, none]) rfl rfl (Nat.le_of_ble_eq_true rfl) rfl ?_
  unfold f_RM_sum at h
  refine vr_aload_n d_RM_sum_0 rfl rfl ?_
  refine vr_iload_n d_RM_sum_1 rfl rfl ?_
  obtain ⟨S1, eS1, h⟩ := l_calV h
  refine rm_callU [.int x1] H d_RM_sum_2 C_RM_179 (c_RM_deep H eS1) rfl rfl rfl (Nat.le_of_ble_eq_true rfl) (by omega) (by show 8 + (2 + 11) + 21 ≤ Lw + 60; omega) ?_
  refine vr_aload_n d_RM_sum_5 rfl rfl ?_
  refine rm_getI H d_RM_sum_6 F_RM_155 rfl ?_
  refine vr_if_eq (tgt := 16) d_RM_sum_9 (by decide) (fun c9 => ?_) (fun c9 => ?_)
  · replace h := l_ifp c9 h
    refine vr_aload_n d_RM_sum_16 rfl rfl ?_
    refine vr_iload_n d_RM_sum_17 rfl rfl ?_
    obtain ⟨v2, S2, ev2, h⟩ := l_calI h
    refine rm_callI [.int x1] H d_RM_sum_18 C_RM_182 (h_RM_term _ _ _ ev2) rfl rfl rfl (Nat.le_of_ble_eq_true rfl) (by omega) (by show 8 + (5 + 11) + Lw ≤ Lw + 60; omega) ?_
    exact mv_drop (q_RM_sum_21 H h_RM_term hF hLw _ _ _ _ h) (And.intro rfl (And.intro rfl trivial))
  · replace h := l_ifn c9 h
    refine vr_iconst (-1) d_RM_sum_12 (by decide) ?_
    refine vr_goto (tgt := 21) d_RM_sum_13 (by decide) ?_
    exact mv_drop (q_RM_sum_21 H h_RM_term hF hLw _ _ _ _ h) (And.intro rfl (And.intro rfl trivial))

def k_RM_term_155 (N : Nat) (p_RM_factor : Int32 → rm_S → Option (Int32 × rm_S)) (k55 : Int32 → Int32 → rm_S → Option (Int32 × rm_S)) (y1 : Int32) (y3 : Int32) (y4 : Int32) (z0 : Int32) (z1 : Int32) (S : rm_S) : Option (Int32 × rm_S) := calV (f_RM_join N z1 z0 S) fun S18 => calV (f_RM_join N y3 y4 S18) fun S19 => k55 y1 y3 S19
theorem q_RM_term_155 {g : mv_G} {σ : mh_H} {m : Nat} {N : Nat} {p_RM_factor : Int32 → rm_S → Option (Int32 × rm_S)} {k55 : Int32 → Int32 → rm_S → Option (Int32 × rm_S)} (H : rm_H g σ m) {F Lw : Nat} (h_RM_factor : rkI1 g σ m M_RM_factor F Lw p_RM_factor) (hF : 40 ≤ F) (hLw : 1000 ≤ Lw) (hk55 : ∀ (y1 : Int32) (y3 : Int32) (S : rm_S) (r : Int32 × rm_S), k55 y1 y3 S = some r → mv_V g M_RM_term (F + 1) (Lw + 60) 0 0 55 [some (.ref m), some (.int y1), none, some (.int y3), none] [] (rz σ m S) (fun oc τ => τ = rz σ m r.2 ∧ oc = .returned (some (.int r.1)))) (y1 : Int32) (y3 : Int32) (y4 : Int32) (z0 : Int32) (z1 : Int32) (S : rm_S) (r : Int32 × rm_S) (h : k_RM_term_155 N p_RM_factor k55 y1 y3 y4 z0 z1 S = some r) : mv_V g M_RM_term (F + 1) (Lw + 60) 0 0 155 [some (.ref m), some (.int y1), none, some (.int y3), some (.int y4)] [.int z0, .int z1, .ref m] (rz σ m S) (fun oc τ => τ = rz σ m r.2 ∧ oc = .returned (some (.int r.1))) := by
  unfold k_RM_term_155 at h
  obtain ⟨S18, eS18, h⟩ := l_calV h
  refine rm_callU [.int z1, .int z0] H d_RM_term_155 C_RM_185 (c_RM_join H eS18) rfl rfl rfl (Nat.le_of_ble_eq_true rfl) (by omega) (by show 8 + (3 + 11) + 0 ≤ Lw + 60; omega) ?_
  refine vr_aload_n d_RM_term_158 rfl rfl ?_
  refine vr_iload_n d_RM_term_159 rfl rfl ?_
  refine vr_iload d_RM_term_160 rfl ?_
  obtain ⟨S19, eS19, h⟩ := l_calV h
  refine rm_callU [.int y3, .int y4] H d_RM_term_162 C_RM_185 (c_RM_join H eS19) rfl rfl rfl (Nat.le_of_ble_eq_true rfl) (by omega) (by show 8 + (3 + 11) + 0 ≤ Lw + 60; omega) ?_
  refine vr_goto (tgt := 55) d_RM_term_165 (by decide) ?_
  exact mv_drop (hk55 _ _ _ _ h) (And.intro rfl (And.intro rfl (And.intro rfl trivial)))

def k_RM_term_113 (N : Nat) (p_RM_factor : Int32 → rm_S → Option (Int32 × rm_S)) (k55 : Int32 → Int32 → rm_S → Option (Int32 × rm_S)) (y1 : Int32) (y3 : Int32) (z0 : Int32) (S : rm_S) : Option (Int32 × rm_S) := chk (ib (S.1 12) 8002) <| calI (f_RM_draft N z0 ((S.2 5 (Int32.toNatClampNeg (S.1 12)))) 0 S) fun v14 S14 => calI (f_RM_look N S14) fun v15 S15 => calV (f_RM_take N v15 S15) fun S16 => if (S16.1 13) = 0 then (calI (p_RM_factor y1 S16) fun v17 S17 => k_RM_term_155 N p_RM_factor k55 y1 y3 v14 v17 v14 S17) else (k_RM_term_155 N p_RM_factor k55 y1 y3 v14 (-1) v14 S16)
theorem q_RM_term_113 {g : mv_G} {σ : mh_H} {m : Nat} {N : Nat} {p_RM_factor : Int32 → rm_S → Option (Int32 × rm_S)} {k55 : Int32 → Int32 → rm_S → Option (Int32 × rm_S)} (H : rm_H g σ m) {F Lw : Nat} (h_RM_factor : rkI1 g σ m M_RM_factor F Lw p_RM_factor) (hF : 40 ≤ F) (hLw : 1000 ≤ Lw) (hk55 : ∀ (y1 : Int32) (y3 : Int32) (S : rm_S) (r : Int32 × rm_S), k55 y1 y3 S = some r → mv_V g M_RM_term (F + 1) (Lw + 60) 0 0 55 [some (.ref m), some (.int y1), none, some (.int y3), none] [] (rz σ m S) (fun oc τ => τ = rz σ m r.2 ∧ oc = .returned (some (.int r.1)))) (y1 : Int32) (y3 : Int32) (z0 : Int32) (S : rm_S) (r : Int32 × rm_S) (h : k_RM_term_113 N p_RM_factor k55 y1 y3 z0 S = some r) : mv_V g M_RM_term (F + 1) (Lw + 60) 0 0 113 [some (.ref m), some (.int y1), none, some (.int y3), none] [.int z0, .ref m] (rz σ m S) (fun oc τ => τ = rz σ m r.2 ∧ oc = .returned (some (.int r.1))) := by
  unfold k_RM_term_113 at h
  refine vr_aload_n d_RM_term_113 rfl rfl ?_
  refine rm_getR (o := 5) H d_RM_term_114 F_RM_22 rfl (by decide) ?_
  refine vr_aload_n d_RM_term_117 rfl rfl ?_
  refine rm_getI H d_RM_term_118 F_RM_159 rfl ?_
  have q13 := (l_chk h).1
  replace h := (l_chk h).2
  refine rm_ald (o := 5) H (by decide) (by decide) d_RM_term_121 (ib_in q13) ?_
  refine vr_iconst 0 d_RM_term_122 (by decide) ?_
  obtain ⟨v14, S14, ev14, h⟩ := l_calI h
  refine rm_callI [.int z0, .int (S.2 5 (Int32.toNatClampNeg (S.1 12))), .int 0] H d_RM_term_123 C_RM_172 (c_RM_draft H ev14) rfl rfl rfl (Nat.le_of_ble_eq_true rfl) (by omega) (by show 8 + (4 + 11) + 0 ≤ Lw + 60; omega) ?_
  refine vr_istore (L' := [some (.ref m), some (.int y1), none, some (.int y3), some (.int v14)]) d_RM_term_126 (by decide) rfl ?_
  refine vr_aload_n d_RM_term_128 rfl rfl ?_
  refine vr_aload_n d_RM_term_129 rfl rfl ?_
  obtain ⟨v15, S15, ev15, h⟩ := l_calI h
  refine rm_callI [] H d_RM_term_130 C_RM_162 (c_RM_look H ev15) rfl rfl rfl (Nat.le_of_ble_eq_true rfl) (by omega) (by show 8 + (1 + 11) + 0 ≤ Lw + 60; omega) ?_
  obtain ⟨S16, eS16, h⟩ := l_calV h
  refine rm_callU [.int v15] H d_RM_term_133 C_RM_176 (c_RM_take H eS16) rfl rfl rfl (Nat.le_of_ble_eq_true rfl) (by omega) (by show 8 + (2 + 11) + 21 ≤ Lw + 60; omega) ?_
  refine vr_aload_n d_RM_term_136 rfl rfl ?_
  refine vr_iload d_RM_term_137 rfl ?_
  refine vr_aload_n d_RM_term_139 rfl rfl ?_
  refine rm_getI H d_RM_term_140 F_RM_155 rfl ?_
  refine vr_if_eq (tgt := 150) d_RM_term_143 (by decide) (fun c143 => ?_) (fun c143 => ?_)
  · replace h := l_ifp c143 h
    refine vr_aload_n d_RM_term_150 rfl rfl ?_
    refine vr_iload_n d_RM_term_151 rfl rfl ?_
    obtain ⟨v17, S17, ev17, h⟩ := l_calI h
    refine rm_callI [.int y1] H d_RM_term_152 C_RM_189 (h_RM_factor _ _ _ ev17) rfl rfl rfl (Nat.le_of_ble_eq_true rfl) (by omega) (by show 8 + (6 + 11) + Lw ≤ Lw + 60; omega) ?_
    exact mv_drop (q_RM_term_155 H h_RM_factor hF hLw hk55 _ _ _ _ _ _ _ h) (And.intro rfl (And.intro rfl (And.intro rfl (And.intro rfl trivial))))
  · replace h := l_ifn c143 h
    refine vr_iconst (-1) d_RM_term_146 (by decide) ?_
    refine vr_goto (tgt := 155) d_RM_term_147 (by decide) ?_
    exact mv_drop (q_RM_term_155 H h_RM_factor hF hLw hk55 _ _ _ _ _ _ _ h) (And.intro rfl (And.intro rfl (And.intro rfl (And.intro rfl trivial))))

def k_RM_term_82 (N : Nat) (p_RM_factor : Int32 → rm_S → Option (Int32 × rm_S)) (k55 : Int32 → Int32 → rm_S → Option (Int32 × rm_S)) (y1 : Int32) (y3 : Int32) (S : rm_S) : Option (Int32 × rm_S) := calI (f_RM_look N S) fun v11 S11 => if v11 = 42 then (k_RM_term_113 N p_RM_factor k55 y1 y3 21 S11) else (calI (f_RM_look N S11) fun v12 S12 => if v12 = 47 then (k_RM_term_113 N p_RM_factor k55 y1 y3 22 S12) else (k_RM_term_113 N p_RM_factor k55 y1 y3 23 S12))
theorem q_RM_term_82 {g : mv_G} {σ : mh_H} {m : Nat} {N : Nat} {p_RM_factor : Int32 → rm_S → Option (Int32 × rm_S)} {k55 : Int32 → Int32 → rm_S → Option (Int32 × rm_S)} (H : rm_H g σ m) {F Lw : Nat} (h_RM_factor : rkI1 g σ m M_RM_factor F Lw p_RM_factor) (hF : 40 ≤ F) (hLw : 1000 ≤ Lw) (hk55 : ∀ (y1 : Int32) (y3 : Int32) (S : rm_S) (r : Int32 × rm_S), k55 y1 y3 S = some r → mv_V g M_RM_term (F + 1) (Lw + 60) 0 0 55 [some (.ref m), some (.int y1), none, some (.int y3), none] [] (rz σ m S) (fun oc τ => τ = rz σ m r.2 ∧ oc = .returned (some (.int r.1)))) (y1 : Int32) (y3 : Int32) (S : rm_S) (r : Int32 × rm_S) (h : k_RM_term_82 N p_RM_factor k55 y1 y3 S = some r) : mv_V g M_RM_term (F + 1) (Lw + 60) 0 0 82 [some (.ref m), some (.int y1), none, some (.int y3), none] [] (rz σ m S) (fun oc τ => τ = rz σ m r.2 ∧ oc = .returned (some (.int r.1))) := by
  unfold k_RM_term_82 at h
  refine vr_aload_n d_RM_term_82 rfl rfl ?_
  refine vr_aload_n d_RM_term_83 rfl rfl ?_
  obtain ⟨v11, S11, ev11, h⟩ := l_calI h
  refine rm_callI [] H d_RM_term_84 C_RM_162 (c_RM_look H ev11) rfl rfl rfl (Nat.le_of_ble_eq_true rfl) (by omega) (by show 8 + (1 + 11) + 0 ≤ Lw + 60; omega) ?_
  refine vr_bipush 42 d_RM_term_87 (by decide) ?_
  refine vr_icmp_ne (tgt := 97) d_RM_term_89 (by decide) (fun c89 => ?_) (fun c89 => ?_)
  · replace h := l_ifn c89 h
    refine vr_aload_n d_RM_term_97 rfl rfl ?_
    obtain ⟨v12, S12, ev12, h⟩ := l_calI h
    refine rm_callI [] H d_RM_term_98 C_RM_162 (c_RM_look H ev12) rfl rfl rfl (Nat.le_of_ble_eq_true rfl) (by omega) (by show 8 + (1 + 11) + 0 ≤ Lw + 60; omega) ?_
    refine vr_bipush 47 d_RM_term_101 (by decide) ?_
    refine vr_icmp_ne (tgt := 111) d_RM_term_103 (by decide) (fun c103 => ?_) (fun c103 => ?_)
    · replace h := l_ifn c103 h
      refine vr_bipush 23 d_RM_term_111 (by decide) ?_
      exact mv_drop (q_RM_term_113 H h_RM_factor hF hLw hk55 _ _ _ _ _ h) (And.intro rfl (And.intro rfl (And.intro rfl trivial)))
    · replace h := l_ifp c103 h
      refine vr_bipush 22 d_RM_term_106 (by decide) ?_
      refine vr_goto (tgt := 113) d_RM_term_108 (by decide) ?_
      exact mv_drop (q_RM_term_113 H h_RM_factor hF hLw hk55 _ _ _ _ _ h) (And.intro rfl (And.intro rfl (And.intro rfl trivial)))
  · replace h := l_ifp c89 h
    refine vr_bipush 21 d_RM_term_92 (by decide) ?_
    refine vr_goto (tgt := 113) d_RM_term_94 (by decide) ?_
    exact mv_drop (q_RM_term_113 H h_RM_factor hF hLw hk55 _ _ _ _ _ h) (And.intro rfl (And.intro rfl (And.intro rfl trivial)))

def k_RM_term_55 (N : Nat) (p_RM_factor : Int32 → rm_S → Option (Int32 × rm_S)) : Nat → Int32 → Int32 → rm_S → Option (Int32 × rm_S)
  | 0, _, _, _ => none
  | n + 1, y1, y3, S => calI (f_RM_look N S) fun v8 S8 => if v8 = 42 then (k_RM_term_82 N p_RM_factor (k_RM_term_55 N p_RM_factor n) y1 y3 S8) else (calI (f_RM_look N S8) fun v9 S9 => if v9 = 47 then (k_RM_term_82 N p_RM_factor (k_RM_term_55 N p_RM_factor n) y1 y3 S9) else (calI (f_RM_look N S9) fun v10 S10 => if v10 = 37 then (k_RM_term_82 N p_RM_factor (k_RM_term_55 N p_RM_factor n) y1 y3 S10) else (some (y3, S10))))
theorem q_RM_term_55 {g : mv_G} {σ : mh_H} {m : Nat} {N : Nat} {p_RM_factor : Int32 → rm_S → Option (Int32 × rm_S)} (H : rm_H g σ m) {F Lw : Nat} (h_RM_factor : rkI1 g σ m M_RM_factor F Lw p_RM_factor) (hF : 40 ≤ F) (hLw : 1000 ≤ Lw) : ∀ (n : Nat) (y1 : Int32) (y3 : Int32) (S : rm_S) (r : Int32 × rm_S), k_RM_term_55 N p_RM_factor n y1 y3 S = some r → mv_V g M_RM_term (F + 1) (Lw + 60) 0 0 55 [some (.ref m), some (.int y1), none, some (.int y3), none] [] (rz σ m S) (fun oc τ => τ = rz σ m r.2 ∧ oc = .returned (some (.int r.1))) := by
  intro n
  induction n with
  | zero =>
    intro y1 y3 S r h
    exact absurd h (by simp [k_RM_term_55])
  | succ n ih =>
    intro y1 y3 S r h 
    unfold k_RM_term_55 at h
    refine vr_aload_n d_RM_term_55 rfl rfl ?_
    obtain ⟨v8, S8, ev8, h⟩ := l_calI h
    refine rm_callI [] H d_RM_term_56 C_RM_162 (c_RM_look H ev8) rfl rfl rfl (Nat.le_of_ble_eq_true rfl) (by omega) (by show 8 + (1 + 11) + 0 ≤ Lw + 60; omega) ?_
    refine vr_bipush 42 d_RM_term_59 (by decide) ?_
    refine vr_icmp_eq (tgt := 82) d_RM_term_61 (by decide) (fun c61 => ?_) (fun c61 => ?_)
    · replace h := l_ifp c61 h
      exact mv_drop (q_RM_term_82 H h_RM_factor hF hLw ih _ _ _ _ h) (And.intro rfl (And.intro rfl (And.intro rfl trivial)))
    · replace h := l_ifn c61 h
      refine vr_aload_n d_RM_term_64 rfl rfl ?_
      obtain ⟨v9, S9, ev9, h⟩ := l_calI h
      refine rm_callI [] H d_RM_term_65 C_RM_162 (c_RM_look H ev9) rfl rfl rfl (Nat.le_of_ble_eq_true rfl) (by omega) (by show 8 + (1 + 11) + 0 ≤ Lw + 60; omega) ?_
      refine vr_bipush 47 d_RM_term_68 (by decide) ?_
      refine vr_icmp_eq (tgt := 82) d_RM_term_70 (by decide) (fun c70 => ?_) (fun c70 => ?_)
      · replace h := l_ifp c70 h
        exact mv_drop (q_RM_term_82 H h_RM_factor hF hLw ih _ _ _ _ h) (And.intro rfl (And.intro rfl (And.intro rfl trivial)))
      · replace h := l_ifn c70 h
        refine vr_aload_n d_RM_term_73 rfl rfl ?_
        obtain ⟨v10, S10, ev10, h⟩ := l_calI h
        refine rm_callI [] H d_RM_term_74 C_RM_162 (c_RM_look H ev10) rfl rfl rfl (Nat.le_of_ble_eq_true rfl) (by omega) (by show 8 + (1 + 11) + 0 ≤ Lw + 60; omega) ?_
        refine vr_bipush 37 d_RM_term_77 (by decide) ?_
        refine vr_icmp_ne (tgt := 168) d_RM_term_79 (by decide) (fun c79 => ?_) (fun c79 => ?_)
        · replace h := l_ifn c79 h
          refine vr_iload_n d_RM_term_168 rfl rfl ?_
          cases h
          exact vr_iret d_RM_term_169 rfl rfl ⟨rfl, rfl⟩
        · replace h := l_ifp c79 h
          exact mv_drop (q_RM_term_82 H h_RM_factor hF hLw ih _ _ _ _ h) (And.intro rfl (And.intro rfl (And.intro rfl trivial)))

def k_RM_term_35 (N : Nat) (p_RM_factor : Int32 → rm_S → Option (Int32 × rm_S)) (y1 : Int32) (y2 : Int32) (S : rm_S) : Option (Int32 × rm_S) := chk (ib y2 26000) <| calI (f_RM_draft N 20 ((S.2 8 (Int32.toNatClampNeg y2))) 0 S) fun v6 S6 => calV (f_RM_join N v6 y2 S6) fun S7 => k_RM_term_55 N p_RM_factor N y1 v6 S7
theorem q_RM_term_35 {g : mv_G} {σ : mh_H} {m : Nat} {N : Nat} {p_RM_factor : Int32 → rm_S → Option (Int32 × rm_S)} (H : rm_H g σ m) {F Lw : Nat} (h_RM_factor : rkI1 g σ m M_RM_factor F Lw p_RM_factor) (hF : 40 ≤ F) (hLw : 1000 ≤ Lw) (y1 : Int32) (y2 : Int32) (S : rm_S) (r : Int32 × rm_S) (h : k_RM_term_35 N p_RM_factor y1 y2 S = some r) : mv_V g M_RM_term (F + 1) (Lw + 60) 0 0 35 [some (.ref m), some (.int y1), some (.int y2), none, none] [] (rz σ m S) (fun oc τ => τ = rz σ m r.2 ∧ oc = .returned (some (.int r.1))) := by
  unfold k_RM_term_35 at h
  refine vr_aload_n d_RM_term_35 rfl rfl ?_
  refine vr_bipush 20 d_RM_term_36 (by decide) ?_
  refine vr_aload_n d_RM_term_38 rfl rfl ?_
  refine rm_getR (o := 8) H d_RM_term_39 F_RM_35 rfl (by decide) ?_
  refine vr_iload_n d_RM_term_42 rfl rfl ?_
  have q5 := (l_chk h).1
  replace h := (l_chk h).2
  refine rm_ald (o := 8) H (by decide) (by decide) d_RM_term_43 (ib_in q5) ?_
  refine vr_iconst 0 d_RM_term_44 (by decide) ?_
  obtain ⟨v6, S6, ev6, h⟩ := l_calI h
  refine rm_callI [.int 20, .int (S.2 8 (Int32.toNatClampNeg y2)), .int 0] H d_RM_term_45 C_RM_172 (c_RM_draft H ev6) rfl rfl rfl (Nat.le_of_ble_eq_true rfl) (by omega) (by show 8 + (4 + 11) + 0 ≤ Lw + 60; omega) ?_
  refine vr_istore_n (L' := [some (.ref m), some (.int y1), some (.int y2), some (.int v6), none]) d_RM_term_48 rfl (by decide) rfl ?_
  refine vr_aload_n d_RM_term_49 rfl rfl ?_
  refine vr_iload_n d_RM_term_50 rfl rfl ?_
  refine vr_iload_n d_RM_term_51 rfl rfl ?_
  obtain ⟨S7, eS7, h⟩ := l_calV h
  refine rm_callU [.int v6, .int y2] H d_RM_term_52 C_RM_185 (c_RM_join H eS7) rfl rfl rfl (Nat.le_of_ble_eq_true rfl) (by omega) (by show 8 + (3 + 11) + 0 ≤ Lw + 60; omega) ?_
  exact mv_drop (q_RM_term_55 H h_RM_factor hF hLw N _ _ _ _ h) (And.intro rfl (And.intro rfl (And.intro rfl trivial)))

def f_RM_term (N : Nat) (p_RM_factor : Int32 → rm_S → Option (Int32 × rm_S)) (x1 : Int32) (S : rm_S) : Option (Int32 × rm_S) := calI (p_RM_factor x1 S) fun v1 S1 => calI (f_RM_look N S1) fun v2 S2 => if v2 = 42 then (k_RM_term_35 N p_RM_factor x1 v1 S2) else (calI (f_RM_look N S2) fun v3 S3 => if v3 = 47 then (k_RM_term_35 N p_RM_factor x1 v1 S3) else (calI (f_RM_look N S3) fun v4 S4 => if v4 = 37 then (k_RM_term_35 N p_RM_factor x1 v1 S4) else (some (v1, S4))))
theorem c_RM_term {g : mv_G} {σ : mh_H} {m : Nat} {N : Nat} {p_RM_factor : Int32 → rm_S → Option (Int32 × rm_S)} (H : rm_H g σ m) {F Lw : Nat} (h_RM_factor : rkI1 g σ m M_RM_factor F Lw p_RM_factor) (hF : 40 ≤ F) (hLw : 1000 ≤ Lw) : rkI1 g σ m M_RM_term (F + 1) (Lw + 60) (f_RM_term N p_RM_factor) := by
  intro x1 S r h
  refine mv_entry (L := [some (.ref m), some (.int x1), none, none, none]) rfl rfl (Nat.le_of_ble_eq_true rfl) rfl ?_
  unfold f_RM_term at h
  refine vr_aload_n d_RM_term_0 rfl rfl ?_
  refine vr_iload_n d_RM_term_1 rfl rfl ?_
  obtain ⟨v1, S1, ev1, h⟩ := l_calI h
  refine rm_callI [.int x1] H d_RM_term_2 C_RM_189 (h_RM_factor _ _ _ ev1) rfl rfl rfl (Nat.le_of_ble_eq_true rfl) (by omega) (by show 8 + (6 + 11) + Lw ≤ Lw + 60; omega) ?_
  refine vr_istore_n (L' := [some (.ref m), some (.int x1), some (.int v1), none, none]) d_RM_term_5 rfl (by decide) rfl ?_
  refine vr_aload_n d_RM_term_6 rfl rfl ?_
  obtain ⟨v2, S2, ev2, h⟩ := l_calI h
  refine rm_callI [] H d_RM_term_7 C_RM_162 (c_RM_look H ev2) rfl rfl rfl (Nat.le_of_ble_eq_true rfl) (by omega) (by show 8 + (1 + 11) + 0 ≤ Lw + 60; omega) ?_
  refine vr_bipush 42 d_RM_term_10 (by decide) ?_
  refine vr_icmp_eq (tgt := 35) d_RM_term_12 (by decide) (fun c12 => ?_) (fun c12 => ?_)
  · replace h := l_ifp c12 h
    exact mv_drop (q_RM_term_35 H h_RM_factor hF hLw _ _ _ _ h) (And.intro rfl (And.intro rfl (And.intro rfl trivial)))
  · replace h := l_ifn c12 h
    refine vr_aload_n d_RM_term_15 rfl rfl ?_
    obtain ⟨v3, S3, ev3, h⟩ := l_calI h
    refine rm_callI [] H d_RM_term_16 C_RM_162 (c_RM_look H ev3) rfl rfl rfl (Nat.le_of_ble_eq_true rfl) (by omega) (by show 8 + (1 + 11) + 0 ≤ Lw + 60; omega) ?_
    refine vr_bipush 47 d_RM_term_19 (by decide) ?_
    refine vr_icmp_eq (tgt := 35) d_RM_term_21 (by decide) (fun c21 => ?_) (fun c21 => ?_)
    · replace h := l_ifp c21 h
      exact mv_drop (q_RM_term_35 H h_RM_factor hF hLw _ _ _ _ h) (And.intro rfl (And.intro rfl (And.intro rfl trivial)))
    · replace h := l_ifn c21 h
      refine vr_aload_n d_RM_term_24 rfl rfl ?_
      obtain ⟨v4, S4, ev4, h⟩ := l_calI h
      refine rm_callI [] H d_RM_term_25 C_RM_162 (c_RM_look H ev4) rfl rfl rfl (Nat.le_of_ble_eq_true rfl) (by omega) (by show 8 + (1 + 11) + 0 ≤ Lw + 60; omega) ?_
      refine vr_bipush 37 d_RM_term_28 (by decide) ?_
      refine vr_icmp_eq (tgt := 35) d_RM_term_30 (by decide) (fun c30 => ?_) (fun c30 => ?_)
      · replace h := l_ifp c30 h
        exact mv_drop (q_RM_term_35 H h_RM_factor hF hLw _ _ _ _ h) (And.intro rfl (And.intro rfl (And.intro rfl trivial)))
      · replace h := l_ifn c30 h
        refine vr_iload_n d_RM_term_33 rfl rfl ?_
        cases h
        exact vr_iret d_RM_term_34 rfl rfl ⟨rfl, rfl⟩

def f_RM_factor (N : Nat) (p_RM_sum : Int32 → rm_S → Option (Int32 × rm_S)) (p_RM_factor : Int32 → rm_S → Option (Int32 × rm_S)) (x1 : Int32) (S : rm_S) : Option (Int32 × rm_S) := calI (f_RM_look N S) fun v1 S1 => if v1 = 3 then (calI (f_RM_number N 0 S1) fun v36 S36 => some (v36, S36)) else (if v1 = 2 then (chk (ib (S1.1 12) 8002) <| bnd ((S1.2 5 (Int32.toNatClampNeg (S1.1 12)))) fun v25 => calI (f_RM_name N S1) fun v26 S26 => calI (f_RM_look N S26) fun v27 S27 => if v27 = 91 then (calI (f_RM_draft N 14 v25 0 S27) fun v28 S28 => calV (f_RM_join N v28 v26 S28) fun S29 => calV (f_RM_take N 91 S29) fun S30 => if (S30.1 13) = 0 then (calI (p_RM_sum ((x1 + 1)) S30) fun v31 S31 => calV (f_RM_join N v28 v31 S31) fun S32 => calV (f_RM_take N 93 S32) fun S33 => some (v28, S33)) else (calV (f_RM_join N v28 (-1) S30) fun S34 => calV (f_RM_take N 93 S34) fun S35 => some (v28, S35))) else (some (v26, S27))) else (if v1 = 45 then (chk (ib (S1.1 12) 8002) <| calI (f_RM_draft N 15 ((S1.2 5 (Int32.toNatClampNeg (S1.1 12)))) 0 S1) fun v18 S18 => calV (f_RM_take N 45 S18) fun S19 => calV (f_RM_deep N ((x1 + 1)) S19) fun S20 => if (S20.1 13) = 0 then (calI (p_RM_factor ((x1 + 1)) S20) fun v21 S21 => calV (f_RM_join N v18 v21 S21) fun S22 => some (v18, S22)) else (calV (f_RM_join N v18 (-1) S20) fun S23 => some (v18, S23))) else (if v1 = 307 then (chk (ib (S1.1 12) 8002) <| calI (f_RM_draft N 16 ((S1.2 5 (Int32.toNatClampNeg (S1.1 12)))) 0 S1) fun v7 S7 => calV (f_RM_take N 307 S7) fun S8 => calI (f_RM_look N S8) fun v9 S9 => if v9 = 40 then (calV (f_RM_take N 40 S9) fun S10 => calI (f_RM_number N 1 S10) fun v11 S11 => calV (f_RM_join N v7 v11 S11) fun S12 => calV (f_RM_take N 44 S12) fun S13 => calI (f_RM_number N 1 S13) fun v14 S14 => calV (f_RM_join N v7 v14 S14) fun S15 => calV (f_RM_take N 41 S15) fun S16 => some (v7, S16)) else (some (v7, S9))) else (calV (f_RM_take N 40 S1) fun S2 => if (S2.1 13) = 0 then (calI (p_RM_sum ((x1 + 1)) S2) fun v3 S3 => calV (f_RM_take N 41 S3) fun S4 => some (v3, S4)) else (calV (f_RM_take N 41 S2) fun S5 => some ((-1), S5))))))
theorem c_RM_factor {g : mv_G} {σ : mh_H} {m : Nat} {N : Nat} {p_RM_sum : Int32 → rm_S → Option (Int32 × rm_S)} {p_RM_factor : Int32 → rm_S → Option (Int32 × rm_S)} (H : rm_H g σ m) {F Lw : Nat} (h_RM_sum : rkI1 g σ m M_RM_sum F Lw p_RM_sum) (h_RM_factor : rkI1 g σ m M_RM_factor F Lw p_RM_factor) (hF : 40 ≤ F) (hLw : 1000 ≤ Lw) : rkI1 g σ m M_RM_factor (F + 1) (Lw + 60) (f_RM_factor N p_RM_sum p_RM_factor) := by
  intro x1 S r h
  refine mv_entry (L := [some (.ref m), some (.int x1), none, none, none, none]) rfl rfl (Nat.le_of_ble_eq_true rfl) rfl ?_
  unfold f_RM_factor at h
  refine vr_aload_n d_RM_factor_0 rfl rfl ?_
  obtain ⟨v1, S1, ev1, h⟩ := l_calI h
  refine rm_callI [] H d_RM_factor_1 C_RM_162 (c_RM_look H ev1) rfl rfl rfl (Nat.le_of_ble_eq_true rfl) (by omega) (by show 8 + (1 + 11) + 0 ≤ Lw + 60; omega) ?_
  refine vr_istore_n (L' := [some (.ref m), some (.int x1), some (.int v1), none, none, none]) d_RM_factor_4 rfl (by decide) rfl ?_
  refine vr_iload_n d_RM_factor_5 rfl rfl ?_
  refine vr_iconst 3 d_RM_factor_6 (by decide) ?_
  refine vr_icmp_ne (tgt := 16) d_RM_factor_7 (by decide) (fun c7 => ?_) (fun c7 => ?_)
  · replace h := l_ifn c7 h
    refine vr_iload_n d_RM_factor_16 rfl rfl ?_
    refine vr_iconst 2 d_RM_factor_17 (by decide) ?_
    refine vr_icmp_ne (tgt := 106) d_RM_factor_18 (by decide) (fun c18 => ?_) (fun c18 => ?_)
    · replace h := l_ifn c18 h
      refine vr_iload_n d_RM_factor_106 rfl rfl ?_
      refine vr_bipush 45 d_RM_factor_107 (by decide) ?_
      refine vr_icmp_ne (tgt := 167) d_RM_factor_109 (by decide) (fun c109 => ?_) (fun c109 => ?_)
      · replace h := l_ifn c109 h
        refine vr_iload_n d_RM_factor_167 rfl rfl ?_
        refine vr_sipush 307 d_RM_factor_168 (by decide) ?_
        refine vr_icmp_ne (tgt := 247) d_RM_factor_171 (by decide) (fun c171 => ?_) (fun c171 => ?_)
        · replace h := l_ifn c171 h
          refine vr_aload_n d_RM_factor_247 rfl rfl ?_
          refine vr_bipush 40 d_RM_factor_248 (by decide) ?_
          obtain ⟨S2, eS2, h⟩ := l_calV h
          refine rm_callU [.int 40] H d_RM_factor_250 C_RM_176 (c_RM_take H eS2) rfl rfl rfl (Nat.le_of_ble_eq_true rfl) (by omega) (by show 8 + (2 + 11) + 21 ≤ Lw + 60; omega) ?_
          refine vr_aload_n d_RM_factor_253 rfl rfl ?_
          refine rm_getI H d_RM_factor_254 F_RM_155 rfl ?_
          refine vr_if_eq (tgt := 264) d_RM_factor_257 (by decide) (fun c257 => ?_) (fun c257 => ?_)
          · replace h := l_ifp c257 h
            refine vr_aload_n d_RM_factor_264 rfl rfl ?_
            refine vr_iload_n d_RM_factor_265 rfl rfl ?_
            refine vr_iconst 1 d_RM_factor_266 (by decide) ?_
            refine vr_iadd d_RM_factor_267 ?_
            obtain ⟨v3, S3, ev3, h⟩ := l_calI h
            refine rm_callI [.int (x1 + 1)] H d_RM_factor_268 C_RM_199 (h_RM_sum _ _ _ ev3) rfl rfl rfl (Nat.le_of_ble_eq_true rfl) (by omega) (by show 8 + (5 + 11) + Lw ≤ Lw + 60; omega) ?_
            refine vr_istore_n (L' := [some (.ref m), some (.int x1), some (.int v1), some (.int v3), none, none]) d_RM_factor_271 rfl (by decide) rfl ?_
            refine vr_aload_n d_RM_factor_272 rfl rfl ?_
            refine vr_bipush 41 d_RM_factor_273 (by decide) ?_
            obtain ⟨S4, eS4, h⟩ := l_calV h
            refine rm_callU [.int 41] H d_RM_factor_275 C_RM_176 (c_RM_take H eS4) rfl rfl rfl (Nat.le_of_ble_eq_true rfl) (by omega) (by show 8 + (2 + 11) + 21 ≤ Lw + 60; omega) ?_
            refine vr_iload_n d_RM_factor_278 rfl rfl ?_
            cases h
            exact vr_iret d_RM_factor_279 rfl rfl ⟨rfl, rfl⟩
          · replace h := l_ifn c257 h
            refine vr_iconst (-1) d_RM_factor_260 (by decide) ?_
            refine vr_goto (tgt := 271) d_RM_factor_261 (by decide) ?_
            refine vr_istore_n (L' := [some (.ref m), some (.int x1), some (.int v1), some (.int (-1)), none, none]) d_RM_factor_271 rfl (by decide) rfl ?_
            refine vr_aload_n d_RM_factor_272 rfl rfl ?_
            refine vr_bipush 41 d_RM_factor_273 (by decide) ?_
            obtain ⟨S5, eS5, h⟩ := l_calV h
            refine rm_callU [.int 41] H d_RM_factor_275 C_RM_176 (c_RM_take H eS5) rfl rfl rfl (Nat.le_of_ble_eq_true rfl) (by omega) (by show 8 + (2 + 11) + 21 ≤ Lw + 60; omega) ?_
            refine vr_iload_n d_RM_factor_278 rfl rfl ?_
            cases h
            exact vr_iret d_RM_factor_279 rfl rfl ⟨rfl, rfl⟩
        · replace h := l_ifp c171 h
          refine vr_aload_n d_RM_factor_174 rfl rfl ?_
          refine vr_bipush 16 d_RM_factor_175 (by decide) ?_
          refine vr_aload_n d_RM_factor_177 rfl rfl ?_
          refine rm_getR (o := 5) H d_RM_factor_178 F_RM_22 rfl (by decide) ?_
          refine vr_aload_n d_RM_factor_181 rfl rfl ?_
          refine rm_getI H d_RM_factor_182 F_RM_159 rfl ?_
          have q6 := (l_chk h).1
          replace h := (l_chk h).2
          refine rm_ald (o := 5) H (by decide) (by decide) d_RM_factor_185 (ib_in q6) ?_
          refine vr_iconst 0 d_RM_factor_186 (by decide) ?_
          obtain ⟨v7, S7, ev7, h⟩ := l_calI h
          refine rm_callI [.int 16, .int (S1.2 5 (Int32.toNatClampNeg (S1.1 12))), .int 0] H d_RM_factor_187 C_RM_172 (c_RM_draft H ev7) rfl rfl rfl (Nat.le_of_ble_eq_true rfl) (by omega) (by show 8 + (4 + 11) + 0 ≤ Lw + 60; omega) ?_
          refine vr_istore_n (L' := [some (.ref m), some (.int x1), some (.int v1), some (.int v7), none, none]) d_RM_factor_190 rfl (by decide) rfl ?_
          refine vr_aload_n d_RM_factor_191 rfl rfl ?_
          refine vr_sipush 307 d_RM_factor_192 (by decide) ?_
          obtain ⟨S8, eS8, h⟩ := l_calV h
          refine rm_callU [.int 307] H d_RM_factor_195 C_RM_176 (c_RM_take H eS8) rfl rfl rfl (Nat.le_of_ble_eq_true rfl) (by omega) (by show 8 + (2 + 11) + 21 ≤ Lw + 60; omega) ?_
          refine vr_aload_n d_RM_factor_198 rfl rfl ?_
          obtain ⟨v9, S9, ev9, h⟩ := l_calI h
          refine rm_callI [] H d_RM_factor_199 C_RM_162 (c_RM_look H ev9) rfl rfl rfl (Nat.le_of_ble_eq_true rfl) (by omega) (by show 8 + (1 + 11) + 0 ≤ Lw + 60; omega) ?_
          refine vr_bipush 40 d_RM_factor_202 (by decide) ?_
          refine vr_icmp_ne (tgt := 245) d_RM_factor_204 (by decide) (fun c204 => ?_) (fun c204 => ?_)
          · replace h := l_ifn c204 h
            refine vr_iload_n d_RM_factor_245 rfl rfl ?_
            cases h
            exact vr_iret d_RM_factor_246 rfl rfl ⟨rfl, rfl⟩
          · replace h := l_ifp c204 h
            refine vr_aload_n d_RM_factor_207 rfl rfl ?_
            refine vr_bipush 40 d_RM_factor_208 (by decide) ?_
            obtain ⟨S10, eS10, h⟩ := l_calV h
            refine rm_callU [.int 40] H d_RM_factor_210 C_RM_176 (c_RM_take H eS10) rfl rfl rfl (Nat.le_of_ble_eq_true rfl) (by omega) (by show 8 + (2 + 11) + 21 ≤ Lw + 60; omega) ?_
            refine vr_aload_n d_RM_factor_213 rfl rfl ?_
            refine vr_iload_n d_RM_factor_214 rfl rfl ?_
            refine vr_aload_n d_RM_factor_215 rfl rfl ?_
            refine vr_iconst 1 d_RM_factor_216 (by decide) ?_
            obtain ⟨v11, S11, ev11, h⟩ := l_calI h
            refine rm_callI [.int 1] H d_RM_factor_217 C_RM_192 (c_RM_number H ev11) rfl rfl rfl (Nat.le_of_ble_eq_true rfl) (by omega) (by show 8 + (6 + 11) + 42 ≤ Lw + 60; omega) ?_
            obtain ⟨S12, eS12, h⟩ := l_calV h
            refine rm_callU [.int v7, .int v11] H d_RM_factor_220 C_RM_185 (c_RM_join H eS12) rfl rfl rfl (Nat.le_of_ble_eq_true rfl) (by omega) (by show 8 + (3 + 11) + 0 ≤ Lw + 60; omega) ?_
            refine vr_aload_n d_RM_factor_223 rfl rfl ?_
            refine vr_bipush 44 d_RM_factor_224 (by decide) ?_
            obtain ⟨S13, eS13, h⟩ := l_calV h
            refine rm_callU [.int 44] H d_RM_factor_226 C_RM_176 (c_RM_take H eS13) rfl rfl rfl (Nat.le_of_ble_eq_true rfl) (by omega) (by show 8 + (2 + 11) + 21 ≤ Lw + 60; omega) ?_
            refine vr_aload_n d_RM_factor_229 rfl rfl ?_
            refine vr_iload_n d_RM_factor_230 rfl rfl ?_
            refine vr_aload_n d_RM_factor_231 rfl rfl ?_
            refine vr_iconst 1 d_RM_factor_232 (by decide) ?_
            obtain ⟨v14, S14, ev14, h⟩ := l_calI h
            refine rm_callI [.int 1] H d_RM_factor_233 C_RM_192 (c_RM_number H ev14) rfl rfl rfl (Nat.le_of_ble_eq_true rfl) (by omega) (by show 8 + (6 + 11) + 42 ≤ Lw + 60; omega) ?_
            obtain ⟨S15, eS15, h⟩ := l_calV h
            refine rm_callU [.int v7, .int v14] H d_RM_factor_236 C_RM_185 (c_RM_join H eS15) rfl rfl rfl (Nat.le_of_ble_eq_true rfl) (by omega) (by show 8 + (3 + 11) + 0 ≤ Lw + 60; omega) ?_
            refine vr_aload_n d_RM_factor_239 rfl rfl ?_
            refine vr_bipush 41 d_RM_factor_240 (by decide) ?_
            obtain ⟨S16, eS16, h⟩ := l_calV h
            refine rm_callU [.int 41] H d_RM_factor_242 C_RM_176 (c_RM_take H eS16) rfl rfl rfl (Nat.le_of_ble_eq_true rfl) (by omega) (by show 8 + (2 + 11) + 21 ≤ Lw + 60; omega) ?_
            refine vr_iload_n d_RM_factor_245 rfl rfl ?_
            cases h
            exact vr_iret d_RM_factor_246 rfl rfl ⟨rfl, rfl⟩
      · replace h := l_ifp c109 h
        refine vr_aload_n d_RM_factor_112 rfl rfl ?_
        refine vr_bipush 15 d_RM_factor_113 (by decide) ?_
        refine vr_aload_n d_RM_factor_115 rfl rfl ?_
        refine rm_getR (o := 5) H d_RM_factor_116 F_RM_22 rfl (by decide) ?_
        refine vr_aload_n d_RM_factor_119 rfl rfl ?_
        refine rm_getI H d_RM_factor_120 F_RM_159 rfl ?_
        have q17 := (l_chk h).1
        replace h := (l_chk h).2
        refine rm_ald (o := 5) H (by decide) (by decide) d_RM_factor_123 (ib_in q17) ?_
        refine vr_iconst 0 d_RM_factor_124 (by decide) ?_
        obtain ⟨v18, S18, ev18, h⟩ := l_calI h
        refine rm_callI [.int 15, .int (S1.2 5 (Int32.toNatClampNeg (S1.1 12))), .int 0] H d_RM_factor_125 C_RM_172 (c_RM_draft H ev18) rfl rfl rfl (Nat.le_of_ble_eq_true rfl) (by omega) (by show 8 + (4 + 11) + 0 ≤ Lw + 60; omega) ?_
        refine vr_istore_n (L' := [some (.ref m), some (.int x1), some (.int v1), some (.int v18), none, none]) d_RM_factor_128 rfl (by decide) rfl ?_
        refine vr_aload_n d_RM_factor_129 rfl rfl ?_
        refine vr_bipush 45 d_RM_factor_130 (by decide) ?_
        obtain ⟨S19, eS19, h⟩ := l_calV h
        refine rm_callU [.int 45] H d_RM_factor_132 C_RM_176 (c_RM_take H eS19) rfl rfl rfl (Nat.le_of_ble_eq_true rfl) (by omega) (by show 8 + (2 + 11) + 21 ≤ Lw + 60; omega) ?_
        refine vr_aload_n d_RM_factor_135 rfl rfl ?_
        refine vr_iload_n d_RM_factor_136 rfl rfl ?_
        refine vr_iconst 1 d_RM_factor_137 (by decide) ?_
        refine vr_iadd d_RM_factor_138 ?_
        obtain ⟨S20, eS20, h⟩ := l_calV h
        refine rm_callU [.int (x1 + 1)] H d_RM_factor_139 C_RM_179 (c_RM_deep H eS20) rfl rfl rfl (Nat.le_of_ble_eq_true rfl) (by omega) (by show 8 + (2 + 11) + 21 ≤ Lw + 60; omega) ?_
        refine vr_aload_n d_RM_factor_142 rfl rfl ?_
        refine vr_iload_n d_RM_factor_143 rfl rfl ?_
        refine vr_aload_n d_RM_factor_144 rfl rfl ?_
        refine rm_getI H d_RM_factor_145 F_RM_155 rfl ?_
        refine vr_if_eq (tgt := 155) d_RM_factor_148 (by decide) (fun c148 => ?_) (fun c148 => ?_)
        · replace h := l_ifp c148 h
          refine vr_aload_n d_RM_factor_155 rfl rfl ?_
          refine vr_iload_n d_RM_factor_156 rfl rfl ?_
          refine vr_iconst 1 d_RM_factor_157 (by decide) ?_
          refine vr_iadd d_RM_factor_158 ?_
          obtain ⟨v21, S21, ev21, h⟩ := l_calI h
          refine rm_callI [.int (x1 + 1)] H d_RM_factor_159 C_RM_189 (h_RM_factor _ _ _ ev21) rfl rfl rfl (Nat.le_of_ble_eq_true rfl) (by omega) (by show 8 + (6 + 11) + Lw ≤ Lw + 60; omega) ?_
          obtain ⟨S22, eS22, h⟩ := l_calV h
          refine rm_callU [.int v18, .int v21] H d_RM_factor_162 C_RM_185 (c_RM_join H eS22) rfl rfl rfl (Nat.le_of_ble_eq_true rfl) (by omega) (by show 8 + (3 + 11) + 0 ≤ Lw + 60; omega) ?_
          refine vr_iload_n d_RM_factor_165 rfl rfl ?_
          cases h
          exact vr_iret d_RM_factor_166 rfl rfl ⟨rfl, rfl⟩
        · replace h := l_ifn c148 h
          refine vr_iconst (-1) d_RM_factor_151 (by decide) ?_
          refine vr_goto (tgt := 162) d_RM_factor_152 (by decide) ?_
          obtain ⟨S23, eS23, h⟩ := l_calV h
          refine rm_callU [.int v18, .int (-1)] H d_RM_factor_162 C_RM_185 (c_RM_join H eS23) rfl rfl rfl (Nat.le_of_ble_eq_true rfl) (by omega) (by show 8 + (3 + 11) + 0 ≤ Lw + 60; omega) ?_
          refine vr_iload_n d_RM_factor_165 rfl rfl ?_
          cases h
          exact vr_iret d_RM_factor_166 rfl rfl ⟨rfl, rfl⟩
    · replace h := l_ifp c18 h
      refine vr_aload_n d_RM_factor_21 rfl rfl ?_
      refine rm_getR (o := 5) H d_RM_factor_22 F_RM_22 rfl (by decide) ?_
      refine vr_aload_n d_RM_factor_25 rfl rfl ?_
      refine rm_getI H d_RM_factor_26 F_RM_159 rfl ?_
      have q24 := (l_chk h).1
      replace h := (l_chk h).2
      refine rm_ald (o := 5) H (by decide) (by decide) d_RM_factor_29 (ib_in q24) ?_
      obtain ⟨v25, ev25, h⟩ := l_bnd h
      refine vr_nm ev25 ?_
      refine vr_istore_n (L' := [some (.ref m), some (.int x1), some (.int v1), some (.int v25), none, none]) d_RM_factor_30 rfl (by decide) rfl ?_
      refine vr_aload_n d_RM_factor_31 rfl rfl ?_
      obtain ⟨v26, S26, ev26, h⟩ := l_calI h
      refine rm_callI [] H d_RM_factor_32 C_RM_196 (c_RM_name H ev26) rfl rfl rfl (Nat.le_of_ble_eq_true rfl) (by omega) (by show 8 + (2 + 11) + 42 ≤ Lw + 60; omega) ?_
      refine vr_istore (L' := [some (.ref m), some (.int x1), some (.int v1), some (.int v25), some (.int v26), none]) d_RM_factor_35 (by decide) rfl ?_
      refine vr_aload_n d_RM_factor_37 rfl rfl ?_
      obtain ⟨v27, S27, ev27, h⟩ := l_calI h
      refine rm_callI [] H d_RM_factor_38 C_RM_162 (c_RM_look H ev27) rfl rfl rfl (Nat.le_of_ble_eq_true rfl) (by omega) (by show 8 + (1 + 11) + 0 ≤ Lw + 60; omega) ?_
      refine vr_bipush 91 d_RM_factor_41 (by decide) ?_
      refine vr_icmp_eq (tgt := 49) d_RM_factor_43 (by decide) (fun c43 => ?_) (fun c43 => ?_)
      · replace h := l_ifp c43 h
        refine vr_aload_n d_RM_factor_49 rfl rfl ?_
        refine vr_bipush 14 d_RM_factor_50 (by decide) ?_
        refine vr_iload_n d_RM_factor_52 rfl rfl ?_
        refine vr_iconst 0 d_RM_factor_53 (by decide) ?_
        obtain ⟨v28, S28, ev28, h⟩ := l_calI h
        refine rm_callI [.int 14, .int v25, .int 0] H d_RM_factor_54 C_RM_172 (c_RM_draft H ev28) rfl rfl rfl (Nat.le_of_ble_eq_true rfl) (by omega) (by show 8 + (4 + 11) + 0 ≤ Lw + 60; omega) ?_
        refine vr_istore (L' := [some (.ref m), some (.int x1), some (.int v1), some (.int v25), some (.int v26), some (.int v28)]) d_RM_factor_57 (by decide) rfl ?_
        refine vr_aload_n d_RM_factor_59 rfl rfl ?_
        refine vr_iload d_RM_factor_60 rfl ?_
        refine vr_iload d_RM_factor_62 rfl ?_
        obtain ⟨S29, eS29, h⟩ := l_calV h
        refine rm_callU [.int v28, .int v26] H d_RM_factor_64 C_RM_185 (c_RM_join H eS29) rfl rfl rfl (Nat.le_of_ble_eq_true rfl) (by omega) (by show 8 + (3 + 11) + 0 ≤ Lw + 60; omega) ?_
        refine vr_aload_n d_RM_factor_67 rfl rfl ?_
        refine vr_bipush 91 d_RM_factor_68 (by decide) ?_
        obtain ⟨S30, eS30, h⟩ := l_calV h
        refine rm_callU [.int 91] H d_RM_factor_70 C_RM_176 (c_RM_take H eS30) rfl rfl rfl (Nat.le_of_ble_eq_true rfl) (by omega) (by show 8 + (2 + 11) + 21 ≤ Lw + 60; omega) ?_
        refine vr_aload_n d_RM_factor_73 rfl rfl ?_
        refine vr_iload d_RM_factor_74 rfl ?_
        refine vr_aload_n d_RM_factor_76 rfl rfl ?_
        refine rm_getI H d_RM_factor_77 F_RM_155 rfl ?_
        refine vr_if_eq (tgt := 87) d_RM_factor_80 (by decide) (fun c80 => ?_) (fun c80 => ?_)
        · replace h := l_ifp c80 h
          refine vr_aload_n d_RM_factor_87 rfl rfl ?_
          refine vr_iload_n d_RM_factor_88 rfl rfl ?_
          refine vr_iconst 1 d_RM_factor_89 (by decide) ?_
          refine vr_iadd d_RM_factor_90 ?_
          obtain ⟨v31, S31, ev31, h⟩ := l_calI h
          refine rm_callI [.int (x1 + 1)] H d_RM_factor_91 C_RM_199 (h_RM_sum _ _ _ ev31) rfl rfl rfl (Nat.le_of_ble_eq_true rfl) (by omega) (by show 8 + (5 + 11) + Lw ≤ Lw + 60; omega) ?_
          obtain ⟨S32, eS32, h⟩ := l_calV h
          refine rm_callU [.int v28, .int v31] H d_RM_factor_94 C_RM_185 (c_RM_join H eS32) rfl rfl rfl (Nat.le_of_ble_eq_true rfl) (by omega) (by show 8 + (3 + 11) + 0 ≤ Lw + 60; omega) ?_
          refine vr_aload_n d_RM_factor_97 rfl rfl ?_
          refine vr_bipush 93 d_RM_factor_98 (by decide) ?_
          obtain ⟨S33, eS33, h⟩ := l_calV h
          refine rm_callU [.int 93] H d_RM_factor_100 C_RM_176 (c_RM_take H eS33) rfl rfl rfl (Nat.le_of_ble_eq_true rfl) (by omega) (by show 8 + (2 + 11) + 21 ≤ Lw + 60; omega) ?_
          refine vr_iload d_RM_factor_103 rfl ?_
          cases h
          exact vr_iret d_RM_factor_105 rfl rfl ⟨rfl, rfl⟩
        · replace h := l_ifn c80 h
          refine vr_iconst (-1) d_RM_factor_83 (by decide) ?_
          refine vr_goto (tgt := 94) d_RM_factor_84 (by decide) ?_
          obtain ⟨S34, eS34, h⟩ := l_calV h
          refine rm_callU [.int v28, .int (-1)] H d_RM_factor_94 C_RM_185 (c_RM_join H eS34) rfl rfl rfl (Nat.le_of_ble_eq_true rfl) (by omega) (by show 8 + (3 + 11) + 0 ≤ Lw + 60; omega) ?_
          refine vr_aload_n d_RM_factor_97 rfl rfl ?_
          refine vr_bipush 93 d_RM_factor_98 (by decide) ?_
          obtain ⟨S35, eS35, h⟩ := l_calV h
          refine rm_callU [.int 93] H d_RM_factor_100 C_RM_176 (c_RM_take H eS35) rfl rfl rfl (Nat.le_of_ble_eq_true rfl) (by omega) (by show 8 + (2 + 11) + 21 ≤ Lw + 60; omega) ?_
          refine vr_iload d_RM_factor_103 rfl ?_
          cases h
          exact vr_iret d_RM_factor_105 rfl rfl ⟨rfl, rfl⟩
      · replace h := l_ifn c43 h
        refine vr_iload d_RM_factor_46 rfl ?_
        cases h
        exact vr_iret d_RM_factor_48 rfl rfl ⟨rfl, rfl⟩
  · replace h := l_ifp c7 h
    refine vr_aload_n d_RM_factor_10 rfl rfl ?_
    refine vr_iconst 0 d_RM_factor_11 (by decide) ?_
    obtain ⟨v36, S36, ev36, h⟩ := l_calI h
    refine rm_callI [.int 0] H d_RM_factor_12 C_RM_192 (c_RM_number H ev36) rfl rfl rfl (Nat.le_of_ble_eq_true rfl) (by omega) (by show 8 + (6 + 11) + 42 ≤ Lw + 60; omega) ?_
    cases h
    exact vr_iret d_RM_factor_15 rfl rfl ⟨rfl, rfl⟩

def f_RM_cond (N : Nat) (p_RM_tests : Int32 → Int32 → rm_S → Option (Int32 × rm_S)) (x1 : Int32) (S : rm_S) : Option (Int32 × rm_S) := calV (f_RM_deep N x1 S) fun S1 => if (S1.1 13) = 0 then (calI (p_RM_tests x1 24 S1) fun v2 S2 => some (v2, S2)) else (some ((-1), S1))
theorem c_RM_cond {g : mv_G} {σ : mh_H} {m : Nat} {N : Nat} {p_RM_tests : Int32 → Int32 → rm_S → Option (Int32 × rm_S)} (H : rm_H g σ m) {F Lw : Nat} (h_RM_tests : rkI2 g σ m M_RM_tests F Lw p_RM_tests) (hF : 40 ≤ F) (hLw : 1000 ≤ Lw) : rkI1 g σ m M_RM_cond (F + 1) (Lw + 60) (f_RM_cond N p_RM_tests) := by
  intro x1 S r h
  refine mv_entry (L := [some (.ref m), some (.int x1)]) rfl rfl (Nat.le_of_ble_eq_true rfl) rfl ?_
  unfold f_RM_cond at h
  refine vr_aload_n d_RM_cond_0 rfl rfl ?_
  refine vr_iload_n d_RM_cond_1 rfl rfl ?_
  obtain ⟨S1, eS1, h⟩ := l_calV h
  refine rm_callU [.int x1] H d_RM_cond_2 C_RM_179 (c_RM_deep H eS1) rfl rfl rfl (Nat.le_of_ble_eq_true rfl) (by omega) (by show 8 + (2 + 11) + 21 ≤ Lw + 60; omega) ?_
  refine vr_aload_n d_RM_cond_5 rfl rfl ?_
  refine rm_getI H d_RM_cond_6 F_RM_155 rfl ?_
  refine vr_if_eq (tgt := 16) d_RM_cond_9 (by decide) (fun c9 => ?_) (fun c9 => ?_)
  · replace h := l_ifp c9 h
    refine vr_aload_n d_RM_cond_16 rfl rfl ?_
    refine vr_iload_n d_RM_cond_17 rfl rfl ?_
    refine vr_bipush 24 d_RM_cond_18 (by decide) ?_
    obtain ⟨v2, S2, ev2, h⟩ := l_calI h
    refine rm_callI [.int x1, .int 24] H d_RM_cond_20 C_RM_202 (h_RM_tests _ _ _ _ ev2) rfl rfl rfl (Nat.le_of_ble_eq_true rfl) (by omega) (by show 8 + (6 + 11) + Lw ≤ Lw + 60; omega) ?_
    cases h
    exact vr_iret d_RM_cond_23 rfl rfl ⟨rfl, rfl⟩
  · replace h := l_ifn c9 h
    refine vr_iconst (-1) d_RM_cond_12 (by decide) ?_
    refine vr_goto (tgt := 23) d_RM_cond_13 (by decide) ?_
    cases h
    exact vr_iret d_RM_cond_23 rfl rfl ⟨rfl, rfl⟩

def k_RM_tests_73 (N : Nat) (p_RM_tests : Int32 → Int32 → rm_S → Option (Int32 × rm_S)) (p_RM_test : Int32 → rm_S → Option (Int32 × rm_S)) : Nat → Int32 → Int32 → Int32 → Int32 → rm_S → Option (Int32 × rm_S)
  | 0, _, _, _, _, _ => none
  | n + 1, y1, y2, y3, y5, S => calI (f_RM_look N S) fun v7 S7 => if v7 = y3 then (calV (f_RM_take N y3 S7) fun S8 => if (S8.1 13) = 0 then (if y2 = 24 then (calI (p_RM_tests y1 25 S8) fun v11 S11 => calV (f_RM_join N y5 v11 S11) fun S12 => k_RM_tests_73 N p_RM_tests p_RM_test n y1 y2 y3 y5 S12) else (calI (p_RM_test y1 S8) fun v9 S9 => calV (f_RM_join N y5 v9 S9) fun S10 => k_RM_tests_73 N p_RM_tests p_RM_test n y1 y2 y3 y5 S10)) else (calV (f_RM_join N y5 (-1) S8) fun S13 => k_RM_tests_73 N p_RM_tests p_RM_test n y1 y2 y3 y5 S13)) else (some (y5, S7))
theorem q_RM_tests_73 {g : mv_G} {σ : mh_H} {m : Nat} {N : Nat} {p_RM_tests : Int32 → Int32 → rm_S → Option (Int32 × rm_S)} {p_RM_test : Int32 → rm_S → Option (Int32 × rm_S)} (H : rm_H g σ m) {F Lw : Nat} (h_RM_tests : rkI2 g σ m M_RM_tests F Lw p_RM_tests) (h_RM_test : rkI1 g σ m M_RM_test F Lw p_RM_test) (hF : 40 ≤ F) (hLw : 1000 ≤ Lw) : ∀ (n : Nat) (y1 : Int32) (y2 : Int32) (y3 : Int32) (y5 : Int32) (S : rm_S) (r : Int32 × rm_S), k_RM_tests_73 N p_RM_tests p_RM_test n y1 y2 y3 y5 S = some r → mv_V g M_RM_tests (F + 1) (Lw + 60) 0 0 73 [some (.ref m), some (.int y1), some (.int y2), some (.int y3), none, some (.int y5)] [] (rz σ m S) (fun oc τ => τ = rz σ m r.2 ∧ oc = .returned (some (.int r.1))) := by
  intro n
  induction n with
  | zero =>
    intro y1 y2 y3 y5 S r h
    exact absurd h (by simp [k_RM_tests_73])
  | succ n ih =>
    intro y1 y2 y3 y5 S r h 
    unfold k_RM_tests_73 at h
    refine vr_aload_n d_RM_tests_73 rfl rfl ?_
    obtain ⟨v7, S7, ev7, h⟩ := l_calI h
    refine rm_callI [] H d_RM_tests_74 C_RM_162 (c_RM_look H ev7) rfl rfl rfl (Nat.le_of_ble_eq_true rfl) (by omega) (by show 8 + (1 + 11) + 0 ≤ Lw + 60; omega) ?_
    refine vr_iload_n d_RM_tests_77 rfl rfl ?_
    refine vr_icmp_ne (tgt := 127) d_RM_tests_78 (by decide) (fun c78 => ?_) (fun c78 => ?_)
    · replace h := l_ifn c78 h
      refine vr_iload d_RM_tests_127 rfl ?_
      cases h
      exact vr_iret d_RM_tests_129 rfl rfl ⟨rfl, rfl⟩
    · replace h := l_ifp c78 h
      refine vr_aload_n d_RM_tests_81 rfl rfl ?_
      refine vr_iload_n d_RM_tests_82 rfl rfl ?_
      obtain ⟨S8, eS8, h⟩ := l_calV h
      refine rm_callU [.int y3] H d_RM_tests_83 C_RM_176 (c_RM_take H eS8) rfl rfl rfl (Nat.le_of_ble_eq_true rfl) (by omega) (by show 8 + (2 + 11) + 21 ≤ Lw + 60; omega) ?_
      refine vr_aload_n d_RM_tests_86 rfl rfl ?_
      refine vr_iload d_RM_tests_87 rfl ?_
      refine vr_aload_n d_RM_tests_89 rfl rfl ?_
      refine rm_getI H d_RM_tests_90 F_RM_155 rfl ?_
      refine vr_if_eq (tgt := 100) d_RM_tests_93 (by decide) (fun c93 => ?_) (fun c93 => ?_)
      · replace h := l_ifp c93 h
        refine vr_iload_n d_RM_tests_100 rfl rfl ?_
        refine vr_bipush 24 d_RM_tests_101 (by decide) ?_
        refine vr_icmp_ne (tgt := 116) d_RM_tests_103 (by decide) (fun c103 => ?_) (fun c103 => ?_)
        · replace h := l_ifn c103 h
          refine vr_aload_n d_RM_tests_116 rfl rfl ?_
          refine vr_iload_n d_RM_tests_117 rfl rfl ?_
          obtain ⟨v9, S9, ev9, h⟩ := l_calI h
          refine rm_callI [.int y1] H d_RM_tests_118 C_RM_205 (h_RM_test _ _ _ ev9) rfl rfl rfl (Nat.le_of_ble_eq_true rfl) (by omega) (by show 8 + (6 + 11) + Lw ≤ Lw + 60; omega) ?_
          obtain ⟨S10, eS10, h⟩ := l_calV h
          refine rm_callU [.int y5, .int v9] H d_RM_tests_121 C_RM_185 (c_RM_join H eS10) rfl rfl rfl (Nat.le_of_ble_eq_true rfl) (by omega) (by show 8 + (3 + 11) + 0 ≤ Lw + 60; omega) ?_
          refine vr_goto (tgt := 73) d_RM_tests_124 (by decide) ?_
          exact mv_drop (ih _ _ _ _ _ _ h) (And.intro rfl (And.intro rfl (And.intro rfl (And.intro rfl (And.intro rfl trivial)))))
        · replace h := l_ifp c103 h
          refine vr_aload_n d_RM_tests_106 rfl rfl ?_
          refine vr_iload_n d_RM_tests_107 rfl rfl ?_
          refine vr_bipush 25 d_RM_tests_108 (by decide) ?_
          obtain ⟨v11, S11, ev11, h⟩ := l_calI h
          refine rm_callI [.int y1, .int 25] H d_RM_tests_110 C_RM_202 (h_RM_tests _ _ _ _ ev11) rfl rfl rfl (Nat.le_of_ble_eq_true rfl) (by omega) (by show 8 + (6 + 11) + Lw ≤ Lw + 60; omega) ?_
          refine vr_goto (tgt := 121) d_RM_tests_113 (by decide) ?_
          obtain ⟨S12, eS12, h⟩ := l_calV h
          refine rm_callU [.int y5, .int v11] H d_RM_tests_121 C_RM_185 (c_RM_join H eS12) rfl rfl rfl (Nat.le_of_ble_eq_true rfl) (by omega) (by show 8 + (3 + 11) + 0 ≤ Lw + 60; omega) ?_
          refine vr_goto (tgt := 73) d_RM_tests_124 (by decide) ?_
          exact mv_drop (ih _ _ _ _ _ _ h) (And.intro rfl (And.intro rfl (And.intro rfl (And.intro rfl (And.intro rfl trivial)))))
      · replace h := l_ifn c93 h
        refine vr_iconst (-1) d_RM_tests_96 (by decide) ?_
        refine vr_goto (tgt := 121) d_RM_tests_97 (by decide) ?_
        obtain ⟨S13, eS13, h⟩ := l_calV h
        refine rm_callU [.int y5, .int (-1)] H d_RM_tests_121 C_RM_185 (c_RM_join H eS13) rfl rfl rfl (Nat.le_of_ble_eq_true rfl) (by omega) (by show 8 + (3 + 11) + 0 ≤ Lw + 60; omega) ?_
        refine vr_goto (tgt := 73) d_RM_tests_124 (by decide) ?_
        exact mv_drop (ih _ _ _ _ _ _ h) (And.intro rfl (And.intro rfl (And.intro rfl (And.intro rfl (And.intro rfl trivial)))))

def k_RM_tests_37 (N : Nat) (p_RM_tests : Int32 → Int32 → rm_S → Option (Int32 × rm_S)) (p_RM_test : Int32 → rm_S → Option (Int32 × rm_S)) (y1 : Int32) (y2 : Int32) (y3 : Int32) (z0 : Int32) (S : rm_S) : Option (Int32 × rm_S) := calI (f_RM_look N S) fun v3 S3 => if v3 = y3 then (chk (ib z0 26000) <| calI (f_RM_draft N y2 ((S3.2 8 (Int32.toNatClampNeg z0))) 0 S3) fun v5 S5 => calV (f_RM_join N v5 z0 S5) fun S6 => k_RM_tests_73 N p_RM_tests p_RM_test N y1 y2 y3 v5 S6) else (some (z0, S3))
theorem q_RM_tests_37 {g : mv_G} {σ : mh_H} {m : Nat} {N : Nat} {p_RM_tests : Int32 → Int32 → rm_S → Option (Int32 × rm_S)} {p_RM_test : Int32 → rm_S → Option (Int32 × rm_S)} (H : rm_H g σ m) {F Lw : Nat} (h_RM_tests : rkI2 g σ m M_RM_tests F Lw p_RM_tests) (h_RM_test : rkI1 g σ m M_RM_test F Lw p_RM_test) (hF : 40 ≤ F) (hLw : 1000 ≤ Lw) (y1 : Int32) (y2 : Int32) (y3 : Int32) (z0 : Int32) (S : rm_S) (r : Int32 × rm_S) (h : k_RM_tests_37 N p_RM_tests p_RM_test y1 y2 y3 z0 S = some r) : mv_V g M_RM_tests (F + 1) (Lw + 60) 0 0 37 [some (.ref m), some (.int y1), some (.int y2), some (.int y3), none, none] [.int z0] (rz σ m S) (fun oc τ => τ = rz σ m r.2 ∧ oc = .returned (some (.int r.1))) := by
  unfold k_RM_tests_37 at h
  refine vr_istore (L' := [some (.ref m), some (.int y1), some (.int y2), some (.int y3), some (.int z0), none]) d_RM_tests_37 (by decide) rfl ?_
  refine vr_aload_n d_RM_tests_39 rfl rfl ?_
  obtain ⟨v3, S3, ev3, h⟩ := l_calI h
  refine rm_callI [] H d_RM_tests_40 C_RM_162 (c_RM_look H ev3) rfl rfl rfl (Nat.le_of_ble_eq_true rfl) (by omega) (by show 8 + (1 + 11) + 0 ≤ Lw + 60; omega) ?_
  refine vr_iload_n d_RM_tests_43 rfl rfl ?_
  refine vr_icmp_eq (tgt := 50) d_RM_tests_44 (by decide) (fun c44 => ?_) (fun c44 => ?_)
  · replace h := l_ifp c44 h
    refine vr_aload_n d_RM_tests_50 rfl rfl ?_
    refine vr_iload_n d_RM_tests_51 rfl rfl ?_
    refine vr_aload_n d_RM_tests_52 rfl rfl ?_
    refine rm_getR (o := 8) H d_RM_tests_53 F_RM_35 rfl (by decide) ?_
    refine vr_iload d_RM_tests_56 rfl ?_
    have q4 := (l_chk h).1
    replace h := (l_chk h).2
    refine rm_ald (o := 8) H (by decide) (by decide) d_RM_tests_58 (ib_in q4) ?_
    refine vr_iconst 0 d_RM_tests_59 (by decide) ?_
    obtain ⟨v5, S5, ev5, h⟩ := l_calI h
    refine rm_callI [.int y2, .int (S3.2 8 (Int32.toNatClampNeg z0)), .int 0] H d_RM_tests_60 C_RM_172 (c_RM_draft H ev5) rfl rfl rfl (Nat.le_of_ble_eq_true rfl) (by omega) (by show 8 + (4 + 11) + 0 ≤ Lw + 60; omega) ?_
    refine vr_istore (L' := [some (.ref m), some (.int y1), some (.int y2), some (.int y3), some (.int z0), some (.int v5)]) d_RM_tests_63 (by decide) rfl ?_
    refine vr_aload_n d_RM_tests_65 rfl rfl ?_
    refine vr_iload d_RM_tests_66 rfl ?_
    refine vr_iload d_RM_tests_68 rfl ?_
    obtain ⟨S6, eS6, h⟩ := l_calV h
    refine rm_callU [.int v5, .int z0] H d_RM_tests_70 C_RM_185 (c_RM_join H eS6) rfl rfl rfl (Nat.le_of_ble_eq_true rfl) (by omega) (by show 8 + (3 + 11) + 0 ≤ Lw + 60; omega) ?_
    exact mv_drop (q_RM_tests_73 H h_RM_tests h_RM_test hF hLw N _ _ _ _ _ _ h) (And.intro rfl (And.intro rfl (And.intro rfl (And.intro rfl (And.intro rfl trivial)))))
  · replace h := l_ifn c44 h
    refine vr_iload d_RM_tests_47 rfl ?_
    cases h
    exact vr_iret d_RM_tests_49 rfl rfl ⟨rfl, rfl⟩

def k_RM_tests_15 (N : Nat) (p_RM_tests : Int32 → Int32 → rm_S → Option (Int32 × rm_S)) (p_RM_test : Int32 → rm_S → Option (Int32 × rm_S)) (y1 : Int32) (y2 : Int32) (z0 : Int32) (S : rm_S) : Option (Int32 × rm_S) := if y2 = 24 then (calI (p_RM_tests y1 25 S) fun v2 S2 => k_RM_tests_37 N p_RM_tests p_RM_test y1 y2 z0 v2 S2) else (calI (p_RM_test y1 S) fun v1 S1 => k_RM_tests_37 N p_RM_tests p_RM_test y1 y2 z0 v1 S1)
theorem q_RM_tests_15 {g : mv_G} {σ : mh_H} {m : Nat} {N : Nat} {p_RM_tests : Int32 → Int32 → rm_S → Option (Int32 × rm_S)} {p_RM_test : Int32 → rm_S → Option (Int32 × rm_S)} (H : rm_H g σ m) {F Lw : Nat} (h_RM_tests : rkI2 g σ m M_RM_tests F Lw p_RM_tests) (h_RM_test : rkI1 g σ m M_RM_test F Lw p_RM_test) (hF : 40 ≤ F) (hLw : 1000 ≤ Lw) (y1 : Int32) (y2 : Int32) (z0 : Int32) (S : rm_S) (r : Int32 × rm_S) (h : k_RM_tests_15 N p_RM_tests p_RM_test y1 y2 z0 S = some r) : mv_V g M_RM_tests (F + 1) (Lw + 60) 0 0 15 [some (.ref m), some (.int y1), some (.int y2), none, none, none] [.int z0] (rz σ m S) (fun oc τ => τ = rz σ m r.2 ∧ oc = .returned (some (.int r.1))) := by
  unfold k_RM_tests_15 at h
  refine vr_istore_n (L' := [some (.ref m), some (.int y1), some (.int y2), some (.int z0), none, none]) d_RM_tests_15 rfl (by decide) rfl ?_
  refine vr_iload_n d_RM_tests_16 rfl rfl ?_
  refine vr_bipush 24 d_RM_tests_17 (by decide) ?_
  refine vr_icmp_ne (tgt := 32) d_RM_tests_19 (by decide) (fun c19 => ?_) (fun c19 => ?_)
  · replace h := l_ifn c19 h
    refine vr_aload_n d_RM_tests_32 rfl rfl ?_
    refine vr_iload_n d_RM_tests_33 rfl rfl ?_
    obtain ⟨v1, S1, ev1, h⟩ := l_calI h
    refine rm_callI [.int y1] H d_RM_tests_34 C_RM_205 (h_RM_test _ _ _ ev1) rfl rfl rfl (Nat.le_of_ble_eq_true rfl) (by omega) (by show 8 + (6 + 11) + Lw ≤ Lw + 60; omega) ?_
    exact mv_drop (q_RM_tests_37 H h_RM_tests h_RM_test hF hLw _ _ _ _ _ _ h) (And.intro rfl (And.intro rfl (And.intro rfl (And.intro rfl trivial))))
  · replace h := l_ifp c19 h
    refine vr_aload_n d_RM_tests_22 rfl rfl ?_
    refine vr_iload_n d_RM_tests_23 rfl rfl ?_
    refine vr_bipush 25 d_RM_tests_24 (by decide) ?_
    obtain ⟨v2, S2, ev2, h⟩ := l_calI h
    refine rm_callI [.int y1, .int 25] H d_RM_tests_26 C_RM_202 (h_RM_tests _ _ _ _ ev2) rfl rfl rfl (Nat.le_of_ble_eq_true rfl) (by omega) (by show 8 + (6 + 11) + Lw ≤ Lw + 60; omega) ?_
    refine vr_goto (tgt := 37) d_RM_tests_29 (by decide) ?_
    exact mv_drop (q_RM_tests_37 H h_RM_tests h_RM_test hF hLw _ _ _ _ _ _ h) (And.intro rfl (And.intro rfl (And.intro rfl (And.intro rfl trivial))))

def f_RM_tests (N : Nat) (p_RM_tests : Int32 → Int32 → rm_S → Option (Int32 × rm_S)) (p_RM_test : Int32 → rm_S → Option (Int32 × rm_S)) (x1 : Int32) (x2 : Int32) (S : rm_S) : Option (Int32 × rm_S) := if x2 = 24 then (k_RM_tests_15 N p_RM_tests p_RM_test x1 x2 261 S) else (k_RM_tests_15 N p_RM_tests p_RM_test x1 x2 260 S)
theorem c_RM_tests {g : mv_G} {σ : mh_H} {m : Nat} {N : Nat} {p_RM_tests : Int32 → Int32 → rm_S → Option (Int32 × rm_S)} {p_RM_test : Int32 → rm_S → Option (Int32 × rm_S)} (H : rm_H g σ m) {F Lw : Nat} (h_RM_tests : rkI2 g σ m M_RM_tests F Lw p_RM_tests) (h_RM_test : rkI1 g σ m M_RM_test F Lw p_RM_test) (hF : 40 ≤ F) (hLw : 1000 ≤ Lw) : rkI2 g σ m M_RM_tests (F + 1) (Lw + 60) (f_RM_tests N p_RM_tests p_RM_test) := by
  intro x1 x2 S r h
  refine mv_entry (L := [some (.ref m), some (.int x1), some (.int x2), none, none, none]) rfl rfl (Nat.le_of_ble_eq_true rfl) rfl ?_
  unfold f_RM_tests at h
  refine vr_iload_n d_RM_tests_0 rfl rfl ?_
  refine vr_bipush 24 d_RM_tests_1 (by decide) ?_
  refine vr_icmp_ne (tgt := 12) d_RM_tests_3 (by decide) (fun c3 => ?_) (fun c3 => ?_)
  · replace h := l_ifn c3 h
    refine vr_sipush 260 d_RM_tests_12 (by decide) ?_
    exact mv_drop (q_RM_tests_15 H h_RM_tests h_RM_test hF hLw _ _ _ _ _ h) (And.intro rfl (And.intro rfl (And.intro rfl trivial)))
  · replace h := l_ifp c3 h
    refine vr_sipush 261 d_RM_tests_6 (by decide) ?_
    refine vr_goto (tgt := 15) d_RM_tests_9 (by decide) ?_
    exact mv_drop (q_RM_tests_15 H h_RM_tests h_RM_test hF hLw _ _ _ _ _ h) (And.intro rfl (And.intro rfl (And.intro rfl trivial)))

def k_RM_test_203 (N : Nat) (p_RM_test : Int32 → rm_S → Option (Int32 × rm_S)) (p_RM_cond : Int32 → rm_S → Option (Int32 × rm_S)) (p_RM_sum : Int32 → rm_S → Option (Int32 × rm_S)) (y1 : Int32) (y2 : Int32) (y3 : Int32) (y4 : Int32) (z0 : Int32) (S : rm_S) : Option (Int32 × rm_S) := calV (f_RM_need N z0 S) fun S16 => if (S16.1 13) = 0 then (chk (ib y2 26000) <| calI (f_RM_draft N y4 ((S16.2 8 (Int32.toNatClampNeg y2))) 0 S16) fun v18 S18 => calV (f_RM_take N y3 S18) fun S19 => calV (f_RM_join N v18 y2 S19) fun S20 => calI (p_RM_sum ((y1 + 1)) S20) fun v21 S21 => calV (f_RM_join N v18 v21 S21) fun S22 => some (v18, S22)) else (some ((-1), S16))
theorem q_RM_test_203 {g : mv_G} {σ : mh_H} {m : Nat} {N : Nat} {p_RM_test : Int32 → rm_S → Option (Int32 × rm_S)} {p_RM_cond : Int32 → rm_S → Option (Int32 × rm_S)} {p_RM_sum : Int32 → rm_S → Option (Int32 × rm_S)} (H : rm_H g σ m) {F Lw : Nat} (h_RM_test : rkI1 g σ m M_RM_test F Lw p_RM_test) (h_RM_cond : rkI1 g σ m M_RM_cond F Lw p_RM_cond) (h_RM_sum : rkI1 g σ m M_RM_sum F Lw p_RM_sum) (hF : 40 ≤ F) (hLw : 1000 ≤ Lw) (y1 : Int32) (y2 : Int32) (y3 : Int32) (y4 : Int32) (z0 : Int32) (S : rm_S) (r : Int32 × rm_S) (h : k_RM_test_203 N p_RM_test p_RM_cond p_RM_sum y1 y2 y3 y4 z0 S = some r) : mv_V g M_RM_test (F + 1) (Lw + 60) 0 0 203 [some (.ref m), some (.int y1), some (.int y2), some (.int y3), some (.int y4), none] [.int z0, .ref m] (rz σ m S) (fun oc τ => τ = rz σ m r.2 ∧ oc = .returned (some (.int r.1))) := by
  unfold k_RM_test_203 at h
  obtain ⟨S16, eS16, h⟩ := l_calV h
  refine rm_callU [.int z0] H d_RM_test_203 C_RM_165 (c_RM_need H eS16) rfl rfl rfl (Nat.le_of_ble_eq_true rfl) (by omega) (by show 8 + (2 + 11) + 0 ≤ Lw + 60; omega) ?_
  refine vr_aload_n d_RM_test_206 rfl rfl ?_
  refine rm_getI H d_RM_test_207 F_RM_155 rfl ?_
  refine vr_if_eq (tgt := 215) d_RM_test_210 (by decide) (fun c210 => ?_) (fun c210 => ?_)
  · replace h := l_ifp c210 h
    refine vr_aload_n d_RM_test_215 rfl rfl ?_
    refine vr_iload d_RM_test_216 rfl ?_
    refine vr_aload_n d_RM_test_218 rfl rfl ?_
    refine rm_getR (o := 8) H d_RM_test_219 F_RM_35 rfl (by decide) ?_
    refine vr_iload_n d_RM_test_222 rfl rfl ?_
    have q17 := (l_chk h).1
    replace h := (l_chk h).2
    refine rm_ald (o := 8) H (by decide) (by decide) d_RM_test_223 (ib_in q17) ?_
    refine vr_iconst 0 d_RM_test_224 (by decide) ?_
    obtain ⟨v18, S18, ev18, h⟩ := l_calI h
    refine rm_callI [.int y4, .int (S16.2 8 (Int32.toNatClampNeg y2)), .int 0] H d_RM_test_225 C_RM_172 (c_RM_draft H ev18) rfl rfl rfl (Nat.le_of_ble_eq_true rfl) (by omega) (by show 8 + (4 + 11) + 0 ≤ Lw + 60; omega) ?_
    refine vr_istore (L' := [some (.ref m), some (.int y1), some (.int y2), some (.int y3), some (.int y4), some (.int v18)]) d_RM_test_228 (by decide) rfl ?_
    refine vr_aload_n d_RM_test_230 rfl rfl ?_
    refine vr_iload_n d_RM_test_231 rfl rfl ?_
    obtain ⟨S19, eS19, h⟩ := l_calV h
    refine rm_callU [.int y3] H d_RM_test_232 C_RM_176 (c_RM_take H eS19) rfl rfl rfl (Nat.le_of_ble_eq_true rfl) (by omega) (by show 8 + (2 + 11) + 21 ≤ Lw + 60; omega) ?_
    refine vr_aload_n d_RM_test_235 rfl rfl ?_
    refine vr_iload d_RM_test_236 rfl ?_
    refine vr_iload_n d_RM_test_238 rfl rfl ?_
    obtain ⟨S20, eS20, h⟩ := l_calV h
    refine rm_callU [.int v18, .int y2] H d_RM_test_239 C_RM_185 (c_RM_join H eS20) rfl rfl rfl (Nat.le_of_ble_eq_true rfl) (by omega) (by show 8 + (3 + 11) + 0 ≤ Lw + 60; omega) ?_
    refine vr_aload_n d_RM_test_242 rfl rfl ?_
    refine vr_iload d_RM_test_243 rfl ?_
    refine vr_aload_n d_RM_test_245 rfl rfl ?_
    refine vr_iload_n d_RM_test_246 rfl rfl ?_
    refine vr_iconst 1 d_RM_test_247 (by decide) ?_
    refine vr_iadd d_RM_test_248 ?_
    obtain ⟨v21, S21, ev21, h⟩ := l_calI h
    refine rm_callI [.int (y1 + 1)] H d_RM_test_249 C_RM_199 (h_RM_sum _ _ _ ev21) rfl rfl rfl (Nat.le_of_ble_eq_true rfl) (by omega) (by show 8 + (5 + 11) + Lw ≤ Lw + 60; omega) ?_
    obtain ⟨S22, eS22, h⟩ := l_calV h
    refine rm_callU [.int v18, .int v21] H d_RM_test_252 C_RM_185 (c_RM_join H eS22) rfl rfl rfl (Nat.le_of_ble_eq_true rfl) (by omega) (by show 8 + (3 + 11) + 0 ≤ Lw + 60; omega) ?_
    refine vr_iload d_RM_test_255 rfl ?_
    cases h
    exact vr_iret d_RM_test_257 rfl rfl ⟨rfl, rfl⟩
  · replace h := l_ifn c210 h
    refine vr_iconst (-1) d_RM_test_213 (by decide) ?_
    cases h
    exact vr_iret d_RM_test_214 rfl rfl ⟨rfl, rfl⟩

def k_RM_test_190 (N : Nat) (p_RM_test : Int32 → rm_S → Option (Int32 × rm_S)) (p_RM_cond : Int32 → rm_S → Option (Int32 × rm_S)) (p_RM_sum : Int32 → rm_S → Option (Int32 × rm_S)) (y1 : Int32) (y2 : Int32) (y3 : Int32) (z0 : Int32) (S : rm_S) : Option (Int32 × rm_S) := if z0 ≤ 0 then (k_RM_test_203 N p_RM_test p_RM_cond p_RM_sum y1 y2 y3 z0 0 S) else (k_RM_test_203 N p_RM_test p_RM_cond p_RM_sum y1 y2 y3 z0 1 S)
theorem q_RM_test_190 {g : mv_G} {σ : mh_H} {m : Nat} {N : Nat} {p_RM_test : Int32 → rm_S → Option (Int32 × rm_S)} {p_RM_cond : Int32 → rm_S → Option (Int32 × rm_S)} {p_RM_sum : Int32 → rm_S → Option (Int32 × rm_S)} (H : rm_H g σ m) {F Lw : Nat} (h_RM_test : rkI1 g σ m M_RM_test F Lw p_RM_test) (h_RM_cond : rkI1 g σ m M_RM_cond F Lw p_RM_cond) (h_RM_sum : rkI1 g σ m M_RM_sum F Lw p_RM_sum) (hF : 40 ≤ F) (hLw : 1000 ≤ Lw) (y1 : Int32) (y2 : Int32) (y3 : Int32) (z0 : Int32) (S : rm_S) (r : Int32 × rm_S) (h : k_RM_test_190 N p_RM_test p_RM_cond p_RM_sum y1 y2 y3 z0 S = some r) : mv_V g M_RM_test (F + 1) (Lw + 60) 0 0 190 [some (.ref m), some (.int y1), some (.int y2), some (.int y3), none, none] [.int z0] (rz σ m S) (fun oc τ => τ = rz σ m r.2 ∧ oc = .returned (some (.int r.1))) := by
  unfold k_RM_test_190 at h
  refine vr_istore (L' := [some (.ref m), some (.int y1), some (.int y2), some (.int y3), some (.int z0), none]) d_RM_test_190 (by decide) rfl ?_
  refine vr_aload_n d_RM_test_192 rfl rfl ?_
  refine vr_iload d_RM_test_193 rfl ?_
  refine vr_if_le (tgt := 202) d_RM_test_195 (by decide) (fun c195 => ?_) (fun c195 => ?_)
  · replace h := l_ifp c195 h
    refine vr_iconst 0 d_RM_test_202 (by decide) ?_
    exact mv_drop (q_RM_test_203 H h_RM_test h_RM_cond h_RM_sum hF hLw _ _ _ _ _ _ _ h) (And.intro rfl (And.intro rfl (And.intro rfl (And.intro rfl (And.intro rfl trivial)))))
  · replace h := l_ifn c195 h
    refine vr_iconst 1 d_RM_test_198 (by decide) ?_
    refine vr_goto (tgt := 203) d_RM_test_199 (by decide) ?_
    exact mv_drop (q_RM_test_203 H h_RM_test h_RM_cond h_RM_sum hF hLw _ _ _ _ _ _ _ h) (And.intro rfl (And.intro rfl (And.intro rfl (And.intro rfl (And.intro rfl trivial)))))

def f_RM_test (N : Nat) (p_RM_test : Int32 → rm_S → Option (Int32 × rm_S)) (p_RM_cond : Int32 → rm_S → Option (Int32 × rm_S)) (p_RM_sum : Int32 → rm_S → Option (Int32 × rm_S)) (x1 : Int32) (S : rm_S) : Option (Int32 × rm_S) := calI (f_RM_look N S) fun v1 S1 => if v1 = 33 then (chk (ib (S1.1 12) 8002) <| calI (f_RM_draft N 26 ((S1.2 5 (Int32.toNatClampNeg (S1.1 12)))) 0 S1) fun v10 S10 => calV (f_RM_take N 33 S10) fun S11 => calV (f_RM_deep N ((x1 + 1)) S11) fun S12 => if (S12.1 13) = 0 then (calI (p_RM_test ((x1 + 1)) S12) fun v13 S13 => calV (f_RM_join N v10 v13 S13) fun S14 => some (v10, S14)) else (calV (f_RM_join N v10 (-1) S12) fun S15 => some (v10, S15))) else (calI (f_RM_look N S1) fun v2 S2 => if v2 = 91 then (calV (f_RM_take N 91 S2) fun S5 => if (S5.1 13) = 0 then (calI (p_RM_cond ((x1 + 1)) S5) fun v6 S6 => calV (f_RM_take N 93 S6) fun S7 => some (v6, S7)) else (calV (f_RM_take N 93 S5) fun S8 => some ((-1), S8))) else (calI (p_RM_sum ((x1 + 1)) S2) fun v3 S3 => calI (f_RM_look N S3) fun v4 S4 => if v4 = 60 then (k_RM_test_190 N p_RM_test p_RM_cond p_RM_sum x1 v3 v4 27 S4) else (if v4 = 256 then (k_RM_test_190 N p_RM_test p_RM_cond p_RM_sum x1 v3 v4 28 S4) else (if v4 = 62 then (k_RM_test_190 N p_RM_test p_RM_cond p_RM_sum x1 v3 v4 29 S4) else (if v4 = 257 then (k_RM_test_190 N p_RM_test p_RM_cond p_RM_sum x1 v3 v4 30 S4) else (if v4 = 258 then (k_RM_test_190 N p_RM_test p_RM_cond p_RM_sum x1 v3 v4 31 S4) else (if v4 = 259 then (k_RM_test_190 N p_RM_test p_RM_cond p_RM_sum x1 v3 v4 32 S4) else (k_RM_test_190 N p_RM_test p_RM_cond p_RM_sum x1 v3 v4 0 S4))))))))
theorem c_RM_test {g : mv_G} {σ : mh_H} {m : Nat} {N : Nat} {p_RM_test : Int32 → rm_S → Option (Int32 × rm_S)} {p_RM_cond : Int32 → rm_S → Option (Int32 × rm_S)} {p_RM_sum : Int32 → rm_S → Option (Int32 × rm_S)} (H : rm_H g σ m) {F Lw : Nat} (h_RM_test : rkI1 g σ m M_RM_test F Lw p_RM_test) (h_RM_cond : rkI1 g σ m M_RM_cond F Lw p_RM_cond) (h_RM_sum : rkI1 g σ m M_RM_sum F Lw p_RM_sum) (hF : 40 ≤ F) (hLw : 1000 ≤ Lw) : rkI1 g σ m M_RM_test (F + 1) (Lw + 60) (f_RM_test N p_RM_test p_RM_cond p_RM_sum) := by
  intro x1 S r h
  refine mv_entry (L := [some (.ref m), some (.int x1), none, none, none, none]) rfl rfl (Nat.le_of_ble_eq_true rfl) rfl ?_
  unfold f_RM_test at h
  refine vr_aload_n d_RM_test_0 rfl rfl ?_
  obtain ⟨v1, S1, ev1, h⟩ := l_calI h
  refine rm_callI [] H d_RM_test_1 C_RM_162 (c_RM_look H ev1) rfl rfl rfl (Nat.le_of_ble_eq_true rfl) (by omega) (by show 8 + (1 + 11) + 0 ≤ Lw + 60; omega) ?_
  refine vr_bipush 33 d_RM_test_4 (by decide) ?_
  refine vr_icmp_ne (tgt := 64) d_RM_test_6 (by decide) (fun c6 => ?_) (fun c6 => ?_)
  · replace h := l_ifn c6 h
    refine vr_aload_n d_RM_test_64 rfl rfl ?_
    obtain ⟨v2, S2, ev2, h⟩ := l_calI h
    refine rm_callI [] H d_RM_test_65 C_RM_162 (c_RM_look H ev2) rfl rfl rfl (Nat.le_of_ble_eq_true rfl) (by omega) (by show 8 + (1 + 11) + 0 ≤ Lw + 60; omega) ?_
    refine vr_bipush 91 d_RM_test_68 (by decide) ?_
    refine vr_icmp_ne (tgt := 106) d_RM_test_70 (by decide) (fun c70 => ?_) (fun c70 => ?_)
    · replace h := l_ifn c70 h
      refine vr_aload_n d_RM_test_106 rfl rfl ?_
      refine vr_iload_n d_RM_test_107 rfl rfl ?_
      refine vr_iconst 1 d_RM_test_108 (by decide) ?_
      refine vr_iadd d_RM_test_109 ?_
      obtain ⟨v3, S3, ev3, h⟩ := l_calI h
      refine rm_callI [.int (x1 + 1)] H d_RM_test_110 C_RM_199 (h_RM_sum _ _ _ ev3) rfl rfl rfl (Nat.le_of_ble_eq_true rfl) (by omega) (by show 8 + (5 + 11) + Lw ≤ Lw + 60; omega) ?_
      refine vr_istore_n (L' := [some (.ref m), some (.int x1), some (.int v3), none, none, none]) d_RM_test_113 rfl (by decide) rfl ?_
      refine vr_aload_n d_RM_test_114 rfl rfl ?_
      obtain ⟨v4, S4, ev4, h⟩ := l_calI h
      refine rm_callI [] H d_RM_test_115 C_RM_162 (c_RM_look H ev4) rfl rfl rfl (Nat.le_of_ble_eq_true rfl) (by omega) (by show 8 + (1 + 11) + 0 ≤ Lw + 60; omega) ?_
      refine vr_istore_n (L' := [some (.ref m), some (.int x1), some (.int v3), some (.int v4), none, none]) d_RM_test_118 rfl (by decide) rfl ?_
      refine vr_iload_n d_RM_test_119 rfl rfl ?_
      refine vr_bipush 60 d_RM_test_120 (by decide) ?_
      refine vr_icmp_ne (tgt := 130) d_RM_test_122 (by decide) (fun c122 => ?_) (fun c122 => ?_)
      · replace h := l_ifn c122 h
        refine vr_iload_n d_RM_test_130 rfl rfl ?_
        refine vr_sipush 256 d_RM_test_131 (by decide) ?_
        refine vr_icmp_ne (tgt := 142) d_RM_test_134 (by decide) (fun c134 => ?_) (fun c134 => ?_)
        · replace h := l_ifn c134 h
          refine vr_iload_n d_RM_test_142 rfl rfl ?_
          refine vr_bipush 62 d_RM_test_143 (by decide) ?_
          refine vr_icmp_ne (tgt := 153) d_RM_test_145 (by decide) (fun c145 => ?_) (fun c145 => ?_)
          · replace h := l_ifn c145 h
            refine vr_iload_n d_RM_test_153 rfl rfl ?_
            refine vr_sipush 257 d_RM_test_154 (by decide) ?_
            refine vr_icmp_ne (tgt := 165) d_RM_test_157 (by decide) (fun c157 => ?_) (fun c157 => ?_)
            · replace h := l_ifn c157 h
              refine vr_iload_n d_RM_test_165 rfl rfl ?_
              refine vr_sipush 258 d_RM_test_166 (by decide) ?_
              refine vr_icmp_ne (tgt := 177) d_RM_test_169 (by decide) (fun c169 => ?_) (fun c169 => ?_)
              · replace h := l_ifn c169 h
                refine vr_iload_n d_RM_test_177 rfl rfl ?_
                refine vr_sipush 259 d_RM_test_178 (by decide) ?_
                refine vr_icmp_ne (tgt := 189) d_RM_test_181 (by decide) (fun c181 => ?_) (fun c181 => ?_)
                · replace h := l_ifn c181 h
                  refine vr_iconst 0 d_RM_test_189 (by decide) ?_
                  exact mv_drop (q_RM_test_190 H h_RM_test h_RM_cond h_RM_sum hF hLw _ _ _ _ _ _ h) (And.intro rfl (And.intro rfl (And.intro rfl (And.intro rfl trivial))))
                · replace h := l_ifp c181 h
                  refine vr_bipush 32 d_RM_test_184 (by decide) ?_
                  refine vr_goto (tgt := 190) d_RM_test_186 (by decide) ?_
                  exact mv_drop (q_RM_test_190 H h_RM_test h_RM_cond h_RM_sum hF hLw _ _ _ _ _ _ h) (And.intro rfl (And.intro rfl (And.intro rfl (And.intro rfl trivial))))
              · replace h := l_ifp c169 h
                refine vr_bipush 31 d_RM_test_172 (by decide) ?_
                refine vr_goto (tgt := 190) d_RM_test_174 (by decide) ?_
                exact mv_drop (q_RM_test_190 H h_RM_test h_RM_cond h_RM_sum hF hLw _ _ _ _ _ _ h) (And.intro rfl (And.intro rfl (And.intro rfl (And.intro rfl trivial))))
            · replace h := l_ifp c157 h
              refine vr_bipush 30 d_RM_test_160 (by decide) ?_
              refine vr_goto (tgt := 190) d_RM_test_162 (by decide) ?_
              exact mv_drop (q_RM_test_190 H h_RM_test h_RM_cond h_RM_sum hF hLw _ _ _ _ _ _ h) (And.intro rfl (And.intro rfl (And.intro rfl (And.intro rfl trivial))))
          · replace h := l_ifp c145 h
            refine vr_bipush 29 d_RM_test_148 (by decide) ?_
            refine vr_goto (tgt := 190) d_RM_test_150 (by decide) ?_
            exact mv_drop (q_RM_test_190 H h_RM_test h_RM_cond h_RM_sum hF hLw _ _ _ _ _ _ h) (And.intro rfl (And.intro rfl (And.intro rfl (And.intro rfl trivial))))
        · replace h := l_ifp c134 h
          refine vr_bipush 28 d_RM_test_137 (by decide) ?_
          refine vr_goto (tgt := 190) d_RM_test_139 (by decide) ?_
          exact mv_drop (q_RM_test_190 H h_RM_test h_RM_cond h_RM_sum hF hLw _ _ _ _ _ _ h) (And.intro rfl (And.intro rfl (And.intro rfl (And.intro rfl trivial))))
      · replace h := l_ifp c122 h
        refine vr_bipush 27 d_RM_test_125 (by decide) ?_
        refine vr_goto (tgt := 190) d_RM_test_127 (by decide) ?_
        exact mv_drop (q_RM_test_190 H h_RM_test h_RM_cond h_RM_sum hF hLw _ _ _ _ _ _ h) (And.intro rfl (And.intro rfl (And.intro rfl (And.intro rfl trivial))))
    · replace h := l_ifp c70 h
      refine vr_aload_n d_RM_test_73 rfl rfl ?_
      refine vr_bipush 91 d_RM_test_74 (by decide) ?_
      obtain ⟨S5, eS5, h⟩ := l_calV h
      refine rm_callU [.int 91] H d_RM_test_76 C_RM_176 (c_RM_take H eS5) rfl rfl rfl (Nat.le_of_ble_eq_true rfl) (by omega) (by show 8 + (2 + 11) + 21 ≤ Lw + 60; omega) ?_
      refine vr_aload_n d_RM_test_79 rfl rfl ?_
      refine rm_getI H d_RM_test_80 F_RM_155 rfl ?_
      refine vr_if_eq (tgt := 90) d_RM_test_83 (by decide) (fun c83 => ?_) (fun c83 => ?_)
      · replace h := l_ifp c83 h
        refine vr_aload_n d_RM_test_90 rfl rfl ?_
        refine vr_iload_n d_RM_test_91 rfl rfl ?_
        refine vr_iconst 1 d_RM_test_92 (by decide) ?_
        refine vr_iadd d_RM_test_93 ?_
        obtain ⟨v6, S6, ev6, h⟩ := l_calI h
        refine rm_callI [.int (x1 + 1)] H d_RM_test_94 C_RM_208 (h_RM_cond _ _ _ ev6) rfl rfl rfl (Nat.le_of_ble_eq_true rfl) (by omega) (by show 8 + (2 + 11) + Lw ≤ Lw + 60; omega) ?_
        refine vr_istore_n (L' := [some (.ref m), some (.int x1), some (.int v6), none, none, none]) d_RM_test_97 rfl (by decide) rfl ?_
        refine vr_aload_n d_RM_test_98 rfl rfl ?_
        refine vr_bipush 93 d_RM_test_99 (by decide) ?_
        obtain ⟨S7, eS7, h⟩ := l_calV h
        refine rm_callU [.int 93] H d_RM_test_101 C_RM_176 (c_RM_take H eS7) rfl rfl rfl (Nat.le_of_ble_eq_true rfl) (by omega) (by show 8 + (2 + 11) + 21 ≤ Lw + 60; omega) ?_
        refine vr_iload_n d_RM_test_104 rfl rfl ?_
        cases h
        exact vr_iret d_RM_test_105 rfl rfl ⟨rfl, rfl⟩
      · replace h := l_ifn c83 h
        refine vr_iconst (-1) d_RM_test_86 (by decide) ?_
        refine vr_goto (tgt := 97) d_RM_test_87 (by decide) ?_
        refine vr_istore_n (L' := [some (.ref m), some (.int x1), some (.int (-1)), none, none, none]) d_RM_test_97 rfl (by decide) rfl ?_
        refine vr_aload_n d_RM_test_98 rfl rfl ?_
        refine vr_bipush 93 d_RM_test_99 (by decide) ?_
        obtain ⟨S8, eS8, h⟩ := l_calV h
        refine rm_callU [.int 93] H d_RM_test_101 C_RM_176 (c_RM_take H eS8) rfl rfl rfl (Nat.le_of_ble_eq_true rfl) (by omega) (by show 8 + (2 + 11) + 21 ≤ Lw + 60; omega) ?_
        refine vr_iload_n d_RM_test_104 rfl rfl ?_
        cases h
        exact vr_iret d_RM_test_105 rfl rfl ⟨rfl, rfl⟩
  · replace h := l_ifp c6 h
    refine vr_aload_n d_RM_test_9 rfl rfl ?_
    refine vr_bipush 26 d_RM_test_10 (by decide) ?_
    refine vr_aload_n d_RM_test_12 rfl rfl ?_
    refine rm_getR (o := 5) H d_RM_test_13 F_RM_22 rfl (by decide) ?_
    refine vr_aload_n d_RM_test_16 rfl rfl ?_
    refine rm_getI H d_RM_test_17 F_RM_159 rfl ?_
    have q9 := (l_chk h).1
    replace h := (l_chk h).2
    refine rm_ald (o := 5) H (by decide) (by decide) d_RM_test_20 (ib_in q9) ?_
    refine vr_iconst 0 d_RM_test_21 (by decide) ?_
    obtain ⟨v10, S10, ev10, h⟩ := l_calI h
    refine rm_callI [.int 26, .int (S1.2 5 (Int32.toNatClampNeg (S1.1 12))), .int 0] H d_RM_test_22 C_RM_172 (c_RM_draft H ev10) rfl rfl rfl (Nat.le_of_ble_eq_true rfl) (by omega) (by show 8 + (4 + 11) + 0 ≤ Lw + 60; omega) ?_
    refine vr_istore_n (L' := [some (.ref m), some (.int x1), some (.int v10), none, none, none]) d_RM_test_25 rfl (by decide) rfl ?_
    refine vr_aload_n d_RM_test_26 rfl rfl ?_
    refine vr_bipush 33 d_RM_test_27 (by decide) ?_
    obtain ⟨S11, eS11, h⟩ := l_calV h
    refine rm_callU [.int 33] H d_RM_test_29 C_RM_176 (c_RM_take H eS11) rfl rfl rfl (Nat.le_of_ble_eq_true rfl) (by omega) (by show 8 + (2 + 11) + 21 ≤ Lw + 60; omega) ?_
    refine vr_aload_n d_RM_test_32 rfl rfl ?_
    refine vr_iload_n d_RM_test_33 rfl rfl ?_
    refine vr_iconst 1 d_RM_test_34 (by decide) ?_
    refine vr_iadd d_RM_test_35 ?_
    obtain ⟨S12, eS12, h⟩ := l_calV h
    refine rm_callU [.int (x1 + 1)] H d_RM_test_36 C_RM_179 (c_RM_deep H eS12) rfl rfl rfl (Nat.le_of_ble_eq_true rfl) (by omega) (by show 8 + (2 + 11) + 21 ≤ Lw + 60; omega) ?_
    refine vr_aload_n d_RM_test_39 rfl rfl ?_
    refine vr_iload_n d_RM_test_40 rfl rfl ?_
    refine vr_aload_n d_RM_test_41 rfl rfl ?_
    refine rm_getI H d_RM_test_42 F_RM_155 rfl ?_
    refine vr_if_eq (tgt := 52) d_RM_test_45 (by decide) (fun c45 => ?_) (fun c45 => ?_)
    · replace h := l_ifp c45 h
      refine vr_aload_n d_RM_test_52 rfl rfl ?_
      refine vr_iload_n d_RM_test_53 rfl rfl ?_
      refine vr_iconst 1 d_RM_test_54 (by decide) ?_
      refine vr_iadd d_RM_test_55 ?_
      obtain ⟨v13, S13, ev13, h⟩ := l_calI h
      refine rm_callI [.int (x1 + 1)] H d_RM_test_56 C_RM_205 (h_RM_test _ _ _ ev13) rfl rfl rfl (Nat.le_of_ble_eq_true rfl) (by omega) (by show 8 + (6 + 11) + Lw ≤ Lw + 60; omega) ?_
      obtain ⟨S14, eS14, h⟩ := l_calV h
      refine rm_callU [.int v10, .int v13] H d_RM_test_59 C_RM_185 (c_RM_join H eS14) rfl rfl rfl (Nat.le_of_ble_eq_true rfl) (by omega) (by show 8 + (3 + 11) + 0 ≤ Lw + 60; omega) ?_
      refine vr_iload_n d_RM_test_62 rfl rfl ?_
      cases h
      exact vr_iret d_RM_test_63 rfl rfl ⟨rfl, rfl⟩
    · replace h := l_ifn c45 h
      refine vr_iconst (-1) d_RM_test_48 (by decide) ?_
      refine vr_goto (tgt := 59) d_RM_test_49 (by decide) ?_
      obtain ⟨S15, eS15, h⟩ := l_calV h
      refine rm_callU [.int v10, .int (-1)] H d_RM_test_59 C_RM_185 (c_RM_join H eS15) rfl rfl rfl (Nat.le_of_ble_eq_true rfl) (by omega) (by show 8 + (3 + 11) + 0 ≤ Lw + 60; omega) ?_
      refine vr_iload_n d_RM_test_62 rfl rfl ?_
      cases h
      exact vr_iret d_RM_test_63 rfl rfl ⟨rfl, rfl⟩

def k_RM_block_27 (N : Nat) (p_RM_statement : Int32 → rm_S → Option (Int32 × rm_S)) : Nat → Int32 → Int32 → rm_S → Option (Int32 × rm_S)
  | 0, _, _, _ => none
  | n + 1, y1, y2, S => if (S.1 13) = 0 then (calI (f_RM_look N S) fun v6 S6 => if v6 = 125 then (calV (f_RM_take N 125 S6) fun S7 => some (y2, S7)) else (calI (p_RM_statement y1 S6) fun v8 S8 => calV (f_RM_join N y2 v8 S8) fun S9 => k_RM_block_27 N p_RM_statement n y1 y2 S9)) else (calV (f_RM_take N 125 S) fun S5 => some (y2, S5))
theorem q_RM_block_27 {g : mv_G} {σ : mh_H} {m : Nat} {N : Nat} {p_RM_statement : Int32 → rm_S → Option (Int32 × rm_S)} (H : rm_H g σ m) {F Lw : Nat} (h_RM_statement : rkI1 g σ m M_RM_statement F Lw p_RM_statement) (hF : 40 ≤ F) (hLw : 1000 ≤ Lw) : ∀ (n : Nat) (y1 : Int32) (y2 : Int32) (S : rm_S) (r : Int32 × rm_S), k_RM_block_27 N p_RM_statement n y1 y2 S = some r → mv_V g M_RM_block (F + 1) (Lw + 60) 0 0 27 [some (.ref m), some (.int y1), some (.int y2)] [] (rz σ m S) (fun oc τ => τ = rz σ m r.2 ∧ oc = .returned (some (.int r.1))) := by
  intro n
  induction n with
  | zero =>
    intro y1 y2 S r h
    exact absurd h (by simp [k_RM_block_27])
  | succ n ih =>
    intro y1 y2 S r h 
    unfold k_RM_block_27 at h
    refine vr_aload_n d_RM_block_27 rfl rfl ?_
    refine rm_getI H d_RM_block_28 F_RM_155 rfl ?_
    refine vr_if_ne (tgt := 56) d_RM_block_31 (by decide) (fun c31 => ?_) (fun c31 => ?_)
    · replace h := l_ifn c31 h
      refine vr_aload_n d_RM_block_56 rfl rfl ?_
      refine vr_bipush 125 d_RM_block_57 (by decide) ?_
      obtain ⟨S5, eS5, h⟩ := l_calV h
      refine rm_callU [.int 125] H d_RM_block_59 C_RM_176 (c_RM_take H eS5) rfl rfl rfl (Nat.le_of_ble_eq_true rfl) (by omega) (by show 8 + (2 + 11) + 21 ≤ Lw + 60; omega) ?_
      refine vr_iload_n d_RM_block_62 rfl rfl ?_
      cases h
      exact vr_iret d_RM_block_63 rfl rfl ⟨rfl, rfl⟩
    · replace h := l_ifp c31 h
      refine vr_aload_n d_RM_block_34 rfl rfl ?_
      obtain ⟨v6, S6, ev6, h⟩ := l_calI h
      refine rm_callI [] H d_RM_block_35 C_RM_162 (c_RM_look H ev6) rfl rfl rfl (Nat.le_of_ble_eq_true rfl) (by omega) (by show 8 + (1 + 11) + 0 ≤ Lw + 60; omega) ?_
      refine vr_bipush 125 d_RM_block_38 (by decide) ?_
      refine vr_icmp_eq (tgt := 56) d_RM_block_40 (by decide) (fun c40 => ?_) (fun c40 => ?_)
      · replace h := l_ifp c40 h
        refine vr_aload_n d_RM_block_56 rfl rfl ?_
        refine vr_bipush 125 d_RM_block_57 (by decide) ?_
        obtain ⟨S7, eS7, h⟩ := l_calV h
        refine rm_callU [.int 125] H d_RM_block_59 C_RM_176 (c_RM_take H eS7) rfl rfl rfl (Nat.le_of_ble_eq_true rfl) (by omega) (by show 8 + (2 + 11) + 21 ≤ Lw + 60; omega) ?_
        refine vr_iload_n d_RM_block_62 rfl rfl ?_
        cases h
        exact vr_iret d_RM_block_63 rfl rfl ⟨rfl, rfl⟩
      · replace h := l_ifn c40 h
        refine vr_aload_n d_RM_block_43 rfl rfl ?_
        refine vr_iload_n d_RM_block_44 rfl rfl ?_
        refine vr_aload_n d_RM_block_45 rfl rfl ?_
        refine vr_iload_n d_RM_block_46 rfl rfl ?_
        obtain ⟨v8, S8, ev8, h⟩ := l_calI h
        refine rm_callI [.int y1] H d_RM_block_47 C_RM_211 (h_RM_statement _ _ _ ev8) rfl rfl rfl (Nat.le_of_ble_eq_true rfl) (by omega) (by show 8 + (6 + 11) + Lw ≤ Lw + 60; omega) ?_
        obtain ⟨S9, eS9, h⟩ := l_calV h
        refine rm_callU [.int y2, .int v8] H d_RM_block_50 C_RM_185 (c_RM_join H eS9) rfl rfl rfl (Nat.le_of_ble_eq_true rfl) (by omega) (by show 8 + (3 + 11) + 0 ≤ Lw + 60; omega) ?_
        refine vr_goto (tgt := 27) d_RM_block_53 (by decide) ?_
        exact mv_drop (ih _ _ _ _ h) (And.intro rfl (And.intro rfl (And.intro rfl trivial)))

def f_RM_block (N : Nat) (p_RM_statement : Int32 → rm_S → Option (Int32 × rm_S)) (x1 : Int32) (S : rm_S) : Option (Int32 × rm_S) := calV (f_RM_deep N x1 S) fun S1 => chk (ib (S1.1 12) 8002) <| calI (f_RM_draft N 2 ((S1.2 5 (Int32.toNatClampNeg (S1.1 12)))) 0 S1) fun v3 S3 => calV (f_RM_take N 123 S3) fun S4 => k_RM_block_27 N p_RM_statement N x1 v3 S4
theorem c_RM_block {g : mv_G} {σ : mh_H} {m : Nat} {N : Nat} {p_RM_statement : Int32 → rm_S → Option (Int32 × rm_S)} (H : rm_H g σ m) {F Lw : Nat} (h_RM_statement : rkI1 g σ m M_RM_statement F Lw p_RM_statement) (hF : 40 ≤ F) (hLw : 1000 ≤ Lw) : rkI1 g σ m M_RM_block (F + 1) (Lw + 60) (f_RM_block N p_RM_statement) := by
  intro x1 S r h
  refine mv_entry (L := [some (.ref m), some (.int x1), none]) rfl rfl (Nat.le_of_ble_eq_true rfl) rfl ?_
  unfold f_RM_block at h
  refine vr_aload_n d_RM_block_0 rfl rfl ?_
  refine vr_iload_n d_RM_block_1 rfl rfl ?_
  obtain ⟨S1, eS1, h⟩ := l_calV h
  refine rm_callU [.int x1] H d_RM_block_2 C_RM_179 (c_RM_deep H eS1) rfl rfl rfl (Nat.le_of_ble_eq_true rfl) (by omega) (by show 8 + (2 + 11) + 21 ≤ Lw + 60; omega) ?_
  refine vr_aload_n d_RM_block_5 rfl rfl ?_
  refine vr_iconst 2 d_RM_block_6 (by decide) ?_
  refine vr_aload_n d_RM_block_7 rfl rfl ?_
  refine rm_getR (o := 5) H d_RM_block_8 F_RM_22 rfl (by decide) ?_
  refine vr_aload_n d_RM_block_11 rfl rfl ?_
  refine rm_getI H d_RM_block_12 F_RM_159 rfl ?_
  have q2 := (l_chk h).1
  replace h := (l_chk h).2
  refine rm_ald (o := 5) H (by decide) (by decide) d_RM_block_15 (ib_in q2) ?_
  refine vr_iconst 0 d_RM_block_16 (by decide) ?_
  obtain ⟨v3, S3, ev3, h⟩ := l_calI h
  refine rm_callI [.int 2, .int (S1.2 5 (Int32.toNatClampNeg (S1.1 12))), .int 0] H d_RM_block_17 C_RM_172 (c_RM_draft H ev3) rfl rfl rfl (Nat.le_of_ble_eq_true rfl) (by omega) (by show 8 + (4 + 11) + 0 ≤ Lw + 60; omega) ?_
  refine vr_istore_n (L' := [some (.ref m), some (.int x1), some (.int v3)]) d_RM_block_20 rfl (by decide) rfl ?_
  refine vr_aload_n d_RM_block_21 rfl rfl ?_
  refine vr_bipush 123 d_RM_block_22 (by decide) ?_
  obtain ⟨S4, eS4, h⟩ := l_calV h
  refine rm_callU [.int 123] H d_RM_block_24 C_RM_176 (c_RM_take H eS4) rfl rfl rfl (Nat.le_of_ble_eq_true rfl) (by omega) (by show 8 + (2 + 11) + 21 ≤ Lw + 60; omega) ?_
  exact mv_drop (q_RM_block_27 H h_RM_statement hF hLw N _ _ _ _ h) (And.intro rfl (And.intro rfl (And.intro rfl trivial)))

def k_RM_sums_38 (N : Nat) (p_RM_sum : Int32 → rm_S → Option (Int32 × rm_S)) : Nat → Int32 → Int32 → rm_S → Option (rm_S)
  | 0, _, _, _ => none
  | n + 1, y1, y2, S => calI (f_RM_look N S) fun v7 S7 => if v7 = 44 then (calV (f_RM_take N 44 S7) fun S9 => if (S9.1 13) = 0 then (calI (p_RM_sum ((y2 + 1)) S9) fun v10 S10 => calV (f_RM_join N y1 v10 S10) fun S11 => k_RM_sums_38 N p_RM_sum n y1 y2 S11) else (calV (f_RM_join N y1 (-1) S9) fun S12 => k_RM_sums_38 N p_RM_sum n y1 y2 S12)) else (calV (f_RM_take N 41 S7) fun S8 => some (S8))
theorem q_RM_sums_38 {g : mv_G} {σ : mh_H} {m : Nat} {N : Nat} {p_RM_sum : Int32 → rm_S → Option (Int32 × rm_S)} (H : rm_H g σ m) {F Lw : Nat} (h_RM_sum : rkI1 g σ m M_RM_sum F Lw p_RM_sum) (hF : 40 ≤ F) (hLw : 1000 ≤ Lw) : ∀ (n : Nat) (y1 : Int32) (y2 : Int32) (S : rm_S) (r : rm_S), k_RM_sums_38 N p_RM_sum n y1 y2 S = some r → mv_V g M_RM_sums (F + 1) (Lw + 60) 0 0 38 [some (.ref m), some (.int y1), some (.int y2)] [] (rz σ m S) (fun oc τ => τ = rz σ m r ∧ oc = .returned none) := by
  intro n
  induction n with
  | zero =>
    intro y1 y2 S r h
    exact absurd h (by simp [k_RM_sums_38])
  | succ n ih =>
    intro y1 y2 S r h 
    unfold k_RM_sums_38 at h
    refine vr_aload_n d_RM_sums_38 rfl rfl ?_
    obtain ⟨v7, S7, ev7, h⟩ := l_calI h
    refine rm_callI [] H d_RM_sums_39 C_RM_162 (c_RM_look H ev7) rfl rfl rfl (Nat.le_of_ble_eq_true rfl) (by omega) (by show 8 + (1 + 11) + 0 ≤ Lw + 60; omega) ?_
    refine vr_bipush 44 d_RM_sums_42 (by decide) ?_
    refine vr_icmp_ne (tgt := 79) d_RM_sums_44 (by decide) (fun c44 => ?_) (fun c44 => ?_)
    · replace h := l_ifn c44 h
      refine vr_aload_n d_RM_sums_79 rfl rfl ?_
      refine vr_bipush 41 d_RM_sums_80 (by decide) ?_
      obtain ⟨S8, eS8, h⟩ := l_calV h
      refine rm_callU [.int 41] H d_RM_sums_82 C_RM_176 (c_RM_take H eS8) rfl rfl rfl (Nat.le_of_ble_eq_true rfl) (by omega) (by show 8 + (2 + 11) + 21 ≤ Lw + 60; omega) ?_
      cases h
      exact vr_vret d_RM_sums_85 rfl ⟨rfl, rfl⟩
    · replace h := l_ifp c44 h
      refine vr_aload_n d_RM_sums_47 rfl rfl ?_
      refine vr_bipush 44 d_RM_sums_48 (by decide) ?_
      obtain ⟨S9, eS9, h⟩ := l_calV h
      refine rm_callU [.int 44] H d_RM_sums_50 C_RM_176 (c_RM_take H eS9) rfl rfl rfl (Nat.le_of_ble_eq_true rfl) (by omega) (by show 8 + (2 + 11) + 21 ≤ Lw + 60; omega) ?_
      refine vr_aload_n d_RM_sums_53 rfl rfl ?_
      refine vr_iload_n d_RM_sums_54 rfl rfl ?_
      refine vr_aload_n d_RM_sums_55 rfl rfl ?_
      refine rm_getI H d_RM_sums_56 F_RM_155 rfl ?_
      refine vr_if_eq (tgt := 66) d_RM_sums_59 (by decide) (fun c59 => ?_) (fun c59 => ?_)
      · replace h := l_ifp c59 h
        refine vr_aload_n d_RM_sums_66 rfl rfl ?_
        refine vr_iload_n d_RM_sums_67 rfl rfl ?_
        refine vr_iconst 1 d_RM_sums_68 (by decide) ?_
        refine vr_iadd d_RM_sums_69 ?_
        obtain ⟨v10, S10, ev10, h⟩ := l_calI h
        refine rm_callI [.int (y2 + 1)] H d_RM_sums_70 C_RM_199 (h_RM_sum _ _ _ ev10) rfl rfl rfl (Nat.le_of_ble_eq_true rfl) (by omega) (by show 8 + (5 + 11) + Lw ≤ Lw + 60; omega) ?_
        obtain ⟨S11, eS11, h⟩ := l_calV h
        refine rm_callU [.int y1, .int v10] H d_RM_sums_73 C_RM_185 (c_RM_join H eS11) rfl rfl rfl (Nat.le_of_ble_eq_true rfl) (by omega) (by show 8 + (3 + 11) + 0 ≤ Lw + 60; omega) ?_
        refine vr_goto (tgt := 38) d_RM_sums_76 (by decide) ?_
        exact mv_drop (ih _ _ _ _ h) (And.intro rfl (And.intro rfl (And.intro rfl trivial)))
      · replace h := l_ifn c59 h
        refine vr_iconst (-1) d_RM_sums_62 (by decide) ?_
        refine vr_goto (tgt := 73) d_RM_sums_63 (by decide) ?_
        obtain ⟨S12, eS12, h⟩ := l_calV h
        refine rm_callU [.int y1, .int (-1)] H d_RM_sums_73 C_RM_185 (c_RM_join H eS12) rfl rfl rfl (Nat.le_of_ble_eq_true rfl) (by omega) (by show 8 + (3 + 11) + 0 ≤ Lw + 60; omega) ?_
        refine vr_goto (tgt := 38) d_RM_sums_76 (by decide) ?_
        exact mv_drop (ih _ _ _ _ h) (And.intro rfl (And.intro rfl (And.intro rfl trivial)))

def f_RM_sums (N : Nat) (p_RM_sum : Int32 → rm_S → Option (Int32 × rm_S)) (x1 : Int32) (x2 : Int32) (S : rm_S) : Option (rm_S) := calV (f_RM_take N 40 S) fun S1 => calI (f_RM_look N S1) fun v2 S2 => if v2 = 41 then (calV (f_RM_take N 41 S2) fun S3 => some (S3)) else (if (S2.1 13) = 0 then (calI (p_RM_sum ((x2 + 1)) S2) fun v4 S4 => calV (f_RM_join N x1 v4 S4) fun S5 => k_RM_sums_38 N p_RM_sum N x1 x2 S5) else (calV (f_RM_join N x1 (-1) S2) fun S6 => k_RM_sums_38 N p_RM_sum N x1 x2 S6))
theorem c_RM_sums {g : mv_G} {σ : mh_H} {m : Nat} {N : Nat} {p_RM_sum : Int32 → rm_S → Option (Int32 × rm_S)} (H : rm_H g σ m) {F Lw : Nat} (h_RM_sum : rkI1 g σ m M_RM_sum F Lw p_RM_sum) (hF : 40 ≤ F) (hLw : 1000 ≤ Lw) : rkV2 g σ m M_RM_sums (F + 1) (Lw + 60) (f_RM_sums N p_RM_sum) := by
  intro x1 x2 S r h
  refine mv_entry (L := [some (.ref m), some (.int x1), some (.int x2)]) rfl rfl (Nat.le_of_ble_eq_true rfl) rfl ?_
  unfold f_RM_sums at h
  refine vr_aload_n d_RM_sums_0 rfl rfl ?_
  refine vr_bipush 40 d_RM_sums_1 (by decide) ?_
  obtain ⟨S1, eS1, h⟩ := l_calV h
  refine rm_callU [.int 40] H d_RM_sums_3 C_RM_176 (c_RM_take H eS1) rfl rfl rfl (Nat.le_of_ble_eq_true rfl) (by omega) (by show 8 + (2 + 11) + 21 ≤ Lw + 60; omega) ?_
  refine vr_aload_n d_RM_sums_6 rfl rfl ?_
  obtain ⟨v2, S2, ev2, h⟩ := l_calI h
  refine rm_callI [] H d_RM_sums_7 C_RM_162 (c_RM_look H ev2) rfl rfl rfl (Nat.le_of_ble_eq_true rfl) (by omega) (by show 8 + (1 + 11) + 0 ≤ Lw + 60; omega) ?_
  refine vr_bipush 41 d_RM_sums_10 (by decide) ?_
  refine vr_icmp_eq (tgt := 79) d_RM_sums_12 (by decide) (fun c12 => ?_) (fun c12 => ?_)
  · replace h := l_ifp c12 h
    refine vr_aload_n d_RM_sums_79 rfl rfl ?_
    refine vr_bipush 41 d_RM_sums_80 (by decide) ?_
    obtain ⟨S3, eS3, h⟩ := l_calV h
    refine rm_callU [.int 41] H d_RM_sums_82 C_RM_176 (c_RM_take H eS3) rfl rfl rfl (Nat.le_of_ble_eq_true rfl) (by omega) (by show 8 + (2 + 11) + 21 ≤ Lw + 60; omega) ?_
    cases h
    exact vr_vret d_RM_sums_85 rfl ⟨rfl, rfl⟩
  · replace h := l_ifn c12 h
    refine vr_aload_n d_RM_sums_15 rfl rfl ?_
    refine vr_iload_n d_RM_sums_16 rfl rfl ?_
    refine vr_aload_n d_RM_sums_17 rfl rfl ?_
    refine rm_getI H d_RM_sums_18 F_RM_155 rfl ?_
    refine vr_if_eq (tgt := 28) d_RM_sums_21 (by decide) (fun c21 => ?_) (fun c21 => ?_)
    · replace h := l_ifp c21 h
      refine vr_aload_n d_RM_sums_28 rfl rfl ?_
      refine vr_iload_n d_RM_sums_29 rfl rfl ?_
      refine vr_iconst 1 d_RM_sums_30 (by decide) ?_
      refine vr_iadd d_RM_sums_31 ?_
      obtain ⟨v4, S4, ev4, h⟩ := l_calI h
      refine rm_callI [.int (x2 + 1)] H d_RM_sums_32 C_RM_199 (h_RM_sum _ _ _ ev4) rfl rfl rfl (Nat.le_of_ble_eq_true rfl) (by omega) (by show 8 + (5 + 11) + Lw ≤ Lw + 60; omega) ?_
      obtain ⟨S5, eS5, h⟩ := l_calV h
      refine rm_callU [.int x1, .int v4] H d_RM_sums_35 C_RM_185 (c_RM_join H eS5) rfl rfl rfl (Nat.le_of_ble_eq_true rfl) (by omega) (by show 8 + (3 + 11) + 0 ≤ Lw + 60; omega) ?_
      exact mv_drop (q_RM_sums_38 H h_RM_sum hF hLw N _ _ _ _ h) (And.intro rfl (And.intro rfl (And.intro rfl trivial)))
    · replace h := l_ifn c21 h
      refine vr_iconst (-1) d_RM_sums_24 (by decide) ?_
      refine vr_goto (tgt := 35) d_RM_sums_25 (by decide) ?_
      obtain ⟨S6, eS6, h⟩ := l_calV h
      refine rm_callU [.int x1, .int (-1)] H d_RM_sums_35 C_RM_185 (c_RM_join H eS6) rfl rfl rfl (Nat.le_of_ble_eq_true rfl) (by omega) (by show 8 + (3 + 11) + 0 ≤ Lw + 60; omega) ?_
      exact mv_drop (q_RM_sums_38 H h_RM_sum hF hLw N _ _ _ _ h) (And.intro rfl (And.intro rfl (And.intro rfl trivial)))

def k_RM_statement_271 (N : Nat) (p_RM_sum : Int32 → rm_S → Option (Int32 × rm_S)) (p_RM_named : Int32 → Int32 → rm_S → Option (Int32 × rm_S)) (p_RM_cond : Int32 → rm_S → Option (Int32 × rm_S)) (p_RM_block : Int32 → rm_S → Option (Int32 × rm_S)) (y1 : Int32) (y3 : Int32) (y4 : Int32) (z0 : Int32) (z1 : Int32) (S : rm_S) : Option (Int32 × rm_S) := calV (f_RM_join N z1 z0 S) fun S44 => if y3 = 302 then (calI (f_RM_look N S44) fun v45 S45 => if v45 = 303 then (calV (f_RM_take N 303 S45) fun S46 => if (S46.1 13) = 0 then (calI (p_RM_block ((y1 + 1)) S46) fun v47 S47 => calV (f_RM_join N y4 v47 S47) fun S48 => some (y4, S48)) else (calV (f_RM_join N y4 (-1) S46) fun S49 => some (y4, S49))) else (some (y4, S45))) else (some (y4, S44))
theorem q_RM_statement_271 {g : mv_G} {σ : mh_H} {m : Nat} {N : Nat} {p_RM_sum : Int32 → rm_S → Option (Int32 × rm_S)} {p_RM_named : Int32 → Int32 → rm_S → Option (Int32 × rm_S)} {p_RM_cond : Int32 → rm_S → Option (Int32 × rm_S)} {p_RM_block : Int32 → rm_S → Option (Int32 × rm_S)} (H : rm_H g σ m) {F Lw : Nat} (h_RM_sum : rkI1 g σ m M_RM_sum F Lw p_RM_sum) (h_RM_named : rkI2 g σ m M_RM_named F Lw p_RM_named) (h_RM_cond : rkI1 g σ m M_RM_cond F Lw p_RM_cond) (h_RM_block : rkI1 g σ m M_RM_block F Lw p_RM_block) (hF : 40 ≤ F) (hLw : 1000 ≤ Lw) (y1 : Int32) (y3 : Int32) (y4 : Int32) (z0 : Int32) (z1 : Int32) (S : rm_S) (r : Int32 × rm_S) (h : k_RM_statement_271 N p_RM_sum p_RM_named p_RM_cond p_RM_block y1 y3 y4 z0 z1 S = some r) : mv_V g M_RM_statement (F + 1) (Lw + 60) 0 0 271 [some (.ref m), some (.int y1), none, some (.int y3), some (.int y4), none] [.int z0, .int z1, .ref m] (rz σ m S) (fun oc τ => τ = rz σ m r.2 ∧ oc = .returned (some (.int r.1))) := by
  unfold k_RM_statement_271 at h
  obtain ⟨S44, eS44, h⟩ := l_calV h
  refine rm_callU [.int z1, .int z0] H d_RM_statement_271 C_RM_185 (c_RM_join H eS44) rfl rfl rfl (Nat.le_of_ble_eq_true rfl) (by omega) (by show 8 + (3 + 11) + 0 ≤ Lw + 60; omega) ?_
  refine vr_iload_n d_RM_statement_274 rfl rfl ?_
  refine vr_sipush 302 d_RM_statement_275 (by decide) ?_
  refine vr_icmp_ne (tgt := 441) d_RM_statement_278 (by decide) (fun c278 => ?_) (fun c278 => ?_)
  · replace h := l_ifn c278 h
    refine vr_iload d_RM_statement_441 rfl ?_
    cases h
    exact vr_iret d_RM_statement_443 rfl rfl ⟨rfl, rfl⟩
  · replace h := l_ifp c278 h
    refine vr_aload_n d_RM_statement_281 rfl rfl ?_
    obtain ⟨v45, S45, ev45, h⟩ := l_calI h
    refine rm_callI [] H d_RM_statement_282 C_RM_162 (c_RM_look H ev45) rfl rfl rfl (Nat.le_of_ble_eq_true rfl) (by omega) (by show 8 + (1 + 11) + 0 ≤ Lw + 60; omega) ?_
    refine vr_sipush 303 d_RM_statement_285 (by decide) ?_
    refine vr_icmp_ne (tgt := 441) d_RM_statement_288 (by decide) (fun c288 => ?_) (fun c288 => ?_)
    · replace h := l_ifn c288 h
      refine vr_iload d_RM_statement_441 rfl ?_
      cases h
      exact vr_iret d_RM_statement_443 rfl rfl ⟨rfl, rfl⟩
    · replace h := l_ifp c288 h
      refine vr_aload_n d_RM_statement_291 rfl rfl ?_
      refine vr_sipush 303 d_RM_statement_292 (by decide) ?_
      obtain ⟨S46, eS46, h⟩ := l_calV h
      refine rm_callU [.int 303] H d_RM_statement_295 C_RM_176 (c_RM_take H eS46) rfl rfl rfl (Nat.le_of_ble_eq_true rfl) (by omega) (by show 8 + (2 + 11) + 21 ≤ Lw + 60; omega) ?_
      refine vr_aload_n d_RM_statement_298 rfl rfl ?_
      refine vr_iload d_RM_statement_299 rfl ?_
      refine vr_aload_n d_RM_statement_301 rfl rfl ?_
      refine rm_getI H d_RM_statement_302 F_RM_155 rfl ?_
      refine vr_if_eq (tgt := 312) d_RM_statement_305 (by decide) (fun c305 => ?_) (fun c305 => ?_)
      · replace h := l_ifp c305 h
        refine vr_aload_n d_RM_statement_312 rfl rfl ?_
        refine vr_iload_n d_RM_statement_313 rfl rfl ?_
        refine vr_iconst 1 d_RM_statement_314 (by decide) ?_
        refine vr_iadd d_RM_statement_315 ?_
        obtain ⟨v47, S47, ev47, h⟩ := l_calI h
        refine rm_callI [.int (y1 + 1)] H d_RM_statement_316 C_RM_217 (h_RM_block _ _ _ ev47) rfl rfl rfl (Nat.le_of_ble_eq_true rfl) (by omega) (by show 8 + (3 + 11) + Lw ≤ Lw + 60; omega) ?_
        obtain ⟨S48, eS48, h⟩ := l_calV h
        refine rm_callU [.int y4, .int v47] H d_RM_statement_319 C_RM_185 (c_RM_join H eS48) rfl rfl rfl (Nat.le_of_ble_eq_true rfl) (by omega) (by show 8 + (3 + 11) + 0 ≤ Lw + 60; omega) ?_
        refine vr_goto (tgt := 441) d_RM_statement_322 (by decide) ?_
        refine vr_iload d_RM_statement_441 rfl ?_
        cases h
        exact vr_iret d_RM_statement_443 rfl rfl ⟨rfl, rfl⟩
      · replace h := l_ifn c305 h
        refine vr_iconst (-1) d_RM_statement_308 (by decide) ?_
        refine vr_goto (tgt := 319) d_RM_statement_309 (by decide) ?_
        obtain ⟨S49, eS49, h⟩ := l_calV h
        refine rm_callU [.int y4, .int (-1)] H d_RM_statement_319 C_RM_185 (c_RM_join H eS49) rfl rfl rfl (Nat.le_of_ble_eq_true rfl) (by omega) (by show 8 + (3 + 11) + 0 ≤ Lw + 60; omega) ?_
        refine vr_goto (tgt := 441) d_RM_statement_322 (by decide) ?_
        refine vr_iload d_RM_statement_441 rfl ?_
        cases h
        exact vr_iret d_RM_statement_443 rfl rfl ⟨rfl, rfl⟩

def k_RM_statement_241 (N : Nat) (p_RM_sum : Int32 → rm_S → Option (Int32 × rm_S)) (p_RM_named : Int32 → Int32 → rm_S → Option (Int32 × rm_S)) (p_RM_cond : Int32 → rm_S → Option (Int32 × rm_S)) (p_RM_block : Int32 → rm_S → Option (Int32 × rm_S)) (y1 : Int32) (y3 : Int32) (y4 : Int32) (z0 : Int32) (z1 : Int32) (S : rm_S) : Option (Int32 × rm_S) := calV (f_RM_join N z1 z0 S) fun S41 => calV (f_RM_take N 41 S41) fun S42 => if (S42.1 13) = 0 then (calI (p_RM_block ((y1 + 1)) S42) fun v43 S43 => k_RM_statement_271 N p_RM_sum p_RM_named p_RM_cond p_RM_block y1 y3 y4 v43 y4 S43) else (k_RM_statement_271 N p_RM_sum p_RM_named p_RM_cond p_RM_block y1 y3 y4 (-1) y4 S42)
theorem q_RM_statement_241 {g : mv_G} {σ : mh_H} {m : Nat} {N : Nat} {p_RM_sum : Int32 → rm_S → Option (Int32 × rm_S)} {p_RM_named : Int32 → Int32 → rm_S → Option (Int32 × rm_S)} {p_RM_cond : Int32 → rm_S → Option (Int32 × rm_S)} {p_RM_block : Int32 → rm_S → Option (Int32 × rm_S)} (H : rm_H g σ m) {F Lw : Nat} (h_RM_sum : rkI1 g σ m M_RM_sum F Lw p_RM_sum) (h_RM_named : rkI2 g σ m M_RM_named F Lw p_RM_named) (h_RM_cond : rkI1 g σ m M_RM_cond F Lw p_RM_cond) (h_RM_block : rkI1 g σ m M_RM_block F Lw p_RM_block) (hF : 40 ≤ F) (hLw : 1000 ≤ Lw) (y1 : Int32) (y3 : Int32) (y4 : Int32) (z0 : Int32) (z1 : Int32) (S : rm_S) (r : Int32 × rm_S) (h : k_RM_statement_241 N p_RM_sum p_RM_named p_RM_cond p_RM_block y1 y3 y4 z0 z1 S = some r) : mv_V g M_RM_statement (F + 1) (Lw + 60) 0 0 241 [some (.ref m), some (.int y1), none, some (.int y3), some (.int y4), none] [.int z0, .int z1, .ref m] (rz σ m S) (fun oc τ => τ = rz σ m r.2 ∧ oc = .returned (some (.int r.1))) := by
  unfold k_RM_statement_241 at h
  obtain ⟨S41, eS41, h⟩ := l_calV h
  refine rm_callU [.int z1, .int z0] H d_RM_statement_241 C_RM_185 (c_RM_join H eS41) rfl rfl rfl (Nat.le_of_ble_eq_true rfl) (by omega) (by show 8 + (3 + 11) + 0 ≤ Lw + 60; omega) ?_
  refine vr_aload_n d_RM_statement_244 rfl rfl ?_
  refine vr_bipush 41 d_RM_statement_245 (by decide) ?_
  obtain ⟨S42, eS42, h⟩ := l_calV h
  refine rm_callU [.int 41] H d_RM_statement_247 C_RM_176 (c_RM_take H eS42) rfl rfl rfl (Nat.le_of_ble_eq_true rfl) (by omega) (by show 8 + (2 + 11) + 21 ≤ Lw + 60; omega) ?_
  refine vr_aload_n d_RM_statement_250 rfl rfl ?_
  refine vr_iload d_RM_statement_251 rfl ?_
  refine vr_aload_n d_RM_statement_253 rfl rfl ?_
  refine rm_getI H d_RM_statement_254 F_RM_155 rfl ?_
  refine vr_if_eq (tgt := 264) d_RM_statement_257 (by decide) (fun c257 => ?_) (fun c257 => ?_)
  · replace h := l_ifp c257 h
    refine vr_aload_n d_RM_statement_264 rfl rfl ?_
    refine vr_iload_n d_RM_statement_265 rfl rfl ?_
    refine vr_iconst 1 d_RM_statement_266 (by decide) ?_
    refine vr_iadd d_RM_statement_267 ?_
    obtain ⟨v43, S43, ev43, h⟩ := l_calI h
    refine rm_callI [.int (y1 + 1)] H d_RM_statement_268 C_RM_217 (h_RM_block _ _ _ ev43) rfl rfl rfl (Nat.le_of_ble_eq_true rfl) (by omega) (by show 8 + (3 + 11) + Lw ≤ Lw + 60; omega) ?_
    exact mv_drop (q_RM_statement_271 H h_RM_sum h_RM_named h_RM_cond h_RM_block hF hLw _ _ _ _ _ _ _ h) (And.intro rfl (And.intro rfl (And.intro rfl (And.intro rfl trivial))))
  · replace h := l_ifn c257 h
    refine vr_iconst (-1) d_RM_statement_260 (by decide) ?_
    refine vr_goto (tgt := 271) d_RM_statement_261 (by decide) ?_
    exact mv_drop (q_RM_statement_271 H h_RM_sum h_RM_named h_RM_cond h_RM_block hF hLw _ _ _ _ _ _ _ h) (And.intro rfl (And.intro rfl (And.intro rfl (And.intro rfl trivial))))

def k_RM_statement_202 (N : Nat) (p_RM_sum : Int32 → rm_S → Option (Int32 × rm_S)) (p_RM_named : Int32 → Int32 → rm_S → Option (Int32 × rm_S)) (p_RM_cond : Int32 → rm_S → Option (Int32 × rm_S)) (p_RM_block : Int32 → rm_S → Option (Int32 × rm_S)) (y1 : Int32) (y2 : Int32) (y3 : Int32) (z0 : Int32) (S : rm_S) : Option (Int32 × rm_S) := calI (f_RM_draft N z0 y2 0 S) fun v35 S35 => calV (f_RM_take N y3 S35) fun S36 => calV (f_RM_take N 40 S36) fun S37 => if (S37.1 13) = 0 then (calI (p_RM_cond ((y1 + 1)) S37) fun v38 S38 => k_RM_statement_241 N p_RM_sum p_RM_named p_RM_cond p_RM_block y1 y3 v35 v38 v35 S38) else (k_RM_statement_241 N p_RM_sum p_RM_named p_RM_cond p_RM_block y1 y3 v35 (-1) v35 S37)
theorem q_RM_statement_202 {g : mv_G} {σ : mh_H} {m : Nat} {N : Nat} {p_RM_sum : Int32 → rm_S → Option (Int32 × rm_S)} {p_RM_named : Int32 → Int32 → rm_S → Option (Int32 × rm_S)} {p_RM_cond : Int32 → rm_S → Option (Int32 × rm_S)} {p_RM_block : Int32 → rm_S → Option (Int32 × rm_S)} (H : rm_H g σ m) {F Lw : Nat} (h_RM_sum : rkI1 g σ m M_RM_sum F Lw p_RM_sum) (h_RM_named : rkI2 g σ m M_RM_named F Lw p_RM_named) (h_RM_cond : rkI1 g σ m M_RM_cond F Lw p_RM_cond) (h_RM_block : rkI1 g σ m M_RM_block F Lw p_RM_block) (hF : 40 ≤ F) (hLw : 1000 ≤ Lw) (y1 : Int32) (y2 : Int32) (y3 : Int32) (z0 : Int32) (S : rm_S) (r : Int32 × rm_S) (h : k_RM_statement_202 N p_RM_sum p_RM_named p_RM_cond p_RM_block y1 y2 y3 z0 S = some r) : mv_V g M_RM_statement (F + 1) (Lw + 60) 0 0 202 [some (.ref m), some (.int y1), some (.int y2), some (.int y3), none, none] [.int z0, .ref m] (rz σ m S) (fun oc τ => τ = rz σ m r.2 ∧ oc = .returned (some (.int r.1))) := by
  unfold k_RM_statement_202 at h
  refine vr_iload_n d_RM_statement_202 rfl rfl ?_
  refine vr_iconst 0 d_RM_statement_203 (by decide) ?_
  obtain ⟨v35, S35, ev35, h⟩ := l_calI h
  refine rm_callI [.int z0, .int y2, .int 0] H d_RM_statement_204 C_RM_172 (c_RM_draft H ev35) rfl rfl rfl (Nat.le_of_ble_eq_true rfl) (by omega) (by show 8 + (4 + 11) + 0 ≤ Lw + 60; omega) ?_
  refine vr_istore (L' := [some (.ref m), some (.int y1), some (.int y2), some (.int y3), some (.int v35), none]) d_RM_statement_207 (by decide) rfl ?_
  refine vr_aload_n d_RM_statement_209 rfl rfl ?_
  refine vr_iload_n d_RM_statement_210 rfl rfl ?_
  obtain ⟨S36, eS36, h⟩ := l_calV h
  refine rm_callU [.int y3] H d_RM_statement_211 C_RM_176 (c_RM_take H eS36) rfl rfl rfl (Nat.le_of_ble_eq_true rfl) (by omega) (by show 8 + (2 + 11) + 21 ≤ Lw + 60; omega) ?_
  refine vr_aload_n d_RM_statement_214 rfl rfl ?_
  refine vr_bipush 40 d_RM_statement_215 (by decide) ?_
  obtain ⟨S37, eS37, h⟩ := l_calV h
  refine rm_callU [.int 40] H d_RM_statement_217 C_RM_176 (c_RM_take H eS37) rfl rfl rfl (Nat.le_of_ble_eq_true rfl) (by omega) (by show 8 + (2 + 11) + 21 ≤ Lw + 60; omega) ?_
  refine vr_aload_n d_RM_statement_220 rfl rfl ?_
  refine vr_iload d_RM_statement_221 rfl ?_
  refine vr_aload_n d_RM_statement_223 rfl rfl ?_
  refine rm_getI H d_RM_statement_224 F_RM_155 rfl ?_
  refine vr_if_eq (tgt := 234) d_RM_statement_227 (by decide) (fun c227 => ?_) (fun c227 => ?_)
  · replace h := l_ifp c227 h
    refine vr_aload_n d_RM_statement_234 rfl rfl ?_
    refine vr_iload_n d_RM_statement_235 rfl rfl ?_
    refine vr_iconst 1 d_RM_statement_236 (by decide) ?_
    refine vr_iadd d_RM_statement_237 ?_
    obtain ⟨v38, S38, ev38, h⟩ := l_calI h
    refine rm_callI [.int (y1 + 1)] H d_RM_statement_238 C_RM_208 (h_RM_cond _ _ _ ev38) rfl rfl rfl (Nat.le_of_ble_eq_true rfl) (by omega) (by show 8 + (2 + 11) + Lw ≤ Lw + 60; omega) ?_
    exact mv_drop (q_RM_statement_241 H h_RM_sum h_RM_named h_RM_cond h_RM_block hF hLw _ _ _ _ _ _ _ h) (And.intro rfl (And.intro rfl (And.intro rfl (And.intro rfl trivial))))
  · replace h := l_ifn c227 h
    refine vr_iconst (-1) d_RM_statement_230 (by decide) ?_
    refine vr_goto (tgt := 241) d_RM_statement_231 (by decide) ?_
    exact mv_drop (q_RM_statement_241 H h_RM_sum h_RM_named h_RM_cond h_RM_block hF hLw _ _ _ _ _ _ _ h) (And.intro rfl (And.intro rfl (And.intro rfl (And.intro rfl trivial))))

def k_RM_statement_187 (N : Nat) (p_RM_sum : Int32 → rm_S → Option (Int32 × rm_S)) (p_RM_named : Int32 → Int32 → rm_S → Option (Int32 × rm_S)) (p_RM_cond : Int32 → rm_S → Option (Int32 × rm_S)) (p_RM_block : Int32 → rm_S → Option (Int32 × rm_S)) (y1 : Int32) (y2 : Int32) (y3 : Int32) (S : rm_S) : Option (Int32 × rm_S) := if y3 = 302 then (k_RM_statement_202 N p_RM_sum p_RM_named p_RM_cond p_RM_block y1 y2 y3 8 S) else (k_RM_statement_202 N p_RM_sum p_RM_named p_RM_cond p_RM_block y1 y2 y3 9 S)
theorem q_RM_statement_187 {g : mv_G} {σ : mh_H} {m : Nat} {N : Nat} {p_RM_sum : Int32 → rm_S → Option (Int32 × rm_S)} {p_RM_named : Int32 → Int32 → rm_S → Option (Int32 × rm_S)} {p_RM_cond : Int32 → rm_S → Option (Int32 × rm_S)} {p_RM_block : Int32 → rm_S → Option (Int32 × rm_S)} (H : rm_H g σ m) {F Lw : Nat} (h_RM_sum : rkI1 g σ m M_RM_sum F Lw p_RM_sum) (h_RM_named : rkI2 g σ m M_RM_named F Lw p_RM_named) (h_RM_cond : rkI1 g σ m M_RM_cond F Lw p_RM_cond) (h_RM_block : rkI1 g σ m M_RM_block F Lw p_RM_block) (hF : 40 ≤ F) (hLw : 1000 ≤ Lw) (y1 : Int32) (y2 : Int32) (y3 : Int32) (S : rm_S) (r : Int32 × rm_S) (h : k_RM_statement_187 N p_RM_sum p_RM_named p_RM_cond p_RM_block y1 y2 y3 S = some r) : mv_V g M_RM_statement (F + 1) (Lw + 60) 0 0 187 [some (.ref m), some (.int y1), some (.int y2), some (.int y3), none, none] [] (rz σ m S) (fun oc τ => τ = rz σ m r.2 ∧ oc = .returned (some (.int r.1))) := by
  unfold k_RM_statement_187 at h
  refine vr_aload_n d_RM_statement_187 rfl rfl ?_
  refine vr_iload_n d_RM_statement_188 rfl rfl ?_
  refine vr_sipush 302 d_RM_statement_189 (by decide) ?_
  refine vr_icmp_ne (tgt := 200) d_RM_statement_192 (by decide) (fun c192 => ?_) (fun c192 => ?_)
  · replace h := l_ifn c192 h
    refine vr_bipush 9 d_RM_statement_200 (by decide) ?_
    exact mv_drop (q_RM_statement_202 H h_RM_sum h_RM_named h_RM_cond h_RM_block hF hLw _ _ _ _ _ _ h) (And.intro rfl (And.intro rfl (And.intro rfl (And.intro rfl trivial))))
  · replace h := l_ifp c192 h
    refine vr_bipush 8 d_RM_statement_195 (by decide) ?_
    refine vr_goto (tgt := 202) d_RM_statement_197 (by decide) ?_
    exact mv_drop (q_RM_statement_202 H h_RM_sum h_RM_named h_RM_cond h_RM_block hF hLw _ _ _ _ _ _ h) (And.intro rfl (And.intro rfl (And.intro rfl (And.intro rfl trivial))))

def k_RM_statement_376 (N : Nat) (p_RM_sum : Int32 → rm_S → Option (Int32 × rm_S)) (p_RM_named : Int32 → Int32 → rm_S → Option (Int32 × rm_S)) (p_RM_cond : Int32 → rm_S → Option (Int32 × rm_S)) (p_RM_block : Int32 → rm_S → Option (Int32 × rm_S)) (y4 : Int32) (z0 : Int32) (z1 : Int32) (S : rm_S) : Option (Int32 × rm_S) := calV (f_RM_join N z1 z0 S) fun S20 => calV (f_RM_take N 41 S20) fun S21 => calV (f_RM_take N 59 S21) fun S22 => some (y4, S22)
theorem q_RM_statement_376 {g : mv_G} {σ : mh_H} {m : Nat} {N : Nat} {p_RM_sum : Int32 → rm_S → Option (Int32 × rm_S)} {p_RM_named : Int32 → Int32 → rm_S → Option (Int32 × rm_S)} {p_RM_cond : Int32 → rm_S → Option (Int32 × rm_S)} {p_RM_block : Int32 → rm_S → Option (Int32 × rm_S)} (H : rm_H g σ m) {F Lw : Nat} (h_RM_sum : rkI1 g σ m M_RM_sum F Lw p_RM_sum) (h_RM_named : rkI2 g σ m M_RM_named F Lw p_RM_named) (h_RM_cond : rkI1 g σ m M_RM_cond F Lw p_RM_cond) (h_RM_block : rkI1 g σ m M_RM_block F Lw p_RM_block) (hF : 40 ≤ F) (hLw : 1000 ≤ Lw) (y4 : Int32) (z0 : Int32) (z1 : Int32) (S : rm_S) (r : Int32 × rm_S) (h : k_RM_statement_376 N p_RM_sum p_RM_named p_RM_cond p_RM_block y4 z0 z1 S = some r) : mv_V g M_RM_statement (F + 1) (Lw + 60) 0 0 376 [some (.ref m), none, none, none, some (.int y4), none] [.int z0, .int z1, .ref m] (rz σ m S) (fun oc τ => τ = rz σ m r.2 ∧ oc = .returned (some (.int r.1))) := by
  unfold k_RM_statement_376 at h
  obtain ⟨S20, eS20, h⟩ := l_calV h
  refine rm_callU [.int z1, .int z0] H d_RM_statement_376 C_RM_185 (c_RM_join H eS20) rfl rfl rfl (Nat.le_of_ble_eq_true rfl) (by omega) (by show 8 + (3 + 11) + 0 ≤ Lw + 60; omega) ?_
  refine vr_aload_n d_RM_statement_379 rfl rfl ?_
  refine vr_bipush 41 d_RM_statement_380 (by decide) ?_
  obtain ⟨S21, eS21, h⟩ := l_calV h
  refine rm_callU [.int 41] H d_RM_statement_382 C_RM_176 (c_RM_take H eS21) rfl rfl rfl (Nat.le_of_ble_eq_true rfl) (by omega) (by show 8 + (2 + 11) + 21 ≤ Lw + 60; omega) ?_
  refine vr_aload_n d_RM_statement_385 rfl rfl ?_
  refine vr_bipush 59 d_RM_statement_386 (by decide) ?_
  obtain ⟨S22, eS22, h⟩ := l_calV h
  refine rm_callU [.int 59] H d_RM_statement_388 C_RM_176 (c_RM_take H eS22) rfl rfl rfl (Nat.le_of_ble_eq_true rfl) (by omega) (by show 8 + (2 + 11) + 21 ≤ Lw + 60; omega) ?_
  refine vr_goto (tgt := 441) d_RM_statement_391 (by decide) ?_
  refine vr_iload d_RM_statement_441 rfl ?_
  cases h
  exact vr_iret d_RM_statement_443 rfl rfl ⟨rfl, rfl⟩

def k_RM_statement_139 (N : Nat) (p_RM_sum : Int32 → rm_S → Option (Int32 × rm_S)) (p_RM_named : Int32 → Int32 → rm_S → Option (Int32 × rm_S)) (p_RM_cond : Int32 → rm_S → Option (Int32 × rm_S)) (p_RM_block : Int32 → rm_S → Option (Int32 × rm_S)) (y4 : Int32) (z0 : Int32) (z1 : Int32) (S : rm_S) : Option (Int32 × rm_S) := calV (f_RM_join N z1 z0 S) fun S39 => calV (f_RM_take N 59 S39) fun S40 => some (y4, S40)
theorem q_RM_statement_139 {g : mv_G} {σ : mh_H} {m : Nat} {N : Nat} {p_RM_sum : Int32 → rm_S → Option (Int32 × rm_S)} {p_RM_named : Int32 → Int32 → rm_S → Option (Int32 × rm_S)} {p_RM_cond : Int32 → rm_S → Option (Int32 × rm_S)} {p_RM_block : Int32 → rm_S → Option (Int32 × rm_S)} (H : rm_H g σ m) {F Lw : Nat} (h_RM_sum : rkI1 g σ m M_RM_sum F Lw p_RM_sum) (h_RM_named : rkI2 g σ m M_RM_named F Lw p_RM_named) (h_RM_cond : rkI1 g σ m M_RM_cond F Lw p_RM_cond) (h_RM_block : rkI1 g σ m M_RM_block F Lw p_RM_block) (hF : 40 ≤ F) (hLw : 1000 ≤ Lw) (y4 : Int32) (z0 : Int32) (z1 : Int32) (S : rm_S) (r : Int32 × rm_S) (h : k_RM_statement_139 N p_RM_sum p_RM_named p_RM_cond p_RM_block y4 z0 z1 S = some r) : mv_V g M_RM_statement (F + 1) (Lw + 60) 0 0 139 [some (.ref m), none, none, none, some (.int y4), none] [.int z0, .int z1, .ref m] (rz σ m S) (fun oc τ => τ = rz σ m r.2 ∧ oc = .returned (some (.int r.1))) := by
  unfold k_RM_statement_139 at h
  obtain ⟨S39, eS39, h⟩ := l_calV h
  refine rm_callU [.int z1, .int z0] H d_RM_statement_139 C_RM_185 (c_RM_join H eS39) rfl rfl rfl (Nat.le_of_ble_eq_true rfl) (by omega) (by show 8 + (3 + 11) + 0 ≤ Lw + 60; omega) ?_
  refine vr_aload_n d_RM_statement_142 rfl rfl ?_
  refine vr_bipush 59 d_RM_statement_143 (by decide) ?_
  obtain ⟨S40, eS40, h⟩ := l_calV h
  refine rm_callU [.int 59] H d_RM_statement_145 C_RM_176 (c_RM_take H eS40) rfl rfl rfl (Nat.le_of_ble_eq_true rfl) (by omega) (by show 8 + (2 + 11) + 21 ≤ Lw + 60; omega) ?_
  refine vr_goto (tgt := 441) d_RM_statement_148 (by decide) ?_
  refine vr_iload d_RM_statement_441 rfl ?_
  cases h
  exact vr_iret d_RM_statement_443 rfl rfl ⟨rfl, rfl⟩

def k_RM_statement_53 (N : Nat) (p_RM_sum : Int32 → rm_S → Option (Int32 × rm_S)) (p_RM_named : Int32 → Int32 → rm_S → Option (Int32 × rm_S)) (p_RM_cond : Int32 → rm_S → Option (Int32 × rm_S)) (p_RM_block : Int32 → rm_S → Option (Int32 × rm_S)) (y1 : Int32) (y2 : Int32) (y5 : Int32) (z0 : Int32) (S : rm_S) : Option (Int32 × rm_S) := calI (f_RM_draft N z0 y2 0 S) fun v23 S23 => calV (f_RM_join N v23 y5 S23) fun S24 => calI (f_RM_look N S24) fun v25 S25 => if v25 = 91 then (calV (f_RM_take N 91 S25) fun S30 => calI (f_RM_number N 0 S30) fun v31 S31 => calV (f_RM_join N v23 v31 S31) fun S32 => calV (f_RM_take N 93 S32) fun S33 => calV (f_RM_take N 59 S33) fun S34 => some (v23, S34)) else (calI (f_RM_look N S25) fun v26 S26 => if v26 = 61 then (calV (f_RM_take N 61 S26) fun S28 => if (S28.1 13) = 0 then (calI (p_RM_sum ((y1 + 1)) S28) fun v29 S29 => k_RM_statement_139 N p_RM_sum p_RM_named p_RM_cond p_RM_block v23 v29 v23 S29) else (k_RM_statement_139 N p_RM_sum p_RM_named p_RM_cond p_RM_block v23 (-1) v23 S28)) else (calV (f_RM_take N 59 S26) fun S27 => some (v23, S27)))
theorem q_RM_statement_53 {g : mv_G} {σ : mh_H} {m : Nat} {N : Nat} {p_RM_sum : Int32 → rm_S → Option (Int32 × rm_S)} {p_RM_named : Int32 → Int32 → rm_S → Option (Int32 × rm_S)} {p_RM_cond : Int32 → rm_S → Option (Int32 × rm_S)} {p_RM_block : Int32 → rm_S → Option (Int32 × rm_S)} (H : rm_H g σ m) {F Lw : Nat} (h_RM_sum : rkI1 g σ m M_RM_sum F Lw p_RM_sum) (h_RM_named : rkI2 g σ m M_RM_named F Lw p_RM_named) (h_RM_cond : rkI1 g σ m M_RM_cond F Lw p_RM_cond) (h_RM_block : rkI1 g σ m M_RM_block F Lw p_RM_block) (hF : 40 ≤ F) (hLw : 1000 ≤ Lw) (y1 : Int32) (y2 : Int32) (y5 : Int32) (z0 : Int32) (S : rm_S) (r : Int32 × rm_S) (h : k_RM_statement_53 N p_RM_sum p_RM_named p_RM_cond p_RM_block y1 y2 y5 z0 S = some r) : mv_V g M_RM_statement (F + 1) (Lw + 60) 0 0 53 [some (.ref m), some (.int y1), some (.int y2), none, none, some (.int y5)] [.int z0, .ref m] (rz σ m S) (fun oc τ => τ = rz σ m r.2 ∧ oc = .returned (some (.int r.1))) := by
  unfold k_RM_statement_53 at h
  refine vr_iload_n d_RM_statement_53 rfl rfl ?_
  refine vr_iconst 0 d_RM_statement_54 (by decide) ?_
  obtain ⟨v23, S23, ev23, h⟩ := l_calI h
  refine rm_callI [.int z0, .int y2, .int 0] H d_RM_statement_55 C_RM_172 (c_RM_draft H ev23) rfl rfl rfl (Nat.le_of_ble_eq_true rfl) (by omega) (by show 8 + (4 + 11) + 0 ≤ Lw + 60; omega) ?_
  refine vr_istore (L' := [some (.ref m), some (.int y1), some (.int y2), none, some (.int v23), some (.int y5)]) d_RM_statement_58 (by decide) rfl ?_
  refine vr_aload_n d_RM_statement_60 rfl rfl ?_
  refine vr_iload d_RM_statement_61 rfl ?_
  refine vr_iload d_RM_statement_63 rfl ?_
  obtain ⟨S24, eS24, h⟩ := l_calV h
  refine rm_callU [.int v23, .int y5] H d_RM_statement_65 C_RM_185 (c_RM_join H eS24) rfl rfl rfl (Nat.le_of_ble_eq_true rfl) (by omega) (by show 8 + (3 + 11) + 0 ≤ Lw + 60; omega) ?_
  refine vr_aload_n d_RM_statement_68 rfl rfl ?_
  obtain ⟨v25, S25, ev25, h⟩ := l_calI h
  refine rm_callI [] H d_RM_statement_69 C_RM_162 (c_RM_look H ev25) rfl rfl rfl (Nat.le_of_ble_eq_true rfl) (by omega) (by show 8 + (1 + 11) + 0 ≤ Lw + 60; omega) ?_
  refine vr_bipush 91 d_RM_statement_72 (by decide) ?_
  refine vr_icmp_ne (tgt := 103) d_RM_statement_74 (by decide) (fun c74 => ?_) (fun c74 => ?_)
  · replace h := l_ifn c74 h
    refine vr_aload_n d_RM_statement_103 rfl rfl ?_
    obtain ⟨v26, S26, ev26, h⟩ := l_calI h
    refine rm_callI [] H d_RM_statement_104 C_RM_162 (c_RM_look H ev26) rfl rfl rfl (Nat.le_of_ble_eq_true rfl) (by omega) (by show 8 + (1 + 11) + 0 ≤ Lw + 60; omega) ?_
    refine vr_bipush 61 d_RM_statement_107 (by decide) ?_
    refine vr_icmp_ne (tgt := 142) d_RM_statement_109 (by decide) (fun c109 => ?_) (fun c109 => ?_)
    · replace h := l_ifn c109 h
      refine vr_aload_n d_RM_statement_142 rfl rfl ?_
      refine vr_bipush 59 d_RM_statement_143 (by decide) ?_
      obtain ⟨S27, eS27, h⟩ := l_calV h
      refine rm_callU [.int 59] H d_RM_statement_145 C_RM_176 (c_RM_take H eS27) rfl rfl rfl (Nat.le_of_ble_eq_true rfl) (by omega) (by show 8 + (2 + 11) + 21 ≤ Lw + 60; omega) ?_
      refine vr_goto (tgt := 441) d_RM_statement_148 (by decide) ?_
      refine vr_iload d_RM_statement_441 rfl ?_
      cases h
      exact vr_iret d_RM_statement_443 rfl rfl ⟨rfl, rfl⟩
    · replace h := l_ifp c109 h
      refine vr_aload_n d_RM_statement_112 rfl rfl ?_
      refine vr_bipush 61 d_RM_statement_113 (by decide) ?_
      obtain ⟨S28, eS28, h⟩ := l_calV h
      refine rm_callU [.int 61] H d_RM_statement_115 C_RM_176 (c_RM_take H eS28) rfl rfl rfl (Nat.le_of_ble_eq_true rfl) (by omega) (by show 8 + (2 + 11) + 21 ≤ Lw + 60; omega) ?_
      refine vr_aload_n d_RM_statement_118 rfl rfl ?_
      refine vr_iload d_RM_statement_119 rfl ?_
      refine vr_aload_n d_RM_statement_121 rfl rfl ?_
      refine rm_getI H d_RM_statement_122 F_RM_155 rfl ?_
      refine vr_if_eq (tgt := 132) d_RM_statement_125 (by decide) (fun c125 => ?_) (fun c125 => ?_)
      · replace h := l_ifp c125 h
        refine vr_aload_n d_RM_statement_132 rfl rfl ?_
        refine vr_iload_n d_RM_statement_133 rfl rfl ?_
        refine vr_iconst 1 d_RM_statement_134 (by decide) ?_
        refine vr_iadd d_RM_statement_135 ?_
        obtain ⟨v29, S29, ev29, h⟩ := l_calI h
        refine rm_callI [.int (y1 + 1)] H d_RM_statement_136 C_RM_199 (h_RM_sum _ _ _ ev29) rfl rfl rfl (Nat.le_of_ble_eq_true rfl) (by omega) (by show 8 + (5 + 11) + Lw ≤ Lw + 60; omega) ?_
        exact mv_drop (q_RM_statement_139 H h_RM_sum h_RM_named h_RM_cond h_RM_block hF hLw _ _ _ _ _ h) (And.intro rfl (And.intro rfl trivial))
      · replace h := l_ifn c125 h
        refine vr_iconst (-1) d_RM_statement_128 (by decide) ?_
        refine vr_goto (tgt := 139) d_RM_statement_129 (by decide) ?_
        exact mv_drop (q_RM_statement_139 H h_RM_sum h_RM_named h_RM_cond h_RM_block hF hLw _ _ _ _ _ h) (And.intro rfl (And.intro rfl trivial))
  · replace h := l_ifp c74 h
    refine vr_aload_n d_RM_statement_77 rfl rfl ?_
    refine vr_bipush 91 d_RM_statement_78 (by decide) ?_
    obtain ⟨S30, eS30, h⟩ := l_calV h
    refine rm_callU [.int 91] H d_RM_statement_80 C_RM_176 (c_RM_take H eS30) rfl rfl rfl (Nat.le_of_ble_eq_true rfl) (by omega) (by show 8 + (2 + 11) + 21 ≤ Lw + 60; omega) ?_
    refine vr_aload_n d_RM_statement_83 rfl rfl ?_
    refine vr_iload d_RM_statement_84 rfl ?_
    refine vr_aload_n d_RM_statement_86 rfl rfl ?_
    refine vr_iconst 0 d_RM_statement_87 (by decide) ?_
    obtain ⟨v31, S31, ev31, h⟩ := l_calI h
    refine rm_callI [.int 0] H d_RM_statement_88 C_RM_192 (c_RM_number H ev31) rfl rfl rfl (Nat.le_of_ble_eq_true rfl) (by omega) (by show 8 + (6 + 11) + 42 ≤ Lw + 60; omega) ?_
    obtain ⟨S32, eS32, h⟩ := l_calV h
    refine rm_callU [.int v23, .int v31] H d_RM_statement_91 C_RM_185 (c_RM_join H eS32) rfl rfl rfl (Nat.le_of_ble_eq_true rfl) (by omega) (by show 8 + (3 + 11) + 0 ≤ Lw + 60; omega) ?_
    refine vr_aload_n d_RM_statement_94 rfl rfl ?_
    refine vr_bipush 93 d_RM_statement_95 (by decide) ?_
    obtain ⟨S33, eS33, h⟩ := l_calV h
    refine rm_callU [.int 93] H d_RM_statement_97 C_RM_176 (c_RM_take H eS33) rfl rfl rfl (Nat.le_of_ble_eq_true rfl) (by omega) (by show 8 + (2 + 11) + 21 ≤ Lw + 60; omega) ?_
    refine vr_goto (tgt := 142) d_RM_statement_100 (by decide) ?_
    refine vr_aload_n d_RM_statement_142 rfl rfl ?_
    refine vr_bipush 59 d_RM_statement_143 (by decide) ?_
    obtain ⟨S34, eS34, h⟩ := l_calV h
    refine rm_callU [.int 59] H d_RM_statement_145 C_RM_176 (c_RM_take H eS34) rfl rfl rfl (Nat.le_of_ble_eq_true rfl) (by omega) (by show 8 + (2 + 11) + 21 ≤ Lw + 60; omega) ?_
    refine vr_goto (tgt := 441) d_RM_statement_148 (by decide) ?_
    refine vr_iload d_RM_statement_441 rfl ?_
    cases h
    exact vr_iret d_RM_statement_443 rfl rfl ⟨rfl, rfl⟩

def f_RM_statement (N : Nat) (p_RM_sum : Int32 → rm_S → Option (Int32 × rm_S)) (p_RM_named : Int32 → Int32 → rm_S → Option (Int32 × rm_S)) (p_RM_cond : Int32 → rm_S → Option (Int32 × rm_S)) (p_RM_block : Int32 → rm_S → Option (Int32 × rm_S)) (x1 : Int32) (S : rm_S) : Option (Int32 × rm_S) := chk (ib (S.1 12) 8002) <| bnd ((S.2 5 (Int32.toNatClampNeg (S.1 12)))) fun v2 => calI (f_RM_look N S) fun v3 S3 => if v3 = 301 then (calV (f_RM_take N 301 S3) fun S17 => calI (f_RM_name N S17) fun v18 S18 => calI (f_RM_look N S18) fun v19 S19 => if v19 = 91 then (k_RM_statement_53 N p_RM_sum p_RM_named p_RM_cond p_RM_block x1 v2 v18 4 S19) else (k_RM_statement_53 N p_RM_sum p_RM_named p_RM_cond p_RM_block x1 v2 v18 3 S19)) else (if v3 = 2 then (calI (p_RM_named v2 x1 S3) fun v15 S15 => calV (f_RM_take N 59 S15) fun S16 => some (v15, S16)) else (if v3 = 302 then (k_RM_statement_187 N p_RM_sum p_RM_named p_RM_cond p_RM_block x1 v2 v3 S3) else (if v3 = 304 then (k_RM_statement_187 N p_RM_sum p_RM_named p_RM_cond p_RM_block x1 v2 v3 S3) else (if v3 = 305 then (calI (f_RM_draft N 10 v2 0 S3) fun v11 S11 => calV (f_RM_take N 305 S11) fun S12 => calV (f_RM_take N 40 S12) fun S13 => if (S13.1 13) = 0 then (calI (p_RM_cond ((x1 + 1)) S13) fun v14 S14 => k_RM_statement_376 N p_RM_sum p_RM_named p_RM_cond p_RM_block v11 v14 v11 S14) else (k_RM_statement_376 N p_RM_sum p_RM_named p_RM_cond p_RM_block v11 (-1) v11 S13)) else (calV (f_RM_take N 306 S3) fun S4 => calI (f_RM_draft N 11 v2 0 S4) fun v5 S5 => if (S5.1 13) = 0 then (calI (p_RM_sum ((x1 + 1)) S5) fun v6 S6 => calV (f_RM_join N v5 v6 S6) fun S7 => calV (f_RM_take N 59 S7) fun S8 => some (v5, S8)) else (calV (f_RM_join N v5 (-1) S5) fun S9 => calV (f_RM_take N 59 S9) fun S10 => some (v5, S10)))))))
theorem c_RM_statement {g : mv_G} {σ : mh_H} {m : Nat} {N : Nat} {p_RM_sum : Int32 → rm_S → Option (Int32 × rm_S)} {p_RM_named : Int32 → Int32 → rm_S → Option (Int32 × rm_S)} {p_RM_cond : Int32 → rm_S → Option (Int32 × rm_S)} {p_RM_block : Int32 → rm_S → Option (Int32 × rm_S)} (H : rm_H g σ m) {F Lw : Nat} (h_RM_sum : rkI1 g σ m M_RM_sum F Lw p_RM_sum) (h_RM_named : rkI2 g σ m M_RM_named F Lw p_RM_named) (h_RM_cond : rkI1 g σ m M_RM_cond F Lw p_RM_cond) (h_RM_block : rkI1 g σ m M_RM_block F Lw p_RM_block) (hF : 40 ≤ F) (hLw : 1000 ≤ Lw) : rkI1 g σ m M_RM_statement (F + 1) (Lw + 60) (f_RM_statement N p_RM_sum p_RM_named p_RM_cond p_RM_block) := by
  intro x1 S r h
  refine mv_entry (L := [some (.ref m), some (.int x1), none, none, none, none]) rfl rfl (Nat.le_of_ble_eq_true rfl) rfl ?_
  unfold f_RM_statement at h
  refine vr_aload_n d_RM_statement_0 rfl rfl ?_
  refine rm_getR (o := 5) H d_RM_statement_1 F_RM_22 rfl (by decide) ?_
  refine vr_aload_n d_RM_statement_4 rfl rfl ?_
  refine rm_getI H d_RM_statement_5 F_RM_159 rfl ?_
  have q1 := (l_chk h).1
  replace h := (l_chk h).2
  refine rm_ald (o := 5) H (by decide) (by decide) d_RM_statement_8 (ib_in q1) ?_
  obtain ⟨v2, ev2, h⟩ := l_bnd h
  refine vr_nm ev2 ?_
  refine vr_istore_n (L' := [some (.ref m), some (.int x1), some (.int v2), none, none, none]) d_RM_statement_9 rfl (by decide) rfl ?_
  refine vr_aload_n d_RM_statement_10 rfl rfl ?_
  obtain ⟨v3, S3, ev3, h⟩ := l_calI h
  refine rm_callI [] H d_RM_statement_11 C_RM_162 (c_RM_look H ev3) rfl rfl rfl (Nat.le_of_ble_eq_true rfl) (by omega) (by show 8 + (1 + 11) + 0 ≤ Lw + 60; omega) ?_
  refine vr_istore_n (L' := [some (.ref m), some (.int x1), some (.int v2), some (.int v3), none, none]) d_RM_statement_14 rfl (by decide) rfl ?_
  refine vr_iconst (-1) d_RM_statement_15 (by decide) ?_
  refine vr_istore (L' := [some (.ref m), some (.int x1), some (.int v2), some (.int v3), some (.int (-1)), none]) d_RM_statement_16 (by decide) rfl ?_
  refine vr_iload_n d_RM_statement_18 rfl rfl ?_
  refine vr_sipush 301 d_RM_statement_19 (by decide) ?_
  refine vr_icmp_ne (tgt := 151) d_RM_statement_22 (by decide) (fun c22 => ?_) (fun c22 => ?_)
  · replace h := l_ifn c22 h
    refine vr_iload_n d_RM_statement_151 rfl rfl ?_
    refine vr_iconst 2 d_RM_statement_152 (by decide) ?_
    refine vr_icmp_ne (tgt := 173) d_RM_statement_153 (by decide) (fun c153 => ?_) (fun c153 => ?_)
    · replace h := l_ifn c153 h
      refine vr_iload_n d_RM_statement_173 rfl rfl ?_
      refine vr_sipush 302 d_RM_statement_174 (by decide) ?_
      refine vr_icmp_eq (tgt := 187) d_RM_statement_177 (by decide) (fun c177 => ?_) (fun c177 => ?_)
      · replace h := l_ifp c177 h
        exact mv_drop (q_RM_statement_187 H h_RM_sum h_RM_named h_RM_cond h_RM_block hF hLw _ _ _ _ _ h) (And.intro rfl (And.intro rfl (And.intro rfl (And.intro rfl trivial))))
      · replace h := l_ifn c177 h
        refine vr_iload_n d_RM_statement_180 rfl rfl ?_
        refine vr_sipush 304 d_RM_statement_181 (by decide) ?_
        refine vr_icmp_ne (tgt := 325) d_RM_statement_184 (by decide) (fun c184 => ?_) (fun c184 => ?_)
        · replace h := l_ifn c184 h
          refine vr_iload_n d_RM_statement_325 rfl rfl ?_
          refine vr_sipush 305 d_RM_statement_326 (by decide) ?_
          refine vr_icmp_ne (tgt := 394) d_RM_statement_329 (by decide) (fun c329 => ?_) (fun c329 => ?_)
          · replace h := l_ifn c329 h
            refine vr_aload_n d_RM_statement_394 rfl rfl ?_
            refine vr_sipush 306 d_RM_statement_395 (by decide) ?_
            obtain ⟨S4, eS4, h⟩ := l_calV h
            refine rm_callU [.int 306] H d_RM_statement_398 C_RM_176 (c_RM_take H eS4) rfl rfl rfl (Nat.le_of_ble_eq_true rfl) (by omega) (by show 8 + (2 + 11) + 21 ≤ Lw + 60; omega) ?_
            refine vr_aload_n d_RM_statement_401 rfl rfl ?_
            refine vr_bipush 11 d_RM_statement_402 (by decide) ?_
            refine vr_iload_n d_RM_statement_404 rfl rfl ?_
            refine vr_iconst 0 d_RM_statement_405 (by decide) ?_
            obtain ⟨v5, S5, ev5, h⟩ := l_calI h
            refine rm_callI [.int 11, .int v2, .int 0] H d_RM_statement_406 C_RM_172 (c_RM_draft H ev5) rfl rfl rfl (Nat.le_of_ble_eq_true rfl) (by omega) (by show 8 + (4 + 11) + 0 ≤ Lw + 60; omega) ?_
            refine vr_istore (L' := [some (.ref m), some (.int x1), some (.int v2), some (.int v3), some (.int v5), none]) d_RM_statement_409 (by decide) rfl ?_
            refine vr_aload_n d_RM_statement_411 rfl rfl ?_
            refine vr_iload d_RM_statement_412 rfl ?_
            refine vr_aload_n d_RM_statement_414 rfl rfl ?_
            refine rm_getI H d_RM_statement_415 F_RM_155 rfl ?_
            refine vr_if_eq (tgt := 425) d_RM_statement_418 (by decide) (fun c418 => ?_) (fun c418 => ?_)
            · replace h := l_ifp c418 h
              refine vr_aload_n d_RM_statement_425 rfl rfl ?_
              refine vr_iload_n d_RM_statement_426 rfl rfl ?_
              refine vr_iconst 1 d_RM_statement_427 (by decide) ?_
              refine vr_iadd d_RM_statement_428 ?_
              obtain ⟨v6, S6, ev6, h⟩ := l_calI h
              refine rm_callI [.int (x1 + 1)] H d_RM_statement_429 C_RM_199 (h_RM_sum _ _ _ ev6) rfl rfl rfl (Nat.le_of_ble_eq_true rfl) (by omega) (by show 8 + (5 + 11) + Lw ≤ Lw + 60; omega) ?_
              obtain ⟨S7, eS7, h⟩ := l_calV h
              refine rm_callU [.int v5, .int v6] H d_RM_statement_432 C_RM_185 (c_RM_join H eS7) rfl rfl rfl (Nat.le_of_ble_eq_true rfl) (by omega) (by show 8 + (3 + 11) + 0 ≤ Lw + 60; omega) ?_
              refine vr_aload_n d_RM_statement_435 rfl rfl ?_
              refine vr_bipush 59 d_RM_statement_436 (by decide) ?_
              obtain ⟨S8, eS8, h⟩ := l_calV h
              refine rm_callU [.int 59] H d_RM_statement_438 C_RM_176 (c_RM_take H eS8) rfl rfl rfl (Nat.le_of_ble_eq_true rfl) (by omega) (by show 8 + (2 + 11) + 21 ≤ Lw + 60; omega) ?_
              refine vr_iload d_RM_statement_441 rfl ?_
              cases h
              exact vr_iret d_RM_statement_443 rfl rfl ⟨rfl, rfl⟩
            · replace h := l_ifn c418 h
              refine vr_iconst (-1) d_RM_statement_421 (by decide) ?_
              refine vr_goto (tgt := 432) d_RM_statement_422 (by decide) ?_
              obtain ⟨S9, eS9, h⟩ := l_calV h
              refine rm_callU [.int v5, .int (-1)] H d_RM_statement_432 C_RM_185 (c_RM_join H eS9) rfl rfl rfl (Nat.le_of_ble_eq_true rfl) (by omega) (by show 8 + (3 + 11) + 0 ≤ Lw + 60; omega) ?_
              refine vr_aload_n d_RM_statement_435 rfl rfl ?_
              refine vr_bipush 59 d_RM_statement_436 (by decide) ?_
              obtain ⟨S10, eS10, h⟩ := l_calV h
              refine rm_callU [.int 59] H d_RM_statement_438 C_RM_176 (c_RM_take H eS10) rfl rfl rfl (Nat.le_of_ble_eq_true rfl) (by omega) (by show 8 + (2 + 11) + 21 ≤ Lw + 60; omega) ?_
              refine vr_iload d_RM_statement_441 rfl ?_
              cases h
              exact vr_iret d_RM_statement_443 rfl rfl ⟨rfl, rfl⟩
          · replace h := l_ifp c329 h
            refine vr_aload_n d_RM_statement_332 rfl rfl ?_
            refine vr_bipush 10 d_RM_statement_333 (by decide) ?_
            refine vr_iload_n d_RM_statement_335 rfl rfl ?_
            refine vr_iconst 0 d_RM_statement_336 (by decide) ?_
            obtain ⟨v11, S11, ev11, h⟩ := l_calI h
            refine rm_callI [.int 10, .int v2, .int 0] H d_RM_statement_337 C_RM_172 (c_RM_draft H ev11) rfl rfl rfl (Nat.le_of_ble_eq_true rfl) (by omega) (by show 8 + (4 + 11) + 0 ≤ Lw + 60; omega) ?_
            refine vr_istore (L' := [some (.ref m), some (.int x1), some (.int v2), some (.int v3), some (.int v11), none]) d_RM_statement_340 (by decide) rfl ?_
            refine vr_aload_n d_RM_statement_342 rfl rfl ?_
            refine vr_sipush 305 d_RM_statement_343 (by decide) ?_
            obtain ⟨S12, eS12, h⟩ := l_calV h
            refine rm_callU [.int 305] H d_RM_statement_346 C_RM_176 (c_RM_take H eS12) rfl rfl rfl (Nat.le_of_ble_eq_true rfl) (by omega) (by show 8 + (2 + 11) + 21 ≤ Lw + 60; omega) ?_
            refine vr_aload_n d_RM_statement_349 rfl rfl ?_
            refine vr_bipush 40 d_RM_statement_350 (by decide) ?_
            obtain ⟨S13, eS13, h⟩ := l_calV h
            refine rm_callU [.int 40] H d_RM_statement_352 C_RM_176 (c_RM_take H eS13) rfl rfl rfl (Nat.le_of_ble_eq_true rfl) (by omega) (by show 8 + (2 + 11) + 21 ≤ Lw + 60; omega) ?_
            refine vr_aload_n d_RM_statement_355 rfl rfl ?_
            refine vr_iload d_RM_statement_356 rfl ?_
            refine vr_aload_n d_RM_statement_358 rfl rfl ?_
            refine rm_getI H d_RM_statement_359 F_RM_155 rfl ?_
            refine vr_if_eq (tgt := 369) d_RM_statement_362 (by decide) (fun c362 => ?_) (fun c362 => ?_)
            · replace h := l_ifp c362 h
              refine vr_aload_n d_RM_statement_369 rfl rfl ?_
              refine vr_iload_n d_RM_statement_370 rfl rfl ?_
              refine vr_iconst 1 d_RM_statement_371 (by decide) ?_
              refine vr_iadd d_RM_statement_372 ?_
              obtain ⟨v14, S14, ev14, h⟩ := l_calI h
              refine rm_callI [.int (x1 + 1)] H d_RM_statement_373 C_RM_208 (h_RM_cond _ _ _ ev14) rfl rfl rfl (Nat.le_of_ble_eq_true rfl) (by omega) (by show 8 + (2 + 11) + Lw ≤ Lw + 60; omega) ?_
              exact mv_drop (q_RM_statement_376 H h_RM_sum h_RM_named h_RM_cond h_RM_block hF hLw _ _ _ _ _ h) (And.intro rfl (And.intro rfl trivial))
            · replace h := l_ifn c362 h
              refine vr_iconst (-1) d_RM_statement_365 (by decide) ?_
              refine vr_goto (tgt := 376) d_RM_statement_366 (by decide) ?_
              exact mv_drop (q_RM_statement_376 H h_RM_sum h_RM_named h_RM_cond h_RM_block hF hLw _ _ _ _ _ h) (And.intro rfl (And.intro rfl trivial))
        · replace h := l_ifp c184 h
          exact mv_drop (q_RM_statement_187 H h_RM_sum h_RM_named h_RM_cond h_RM_block hF hLw _ _ _ _ _ h) (And.intro rfl (And.intro rfl (And.intro rfl (And.intro rfl trivial))))
    · replace h := l_ifp c153 h
      refine vr_aload_n d_RM_statement_156 rfl rfl ?_
      refine vr_iload_n d_RM_statement_157 rfl rfl ?_
      refine vr_iload_n d_RM_statement_158 rfl rfl ?_
      obtain ⟨v15, S15, ev15, h⟩ := l_calI h
      refine rm_callI [.int v2, .int x1] H d_RM_statement_159 C_RM_214 (h_RM_named _ _ _ _ ev15) rfl rfl rfl (Nat.le_of_ble_eq_true rfl) (by omega) (by show 8 + (5 + 11) + Lw ≤ Lw + 60; omega) ?_
      refine vr_istore (L' := [some (.ref m), some (.int x1), some (.int v2), some (.int v3), some (.int v15), none]) d_RM_statement_162 (by decide) rfl ?_
      refine vr_aload_n d_RM_statement_164 rfl rfl ?_
      refine vr_bipush 59 d_RM_statement_165 (by decide) ?_
      obtain ⟨S16, eS16, h⟩ := l_calV h
      refine rm_callU [.int 59] H d_RM_statement_167 C_RM_176 (c_RM_take H eS16) rfl rfl rfl (Nat.le_of_ble_eq_true rfl) (by omega) (by show 8 + (2 + 11) + 21 ≤ Lw + 60; omega) ?_
      refine vr_goto (tgt := 441) d_RM_statement_170 (by decide) ?_
      refine vr_iload d_RM_statement_441 rfl ?_
      cases h
      exact vr_iret d_RM_statement_443 rfl rfl ⟨rfl, rfl⟩
  · replace h := l_ifp c22 h
    refine vr_aload_n d_RM_statement_25 rfl rfl ?_
    refine vr_sipush 301 d_RM_statement_26 (by decide) ?_
    obtain ⟨S17, eS17, h⟩ := l_calV h
    refine rm_callU [.int 301] H d_RM_statement_29 C_RM_176 (c_RM_take H eS17) rfl rfl rfl (Nat.le_of_ble_eq_true rfl) (by omega) (by show 8 + (2 + 11) + 21 ≤ Lw + 60; omega) ?_
    refine vr_aload_n d_RM_statement_32 rfl rfl ?_
    obtain ⟨v18, S18, ev18, h⟩ := l_calI h
    refine rm_callI [] H d_RM_statement_33 C_RM_196 (c_RM_name H ev18) rfl rfl rfl (Nat.le_of_ble_eq_true rfl) (by omega) (by show 8 + (2 + 11) + 42 ≤ Lw + 60; omega) ?_
    refine vr_istore (L' := [some (.ref m), some (.int x1), some (.int v2), some (.int v3), some (.int (-1)), some (.int v18)]) d_RM_statement_36 (by decide) rfl ?_
    refine vr_aload_n d_RM_statement_38 rfl rfl ?_
    refine vr_aload_n d_RM_statement_39 rfl rfl ?_
    obtain ⟨v19, S19, ev19, h⟩ := l_calI h
    refine rm_callI [] H d_RM_statement_40 C_RM_162 (c_RM_look H ev19) rfl rfl rfl (Nat.le_of_ble_eq_true rfl) (by omega) (by show 8 + (1 + 11) + 0 ≤ Lw + 60; omega) ?_
    refine vr_bipush 91 d_RM_statement_43 (by decide) ?_
    refine vr_icmp_ne (tgt := 52) d_RM_statement_45 (by decide) (fun c45 => ?_) (fun c45 => ?_)
    · replace h := l_ifn c45 h
      refine vr_iconst 3 d_RM_statement_52 (by decide) ?_
      exact mv_drop (q_RM_statement_53 H h_RM_sum h_RM_named h_RM_cond h_RM_block hF hLw _ _ _ _ _ _ h) (And.intro rfl (And.intro rfl (And.intro rfl (And.intro rfl trivial))))
    · replace h := l_ifp c45 h
      refine vr_iconst 4 d_RM_statement_48 (by decide) ?_
      refine vr_goto (tgt := 53) d_RM_statement_49 (by decide) ?_
      exact mv_drop (q_RM_statement_53 H h_RM_sum h_RM_named h_RM_cond h_RM_block hF hLw _ _ _ _ _ _ h) (And.intro rfl (And.intro rfl (And.intro rfl (And.intro rfl trivial))))

def k_RM_named_217 (N : Nat) (p_RM_sums : Int32 → Int32 → rm_S → Option (rm_S)) (p_RM_sum : Int32 → rm_S → Option (Int32 × rm_S)) (y1 : Int32) (y2 : Int32) (y3 : Int32) (S : rm_S) : Option (Int32 × rm_S) := calI (f_RM_draft N 5 y1 0 S) fun v21 S21 => calV (f_RM_join N v21 y3 S21) fun S22 => if (S22.1 13) = 0 then (calI (p_RM_sum ((y2 + 1)) S22) fun v23 S23 => calV (f_RM_join N v21 v23 S23) fun S24 => some (v21, S24)) else (calV (f_RM_join N v21 (-1) S22) fun S25 => some (v21, S25))
theorem q_RM_named_217 {g : mv_G} {σ : mh_H} {m : Nat} {N : Nat} {p_RM_sums : Int32 → Int32 → rm_S → Option (rm_S)} {p_RM_sum : Int32 → rm_S → Option (Int32 × rm_S)} (H : rm_H g σ m) {F Lw : Nat} (h_RM_sums : rkV2 g σ m M_RM_sums F Lw p_RM_sums) (h_RM_sum : rkI1 g σ m M_RM_sum F Lw p_RM_sum) (hF : 40 ≤ F) (hLw : 1000 ≤ Lw) (y1 : Int32) (y2 : Int32) (y3 : Int32) (S : rm_S) (r : Int32 × rm_S) (h : k_RM_named_217 N p_RM_sums p_RM_sum y1 y2 y3 S = some r) : mv_V g M_RM_named (F + 1) (Lw + 60) 0 0 217 [some (.ref m), some (.int y1), some (.int y2), some (.int y3), none] [] (rz σ m S) (fun oc τ => τ = rz σ m r.2 ∧ oc = .returned (some (.int r.1))) := by
  unfold k_RM_named_217 at h
  refine vr_aload_n d_RM_named_217 rfl rfl ?_
  refine vr_iconst 5 d_RM_named_218 (by decide) ?_
  refine vr_iload_n d_RM_named_219 rfl rfl ?_
  refine vr_iconst 0 d_RM_named_220 (by decide) ?_
  obtain ⟨v21, S21, ev21, h⟩ := l_calI h
  refine rm_callI [.int 5, .int y1, .int 0] H d_RM_named_221 C_RM_172 (c_RM_draft H ev21) rfl rfl rfl (Nat.le_of_ble_eq_true rfl) (by omega) (by show 8 + (4 + 11) + 0 ≤ Lw + 60; omega) ?_
  refine vr_istore (L' := [some (.ref m), some (.int y1), some (.int y2), some (.int y3), some (.int v21)]) d_RM_named_224 (by decide) rfl ?_
  refine vr_aload_n d_RM_named_226 rfl rfl ?_
  refine vr_iload d_RM_named_227 rfl ?_
  refine vr_iload_n d_RM_named_229 rfl rfl ?_
  obtain ⟨S22, eS22, h⟩ := l_calV h
  refine rm_callU [.int v21, .int y3] H d_RM_named_230 C_RM_185 (c_RM_join H eS22) rfl rfl rfl (Nat.le_of_ble_eq_true rfl) (by omega) (by show 8 + (3 + 11) + 0 ≤ Lw + 60; omega) ?_
  refine vr_aload_n d_RM_named_233 rfl rfl ?_
  refine vr_iload d_RM_named_234 rfl ?_
  refine vr_aload_n d_RM_named_236 rfl rfl ?_
  refine rm_getI H d_RM_named_237 F_RM_155 rfl ?_
  refine vr_if_eq (tgt := 247) d_RM_named_240 (by decide) (fun c240 => ?_) (fun c240 => ?_)
  · replace h := l_ifp c240 h
    refine vr_aload_n d_RM_named_247 rfl rfl ?_
    refine vr_iload_n d_RM_named_248 rfl rfl ?_
    refine vr_iconst 1 d_RM_named_249 (by decide) ?_
    refine vr_iadd d_RM_named_250 ?_
    obtain ⟨v23, S23, ev23, h⟩ := l_calI h
    refine rm_callI [.int (y2 + 1)] H d_RM_named_251 C_RM_199 (h_RM_sum _ _ _ ev23) rfl rfl rfl (Nat.le_of_ble_eq_true rfl) (by omega) (by show 8 + (5 + 11) + Lw ≤ Lw + 60; omega) ?_
    obtain ⟨S24, eS24, h⟩ := l_calV h
    refine rm_callU [.int v21, .int v23] H d_RM_named_254 C_RM_185 (c_RM_join H eS24) rfl rfl rfl (Nat.le_of_ble_eq_true rfl) (by omega) (by show 8 + (3 + 11) + 0 ≤ Lw + 60; omega) ?_
    refine vr_iload d_RM_named_257 rfl ?_
    cases h
    exact vr_iret d_RM_named_259 rfl rfl ⟨rfl, rfl⟩
  · replace h := l_ifn c240 h
    refine vr_iconst (-1) d_RM_named_243 (by decide) ?_
    refine vr_goto (tgt := 254) d_RM_named_244 (by decide) ?_
    obtain ⟨S25, eS25, h⟩ := l_calV h
    refine rm_callU [.int v21, .int (-1)] H d_RM_named_254 C_RM_185 (c_RM_join H eS25) rfl rfl rfl (Nat.le_of_ble_eq_true rfl) (by omega) (by show 8 + (3 + 11) + 0 ≤ Lw + 60; omega) ?_
    refine vr_iload d_RM_named_257 rfl ?_
    cases h
    exact vr_iret d_RM_named_259 rfl rfl ⟨rfl, rfl⟩

def k_RM_named_108 (N : Nat) (p_RM_sums : Int32 → Int32 → rm_S → Option (rm_S)) (p_RM_sum : Int32 → rm_S → Option (Int32 × rm_S)) (y2 : Int32) (y4 : Int32) (z0 : Int32) (z1 : Int32) (S : rm_S) : Option (Int32 × rm_S) := calV (f_RM_join N z1 z0 S) fun S26 => calV (f_RM_take N 93 S26) fun S27 => calV (f_RM_take N 61 S27) fun S28 => if (S28.1 13) = 0 then (calI (p_RM_sum ((y2 + 1)) S28) fun v29 S29 => calV (f_RM_join N y4 v29 S29) fun S30 => some (y4, S30)) else (calV (f_RM_join N y4 (-1) S28) fun S31 => some (y4, S31))
theorem q_RM_named_108 {g : mv_G} {σ : mh_H} {m : Nat} {N : Nat} {p_RM_sums : Int32 → Int32 → rm_S → Option (rm_S)} {p_RM_sum : Int32 → rm_S → Option (Int32 × rm_S)} (H : rm_H g σ m) {F Lw : Nat} (h_RM_sums : rkV2 g σ m M_RM_sums F Lw p_RM_sums) (h_RM_sum : rkI1 g σ m M_RM_sum F Lw p_RM_sum) (hF : 40 ≤ F) (hLw : 1000 ≤ Lw) (y2 : Int32) (y4 : Int32) (z0 : Int32) (z1 : Int32) (S : rm_S) (r : Int32 × rm_S) (h : k_RM_named_108 N p_RM_sums p_RM_sum y2 y4 z0 z1 S = some r) : mv_V g M_RM_named (F + 1) (Lw + 60) 0 0 108 [some (.ref m), none, some (.int y2), none, some (.int y4)] [.int z0, .int z1, .ref m] (rz σ m S) (fun oc τ => τ = rz σ m r.2 ∧ oc = .returned (some (.int r.1))) := by
  unfold k_RM_named_108 at h
  obtain ⟨S26, eS26, h⟩ := l_calV h
  refine rm_callU [.int z1, .int z0] H d_RM_named_108 C_RM_185 (c_RM_join H eS26) rfl rfl rfl (Nat.le_of_ble_eq_true rfl) (by omega) (by show 8 + (3 + 11) + 0 ≤ Lw + 60; omega) ?_
  refine vr_aload_n d_RM_named_111 rfl rfl ?_
  refine vr_bipush 93 d_RM_named_112 (by decide) ?_
  obtain ⟨S27, eS27, h⟩ := l_calV h
  refine rm_callU [.int 93] H d_RM_named_114 C_RM_176 (c_RM_take H eS27) rfl rfl rfl (Nat.le_of_ble_eq_true rfl) (by omega) (by show 8 + (2 + 11) + 21 ≤ Lw + 60; omega) ?_
  refine vr_aload_n d_RM_named_117 rfl rfl ?_
  refine vr_bipush 61 d_RM_named_118 (by decide) ?_
  obtain ⟨S28, eS28, h⟩ := l_calV h
  refine rm_callU [.int 61] H d_RM_named_120 C_RM_176 (c_RM_take H eS28) rfl rfl rfl (Nat.le_of_ble_eq_true rfl) (by omega) (by show 8 + (2 + 11) + 21 ≤ Lw + 60; omega) ?_
  refine vr_aload_n d_RM_named_123 rfl rfl ?_
  refine vr_iload d_RM_named_124 rfl ?_
  refine vr_aload_n d_RM_named_126 rfl rfl ?_
  refine rm_getI H d_RM_named_127 F_RM_155 rfl ?_
  refine vr_if_eq (tgt := 137) d_RM_named_130 (by decide) (fun c130 => ?_) (fun c130 => ?_)
  · replace h := l_ifp c130 h
    refine vr_aload_n d_RM_named_137 rfl rfl ?_
    refine vr_iload_n d_RM_named_138 rfl rfl ?_
    refine vr_iconst 1 d_RM_named_139 (by decide) ?_
    refine vr_iadd d_RM_named_140 ?_
    obtain ⟨v29, S29, ev29, h⟩ := l_calI h
    refine rm_callI [.int (y2 + 1)] H d_RM_named_141 C_RM_199 (h_RM_sum _ _ _ ev29) rfl rfl rfl (Nat.le_of_ble_eq_true rfl) (by omega) (by show 8 + (5 + 11) + Lw ≤ Lw + 60; omega) ?_
    obtain ⟨S30, eS30, h⟩ := l_calV h
    refine rm_callU [.int y4, .int v29] H d_RM_named_144 C_RM_185 (c_RM_join H eS30) rfl rfl rfl (Nat.le_of_ble_eq_true rfl) (by omega) (by show 8 + (3 + 11) + 0 ≤ Lw + 60; omega) ?_
    refine vr_iload d_RM_named_147 rfl ?_
    cases h
    exact vr_iret d_RM_named_149 rfl rfl ⟨rfl, rfl⟩
  · replace h := l_ifn c130 h
    refine vr_iconst (-1) d_RM_named_133 (by decide) ?_
    refine vr_goto (tgt := 144) d_RM_named_134 (by decide) ?_
    obtain ⟨S31, eS31, h⟩ := l_calV h
    refine rm_callU [.int y4, .int (-1)] H d_RM_named_144 C_RM_185 (c_RM_join H eS31) rfl rfl rfl (Nat.le_of_ble_eq_true rfl) (by omega) (by show 8 + (3 + 11) + 0 ≤ Lw + 60; omega) ?_
    refine vr_iload d_RM_named_147 rfl ?_
    cases h
    exact vr_iret d_RM_named_149 rfl rfl ⟨rfl, rfl⟩

def f_RM_named (N : Nat) (p_RM_sums : Int32 → Int32 → rm_S → Option (rm_S)) (p_RM_sum : Int32 → rm_S → Option (Int32 × rm_S)) (x1 : Int32) (x2 : Int32) (S : rm_S) : Option (Int32 × rm_S) := calI (f_RM_name N S) fun v1 S1 => calI (f_RM_look N S1) fun v2 S2 => if v2 = 40 then (calI (f_RM_draft N 7 x1 0 S2) fun v16 S16 => calI (f_RM_draft N 33 x1 0 S16) fun v17 S17 => calV (f_RM_join N v16 v17 S17) fun S18 => calV (f_RM_join N v16 v1 S18) fun S19 => calV (p_RM_sums v16 x2 S19) fun S20 => some (v16, S20)) else (calI (f_RM_look N S2) fun v3 S3 => if v3 = 91 then (calI (f_RM_draft N 6 x1 0 S3) fun v12 S12 => calV (f_RM_join N v12 v1 S12) fun S13 => calV (f_RM_take N 91 S13) fun S14 => if (S14.1 13) = 0 then (calI (p_RM_sum ((x2 + 1)) S14) fun v15 S15 => k_RM_named_108 N p_RM_sums p_RM_sum x2 v12 v15 v12 S15) else (k_RM_named_108 N p_RM_sums p_RM_sum x2 v12 (-1) v12 S14)) else (calV (f_RM_take N 61 S3) fun S4 => calI (f_RM_look N S4) fun v5 S5 => if v5 = 2 then (chk (ib ((S5.1 12) + 1) 8002) <| if (S5.2 4 (Int32.toNatClampNeg ((S5.1 12) + 1))) = 40 then (calI (f_RM_draft N 7 x1 0 S5) fun v7 S7 => calV (f_RM_join N v7 v1 S7) fun S8 => calI (f_RM_name N S8) fun v9 S9 => calV (f_RM_join N v7 v9 S9) fun S10 => calV (p_RM_sums v7 x2 S10) fun S11 => some (v7, S11)) else (k_RM_named_217 N p_RM_sums p_RM_sum x1 x2 v1 S5)) else (k_RM_named_217 N p_RM_sums p_RM_sum x1 x2 v1 S5)))
theorem c_RM_named {g : mv_G} {σ : mh_H} {m : Nat} {N : Nat} {p_RM_sums : Int32 → Int32 → rm_S → Option (rm_S)} {p_RM_sum : Int32 → rm_S → Option (Int32 × rm_S)} (H : rm_H g σ m) {F Lw : Nat} (h_RM_sums : rkV2 g σ m M_RM_sums F Lw p_RM_sums) (h_RM_sum : rkI1 g σ m M_RM_sum F Lw p_RM_sum) (hF : 40 ≤ F) (hLw : 1000 ≤ Lw) : rkI2 g σ m M_RM_named (F + 1) (Lw + 60) (f_RM_named N p_RM_sums p_RM_sum) := by
  intro x1 x2 S r h
  refine mv_entry (L := [some (.ref m), some (.int x1), some (.int x2), none, none]) rfl rfl (Nat.le_of_ble_eq_true rfl) rfl ?_
  unfold f_RM_named at h
  refine vr_aload_n d_RM_named_0 rfl rfl ?_
  obtain ⟨v1, S1, ev1, h⟩ := l_calI h
  refine rm_callI [] H d_RM_named_1 C_RM_196 (c_RM_name H ev1) rfl rfl rfl (Nat.le_of_ble_eq_true rfl) (by omega) (by show 8 + (2 + 11) + 42 ≤ Lw + 60; omega) ?_
  refine vr_istore_n (L' := [some (.ref m), some (.int x1), some (.int x2), some (.int v1), none]) d_RM_named_4 rfl (by decide) rfl ?_
  refine vr_aload_n d_RM_named_5 rfl rfl ?_
  obtain ⟨v2, S2, ev2, h⟩ := l_calI h
  refine rm_callI [] H d_RM_named_6 C_RM_162 (c_RM_look H ev2) rfl rfl rfl (Nat.le_of_ble_eq_true rfl) (by omega) (by show 8 + (1 + 11) + 0 ≤ Lw + 60; omega) ?_
  refine vr_bipush 40 d_RM_named_9 (by decide) ?_
  refine vr_icmp_ne (tgt := 55) d_RM_named_11 (by decide) (fun c11 => ?_) (fun c11 => ?_)
  · replace h := l_ifn c11 h
    refine vr_aload_n d_RM_named_55 rfl rfl ?_
    obtain ⟨v3, S3, ev3, h⟩ := l_calI h
    refine rm_callI [] H d_RM_named_56 C_RM_162 (c_RM_look H ev3) rfl rfl rfl (Nat.le_of_ble_eq_true rfl) (by omega) (by show 8 + (1 + 11) + 0 ≤ Lw + 60; omega) ?_
    refine vr_bipush 91 d_RM_named_59 (by decide) ?_
    refine vr_icmp_ne (tgt := 150) d_RM_named_61 (by decide) (fun c61 => ?_) (fun c61 => ?_)
    · replace h := l_ifn c61 h
      refine vr_aload_n d_RM_named_150 rfl rfl ?_
      refine vr_bipush 61 d_RM_named_151 (by decide) ?_
      obtain ⟨S4, eS4, h⟩ := l_calV h
      refine rm_callU [.int 61] H d_RM_named_153 C_RM_176 (c_RM_take H eS4) rfl rfl rfl (Nat.le_of_ble_eq_true rfl) (by omega) (by show 8 + (2 + 11) + 21 ≤ Lw + 60; omega) ?_
      refine vr_aload_n d_RM_named_156 rfl rfl ?_
      obtain ⟨v5, S5, ev5, h⟩ := l_calI h
      refine rm_callI [] H d_RM_named_157 C_RM_162 (c_RM_look H ev5) rfl rfl rfl (Nat.le_of_ble_eq_true rfl) (by omega) (by show 8 + (1 + 11) + 0 ≤ Lw + 60; omega) ?_
      refine vr_iconst 2 d_RM_named_160 (by decide) ?_
      refine vr_icmp_ne (tgt := 217) d_RM_named_161 (by decide) (fun c161 => ?_) (fun c161 => ?_)
      · replace h := l_ifn c161 h
        exact mv_drop (q_RM_named_217 H h_RM_sums h_RM_sum hF hLw _ _ _ _ _ h) (And.intro rfl (And.intro rfl (And.intro rfl (And.intro rfl trivial))))
      · replace h := l_ifp c161 h
        refine vr_aload_n d_RM_named_164 rfl rfl ?_
        refine rm_getR (o := 4) H d_RM_named_165 F_RM_19 rfl (by decide) ?_
        refine vr_aload_n d_RM_named_168 rfl rfl ?_
        refine rm_getI H d_RM_named_169 F_RM_159 rfl ?_
        refine vr_iconst 1 d_RM_named_172 (by decide) ?_
        refine vr_iadd d_RM_named_173 ?_
        have q6 := (l_chk h).1
        replace h := (l_chk h).2
        refine rm_ald (o := 4) H (by decide) (by decide) d_RM_named_174 (ib_in q6) ?_
        refine vr_bipush 40 d_RM_named_175 (by decide) ?_
        refine vr_icmp_ne (tgt := 217) d_RM_named_177 (by decide) (fun c177 => ?_) (fun c177 => ?_)
        · replace h := l_ifn c177 h
          exact mv_drop (q_RM_named_217 H h_RM_sums h_RM_sum hF hLw _ _ _ _ _ h) (And.intro rfl (And.intro rfl (And.intro rfl (And.intro rfl trivial))))
        · replace h := l_ifp c177 h
          refine vr_aload_n d_RM_named_180 rfl rfl ?_
          refine vr_bipush 7 d_RM_named_181 (by decide) ?_
          refine vr_iload_n d_RM_named_183 rfl rfl ?_
          refine vr_iconst 0 d_RM_named_184 (by decide) ?_
          obtain ⟨v7, S7, ev7, h⟩ := l_calI h
          refine rm_callI [.int 7, .int x1, .int 0] H d_RM_named_185 C_RM_172 (c_RM_draft H ev7) rfl rfl rfl (Nat.le_of_ble_eq_true rfl) (by omega) (by show 8 + (4 + 11) + 0 ≤ Lw + 60; omega) ?_
          refine vr_istore (L' := [some (.ref m), some (.int x1), some (.int x2), some (.int v1), some (.int v7)]) d_RM_named_188 (by decide) rfl ?_
          refine vr_aload_n d_RM_named_190 rfl rfl ?_
          refine vr_iload d_RM_named_191 rfl ?_
          refine vr_iload_n d_RM_named_193 rfl rfl ?_
          obtain ⟨S8, eS8, h⟩ := l_calV h
          refine rm_callU [.int v7, .int v1] H d_RM_named_194 C_RM_185 (c_RM_join H eS8) rfl rfl rfl (Nat.le_of_ble_eq_true rfl) (by omega) (by show 8 + (3 + 11) + 0 ≤ Lw + 60; omega) ?_
          refine vr_aload_n d_RM_named_197 rfl rfl ?_
          refine vr_iload d_RM_named_198 rfl ?_
          refine vr_aload_n d_RM_named_200 rfl rfl ?_
          obtain ⟨v9, S9, ev9, h⟩ := l_calI h
          refine rm_callI [] H d_RM_named_201 C_RM_196 (c_RM_name H ev9) rfl rfl rfl (Nat.le_of_ble_eq_true rfl) (by omega) (by show 8 + (2 + 11) + 42 ≤ Lw + 60; omega) ?_
          obtain ⟨S10, eS10, h⟩ := l_calV h
          refine rm_callU [.int v7, .int v9] H d_RM_named_204 C_RM_185 (c_RM_join H eS10) rfl rfl rfl (Nat.le_of_ble_eq_true rfl) (by omega) (by show 8 + (3 + 11) + 0 ≤ Lw + 60; omega) ?_
          refine vr_aload_n d_RM_named_207 rfl rfl ?_
          refine vr_iload d_RM_named_208 rfl ?_
          refine vr_iload_n d_RM_named_210 rfl rfl ?_
          obtain ⟨S11, eS11, h⟩ := l_calV h
          refine rm_callU [.int v7, .int x2] H d_RM_named_211 C_RM_220 (h_RM_sums _ _ _ _ eS11) rfl rfl rfl (Nat.le_of_ble_eq_true rfl) (by omega) (by show 8 + (3 + 11) + Lw ≤ Lw + 60; omega) ?_
          refine vr_iload d_RM_named_214 rfl ?_
          cases h
          exact vr_iret d_RM_named_216 rfl rfl ⟨rfl, rfl⟩
    · replace h := l_ifp c61 h
      refine vr_aload_n d_RM_named_64 rfl rfl ?_
      refine vr_bipush 6 d_RM_named_65 (by decide) ?_
      refine vr_iload_n d_RM_named_67 rfl rfl ?_
      refine vr_iconst 0 d_RM_named_68 (by decide) ?_
      obtain ⟨v12, S12, ev12, h⟩ := l_calI h
      refine rm_callI [.int 6, .int x1, .int 0] H d_RM_named_69 C_RM_172 (c_RM_draft H ev12) rfl rfl rfl (Nat.le_of_ble_eq_true rfl) (by omega) (by show 8 + (4 + 11) + 0 ≤ Lw + 60; omega) ?_
      refine vr_istore (L' := [some (.ref m), some (.int x1), some (.int x2), some (.int v1), some (.int v12)]) d_RM_named_72 (by decide) rfl ?_
      refine vr_aload_n d_RM_named_74 rfl rfl ?_
      refine vr_iload d_RM_named_75 rfl ?_
      refine vr_iload_n d_RM_named_77 rfl rfl ?_
      obtain ⟨S13, eS13, h⟩ := l_calV h
      refine rm_callU [.int v12, .int v1] H d_RM_named_78 C_RM_185 (c_RM_join H eS13) rfl rfl rfl (Nat.le_of_ble_eq_true rfl) (by omega) (by show 8 + (3 + 11) + 0 ≤ Lw + 60; omega) ?_
      refine vr_aload_n d_RM_named_81 rfl rfl ?_
      refine vr_bipush 91 d_RM_named_82 (by decide) ?_
      obtain ⟨S14, eS14, h⟩ := l_calV h
      refine rm_callU [.int 91] H d_RM_named_84 C_RM_176 (c_RM_take H eS14) rfl rfl rfl (Nat.le_of_ble_eq_true rfl) (by omega) (by show 8 + (2 + 11) + 21 ≤ Lw + 60; omega) ?_
      refine vr_aload_n d_RM_named_87 rfl rfl ?_
      refine vr_iload d_RM_named_88 rfl ?_
      refine vr_aload_n d_RM_named_90 rfl rfl ?_
      refine rm_getI H d_RM_named_91 F_RM_155 rfl ?_
      refine vr_if_eq (tgt := 101) d_RM_named_94 (by decide) (fun c94 => ?_) (fun c94 => ?_)
      · replace h := l_ifp c94 h
        refine vr_aload_n d_RM_named_101 rfl rfl ?_
        refine vr_iload_n d_RM_named_102 rfl rfl ?_
        refine vr_iconst 1 d_RM_named_103 (by decide) ?_
        refine vr_iadd d_RM_named_104 ?_
        obtain ⟨v15, S15, ev15, h⟩ := l_calI h
        refine rm_callI [.int (x2 + 1)] H d_RM_named_105 C_RM_199 (h_RM_sum _ _ _ ev15) rfl rfl rfl (Nat.le_of_ble_eq_true rfl) (by omega) (by show 8 + (5 + 11) + Lw ≤ Lw + 60; omega) ?_
        exact mv_drop (q_RM_named_108 H h_RM_sums h_RM_sum hF hLw _ _ _ _ _ _ h) (And.intro rfl (And.intro rfl (And.intro rfl trivial)))
      · replace h := l_ifn c94 h
        refine vr_iconst (-1) d_RM_named_97 (by decide) ?_
        refine vr_goto (tgt := 108) d_RM_named_98 (by decide) ?_
        exact mv_drop (q_RM_named_108 H h_RM_sums h_RM_sum hF hLw _ _ _ _ _ _ h) (And.intro rfl (And.intro rfl (And.intro rfl trivial)))
  · replace h := l_ifp c11 h
    refine vr_aload_n d_RM_named_14 rfl rfl ?_
    refine vr_bipush 7 d_RM_named_15 (by decide) ?_
    refine vr_iload_n d_RM_named_17 rfl rfl ?_
    refine vr_iconst 0 d_RM_named_18 (by decide) ?_
    obtain ⟨v16, S16, ev16, h⟩ := l_calI h
    refine rm_callI [.int 7, .int x1, .int 0] H d_RM_named_19 C_RM_172 (c_RM_draft H ev16) rfl rfl rfl (Nat.le_of_ble_eq_true rfl) (by omega) (by show 8 + (4 + 11) + 0 ≤ Lw + 60; omega) ?_
    refine vr_istore (L' := [some (.ref m), some (.int x1), some (.int x2), some (.int v1), some (.int v16)]) d_RM_named_22 (by decide) rfl ?_
    refine vr_aload_n d_RM_named_24 rfl rfl ?_
    refine vr_iload d_RM_named_25 rfl ?_
    refine vr_aload_n d_RM_named_27 rfl rfl ?_
    refine vr_bipush 33 d_RM_named_28 (by decide) ?_
    refine vr_iload_n d_RM_named_30 rfl rfl ?_
    refine vr_iconst 0 d_RM_named_31 (by decide) ?_
    obtain ⟨v17, S17, ev17, h⟩ := l_calI h
    refine rm_callI [.int 33, .int x1, .int 0] H d_RM_named_32 C_RM_172 (c_RM_draft H ev17) rfl rfl rfl (Nat.le_of_ble_eq_true rfl) (by omega) (by show 8 + (4 + 11) + 0 ≤ Lw + 60; omega) ?_
    obtain ⟨S18, eS18, h⟩ := l_calV h
    refine rm_callU [.int v16, .int v17] H d_RM_named_35 C_RM_185 (c_RM_join H eS18) rfl rfl rfl (Nat.le_of_ble_eq_true rfl) (by omega) (by show 8 + (3 + 11) + 0 ≤ Lw + 60; omega) ?_
    refine vr_aload_n d_RM_named_38 rfl rfl ?_
    refine vr_iload d_RM_named_39 rfl ?_
    refine vr_iload_n d_RM_named_41 rfl rfl ?_
    obtain ⟨S19, eS19, h⟩ := l_calV h
    refine rm_callU [.int v16, .int v1] H d_RM_named_42 C_RM_185 (c_RM_join H eS19) rfl rfl rfl (Nat.le_of_ble_eq_true rfl) (by omega) (by show 8 + (3 + 11) + 0 ≤ Lw + 60; omega) ?_
    refine vr_aload_n d_RM_named_45 rfl rfl ?_
    refine vr_iload d_RM_named_46 rfl ?_
    refine vr_iload_n d_RM_named_48 rfl rfl ?_
    obtain ⟨S20, eS20, h⟩ := l_calV h
    refine rm_callU [.int v16, .int x2] H d_RM_named_49 C_RM_220 (h_RM_sums _ _ _ _ eS20) rfl rfl rfl (Nat.le_of_ble_eq_true rfl) (by omega) (by show 8 + (3 + 11) + Lw ≤ Lw + 60; omega) ?_
    refine vr_iload d_RM_named_52 rfl ?_
    cases h
    exact vr_iret d_RM_named_54 rfl rfl ⟨rfl, rfl⟩

def k_RM_function_83 (N : Nat) (p_RM_block : Int32 → rm_S → Option (Int32 × rm_S)) (y1 : Int32) (S : rm_S) : Option (Int32 × rm_S) := calV (f_RM_take N 41 S) fun S10 => if (S10.1 13) = 0 then (calI (p_RM_block 1 S10) fun v11 S11 => calV (f_RM_join N y1 v11 S11) fun S12 => some (y1, S12)) else (calV (f_RM_join N y1 (-1) S10) fun S13 => some (y1, S13))
theorem q_RM_function_83 {g : mv_G} {σ : mh_H} {m : Nat} {N : Nat} {p_RM_block : Int32 → rm_S → Option (Int32 × rm_S)} (H : rm_H g σ m) {F Lw : Nat} (h_RM_block : rkI1 g σ m M_RM_block F Lw p_RM_block) (hF : 40 ≤ F) (hLw : 1000 ≤ Lw) (y1 : Int32) (S : rm_S) (r : Int32 × rm_S) (h : k_RM_function_83 N p_RM_block y1 S = some r) : mv_V g M_RM_function (F + 1) (Lw + 60) 0 0 83 [some (.ref m), some (.int y1)] [] (rz σ m S) (fun oc τ => τ = rz σ m r.2 ∧ oc = .returned (some (.int r.1))) := by
  unfold k_RM_function_83 at h
  refine vr_aload_n d_RM_function_83 rfl rfl ?_
  refine vr_bipush 41 d_RM_function_84 (by decide) ?_
  obtain ⟨S10, eS10, h⟩ := l_calV h
  refine rm_callU [.int 41] H d_RM_function_86 C_RM_176 (c_RM_take H eS10) rfl rfl rfl (Nat.le_of_ble_eq_true rfl) (by omega) (by show 8 + (2 + 11) + 21 ≤ Lw + 60; omega) ?_
  refine vr_aload_n d_RM_function_89 rfl rfl ?_
  refine vr_iload_n d_RM_function_90 rfl rfl ?_
  refine vr_aload_n d_RM_function_91 rfl rfl ?_
  refine rm_getI H d_RM_function_92 F_RM_155 rfl ?_
  refine vr_if_eq (tgt := 102) d_RM_function_95 (by decide) (fun c95 => ?_) (fun c95 => ?_)
  · replace h := l_ifp c95 h
    refine vr_aload_n d_RM_function_102 rfl rfl ?_
    refine vr_iconst 1 d_RM_function_103 (by decide) ?_
    obtain ⟨v11, S11, ev11, h⟩ := l_calI h
    refine rm_callI [.int 1] H d_RM_function_104 C_RM_217 (h_RM_block _ _ _ ev11) rfl rfl rfl (Nat.le_of_ble_eq_true rfl) (by omega) (by show 8 + (3 + 11) + Lw ≤ Lw + 60; omega) ?_
    obtain ⟨S12, eS12, h⟩ := l_calV h
    refine rm_callU [.int y1, .int v11] H d_RM_function_107 C_RM_185 (c_RM_join H eS12) rfl rfl rfl (Nat.le_of_ble_eq_true rfl) (by omega) (by show 8 + (3 + 11) + 0 ≤ Lw + 60; omega) ?_
    refine vr_iload_n d_RM_function_110 rfl rfl ?_
    cases h
    exact vr_iret d_RM_function_111 rfl rfl ⟨rfl, rfl⟩
  · replace h := l_ifn c95 h
    refine vr_iconst (-1) d_RM_function_98 (by decide) ?_
    refine vr_goto (tgt := 107) d_RM_function_99 (by decide) ?_
    obtain ⟨S13, eS13, h⟩ := l_calV h
    refine rm_callU [.int y1, .int (-1)] H d_RM_function_107 C_RM_185 (c_RM_join H eS13) rfl rfl rfl (Nat.le_of_ble_eq_true rfl) (by omega) (by show 8 + (3 + 11) + 0 ≤ Lw + 60; omega) ?_
    refine vr_iload_n d_RM_function_110 rfl rfl ?_
    cases h
    exact vr_iret d_RM_function_111 rfl rfl ⟨rfl, rfl⟩

def k_RM_function_56 (N : Nat) (p_RM_block : Int32 → rm_S → Option (Int32 × rm_S)) : Nat → Int32 → rm_S → Option (Int32 × rm_S)
  | 0, _, _ => none
  | n + 1, y1, S => calI (f_RM_look N S) fun v14 S14 => if v14 = 44 then (calV (f_RM_take N 44 S14) fun S15 => calI (f_RM_name N S15) fun v16 S16 => calV (f_RM_join N y1 v16 S16) fun S17 => k_RM_function_56 N p_RM_block n y1 S17) else (k_RM_function_83 N p_RM_block y1 S14)
theorem q_RM_function_56 {g : mv_G} {σ : mh_H} {m : Nat} {N : Nat} {p_RM_block : Int32 → rm_S → Option (Int32 × rm_S)} (H : rm_H g σ m) {F Lw : Nat} (h_RM_block : rkI1 g σ m M_RM_block F Lw p_RM_block) (hF : 40 ≤ F) (hLw : 1000 ≤ Lw) : ∀ (n : Nat) (y1 : Int32) (S : rm_S) (r : Int32 × rm_S), k_RM_function_56 N p_RM_block n y1 S = some r → mv_V g M_RM_function (F + 1) (Lw + 60) 0 0 56 [some (.ref m), some (.int y1)] [] (rz σ m S) (fun oc τ => τ = rz σ m r.2 ∧ oc = .returned (some (.int r.1))) := by
  intro n
  induction n with
  | zero =>
    intro y1 S r h
    exact absurd h (by simp [k_RM_function_56])
  | succ n ih =>
    intro y1 S r h 
    unfold k_RM_function_56 at h
    refine vr_aload_n d_RM_function_56 rfl rfl ?_
    obtain ⟨v14, S14, ev14, h⟩ := l_calI h
    refine rm_callI [] H d_RM_function_57 C_RM_162 (c_RM_look H ev14) rfl rfl rfl (Nat.le_of_ble_eq_true rfl) (by omega) (by show 8 + (1 + 11) + 0 ≤ Lw + 60; omega) ?_
    refine vr_bipush 44 d_RM_function_60 (by decide) ?_
    refine vr_icmp_ne (tgt := 83) d_RM_function_62 (by decide) (fun c62 => ?_) (fun c62 => ?_)
    · replace h := l_ifn c62 h
      exact mv_drop (q_RM_function_83 H h_RM_block hF hLw _ _ _ h) (And.intro rfl (And.intro rfl trivial))
    · replace h := l_ifp c62 h
      refine vr_aload_n d_RM_function_65 rfl rfl ?_
      refine vr_bipush 44 d_RM_function_66 (by decide) ?_
      obtain ⟨S15, eS15, h⟩ := l_calV h
      refine rm_callU [.int 44] H d_RM_function_68 C_RM_176 (c_RM_take H eS15) rfl rfl rfl (Nat.le_of_ble_eq_true rfl) (by omega) (by show 8 + (2 + 11) + 21 ≤ Lw + 60; omega) ?_
      refine vr_aload_n d_RM_function_71 rfl rfl ?_
      refine vr_iload_n d_RM_function_72 rfl rfl ?_
      refine vr_aload_n d_RM_function_73 rfl rfl ?_
      obtain ⟨v16, S16, ev16, h⟩ := l_calI h
      refine rm_callI [] H d_RM_function_74 C_RM_196 (c_RM_name H ev16) rfl rfl rfl (Nat.le_of_ble_eq_true rfl) (by omega) (by show 8 + (2 + 11) + 42 ≤ Lw + 60; omega) ?_
      obtain ⟨S17, eS17, h⟩ := l_calV h
      refine rm_callU [.int y1, .int v16] H d_RM_function_77 C_RM_185 (c_RM_join H eS17) rfl rfl rfl (Nat.le_of_ble_eq_true rfl) (by omega) (by show 8 + (3 + 11) + 0 ≤ Lw + 60; omega) ?_
      refine vr_goto (tgt := 56) d_RM_function_80 (by decide) ?_
      exact mv_drop (ih _ _ _ h) (And.intro rfl (And.intro rfl trivial))

def f_RM_function (N : Nat) (p_RM_block : Int32 → rm_S → Option (Int32 × rm_S)) (S : rm_S) : Option (Int32 × rm_S) := chk (ib (S.1 12) 8002) <| calI (f_RM_draft N 1 ((S.2 5 (Int32.toNatClampNeg (S.1 12)))) 0 S) fun v2 S2 => calV (f_RM_take N 300 S2) fun S3 => calI (f_RM_name N S3) fun v4 S4 => calV (f_RM_join N v2 v4 S4) fun S5 => calV (f_RM_take N 40 S5) fun S6 => calI (f_RM_look N S6) fun v7 S7 => if v7 = 41 then (k_RM_function_83 N p_RM_block v2 S7) else (calI (f_RM_name N S7) fun v8 S8 => calV (f_RM_join N v2 v8 S8) fun S9 => k_RM_function_56 N p_RM_block N v2 S9)
theorem c_RM_function {g : mv_G} {σ : mh_H} {m : Nat} {N : Nat} {p_RM_block : Int32 → rm_S → Option (Int32 × rm_S)} (H : rm_H g σ m) {F Lw : Nat} (h_RM_block : rkI1 g σ m M_RM_block F Lw p_RM_block) (hF : 40 ≤ F) (hLw : 1000 ≤ Lw) : rkI0 g σ m M_RM_function (F + 1) (Lw + 60) (f_RM_function N p_RM_block) := by
  intro S r h
  refine mv_entry (L := [some (.ref m), none]) rfl rfl (Nat.le_of_ble_eq_true rfl) rfl ?_
  unfold f_RM_function at h
  refine vr_aload_n d_RM_function_0 rfl rfl ?_
  refine vr_iconst 1 d_RM_function_1 (by decide) ?_
  refine vr_aload_n d_RM_function_2 rfl rfl ?_
  refine rm_getR (o := 5) H d_RM_function_3 F_RM_22 rfl (by decide) ?_
  refine vr_aload_n d_RM_function_6 rfl rfl ?_
  refine rm_getI H d_RM_function_7 F_RM_159 rfl ?_
  have q1 := (l_chk h).1
  replace h := (l_chk h).2
  refine rm_ald (o := 5) H (by decide) (by decide) d_RM_function_10 (ib_in q1) ?_
  refine vr_iconst 0 d_RM_function_11 (by decide) ?_
  obtain ⟨v2, S2, ev2, h⟩ := l_calI h
  refine rm_callI [.int 1, .int (S.2 5 (Int32.toNatClampNeg (S.1 12))), .int 0] H d_RM_function_12 C_RM_172 (c_RM_draft H ev2) rfl rfl rfl (Nat.le_of_ble_eq_true rfl) (by omega) (by show 8 + (4 + 11) + 0 ≤ Lw + 60; omega) ?_
  refine vr_istore_n (L' := [some (.ref m), some (.int v2)]) d_RM_function_15 rfl (by decide) rfl ?_
  refine vr_aload_n d_RM_function_16 rfl rfl ?_
  refine vr_sipush 300 d_RM_function_17 (by decide) ?_
  obtain ⟨S3, eS3, h⟩ := l_calV h
  refine rm_callU [.int 300] H d_RM_function_20 C_RM_176 (c_RM_take H eS3) rfl rfl rfl (Nat.le_of_ble_eq_true rfl) (by omega) (by show 8 + (2 + 11) + 21 ≤ Lw + 60; omega) ?_
  refine vr_aload_n d_RM_function_23 rfl rfl ?_
  refine vr_iload_n d_RM_function_24 rfl rfl ?_
  refine vr_aload_n d_RM_function_25 rfl rfl ?_
  obtain ⟨v4, S4, ev4, h⟩ := l_calI h
  refine rm_callI [] H d_RM_function_26 C_RM_196 (c_RM_name H ev4) rfl rfl rfl (Nat.le_of_ble_eq_true rfl) (by omega) (by show 8 + (2 + 11) + 42 ≤ Lw + 60; omega) ?_
  obtain ⟨S5, eS5, h⟩ := l_calV h
  refine rm_callU [.int v2, .int v4] H d_RM_function_29 C_RM_185 (c_RM_join H eS5) rfl rfl rfl (Nat.le_of_ble_eq_true rfl) (by omega) (by show 8 + (3 + 11) + 0 ≤ Lw + 60; omega) ?_
  refine vr_aload_n d_RM_function_32 rfl rfl ?_
  refine vr_bipush 40 d_RM_function_33 (by decide) ?_
  obtain ⟨S6, eS6, h⟩ := l_calV h
  refine rm_callU [.int 40] H d_RM_function_35 C_RM_176 (c_RM_take H eS6) rfl rfl rfl (Nat.le_of_ble_eq_true rfl) (by omega) (by show 8 + (2 + 11) + 21 ≤ Lw + 60; omega) ?_
  refine vr_aload_n d_RM_function_38 rfl rfl ?_
  obtain ⟨v7, S7, ev7, h⟩ := l_calI h
  refine rm_callI [] H d_RM_function_39 C_RM_162 (c_RM_look H ev7) rfl rfl rfl (Nat.le_of_ble_eq_true rfl) (by omega) (by show 8 + (1 + 11) + 0 ≤ Lw + 60; omega) ?_
  refine vr_bipush 41 d_RM_function_42 (by decide) ?_
  refine vr_icmp_eq (tgt := 83) d_RM_function_44 (by decide) (fun c44 => ?_) (fun c44 => ?_)
  · replace h := l_ifp c44 h
    exact mv_drop (q_RM_function_83 H h_RM_block hF hLw _ _ _ h) (And.intro rfl (And.intro rfl trivial))
  · replace h := l_ifn c44 h
    refine vr_aload_n d_RM_function_47 rfl rfl ?_
    refine vr_iload_n d_RM_function_48 rfl rfl ?_
    refine vr_aload_n d_RM_function_49 rfl rfl ?_
    obtain ⟨v8, S8, ev8, h⟩ := l_calI h
    refine rm_callI [] H d_RM_function_50 C_RM_196 (c_RM_name H ev8) rfl rfl rfl (Nat.le_of_ble_eq_true rfl) (by omega) (by show 8 + (2 + 11) + 42 ≤ Lw + 60; omega) ?_
    obtain ⟨S9, eS9, h⟩ := l_calV h
    refine rm_callU [.int v2, .int v8] H d_RM_function_53 C_RM_185 (c_RM_join H eS9) rfl rfl rfl (Nat.le_of_ble_eq_true rfl) (by omega) (by show 8 + (3 + 11) + 0 ≤ Lw + 60; omega) ?_
    exact mv_drop (q_RM_function_56 H h_RM_block hF hLw N _ _ _ h) (And.intro rfl (And.intro rfl trivial))

def k_RM_read_89 (N : Nat) (p_RM_function : rm_S → Option (Int32 × rm_S)) (k66 : Int32 → rm_S → Option (Int32 × rm_S)) (y1 : Int32) (S : rm_S) : Option (Int32 × rm_S) := calI (f_RM_look N S) fun v5 S5 => if v5 = 0 then (bnd (((rs_i S5 2 0).1 14)) fun v6 => some (v6, (rs_i S5 2 0))) else (if (S5.1 13) = 0 then (k66 y1 S5) else (bnd (((rs_i S5 2 0).1 14)) fun v7 => some (v7, (rs_i S5 2 0))))
theorem q_RM_read_89 {g : mv_G} {σ : mh_H} {m : Nat} {N : Nat} {p_RM_function : rm_S → Option (Int32 × rm_S)} {k66 : Int32 → rm_S → Option (Int32 × rm_S)} (H : rm_H g σ m) {F Lw : Nat} (h_RM_function : rkI0 g σ m M_RM_function F Lw p_RM_function) (hF : 40 ≤ F) (hLw : 1000 ≤ Lw) (hk66 : ∀ (y1 : Int32) (S : rm_S) (r : Int32 × rm_S), k66 y1 S = some r → mv_V g M_RM_read (F + 1) (Lw + 60) 0 0 66 [some (.ref m), some (.int y1), none, none] [] (rz σ m S) (fun oc τ => τ = rz σ m r.2 ∧ oc = .returned (some (.int r.1)))) (y1 : Int32) (S : rm_S) (r : Int32 × rm_S) (h : k_RM_read_89 N p_RM_function k66 y1 S = some r) : mv_V g M_RM_read (F + 1) (Lw + 60) 0 0 89 [some (.ref m), some (.int y1), none, none] [] (rz σ m S) (fun oc τ => τ = rz σ m r.2 ∧ oc = .returned (some (.int r.1))) := by
  unfold k_RM_read_89 at h
  refine vr_aload_n d_RM_read_89 rfl rfl ?_
  obtain ⟨v5, S5, ev5, h⟩ := l_calI h
  refine rm_callI [] H d_RM_read_90 C_RM_162 (c_RM_look H ev5) rfl rfl rfl (Nat.le_of_ble_eq_true rfl) (by omega) (by show 8 + (1 + 11) + 0 ≤ Lw + 60; omega) ?_
  refine vr_if_eq (tgt := 103) d_RM_read_93 (by decide) (fun c93 => ?_) (fun c93 => ?_)
  · replace h := l_ifp c93 h
    refine vr_aload_n d_RM_read_103 rfl rfl ?_
    refine vr_iconst 0 d_RM_read_104 (by decide) ?_
    refine rm_putI H d_RM_read_105 W_RM_read_107 rfl rfl rfl ?_
    refine vr_aload_n d_RM_read_108 rfl rfl ?_
    refine rm_getI H d_RM_read_109 F_RM_28 rfl ?_
    obtain ⟨v6, ev6, h⟩ := l_bnd h
    refine vr_nm ev6 ?_
    cases h
    exact vr_iret d_RM_read_112 rfl rfl ⟨rfl, rfl⟩
  · replace h := l_ifn c93 h
    refine vr_aload_n d_RM_read_96 rfl rfl ?_
    refine rm_getI H d_RM_read_97 F_RM_155 rfl ?_
    refine vr_if_eq (tgt := 66) d_RM_read_100 (by decide) (fun c100 => ?_) (fun c100 => ?_)
    · replace h := l_ifp c100 h
      exact mv_drop (hk66 _ _ _ h) (And.intro rfl (And.intro rfl trivial))
    · replace h := l_ifn c100 h
      refine vr_aload_n d_RM_read_103 rfl rfl ?_
      refine vr_iconst 0 d_RM_read_104 (by decide) ?_
      refine rm_putI H d_RM_read_105 W_RM_read_107 rfl rfl rfl ?_
      refine vr_aload_n d_RM_read_108 rfl rfl ?_
      refine rm_getI H d_RM_read_109 F_RM_28 rfl ?_
      obtain ⟨v7, ev7, h⟩ := l_bnd h
      refine vr_nm ev7 ?_
      cases h
      exact vr_iret d_RM_read_112 rfl rfl ⟨rfl, rfl⟩

def k_RM_read_66 (N : Nat) (p_RM_function : rm_S → Option (Int32 × rm_S)) : Nat → Int32 → rm_S → Option (Int32 × rm_S)
  | 0, _, _ => none
  | n + 1, y1, S => calI (p_RM_function ((rs_i S 21 0))) fun v3 S3 => if (S3.1 13) = 0 then (calV (f_RM_keep N y1 v3 S3) fun S4 => k_RM_read_89 N p_RM_function (k_RM_read_66 N p_RM_function n) y1 S4) else (k_RM_read_89 N p_RM_function (k_RM_read_66 N p_RM_function n) y1 S3)
theorem q_RM_read_66 {g : mv_G} {σ : mh_H} {m : Nat} {N : Nat} {p_RM_function : rm_S → Option (Int32 × rm_S)} (H : rm_H g σ m) {F Lw : Nat} (h_RM_function : rkI0 g σ m M_RM_function F Lw p_RM_function) (hF : 40 ≤ F) (hLw : 1000 ≤ Lw) : ∀ (n : Nat) (y1 : Int32) (S : rm_S) (r : Int32 × rm_S), k_RM_read_66 N p_RM_function n y1 S = some r → mv_V g M_RM_read (F + 1) (Lw + 60) 0 0 66 [some (.ref m), some (.int y1), none, none] [] (rz σ m S) (fun oc τ => τ = rz σ m r.2 ∧ oc = .returned (some (.int r.1))) := by
  intro n
  induction n with
  | zero =>
    intro y1 S r h
    exact absurd h (by simp [k_RM_read_66])
  | succ n ih =>
    intro y1 S r h 
    unfold k_RM_read_66 at h
    refine vr_aload_n d_RM_read_66 rfl rfl ?_
    refine vr_iconst 0 d_RM_read_67 (by decide) ?_
    refine rm_putI H d_RM_read_68 W_RM_read_169 rfl rfl rfl ?_
    refine vr_aload_n d_RM_read_71 rfl rfl ?_
    obtain ⟨v3, S3, ev3, h⟩ := l_calI h
    refine rm_callI [] H d_RM_read_72 C_RM_232 (h_RM_function _ _ ev3) rfl rfl rfl (Nat.le_of_ble_eq_true rfl) (by omega) (by show 8 + (2 + 11) + Lw ≤ Lw + 60; omega) ?_
    refine vr_istore_n (L' := [some (.ref m), some (.int y1), none, some (.int v3)]) d_RM_read_75 rfl (by decide) rfl ?_
    refine vr_aload_n d_RM_read_76 rfl rfl ?_
    refine rm_getI H d_RM_read_77 F_RM_155 rfl ?_
    refine vr_if_ne (tgt := 89) d_RM_read_80 (by decide) (fun c80 => ?_) (fun c80 => ?_)
    · replace h := l_ifn c80 h
      exact mv_drop (q_RM_read_89 H h_RM_function hF hLw ih _ _ _ h) (And.intro rfl (And.intro rfl trivial))
    · replace h := l_ifp c80 h
      refine vr_aload_n d_RM_read_83 rfl rfl ?_
      refine vr_iload_n d_RM_read_84 rfl rfl ?_
      refine vr_iload_n d_RM_read_85 rfl rfl ?_
      obtain ⟨S4, eS4, h⟩ := l_calV h
      refine rm_callU [.int y1, .int v3] H d_RM_read_86 C_RM_235 (c_RM_keep H eS4) rfl rfl rfl (Nat.le_of_ble_eq_true rfl) (by omega) (by show 8 + (7 + 11) + 27 ≤ Lw + 60; omega) ?_
      exact mv_drop (q_RM_read_89 H h_RM_function hF hLw ih _ _ _ h) (And.intro rfl (And.intro rfl trivial))

def k_RM_read_39 (N : Nat) (p_RM_function : rm_S → Option (Int32 × rm_S)) (y1 : Int32) (z0 : Int32) (S : rm_S) : Option (Int32 × rm_S) := calV (f_RM_clear N y1 ((rs_i S 3 z0))) fun S1 => calV (f_RM_scan N S1) fun S2 => k_RM_read_66 N p_RM_function N y1 ((rs_i (rs_i (rs_i S2 12 0) 13 0) 14 (-1)))
theorem q_RM_read_39 {g : mv_G} {σ : mh_H} {m : Nat} {N : Nat} {p_RM_function : rm_S → Option (Int32 × rm_S)} (H : rm_H g σ m) {F Lw : Nat} (h_RM_function : rkI0 g σ m M_RM_function F Lw p_RM_function) (hF : 40 ≤ F) (hLw : 1000 ≤ Lw) (y1 : Int32) (z0 : Int32) (S : rm_S) (r : Int32 × rm_S) (h : k_RM_read_39 N p_RM_function y1 z0 S = some r) : mv_V g M_RM_read (F + 1) (Lw + 60) 0 0 39 [some (.ref m), some (.int y1), none, none] [.int z0, .ref m] (rz σ m S) (fun oc τ => τ = rz σ m r.2 ∧ oc = .returned (some (.int r.1))) := by
  unfold k_RM_read_39 at h
  refine rm_putI H d_RM_read_39 W_RM_read_110 rfl rfl rfl ?_
  refine vr_aload_n d_RM_read_42 rfl rfl ?_
  refine vr_iload_n d_RM_read_43 rfl rfl ?_
  obtain ⟨S1, eS1, h⟩ := l_calV h
  refine rm_callU [.int y1] H d_RM_read_44 C_RM_99 (c_RM_clear H eS1) rfl rfl rfl (Nat.le_of_ble_eq_true rfl) (by omega) (by show 8 + (2 + 11) + 27 ≤ Lw + 60; omega) ?_
  refine vr_aload_n d_RM_read_47 rfl rfl ?_
  obtain ⟨S2, eS2, h⟩ := l_calV h
  refine rm_callU [] H d_RM_read_48 C_RM_229 (c_RM_scan H eS2) rfl rfl rfl (Nat.le_of_ble_eq_true rfl) (by omega) (by show 8 + (6 + 11) + 166 ≤ Lw + 60; omega) ?_
  refine vr_aload_n d_RM_read_51 rfl rfl ?_
  refine vr_iconst 0 d_RM_read_52 (by decide) ?_
  refine rm_putI H d_RM_read_53 W_RM_read_159 rfl rfl rfl ?_
  refine vr_aload_n d_RM_read_56 rfl rfl ?_
  refine vr_iconst 0 d_RM_read_57 (by decide) ?_
  refine rm_putI H d_RM_read_58 W_RM_read_155 rfl rfl rfl ?_
  refine vr_aload_n d_RM_read_61 rfl rfl ?_
  refine vr_iconst (-1) d_RM_read_62 (by decide) ?_
  refine rm_putI H d_RM_read_63 W_RM_read_28 rfl rfl rfl ?_
  exact mv_drop (q_RM_read_66 H h_RM_function hF hLw N _ _ _ h) (And.intro rfl (And.intro rfl trivial))

def f_RM_read (N : Nat) (p_RM_function : rm_S → Option (Int32 × rm_S)) (x1 : Int32) (x2 : Int32) (S : rm_S) : Option (Int32 × rm_S) := if x1 < 0 then (some ((-2), S)) else (if 1 < x1 then (some ((-2), S)) else (if x2 < (-1) then (some ((-2), S)) else (if x2 ≤ (S.1 2) then (if x2 = (-1) then (k_RM_read_39 N p_RM_function x1 ((S.1 2)) S) else (k_RM_read_39 N p_RM_function x1 x2 S)) else (some ((-2), S)))))
theorem c_RM_read {g : mv_G} {σ : mh_H} {m : Nat} {N : Nat} {p_RM_function : rm_S → Option (Int32 × rm_S)} (H : rm_H g σ m) {F Lw : Nat} (h_RM_function : rkI0 g σ m M_RM_function F Lw p_RM_function) (hF : 40 ≤ F) (hLw : 1000 ≤ Lw) : rkI2 g σ m M_RM_read (F + 1) (Lw + 60) (f_RM_read N p_RM_function) := by
  intro x1 x2 S r h
  refine mv_entry (L := [some (.ref m), some (.int x1), some (.int x2), none]) rfl rfl (Nat.le_of_ble_eq_true rfl) rfl ?_
  unfold f_RM_read at h
  refine vr_iload_n d_RM_read_0 rfl rfl ?_
  refine vr_if_lt (tgt := 22) d_RM_read_1 (by decide) (fun c1 => ?_) (fun c1 => ?_)
  · replace h := l_ifp c1 h
    refine vr_bipush (-2) d_RM_read_22 (by decide) ?_
    cases h
    exact vr_iret d_RM_read_24 rfl rfl ⟨rfl, rfl⟩
  · replace h := l_ifn c1 h
    refine vr_iload_n d_RM_read_4 rfl rfl ?_
    refine vr_iconst 1 d_RM_read_5 (by decide) ?_
    refine vr_icmp_gt (tgt := 22) d_RM_read_6 (by decide) (fun c6 => ?_) (fun c6 => ?_)
    · replace h := l_ifp c6 h
      refine vr_bipush (-2) d_RM_read_22 (by decide) ?_
      cases h
      exact vr_iret d_RM_read_24 rfl rfl ⟨rfl, rfl⟩
    · replace h := l_ifn c6 h
      refine vr_iload_n d_RM_read_9 rfl rfl ?_
      refine vr_iconst (-1) d_RM_read_10 (by decide) ?_
      refine vr_icmp_lt (tgt := 22) d_RM_read_11 (by decide) (fun c11 => ?_) (fun c11 => ?_)
      · replace h := l_ifp c11 h
        refine vr_bipush (-2) d_RM_read_22 (by decide) ?_
        cases h
        exact vr_iret d_RM_read_24 rfl rfl ⟨rfl, rfl⟩
      · replace h := l_ifn c11 h
        refine vr_iload_n d_RM_read_14 rfl rfl ?_
        refine vr_aload_n d_RM_read_15 rfl rfl ?_
        refine rm_getI H d_RM_read_16 F_RM_107 rfl ?_
        refine vr_icmp_le (tgt := 25) d_RM_read_19 (by decide) (fun c19 => ?_) (fun c19 => ?_)
        · replace h := l_ifp c19 h
          refine vr_aload_n d_RM_read_25 rfl rfl ?_
          refine vr_iload_n d_RM_read_26 rfl rfl ?_
          refine vr_iconst (-1) d_RM_read_27 (by decide) ?_
          refine vr_icmp_ne (tgt := 38) d_RM_read_28 (by decide) (fun c28 => ?_) (fun c28 => ?_)
          · replace h := l_ifn c28 h
            refine vr_iload_n d_RM_read_38 rfl rfl ?_
            exact mv_drop (q_RM_read_39 H h_RM_function hF hLw _ _ _ _ h) (And.intro rfl (And.intro rfl trivial))
          · replace h := l_ifp c28 h
            refine vr_aload_n d_RM_read_31 rfl rfl ?_
            refine rm_getI H d_RM_read_32 F_RM_107 rfl ?_
            refine vr_goto (tgt := 39) d_RM_read_35 (by decide) ?_
            exact mv_drop (q_RM_read_39 H h_RM_function hF hLw _ _ _ _ h) (And.intro rfl (And.intro rfl trivial))
        · replace h := l_ifn c19 h
          refine vr_bipush (-2) d_RM_read_22 (by decide) ?_
          cases h
          exact vr_iret d_RM_read_24 rfl rfl ⟨rfl, rfl⟩

