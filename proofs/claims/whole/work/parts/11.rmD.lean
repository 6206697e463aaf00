/-! the reference, lifted: the writer -/
def k_RM_inside_10 (N : Nat) (p_RM_show : Int32 → Int32 → rm_S → Option (rm_S)) (y1 : Int32) (y2 : Int32) (y3 : Int32) (y5 : Int32) (S : rm_S) : Option (rm_S) := calV (p_RM_show y1 y2 S) fun S2 => if y3 = 0 then (some (S2)) else (calV (f_RM_begin N y5 S2) fun S3 => some (S3))
theorem q_RM_inside_10 {g : mv_G} {σ : mh_H} {m : Nat} {N : Nat} {p_RM_show : Int32 → Int32 → rm_S → Option (rm_S)} (H : rm_H g σ m) {F Lw : Nat} (h_RM_show : rkV2 g σ m M_RM_show F Lw p_RM_show) (hF : 40 ≤ F) (hLw : 1000 ≤ Lw) (y1 : Int32) (y2 : Int32) (y3 : Int32) (y5 : Int32) (S : rm_S) (r : rm_S) (h : k_RM_inside_10 N p_RM_show y1 y2 y3 y5 S = some r) : mv_V g M_RM_inside (F + 1) (Lw + 60) 0 0 10 [some (.ref m), some (.int y1), some (.int y2), some (.int y3), none, some (.int y5)] [] (rz σ m S) (fun oc τ => τ = rz σ m r ∧ oc = .returned none) := by
  unfold k_RM_inside_10 at h
  refine vr_aload_n d_RM_inside_10 rfl rfl ?_
  refine vr_iload_n d_RM_inside_11 rfl rfl ?_
  refine vr_iload_n d_RM_inside_12 rfl rfl ?_
  obtain ⟨S2, eS2, h⟩ := l_calV h
  refine rm_callU [.int y1, .int y2] H d_RM_inside_13 C_RM_258 (h_RM_show _ _ _ _ eS2) rfl rfl rfl (Nat.le_of_ble_eq_true rfl) (by omega) (by show 8 + (7 + 11) + Lw ≤ Lw + 60; omega) ?_
  refine vr_iload_n d_RM_inside_16 rfl rfl ?_
  refine vr_if_eq (tgt := 26) d_RM_inside_17 (by decide) (fun c17 => ?_) (fun c17 => ?_)
  · replace h := l_ifp c17 h
    cases h
    exact vr_vret d_RM_inside_26 rfl ⟨rfl, rfl⟩
  · replace h := l_ifn c17 h
    refine vr_aload_n d_RM_inside_20 rfl rfl ?_
    refine vr_iload d_RM_inside_21 rfl ?_
    obtain ⟨S3, eS3, h⟩ := l_calV h
    refine rm_callU [.int y5] H d_RM_inside_23 C_RM_253 (c_RM_begin H eS3) rfl rfl rfl (Nat.le_of_ble_eq_true rfl) (by omega) (by show 8 + (2 + 11) + 40 ≤ Lw + 60; omega) ?_
    cases h
    exact vr_vret d_RM_inside_26 rfl ⟨rfl, rfl⟩

def f_RM_inside (N : Nat) (p_RM_show : Int32 → Int32 → rm_S → Option (rm_S)) (x1 : Int32) (x2 : Int32) (x3 : Int32) (x4 : Int32) (x5 : Int32) (S : rm_S) : Option (rm_S) := if x3 = 0 then (k_RM_inside_10 N p_RM_show x1 x2 x3 x5 S) else (calV (f_RM_begin N x4 S) fun S1 => k_RM_inside_10 N p_RM_show x1 x2 x3 x5 S1)
theorem c_RM_inside {g : mv_G} {σ : mh_H} {m : Nat} {N : Nat} {p_RM_show : Int32 → Int32 → rm_S → Option (rm_S)} (H : rm_H g σ m) {F Lw : Nat} (h_RM_show : rkV2 g σ m M_RM_show F Lw p_RM_show) (hF : 40 ≤ F) (hLw : 1000 ≤ Lw) : rkV5 g σ m M_RM_inside (F + 1) (Lw + 60) (f_RM_inside N p_RM_show) := by
  intro x1 x2 x3 x4 x5 S r h
  refine mv_entry (L := [some (.ref m), some (.int x1), some (.int x2), some (.int x3), some (.int x4), some (.int x5)]) rfl rfl (Nat.le_of_ble_eq_true rfl) rfl ?_
  unfold f_RM_inside at h
  refine vr_iload_n d_RM_inside_0 rfl rfl ?_
  refine vr_if_eq (tgt := 10) d_RM_inside_1 (by decide) (fun c1 => ?_) (fun c1 => ?_)
  · replace h := l_ifp c1 h
    exact mv_drop (q_RM_inside_10 H h_RM_show hF hLw _ _ _ _ _ _ h) (And.intro rfl (And.intro rfl (And.intro rfl (And.intro rfl (And.intro rfl trivial)))))
  · replace h := l_ifn c1 h
    refine vr_aload_n d_RM_inside_4 rfl rfl ?_
    refine vr_iload d_RM_inside_5 rfl ?_
    obtain ⟨S1, eS1, h⟩ := l_calV h
    refine rm_callU [.int x4] H d_RM_inside_7 C_RM_253 (c_RM_begin H eS1) rfl rfl rfl (Nat.le_of_ble_eq_true rfl) (by omega) (by show 8 + (2 + 11) + 40 ≤ Lw + 60; omega) ?_
    exact mv_drop (q_RM_inside_10 H h_RM_show hF hLw _ _ _ _ _ _ h) (And.intro rfl (And.intro rfl (And.intro rfl (And.intro rfl (And.intro rfl trivial)))))

def f_RM_sayFactor (N : Nat) (p_RM_inside : Int32 → Int32 → Int32 → Int32 → Int32 → rm_S → Option (rm_S)) (x1 : Int32) (x2 : Int32) (x3 : Int32) (S : rm_S) : Option (rm_S) := calI (f_RM_kindAt N x1 x2 S) fun v1 S1 => if v1 = 17 then (calV (p_RM_inside x1 x2 1 40 41 S1) fun S2 => some (S2)) else (if x3 = 0 then (if v1 = 20 then (calV (p_RM_inside x1 x2 1 40 41 S1) fun S5 => some (S5)) else (calV (p_RM_inside x1 x2 0 40 41 S1) fun S4 => some (S4))) else (calV (p_RM_inside x1 x2 0 40 41 S1) fun S3 => some (S3)))
theorem c_RM_sayFactor {g : mv_G} {σ : mh_H} {m : Nat} {N : Nat} {p_RM_inside : Int32 → Int32 → Int32 → Int32 → Int32 → rm_S → Option (rm_S)} (H : rm_H g σ m) {F Lw : Nat} (h_RM_inside : rkV5 g σ m M_RM_inside F Lw p_RM_inside) (hF : 40 ≤ F) (hLw : 1000 ≤ Lw) : rkV3 g σ m M_RM_sayFactor (F + 1) (Lw + 60) (f_RM_sayFactor N p_RM_inside) := by
  intro x1 x2 x3 S r h
  refine mv_entry (L := [some (.ref m), some (.int x1), some (.int x2), some (.int x3), none]) rfl rfl (Nat.le_of_ble_eq_true rfl) rfl ?_
  unfold f_RM_sayFactor at h
  refine vr_aload_n d_RM_sayFactor_0 rfl rfl ?_
  refine vr_iload_n d_RM_sayFactor_1 rfl rfl ?_
  refine vr_iload_n d_RM_sayFactor_2 rfl rfl ?_
  obtain ⟨v1, S1, ev1, h⟩ := l_calI h
  refine rm_callI [.int x1, .int x2] H d_RM_sayFactor_3 C_RM_261 (c_RM_kindAt H ev1) rfl rfl rfl (Nat.le_of_ble_eq_true rfl) (by omega) (by show 8 + (3 + 11) + 0 ≤ Lw + 60; omega) ?_
  refine vr_istore (L' := [some (.ref m), some (.int x1), some (.int x2), some (.int x3), some (.int v1)]) d_RM_sayFactor_6 (by decide) rfl ?_
  refine vr_aload_n d_RM_sayFactor_8 rfl rfl ?_
  refine vr_iload_n d_RM_sayFactor_9 rfl rfl ?_
  refine vr_iload_n d_RM_sayFactor_10 rfl rfl ?_
  refine vr_iload d_RM_sayFactor_11 rfl ?_
  refine vr_bipush 17 d_RM_sayFactor_13 (by decide) ?_
  refine vr_icmp_eq (tgt := 29) d_RM_sayFactor_15 (by decide) (fun c15 => ?_) (fun c15 => ?_)
  · replace h := l_ifp c15 h
    refine vr_iconst 1 d_RM_sayFactor_29 (by decide) ?_
    refine vr_goto (tgt := 34) d_RM_sayFactor_30 (by decide) ?_
    refine vr_bipush 40 d_RM_sayFactor_34 (by decide) ?_
    refine vr_bipush 41 d_RM_sayFactor_36 (by decide) ?_
    obtain ⟨S2, eS2, h⟩ := l_calV h
    refine rm_callU [.int x1, .int x2, .int 1, .int 40, .int 41] H d_RM_sayFactor_38 C_RM_264 (h_RM_inside _ _ _ _ _ _ _ eS2) rfl rfl rfl (Nat.le_of_ble_eq_true rfl) (by omega) (by show 8 + (6 + 11) + Lw ≤ Lw + 60; omega) ?_
    cases h
    exact vr_vret d_RM_sayFactor_41 rfl ⟨rfl, rfl⟩
  · replace h := l_ifn c15 h
    refine vr_iload_n d_RM_sayFactor_18 rfl rfl ?_
    refine vr_if_ne (tgt := 33) d_RM_sayFactor_19 (by decide) (fun c19 => ?_) (fun c19 => ?_)
    · replace h := l_ifn c19 h
      refine vr_iconst 0 d_RM_sayFactor_33 (by decide) ?_
      refine vr_bipush 40 d_RM_sayFactor_34 (by decide) ?_
      refine vr_bipush 41 d_RM_sayFactor_36 (by decide) ?_
      obtain ⟨S3, eS3, h⟩ := l_calV h
      refine rm_callU [.int x1, .int x2, .int 0, .int 40, .int 41] H d_RM_sayFactor_38 C_RM_264 (h_RM_inside _ _ _ _ _ _ _ eS3) rfl rfl rfl (Nat.le_of_ble_eq_true rfl) (by omega) (by show 8 + (6 + 11) + Lw ≤ Lw + 60; omega) ?_
      cases h
      exact vr_vret d_RM_sayFactor_41 rfl ⟨rfl, rfl⟩
    · replace h := l_ifp c19 h
      refine vr_iload d_RM_sayFactor_22 rfl ?_
      refine vr_bipush 20 d_RM_sayFactor_24 (by decide) ?_
      refine vr_icmp_ne (tgt := 33) d_RM_sayFactor_26 (by decide) (fun c26 => ?_) (fun c26 => ?_)
      · replace h := l_ifn c26 h
        refine vr_iconst 0 d_RM_sayFactor_33 (by decide) ?_
        refine vr_bipush 40 d_RM_sayFactor_34 (by decide) ?_
        refine vr_bipush 41 d_RM_sayFactor_36 (by decide) ?_
        obtain ⟨S4, eS4, h⟩ := l_calV h
        refine rm_callU [.int x1, .int x2, .int 0, .int 40, .int 41] H d_RM_sayFactor_38 C_RM_264 (h_RM_inside _ _ _ _ _ _ _ eS4) rfl rfl rfl (Nat.le_of_ble_eq_true rfl) (by omega) (by show 8 + (6 + 11) + Lw ≤ Lw + 60; omega) ?_
        cases h
        exact vr_vret d_RM_sayFactor_41 rfl ⟨rfl, rfl⟩
      · replace h := l_ifp c26 h
        refine vr_iconst 1 d_RM_sayFactor_29 (by decide) ?_
        refine vr_goto (tgt := 34) d_RM_sayFactor_30 (by decide) ?_
        refine vr_bipush 40 d_RM_sayFactor_34 (by decide) ?_
        refine vr_bipush 41 d_RM_sayFactor_36 (by decide) ?_
        obtain ⟨S5, eS5, h⟩ := l_calV h
        refine rm_callU [.int x1, .int x2, .int 1, .int 40, .int 41] H d_RM_sayFactor_38 C_RM_264 (h_RM_inside _ _ _ _ _ _ _ eS5) rfl rfl rfl (Nat.le_of_ble_eq_true rfl) (by omega) (by show 8 + (6 + 11) + Lw ≤ Lw + 60; omega) ?_
        cases h
        exact vr_vret d_RM_sayFactor_41 rfl ⟨rfl, rfl⟩

def f_RM_sayTest (N : Nat) (p_RM_inside : Int32 → Int32 → Int32 → Int32 → Int32 → rm_S → Option (rm_S)) (x1 : Int32) (x2 : Int32) (x3 : Int32) (S : rm_S) : Option (rm_S) := calI (f_RM_kindAt N x1 x2 S) fun v1 S1 => if v1 = 24 then (calV (p_RM_inside x1 x2 1 91 93 S1) fun S2 => some (S2)) else (if x3 = 0 then (if v1 = 25 then (calV (p_RM_inside x1 x2 1 91 93 S1) fun S5 => some (S5)) else (calV (p_RM_inside x1 x2 0 91 93 S1) fun S4 => some (S4))) else (calV (p_RM_inside x1 x2 0 91 93 S1) fun S3 => some (S3)))
theorem c_RM_sayTest {g : mv_G} {σ : mh_H} {m : Nat} {N : Nat} {p_RM_inside : Int32 → Int32 → Int32 → Int32 → Int32 → rm_S → Option (rm_S)} (H : rm_H g σ m) {F Lw : Nat} (h_RM_inside : rkV5 g σ m M_RM_inside F Lw p_RM_inside) (hF : 40 ≤ F) (hLw : 1000 ≤ Lw) : rkV3 g σ m M_RM_sayTest (F + 1) (Lw + 60) (f_RM_sayTest N p_RM_inside) := by
  intro x1 x2 x3 S r h
  refine mv_entry (L := [some (.ref m), some (.int x1), some (.int x2), some (.int x3), none]) rfl rfl (Nat.le_of_ble_eq_true rfl) rfl ?_
  unfold f_RM_sayTest at h
  refine vr_aload_n d_RM_sayTest_0 rfl rfl ?_
  refine vr_iload_n d_RM_sayTest_1 rfl rfl ?_
  refine vr_iload_n d_RM_sayTest_2 rfl rfl ?_
  obtain ⟨v1, S1, ev1, h⟩ := l_calI h
  refine rm_callI [.int x1, .int x2] H d_RM_sayTest_3 C_RM_261 (c_RM_kindAt H ev1) rfl rfl rfl (Nat.le_of_ble_eq_true rfl) (by omega) (by show 8 + (3 + 11) + 0 ≤ Lw + 60; omega) ?_
  refine vr_istore (L' := [some (.ref m), some (.int x1), some (.int x2), some (.int x3), some (.int v1)]) d_RM_sayTest_6 (by decide) rfl ?_
  refine vr_aload_n d_RM_sayTest_8 rfl rfl ?_
  refine vr_iload_n d_RM_sayTest_9 rfl rfl ?_
  refine vr_iload_n d_RM_sayTest_10 rfl rfl ?_
  refine vr_iload d_RM_sayTest_11 rfl ?_
  refine vr_bipush 24 d_RM_sayTest_13 (by decide) ?_
  refine vr_icmp_eq (tgt := 29) d_RM_sayTest_15 (by decide) (fun c15 => ?_) (fun c15 => ?_)
  · replace h := l_ifp c15 h
    refine vr_iconst 1 d_RM_sayTest_29 (by decide) ?_
    refine vr_goto (tgt := 34) d_RM_sayTest_30 (by decide) ?_
    refine vr_bipush 91 d_RM_sayTest_34 (by decide) ?_
    refine vr_bipush 93 d_RM_sayTest_36 (by decide) ?_
    obtain ⟨S2, eS2, h⟩ := l_calV h
    refine rm_callU [.int x1, .int x2, .int 1, .int 91, .int 93] H d_RM_sayTest_38 C_RM_264 (h_RM_inside _ _ _ _ _ _ _ eS2) rfl rfl rfl (Nat.le_of_ble_eq_true rfl) (by omega) (by show 8 + (6 + 11) + Lw ≤ Lw + 60; omega) ?_
    cases h
    exact vr_vret d_RM_sayTest_41 rfl ⟨rfl, rfl⟩
  · replace h := l_ifn c15 h
    refine vr_iload_n d_RM_sayTest_18 rfl rfl ?_
    refine vr_if_ne (tgt := 33) d_RM_sayTest_19 (by decide) (fun c19 => ?_) (fun c19 => ?_)
    · replace h := l_ifn c19 h
      refine vr_iconst 0 d_RM_sayTest_33 (by decide) ?_
      refine vr_bipush 91 d_RM_sayTest_34 (by decide) ?_
      refine vr_bipush 93 d_RM_sayTest_36 (by decide) ?_
      obtain ⟨S3, eS3, h⟩ := l_calV h
      refine rm_callU [.int x1, .int x2, .int 0, .int 91, .int 93] H d_RM_sayTest_38 C_RM_264 (h_RM_inside _ _ _ _ _ _ _ eS3) rfl rfl rfl (Nat.le_of_ble_eq_true rfl) (by omega) (by show 8 + (6 + 11) + Lw ≤ Lw + 60; omega) ?_
      cases h
      exact vr_vret d_RM_sayTest_41 rfl ⟨rfl, rfl⟩
    · replace h := l_ifp c19 h
      refine vr_iload d_RM_sayTest_22 rfl ?_
      refine vr_bipush 25 d_RM_sayTest_24 (by decide) ?_
      refine vr_icmp_ne (tgt := 33) d_RM_sayTest_26 (by decide) (fun c26 => ?_) (fun c26 => ?_)
      · replace h := l_ifn c26 h
        refine vr_iconst 0 d_RM_sayTest_33 (by decide) ?_
        refine vr_bipush 91 d_RM_sayTest_34 (by decide) ?_
        refine vr_bipush 93 d_RM_sayTest_36 (by decide) ?_
        obtain ⟨S4, eS4, h⟩ := l_calV h
        refine rm_callU [.int x1, .int x2, .int 0, .int 91, .int 93] H d_RM_sayTest_38 C_RM_264 (h_RM_inside _ _ _ _ _ _ _ eS4) rfl rfl rfl (Nat.le_of_ble_eq_true rfl) (by omega) (by show 8 + (6 + 11) + Lw ≤ Lw + 60; omega) ?_
        cases h
        exact vr_vret d_RM_sayTest_41 rfl ⟨rfl, rfl⟩
      · replace h := l_ifp c26 h
        refine vr_iconst 1 d_RM_sayTest_29 (by decide) ?_
        refine vr_goto (tgt := 34) d_RM_sayTest_30 (by decide) ?_
        refine vr_bipush 91 d_RM_sayTest_34 (by decide) ?_
        refine vr_bipush 93 d_RM_sayTest_36 (by decide) ?_
        obtain ⟨S5, eS5, h⟩ := l_calV h
        refine rm_callU [.int x1, .int x2, .int 1, .int 91, .int 93] H d_RM_sayTest_38 C_RM_264 (h_RM_inside _ _ _ _ _ _ _ eS5) rfl rfl rfl (Nat.le_of_ble_eq_true rfl) (by omega) (by show 8 + (6 + 11) + Lw ≤ Lw + 60; omega) ?_
        cases h
        exact vr_vret d_RM_sayTest_41 rfl ⟨rfl, rfl⟩

def k_RM_commas_27 (N : Nat) (p_RM_show : Int32 → Int32 → rm_S → Option (rm_S)) (k9 : Int32 → Int32 → Int32 → Int32 → rm_S → Option (rm_S)) (y1 : Int32) (y2 : Int32) (y3 : Int32) (y4 : Int32) (S : rm_S) : Option (rm_S) := calV (p_RM_show y1 y4 S) fun S4 => calI (f_RM_behind N y1 y4 S4) fun v5 S5 => k9 y1 y2 y3 v5 S5
theorem q_RM_commas_27 {g : mv_G} {σ : mh_H} {m : Nat} {N : Nat} {p_RM_show : Int32 → Int32 → rm_S → Option (rm_S)} {k9 : Int32 → Int32 → Int32 → Int32 → rm_S → Option (rm_S)} (H : rm_H g σ m) {F Lw : Nat} (h_RM_show : rkV2 g σ m M_RM_show F Lw p_RM_show) (hF : 40 ≤ F) (hLw : 1000 ≤ Lw) (hk9 : ∀ (y1 : Int32) (y2 : Int32) (y3 : Int32) (y4 : Int32) (S : rm_S) (r : rm_S), k9 y1 y2 y3 y4 S = some r → mv_V g M_RM_commas (F + 1) (Lw + 60) 0 0 9 [some (.ref m), some (.int y1), some (.int y2), some (.int y3), some (.int y4)] [] (rz σ m S) (fun oc τ => τ = rz σ m r ∧ oc = .returned none)) (y1 : Int32) (y2 : Int32) (y3 : Int32) (y4 : Int32) (S : rm_S) (r : rm_S) (h : k_RM_commas_27 N p_RM_show k9 y1 y2 y3 y4 S = some r) : mv_V g M_RM_commas (F + 1) (Lw + 60) 0 0 27 [some (.ref m), some (.int y1), some (.int y2), some (.int y3), some (.int y4)] [] (rz σ m S) (fun oc τ => τ = rz σ m r ∧ oc = .returned none) := by
  unfold k_RM_commas_27 at h
  refine vr_aload_n d_RM_commas_27 rfl rfl ?_
  refine vr_iload_n d_RM_commas_28 rfl rfl ?_
  refine vr_iload d_RM_commas_29 rfl ?_
  obtain ⟨S4, eS4, h⟩ := l_calV h
  refine rm_callU [.int y1, .int y4] H d_RM_commas_31 C_RM_258 (h_RM_show _ _ _ _ eS4) rfl rfl rfl (Nat.le_of_ble_eq_true rfl) (by omega) (by show 8 + (7 + 11) + Lw ≤ Lw + 60; omega) ?_
  refine vr_aload_n d_RM_commas_34 rfl rfl ?_
  refine vr_iload_n d_RM_commas_35 rfl rfl ?_
  refine vr_iload d_RM_commas_36 rfl ?_
  obtain ⟨v5, S5, ev5, h⟩ := l_calI h
  refine rm_callI [.int y1, .int y4] H d_RM_commas_38 C_RM_268 (c_RM_behind H ev5) rfl rfl rfl (Nat.le_of_ble_eq_true rfl) (by omega) (by show 8 + (3 + 11) + 0 ≤ Lw + 60; omega) ?_
  refine vr_istore (L' := [some (.ref m), some (.int y1), some (.int y2), some (.int y3), some (.int v5)]) d_RM_commas_41 (by decide) rfl ?_
  refine vr_goto (tgt := 9) d_RM_commas_43 (by decide) ?_
  exact mv_drop (hk9 _ _ _ _ _ _ h) (And.intro rfl (And.intro rfl (And.intro rfl (And.intro rfl (And.intro rfl trivial)))))

def k_RM_commas_9 (N : Nat) (p_RM_show : Int32 → Int32 → rm_S → Option (rm_S)) : Nat → Int32 → Int32 → Int32 → Int32 → rm_S → Option (rm_S)
  | 0, _, _, _, _, _ => none
  | n + 1, y1, y2, y3, y4, S => if y3 ≤ y4 then (calV (f_RM_begin N 41 S) fun S2 => some (S2)) else (if y4 ≤ y2 then (k_RM_commas_27 N p_RM_show (k_RM_commas_9 N p_RM_show n) y1 y2 y3 y4 S) else (calV (f_RM_begin N 44 S) fun S3 => k_RM_commas_27 N p_RM_show (k_RM_commas_9 N p_RM_show n) y1 y2 y3 y4 S3))
theorem q_RM_commas_9 {g : mv_G} {σ : mh_H} {m : Nat} {N : Nat} {p_RM_show : Int32 → Int32 → rm_S → Option (rm_S)} (H : rm_H g σ m) {F Lw : Nat} (h_RM_show : rkV2 g σ m M_RM_show F Lw p_RM_show) (hF : 40 ≤ F) (hLw : 1000 ≤ Lw) : ∀ (n : Nat) (y1 : Int32) (y2 : Int32) (y3 : Int32) (y4 : Int32) (S : rm_S) (r : rm_S), k_RM_commas_9 N p_RM_show n y1 y2 y3 y4 S = some r → mv_V g M_RM_commas (F + 1) (Lw + 60) 0 0 9 [some (.ref m), some (.int y1), some (.int y2), some (.int y3), some (.int y4)] [] (rz σ m S) (fun oc τ => τ = rz σ m r ∧ oc = .returned none) := by
  intro n
  induction n with
  | zero =>
    intro y1 y2 y3 y4 S r h
    exact absurd h (by simp [k_RM_commas_9])
  | succ n ih =>
    intro y1 y2 y3 y4 S r h 
    unfold k_RM_commas_9 at h
    refine vr_iload d_RM_commas_9 rfl ?_
    refine vr_iload_n d_RM_commas_11 rfl rfl ?_
    refine vr_icmp_ge (tgt := 46) d_RM_commas_12 (by decide) (fun c12 => ?_) (fun c12 => ?_)
    · replace h := l_ifp c12 h
      refine vr_aload_n d_RM_commas_46 rfl rfl ?_
      refine vr_bipush 41 d_RM_commas_47 (by decide) ?_
      obtain ⟨S2, eS2, h⟩ := l_calV h
      refine rm_callU [.int 41] H d_RM_commas_49 C_RM_253 (c_RM_begin H eS2) rfl rfl rfl (Nat.le_of_ble_eq_true rfl) (by omega) (by show 8 + (2 + 11) + 40 ≤ Lw + 60; omega) ?_
      cases h
      exact vr_vret d_RM_commas_52 rfl ⟨rfl, rfl⟩
    · replace h := l_ifn c12 h
      refine vr_iload d_RM_commas_15 rfl ?_
      refine vr_iload_n d_RM_commas_17 rfl rfl ?_
      refine vr_icmp_le (tgt := 27) d_RM_commas_18 (by decide) (fun c18 => ?_) (fun c18 => ?_)
      · replace h := l_ifp c18 h
        exact mv_drop (q_RM_commas_27 H h_RM_show hF hLw ih _ _ _ _ _ _ h) (And.intro rfl (And.intro rfl (And.intro rfl (And.intro rfl (And.intro rfl trivial)))))
      · replace h := l_ifn c18 h
        refine vr_aload_n d_RM_commas_21 rfl rfl ?_
        refine vr_bipush 44 d_RM_commas_22 (by decide) ?_
        obtain ⟨S3, eS3, h⟩ := l_calV h
        refine rm_callU [.int 44] H d_RM_commas_24 C_RM_253 (c_RM_begin H eS3) rfl rfl rfl (Nat.le_of_ble_eq_true rfl) (by omega) (by show 8 + (2 + 11) + 40 ≤ Lw + 60; omega) ?_
        exact mv_drop (q_RM_commas_27 H h_RM_show hF hLw ih _ _ _ _ _ _ h) (And.intro rfl (And.intro rfl (And.intro rfl (And.intro rfl (And.intro rfl trivial)))))

def f_RM_commas (N : Nat) (p_RM_show : Int32 → Int32 → rm_S → Option (rm_S)) (x1 : Int32) (x2 : Int32) (x3 : Int32) (S : rm_S) : Option (rm_S) := calV (f_RM_begin N 40 S) fun S1 => k_RM_commas_9 N p_RM_show N x1 x2 x3 x2 S1
theorem c_RM_commas {g : mv_G} {σ : mh_H} {m : Nat} {N : Nat} {p_RM_show : Int32 → Int32 → rm_S → Option (rm_S)} (H : rm_H g σ m) {F Lw : Nat} (h_RM_show : rkV2 g σ m M_RM_show F Lw p_RM_show) (hF : 40 ≤ F) (hLw : 1000 ≤ Lw) : rkV3 g σ m M_RM_commas (F + 1) (Lw + 60) (f_RM_commas N p_RM_show) := by
  intro x1 x2 x3 S r h
  refine mv_entry (L := [some (.ref m), some (.int x1), some (.int x2), some (.int x3), none]) rfl rfl (Nat.le_of_ble_eq_true rfl) rfl ?_
  unfold f_RM_commas at h
  refine vr_aload_n d_RM_commas_0 rfl rfl ?_
  refine vr_bipush 40 d_RM_commas_1 (by decide) ?_
  obtain ⟨S1, eS1, h⟩ := l_calV h
  refine rm_callU [.int 40] H d_RM_commas_3 C_RM_253 (c_RM_begin H eS1) rfl rfl rfl (Nat.le_of_ble_eq_true rfl) (by omega) (by show 8 + (2 + 11) + 40 ≤ Lw + 60; omega) ?_
  refine vr_iload_n d_RM_commas_6 rfl rfl ?_
  refine vr_istore (L' := [some (.ref m), some (.int x1), some (.int x2), some (.int x3), some (.int x2)]) d_RM_commas_7 (by decide) rfl ?_
  exact mv_drop (q_RM_commas_9 H h_RM_show hF hLw N _ _ _ _ _ _ h) (And.intro rfl (And.intro rfl (And.intro rfl (And.intro rfl (And.intro rfl trivial)))))

def k_RM_statements_71 (N : Nat) (p_RM_show : Int32 → Int32 → rm_S → Option (rm_S)) (p_RM_commas : Int32 → Int32 → Int32 → rm_S → Option (rm_S)) (y3 : Int32) (S : rm_S) : Option (rm_S) := if y3 = 4 then (calV (f_RM_begin N 93 S) fun S45 => calV (f_RM_begin N 59 S45) fun S46 => some (S46)) else (calV (f_RM_begin N 59 S) fun S44 => some (S44))
theorem q_RM_statements_71 {g : mv_G} {σ : mh_H} {m : Nat} {N : Nat} {p_RM_show : Int32 → Int32 → rm_S → Option (rm_S)} {p_RM_commas : Int32 → Int32 → Int32 → rm_S → Option (rm_S)} (H : rm_H g σ m) {F Lw : Nat} (h_RM_show : rkV2 g σ m M_RM_show F Lw p_RM_show) (h_RM_commas : rkV3 g σ m M_RM_commas F Lw p_RM_commas) (hF : 40 ≤ F) (hLw : 1000 ≤ Lw) (y3 : Int32) (S : rm_S) (r : rm_S) (h : k_RM_statements_71 N p_RM_show p_RM_commas y3 S = some r) : mv_V g M_RM_statements (F + 1) (Lw + 60) 0 0 71 [some (.ref m), none, none, some (.int y3), none, none] [] (rz σ m S) (fun oc τ => τ = rz σ m r ∧ oc = .returned none) := by
  unfold k_RM_statements_71 at h
  refine vr_iload_n d_RM_statements_71 rfl rfl ?_
  refine vr_iconst 4 d_RM_statements_72 (by decide) ?_
  refine vr_icmp_ne (tgt := 348) d_RM_statements_73 (by decide) (fun c73 => ?_) (fun c73 => ?_)
  · replace h := l_ifn c73 h
    refine vr_aload_n d_RM_statements_348 rfl rfl ?_
    refine vr_bipush 59 d_RM_statements_349 (by decide) ?_
    obtain ⟨S44, eS44, h⟩ := l_calV h
    refine rm_callU [.int 59] H d_RM_statements_351 C_RM_253 (c_RM_begin H eS44) rfl rfl rfl (Nat.le_of_ble_eq_true rfl) (by omega) (by show 8 + (2 + 11) + 40 ≤ Lw + 60; omega) ?_
    cases h
    exact vr_vret d_RM_statements_354 rfl ⟨rfl, rfl⟩
  · replace h := l_ifp c73 h
    refine vr_aload_n d_RM_statements_76 rfl rfl ?_
    refine vr_bipush 93 d_RM_statements_77 (by decide) ?_
    obtain ⟨S45, eS45, h⟩ := l_calV h
    refine rm_callU [.int 93] H d_RM_statements_79 C_RM_253 (c_RM_begin H eS45) rfl rfl rfl (Nat.le_of_ble_eq_true rfl) (by omega) (by show 8 + (2 + 11) + 40 ≤ Lw + 60; omega) ?_
    refine vr_goto (tgt := 348) d_RM_statements_82 (by decide) ?_
    refine vr_aload_n d_RM_statements_348 rfl rfl ?_
    refine vr_bipush 59 d_RM_statements_349 (by decide) ?_
    obtain ⟨S46, eS46, h⟩ := l_calV h
    refine rm_callU [.int 59] H d_RM_statements_351 C_RM_253 (c_RM_begin H eS46) rfl rfl rfl (Nat.le_of_ble_eq_true rfl) (by omega) (by show 8 + (2 + 11) + 40 ≤ Lw + 60; omega) ?_
    cases h
    exact vr_vret d_RM_statements_354 rfl ⟨rfl, rfl⟩

def k_RM_statements_24 (N : Nat) (p_RM_show : Int32 → Int32 → rm_S → Option (rm_S)) (p_RM_commas : Int32 → Int32 → Int32 → rm_S → Option (rm_S)) (y1 : Int32) (y2 : Int32) (y3 : Int32) (y4 : Int32) (y5 : Int32) (S : rm_S) : Option (rm_S) := calV (f_RM_text N 47 S) fun S21 => calV (p_RM_show y1 y4 S21) fun S22 => calI (f_RM_behind N y1 y2 S22) fun v23 S23 => if v23 ≤ y5 then (k_RM_statements_71 N p_RM_show p_RM_commas y3 S23) else (if y3 = 3 then (calV (f_RM_begin N 61 S23) fun S26 => calV (p_RM_show y1 y5 S26) fun S27 => k_RM_statements_71 N p_RM_show p_RM_commas y3 S27) else (calV (f_RM_begin N 91 S23) fun S24 => calV (p_RM_show y1 y5 S24) fun S25 => k_RM_statements_71 N p_RM_show p_RM_commas y3 S25))
theorem q_RM_statements_24 {g : mv_G} {σ : mh_H} {m : Nat} {N : Nat} {p_RM_show : Int32 → Int32 → rm_S → Option (rm_S)} {p_RM_commas : Int32 → Int32 → Int32 → rm_S → Option (rm_S)} (H : rm_H g σ m) {F Lw : Nat} (h_RM_show : rkV2 g σ m M_RM_show F Lw p_RM_show) (h_RM_commas : rkV3 g σ m M_RM_commas F Lw p_RM_commas) (hF : 40 ≤ F) (hLw : 1000 ≤ Lw) (y1 : Int32) (y2 : Int32) (y3 : Int32) (y4 : Int32) (y5 : Int32) (S : rm_S) (r : rm_S) (h : k_RM_statements_24 N p_RM_show p_RM_commas y1 y2 y3 y4 y5 S = some r) : mv_V g M_RM_statements (F + 1) (Lw + 60) 0 0 24 [some (.ref m), some (.int y1), some (.int y2), some (.int y3), some (.int y4), some (.int y5)] [] (rz σ m S) (fun oc τ => τ = rz σ m r ∧ oc = .returned none) := by
  unfold k_RM_statements_24 at h
  refine vr_aload_n d_RM_statements_24 rfl rfl ?_
  refine vr_ldcS 47 d_RM_statements_25 rfl ?_
  obtain ⟨S21, eS21, h⟩ := l_calV h
  refine rm_callU [.ref (mg_K g 47)] H d_RM_statements_27 C_RM_293 (c_RM_text H eS21) rfl rfl rfl (Nat.le_of_ble_eq_true rfl) (by omega) (by show 8 + (3 + 11) + 141 ≤ Lw + 60; omega) ?_
  refine vr_aload_n d_RM_statements_30 rfl rfl ?_
  refine vr_iload_n d_RM_statements_31 rfl rfl ?_
  refine vr_iload d_RM_statements_32 rfl ?_
  obtain ⟨S22, eS22, h⟩ := l_calV h
  refine rm_callU [.int y1, .int y4] H d_RM_statements_34 C_RM_258 (h_RM_show _ _ _ _ eS22) rfl rfl rfl (Nat.le_of_ble_eq_true rfl) (by omega) (by show 8 + (7 + 11) + Lw ≤ Lw + 60; omega) ?_
  refine vr_iload d_RM_statements_37 rfl ?_
  refine vr_aload_n d_RM_statements_39 rfl rfl ?_
  refine vr_iload_n d_RM_statements_40 rfl rfl ?_
  refine vr_iload_n d_RM_statements_41 rfl rfl ?_
  obtain ⟨v23, S23, ev23, h⟩ := l_calI h
  refine rm_callI [.int y1, .int y2] H d_RM_statements_42 C_RM_268 (c_RM_behind H ev23) rfl rfl rfl (Nat.le_of_ble_eq_true rfl) (by omega) (by show 8 + (3 + 11) + 0 ≤ Lw + 60; omega) ?_
  refine vr_icmp_ge (tgt := 71) d_RM_statements_45 (by decide) (fun c45 => ?_) (fun c45 => ?_)
  · replace h := l_ifp c45 h
    exact mv_drop (q_RM_statements_71 H h_RM_show h_RM_commas hF hLw _ _ _ h) (And.intro rfl (And.intro rfl trivial))
  · replace h := l_ifn c45 h
    refine vr_aload_n d_RM_statements_48 rfl rfl ?_
    refine vr_iload_n d_RM_statements_49 rfl rfl ?_
    refine vr_iconst 3 d_RM_statements_50 (by decide) ?_
    refine vr_icmp_ne (tgt := 59) d_RM_statements_51 (by decide) (fun c51 => ?_) (fun c51 => ?_)
    · replace h := l_ifn c51 h
      refine vr_bipush 91 d_RM_statements_59 (by decide) ?_
      obtain ⟨S24, eS24, h⟩ := l_calV h
      refine rm_callU [.int 91] H d_RM_statements_61 C_RM_253 (c_RM_begin H eS24) rfl rfl rfl (Nat.le_of_ble_eq_true rfl) (by omega) (by show 8 + (2 + 11) + 40 ≤ Lw + 60; omega) ?_
      refine vr_aload_n d_RM_statements_64 rfl rfl ?_
      refine vr_iload_n d_RM_statements_65 rfl rfl ?_
      refine vr_iload d_RM_statements_66 rfl ?_
      obtain ⟨S25, eS25, h⟩ := l_calV h
      refine rm_callU [.int y1, .int y5] H d_RM_statements_68 C_RM_258 (h_RM_show _ _ _ _ eS25) rfl rfl rfl (Nat.le_of_ble_eq_true rfl) (by omega) (by show 8 + (7 + 11) + Lw ≤ Lw + 60; omega) ?_
      exact mv_drop (q_RM_statements_71 H h_RM_show h_RM_commas hF hLw _ _ _ h) (And.intro rfl (And.intro rfl trivial))
    · replace h := l_ifp c51 h
      refine vr_bipush 61 d_RM_statements_54 (by decide) ?_
      refine vr_goto (tgt := 61) d_RM_statements_56 (by decide) ?_
      obtain ⟨S26, eS26, h⟩ := l_calV h
      refine rm_callU [.int 61] H d_RM_statements_61 C_RM_253 (c_RM_begin H eS26) rfl rfl rfl (Nat.le_of_ble_eq_true rfl) (by omega) (by show 8 + (2 + 11) + 40 ≤ Lw + 60; omega) ?_
      refine vr_aload_n d_RM_statements_64 rfl rfl ?_
      refine vr_iload_n d_RM_statements_65 rfl rfl ?_
      refine vr_iload d_RM_statements_66 rfl ?_
      obtain ⟨S27, eS27, h⟩ := l_calV h
      refine rm_callU [.int y1, .int y5] H d_RM_statements_68 C_RM_258 (h_RM_show _ _ _ _ eS27) rfl rfl rfl (Nat.le_of_ble_eq_true rfl) (by omega) (by show 8 + (7 + 11) + Lw ≤ Lw + 60; omega) ?_
      exact mv_drop (q_RM_statements_71 H h_RM_show h_RM_commas hF hLw _ _ _ h) (And.intro rfl (And.intro rfl trivial))

def k_RM_statements_272 (N : Nat) (p_RM_show : Int32 → Int32 → rm_S → Option (rm_S)) (p_RM_commas : Int32 → Int32 → Int32 → rm_S → Option (rm_S)) (y1 : Int32) (y2 : Int32) (y3 : Int32) (y4 : Int32) (y5 : Int32) (z0 : Nat) (S : rm_S) : Option (rm_S) := calV (f_RM_text N z0 S) fun S28 => calV (f_RM_begin N 40 S28) fun S29 => calV (p_RM_show y1 y4 S29) fun S30 => calV (f_RM_begin N 41 S30) fun S31 => if 10 ≤ y3 then (calV (f_RM_begin N 59 S31) fun S32 => some (S32)) else (calV (p_RM_show y1 y5 S31) fun S33 => if y3 = 8 then (calI (f_RM_behind N y1 y5 S33) fun v34 S34 => calI (f_RM_behind N y1 y2 S34) fun v35 S35 => if v35 ≤ v34 then (some (S35)) else (calV (f_RM_text N 49 S35) fun S36 => calI (f_RM_behind N y1 y5 S36) fun v37 S37 => calV (p_RM_show y1 v37 S37) fun S38 => some (S38))) else (some (S33)))
theorem q_RM_statements_272 {g : mv_G} {σ : mh_H} {m : Nat} {N : Nat} {p_RM_show : Int32 → Int32 → rm_S → Option (rm_S)} {p_RM_commas : Int32 → Int32 → Int32 → rm_S → Option (rm_S)} (H : rm_H g σ m) {F Lw : Nat} (h_RM_show : rkV2 g σ m M_RM_show F Lw p_RM_show) (h_RM_commas : rkV3 g σ m M_RM_commas F Lw p_RM_commas) (hF : 40 ≤ F) (hLw : 1000 ≤ Lw) (y1 : Int32) (y2 : Int32) (y3 : Int32) (y4 : Int32) (y5 : Int32) (z0 : Nat) (S : rm_S) (r : rm_S) (h : k_RM_statements_272 N p_RM_show p_RM_commas y1 y2 y3 y4 y5 z0 S = some r) : mv_V g M_RM_statements (F + 1) (Lw + 60) 0 0 272 [some (.ref m), some (.int y1), some (.int y2), some (.int y3), some (.int y4), some (.int y5)] [.ref (mg_K g z0), .ref m] (rz σ m S) (fun oc τ => τ = rz σ m r ∧ oc = .returned none) := by
  unfold k_RM_statements_272 at h
  obtain ⟨S28, eS28, h⟩ := l_calV h
  refine rm_callU [.ref (mg_K g z0)] H d_RM_statements_272 C_RM_293 (c_RM_text H eS28) rfl rfl rfl (Nat.le_of_ble_eq_true rfl) (by omega) (by show 8 + (3 + 11) + 141 ≤ Lw + 60; omega) ?_
  refine vr_aload_n d_RM_statements_275 rfl rfl ?_
  refine vr_bipush 40 d_RM_statements_276 (by decide) ?_
  obtain ⟨S29, eS29, h⟩ := l_calV h
  refine rm_callU [.int 40] H d_RM_statements_278 C_RM_253 (c_RM_begin H eS29) rfl rfl rfl (Nat.le_of_ble_eq_true rfl) (by omega) (by show 8 + (2 + 11) + 40 ≤ Lw + 60; omega) ?_
  refine vr_aload_n d_RM_statements_281 rfl rfl ?_
  refine vr_iload_n d_RM_statements_282 rfl rfl ?_
  refine vr_iload d_RM_statements_283 rfl ?_
  obtain ⟨S30, eS30, h⟩ := l_calV h
  refine rm_callU [.int y1, .int y4] H d_RM_statements_285 C_RM_258 (h_RM_show _ _ _ _ eS30) rfl rfl rfl (Nat.le_of_ble_eq_true rfl) (by omega) (by show 8 + (7 + 11) + Lw ≤ Lw + 60; omega) ?_
  refine vr_aload_n d_RM_statements_288 rfl rfl ?_
  refine vr_bipush 41 d_RM_statements_289 (by decide) ?_
  obtain ⟨S31, eS31, h⟩ := l_calV h
  refine rm_callU [.int 41] H d_RM_statements_291 C_RM_253 (c_RM_begin H eS31) rfl rfl rfl (Nat.le_of_ble_eq_true rfl) (by omega) (by show 8 + (2 + 11) + 40 ≤ Lw + 60; omega) ?_
  refine vr_iload_n d_RM_statements_294 rfl rfl ?_
  refine vr_bipush 10 d_RM_statements_295 (by decide) ?_
  refine vr_icmp_ge (tgt := 348) d_RM_statements_297 (by decide) (fun c297 => ?_) (fun c297 => ?_)
  · replace h := l_ifp c297 h
    refine vr_aload_n d_RM_statements_348 rfl rfl ?_
    refine vr_bipush 59 d_RM_statements_349 (by decide) ?_
    obtain ⟨S32, eS32, h⟩ := l_calV h
    refine rm_callU [.int 59] H d_RM_statements_351 C_RM_253 (c_RM_begin H eS32) rfl rfl rfl (Nat.le_of_ble_eq_true rfl) (by omega) (by show 8 + (2 + 11) + 40 ≤ Lw + 60; omega) ?_
    cases h
    exact vr_vret d_RM_statements_354 rfl ⟨rfl, rfl⟩
  · replace h := l_ifn c297 h
    refine vr_aload_n d_RM_statements_300 rfl rfl ?_
    refine vr_iload_n d_RM_statements_301 rfl rfl ?_
    refine vr_iload d_RM_statements_302 rfl ?_
    obtain ⟨S33, eS33, h⟩ := l_calV h
    refine rm_callU [.int y1, .int y5] H d_RM_statements_304 C_RM_258 (h_RM_show _ _ _ _ eS33) rfl rfl rfl (Nat.le_of_ble_eq_true rfl) (by omega) (by show 8 + (7 + 11) + Lw ≤ Lw + 60; omega) ?_
    refine vr_iload_n d_RM_statements_307 rfl rfl ?_
    refine vr_bipush 8 d_RM_statements_308 (by decide) ?_
    refine vr_icmp_ne (tgt := 347) d_RM_statements_310 (by decide) (fun c310 => ?_) (fun c310 => ?_)
    · replace h := l_ifn c310 h
      cases h
      exact vr_vret d_RM_statements_347 rfl ⟨rfl, rfl⟩
    · replace h := l_ifp c310 h
      refine vr_aload_n d_RM_statements_313 rfl rfl ?_
      refine vr_iload_n d_RM_statements_314 rfl rfl ?_
      refine vr_iload d_RM_statements_315 rfl ?_
      obtain ⟨v34, S34, ev34, h⟩ := l_calI h
      refine rm_callI [.int y1, .int y5] H d_RM_statements_317 C_RM_268 (c_RM_behind H ev34) rfl rfl rfl (Nat.le_of_ble_eq_true rfl) (by omega) (by show 8 + (3 + 11) + 0 ≤ Lw + 60; omega) ?_
      refine vr_aload_n d_RM_statements_320 rfl rfl ?_
      refine vr_iload_n d_RM_statements_321 rfl rfl ?_
      refine vr_iload_n d_RM_statements_322 rfl rfl ?_
      obtain ⟨v35, S35, ev35, h⟩ := l_calI h
      refine rm_callI [.int y1, .int y2] H d_RM_statements_323 C_RM_268 (c_RM_behind H ev35) rfl rfl rfl (Nat.le_of_ble_eq_true rfl) (by omega) (by show 8 + (3 + 11) + 0 ≤ Lw + 60; omega) ?_
      refine vr_icmp_ge (tgt := 347) d_RM_statements_326 (by decide) (fun c326 => ?_) (fun c326 => ?_)
      · replace h := l_ifp c326 h
        cases h
        exact vr_vret d_RM_statements_347 rfl ⟨rfl, rfl⟩
      · replace h := l_ifn c326 h
        refine vr_aload_n d_RM_statements_329 rfl rfl ?_
        refine vr_ldcS 49 d_RM_statements_330 rfl ?_
        obtain ⟨S36, eS36, h⟩ := l_calV h
        refine rm_callU [.ref (mg_K g 49)] H d_RM_statements_332 C_RM_293 (c_RM_text H eS36) rfl rfl rfl (Nat.le_of_ble_eq_true rfl) (by omega) (by show 8 + (3 + 11) + 141 ≤ Lw + 60; omega) ?_
        refine vr_aload_n d_RM_statements_335 rfl rfl ?_
        refine vr_iload_n d_RM_statements_336 rfl rfl ?_
        refine vr_aload_n d_RM_statements_337 rfl rfl ?_
        refine vr_iload_n d_RM_statements_338 rfl rfl ?_
        refine vr_iload d_RM_statements_339 rfl ?_
        obtain ⟨v37, S37, ev37, h⟩ := l_calI h
        refine rm_callI [.int y1, .int y5] H d_RM_statements_341 C_RM_268 (c_RM_behind H ev37) rfl rfl rfl (Nat.le_of_ble_eq_true rfl) (by omega) (by show 8 + (3 + 11) + 0 ≤ Lw + 60; omega) ?_
        obtain ⟨S38, eS38, h⟩ := l_calV h
        refine rm_callU [.int y1, .int v37] H d_RM_statements_344 C_RM_258 (h_RM_show _ _ _ _ eS38) rfl rfl rfl (Nat.le_of_ble_eq_true rfl) (by omega) (by show 8 + (7 + 11) + Lw ≤ Lw + 60; omega) ?_
        cases h
        exact vr_vret d_RM_statements_347 rfl ⟨rfl, rfl⟩

def k_RM_statements_197 (N : Nat) (p_RM_show : Int32 → Int32 → rm_S → Option (rm_S)) (p_RM_commas : Int32 → Int32 → Int32 → rm_S → Option (rm_S)) (y1 : Int32) (y2 : Int32) (y5 : Int32) (S : rm_S) : Option (rm_S) := calV (p_RM_show y1 y5 S) fun S39 => calI (f_RM_behind N y1 y5 S39) fun v40 S40 => calI (f_RM_behind N y1 y2 S40) fun v41 S41 => calV (p_RM_commas y1 v40 v41 S41) fun S42 => calV (f_RM_begin N 59 S42) fun S43 => some (S43)
theorem q_RM_statements_197 {g : mv_G} {σ : mh_H} {m : Nat} {N : Nat} {p_RM_show : Int32 → Int32 → rm_S → Option (rm_S)} {p_RM_commas : Int32 → Int32 → Int32 → rm_S → Option (rm_S)} (H : rm_H g σ m) {F Lw : Nat} (h_RM_show : rkV2 g σ m M_RM_show F Lw p_RM_show) (h_RM_commas : rkV3 g σ m M_RM_commas F Lw p_RM_commas) (hF : 40 ≤ F) (hLw : 1000 ≤ Lw) (y1 : Int32) (y2 : Int32) (y5 : Int32) (S : rm_S) (r : rm_S) (h : k_RM_statements_197 N p_RM_show p_RM_commas y1 y2 y5 S = some r) : mv_V g M_RM_statements (F + 1) (Lw + 60) 0 0 197 [some (.ref m), some (.int y1), some (.int y2), none, none, some (.int y5)] [] (rz σ m S) (fun oc τ => τ = rz σ m r ∧ oc = .returned none) := by
  unfold k_RM_statements_197 at h
  refine vr_aload_n d_RM_statements_197 rfl rfl ?_
  refine vr_iload_n d_RM_statements_198 rfl rfl ?_
  refine vr_iload d_RM_statements_199 rfl ?_
  obtain ⟨S39, eS39, h⟩ := l_calV h
  refine rm_callU [.int y1, .int y5] H d_RM_statements_201 C_RM_258 (h_RM_show _ _ _ _ eS39) rfl rfl rfl (Nat.le_of_ble_eq_true rfl) (by omega) (by show 8 + (7 + 11) + Lw ≤ Lw + 60; omega) ?_
  refine vr_aload_n d_RM_statements_204 rfl rfl ?_
  refine vr_iload_n d_RM_statements_205 rfl rfl ?_
  refine vr_aload_n d_RM_statements_206 rfl rfl ?_
  refine vr_iload_n d_RM_statements_207 rfl rfl ?_
  refine vr_iload d_RM_statements_208 rfl ?_
  obtain ⟨v40, S40, ev40, h⟩ := l_calI h
  refine rm_callI [.int y1, .int y5] H d_RM_statements_210 C_RM_268 (c_RM_behind H ev40) rfl rfl rfl (Nat.le_of_ble_eq_true rfl) (by omega) (by show 8 + (3 + 11) + 0 ≤ Lw + 60; omega) ?_
  refine vr_aload_n d_RM_statements_213 rfl rfl ?_
  refine vr_iload_n d_RM_statements_214 rfl rfl ?_
  refine vr_iload_n d_RM_statements_215 rfl rfl ?_
  obtain ⟨v41, S41, ev41, h⟩ := l_calI h
  refine rm_callI [.int y1, .int y2] H d_RM_statements_216 C_RM_268 (c_RM_behind H ev41) rfl rfl rfl (Nat.le_of_ble_eq_true rfl) (by omega) (by show 8 + (3 + 11) + 0 ≤ Lw + 60; omega) ?_
  obtain ⟨S42, eS42, h⟩ := l_calV h
  refine rm_callU [.int y1, .int v40, .int v41] H d_RM_statements_219 C_RM_297 (h_RM_commas _ _ _ _ _ eS42) rfl rfl rfl (Nat.le_of_ble_eq_true rfl) (by omega) (by show 8 + (5 + 11) + Lw ≤ Lw + 60; omega) ?_
  refine vr_goto (tgt := 348) d_RM_statements_222 (by decide) ?_
  refine vr_aload_n d_RM_statements_348 rfl rfl ?_
  refine vr_bipush 59 d_RM_statements_349 (by decide) ?_
  obtain ⟨S43, eS43, h⟩ := l_calV h
  refine rm_callU [.int 59] H d_RM_statements_351 C_RM_253 (c_RM_begin H eS43) rfl rfl rfl (Nat.le_of_ble_eq_true rfl) (by omega) (by show 8 + (2 + 11) + 40 ≤ Lw + 60; omega) ?_
  cases h
  exact vr_vret d_RM_statements_354 rfl ⟨rfl, rfl⟩

def f_RM_statements (N : Nat) (p_RM_show : Int32 → Int32 → rm_S → Option (rm_S)) (p_RM_commas : Int32 → Int32 → Int32 → rm_S → Option (rm_S)) (x1 : Int32) (x2 : Int32) (x3 : Int32) (S : rm_S) : Option (rm_S) := bnd ((x2 + 1)) fun v1 => calI (f_RM_behind N x1 v1 S) fun v2 S2 => if x3 = 3 then (k_RM_statements_24 N p_RM_show p_RM_commas x1 x2 x3 v1 v2 S2) else (if x3 = 4 then (k_RM_statements_24 N p_RM_show p_RM_commas x1 x2 x3 v1 v2 S2) else (if x3 = 5 then (calV (p_RM_show x1 v1 S2) fun S17 => calV (f_RM_begin N 61 S17) fun S18 => calV (p_RM_show x1 v2 S18) fun S19 => calV (f_RM_begin N 59 S19) fun S20 => some (S20)) else (if x3 = 6 then (calV (p_RM_show x1 v1 S2) fun S9 => calV (f_RM_begin N 91 S9) fun S10 => calV (p_RM_show x1 v2 S10) fun S11 => calV (f_RM_begin N 93 S11) fun S12 => calV (f_RM_begin N 61 S12) fun S13 => calI (f_RM_behind N x1 v2 S13) fun v14 S14 => calV (p_RM_show x1 v14 S14) fun S15 => calV (f_RM_begin N 59 S15) fun S16 => some (S16)) else (if x3 = 7 then (calI (f_RM_kindAt N x1 v1 S2) fun v6 S6 => if v6 = 33 then (k_RM_statements_197 N p_RM_show p_RM_commas x1 x2 v2 S6) else (calV (p_RM_show x1 v1 S6) fun S7 => calV (f_RM_begin N 61 S7) fun S8 => k_RM_statements_197 N p_RM_show p_RM_commas x1 x2 v2 S8)) else (if x3 = 11 then (calV (f_RM_text N 52 S2) fun S3 => calV (p_RM_show x1 v1 S3) fun S4 => calV (f_RM_begin N 59 S4) fun S5 => some (S5)) else (if x3 = 8 then (k_RM_statements_272 N p_RM_show p_RM_commas x1 x2 x3 v1 v2 48 S2) else (if x3 = 9 then (k_RM_statements_272 N p_RM_show p_RM_commas x1 x2 x3 v1 v2 50 S2) else (k_RM_statements_272 N p_RM_show p_RM_commas x1 x2 x3 v1 v2 51 S2))))))))
theorem c_RM_statements {g : mv_G} {σ : mh_H} {m : Nat} {N : Nat} {p_RM_show : Int32 → Int32 → rm_S → Option (rm_S)} {p_RM_commas : Int32 → Int32 → Int32 → rm_S → Option (rm_S)} (H : rm_H g σ m) {F Lw : Nat} (h_RM_show : rkV2 g σ m M_RM_show F Lw p_RM_show) (h_RM_commas : rkV3 g σ m M_RM_commas F Lw p_RM_commas) (hF : 40 ≤ F) (hLw : 1000 ≤ Lw) : rkV3 g σ m M_RM_statements (F + 1) (Lw + 60) (f_RM_statements N p_RM_show p_RM_commas) := by
  intro x1 x2 x3 S r h
  refine mv_entry (L := [some (.ref m), some (.int x1), some (.int x2), some (.int x3), none, none]) rfl rfl (Nat.le_of_ble_eq_true rfl) rfl ?_
  unfold f_RM_statements at h
  refine vr_iload_n d_RM_statements_0 rfl rfl ?_
  refine vr_iconst 1 d_RM_statements_1 (by decide) ?_
  refine vr_iadd d_RM_statements_2 ?_
  obtain ⟨v1, ev1, h⟩ := l_bnd h
  refine vr_nm ev1 ?_
  refine vr_istore (L' := [some (.ref m), some (.int x1), some (.int x2), some (.int x3), some (.int v1), none]) d_RM_statements_3 (by decide) rfl ?_
  refine vr_aload_n d_RM_statements_5 rfl rfl ?_
  refine vr_iload_n d_RM_statements_6 rfl rfl ?_
  refine vr_iload d_RM_statements_7 rfl ?_
  obtain ⟨v2, S2, ev2, h⟩ := l_calI h
  refine rm_callI [.int x1, .int v1] H d_RM_statements_9 C_RM_268 (c_RM_behind H ev2) rfl rfl rfl (Nat.le_of_ble_eq_true rfl) (by omega) (by show 8 + (3 + 11) + 0 ≤ Lw + 60; omega) ?_
  refine vr_istore (L' := [some (.ref m), some (.int x1), some (.int x2), some (.int x3), some (.int v1), some (.int v2)]) d_RM_statements_12 (by decide) rfl ?_
  refine vr_iload_n d_RM_statements_14 rfl rfl ?_
  refine vr_iconst 3 d_RM_statements_15 (by decide) ?_
  refine vr_icmp_eq (tgt := 24) d_RM_statements_16 (by decide) (fun c16 => ?_) (fun c16 => ?_)
  · replace h := l_ifp c16 h
    exact mv_drop (q_RM_statements_24 H h_RM_show h_RM_commas hF hLw _ _ _ _ _ _ _ h) (And.intro rfl (And.intro rfl (And.intro rfl (And.intro rfl (And.intro rfl (And.intro rfl trivial))))))
  · replace h := l_ifn c16 h
    refine vr_iload_n d_RM_statements_19 rfl rfl ?_
    refine vr_iconst 4 d_RM_statements_20 (by decide) ?_
    refine vr_icmp_ne (tgt := 85) d_RM_statements_21 (by decide) (fun c21 => ?_) (fun c21 => ?_)
    · replace h := l_ifn c21 h
      refine vr_iload_n d_RM_statements_85 rfl rfl ?_
      refine vr_iconst 5 d_RM_statements_86 (by decide) ?_
      refine vr_icmp_ne (tgt := 113) d_RM_statements_87 (by decide) (fun c87 => ?_) (fun c87 => ?_)
      · replace h := l_ifn c87 h
        refine vr_iload_n d_RM_statements_113 rfl rfl ?_
        refine vr_bipush 6 d_RM_statements_114 (by decide) ?_
        refine vr_icmp_ne (tgt := 166) d_RM_statements_116 (by decide) (fun c116 => ?_) (fun c116 => ?_)
        · replace h := l_ifn c116 h
          refine vr_iload_n d_RM_statements_166 rfl rfl ?_
          refine vr_bipush 7 d_RM_statements_167 (by decide) ?_
          refine vr_icmp_ne (tgt := 225) d_RM_statements_169 (by decide) (fun c169 => ?_) (fun c169 => ?_)
          · replace h := l_ifn c169 h
            refine vr_iload_n d_RM_statements_225 rfl rfl ?_
            refine vr_bipush 11 d_RM_statements_226 (by decide) ?_
            refine vr_icmp_ne (tgt := 247) d_RM_statements_228 (by decide) (fun c228 => ?_) (fun c228 => ?_)
            · replace h := l_ifn c228 h
              refine vr_aload_n d_RM_statements_247 rfl rfl ?_
              refine vr_iload_n d_RM_statements_248 rfl rfl ?_
              refine vr_bipush 8 d_RM_statements_249 (by decide) ?_
              refine vr_icmp_ne (tgt := 259) d_RM_statements_251 (by decide) (fun c251 => ?_) (fun c251 => ?_)
              · replace h := l_ifn c251 h
                refine vr_iload_n d_RM_statements_259 rfl rfl ?_
                refine vr_bipush 9 d_RM_statements_260 (by decide) ?_
                refine vr_icmp_ne (tgt := 270) d_RM_statements_262 (by decide) (fun c262 => ?_) (fun c262 => ?_)
                · replace h := l_ifn c262 h
                  refine vr_ldcS 51 d_RM_statements_270 rfl ?_
                  exact mv_drop (q_RM_statements_272 H h_RM_show h_RM_commas hF hLw _ _ _ _ _ _ _ _ h) (And.intro rfl (And.intro rfl (And.intro rfl (And.intro rfl (And.intro rfl (And.intro rfl trivial))))))
                · replace h := l_ifp c262 h
                  refine vr_ldcS 50 d_RM_statements_265 rfl ?_
                  refine vr_goto (tgt := 272) d_RM_statements_267 (by decide) ?_
                  exact mv_drop (q_RM_statements_272 H h_RM_show h_RM_commas hF hLw _ _ _ _ _ _ _ _ h) (And.intro rfl (And.intro rfl (And.intro rfl (And.intro rfl (And.intro rfl (And.intro rfl trivial))))))
              · replace h := l_ifp c251 h
                refine vr_ldcS 48 d_RM_statements_254 rfl ?_
                refine vr_goto (tgt := 272) d_RM_statements_256 (by decide) ?_
                exact mv_drop (q_RM_statements_272 H h_RM_show h_RM_commas hF hLw _ _ _ _ _ _ _ _ h) (And.intro rfl (And.intro rfl (And.intro rfl (And.intro rfl (And.intro rfl (And.intro rfl trivial))))))
            · replace h := l_ifp c228 h
              refine vr_aload_n d_RM_statements_231 rfl rfl ?_
              refine vr_ldcS 52 d_RM_statements_232 rfl ?_
              obtain ⟨S3, eS3, h⟩ := l_calV h
              refine rm_callU [.ref (mg_K g 52)] H d_RM_statements_234 C_RM_293 (c_RM_text H eS3) rfl rfl rfl (Nat.le_of_ble_eq_true rfl) (by omega) (by show 8 + (3 + 11) + 141 ≤ Lw + 60; omega) ?_
              refine vr_aload_n d_RM_statements_237 rfl rfl ?_
              refine vr_iload_n d_RM_statements_238 rfl rfl ?_
              refine vr_iload d_RM_statements_239 rfl ?_
              obtain ⟨S4, eS4, h⟩ := l_calV h
              refine rm_callU [.int x1, .int v1] H d_RM_statements_241 C_RM_258 (h_RM_show _ _ _ _ eS4) rfl rfl rfl (Nat.le_of_ble_eq_true rfl) (by omega) (by show 8 + (7 + 11) + Lw ≤ Lw + 60; omega) ?_
              refine vr_goto (tgt := 348) d_RM_statements_244 (by decide) ?_
              refine vr_aload_n d_RM_statements_348 rfl rfl ?_
              refine vr_bipush 59 d_RM_statements_349 (by decide) ?_
              obtain ⟨S5, eS5, h⟩ := l_calV h
              refine rm_callU [.int 59] H d_RM_statements_351 C_RM_253 (c_RM_begin H eS5) rfl rfl rfl (Nat.le_of_ble_eq_true rfl) (by omega) (by show 8 + (2 + 11) + 40 ≤ Lw + 60; omega) ?_
              cases h
              exact vr_vret d_RM_statements_354 rfl ⟨rfl, rfl⟩
          · replace h := l_ifp c169 h
            refine vr_aload_n d_RM_statements_172 rfl rfl ?_
            refine vr_iload_n d_RM_statements_173 rfl rfl ?_
            refine vr_iload d_RM_statements_174 rfl ?_
            obtain ⟨v6, S6, ev6, h⟩ := l_calI h
            refine rm_callI [.int x1, .int v1] H d_RM_statements_176 C_RM_261 (c_RM_kindAt H ev6) rfl rfl rfl (Nat.le_of_ble_eq_true rfl) (by omega) (by show 8 + (3 + 11) + 0 ≤ Lw + 60; omega) ?_
            refine vr_bipush 33 d_RM_statements_179 (by decide) ?_
            refine vr_icmp_eq (tgt := 197) d_RM_statements_181 (by decide) (fun c181 => ?_) (fun c181 => ?_)
            · replace h := l_ifp c181 h
              exact mv_drop (q_RM_statements_197 H h_RM_show h_RM_commas hF hLw _ _ _ _ _ h) (And.intro rfl (And.intro rfl (And.intro rfl (And.intro rfl trivial))))
            · replace h := l_ifn c181 h
              refine vr_aload_n d_RM_statements_184 rfl rfl ?_
              refine vr_iload_n d_RM_statements_185 rfl rfl ?_
              refine vr_iload d_RM_statements_186 rfl ?_
              obtain ⟨S7, eS7, h⟩ := l_calV h
              refine rm_callU [.int x1, .int v1] H d_RM_statements_188 C_RM_258 (h_RM_show _ _ _ _ eS7) rfl rfl rfl (Nat.le_of_ble_eq_true rfl) (by omega) (by show 8 + (7 + 11) + Lw ≤ Lw + 60; omega) ?_
              refine vr_aload_n d_RM_statements_191 rfl rfl ?_
              refine vr_bipush 61 d_RM_statements_192 (by decide) ?_
              obtain ⟨S8, eS8, h⟩ := l_calV h
              refine rm_callU [.int 61] H d_RM_statements_194 C_RM_253 (c_RM_begin H eS8) rfl rfl rfl (Nat.le_of_ble_eq_true rfl) (by omega) (by show 8 + (2 + 11) + 40 ≤ Lw + 60; omega) ?_
              exact mv_drop (q_RM_statements_197 H h_RM_show h_RM_commas hF hLw _ _ _ _ _ h) (And.intro rfl (And.intro rfl (And.intro rfl (And.intro rfl trivial))))
        · replace h := l_ifp c116 h
          refine vr_aload_n d_RM_statements_119 rfl rfl ?_
          refine vr_iload_n d_RM_statements_120 rfl rfl ?_
          refine vr_iload d_RM_statements_121 rfl ?_
          obtain ⟨S9, eS9, h⟩ := l_calV h
          refine rm_callU [.int x1, .int v1] H d_RM_statements_123 C_RM_258 (h_RM_show _ _ _ _ eS9) rfl rfl rfl (Nat.le_of_ble_eq_true rfl) (by omega) (by show 8 + (7 + 11) + Lw ≤ Lw + 60; omega) ?_
          refine vr_aload_n d_RM_statements_126 rfl rfl ?_
          refine vr_bipush 91 d_RM_statements_127 (by decide) ?_
          obtain ⟨S10, eS10, h⟩ := l_calV h
          refine rm_callU [.int 91] H d_RM_statements_129 C_RM_253 (c_RM_begin H eS10) rfl rfl rfl (Nat.le_of_ble_eq_true rfl) (by omega) (by show 8 + (2 + 11) + 40 ≤ Lw + 60; omega) ?_
          refine vr_aload_n d_RM_statements_132 rfl rfl ?_
          refine vr_iload_n d_RM_statements_133 rfl rfl ?_
          refine vr_iload d_RM_statements_134 rfl ?_
          obtain ⟨S11, eS11, h⟩ := l_calV h
          refine rm_callU [.int x1, .int v2] H d_RM_statements_136 C_RM_258 (h_RM_show _ _ _ _ eS11) rfl rfl rfl (Nat.le_of_ble_eq_true rfl) (by omega) (by show 8 + (7 + 11) + Lw ≤ Lw + 60; omega) ?_
          refine vr_aload_n d_RM_statements_139 rfl rfl ?_
          refine vr_bipush 93 d_RM_statements_140 (by decide) ?_
          obtain ⟨S12, eS12, h⟩ := l_calV h
          refine rm_callU [.int 93] H d_RM_statements_142 C_RM_253 (c_RM_begin H eS12) rfl rfl rfl (Nat.le_of_ble_eq_true rfl) (by omega) (by show 8 + (2 + 11) + 40 ≤ Lw + 60; omega) ?_
          refine vr_aload_n d_RM_statements_145 rfl rfl ?_
          refine vr_bipush 61 d_RM_statements_146 (by decide) ?_
          obtain ⟨S13, eS13, h⟩ := l_calV h
          refine rm_callU [.int 61] H d_RM_statements_148 C_RM_253 (c_RM_begin H eS13) rfl rfl rfl (Nat.le_of_ble_eq_true rfl) (by omega) (by show 8 + (2 + 11) + 40 ≤ Lw + 60; omega) ?_
          refine vr_aload_n d_RM_statements_151 rfl rfl ?_
          refine vr_iload_n d_RM_statements_152 rfl rfl ?_
          refine vr_aload_n d_RM_statements_153 rfl rfl ?_
          refine vr_iload_n d_RM_statements_154 rfl rfl ?_
          refine vr_iload d_RM_statements_155 rfl ?_
          obtain ⟨v14, S14, ev14, h⟩ := l_calI h
          refine rm_callI [.int x1, .int v2] H d_RM_statements_157 C_RM_268 (c_RM_behind H ev14) rfl rfl rfl (Nat.le_of_ble_eq_true rfl) (by omega) (by show 8 + (3 + 11) + 0 ≤ Lw + 60; omega) ?_
          obtain ⟨S15, eS15, h⟩ := l_calV h
          refine rm_callU [.int x1, .int v14] H d_RM_statements_160 C_RM_258 (h_RM_show _ _ _ _ eS15) rfl rfl rfl (Nat.le_of_ble_eq_true rfl) (by omega) (by show 8 + (7 + 11) + Lw ≤ Lw + 60; omega) ?_
          refine vr_goto (tgt := 348) d_RM_statements_163 (by decide) ?_
          refine vr_aload_n d_RM_statements_348 rfl rfl ?_
          refine vr_bipush 59 d_RM_statements_349 (by decide) ?_
          obtain ⟨S16, eS16, h⟩ := l_calV h
          refine rm_callU [.int 59] H d_RM_statements_351 C_RM_253 (c_RM_begin H eS16) rfl rfl rfl (Nat.le_of_ble_eq_true rfl) (by omega) (by show 8 + (2 + 11) + 40 ≤ Lw + 60; omega) ?_
          cases h
          exact vr_vret d_RM_statements_354 rfl ⟨rfl, rfl⟩
      · replace h := l_ifp c87 h
        refine vr_aload_n d_RM_statements_90 rfl rfl ?_
        refine vr_iload_n d_RM_statements_91 rfl rfl ?_
        refine vr_iload d_RM_statements_92 rfl ?_
        obtain ⟨S17, eS17, h⟩ := l_calV h
        refine rm_callU [.int x1, .int v1] H d_RM_statements_94 C_RM_258 (h_RM_show _ _ _ _ eS17) rfl rfl rfl (Nat.le_of_ble_eq_true rfl) (by omega) (by show 8 + (7 + 11) + Lw ≤ Lw + 60; omega) ?_
        refine vr_aload_n d_RM_statements_97 rfl rfl ?_
        refine vr_bipush 61 d_RM_statements_98 (by decide) ?_
        obtain ⟨S18, eS18, h⟩ := l_calV h
        refine rm_callU [.int 61] H d_RM_statements_100 C_RM_253 (c_RM_begin H eS18) rfl rfl rfl (Nat.le_of_ble_eq_true rfl) (by omega) (by show 8 + (2 + 11) + 40 ≤ Lw + 60; omega) ?_
        refine vr_aload_n d_RM_statements_103 rfl rfl ?_
        refine vr_iload_n d_RM_statements_104 rfl rfl ?_
        refine vr_iload d_RM_statements_105 rfl ?_
        obtain ⟨S19, eS19, h⟩ := l_calV h
        refine rm_callU [.int x1, .int v2] H d_RM_statements_107 C_RM_258 (h_RM_show _ _ _ _ eS19) rfl rfl rfl (Nat.le_of_ble_eq_true rfl) (by omega) (by show 8 + (7 + 11) + Lw ≤ Lw + 60; omega) ?_
        refine vr_goto (tgt := 348) d_RM_statements_110 (by decide) ?_
        refine vr_aload_n d_RM_statements_348 rfl rfl ?_
        refine vr_bipush 59 d_RM_statements_349 (by decide) ?_
        obtain ⟨S20, eS20, h⟩ := l_calV h
        refine rm_callU [.int 59] H d_RM_statements_351 C_RM_253 (c_RM_begin H eS20) rfl rfl rfl (Nat.le_of_ble_eq_true rfl) (by omega) (by show 8 + (2 + 11) + 40 ≤ Lw + 60; omega) ?_
        cases h
        exact vr_vret d_RM_statements_354 rfl ⟨rfl, rfl⟩
    · replace h := l_ifp c21 h
      exact mv_drop (q_RM_statements_24 H h_RM_show h_RM_commas hF hLw _ _ _ _ _ _ _ h) (And.intro rfl (And.intro rfl (And.intro rfl (And.intro rfl (And.intro rfl (And.intro rfl trivial))))))

def k_RM_show_40 (N : Nat) (p_RM_show : Int32 → Int32 → rm_S → Option (rm_S)) (p_RM_commas : Int32 → Int32 → Int32 → rm_S → Option (rm_S)) (p_RM_statements : Int32 → Int32 → Int32 → rm_S → Option (rm_S)) (p_RM_sayFactor : Int32 → Int32 → Int32 → rm_S → Option (rm_S)) (p_RM_sayTest : Int32 → Int32 → Int32 → rm_S → Option (rm_S)) : Nat → Int32 → Int32 → Int32 → Int32 → rm_S → Option (rm_S)
  | 0, _, _, _, _, _ => none
  | n + 1, y1, y3, y4, y5, S => if y5 ≤ y4 then (if y3 = 2 then (calV (f_RM_begin N 125 S) fun S36 => some (S36)) else (some (S))) else (calV (p_RM_show y1 y4 S) fun S37 => calI (f_RM_behind N y1 y4 S37) fun v38 S38 => k_RM_show_40 N p_RM_show p_RM_commas p_RM_statements p_RM_sayFactor p_RM_sayTest n y1 y3 v38 y5 S38)
theorem q_RM_show_40 {g : mv_G} {σ : mh_H} {m : Nat} {N : Nat} {p_RM_show : Int32 → Int32 → rm_S → Option (rm_S)} {p_RM_commas : Int32 → Int32 → Int32 → rm_S → Option (rm_S)} {p_RM_statements : Int32 → Int32 → Int32 → rm_S → Option (rm_S)} {p_RM_sayFactor : Int32 → Int32 → Int32 → rm_S → Option (rm_S)} {p_RM_sayTest : Int32 → Int32 → Int32 → rm_S → Option (rm_S)} (H : rm_H g σ m) {F Lw : Nat} (h_RM_show : rkV2 g σ m M_RM_show F Lw p_RM_show) (h_RM_commas : rkV3 g σ m M_RM_commas F Lw p_RM_commas) (h_RM_statements : rkV3 g σ m M_RM_statements F Lw p_RM_statements) (h_RM_sayFactor : rkV3 g σ m M_RM_sayFactor F Lw p_RM_sayFactor) (h_RM_sayTest : rkV3 g σ m M_RM_sayTest F Lw p_RM_sayTest) (hF : 40 ≤ F) (hLw : 1000 ≤ Lw) : ∀ (n : Nat) (y1 : Int32) (y3 : Int32) (y4 : Int32) (y5 : Int32) (S : rm_S) (r : rm_S), k_RM_show_40 N p_RM_show p_RM_commas p_RM_statements p_RM_sayFactor p_RM_sayTest n y1 y3 y4 y5 S = some r → mv_V g M_RM_show (F + 1) (Lw + 60) 0 0 40 [some (.ref m), some (.int y1), none, some (.int y3), some (.int y4), some (.int y5), none] [] (rz σ m S) (fun oc τ => τ = rz σ m r ∧ oc = .returned none) := by
  intro n
  induction n with
  | zero =>
    intro y1 y3 y4 y5 S r h
    exact absurd h (by simp [k_RM_show_40])
  | succ n ih =>
    intro y1 y3 y4 y5 S r h 
    unfold k_RM_show_40 at h
    refine vr_iload d_RM_show_40 rfl ?_
    refine vr_iload d_RM_show_42 rfl ?_
    refine vr_icmp_ge (tgt := 66) d_RM_show_44 (by decide) (fun c44 => ?_) (fun c44 => ?_)
    · replace h := l_ifp c44 h
      refine vr_iload_n d_RM_show_66 rfl rfl ?_
      refine vr_iconst 2 d_RM_show_67 (by decide) ?_
      refine vr_icmp_ne (tgt := 561) d_RM_show_68 (by decide) (fun c68 => ?_) (fun c68 => ?_)
      · replace h := l_ifn c68 h
        cases h
        exact vr_vret d_RM_show_561 rfl ⟨rfl, rfl⟩
      · replace h := l_ifp c68 h
        refine vr_aload_n d_RM_show_71 rfl rfl ?_
        refine vr_bipush 125 d_RM_show_72 (by decide) ?_
        obtain ⟨S36, eS36, h⟩ := l_calV h
        refine rm_callU [.int 125] H d_RM_show_74 C_RM_253 (c_RM_begin H eS36) rfl rfl rfl (Nat.le_of_ble_eq_true rfl) (by omega) (by show 8 + (2 + 11) + 40 ≤ Lw + 60; omega) ?_
        refine vr_goto (tgt := 561) d_RM_show_77 (by decide) ?_
        cases h
        exact vr_vret d_RM_show_561 rfl ⟨rfl, rfl⟩
    · replace h := l_ifn c44 h
      refine vr_aload_n d_RM_show_47 rfl rfl ?_
      refine vr_iload_n d_RM_show_48 rfl rfl ?_
      refine vr_iload d_RM_show_49 rfl ?_
      obtain ⟨S37, eS37, h⟩ := l_calV h
      refine rm_callU [.int y1, .int y4] H d_RM_show_51 C_RM_258 (h_RM_show _ _ _ _ eS37) rfl rfl rfl (Nat.le_of_ble_eq_true rfl) (by omega) (by show 8 + (7 + 11) + Lw ≤ Lw + 60; omega) ?_
      refine vr_aload_n d_RM_show_54 rfl rfl ?_
      refine vr_iload_n d_RM_show_55 rfl rfl ?_
      refine vr_iload d_RM_show_56 rfl ?_
      obtain ⟨v38, S38, ev38, h⟩ := l_calI h
      refine rm_callI [.int y1, .int y4] H d_RM_show_58 C_RM_268 (c_RM_behind H ev38) rfl rfl rfl (Nat.le_of_ble_eq_true rfl) (by omega) (by show 8 + (3 + 11) + 0 ≤ Lw + 60; omega) ?_
      refine vr_istore (L' := [some (.ref m), some (.int y1), none, some (.int y3), some (.int v38), some (.int y5), none]) d_RM_show_61 (by decide) rfl ?_
      refine vr_goto (tgt := 40) d_RM_show_63 (by decide) ?_
      exact mv_drop (ih _ _ _ _ _ _ h) (And.intro rfl (And.intro rfl (And.intro rfl (And.intro rfl (And.intro rfl trivial)))))

def k_RM_show_29 (N : Nat) (p_RM_show : Int32 → Int32 → rm_S → Option (rm_S)) (p_RM_commas : Int32 → Int32 → Int32 → rm_S → Option (rm_S)) (p_RM_statements : Int32 → Int32 → Int32 → rm_S → Option (rm_S)) (p_RM_sayFactor : Int32 → Int32 → Int32 → rm_S → Option (rm_S)) (p_RM_sayTest : Int32 → Int32 → Int32 → rm_S → Option (rm_S)) (y1 : Int32) (y3 : Int32) (y4 : Int32) (y5 : Int32) (S : rm_S) : Option (rm_S) := if y3 = 2 then (calV (f_RM_begin N 123 S) fun S21 => k_RM_show_40 N p_RM_show p_RM_commas p_RM_statements p_RM_sayFactor p_RM_sayTest N y1 y3 y4 y5 S21) else (k_RM_show_40 N p_RM_show p_RM_commas p_RM_statements p_RM_sayFactor p_RM_sayTest N y1 y3 y4 y5 S)
theorem q_RM_show_29 {g : mv_G} {σ : mh_H} {m : Nat} {N : Nat} {p_RM_show : Int32 → Int32 → rm_S → Option (rm_S)} {p_RM_commas : Int32 → Int32 → Int32 → rm_S → Option (rm_S)} {p_RM_statements : Int32 → Int32 → Int32 → rm_S → Option (rm_S)} {p_RM_sayFactor : Int32 → Int32 → Int32 → rm_S → Option (rm_S)} {p_RM_sayTest : Int32 → Int32 → Int32 → rm_S → Option (rm_S)} (H : rm_H g σ m) {F Lw : Nat} (h_RM_show : rkV2 g σ m M_RM_show F Lw p_RM_show) (h_RM_commas : rkV3 g σ m M_RM_commas F Lw p_RM_commas) (h_RM_statements : rkV3 g σ m M_RM_statements F Lw p_RM_statements) (h_RM_sayFactor : rkV3 g σ m M_RM_sayFactor F Lw p_RM_sayFactor) (h_RM_sayTest : rkV3 g σ m M_RM_sayTest F Lw p_RM_sayTest) (hF : 40 ≤ F) (hLw : 1000 ≤ Lw) (y1 : Int32) (y3 : Int32) (y4 : Int32) (y5 : Int32) (S : rm_S) (r : rm_S) (h : k_RM_show_29 N p_RM_show p_RM_commas p_RM_statements p_RM_sayFactor p_RM_sayTest y1 y3 y4 y5 S = some r) : mv_V g M_RM_show (F + 1) (Lw + 60) 0 0 29 [some (.ref m), some (.int y1), none, some (.int y3), some (.int y4), some (.int y5), none] [] (rz σ m S) (fun oc τ => τ = rz σ m r ∧ oc = .returned none) := by
  unfold k_RM_show_29 at h
  refine vr_iload_n d_RM_show_29 rfl rfl ?_
  refine vr_iconst 2 d_RM_show_30 (by decide) ?_
  refine vr_icmp_ne (tgt := 40) d_RM_show_31 (by decide) (fun c31 => ?_) (fun c31 => ?_)
  · replace h := l_ifn c31 h
    exact mv_drop (q_RM_show_40 H h_RM_show h_RM_commas h_RM_statements h_RM_sayFactor h_RM_sayTest hF hLw N _ _ _ _ _ _ h) (And.intro rfl (And.intro rfl (And.intro rfl (And.intro rfl (And.intro rfl trivial)))))
  · replace h := l_ifp c31 h
    refine vr_aload_n d_RM_show_34 rfl rfl ?_
    refine vr_bipush 123 d_RM_show_35 (by decide) ?_
    obtain ⟨S21, eS21, h⟩ := l_calV h
    refine rm_callU [.int 123] H d_RM_show_37 C_RM_253 (c_RM_begin H eS21) rfl rfl rfl (Nat.le_of_ble_eq_true rfl) (by omega) (by show 8 + (2 + 11) + 40 ≤ Lw + 60; omega) ?_
    exact mv_drop (q_RM_show_40 H h_RM_show h_RM_commas h_RM_statements h_RM_sayFactor h_RM_sayTest hF hLw N _ _ _ _ _ _ h) (And.intro rfl (And.intro rfl (And.intro rfl (And.intro rfl (And.intro rfl trivial)))))

def k_RM_show_342 (N : Nat) (p_RM_show : Int32 → Int32 → rm_S → Option (rm_S)) (p_RM_commas : Int32 → Int32 → Int32 → rm_S → Option (rm_S)) (p_RM_statements : Int32 → Int32 → Int32 → rm_S → Option (rm_S)) (p_RM_sayFactor : Int32 → Int32 → Int32 → rm_S → Option (rm_S)) (p_RM_sayTest : Int32 → Int32 → Int32 → rm_S → Option (rm_S)) : Nat → Int32 → Int32 → Int32 → rm_S → Option (rm_S)
  | 0, _, _, _, _ => none
  | n + 1, y1, y4, y5, S => if y5 ≤ y4 then (some (S)) else (calV (p_RM_show y1 y4 S) fun S43 => calI (f_RM_behind N y1 y4 S43) fun v44 S44 => k_RM_show_342 N p_RM_show p_RM_commas p_RM_statements p_RM_sayFactor p_RM_sayTest n y1 v44 y5 S44)
theorem q_RM_show_342 {g : mv_G} {σ : mh_H} {m : Nat} {N : Nat} {p_RM_show : Int32 → Int32 → rm_S → Option (rm_S)} {p_RM_commas : Int32 → Int32 → Int32 → rm_S → Option (rm_S)} {p_RM_statements : Int32 → Int32 → Int32 → rm_S → Option (rm_S)} {p_RM_sayFactor : Int32 → Int32 → Int32 → rm_S → Option (rm_S)} {p_RM_sayTest : Int32 → Int32 → Int32 → rm_S → Option (rm_S)} (H : rm_H g σ m) {F Lw : Nat} (h_RM_show : rkV2 g σ m M_RM_show F Lw p_RM_show) (h_RM_commas : rkV3 g σ m M_RM_commas F Lw p_RM_commas) (h_RM_statements : rkV3 g σ m M_RM_statements F Lw p_RM_statements) (h_RM_sayFactor : rkV3 g σ m M_RM_sayFactor F Lw p_RM_sayFactor) (h_RM_sayTest : rkV3 g σ m M_RM_sayTest F Lw p_RM_sayTest) (hF : 40 ≤ F) (hLw : 1000 ≤ Lw) : ∀ (n : Nat) (y1 : Int32) (y4 : Int32) (y5 : Int32) (S : rm_S) (r : rm_S), k_RM_show_342 N p_RM_show p_RM_commas p_RM_statements p_RM_sayFactor p_RM_sayTest n y1 y4 y5 S = some r → mv_V g M_RM_show (F + 1) (Lw + 60) 0 0 342 [some (.ref m), some (.int y1), none, none, some (.int y4), some (.int y5), none] [] (rz σ m S) (fun oc τ => τ = rz σ m r ∧ oc = .returned none) := by
  intro n
  induction n with
  | zero =>
    intro y1 y4 y5 S r h
    exact absurd h (by simp [k_RM_show_342])
  | succ n ih =>
    intro y1 y4 y5 S r h 
    unfold k_RM_show_342 at h
    refine vr_iload d_RM_show_342 rfl ?_
    refine vr_iload d_RM_show_344 rfl ?_
    refine vr_icmp_ge (tgt := 561) d_RM_show_346 (by decide) (fun c346 => ?_) (fun c346 => ?_)
    · replace h := l_ifp c346 h
      cases h
      exact vr_vret d_RM_show_561 rfl ⟨rfl, rfl⟩
    · replace h := l_ifn c346 h
      refine vr_aload_n d_RM_show_349 rfl rfl ?_
      refine vr_iload_n d_RM_show_350 rfl rfl ?_
      refine vr_iload d_RM_show_351 rfl ?_
      obtain ⟨S43, eS43, h⟩ := l_calV h
      refine rm_callU [.int y1, .int y4] H d_RM_show_353 C_RM_258 (h_RM_show _ _ _ _ eS43) rfl rfl rfl (Nat.le_of_ble_eq_true rfl) (by omega) (by show 8 + (7 + 11) + Lw ≤ Lw + 60; omega) ?_
      refine vr_aload_n d_RM_show_356 rfl rfl ?_
      refine vr_iload_n d_RM_show_357 rfl rfl ?_
      refine vr_iload d_RM_show_358 rfl ?_
      obtain ⟨v44, S44, ev44, h⟩ := l_calI h
      refine rm_callI [.int y1, .int y4] H d_RM_show_360 C_RM_268 (c_RM_behind H ev44) rfl rfl rfl (Nat.le_of_ble_eq_true rfl) (by omega) (by show 8 + (3 + 11) + 0 ≤ Lw + 60; omega) ?_
      refine vr_istore (L' := [some (.ref m), some (.int y1), none, none, some (.int v44), some (.int y5), none]) d_RM_show_363 (by decide) rfl ?_
      refine vr_goto (tgt := 342) d_RM_show_365 (by decide) ?_
      exact mv_drop (ih _ _ _ _ _ h) (And.intro rfl (And.intro rfl (And.intro rfl (And.intro rfl trivial))))

def k_RM_show_330 (N : Nat) (p_RM_show : Int32 → Int32 → rm_S → Option (rm_S)) (p_RM_commas : Int32 → Int32 → Int32 → rm_S → Option (rm_S)) (p_RM_statements : Int32 → Int32 → Int32 → rm_S → Option (rm_S)) (p_RM_sayFactor : Int32 → Int32 → Int32 → rm_S → Option (rm_S)) (p_RM_sayTest : Int32 → Int32 → Int32 → rm_S → Option (rm_S)) (y1 : Int32) (y4 : Int32) (y5 : Int32) (z0 : Int32) (z1 : Int32) (z2 : Int32) (S : rm_S) : Option (rm_S) := calV (p_RM_sayFactor z2 z1 z0 S) fun S39 => calI (f_RM_behind N y1 y4 S39) fun v40 S40 => k_RM_show_342 N p_RM_show p_RM_commas p_RM_statements p_RM_sayFactor p_RM_sayTest N y1 v40 y5 S40
theorem q_RM_show_330 {g : mv_G} {σ : mh_H} {m : Nat} {N : Nat} {p_RM_show : Int32 → Int32 → rm_S → Option (rm_S)} {p_RM_commas : Int32 → Int32 → Int32 → rm_S → Option (rm_S)} {p_RM_statements : Int32 → Int32 → Int32 → rm_S → Option (rm_S)} {p_RM_sayFactor : Int32 → Int32 → Int32 → rm_S → Option (rm_S)} {p_RM_sayTest : Int32 → Int32 → Int32 → rm_S → Option (rm_S)} (H : rm_H g σ m) {F Lw : Nat} (h_RM_show : rkV2 g σ m M_RM_show F Lw p_RM_show) (h_RM_commas : rkV3 g σ m M_RM_commas F Lw p_RM_commas) (h_RM_statements : rkV3 g σ m M_RM_statements F Lw p_RM_statements) (h_RM_sayFactor : rkV3 g σ m M_RM_sayFactor F Lw p_RM_sayFactor) (h_RM_sayTest : rkV3 g σ m M_RM_sayTest F Lw p_RM_sayTest) (hF : 40 ≤ F) (hLw : 1000 ≤ Lw) (y1 : Int32) (y4 : Int32) (y5 : Int32) (z0 : Int32) (z1 : Int32) (z2 : Int32) (S : rm_S) (r : rm_S) (h : k_RM_show_330 N p_RM_show p_RM_commas p_RM_statements p_RM_sayFactor p_RM_sayTest y1 y4 y5 z0 z1 z2 S = some r) : mv_V g M_RM_show (F + 1) (Lw + 60) 0 0 330 [some (.ref m), some (.int y1), none, none, some (.int y4), some (.int y5), none] [.int z0, .int z1, .int z2, .ref m] (rz σ m S) (fun oc τ => τ = rz σ m r ∧ oc = .returned none) := by
  unfold k_RM_show_330 at h
  obtain ⟨S39, eS39, h⟩ := l_calV h
  refine rm_callU [.int z2, .int z1, .int z0] H d_RM_show_330 C_RM_310 (h_RM_sayFactor _ _ _ _ _ eS39) rfl rfl rfl (Nat.le_of_ble_eq_true rfl) (by omega) (by show 8 + (5 + 11) + Lw ≤ Lw + 60; omega) ?_
  refine vr_aload_n d_RM_show_333 rfl rfl ?_
  refine vr_iload_n d_RM_show_334 rfl rfl ?_
  refine vr_iload d_RM_show_335 rfl ?_
  obtain ⟨v40, S40, ev40, h⟩ := l_calI h
  refine rm_callI [.int y1, .int y4] H d_RM_show_337 C_RM_268 (c_RM_behind H ev40) rfl rfl rfl (Nat.le_of_ble_eq_true rfl) (by omega) (by show 8 + (3 + 11) + 0 ≤ Lw + 60; omega) ?_
  refine vr_istore (L' := [some (.ref m), some (.int y1), none, none, some (.int v40), some (.int y5), none]) d_RM_show_340 (by decide) rfl ?_
  exact mv_drop (q_RM_show_342 H h_RM_show h_RM_commas h_RM_statements h_RM_sayFactor h_RM_sayTest hF hLw N _ _ _ _ _ h) (And.intro rfl (And.intro rfl (And.intro rfl (And.intro rfl trivial))))

def k_RM_show_315 (N : Nat) (p_RM_show : Int32 → Int32 → rm_S → Option (rm_S)) (p_RM_commas : Int32 → Int32 → Int32 → rm_S → Option (rm_S)) (p_RM_statements : Int32 → Int32 → Int32 → rm_S → Option (rm_S)) (p_RM_sayFactor : Int32 → Int32 → Int32 → rm_S → Option (rm_S)) (p_RM_sayTest : Int32 → Int32 → Int32 → rm_S → Option (rm_S)) (y1 : Int32) (y3 : Int32) (y4 : Int32) (y5 : Int32) (S : rm_S) : Option (rm_S) := if y3 = 17 then (k_RM_show_330 N p_RM_show p_RM_commas p_RM_statements p_RM_sayFactor p_RM_sayTest y1 y4 y5 1 y4 y1 S) else (k_RM_show_330 N p_RM_show p_RM_commas p_RM_statements p_RM_sayFactor p_RM_sayTest y1 y4 y5 0 y4 y1 S)
theorem q_RM_show_315 {g : mv_G} {σ : mh_H} {m : Nat} {N : Nat} {p_RM_show : Int32 → Int32 → rm_S → Option (rm_S)} {p_RM_commas : Int32 → Int32 → Int32 → rm_S → Option (rm_S)} {p_RM_statements : Int32 → Int32 → Int32 → rm_S → Option (rm_S)} {p_RM_sayFactor : Int32 → Int32 → Int32 → rm_S → Option (rm_S)} {p_RM_sayTest : Int32 → Int32 → Int32 → rm_S → Option (rm_S)} (H : rm_H g σ m) {F Lw : Nat} (h_RM_show : rkV2 g σ m M_RM_show F Lw p_RM_show) (h_RM_commas : rkV3 g σ m M_RM_commas F Lw p_RM_commas) (h_RM_statements : rkV3 g σ m M_RM_statements F Lw p_RM_statements) (h_RM_sayFactor : rkV3 g σ m M_RM_sayFactor F Lw p_RM_sayFactor) (h_RM_sayTest : rkV3 g σ m M_RM_sayTest F Lw p_RM_sayTest) (hF : 40 ≤ F) (hLw : 1000 ≤ Lw) (y1 : Int32) (y3 : Int32) (y4 : Int32) (y5 : Int32) (S : rm_S) (r : rm_S) (h : k_RM_show_315 N p_RM_show p_RM_commas p_RM_statements p_RM_sayFactor p_RM_sayTest y1 y3 y4 y5 S = some r) : mv_V g M_RM_show (F + 1) (Lw + 60) 0 0 315 [some (.ref m), some (.int y1), none, some (.int y3), some (.int y4), some (.int y5), none] [] (rz σ m S) (fun oc τ => τ = rz σ m r ∧ oc = .returned none) := by
  unfold k_RM_show_315 at h
  refine vr_aload_n d_RM_show_315 rfl rfl ?_
  refine vr_iload_n d_RM_show_316 rfl rfl ?_
  refine vr_iload d_RM_show_317 rfl ?_
  refine vr_iload_n d_RM_show_319 rfl rfl ?_
  refine vr_bipush 17 d_RM_show_320 (by decide) ?_
  refine vr_icmp_ne (tgt := 329) d_RM_show_322 (by decide) (fun c322 => ?_) (fun c322 => ?_)
  · replace h := l_ifn c322 h
    refine vr_iconst 0 d_RM_show_329 (by decide) ?_
    exact mv_drop (q_RM_show_330 H h_RM_show h_RM_commas h_RM_statements h_RM_sayFactor h_RM_sayTest hF hLw _ _ _ _ _ _ _ _ h) (And.intro rfl (And.intro rfl (And.intro rfl (And.intro rfl trivial))))
  · replace h := l_ifp c322 h
    refine vr_iconst 1 d_RM_show_325 (by decide) ?_
    refine vr_goto (tgt := 330) d_RM_show_326 (by decide) ?_
    exact mv_drop (q_RM_show_330 H h_RM_show h_RM_commas h_RM_statements h_RM_sayFactor h_RM_sayTest hF hLw _ _ _ _ _ _ _ _ h) (And.intro rfl (And.intro rfl (And.intro rfl (And.intro rfl trivial))))

def k_RM_show_392 (N : Nat) (p_RM_show : Int32 → Int32 → rm_S → Option (rm_S)) (p_RM_commas : Int32 → Int32 → Int32 → rm_S → Option (rm_S)) (p_RM_statements : Int32 → Int32 → Int32 → rm_S → Option (rm_S)) (p_RM_sayFactor : Int32 → Int32 → Int32 → rm_S → Option (rm_S)) (p_RM_sayTest : Int32 → Int32 → Int32 → rm_S → Option (rm_S)) (y1 : Int32) (y3 : Int32) (y4 : Int32) (S : rm_S) : Option (rm_S) := calI (f_RM_sign N y3 S) fun v22 S22 => calV (f_RM_text N v22 S22) fun S23 => if 20 ≤ y3 then (calV (p_RM_sayFactor y1 y4 0 S23) fun S24 => some (S24)) else (calV (p_RM_sayFactor y1 y4 1 S23) fun S25 => some (S25))
theorem q_RM_show_392 {g : mv_G} {σ : mh_H} {m : Nat} {N : Nat} {p_RM_show : Int32 → Int32 → rm_S → Option (rm_S)} {p_RM_commas : Int32 → Int32 → Int32 → rm_S → Option (rm_S)} {p_RM_statements : Int32 → Int32 → Int32 → rm_S → Option (rm_S)} {p_RM_sayFactor : Int32 → Int32 → Int32 → rm_S → Option (rm_S)} {p_RM_sayTest : Int32 → Int32 → Int32 → rm_S → Option (rm_S)} (H : rm_H g σ m) {F Lw : Nat} (h_RM_show : rkV2 g σ m M_RM_show F Lw p_RM_show) (h_RM_commas : rkV3 g σ m M_RM_commas F Lw p_RM_commas) (h_RM_statements : rkV3 g σ m M_RM_statements F Lw p_RM_statements) (h_RM_sayFactor : rkV3 g σ m M_RM_sayFactor F Lw p_RM_sayFactor) (h_RM_sayTest : rkV3 g σ m M_RM_sayTest F Lw p_RM_sayTest) (hF : 40 ≤ F) (hLw : 1000 ≤ Lw) (y1 : Int32) (y3 : Int32) (y4 : Int32) (S : rm_S) (r : rm_S) (h : k_RM_show_392 N p_RM_show p_RM_commas p_RM_statements p_RM_sayFactor p_RM_sayTest y1 y3 y4 S = some r) : mv_V g M_RM_show (F + 1) (Lw + 60) 0 0 392 [some (.ref m), some (.int y1), none, some (.int y3), some (.int y4), none, none] [] (rz σ m S) (fun oc τ => τ = rz σ m r ∧ oc = .returned none) := by
  unfold k_RM_show_392 at h
  refine vr_aload_n d_RM_show_392 rfl rfl ?_
  refine vr_aload_n d_RM_show_393 rfl rfl ?_
  refine vr_iload_n d_RM_show_394 rfl rfl ?_
  obtain ⟨v22, S22, ev22, h⟩ := l_calI h
  refine rm_callT [.int y3] H d_RM_show_395 C_RM_314 (c_RM_sign H ev22) rfl rfl rfl (Nat.le_of_ble_eq_true rfl) (by omega) (by show 8 + (2 + 11) + 0 ≤ Lw + 60; omega) ?_
  obtain ⟨S23, eS23, h⟩ := l_calV h
  refine rm_callU [.ref (mg_K g v22)] H d_RM_show_398 C_RM_293 (c_RM_text H eS23) rfl rfl rfl (Nat.le_of_ble_eq_true rfl) (by omega) (by show 8 + (3 + 11) + 141 ≤ Lw + 60; omega) ?_
  refine vr_aload_n d_RM_show_401 rfl rfl ?_
  refine vr_iload_n d_RM_show_402 rfl rfl ?_
  refine vr_iload d_RM_show_403 rfl ?_
  refine vr_iload_n d_RM_show_405 rfl rfl ?_
  refine vr_bipush 20 d_RM_show_406 (by decide) ?_
  refine vr_icmp_ge (tgt := 415) d_RM_show_408 (by decide) (fun c408 => ?_) (fun c408 => ?_)
  · replace h := l_ifp c408 h
    refine vr_iconst 0 d_RM_show_415 (by decide) ?_
    obtain ⟨S24, eS24, h⟩ := l_calV h
    refine rm_callU [.int y1, .int y4, .int 0] H d_RM_show_416 C_RM_310 (h_RM_sayFactor _ _ _ _ _ eS24) rfl rfl rfl (Nat.le_of_ble_eq_true rfl) (by omega) (by show 8 + (5 + 11) + Lw ≤ Lw + 60; omega) ?_
    refine vr_goto (tgt := 561) d_RM_show_419 (by decide) ?_
    cases h
    exact vr_vret d_RM_show_561 rfl ⟨rfl, rfl⟩
  · replace h := l_ifn c408 h
    refine vr_iconst 1 d_RM_show_411 (by decide) ?_
    refine vr_goto (tgt := 416) d_RM_show_412 (by decide) ?_
    obtain ⟨S25, eS25, h⟩ := l_calV h
    refine rm_callU [.int y1, .int y4, .int 1] H d_RM_show_416 C_RM_310 (h_RM_sayFactor _ _ _ _ _ eS25) rfl rfl rfl (Nat.le_of_ble_eq_true rfl) (by omega) (by show 8 + (5 + 11) + Lw ≤ Lw + 60; omega) ?_
    refine vr_goto (tgt := 561) d_RM_show_419 (by decide) ?_
    cases h
    exact vr_vret d_RM_show_561 rfl ⟨rfl, rfl⟩

def k_RM_show_486 (N : Nat) (p_RM_show : Int32 → Int32 → rm_S → Option (rm_S)) (p_RM_commas : Int32 → Int32 → Int32 → rm_S → Option (rm_S)) (p_RM_statements : Int32 → Int32 → Int32 → rm_S → Option (rm_S)) (p_RM_sayFactor : Int32 → Int32 → Int32 → rm_S → Option (rm_S)) (p_RM_sayTest : Int32 → Int32 → Int32 → rm_S → Option (rm_S)) (k438 : Int32 → Int32 → Int32 → Int32 → Int32 → rm_S → Option (rm_S)) (y1 : Int32) (y3 : Int32) (y4 : Int32) (y5 : Int32) (y6 : Int32) (z0 : Int32) (z1 : Int32) (z2 : Int32) (S : rm_S) : Option (rm_S) := calV (p_RM_sayTest z2 z1 z0 S) fun S45 => calI (f_RM_behind N y1 y4 S45) fun v46 S46 => k438 y1 y3 v46 y5 y6 S46
theorem q_RM_show_486 {g : mv_G} {σ : mh_H} {m : Nat} {N : Nat} {p_RM_show : Int32 → Int32 → rm_S → Option (rm_S)} {p_RM_commas : Int32 → Int32 → Int32 → rm_S → Option (rm_S)} {p_RM_statements : Int32 → Int32 → Int32 → rm_S → Option (rm_S)} {p_RM_sayFactor : Int32 → Int32 → Int32 → rm_S → Option (rm_S)} {p_RM_sayTest : Int32 → Int32 → Int32 → rm_S → Option (rm_S)} {k438 : Int32 → Int32 → Int32 → Int32 → Int32 → rm_S → Option (rm_S)} (H : rm_H g σ m) {F Lw : Nat} (h_RM_show : rkV2 g σ m M_RM_show F Lw p_RM_show) (h_RM_commas : rkV3 g σ m M_RM_commas F Lw p_RM_commas) (h_RM_statements : rkV3 g σ m M_RM_statements F Lw p_RM_statements) (h_RM_sayFactor : rkV3 g σ m M_RM_sayFactor F Lw p_RM_sayFactor) (h_RM_sayTest : rkV3 g σ m M_RM_sayTest F Lw p_RM_sayTest) (hF : 40 ≤ F) (hLw : 1000 ≤ Lw) (hk438 : ∀ (y1 : Int32) (y3 : Int32) (y4 : Int32) (y5 : Int32) (y6 : Int32) (S : rm_S) (r : rm_S), k438 y1 y3 y4 y5 y6 S = some r → mv_V g M_RM_show (F + 1) (Lw + 60) 0 0 438 [some (.ref m), some (.int y1), none, some (.int y3), some (.int y4), some (.int y5), some (.int y6)] [] (rz σ m S) (fun oc τ => τ = rz σ m r ∧ oc = .returned none)) (y1 : Int32) (y3 : Int32) (y4 : Int32) (y5 : Int32) (y6 : Int32) (z0 : Int32) (z1 : Int32) (z2 : Int32) (S : rm_S) (r : rm_S) (h : k_RM_show_486 N p_RM_show p_RM_commas p_RM_statements p_RM_sayFactor p_RM_sayTest k438 y1 y3 y4 y5 y6 z0 z1 z2 S = some r) : mv_V g M_RM_show (F + 1) (Lw + 60) 0 0 486 [some (.ref m), some (.int y1), none, some (.int y3), some (.int y4), some (.int y5), some (.int y6)] [.int z0, .int z1, .int z2, .ref m] (rz σ m S) (fun oc τ => τ = rz σ m r ∧ oc = .returned none) := by
  unfold k_RM_show_486 at h
  obtain ⟨S45, eS45, h⟩ := l_calV h
  refine rm_callU [.int z2, .int z1, .int z0] H d_RM_show_486 C_RM_322 (h_RM_sayTest _ _ _ _ _ eS45) rfl rfl rfl (Nat.le_of_ble_eq_true rfl) (by omega) (by show 8 + (5 + 11) + Lw ≤ Lw + 60; omega) ?_
  refine vr_aload_n d_RM_show_489 rfl rfl ?_
  refine vr_iload_n d_RM_show_490 rfl rfl ?_
  refine vr_iload d_RM_show_491 rfl ?_
  obtain ⟨v46, S46, ev46, h⟩ := l_calI h
  refine rm_callI [.int y1, .int y4] H d_RM_show_493 C_RM_268 (c_RM_behind H ev46) rfl rfl rfl (Nat.le_of_ble_eq_true rfl) (by omega) (by show 8 + (3 + 11) + 0 ≤ Lw + 60; omega) ?_
  refine vr_istore (L' := [some (.ref m), some (.int y1), none, some (.int y3), some (.int v46), some (.int y5), some (.int y6)]) d_RM_show_496 (by decide) rfl ?_
  refine vr_goto (tgt := 438) d_RM_show_498 (by decide) ?_
  exact mv_drop (hk438 _ _ _ _ _ _ _ h) (And.intro rfl (And.intro rfl (And.intro rfl (And.intro rfl (And.intro rfl (And.intro rfl trivial))))))

def k_RM_show_471 (N : Nat) (p_RM_show : Int32 → Int32 → rm_S → Option (rm_S)) (p_RM_commas : Int32 → Int32 → Int32 → rm_S → Option (rm_S)) (p_RM_statements : Int32 → Int32 → Int32 → rm_S → Option (rm_S)) (p_RM_sayFactor : Int32 → Int32 → Int32 → rm_S → Option (rm_S)) (p_RM_sayTest : Int32 → Int32 → Int32 → rm_S → Option (rm_S)) (k438 : Int32 → Int32 → Int32 → Int32 → Int32 → rm_S → Option (rm_S)) (y1 : Int32) (y3 : Int32) (y4 : Int32) (y5 : Int32) (y6 : Int32) (S : rm_S) : Option (rm_S) := if y3 = 24 then (k_RM_show_486 N p_RM_show p_RM_commas p_RM_statements p_RM_sayFactor p_RM_sayTest k438 y1 y3 y4 y5 y6 1 y4 y1 S) else (k_RM_show_486 N p_RM_show p_RM_commas p_RM_statements p_RM_sayFactor p_RM_sayTest k438 y1 y3 y4 y5 y6 0 y4 y1 S)
theorem q_RM_show_471 {g : mv_G} {σ : mh_H} {m : Nat} {N : Nat} {p_RM_show : Int32 → Int32 → rm_S → Option (rm_S)} {p_RM_commas : Int32 → Int32 → Int32 → rm_S → Option (rm_S)} {p_RM_statements : Int32 → Int32 → Int32 → rm_S → Option (rm_S)} {p_RM_sayFactor : Int32 → Int32 → Int32 → rm_S → Option (rm_S)} {p_RM_sayTest : Int32 → Int32 → Int32 → rm_S → Option (rm_S)} {k438 : Int32 → Int32 → Int32 → Int32 → Int32 → rm_S → Option (rm_S)} (H : rm_H g σ m) {F Lw : Nat} (h_RM_show : rkV2 g σ m M_RM_show F Lw p_RM_show) (h_RM_commas : rkV3 g σ m M_RM_commas F Lw p_RM_commas) (h_RM_statements : rkV3 g σ m M_RM_statements F Lw p_RM_statements) (h_RM_sayFactor : rkV3 g σ m M_RM_sayFactor F Lw p_RM_sayFactor) (h_RM_sayTest : rkV3 g σ m M_RM_sayTest F Lw p_RM_sayTest) (hF : 40 ≤ F) (hLw : 1000 ≤ Lw) (hk438 : ∀ (y1 : Int32) (y3 : Int32) (y4 : Int32) (y5 : Int32) (y6 : Int32) (S : rm_S) (r : rm_S), k438 y1 y3 y4 y5 y6 S = some r → mv_V g M_RM_show (F + 1) (Lw + 60) 0 0 438 [some (.ref m), some (.int y1), none, some (.int y3), some (.int y4), some (.int y5), some (.int y6)] [] (rz σ m S) (fun oc τ => τ = rz σ m r ∧ oc = .returned none)) (y1 : Int32) (y3 : Int32) (y4 : Int32) (y5 : Int32) (y6 : Int32) (S : rm_S) (r : rm_S) (h : k_RM_show_471 N p_RM_show p_RM_commas p_RM_statements p_RM_sayFactor p_RM_sayTest k438 y1 y3 y4 y5 y6 S = some r) : mv_V g M_RM_show (F + 1) (Lw + 60) 0 0 471 [some (.ref m), some (.int y1), none, some (.int y3), some (.int y4), some (.int y5), some (.int y6)] [] (rz σ m S) (fun oc τ => τ = rz σ m r ∧ oc = .returned none) := by
  unfold k_RM_show_471 at h
  refine vr_aload_n d_RM_show_471 rfl rfl ?_
  refine vr_iload_n d_RM_show_472 rfl rfl ?_
  refine vr_iload d_RM_show_473 rfl ?_
  refine vr_iload_n d_RM_show_475 rfl rfl ?_
  refine vr_bipush 24 d_RM_show_476 (by decide) ?_
  refine vr_icmp_ne (tgt := 485) d_RM_show_478 (by decide) (fun c478 => ?_) (fun c478 => ?_)
  · replace h := l_ifn c478 h
    refine vr_iconst 0 d_RM_show_485 (by decide) ?_
    exact mv_drop (q_RM_show_486 H h_RM_show h_RM_commas h_RM_statements h_RM_sayFactor h_RM_sayTest hF hLw hk438 _ _ _ _ _ _ _ _ _ _ h) (And.intro rfl (And.intro rfl (And.intro rfl (And.intro rfl (And.intro rfl (And.intro rfl trivial))))))
  · replace h := l_ifp c478 h
    refine vr_iconst 1 d_RM_show_481 (by decide) ?_
    refine vr_goto (tgt := 486) d_RM_show_482 (by decide) ?_
    exact mv_drop (q_RM_show_486 H h_RM_show h_RM_commas h_RM_statements h_RM_sayFactor h_RM_sayTest hF hLw hk438 _ _ _ _ _ _ _ _ _ _ h) (And.intro rfl (And.intro rfl (And.intro rfl (And.intro rfl (And.intro rfl (And.intro rfl trivial))))))

def k_RM_show_438 (N : Nat) (p_RM_show : Int32 → Int32 → rm_S → Option (rm_S)) (p_RM_commas : Int32 → Int32 → Int32 → rm_S → Option (rm_S)) (p_RM_statements : Int32 → Int32 → Int32 → rm_S → Option (rm_S)) (p_RM_sayFactor : Int32 → Int32 → Int32 → rm_S → Option (rm_S)) (p_RM_sayTest : Int32 → Int32 → Int32 → rm_S → Option (rm_S)) : Nat → Int32 → Int32 → Int32 → Int32 → Int32 → rm_S → Option (rm_S)
  | 0, _, _, _, _, _, _ => none
  | n + 1, y1, y3, y4, y5, y6, S => if y5 ≤ y4 then (some (S)) else (if y4 ≤ y6 then (k_RM_show_471 N p_RM_show p_RM_commas p_RM_statements p_RM_sayFactor p_RM_sayTest (k_RM_show_438 N p_RM_show p_RM_commas p_RM_statements p_RM_sayFactor p_RM_sayTest n) y1 y3 y4 y5 y6 S) else (if y3 = 24 then (calV (f_RM_text N 65 S) fun S42 => k_RM_show_471 N p_RM_show p_RM_commas p_RM_statements p_RM_sayFactor p_RM_sayTest (k_RM_show_438 N p_RM_show p_RM_commas p_RM_statements p_RM_sayFactor p_RM_sayTest n) y1 y3 y4 y5 y6 S42) else (calV (f_RM_text N 66 S) fun S41 => k_RM_show_471 N p_RM_show p_RM_commas p_RM_statements p_RM_sayFactor p_RM_sayTest (k_RM_show_438 N p_RM_show p_RM_commas p_RM_statements p_RM_sayFactor p_RM_sayTest n) y1 y3 y4 y5 y6 S41)))
theorem q_RM_show_438 {g : mv_G} {σ : mh_H} {m : Nat} {N : Nat} {p_RM_show : Int32 → Int32 → rm_S → Option (rm_S)} {p_RM_commas : Int32 → Int32 → Int32 → rm_S → Option (rm_S)} {p_RM_statements : Int32 → Int32 → Int32 → rm_S → Option (rm_S)} {p_RM_sayFactor : Int32 → Int32 → Int32 → rm_S → Option (rm_S)} {p_RM_sayTest : Int32 → Int32 → Int32 → rm_S → Option (rm_S)} (H : rm_H g σ m) {F Lw : Nat} (h_RM_show : rkV2 g σ m M_RM_show F Lw p_RM_show) (h_RM_commas : rkV3 g σ m M_RM_commas F Lw p_RM_commas) (h_RM_statements : rkV3 g σ m M_RM_statements F Lw p_RM_statements) (h_RM_sayFactor : rkV3 g σ m M_RM_sayFactor F Lw p_RM_sayFactor) (h_RM_sayTest : rkV3 g σ m M_RM_sayTest F Lw p_RM_sayTest) (hF : 40 ≤ F) (hLw : 1000 ≤ Lw) : ∀ (n : Nat) (y1 : Int32) (y3 : Int32) (y4 : Int32) (y5 : Int32) (y6 : Int32) (S : rm_S) (r : rm_S), k_RM_show_438 N p_RM_show p_RM_commas p_RM_statements p_RM_sayFactor p_RM_sayTest n y1 y3 y4 y5 y6 S = some r → mv_V g M_RM_show (F + 1) (Lw + 60) 0 0 438 [some (.ref m), some (.int y1), none, some (.int y3), some (.int y4), some (.int y5), some (.int y6)] [] (rz σ m S) (fun oc τ => τ = rz σ m r ∧ oc = .returned none) := by
  intro n
  induction n with
  | zero =>
    intro y1 y3 y4 y5 y6 S r h
    exact absurd h (by simp [k_RM_show_438])
  | succ n ih =>
    intro y1 y3 y4 y5 y6 S r h 
    unfold k_RM_show_438 at h
    refine vr_iload d_RM_show_438 rfl ?_
    refine vr_iload d_RM_show_440 rfl ?_
    refine vr_icmp_ge (tgt := 501) d_RM_show_442 (by decide) (fun c442 => ?_) (fun c442 => ?_)
    · replace h := l_ifp c442 h
      refine vr_goto (tgt := 561) d_RM_show_501 (by decide) ?_
      cases h
      exact vr_vret d_RM_show_561 rfl ⟨rfl, rfl⟩
    · replace h := l_ifn c442 h
      refine vr_iload d_RM_show_445 rfl ?_
      refine vr_iload d_RM_show_447 rfl ?_
      refine vr_icmp_le (tgt := 471) d_RM_show_449 (by decide) (fun c449 => ?_) (fun c449 => ?_)
      · replace h := l_ifp c449 h
        exact mv_drop (q_RM_show_471 H h_RM_show h_RM_commas h_RM_statements h_RM_sayFactor h_RM_sayTest hF hLw ih _ _ _ _ _ _ _ h) (And.intro rfl (And.intro rfl (And.intro rfl (And.intro rfl (And.intro rfl (And.intro rfl trivial))))))
      · replace h := l_ifn c449 h
        refine vr_aload_n d_RM_show_452 rfl rfl ?_
        refine vr_iload_n d_RM_show_453 rfl rfl ?_
        refine vr_bipush 24 d_RM_show_454 (by decide) ?_
        refine vr_icmp_ne (tgt := 465) d_RM_show_456 (by decide) (fun c456 => ?_) (fun c456 => ?_)
        · replace h := l_ifn c456 h
          refine vr_ldcSw 66 d_RM_show_465 rfl ?_
          obtain ⟨S41, eS41, h⟩ := l_calV h
          refine rm_callU [.ref (mg_K g 66)] H d_RM_show_468 C_RM_293 (c_RM_text H eS41) rfl rfl rfl (Nat.le_of_ble_eq_true rfl) (by omega) (by show 8 + (3 + 11) + 141 ≤ Lw + 60; omega) ?_
          exact mv_drop (q_RM_show_471 H h_RM_show h_RM_commas h_RM_statements h_RM_sayFactor h_RM_sayTest hF hLw ih _ _ _ _ _ _ _ h) (And.intro rfl (And.intro rfl (And.intro rfl (And.intro rfl (And.intro rfl (And.intro rfl trivial))))))
        · replace h := l_ifp c456 h
          refine vr_ldcSw 65 d_RM_show_459 rfl ?_
          refine vr_goto (tgt := 468) d_RM_show_462 (by decide) ?_
          obtain ⟨S42, eS42, h⟩ := l_calV h
          refine rm_callU [.ref (mg_K g 65)] H d_RM_show_468 C_RM_293 (c_RM_text H eS42) rfl rfl rfl (Nat.le_of_ble_eq_true rfl) (by omega) (by show 8 + (3 + 11) + 141 ≤ Lw + 60; omega) ?_
          exact mv_drop (q_RM_show_471 H h_RM_show h_RM_commas h_RM_statements h_RM_sayFactor h_RM_sayTest hF hLw ih _ _ _ _ _ _ _ h) (And.intro rfl (And.intro rfl (And.intro rfl (And.intro rfl (And.intro rfl (And.intro rfl trivial))))))

def k_RM_show_422 (N : Nat) (p_RM_show : Int32 → Int32 → rm_S → Option (rm_S)) (p_RM_commas : Int32 → Int32 → Int32 → rm_S → Option (rm_S)) (p_RM_statements : Int32 → Int32 → Int32 → rm_S → Option (rm_S)) (p_RM_sayFactor : Int32 → Int32 → Int32 → rm_S → Option (rm_S)) (p_RM_sayTest : Int32 → Int32 → Int32 → rm_S → Option (rm_S)) (y1 : Int32) (y3 : Int32) (y4 : Int32) (y5 : Int32) (S : rm_S) : Option (rm_S) := if y3 = 24 then (k_RM_show_438 N p_RM_show p_RM_commas p_RM_statements p_RM_sayFactor p_RM_sayTest N y1 y3 y4 y5 y4 S) else (if y3 = 25 then (k_RM_show_438 N p_RM_show p_RM_commas p_RM_statements p_RM_sayFactor p_RM_sayTest N y1 y3 y4 y5 y4 S) else (if y3 = 26 then (calV (f_RM_begin N 33 S) fun S31 => calV (p_RM_sayTest y1 y4 0 S31) fun S32 => some (S32)) else (if 33 ≤ y3 then (some (S)) else (calV (p_RM_show y1 y4 S) fun S26 => calI (f_RM_sign N y3 S26) fun v27 S27 => calV (f_RM_text N v27 S27) fun S28 => calI (f_RM_behind N y1 y4 S28) fun v29 S29 => calV (p_RM_show y1 v29 S29) fun S30 => some (S30)))))
theorem q_RM_show_422 {g : mv_G} {σ : mh_H} {m : Nat} {N : Nat} {p_RM_show : Int32 → Int32 → rm_S → Option (rm_S)} {p_RM_commas : Int32 → Int32 → Int32 → rm_S → Option (rm_S)} {p_RM_statements : Int32 → Int32 → Int32 → rm_S → Option (rm_S)} {p_RM_sayFactor : Int32 → Int32 → Int32 → rm_S → Option (rm_S)} {p_RM_sayTest : Int32 → Int32 → Int32 → rm_S → Option (rm_S)} (H : rm_H g σ m) {F Lw : Nat} (h_RM_show : rkV2 g σ m M_RM_show F Lw p_RM_show) (h_RM_commas : rkV3 g σ m M_RM_commas F Lw p_RM_commas) (h_RM_statements : rkV3 g σ m M_RM_statements F Lw p_RM_statements) (h_RM_sayFactor : rkV3 g σ m M_RM_sayFactor F Lw p_RM_sayFactor) (h_RM_sayTest : rkV3 g σ m M_RM_sayTest F Lw p_RM_sayTest) (hF : 40 ≤ F) (hLw : 1000 ≤ Lw) (y1 : Int32) (y3 : Int32) (y4 : Int32) (y5 : Int32) (S : rm_S) (r : rm_S) (h : k_RM_show_422 N p_RM_show p_RM_commas p_RM_statements p_RM_sayFactor p_RM_sayTest y1 y3 y4 y5 S = some r) : mv_V g M_RM_show (F + 1) (Lw + 60) 0 0 422 [some (.ref m), some (.int y1), none, some (.int y3), some (.int y4), some (.int y5), none] [] (rz σ m S) (fun oc τ => τ = rz σ m r ∧ oc = .returned none) := by
  unfold k_RM_show_422 at h
  refine vr_iload_n d_RM_show_422 rfl rfl ?_
  refine vr_bipush 24 d_RM_show_423 (by decide) ?_
  refine vr_icmp_eq (tgt := 434) d_RM_show_425 (by decide) (fun c425 => ?_) (fun c425 => ?_)
  · replace h := l_ifp c425 h
    refine vr_iload d_RM_show_434 rfl ?_
    refine vr_istore (L' := [some (.ref m), some (.int y1), none, some (.int y3), some (.int y4), some (.int y5), some (.int y4)]) d_RM_show_436 (by decide) rfl ?_
    exact mv_drop (q_RM_show_438 H h_RM_show h_RM_commas h_RM_statements h_RM_sayFactor h_RM_sayTest hF hLw N _ _ _ _ _ _ _ h) (And.intro rfl (And.intro rfl (And.intro rfl (And.intro rfl (And.intro rfl (And.intro rfl trivial))))))
  · replace h := l_ifn c425 h
    refine vr_iload_n d_RM_show_428 rfl rfl ?_
    refine vr_bipush 25 d_RM_show_429 (by decide) ?_
    refine vr_icmp_ne (tgt := 504) d_RM_show_431 (by decide) (fun c431 => ?_) (fun c431 => ?_)
    · replace h := l_ifn c431 h
      refine vr_iload_n d_RM_show_504 rfl rfl ?_
      refine vr_bipush 26 d_RM_show_505 (by decide) ?_
      refine vr_icmp_ne (tgt := 527) d_RM_show_507 (by decide) (fun c507 => ?_) (fun c507 => ?_)
      · replace h := l_ifn c507 h
        refine vr_iload_n d_RM_show_527 rfl rfl ?_
        refine vr_bipush 33 d_RM_show_528 (by decide) ?_
        refine vr_icmp_ge (tgt := 561) d_RM_show_530 (by decide) (fun c530 => ?_) (fun c530 => ?_)
        · replace h := l_ifp c530 h
          cases h
          exact vr_vret d_RM_show_561 rfl ⟨rfl, rfl⟩
        · replace h := l_ifn c530 h
          refine vr_aload_n d_RM_show_533 rfl rfl ?_
          refine vr_iload_n d_RM_show_534 rfl rfl ?_
          refine vr_iload d_RM_show_535 rfl ?_
          obtain ⟨S26, eS26, h⟩ := l_calV h
          refine rm_callU [.int y1, .int y4] H d_RM_show_537 C_RM_258 (h_RM_show _ _ _ _ eS26) rfl rfl rfl (Nat.le_of_ble_eq_true rfl) (by omega) (by show 8 + (7 + 11) + Lw ≤ Lw + 60; omega) ?_
          refine vr_aload_n d_RM_show_540 rfl rfl ?_
          refine vr_aload_n d_RM_show_541 rfl rfl ?_
          refine vr_iload_n d_RM_show_542 rfl rfl ?_
          obtain ⟨v27, S27, ev27, h⟩ := l_calI h
          refine rm_callT [.int y3] H d_RM_show_543 C_RM_314 (c_RM_sign H ev27) rfl rfl rfl (Nat.le_of_ble_eq_true rfl) (by omega) (by show 8 + (2 + 11) + 0 ≤ Lw + 60; omega) ?_
          obtain ⟨S28, eS28, h⟩ := l_calV h
          refine rm_callU [.ref (mg_K g v27)] H d_RM_show_546 C_RM_293 (c_RM_text H eS28) rfl rfl rfl (Nat.le_of_ble_eq_true rfl) (by omega) (by show 8 + (3 + 11) + 141 ≤ Lw + 60; omega) ?_
          refine vr_aload_n d_RM_show_549 rfl rfl ?_
          refine vr_iload_n d_RM_show_550 rfl rfl ?_
          refine vr_aload_n d_RM_show_551 rfl rfl ?_
          refine vr_iload_n d_RM_show_552 rfl rfl ?_
          refine vr_iload d_RM_show_553 rfl ?_
          obtain ⟨v29, S29, ev29, h⟩ := l_calI h
          refine rm_callI [.int y1, .int y4] H d_RM_show_555 C_RM_268 (c_RM_behind H ev29) rfl rfl rfl (Nat.le_of_ble_eq_true rfl) (by omega) (by show 8 + (3 + 11) + 0 ≤ Lw + 60; omega) ?_
          obtain ⟨S30, eS30, h⟩ := l_calV h
          refine rm_callU [.int y1, .int v29] H d_RM_show_558 C_RM_258 (h_RM_show _ _ _ _ eS30) rfl rfl rfl (Nat.le_of_ble_eq_true rfl) (by omega) (by show 8 + (7 + 11) + Lw ≤ Lw + 60; omega) ?_
          cases h
          exact vr_vret d_RM_show_561 rfl ⟨rfl, rfl⟩
      · replace h := l_ifp c507 h
        refine vr_aload_n d_RM_show_510 rfl rfl ?_
        refine vr_bipush 33 d_RM_show_511 (by decide) ?_
        obtain ⟨S31, eS31, h⟩ := l_calV h
        refine rm_callU [.int 33] H d_RM_show_513 C_RM_253 (c_RM_begin H eS31) rfl rfl rfl (Nat.le_of_ble_eq_true rfl) (by omega) (by show 8 + (2 + 11) + 40 ≤ Lw + 60; omega) ?_
        refine vr_aload_n d_RM_show_516 rfl rfl ?_
        refine vr_iload_n d_RM_show_517 rfl rfl ?_
        refine vr_iload d_RM_show_518 rfl ?_
        refine vr_iconst 0 d_RM_show_520 (by decide) ?_
        obtain ⟨S32, eS32, h⟩ := l_calV h
        refine rm_callU [.int y1, .int y4, .int 0] H d_RM_show_521 C_RM_322 (h_RM_sayTest _ _ _ _ _ eS32) rfl rfl rfl (Nat.le_of_ble_eq_true rfl) (by omega) (by show 8 + (5 + 11) + Lw ≤ Lw + 60; omega) ?_
        refine vr_goto (tgt := 561) d_RM_show_524 (by decide) ?_
        cases h
        exact vr_vret d_RM_show_561 rfl ⟨rfl, rfl⟩
    · replace h := l_ifp c431 h
      refine vr_iload d_RM_show_434 rfl ?_
      refine vr_istore (L' := [some (.ref m), some (.int y1), none, some (.int y3), some (.int y4), some (.int y5), some (.int y4)]) d_RM_show_436 (by decide) rfl ?_
      exact mv_drop (q_RM_show_438 H h_RM_show h_RM_commas h_RM_statements h_RM_sayFactor h_RM_sayTest hF hLw N _ _ _ _ _ _ _ h) (And.intro rfl (And.intro rfl (And.intro rfl (And.intro rfl (And.intro rfl (And.intro rfl trivial))))))

def k_RM_show_104 (N : Nat) (p_RM_show : Int32 → Int32 → rm_S → Option (rm_S)) (p_RM_commas : Int32 → Int32 → Int32 → rm_S → Option (rm_S)) (p_RM_statements : Int32 → Int32 → Int32 → rm_S → Option (rm_S)) (p_RM_sayFactor : Int32 → Int32 → Int32 → rm_S → Option (rm_S)) (p_RM_sayTest : Int32 → Int32 → Int32 → rm_S → Option (rm_S)) : Nat → Int32 → Int32 → Int32 → rm_S → Option (rm_S)
  | 0, _, _, _, _ => none
  | n + 1, y1, y4, y6, S => calI (f_RM_kindAt N y1 y6 S) fun v33 S33 => if v33 = 13 then (k_RM_show_104 N p_RM_show p_RM_commas p_RM_statements p_RM_sayFactor p_RM_sayTest n y1 y4 ((y6 + 1)) S33) else (calV (p_RM_commas y1 ((y4 + 1)) y6 S33) fun S34 => calV (p_RM_show y1 y6 S34) fun S35 => some (S35))
theorem q_RM_show_104 {g : mv_G} {σ : mh_H} {m : Nat} {N : Nat} {p_RM_show : Int32 → Int32 → rm_S → Option (rm_S)} {p_RM_commas : Int32 → Int32 → Int32 → rm_S → Option (rm_S)} {p_RM_statements : Int32 → Int32 → Int32 → rm_S → Option (rm_S)} {p_RM_sayFactor : Int32 → Int32 → Int32 → rm_S → Option (rm_S)} {p_RM_sayTest : Int32 → Int32 → Int32 → rm_S → Option (rm_S)} (H : rm_H g σ m) {F Lw : Nat} (h_RM_show : rkV2 g σ m M_RM_show F Lw p_RM_show) (h_RM_commas : rkV3 g σ m M_RM_commas F Lw p_RM_commas) (h_RM_statements : rkV3 g σ m M_RM_statements F Lw p_RM_statements) (h_RM_sayFactor : rkV3 g σ m M_RM_sayFactor F Lw p_RM_sayFactor) (h_RM_sayTest : rkV3 g σ m M_RM_sayTest F Lw p_RM_sayTest) (hF : 40 ≤ F) (hLw : 1000 ≤ Lw) : ∀ (n : Nat) (y1 : Int32) (y4 : Int32) (y6 : Int32) (S : rm_S) (r : rm_S), k_RM_show_104 N p_RM_show p_RM_commas p_RM_statements p_RM_sayFactor p_RM_sayTest n y1 y4 y6 S = some r → mv_V g M_RM_show (F + 1) (Lw + 60) 0 0 104 [some (.ref m), some (.int y1), none, none, some (.int y4), none, some (.int y6)] [] (rz σ m S) (fun oc τ => τ = rz σ m r ∧ oc = .returned none) := by
  intro n
  induction n with
  | zero =>
    intro y1 y4 y6 S r h
    exact absurd h (by simp [k_RM_show_104])
  | succ n ih =>
    intro y1 y4 y6 S r h 
    unfold k_RM_show_104 at h
    refine vr_aload_n d_RM_show_104 rfl rfl ?_
    refine vr_iload_n d_RM_show_105 rfl rfl ?_
    refine vr_iload d_RM_show_106 rfl ?_
    obtain ⟨v33, S33, ev33, h⟩ := l_calI h
    refine rm_callI [.int y1, .int y6] H d_RM_show_108 C_RM_261 (c_RM_kindAt H ev33) rfl rfl rfl (Nat.le_of_ble_eq_true rfl) (by omega) (by show 8 + (3 + 11) + 0 ≤ Lw + 60; omega) ?_
    refine vr_bipush 13 d_RM_show_111 (by decide) ?_
    refine vr_icmp_ne (tgt := 122) d_RM_show_113 (by decide) (fun c113 => ?_) (fun c113 => ?_)
    · replace h := l_ifn c113 h
      refine vr_aload_n d_RM_show_122 rfl rfl ?_
      refine vr_iload_n d_RM_show_123 rfl rfl ?_
      refine vr_iload d_RM_show_124 rfl ?_
      refine vr_iconst 1 d_RM_show_126 (by decide) ?_
      refine vr_iadd d_RM_show_127 ?_
      refine vr_iload d_RM_show_128 rfl ?_
      obtain ⟨S34, eS34, h⟩ := l_calV h
      refine rm_callU [.int y1, .int (y4 + 1), .int y6] H d_RM_show_130 C_RM_297 (h_RM_commas _ _ _ _ _ eS34) rfl rfl rfl (Nat.le_of_ble_eq_true rfl) (by omega) (by show 8 + (5 + 11) + Lw ≤ Lw + 60; omega) ?_
      refine vr_aload_n d_RM_show_133 rfl rfl ?_
      refine vr_iload_n d_RM_show_134 rfl rfl ?_
      refine vr_iload d_RM_show_135 rfl ?_
      obtain ⟨S35, eS35, h⟩ := l_calV h
      refine rm_callU [.int y1, .int y6] H d_RM_show_137 C_RM_258 (h_RM_show _ _ _ _ eS35) rfl rfl rfl (Nat.le_of_ble_eq_true rfl) (by omega) (by show 8 + (7 + 11) + Lw ≤ Lw + 60; omega) ?_
      refine vr_goto (tgt := 561) d_RM_show_140 (by decide) ?_
      cases h
      exact vr_vret d_RM_show_561 rfl ⟨rfl, rfl⟩
    · replace h := l_ifp c113 h
      refine vr_iinc (L' := [some (.ref m), some (.int y1), none, none, some (.int y4), none, some (.int (y6 + 1))]) (y6 + 1) d_RM_show_116 (by decide) rfl rfl rfl ?_
      refine vr_goto (tgt := 104) d_RM_show_119 (by decide) ?_
      exact mv_drop (ih _ _ _ _ _ h) (And.intro rfl (And.intro rfl (And.intro rfl (And.intro rfl trivial))))

def f_RM_show (N : Nat) (p_RM_show : Int32 → Int32 → rm_S → Option (rm_S)) (p_RM_commas : Int32 → Int32 → Int32 → rm_S → Option (rm_S)) (p_RM_statements : Int32 → Int32 → Int32 → rm_S → Option (rm_S)) (p_RM_sayFactor : Int32 → Int32 → Int32 → rm_S → Option (rm_S)) (p_RM_sayTest : Int32 → Int32 → Int32 → rm_S → Option (rm_S)) (x1 : Int32) (x2 : Int32) (S : rm_S) : Option (rm_S) := calI (f_RM_kindAt N x1 x2 S) fun v1 S1 => bnd ((x2 + 1)) fun v2 => calI (f_RM_behind N x1 x2 S1) fun v3 S3 => if v1 = 0 then (k_RM_show_29 N p_RM_show p_RM_commas p_RM_statements p_RM_sayFactor p_RM_sayTest x1 v1 v2 v3 S3) else (if v1 = 2 then (k_RM_show_29 N p_RM_show p_RM_commas p_RM_statements p_RM_sayFactor p_RM_sayTest x1 v1 v2 v3 S3) else (if v1 = 1 then (calV (f_RM_text N 46 S3) fun S18 => calV (p_RM_show x1 v2 S18) fun S19 => bnd ((v2 + 1)) fun v20 => k_RM_show_104 N p_RM_show p_RM_commas p_RM_statements p_RM_sayFactor p_RM_sayTest N x1 v2 v20 S19) else (if 12 ≤ v1 then (if v1 = 12 then (chk (ib ((13000 * x1) + x2) 26000) <| calV (f_RM_sayNumber N ((S3.2 16 (Int32.toNatClampNeg ((13000 * x1) + x2)))) S3) fun S16 => some (S16)) else (if v1 = 13 then (chk (ib ((13000 * x1) + x2) 26000) <| calV (f_RM_sayName N ((S3.2 16 (Int32.toNatClampNeg ((13000 * x1) + x2)))) S3) fun S14 => some (S14)) else (if v1 = 14 then (calV (p_RM_show x1 v2 S3) fun S8 => calV (f_RM_begin N 91 S8) fun S9 => calI (f_RM_behind N x1 v2 S9) fun v10 S10 => calV (p_RM_show x1 v10 S10) fun S11 => calV (f_RM_begin N 93 S11) fun S12 => some (S12)) else (if v1 = 15 then (calV (f_RM_begin N 45 S3) fun S6 => calV (p_RM_sayFactor x1 v2 0 S6) fun S7 => some (S7)) else (if v1 = 16 then (calV (f_RM_text N 53 S3) fun S4 => if v3 ≤ v2 then (some (S4)) else (calV (p_RM_commas x1 v2 v3 S4) fun S5 => some (S5))) else (if v1 = 17 then (k_RM_show_315 N p_RM_show p_RM_commas p_RM_statements p_RM_sayFactor p_RM_sayTest x1 v1 v2 v3 S3) else (if v1 = 20 then (k_RM_show_315 N p_RM_show p_RM_commas p_RM_statements p_RM_sayFactor p_RM_sayTest x1 v1 v2 v3 S3) else (if v1 = 18 then (k_RM_show_392 N p_RM_show p_RM_commas p_RM_statements p_RM_sayFactor p_RM_sayTest x1 v1 v2 S3) else (if v1 = 19 then (k_RM_show_392 N p_RM_show p_RM_commas p_RM_statements p_RM_sayFactor p_RM_sayTest x1 v1 v2 S3) else (if v1 ≤ 20 then (k_RM_show_422 N p_RM_show p_RM_commas p_RM_statements p_RM_sayFactor p_RM_sayTest x1 v1 v2 v3 S3) else (if 24 ≤ v1 then (k_RM_show_422 N p_RM_show p_RM_commas p_RM_statements p_RM_sayFactor p_RM_sayTest x1 v1 v2 v3 S3) else (k_RM_show_392 N p_RM_show p_RM_commas p_RM_statements p_RM_sayFactor p_RM_sayTest x1 v1 v2 S3)))))))))))) else (calV (p_RM_statements x1 x2 v1 S3) fun S17 => some (S17)))))
theorem c_RM_show {g : mv_G} {σ : mh_H} {m : Nat} {N : Nat} {p_RM_show : Int32 → Int32 → rm_S → Option (rm_S)} {p_RM_commas : Int32 → Int32 → Int32 → rm_S → Option (rm_S)} {p_RM_statements : Int32 → Int32 → Int32 → rm_S → Option (rm_S)} {p_RM_sayFactor : Int32 → Int32 → Int32 → rm_S → Option (rm_S)} {p_RM_sayTest : Int32 → Int32 → Int32 → rm_S → Option (rm_S)} (H : rm_H g σ m) {F Lw : Nat} (h_RM_show : rkV2 g σ m M_RM_show F Lw p_RM_show) (h_RM_commas : rkV3 g σ m M_RM_commas F Lw p_RM_commas) (h_RM_statements : rkV3 g σ m M_RM_statements F Lw p_RM_statements) (h_RM_sayFactor : rkV3 g σ m M_RM_sayFactor F Lw p_RM_sayFactor) (h_RM_sayTest : rkV3 g σ m M_RM_sayTest F Lw p_RM_sayTest) (hF : 40 ≤ F) (hLw : 1000 ≤ Lw) : rkV2 g σ m M_RM_show (F + 1) (Lw + 60) (f_RM_show N p_RM_show p_RM_commas p_RM_statements p_RM_sayFactor p_RM_sayTest) := by
  intro x1 x2 S r h
  refine mv_entry (L := [some (.ref m), some (.int x1), some (.int x2), none, none, none, none]) rfl rfl (Nat.le_of_ble_eq_true rfl) rfl ?_
  unfold f_RM_show at h
  refine vr_aload_n d_RM_show_0 rfl rfl ?_
  refine vr_iload_n d_RM_show_1 rfl rfl ?_
  refine vr_iload_n d_RM_show_2 rfl rfl ?_
  obtain ⟨v1, S1, ev1, h⟩ := l_calI h
  refine rm_callI [.int x1, .int x2] H d_RM_show_3 C_RM_261 (c_RM_kindAt H ev1) rfl rfl rfl (Nat.le_of_ble_eq_true rfl) (by omega) (by show 8 + (3 + 11) + 0 ≤ Lw + 60; omega) ?_
  refine vr_istore_n (L' := [some (.ref m), some (.int x1), some (.int x2), some (.int v1), none, none, none]) d_RM_show_6 rfl (by decide) rfl ?_
  refine vr_iload_n d_RM_show_7 rfl rfl ?_
  refine vr_iconst 1 d_RM_show_8 (by decide) ?_
  refine vr_iadd d_RM_show_9 ?_
  obtain ⟨v2, ev2, h⟩ := l_bnd h
  refine vr_nm ev2 ?_
  refine vr_istore (L' := [some (.ref m), some (.int x1), some (.int x2), some (.int v1), some (.int v2), none, none]) d_RM_show_10 (by decide) rfl ?_
  refine vr_aload_n d_RM_show_12 rfl rfl ?_
  refine vr_iload_n d_RM_show_13 rfl rfl ?_
  refine vr_iload_n d_RM_show_14 rfl rfl ?_
  obtain ⟨v3, S3, ev3, h⟩ := l_calI h
  refine rm_callI [.int x1, .int x2] H d_RM_show_15 C_RM_268 (c_RM_behind H ev3) rfl rfl rfl (Nat.le_of_ble_eq_true rfl) (by omega) (by show 8 + (3 + 11) + 0 ≤ Lw + 60; omega) ?_
  refine vr_istore (L' := [some (.ref m), some (.int x1), some (.int x2), some (.int v1), some (.int v2), some (.int v3), none]) d_RM_show_18 (by decide) rfl ?_
  refine vr_iload_n d_RM_show_20 rfl rfl ?_
  refine vr_if_eq (tgt := 29) d_RM_show_21 (by decide) (fun c21 => ?_) (fun c21 => ?_)
  · replace h := l_ifp c21 h
    exact mv_drop (q_RM_show_29 H h_RM_show h_RM_commas h_RM_statements h_RM_sayFactor h_RM_sayTest hF hLw _ _ _ _ _ _ h) (And.intro rfl (And.intro rfl (And.intro rfl (And.intro rfl (And.intro rfl trivial)))))
  · replace h := l_ifn c21 h
    refine vr_iload_n d_RM_show_24 rfl rfl ?_
    refine vr_iconst 2 d_RM_show_25 (by decide) ?_
    refine vr_icmp_ne (tgt := 80) d_RM_show_26 (by decide) (fun c26 => ?_) (fun c26 => ?_)
    · replace h := l_ifn c26 h
      refine vr_iload_n d_RM_show_80 rfl rfl ?_
      refine vr_iconst 1 d_RM_show_81 (by decide) ?_
      refine vr_icmp_ne (tgt := 143) d_RM_show_82 (by decide) (fun c82 => ?_) (fun c82 => ?_)
      · replace h := l_ifn c82 h
        refine vr_iload_n d_RM_show_143 rfl rfl ?_
        refine vr_bipush 12 d_RM_show_144 (by decide) ?_
        refine vr_icmp_ge (tgt := 159) d_RM_show_146 (by decide) (fun c146 => ?_) (fun c146 => ?_)
        · replace h := l_ifp c146 h
          refine vr_iload_n d_RM_show_159 rfl rfl ?_
          refine vr_bipush 12 d_RM_show_160 (by decide) ?_
          refine vr_icmp_ne (tgt := 184) d_RM_show_162 (by decide) (fun c162 => ?_) (fun c162 => ?_)
          · replace h := l_ifn c162 h
            refine vr_iload_n d_RM_show_184 rfl rfl ?_
            refine vr_bipush 13 d_RM_show_185 (by decide) ?_
            refine vr_icmp_ne (tgt := 209) d_RM_show_187 (by decide) (fun c187 => ?_) (fun c187 => ?_)
            · replace h := l_ifn c187 h
              refine vr_iload_n d_RM_show_209 rfl rfl ?_
              refine vr_bipush 14 d_RM_show_210 (by decide) ?_
              refine vr_icmp_ne (tgt := 249) d_RM_show_212 (by decide) (fun c212 => ?_) (fun c212 => ?_)
              · replace h := l_ifn c212 h
                refine vr_iload_n d_RM_show_249 rfl rfl ?_
                refine vr_bipush 15 d_RM_show_250 (by decide) ?_
                refine vr_icmp_ne (tgt := 272) d_RM_show_252 (by decide) (fun c252 => ?_) (fun c252 => ?_)
                · replace h := l_ifn c252 h
                  refine vr_iload_n d_RM_show_272 rfl rfl ?_
                  refine vr_bipush 16 d_RM_show_273 (by decide) ?_
                  refine vr_icmp_ne (tgt := 303) d_RM_show_275 (by decide) (fun c275 => ?_) (fun c275 => ?_)
                  · replace h := l_ifn c275 h
                    refine vr_iload_n d_RM_show_303 rfl rfl ?_
                    refine vr_bipush 17 d_RM_show_304 (by decide) ?_
                    refine vr_icmp_eq (tgt := 315) d_RM_show_306 (by decide) (fun c306 => ?_) (fun c306 => ?_)
                    · replace h := l_ifp c306 h
                      exact mv_drop (q_RM_show_315 H h_RM_show h_RM_commas h_RM_statements h_RM_sayFactor h_RM_sayTest hF hLw _ _ _ _ _ _ h) (And.intro rfl (And.intro rfl (And.intro rfl (And.intro rfl (And.intro rfl trivial)))))
                    · replace h := l_ifn c306 h
                      refine vr_iload_n d_RM_show_309 rfl rfl ?_
                      refine vr_bipush 20 d_RM_show_310 (by decide) ?_
                      refine vr_icmp_ne (tgt := 368) d_RM_show_312 (by decide) (fun c312 => ?_) (fun c312 => ?_)
                      · replace h := l_ifn c312 h
                        refine vr_iload_n d_RM_show_368 rfl rfl ?_
                        refine vr_bipush 18 d_RM_show_369 (by decide) ?_
                        refine vr_icmp_eq (tgt := 392) d_RM_show_371 (by decide) (fun c371 => ?_) (fun c371 => ?_)
                        · replace h := l_ifp c371 h
                          exact mv_drop (q_RM_show_392 H h_RM_show h_RM_commas h_RM_statements h_RM_sayFactor h_RM_sayTest hF hLw _ _ _ _ _ h) (And.intro rfl (And.intro rfl (And.intro rfl (And.intro rfl trivial))))
                        · replace h := l_ifn c371 h
                          refine vr_iload_n d_RM_show_374 rfl rfl ?_
                          refine vr_bipush 19 d_RM_show_375 (by decide) ?_
                          refine vr_icmp_eq (tgt := 392) d_RM_show_377 (by decide) (fun c377 => ?_) (fun c377 => ?_)
                          · replace h := l_ifp c377 h
                            exact mv_drop (q_RM_show_392 H h_RM_show h_RM_commas h_RM_statements h_RM_sayFactor h_RM_sayTest hF hLw _ _ _ _ _ h) (And.intro rfl (And.intro rfl (And.intro rfl (And.intro rfl trivial))))
                          · replace h := l_ifn c377 h
                            refine vr_iload_n d_RM_show_380 rfl rfl ?_
                            refine vr_bipush 20 d_RM_show_381 (by decide) ?_
                            refine vr_icmp_le (tgt := 422) d_RM_show_383 (by decide) (fun c383 => ?_) (fun c383 => ?_)
                            · replace h := l_ifp c383 h
                              exact mv_drop (q_RM_show_422 H h_RM_show h_RM_commas h_RM_statements h_RM_sayFactor h_RM_sayTest hF hLw _ _ _ _ _ _ h) (And.intro rfl (And.intro rfl (And.intro rfl (And.intro rfl (And.intro rfl trivial)))))
                            · replace h := l_ifn c383 h
                              refine vr_iload_n d_RM_show_386 rfl rfl ?_
                              refine vr_bipush 24 d_RM_show_387 (by decide) ?_
                              refine vr_icmp_ge (tgt := 422) d_RM_show_389 (by decide) (fun c389 => ?_) (fun c389 => ?_)
                              · replace h := l_ifp c389 h
                                exact mv_drop (q_RM_show_422 H h_RM_show h_RM_commas h_RM_statements h_RM_sayFactor h_RM_sayTest hF hLw _ _ _ _ _ _ h) (And.intro rfl (And.intro rfl (And.intro rfl (And.intro rfl (And.intro rfl trivial)))))
                              · replace h := l_ifn c389 h
                                exact mv_drop (q_RM_show_392 H h_RM_show h_RM_commas h_RM_statements h_RM_sayFactor h_RM_sayTest hF hLw _ _ _ _ _ h) (And.intro rfl (And.intro rfl (And.intro rfl (And.intro rfl trivial))))
                      · replace h := l_ifp c312 h
                        exact mv_drop (q_RM_show_315 H h_RM_show h_RM_commas h_RM_statements h_RM_sayFactor h_RM_sayTest hF hLw _ _ _ _ _ _ h) (And.intro rfl (And.intro rfl (And.intro rfl (And.intro rfl (And.intro rfl trivial)))))
                  · replace h := l_ifp c275 h
                    refine vr_aload_n d_RM_show_278 rfl rfl ?_
                    refine vr_ldcS 53 d_RM_show_279 rfl ?_
                    obtain ⟨S4, eS4, h⟩ := l_calV h
                    refine rm_callU [.ref (mg_K g 53)] H d_RM_show_281 C_RM_293 (c_RM_text H eS4) rfl rfl rfl (Nat.le_of_ble_eq_true rfl) (by omega) (by show 8 + (3 + 11) + 141 ≤ Lw + 60; omega) ?_
                    refine vr_iload d_RM_show_284 rfl ?_
                    refine vr_iload d_RM_show_286 rfl ?_
                    refine vr_icmp_ge (tgt := 561) d_RM_show_288 (by decide) (fun c288 => ?_) (fun c288 => ?_)
                    · replace h := l_ifp c288 h
                      cases h
                      exact vr_vret d_RM_show_561 rfl ⟨rfl, rfl⟩
                    · replace h := l_ifn c288 h
                      refine vr_aload_n d_RM_show_291 rfl rfl ?_
                      refine vr_iload_n d_RM_show_292 rfl rfl ?_
                      refine vr_iload d_RM_show_293 rfl ?_
                      refine vr_iload d_RM_show_295 rfl ?_
                      obtain ⟨S5, eS5, h⟩ := l_calV h
                      refine rm_callU [.int x1, .int v2, .int v3] H d_RM_show_297 C_RM_297 (h_RM_commas _ _ _ _ _ eS5) rfl rfl rfl (Nat.le_of_ble_eq_true rfl) (by omega) (by show 8 + (5 + 11) + Lw ≤ Lw + 60; omega) ?_
                      refine vr_goto (tgt := 561) d_RM_show_300 (by decide) ?_
                      cases h
                      exact vr_vret d_RM_show_561 rfl ⟨rfl, rfl⟩
                · replace h := l_ifp c252 h
                  refine vr_aload_n d_RM_show_255 rfl rfl ?_
                  refine vr_bipush 45 d_RM_show_256 (by decide) ?_
                  obtain ⟨S6, eS6, h⟩ := l_calV h
                  refine rm_callU [.int 45] H d_RM_show_258 C_RM_253 (c_RM_begin H eS6) rfl rfl rfl (Nat.le_of_ble_eq_true rfl) (by omega) (by show 8 + (2 + 11) + 40 ≤ Lw + 60; omega) ?_
                  refine vr_aload_n d_RM_show_261 rfl rfl ?_
                  refine vr_iload_n d_RM_show_262 rfl rfl ?_
                  refine vr_iload d_RM_show_263 rfl ?_
                  refine vr_iconst 0 d_RM_show_265 (by decide) ?_
                  obtain ⟨S7, eS7, h⟩ := l_calV h
                  refine rm_callU [.int x1, .int v2, .int 0] H d_RM_show_266 C_RM_310 (h_RM_sayFactor _ _ _ _ _ eS7) rfl rfl rfl (Nat.le_of_ble_eq_true rfl) (by omega) (by show 8 + (5 + 11) + Lw ≤ Lw + 60; omega) ?_
                  refine vr_goto (tgt := 561) d_RM_show_269 (by decide) ?_
                  cases h
                  exact vr_vret d_RM_show_561 rfl ⟨rfl, rfl⟩
              · replace h := l_ifp c212 h
                refine vr_aload_n d_RM_show_215 rfl rfl ?_
                refine vr_iload_n d_RM_show_216 rfl rfl ?_
                refine vr_iload d_RM_show_217 rfl ?_
                obtain ⟨S8, eS8, h⟩ := l_calV h
                refine rm_callU [.int x1, .int v2] H d_RM_show_219 C_RM_258 (h_RM_show _ _ _ _ eS8) rfl rfl rfl (Nat.le_of_ble_eq_true rfl) (by omega) (by show 8 + (7 + 11) + Lw ≤ Lw + 60; omega) ?_
                refine vr_aload_n d_RM_show_222 rfl rfl ?_
                refine vr_bipush 91 d_RM_show_223 (by decide) ?_
                obtain ⟨S9, eS9, h⟩ := l_calV h
                refine rm_callU [.int 91] H d_RM_show_225 C_RM_253 (c_RM_begin H eS9) rfl rfl rfl (Nat.le_of_ble_eq_true rfl) (by omega) (by show 8 + (2 + 11) + 40 ≤ Lw + 60; omega) ?_
                refine vr_aload_n d_RM_show_228 rfl rfl ?_
                refine vr_iload_n d_RM_show_229 rfl rfl ?_
                refine vr_aload_n d_RM_show_230 rfl rfl ?_
                refine vr_iload_n d_RM_show_231 rfl rfl ?_
                refine vr_iload d_RM_show_232 rfl ?_
                obtain ⟨v10, S10, ev10, h⟩ := l_calI h
                refine rm_callI [.int x1, .int v2] H d_RM_show_234 C_RM_268 (c_RM_behind H ev10) rfl rfl rfl (Nat.le_of_ble_eq_true rfl) (by omega) (by show 8 + (3 + 11) + 0 ≤ Lw + 60; omega) ?_
                obtain ⟨S11, eS11, h⟩ := l_calV h
                refine rm_callU [.int x1, .int v10] H d_RM_show_237 C_RM_258 (h_RM_show _ _ _ _ eS11) rfl rfl rfl (Nat.le_of_ble_eq_true rfl) (by omega) (by show 8 + (7 + 11) + Lw ≤ Lw + 60; omega) ?_
                refine vr_aload_n d_RM_show_240 rfl rfl ?_
                refine vr_bipush 93 d_RM_show_241 (by decide) ?_
                obtain ⟨S12, eS12, h⟩ := l_calV h
                refine rm_callU [.int 93] H d_RM_show_243 C_RM_253 (c_RM_begin H eS12) rfl rfl rfl (Nat.le_of_ble_eq_true rfl) (by omega) (by show 8 + (2 + 11) + 40 ≤ Lw + 60; omega) ?_
                refine vr_goto (tgt := 561) d_RM_show_246 (by decide) ?_
                cases h
                exact vr_vret d_RM_show_561 rfl ⟨rfl, rfl⟩
            · replace h := l_ifp c187 h
              refine vr_aload_n d_RM_show_190 rfl rfl ?_
              refine vr_aload_n d_RM_show_191 rfl rfl ?_
              refine rm_getR (o := 16) H d_RM_show_192 F_RM_59 rfl (by decide) ?_
              refine vr_sipush 13000 d_RM_show_195 (by decide) ?_
              refine vr_iload_n d_RM_show_198 rfl rfl ?_
              refine vr_imul d_RM_show_199 ?_
              refine vr_iload_n d_RM_show_200 rfl rfl ?_
              refine vr_iadd d_RM_show_201 ?_
              have q13 := (l_chk h).1
              replace h := (l_chk h).2
              refine rm_ald (o := 16) H (by decide) (by decide) d_RM_show_202 (ib_in q13) ?_
              obtain ⟨S14, eS14, h⟩ := l_calV h
              refine rm_callU [.int (S3.2 16 (Int32.toNatClampNeg ((13000 * x1) + x2)))] H d_RM_show_203 C_RM_307 (c_RM_sayName H eS14) rfl rfl rfl (Nat.le_of_ble_eq_true rfl) (by omega) (by show 8 + (3 + 11) + 61 ≤ Lw + 60; omega) ?_
              refine vr_goto (tgt := 561) d_RM_show_206 (by decide) ?_
              cases h
              exact vr_vret d_RM_show_561 rfl ⟨rfl, rfl⟩
          · replace h := l_ifp c162 h
            refine vr_aload_n d_RM_show_165 rfl rfl ?_
            refine vr_aload_n d_RM_show_166 rfl rfl ?_
            refine rm_getR (o := 16) H d_RM_show_167 F_RM_59 rfl (by decide) ?_
            refine vr_sipush 13000 d_RM_show_170 (by decide) ?_
            refine vr_iload_n d_RM_show_173 rfl rfl ?_
            refine vr_imul d_RM_show_174 ?_
            refine vr_iload_n d_RM_show_175 rfl rfl ?_
            refine vr_iadd d_RM_show_176 ?_
            have q15 := (l_chk h).1
            replace h := (l_chk h).2
            refine rm_ald (o := 16) H (by decide) (by decide) d_RM_show_177 (ib_in q15) ?_
            obtain ⟨S16, eS16, h⟩ := l_calV h
            refine rm_callU [.int (S3.2 16 (Int32.toNatClampNeg ((13000 * x1) + x2)))] H d_RM_show_178 C_RM_304 (c_RM_sayNumber H eS16) rfl rfl rfl (Nat.le_of_ble_eq_true rfl) (by omega) (by show 8 + (8 + 11) + 61 ≤ Lw + 60; omega) ?_
            refine vr_goto (tgt := 561) d_RM_show_181 (by decide) ?_
            cases h
            exact vr_vret d_RM_show_561 rfl ⟨rfl, rfl⟩
        · replace h := l_ifn c146 h
          refine vr_aload_n d_RM_show_149 rfl rfl ?_
          refine vr_iload_n d_RM_show_150 rfl rfl ?_
          refine vr_iload_n d_RM_show_151 rfl rfl ?_
          refine vr_iload_n d_RM_show_152 rfl rfl ?_
          obtain ⟨S17, eS17, h⟩ := l_calV h
          refine rm_callU [.int x1, .int x2, .int v1] H d_RM_show_153 C_RM_301 (h_RM_statements _ _ _ _ _ eS17) rfl rfl rfl (Nat.le_of_ble_eq_true rfl) (by omega) (by show 8 + (6 + 11) + Lw ≤ Lw + 60; omega) ?_
          refine vr_goto (tgt := 561) d_RM_show_156 (by decide) ?_
          cases h
          exact vr_vret d_RM_show_561 rfl ⟨rfl, rfl⟩
      · replace h := l_ifp c82 h
        refine vr_aload_n d_RM_show_85 rfl rfl ?_
        refine vr_ldcS 46 d_RM_show_86 rfl ?_
        obtain ⟨S18, eS18, h⟩ := l_calV h
        refine rm_callU [.ref (mg_K g 46)] H d_RM_show_88 C_RM_293 (c_RM_text H eS18) rfl rfl rfl (Nat.le_of_ble_eq_true rfl) (by omega) (by show 8 + (3 + 11) + 141 ≤ Lw + 60; omega) ?_
        refine vr_aload_n d_RM_show_91 rfl rfl ?_
        refine vr_iload_n d_RM_show_92 rfl rfl ?_
        refine vr_iload d_RM_show_93 rfl ?_
        obtain ⟨S19, eS19, h⟩ := l_calV h
        refine rm_callU [.int x1, .int v2] H d_RM_show_95 C_RM_258 (h_RM_show _ _ _ _ eS19) rfl rfl rfl (Nat.le_of_ble_eq_true rfl) (by omega) (by show 8 + (7 + 11) + Lw ≤ Lw + 60; omega) ?_
        refine vr_iload d_RM_show_98 rfl ?_
        refine vr_iconst 1 d_RM_show_100 (by decide) ?_
        refine vr_iadd d_RM_show_101 ?_
        obtain ⟨v20, ev20, h⟩ := l_bnd h
        refine vr_nm ev20 ?_
        refine vr_istore (L' := [some (.ref m), some (.int x1), some (.int x2), some (.int v1), some (.int v2), some (.int v3), some (.int v20)]) d_RM_show_102 (by decide) rfl ?_
        exact mv_drop (q_RM_show_104 H h_RM_show h_RM_commas h_RM_statements h_RM_sayFactor h_RM_sayTest hF hLw N _ _ _ _ _ h) (And.intro rfl (And.intro rfl (And.intro rfl (And.intro rfl trivial))))
    · replace h := l_ifp c26 h
      exact mv_drop (q_RM_show_29 H h_RM_show h_RM_commas h_RM_statements h_RM_sayFactor h_RM_sayTest hF hLw _ _ _ _ _ _ h) (And.intro rfl (And.intro rfl (And.intro rfl (And.intro rfl (And.intro rfl trivial)))))

def k_RM_write_44 (N : Nat) (p_RM_show : Int32 → Int32 → rm_S → Option (rm_S)) : Nat → Int32 → rm_S → Option (Int32 × rm_S)
  | 0, _, _ => none
  | n + 1, y3, S => if (S.1 7) ≤ y3 then (some ((S.1 5), S)) else (chk (ib y3 8001) <| chk (ib y3 8000) <| bnd ((S.2 3 (Int32.toNatClampNeg y3))) fun v6 => k_RM_write_44 N p_RM_show n ((y3 + 1)) ((rs_a S 2 (Int32.toNatClampNeg y3) v6)))
theorem q_RM_write_44 {g : mv_G} {σ : mh_H} {m : Nat} {N : Nat} {p_RM_show : Int32 → Int32 → rm_S → Option (rm_S)} (H : rm_H g σ m) {F Lw : Nat} (h_RM_show : rkV2 g σ m M_RM_show F Lw p_RM_show) (hF : 40 ≤ F) (hLw : 1000 ≤ Lw) : ∀ (n : Nat) (y3 : Int32) (S : rm_S) (r : Int32 × rm_S), k_RM_write_44 N p_RM_show n y3 S = some r → mv_V g M_RM_write (F + 1) (Lw + 60) 0 0 44 [some (.ref m), none, none, some (.int y3)] [] (rz σ m S) (fun oc τ => τ = rz σ m r.2 ∧ oc = .returned (some (.int r.1))) := by
  intro n
  induction n with
  | zero =>
    intro y3 S r h
    exact absurd h (by simp [k_RM_write_44])
  | succ n ih =>
    intro y3 S r h 
    unfold k_RM_write_44 at h
    refine vr_iload_n d_RM_write_44 rfl rfl ?_
    refine vr_aload_n d_RM_write_45 rfl rfl ?_
    refine rm_getI H d_RM_write_46 F_RM_244 rfl ?_
    refine vr_icmp_ge (tgt := 70) d_RM_write_49 (by decide) (fun c49 => ?_) (fun c49 => ?_)
    · replace h := l_ifp c49 h
      refine vr_aload_n d_RM_write_70 rfl rfl ?_
      refine rm_getI H d_RM_write_71 F_RM_325 rfl ?_
      cases h
      exact vr_iret d_RM_write_74 rfl rfl ⟨rfl, rfl⟩
    · replace h := l_ifn c49 h
      refine vr_aload_n d_RM_write_52 rfl rfl ?_
      refine rm_getR (o := 2) H d_RM_write_53 F_RM_13 rfl (by decide) ?_
      refine vr_iload_n d_RM_write_56 rfl rfl ?_
      refine vr_aload_n d_RM_write_57 rfl rfl ?_
      refine rm_getR (o := 3) H d_RM_write_58 F_RM_16 rfl (by decide) ?_
      refine vr_iload_n d_RM_write_61 rfl rfl ?_
      have q4 := (l_chk h).1
      replace h := (l_chk h).2
      refine rm_ald (o := 3) H (by decide) (by decide) d_RM_write_62 (ib_in q4) ?_
      have q5 := (l_chk h).1
      replace h := (l_chk h).2
      obtain ⟨v6, ev6, h⟩ := l_bnd h
      refine vr_nm ev6 ?_
      refine rm_ast (o := 2) H (by decide) (by decide) d_RM_write_63 (ib_in q5) ?_
      refine vr_iinc (L' := [some (.ref m), none, none, some (.int (y3 + 1))]) (y3 + 1) d_RM_write_64 (by decide) rfl rfl rfl ?_
      refine vr_goto (tgt := 44) d_RM_write_67 (by decide) ?_
      exact mv_drop (ih _ _ _ h) (And.intro rfl (And.intro rfl trivial))

def f_RM_write (N : Nat) (p_RM_show : Int32 → Int32 → rm_S → Option (rm_S)) (x1 : Int32) (x2 : Int32) (S : rm_S) : Option (Int32 × rm_S) := calI (f_RM_has N x1 x2 S) fun v1 S1 => if v1 = 0 then (some ((-1), S1)) else (calV (p_RM_show x1 x2 ((rs_i S1 7 0))) fun S2 => if (S2.1 7) ≤ 8000 then (bnd ((S2.1 7)) fun v3 => k_RM_write_44 N p_RM_show N 0 ((rs_i S2 5 v3))) else (some ((-1), S2)))
theorem c_RM_write {g : mv_G} {σ : mh_H} {m : Nat} {N : Nat} {p_RM_show : Int32 → Int32 → rm_S → Option (rm_S)} (H : rm_H g σ m) {F Lw : Nat} (h_RM_show : rkV2 g σ m M_RM_show F Lw p_RM_show) (hF : 40 ≤ F) (hLw : 1000 ≤ Lw) : rkI2 g σ m M_RM_write (F + 1) (Lw + 60) (f_RM_write N p_RM_show) := by
  intro x1 x2 S r h
  refine mv_entry (L := [some (.ref m), some (.int x1), some (.int x2), none]) rfl rfl (Nat.le_of_ble_eq_true rfl) rfl ?_
  unfold f_RM_write at h
  refine vr_aload_n d_RM_write_0 rfl rfl ?_
  refine vr_iload_n d_RM_write_1 rfl rfl ?_
  refine vr_iload_n d_RM_write_2 rfl rfl ?_
  obtain ⟨v1, S1, ev1, h⟩ := l_calI h
  refine rm_callI [.int x1, .int x2] H d_RM_write_3 C_RM_238 (c_RM_has H ev1) rfl rfl rfl (Nat.le_of_ble_eq_true rfl) (by omega) (by show 8 + (3 + 11) + 0 ≤ Lw + 60; omega) ?_
  refine vr_if_ne (tgt := 11) d_RM_write_6 (by decide) (fun c6 => ?_) (fun c6 => ?_)
  · replace h := l_ifn c6 h
    refine vr_aload_n d_RM_write_11 rfl rfl ?_
    refine vr_iconst 0 d_RM_write_12 (by decide) ?_
    refine rm_putI H d_RM_write_13 W_RM_write_244 rfl rfl rfl ?_
    refine vr_aload_n d_RM_write_16 rfl rfl ?_
    refine vr_iload_n d_RM_write_17 rfl rfl ?_
    refine vr_iload_n d_RM_write_18 rfl rfl ?_
    obtain ⟨S2, eS2, h⟩ := l_calV h
    refine rm_callU [.int x1, .int x2] H d_RM_write_19 C_RM_258 (h_RM_show _ _ _ _ eS2) rfl rfl rfl (Nat.le_of_ble_eq_true rfl) (by omega) (by show 8 + (7 + 11) + Lw ≤ Lw + 60; omega) ?_
    refine vr_aload_n d_RM_write_22 rfl rfl ?_
    refine rm_getI H d_RM_write_23 F_RM_244 rfl ?_
    refine vr_sipush 8000 d_RM_write_26 (by decide) ?_
    refine vr_icmp_le (tgt := 34) d_RM_write_29 (by decide) (fun c29 => ?_) (fun c29 => ?_)
    · replace h := l_ifp c29 h
      refine vr_aload_n d_RM_write_34 rfl rfl ?_
      refine vr_aload_n d_RM_write_35 rfl rfl ?_
      refine rm_getI H d_RM_write_36 F_RM_244 rfl ?_
      obtain ⟨v3, ev3, h⟩ := l_bnd h
      refine vr_nm ev3 ?_
      refine rm_putI H d_RM_write_39 W_RM_write_325 rfl rfl rfl ?_
      refine vr_iconst 0 d_RM_write_42 (by decide) ?_
      refine vr_istore_n (L' := [some (.ref m), some (.int x1), some (.int x2), some (.int 0)]) d_RM_write_43 rfl (by decide) rfl ?_
      exact mv_drop (q_RM_write_44 H h_RM_show hF hLw N _ _ _ h) (And.intro rfl (And.intro rfl trivial))
    · replace h := l_ifn c29 h
      refine vr_iconst (-1) d_RM_write_32 (by decide) ?_
      cases h
      exact vr_iret d_RM_write_33 rfl rfl ⟨rfl, rfl⟩
  · replace h := l_ifp c6 h
    refine vr_iconst (-1) d_RM_write_9 (by decide) ?_
    cases h
    exact vr_iret d_RM_write_10 rfl rfl ⟨rfl, rfl⟩

