/-! the class, lifted: leaves of the parser -/
def f_PA_init (N : Nat) (a0 : Nat) (x1 : Nat) (x2 : Nat) (σ : mh_H) : Option (mh_H × Nat × Nat) := chk (hT σ a0 = 7) <| some ((mh_setR (mh_setR (mh_setI σ 3 2 a0 0) 3 0 a0 (some x1)) 3 1 a0 (some x2)), 0, 0)
theorem c_PA_init {g : mv_G} {N : Nat} {a0 : Nat} {x1 : Nat} {x2 : Nat} {σ : mh_H} {r : mh_H × Nat × Nat} (h : f_PA_init N a0 x1 x2 σ = some r) : mv_Met g M_PA_init 1 20 r.2.1 r.2.2 [.ref a0, .ref x1, .ref x2] σ (fun oc τ => τ = r.1 ∧ oc = .returned none) := by
  have key : ∀ cb sb : Nat, r.2.1 ≤ cb → r.2.2 ≤ sb → mv_V g M_PA_init 1 20 cb sb 0 [some (.ref a0), some (.ref x1), some (.ref x2)] [] σ (fun oc τ => τ = r.1 ∧ oc = .returned none) := by
    intro cb sb hc hs
    unfold f_PA_init at h
    refine vr_aload_n d_PA_init_0 rfl rfl ?_
    refine vr_objInit d_PA_init_1 w_116 w_27 w_28 (by decide) (Nat.le_of_ble_eq_true rfl) ?_
    refine vr_aload_n d_PA_init_4 rfl rfl ?_
    refine vr_iconst 0 d_PA_init_5 (by decide) ?_
    have q1 := (l_chk h).1
    replace h := (l_chk h).2
    refine vr_putI d_PA_init_6 W_PA_init_9 rfl rfl rfl q1 ?_
    refine vr_aload_n d_PA_init_9 rfl rfl ?_
    refine vr_aload_n d_PA_init_10 rfl rfl ?_
    refine vr_putR d_PA_init_11 W_PA_init_15 rfl rfl rfl q1 ?_
    refine vr_aload_n d_PA_init_14 rfl rfl ?_
    refine vr_aload_n d_PA_init_15 rfl rfl ?_
    refine vr_putR d_PA_init_16 W_PA_init_19 rfl rfl rfl q1 ?_
    cases h
    exact vr_vret d_PA_init_19 rfl ⟨rfl, rfl⟩
  exact mv_entry (L := [some (.ref a0), some (.ref x1), some (.ref x2)]) rfl rfl (Nat.le_of_ble_eq_true rfl) rfl (key _ _ (Nat.le_refl _) (Nat.le_refl _))

def f_PA_isAt (N : Nat) (a0 : Nat) (x1 : Int32) (x2 : Int32) (σ : mh_H) : Option (Int32 × mh_H) := chk (hT σ a0 = 7) <| rfO (hR σ 3 0 a0) fun b2 => chk (hT σ b2 = 9) <| calI (f_TO_kindAt N b2 ((hI σ 3 2 a0)) σ) fun v4 s4 => if v4 < x1 then (some (0, s4)) else (if x2 < v4 then (some (0, s4)) else (some (1, s4)))
theorem c_PA_isAt {g : mv_G} {N : Nat} {a0 : Nat} {x1 : Int32} {x2 : Int32} {σ : mh_H} {r : Int32 × mh_H} (h : f_PA_isAt N a0 x1 x2 σ = some r) : mv_Met g M_PA_isAt 1 21 0 0 [.ref a0, .int x1, .int x2] σ (fun oc τ => τ = r.2 ∧ oc = .returned (some (.int r.1))) := by
  refine mv_entry (L := [some (.ref a0), some (.int x1), some (.int x2), none]) rfl rfl (Nat.le_of_ble_eq_true rfl) rfl ?_
  unfold f_PA_isAt at h
  refine vr_aload_n d_PA_isAt_0 rfl rfl ?_
  have q1 := (l_chk h).1
  replace h := (l_chk h).2
  obtain ⟨b2, eb2, h⟩ := l_rf h
  refine vr_getR (b := b2) d_PA_isAt_1 F_PA_15 rfl q1 eb2 ?_
  refine vr_aload_n d_PA_isAt_4 rfl rfl ?_
  refine vr_getI d_PA_isAt_5 F_PA_9 rfl q1 ?_
  have q3 := (l_chk h).1
  replace h := (l_chk h).2
  obtain ⟨v4, s4, ev4, h⟩ := l_calI h
  refine mh_callI 4 [.int (hI σ 3 2 a0)] d_PA_isAt_8 C_PA_62 (c_TO_kindAt ev4) q3 rfl rfl rfl (Nat.le_of_ble_eq_true rfl) (by decide) (Nat.le_of_ble_eq_true rfl) ?_
  refine vr_istore_n (L' := [some (.ref a0), some (.int x1), some (.int x2), some (.int v4)]) d_PA_isAt_11 rfl (by decide) rfl ?_
  refine vr_iload_n d_PA_isAt_12 rfl rfl ?_
  refine vr_iload_n d_PA_isAt_13 rfl rfl ?_
  refine vr_icmp_lt (tgt := 26) d_PA_isAt_14 (by decide) (fun c14 => ?_) (fun c14 => ?_)
  · replace h := l_ifp c14 h
    refine vr_iconst 0 d_PA_isAt_26 (by decide) ?_
    cases h
    exact vr_iret d_PA_isAt_27 rfl rfl ⟨rfl, rfl⟩
  · replace h := l_ifn c14 h
    refine vr_iload_n d_PA_isAt_17 rfl rfl ?_
    refine vr_iload_n d_PA_isAt_18 rfl rfl ?_
    refine vr_icmp_gt (tgt := 26) d_PA_isAt_19 (by decide) (fun c19 => ?_) (fun c19 => ?_)
    · replace h := l_ifp c19 h
      refine vr_iconst 0 d_PA_isAt_26 (by decide) ?_
      cases h
      exact vr_iret d_PA_isAt_27 rfl rfl ⟨rfl, rfl⟩
    · replace h := l_ifn c19 h
      refine vr_iconst 1 d_PA_isAt_22 (by decide) ?_
      refine vr_goto (tgt := 27) d_PA_isAt_23 (by decide) ?_
      cases h
      exact vr_iret d_PA_isAt_27 rfl rfl ⟨rfl, rfl⟩

def f_PA_limit (N : Nat) (a0 : Nat) (x1 : Int32) (σ : mh_H) : Option (Bool × Int32 × mh_H) := if x1 ≤ 60 then (some (false, 0, σ)) else (chk (hT σ a0 = 7) <| calT (f_PA_refuse N a0 σ) fun v2 s2 => some (false, 0, s2))
theorem c_PA_limit {g : mv_G} {N : Nat} (hl : (mg_l g).stackTraces = false) {a0 : Nat} {x1 : Int32} {σ : mh_H} {r : Bool × Int32 × mh_H} (h : f_PA_limit N a0 x1 σ = some r) : mv_Met g M_PA_limit 7 120 0 0 [.ref a0, .int x1] σ (pcV r) := by
  refine mv_entry (L := [some (.ref a0), some (.int x1)]) rfl rfl (Nat.le_of_ble_eq_true rfl) rfl ?_
  unfold f_PA_limit at h
  refine vr_iload_n d_PA_limit_0 rfl rfl ?_
  refine vr_bipush 60 d_PA_limit_1 (by decide) ?_
  refine vr_icmp_le (tgt := 10) d_PA_limit_3 (by decide) (fun c3 => ?_) (fun c3 => ?_)
  · replace h := l_ifp c3 h
    cases h
    exact vr_vret d_PA_limit_10 rfl ⟨rfl, rfl⟩
  · replace h := l_ifn c3 h
    refine vr_aload_n d_PA_limit_6 rfl rfl ?_
    have q1 := (l_chk h).1
    replace h := (l_chk h).2
    rcases l_calT h with ⟨v2, s2, ev2, h⟩ | ⟨v2, s2, ev2, hz⟩
    rotate_left
    · cases hz
      exact mh_threw (Qy := fun _ _ => True) 3 [] d_PA_limit_7 C_PA_118 (c_PA_refuse hl ev2) q1 rfl rfl rfl (Nat.le_of_ble_eq_true rfl) (by decide) (Nat.le_of_ble_eq_true rfl) rfl ⟨rfl, rfl⟩
    refine mh_callU 3 [] d_PA_limit_7 C_PA_118 (c_PA_refuse hl ev2) q1 rfl rfl rfl (Nat.le_of_ble_eq_true rfl) (by decide) (Nat.le_of_ble_eq_true rfl) ?_
    cases h
    exact vr_vret d_PA_limit_10 rfl ⟨rfl, rfl⟩

def k_PA_take_19 (N : Nat) (y0 : Nat) (σ : mh_H) : Option (Bool × Int32 × mh_H) := chk (hT σ y0 = 7) <| bnd (((hI σ 3 2 y0) + 1)) fun v8 => some (false, 0, (mh_setI σ 3 2 y0 v8))
theorem q_PA_take_19 {g : mv_G} {N : Nat} (hl : (mg_l g).stackTraces = false) (y0 : Nat) (σ : mh_H) (r : Bool × Int32 × mh_H) (h : k_PA_take_19 N y0 σ = some r) : mv_V g M_PA_take 7 120 0 0 19 [some (.ref y0), none] [] σ (pcV r) := by
  unfold k_PA_take_19 at h
  refine vr_aload_n d_PA_take_19 rfl rfl ?_
  refine vr_dup d_PA_take_20 rfl ?_
  have q7 := (l_chk h).1
  replace h := (l_chk h).2
  refine vr_getI d_PA_take_21 F_PA_9 rfl q7 ?_
  refine vr_iconst 1 d_PA_take_24 (by decide) ?_
  refine vr_iadd d_PA_take_25 ?_
  obtain ⟨v8, ev8, h⟩ := l_bnd h
  refine vr_nm ev8 ?_
  refine vr_putI d_PA_take_26 W_PA_take_9 rfl rfl rfl q7 ?_
  cases h
  exact vr_vret d_PA_take_29 rfl ⟨rfl, rfl⟩

def f_PA_take (N : Nat) (a0 : Nat) (x1 : Int32) (σ : mh_H) : Option (Bool × Int32 × mh_H) := chk (hT σ a0 = 7) <| rfO (hR σ 3 0 a0) fun b2 => chk (hT σ b2 = 9) <| calI (f_TO_kindAt N b2 ((hI σ 3 2 a0)) σ) fun v4 s4 => if v4 = x1 then (k_PA_take_19 N a0 s4) else (chk (hT s4 a0 = 7) <| calT (f_PA_refuse N a0 s4) fun v6 s6 => k_PA_take_19 N a0 s6)
theorem c_PA_take {g : mv_G} {N : Nat} (hl : (mg_l g).stackTraces = false) {a0 : Nat} {x1 : Int32} {σ : mh_H} {r : Bool × Int32 × mh_H} (h : f_PA_take N a0 x1 σ = some r) : mv_Met g M_PA_take 7 120 0 0 [.ref a0, .int x1] σ (pcV r) := by
  refine mv_entry (L := [some (.ref a0), some (.int x1)]) rfl rfl (Nat.le_of_ble_eq_true rfl) rfl ?_
  unfold f_PA_take at h
  refine vr_aload_n d_PA_take_0 rfl rfl ?_
  have q1 := (l_chk h).1
  replace h := (l_chk h).2
  obtain ⟨b2, eb2, h⟩ := l_rf h
  refine vr_getR (b := b2) d_PA_take_1 F_PA_15 rfl q1 eb2 ?_
  refine vr_aload_n d_PA_take_4 rfl rfl ?_
  refine vr_getI d_PA_take_5 F_PA_9 rfl q1 ?_
  have q3 := (l_chk h).1
  replace h := (l_chk h).2
  obtain ⟨v4, s4, ev4, h⟩ := l_calI h
  refine mh_callI 4 [.int (hI σ 3 2 a0)] d_PA_take_8 C_PA_62 (c_TO_kindAt ev4) q3 rfl rfl rfl (Nat.le_of_ble_eq_true rfl) (by decide) (Nat.le_of_ble_eq_true rfl) ?_
  refine vr_iload_n d_PA_take_11 rfl rfl ?_
  refine vr_icmp_eq (tgt := 19) d_PA_take_12 (by decide) (fun c12 => ?_) (fun c12 => ?_)
  · replace h := l_ifp c12 h
    exact mv_drop (q_PA_take_19 hl _ _ _ h) (And.intro rfl trivial)
  · replace h := l_ifn c12 h
    refine vr_aload_n d_PA_take_15 rfl rfl ?_
    have q5 := (l_chk h).1
    replace h := (l_chk h).2
    rcases l_calT h with ⟨v6, s6, ev6, h⟩ | ⟨v6, s6, ev6, hz⟩
    rotate_left
    · cases hz
      exact mh_threw (Qy := fun _ _ => True) 3 [] d_PA_take_16 C_PA_118 (c_PA_refuse hl ev6) q5 rfl rfl rfl (Nat.le_of_ble_eq_true rfl) (by decide) (Nat.le_of_ble_eq_true rfl) rfl ⟨rfl, rfl⟩
    refine mh_callU 3 [] d_PA_take_16 C_PA_118 (c_PA_refuse hl ev6) q5 rfl rfl rfl (Nat.le_of_ble_eq_true rfl) (by decide) (Nat.le_of_ble_eq_true rfl) ?_
    exact mv_drop (q_PA_take_19 hl _ _ _ h) (And.intro rfl trivial)

def f_PA_skip (N : Nat) (a0 : Nat) (x1 : Int32) (σ : mh_H) : Option (Int32 × mh_H) := chk (hT σ a0 = 7) <| rfO (hR σ 3 0 a0) fun b2 => chk (hT σ b2 = 9) <| calI (f_TO_kindAt N b2 ((hI σ 3 2 a0)) σ) fun v4 s4 => if v4 = x1 then (chk (hT s4 a0 = 7) <| bnd (((hI s4 3 2 a0) + 1)) fun v6 => some (1, (mh_setI s4 3 2 a0 v6))) else (some (0, s4))
theorem c_PA_skip {g : mv_G} {N : Nat} {a0 : Nat} {x1 : Int32} {σ : mh_H} {r : Int32 × mh_H} (h : f_PA_skip N a0 x1 σ = some r) : mv_Met g M_PA_skip 1 21 0 0 [.ref a0, .int x1] σ (fun oc τ => τ = r.2 ∧ oc = .returned (some (.int r.1))) := by
  refine mv_entry (L := [some (.ref a0), some (.int x1)]) rfl rfl (Nat.le_of_ble_eq_true rfl) rfl ?_
  unfold f_PA_skip at h
  refine vr_aload_n d_PA_skip_0 rfl rfl ?_
  have q1 := (l_chk h).1
  replace h := (l_chk h).2
  obtain ⟨b2, eb2, h⟩ := l_rf h
  refine vr_getR (b := b2) d_PA_skip_1 F_PA_15 rfl q1 eb2 ?_
  refine vr_aload_n d_PA_skip_4 rfl rfl ?_
  refine vr_getI d_PA_skip_5 F_PA_9 rfl q1 ?_
  have q3 := (l_chk h).1
  replace h := (l_chk h).2
  obtain ⟨v4, s4, ev4, h⟩ := l_calI h
  refine mh_callI 4 [.int (hI σ 3 2 a0)] d_PA_skip_8 C_PA_62 (c_TO_kindAt ev4) q3 rfl rfl rfl (Nat.le_of_ble_eq_true rfl) (by decide) (Nat.le_of_ble_eq_true rfl) ?_
  refine vr_iload_n d_PA_skip_11 rfl rfl ?_
  refine vr_icmp_eq (tgt := 17) d_PA_skip_12 (by decide) (fun c12 => ?_) (fun c12 => ?_)
  · replace h := l_ifp c12 h
    refine vr_aload_n d_PA_skip_17 rfl rfl ?_
    refine vr_dup d_PA_skip_18 rfl ?_
    have q5 := (l_chk h).1
    replace h := (l_chk h).2
    refine vr_getI d_PA_skip_19 F_PA_9 rfl q5 ?_
    refine vr_iconst 1 d_PA_skip_22 (by decide) ?_
    refine vr_iadd d_PA_skip_23 ?_
    obtain ⟨v6, ev6, h⟩ := l_bnd h
    refine vr_nm ev6 ?_
    refine vr_putI d_PA_skip_24 W_PA_skip_9 rfl rfl rfl q5 ?_
    refine vr_iconst 1 d_PA_skip_27 (by decide) ?_
    cases h
    exact vr_iret d_PA_skip_28 rfl rfl ⟨rfl, rfl⟩
  · replace h := l_ifn c12 h
    refine vr_iconst 0 d_PA_skip_15 (by decide) ?_
    cases h
    exact vr_iret d_PA_skip_16 rfl rfl ⟨rfl, rfl⟩

def f_PA_finish (N : Nat) (a0 : Nat) (x1 : Int32) (x2 : Int32) (x3 : Int32) (σ : mh_H) : Option (mh_H) := chk (hT σ a0 = 7) <| rfO (hR σ 3 1 a0) fun b2 => chk (hT σ b2 = 3) <| calV (f_DR_add N b2 x1 x2 0 ((((hI σ 1 4 b2) - x3) + 1)) σ) fun s4 => some (s4)
theorem c_PA_finish {g : mv_G} {N : Nat} {a0 : Nat} {x1 : Int32} {x2 : Int32} {x3 : Int32} {σ : mh_H} {r : mh_H} (h : f_PA_finish N a0 x1 x2 x3 σ = some r) : mv_Met g M_PA_finish 1 24 0 0 [.ref a0, .int x1, .int x2, .int x3] σ (fun oc τ => τ = r ∧ oc = .returned none) := by
  refine mv_entry (L := [some (.ref a0), some (.int x1), some (.int x2), some (.int x3)]) rfl rfl (Nat.le_of_ble_eq_true rfl) rfl ?_
  unfold f_PA_finish at h
  refine vr_aload_n d_PA_finish_0 rfl rfl ?_
  have q1 := (l_chk h).1
  replace h := (l_chk h).2
  obtain ⟨b2, eb2, h⟩ := l_rf h
  refine vr_getR (b := b2) d_PA_finish_1 F_PA_19 rfl q1 eb2 ?_
  refine vr_iload_n d_PA_finish_4 rfl rfl ?_
  refine vr_iload_n d_PA_finish_5 rfl rfl ?_
  refine vr_iconst 0 d_PA_finish_6 (by decide) ?_
  refine vr_aload_n d_PA_finish_7 rfl rfl ?_
  refine vr_getR (b := b2) d_PA_finish_8 F_PA_19 rfl q1 eb2 ?_
  have q3 := (l_chk h).1
  replace h := (l_chk h).2
  refine vr_getI d_PA_finish_11 F_PA_43 rfl q3 ?_
  refine vr_iload_n d_PA_finish_14 rfl rfl ?_
  refine vr_isub d_PA_finish_15 ?_
  refine vr_iconst 1 d_PA_finish_16 (by decide) ?_
  refine vr_iadd d_PA_finish_17 ?_
  obtain ⟨s4, es4, h⟩ := l_calV h
  refine mh_callU 1 [.int x1, .int x2, .int 0, .int (((hI σ 1 4 b2) - x3) + 1)] d_PA_finish_18 C_PA_52 (c_DR_add es4) q3 rfl rfl rfl (Nat.le_of_ble_eq_true rfl) (by decide) (Nat.le_of_ble_eq_true rfl) ?_
  cases h
  exact vr_vret d_PA_finish_21 rfl ⟨rfl, rfl⟩

def k_PA_name_19 (N : Nat) (y0 : Nat) (σ : mh_H) : Option (Bool × Int32 × mh_H) := chk (hT σ y0 = 7) <| rfO (hR σ 3 1 y0) fun b8 => rfO (hR σ 3 0 y0) fun b9 => chk (hT σ b9 = 9) <| calI (f_TO_placeAt N b9 ((hI σ 3 2 y0)) σ) fun v11 s11 => chk (hT s11 b8 = 3) <| calV (f_DR_add N b8 13 v11 0 1 s11) fun s13 => chk (hT s13 y0 = 7) <| bnd (((hI s13 3 2 y0) + 1)) fun v15 => some (false, 0, (mh_setI s13 3 2 y0 v15))
theorem q_PA_name_19 {g : mv_G} {N : Nat} (hl : (mg_l g).stackTraces = false) (y0 : Nat) (σ : mh_H) (r : Bool × Int32 × mh_H) (h : k_PA_name_19 N y0 σ = some r) : mv_V g M_PA_name 7 120 0 0 19 [some (.ref y0)] [] σ (pcV r) := by
  unfold k_PA_name_19 at h
  refine vr_aload_n d_PA_name_19 rfl rfl ?_
  have q7 := (l_chk h).1
  replace h := (l_chk h).2
  obtain ⟨b8, eb8, h⟩ := l_rf h
  refine vr_getR (b := b8) d_PA_name_20 F_PA_19 rfl q7 eb8 ?_
  refine vr_bipush 13 d_PA_name_23 (by decide) ?_
  refine vr_aload_n d_PA_name_25 rfl rfl ?_
  obtain ⟨b9, eb9, h⟩ := l_rf h
  refine vr_getR (b := b9) d_PA_name_26 F_PA_15 rfl q7 eb9 ?_
  refine vr_aload_n d_PA_name_29 rfl rfl ?_
  refine vr_getI d_PA_name_30 F_PA_9 rfl q7 ?_
  have q10 := (l_chk h).1
  replace h := (l_chk h).2
  obtain ⟨v11, s11, ev11, h⟩ := l_calI h
  refine mh_callI 4 [.int (hI σ 3 2 y0)] d_PA_name_33 C_PA_46 (c_TO_placeAt ev11) q10 rfl rfl rfl (Nat.le_of_ble_eq_true rfl) (by decide) (Nat.le_of_ble_eq_true rfl) ?_
  refine vr_iconst 0 d_PA_name_36 (by decide) ?_
  refine vr_iconst 1 d_PA_name_37 (by decide) ?_
  have q12 := (l_chk h).1
  replace h := (l_chk h).2
  obtain ⟨s13, es13, h⟩ := l_calV h
  refine mh_callU 1 [.int 13, .int v11, .int 0, .int 1] d_PA_name_38 C_PA_52 (c_DR_add es13) q12 rfl rfl rfl (Nat.le_of_ble_eq_true rfl) (by decide) (Nat.le_of_ble_eq_true rfl) ?_
  refine vr_aload_n d_PA_name_41 rfl rfl ?_
  refine vr_dup d_PA_name_42 rfl ?_
  have q14 := (l_chk h).1
  replace h := (l_chk h).2
  refine vr_getI d_PA_name_43 F_PA_9 rfl q14 ?_
  refine vr_iconst 1 d_PA_name_46 (by decide) ?_
  refine vr_iadd d_PA_name_47 ?_
  obtain ⟨v15, ev15, h⟩ := l_bnd h
  refine vr_nm ev15 ?_
  refine vr_putI d_PA_name_48 W_PA_name_9 rfl rfl rfl q14 ?_
  cases h
  exact vr_vret d_PA_name_51 rfl ⟨rfl, rfl⟩

def f_PA_name (N : Nat) (a0 : Nat) (σ : mh_H) : Option (Bool × Int32 × mh_H) := chk (hT σ a0 = 7) <| rfO (hR σ 3 0 a0) fun b2 => chk (hT σ b2 = 9) <| calI (f_TO_kindAt N b2 ((hI σ 3 2 a0)) σ) fun v4 s4 => if v4 = 2 then (k_PA_name_19 N a0 s4) else (chk (hT s4 a0 = 7) <| calT (f_PA_refuse N a0 s4) fun v6 s6 => k_PA_name_19 N a0 s6)
theorem c_PA_name {g : mv_G} {N : Nat} (hl : (mg_l g).stackTraces = false) {a0 : Nat} {σ : mh_H} {r : Bool × Int32 × mh_H} (h : f_PA_name N a0 σ = some r) : mv_Met g M_PA_name 7 120 0 0 [.ref a0] σ (pcV r) := by
  refine mv_entry (L := [some (.ref a0)]) rfl rfl (Nat.le_of_ble_eq_true rfl) rfl ?_
  unfold f_PA_name at h
  refine vr_aload_n d_PA_name_0 rfl rfl ?_
  have q1 := (l_chk h).1
  replace h := (l_chk h).2
  obtain ⟨b2, eb2, h⟩ := l_rf h
  refine vr_getR (b := b2) d_PA_name_1 F_PA_15 rfl q1 eb2 ?_
  refine vr_aload_n d_PA_name_4 rfl rfl ?_
  refine vr_getI d_PA_name_5 F_PA_9 rfl q1 ?_
  have q3 := (l_chk h).1
  replace h := (l_chk h).2
  obtain ⟨v4, s4, ev4, h⟩ := l_calI h
  refine mh_callI 4 [.int (hI σ 3 2 a0)] d_PA_name_8 C_PA_62 (c_TO_kindAt ev4) q3 rfl rfl rfl (Nat.le_of_ble_eq_true rfl) (by decide) (Nat.le_of_ble_eq_true rfl) ?_
  refine vr_iconst 2 d_PA_name_11 (by decide) ?_
  refine vr_icmp_eq (tgt := 19) d_PA_name_12 (by decide) (fun c12 => ?_) (fun c12 => ?_)
  · replace h := l_ifp c12 h
    exact mv_drop (q_PA_name_19 hl _ _ _ h) (And.intro rfl trivial)
  · replace h := l_ifn c12 h
    refine vr_aload_n d_PA_name_15 rfl rfl ?_
    have q5 := (l_chk h).1
    replace h := (l_chk h).2
    rcases l_calT h with ⟨v6, s6, ev6, h⟩ | ⟨v6, s6, ev6, hz⟩
    rotate_left
    · cases hz
      exact mh_threw (Qy := fun _ _ => True) 3 [] d_PA_name_16 C_PA_118 (c_PA_refuse hl ev6) q5 rfl rfl rfl (Nat.le_of_ble_eq_true rfl) (by decide) (Nat.le_of_ble_eq_true rfl) rfl ⟨rfl, rfl⟩
    refine mh_callU 3 [] d_PA_name_16 C_PA_118 (c_PA_refuse hl ev6) q5 rfl rfl rfl (Nat.le_of_ble_eq_true rfl) (by decide) (Nat.le_of_ble_eq_true rfl) ?_
    exact mv_drop (q_PA_name_19 hl _ _ _ h) (And.intro rfl trivial)

def k_PA_number_65 (N : Nat) (y0 : Nat) (y2 : Int32) (y3 : Int32) (σ : mh_H) : Option (Bool × Int32 × mh_H) := chk (hT σ y0 = 7) <| rfO (hR σ 3 1 y0) fun b18 => rfO (hR σ 3 0 y0) fun b19 => chk (hT σ b19 = 9) <| calI (f_TO_valueAt N b19 ((hI σ 3 2 y0)) σ) fun v21 s21 => chk (hT s21 b18 = 3) <| calV (f_DR_add N b18 12 y2 ((y3 * v21)) 1 s21) fun s23 => chk (hT s23 y0 = 7) <| bnd (((hI s23 3 2 y0) + 1)) fun v25 => some (false, 0, (mh_setI s23 3 2 y0 v25))
theorem q_PA_number_65 {g : mv_G} {N : Nat} (hl : (mg_l g).stackTraces = false) (y0 : Nat) (y2 : Int32) (y3 : Int32) (σ : mh_H) (r : Bool × Int32 × mh_H) (h : k_PA_number_65 N y0 y2 y3 σ = some r) : mv_V g M_PA_number 7 120 0 0 65 [some (.ref y0), none, some (.int y2), some (.int y3)] [] σ (pcV r) := by
  unfold k_PA_number_65 at h
  refine vr_aload_n d_PA_number_65 rfl rfl ?_
  have q17 := (l_chk h).1
  replace h := (l_chk h).2
  obtain ⟨b18, eb18, h⟩ := l_rf h
  refine vr_getR (b := b18) d_PA_number_66 F_PA_19 rfl q17 eb18 ?_
  refine vr_bipush 12 d_PA_number_69 (by decide) ?_
  refine vr_iload_n d_PA_number_71 rfl rfl ?_
  refine vr_iload_n d_PA_number_72 rfl rfl ?_
  refine vr_aload_n d_PA_number_73 rfl rfl ?_
  obtain ⟨b19, eb19, h⟩ := l_rf h
  refine vr_getR (b := b19) d_PA_number_74 F_PA_15 rfl q17 eb19 ?_
  refine vr_aload_n d_PA_number_77 rfl rfl ?_
  refine vr_getI d_PA_number_78 F_PA_9 rfl q17 ?_
  have q20 := (l_chk h).1
  replace h := (l_chk h).2
  obtain ⟨v21, s21, ev21, h⟩ := l_calI h
  refine mh_callI 4 [.int (hI σ 3 2 y0)] d_PA_number_81 C_PA_127 (c_TO_valueAt ev21) q20 rfl rfl rfl (Nat.le_of_ble_eq_true rfl) (by decide) (Nat.le_of_ble_eq_true rfl) ?_
  refine vr_imul d_PA_number_84 ?_
  refine vr_iconst 1 d_PA_number_85 (by decide) ?_
  have q22 := (l_chk h).1
  replace h := (l_chk h).2
  obtain ⟨s23, es23, h⟩ := l_calV h
  refine mh_callU 1 [.int 12, .int y2, .int (y3 * v21), .int 1] d_PA_number_86 C_PA_52 (c_DR_add es23) q22 rfl rfl rfl (Nat.le_of_ble_eq_true rfl) (by decide) (Nat.le_of_ble_eq_true rfl) ?_
  refine vr_aload_n d_PA_number_89 rfl rfl ?_
  refine vr_dup d_PA_number_90 rfl ?_
  have q24 := (l_chk h).1
  replace h := (l_chk h).2
  refine vr_getI d_PA_number_91 F_PA_9 rfl q24 ?_
  refine vr_iconst 1 d_PA_number_94 (by decide) ?_
  refine vr_iadd d_PA_number_95 ?_
  obtain ⟨v25, ev25, h⟩ := l_bnd h
  refine vr_nm ev25 ?_
  refine vr_putI d_PA_number_96 W_PA_number_9 rfl rfl rfl q24 ?_
  cases h
  exact vr_vret d_PA_number_99 rfl ⟨rfl, rfl⟩

def k_PA_number_46 (N : Nat) (y0 : Nat) (y2 : Int32) (y3 : Int32) (σ : mh_H) : Option (Bool × Int32 × mh_H) := chk (hT σ y0 = 7) <| rfO (hR σ 3 0 y0) fun b12 => chk (hT σ b12 = 9) <| calI (f_TO_kindAt N b12 ((hI σ 3 2 y0)) σ) fun v14 s14 => if v14 = 3 then (k_PA_number_65 N y0 y2 y3 s14) else (chk (hT s14 y0 = 7) <| calT (f_PA_refuse N y0 s14) fun v16 s16 => k_PA_number_65 N y0 y2 y3 s16)
theorem q_PA_number_46 {g : mv_G} {N : Nat} (hl : (mg_l g).stackTraces = false) (y0 : Nat) (y2 : Int32) (y3 : Int32) (σ : mh_H) (r : Bool × Int32 × mh_H) (h : k_PA_number_46 N y0 y2 y3 σ = some r) : mv_V g M_PA_number 7 120 0 0 46 [some (.ref y0), none, some (.int y2), some (.int y3)] [] σ (pcV r) := by
  unfold k_PA_number_46 at h
  refine vr_aload_n d_PA_number_46 rfl rfl ?_
  have q11 := (l_chk h).1
  replace h := (l_chk h).2
  obtain ⟨b12, eb12, h⟩ := l_rf h
  refine vr_getR (b := b12) d_PA_number_47 F_PA_15 rfl q11 eb12 ?_
  refine vr_aload_n d_PA_number_50 rfl rfl ?_
  refine vr_getI d_PA_number_51 F_PA_9 rfl q11 ?_
  have q13 := (l_chk h).1
  replace h := (l_chk h).2
  obtain ⟨v14, s14, ev14, h⟩ := l_calI h
  refine mh_callI 4 [.int (hI σ 3 2 y0)] d_PA_number_54 C_PA_62 (c_TO_kindAt ev14) q13 rfl rfl rfl (Nat.le_of_ble_eq_true rfl) (by decide) (Nat.le_of_ble_eq_true rfl) ?_
  refine vr_iconst 3 d_PA_number_57 (by decide) ?_
  refine vr_icmp_eq (tgt := 65) d_PA_number_58 (by decide) (fun c58 => ?_) (fun c58 => ?_)
  · replace h := l_ifp c58 h
    exact mv_drop (q_PA_number_65 hl _ _ _ _ _ h) (And.intro rfl (And.intro rfl (And.intro rfl trivial)))
  · replace h := l_ifn c58 h
    refine vr_aload_n d_PA_number_61 rfl rfl ?_
    have q15 := (l_chk h).1
    replace h := (l_chk h).2
    rcases l_calT h with ⟨v16, s16, ev16, h⟩ | ⟨v16, s16, ev16, hz⟩
    rotate_left
    · cases hz
      exact mh_threw (Qy := fun _ _ => True) 3 [] d_PA_number_62 C_PA_118 (c_PA_refuse hl ev16) q15 rfl rfl rfl (Nat.le_of_ble_eq_true rfl) (by decide) (Nat.le_of_ble_eq_true rfl) rfl ⟨rfl, rfl⟩
    refine mh_callU 3 [] d_PA_number_62 C_PA_118 (c_PA_refuse hl ev16) q15 rfl rfl rfl (Nat.le_of_ble_eq_true rfl) (by decide) (Nat.le_of_ble_eq_true rfl) ?_
    exact mv_drop (q_PA_number_65 hl _ _ _ _ _ h) (And.intro rfl (And.intro rfl (And.intro rfl trivial)))

def f_PA_number (N : Nat) (a0 : Nat) (x1 : Int32) (σ : mh_H) : Option (Bool × Int32 × mh_H) := chk (hT σ a0 = 7) <| rfO (hR σ 3 0 a0) fun b2 => chk (hT σ b2 = 9) <| calI (f_TO_placeAt N b2 ((hI σ 3 2 a0)) σ) fun v4 s4 => if x1 = 0 then (k_PA_number_46 N a0 v4 1 s4) else (chk (hT s4 a0 = 7) <| rfO (hR s4 3 0 a0) fun b6 => chk (hT s4 b6 = 9) <| calI (f_TO_kindAt N b6 ((hI s4 3 2 a0)) s4) fun v8 s8 => if v8 = 23 then (chk (hT s8 a0 = 7) <| bnd (((hI s8 3 2 a0) + 1)) fun v10 => k_PA_number_46 N a0 v4 (-1) ((mh_setI s8 3 2 a0 v10))) else (k_PA_number_46 N a0 v4 1 s8))
theorem c_PA_number {g : mv_G} {N : Nat} (hl : (mg_l g).stackTraces = false) {a0 : Nat} {x1 : Int32} {σ : mh_H} {r : Bool × Int32 × mh_H} (h : f_PA_number N a0 x1 σ = some r) : mv_Met g M_PA_number 7 120 0 0 [.ref a0, .int x1] σ (pcV r) := by
  refine mv_entry (L := [some (.ref a0), some (.int x1), none, none]) rfl rfl (Nat.le_of_ble_eq_true rfl) rfl ?_
  unfold f_PA_number at h
  refine vr_aload_n d_PA_number_0 rfl rfl ?_
  have q1 := (l_chk h).1
  replace h := (l_chk h).2
  obtain ⟨b2, eb2, h⟩ := l_rf h
  refine vr_getR (b := b2) d_PA_number_1 F_PA_15 rfl q1 eb2 ?_
  refine vr_aload_n d_PA_number_4 rfl rfl ?_
  refine vr_getI d_PA_number_5 F_PA_9 rfl q1 ?_
  have q3 := (l_chk h).1
  replace h := (l_chk h).2
  obtain ⟨v4, s4, ev4, h⟩ := l_calI h
  refine mh_callI 4 [.int (hI σ 3 2 a0)] d_PA_number_8 C_PA_46 (c_TO_placeAt ev4) q3 rfl rfl rfl (Nat.le_of_ble_eq_true rfl) (by decide) (Nat.le_of_ble_eq_true rfl) ?_
  refine vr_istore_n (L' := [some (.ref a0), some (.int x1), some (.int v4), none]) d_PA_number_11 rfl (by decide) rfl ?_
  refine vr_iconst 1 d_PA_number_12 (by decide) ?_
  refine vr_istore_n (L' := [some (.ref a0), some (.int x1), some (.int v4), some (.int 1)]) d_PA_number_13 rfl (by decide) rfl ?_
  refine vr_iload_n d_PA_number_14 rfl rfl ?_
  refine vr_if_eq (tgt := 46) d_PA_number_15 (by decide) (fun c15 => ?_) (fun c15 => ?_)
  · replace h := l_ifp c15 h
    exact mv_drop (q_PA_number_46 hl _ _ _ _ _ h) (And.intro rfl (And.intro rfl (And.intro rfl trivial)))
  · replace h := l_ifn c15 h
    refine vr_aload_n d_PA_number_18 rfl rfl ?_
    have q5 := (l_chk h).1
    replace h := (l_chk h).2
    obtain ⟨b6, eb6, h⟩ := l_rf h
    refine vr_getR (b := b6) d_PA_number_19 F_PA_15 rfl q5 eb6 ?_
    refine vr_aload_n d_PA_number_22 rfl rfl ?_
    refine vr_getI d_PA_number_23 F_PA_9 rfl q5 ?_
    have q7 := (l_chk h).1
    replace h := (l_chk h).2
    obtain ⟨v8, s8, ev8, h⟩ := l_calI h
    refine mh_callI 4 [.int (hI s4 3 2 a0)] d_PA_number_26 C_PA_62 (c_TO_kindAt ev8) q7 rfl rfl rfl (Nat.le_of_ble_eq_true rfl) (by decide) (Nat.le_of_ble_eq_true rfl) ?_
    refine vr_bipush 23 d_PA_number_29 (by decide) ?_
    refine vr_icmp_ne (tgt := 46) d_PA_number_31 (by decide) (fun c31 => ?_) (fun c31 => ?_)
    · replace h := l_ifn c31 h
      exact mv_drop (q_PA_number_46 hl _ _ _ _ _ h) (And.intro rfl (And.intro rfl (And.intro rfl trivial)))
    · replace h := l_ifp c31 h
      refine vr_iconst (-1) d_PA_number_34 (by decide) ?_
      refine vr_istore_n (L' := [some (.ref a0), some (.int x1), some (.int v4), some (.int (-1))]) d_PA_number_35 rfl (by decide) rfl ?_
      refine vr_aload_n d_PA_number_36 rfl rfl ?_
      refine vr_dup d_PA_number_37 rfl ?_
      have q9 := (l_chk h).1
      replace h := (l_chk h).2
      refine vr_getI d_PA_number_38 F_PA_9 rfl q9 ?_
      refine vr_iconst 1 d_PA_number_41 (by decide) ?_
      refine vr_iadd d_PA_number_42 ?_
      obtain ⟨v10, ev10, h⟩ := l_bnd h
      refine vr_nm ev10 ?_
      refine vr_putI d_PA_number_43 W_PA_number_9 rfl rfl rfl q9 ?_
      exact mv_drop (q_PA_number_46 hl _ _ _ _ _ h) (And.intro rfl (And.intro rfl (And.intro rfl trivial)))

def f_PA_isCall (N : Nat) (a0 : Nat) (σ : mh_H) : Option (Int32 × mh_H) := chk (hT σ a0 = 7) <| rfO (hR σ 3 0 a0) fun b2 => chk (hT σ b2 = 9) <| calI (f_TO_kindAt N b2 (((hI σ 3 2 a0) + 1)) σ) fun v4 s4 => if v4 = 12 then (some (1, s4)) else (if v4 = 20 then (chk (hT s4 a0 = 7) <| rfO (hR s4 3 0 a0) fun b6 => chk (hT s4 b6 = 9) <| calI (f_TO_kindAt N b6 (((hI s4 3 2 a0) + 2)) s4) fun v8 s8 => if v8 = 2 then (chk (hT s8 a0 = 7) <| rfO (hR s8 3 0 a0) fun b10 => chk (hT s8 b10 = 9) <| calI (f_TO_kindAt N b10 (((hI s8 3 2 a0) + 3)) s8) fun v12 s12 => if v12 = 12 then (some (1, s12)) else (some (0, s12))) else (some (0, s8))) else (some (0, s4)))
theorem c_PA_isCall {g : mv_G} {N : Nat} {a0 : Nat} {σ : mh_H} {r : Int32 × mh_H} (h : f_PA_isCall N a0 σ = some r) : mv_Met g M_PA_isCall 1 21 0 0 [.ref a0] σ (fun oc τ => τ = r.2 ∧ oc = .returned (some (.int r.1))) := by
  refine mv_entry (L := [some (.ref a0), none]) rfl rfl (Nat.le_of_ble_eq_true rfl) rfl ?_
  unfold f_PA_isCall at h
  refine vr_aload_n d_PA_isCall_0 rfl rfl ?_
  have q1 := (l_chk h).1
  replace h := (l_chk h).2
  obtain ⟨b2, eb2, h⟩ := l_rf h
  refine vr_getR (b := b2) d_PA_isCall_1 F_PA_15 rfl q1 eb2 ?_
  refine vr_aload_n d_PA_isCall_4 rfl rfl ?_
  refine vr_getI d_PA_isCall_5 F_PA_9 rfl q1 ?_
  refine vr_iconst 1 d_PA_isCall_8 (by decide) ?_
  refine vr_iadd d_PA_isCall_9 ?_
  have q3 := (l_chk h).1
  replace h := (l_chk h).2
  obtain ⟨v4, s4, ev4, h⟩ := l_calI h
  refine mh_callI 4 [.int ((hI σ 3 2 a0) + 1)] d_PA_isCall_10 C_PA_62 (c_TO_kindAt ev4) q3 rfl rfl rfl (Nat.le_of_ble_eq_true rfl) (by decide) (Nat.le_of_ble_eq_true rfl) ?_
  refine vr_istore_n (L' := [some (.ref a0), some (.int v4)]) d_PA_isCall_13 rfl (by decide) rfl ?_
  refine vr_iload_n d_PA_isCall_14 rfl rfl ?_
  refine vr_bipush 12 d_PA_isCall_15 (by decide) ?_
  refine vr_icmp_eq (tgt := 61) d_PA_isCall_17 (by decide) (fun c17 => ?_) (fun c17 => ?_)
  · replace h := l_ifp c17 h
    refine vr_iconst 1 d_PA_isCall_61 (by decide) ?_
    refine vr_goto (tgt := 66) d_PA_isCall_62 (by decide) ?_
    cases h
    exact vr_iret d_PA_isCall_66 rfl rfl ⟨rfl, rfl⟩
  · replace h := l_ifn c17 h
    refine vr_iload_n d_PA_isCall_20 rfl rfl ?_
    refine vr_bipush 20 d_PA_isCall_21 (by decide) ?_
    refine vr_icmp_ne (tgt := 65) d_PA_isCall_23 (by decide) (fun c23 => ?_) (fun c23 => ?_)
    · replace h := l_ifn c23 h
      refine vr_iconst 0 d_PA_isCall_65 (by decide) ?_
      cases h
      exact vr_iret d_PA_isCall_66 rfl rfl ⟨rfl, rfl⟩
    · replace h := l_ifp c23 h
      refine vr_aload_n d_PA_isCall_26 rfl rfl ?_
      have q5 := (l_chk h).1
      replace h := (l_chk h).2
      obtain ⟨b6, eb6, h⟩ := l_rf h
      refine vr_getR (b := b6) d_PA_isCall_27 F_PA_15 rfl q5 eb6 ?_
      refine vr_aload_n d_PA_isCall_30 rfl rfl ?_
      refine vr_getI d_PA_isCall_31 F_PA_9 rfl q5 ?_
      refine vr_iconst 2 d_PA_isCall_34 (by decide) ?_
      refine vr_iadd d_PA_isCall_35 ?_
      have q7 := (l_chk h).1
      replace h := (l_chk h).2
      obtain ⟨v8, s8, ev8, h⟩ := l_calI h
      refine mh_callI 4 [.int ((hI s4 3 2 a0) + 2)] d_PA_isCall_36 C_PA_62 (c_TO_kindAt ev8) q7 rfl rfl rfl (Nat.le_of_ble_eq_true rfl) (by decide) (Nat.le_of_ble_eq_true rfl) ?_
      refine vr_iconst 2 d_PA_isCall_39 (by decide) ?_
      refine vr_icmp_ne (tgt := 65) d_PA_isCall_40 (by decide) (fun c40 => ?_) (fun c40 => ?_)
      · replace h := l_ifn c40 h
        refine vr_iconst 0 d_PA_isCall_65 (by decide) ?_
        cases h
        exact vr_iret d_PA_isCall_66 rfl rfl ⟨rfl, rfl⟩
      · replace h := l_ifp c40 h
        refine vr_aload_n d_PA_isCall_43 rfl rfl ?_
        have q9 := (l_chk h).1
        replace h := (l_chk h).2
        obtain ⟨b10, eb10, h⟩ := l_rf h
        refine vr_getR (b := b10) d_PA_isCall_44 F_PA_15 rfl q9 eb10 ?_
        refine vr_aload_n d_PA_isCall_47 rfl rfl ?_
        refine vr_getI d_PA_isCall_48 F_PA_9 rfl q9 ?_
        refine vr_iconst 3 d_PA_isCall_51 (by decide) ?_
        refine vr_iadd d_PA_isCall_52 ?_
        have q11 := (l_chk h).1
        replace h := (l_chk h).2
        obtain ⟨v12, s12, ev12, h⟩ := l_calI h
        refine mh_callI 4 [.int ((hI s8 3 2 a0) + 3)] d_PA_isCall_53 C_PA_62 (c_TO_kindAt ev12) q11 rfl rfl rfl (Nat.le_of_ble_eq_true rfl) (by decide) (Nat.le_of_ble_eq_true rfl) ?_
        refine vr_bipush 12 d_PA_isCall_56 (by decide) ?_
        refine vr_icmp_ne (tgt := 65) d_PA_isCall_58 (by decide) (fun c58 => ?_) (fun c58 => ?_)
        · replace h := l_ifn c58 h
          refine vr_iconst 0 d_PA_isCall_65 (by decide) ?_
          cases h
          exact vr_iret d_PA_isCall_66 rfl rfl ⟨rfl, rfl⟩
        · replace h := l_ifp c58 h
          refine vr_iconst 1 d_PA_isCall_61 (by decide) ?_
          refine vr_goto (tgt := 66) d_PA_isCall_62 (by decide) ?_
          cases h
          exact vr_iret d_PA_isCall_66 rfl rfl ⟨rfl, rfl⟩

