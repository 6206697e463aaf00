/-! the class, lifted: leaves of the parser -/
def f_PA_init (N : Nat) (a0 : Nat) (x1 : Nat) (x2 : Nat) (σ : mh_H) : Option (mh_H × Nat × Nat) := chk (hT σ a0 = 7) <| chk (hT (mh_setR (mh_setR (mh_setI σ 3 3 a0 0) 3 0 a0 (some x1)) 3 1 a0 (some x2)) x1 = 9) <| rfO (hR (mh_setR (mh_setR (mh_setI σ 3 3 a0 0) 3 0 a0 (some x1)) 3 1 a0 (some x2)) 4 2 x1) fun b3 => some ((mh_setR (mh_setR (mh_setR (mh_setI σ 3 3 a0 0) 3 0 a0 (some x1)) 3 1 a0 (some x2)) 3 2 a0 (some b3)), 0, 0)
theorem c_PA_init {g : mv_G} {N : Nat} {a0 : Nat} {x1 : Nat} {x2 : Nat} {σ : mh_H} {r : mh_H × Nat × Nat} (h : f_PA_init N a0 x1 x2 σ = some r) : mv_Met g M_PA_init 1 20 r.2.1 r.2.2 [.ref a0, .ref x1, .ref x2] σ (fun oc τ => τ = r.1 ∧ oc = .returned none) := by
  have key : ∀ cb sb : Nat, r.2.1 ≤ cb → r.2.2 ≤ sb → mv_V g M_PA_init 1 20 cb sb 0 [some (.ref a0), some (.ref x1), some (.ref x2)] [] σ (fun oc τ => τ = r.1 ∧ oc = .returned none) := by
    intro cb sb hc hs
    unfold f_PA_init at h
    refine vr_aload_n d_PA_init_0 rfl rfl ?_
    refine vr_objInit d_PA_init_1 w_119 w_27 w_28 (by decide) (Nat.le_of_ble_eq_true rfl) ?_
    refine vr_aload_n d_PA_init_4 rfl rfl ?_
    refine vr_iconst 0 d_PA_init_5 (by decide) ?_
    have q1 := (l_chk h).1
    replace h := (l_chk h).2
    refine vr_putI d_PA_init_6 W_PA_init_9 rfl rfl rfl q1 ?_
    refine vr_aload_n d_PA_init_9 rfl rfl ?_
    refine vr_aload_n d_PA_init_10 rfl rfl ?_
    refine vr_putR d_PA_init_11 W_PA_init_15 rfl rfl rfl q1 ?_
    refine vr_aload_n d_PA_init_14 rfl rfl ?_
    refine vr_aload_n d_PA_init_15 rfl rfl ?_
    refine vr_putR d_PA_init_16 W_PA_init_19 rfl rfl rfl q1 ?_
    refine vr_aload_n d_PA_init_19 rfl rfl ?_
    refine vr_aload_n d_PA_init_20 rfl rfl ?_
    have q2 := (l_chk h).1
    replace h := (l_chk h).2
    obtain ⟨b3, eb3, h⟩ := l_rf h
    refine vr_getR (b := b3) d_PA_init_21 F_PA_23 rfl q2 eb3 ?_
    refine vr_putR d_PA_init_24 W_PA_init_29 rfl rfl rfl q1 ?_
    cases h
    exact vr_vret d_PA_init_27 rfl ⟨rfl, rfl⟩
  exact mv_entry (L := [some (.ref a0), some (.ref x1), some (.ref x2)]) rfl rfl (Nat.le_of_ble_eq_true rfl) rfl (key _ _ (Nat.le_refl _) (Nat.le_refl _))

def f_PA_isIn (N : Nat) (x0 : Int32) (x1 : Int32) (x2 : Int32) : Option (Int32) := if x0 < x1 then (some (0)) else (if x2 < x0 then (some (0)) else (some (1)))
theorem c_PA_isIn {g : mv_G} {σ : mh_H} {N : Nat} {x0 : Int32} {x1 : Int32} {x2 : Int32} {r : Int32} (h : f_PA_isIn N x0 x1 x2 = some r) : mv_Met g M_PA_isIn 0 0 0 0 [.int x0, .int x1, .int x2] σ (fun oc τ => τ = σ ∧ oc = .returned (some (.int r))) := by
  refine mv_entry (L := [some (.int x0), some (.int x1), some (.int x2)]) rfl rfl (Nat.le_of_ble_eq_true rfl) rfl ?_
  unfold f_PA_isIn at h
  refine vr_iload_n d_PA_isIn_0 rfl rfl ?_
  refine vr_iload_n d_PA_isIn_1 rfl rfl ?_
  refine vr_icmp_lt (tgt := 14) d_PA_isIn_2 (by decide) (fun c2 => ?_) (fun c2 => ?_)
  · replace h := l_ifp c2 h
    refine vr_iconst 0 d_PA_isIn_14 (by decide) ?_
    cases h
    exact vr_iret d_PA_isIn_15 rfl rfl ⟨rfl, rfl⟩
  · replace h := l_ifn c2 h
    refine vr_iload_n d_PA_isIn_5 rfl rfl ?_
    refine vr_iload_n d_PA_isIn_6 rfl rfl ?_
    refine vr_icmp_gt (tgt := 14) d_PA_isIn_7 (by decide) (fun c7 => ?_) (fun c7 => ?_)
    · replace h := l_ifp c7 h
      refine vr_iconst 0 d_PA_isIn_14 (by decide) ?_
      cases h
      exact vr_iret d_PA_isIn_15 rfl rfl ⟨rfl, rfl⟩
    · replace h := l_ifn c7 h
      refine vr_iconst 1 d_PA_isIn_10 (by decide) ?_
      refine vr_goto (tgt := 15) d_PA_isIn_11 (by decide) ?_
      cases h
      exact vr_iret d_PA_isIn_15 rfl rfl ⟨rfl, rfl⟩

def f_PA_limit (N : Nat) (a0 : Nat) (x1 : Int32) (σ : mh_H) : Option (Bool × Int32 × mh_H) := if x1 ≤ 60 then (some (false, 0, σ)) else (chk (hT σ a0 = 7) <| calT (f_PA_refuse N a0 σ) fun v2 s2 => some (false, 0, s2))
theorem c_PA_limit {g : mv_G} {N : Nat} (hl : (mg_l g).stackTraces = false) {a0 : Nat} {x1 : Int32} {σ : mh_H} {r : Bool × Int32 × mh_H} (h : f_PA_limit N a0 x1 σ = some r) : mv_Met g M_PA_limit 7 120 0 0 [.ref a0, .int x1] σ (pcV r) := by
  refine mv_entry (L := [some (.ref a0), some (.int x1)]) rfl rfl (Nat.le_of_ble_eq_true rfl) rfl ?_
  unfold f_PA_limit at h
  refine vr_iload_n d_PA_limit_0 rfl rfl ?_
  refine vr_bipush 60 d_PA_limit_1 (by decide) ?_
  refine vr_icmp_le (tgt := 10) d_PA_limit_3 (by decide) (fun c3 => ?_) (fun c3 => ?_)
  · replace h := l_ifp c3 h
    cases h
    exact vr_vret d_PA_limit_10 rfl ⟨rfl, rfl⟩
  · replace h := l_ifn c3 h
    refine vr_aload_n d_PA_limit_6 rfl rfl ?_
    have q1 := (l_chk h).1
    replace h := (l_chk h).2
    rcases l_calT h with ⟨v2, s2, ev2, h⟩ | ⟨v2, s2, ev2, hz⟩
    rotate_left
    · cases hz
      exact mh_threw (Qy := fun _ _ => True) 3 [] d_PA_limit_7 C_PA_123 (c_PA_refuse hl ev2) q1 rfl rfl rfl (Nat.le_of_ble_eq_true rfl) (by decide) (Nat.le_of_ble_eq_true rfl) rfl ⟨rfl, rfl⟩
    refine mh_callU 3 [] d_PA_limit_7 C_PA_123 (c_PA_refuse hl ev2) q1 rfl rfl rfl (Nat.le_of_ble_eq_true rfl) (by decide) (Nat.le_of_ble_eq_true rfl) ?_
    cases h
    exact vr_vret d_PA_limit_10 rfl ⟨rfl, rfl⟩

def k_PA_take_17 (N : Nat) (y0 : Nat) (σ : mh_H) : Option (Bool × Int32 × mh_H) := chk (hT σ y0 = 7) <| bnd (((hI σ 3 3 y0) + 1)) fun v7 => some (false, 0, (mh_setI σ 3 3 y0 v7))
theorem q_PA_take_17 {g : mv_G} {N : Nat} (hl : (mg_l g).stackTraces = false) (y0 : Nat) (σ : mh_H) (r : Bool × Int32 × mh_H) (h : k_PA_take_17 N y0 σ = some r) : mv_V g M_PA_take 7 120 0 0 17 [some (.ref y0), none] [] σ (pcV r) := by
  unfold k_PA_take_17 at h
  refine vr_aload_n d_PA_take_17 rfl rfl ?_
  refine vr_dup d_PA_take_18 rfl ?_
  have q6 := (l_chk h).1
  replace h := (l_chk h).2
  refine vr_getI d_PA_take_19 F_PA_9 rfl q6 ?_
  refine vr_iconst 1 d_PA_take_22 (by decide) ?_
  refine vr_iadd d_PA_take_23 ?_
  obtain ⟨v7, ev7, h⟩ := l_bnd h
  refine vr_nm ev7 ?_
  refine vr_putI d_PA_take_24 W_PA_take_9 rfl rfl rfl q6 ?_
  cases h
  exact vr_vret d_PA_take_27 rfl ⟨rfl, rfl⟩

def f_PA_take (N : Nat) (a0 : Nat) (x1 : Int32) (σ : mh_H) : Option (Bool × Int32 × mh_H) := chk (hT σ a0 = 7) <| rfO (hR σ 3 2 a0) fun b2 => chk (hT σ b2 = 2) <| chk (ib (hI σ 3 3 a0) (hN σ b2)) <| if (hA σ b2 (Int32.toNatClampNeg (hI σ 3 3 a0))) = x1 then (k_PA_take_17 N a0 σ) else (calT (f_PA_refuse N a0 σ) fun v5 s5 => k_PA_take_17 N a0 s5)
theorem c_PA_take {g : mv_G} {N : Nat} (hl : (mg_l g).stackTraces = false) {a0 : Nat} {x1 : Int32} {σ : mh_H} {r : Bool × Int32 × mh_H} (h : f_PA_take N a0 x1 σ = some r) : mv_Met g M_PA_take 7 120 0 0 [.ref a0, .int x1] σ (pcV r) := by
  refine mv_entry (L := [some (.ref a0), some (.int x1)]) rfl rfl (Nat.le_of_ble_eq_true rfl) rfl ?_
  unfold f_PA_take at h
  refine vr_aload_n d_PA_take_0 rfl rfl ?_
  have q1 := (l_chk h).1
  replace h := (l_chk h).2
  obtain ⟨b2, eb2, h⟩ := l_rf h
  refine vr_getR (b := b2) d_PA_take_1 F_PA_29 rfl q1 eb2 ?_
  refine vr_aload_n d_PA_take_4 rfl rfl ?_
  refine vr_getI d_PA_take_5 F_PA_9 rfl q1 ?_
  have q3 := (l_chk h).1
  replace h := (l_chk h).2
  have q4 := (l_chk h).1
  replace h := (l_chk h).2
  refine vr_iald (t := 0) d_PA_take_8 rfl q3 (ib_in q4) ?_
  refine vr_iload_n d_PA_take_9 rfl rfl ?_
  refine vr_icmp_eq (tgt := 17) d_PA_take_10 (by decide) (fun c10 => ?_) (fun c10 => ?_)
  · replace h := l_ifp c10 h
    exact mv_drop (q_PA_take_17 hl _ _ _ h) (And.intro rfl trivial)
  · replace h := l_ifn c10 h
    refine vr_aload_n d_PA_take_13 rfl rfl ?_
    rcases l_calT h with ⟨v5, s5, ev5, h⟩ | ⟨v5, s5, ev5, hz⟩
    rotate_left
    · cases hz
      exact mh_threw (Qy := fun _ _ => True) 3 [] d_PA_take_14 C_PA_123 (c_PA_refuse hl ev5) q1 rfl rfl rfl (Nat.le_of_ble_eq_true rfl) (by decide) (Nat.le_of_ble_eq_true rfl) rfl ⟨rfl, rfl⟩
    refine mh_callU 3 [] d_PA_take_14 C_PA_123 (c_PA_refuse hl ev5) q1 rfl rfl rfl (Nat.le_of_ble_eq_true rfl) (by decide) (Nat.le_of_ble_eq_true rfl) ?_
    exact mv_drop (q_PA_take_17 hl _ _ _ h) (And.intro rfl trivial)

def f_PA_skip (N : Nat) (a0 : Nat) (x1 : Int32) (σ : mh_H) : Option (Int32 × mh_H) := chk (hT σ a0 = 7) <| rfO (hR σ 3 2 a0) fun b2 => chk (hT σ b2 = 2) <| chk (ib (hI σ 3 3 a0) (hN σ b2)) <| if (hA σ b2 (Int32.toNatClampNeg (hI σ 3 3 a0))) = x1 then (bnd (((hI σ 3 3 a0) + 1)) fun v5 => some (1, (mh_setI σ 3 3 a0 v5))) else (some (0, σ))
theorem c_PA_skip {g : mv_G} {N : Nat} {a0 : Nat} {x1 : Int32} {σ : mh_H} {r : Int32 × mh_H} (h : f_PA_skip N a0 x1 σ = some r) : mv_Met g M_PA_skip 0 0 0 0 [.ref a0, .int x1] σ (fun oc τ => τ = r.2 ∧ oc = .returned (some (.int r.1))) := by
  refine mv_entry (L := [some (.ref a0), some (.int x1)]) rfl rfl (Nat.le_of_ble_eq_true rfl) rfl ?_
  unfold f_PA_skip at h
  refine vr_aload_n d_PA_skip_0 rfl rfl ?_
  have q1 := (l_chk h).1
  replace h := (l_chk h).2
  obtain ⟨b2, eb2, h⟩ := l_rf h
  refine vr_getR (b := b2) d_PA_skip_1 F_PA_29 rfl q1 eb2 ?_
  refine vr_aload_n d_PA_skip_4 rfl rfl ?_
  refine vr_getI d_PA_skip_5 F_PA_9 rfl q1 ?_
  have q3 := (l_chk h).1
  replace h := (l_chk h).2
  have q4 := (l_chk h).1
  replace h := (l_chk h).2
  refine vr_iald (t := 0) d_PA_skip_8 rfl q3 (ib_in q4) ?_
  refine vr_iload_n d_PA_skip_9 rfl rfl ?_
  refine vr_icmp_eq (tgt := 15) d_PA_skip_10 (by decide) (fun c10 => ?_) (fun c10 => ?_)
  · replace h := l_ifp c10 h
    refine vr_aload_n d_PA_skip_15 rfl rfl ?_
    refine vr_dup d_PA_skip_16 rfl ?_
    refine vr_getI d_PA_skip_17 F_PA_9 rfl q1 ?_
    refine vr_iconst 1 d_PA_skip_20 (by decide) ?_
    refine vr_iadd d_PA_skip_21 ?_
    obtain ⟨v5, ev5, h⟩ := l_bnd h
    refine vr_nm ev5 ?_
    refine vr_putI d_PA_skip_22 W_PA_skip_9 rfl rfl rfl q1 ?_
    refine vr_iconst 1 d_PA_skip_25 (by decide) ?_
    cases h
    exact vr_iret d_PA_skip_26 rfl rfl ⟨rfl, rfl⟩
  · replace h := l_ifn c10 h
    refine vr_iconst 0 d_PA_skip_13 (by decide) ?_
    cases h
    exact vr_iret d_PA_skip_14 rfl rfl ⟨rfl, rfl⟩

def f_PA_finish (N : Nat) (a0 : Nat) (x1 : Int32) (x2 : Int32) (x3 : Int32) (σ : mh_H) : Option (mh_H) := chk (hT σ a0 = 7) <| rfO (hR σ 3 1 a0) fun b2 => chk (hT σ b2 = 3) <| calV (f_DR_add N b2 x1 x2 0 ((((hI σ 1 4 b2) - x3) + 1)) σ) fun s4 => some (s4)
theorem c_PA_finish {g : mv_G} {N : Nat} {a0 : Nat} {x1 : Int32} {x2 : Int32} {x3 : Int32} {σ : mh_H} {r : mh_H} (h : f_PA_finish N a0 x1 x2 x3 σ = some r) : mv_Met g M_PA_finish 1 24 0 0 [.ref a0, .int x1, .int x2, .int x3] σ (fun oc τ => τ = r ∧ oc = .returned none) := by
  refine mv_entry (L := [some (.ref a0), some (.int x1), some (.int x2), some (.int x3)]) rfl rfl (Nat.le_of_ble_eq_true rfl) rfl ?_
  unfold f_PA_finish at h
  refine vr_aload_n d_PA_finish_0 rfl rfl ?_
  have q1 := (l_chk h).1
  replace h := (l_chk h).2
  obtain ⟨b2, eb2, h⟩ := l_rf h
  refine vr_getR (b := b2) d_PA_finish_1 F_PA_19 rfl q1 eb2 ?_
  refine vr_iload_n d_PA_finish_4 rfl rfl ?_
  refine vr_iload_n d_PA_finish_5 rfl rfl ?_
  refine vr_iconst 0 d_PA_finish_6 (by decide) ?_
  refine vr_aload_n d_PA_finish_7 rfl rfl ?_
  refine vr_getR (b := b2) d_PA_finish_8 F_PA_19 rfl q1 eb2 ?_
  have q3 := (l_chk h).1
  replace h := (l_chk h).2
  refine vr_getI d_PA_finish_11 F_PA_42 rfl q3 ?_
  refine vr_iload_n d_PA_finish_14 rfl rfl ?_
  refine vr_isub d_PA_finish_15 ?_
  refine vr_iconst 1 d_PA_finish_16 (by decide) ?_
  refine vr_iadd d_PA_finish_17 ?_
  obtain ⟨s4, es4, h⟩ := l_calV h
  refine mh_callU 1 [.int x1, .int x2, .int 0, .int (((hI σ 1 4 b2) - x3) + 1)] d_PA_finish_18 C_PA_50 (c_DR_add es4) q3 rfl rfl rfl (Nat.le_of_ble_eq_true rfl) (by decide) (Nat.le_of_ble_eq_true rfl) ?_
  cases h
  exact vr_vret d_PA_finish_21 rfl ⟨rfl, rfl⟩

def k_PA_name_17 (N : Nat) (y0 : Nat) (σ : mh_H) : Option (Bool × Int32 × mh_H) := chk (hT σ y0 = 7) <| rfO (hR σ 3 1 y0) fun b7 => rfO (hR σ 3 0 y0) fun b8 => chk (hT σ b8 = 9) <| rfO (hR σ 4 3 b8) fun b10 => chk (hT σ b10 = 2) <| chk (ib (hI σ 3 3 y0) (hN σ b10)) <| chk (hT σ b7 = 3) <| calV (f_DR_add N b7 13 ((hA σ b10 (Int32.toNatClampNeg (hI σ 3 3 y0)))) 0 1 σ) fun s14 => chk (hT s14 y0 = 7) <| bnd (((hI s14 3 3 y0) + 1)) fun v16 => some (false, 0, (mh_setI s14 3 3 y0 v16))
theorem q_PA_name_17 {g : mv_G} {N : Nat} (hl : (mg_l g).stackTraces = false) (y0 : Nat) (σ : mh_H) (r : Bool × Int32 × mh_H) (h : k_PA_name_17 N y0 σ = some r) : mv_V g M_PA_name 7 120 0 0 17 [some (.ref y0)] [] σ (pcV r) := by
  unfold k_PA_name_17 at h
  refine vr_aload_n d_PA_name_17 rfl rfl ?_
  have q6 := (l_chk h).1
  replace h := (l_chk h).2
  obtain ⟨b7, eb7, h⟩ := l_rf h
  refine vr_getR (b := b7) d_PA_name_18 F_PA_19 rfl q6 eb7 ?_
  refine vr_bipush 13 d_PA_name_21 (by decide) ?_
  refine vr_aload_n d_PA_name_23 rfl rfl ?_
  obtain ⟨b8, eb8, h⟩ := l_rf h
  refine vr_getR (b := b8) d_PA_name_24 F_PA_15 rfl q6 eb8 ?_
  have q9 := (l_chk h).1
  replace h := (l_chk h).2
  obtain ⟨b10, eb10, h⟩ := l_rf h
  refine vr_getR (b := b10) d_PA_name_27 F_PA_45 rfl q9 eb10 ?_
  refine vr_aload_n d_PA_name_30 rfl rfl ?_
  refine vr_getI d_PA_name_31 F_PA_9 rfl q6 ?_
  have q11 := (l_chk h).1
  replace h := (l_chk h).2
  have q12 := (l_chk h).1
  replace h := (l_chk h).2
  refine vr_iald (t := 0) d_PA_name_34 rfl q11 (ib_in q12) ?_
  refine vr_iconst 0 d_PA_name_35 (by decide) ?_
  refine vr_iconst 1 d_PA_name_36 (by decide) ?_
  have q13 := (l_chk h).1
  replace h := (l_chk h).2
  obtain ⟨s14, es14, h⟩ := l_calV h
  refine mh_callU 1 [.int 13, .int (hA σ b10 (Int32.toNatClampNeg (hI σ 3 3 y0))), .int 0, .int 1] d_PA_name_37 C_PA_50 (c_DR_add es14) q13 rfl rfl rfl (Nat.le_of_ble_eq_true rfl) (by decide) (Nat.le_of_ble_eq_true rfl) ?_
  refine vr_aload_n d_PA_name_40 rfl rfl ?_
  refine vr_dup d_PA_name_41 rfl ?_
  have q15 := (l_chk h).1
  replace h := (l_chk h).2
  refine vr_getI d_PA_name_42 F_PA_9 rfl q15 ?_
  refine vr_iconst 1 d_PA_name_45 (by decide) ?_
  refine vr_iadd d_PA_name_46 ?_
  obtain ⟨v16, ev16, h⟩ := l_bnd h
  refine vr_nm ev16 ?_
  refine vr_putI d_PA_name_47 W_PA_name_9 rfl rfl rfl q15 ?_
  cases h
  exact vr_vret d_PA_name_50 rfl ⟨rfl, rfl⟩

def f_PA_name (N : Nat) (a0 : Nat) (σ : mh_H) : Option (Bool × Int32 × mh_H) := chk (hT σ a0 = 7) <| rfO (hR σ 3 2 a0) fun b2 => chk (hT σ b2 = 2) <| chk (ib (hI σ 3 3 a0) (hN σ b2)) <| if (hA σ b2 (Int32.toNatClampNeg (hI σ 3 3 a0))) = 2 then (k_PA_name_17 N a0 σ) else (calT (f_PA_refuse N a0 σ) fun v5 s5 => k_PA_name_17 N a0 s5)
theorem c_PA_name {g : mv_G} {N : Nat} (hl : (mg_l g).stackTraces = false) {a0 : Nat} {σ : mh_H} {r : Bool × Int32 × mh_H} (h : f_PA_name N a0 σ = some r) : mv_Met g M_PA_name 7 120 0 0 [.ref a0] σ (pcV r) := by
  refine mv_entry (L := [some (.ref a0)]) rfl rfl (Nat.le_of_ble_eq_true rfl) rfl ?_
  unfold f_PA_name at h
  refine vr_aload_n d_PA_name_0 rfl rfl ?_
  have q1 := (l_chk h).1
  replace h := (l_chk h).2
  obtain ⟨b2, eb2, h⟩ := l_rf h
  refine vr_getR (b := b2) d_PA_name_1 F_PA_29 rfl q1 eb2 ?_
  refine vr_aload_n d_PA_name_4 rfl rfl ?_
  refine vr_getI d_PA_name_5 F_PA_9 rfl q1 ?_
  have q3 := (l_chk h).1
  replace h := (l_chk h).2
  have q4 := (l_chk h).1
  replace h := (l_chk h).2
  refine vr_iald (t := 0) d_PA_name_8 rfl q3 (ib_in q4) ?_
  refine vr_iconst 2 d_PA_name_9 (by decide) ?_
  refine vr_icmp_eq (tgt := 17) d_PA_name_10 (by decide) (fun c10 => ?_) (fun c10 => ?_)
  · replace h := l_ifp c10 h
    exact mv_drop (q_PA_name_17 hl _ _ _ h) (And.intro rfl trivial)
  · replace h := l_ifn c10 h
    refine vr_aload_n d_PA_name_13 rfl rfl ?_
    rcases l_calT h with ⟨v5, s5, ev5, h⟩ | ⟨v5, s5, ev5, hz⟩
    rotate_left
    · cases hz
      exact mh_threw (Qy := fun _ _ => True) 3 [] d_PA_name_14 C_PA_123 (c_PA_refuse hl ev5) q1 rfl rfl rfl (Nat.le_of_ble_eq_true rfl) (by decide) (Nat.le_of_ble_eq_true rfl) rfl ⟨rfl, rfl⟩
    refine mh_callU 3 [] d_PA_name_14 C_PA_123 (c_PA_refuse hl ev5) q1 rfl rfl rfl (Nat.le_of_ble_eq_true rfl) (by decide) (Nat.le_of_ble_eq_true rfl) ?_
    exact mv_drop (q_PA_name_17 hl _ _ _ h) (And.intro rfl trivial)

def k_PA_number_49 (N : Nat) (y0 : Nat) (y2 : Int32) (y3 : Int32) (σ : mh_H) : Option (Bool × Int32 × mh_H) := chk (hT σ y0 = 7) <| rfO (hR σ 3 1 y0) fun b15 => rfO (hR σ 3 0 y0) fun b16 => chk (hT σ b16 = 9) <| rfO (hR σ 4 4 b16) fun b18 => chk (hT σ b18 = 2) <| chk (ib (hI σ 3 3 y0) (hN σ b18)) <| chk (hT σ b15 = 3) <| calV (f_DR_add N b15 12 y2 ((y3 * (hA σ b18 (Int32.toNatClampNeg (hI σ 3 3 y0))))) 1 σ) fun s22 => chk (hT s22 y0 = 7) <| bnd (((hI s22 3 3 y0) + 1)) fun v24 => some (false, 0, (mh_setI s22 3 3 y0 v24))
theorem q_PA_number_49 {g : mv_G} {N : Nat} (hl : (mg_l g).stackTraces = false) (y0 : Nat) (y2 : Int32) (y3 : Int32) (σ : mh_H) (r : Bool × Int32 × mh_H) (h : k_PA_number_49 N y0 y2 y3 σ = some r) : mv_V g M_PA_number 7 120 0 0 49 [some (.ref y0), none, some (.int y2), some (.int y3)] [] σ (pcV r) := by
  unfold k_PA_number_49 at h
  refine vr_aload_n d_PA_number_49 rfl rfl ?_
  have q14 := (l_chk h).1
  replace h := (l_chk h).2
  obtain ⟨b15, eb15, h⟩ := l_rf h
  refine vr_getR (b := b15) d_PA_number_50 F_PA_19 rfl q14 eb15 ?_
  refine vr_bipush 12 d_PA_number_53 (by decide) ?_
  refine vr_iload_n d_PA_number_55 rfl rfl ?_
  refine vr_iload_n d_PA_number_56 rfl rfl ?_
  refine vr_aload_n d_PA_number_57 rfl rfl ?_
  obtain ⟨b16, eb16, h⟩ := l_rf h
  refine vr_getR (b := b16) d_PA_number_58 F_PA_15 rfl q14 eb16 ?_
  have q17 := (l_chk h).1
  replace h := (l_chk h).2
  obtain ⟨b18, eb18, h⟩ := l_rf h
  refine vr_getR (b := b18) d_PA_number_61 F_PA_132 rfl q17 eb18 ?_
  refine vr_aload_n d_PA_number_64 rfl rfl ?_
  refine vr_getI d_PA_number_65 F_PA_9 rfl q14 ?_
  have q19 := (l_chk h).1
  replace h := (l_chk h).2
  have q20 := (l_chk h).1
  replace h := (l_chk h).2
  refine vr_iald (t := 0) d_PA_number_68 rfl q19 (ib_in q20) ?_
  refine vr_imul d_PA_number_69 ?_
  refine vr_iconst 1 d_PA_number_70 (by decide) ?_
  have q21 := (l_chk h).1
  replace h := (l_chk h).2
  obtain ⟨s22, es22, h⟩ := l_calV h
  refine mh_callU 1 [.int 12, .int y2, .int (y3 * (hA σ b18 (Int32.toNatClampNeg (hI σ 3 3 y0)))), .int 1] d_PA_number_71 C_PA_50 (c_DR_add es22) q21 rfl rfl rfl (Nat.le_of_ble_eq_true rfl) (by decide) (Nat.le_of_ble_eq_true rfl) ?_
  refine vr_aload_n d_PA_number_74 rfl rfl ?_
  refine vr_dup d_PA_number_75 rfl ?_
  have q23 := (l_chk h).1
  replace h := (l_chk h).2
  refine vr_getI d_PA_number_76 F_PA_9 rfl q23 ?_
  refine vr_iconst 1 d_PA_number_79 (by decide) ?_
  refine vr_iadd d_PA_number_80 ?_
  obtain ⟨v24, ev24, h⟩ := l_bnd h
  refine vr_nm ev24 ?_
  refine vr_putI d_PA_number_81 W_PA_number_9 rfl rfl rfl q23 ?_
  cases h
  exact vr_vret d_PA_number_84 rfl ⟨rfl, rfl⟩

def k_PA_number_31 (N : Nat) (y0 : Nat) (y2 : Int32) (z0 : Int32) (σ : mh_H) : Option (Bool × Int32 × mh_H) := chk (hT σ y0 = 7) <| rfO (hR σ 3 2 y0) fun b10 => chk (hT σ b10 = 2) <| chk (ib (hI σ 3 3 y0) (hN σ b10)) <| if (hA σ b10 (Int32.toNatClampNeg (hI σ 3 3 y0))) = 3 then (k_PA_number_49 N y0 y2 z0 σ) else (calT (f_PA_refuse N y0 σ) fun v13 s13 => k_PA_number_49 N y0 y2 z0 s13)
theorem q_PA_number_31 {g : mv_G} {N : Nat} (hl : (mg_l g).stackTraces = false) (y0 : Nat) (y2 : Int32) (z0 : Int32) (σ : mh_H) (r : Bool × Int32 × mh_H) (h : k_PA_number_31 N y0 y2 z0 σ = some r) : mv_V g M_PA_number 7 120 0 0 31 [some (.ref y0), none, some (.int y2), none] [.int z0] σ (pcV r) := by
  unfold k_PA_number_31 at h
  refine vr_istore_n (L' := [some (.ref y0), none, some (.int y2), some (.int z0)]) d_PA_number_31 rfl (by decide) rfl ?_
  refine vr_aload_n d_PA_number_32 rfl rfl ?_
  have q9 := (l_chk h).1
  replace h := (l_chk h).2
  obtain ⟨b10, eb10, h⟩ := l_rf h
  refine vr_getR (b := b10) d_PA_number_33 F_PA_29 rfl q9 eb10 ?_
  refine vr_aload_n d_PA_number_36 rfl rfl ?_
  refine vr_getI d_PA_number_37 F_PA_9 rfl q9 ?_
  have q11 := (l_chk h).1
  replace h := (l_chk h).2
  have q12 := (l_chk h).1
  replace h := (l_chk h).2
  refine vr_iald (t := 0) d_PA_number_40 rfl q11 (ib_in q12) ?_
  refine vr_iconst 3 d_PA_number_41 (by decide) ?_
  refine vr_icmp_eq (tgt := 49) d_PA_number_42 (by decide) (fun c42 => ?_) (fun c42 => ?_)
  · replace h := l_ifp c42 h
    exact mv_drop (q_PA_number_49 hl _ _ _ _ _ h) (And.intro rfl (And.intro rfl (And.intro rfl trivial)))
  · replace h := l_ifn c42 h
    refine vr_aload_n d_PA_number_45 rfl rfl ?_
    rcases l_calT h with ⟨v13, s13, ev13, h⟩ | ⟨v13, s13, ev13, hz⟩
    rotate_left
    · cases hz
      exact mh_threw (Qy := fun _ _ => True) 3 [] d_PA_number_46 C_PA_123 (c_PA_refuse hl ev13) q9 rfl rfl rfl (Nat.le_of_ble_eq_true rfl) (by decide) (Nat.le_of_ble_eq_true rfl) rfl ⟨rfl, rfl⟩
    refine mh_callU 3 [] d_PA_number_46 C_PA_123 (c_PA_refuse hl ev13) q9 rfl rfl rfl (Nat.le_of_ble_eq_true rfl) (by decide) (Nat.le_of_ble_eq_true rfl) ?_
    exact mv_drop (q_PA_number_49 hl _ _ _ _ _ h) (And.intro rfl (And.intro rfl (And.intro rfl trivial)))

def f_PA_number (N : Nat) (a0 : Nat) (x1 : Int32) (σ : mh_H) : Option (Bool × Int32 × mh_H) := chk (hT σ a0 = 7) <| rfO (hR σ 3 0 a0) fun b2 => chk (hT σ b2 = 9) <| rfO (hR σ 4 3 b2) fun b4 => chk (hT σ b4 = 2) <| chk (ib (hI σ 3 3 a0) (hN σ b4)) <| bnd ((hA σ b4 (Int32.toNatClampNeg (hI σ 3 3 a0)))) fun v7 => if x1 = 0 then (k_PA_number_31 N a0 v7 1 σ) else (calI (f_PA_skip N a0 23 σ) fun v8 s8 => if v8 = 0 then (k_PA_number_31 N a0 v7 1 s8) else (k_PA_number_31 N a0 v7 (-1) s8))
theorem c_PA_number {g : mv_G} {N : Nat} (hl : (mg_l g).stackTraces = false) {a0 : Nat} {x1 : Int32} {σ : mh_H} {r : Bool × Int32 × mh_H} (h : f_PA_number N a0 x1 σ = some r) : mv_Met g M_PA_number 7 120 0 0 [.ref a0, .int x1] σ (pcV r) := by
  refine mv_entry (L := [some (.ref a0), some (.int x1), none, none]) rfl rfl (Nat.le_of_ble_eq_true rfl) rfl ?_
  unfold f_PA_number at h
  refine vr_aload_n d_PA_number_0 rfl rfl ?_
  have q1 := (l_chk h).1
  replace h := (l_chk h).2
  obtain ⟨b2, eb2, h⟩ := l_rf h
  refine vr_getR (b := b2) d_PA_number_1 F_PA_15 rfl q1 eb2 ?_
  have q3 := (l_chk h).1
  replace h := (l_chk h).2
  obtain ⟨b4, eb4, h⟩ := l_rf h
  refine vr_getR (b := b4) d_PA_number_4 F_PA_45 rfl q3 eb4 ?_
  refine vr_aload_n d_PA_number_7 rfl rfl ?_
  refine vr_getI d_PA_number_8 F_PA_9 rfl q1 ?_
  have q5 := (l_chk h).1
  replace h := (l_chk h).2
  have q6 := (l_chk h).1
  replace h := (l_chk h).2
  refine vr_iald (t := 0) d_PA_number_11 rfl q5 (ib_in q6) ?_
  obtain ⟨v7, ev7, h⟩ := l_bnd h
  refine vr_nm ev7 ?_
  refine vr_istore_n (L' := [some (.ref a0), some (.int x1), some (.int v7), none]) d_PA_number_12 rfl (by decide) rfl ?_
  refine vr_iload_n d_PA_number_13 rfl rfl ?_
  refine vr_if_eq (tgt := 30) d_PA_number_14 (by decide) (fun c14 => ?_) (fun c14 => ?_)
  · replace h := l_ifp c14 h
    refine vr_iconst 1 d_PA_number_30 (by decide) ?_
    exact mv_drop (q_PA_number_31 hl _ _ _ _ _ h) (And.intro rfl (And.intro rfl trivial))
  · replace h := l_ifn c14 h
    refine vr_aload_n d_PA_number_17 rfl rfl ?_
    refine vr_bipush 23 d_PA_number_18 (by decide) ?_
    obtain ⟨v8, s8, ev8, h⟩ := l_calI h
    refine mh_callI 3 [.int 23] d_PA_number_20 C_PA_62 (c_PA_skip ev8) q1 rfl rfl rfl (Nat.le_of_ble_eq_true rfl) (by decide) (Nat.le_of_ble_eq_true rfl) ?_
    refine vr_if_eq (tgt := 30) d_PA_number_23 (by decide) (fun c23 => ?_) (fun c23 => ?_)
    · replace h := l_ifp c23 h
      refine vr_iconst 1 d_PA_number_30 (by decide) ?_
      exact mv_drop (q_PA_number_31 hl _ _ _ _ _ h) (And.intro rfl (And.intro rfl trivial))
    · replace h := l_ifn c23 h
      refine vr_iconst (-1) d_PA_number_26 (by decide) ?_
      refine vr_goto (tgt := 31) d_PA_number_27 (by decide) ?_
      exact mv_drop (q_PA_number_31 hl _ _ _ _ _ h) (And.intro rfl (And.intro rfl trivial))

def f_PA_isCall (N : Nat) (a0 : Nat) (σ : mh_H) : Option (Int32 × mh_H) := chk (hT σ a0 = 7) <| rfO (hR σ 3 0 a0) fun b2 => chk (hT σ b2 = 9) <| calI (f_TO_kindAt N b2 (((hI σ 3 3 a0) + 1)) σ) fun v4 s4 => if v4 = 12 then (some (1, s4)) else (if v4 = 20 then (chk (hT s4 a0 = 7) <| rfO (hR s4 3 0 a0) fun b6 => chk (hT s4 b6 = 9) <| calI (f_TO_kindAt N b6 (((hI s4 3 3 a0) + 2)) s4) fun v8 s8 => if v8 = 2 then (chk (hT s8 a0 = 7) <| rfO (hR s8 3 0 a0) fun b10 => chk (hT s8 b10 = 9) <| calI (f_TO_kindAt N b10 (((hI s8 3 3 a0) + 3)) s8) fun v12 s12 => if v12 = 12 then (some (1, s12)) else (some (0, s12))) else (some (0, s8))) else (some (0, s4)))
theorem c_PA_isCall {g : mv_G} {N : Nat} {a0 : Nat} {σ : mh_H} {r : Int32 × mh_H} (h : f_PA_isCall N a0 σ = some r) : mv_Met g M_PA_isCall 1 21 0 0 [.ref a0] σ (fun oc τ => τ = r.2 ∧ oc = .returned (some (.int r.1))) := by
  refine mv_entry (L := [some (.ref a0), none]) rfl rfl (Nat.le_of_ble_eq_true rfl) rfl ?_
  unfold f_PA_isCall at h
  refine vr_aload_n d_PA_isCall_0 rfl rfl ?_
  have q1 := (l_chk h).1
  replace h := (l_chk h).2
  obtain ⟨b2, eb2, h⟩ := l_rf h
  refine vr_getR (b := b2) d_PA_isCall_1 F_PA_15 rfl q1 eb2 ?_
  refine vr_aload_n d_PA_isCall_4 rfl rfl ?_
  refine vr_getI d_PA_isCall_5 F_PA_9 rfl q1 ?_
  refine vr_iconst 1 d_PA_isCall_8 (by decide) ?_
  refine vr_iadd d_PA_isCall_9 ?_
  have q3 := (l_chk h).1
  replace h := (l_chk h).2
  obtain ⟨v4, s4, ev4, h⟩ := l_calI h
  refine mh_callI 4 [.int ((hI σ 3 3 a0) + 1)] d_PA_isCall_10 C_PA_103 (c_TO_kindAt ev4) q3 rfl rfl rfl (Nat.le_of_ble_eq_true rfl) (by decide) (Nat.le_of_ble_eq_true rfl) ?_
  refine vr_istore_n (L' := [some (.ref a0), some (.int v4)]) d_PA_isCall_13 rfl (by decide) rfl ?_
  refine vr_iload_n d_PA_isCall_14 rfl rfl ?_
  refine vr_bipush 12 d_PA_isCall_15 (by decide) ?_
  refine vr_icmp_eq (tgt := 61) d_PA_isCall_17 (by decide) (fun c17 => ?_) (fun c17 => ?_)
  · replace h := l_ifp c17 h
    refine vr_iconst 1 d_PA_isCall_61 (by decide) ?_
    refine vr_goto (tgt := 66) d_PA_isCall_62 (by decide) ?_
    cases h
    exact vr_iret d_PA_isCall_66 rfl rfl ⟨rfl, rfl⟩
  · replace h := l_ifn c17 h
    refine vr_iload_n d_PA_isCall_20 rfl rfl ?_
    refine vr_bipush 20 d_PA_isCall_21 (by decide) ?_
    refine vr_icmp_ne (tgt := 65) d_PA_isCall_23 (by decide) (fun c23 => ?_) (fun c23 => ?_)
    · replace h := l_ifn c23 h
      refine vr_iconst 0 d_PA_isCall_65 (by decide) ?_
      cases h
      exact vr_iret d_PA_isCall_66 rfl rfl ⟨rfl, rfl⟩
    · replace h := l_ifp c23 h
      refine vr_aload_n d_PA_isCall_26 rfl rfl ?_
      have q5 := (l_chk h).1
      replace h := (l_chk h).2
      obtain ⟨b6, eb6, h⟩ := l_rf h
      refine vr_getR (b := b6) d_PA_isCall_27 F_PA_15 rfl q5 eb6 ?_
      refine vr_aload_n d_PA_isCall_30 rfl rfl ?_
      refine vr_getI d_PA_isCall_31 F_PA_9 rfl q5 ?_
      refine vr_iconst 2 d_PA_isCall_34 (by decide) ?_
      refine vr_iadd d_PA_isCall_35 ?_
      have q7 := (l_chk h).1
      replace h := (l_chk h).2
      obtain ⟨v8, s8, ev8, h⟩ := l_calI h
      refine mh_callI 4 [.int ((hI s4 3 3 a0) + 2)] d_PA_isCall_36 C_PA_103 (c_TO_kindAt ev8) q7 rfl rfl rfl (Nat.le_of_ble_eq_true rfl) (by decide) (Nat.le_of_ble_eq_true rfl) ?_
      refine vr_iconst 2 d_PA_isCall_39 (by decide) ?_
      refine vr_icmp_ne (tgt := 65) d_PA_isCall_40 (by decide) (fun c40 => ?_) (fun c40 => ?_)
      · replace h := l_ifn c40 h
        refine vr_iconst 0 d_PA_isCall_65 (by decide) ?_
        cases h
        exact vr_iret d_PA_isCall_66 rfl rfl ⟨rfl, rfl⟩
      · replace h := l_ifp c40 h
        refine vr_aload_n d_PA_isCall_43 rfl rfl ?_
        have q9 := (l_chk h).1
        replace h := (l_chk h).2
        obtain ⟨b10, eb10, h⟩ := l_rf h
        refine vr_getR (b := b10) d_PA_isCall_44 F_PA_15 rfl q9 eb10 ?_
        refine vr_aload_n d_PA_isCall_47 rfl rfl ?_
        refine vr_getI d_PA_isCall_48 F_PA_9 rfl q9 ?_
        refine vr_iconst 3 d_PA_isCall_51 (by decide) ?_
        refine vr_iadd d_PA_isCall_52 ?_
        have q11 := (l_chk h).1
        replace h := (l_chk h).2
        obtain ⟨v12, s12, ev12, h⟩ := l_calI h
        refine mh_callI 4 [.int ((hI s8 3 3 a0) + 3)] d_PA_isCall_53 C_PA_103 (c_TO_kindAt ev12) q11 rfl rfl rfl (Nat.le_of_ble_eq_true rfl) (by decide) (Nat.le_of_ble_eq_true rfl) ?_
        refine vr_bipush 12 d_PA_isCall_56 (by decide) ?_
        refine vr_icmp_ne (tgt := 65) d_PA_isCall_58 (by decide) (fun c58 => ?_) (fun c58 => ?_)
        · replace h := l_ifn c58 h
          refine vr_iconst 0 d_PA_isCall_65 (by decide) ?_
          cases h
          exact vr_iret d_PA_isCall_66 rfl rfl ⟨rfl, rfl⟩
        · replace h := l_ifp c58 h
          refine vr_iconst 1 d_PA_isCall_61 (by decide) ?_
          refine vr_goto (tgt := 66) d_PA_isCall_62 (by decide) ?_
          cases h
          exact vr_iret d_PA_isCall_66 rfl rfl ⟨rfl, rfl⟩

