/-! the class, lifted: the parser -/
def k_PA_block_35 (N : Nat) (p_PA_statement : Nat → Int32 → mh_H → Option (Bool × Int32 × mh_H)) : Nat → Nat → Int32 → Int32 → Int32 → Int32 → mh_H → Option (Bool × Int32 × mh_H)
  | 0, _, _, _, _, _, _ => none
  | n + 1, y0, y1, y2, y3, y4, σ => chk (hT σ y0 = 7) <| rfO (hR σ 3 0 y0) fun b15 => chk (hT σ b15 = 9) <| if (hI σ 4 5 b15) ≤ y4 then (calV (f_PA_finish N y0 2 y3 y2 σ) fun s17 => some (false, 0, s17)) else (calI (f_PA_skip N y0 15 σ) fun v18 s18 => if v18 = 0 then (chk (hT s18 y0 = 7) <| calT (p_PA_statement y0 y1 s18) fun v22 s22 => k_PA_block_35 N p_PA_statement n y0 y1 y2 y3 ((y4 + 1)) s22) else (chk (hT s18 y0 = 7) <| calV (f_PA_finish N y0 2 y3 y2 s18) fun s20 => some (false, 0, s20)))
theorem q_PA_block_35 {g : mv_G} {N : Nat} {p_PA_statement : Nat → Int32 → mh_H → Option (Bool × Int32 × mh_H)} (hl : (mg_l g).stackTraces = false) {F Lw : Nat} (h_PA_statement : pkV1 g M_PA_statement F Lw p_PA_statement) (hF : 40 ≤ F) (hLw : 1000 ≤ Lw) : ∀ (n : Nat) (y0 : Nat) (y1 : Int32) (y2 : Int32) (y3 : Int32) (y4 : Int32) (σ : mh_H) (r : Bool × Int32 × mh_H), k_PA_block_35 N p_PA_statement n y0 y1 y2 y3 y4 σ = some r → mv_V g M_PA_block (F + 1) (Lw + 60) 0 0 35 [some (.ref y0), some (.int y1), some (.int y2), some (.int y3), some (.int y4)] [] σ (pcV r) := by
  intro n
  induction n with
  | zero =>
    intro y0 y1 y2 y3 y4 σ r h
    exact absurd h (by simp [k_PA_block_35])
  | succ n ih =>
    intro y0 y1 y2 y3 y4 σ r h 
    unfold k_PA_block_35 at h
    refine vr_iload d_PA_block_35 rfl ?_
    refine vr_aload_n d_PA_block_37 rfl rfl ?_
    have q14 := (l_chk h).1
    replace h := (l_chk h).2
    obtain ⟨b15, eb15, h⟩ := l_rf h
    refine vr_getR (b := b15) d_PA_block_38 F_PA_15 rfl q14 eb15 ?_
    have q16 := (l_chk h).1
    replace h := (l_chk h).2
    refine vr_getI d_PA_block_41 F_PA_30 rfl q16 ?_
    refine vr_icmp_ge (tgt := 67) d_PA_block_44 (by decide) (fun c44 => ?_) (fun c44 => ?_)
    · replace h := l_ifp c44 h
      refine vr_aload_n d_PA_block_67 rfl rfl ?_
      refine vr_iconst 2 d_PA_block_68 (by decide) ?_
      refine vr_iload_n d_PA_block_69 rfl rfl ?_
      refine vr_iload_n d_PA_block_70 rfl rfl ?_
      obtain ⟨s17, es17, h⟩ := l_calV h
      refine mh_callU 3 [.int 2, .int y3, .int y2] d_PA_block_71 C_PA_69 (c_PA_finish es17) q14 rfl rfl rfl (Nat.le_of_ble_eq_true rfl) (by omega) (by show 8 + (4 + 11) + 24 ≤ Lw + 60; omega) ?_
      cases h
      exact vr_vret d_PA_block_74 rfl ⟨rfl, rfl⟩
    · replace h := l_ifn c44 h
      refine vr_aload_n d_PA_block_47 rfl rfl ?_
      refine vr_bipush 15 d_PA_block_48 (by decide) ?_
      obtain ⟨v18, s18, ev18, h⟩ := l_calI h
      refine mh_callI 3 [.int 15] d_PA_block_50 C_PA_62 (c_PA_skip ev18) q14 rfl rfl rfl (Nat.le_of_ble_eq_true rfl) (by omega) (by show 8 + (2 + 11) + 0 ≤ Lw + 60; omega) ?_
      refine vr_if_ne (tgt := 67) d_PA_block_53 (by decide) (fun c53 => ?_) (fun c53 => ?_)
      · replace h := l_ifn c53 h
        refine vr_aload_n d_PA_block_67 rfl rfl ?_
        refine vr_iconst 2 d_PA_block_68 (by decide) ?_
        refine vr_iload_n d_PA_block_69 rfl rfl ?_
        refine vr_iload_n d_PA_block_70 rfl rfl ?_
        have q19 := (l_chk h).1
        replace h := (l_chk h).2
        obtain ⟨s20, es20, h⟩ := l_calV h
        refine mh_callU 3 [.int 2, .int y3, .int y2] d_PA_block_71 C_PA_69 (c_PA_finish es20) q19 rfl rfl rfl (Nat.le_of_ble_eq_true rfl) (by omega) (by show 8 + (4 + 11) + 24 ≤ Lw + 60; omega) ?_
        cases h
        exact vr_vret d_PA_block_74 rfl ⟨rfl, rfl⟩
      · replace h := l_ifp c53 h
        refine vr_aload_n d_PA_block_56 rfl rfl ?_
        refine vr_iload_n d_PA_block_57 rfl rfl ?_
        have q21 := (l_chk h).1
        replace h := (l_chk h).2
        rcases l_calT h with ⟨v22, s22, ev22, h⟩ | ⟨v22, s22, ev22, hz⟩
        rotate_left
        · cases hz
          exact mh_threw (Qy := fun _ _ => True) 3 [.int y1] d_PA_block_58 C_PA_76 (h_PA_statement _ _ _ _ ev22) q21 rfl rfl rfl (Nat.le_of_ble_eq_true rfl) (by omega) (by show 8 + (5 + 11) + Lw ≤ Lw + 60; omega) rfl ⟨rfl, rfl⟩
        refine mh_callU 3 [.int y1] d_PA_block_58 C_PA_76 (h_PA_statement _ _ _ _ ev22) q21 rfl rfl rfl (Nat.le_of_ble_eq_true rfl) (by omega) (by show 8 + (5 + 11) + Lw ≤ Lw + 60; omega) ?_
        refine vr_iinc (L' := [some (.ref y0), some (.int y1), some (.int y2), some (.int y3), some (.int (y4 + 1))]) (y4 + 1) d_PA_block_61 (by decide) rfl rfl rfl ?_
        refine vr_goto (tgt := 35) d_PA_block_64 (by decide) ?_
        exact mv_drop (ih _ _ _ _ _ _ _ h) (And.intro rfl (And.intro rfl (And.intro rfl (And.intro rfl (And.intro rfl trivial)))))

def f_PA_block (N : Nat) (p_PA_statement : Nat → Int32 → mh_H → Option (Bool × Int32 × mh_H)) (a0 : Nat) (x1 : Int32) (σ : mh_H) : Option (Bool × Int32 × mh_H) := chk (hT σ a0 = 7) <| calT (f_PA_limit N a0 x1 σ) fun v2 s2 => chk (hT s2 a0 = 7) <| rfO (hR s2 3 1 a0) fun b4 => chk (hT s2 b4 = 3) <| bnd ((hI s2 1 4 b4)) fun v6 => rfO (hR s2 3 0 a0) fun b7 => chk (hT s2 b7 = 9) <| rfO (hR s2 4 3 b7) fun b9 => chk (hT s2 b9 = 2) <| chk (ib (hI s2 3 3 a0) (hN s2 b9)) <| bnd ((hA s2 b9 (Int32.toNatClampNeg (hI s2 3 3 a0)))) fun v12 => calT (f_PA_take N a0 14 s2) fun v13 s13 => k_PA_block_35 N p_PA_statement N a0 x1 v6 v12 0 s13
theorem c_PA_block {g : mv_G} {N : Nat} {p_PA_statement : Nat → Int32 → mh_H → Option (Bool × Int32 × mh_H)} (hl : (mg_l g).stackTraces = false) {F Lw : Nat} (h_PA_statement : pkV1 g M_PA_statement F Lw p_PA_statement) (hF : 40 ≤ F) (hLw : 1000 ≤ Lw) : pkV1 g M_PA_block (F + 1) (Lw + 60) (f_PA_block N p_PA_statement) := by
  intro a0 x1 σ r h
  refine mv_entry (L := [some (.ref a0), some (.int x1), none, none, none]) rfl rfl (Nat.le_of_ble_eq_true rfl) rfl ?_
  unfold f_PA_block at h
  refine vr_aload_n d_PA_block_0 rfl rfl ?_
  refine vr_iload_n d_PA_block_1 rfl rfl ?_
  have q1 := (l_chk h).1
  replace h := (l_chk h).2
  rcases l_calT h with ⟨v2, s2, ev2, h⟩ | ⟨v2, s2, ev2, hz⟩
  rotate_left
  · cases hz
    exact mh_threw (Qy := fun _ _ => True) 3 [.int x1] d_PA_block_2 C_PA_73 (c_PA_limit hl ev2) q1 rfl rfl rfl (Nat.le_of_ble_eq_true rfl) (by omega) (by show 8 + (2 + 11) + 120 ≤ Lw + 60; omega) rfl ⟨rfl, rfl⟩
  refine mh_callU 3 [.int x1] d_PA_block_2 C_PA_73 (c_PA_limit hl ev2) q1 rfl rfl rfl (Nat.le_of_ble_eq_true rfl) (by omega) (by show 8 + (2 + 11) + 120 ≤ Lw + 60; omega) ?_
  refine vr_aload_n d_PA_block_5 rfl rfl ?_
  have q3 := (l_chk h).1
  replace h := (l_chk h).2
  obtain ⟨b4, eb4, h⟩ := l_rf h
  refine vr_getR (b := b4) d_PA_block_6 F_PA_19 rfl q3 eb4 ?_
  have q5 := (l_chk h).1
  replace h := (l_chk h).2
  refine vr_getI d_PA_block_9 F_PA_42 rfl q5 ?_
  obtain ⟨v6, ev6, h⟩ := l_bnd h
  refine vr_nm ev6 ?_
  refine vr_istore_n (L' := [some (.ref a0), some (.int x1), some (.int v6), none, none]) d_PA_block_12 rfl (by decide) rfl ?_
  refine vr_aload_n d_PA_block_13 rfl rfl ?_
  obtain ⟨b7, eb7, h⟩ := l_rf h
  refine vr_getR (b := b7) d_PA_block_14 F_PA_15 rfl q3 eb7 ?_
  have q8 := (l_chk h).1
  replace h := (l_chk h).2
  obtain ⟨b9, eb9, h⟩ := l_rf h
  refine vr_getR (b := b9) d_PA_block_17 F_PA_45 rfl q8 eb9 ?_
  refine vr_aload_n d_PA_block_20 rfl rfl ?_
  refine vr_getI d_PA_block_21 F_PA_9 rfl q3 ?_
  have q10 := (l_chk h).1
  replace h := (l_chk h).2
  have q11 := (l_chk h).1
  replace h := (l_chk h).2
  refine vr_iald (t := 0) d_PA_block_24 rfl q10 (ib_in q11) ?_
  obtain ⟨v12, ev12, h⟩ := l_bnd h
  refine vr_nm ev12 ?_
  refine vr_istore_n (L' := [some (.ref a0), some (.int x1), some (.int v6), some (.int v12), none]) d_PA_block_25 rfl (by decide) rfl ?_
  refine vr_aload_n d_PA_block_26 rfl rfl ?_
  refine vr_bipush 14 d_PA_block_27 (by decide) ?_
  rcases l_calT h with ⟨v13, s13, ev13, h⟩ | ⟨v13, s13, ev13, hz⟩
  rotate_left
  · cases hz
    exact mh_threw (Qy := fun _ _ => True) 3 [.int 14] d_PA_block_29 C_PA_56 (c_PA_take hl ev13) q3 rfl rfl rfl (Nat.le_of_ble_eq_true rfl) (by omega) (by show 8 + (2 + 11) + 120 ≤ Lw + 60; omega) rfl ⟨rfl, rfl⟩
  refine mh_callU 3 [.int 14] d_PA_block_29 C_PA_56 (c_PA_take hl ev13) q3 rfl rfl rfl (Nat.le_of_ble_eq_true rfl) (by omega) (by show 8 + (2 + 11) + 120 ≤ Lw + 60; omega) ?_
  refine vr_iconst 0 d_PA_block_32 (by decide) ?_
  refine vr_istore (L' := [some (.ref a0), some (.int x1), some (.int v6), some (.int v12), some (.int 0)]) d_PA_block_33 (by decide) rfl ?_
  exact mv_drop (q_PA_block_35 hl h_PA_statement hF hLw N _ _ _ _ _ _ _ h) (And.intro rfl (And.intro rfl (And.intro rfl (And.intro rfl (And.intro rfl trivial)))))

def k_PA_statement_106 (N : Nat) (p_PA_variable : Nat → Int32 → mh_H → Option (Bool × Int32 × mh_H)) (p_PA_call : Nat → Int32 → mh_H → Option (Bool × Int32 × mh_H)) (p_PA_assignment : Nat → Int32 → mh_H → Option (Bool × Int32 × mh_H)) (p_PA_conditional : Nat → Int32 → mh_H → Option (Bool × Int32 × mh_H)) (p_PA_sum : Nat → Int32 → mh_H → Option (Bool × Int32 × mh_H)) (y0 : Nat) (y2 : Int32) (y3 : Int32) (z0 : Int32) (σ : mh_H) : Option (Bool × Int32 × mh_H) := chk (hT σ y0 = 7) <| calV (f_PA_finish N y0 z0 y3 y2 σ) fun s60 => some (false, 0, s60)
theorem q_PA_statement_106 {g : mv_G} {N : Nat} {p_PA_variable : Nat → Int32 → mh_H → Option (Bool × Int32 × mh_H)} {p_PA_call : Nat → Int32 → mh_H → Option (Bool × Int32 × mh_H)} {p_PA_assignment : Nat → Int32 → mh_H → Option (Bool × Int32 × mh_H)} {p_PA_conditional : Nat → Int32 → mh_H → Option (Bool × Int32 × mh_H)} {p_PA_sum : Nat → Int32 → mh_H → Option (Bool × Int32 × mh_H)} (hl : (mg_l g).stackTraces = false) {F Lw : Nat} (h_PA_variable : pkI1 g M_PA_variable F Lw p_PA_variable) (h_PA_call : pkI1 g M_PA_call F Lw p_PA_call) (h_PA_assignment : pkI1 g M_PA_assignment F Lw p_PA_assignment) (h_PA_conditional : pkI1 g M_PA_conditional F Lw p_PA_conditional) (h_PA_sum : pkV1 g M_PA_sum F Lw p_PA_sum) (hF : 40 ≤ F) (hLw : 1000 ≤ Lw) (y0 : Nat) (y2 : Int32) (y3 : Int32) (z0 : Int32) (σ : mh_H) (r : Bool × Int32 × mh_H) (h : k_PA_statement_106 N p_PA_variable p_PA_call p_PA_assignment p_PA_conditional p_PA_sum y0 y2 y3 z0 σ = some r) : mv_V g M_PA_statement (F + 1) (Lw + 60) 0 0 106 [some (.ref y0), none, some (.int y2), some (.int y3), none] [.int z0] σ (pcV r) := by
  unfold k_PA_statement_106 at h
  refine vr_istore (L' := [some (.ref y0), none, some (.int y2), some (.int y3), some (.int z0)]) d_PA_statement_106 (by decide) rfl ?_
  refine vr_goto (tgt := 144) d_PA_statement_108 (by decide) ?_
  refine vr_aload_n d_PA_statement_144 rfl rfl ?_
  refine vr_iload d_PA_statement_145 rfl ?_
  refine vr_iload_n d_PA_statement_147 rfl rfl ?_
  refine vr_iload_n d_PA_statement_148 rfl rfl ?_
  have q59 := (l_chk h).1
  replace h := (l_chk h).2
  obtain ⟨s60, es60, h⟩ := l_calV h
  refine mh_callU 3 [.int z0, .int y3, .int y2] d_PA_statement_149 C_PA_69 (c_PA_finish es60) q59 rfl rfl rfl (Nat.le_of_ble_eq_true rfl) (by omega) (by show 8 + (4 + 11) + 24 ≤ Lw + 60; omega) ?_
  cases h
  exact vr_vret d_PA_statement_152 rfl ⟨rfl, rfl⟩

def f_PA_statement (N : Nat) (p_PA_variable : Nat → Int32 → mh_H → Option (Bool × Int32 × mh_H)) (p_PA_call : Nat → Int32 → mh_H → Option (Bool × Int32 × mh_H)) (p_PA_assignment : Nat → Int32 → mh_H → Option (Bool × Int32 × mh_H)) (p_PA_conditional : Nat → Int32 → mh_H → Option (Bool × Int32 × mh_H)) (p_PA_sum : Nat → Int32 → mh_H → Option (Bool × Int32 × mh_H)) (a0 : Nat) (x1 : Int32) (σ : mh_H) : Option (Bool × Int32 × mh_H) := chk (hT σ a0 = 7) <| rfO (hR σ 3 1 a0) fun b2 => chk (hT σ b2 = 3) <| bnd ((hI σ 1 4 b2)) fun v4 => rfO (hR σ 3 0 a0) fun b5 => chk (hT σ b5 = 9) <| rfO (hR σ 4 3 b5) fun b7 => chk (hT σ b7 = 2) <| chk (ib (hI σ 3 3 a0) (hN σ b7)) <| bnd ((hA σ b7 (Int32.toNatClampNeg (hI σ 3 3 a0)))) fun v10 => rfO (hR σ 3 2 a0) fun b11 => chk (hT σ b11 = 2) <| chk (ib (hI σ 3 3 a0) (hN σ b11)) <| if (hA σ b11 (Int32.toNatClampNeg (hI σ 3 3 a0))) = 2 then (calI (f_PA_isCall N a0 σ) fun v14 s14 => if v14 = 0 then (chk (hT s14 a0 = 7) <| calT (p_PA_assignment a0 x1 s14) fun v16 s16 => k_PA_statement_106 N p_PA_variable p_PA_call p_PA_assignment p_PA_conditional p_PA_sum a0 v4 v10 v16 s16) else (chk (hT s14 a0 = 7) <| calT (p_PA_call a0 x1 s14) fun v18 s18 => k_PA_statement_106 N p_PA_variable p_PA_call p_PA_assignment p_PA_conditional p_PA_sum a0 v4 v10 v18 s18)) else if (hA σ b11 (Int32.toNatClampNeg (hI σ 3 3 a0))) = 3 then (calT (f_PA_take N a0 10 σ) fun v19 s19 => chk (hT s19 a0 = 7) <| calT (p_PA_sum a0 ((x1 + 1)) s19) fun v21 s21 => chk (hT s21 a0 = 7) <| calT (f_PA_take N a0 19 s21) fun v23 s23 => chk (hT s23 a0 = 7) <| calV (f_PA_finish N a0 11 v10 v4 s23) fun s25 => some (false, 0, s25)) else if (hA σ b11 (Int32.toNatClampNeg (hI σ 3 3 a0))) = 4 then (calT (f_PA_take N a0 10 σ) fun v26 s26 => chk (hT s26 a0 = 7) <| calT (p_PA_sum a0 ((x1 + 1)) s26) fun v28 s28 => chk (hT s28 a0 = 7) <| calT (f_PA_take N a0 19 s28) fun v30 s30 => chk (hT s30 a0 = 7) <| calV (f_PA_finish N a0 11 v10 v4 s30) fun s32 => some (false, 0, s32)) else if (hA σ b11 (Int32.toNatClampNeg (hI σ 3 3 a0))) = 5 then (calT (p_PA_variable a0 x1 σ) fun v33 s33 => chk (hT s33 a0 = 7) <| calV (f_PA_finish N a0 v33 v10 v4 s33) fun s35 => some (false, 0, s35)) else if (hA σ b11 (Int32.toNatClampNeg (hI σ 3 3 a0))) = 6 then (calT (p_PA_conditional a0 x1 σ) fun v36 s36 => chk (hT s36 a0 = 7) <| calV (f_PA_finish N a0 v36 v10 v4 s36) fun s38 => some (false, 0, s38)) else if (hA σ b11 (Int32.toNatClampNeg (hI σ 3 3 a0))) = 7 then (calT (f_PA_take N a0 10 σ) fun v39 s39 => chk (hT s39 a0 = 7) <| calT (p_PA_sum a0 ((x1 + 1)) s39) fun v41 s41 => chk (hT s41 a0 = 7) <| calT (f_PA_take N a0 19 s41) fun v43 s43 => chk (hT s43 a0 = 7) <| calV (f_PA_finish N a0 11 v10 v4 s43) fun s45 => some (false, 0, s45)) else if (hA σ b11 (Int32.toNatClampNeg (hI σ 3 3 a0))) = 8 then (calT (p_PA_conditional a0 x1 σ) fun v46 s46 => chk (hT s46 a0 = 7) <| calV (f_PA_finish N a0 v46 v10 v4 s46) fun s48 => some (false, 0, s48)) else if (hA σ b11 (Int32.toNatClampNeg (hI σ 3 3 a0))) = 9 then (calT (p_PA_conditional a0 x1 σ) fun v49 s49 => chk (hT s49 a0 = 7) <| calV (f_PA_finish N a0 v49 v10 v4 s49) fun s51 => some (false, 0, s51)) else (calT (f_PA_take N a0 10 σ) fun v52 s52 => chk (hT s52 a0 = 7) <| calT (p_PA_sum a0 ((x1 + 1)) s52) fun v54 s54 => chk (hT s54 a0 = 7) <| calT (f_PA_take N a0 19 s54) fun v56 s56 => chk (hT s56 a0 = 7) <| calV (f_PA_finish N a0 11 v10 v4 s56) fun s58 => some (false, 0, s58))
theorem c_PA_statement {g : mv_G} {N : Nat} {p_PA_variable : Nat → Int32 → mh_H → Option (Bool × Int32 × mh_H)} {p_PA_call : Nat → Int32 → mh_H → Option (Bool × Int32 × mh_H)} {p_PA_assignment : Nat → Int32 → mh_H → Option (Bool × Int32 × mh_H)} {p_PA_conditional : Nat → Int32 → mh_H → Option (Bool × Int32 × mh_H)} {p_PA_sum : Nat → Int32 → mh_H → Option (Bool × Int32 × mh_H)} (hl : (mg_l g).stackTraces = false) {F Lw : Nat} (h_PA_variable : pkI1 g M_PA_variable F Lw p_PA_variable) (h_PA_call : pkI1 g M_PA_call F Lw p_PA_call) (h_PA_assignment : pkI1 g M_PA_assignment F Lw p_PA_assignment) (h_PA_conditional : pkI1 g M_PA_conditional F Lw p_PA_conditional) (h_PA_sum : pkV1 g M_PA_sum F Lw p_PA_sum) (hF : 40 ≤ F) (hLw : 1000 ≤ Lw) : pkV1 g M_PA_statement (F + 1) (Lw + 60) (f_PA_statement N p_PA_variable p_PA_call p_PA_assignment p_PA_conditional p_PA_sum) := by
  intro a0 x1 σ r h
  refine mv_entry (L := [some (.ref a0), some (.int x1), none, none, none]) rfl rfl (Nat.le_of_ble_eq_true rfl) rfl ?_
  unfold f_PA_statement at h
  refine vr_aload_n d_PA_statement_0 rfl rfl ?_
  have q1 := (l_chk h).1
  replace h := (l_chk h).2
  obtain ⟨b2, eb2, h⟩ := l_rf h
  refine vr_getR (b := b2) d_PA_statement_1 F_PA_19 rfl q1 eb2 ?_
  have q3 := (l_chk h).1
  replace h := (l_chk h).2
  refine vr_getI d_PA_statement_4 F_PA_42 rfl q3 ?_
  obtain ⟨v4, ev4, h⟩ := l_bnd h
  refine vr_nm ev4 ?_
  refine vr_istore_n (L' := [some (.ref a0), some (.int x1), some (.int v4), none, none]) d_PA_statement_7 rfl (by decide) rfl ?_
  refine vr_aload_n d_PA_statement_8 rfl rfl ?_
  obtain ⟨b5, eb5, h⟩ := l_rf h
  refine vr_getR (b := b5) d_PA_statement_9 F_PA_15 rfl q1 eb5 ?_
  have q6 := (l_chk h).1
  replace h := (l_chk h).2
  obtain ⟨b7, eb7, h⟩ := l_rf h
  refine vr_getR (b := b7) d_PA_statement_12 F_PA_45 rfl q6 eb7 ?_
  refine vr_aload_n d_PA_statement_15 rfl rfl ?_
  refine vr_getI d_PA_statement_16 F_PA_9 rfl q1 ?_
  have q8 := (l_chk h).1
  replace h := (l_chk h).2
  have q9 := (l_chk h).1
  replace h := (l_chk h).2
  refine vr_iald (t := 0) d_PA_statement_19 rfl q8 (ib_in q9) ?_
  obtain ⟨v10, ev10, h⟩ := l_bnd h
  refine vr_nm ev10 ?_
  refine vr_istore_n (L' := [some (.ref a0), some (.int x1), some (.int v4), some (.int v10), none]) d_PA_statement_20 rfl (by decide) rfl ?_
  refine vr_aload_n d_PA_statement_21 rfl rfl ?_
  obtain ⟨b11, eb11, h⟩ := l_rf h
  refine vr_getR (b := b11) d_PA_statement_22 F_PA_29 rfl q1 eb11 ?_
  refine vr_aload_n d_PA_statement_25 rfl rfl ?_
  refine vr_getI d_PA_statement_26 F_PA_9 rfl q1 ?_
  have q12 := (l_chk h).1
  replace h := (l_chk h).2
  have q13 := (l_chk h).1
  replace h := (l_chk h).2
  refine vr_iald (t := 0) d_PA_statement_29 rfl q12 (ib_in q13) ?_
  by_cases c30_2 : (hA σ b11 (Int32.toNatClampNeg (hI σ 3 3 a0))) = 2
  · replace h := l_ifp c30_2 h
    refine vr_tableIn (tgt := 86) (off := 56) d_PA_statement_30 (by rw [c30_2]; decide) (by rw [c30_2]; decide) (by rw [c30_2]; rfl) (by decide) ?_
    refine vr_aload_n d_PA_statement_86 rfl rfl ?_
    obtain ⟨v14, s14, ev14, h⟩ := l_calI h
    refine mh_callI 3 [] d_PA_statement_87 C_PA_83 (c_PA_isCall ev14) q1 rfl rfl rfl (Nat.le_of_ble_eq_true rfl) (by omega) (by show 8 + (2 + 11) + 21 ≤ Lw + 60; omega) ?_
    refine vr_if_eq (tgt := 101) d_PA_statement_90 (by decide) (fun c90 => ?_) (fun c90 => ?_)
    · replace h := l_ifp c90 h
      refine vr_aload_n d_PA_statement_101 rfl rfl ?_
      refine vr_iload_n d_PA_statement_102 rfl rfl ?_
      have q15 := (l_chk h).1
      replace h := (l_chk h).2
      rcases l_calT h with ⟨v16, s16, ev16, h⟩ | ⟨v16, s16, ev16, hz⟩
      rotate_left
      · cases hz
        exact mh_threw (Qy := fun _ _ => True) 3 [.int x1] d_PA_statement_103 C_PA_90 (h_PA_assignment _ _ _ _ ev16) q15 rfl rfl rfl (Nat.le_of_ble_eq_true rfl) (by omega) (by show 8 + (3 + 11) + Lw ≤ Lw + 60; omega) rfl ⟨rfl, rfl⟩
      refine mh_callI 3 [.int x1] d_PA_statement_103 C_PA_90 (h_PA_assignment _ _ _ _ ev16) q15 rfl rfl rfl (Nat.le_of_ble_eq_true rfl) (by omega) (by show 8 + (3 + 11) + Lw ≤ Lw + 60; omega) ?_
      exact mv_drop (q_PA_statement_106 hl h_PA_variable h_PA_call h_PA_assignment h_PA_conditional h_PA_sum hF hLw _ _ _ _ _ _ h) (And.intro rfl (And.intro rfl (And.intro rfl trivial)))
    · replace h := l_ifn c90 h
      refine vr_aload_n d_PA_statement_93 rfl rfl ?_
      refine vr_iload_n d_PA_statement_94 rfl rfl ?_
      have q17 := (l_chk h).1
      replace h := (l_chk h).2
      rcases l_calT h with ⟨v18, s18, ev18, h⟩ | ⟨v18, s18, ev18, hz⟩
      rotate_left
      · cases hz
        exact mh_threw (Qy := fun _ _ => True) 3 [.int x1] d_PA_statement_95 C_PA_87 (h_PA_call _ _ _ _ ev18) q17 rfl rfl rfl (Nat.le_of_ble_eq_true rfl) (by omega) (by show 8 + (3 + 11) + Lw ≤ Lw + 60; omega) rfl ⟨rfl, rfl⟩
      refine mh_callI 3 [.int x1] d_PA_statement_95 C_PA_87 (h_PA_call _ _ _ _ ev18) q17 rfl rfl rfl (Nat.le_of_ble_eq_true rfl) (by omega) (by show 8 + (3 + 11) + Lw ≤ Lw + 60; omega) ?_
      refine vr_goto (tgt := 106) d_PA_statement_98 (by decide) ?_
      exact mv_drop (q_PA_statement_106 hl h_PA_variable h_PA_call h_PA_assignment h_PA_conditional h_PA_sum hF hLw _ _ _ _ _ _ h) (And.intro rfl (And.intro rfl (And.intro rfl trivial)))
  replace h := l_ifn c30_2 h
  by_cases c30_3 : (hA σ b11 (Int32.toNatClampNeg (hI σ 3 3 a0))) = 3
  · replace h := l_ifp c30_3 h
    refine vr_tableIn (tgt := 121) (off := 91) d_PA_statement_30 (by rw [c30_3]; decide) (by rw [c30_3]; decide) (by rw [c30_3]; rfl) (by decide) ?_
    refine vr_aload_n d_PA_statement_121 rfl rfl ?_
    refine vr_bipush 10 d_PA_statement_122 (by decide) ?_
    rcases l_calT h with ⟨v19, s19, ev19, h⟩ | ⟨v19, s19, ev19, hz⟩
    rotate_left
    · cases hz
      exact mh_threw (Qy := fun _ _ => True) 3 [.int 10] d_PA_statement_124 C_PA_56 (c_PA_take hl ev19) q1 rfl rfl rfl (Nat.le_of_ble_eq_true rfl) (by omega) (by show 8 + (2 + 11) + 120 ≤ Lw + 60; omega) rfl ⟨rfl, rfl⟩
    refine mh_callU 3 [.int 10] d_PA_statement_124 C_PA_56 (c_PA_take hl ev19) q1 rfl rfl rfl (Nat.le_of_ble_eq_true rfl) (by omega) (by show 8 + (2 + 11) + 120 ≤ Lw + 60; omega) ?_
    refine vr_aload_n d_PA_statement_127 rfl rfl ?_
    refine vr_iload_n d_PA_statement_128 rfl rfl ?_
    refine vr_iconst 1 d_PA_statement_129 (by decide) ?_
    refine vr_iadd d_PA_statement_130 ?_
    have q20 := (l_chk h).1
    replace h := (l_chk h).2
    rcases l_calT h with ⟨v21, s21, ev21, h⟩ | ⟨v21, s21, ev21, hz⟩
    rotate_left
    · cases hz
      exact mh_threw (Qy := fun _ _ => True) 3 [.int (x1 + 1)] d_PA_statement_131 C_PA_96 (h_PA_sum _ _ _ _ ev21) q20 rfl rfl rfl (Nat.le_of_ble_eq_true rfl) (by omega) (by show 8 + (8 + 11) + Lw ≤ Lw + 60; omega) rfl ⟨rfl, rfl⟩
    refine mh_callU 3 [.int (x1 + 1)] d_PA_statement_131 C_PA_96 (h_PA_sum _ _ _ _ ev21) q20 rfl rfl rfl (Nat.le_of_ble_eq_true rfl) (by omega) (by show 8 + (8 + 11) + Lw ≤ Lw + 60; omega) ?_
    refine vr_aload_n d_PA_statement_134 rfl rfl ?_
    refine vr_bipush 19 d_PA_statement_135 (by decide) ?_
    have q22 := (l_chk h).1
    replace h := (l_chk h).2
    rcases l_calT h with ⟨v23, s23, ev23, h⟩ | ⟨v23, s23, ev23, hz⟩
    rotate_left
    · cases hz
      exact mh_threw (Qy := fun _ _ => True) 3 [.int 19] d_PA_statement_137 C_PA_56 (c_PA_take hl ev23) q22 rfl rfl rfl (Nat.le_of_ble_eq_true rfl) (by omega) (by show 8 + (2 + 11) + 120 ≤ Lw + 60; omega) rfl ⟨rfl, rfl⟩
    refine mh_callU 3 [.int 19] d_PA_statement_137 C_PA_56 (c_PA_take hl ev23) q22 rfl rfl rfl (Nat.le_of_ble_eq_true rfl) (by omega) (by show 8 + (2 + 11) + 120 ≤ Lw + 60; omega) ?_
    refine vr_bipush 11 d_PA_statement_140 (by decide) ?_
    refine vr_istore (L' := [some (.ref a0), some (.int x1), some (.int v4), some (.int v10), some (.int 11)]) d_PA_statement_142 (by decide) rfl ?_
    refine vr_aload_n d_PA_statement_144 rfl rfl ?_
    refine vr_iload d_PA_statement_145 rfl ?_
    refine vr_iload_n d_PA_statement_147 rfl rfl ?_
    refine vr_iload_n d_PA_statement_148 rfl rfl ?_
    have q24 := (l_chk h).1
    replace h := (l_chk h).2
    obtain ⟨s25, es25, h⟩ := l_calV h
    refine mh_callU 3 [.int 11, .int v10, .int v4] d_PA_statement_149 C_PA_69 (c_PA_finish es25) q24 rfl rfl rfl (Nat.le_of_ble_eq_true rfl) (by omega) (by show 8 + (4 + 11) + 24 ≤ Lw + 60; omega) ?_
    cases h
    exact vr_vret d_PA_statement_152 rfl ⟨rfl, rfl⟩
  replace h := l_ifn c30_3 h
  by_cases c30_4 : (hA σ b11 (Int32.toNatClampNeg (hI σ 3 3 a0))) = 4
  · replace h := l_ifp c30_4 h
    refine vr_tableIn (tgt := 121) (off := 91) d_PA_statement_30 (by rw [c30_4]; decide) (by rw [c30_4]; decide) (by rw [c30_4]; rfl) (by decide) ?_
    refine vr_aload_n d_PA_statement_121 rfl rfl ?_
    refine vr_bipush 10 d_PA_statement_122 (by decide) ?_
    rcases l_calT h with ⟨v26, s26, ev26, h⟩ | ⟨v26, s26, ev26, hz⟩
    rotate_left
    · cases hz
      exact mh_threw (Qy := fun _ _ => True) 3 [.int 10] d_PA_statement_124 C_PA_56 (c_PA_take hl ev26) q1 rfl rfl rfl (Nat.le_of_ble_eq_true rfl) (by omega) (by show 8 + (2 + 11) + 120 ≤ Lw + 60; omega) rfl ⟨rfl, rfl⟩
    refine mh_callU 3 [.int 10] d_PA_statement_124 C_PA_56 (c_PA_take hl ev26) q1 rfl rfl rfl (Nat.le_of_ble_eq_true rfl) (by omega) (by show 8 + (2 + 11) + 120 ≤ Lw + 60; omega) ?_
    refine vr_aload_n d_PA_statement_127 rfl rfl ?_
    refine vr_iload_n d_PA_statement_128 rfl rfl ?_
    refine vr_iconst 1 d_PA_statement_129 (by decide) ?_
    refine vr_iadd d_PA_statement_130 ?_
    have q27 := (l_chk h).1
    replace h := (l_chk h).2
    rcases l_calT h with ⟨v28, s28, ev28, h⟩ | ⟨v28, s28, ev28, hz⟩
    rotate_left
    · cases hz
      exact mh_threw (Qy := fun _ _ => True) 3 [.int (x1 + 1)] d_PA_statement_131 C_PA_96 (h_PA_sum _ _ _ _ ev28) q27 rfl rfl rfl (Nat.le_of_ble_eq_true rfl) (by omega) (by show 8 + (8 + 11) + Lw ≤ Lw + 60; omega) rfl ⟨rfl, rfl⟩
    refine mh_callU 3 [.int (x1 + 1)] d_PA_statement_131 C_PA_96 (h_PA_sum _ _ _ _ ev28) q27 rfl rfl rfl (Nat.le_of_ble_eq_true rfl) (by omega) (by show 8 + (8 + 11) + Lw ≤ Lw + 60; omega) ?_
    refine vr_aload_n d_PA_statement_134 rfl rfl ?_
    refine vr_bipush 19 d_PA_statement_135 (by decide) ?_
    have q29 := (l_chk h).1
    replace h := (l_chk h).2
    rcases l_calT h with ⟨v30, s30, ev30, h⟩ | ⟨v30, s30, ev30, hz⟩
    rotate_left
    · cases hz
      exact mh_threw (Qy := fun _ _ => True) 3 [.int 19] d_PA_statement_137 C_PA_56 (c_PA_take hl ev30) q29 rfl rfl rfl (Nat.le_of_ble_eq_true rfl) (by omega) (by show 8 + (2 + 11) + 120 ≤ Lw + 60; omega) rfl ⟨rfl, rfl⟩
    refine mh_callU 3 [.int 19] d_PA_statement_137 C_PA_56 (c_PA_take hl ev30) q29 rfl rfl rfl (Nat.le_of_ble_eq_true rfl) (by omega) (by show 8 + (2 + 11) + 120 ≤ Lw + 60; omega) ?_
    refine vr_bipush 11 d_PA_statement_140 (by decide) ?_
    refine vr_istore (L' := [some (.ref a0), some (.int x1), some (.int v4), some (.int v10), some (.int 11)]) d_PA_statement_142 (by decide) rfl ?_
    refine vr_aload_n d_PA_statement_144 rfl rfl ?_
    refine vr_iload d_PA_statement_145 rfl ?_
    refine vr_iload_n d_PA_statement_147 rfl rfl ?_
    refine vr_iload_n d_PA_statement_148 rfl rfl ?_
    have q31 := (l_chk h).1
    replace h := (l_chk h).2
    obtain ⟨s32, es32, h⟩ := l_calV h
    refine mh_callU 3 [.int 11, .int v10, .int v4] d_PA_statement_149 C_PA_69 (c_PA_finish es32) q31 rfl rfl rfl (Nat.le_of_ble_eq_true rfl) (by omega) (by show 8 + (4 + 11) + 24 ≤ Lw + 60; omega) ?_
    cases h
    exact vr_vret d_PA_statement_152 rfl ⟨rfl, rfl⟩
  replace h := l_ifn c30_4 h
  by_cases c30_5 : (hA σ b11 (Int32.toNatClampNeg (hI σ 3 3 a0))) = 5
  · replace h := l_ifp c30_5 h
    refine vr_tableIn (tgt := 76) (off := 46) d_PA_statement_30 (by rw [c30_5]; decide) (by rw [c30_5]; decide) (by rw [c30_5]; rfl) (by decide) ?_
    refine vr_aload_n d_PA_statement_76 rfl rfl ?_
    refine vr_iload_n d_PA_statement_77 rfl rfl ?_
    rcases l_calT h with ⟨v33, s33, ev33, h⟩ | ⟨v33, s33, ev33, hz⟩
    rotate_left
    · cases hz
      exact mh_threw (Qy := fun _ _ => True) 3 [.int x1] d_PA_statement_78 C_PA_79 (h_PA_variable _ _ _ _ ev33) q1 rfl rfl rfl (Nat.le_of_ble_eq_true rfl) (by omega) (by show 8 + (3 + 11) + Lw ≤ Lw + 60; omega) rfl ⟨rfl, rfl⟩
    refine mh_callI 3 [.int x1] d_PA_statement_78 C_PA_79 (h_PA_variable _ _ _ _ ev33) q1 rfl rfl rfl (Nat.le_of_ble_eq_true rfl) (by omega) (by show 8 + (3 + 11) + Lw ≤ Lw + 60; omega) ?_
    refine vr_istore (L' := [some (.ref a0), some (.int x1), some (.int v4), some (.int v10), some (.int v33)]) d_PA_statement_81 (by decide) rfl ?_
    refine vr_goto (tgt := 144) d_PA_statement_83 (by decide) ?_
    refine vr_aload_n d_PA_statement_144 rfl rfl ?_
    refine vr_iload d_PA_statement_145 rfl ?_
    refine vr_iload_n d_PA_statement_147 rfl rfl ?_
    refine vr_iload_n d_PA_statement_148 rfl rfl ?_
    have q34 := (l_chk h).1
    replace h := (l_chk h).2
    obtain ⟨s35, es35, h⟩ := l_calV h
    refine mh_callU 3 [.int v33, .int v10, .int v4] d_PA_statement_149 C_PA_69 (c_PA_finish es35) q34 rfl rfl rfl (Nat.le_of_ble_eq_true rfl) (by omega) (by show 8 + (4 + 11) + 24 ≤ Lw + 60; omega) ?_
    cases h
    exact vr_vret d_PA_statement_152 rfl ⟨rfl, rfl⟩
  replace h := l_ifn c30_5 h
  by_cases c30_6 : (hA σ b11 (Int32.toNatClampNeg (hI σ 3 3 a0))) = 6
  · replace h := l_ifp c30_6 h
    refine vr_tableIn (tgt := 111) (off := 81) d_PA_statement_30 (by rw [c30_6]; decide) (by rw [c30_6]; decide) (by rw [c30_6]; rfl) (by decide) ?_
    refine vr_aload_n d_PA_statement_111 rfl rfl ?_
    refine vr_iload_n d_PA_statement_112 rfl rfl ?_
    rcases l_calT h with ⟨v36, s36, ev36, h⟩ | ⟨v36, s36, ev36, hz⟩
    rotate_left
    · cases hz
      exact mh_threw (Qy := fun _ _ => True) 3 [.int x1] d_PA_statement_113 C_PA_93 (h_PA_conditional _ _ _ _ ev36) q1 rfl rfl rfl (Nat.le_of_ble_eq_true rfl) (by omega) (by show 8 + (3 + 11) + Lw ≤ Lw + 60; omega) rfl ⟨rfl, rfl⟩
    refine mh_callI 3 [.int x1] d_PA_statement_113 C_PA_93 (h_PA_conditional _ _ _ _ ev36) q1 rfl rfl rfl (Nat.le_of_ble_eq_true rfl) (by omega) (by show 8 + (3 + 11) + Lw ≤ Lw + 60; omega) ?_
    refine vr_istore (L' := [some (.ref a0), some (.int x1), some (.int v4), some (.int v10), some (.int v36)]) d_PA_statement_116 (by decide) rfl ?_
    refine vr_goto (tgt := 144) d_PA_statement_118 (by decide) ?_
    refine vr_aload_n d_PA_statement_144 rfl rfl ?_
    refine vr_iload d_PA_statement_145 rfl ?_
    refine vr_iload_n d_PA_statement_147 rfl rfl ?_
    refine vr_iload_n d_PA_statement_148 rfl rfl ?_
    have q37 := (l_chk h).1
    replace h := (l_chk h).2
    obtain ⟨s38, es38, h⟩ := l_calV h
    refine mh_callU 3 [.int v36, .int v10, .int v4] d_PA_statement_149 C_PA_69 (c_PA_finish es38) q37 rfl rfl rfl (Nat.le_of_ble_eq_true rfl) (by omega) (by show 8 + (4 + 11) + 24 ≤ Lw + 60; omega) ?_
    cases h
    exact vr_vret d_PA_statement_152 rfl ⟨rfl, rfl⟩
  replace h := l_ifn c30_6 h
  by_cases c30_7 : (hA σ b11 (Int32.toNatClampNeg (hI σ 3 3 a0))) = 7
  · replace h := l_ifp c30_7 h
    refine vr_tableIn (tgt := 121) (off := 91) d_PA_statement_30 (by rw [c30_7]; decide) (by rw [c30_7]; decide) (by rw [c30_7]; rfl) (by decide) ?_
    refine vr_aload_n d_PA_statement_121 rfl rfl ?_
    refine vr_bipush 10 d_PA_statement_122 (by decide) ?_
    rcases l_calT h with ⟨v39, s39, ev39, h⟩ | ⟨v39, s39, ev39, hz⟩
    rotate_left
    · cases hz
      exact mh_threw (Qy := fun _ _ => True) 3 [.int 10] d_PA_statement_124 C_PA_56 (c_PA_take hl ev39) q1 rfl rfl rfl (Nat.le_of_ble_eq_true rfl) (by omega) (by show 8 + (2 + 11) + 120 ≤ Lw + 60; omega) rfl ⟨rfl, rfl⟩
    refine mh_callU 3 [.int 10] d_PA_statement_124 C_PA_56 (c_PA_take hl ev39) q1 rfl rfl rfl (Nat.le_of_ble_eq_true rfl) (by omega) (by show 8 + (2 + 11) + 120 ≤ Lw + 60; omega) ?_
    refine vr_aload_n d_PA_statement_127 rfl rfl ?_
    refine vr_iload_n d_PA_statement_128 rfl rfl ?_
    refine vr_iconst 1 d_PA_statement_129 (by decide) ?_
    refine vr_iadd d_PA_statement_130 ?_
    have q40 := (l_chk h).1
    replace h := (l_chk h).2
    rcases l_calT h with ⟨v41, s41, ev41, h⟩ | ⟨v41, s41, ev41, hz⟩
    rotate_left
    · cases hz
      exact mh_threw (Qy := fun _ _ => True) 3 [.int (x1 + 1)] d_PA_statement_131 C_PA_96 (h_PA_sum _ _ _ _ ev41) q40 rfl rfl rfl (Nat.le_of_ble_eq_true rfl) (by omega) (by show 8 + (8 + 11) + Lw ≤ Lw + 60; omega) rfl ⟨rfl, rfl⟩
    refine mh_callU 3 [.int (x1 + 1)] d_PA_statement_131 C_PA_96 (h_PA_sum _ _ _ _ ev41) q40 rfl rfl rfl (Nat.le_of_ble_eq_true rfl) (by omega) (by show 8 + (8 + 11) + Lw ≤ Lw + 60; omega) ?_
    refine vr_aload_n d_PA_statement_134 rfl rfl ?_
    refine vr_bipush 19 d_PA_statement_135 (by decide) ?_
    have q42 := (l_chk h).1
    replace h := (l_chk h).2
    rcases l_calT h with ⟨v43, s43, ev43, h⟩ | ⟨v43, s43, ev43, hz⟩
    rotate_left
    · cases hz
      exact mh_threw (Qy := fun _ _ => True) 3 [.int 19] d_PA_statement_137 C_PA_56 (c_PA_take hl ev43) q42 rfl rfl rfl (Nat.le_of_ble_eq_true rfl) (by omega) (by show 8 + (2 + 11) + 120 ≤ Lw + 60; omega) rfl ⟨rfl, rfl⟩
    refine mh_callU 3 [.int 19] d_PA_statement_137 C_PA_56 (c_PA_take hl ev43) q42 rfl rfl rfl (Nat.le_of_ble_eq_true rfl) (by omega) (by show 8 + (2 + 11) + 120 ≤ Lw + 60; omega) ?_
    refine vr_bipush 11 d_PA_statement_140 (by decide) ?_
    refine vr_istore (L' := [some (.ref a0), some (.int x1), some (.int v4), some (.int v10), some (.int 11)]) d_PA_statement_142 (by decide) rfl ?_
    refine vr_aload_n d_PA_statement_144 rfl rfl ?_
    refine vr_iload d_PA_statement_145 rfl ?_
    refine vr_iload_n d_PA_statement_147 rfl rfl ?_
    refine vr_iload_n d_PA_statement_148 rfl rfl ?_
    have q44 := (l_chk h).1
    replace h := (l_chk h).2
    obtain ⟨s45, es45, h⟩ := l_calV h
    refine mh_callU 3 [.int 11, .int v10, .int v4] d_PA_statement_149 C_PA_69 (c_PA_finish es45) q44 rfl rfl rfl (Nat.le_of_ble_eq_true rfl) (by omega) (by show 8 + (4 + 11) + 24 ≤ Lw + 60; omega) ?_
    cases h
    exact vr_vret d_PA_statement_152 rfl ⟨rfl, rfl⟩
  replace h := l_ifn c30_7 h
  by_cases c30_8 : (hA σ b11 (Int32.toNatClampNeg (hI σ 3 3 a0))) = 8
  · replace h := l_ifp c30_8 h
    refine vr_tableIn (tgt := 111) (off := 81) d_PA_statement_30 (by rw [c30_8]; decide) (by rw [c30_8]; decide) (by rw [c30_8]; rfl) (by decide) ?_
    refine vr_aload_n d_PA_statement_111 rfl rfl ?_
    refine vr_iload_n d_PA_statement_112 rfl rfl ?_
    rcases l_calT h with ⟨v46, s46, ev46, h⟩ | ⟨v46, s46, ev46, hz⟩
    rotate_left
    · cases hz
      exact mh_threw (Qy := fun _ _ => True) 3 [.int x1] d_PA_statement_113 C_PA_93 (h_PA_conditional _ _ _ _ ev46) q1 rfl rfl rfl (Nat.le_of_ble_eq_true rfl) (by omega) (by show 8 + (3 + 11) + Lw ≤ Lw + 60; omega) rfl ⟨rfl, rfl⟩
    refine mh_callI 3 [.int x1] d_PA_statement_113 C_PA_93 (h_PA_conditional _ _ _ _ ev46) q1 rfl rfl rfl (Nat.le_of_ble_eq_true rfl) (by omega) (by show 8 + (3 + 11) + Lw ≤ Lw + 60; omega) ?_
    refine vr_istore (L' := [some (.ref a0), some (.int x1), some (.int v4), some (.int v10), some (.int v46)]) d_PA_statement_116 (by decide) rfl ?_
    refine vr_goto (tgt := 144) d_PA_statement_118 (by decide) ?_
    refine vr_aload_n d_PA_statement_144 rfl rfl ?_
    refine vr_iload d_PA_statement_145 rfl ?_
    refine vr_iload_n d_PA_statement_147 rfl rfl ?_
    refine vr_iload_n d_PA_statement_148 rfl rfl ?_
    have q47 := (l_chk h).1
    replace h := (l_chk h).2
    obtain ⟨s48, es48, h⟩ := l_calV h
    refine mh_callU 3 [.int v46, .int v10, .int v4] d_PA_statement_149 C_PA_69 (c_PA_finish es48) q47 rfl rfl rfl (Nat.le_of_ble_eq_true rfl) (by omega) (by show 8 + (4 + 11) + 24 ≤ Lw + 60; omega) ?_
    cases h
    exact vr_vret d_PA_statement_152 rfl ⟨rfl, rfl⟩
  replace h := l_ifn c30_8 h
  by_cases c30_9 : (hA σ b11 (Int32.toNatClampNeg (hI σ 3 3 a0))) = 9
  · replace h := l_ifp c30_9 h
    refine vr_tableIn (tgt := 111) (off := 81) d_PA_statement_30 (by rw [c30_9]; decide) (by rw [c30_9]; decide) (by rw [c30_9]; rfl) (by decide) ?_
    refine vr_aload_n d_PA_statement_111 rfl rfl ?_
    refine vr_iload_n d_PA_statement_112 rfl rfl ?_
    rcases l_calT h with ⟨v49, s49, ev49, h⟩ | ⟨v49, s49, ev49, hz⟩
    rotate_left
    · cases hz
      exact mh_threw (Qy := fun _ _ => True) 3 [.int x1] d_PA_statement_113 C_PA_93 (h_PA_conditional _ _ _ _ ev49) q1 rfl rfl rfl (Nat.le_of_ble_eq_true rfl) (by omega) (by show 8 + (3 + 11) + Lw ≤ Lw + 60; omega) rfl ⟨rfl, rfl⟩
    refine mh_callI 3 [.int x1] d_PA_statement_113 C_PA_93 (h_PA_conditional _ _ _ _ ev49) q1 rfl rfl rfl (Nat.le_of_ble_eq_true rfl) (by omega) (by show 8 + (3 + 11) + Lw ≤ Lw + 60; omega) ?_
    refine vr_istore (L' := [some (.ref a0), some (.int x1), some (.int v4), some (.int v10), some (.int v49)]) d_PA_statement_116 (by decide) rfl ?_
    refine vr_goto (tgt := 144) d_PA_statement_118 (by decide) ?_
    refine vr_aload_n d_PA_statement_144 rfl rfl ?_
    refine vr_iload d_PA_statement_145 rfl ?_
    refine vr_iload_n d_PA_statement_147 rfl rfl ?_
    refine vr_iload_n d_PA_statement_148 rfl rfl ?_
    have q50 := (l_chk h).1
    replace h := (l_chk h).2
    obtain ⟨s51, es51, h⟩ := l_calV h
    refine mh_callU 3 [.int v49, .int v10, .int v4] d_PA_statement_149 C_PA_69 (c_PA_finish es51) q50 rfl rfl rfl (Nat.le_of_ble_eq_true rfl) (by omega) (by show 8 + (4 + 11) + 24 ≤ Lw + 60; omega) ?_
    cases h
    exact vr_vret d_PA_statement_152 rfl ⟨rfl, rfl⟩
  replace h := l_ifn c30_9 h
  refine vr_tableOut (tgt := 121) d_PA_statement_30 (by have u0 : ¬ ((hA σ b11 (Int32.toNatClampNeg (hI σ 3 3 a0)))).toInt = 2 := l_nk c30_2 rfl; have u1 : ¬ ((hA σ b11 (Int32.toNatClampNeg (hI σ 3 3 a0)))).toInt = 3 := l_nk c30_3 rfl; have u2 : ¬ ((hA σ b11 (Int32.toNatClampNeg (hI σ 3 3 a0)))).toInt = 4 := l_nk c30_4 rfl; have u3 : ¬ ((hA σ b11 (Int32.toNatClampNeg (hI σ 3 3 a0)))).toInt = 5 := l_nk c30_5 rfl; have u4 : ¬ ((hA σ b11 (Int32.toNatClampNeg (hI σ 3 3 a0)))).toInt = 6 := l_nk c30_6 rfl; have u5 : ¬ ((hA σ b11 (Int32.toNatClampNeg (hI σ 3 3 a0)))).toInt = 7 := l_nk c30_7 rfl; have u6 : ¬ ((hA σ b11 (Int32.toNatClampNeg (hI σ 3 3 a0)))).toInt = 8 := l_nk c30_8 rfl; have u7 : ¬ ((hA σ b11 (Int32.toNatClampNeg (hI σ 3 3 a0)))).toInt = 9 := l_nk c30_9 rfl; omega) (by decide) ?_
  refine vr_aload_n d_PA_statement_121 rfl rfl ?_
  refine vr_bipush 10 d_PA_statement_122 (by decide) ?_
  rcases l_calT h with ⟨v52, s52, ev52, h⟩ | ⟨v52, s52, ev52, hz⟩
  rotate_left
  · cases hz
    exact mh_threw (Qy := fun _ _ => True) 3 [.int 10] d_PA_statement_124 C_PA_56 (c_PA_take hl ev52) q1 rfl rfl rfl (Nat.le_of_ble_eq_true rfl) (by omega) (by show 8 + (2 + 11) + 120 ≤ Lw + 60; omega) rfl ⟨rfl, rfl⟩
  refine mh_callU 3 [.int 10] d_PA_statement_124 C_PA_56 (c_PA_take hl ev52) q1 rfl rfl rfl (Nat.le_of_ble_eq_true rfl) (by omega) (by show 8 + (2 + 11) + 120 ≤ Lw + 60; omega) ?_
  refine vr_aload_n d_PA_statement_127 rfl rfl ?_
  refine vr_iload_n d_PA_statement_128 rfl rfl ?_
  refine vr_iconst 1 d_PA_statement_129 (by decide) ?_
  refine vr_iadd d_PA_statement_130 ?_
  have q53 := (l_chk h).1
  replace h := (l_chk h).2
  rcases l_calT h with ⟨v54, s54, ev54, h⟩ | ⟨v54, s54, ev54, hz⟩
  rotate_left
  · cases hz
    exact mh_threw (Qy := fun _ _ => True) 3 [.int (x1 + 1)] d_PA_statement_131 C_PA_96 (h_PA_sum _ _ _ _ ev54) q53 rfl rfl rfl (Nat.le_of_ble_eq_true rfl) (by omega) (by show 8 + (8 + 11) + Lw ≤ Lw + 60; omega) rfl ⟨rfl, rfl⟩
  refine mh_callU 3 [.int (x1 + 1)] d_PA_statement_131 C_PA_96 (h_PA_sum _ _ _ _ ev54) q53 rfl rfl rfl (Nat.le_of_ble_eq_true rfl) (by omega) (by show 8 + (8 + 11) + Lw ≤ Lw + 60; omega) ?_
  refine vr_aload_n d_PA_statement_134 rfl rfl ?_
  refine vr_bipush 19 d_PA_statement_135 (by decide) ?_
  have q55 := (l_chk h).1
  replace h := (l_chk h).2
  rcases l_calT h with ⟨v56, s56, ev56, h⟩ | ⟨v56, s56, ev56, hz⟩
  rotate_left
  · cases hz
    exact mh_threw (Qy := fun _ _ => True) 3 [.int 19] d_PA_statement_137 C_PA_56 (c_PA_take hl ev56) q55 rfl rfl rfl (Nat.le_of_ble_eq_true rfl) (by omega) (by show 8 + (2 + 11) + 120 ≤ Lw + 60; omega) rfl ⟨rfl, rfl⟩
  refine mh_callU 3 [.int 19] d_PA_statement_137 C_PA_56 (c_PA_take hl ev56) q55 rfl rfl rfl (Nat.le_of_ble_eq_true rfl) (by omega) (by show 8 + (2 + 11) + 120 ≤ Lw + 60; omega) ?_
  refine vr_bipush 11 d_PA_statement_140 (by decide) ?_
  refine vr_istore (L' := [some (.ref a0), some (.int x1), some (.int v4), some (.int v10), some (.int 11)]) d_PA_statement_142 (by decide) rfl ?_
  refine vr_aload_n d_PA_statement_144 rfl rfl ?_
  refine vr_iload d_PA_statement_145 rfl ?_
  refine vr_iload_n d_PA_statement_147 rfl rfl ?_
  refine vr_iload_n d_PA_statement_148 rfl rfl ?_
  have q57 := (l_chk h).1
  replace h := (l_chk h).2
  obtain ⟨s58, es58, h⟩ := l_calV h
  refine mh_callU 3 [.int 11, .int v10, .int v4] d_PA_statement_149 C_PA_69 (c_PA_finish es58) q57 rfl rfl rfl (Nat.le_of_ble_eq_true rfl) (by omega) (by show 8 + (4 + 11) + 24 ≤ Lw + 60; omega) ?_
  cases h
  exact vr_vret d_PA_statement_152 rfl ⟨rfl, rfl⟩

def f_PA_variable (N : Nat) (p_PA_sum : Nat → Int32 → mh_H → Option (Bool × Int32 × mh_H)) (a0 : Nat) (x1 : Int32) (σ : mh_H) : Option (Bool × Int32 × mh_H) := chk (hT σ a0 = 7) <| calT (f_PA_take N a0 5 σ) fun v2 s2 => chk (hT s2 a0 = 7) <| calT (f_PA_name N a0 s2) fun v4 s4 => chk (hT s4 a0 = 7) <| calI (f_PA_skip N a0 20 s4) fun v6 s6 => if v6 = 0 then (chk (hT s6 a0 = 7) <| calI (f_PA_skip N a0 16 s6) fun v8 s8 => if v8 = 0 then (chk (hT s8 a0 = 7) <| calT (f_PA_take N a0 19 s8) fun v10 s10 => some (false, 3, s10)) else (chk (hT s8 a0 = 7) <| calT (f_PA_number N a0 0 s8) fun v12 s12 => chk (hT s12 a0 = 7) <| calT (f_PA_take N a0 17 s12) fun v14 s14 => chk (hT s14 a0 = 7) <| calT (f_PA_take N a0 19 s14) fun v16 s16 => some (false, 4, s16))) else (chk (hT s6 a0 = 7) <| calT (p_PA_sum a0 ((x1 + 1)) s6) fun v18 s18 => chk (hT s18 a0 = 7) <| calT (f_PA_take N a0 19 s18) fun v20 s20 => some (false, 3, s20))
theorem c_PA_variable {g : mv_G} {N : Nat} {p_PA_sum : Nat → Int32 → mh_H → Option (Bool × Int32 × mh_H)} (hl : (mg_l g).stackTraces = false) {F Lw : Nat} (h_PA_sum : pkV1 g M_PA_sum F Lw p_PA_sum) (hF : 40 ≤ F) (hLw : 1000 ≤ Lw) : pkI1 g M_PA_variable (F + 1) (Lw + 60) (f_PA_variable N p_PA_sum) := by
  intro a0 x1 σ r h
  refine mv_entry (L := [some (.ref a0), some (.int x1), none]) rfl rfl (Nat.le_of_ble_eq_true rfl) rfl ?_
  unfold f_PA_variable at h
  refine vr_iconst 3 d_PA_variable_0 (by decide) ?_
  refine vr_istore_n (L' := [some (.ref a0), some (.int x1), some (.int 3)]) d_PA_variable_1 rfl (by decide) rfl ?_
  refine vr_aload_n d_PA_variable_2 rfl rfl ?_
  refine vr_iconst 5 d_PA_variable_3 (by decide) ?_
  have q1 := (l_chk h).1
  replace h := (l_chk h).2
  rcases l_calT h with ⟨v2, s2, ev2, h⟩ | ⟨v2, s2, ev2, hz⟩
  rotate_left
  · cases hz
    exact mh_threw (Qy := fun _ _ => True) 3 [.int 5] d_PA_variable_4 C_PA_56 (c_PA_take hl ev2) q1 rfl rfl rfl (Nat.le_of_ble_eq_true rfl) (by omega) (by show 8 + (2 + 11) + 120 ≤ Lw + 60; omega) rfl ⟨rfl, rfl⟩
  refine mh_callU 3 [.int 5] d_PA_variable_4 C_PA_56 (c_PA_take hl ev2) q1 rfl rfl rfl (Nat.le_of_ble_eq_true rfl) (by omega) (by show 8 + (2 + 11) + 120 ≤ Lw + 60; omega) ?_
  refine vr_aload_n d_PA_variable_7 rfl rfl ?_
  have q3 := (l_chk h).1
  replace h := (l_chk h).2
  rcases l_calT h with ⟨v4, s4, ev4, h⟩ | ⟨v4, s4, ev4, hz⟩
  rotate_left
  · cases hz
    exact mh_threw (Qy := fun _ _ => True) 3 [] d_PA_variable_8 C_PA_59 (c_PA_name hl ev4) q3 rfl rfl rfl (Nat.le_of_ble_eq_true rfl) (by omega) (by show 8 + (1 + 11) + 120 ≤ Lw + 60; omega) rfl ⟨rfl, rfl⟩
  refine mh_callU 3 [] d_PA_variable_8 C_PA_59 (c_PA_name hl ev4) q3 rfl rfl rfl (Nat.le_of_ble_eq_true rfl) (by omega) (by show 8 + (1 + 11) + 120 ≤ Lw + 60; omega) ?_
  refine vr_aload_n d_PA_variable_11 rfl rfl ?_
  refine vr_bipush 20 d_PA_variable_12 (by decide) ?_
  have q5 := (l_chk h).1
  replace h := (l_chk h).2
  obtain ⟨v6, s6, ev6, h⟩ := l_calI h
  refine mh_callI 3 [.int 20] d_PA_variable_14 C_PA_62 (c_PA_skip ev6) q5 rfl rfl rfl (Nat.le_of_ble_eq_true rfl) (by omega) (by show 8 + (2 + 11) + 0 ≤ Lw + 60; omega) ?_
  refine vr_if_eq (tgt := 30) d_PA_variable_17 (by decide) (fun c17 => ?_) (fun c17 => ?_)
  · replace h := l_ifp c17 h
    refine vr_aload_n d_PA_variable_30 rfl rfl ?_
    refine vr_bipush 16 d_PA_variable_31 (by decide) ?_
    have q7 := (l_chk h).1
    replace h := (l_chk h).2
    obtain ⟨v8, s8, ev8, h⟩ := l_calI h
    refine mh_callI 3 [.int 16] d_PA_variable_33 C_PA_62 (c_PA_skip ev8) q7 rfl rfl rfl (Nat.le_of_ble_eq_true rfl) (by omega) (by show 8 + (2 + 11) + 0 ≤ Lw + 60; omega) ?_
    refine vr_if_eq (tgt := 52) d_PA_variable_36 (by decide) (fun c36 => ?_) (fun c36 => ?_)
    · replace h := l_ifp c36 h
      refine vr_aload_n d_PA_variable_52 rfl rfl ?_
      refine vr_bipush 19 d_PA_variable_53 (by decide) ?_
      have q9 := (l_chk h).1
      replace h := (l_chk h).2
      rcases l_calT h with ⟨v10, s10, ev10, h⟩ | ⟨v10, s10, ev10, hz⟩
      rotate_left
      · cases hz
        exact mh_threw (Qy := fun _ _ => True) 3 [.int 19] d_PA_variable_55 C_PA_56 (c_PA_take hl ev10) q9 rfl rfl rfl (Nat.le_of_ble_eq_true rfl) (by omega) (by show 8 + (2 + 11) + 120 ≤ Lw + 60; omega) rfl ⟨rfl, rfl⟩
      refine mh_callU 3 [.int 19] d_PA_variable_55 C_PA_56 (c_PA_take hl ev10) q9 rfl rfl rfl (Nat.le_of_ble_eq_true rfl) (by omega) (by show 8 + (2 + 11) + 120 ≤ Lw + 60; omega) ?_
      refine vr_iload_n d_PA_variable_58 rfl rfl ?_
      cases h
      exact vr_iret d_PA_variable_59 rfl rfl ⟨rfl, rfl⟩
    · replace h := l_ifn c36 h
      refine vr_aload_n d_PA_variable_39 rfl rfl ?_
      refine vr_iconst 0 d_PA_variable_40 (by decide) ?_
      have q11 := (l_chk h).1
      replace h := (l_chk h).2
      rcases l_calT h with ⟨v12, s12, ev12, h⟩ | ⟨v12, s12, ev12, hz⟩
      rotate_left
      · cases hz
        exact mh_threw (Qy := fun _ _ => True) 3 [.int 0] d_PA_variable_41 C_PA_99 (c_PA_number hl ev12) q11 rfl rfl rfl (Nat.le_of_ble_eq_true rfl) (by omega) (by show 8 + (4 + 11) + 120 ≤ Lw + 60; omega) rfl ⟨rfl, rfl⟩
      refine mh_callU 3 [.int 0] d_PA_variable_41 C_PA_99 (c_PA_number hl ev12) q11 rfl rfl rfl (Nat.le_of_ble_eq_true rfl) (by omega) (by show 8 + (4 + 11) + 120 ≤ Lw + 60; omega) ?_
      refine vr_aload_n d_PA_variable_44 rfl rfl ?_
      refine vr_bipush 17 d_PA_variable_45 (by decide) ?_
      have q13 := (l_chk h).1
      replace h := (l_chk h).2
      rcases l_calT h with ⟨v14, s14, ev14, h⟩ | ⟨v14, s14, ev14, hz⟩
      rotate_left
      · cases hz
        exact mh_threw (Qy := fun _ _ => True) 3 [.int 17] d_PA_variable_47 C_PA_56 (c_PA_take hl ev14) q13 rfl rfl rfl (Nat.le_of_ble_eq_true rfl) (by omega) (by show 8 + (2 + 11) + 120 ≤ Lw + 60; omega) rfl ⟨rfl, rfl⟩
      refine mh_callU 3 [.int 17] d_PA_variable_47 C_PA_56 (c_PA_take hl ev14) q13 rfl rfl rfl (Nat.le_of_ble_eq_true rfl) (by omega) (by show 8 + (2 + 11) + 120 ≤ Lw + 60; omega) ?_
      refine vr_iconst 4 d_PA_variable_50 (by decide) ?_
      refine vr_istore_n (L' := [some (.ref a0), some (.int x1), some (.int 4)]) d_PA_variable_51 rfl (by decide) rfl ?_
      refine vr_aload_n d_PA_variable_52 rfl rfl ?_
      refine vr_bipush 19 d_PA_variable_53 (by decide) ?_
      have q15 := (l_chk h).1
      replace h := (l_chk h).2
      rcases l_calT h with ⟨v16, s16, ev16, h⟩ | ⟨v16, s16, ev16, hz⟩
      rotate_left
      · cases hz
        exact mh_threw (Qy := fun _ _ => True) 3 [.int 19] d_PA_variable_55 C_PA_56 (c_PA_take hl ev16) q15 rfl rfl rfl (Nat.le_of_ble_eq_true rfl) (by omega) (by show 8 + (2 + 11) + 120 ≤ Lw + 60; omega) rfl ⟨rfl, rfl⟩
      refine mh_callU 3 [.int 19] d_PA_variable_55 C_PA_56 (c_PA_take hl ev16) q15 rfl rfl rfl (Nat.le_of_ble_eq_true rfl) (by omega) (by show 8 + (2 + 11) + 120 ≤ Lw + 60; omega) ?_
      refine vr_iload_n d_PA_variable_58 rfl rfl ?_
      cases h
      exact vr_iret d_PA_variable_59 rfl rfl ⟨rfl, rfl⟩
  · replace h := l_ifn c17 h
    refine vr_aload_n d_PA_variable_20 rfl rfl ?_
    refine vr_iload_n d_PA_variable_21 rfl rfl ?_
    refine vr_iconst 1 d_PA_variable_22 (by decide) ?_
    refine vr_iadd d_PA_variable_23 ?_
    have q17 := (l_chk h).1
    replace h := (l_chk h).2
    rcases l_calT h with ⟨v18, s18, ev18, h⟩ | ⟨v18, s18, ev18, hz⟩
    rotate_left
    · cases hz
      exact mh_threw (Qy := fun _ _ => True) 3 [.int (x1 + 1)] d_PA_variable_24 C_PA_96 (h_PA_sum _ _ _ _ ev18) q17 rfl rfl rfl (Nat.le_of_ble_eq_true rfl) (by omega) (by show 8 + (8 + 11) + Lw ≤ Lw + 60; omega) rfl ⟨rfl, rfl⟩
    refine mh_callU 3 [.int (x1 + 1)] d_PA_variable_24 C_PA_96 (h_PA_sum _ _ _ _ ev18) q17 rfl rfl rfl (Nat.le_of_ble_eq_true rfl) (by omega) (by show 8 + (8 + 11) + Lw ≤ Lw + 60; omega) ?_
    refine vr_goto (tgt := 52) d_PA_variable_27 (by decide) ?_
    refine vr_aload_n d_PA_variable_52 rfl rfl ?_
    refine vr_bipush 19 d_PA_variable_53 (by decide) ?_
    have q19 := (l_chk h).1
    replace h := (l_chk h).2
    rcases l_calT h with ⟨v20, s20, ev20, h⟩ | ⟨v20, s20, ev20, hz⟩
    rotate_left
    · cases hz
      exact mh_threw (Qy := fun _ _ => True) 3 [.int 19] d_PA_variable_55 C_PA_56 (c_PA_take hl ev20) q19 rfl rfl rfl (Nat.le_of_ble_eq_true rfl) (by omega) (by show 8 + (2 + 11) + 120 ≤ Lw + 60; omega) rfl ⟨rfl, rfl⟩
    refine mh_callU 3 [.int 19] d_PA_variable_55 C_PA_56 (c_PA_take hl ev20) q19 rfl rfl rfl (Nat.le_of_ble_eq_true rfl) (by omega) (by show 8 + (2 + 11) + 120 ≤ Lw + 60; omega) ?_
    refine vr_iload_n d_PA_variable_58 rfl rfl ?_
    cases h
    exact vr_iret d_PA_variable_59 rfl rfl ⟨rfl, rfl⟩

def k_PA_call_120 (N : Nat) (p_PA_sum : Nat → Int32 → mh_H → Option (Bool × Int32 × mh_H)) (y0 : Nat) (σ : mh_H) : Option (Bool × Int32 × mh_H) := chk (hT σ y0 = 7) <| calT (f_PA_take N y0 13 σ) fun v28 s28 => chk (hT s28 y0 = 7) <| calT (f_PA_take N y0 19 s28) fun v30 s30 => some (false, 7, s30)
theorem q_PA_call_120 {g : mv_G} {N : Nat} {p_PA_sum : Nat → Int32 → mh_H → Option (Bool × Int32 × mh_H)} (hl : (mg_l g).stackTraces = false) {F Lw : Nat} (h_PA_sum : pkV1 g M_PA_sum F Lw p_PA_sum) (hF : 40 ≤ F) (hLw : 1000 ≤ Lw) (y0 : Nat) (σ : mh_H) (r : Bool × Int32 × mh_H) (h : k_PA_call_120 N p_PA_sum y0 σ = some r) : mv_V g M_PA_call (F + 1) (Lw + 60) 0 0 120 [some (.ref y0), none, none] [] σ (pcI r) := by
  unfold k_PA_call_120 at h
  refine vr_aload_n d_PA_call_120 rfl rfl ?_
  refine vr_bipush 13 d_PA_call_121 (by decide) ?_
  have q27 := (l_chk h).1
  replace h := (l_chk h).2
  rcases l_calT h with ⟨v28, s28, ev28, h⟩ | ⟨v28, s28, ev28, hz⟩
  rotate_left
  · cases hz
    exact mh_threw (Qy := fun _ _ => True) 3 [.int 13] d_PA_call_123 C_PA_56 (c_PA_take hl ev28) q27 rfl rfl rfl (Nat.le_of_ble_eq_true rfl) (by omega) (by show 8 + (2 + 11) + 120 ≤ Lw + 60; omega) rfl ⟨rfl, rfl⟩
  refine mh_callU 3 [.int 13] d_PA_call_123 C_PA_56 (c_PA_take hl ev28) q27 rfl rfl rfl (Nat.le_of_ble_eq_true rfl) (by omega) (by show 8 + (2 + 11) + 120 ≤ Lw + 60; omega) ?_
  refine vr_aload_n d_PA_call_126 rfl rfl ?_
  refine vr_bipush 19 d_PA_call_127 (by decide) ?_
  have q29 := (l_chk h).1
  replace h := (l_chk h).2
  rcases l_calT h with ⟨v30, s30, ev30, h⟩ | ⟨v30, s30, ev30, hz⟩
  rotate_left
  · cases hz
    exact mh_threw (Qy := fun _ _ => True) 3 [.int 19] d_PA_call_129 C_PA_56 (c_PA_take hl ev30) q29 rfl rfl rfl (Nat.le_of_ble_eq_true rfl) (by omega) (by show 8 + (2 + 11) + 120 ≤ Lw + 60; omega) rfl ⟨rfl, rfl⟩
  refine mh_callU 3 [.int 19] d_PA_call_129 C_PA_56 (c_PA_take hl ev30) q29 rfl rfl rfl (Nat.le_of_ble_eq_true rfl) (by omega) (by show 8 + (2 + 11) + 120 ≤ Lw + 60; omega) ?_
  refine vr_bipush 7 d_PA_call_132 (by decide) ?_
  cases h
  exact vr_iret d_PA_call_134 rfl rfl ⟨rfl, rfl⟩

def k_PA_call_87 (N : Nat) (p_PA_sum : Nat → Int32 → mh_H → Option (Bool × Int32 × mh_H)) : Nat → Nat → Int32 → Int32 → mh_H → Option (Bool × Int32 × mh_H)
  | 0, _, _, _, _ => none
  | n + 1, y0, y1, y2, σ => chk (hT σ y0 = 7) <| rfO (hR σ 3 0 y0) fun b32 => chk (hT σ b32 = 9) <| if (hI σ 4 5 b32) ≤ y2 then (k_PA_call_120 N p_PA_sum y0 σ) else (calI (f_PA_skip N y0 18 σ) fun v34 s34 => if v34 = 0 then (k_PA_call_120 N p_PA_sum y0 s34) else (chk (hT s34 y0 = 7) <| calT (p_PA_sum y0 ((y1 + 1)) s34) fun v36 s36 => k_PA_call_87 N p_PA_sum n y0 y1 ((y2 + 1)) s36))
theorem q_PA_call_87 {g : mv_G} {N : Nat} {p_PA_sum : Nat → Int32 → mh_H → Option (Bool × Int32 × mh_H)} (hl : (mg_l g).stackTraces = false) {F Lw : Nat} (h_PA_sum : pkV1 g M_PA_sum F Lw p_PA_sum) (hF : 40 ≤ F) (hLw : 1000 ≤ Lw) : ∀ (n : Nat) (y0 : Nat) (y1 : Int32) (y2 : Int32) (σ : mh_H) (r : Bool × Int32 × mh_H), k_PA_call_87 N p_PA_sum n y0 y1 y2 σ = some r → mv_V g M_PA_call (F + 1) (Lw + 60) 0 0 87 [some (.ref y0), some (.int y1), some (.int y2)] [] σ (pcI r) := by
  intro n
  induction n with
  | zero =>
    intro y0 y1 y2 σ r h
    exact absurd h (by simp [k_PA_call_87])
  | succ n ih =>
    intro y0 y1 y2 σ r h 
    unfold k_PA_call_87 at h
    refine vr_iload_n d_PA_call_87 rfl rfl ?_
    refine vr_aload_n d_PA_call_88 rfl rfl ?_
    have q31 := (l_chk h).1
    replace h := (l_chk h).2
    obtain ⟨b32, eb32, h⟩ := l_rf h
    refine vr_getR (b := b32) d_PA_call_89 F_PA_15 rfl q31 eb32 ?_
    have q33 := (l_chk h).1
    replace h := (l_chk h).2
    refine vr_getI d_PA_call_92 F_PA_30 rfl q33 ?_
    refine vr_icmp_ge (tgt := 120) d_PA_call_95 (by decide) (fun c95 => ?_) (fun c95 => ?_)
    · replace h := l_ifp c95 h
      exact mv_drop (q_PA_call_120 hl h_PA_sum hF hLw _ _ _ h) (And.intro rfl trivial)
    · replace h := l_ifn c95 h
      refine vr_aload_n d_PA_call_98 rfl rfl ?_
      refine vr_bipush 18 d_PA_call_99 (by decide) ?_
      obtain ⟨v34, s34, ev34, h⟩ := l_calI h
      refine mh_callI 3 [.int 18] d_PA_call_101 C_PA_62 (c_PA_skip ev34) q31 rfl rfl rfl (Nat.le_of_ble_eq_true rfl) (by omega) (by show 8 + (2 + 11) + 0 ≤ Lw + 60; omega) ?_
      refine vr_if_eq (tgt := 120) d_PA_call_104 (by decide) (fun c104 => ?_) (fun c104 => ?_)
      · replace h := l_ifp c104 h
        exact mv_drop (q_PA_call_120 hl h_PA_sum hF hLw _ _ _ h) (And.intro rfl trivial)
      · replace h := l_ifn c104 h
        refine vr_aload_n d_PA_call_107 rfl rfl ?_
        refine vr_iload_n d_PA_call_108 rfl rfl ?_
        refine vr_iconst 1 d_PA_call_109 (by decide) ?_
        refine vr_iadd d_PA_call_110 ?_
        have q35 := (l_chk h).1
        replace h := (l_chk h).2
        rcases l_calT h with ⟨v36, s36, ev36, h⟩ | ⟨v36, s36, ev36, hz⟩
        rotate_left
        · cases hz
          exact mh_threw (Qy := fun _ _ => True) 3 [.int (y1 + 1)] d_PA_call_111 C_PA_96 (h_PA_sum _ _ _ _ ev36) q35 rfl rfl rfl (Nat.le_of_ble_eq_true rfl) (by omega) (by show 8 + (8 + 11) + Lw ≤ Lw + 60; omega) rfl ⟨rfl, rfl⟩
        refine mh_callU 3 [.int (y1 + 1)] d_PA_call_111 C_PA_96 (h_PA_sum _ _ _ _ ev36) q35 rfl rfl rfl (Nat.le_of_ble_eq_true rfl) (by omega) (by show 8 + (8 + 11) + Lw ≤ Lw + 60; omega) ?_
        refine vr_iinc (L' := [some (.ref y0), some (.int y1), some (.int (y2 + 1))]) (y2 + 1) d_PA_call_114 (by decide) rfl rfl rfl ?_
        refine vr_goto (tgt := 87) d_PA_call_117 (by decide) ?_
        exact mv_drop (ih _ _ _ _ _ h) (And.intro rfl (And.intro rfl (And.intro rfl trivial)))

def k_PA_call_54 (N : Nat) (p_PA_sum : Nat → Int32 → mh_H → Option (Bool × Int32 × mh_H)) (y0 : Nat) (y1 : Int32) (σ : mh_H) : Option (Bool × Int32 × mh_H) := chk (hT σ y0 = 7) <| calT (f_PA_name N y0 σ) fun v19 s19 => chk (hT s19 y0 = 7) <| calT (f_PA_take N y0 12 s19) fun v21 s21 => chk (hT s21 y0 = 7) <| rfO (hR s21 3 2 y0) fun b23 => chk (hT s21 b23 = 2) <| chk (ib (hI s21 3 3 y0) (hN s21 b23)) <| if (hA s21 b23 (Int32.toNatClampNeg (hI s21 3 3 y0))) = 13 then (k_PA_call_120 N p_PA_sum y0 s21) else (calT (p_PA_sum y0 ((y1 + 1)) s21) fun v26 s26 => k_PA_call_87 N p_PA_sum N y0 y1 0 s26)
theorem q_PA_call_54 {g : mv_G} {N : Nat} {p_PA_sum : Nat → Int32 → mh_H → Option (Bool × Int32 × mh_H)} (hl : (mg_l g).stackTraces = false) {F Lw : Nat} (h_PA_sum : pkV1 g M_PA_sum F Lw p_PA_sum) (hF : 40 ≤ F) (hLw : 1000 ≤ Lw) (y0 : Nat) (y1 : Int32) (σ : mh_H) (r : Bool × Int32 × mh_H) (h : k_PA_call_54 N p_PA_sum y0 y1 σ = some r) : mv_V g M_PA_call (F + 1) (Lw + 60) 0 0 54 [some (.ref y0), some (.int y1), none] [] σ (pcI r) := by
  unfold k_PA_call_54 at h
  refine vr_aload_n d_PA_call_54 rfl rfl ?_
  have q18 := (l_chk h).1
  replace h := (l_chk h).2
  rcases l_calT h with ⟨v19, s19, ev19, h⟩ | ⟨v19, s19, ev19, hz⟩
  rotate_left
  · cases hz
    exact mh_threw (Qy := fun _ _ => True) 3 [] d_PA_call_55 C_PA_59 (c_PA_name hl ev19) q18 rfl rfl rfl (Nat.le_of_ble_eq_true rfl) (by omega) (by show 8 + (1 + 11) + 120 ≤ Lw + 60; omega) rfl ⟨rfl, rfl⟩
  refine mh_callU 3 [] d_PA_call_55 C_PA_59 (c_PA_name hl ev19) q18 rfl rfl rfl (Nat.le_of_ble_eq_true rfl) (by omega) (by show 8 + (1 + 11) + 120 ≤ Lw + 60; omega) ?_
  refine vr_aload_n d_PA_call_58 rfl rfl ?_
  refine vr_bipush 12 d_PA_call_59 (by decide) ?_
  have q20 := (l_chk h).1
  replace h := (l_chk h).2
  rcases l_calT h with ⟨v21, s21, ev21, h⟩ | ⟨v21, s21, ev21, hz⟩
  rotate_left
  · cases hz
    exact mh_threw (Qy := fun _ _ => True) 3 [.int 12] d_PA_call_61 C_PA_56 (c_PA_take hl ev21) q20 rfl rfl rfl (Nat.le_of_ble_eq_true rfl) (by omega) (by show 8 + (2 + 11) + 120 ≤ Lw + 60; omega) rfl ⟨rfl, rfl⟩
  refine mh_callU 3 [.int 12] d_PA_call_61 C_PA_56 (c_PA_take hl ev21) q20 rfl rfl rfl (Nat.le_of_ble_eq_true rfl) (by omega) (by show 8 + (2 + 11) + 120 ≤ Lw + 60; omega) ?_
  refine vr_aload_n d_PA_call_64 rfl rfl ?_
  have q22 := (l_chk h).1
  replace h := (l_chk h).2
  obtain ⟨b23, eb23, h⟩ := l_rf h
  refine vr_getR (b := b23) d_PA_call_65 F_PA_29 rfl q22 eb23 ?_
  refine vr_aload_n d_PA_call_68 rfl rfl ?_
  refine vr_getI d_PA_call_69 F_PA_9 rfl q22 ?_
  have q24 := (l_chk h).1
  replace h := (l_chk h).2
  have q25 := (l_chk h).1
  replace h := (l_chk h).2
  refine vr_iald (t := 0) d_PA_call_72 rfl q24 (ib_in q25) ?_
  refine vr_bipush 13 d_PA_call_73 (by decide) ?_
  refine vr_icmp_eq (tgt := 120) d_PA_call_75 (by decide) (fun c75 => ?_) (fun c75 => ?_)
  · replace h := l_ifp c75 h
    exact mv_drop (q_PA_call_120 hl h_PA_sum hF hLw _ _ _ h) (And.intro rfl trivial)
  · replace h := l_ifn c75 h
    refine vr_aload_n d_PA_call_78 rfl rfl ?_
    refine vr_iload_n d_PA_call_79 rfl rfl ?_
    refine vr_iconst 1 d_PA_call_80 (by decide) ?_
    refine vr_iadd d_PA_call_81 ?_
    rcases l_calT h with ⟨v26, s26, ev26, h⟩ | ⟨v26, s26, ev26, hz⟩
    rotate_left
    · cases hz
      exact mh_threw (Qy := fun _ _ => True) 3 [.int (y1 + 1)] d_PA_call_82 C_PA_96 (h_PA_sum _ _ _ _ ev26) q22 rfl rfl rfl (Nat.le_of_ble_eq_true rfl) (by omega) (by show 8 + (8 + 11) + Lw ≤ Lw + 60; omega) rfl ⟨rfl, rfl⟩
    refine mh_callU 3 [.int (y1 + 1)] d_PA_call_82 C_PA_96 (h_PA_sum _ _ _ _ ev26) q22 rfl rfl rfl (Nat.le_of_ble_eq_true rfl) (by omega) (by show 8 + (8 + 11) + Lw ≤ Lw + 60; omega) ?_
    refine vr_iconst 0 d_PA_call_85 (by decide) ?_
    refine vr_istore_n (L' := [some (.ref y0), some (.int y1), some (.int 0)]) d_PA_call_86 rfl (by decide) rfl ?_
    exact mv_drop (q_PA_call_87 hl h_PA_sum hF hLw N _ _ _ _ _ h) (And.intro rfl (And.intro rfl (And.intro rfl trivial)))

def f_PA_call (N : Nat) (p_PA_sum : Nat → Int32 → mh_H → Option (Bool × Int32 × mh_H)) (a0 : Nat) (x1 : Int32) (σ : mh_H) : Option (Bool × Int32 × mh_H) := chk (hT σ a0 = 7) <| rfO (hR σ 3 0 a0) fun b2 => chk (hT σ b2 = 9) <| calI (f_TO_kindAt N b2 (((hI σ 3 3 a0) + 1)) σ) fun v4 s4 => if v4 = 12 then (chk (hT s4 a0 = 7) <| rfO (hR s4 3 1 a0) fun b10 => rfO (hR s4 3 0 a0) fun b11 => chk (hT s4 b11 = 9) <| rfO (hR s4 4 3 b11) fun b13 => chk (hT s4 b13 = 2) <| chk (ib (hI s4 3 3 a0) (hN s4 b13)) <| chk (hT s4 b10 = 3) <| calV (f_DR_add N b10 33 ((hA s4 b13 (Int32.toNatClampNeg (hI s4 3 3 a0)))) 0 1 s4) fun s17 => k_PA_call_54 N p_PA_sum a0 x1 s17) else (chk (hT s4 a0 = 7) <| calT (f_PA_name N a0 s4) fun v6 s6 => chk (hT s6 a0 = 7) <| calT (f_PA_take N a0 20 s6) fun v8 s8 => k_PA_call_54 N p_PA_sum a0 x1 s8)
theorem c_PA_call {g : mv_G} {N : Nat} {p_PA_sum : Nat → Int32 → mh_H → Option (Bool × Int32 × mh_H)} (hl : (mg_l g).stackTraces = false) {F Lw : Nat} (h_PA_sum : pkV1 g M_PA_sum F Lw p_PA_sum) (hF : 40 ≤ F) (hLw : 1000 ≤ Lw) : pkI1 g M_PA_call (F + 1) (Lw + 60) (f_PA_call N p_PA_sum) := by
  intro a0 x1 σ r h
  refine mv_entry (L := [some (.ref a0), some (.int x1), none]) rfl rfl (Nat.le_of_ble_eq_true rfl) rfl ?_
  unfold f_PA_call at h
  refine vr_aload_n d_PA_call_0 rfl rfl ?_
  have q1 := (l_chk h).1
  replace h := (l_chk h).2
  obtain ⟨b2, eb2, h⟩ := l_rf h
  refine vr_getR (b := b2) d_PA_call_1 F_PA_15 rfl q1 eb2 ?_
  refine vr_aload_n d_PA_call_4 rfl rfl ?_
  refine vr_getI d_PA_call_5 F_PA_9 rfl q1 ?_
  refine vr_iconst 1 d_PA_call_8 (by decide) ?_
  refine vr_iadd d_PA_call_9 ?_
  have q3 := (l_chk h).1
  replace h := (l_chk h).2
  obtain ⟨v4, s4, ev4, h⟩ := l_calI h
  refine mh_callI 4 [.int ((hI σ 3 3 a0) + 1)] d_PA_call_10 C_PA_103 (c_TO_kindAt ev4) q3 rfl rfl rfl (Nat.le_of_ble_eq_true rfl) (by omega) (by show 8 + (2 + 11) + 0 ≤ Lw + 60; omega) ?_
  refine vr_bipush 12 d_PA_call_13 (by decide) ?_
  refine vr_icmp_ne (tgt := 44) d_PA_call_15 (by decide) (fun c15 => ?_) (fun c15 => ?_)
  · replace h := l_ifn c15 h
    refine vr_aload_n d_PA_call_44 rfl rfl ?_
    have q5 := (l_chk h).1
    replace h := (l_chk h).2
    rcases l_calT h with ⟨v6, s6, ev6, h⟩ | ⟨v6, s6, ev6, hz⟩
    rotate_left
    · cases hz
      exact mh_threw (Qy := fun _ _ => True) 3 [] d_PA_call_45 C_PA_59 (c_PA_name hl ev6) q5 rfl rfl rfl (Nat.le_of_ble_eq_true rfl) (by omega) (by show 8 + (1 + 11) + 120 ≤ Lw + 60; omega) rfl ⟨rfl, rfl⟩
    refine mh_callU 3 [] d_PA_call_45 C_PA_59 (c_PA_name hl ev6) q5 rfl rfl rfl (Nat.le_of_ble_eq_true rfl) (by omega) (by show 8 + (1 + 11) + 120 ≤ Lw + 60; omega) ?_
    refine vr_aload_n d_PA_call_48 rfl rfl ?_
    refine vr_bipush 20 d_PA_call_49 (by decide) ?_
    have q7 := (l_chk h).1
    replace h := (l_chk h).2
    rcases l_calT h with ⟨v8, s8, ev8, h⟩ | ⟨v8, s8, ev8, hz⟩
    rotate_left
    · cases hz
      exact mh_threw (Qy := fun _ _ => True) 3 [.int 20] d_PA_call_51 C_PA_56 (c_PA_take hl ev8) q7 rfl rfl rfl (Nat.le_of_ble_eq_true rfl) (by omega) (by show 8 + (2 + 11) + 120 ≤ Lw + 60; omega) rfl ⟨rfl, rfl⟩
    refine mh_callU 3 [.int 20] d_PA_call_51 C_PA_56 (c_PA_take hl ev8) q7 rfl rfl rfl (Nat.le_of_ble_eq_true rfl) (by omega) (by show 8 + (2 + 11) + 120 ≤ Lw + 60; omega) ?_
    exact mv_drop (q_PA_call_54 hl h_PA_sum hF hLw _ _ _ _ h) (And.intro rfl (And.intro rfl trivial))
  · replace h := l_ifp c15 h
    refine vr_aload_n d_PA_call_18 rfl rfl ?_
    have q9 := (l_chk h).1
    replace h := (l_chk h).2
    obtain ⟨b10, eb10, h⟩ := l_rf h
    refine vr_getR (b := b10) d_PA_call_19 F_PA_19 rfl q9 eb10 ?_
    refine vr_bipush 33 d_PA_call_22 (by decide) ?_
    refine vr_aload_n d_PA_call_24 rfl rfl ?_
    obtain ⟨b11, eb11, h⟩ := l_rf h
    refine vr_getR (b := b11) d_PA_call_25 F_PA_15 rfl q9 eb11 ?_
    have q12 := (l_chk h).1
    replace h := (l_chk h).2
    obtain ⟨b13, eb13, h⟩ := l_rf h
    refine vr_getR (b := b13) d_PA_call_28 F_PA_45 rfl q12 eb13 ?_
    refine vr_aload_n d_PA_call_31 rfl rfl ?_
    refine vr_getI d_PA_call_32 F_PA_9 rfl q9 ?_
    have q14 := (l_chk h).1
    replace h := (l_chk h).2
    have q15 := (l_chk h).1
    replace h := (l_chk h).2
    refine vr_iald (t := 0) d_PA_call_35 rfl q14 (ib_in q15) ?_
    refine vr_iconst 0 d_PA_call_36 (by decide) ?_
    refine vr_iconst 1 d_PA_call_37 (by decide) ?_
    have q16 := (l_chk h).1
    replace h := (l_chk h).2
    obtain ⟨s17, es17, h⟩ := l_calV h
    refine mh_callU 1 [.int 33, .int (hA s4 b13 (Int32.toNatClampNeg (hI s4 3 3 a0))), .int 0, .int 1] d_PA_call_38 C_PA_50 (c_DR_add es17) q16 rfl rfl rfl (Nat.le_of_ble_eq_true rfl) (by omega) (by show 8 + (5 + 11) + 0 ≤ Lw + 60; omega) ?_
    refine vr_goto (tgt := 54) d_PA_call_41 (by decide) ?_
    exact mv_drop (q_PA_call_54 hl h_PA_sum hF hLw _ _ _ _ h) (And.intro rfl (And.intro rfl trivial))

def k_PA_assignment_31 (N : Nat) (p_PA_sum : Nat → Int32 → mh_H → Option (Bool × Int32 × mh_H)) (y0 : Nat) (y1 : Int32) (y2 : Int32) (σ : mh_H) : Option (Bool × Int32 × mh_H) := chk (hT σ y0 = 7) <| calT (f_PA_take N y0 20 σ) fun v10 s10 => chk (hT s10 y0 = 7) <| calT (p_PA_sum y0 ((y1 + 1)) s10) fun v12 s12 => chk (hT s12 y0 = 7) <| calT (f_PA_take N y0 19 s12) fun v14 s14 => some (false, y2, s14)
theorem q_PA_assignment_31 {g : mv_G} {N : Nat} {p_PA_sum : Nat → Int32 → mh_H → Option (Bool × Int32 × mh_H)} (hl : (mg_l g).stackTraces = false) {F Lw : Nat} (h_PA_sum : pkV1 g M_PA_sum F Lw p_PA_sum) (hF : 40 ≤ F) (hLw : 1000 ≤ Lw) (y0 : Nat) (y1 : Int32) (y2 : Int32) (σ : mh_H) (r : Bool × Int32 × mh_H) (h : k_PA_assignment_31 N p_PA_sum y0 y1 y2 σ = some r) : mv_V g M_PA_assignment (F + 1) (Lw + 60) 0 0 31 [some (.ref y0), some (.int y1), some (.int y2)] [] σ (pcI r) := by
  unfold k_PA_assignment_31 at h
  refine vr_aload_n d_PA_assignment_31 rfl rfl ?_
  refine vr_bipush 20 d_PA_assignment_32 (by decide) ?_
  have q9 := (l_chk h).1
  replace h := (l_chk h).2
  rcases l_calT h with ⟨v10, s10, ev10, h⟩ | ⟨v10, s10, ev10, hz⟩
  rotate_left
  · cases hz
    exact mh_threw (Qy := fun _ _ => True) 3 [.int 20] d_PA_assignment_34 C_PA_56 (c_PA_take hl ev10) q9 rfl rfl rfl (Nat.le_of_ble_eq_true rfl) (by omega) (by show 8 + (2 + 11) + 120 ≤ Lw + 60; omega) rfl ⟨rfl, rfl⟩
  refine mh_callU 3 [.int 20] d_PA_assignment_34 C_PA_56 (c_PA_take hl ev10) q9 rfl rfl rfl (Nat.le_of_ble_eq_true rfl) (by omega) (by show 8 + (2 + 11) + 120 ≤ Lw + 60; omega) ?_
  refine vr_aload_n d_PA_assignment_37 rfl rfl ?_
  refine vr_iload_n d_PA_assignment_38 rfl rfl ?_
  refine vr_iconst 1 d_PA_assignment_39 (by decide) ?_
  refine vr_iadd d_PA_assignment_40 ?_
  have q11 := (l_chk h).1
  replace h := (l_chk h).2
  rcases l_calT h with ⟨v12, s12, ev12, h⟩ | ⟨v12, s12, ev12, hz⟩
  rotate_left
  · cases hz
    exact mh_threw (Qy := fun _ _ => True) 3 [.int (y1 + 1)] d_PA_assignment_41 C_PA_96 (h_PA_sum _ _ _ _ ev12) q11 rfl rfl rfl (Nat.le_of_ble_eq_true rfl) (by omega) (by show 8 + (8 + 11) + Lw ≤ Lw + 60; omega) rfl ⟨rfl, rfl⟩
  refine mh_callU 3 [.int (y1 + 1)] d_PA_assignment_41 C_PA_96 (h_PA_sum _ _ _ _ ev12) q11 rfl rfl rfl (Nat.le_of_ble_eq_true rfl) (by omega) (by show 8 + (8 + 11) + Lw ≤ Lw + 60; omega) ?_
  refine vr_aload_n d_PA_assignment_44 rfl rfl ?_
  refine vr_bipush 19 d_PA_assignment_45 (by decide) ?_
  have q13 := (l_chk h).1
  replace h := (l_chk h).2
  rcases l_calT h with ⟨v14, s14, ev14, h⟩ | ⟨v14, s14, ev14, hz⟩
  rotate_left
  · cases hz
    exact mh_threw (Qy := fun _ _ => True) 3 [.int 19] d_PA_assignment_47 C_PA_56 (c_PA_take hl ev14) q13 rfl rfl rfl (Nat.le_of_ble_eq_true rfl) (by omega) (by show 8 + (2 + 11) + 120 ≤ Lw + 60; omega) rfl ⟨rfl, rfl⟩
  refine mh_callU 3 [.int 19] d_PA_assignment_47 C_PA_56 (c_PA_take hl ev14) q13 rfl rfl rfl (Nat.le_of_ble_eq_true rfl) (by omega) (by show 8 + (2 + 11) + 120 ≤ Lw + 60; omega) ?_
  refine vr_iload_n d_PA_assignment_50 rfl rfl ?_
  cases h
  exact vr_iret d_PA_assignment_51 rfl rfl ⟨rfl, rfl⟩

def f_PA_assignment (N : Nat) (p_PA_sum : Nat → Int32 → mh_H → Option (Bool × Int32 × mh_H)) (a0 : Nat) (x1 : Int32) (σ : mh_H) : Option (Bool × Int32 × mh_H) := chk (hT σ a0 = 7) <| calT (f_PA_name N a0 σ) fun v2 s2 => chk (hT s2 a0 = 7) <| calI (f_PA_skip N a0 16 s2) fun v4 s4 => if v4 = 0 then (k_PA_assignment_31 N p_PA_sum a0 x1 5 s4) else (chk (hT s4 a0 = 7) <| calT (p_PA_sum a0 ((x1 + 1)) s4) fun v6 s6 => chk (hT s6 a0 = 7) <| calT (f_PA_take N a0 17 s6) fun v8 s8 => k_PA_assignment_31 N p_PA_sum a0 x1 6 s8)
theorem c_PA_assignment {g : mv_G} {N : Nat} {p_PA_sum : Nat → Int32 → mh_H → Option (Bool × Int32 × mh_H)} (hl : (mg_l g).stackTraces = false) {F Lw : Nat} (h_PA_sum : pkV1 g M_PA_sum F Lw p_PA_sum) (hF : 40 ≤ F) (hLw : 1000 ≤ Lw) : pkI1 g M_PA_assignment (F + 1) (Lw + 60) (f_PA_assignment N p_PA_sum) := by
  intro a0 x1 σ r h
  refine mv_entry (L := [some (.ref a0), some (.int x1), none]) rfl rfl (Nat.le_of_ble_eq_true rfl) rfl ?_
  unfold f_PA_assignment at h
  refine vr_iconst 5 d_PA_assignment_0 (by decide) ?_
  refine vr_istore_n (L' := [some (.ref a0), some (.int x1), some (.int 5)]) d_PA_assignment_1 rfl (by decide) rfl ?_
  refine vr_aload_n d_PA_assignment_2 rfl rfl ?_
  have q1 := (l_chk h).1
  replace h := (l_chk h).2
  rcases l_calT h with ⟨v2, s2, ev2, h⟩ | ⟨v2, s2, ev2, hz⟩
  rotate_left
  · cases hz
    exact mh_threw (Qy := fun _ _ => True) 3 [] d_PA_assignment_3 C_PA_59 (c_PA_name hl ev2) q1 rfl rfl rfl (Nat.le_of_ble_eq_true rfl) (by omega) (by show 8 + (1 + 11) + 120 ≤ Lw + 60; omega) rfl ⟨rfl, rfl⟩
  refine mh_callU 3 [] d_PA_assignment_3 C_PA_59 (c_PA_name hl ev2) q1 rfl rfl rfl (Nat.le_of_ble_eq_true rfl) (by omega) (by show 8 + (1 + 11) + 120 ≤ Lw + 60; omega) ?_
  refine vr_aload_n d_PA_assignment_6 rfl rfl ?_
  refine vr_bipush 16 d_PA_assignment_7 (by decide) ?_
  have q3 := (l_chk h).1
  replace h := (l_chk h).2
  obtain ⟨v4, s4, ev4, h⟩ := l_calI h
  refine mh_callI 3 [.int 16] d_PA_assignment_9 C_PA_62 (c_PA_skip ev4) q3 rfl rfl rfl (Nat.le_of_ble_eq_true rfl) (by omega) (by show 8 + (2 + 11) + 0 ≤ Lw + 60; omega) ?_
  refine vr_if_eq (tgt := 31) d_PA_assignment_12 (by decide) (fun c12 => ?_) (fun c12 => ?_)
  · replace h := l_ifp c12 h
    exact mv_drop (q_PA_assignment_31 hl h_PA_sum hF hLw _ _ _ _ _ h) (And.intro rfl (And.intro rfl (And.intro rfl trivial)))
  · replace h := l_ifn c12 h
    refine vr_aload_n d_PA_assignment_15 rfl rfl ?_
    refine vr_iload_n d_PA_assignment_16 rfl rfl ?_
    refine vr_iconst 1 d_PA_assignment_17 (by decide) ?_
    refine vr_iadd d_PA_assignment_18 ?_
    have q5 := (l_chk h).1
    replace h := (l_chk h).2
    rcases l_calT h with ⟨v6, s6, ev6, h⟩ | ⟨v6, s6, ev6, hz⟩
    rotate_left
    · cases hz
      exact mh_threw (Qy := fun _ _ => True) 3 [.int (x1 + 1)] d_PA_assignment_19 C_PA_96 (h_PA_sum _ _ _ _ ev6) q5 rfl rfl rfl (Nat.le_of_ble_eq_true rfl) (by omega) (by show 8 + (8 + 11) + Lw ≤ Lw + 60; omega) rfl ⟨rfl, rfl⟩
    refine mh_callU 3 [.int (x1 + 1)] d_PA_assignment_19 C_PA_96 (h_PA_sum _ _ _ _ ev6) q5 rfl rfl rfl (Nat.le_of_ble_eq_true rfl) (by omega) (by show 8 + (8 + 11) + Lw ≤ Lw + 60; omega) ?_
    refine vr_aload_n d_PA_assignment_22 rfl rfl ?_
    refine vr_bipush 17 d_PA_assignment_23 (by decide) ?_
    have q7 := (l_chk h).1
    replace h := (l_chk h).2
    rcases l_calT h with ⟨v8, s8, ev8, h⟩ | ⟨v8, s8, ev8, hz⟩
    rotate_left
    · cases hz
      exact mh_threw (Qy := fun _ _ => True) 3 [.int 17] d_PA_assignment_25 C_PA_56 (c_PA_take hl ev8) q7 rfl rfl rfl (Nat.le_of_ble_eq_true rfl) (by omega) (by show 8 + (2 + 11) + 120 ≤ Lw + 60; omega) rfl ⟨rfl, rfl⟩
    refine mh_callU 3 [.int 17] d_PA_assignment_25 C_PA_56 (c_PA_take hl ev8) q7 rfl rfl rfl (Nat.le_of_ble_eq_true rfl) (by omega) (by show 8 + (2 + 11) + 120 ≤ Lw + 60; omega) ?_
    refine vr_bipush 6 d_PA_assignment_28 (by decide) ?_
    refine vr_istore_n (L' := [some (.ref a0), some (.int x1), some (.int 6)]) d_PA_assignment_30 rfl (by decide) rfl ?_
    exact mv_drop (q_PA_assignment_31 hl h_PA_sum hF hLw _ _ _ _ _ h) (And.intro rfl (And.intro rfl (And.intro rfl trivial)))

def f_PA_conditional (N : Nat) (p_PA_condition : Nat → Int32 → Int32 → Int32 → mh_H → Option (Bool × Int32 × mh_H)) (p_PA_block : Nat → Int32 → mh_H → Option (Bool × Int32 × mh_H)) (a0 : Nat) (x1 : Int32) (σ : mh_H) : Option (Bool × Int32 × mh_H) := chk (hT σ a0 = 7) <| rfO (hR σ 3 2 a0) fun b2 => chk (hT σ b2 = 2) <| chk (ib (hI σ 3 3 a0) (hN σ b2)) <| bnd ((hA σ b2 (Int32.toNatClampNeg (hI σ 3 3 a0)))) fun v5 => calT (f_PA_take N a0 v5 σ) fun v6 s6 => chk (hT s6 a0 = 7) <| calT (p_PA_condition a0 ((x1 + 1)) 12 13 s6) fun v8 s8 => if v5 = 9 then (chk (hT s8 a0 = 7) <| calT (f_PA_take N a0 19 s8) fun v16 s16 => some (false, 10, s16)) else (chk (hT s8 a0 = 7) <| calT (p_PA_block a0 ((x1 + 1)) s8) fun v10 s10 => if v5 = 8 then (some (false, 9, s10)) else (chk (hT s10 a0 = 7) <| calI (f_PA_skip N a0 7 s10) fun v12 s12 => if v12 = 0 then (some (false, 8, s12)) else (chk (hT s12 a0 = 7) <| calT (p_PA_block a0 ((x1 + 1)) s12) fun v14 s14 => some (false, 8, s14))))
theorem c_PA_conditional {g : mv_G} {N : Nat} {p_PA_condition : Nat → Int32 → Int32 → Int32 → mh_H → Option (Bool × Int32 × mh_H)} {p_PA_block : Nat → Int32 → mh_H → Option (Bool × Int32 × mh_H)} (hl : (mg_l g).stackTraces = false) {F Lw : Nat} (h_PA_condition : pkV3 g M_PA_condition F Lw p_PA_condition) (h_PA_block : pkV1 g M_PA_block F Lw p_PA_block) (hF : 40 ≤ F) (hLw : 1000 ≤ Lw) : pkI1 g M_PA_conditional (F + 1) (Lw + 60) (f_PA_conditional N p_PA_condition p_PA_block) := by
  intro a0 x1 σ r h
  refine mv_entry (L := [some (.ref a0), some (.int x1), none]) rfl rfl (Nat.le_of_ble_eq_true rfl) rfl ?_
  unfold f_PA_conditional at h
  refine vr_aload_n d_PA_conditional_0 rfl rfl ?_
  have q1 := (l_chk h).1
  replace h := (l_chk h).2
  obtain ⟨b2, eb2, h⟩ := l_rf h
  refine vr_getR (b := b2) d_PA_conditional_1 F_PA_29 rfl q1 eb2 ?_
  refine vr_aload_n d_PA_conditional_4 rfl rfl ?_
  refine vr_getI d_PA_conditional_5 F_PA_9 rfl q1 ?_
  have q3 := (l_chk h).1
  replace h := (l_chk h).2
  have q4 := (l_chk h).1
  replace h := (l_chk h).2
  refine vr_iald (t := 0) d_PA_conditional_8 rfl q3 (ib_in q4) ?_
  obtain ⟨v5, ev5, h⟩ := l_bnd h
  refine vr_nm ev5 ?_
  refine vr_istore_n (L' := [some (.ref a0), some (.int x1), some (.int v5)]) d_PA_conditional_9 rfl (by decide) rfl ?_
  refine vr_aload_n d_PA_conditional_10 rfl rfl ?_
  refine vr_iload_n d_PA_conditional_11 rfl rfl ?_
  rcases l_calT h with ⟨v6, s6, ev6, h⟩ | ⟨v6, s6, ev6, hz⟩
  rotate_left
  · cases hz
    exact mh_threw (Qy := fun _ _ => True) 3 [.int v5] d_PA_conditional_12 C_PA_56 (c_PA_take hl ev6) q1 rfl rfl rfl (Nat.le_of_ble_eq_true rfl) (by omega) (by show 8 + (2 + 11) + 120 ≤ Lw + 60; omega) rfl ⟨rfl, rfl⟩
  refine mh_callU 3 [.int v5] d_PA_conditional_12 C_PA_56 (c_PA_take hl ev6) q1 rfl rfl rfl (Nat.le_of_ble_eq_true rfl) (by omega) (by show 8 + (2 + 11) + 120 ≤ Lw + 60; omega) ?_
  refine vr_aload_n d_PA_conditional_15 rfl rfl ?_
  refine vr_iload_n d_PA_conditional_16 rfl rfl ?_
  refine vr_iconst 1 d_PA_conditional_17 (by decide) ?_
  refine vr_iadd d_PA_conditional_18 ?_
  refine vr_bipush 12 d_PA_conditional_19 (by decide) ?_
  refine vr_bipush 13 d_PA_conditional_21 (by decide) ?_
  have q7 := (l_chk h).1
  replace h := (l_chk h).2
  rcases l_calT h with ⟨v8, s8, ev8, h⟩ | ⟨v8, s8, ev8, hz⟩
  rotate_left
  · cases hz
    exact mh_threw (Qy := fun _ _ => True) 3 [.int (x1 + 1), .int 12, .int 13] d_PA_conditional_23 C_PA_106 (h_PA_condition _ _ _ _ _ _ ev8) q7 rfl rfl rfl (Nat.le_of_ble_eq_true rfl) (by omega) (by show 8 + (7 + 11) + Lw ≤ Lw + 60; omega) rfl ⟨rfl, rfl⟩
  refine mh_callU 3 [.int (x1 + 1), .int 12, .int 13] d_PA_conditional_23 C_PA_106 (h_PA_condition _ _ _ _ _ _ ev8) q7 rfl rfl rfl (Nat.le_of_ble_eq_true rfl) (by omega) (by show 8 + (7 + 11) + Lw ≤ Lw + 60; omega) ?_
  refine vr_iload_n d_PA_conditional_26 rfl rfl ?_
  refine vr_bipush 9 d_PA_conditional_27 (by decide) ?_
  refine vr_icmp_ne (tgt := 41) d_PA_conditional_29 (by decide) (fun c29 => ?_) (fun c29 => ?_)
  · replace h := l_ifn c29 h
    refine vr_aload_n d_PA_conditional_41 rfl rfl ?_
    refine vr_iload_n d_PA_conditional_42 rfl rfl ?_
    refine vr_iconst 1 d_PA_conditional_43 (by decide) ?_
    refine vr_iadd d_PA_conditional_44 ?_
    have q9 := (l_chk h).1
    replace h := (l_chk h).2
    rcases l_calT h with ⟨v10, s10, ev10, h⟩ | ⟨v10, s10, ev10, hz⟩
    rotate_left
    · cases hz
      exact mh_threw (Qy := fun _ _ => True) 3 [.int (x1 + 1)] d_PA_conditional_45 C_PA_66 (h_PA_block _ _ _ _ ev10) q9 rfl rfl rfl (Nat.le_of_ble_eq_true rfl) (by omega) (by show 8 + (5 + 11) + Lw ≤ Lw + 60; omega) rfl ⟨rfl, rfl⟩
    refine mh_callU 3 [.int (x1 + 1)] d_PA_conditional_45 C_PA_66 (h_PA_block _ _ _ _ ev10) q9 rfl rfl rfl (Nat.le_of_ble_eq_true rfl) (by omega) (by show 8 + (5 + 11) + Lw ≤ Lw + 60; omega) ?_
    refine vr_iload_n d_PA_conditional_48 rfl rfl ?_
    refine vr_bipush 8 d_PA_conditional_49 (by decide) ?_
    refine vr_icmp_ne (tgt := 57) d_PA_conditional_51 (by decide) (fun c51 => ?_) (fun c51 => ?_)
    · replace h := l_ifn c51 h
      refine vr_aload_n d_PA_conditional_57 rfl rfl ?_
      refine vr_bipush 7 d_PA_conditional_58 (by decide) ?_
      have q11 := (l_chk h).1
      replace h := (l_chk h).2
      obtain ⟨v12, s12, ev12, h⟩ := l_calI h
      refine mh_callI 3 [.int 7] d_PA_conditional_60 C_PA_62 (c_PA_skip ev12) q11 rfl rfl rfl (Nat.le_of_ble_eq_true rfl) (by omega) (by show 8 + (2 + 11) + 0 ≤ Lw + 60; omega) ?_
      refine vr_if_eq (tgt := 73) d_PA_conditional_63 (by decide) (fun c63 => ?_) (fun c63 => ?_)
      · replace h := l_ifp c63 h
        refine vr_bipush 8 d_PA_conditional_73 (by decide) ?_
        cases h
        exact vr_iret d_PA_conditional_75 rfl rfl ⟨rfl, rfl⟩
      · replace h := l_ifn c63 h
        refine vr_aload_n d_PA_conditional_66 rfl rfl ?_
        refine vr_iload_n d_PA_conditional_67 rfl rfl ?_
        refine vr_iconst 1 d_PA_conditional_68 (by decide) ?_
        refine vr_iadd d_PA_conditional_69 ?_
        have q13 := (l_chk h).1
        replace h := (l_chk h).2
        rcases l_calT h with ⟨v14, s14, ev14, h⟩ | ⟨v14, s14, ev14, hz⟩
        rotate_left
        · cases hz
          exact mh_threw (Qy := fun _ _ => True) 3 [.int (x1 + 1)] d_PA_conditional_70 C_PA_66 (h_PA_block _ _ _ _ ev14) q13 rfl rfl rfl (Nat.le_of_ble_eq_true rfl) (by omega) (by show 8 + (5 + 11) + Lw ≤ Lw + 60; omega) rfl ⟨rfl, rfl⟩
        refine mh_callU 3 [.int (x1 + 1)] d_PA_conditional_70 C_PA_66 (h_PA_block _ _ _ _ ev14) q13 rfl rfl rfl (Nat.le_of_ble_eq_true rfl) (by omega) (by show 8 + (5 + 11) + Lw ≤ Lw + 60; omega) ?_
        refine vr_bipush 8 d_PA_conditional_73 (by decide) ?_
        cases h
        exact vr_iret d_PA_conditional_75 rfl rfl ⟨rfl, rfl⟩
    · replace h := l_ifp c51 h
      refine vr_bipush 9 d_PA_conditional_54 (by decide) ?_
      cases h
      exact vr_iret d_PA_conditional_56 rfl rfl ⟨rfl, rfl⟩
  · replace h := l_ifp c29 h
    refine vr_aload_n d_PA_conditional_32 rfl rfl ?_
    refine vr_bipush 19 d_PA_conditional_33 (by decide) ?_
    have q15 := (l_chk h).1
    replace h := (l_chk h).2
    rcases l_calT h with ⟨v16, s16, ev16, h⟩ | ⟨v16, s16, ev16, hz⟩
    rotate_left
    · cases hz
      exact mh_threw (Qy := fun _ _ => True) 3 [.int 19] d_PA_conditional_35 C_PA_56 (c_PA_take hl ev16) q15 rfl rfl rfl (Nat.le_of_ble_eq_true rfl) (by omega) (by show 8 + (2 + 11) + 120 ≤ Lw + 60; omega) rfl ⟨rfl, rfl⟩
    refine mh_callU 3 [.int 19] d_PA_conditional_35 C_PA_56 (c_PA_take hl ev16) q15 rfl rfl rfl (Nat.le_of_ble_eq_true rfl) (by omega) (by show 8 + (2 + 11) + 120 ≤ Lw + 60; omega) ?_
    refine vr_bipush 10 d_PA_conditional_38 (by decide) ?_
    cases h
    exact vr_iret d_PA_conditional_40 rfl rfl ⟨rfl, rfl⟩

def k_PA_condition_68 (N : Nat) (p_PA_both : Nat → Int32 → mh_H → Option (Bool × Int32 × mh_H)) (y0 : Nat) (y3 : Int32) (y4 : Int32) (y5 : Int32) (y6 : Int32) (σ : mh_H) : Option (Bool × Int32 × mh_H) := if y6 ≤ 0 then (chk (hT σ y0 = 7) <| calT (f_PA_take N y0 y3 σ) fun v21 s21 => some (false, 0, s21)) else (chk (hT σ y0 = 7) <| calV (f_PA_finish N y0 24 y5 y4 σ) fun s23 => chk (hT s23 y0 = 7) <| calT (f_PA_take N y0 y3 s23) fun v25 s25 => some (false, 0, s25))
theorem q_PA_condition_68 {g : mv_G} {N : Nat} {p_PA_both : Nat → Int32 → mh_H → Option (Bool × Int32 × mh_H)} (hl : (mg_l g).stackTraces = false) {F Lw : Nat} (h_PA_both : pkV1 g M_PA_both F Lw p_PA_both) (hF : 40 ≤ F) (hLw : 1000 ≤ Lw) (y0 : Nat) (y3 : Int32) (y4 : Int32) (y5 : Int32) (y6 : Int32) (σ : mh_H) (r : Bool × Int32 × mh_H) (h : k_PA_condition_68 N p_PA_both y0 y3 y4 y5 y6 σ = some r) : mv_V g M_PA_condition (F + 1) (Lw + 60) 0 0 68 [some (.ref y0), none, none, some (.int y3), some (.int y4), some (.int y5), some (.int y6)] [] σ (pcV r) := by
  unfold k_PA_condition_68 at h
  refine vr_iload d_PA_condition_68 rfl ?_
  refine vr_if_le (tgt := 83) d_PA_condition_70 (by decide) (fun c70 => ?_) (fun c70 => ?_)
  · replace h := l_ifp c70 h
    refine vr_aload_n d_PA_condition_83 rfl rfl ?_
    refine vr_iload_n d_PA_condition_84 rfl rfl ?_
    have q20 := (l_chk h).1
    replace h := (l_chk h).2
    rcases l_calT h with ⟨v21, s21, ev21, h⟩ | ⟨v21, s21, ev21, hz⟩
    rotate_left
    · cases hz
      exact mh_threw (Qy := fun _ _ => True) 3 [.int y3] d_PA_condition_85 C_PA_56 (c_PA_take hl ev21) q20 rfl rfl rfl (Nat.le_of_ble_eq_true rfl) (by omega) (by show 8 + (2 + 11) + 120 ≤ Lw + 60; omega) rfl ⟨rfl, rfl⟩
    refine mh_callU 3 [.int y3] d_PA_condition_85 C_PA_56 (c_PA_take hl ev21) q20 rfl rfl rfl (Nat.le_of_ble_eq_true rfl) (by omega) (by show 8 + (2 + 11) + 120 ≤ Lw + 60; omega) ?_
    cases h
    exact vr_vret d_PA_condition_88 rfl ⟨rfl, rfl⟩
  · replace h := l_ifn c70 h
    refine vr_aload_n d_PA_condition_73 rfl rfl ?_
    refine vr_bipush 24 d_PA_condition_74 (by decide) ?_
    refine vr_iload d_PA_condition_76 rfl ?_
    refine vr_iload d_PA_condition_78 rfl ?_
    have q22 := (l_chk h).1
    replace h := (l_chk h).2
    obtain ⟨s23, es23, h⟩ := l_calV h
    refine mh_callU 3 [.int 24, .int y5, .int y4] d_PA_condition_80 C_PA_69 (c_PA_finish es23) q22 rfl rfl rfl (Nat.le_of_ble_eq_true rfl) (by omega) (by show 8 + (4 + 11) + 24 ≤ Lw + 60; omega) ?_
    refine vr_aload_n d_PA_condition_83 rfl rfl ?_
    refine vr_iload_n d_PA_condition_84 rfl rfl ?_
    have q24 := (l_chk h).1
    replace h := (l_chk h).2
    rcases l_calT h with ⟨v25, s25, ev25, h⟩ | ⟨v25, s25, ev25, hz⟩
    rotate_left
    · cases hz
      exact mh_threw (Qy := fun _ _ => True) 3 [.int y3] d_PA_condition_85 C_PA_56 (c_PA_take hl ev25) q24 rfl rfl rfl (Nat.le_of_ble_eq_true rfl) (by omega) (by show 8 + (2 + 11) + 120 ≤ Lw + 60; omega) rfl ⟨rfl, rfl⟩
    refine mh_callU 3 [.int y3] d_PA_condition_85 C_PA_56 (c_PA_take hl ev25) q24 rfl rfl rfl (Nat.le_of_ble_eq_true rfl) (by omega) (by show 8 + (2 + 11) + 120 ≤ Lw + 60; omega) ?_
    cases h
    exact vr_vret d_PA_condition_88 rfl ⟨rfl, rfl⟩

def k_PA_condition_36 (N : Nat) (p_PA_both : Nat → Int32 → mh_H → Option (Bool × Int32 × mh_H)) : Nat → Nat → Int32 → Int32 → Int32 → Int32 → Int32 → mh_H → Option (Bool × Int32 × mh_H)
  | 0, _, _, _, _, _, _, _ => none
  | n + 1, y0, y1, y3, y4, y5, y6, σ => chk (hT σ y0 = 7) <| rfO (hR σ 3 0 y0) fun b15 => chk (hT σ b15 = 9) <| if (hI σ 4 5 b15) ≤ y6 then (k_PA_condition_68 N p_PA_both y0 y3 y4 y5 y6 σ) else (calI (f_PA_skip N y0 34 σ) fun v17 s17 => if v17 = 0 then (k_PA_condition_68 N p_PA_both y0 y3 y4 y5 y6 s17) else (chk (hT s17 y0 = 7) <| calT (p_PA_both y0 y1 s17) fun v19 s19 => k_PA_condition_36 N p_PA_both n y0 y1 y3 y4 y5 ((y6 + 1)) s19))
theorem q_PA_condition_36 {g : mv_G} {N : Nat} {p_PA_both : Nat → Int32 → mh_H → Option (Bool × Int32 × mh_H)} (hl : (mg_l g).stackTraces = false) {F Lw : Nat} (h_PA_both : pkV1 g M_PA_both F Lw p_PA_both) (hF : 40 ≤ F) (hLw : 1000 ≤ Lw) : ∀ (n : Nat) (y0 : Nat) (y1 : Int32) (y3 : Int32) (y4 : Int32) (y5 : Int32) (y6 : Int32) (σ : mh_H) (r : Bool × Int32 × mh_H), k_PA_condition_36 N p_PA_both n y0 y1 y3 y4 y5 y6 σ = some r → mv_V g M_PA_condition (F + 1) (Lw + 60) 0 0 36 [some (.ref y0), some (.int y1), none, some (.int y3), some (.int y4), some (.int y5), some (.int y6)] [] σ (pcV r) := by
  intro n
  induction n with
  | zero =>
    intro y0 y1 y3 y4 y5 y6 σ r h
    exact absurd h (by simp [k_PA_condition_36])
  | succ n ih =>
    intro y0 y1 y3 y4 y5 y6 σ r h 
    unfold k_PA_condition_36 at h
    refine vr_iload d_PA_condition_36 rfl ?_
    refine vr_aload_n d_PA_condition_38 rfl rfl ?_
    have q14 := (l_chk h).1
    replace h := (l_chk h).2
    obtain ⟨b15, eb15, h⟩ := l_rf h
    refine vr_getR (b := b15) d_PA_condition_39 F_PA_15 rfl q14 eb15 ?_
    have q16 := (l_chk h).1
    replace h := (l_chk h).2
    refine vr_getI d_PA_condition_42 F_PA_30 rfl q16 ?_
    refine vr_icmp_ge (tgt := 68) d_PA_condition_45 (by decide) (fun c45 => ?_) (fun c45 => ?_)
    · replace h := l_ifp c45 h
      exact mv_drop (q_PA_condition_68 hl h_PA_both hF hLw _ _ _ _ _ _ _ h) (And.intro rfl (And.intro rfl (And.intro rfl (And.intro rfl (And.intro rfl trivial)))))
    · replace h := l_ifn c45 h
      refine vr_aload_n d_PA_condition_48 rfl rfl ?_
      refine vr_bipush 34 d_PA_condition_49 (by decide) ?_
      obtain ⟨v17, s17, ev17, h⟩ := l_calI h
      refine mh_callI 3 [.int 34] d_PA_condition_51 C_PA_62 (c_PA_skip ev17) q14 rfl rfl rfl (Nat.le_of_ble_eq_true rfl) (by omega) (by show 8 + (2 + 11) + 0 ≤ Lw + 60; omega) ?_
      refine vr_if_eq (tgt := 68) d_PA_condition_54 (by decide) (fun c54 => ?_) (fun c54 => ?_)
      · replace h := l_ifp c54 h
        exact mv_drop (q_PA_condition_68 hl h_PA_both hF hLw _ _ _ _ _ _ _ h) (And.intro rfl (And.intro rfl (And.intro rfl (And.intro rfl (And.intro rfl trivial)))))
      · replace h := l_ifn c54 h
        refine vr_aload_n d_PA_condition_57 rfl rfl ?_
        refine vr_iload_n d_PA_condition_58 rfl rfl ?_
        have q18 := (l_chk h).1
        replace h := (l_chk h).2
        rcases l_calT h with ⟨v19, s19, ev19, h⟩ | ⟨v19, s19, ev19, hz⟩
        rotate_left
        · cases hz
          exact mh_threw (Qy := fun _ _ => True) 3 [.int y1] d_PA_condition_59 C_PA_109 (h_PA_both _ _ _ _ ev19) q18 rfl rfl rfl (Nat.le_of_ble_eq_true rfl) (by omega) (by show 8 + (5 + 11) + Lw ≤ Lw + 60; omega) rfl ⟨rfl, rfl⟩
        refine mh_callU 3 [.int y1] d_PA_condition_59 C_PA_109 (h_PA_both _ _ _ _ ev19) q18 rfl rfl rfl (Nat.le_of_ble_eq_true rfl) (by omega) (by show 8 + (5 + 11) + Lw ≤ Lw + 60; omega) ?_
        refine vr_iinc (L' := [some (.ref y0), some (.int y1), none, some (.int y3), some (.int y4), some (.int y5), some (.int (y6 + 1))]) (y6 + 1) d_PA_condition_62 (by decide) rfl rfl rfl ?_
        refine vr_goto (tgt := 36) d_PA_condition_65 (by decide) ?_
        exact mv_drop (ih _ _ _ _ _ _ _ _ h) (And.intro rfl (And.intro rfl (And.intro rfl (And.intro rfl (And.intro rfl (And.intro rfl trivial))))))

def f_PA_condition (N : Nat) (p_PA_both : Nat → Int32 → mh_H → Option (Bool × Int32 × mh_H)) (a0 : Nat) (x1 : Int32) (x2 : Int32) (x3 : Int32) (σ : mh_H) : Option (Bool × Int32 × mh_H) := chk (hT σ a0 = 7) <| calT (f_PA_take N a0 x2 σ) fun v2 s2 => chk (hT s2 a0 = 7) <| calT (f_PA_limit N a0 x1 s2) fun v4 s4 => chk (hT s4 a0 = 7) <| rfO (hR s4 3 1 a0) fun b6 => chk (hT s4 b6 = 3) <| bnd ((hI s4 1 4 b6)) fun v8 => calT (p_PA_both a0 x1 s4) fun v9 s9 => chk (hT s9 a0 = 7) <| rfO (hR s9 3 1 a0) fun b11 => chk (hT s9 b11 = 3) <| calI (f_DR_lastPlace N b11 s9) fun v13 s13 => k_PA_condition_36 N p_PA_both N a0 x1 x3 v8 v13 0 s13
theorem c_PA_condition {g : mv_G} {N : Nat} {p_PA_both : Nat → Int32 → mh_H → Option (Bool × Int32 × mh_H)} (hl : (mg_l g).stackTraces = false) {F Lw : Nat} (h_PA_both : pkV1 g M_PA_both F Lw p_PA_both) (hF : 40 ≤ F) (hLw : 1000 ≤ Lw) : pkV3 g M_PA_condition (F + 1) (Lw + 60) (f_PA_condition N p_PA_both) := by
  intro a0 x1 x2 x3 σ r h
  refine mv_entry (L := [some (.ref a0), some (.int x1), some (.int x2), some (.int x3), none, none, none]) rfl rfl (Nat.le_of_ble_eq_true rfl) rfl ?_
  unfold f_PA_condition at h
  refine vr_aload_n d_PA_condition_0 rfl rfl ?_
  refine vr_iload_n d_PA_condition_1 rfl rfl ?_
  have q1 := (l_chk h).1
  replace h := (l_chk h).2
  rcases l_calT h with ⟨v2, s2, ev2, h⟩ | ⟨v2, s2, ev2, hz⟩
  rotate_left
  · cases hz
    exact mh_threw (Qy := fun _ _ => True) 3 [.int x2] d_PA_condition_2 C_PA_56 (c_PA_take hl ev2) q1 rfl rfl rfl (Nat.le_of_ble_eq_true rfl) (by omega) (by show 8 + (2 + 11) + 120 ≤ Lw + 60; omega) rfl ⟨rfl, rfl⟩
  refine mh_callU 3 [.int x2] d_PA_condition_2 C_PA_56 (c_PA_take hl ev2) q1 rfl rfl rfl (Nat.le_of_ble_eq_true rfl) (by omega) (by show 8 + (2 + 11) + 120 ≤ Lw + 60; omega) ?_
  refine vr_aload_n d_PA_condition_5 rfl rfl ?_
  refine vr_iload_n d_PA_condition_6 rfl rfl ?_
  have q3 := (l_chk h).1
  replace h := (l_chk h).2
  rcases l_calT h with ⟨v4, s4, ev4, h⟩ | ⟨v4, s4, ev4, hz⟩
  rotate_left
  · cases hz
    exact mh_threw (Qy := fun _ _ => True) 3 [.int x1] d_PA_condition_7 C_PA_73 (c_PA_limit hl ev4) q3 rfl rfl rfl (Nat.le_of_ble_eq_true rfl) (by omega) (by show 8 + (2 + 11) + 120 ≤ Lw + 60; omega) rfl ⟨rfl, rfl⟩
  refine mh_callU 3 [.int x1] d_PA_condition_7 C_PA_73 (c_PA_limit hl ev4) q3 rfl rfl rfl (Nat.le_of_ble_eq_true rfl) (by omega) (by show 8 + (2 + 11) + 120 ≤ Lw + 60; omega) ?_
  refine vr_aload_n d_PA_condition_10 rfl rfl ?_
  have q5 := (l_chk h).1
  replace h := (l_chk h).2
  obtain ⟨b6, eb6, h⟩ := l_rf h
  refine vr_getR (b := b6) d_PA_condition_11 F_PA_19 rfl q5 eb6 ?_
  have q7 := (l_chk h).1
  replace h := (l_chk h).2
  refine vr_getI d_PA_condition_14 F_PA_42 rfl q7 ?_
  obtain ⟨v8, ev8, h⟩ := l_bnd h
  refine vr_nm ev8 ?_
  refine vr_istore (L' := [some (.ref a0), some (.int x1), some (.int x2), some (.int x3), some (.int v8), none, none]) d_PA_condition_17 (by decide) rfl ?_
  refine vr_aload_n d_PA_condition_19 rfl rfl ?_
  refine vr_iload_n d_PA_condition_20 rfl rfl ?_
  rcases l_calT h with ⟨v9, s9, ev9, h⟩ | ⟨v9, s9, ev9, hz⟩
  rotate_left
  · cases hz
    exact mh_threw (Qy := fun _ _ => True) 3 [.int x1] d_PA_condition_21 C_PA_109 (h_PA_both _ _ _ _ ev9) q5 rfl rfl rfl (Nat.le_of_ble_eq_true rfl) (by omega) (by show 8 + (5 + 11) + Lw ≤ Lw + 60; omega) rfl ⟨rfl, rfl⟩
  refine mh_callU 3 [.int x1] d_PA_condition_21 C_PA_109 (h_PA_both _ _ _ _ ev9) q5 rfl rfl rfl (Nat.le_of_ble_eq_true rfl) (by omega) (by show 8 + (5 + 11) + Lw ≤ Lw + 60; omega) ?_
  refine vr_aload_n d_PA_condition_24 rfl rfl ?_
  have q10 := (l_chk h).1
  replace h := (l_chk h).2
  obtain ⟨b11, eb11, h⟩ := l_rf h
  refine vr_getR (b := b11) d_PA_condition_25 F_PA_19 rfl q10 eb11 ?_
  have q12 := (l_chk h).1
  replace h := (l_chk h).2
  obtain ⟨v13, s13, ev13, h⟩ := l_calI h
  refine mh_callI 1 [] d_PA_condition_28 C_PA_112 (c_DR_lastPlace ev13) q12 rfl rfl rfl (Nat.le_of_ble_eq_true rfl) (by omega) (by show 8 + (1 + 11) + 0 ≤ Lw + 60; omega) ?_
  refine vr_istore (L' := [some (.ref a0), some (.int x1), some (.int x2), some (.int x3), some (.int v8), some (.int v13), none]) d_PA_condition_31 (by decide) rfl ?_
  refine vr_iconst 0 d_PA_condition_33 (by decide) ?_
  refine vr_istore (L' := [some (.ref a0), some (.int x1), some (.int x2), some (.int x3), some (.int v8), some (.int v13), some (.int 0)]) d_PA_condition_34 (by decide) rfl ?_
  exact mv_drop (q_PA_condition_36 hl h_PA_both hF hLw N _ _ _ _ _ _ _ _ h) (And.intro rfl (And.intro rfl (And.intro rfl (And.intro rfl (And.intro rfl (And.intro rfl trivial))))))

def k_PA_both_56 (N : Nat) (p_PA_test : Nat → Int32 → mh_H → Option (Bool × Int32 × mh_H)) (y0 : Nat) (y2 : Int32) (y3 : Int32) (y4 : Int32) (σ : mh_H) : Option (Bool × Int32 × mh_H) := if y4 ≤ 0 then (some (false, 0, σ)) else (chk (hT σ y0 = 7) <| calV (f_PA_finish N y0 25 y3 y2 σ) fun s17 => some (false, 0, s17))
theorem q_PA_both_56 {g : mv_G} {N : Nat} {p_PA_test : Nat → Int32 → mh_H → Option (Bool × Int32 × mh_H)} (hl : (mg_l g).stackTraces = false) {F Lw : Nat} (h_PA_test : pkV1 g M_PA_test F Lw p_PA_test) (hF : 40 ≤ F) (hLw : 1000 ≤ Lw) (y0 : Nat) (y2 : Int32) (y3 : Int32) (y4 : Int32) (σ : mh_H) (r : Bool × Int32 × mh_H) (h : k_PA_both_56 N p_PA_test y0 y2 y3 y4 σ = some r) : mv_V g M_PA_both (F + 1) (Lw + 60) 0 0 56 [some (.ref y0), none, some (.int y2), some (.int y3), some (.int y4)] [] σ (pcV r) := by
  unfold k_PA_both_56 at h
  refine vr_iload d_PA_both_56 rfl ?_
  refine vr_if_le (tgt := 69) d_PA_both_58 (by decide) (fun c58 => ?_) (fun c58 => ?_)
  · replace h := l_ifp c58 h
    cases h
    exact vr_vret d_PA_both_69 rfl ⟨rfl, rfl⟩
  · replace h := l_ifn c58 h
    refine vr_aload_n d_PA_both_61 rfl rfl ?_
    refine vr_bipush 25 d_PA_both_62 (by decide) ?_
    refine vr_iload_n d_PA_both_64 rfl rfl ?_
    refine vr_iload_n d_PA_both_65 rfl rfl ?_
    have q16 := (l_chk h).1
    replace h := (l_chk h).2
    obtain ⟨s17, es17, h⟩ := l_calV h
    refine mh_callU 3 [.int 25, .int y3, .int y2] d_PA_both_66 C_PA_69 (c_PA_finish es17) q16 rfl rfl rfl (Nat.le_of_ble_eq_true rfl) (by omega) (by show 8 + (4 + 11) + 24 ≤ Lw + 60; omega) ?_
    cases h
    exact vr_vret d_PA_both_69 rfl ⟨rfl, rfl⟩

def k_PA_both_24 (N : Nat) (p_PA_test : Nat → Int32 → mh_H → Option (Bool × Int32 × mh_H)) : Nat → Nat → Int32 → Int32 → Int32 → Int32 → mh_H → Option (Bool × Int32 × mh_H)
  | 0, _, _, _, _, _, _ => none
  | n + 1, y0, y1, y2, y3, y4, σ => chk (hT σ y0 = 7) <| rfO (hR σ 3 0 y0) fun b11 => chk (hT σ b11 = 9) <| if (hI σ 4 5 b11) ≤ y4 then (k_PA_both_56 N p_PA_test y0 y2 y3 y4 σ) else (calI (f_PA_skip N y0 33 σ) fun v13 s13 => if v13 = 0 then (k_PA_both_56 N p_PA_test y0 y2 y3 y4 s13) else (chk (hT s13 y0 = 7) <| calT (p_PA_test y0 y1 s13) fun v15 s15 => k_PA_both_24 N p_PA_test n y0 y1 y2 y3 ((y4 + 1)) s15))
theorem q_PA_both_24 {g : mv_G} {N : Nat} {p_PA_test : Nat → Int32 → mh_H → Option (Bool × Int32 × mh_H)} (hl : (mg_l g).stackTraces = false) {F Lw : Nat} (h_PA_test : pkV1 g M_PA_test F Lw p_PA_test) (hF : 40 ≤ F) (hLw : 1000 ≤ Lw) : ∀ (n : Nat) (y0 : Nat) (y1 : Int32) (y2 : Int32) (y3 : Int32) (y4 : Int32) (σ : mh_H) (r : Bool × Int32 × mh_H), k_PA_both_24 N p_PA_test n y0 y1 y2 y3 y4 σ = some r → mv_V g M_PA_both (F + 1) (Lw + 60) 0 0 24 [some (.ref y0), some (.int y1), some (.int y2), some (.int y3), some (.int y4)] [] σ (pcV r) := by
  intro n
  induction n with
  | zero =>
    intro y0 y1 y2 y3 y4 σ r h
    exact absurd h (by simp [k_PA_both_24])
  | succ n ih =>
    intro y0 y1 y2 y3 y4 σ r h 
    unfold k_PA_both_24 at h
    refine vr_iload d_PA_both_24 rfl ?_
    refine vr_aload_n d_PA_both_26 rfl rfl ?_
    have q10 := (l_chk h).1
    replace h := (l_chk h).2
    obtain ⟨b11, eb11, h⟩ := l_rf h
    refine vr_getR (b := b11) d_PA_both_27 F_PA_15 rfl q10 eb11 ?_
    have q12 := (l_chk h).1
    replace h := (l_chk h).2
    refine vr_getI d_PA_both_30 F_PA_30 rfl q12 ?_
    refine vr_icmp_ge (tgt := 56) d_PA_both_33 (by decide) (fun c33 => ?_) (fun c33 => ?_)
    · replace h := l_ifp c33 h
      exact mv_drop (q_PA_both_56 hl h_PA_test hF hLw _ _ _ _ _ _ h) (And.intro rfl (And.intro rfl (And.intro rfl (And.intro rfl trivial))))
    · replace h := l_ifn c33 h
      refine vr_aload_n d_PA_both_36 rfl rfl ?_
      refine vr_bipush 33 d_PA_both_37 (by decide) ?_
      obtain ⟨v13, s13, ev13, h⟩ := l_calI h
      refine mh_callI 3 [.int 33] d_PA_both_39 C_PA_62 (c_PA_skip ev13) q10 rfl rfl rfl (Nat.le_of_ble_eq_true rfl) (by omega) (by show 8 + (2 + 11) + 0 ≤ Lw + 60; omega) ?_
      refine vr_if_eq (tgt := 56) d_PA_both_42 (by decide) (fun c42 => ?_) (fun c42 => ?_)
      · replace h := l_ifp c42 h
        exact mv_drop (q_PA_both_56 hl h_PA_test hF hLw _ _ _ _ _ _ h) (And.intro rfl (And.intro rfl (And.intro rfl (And.intro rfl trivial))))
      · replace h := l_ifn c42 h
        refine vr_aload_n d_PA_both_45 rfl rfl ?_
        refine vr_iload_n d_PA_both_46 rfl rfl ?_
        have q14 := (l_chk h).1
        replace h := (l_chk h).2
        rcases l_calT h with ⟨v15, s15, ev15, h⟩ | ⟨v15, s15, ev15, hz⟩
        rotate_left
        · cases hz
          exact mh_threw (Qy := fun _ _ => True) 3 [.int y1] d_PA_both_47 C_PA_116 (h_PA_test _ _ _ _ ev15) q14 rfl rfl rfl (Nat.le_of_ble_eq_true rfl) (by omega) (by show 8 + (5 + 11) + Lw ≤ Lw + 60; omega) rfl ⟨rfl, rfl⟩
        refine mh_callU 3 [.int y1] d_PA_both_47 C_PA_116 (h_PA_test _ _ _ _ ev15) q14 rfl rfl rfl (Nat.le_of_ble_eq_true rfl) (by omega) (by show 8 + (5 + 11) + Lw ≤ Lw + 60; omega) ?_
        refine vr_iinc (L' := [some (.ref y0), some (.int y1), some (.int y2), some (.int y3), some (.int (y4 + 1))]) (y4 + 1) d_PA_both_50 (by decide) rfl rfl rfl ?_
        refine vr_goto (tgt := 24) d_PA_both_53 (by decide) ?_
        exact mv_drop (ih _ _ _ _ _ _ _ h) (And.intro rfl (And.intro rfl (And.intro rfl (And.intro rfl (And.intro rfl trivial)))))

def f_PA_both (N : Nat) (p_PA_test : Nat → Int32 → mh_H → Option (Bool × Int32 × mh_H)) (a0 : Nat) (x1 : Int32) (σ : mh_H) : Option (Bool × Int32 × mh_H) := chk (hT σ a0 = 7) <| rfO (hR σ 3 1 a0) fun b2 => chk (hT σ b2 = 3) <| bnd ((hI σ 1 4 b2)) fun v4 => calT (p_PA_test a0 x1 σ) fun v5 s5 => chk (hT s5 a0 = 7) <| rfO (hR s5 3 1 a0) fun b7 => chk (hT s5 b7 = 3) <| calI (f_DR_lastPlace N b7 s5) fun v9 s9 => k_PA_both_24 N p_PA_test N a0 x1 v4 v9 0 s9
theorem c_PA_both {g : mv_G} {N : Nat} {p_PA_test : Nat → Int32 → mh_H → Option (Bool × Int32 × mh_H)} (hl : (mg_l g).stackTraces = false) {F Lw : Nat} (h_PA_test : pkV1 g M_PA_test F Lw p_PA_test) (hF : 40 ≤ F) (hLw : 1000 ≤ Lw) : pkV1 g M_PA_both (F + 1) (Lw + 60) (f_PA_both N p_PA_test) := by
  intro a0 x1 σ r h
  refine mv_entry (L := [some (.ref a0), some (.int x1), none, none, none]) rfl rfl (Nat.le_of_ble_eq_true rfl) rfl ?_
  unfold f_PA_both at h
  refine vr_aload_n d_PA_both_0 rfl rfl ?_
  have q1 := (l_chk h).1
  replace h := (l_chk h).2
  obtain ⟨b2, eb2, h⟩ := l_rf h
  refine vr_getR (b := b2) d_PA_both_1 F_PA_19 rfl q1 eb2 ?_
  have q3 := (l_chk h).1
  replace h := (l_chk h).2
  refine vr_getI d_PA_both_4 F_PA_42 rfl q3 ?_
  obtain ⟨v4, ev4, h⟩ := l_bnd h
  refine vr_nm ev4 ?_
  refine vr_istore_n (L' := [some (.ref a0), some (.int x1), some (.int v4), none, none]) d_PA_both_7 rfl (by decide) rfl ?_
  refine vr_aload_n d_PA_both_8 rfl rfl ?_
  refine vr_iload_n d_PA_both_9 rfl rfl ?_
  rcases l_calT h with ⟨v5, s5, ev5, h⟩ | ⟨v5, s5, ev5, hz⟩
  rotate_left
  · cases hz
    exact mh_threw (Qy := fun _ _ => True) 3 [.int x1] d_PA_both_10 C_PA_116 (h_PA_test _ _ _ _ ev5) q1 rfl rfl rfl (Nat.le_of_ble_eq_true rfl) (by omega) (by show 8 + (5 + 11) + Lw ≤ Lw + 60; omega) rfl ⟨rfl, rfl⟩
  refine mh_callU 3 [.int x1] d_PA_both_10 C_PA_116 (h_PA_test _ _ _ _ ev5) q1 rfl rfl rfl (Nat.le_of_ble_eq_true rfl) (by omega) (by show 8 + (5 + 11) + Lw ≤ Lw + 60; omega) ?_
  refine vr_aload_n d_PA_both_13 rfl rfl ?_
  have q6 := (l_chk h).1
  replace h := (l_chk h).2
  obtain ⟨b7, eb7, h⟩ := l_rf h
  refine vr_getR (b := b7) d_PA_both_14 F_PA_19 rfl q6 eb7 ?_
  have q8 := (l_chk h).1
  replace h := (l_chk h).2
  obtain ⟨v9, s9, ev9, h⟩ := l_calI h
  refine mh_callI 1 [] d_PA_both_17 C_PA_112 (c_DR_lastPlace ev9) q8 rfl rfl rfl (Nat.le_of_ble_eq_true rfl) (by omega) (by show 8 + (1 + 11) + 0 ≤ Lw + 60; omega) ?_
  refine vr_istore_n (L' := [some (.ref a0), some (.int x1), some (.int v4), some (.int v9), none]) d_PA_both_20 rfl (by decide) rfl ?_
  refine vr_iconst 0 d_PA_both_21 (by decide) ?_
  refine vr_istore (L' := [some (.ref a0), some (.int x1), some (.int v4), some (.int v9), some (.int 0)]) d_PA_both_22 (by decide) rfl ?_
  exact mv_drop (q_PA_both_24 hl h_PA_test hF hLw N _ _ _ _ _ _ _ h) (And.intro rfl (And.intro rfl (And.intro rfl (And.intro rfl (And.intro rfl trivial)))))

def k_PA_test_123 (N : Nat) (p_PA_test : Nat → Int32 → mh_H → Option (Bool × Int32 × mh_H)) (p_PA_condition : Nat → Int32 → Int32 → Int32 → mh_H → Option (Bool × Int32 × mh_H)) (p_PA_sum : Nat → Int32 → mh_H → Option (Bool × Int32 × mh_H)) (y0 : Nat) (y1 : Int32) (y2 : Int32) (y3 : Int32) (y4 : Int32) (σ : mh_H) : Option (Bool × Int32 × mh_H) := chk (hT σ y0 = 7) <| calT (f_PA_take N y0 y4 σ) fun v36 s36 => chk (hT s36 y0 = 7) <| calT (p_PA_sum y0 ((y1 + 1)) s36) fun v38 s38 => chk (hT s38 y0 = 7) <| calV (f_PA_finish N y0 (((27 + y4) - 27)) y3 y2 s38) fun s40 => some (false, 0, s40)
theorem q_PA_test_123 {g : mv_G} {N : Nat} {p_PA_test : Nat → Int32 → mh_H → Option (Bool × Int32 × mh_H)} {p_PA_condition : Nat → Int32 → Int32 → Int32 → mh_H → Option (Bool × Int32 × mh_H)} {p_PA_sum : Nat → Int32 → mh_H → Option (Bool × Int32 × mh_H)} (hl : (mg_l g).stackTraces = false) {F Lw : Nat} (h_PA_test : pkV1 g M_PA_test F Lw p_PA_test) (h_PA_condition : pkV3 g M_PA_condition F Lw p_PA_condition) (h_PA_sum : pkV1 g M_PA_sum F Lw p_PA_sum) (hF : 40 ≤ F) (hLw : 1000 ≤ Lw) (y0 : Nat) (y1 : Int32) (y2 : Int32) (y3 : Int32) (y4 : Int32) (σ : mh_H) (r : Bool × Int32 × mh_H) (h : k_PA_test_123 N p_PA_test p_PA_condition p_PA_sum y0 y1 y2 y3 y4 σ = some r) : mv_V g M_PA_test (F + 1) (Lw + 60) 0 0 123 [some (.ref y0), some (.int y1), some (.int y2), some (.int y3), some (.int y4)] [] σ (pcV r) := by
  unfold k_PA_test_123 at h
  refine vr_aload_n d_PA_test_123 rfl rfl ?_
  refine vr_iload d_PA_test_124 rfl ?_
  have q35 := (l_chk h).1
  replace h := (l_chk h).2
  rcases l_calT h with ⟨v36, s36, ev36, h⟩ | ⟨v36, s36, ev36, hz⟩
  rotate_left
  · cases hz
    exact mh_threw (Qy := fun _ _ => True) 3 [.int y4] d_PA_test_126 C_PA_56 (c_PA_take hl ev36) q35 rfl rfl rfl (Nat.le_of_ble_eq_true rfl) (by omega) (by show 8 + (2 + 11) + 120 ≤ Lw + 60; omega) rfl ⟨rfl, rfl⟩
  refine mh_callU 3 [.int y4] d_PA_test_126 C_PA_56 (c_PA_take hl ev36) q35 rfl rfl rfl (Nat.le_of_ble_eq_true rfl) (by omega) (by show 8 + (2 + 11) + 120 ≤ Lw + 60; omega) ?_
  refine vr_aload_n d_PA_test_129 rfl rfl ?_
  refine vr_iload_n d_PA_test_130 rfl rfl ?_
  refine vr_iconst 1 d_PA_test_131 (by decide) ?_
  refine vr_iadd d_PA_test_132 ?_
  have q37 := (l_chk h).1
  replace h := (l_chk h).2
  rcases l_calT h with ⟨v38, s38, ev38, h⟩ | ⟨v38, s38, ev38, hz⟩
  rotate_left
  · cases hz
    exact mh_threw (Qy := fun _ _ => True) 3 [.int (y1 + 1)] d_PA_test_133 C_PA_96 (h_PA_sum _ _ _ _ ev38) q37 rfl rfl rfl (Nat.le_of_ble_eq_true rfl) (by omega) (by show 8 + (8 + 11) + Lw ≤ Lw + 60; omega) rfl ⟨rfl, rfl⟩
  refine mh_callU 3 [.int (y1 + 1)] d_PA_test_133 C_PA_96 (h_PA_sum _ _ _ _ ev38) q37 rfl rfl rfl (Nat.le_of_ble_eq_true rfl) (by omega) (by show 8 + (8 + 11) + Lw ≤ Lw + 60; omega) ?_
  refine vr_aload_n d_PA_test_136 rfl rfl ?_
  refine vr_bipush 27 d_PA_test_137 (by decide) ?_
  refine vr_iload d_PA_test_139 rfl ?_
  refine vr_iadd d_PA_test_141 ?_
  refine vr_bipush 27 d_PA_test_142 (by decide) ?_
  refine vr_isub d_PA_test_144 ?_
  refine vr_iload_n d_PA_test_145 rfl rfl ?_
  refine vr_iload_n d_PA_test_146 rfl rfl ?_
  have q39 := (l_chk h).1
  replace h := (l_chk h).2
  obtain ⟨s40, es40, h⟩ := l_calV h
  refine mh_callU 3 [.int ((27 + y4) - 27), .int y3, .int y2] d_PA_test_147 C_PA_69 (c_PA_finish es40) q39 rfl rfl rfl (Nat.le_of_ble_eq_true rfl) (by omega) (by show 8 + (4 + 11) + 24 ≤ Lw + 60; omega) ?_
  cases h
  exact vr_vret d_PA_test_150 rfl ⟨rfl, rfl⟩

def f_PA_test (N : Nat) (p_PA_test : Nat → Int32 → mh_H → Option (Bool × Int32 × mh_H)) (p_PA_condition : Nat → Int32 → Int32 → Int32 → mh_H → Option (Bool × Int32 × mh_H)) (p_PA_sum : Nat → Int32 → mh_H → Option (Bool × Int32 × mh_H)) (a0 : Nat) (x1 : Int32) (σ : mh_H) : Option (Bool × Int32 × mh_H) := chk (hT σ a0 = 7) <| calT (f_PA_limit N a0 x1 σ) fun v2 s2 => chk (hT s2 a0 = 7) <| rfO (hR s2 3 1 a0) fun b4 => chk (hT s2 b4 = 3) <| bnd ((hI s2 1 4 b4)) fun v6 => rfO (hR s2 3 0 a0) fun b7 => chk (hT s2 b7 = 9) <| rfO (hR s2 4 3 b7) fun b9 => chk (hT s2 b9 = 2) <| chk (ib (hI s2 3 3 a0) (hN s2 b9)) <| bnd ((hA s2 b9 (Int32.toNatClampNeg (hI s2 3 3 a0)))) fun v12 => calI (f_PA_skip N a0 21 s2) fun v13 s13 => if v13 = 0 then (chk (hT s13 a0 = 7) <| rfO (hR s13 3 2 a0) fun b15 => chk (hT s13 b15 = 2) <| chk (ib (hI s13 3 3 a0) (hN s13 b15)) <| if (hA s13 b15 (Int32.toNatClampNeg (hI s13 3 3 a0))) = 16 then (calT (p_PA_condition a0 ((x1 + 1)) 16 17 s13) fun v30 s30 => some (false, 0, s30)) else (calT (p_PA_sum a0 ((x1 + 1)) s13) fun v18 s18 => chk (hT s18 a0 = 7) <| rfO (hR s18 3 1 a0) fun b20 => chk (hT s18 b20 = 3) <| calI (f_DR_lastPlace N b20 s18) fun v22 s22 => chk (hT s22 a0 = 7) <| rfO (hR s22 3 2 a0) fun b24 => chk (hT s22 b24 = 2) <| chk (ib (hI s22 3 3 a0) (hN s22 b24)) <| bnd ((hA s22 b24 (Int32.toNatClampNeg (hI s22 3 3 a0)))) fun v27 => calP (f_PA_isIn N v27 27 32) fun v28 => if v28 = 0 then (calT (f_PA_refuse N a0 s22) fun v29 s29 => k_PA_test_123 N p_PA_test p_PA_condition p_PA_sum a0 x1 v6 v22 v27 s29) else (k_PA_test_123 N p_PA_test p_PA_condition p_PA_sum a0 x1 v6 v22 v27 s22))) else (chk (hT s13 a0 = 7) <| calT (p_PA_test a0 ((x1 + 1)) s13) fun v32 s32 => chk (hT s32 a0 = 7) <| calV (f_PA_finish N a0 26 v12 v6 s32) fun s34 => some (false, 0, s34))
theorem c_PA_test {g : mv_G} {N : Nat} {p_PA_test : Nat → Int32 → mh_H → Option (Bool × Int32 × mh_H)} {p_PA_condition : Nat → Int32 → Int32 → Int32 → mh_H → Option (Bool × Int32 × mh_H)} {p_PA_sum : Nat → Int32 → mh_H → Option (Bool × Int32 × mh_H)} (hl : (mg_l g).stackTraces = false) {F Lw : Nat} (h_PA_test : pkV1 g M_PA_test F Lw p_PA_test) (h_PA_condition : pkV3 g M_PA_condition F Lw p_PA_condition) (h_PA_sum : pkV1 g M_PA_sum F Lw p_PA_sum) (hF : 40 ≤ F) (hLw : 1000 ≤ Lw) : pkV1 g M_PA_test (F + 1) (Lw + 60) (f_PA_test N p_PA_test p_PA_condition p_PA_sum) := by
  intro a0 x1 σ r h
  refine mv_entry (L := [some (.ref a0), some (.int x1), none, none, none]) rfl rfl (Nat.le_of_ble_eq_true rfl) rfl ?_
  unfold f_PA_test at h
  refine vr_aload_n d_PA_test_0 rfl rfl ?_
  refine vr_iload_n d_PA_test_1 rfl rfl ?_
  have q1 := (l_chk h).1
  replace h := (l_chk h).2
  rcases l_calT h with ⟨v2, s2, ev2, h⟩ | ⟨v2, s2, ev2, hz⟩
  rotate_left
  · cases hz
    exact mh_threw (Qy := fun _ _ => True) 3 [.int x1] d_PA_test_2 C_PA_73 (c_PA_limit hl ev2) q1 rfl rfl rfl (Nat.le_of_ble_eq_true rfl) (by omega) (by show 8 + (2 + 11) + 120 ≤ Lw + 60; omega) rfl ⟨rfl, rfl⟩
  refine mh_callU 3 [.int x1] d_PA_test_2 C_PA_73 (c_PA_limit hl ev2) q1 rfl rfl rfl (Nat.le_of_ble_eq_true rfl) (by omega) (by show 8 + (2 + 11) + 120 ≤ Lw + 60; omega) ?_
  refine vr_aload_n d_PA_test_5 rfl rfl ?_
  have q3 := (l_chk h).1
  replace h := (l_chk h).2
  obtain ⟨b4, eb4, h⟩ := l_rf h
  refine vr_getR (b := b4) d_PA_test_6 F_PA_19 rfl q3 eb4 ?_
  have q5 := (l_chk h).1
  replace h := (l_chk h).2
  refine vr_getI d_PA_test_9 F_PA_42 rfl q5 ?_
  obtain ⟨v6, ev6, h⟩ := l_bnd h
  refine vr_nm ev6 ?_
  refine vr_istore_n (L' := [some (.ref a0), some (.int x1), some (.int v6), none, none]) d_PA_test_12 rfl (by decide) rfl ?_
  refine vr_aload_n d_PA_test_13 rfl rfl ?_
  obtain ⟨b7, eb7, h⟩ := l_rf h
  refine vr_getR (b := b7) d_PA_test_14 F_PA_15 rfl q3 eb7 ?_
  have q8 := (l_chk h).1
  replace h := (l_chk h).2
  obtain ⟨b9, eb9, h⟩ := l_rf h
  refine vr_getR (b := b9) d_PA_test_17 F_PA_45 rfl q8 eb9 ?_
  refine vr_aload_n d_PA_test_20 rfl rfl ?_
  refine vr_getI d_PA_test_21 F_PA_9 rfl q3 ?_
  have q10 := (l_chk h).1
  replace h := (l_chk h).2
  have q11 := (l_chk h).1
  replace h := (l_chk h).2
  refine vr_iald (t := 0) d_PA_test_24 rfl q10 (ib_in q11) ?_
  obtain ⟨v12, ev12, h⟩ := l_bnd h
  refine vr_nm ev12 ?_
  refine vr_istore_n (L' := [some (.ref a0), some (.int x1), some (.int v6), some (.int v12), none]) d_PA_test_25 rfl (by decide) rfl ?_
  refine vr_aload_n d_PA_test_26 rfl rfl ?_
  refine vr_bipush 21 d_PA_test_27 (by decide) ?_
  obtain ⟨v13, s13, ev13, h⟩ := l_calI h
  refine mh_callI 3 [.int 21] d_PA_test_29 C_PA_62 (c_PA_skip ev13) q3 rfl rfl rfl (Nat.le_of_ble_eq_true rfl) (by omega) (by show 8 + (2 + 11) + 0 ≤ Lw + 60; omega) ?_
  refine vr_if_eq (tgt := 53) d_PA_test_32 (by decide) (fun c32 => ?_) (fun c32 => ?_)
  · replace h := l_ifp c32 h
    refine vr_aload_n d_PA_test_53 rfl rfl ?_
    have q14 := (l_chk h).1
    replace h := (l_chk h).2
    obtain ⟨b15, eb15, h⟩ := l_rf h
    refine vr_getR (b := b15) d_PA_test_54 F_PA_29 rfl q14 eb15 ?_
    refine vr_aload_n d_PA_test_57 rfl rfl ?_
    refine vr_getI d_PA_test_58 F_PA_9 rfl q14 ?_
    have q16 := (l_chk h).1
    replace h := (l_chk h).2
    have q17 := (l_chk h).1
    replace h := (l_chk h).2
    refine vr_iald (t := 0) d_PA_test_61 rfl q16 (ib_in q17) ?_
    refine vr_bipush 16 d_PA_test_62 (by decide) ?_
    refine vr_icmp_ne (tgt := 81) d_PA_test_64 (by decide) (fun c64 => ?_) (fun c64 => ?_)
    · replace h := l_ifn c64 h
      refine vr_aload_n d_PA_test_81 rfl rfl ?_
      refine vr_iload_n d_PA_test_82 rfl rfl ?_
      refine vr_iconst 1 d_PA_test_83 (by decide) ?_
      refine vr_iadd d_PA_test_84 ?_
      rcases l_calT h with ⟨v18, s18, ev18, h⟩ | ⟨v18, s18, ev18, hz⟩
      rotate_left
      · cases hz
        exact mh_threw (Qy := fun _ _ => True) 3 [.int (x1 + 1)] d_PA_test_85 C_PA_96 (h_PA_sum _ _ _ _ ev18) q14 rfl rfl rfl (Nat.le_of_ble_eq_true rfl) (by omega) (by show 8 + (8 + 11) + Lw ≤ Lw + 60; omega) rfl ⟨rfl, rfl⟩
      refine mh_callU 3 [.int (x1 + 1)] d_PA_test_85 C_PA_96 (h_PA_sum _ _ _ _ ev18) q14 rfl rfl rfl (Nat.le_of_ble_eq_true rfl) (by omega) (by show 8 + (8 + 11) + Lw ≤ Lw + 60; omega) ?_
      refine vr_aload_n d_PA_test_88 rfl rfl ?_
      have q19 := (l_chk h).1
      replace h := (l_chk h).2
      obtain ⟨b20, eb20, h⟩ := l_rf h
      refine vr_getR (b := b20) d_PA_test_89 F_PA_19 rfl q19 eb20 ?_
      have q21 := (l_chk h).1
      replace h := (l_chk h).2
      obtain ⟨v22, s22, ev22, h⟩ := l_calI h
      refine mh_callI 1 [] d_PA_test_92 C_PA_112 (c_DR_lastPlace ev22) q21 rfl rfl rfl (Nat.le_of_ble_eq_true rfl) (by omega) (by show 8 + (1 + 11) + 0 ≤ Lw + 60; omega) ?_
      refine vr_istore_n (L' := [some (.ref a0), some (.int x1), some (.int v6), some (.int v22), none]) d_PA_test_95 rfl (by decide) rfl ?_
      refine vr_aload_n d_PA_test_96 rfl rfl ?_
      have q23 := (l_chk h).1
      replace h := (l_chk h).2
      obtain ⟨b24, eb24, h⟩ := l_rf h
      refine vr_getR (b := b24) d_PA_test_97 F_PA_29 rfl q23 eb24 ?_
      refine vr_aload_n d_PA_test_100 rfl rfl ?_
      refine vr_getI d_PA_test_101 F_PA_9 rfl q23 ?_
      have q25 := (l_chk h).1
      replace h := (l_chk h).2
      have q26 := (l_chk h).1
      replace h := (l_chk h).2
      refine vr_iald (t := 0) d_PA_test_104 rfl q25 (ib_in q26) ?_
      obtain ⟨v27, ev27, h⟩ := l_bnd h
      refine vr_nm ev27 ?_
      refine vr_istore (L' := [some (.ref a0), some (.int x1), some (.int v6), some (.int v22), some (.int v27)]) d_PA_test_105 (by decide) rfl ?_
      refine vr_iload d_PA_test_107 rfl ?_
      refine vr_bipush 27 d_PA_test_109 (by decide) ?_
      refine vr_bipush 32 d_PA_test_111 (by decide) ?_
      obtain ⟨v28, ev28, h⟩ := l_calP h
      refine vr_callSP [.int v27, .int 27, .int 32] d_PA_test_113 C_PA_119 (c_PA_isIn ev28) rfl rfl (Nat.le_of_ble_eq_true rfl) (by omega) (by show 8 + (3 + 11) + 0 ≤ Lw + 60; omega) ?_
      refine vr_if_ne (tgt := 123) d_PA_test_116 (by decide) (fun c116 => ?_) (fun c116 => ?_)
      · replace h := l_ifn c116 h
        exact mv_drop (q_PA_test_123 hl h_PA_test h_PA_condition h_PA_sum hF hLw _ _ _ _ _ _ _ h) (And.intro rfl (And.intro rfl (And.intro rfl (And.intro rfl (And.intro rfl trivial)))))
      · replace h := l_ifp c116 h
        refine vr_aload_n d_PA_test_119 rfl rfl ?_
        rcases l_calT h with ⟨v29, s29, ev29, h⟩ | ⟨v29, s29, ev29, hz⟩
        rotate_left
        · cases hz
          exact mh_threw (Qy := fun _ _ => True) 3 [] d_PA_test_120 C_PA_123 (c_PA_refuse hl ev29) q23 rfl rfl rfl (Nat.le_of_ble_eq_true rfl) (by omega) (by show 8 + (1 + 11) + 100 ≤ Lw + 60; omega) rfl ⟨rfl, rfl⟩
        refine mh_callU 3 [] d_PA_test_120 C_PA_123 (c_PA_refuse hl ev29) q23 rfl rfl rfl (Nat.le_of_ble_eq_true rfl) (by omega) (by show 8 + (1 + 11) + 100 ≤ Lw + 60; omega) ?_
        exact mv_drop (q_PA_test_123 hl h_PA_test h_PA_condition h_PA_sum hF hLw _ _ _ _ _ _ _ h) (And.intro rfl (And.intro rfl (And.intro rfl (And.intro rfl (And.intro rfl trivial)))))
    · replace h := l_ifp c64 h
      refine vr_aload_n d_PA_test_67 rfl rfl ?_
      refine vr_iload_n d_PA_test_68 rfl rfl ?_
      refine vr_iconst 1 d_PA_test_69 (by decide) ?_
      refine vr_iadd d_PA_test_70 ?_
      refine vr_bipush 16 d_PA_test_71 (by decide) ?_
      refine vr_bipush 17 d_PA_test_73 (by decide) ?_
      rcases l_calT h with ⟨v30, s30, ev30, h⟩ | ⟨v30, s30, ev30, hz⟩
      rotate_left
      · cases hz
        exact mh_threw (Qy := fun _ _ => True) 3 [.int (x1 + 1), .int 16, .int 17] d_PA_test_75 C_PA_106 (h_PA_condition _ _ _ _ _ _ ev30) q14 rfl rfl rfl (Nat.le_of_ble_eq_true rfl) (by omega) (by show 8 + (7 + 11) + Lw ≤ Lw + 60; omega) rfl ⟨rfl, rfl⟩
      refine mh_callU 3 [.int (x1 + 1), .int 16, .int 17] d_PA_test_75 C_PA_106 (h_PA_condition _ _ _ _ _ _ ev30) q14 rfl rfl rfl (Nat.le_of_ble_eq_true rfl) (by omega) (by show 8 + (7 + 11) + Lw ≤ Lw + 60; omega) ?_
      refine vr_goto (tgt := 150) d_PA_test_78 (by decide) ?_
      cases h
      exact vr_vret d_PA_test_150 rfl ⟨rfl, rfl⟩
  · replace h := l_ifn c32 h
    refine vr_aload_n d_PA_test_35 rfl rfl ?_
    refine vr_iload_n d_PA_test_36 rfl rfl ?_
    refine vr_iconst 1 d_PA_test_37 (by decide) ?_
    refine vr_iadd d_PA_test_38 ?_
    have q31 := (l_chk h).1
    replace h := (l_chk h).2
    rcases l_calT h with ⟨v32, s32, ev32, h⟩ | ⟨v32, s32, ev32, hz⟩
    rotate_left
    · cases hz
      exact mh_threw (Qy := fun _ _ => True) 3 [.int (x1 + 1)] d_PA_test_39 C_PA_116 (h_PA_test _ _ _ _ ev32) q31 rfl rfl rfl (Nat.le_of_ble_eq_true rfl) (by omega) (by show 8 + (5 + 11) + Lw ≤ Lw + 60; omega) rfl ⟨rfl, rfl⟩
    refine mh_callU 3 [.int (x1 + 1)] d_PA_test_39 C_PA_116 (h_PA_test _ _ _ _ ev32) q31 rfl rfl rfl (Nat.le_of_ble_eq_true rfl) (by omega) (by show 8 + (5 + 11) + Lw ≤ Lw + 60; omega) ?_
    refine vr_aload_n d_PA_test_42 rfl rfl ?_
    refine vr_bipush 26 d_PA_test_43 (by decide) ?_
    refine vr_iload_n d_PA_test_45 rfl rfl ?_
    refine vr_iload_n d_PA_test_46 rfl rfl ?_
    have q33 := (l_chk h).1
    replace h := (l_chk h).2
    obtain ⟨s34, es34, h⟩ := l_calV h
    refine mh_callU 3 [.int 26, .int v12, .int v6] d_PA_test_47 C_PA_69 (c_PA_finish es34) q33 rfl rfl rfl (Nat.le_of_ble_eq_true rfl) (by omega) (by show 8 + (4 + 11) + 24 ≤ Lw + 60; omega) ?_
    refine vr_goto (tgt := 150) d_PA_test_50 (by decide) ?_
    cases h
    exact vr_vret d_PA_test_150 rfl ⟨rfl, rfl⟩

def k_PA_sum_127 (N : Nat) (p_PA_term : Nat → Int32 → mh_H → Option (Bool × Int32 × mh_H)) (y0 : Nat) (y2 : Int32) (y3 : Int32) (y4 : Int32) (σ : mh_H) : Option (Bool × Int32 × mh_H) := if y4 ≤ 0 then (some (false, 0, σ)) else (chk (hT σ y0 = 7) <| calV (f_PA_finish N y0 17 y3 y2 σ) fun s34 => some (false, 0, s34))
theorem q_PA_sum_127 {g : mv_G} {N : Nat} {p_PA_term : Nat → Int32 → mh_H → Option (Bool × Int32 × mh_H)} (hl : (mg_l g).stackTraces = false) {F Lw : Nat} (h_PA_term : pkV1 g M_PA_term F Lw p_PA_term) (hF : 40 ≤ F) (hLw : 1000 ≤ Lw) (y0 : Nat) (y2 : Int32) (y3 : Int32) (y4 : Int32) (σ : mh_H) (r : Bool × Int32 × mh_H) (h : k_PA_sum_127 N p_PA_term y0 y2 y3 y4 σ = some r) : mv_V g M_PA_sum (F + 1) (Lw + 60) 0 0 127 [some (.ref y0), none, some (.int y2), some (.int y3), some (.int y4), none, none, none] [] σ (pcV r) := by
  unfold k_PA_sum_127 at h
  refine vr_iload d_PA_sum_127 rfl ?_
  refine vr_if_le (tgt := 140) d_PA_sum_129 (by decide) (fun c129 => ?_) (fun c129 => ?_)
  · replace h := l_ifp c129 h
    cases h
    exact vr_vret d_PA_sum_140 rfl ⟨rfl, rfl⟩
  · replace h := l_ifn c129 h
    refine vr_aload_n d_PA_sum_132 rfl rfl ?_
    refine vr_bipush 17 d_PA_sum_133 (by decide) ?_
    refine vr_iload_n d_PA_sum_135 rfl rfl ?_
    refine vr_iload_n d_PA_sum_136 rfl rfl ?_
    have q33 := (l_chk h).1
    replace h := (l_chk h).2
    obtain ⟨s34, es34, h⟩ := l_calV h
    refine mh_callU 3 [.int 17, .int y3, .int y2] d_PA_sum_137 C_PA_69 (c_PA_finish es34) q33 rfl rfl rfl (Nat.le_of_ble_eq_true rfl) (by omega) (by show 8 + (4 + 11) + 24 ≤ Lw + 60; omega) ?_
    cases h
    exact vr_vret d_PA_sum_140 rfl ⟨rfl, rfl⟩

def k_PA_sum_29 (N : Nat) (p_PA_term : Nat → Int32 → mh_H → Option (Bool × Int32 × mh_H)) : Nat → Nat → Int32 → Int32 → Int32 → Int32 → mh_H → Option (Bool × Int32 × mh_H)
  | 0, _, _, _, _, _, _ => none
  | n + 1, y0, y1, y2, y3, y4, σ => chk (hT σ y0 = 7) <| rfO (hR σ 3 0 y0) fun b13 => chk (hT σ b13 = 9) <| if (hI σ 4 5 b13) ≤ y4 then (k_PA_sum_127 N p_PA_term y0 y2 y3 y4 σ) else (rfO (hR σ 3 2 y0) fun b15 => chk (hT σ b15 = 2) <| chk (ib (hI σ 3 3 y0) (hN σ b15)) <| calP (f_PA_isIn N ((hA σ b15 (Int32.toNatClampNeg (hI σ 3 3 y0)))) 22 23) fun v18 => if v18 = 0 then (k_PA_sum_127 N p_PA_term y0 y2 y3 y4 σ) else (chk (ib (hI σ 3 3 y0) (hN σ b15)) <| bnd ((hA σ b15 (Int32.toNatClampNeg (hI σ 3 3 y0)))) fun v20 => rfO (hR σ 4 3 b13) fun b21 => chk (hT σ b21 = 2) <| chk (ib (hI σ 3 3 y0) (hN σ b21)) <| bnd ((hA σ b21 (Int32.toNatClampNeg (hI σ 3 3 y0)))) fun v24 => rfO (hR σ 3 1 y0) fun b25 => chk (hT σ b25 = 3) <| bnd ((hI σ 1 4 b25)) fun v27 => calT (f_PA_take N y0 v20 σ) fun v28 s28 => chk (hT s28 y0 = 7) <| calT (p_PA_term y0 y1 s28) fun v30 s30 => chk (hT s30 y0 = 7) <| calV (f_PA_finish N y0 (((18 + v20) - 22)) v24 v27 s30) fun s32 => k_PA_sum_29 N p_PA_term n y0 y1 y2 y3 ((y4 + 1)) s32))
theorem q_PA_sum_29 {g : mv_G} {N : Nat} {p_PA_term : Nat → Int32 → mh_H → Option (Bool × Int32 × mh_H)} (hl : (mg_l g).stackTraces = false) {F Lw : Nat} (h_PA_term : pkV1 g M_PA_term F Lw p_PA_term) (hF : 40 ≤ F) (hLw : 1000 ≤ Lw) : ∀ (n : Nat) (y0 : Nat) (y1 : Int32) (y2 : Int32) (y3 : Int32) (y4 : Int32) (σ : mh_H) (r : Bool × Int32 × mh_H), k_PA_sum_29 N p_PA_term n y0 y1 y2 y3 y4 σ = some r → mv_V g M_PA_sum (F + 1) (Lw + 60) 0 0 29 [some (.ref y0), some (.int y1), some (.int y2), some (.int y3), some (.int y4), none, none, none] [] σ (pcV r) := by
  intro n
  induction n with
  | zero =>
    intro y0 y1 y2 y3 y4 σ r h
    exact absurd h (by simp [k_PA_sum_29])
  | succ n ih =>
    intro y0 y1 y2 y3 y4 σ r h 
    unfold k_PA_sum_29 at h
    refine vr_iload d_PA_sum_29 rfl ?_
    refine vr_aload_n d_PA_sum_31 rfl rfl ?_
    have q12 := (l_chk h).1
    replace h := (l_chk h).2
    obtain ⟨b13, eb13, h⟩ := l_rf h
    refine vr_getR (b := b13) d_PA_sum_32 F_PA_15 rfl q12 eb13 ?_
    have q14 := (l_chk h).1
    replace h := (l_chk h).2
    refine vr_getI d_PA_sum_35 F_PA_30 rfl q14 ?_
    refine vr_icmp_ge (tgt := 127) d_PA_sum_38 (by decide) (fun c38 => ?_) (fun c38 => ?_)
    · replace h := l_ifp c38 h
      exact mv_drop (q_PA_sum_127 hl h_PA_term hF hLw _ _ _ _ _ _ h) (And.intro rfl (And.intro rfl (And.intro rfl (And.intro rfl trivial))))
    · replace h := l_ifn c38 h
      refine vr_aload_n d_PA_sum_41 rfl rfl ?_
      obtain ⟨b15, eb15, h⟩ := l_rf h
      refine vr_getR (b := b15) d_PA_sum_42 F_PA_29 rfl q12 eb15 ?_
      refine vr_aload_n d_PA_sum_45 rfl rfl ?_
      refine vr_getI d_PA_sum_46 F_PA_9 rfl q12 ?_
      have q16 := (l_chk h).1
      replace h := (l_chk h).2
      have q17 := (l_chk h).1
      replace h := (l_chk h).2
      refine vr_iald (t := 0) d_PA_sum_49 rfl q16 (ib_in q17) ?_
      refine vr_bipush 22 d_PA_sum_50 (by decide) ?_
      refine vr_bipush 23 d_PA_sum_52 (by decide) ?_
      obtain ⟨v18, ev18, h⟩ := l_calP h
      refine vr_callSP [.int (hA σ b15 (Int32.toNatClampNeg (hI σ 3 3 y0))), .int 22, .int 23] d_PA_sum_54 C_PA_119 (c_PA_isIn ev18) rfl rfl (Nat.le_of_ble_eq_true rfl) (by omega) (by show 8 + (3 + 11) + 0 ≤ Lw + 60; omega) ?_
      refine vr_if_eq (tgt := 127) d_PA_sum_57 (by decide) (fun c57 => ?_) (fun c57 => ?_)
      · replace h := l_ifp c57 h
        exact mv_drop (q_PA_sum_127 hl h_PA_term hF hLw _ _ _ _ _ _ h) (And.intro rfl (And.intro rfl (And.intro rfl (And.intro rfl trivial))))
      · replace h := l_ifn c57 h
        refine vr_aload_n d_PA_sum_60 rfl rfl ?_
        refine vr_getR (b := b15) d_PA_sum_61 F_PA_29 rfl q12 eb15 ?_
        refine vr_aload_n d_PA_sum_64 rfl rfl ?_
        refine vr_getI d_PA_sum_65 F_PA_9 rfl q12 ?_
        have q19 := (l_chk h).1
        replace h := (l_chk h).2
        refine vr_iald (t := 0) d_PA_sum_68 rfl q16 (ib_in q19) ?_
        obtain ⟨v20, ev20, h⟩ := l_bnd h
        refine vr_nm ev20 ?_
        refine vr_istore (L' := [some (.ref y0), some (.int y1), some (.int y2), some (.int y3), some (.int y4), some (.int v20), none, none]) d_PA_sum_69 (by decide) rfl ?_
        refine vr_aload_n d_PA_sum_71 rfl rfl ?_
        refine vr_getR (b := b13) d_PA_sum_72 F_PA_15 rfl q12 eb13 ?_
        obtain ⟨b21, eb21, h⟩ := l_rf h
        refine vr_getR (b := b21) d_PA_sum_75 F_PA_45 rfl q14 eb21 ?_
        refine vr_aload_n d_PA_sum_78 rfl rfl ?_
        refine vr_getI d_PA_sum_79 F_PA_9 rfl q12 ?_
        have q22 := (l_chk h).1
        replace h := (l_chk h).2
        have q23 := (l_chk h).1
        replace h := (l_chk h).2
        refine vr_iald (t := 0) d_PA_sum_82 rfl q22 (ib_in q23) ?_
        obtain ⟨v24, ev24, h⟩ := l_bnd h
        refine vr_nm ev24 ?_
        refine vr_istore (L' := [some (.ref y0), some (.int y1), some (.int y2), some (.int y3), some (.int y4), some (.int v20), some (.int v24), none]) d_PA_sum_83 (by decide) rfl ?_
        refine vr_aload_n d_PA_sum_85 rfl rfl ?_
        obtain ⟨b25, eb25, h⟩ := l_rf h
        refine vr_getR (b := b25) d_PA_sum_86 F_PA_19 rfl q12 eb25 ?_
        have q26 := (l_chk h).1
        replace h := (l_chk h).2
        refine vr_getI d_PA_sum_89 F_PA_42 rfl q26 ?_
        obtain ⟨v27, ev27, h⟩ := l_bnd h
        refine vr_nm ev27 ?_
        refine vr_istore (L' := [some (.ref y0), some (.int y1), some (.int y2), some (.int y3), some (.int y4), some (.int v20), some (.int v24), some (.int v27)]) d_PA_sum_92 (by decide) rfl ?_
        refine vr_aload_n d_PA_sum_94 rfl rfl ?_
        refine vr_iload d_PA_sum_95 rfl ?_
        rcases l_calT h with ⟨v28, s28, ev28, h⟩ | ⟨v28, s28, ev28, hz⟩
        rotate_left
        · cases hz
          exact mh_threw (Qy := fun _ _ => True) 3 [.int v20] d_PA_sum_97 C_PA_56 (c_PA_take hl ev28) q12 rfl rfl rfl (Nat.le_of_ble_eq_true rfl) (by omega) (by show 8 + (2 + 11) + 120 ≤ Lw + 60; omega) rfl ⟨rfl, rfl⟩
        refine mh_callU 3 [.int v20] d_PA_sum_97 C_PA_56 (c_PA_take hl ev28) q12 rfl rfl rfl (Nat.le_of_ble_eq_true rfl) (by omega) (by show 8 + (2 + 11) + 120 ≤ Lw + 60; omega) ?_
        refine vr_aload_n d_PA_sum_100 rfl rfl ?_
        refine vr_iload_n d_PA_sum_101 rfl rfl ?_
        have q29 := (l_chk h).1
        replace h := (l_chk h).2
        rcases l_calT h with ⟨v30, s30, ev30, h⟩ | ⟨v30, s30, ev30, hz⟩
        rotate_left
        · cases hz
          exact mh_threw (Qy := fun _ _ => True) 3 [.int y1] d_PA_sum_102 C_PA_126 (h_PA_term _ _ _ _ ev30) q29 rfl rfl rfl (Nat.le_of_ble_eq_true rfl) (by omega) (by show 8 + (8 + 11) + Lw ≤ Lw + 60; omega) rfl ⟨rfl, rfl⟩
        refine mh_callU 3 [.int y1] d_PA_sum_102 C_PA_126 (h_PA_term _ _ _ _ ev30) q29 rfl rfl rfl (Nat.le_of_ble_eq_true rfl) (by omega) (by show 8 + (8 + 11) + Lw ≤ Lw + 60; omega) ?_
        refine vr_aload_n d_PA_sum_105 rfl rfl ?_
        refine vr_bipush 18 d_PA_sum_106 (by decide) ?_
        refine vr_iload d_PA_sum_108 rfl ?_
        refine vr_iadd d_PA_sum_110 ?_
        refine vr_bipush 22 d_PA_sum_111 (by decide) ?_
        refine vr_isub d_PA_sum_113 ?_
        refine vr_iload d_PA_sum_114 rfl ?_
        refine vr_iload d_PA_sum_116 rfl ?_
        have q31 := (l_chk h).1
        replace h := (l_chk h).2
        obtain ⟨s32, es32, h⟩ := l_calV h
        refine mh_callU 3 [.int ((18 + v20) - 22), .int v24, .int v27] d_PA_sum_118 C_PA_69 (c_PA_finish es32) q31 rfl rfl rfl (Nat.le_of_ble_eq_true rfl) (by omega) (by show 8 + (4 + 11) + 24 ≤ Lw + 60; omega) ?_
        refine vr_iinc (L' := [some (.ref y0), some (.int y1), some (.int y2), some (.int y3), some (.int (y4 + 1)), some (.int v20), some (.int v24), some (.int v27)]) (y4 + 1) d_PA_sum_121 (by decide) rfl rfl rfl ?_
        refine vr_goto (tgt := 29) d_PA_sum_124 (by decide) ?_
        exact mv_drop (ih _ _ _ _ _ _ _ h) (And.intro rfl (And.intro rfl (And.intro rfl (And.intro rfl (And.intro rfl trivial)))))

def f_PA_sum (N : Nat) (p_PA_term : Nat → Int32 → mh_H → Option (Bool × Int32 × mh_H)) (a0 : Nat) (x1 : Int32) (σ : mh_H) : Option (Bool × Int32 × mh_H) := chk (hT σ a0 = 7) <| calT (f_PA_limit N a0 x1 σ) fun v2 s2 => chk (hT s2 a0 = 7) <| rfO (hR s2 3 1 a0) fun b4 => chk (hT s2 b4 = 3) <| bnd ((hI s2 1 4 b4)) fun v6 => calT (p_PA_term a0 x1 s2) fun v7 s7 => chk (hT s7 a0 = 7) <| rfO (hR s7 3 1 a0) fun b9 => chk (hT s7 b9 = 3) <| calI (f_DR_lastPlace N b9 s7) fun v11 s11 => k_PA_sum_29 N p_PA_term N a0 x1 v6 v11 0 s11
theorem c_PA_sum {g : mv_G} {N : Nat} {p_PA_term : Nat → Int32 → mh_H → Option (Bool × Int32 × mh_H)} (hl : (mg_l g).stackTraces = false) {F Lw : Nat} (h_PA_term : pkV1 g M_PA_term F Lw p_PA_term) (hF : 40 ≤ F) (hLw : 1000 ≤ Lw) : pkV1 g M_PA_sum (F + 1) (Lw + 60) (f_PA_sum N p_PA_term) := by
  intro a0 x1 σ r h
  refine mv_entry (L := [some (.ref a0), some (.int x1), none, none, none, none, none, none]) rfl rfl (Nat.le_of_ble_eq_true rfl) rfl ?_
  unfold f_PA_sum at h
  refine vr_aload_n d_PA_sum_0 rfl rfl ?_
  refine vr_iload_n d_PA_sum_1 rfl rfl ?_
  have q1 := (l_chk h).1
  replace h := (l_chk h).2
  rcases l_calT h with ⟨v2, s2, ev2, h⟩ | ⟨v2, s2, ev2, hz⟩
  rotate_left
  · cases hz
    exact mh_threw (Qy := fun _ _ => True) 3 [.int x1] d_PA_sum_2 C_PA_73 (c_PA_limit hl ev2) q1 rfl rfl rfl (Nat.le_of_ble_eq_true rfl) (by omega) (by show 8 + (2 + 11) + 120 ≤ Lw + 60; omega) rfl ⟨rfl, rfl⟩
  refine mh_callU 3 [.int x1] d_PA_sum_2 C_PA_73 (c_PA_limit hl ev2) q1 rfl rfl rfl (Nat.le_of_ble_eq_true rfl) (by omega) (by show 8 + (2 + 11) + 120 ≤ Lw + 60; omega) ?_
  refine vr_aload_n d_PA_sum_5 rfl rfl ?_
  have q3 := (l_chk h).1
  replace h := (l_chk h).2
  obtain ⟨b4, eb4, h⟩ := l_rf h
  refine vr_getR (b := b4) d_PA_sum_6 F_PA_19 rfl q3 eb4 ?_
  have q5 := (l_chk h).1
  replace h := (l_chk h).2
  refine vr_getI d_PA_sum_9 F_PA_42 rfl q5 ?_
  obtain ⟨v6, ev6, h⟩ := l_bnd h
  refine vr_nm ev6 ?_
  refine vr_istore_n (L' := [some (.ref a0), some (.int x1), some (.int v6), none, none, none, none, none]) d_PA_sum_12 rfl (by decide) rfl ?_
  refine vr_aload_n d_PA_sum_13 rfl rfl ?_
  refine vr_iload_n d_PA_sum_14 rfl rfl ?_
  rcases l_calT h with ⟨v7, s7, ev7, h⟩ | ⟨v7, s7, ev7, hz⟩
  rotate_left
  · cases hz
    exact mh_threw (Qy := fun _ _ => True) 3 [.int x1] d_PA_sum_15 C_PA_126 (h_PA_term _ _ _ _ ev7) q3 rfl rfl rfl (Nat.le_of_ble_eq_true rfl) (by omega) (by show 8 + (8 + 11) + Lw ≤ Lw + 60; omega) rfl ⟨rfl, rfl⟩
  refine mh_callU 3 [.int x1] d_PA_sum_15 C_PA_126 (h_PA_term _ _ _ _ ev7) q3 rfl rfl rfl (Nat.le_of_ble_eq_true rfl) (by omega) (by show 8 + (8 + 11) + Lw ≤ Lw + 60; omega) ?_
  refine vr_aload_n d_PA_sum_18 rfl rfl ?_
  have q8 := (l_chk h).1
  replace h := (l_chk h).2
  obtain ⟨b9, eb9, h⟩ := l_rf h
  refine vr_getR (b := b9) d_PA_sum_19 F_PA_19 rfl q8 eb9 ?_
  have q10 := (l_chk h).1
  replace h := (l_chk h).2
  obtain ⟨v11, s11, ev11, h⟩ := l_calI h
  refine mh_callI 1 [] d_PA_sum_22 C_PA_112 (c_DR_lastPlace ev11) q10 rfl rfl rfl (Nat.le_of_ble_eq_true rfl) (by omega) (by show 8 + (1 + 11) + 0 ≤ Lw + 60; omega) ?_
  refine vr_istore_n (L' := [some (.ref a0), some (.int x1), some (.int v6), some (.int v11), none, none, none, none]) d_PA_sum_25 rfl (by decide) rfl ?_
  refine vr_iconst 0 d_PA_sum_26 (by decide) ?_
  refine vr_istore (L' := [some (.ref a0), some (.int x1), some (.int v6), some (.int v11), some (.int 0), none, none, none]) d_PA_sum_27 (by decide) rfl ?_
  exact mv_drop (q_PA_sum_29 hl h_PA_term hF hLw N _ _ _ _ _ _ _ h) (And.intro rfl (And.intro rfl (And.intro rfl (And.intro rfl (And.intro rfl trivial)))))

def k_PA_term_122 (N : Nat) (p_PA_factor : Nat → Int32 → mh_H → Option (Bool × Int32 × mh_H)) (y0 : Nat) (y2 : Int32) (y3 : Int32) (y4 : Int32) (σ : mh_H) : Option (Bool × Int32 × mh_H) := if y4 ≤ 0 then (some (false, 0, σ)) else (chk (hT σ y0 = 7) <| calV (f_PA_finish N y0 20 y3 y2 σ) fun s32 => some (false, 0, s32))
theorem q_PA_term_122 {g : mv_G} {N : Nat} {p_PA_factor : Nat → Int32 → mh_H → Option (Bool × Int32 × mh_H)} (hl : (mg_l g).stackTraces = false) {F Lw : Nat} (h_PA_factor : pkV1 g M_PA_factor F Lw p_PA_factor) (hF : 40 ≤ F) (hLw : 1000 ≤ Lw) (y0 : Nat) (y2 : Int32) (y3 : Int32) (y4 : Int32) (σ : mh_H) (r : Bool × Int32 × mh_H) (h : k_PA_term_122 N p_PA_factor y0 y2 y3 y4 σ = some r) : mv_V g M_PA_term (F + 1) (Lw + 60) 0 0 122 [some (.ref y0), none, some (.int y2), some (.int y3), some (.int y4), none, none, none] [] σ (pcV r) := by
  unfold k_PA_term_122 at h
  refine vr_iload d_PA_term_122 rfl ?_
  refine vr_if_le (tgt := 135) d_PA_term_124 (by decide) (fun c124 => ?_) (fun c124 => ?_)
  · replace h := l_ifp c124 h
    cases h
    exact vr_vret d_PA_term_135 rfl ⟨rfl, rfl⟩
  · replace h := l_ifn c124 h
    refine vr_aload_n d_PA_term_127 rfl rfl ?_
    refine vr_bipush 20 d_PA_term_128 (by decide) ?_
    refine vr_iload_n d_PA_term_130 rfl rfl ?_
    refine vr_iload_n d_PA_term_131 rfl rfl ?_
    have q31 := (l_chk h).1
    replace h := (l_chk h).2
    obtain ⟨s32, es32, h⟩ := l_calV h
    refine mh_callU 3 [.int 20, .int y3, .int y2] d_PA_term_132 C_PA_69 (c_PA_finish es32) q31 rfl rfl rfl (Nat.le_of_ble_eq_true rfl) (by omega) (by show 8 + (4 + 11) + 24 ≤ Lw + 60; omega) ?_
    cases h
    exact vr_vret d_PA_term_135 rfl ⟨rfl, rfl⟩

def k_PA_term_24 (N : Nat) (p_PA_factor : Nat → Int32 → mh_H → Option (Bool × Int32 × mh_H)) : Nat → Nat → Int32 → Int32 → Int32 → Int32 → mh_H → Option (Bool × Int32 × mh_H)
  | 0, _, _, _, _, _, _ => none
  | n + 1, y0, y1, y2, y3, y4, σ => chk (hT σ y0 = 7) <| rfO (hR σ 3 0 y0) fun b11 => chk (hT σ b11 = 9) <| if (hI σ 4 5 b11) ≤ y4 then (k_PA_term_122 N p_PA_factor y0 y2 y3 y4 σ) else (rfO (hR σ 3 2 y0) fun b13 => chk (hT σ b13 = 2) <| chk (ib (hI σ 3 3 y0) (hN σ b13)) <| calP (f_PA_isIn N ((hA σ b13 (Int32.toNatClampNeg (hI σ 3 3 y0)))) 24 26) fun v16 => if v16 = 0 then (k_PA_term_122 N p_PA_factor y0 y2 y3 y4 σ) else (chk (ib (hI σ 3 3 y0) (hN σ b13)) <| bnd ((hA σ b13 (Int32.toNatClampNeg (hI σ 3 3 y0)))) fun v18 => rfO (hR σ 4 3 b11) fun b19 => chk (hT σ b19 = 2) <| chk (ib (hI σ 3 3 y0) (hN σ b19)) <| bnd ((hA σ b19 (Int32.toNatClampNeg (hI σ 3 3 y0)))) fun v22 => rfO (hR σ 3 1 y0) fun b23 => chk (hT σ b23 = 3) <| bnd ((hI σ 1 4 b23)) fun v25 => calT (f_PA_take N y0 v18 σ) fun v26 s26 => chk (hT s26 y0 = 7) <| calT (p_PA_factor y0 y1 s26) fun v28 s28 => chk (hT s28 y0 = 7) <| calV (f_PA_finish N y0 (((21 + v18) - 24)) v22 v25 s28) fun s30 => k_PA_term_24 N p_PA_factor n y0 y1 y2 y3 ((y4 + 1)) s30))
theorem q_PA_term_24 {g : mv_G} {N : Nat} {p_PA_factor : Nat → Int32 → mh_H → Option (Bool × Int32 × mh_H)} (hl : (mg_l g).stackTraces = false) {F Lw : Nat} (h_PA_factor : pkV1 g M_PA_factor F Lw p_PA_factor) (hF : 40 ≤ F) (hLw : 1000 ≤ Lw) : ∀ (n : Nat) (y0 : Nat) (y1 : Int32) (y2 : Int32) (y3 : Int32) (y4 : Int32) (σ : mh_H) (r : Bool × Int32 × mh_H), k_PA_term_24 N p_PA_factor n y0 y1 y2 y3 y4 σ = some r → mv_V g M_PA_term (F + 1) (Lw + 60) 0 0 24 [some (.ref y0), some (.int y1), some (.int y2), some (.int y3), some (.int y4), none, none, none] [] σ (pcV r) := by
  intro n
  induction n with
  | zero =>
    intro y0 y1 y2 y3 y4 σ r h
    exact absurd h (by simp [k_PA_term_24])
  | succ n ih =>
    intro y0 y1 y2 y3 y4 σ r h 
    unfold k_PA_term_24 at h
    refine vr_iload d_PA_term_24 rfl ?_
    refine vr_aload_n d_PA_term_26 rfl rfl ?_
    have q10 := (l_chk h).1
    replace h := (l_chk h).2
    obtain ⟨b11, eb11, h⟩ := l_rf h
    refine vr_getR (b := b11) d_PA_term_27 F_PA_15 rfl q10 eb11 ?_
    have q12 := (l_chk h).1
    replace h := (l_chk h).2
    refine vr_getI d_PA_term_30 F_PA_30 rfl q12 ?_
    refine vr_icmp_ge (tgt := 122) d_PA_term_33 (by decide) (fun c33 => ?_) (fun c33 => ?_)
    · replace h := l_ifp c33 h
      exact mv_drop (q_PA_term_122 hl h_PA_factor hF hLw _ _ _ _ _ _ h) (And.intro rfl (And.intro rfl (And.intro rfl (And.intro rfl trivial))))
    · replace h := l_ifn c33 h
      refine vr_aload_n d_PA_term_36 rfl rfl ?_
      obtain ⟨b13, eb13, h⟩ := l_rf h
      refine vr_getR (b := b13) d_PA_term_37 F_PA_29 rfl q10 eb13 ?_
      refine vr_aload_n d_PA_term_40 rfl rfl ?_
      refine vr_getI d_PA_term_41 F_PA_9 rfl q10 ?_
      have q14 := (l_chk h).1
      replace h := (l_chk h).2
      have q15 := (l_chk h).1
      replace h := (l_chk h).2
      refine vr_iald (t := 0) d_PA_term_44 rfl q14 (ib_in q15) ?_
      refine vr_bipush 24 d_PA_term_45 (by decide) ?_
      refine vr_bipush 26 d_PA_term_47 (by decide) ?_
      obtain ⟨v16, ev16, h⟩ := l_calP h
      refine vr_callSP [.int (hA σ b13 (Int32.toNatClampNeg (hI σ 3 3 y0))), .int 24, .int 26] d_PA_term_49 C_PA_119 (c_PA_isIn ev16) rfl rfl (Nat.le_of_ble_eq_true rfl) (by omega) (by show 8 + (3 + 11) + 0 ≤ Lw + 60; omega) ?_
      refine vr_if_eq (tgt := 122) d_PA_term_52 (by decide) (fun c52 => ?_) (fun c52 => ?_)
      · replace h := l_ifp c52 h
        exact mv_drop (q_PA_term_122 hl h_PA_factor hF hLw _ _ _ _ _ _ h) (And.intro rfl (And.intro rfl (And.intro rfl (And.intro rfl trivial))))
      · replace h := l_ifn c52 h
        refine vr_aload_n d_PA_term_55 rfl rfl ?_
        refine vr_getR (b := b13) d_PA_term_56 F_PA_29 rfl q10 eb13 ?_
        refine vr_aload_n d_PA_term_59 rfl rfl ?_
        refine vr_getI d_PA_term_60 F_PA_9 rfl q10 ?_
        have q17 := (l_chk h).1
        replace h := (l_chk h).2
        refine vr_iald (t := 0) d_PA_term_63 rfl q14 (ib_in q17) ?_
        obtain ⟨v18, ev18, h⟩ := l_bnd h
        refine vr_nm ev18 ?_
        refine vr_istore (L' := [some (.ref y0), some (.int y1), some (.int y2), some (.int y3), some (.int y4), some (.int v18), none, none]) d_PA_term_64 (by decide) rfl ?_
        refine vr_aload_n d_PA_term_66 rfl rfl ?_
        refine vr_getR (b := b11) d_PA_term_67 F_PA_15 rfl q10 eb11 ?_
        obtain ⟨b19, eb19, h⟩ := l_rf h
        refine vr_getR (b := b19) d_PA_term_70 F_PA_45 rfl q12 eb19 ?_
        refine vr_aload_n d_PA_term_73 rfl rfl ?_
        refine vr_getI d_PA_term_74 F_PA_9 rfl q10 ?_
        have q20 := (l_chk h).1
        replace h := (l_chk h).2
        have q21 := (l_chk h).1
        replace h := (l_chk h).2
        refine vr_iald (t := 0) d_PA_term_77 rfl q20 (ib_in q21) ?_
        obtain ⟨v22, ev22, h⟩ := l_bnd h
        refine vr_nm ev22 ?_
        refine vr_istore (L' := [some (.ref y0), some (.int y1), some (.int y2), some (.int y3), some (.int y4), some (.int v18), some (.int v22), none]) d_PA_term_78 (by decide) rfl ?_
        refine vr_aload_n d_PA_term_80 rfl rfl ?_
        obtain ⟨b23, eb23, h⟩ := l_rf h
        refine vr_getR (b := b23) d_PA_term_81 F_PA_19 rfl q10 eb23 ?_
        have q24 := (l_chk h).1
        replace h := (l_chk h).2
        refine vr_getI d_PA_term_84 F_PA_42 rfl q24 ?_
        obtain ⟨v25, ev25, h⟩ := l_bnd h
        refine vr_nm ev25 ?_
        refine vr_istore (L' := [some (.ref y0), some (.int y1), some (.int y2), some (.int y3), some (.int y4), some (.int v18), some (.int v22), some (.int v25)]) d_PA_term_87 (by decide) rfl ?_
        refine vr_aload_n d_PA_term_89 rfl rfl ?_
        refine vr_iload d_PA_term_90 rfl ?_
        rcases l_calT h with ⟨v26, s26, ev26, h⟩ | ⟨v26, s26, ev26, hz⟩
        rotate_left
        · cases hz
          exact mh_threw (Qy := fun _ _ => True) 3 [.int v18] d_PA_term_92 C_PA_56 (c_PA_take hl ev26) q10 rfl rfl rfl (Nat.le_of_ble_eq_true rfl) (by omega) (by show 8 + (2 + 11) + 120 ≤ Lw + 60; omega) rfl ⟨rfl, rfl⟩
        refine mh_callU 3 [.int v18] d_PA_term_92 C_PA_56 (c_PA_take hl ev26) q10 rfl rfl rfl (Nat.le_of_ble_eq_true rfl) (by omega) (by show 8 + (2 + 11) + 120 ≤ Lw + 60; omega) ?_
        refine vr_aload_n d_PA_term_95 rfl rfl ?_
        refine vr_iload_n d_PA_term_96 rfl rfl ?_
        have q27 := (l_chk h).1
        replace h := (l_chk h).2
        rcases l_calT h with ⟨v28, s28, ev28, h⟩ | ⟨v28, s28, ev28, hz⟩
        rotate_left
        · cases hz
          exact mh_threw (Qy := fun _ _ => True) 3 [.int y1] d_PA_term_97 C_PA_129 (h_PA_factor _ _ _ _ ev28) q27 rfl rfl rfl (Nat.le_of_ble_eq_true rfl) (by omega) (by show 8 + (4 + 11) + Lw ≤ Lw + 60; omega) rfl ⟨rfl, rfl⟩
        refine mh_callU 3 [.int y1] d_PA_term_97 C_PA_129 (h_PA_factor _ _ _ _ ev28) q27 rfl rfl rfl (Nat.le_of_ble_eq_true rfl) (by omega) (by show 8 + (4 + 11) + Lw ≤ Lw + 60; omega) ?_
        refine vr_aload_n d_PA_term_100 rfl rfl ?_
        refine vr_bipush 21 d_PA_term_101 (by decide) ?_
        refine vr_iload d_PA_term_103 rfl ?_
        refine vr_iadd d_PA_term_105 ?_
        refine vr_bipush 24 d_PA_term_106 (by decide) ?_
        refine vr_isub d_PA_term_108 ?_
        refine vr_iload d_PA_term_109 rfl ?_
        refine vr_iload d_PA_term_111 rfl ?_
        have q29 := (l_chk h).1
        replace h := (l_chk h).2
        obtain ⟨s30, es30, h⟩ := l_calV h
        refine mh_callU 3 [.int ((21 + v18) - 24), .int v22, .int v25] d_PA_term_113 C_PA_69 (c_PA_finish es30) q29 rfl rfl rfl (Nat.le_of_ble_eq_true rfl) (by omega) (by show 8 + (4 + 11) + 24 ≤ Lw + 60; omega) ?_
        refine vr_iinc (L' := [some (.ref y0), some (.int y1), some (.int y2), some (.int y3), some (.int (y4 + 1)), some (.int v18), some (.int v22), some (.int v25)]) (y4 + 1) d_PA_term_116 (by decide) rfl rfl rfl ?_
        refine vr_goto (tgt := 24) d_PA_term_119 (by decide) ?_
        exact mv_drop (ih _ _ _ _ _ _ _ h) (And.intro rfl (And.intro rfl (And.intro rfl (And.intro rfl (And.intro rfl trivial)))))

def f_PA_term (N : Nat) (p_PA_factor : Nat → Int32 → mh_H → Option (Bool × Int32 × mh_H)) (a0 : Nat) (x1 : Int32) (σ : mh_H) : Option (Bool × Int32 × mh_H) := chk (hT σ a0 = 7) <| rfO (hR σ 3 1 a0) fun b2 => chk (hT σ b2 = 3) <| bnd ((hI σ 1 4 b2)) fun v4 => calT (p_PA_factor a0 x1 σ) fun v5 s5 => chk (hT s5 a0 = 7) <| rfO (hR s5 3 1 a0) fun b7 => chk (hT s5 b7 = 3) <| calI (f_DR_lastPlace N b7 s5) fun v9 s9 => k_PA_term_24 N p_PA_factor N a0 x1 v4 v9 0 s9
theorem c_PA_term {g : mv_G} {N : Nat} {p_PA_factor : Nat → Int32 → mh_H → Option (Bool × Int32 × mh_H)} (hl : (mg_l g).stackTraces = false) {F Lw : Nat} (h_PA_factor : pkV1 g M_PA_factor F Lw p_PA_factor) (hF : 40 ≤ F) (hLw : 1000 ≤ Lw) : pkV1 g M_PA_term (F + 1) (Lw + 60) (f_PA_term N p_PA_factor) := by
  intro a0 x1 σ r h
  refine mv_entry (L := [some (.ref a0), some (.int x1), none, none, none, none, none, none]) rfl rfl (Nat.le_of_ble_eq_true rfl) rfl ?_
  unfold f_PA_term at h
  refine vr_aload_n d_PA_term_0 rfl rfl ?_
  have q1 := (l_chk h).1
  replace h := (l_chk h).2
  obtain ⟨b2, eb2, h⟩ := l_rf h
  refine vr_getR (b := b2) d_PA_term_1 F_PA_19 rfl q1 eb2 ?_
  have q3 := (l_chk h).1
  replace h := (l_chk h).2
  refine vr_getI d_PA_term_4 F_PA_42 rfl q3 ?_
  obtain ⟨v4, ev4, h⟩ := l_bnd h
  refine vr_nm ev4 ?_
  refine vr_istore_n (L' := [some (.ref a0), some (.int x1), some (.int v4), none, none, none, none, none]) d_PA_term_7 rfl (by decide) rfl ?_
  refine vr_aload_n d_PA_term_8 rfl rfl ?_
  refine vr_iload_n d_PA_term_9 rfl rfl ?_
  rcases l_calT h with ⟨v5, s5, ev5, h⟩ | ⟨v5, s5, ev5, hz⟩
  rotate_left
  · cases hz
    exact mh_threw (Qy := fun _ _ => True) 3 [.int x1] d_PA_term_10 C_PA_129 (h_PA_factor _ _ _ _ ev5) q1 rfl rfl rfl (Nat.le_of_ble_eq_true rfl) (by omega) (by show 8 + (4 + 11) + Lw ≤ Lw + 60; omega) rfl ⟨rfl, rfl⟩
  refine mh_callU 3 [.int x1] d_PA_term_10 C_PA_129 (h_PA_factor _ _ _ _ ev5) q1 rfl rfl rfl (Nat.le_of_ble_eq_true rfl) (by omega) (by show 8 + (4 + 11) + Lw ≤ Lw + 60; omega) ?_
  refine vr_aload_n d_PA_term_13 rfl rfl ?_
  have q6 := (l_chk h).1
  replace h := (l_chk h).2
  obtain ⟨b7, eb7, h⟩ := l_rf h
  refine vr_getR (b := b7) d_PA_term_14 F_PA_19 rfl q6 eb7 ?_
  have q8 := (l_chk h).1
  replace h := (l_chk h).2
  obtain ⟨v9, s9, ev9, h⟩ := l_calI h
  refine mh_callI 1 [] d_PA_term_17 C_PA_112 (c_DR_lastPlace ev9) q8 rfl rfl rfl (Nat.le_of_ble_eq_true rfl) (by omega) (by show 8 + (1 + 11) + 0 ≤ Lw + 60; omega) ?_
  refine vr_istore_n (L' := [some (.ref a0), some (.int x1), some (.int v4), some (.int v9), none, none, none, none]) d_PA_term_20 rfl (by decide) rfl ?_
  refine vr_iconst 0 d_PA_term_21 (by decide) ?_
  refine vr_istore (L' := [some (.ref a0), some (.int x1), some (.int v4), some (.int v9), some (.int 0), none, none, none]) d_PA_term_22 (by decide) rfl ?_
  exact mv_drop (q_PA_term_24 hl h_PA_factor hF hLw N _ _ _ _ _ _ _ h) (And.intro rfl (And.intro rfl (And.intro rfl (And.intro rfl (And.intro rfl trivial)))))

def k_PA_factor_139 (N : Nat) (p_PA_factor : Nat → Int32 → mh_H → Option (Bool × Int32 × mh_H)) (p_PA_sum : Nat → Int32 → mh_H → Option (Bool × Int32 × mh_H)) (y0 : Nat) (y2 : Int32) (y3 : Int32) (σ : mh_H) : Option (Bool × Int32 × mh_H) := chk (hT σ y0 = 7) <| calV (f_PA_finish N y0 16 y3 y2 σ) fun s51 => some (false, 0, s51)
theorem q_PA_factor_139 {g : mv_G} {N : Nat} {p_PA_factor : Nat → Int32 → mh_H → Option (Bool × Int32 × mh_H)} {p_PA_sum : Nat → Int32 → mh_H → Option (Bool × Int32 × mh_H)} (hl : (mg_l g).stackTraces = false) {F Lw : Nat} (h_PA_factor : pkV1 g M_PA_factor F Lw p_PA_factor) (h_PA_sum : pkV1 g M_PA_sum F Lw p_PA_sum) (hF : 40 ≤ F) (hLw : 1000 ≤ Lw) (y0 : Nat) (y2 : Int32) (y3 : Int32) (σ : mh_H) (r : Bool × Int32 × mh_H) (h : k_PA_factor_139 N p_PA_factor p_PA_sum y0 y2 y3 σ = some r) : mv_V g M_PA_factor (F + 1) (Lw + 60) 0 0 139 [some (.ref y0), none, some (.int y2), some (.int y3)] [] σ (pcV r) := by
  unfold k_PA_factor_139 at h
  refine vr_aload_n d_PA_factor_139 rfl rfl ?_
  refine vr_bipush 16 d_PA_factor_140 (by decide) ?_
  refine vr_iload_n d_PA_factor_142 rfl rfl ?_
  refine vr_iload_n d_PA_factor_143 rfl rfl ?_
  have q50 := (l_chk h).1
  replace h := (l_chk h).2
  obtain ⟨s51, es51, h⟩ := l_calV h
  refine mh_callU 3 [.int 16, .int y3, .int y2] d_PA_factor_144 C_PA_69 (c_PA_finish es51) q50 rfl rfl rfl (Nat.le_of_ble_eq_true rfl) (by omega) (by show 8 + (4 + 11) + 24 ≤ Lw + 60; omega) ?_
  refine vr_goto (tgt := 184) d_PA_factor_147 (by decide) ?_
  cases h
  exact vr_vret d_PA_factor_184 rfl ⟨rfl, rfl⟩

def f_PA_factor (N : Nat) (p_PA_factor : Nat → Int32 → mh_H → Option (Bool × Int32 × mh_H)) (p_PA_sum : Nat → Int32 → mh_H → Option (Bool × Int32 × mh_H)) (a0 : Nat) (x1 : Int32) (σ : mh_H) : Option (Bool × Int32 × mh_H) := chk (hT σ a0 = 7) <| calT (f_PA_limit N a0 x1 σ) fun v2 s2 => chk (hT s2 a0 = 7) <| rfO (hR s2 3 1 a0) fun b4 => chk (hT s2 b4 = 3) <| bnd ((hI s2 1 4 b4)) fun v6 => rfO (hR s2 3 0 a0) fun b7 => chk (hT s2 b7 = 9) <| rfO (hR s2 4 3 b7) fun b9 => chk (hT s2 b9 = 2) <| chk (ib (hI s2 3 3 a0) (hN s2 b9)) <| bnd ((hA s2 b9 (Int32.toNatClampNeg (hI s2 3 3 a0)))) fun v12 => rfO (hR s2 3 2 a0) fun b13 => chk (hT s2 b13 = 2) <| chk (ib (hI s2 3 3 a0) (hN s2 b13)) <| if (hA s2 b13 (Int32.toNatClampNeg (hI s2 3 3 a0))) = 3 then (calT (f_PA_number N a0 0 s2) fun v49 s49 => some (false, 0, s49)) else (calI (f_PA_skip N a0 23 s2) fun v16 s16 => if v16 = 0 then (chk (hT s16 a0 = 7) <| calI (f_PA_skip N a0 12 s16) fun v18 s18 => if v18 = 0 then (chk (hT s18 a0 = 7) <| calI (f_PA_skip N a0 11 s18) fun v20 s20 => if v20 = 0 then (chk (hT s20 a0 = 7) <| calT (f_PA_name N a0 s20) fun v22 s22 => chk (hT s22 a0 = 7) <| calI (f_PA_skip N a0 16 s22) fun v24 s24 => if v24 = 0 then (some (false, 0, s24)) else (chk (hT s24 a0 = 7) <| calT (p_PA_sum a0 ((x1 + 1)) s24) fun v26 s26 => chk (hT s26 a0 = 7) <| calT (f_PA_take N a0 17 s26) fun v28 s28 => chk (hT s28 a0 = 7) <| calV (f_PA_finish N a0 14 v12 v6 s28) fun s30 => some (false, 0, s30))) else (chk (hT s20 a0 = 7) <| calI (f_PA_skip N a0 12 s20) fun v32 s32 => if v32 = 0 then (k_PA_factor_139 N p_PA_factor p_PA_sum a0 v6 v12 s32) else (chk (hT s32 a0 = 7) <| calT (f_PA_number N a0 1 s32) fun v34 s34 => chk (hT s34 a0 = 7) <| calT (f_PA_take N a0 18 s34) fun v36 s36 => chk (hT s36 a0 = 7) <| calT (f_PA_number N a0 1 s36) fun v38 s38 => chk (hT s38 a0 = 7) <| calT (f_PA_take N a0 13 s38) fun v40 s40 => k_PA_factor_139 N p_PA_factor p_PA_sum a0 v6 v12 s40))) else (chk (hT s18 a0 = 7) <| calT (p_PA_sum a0 ((x1 + 1)) s18) fun v42 s42 => chk (hT s42 a0 = 7) <| calT (f_PA_take N a0 13 s42) fun v44 s44 => some (false, 0, s44))) else (chk (hT s16 a0 = 7) <| calT (p_PA_factor a0 ((x1 + 1)) s16) fun v46 s46 => chk (hT s46 a0 = 7) <| calV (f_PA_finish N a0 15 v12 v6 s46) fun s48 => some (false, 0, s48)))
theorem c_PA_factor {g : mv_G} {N : Nat} {p_PA_factor : Nat → Int32 → mh_H → Option (Bool × Int32 × mh_H)} {p_PA_sum : Nat → Int32 → mh_H → Option (Bool × Int32 × mh_H)} (hl : (mg_l g).stackTraces = false) {F Lw : Nat} (h_PA_factor : pkV1 g M_PA_factor F Lw p_PA_factor) (h_PA_sum : pkV1 g M_PA_sum F Lw p_PA_sum) (hF : 40 ≤ F) (hLw : 1000 ≤ Lw) : pkV1 g M_PA_factor (F + 1) (Lw + 60) (f_PA_factor N p_PA_factor p_PA_sum) := by
  intro a0 x1 σ r h
  refine mv_entry (L := [some (.ref a0), some (.int x1), none, none]) rfl rfl (Nat.le_of_ble_eq_true rfl) rfl ?_
  unfold f_PA_factor at h
  refine vr_aload_n d_PA_factor_0 rfl rfl ?_
  refine vr_iload_n d_PA_factor_1 rfl rfl ?_
  have q1 := (l_chk h).1
  replace h := (l_chk h).2
  rcases l_calT h with ⟨v2, s2, ev2, h⟩ | ⟨v2, s2, ev2, hz⟩
  rotate_left
  · cases hz
    exact mh_threw (Qy := fun _ _ => True) 3 [.int x1] d_PA_factor_2 C_PA_73 (c_PA_limit hl ev2) q1 rfl rfl rfl (Nat.le_of_ble_eq_true rfl) (by omega) (by show 8 + (2 + 11) + 120 ≤ Lw + 60; omega) rfl ⟨rfl, rfl⟩
  refine mh_callU 3 [.int x1] d_PA_factor_2 C_PA_73 (c_PA_limit hl ev2) q1 rfl rfl rfl (Nat.le_of_ble_eq_true rfl) (by omega) (by show 8 + (2 + 11) + 120 ≤ Lw + 60; omega) ?_
  refine vr_aload_n d_PA_factor_5 rfl rfl ?_
  have q3 := (l_chk h).1
  replace h := (l_chk h).2
  obtain ⟨b4, eb4, h⟩ := l_rf h
  refine vr_getR (b := b4) d_PA_factor_6 F_PA_19 rfl q3 eb4 ?_
  have q5 := (l_chk h).1
  replace h := (l_chk h).2
  refine vr_getI d_PA_factor_9 F_PA_42 rfl q5 ?_
  obtain ⟨v6, ev6, h⟩ := l_bnd h
  refine vr_nm ev6 ?_
  refine vr_istore_n (L' := [some (.ref a0), some (.int x1), some (.int v6), none]) d_PA_factor_12 rfl (by decide) rfl ?_
  refine vr_aload_n d_PA_factor_13 rfl rfl ?_
  obtain ⟨b7, eb7, h⟩ := l_rf h
  refine vr_getR (b := b7) d_PA_factor_14 F_PA_15 rfl q3 eb7 ?_
  have q8 := (l_chk h).1
  replace h := (l_chk h).2
  obtain ⟨b9, eb9, h⟩ := l_rf h
  refine vr_getR (b := b9) d_PA_factor_17 F_PA_45 rfl q8 eb9 ?_
  refine vr_aload_n d_PA_factor_20 rfl rfl ?_
  refine vr_getI d_PA_factor_21 F_PA_9 rfl q3 ?_
  have q10 := (l_chk h).1
  replace h := (l_chk h).2
  have q11 := (l_chk h).1
  replace h := (l_chk h).2
  refine vr_iald (t := 0) d_PA_factor_24 rfl q10 (ib_in q11) ?_
  obtain ⟨v12, ev12, h⟩ := l_bnd h
  refine vr_nm ev12 ?_
  refine vr_istore_n (L' := [some (.ref a0), some (.int x1), some (.int v6), some (.int v12)]) d_PA_factor_25 rfl (by decide) rfl ?_
  refine vr_aload_n d_PA_factor_26 rfl rfl ?_
  obtain ⟨b13, eb13, h⟩ := l_rf h
  refine vr_getR (b := b13) d_PA_factor_27 F_PA_29 rfl q3 eb13 ?_
  refine vr_aload_n d_PA_factor_30 rfl rfl ?_
  refine vr_getI d_PA_factor_31 F_PA_9 rfl q3 ?_
  have q14 := (l_chk h).1
  replace h := (l_chk h).2
  have q15 := (l_chk h).1
  replace h := (l_chk h).2
  refine vr_iald (t := 0) d_PA_factor_34 rfl q14 (ib_in q15) ?_
  refine vr_iconst 3 d_PA_factor_35 (by decide) ?_
  refine vr_icmp_ne (tgt := 47) d_PA_factor_36 (by decide) (fun c36 => ?_) (fun c36 => ?_)
  · replace h := l_ifn c36 h
    refine vr_aload_n d_PA_factor_47 rfl rfl ?_
    refine vr_bipush 23 d_PA_factor_48 (by decide) ?_
    obtain ⟨v16, s16, ev16, h⟩ := l_calI h
    refine mh_callI 3 [.int 23] d_PA_factor_50 C_PA_62 (c_PA_skip ev16) q3 rfl rfl rfl (Nat.le_of_ble_eq_true rfl) (by omega) (by show 8 + (2 + 11) + 0 ≤ Lw + 60; omega) ?_
    refine vr_if_eq (tgt := 74) d_PA_factor_53 (by decide) (fun c53 => ?_) (fun c53 => ?_)
    · replace h := l_ifp c53 h
      refine vr_aload_n d_PA_factor_74 rfl rfl ?_
      refine vr_bipush 12 d_PA_factor_75 (by decide) ?_
      have q17 := (l_chk h).1
      replace h := (l_chk h).2
      obtain ⟨v18, s18, ev18, h⟩ := l_calI h
      refine mh_callI 3 [.int 12] d_PA_factor_77 C_PA_62 (c_PA_skip ev18) q17 rfl rfl rfl (Nat.le_of_ble_eq_true rfl) (by omega) (by show 8 + (2 + 11) + 0 ≤ Lw + 60; omega) ?_
      refine vr_if_eq (tgt := 99) d_PA_factor_80 (by decide) (fun c80 => ?_) (fun c80 => ?_)
      · replace h := l_ifp c80 h
        refine vr_aload_n d_PA_factor_99 rfl rfl ?_
        refine vr_bipush 11 d_PA_factor_100 (by decide) ?_
        have q19 := (l_chk h).1
        replace h := (l_chk h).2
        obtain ⟨v20, s20, ev20, h⟩ := l_calI h
        refine mh_callI 3 [.int 11] d_PA_factor_102 C_PA_62 (c_PA_skip ev20) q19 rfl rfl rfl (Nat.le_of_ble_eq_true rfl) (by omega) (by show 8 + (2 + 11) + 0 ≤ Lw + 60; omega) ?_
        refine vr_if_eq (tgt := 150) d_PA_factor_105 (by decide) (fun c105 => ?_) (fun c105 => ?_)
        · replace h := l_ifp c105 h
          refine vr_aload_n d_PA_factor_150 rfl rfl ?_
          have q21 := (l_chk h).1
          replace h := (l_chk h).2
          rcases l_calT h with ⟨v22, s22, ev22, h⟩ | ⟨v22, s22, ev22, hz⟩
          rotate_left
          · cases hz
            exact mh_threw (Qy := fun _ _ => True) 3 [] d_PA_factor_151 C_PA_59 (c_PA_name hl ev22) q21 rfl rfl rfl (Nat.le_of_ble_eq_true rfl) (by omega) (by show 8 + (1 + 11) + 120 ≤ Lw + 60; omega) rfl ⟨rfl, rfl⟩
          refine mh_callU 3 [] d_PA_factor_151 C_PA_59 (c_PA_name hl ev22) q21 rfl rfl rfl (Nat.le_of_ble_eq_true rfl) (by omega) (by show 8 + (1 + 11) + 120 ≤ Lw + 60; omega) ?_
          refine vr_aload_n d_PA_factor_154 rfl rfl ?_
          refine vr_bipush 16 d_PA_factor_155 (by decide) ?_
          have q23 := (l_chk h).1
          replace h := (l_chk h).2
          obtain ⟨v24, s24, ev24, h⟩ := l_calI h
          refine mh_callI 3 [.int 16] d_PA_factor_157 C_PA_62 (c_PA_skip ev24) q23 rfl rfl rfl (Nat.le_of_ble_eq_true rfl) (by omega) (by show 8 + (2 + 11) + 0 ≤ Lw + 60; omega) ?_
          refine vr_if_eq (tgt := 184) d_PA_factor_160 (by decide) (fun c160 => ?_) (fun c160 => ?_)
          · replace h := l_ifp c160 h
            cases h
            exact vr_vret d_PA_factor_184 rfl ⟨rfl, rfl⟩
          · replace h := l_ifn c160 h
            refine vr_aload_n d_PA_factor_163 rfl rfl ?_
            refine vr_iload_n d_PA_factor_164 rfl rfl ?_
            refine vr_iconst 1 d_PA_factor_165 (by decide) ?_
            refine vr_iadd d_PA_factor_166 ?_
            have q25 := (l_chk h).1
            replace h := (l_chk h).2
            rcases l_calT h with ⟨v26, s26, ev26, h⟩ | ⟨v26, s26, ev26, hz⟩
            rotate_left
            · cases hz
              exact mh_threw (Qy := fun _ _ => True) 3 [.int (x1 + 1)] d_PA_factor_167 C_PA_96 (h_PA_sum _ _ _ _ ev26) q25 rfl rfl rfl (Nat.le_of_ble_eq_true rfl) (by omega) (by show 8 + (8 + 11) + Lw ≤ Lw + 60; omega) rfl ⟨rfl, rfl⟩
            refine mh_callU 3 [.int (x1 + 1)] d_PA_factor_167 C_PA_96 (h_PA_sum _ _ _ _ ev26) q25 rfl rfl rfl (Nat.le_of_ble_eq_true rfl) (by omega) (by show 8 + (8 + 11) + Lw ≤ Lw + 60; omega) ?_
            refine vr_aload_n d_PA_factor_170 rfl rfl ?_
            refine vr_bipush 17 d_PA_factor_171 (by decide) ?_
            have q27 := (l_chk h).1
            replace h := (l_chk h).2
            rcases l_calT h with ⟨v28, s28, ev28, h⟩ | ⟨v28, s28, ev28, hz⟩
            rotate_left
            · cases hz
              exact mh_threw (Qy := fun _ _ => True) 3 [.int 17] d_PA_factor_173 C_PA_56 (c_PA_take hl ev28) q27 rfl rfl rfl (Nat.le_of_ble_eq_true rfl) (by omega) (by show 8 + (2 + 11) + 120 ≤ Lw + 60; omega) rfl ⟨rfl, rfl⟩
            refine mh_callU 3 [.int 17] d_PA_factor_173 C_PA_56 (c_PA_take hl ev28) q27 rfl rfl rfl (Nat.le_of_ble_eq_true rfl) (by omega) (by show 8 + (2 + 11) + 120 ≤ Lw + 60; omega) ?_
            refine vr_aload_n d_PA_factor_176 rfl rfl ?_
            refine vr_bipush 14 d_PA_factor_177 (by decide) ?_
            refine vr_iload_n d_PA_factor_179 rfl rfl ?_
            refine vr_iload_n d_PA_factor_180 rfl rfl ?_
            have q29 := (l_chk h).1
            replace h := (l_chk h).2
            obtain ⟨s30, es30, h⟩ := l_calV h
            refine mh_callU 3 [.int 14, .int v12, .int v6] d_PA_factor_181 C_PA_69 (c_PA_finish es30) q29 rfl rfl rfl (Nat.le_of_ble_eq_true rfl) (by omega) (by show 8 + (4 + 11) + 24 ≤ Lw + 60; omega) ?_
            cases h
            exact vr_vret d_PA_factor_184 rfl ⟨rfl, rfl⟩
        · replace h := l_ifn c105 h
          refine vr_aload_n d_PA_factor_108 rfl rfl ?_
          refine vr_bipush 12 d_PA_factor_109 (by decide) ?_
          have q31 := (l_chk h).1
          replace h := (l_chk h).2
          obtain ⟨v32, s32, ev32, h⟩ := l_calI h
          refine mh_callI 3 [.int 12] d_PA_factor_111 C_PA_62 (c_PA_skip ev32) q31 rfl rfl rfl (Nat.le_of_ble_eq_true rfl) (by omega) (by show 8 + (2 + 11) + 0 ≤ Lw + 60; omega) ?_
          refine vr_if_eq (tgt := 139) d_PA_factor_114 (by decide) (fun c114 => ?_) (fun c114 => ?_)
          · replace h := l_ifp c114 h
            exact mv_drop (q_PA_factor_139 hl h_PA_factor h_PA_sum hF hLw _ _ _ _ _ h) (And.intro rfl (And.intro rfl (And.intro rfl trivial)))
          · replace h := l_ifn c114 h
            refine vr_aload_n d_PA_factor_117 rfl rfl ?_
            refine vr_iconst 1 d_PA_factor_118 (by decide) ?_
            have q33 := (l_chk h).1
            replace h := (l_chk h).2
            rcases l_calT h with ⟨v34, s34, ev34, h⟩ | ⟨v34, s34, ev34, hz⟩
            rotate_left
            · cases hz
              exact mh_threw (Qy := fun _ _ => True) 3 [.int 1] d_PA_factor_119 C_PA_99 (c_PA_number hl ev34) q33 rfl rfl rfl (Nat.le_of_ble_eq_true rfl) (by omega) (by show 8 + (4 + 11) + 120 ≤ Lw + 60; omega) rfl ⟨rfl, rfl⟩
            refine mh_callU 3 [.int 1] d_PA_factor_119 C_PA_99 (c_PA_number hl ev34) q33 rfl rfl rfl (Nat.le_of_ble_eq_true rfl) (by omega) (by show 8 + (4 + 11) + 120 ≤ Lw + 60; omega) ?_
            refine vr_aload_n d_PA_factor_122 rfl rfl ?_
            refine vr_bipush 18 d_PA_factor_123 (by decide) ?_
            have q35 := (l_chk h).1
            replace h := (l_chk h).2
            rcases l_calT h with ⟨v36, s36, ev36, h⟩ | ⟨v36, s36, ev36, hz⟩
            rotate_left
            · cases hz
              exact mh_threw (Qy := fun _ _ => True) 3 [.int 18] d_PA_factor_125 C_PA_56 (c_PA_take hl ev36) q35 rfl rfl rfl (Nat.le_of_ble_eq_true rfl) (by omega) (by show 8 + (2 + 11) + 120 ≤ Lw + 60; omega) rfl ⟨rfl, rfl⟩
            refine mh_callU 3 [.int 18] d_PA_factor_125 C_PA_56 (c_PA_take hl ev36) q35 rfl rfl rfl (Nat.le_of_ble_eq_true rfl) (by omega) (by show 8 + (2 + 11) + 120 ≤ Lw + 60; omega) ?_
            refine vr_aload_n d_PA_factor_128 rfl rfl ?_
            refine vr_iconst 1 d_PA_factor_129 (by decide) ?_
            have q37 := (l_chk h).1
            replace h := (l_chk h).2
            rcases l_calT h with ⟨v38, s38, ev38, h⟩ | ⟨v38, s38, ev38, hz⟩
            rotate_left
            · cases hz
              exact mh_threw (Qy := fun _ _ => True) 3 [.int 1] d_PA_factor_130 C_PA_99 (c_PA_number hl ev38) q37 rfl rfl rfl (Nat.le_of_ble_eq_true rfl) (by omega) (by show 8 + (4 + 11) + 120 ≤ Lw + 60; omega) rfl ⟨rfl, rfl⟩
            refine mh_callU 3 [.int 1] d_PA_factor_130 C_PA_99 (c_PA_number hl ev38) q37 rfl rfl rfl (Nat.le_of_ble_eq_true rfl) (by omega) (by show 8 + (4 + 11) + 120 ≤ Lw + 60; omega) ?_
            refine vr_aload_n d_PA_factor_133 rfl rfl ?_
            refine vr_bipush 13 d_PA_factor_134 (by decide) ?_
            have q39 := (l_chk h).1
            replace h := (l_chk h).2
            rcases l_calT h with ⟨v40, s40, ev40, h⟩ | ⟨v40, s40, ev40, hz⟩
            rotate_left
            · cases hz
              exact mh_threw (Qy := fun _ _ => True) 3 [.int 13] d_PA_factor_136 C_PA_56 (c_PA_take hl ev40) q39 rfl rfl rfl (Nat.le_of_ble_eq_true rfl) (by omega) (by show 8 + (2 + 11) + 120 ≤ Lw + 60; omega) rfl ⟨rfl, rfl⟩
            refine mh_callU 3 [.int 13] d_PA_factor_136 C_PA_56 (c_PA_take hl ev40) q39 rfl rfl rfl (Nat.le_of_ble_eq_true rfl) (by omega) (by show 8 + (2 + 11) + 120 ≤ Lw + 60; omega) ?_
            exact mv_drop (q_PA_factor_139 hl h_PA_factor h_PA_sum hF hLw _ _ _ _ _ h) (And.intro rfl (And.intro rfl (And.intro rfl trivial)))
      · replace h := l_ifn c80 h
        refine vr_aload_n d_PA_factor_83 rfl rfl ?_
        refine vr_iload_n d_PA_factor_84 rfl rfl ?_
        refine vr_iconst 1 d_PA_factor_85 (by decide) ?_
        refine vr_iadd d_PA_factor_86 ?_
        have q41 := (l_chk h).1
        replace h := (l_chk h).2
        rcases l_calT h with ⟨v42, s42, ev42, h⟩ | ⟨v42, s42, ev42, hz⟩
        rotate_left
        · cases hz
          exact mh_threw (Qy := fun _ _ => True) 3 [.int (x1 + 1)] d_PA_factor_87 C_PA_96 (h_PA_sum _ _ _ _ ev42) q41 rfl rfl rfl (Nat.le_of_ble_eq_true rfl) (by omega) (by show 8 + (8 + 11) + Lw ≤ Lw + 60; omega) rfl ⟨rfl, rfl⟩
        refine mh_callU 3 [.int (x1 + 1)] d_PA_factor_87 C_PA_96 (h_PA_sum _ _ _ _ ev42) q41 rfl rfl rfl (Nat.le_of_ble_eq_true rfl) (by omega) (by show 8 + (8 + 11) + Lw ≤ Lw + 60; omega) ?_
        refine vr_aload_n d_PA_factor_90 rfl rfl ?_
        refine vr_bipush 13 d_PA_factor_91 (by decide) ?_
        have q43 := (l_chk h).1
        replace h := (l_chk h).2
        rcases l_calT h with ⟨v44, s44, ev44, h⟩ | ⟨v44, s44, ev44, hz⟩
        rotate_left
        · cases hz
          exact mh_threw (Qy := fun _ _ => True) 3 [.int 13] d_PA_factor_93 C_PA_56 (c_PA_take hl ev44) q43 rfl rfl rfl (Nat.le_of_ble_eq_true rfl) (by omega) (by show 8 + (2 + 11) + 120 ≤ Lw + 60; omega) rfl ⟨rfl, rfl⟩
        refine mh_callU 3 [.int 13] d_PA_factor_93 C_PA_56 (c_PA_take hl ev44) q43 rfl rfl rfl (Nat.le_of_ble_eq_true rfl) (by omega) (by show 8 + (2 + 11) + 120 ≤ Lw + 60; omega) ?_
        refine vr_goto (tgt := 184) d_PA_factor_96 (by decide) ?_
        cases h
        exact vr_vret d_PA_factor_184 rfl ⟨rfl, rfl⟩
    · replace h := l_ifn c53 h
      refine vr_aload_n d_PA_factor_56 rfl rfl ?_
      refine vr_iload_n d_PA_factor_57 rfl rfl ?_
      refine vr_iconst 1 d_PA_factor_58 (by decide) ?_
      refine vr_iadd d_PA_factor_59 ?_
      have q45 := (l_chk h).1
      replace h := (l_chk h).2
      rcases l_calT h with ⟨v46, s46, ev46, h⟩ | ⟨v46, s46, ev46, hz⟩
      rotate_left
      · cases hz
        exact mh_threw (Qy := fun _ _ => True) 3 [.int (x1 + 1)] d_PA_factor_60 C_PA_129 (h_PA_factor _ _ _ _ ev46) q45 rfl rfl rfl (Nat.le_of_ble_eq_true rfl) (by omega) (by show 8 + (4 + 11) + Lw ≤ Lw + 60; omega) rfl ⟨rfl, rfl⟩
      refine mh_callU 3 [.int (x1 + 1)] d_PA_factor_60 C_PA_129 (h_PA_factor _ _ _ _ ev46) q45 rfl rfl rfl (Nat.le_of_ble_eq_true rfl) (by omega) (by show 8 + (4 + 11) + Lw ≤ Lw + 60; omega) ?_
      refine vr_aload_n d_PA_factor_63 rfl rfl ?_
      refine vr_bipush 15 d_PA_factor_64 (by decide) ?_
      refine vr_iload_n d_PA_factor_66 rfl rfl ?_
      refine vr_iload_n d_PA_factor_67 rfl rfl ?_
      have q47 := (l_chk h).1
      replace h := (l_chk h).2
      obtain ⟨s48, es48, h⟩ := l_calV h
      refine mh_callU 3 [.int 15, .int v12, .int v6] d_PA_factor_68 C_PA_69 (c_PA_finish es48) q47 rfl rfl rfl (Nat.le_of_ble_eq_true rfl) (by omega) (by show 8 + (4 + 11) + 24 ≤ Lw + 60; omega) ?_
      refine vr_goto (tgt := 184) d_PA_factor_71 (by decide) ?_
      cases h
      exact vr_vret d_PA_factor_184 rfl ⟨rfl, rfl⟩
  · replace h := l_ifp c36 h
    refine vr_aload_n d_PA_factor_39 rfl rfl ?_
    refine vr_iconst 0 d_PA_factor_40 (by decide) ?_
    rcases l_calT h with ⟨v49, s49, ev49, h⟩ | ⟨v49, s49, ev49, hz⟩
    rotate_left
    · cases hz
      exact mh_threw (Qy := fun _ _ => True) 3 [.int 0] d_PA_factor_41 C_PA_99 (c_PA_number hl ev49) q3 rfl rfl rfl (Nat.le_of_ble_eq_true rfl) (by omega) (by show 8 + (4 + 11) + 120 ≤ Lw + 60; omega) rfl ⟨rfl, rfl⟩
    refine mh_callU 3 [.int 0] d_PA_factor_41 C_PA_99 (c_PA_number hl ev49) q3 rfl rfl rfl (Nat.le_of_ble_eq_true rfl) (by omega) (by show 8 + (4 + 11) + 120 ≤ Lw + 60; omega) ?_
    refine vr_goto (tgt := 184) d_PA_factor_44 (by decide) ?_
    cases h
    exact vr_vret d_PA_factor_184 rfl ⟨rfl, rfl⟩

def k_PA_function_85 (N : Nat) (p_PA_block : Nat → Int32 → mh_H → Option (Bool × Int32 × mh_H)) (y0 : Nat) (y1 : Int32) (y2 : Int32) (σ : mh_H) : Option (Bool × Int32 × mh_H) := chk (hT σ y0 = 7) <| calT (f_PA_take N y0 13 σ) fun v22 s22 => chk (hT s22 y0 = 7) <| calT (p_PA_block y0 1 s22) fun v24 s24 => chk (hT s24 y0 = 7) <| calV (f_PA_finish N y0 1 y2 y1 s24) fun s26 => some (false, 0, s26)
theorem q_PA_function_85 {g : mv_G} {N : Nat} {p_PA_block : Nat → Int32 → mh_H → Option (Bool × Int32 × mh_H)} (hl : (mg_l g).stackTraces = false) {F Lw : Nat} (h_PA_block : pkV1 g M_PA_block F Lw p_PA_block) (hF : 40 ≤ F) (hLw : 1000 ≤ Lw) (y0 : Nat) (y1 : Int32) (y2 : Int32) (σ : mh_H) (r : Bool × Int32 × mh_H) (h : k_PA_function_85 N p_PA_block y0 y1 y2 σ = some r) : mv_V g M_PA_function (F + 1) (Lw + 60) 0 0 85 [some (.ref y0), some (.int y1), some (.int y2), none] [] σ (pcV r) := by
  unfold k_PA_function_85 at h
  refine vr_aload_n d_PA_function_85 rfl rfl ?_
  refine vr_bipush 13 d_PA_function_86 (by decide) ?_
  have q21 := (l_chk h).1
  replace h := (l_chk h).2
  rcases l_calT h with ⟨v22, s22, ev22, h⟩ | ⟨v22, s22, ev22, hz⟩
  rotate_left
  · cases hz
    exact mh_threw (Qy := fun _ _ => True) 3 [.int 13] d_PA_function_88 C_PA_56 (c_PA_take hl ev22) q21 rfl rfl rfl (Nat.le_of_ble_eq_true rfl) (by omega) (by show 8 + (2 + 11) + 120 ≤ Lw + 60; omega) rfl ⟨rfl, rfl⟩
  refine mh_callU 3 [.int 13] d_PA_function_88 C_PA_56 (c_PA_take hl ev22) q21 rfl rfl rfl (Nat.le_of_ble_eq_true rfl) (by omega) (by show 8 + (2 + 11) + 120 ≤ Lw + 60; omega) ?_
  refine vr_aload_n d_PA_function_91 rfl rfl ?_
  refine vr_iconst 1 d_PA_function_92 (by decide) ?_
  have q23 := (l_chk h).1
  replace h := (l_chk h).2
  rcases l_calT h with ⟨v24, s24, ev24, h⟩ | ⟨v24, s24, ev24, hz⟩
  rotate_left
  · cases hz
    exact mh_threw (Qy := fun _ _ => True) 3 [.int 1] d_PA_function_93 C_PA_66 (h_PA_block _ _ _ _ ev24) q23 rfl rfl rfl (Nat.le_of_ble_eq_true rfl) (by omega) (by show 8 + (5 + 11) + Lw ≤ Lw + 60; omega) rfl ⟨rfl, rfl⟩
  refine mh_callU 3 [.int 1] d_PA_function_93 C_PA_66 (h_PA_block _ _ _ _ ev24) q23 rfl rfl rfl (Nat.le_of_ble_eq_true rfl) (by omega) (by show 8 + (5 + 11) + Lw ≤ Lw + 60; omega) ?_
  refine vr_aload_n d_PA_function_96 rfl rfl ?_
  refine vr_iconst 1 d_PA_function_97 (by decide) ?_
  refine vr_iload_n d_PA_function_98 rfl rfl ?_
  refine vr_iload_n d_PA_function_99 rfl rfl ?_
  have q25 := (l_chk h).1
  replace h := (l_chk h).2
  obtain ⟨s26, es26, h⟩ := l_calV h
  refine mh_callU 3 [.int 1, .int y2, .int y1] d_PA_function_100 C_PA_69 (c_PA_finish es26) q25 rfl rfl rfl (Nat.le_of_ble_eq_true rfl) (by omega) (by show 8 + (4 + 11) + 24 ≤ Lw + 60; omega) ?_
  cases h
  exact vr_vret d_PA_function_103 rfl ⟨rfl, rfl⟩

def k_PA_function_55 (N : Nat) (p_PA_block : Nat → Int32 → mh_H → Option (Bool × Int32 × mh_H)) : Nat → Nat → Int32 → Int32 → Int32 → mh_H → Option (Bool × Int32 × mh_H)
  | 0, _, _, _, _, _ => none
  | n + 1, y0, y1, y2, y3, σ => chk (hT σ y0 = 7) <| rfO (hR σ 3 0 y0) fun b28 => chk (hT σ b28 = 9) <| if (hI σ 4 5 b28) ≤ y3 then (k_PA_function_85 N p_PA_block y0 y1 y2 σ) else (calI (f_PA_skip N y0 18 σ) fun v30 s30 => if v30 = 0 then (k_PA_function_85 N p_PA_block y0 y1 y2 s30) else (chk (hT s30 y0 = 7) <| calT (f_PA_name N y0 s30) fun v32 s32 => k_PA_function_55 N p_PA_block n y0 y1 y2 ((y3 + 1)) s32))
theorem q_PA_function_55 {g : mv_G} {N : Nat} {p_PA_block : Nat → Int32 → mh_H → Option (Bool × Int32 × mh_H)} (hl : (mg_l g).stackTraces = false) {F Lw : Nat} (h_PA_block : pkV1 g M_PA_block F Lw p_PA_block) (hF : 40 ≤ F) (hLw : 1000 ≤ Lw) : ∀ (n : Nat) (y0 : Nat) (y1 : Int32) (y2 : Int32) (y3 : Int32) (σ : mh_H) (r : Bool × Int32 × mh_H), k_PA_function_55 N p_PA_block n y0 y1 y2 y3 σ = some r → mv_V g M_PA_function (F + 1) (Lw + 60) 0 0 55 [some (.ref y0), some (.int y1), some (.int y2), some (.int y3)] [] σ (pcV r) := by
  intro n
  induction n with
  | zero =>
    intro y0 y1 y2 y3 σ r h
    exact absurd h (by simp [k_PA_function_55])
  | succ n ih =>
    intro y0 y1 y2 y3 σ r h 
    unfold k_PA_function_55 at h
    refine vr_iload_n d_PA_function_55 rfl rfl ?_
    refine vr_aload_n d_PA_function_56 rfl rfl ?_
    have q27 := (l_chk h).1
    replace h := (l_chk h).2
    obtain ⟨b28, eb28, h⟩ := l_rf h
    refine vr_getR (b := b28) d_PA_function_57 F_PA_15 rfl q27 eb28 ?_
    have q29 := (l_chk h).1
    replace h := (l_chk h).2
    refine vr_getI d_PA_function_60 F_PA_30 rfl q29 ?_
    refine vr_icmp_ge (tgt := 85) d_PA_function_63 (by decide) (fun c63 => ?_) (fun c63 => ?_)
    · replace h := l_ifp c63 h
      exact mv_drop (q_PA_function_85 hl h_PA_block hF hLw _ _ _ _ _ h) (And.intro rfl (And.intro rfl (And.intro rfl trivial)))
    · replace h := l_ifn c63 h
      refine vr_aload_n d_PA_function_66 rfl rfl ?_
      refine vr_bipush 18 d_PA_function_67 (by decide) ?_
      obtain ⟨v30, s30, ev30, h⟩ := l_calI h
      refine mh_callI 3 [.int 18] d_PA_function_69 C_PA_62 (c_PA_skip ev30) q27 rfl rfl rfl (Nat.le_of_ble_eq_true rfl) (by omega) (by show 8 + (2 + 11) + 0 ≤ Lw + 60; omega) ?_
      refine vr_if_eq (tgt := 85) d_PA_function_72 (by decide) (fun c72 => ?_) (fun c72 => ?_)
      · replace h := l_ifp c72 h
        exact mv_drop (q_PA_function_85 hl h_PA_block hF hLw _ _ _ _ _ h) (And.intro rfl (And.intro rfl (And.intro rfl trivial)))
      · replace h := l_ifn c72 h
        refine vr_aload_n d_PA_function_75 rfl rfl ?_
        have q31 := (l_chk h).1
        replace h := (l_chk h).2
        rcases l_calT h with ⟨v32, s32, ev32, h⟩ | ⟨v32, s32, ev32, hz⟩
        rotate_left
        · cases hz
          exact mh_threw (Qy := fun _ _ => True) 3 [] d_PA_function_76 C_PA_59 (c_PA_name hl ev32) q31 rfl rfl rfl (Nat.le_of_ble_eq_true rfl) (by omega) (by show 8 + (1 + 11) + 120 ≤ Lw + 60; omega) rfl ⟨rfl, rfl⟩
        refine mh_callU 3 [] d_PA_function_76 C_PA_59 (c_PA_name hl ev32) q31 rfl rfl rfl (Nat.le_of_ble_eq_true rfl) (by omega) (by show 8 + (1 + 11) + 120 ≤ Lw + 60; omega) ?_
        refine vr_iinc (L' := [some (.ref y0), some (.int y1), some (.int y2), some (.int (y3 + 1))]) (y3 + 1) d_PA_function_79 (by decide) rfl rfl rfl ?_
        refine vr_goto (tgt := 55) d_PA_function_82 (by decide) ?_
        exact mv_drop (ih _ _ _ _ _ _ h) (And.intro rfl (And.intro rfl (And.intro rfl (And.intro rfl trivial))))

def f_PA_function (N : Nat) (p_PA_block : Nat → Int32 → mh_H → Option (Bool × Int32 × mh_H)) (a0 : Nat) (σ : mh_H) : Option (Bool × Int32 × mh_H) := chk (hT σ a0 = 7) <| rfO (hR σ 3 1 a0) fun b2 => chk (hT σ b2 = 3) <| bnd ((hI σ 1 4 b2)) fun v4 => rfO (hR σ 3 0 a0) fun b5 => chk (hT σ b5 = 9) <| rfO (hR σ 4 3 b5) fun b7 => chk (hT σ b7 = 2) <| chk (ib (hI σ 3 3 a0) (hN σ b7)) <| bnd ((hA σ b7 (Int32.toNatClampNeg (hI σ 3 3 a0)))) fun v10 => calT (f_PA_take N a0 4 σ) fun v11 s11 => chk (hT s11 a0 = 7) <| calT (f_PA_name N a0 s11) fun v13 s13 => chk (hT s13 a0 = 7) <| calT (f_PA_take N a0 12 s13) fun v15 s15 => chk (hT s15 a0 = 7) <| rfO (hR s15 3 2 a0) fun b17 => chk (hT s15 b17 = 2) <| chk (ib (hI s15 3 3 a0) (hN s15 b17)) <| if (hA s15 b17 (Int32.toNatClampNeg (hI s15 3 3 a0))) = 2 then (calT (f_PA_name N a0 s15) fun v20 s20 => k_PA_function_55 N p_PA_block N a0 v4 v10 0 s20) else (k_PA_function_85 N p_PA_block a0 v4 v10 s15)
theorem c_PA_function {g : mv_G} {N : Nat} {p_PA_block : Nat → Int32 → mh_H → Option (Bool × Int32 × mh_H)} (hl : (mg_l g).stackTraces = false) {F Lw : Nat} (h_PA_block : pkV1 g M_PA_block F Lw p_PA_block) (hF : 40 ≤ F) (hLw : 1000 ≤ Lw) : pkV0 g M_PA_function (F + 1) (Lw + 60) (f_PA_function N p_PA_block) := by
  intro a0 σ r h
  refine mv_entry (L := [some (.ref a0), none, none, none]) rfl rfl (Nat.le_of_ble_eq_true rfl) rfl ?_
  unfold f_PA_function at h
  refine vr_aload_n d_PA_function_0 rfl rfl ?_
  have q1 := (l_chk h).1
  replace h := (l_chk h).2
  obtain ⟨b2, eb2, h⟩ := l_rf h
  refine vr_getR (b := b2) d_PA_function_1 F_PA_19 rfl q1 eb2 ?_
  have q3 := (l_chk h).1
  replace h := (l_chk h).2
  refine vr_getI d_PA_function_4 F_PA_42 rfl q3 ?_
  obtain ⟨v4, ev4, h⟩ := l_bnd h
  refine vr_nm ev4 ?_
  refine vr_istore_n (L' := [some (.ref a0), some (.int v4), none, none]) d_PA_function_7 rfl (by decide) rfl ?_
  refine vr_aload_n d_PA_function_8 rfl rfl ?_
  obtain ⟨b5, eb5, h⟩ := l_rf h
  refine vr_getR (b := b5) d_PA_function_9 F_PA_15 rfl q1 eb5 ?_
  have q6 := (l_chk h).1
  replace h := (l_chk h).2
  obtain ⟨b7, eb7, h⟩ := l_rf h
  refine vr_getR (b := b7) d_PA_function_12 F_PA_45 rfl q6 eb7 ?_
  refine vr_aload_n d_PA_function_15 rfl rfl ?_
  refine vr_getI d_PA_function_16 F_PA_9 rfl q1 ?_
  have q8 := (l_chk h).1
  replace h := (l_chk h).2
  have q9 := (l_chk h).1
  replace h := (l_chk h).2
  refine vr_iald (t := 0) d_PA_function_19 rfl q8 (ib_in q9) ?_
  obtain ⟨v10, ev10, h⟩ := l_bnd h
  refine vr_nm ev10 ?_
  refine vr_istore_n (L' := [some (.ref a0), some (.int v4), some (.int v10), none]) d_PA_function_20 rfl (by decide) rfl ?_
  refine vr_aload_n d_PA_function_21 rfl rfl ?_
  refine vr_iconst 4 d_PA_function_22 (by decide) ?_
  rcases l_calT h with ⟨v11, s11, ev11, h⟩ | ⟨v11, s11, ev11, hz⟩
  rotate_left
  · cases hz
    exact mh_threw (Qy := fun _ _ => True) 3 [.int 4] d_PA_function_23 C_PA_56 (c_PA_take hl ev11) q1 rfl rfl rfl (Nat.le_of_ble_eq_true rfl) (by omega) (by show 8 + (2 + 11) + 120 ≤ Lw + 60; omega) rfl ⟨rfl, rfl⟩
  refine mh_callU 3 [.int 4] d_PA_function_23 C_PA_56 (c_PA_take hl ev11) q1 rfl rfl rfl (Nat.le_of_ble_eq_true rfl) (by omega) (by show 8 + (2 + 11) + 120 ≤ Lw + 60; omega) ?_
  refine vr_aload_n d_PA_function_26 rfl rfl ?_
  have q12 := (l_chk h).1
  replace h := (l_chk h).2
  rcases l_calT h with ⟨v13, s13, ev13, h⟩ | ⟨v13, s13, ev13, hz⟩
  rotate_left
  · cases hz
    exact mh_threw (Qy := fun _ _ => True) 3 [] d_PA_function_27 C_PA_59 (c_PA_name hl ev13) q12 rfl rfl rfl (Nat.le_of_ble_eq_true rfl) (by omega) (by show 8 + (1 + 11) + 120 ≤ Lw + 60; omega) rfl ⟨rfl, rfl⟩
  refine mh_callU 3 [] d_PA_function_27 C_PA_59 (c_PA_name hl ev13) q12 rfl rfl rfl (Nat.le_of_ble_eq_true rfl) (by omega) (by show 8 + (1 + 11) + 120 ≤ Lw + 60; omega) ?_
  refine vr_aload_n d_PA_function_30 rfl rfl ?_
  refine vr_bipush 12 d_PA_function_31 (by decide) ?_
  have q14 := (l_chk h).1
  replace h := (l_chk h).2
  rcases l_calT h with ⟨v15, s15, ev15, h⟩ | ⟨v15, s15, ev15, hz⟩
  rotate_left
  · cases hz
    exact mh_threw (Qy := fun _ _ => True) 3 [.int 12] d_PA_function_33 C_PA_56 (c_PA_take hl ev15) q14 rfl rfl rfl (Nat.le_of_ble_eq_true rfl) (by omega) (by show 8 + (2 + 11) + 120 ≤ Lw + 60; omega) rfl ⟨rfl, rfl⟩
  refine mh_callU 3 [.int 12] d_PA_function_33 C_PA_56 (c_PA_take hl ev15) q14 rfl rfl rfl (Nat.le_of_ble_eq_true rfl) (by omega) (by show 8 + (2 + 11) + 120 ≤ Lw + 60; omega) ?_
  refine vr_aload_n d_PA_function_36 rfl rfl ?_
  have q16 := (l_chk h).1
  replace h := (l_chk h).2
  obtain ⟨b17, eb17, h⟩ := l_rf h
  refine vr_getR (b := b17) d_PA_function_37 F_PA_29 rfl q16 eb17 ?_
  refine vr_aload_n d_PA_function_40 rfl rfl ?_
  refine vr_getI d_PA_function_41 F_PA_9 rfl q16 ?_
  have q18 := (l_chk h).1
  replace h := (l_chk h).2
  have q19 := (l_chk h).1
  replace h := (l_chk h).2
  refine vr_iald (t := 0) d_PA_function_44 rfl q18 (ib_in q19) ?_
  refine vr_iconst 2 d_PA_function_45 (by decide) ?_
  refine vr_icmp_ne (tgt := 85) d_PA_function_46 (by decide) (fun c46 => ?_) (fun c46 => ?_)
  · replace h := l_ifn c46 h
    exact mv_drop (q_PA_function_85 hl h_PA_block hF hLw _ _ _ _ _ h) (And.intro rfl (And.intro rfl (And.intro rfl trivial)))
  · replace h := l_ifp c46 h
    refine vr_aload_n d_PA_function_49 rfl rfl ?_
    rcases l_calT h with ⟨v20, s20, ev20, h⟩ | ⟨v20, s20, ev20, hz⟩
    rotate_left
    · cases hz
      exact mh_threw (Qy := fun _ _ => True) 3 [] d_PA_function_50 C_PA_59 (c_PA_name hl ev20) q16 rfl rfl rfl (Nat.le_of_ble_eq_true rfl) (by omega) (by show 8 + (1 + 11) + 120 ≤ Lw + 60; omega) rfl ⟨rfl, rfl⟩
    refine mh_callU 3 [] d_PA_function_50 C_PA_59 (c_PA_name hl ev20) q16 rfl rfl rfl (Nat.le_of_ble_eq_true rfl) (by omega) (by show 8 + (1 + 11) + 120 ≤ Lw + 60; omega) ?_
    refine vr_iconst 0 d_PA_function_53 (by decide) ?_
    refine vr_istore_n (L' := [some (.ref a0), some (.int v4), some (.int v10), some (.int 0)]) d_PA_function_54 rfl (by decide) rfl ?_
    exact mv_drop (q_PA_function_55 hl h_PA_block hF hLw N _ _ _ _ _ _ h) (And.intro rfl (And.intro rfl (And.intro rfl (And.intro rfl trivial))))

