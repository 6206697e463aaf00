/-! the class, lifted: the parser -/
def k_PA_block_34 (N : Nat) (p_PA_statement : Nat → Int32 → mh_H → Option (Bool × Int32 × mh_H)) : Nat → Nat → Int32 → Int32 → Int32 → Int32 → mh_H → Option (Bool × Int32 × mh_H)
  | 0, _, _, _, _, _, _ => none
  | n + 1, y0, y1, y2, y3, y4, σ => chk (hT σ y0 = 7) <| rfO (hR σ 3 0 y0) fun b13 => chk (hT σ b13 = 9) <| if (hI σ 4 5 b13) ≤ y4 then (calV (f_PA_finish N y0 2 y3 y2 σ) fun s15 => some (false, 0, s15)) else (calI (f_PA_skip N y0 15 σ) fun v16 s16 => if v16 = 0 then (chk (hT s16 y0 = 7) <| calT (p_PA_statement y0 y1 s16) fun v20 s20 => k_PA_block_34 N p_PA_statement n y0 y1 y2 y3 ((y4 + 1)) s20) else (chk (hT s16 y0 = 7) <| calV (f_PA_finish N y0 2 y3 y2 s16) fun s18 => some (false, 0, s18)))
theorem q_PA_block_34 {g : mv_G} {N : Nat} {p_PA_statement : Nat → Int32 → mh_H → Option (Bool × Int32 × mh_H)} (hl : (mg_l g).stackTraces = false) {F Lw : Nat} (h_PA_statement : pkV1 g M_PA_statement F Lw p_PA_statement) (hF : 40 ≤ F) (hLw : 1000 ≤ Lw) : ∀ (n : Nat) (y0 : Nat) (y1 : Int32) (y2 : Int32) (y3 : Int32) (y4 : Int32) (σ : mh_H) (r : Bool × Int32 × mh_H), k_PA_block_34 N p_PA_statement n y0 y1 y2 y3 y4 σ = some r → mv_V g M_PA_block (F + 1) (Lw + 60) 0 0 34 [some (.ref y0), some (.int y1), some (.int y2), some (.int y3), some (.int y4)] [] σ (pcV r) := by
  intro n
  induction n with
  | zero =>
    intro y0 y1 y2 y3 y4 σ r h
    exact absurd h (by simp [k_PA_block_34])
  | succ n ih =>
    intro y0 y1 y2 y3 y4 σ r h 
    unfold k_PA_block_34 at h
    refine vr_iload d_PA_block_34 rfl ?_
    refine vr_aload_n d_PA_block_36 rfl rfl ?_
    have q12 := (l_chk h).1
    replace h := (l_chk h).2
    obtain ⟨b13, eb13, h⟩ := l_rf h
    refine vr_getR (b := b13) d_PA_block_37 F_PA_15 rfl q12 eb13 ?_
    have q14 := (l_chk h).1
    replace h := (l_chk h).2
    refine vr_getI d_PA_block_40 F_PA_23 rfl q14 ?_
    refine vr_icmp_ge (tgt := 66) d_PA_block_43 (by decide) (fun c43 => ?_) (fun c43 => ?_)
    · replace h := l_ifp c43 h
      refine vr_aload_n d_PA_block_66 rfl rfl ?_
      refine vr_iconst 2 d_PA_block_67 (by decide) ?_
      refine vr_iload_n d_PA_block_68 rfl rfl ?_
      refine vr_iload_n d_PA_block_69 rfl rfl ?_
      obtain ⟨s15, es15, h⟩ := l_calV h
      refine mh_callU 3 [.int 2, .int y3, .int y2] d_PA_block_70 C_PA_72 (c_PA_finish es15) q12 rfl rfl rfl (Nat.le_of_ble_eq_true rfl) (by omega) (by show 8 + (4 + 11) + 24 ≤ Lw + 60; omega) ?_
      cases h
      exact vr_vret d_PA_block_73 rfl ⟨rfl, rfl⟩
    · replace h := l_ifn c43 h
      refine vr_aload_n d_PA_block_46 rfl rfl ?_
      refine vr_bipush 15 d_PA_block_47 (by decide) ?_
      obtain ⟨v16, s16, ev16, h⟩ := l_calI h
      refine mh_callI 3 [.int 15] d_PA_block_49 C_PA_65 (c_PA_skip ev16) q12 rfl rfl rfl (Nat.le_of_ble_eq_true rfl) (by omega) (by show 8 + (2 + 11) + 21 ≤ Lw + 60; omega) ?_
      refine vr_if_ne (tgt := 66) d_PA_block_52 (by decide) (fun c52 => ?_) (fun c52 => ?_)
      · replace h := l_ifn c52 h
        refine vr_aload_n d_PA_block_66 rfl rfl ?_
        refine vr_iconst 2 d_PA_block_67 (by decide) ?_
        refine vr_iload_n d_PA_block_68 rfl rfl ?_
        refine vr_iload_n d_PA_block_69 rfl rfl ?_
        have q17 := (l_chk h).1
        replace h := (l_chk h).2
        obtain ⟨s18, es18, h⟩ := l_calV h
        refine mh_callU 3 [.int 2, .int y3, .int y2] d_PA_block_70 C_PA_72 (c_PA_finish es18) q17 rfl rfl rfl (Nat.le_of_ble_eq_true rfl) (by omega) (by show 8 + (4 + 11) + 24 ≤ Lw + 60; omega) ?_
        cases h
        exact vr_vret d_PA_block_73 rfl ⟨rfl, rfl⟩
      · replace h := l_ifp c52 h
        refine vr_aload_n d_PA_block_55 rfl rfl ?_
        refine vr_iload_n d_PA_block_56 rfl rfl ?_
        have q19 := (l_chk h).1
        replace h := (l_chk h).2
        rcases l_calT h with ⟨v20, s20, ev20, h⟩ | ⟨v20, s20, ev20, hz⟩
        rotate_left
        · cases hz
          exact mh_threw (Qy := fun _ _ => True) 3 [.int y1] d_PA_block_57 C_PA_79 (h_PA_statement _ _ _ _ ev20) q19 rfl rfl rfl (Nat.le_of_ble_eq_true rfl) (by omega) (by show 8 + (5 + 11) + Lw ≤ Lw + 60; omega) rfl ⟨rfl, rfl⟩
        refine mh_callU 3 [.int y1] d_PA_block_57 C_PA_79 (h_PA_statement _ _ _ _ ev20) q19 rfl rfl rfl (Nat.le_of_ble_eq_true rfl) (by omega) (by show 8 + (5 + 11) + Lw ≤ Lw + 60; omega) ?_
        refine vr_iinc (L' := [some (.ref y0), some (.int y1), some (.int y2), some (.int y3), some (.int (y4 + 1))]) (y4 + 1) d_PA_block_60 (by decide) rfl rfl rfl ?_
        refine vr_goto (tgt := 34) d_PA_block_63 (by decide) ?_
        exact mv_drop (ih _ _ _ _ _ _ _ h) (And.intro rfl (And.intro rfl (And.intro rfl (And.intro rfl (And.intro rfl trivial)))))

def f_PA_block (N : Nat) (p_PA_statement : Nat → Int32 → mh_H → Option (Bool × Int32 × mh_H)) (a0 : Nat) (x1 : Int32) (σ : mh_H) : Option (Bool × Int32 × mh_H) := chk (hT σ a0 = 7) <| calT (f_PA_limit N a0 x1 σ) fun v2 s2 => chk (hT s2 a0 = 7) <| rfO (hR s2 3 1 a0) fun b4 => chk (hT s2 b4 = 3) <| bnd ((hI s2 1 4 b4)) fun v6 => rfO (hR s2 3 0 a0) fun b7 => chk (hT s2 b7 = 9) <| calI (f_TO_placeAt N b7 ((hI s2 3 2 a0)) s2) fun v9 s9 => chk (hT s9 a0 = 7) <| calT (f_PA_take N a0 14 s9) fun v11 s11 => k_PA_block_34 N p_PA_statement N a0 x1 v6 v9 0 s11
theorem c_PA_block {g : mv_G} {N : Nat} {p_PA_statement : Nat → Int32 → mh_H → Option (Bool × Int32 × mh_H)} (hl : (mg_l g).stackTraces = false) {F Lw : Nat} (h_PA_statement : pkV1 g M_PA_statement F Lw p_PA_statement) (hF : 40 ≤ F) (hLw : 1000 ≤ Lw) : pkV1 g M_PA_block (F + 1) (Lw + 60) (f_PA_block N p_PA_statement) := by
  intro a0 x1 σ r h
  refine mv_entry (L := [some (.ref a0), some (.int x1), none, none, none]) rfl rfl (Nat.le_of_ble_eq_true rfl) rfl ?_
  unfold f_PA_block at h
  refine vr_aload_n d_PA_block_0 rfl rfl ?_
  refine vr_iload_n d_PA_block_1 rfl rfl ?_
  have q1 := (l_chk h).1
  replace h := (l_chk h).2
  rcases l_calT h with ⟨v2, s2, ev2, h⟩ | ⟨v2, s2, ev2, hz⟩
  rotate_left
  · cases hz
    exact mh_threw (Qy := fun _ _ => True) 3 [.int x1] d_PA_block_2 C_PA_76 (c_PA_limit hl ev2) q1 rfl rfl rfl (Nat.le_of_ble_eq_true rfl) (by omega) (by show 8 + (2 + 11) + 120 ≤ Lw + 60; omega) rfl ⟨rfl, rfl⟩
  refine mh_callU 3 [.int x1] d_PA_block_2 C_PA_76 (c_PA_limit hl ev2) q1 rfl rfl rfl (Nat.le_of_ble_eq_true rfl) (by omega) (by show 8 + (2 + 11) + 120 ≤ Lw + 60; omega) ?_
  refine vr_aload_n d_PA_block_5 rfl rfl ?_
  have q3 := (l_chk h).1
  replace h := (l_chk h).2
  obtain ⟨b4, eb4, h⟩ := l_rf h
  refine vr_getR (b := b4) d_PA_block_6 F_PA_19 rfl q3 eb4 ?_
  have q5 := (l_chk h).1
  replace h := (l_chk h).2
  refine vr_getI d_PA_block_9 F_PA_43 rfl q5 ?_
  obtain ⟨v6, ev6, h⟩ := l_bnd h
  refine vr_nm ev6 ?_
  refine vr_istore_n (L' := [some (.ref a0), some (.int x1), some (.int v6), none, none]) d_PA_block_12 rfl (by decide) rfl ?_
  refine vr_aload_n d_PA_block_13 rfl rfl ?_
  obtain ⟨b7, eb7, h⟩ := l_rf h
  refine vr_getR (b := b7) d_PA_block_14 F_PA_15 rfl q3 eb7 ?_
  refine vr_aload_n d_PA_block_17 rfl rfl ?_
  refine vr_getI d_PA_block_18 F_PA_9 rfl q3 ?_
  have q8 := (l_chk h).1
  replace h := (l_chk h).2
  obtain ⟨v9, s9, ev9, h⟩ := l_calI h
  refine mh_callI 4 [.int (hI s2 3 2 a0)] d_PA_block_21 C_PA_46 (c_TO_placeAt ev9) q8 rfl rfl rfl (Nat.le_of_ble_eq_true rfl) (by omega) (by show 8 + (2 + 11) + 0 ≤ Lw + 60; omega) ?_
  refine vr_istore_n (L' := [some (.ref a0), some (.int x1), some (.int v6), some (.int v9), none]) d_PA_block_24 rfl (by decide) rfl ?_
  refine vr_aload_n d_PA_block_25 rfl rfl ?_
  refine vr_bipush 14 d_PA_block_26 (by decide) ?_
  have q10 := (l_chk h).1
  replace h := (l_chk h).2
  rcases l_calT h with ⟨v11, s11, ev11, h⟩ | ⟨v11, s11, ev11, hz⟩
  rotate_left
  · cases hz
    exact mh_threw (Qy := fun _ _ => True) 3 [.int 14] d_PA_block_28 C_PA_56 (c_PA_take hl ev11) q10 rfl rfl rfl (Nat.le_of_ble_eq_true rfl) (by omega) (by show 8 + (2 + 11) + 120 ≤ Lw + 60; omega) rfl ⟨rfl, rfl⟩
  refine mh_callU 3 [.int 14] d_PA_block_28 C_PA_56 (c_PA_take hl ev11) q10 rfl rfl rfl (Nat.le_of_ble_eq_true rfl) (by omega) (by show 8 + (2 + 11) + 120 ≤ Lw + 60; omega) ?_
  refine vr_iconst 0 d_PA_block_31 (by decide) ?_
  refine vr_istore (L' := [some (.ref a0), some (.int x1), some (.int v6), some (.int v9), some (.int 0)]) d_PA_block_32 (by decide) rfl ?_
  exact mv_drop (q_PA_block_34 hl h_PA_statement hF hLw N _ _ _ _ _ _ _ h) (And.intro rfl (And.intro rfl (And.intro rfl (And.intro rfl (And.intro rfl trivial)))))

def k_PA_statement_106 (N : Nat) (p_PA_variable : Nat → Int32 → mh_H → Option (Bool × Int32 × mh_H)) (p_PA_call : Nat → Int32 → mh_H → Option (Bool × Int32 × mh_H)) (p_PA_assignment : Nat → Int32 → mh_H → Option (Bool × Int32 × mh_H)) (p_PA_conditional : Nat → Int32 → mh_H → Option (Bool × Int32 × mh_H)) (p_PA_sum : Nat → Int32 → mh_H → Option (Bool × Int32 × mh_H)) (y0 : Nat) (y2 : Int32) (y3 : Int32) (z0 : Int32) (σ : mh_H) : Option (Bool × Int32 × mh_H) := chk (hT σ y0 = 7) <| calV (f_PA_finish N y0 z0 y3 y2 σ) fun s67 => some (false, 0, s67)
theorem q_PA_statement_106 {g : mv_G} {N : Nat} {p_PA_variable : Nat → Int32 → mh_H → Option (Bool × Int32 × mh_H)} {p_PA_call : Nat → Int32 → mh_H → Option (Bool × Int32 × mh_H)} {p_PA_assignment : Nat → Int32 → mh_H → Option (Bool × Int32 × mh_H)} {p_PA_conditional : Nat → Int32 → mh_H → Option (Bool × Int32 × mh_H)} {p_PA_sum : Nat → Int32 → mh_H → Option (Bool × Int32 × mh_H)} (hl : (mg_l g).stackTraces = false) {F Lw : Nat} (h_PA_variable : pkI1 g M_PA_variable F Lw p_PA_variable) (h_PA_call : pkI1 g M_PA_call F Lw p_PA_call) (h_PA_assignment : pkI1 g M_PA_assignment F Lw p_PA_assignment) (h_PA_conditional : pkI1 g M_PA_conditional F Lw p_PA_conditional) (h_PA_sum : pkV1 g M_PA_sum F Lw p_PA_sum) (hF : 40 ≤ F) (hLw : 1000 ≤ Lw) (y0 : Nat) (y2 : Int32) (y3 : Int32) (z0 : Int32) (σ : mh_H) (r : Bool × Int32 × mh_H) (h : k_PA_statement_106 N p_PA_variable p_PA_call p_PA_assignment p_PA_conditional p_PA_sum y0 y2 y3 z0 σ = some r) : mv_V g M_PA_statement (F + 1) (Lw + 60) 0 0 106 [some (.ref y0), none, some (.int y2), some (.int y3), none] [.int z0] σ (pcV r) := by
  unfold k_PA_statement_106 at h
  refine vr_istore (L' := [some (.ref y0), none, some (.int y2), some (.int y3), some (.int z0)]) d_PA_statement_106 (by decide) rfl ?_
  refine vr_goto (tgt := 144) d_PA_statement_108 (by decide) ?_
  refine vr_aload_n d_PA_statement_144 rfl rfl ?_
  refine vr_iload d_PA_statement_145 rfl ?_
  refine vr_iload_n d_PA_statement_147 rfl rfl ?_
  refine vr_iload_n d_PA_statement_148 rfl rfl ?_
  have q66 := (l_chk h).1
  replace h := (l_chk h).2
  obtain ⟨s67, es67, h⟩ := l_calV h
  refine mh_callU 3 [.int z0, .int y3, .int y2] d_PA_statement_149 C_PA_72 (c_PA_finish es67) q66 rfl rfl rfl (Nat.le_of_ble_eq_true rfl) (by omega) (by show 8 + (4 + 11) + 24 ≤ Lw + 60; omega) ?_
  cases h
  exact vr_vret d_PA_statement_152 rfl ⟨rfl, rfl⟩

def f_PA_statement (N : Nat) (p_PA_variable : Nat → Int32 → mh_H → Option (Bool × Int32 × mh_H)) (p_PA_call : Nat → Int32 → mh_H → Option (Bool × Int32 × mh_H)) (p_PA_assignment : Nat → Int32 → mh_H → Option (Bool × Int32 × mh_H)) (p_PA_conditional : Nat → Int32 → mh_H → Option (Bool × Int32 × mh_H)) (p_PA_sum : Nat → Int32 → mh_H → Option (Bool × Int32 × mh_H)) (a0 : Nat) (x1 : Int32) (σ : mh_H) : Option (Bool × Int32 × mh_H) := chk (hT σ a0 = 7) <| rfO (hR σ 3 1 a0) fun b2 => chk (hT σ b2 = 3) <| bnd ((hI σ 1 4 b2)) fun v4 => rfO (hR σ 3 0 a0) fun b5 => chk (hT σ b5 = 9) <| calI (f_TO_placeAt N b5 ((hI σ 3 2 a0)) σ) fun v7 s7 => chk (hT s7 a0 = 7) <| rfO (hR s7 3 0 a0) fun b9 => chk (hT s7 b9 = 9) <| calI (f_TO_kindAt N b9 ((hI s7 3 2 a0)) s7) fun v11 s11 => if v11 = 2 then (chk (hT s11 a0 = 7) <| calI (f_PA_isCall N a0 s11) fun v13 s13 => if v13 = 0 then (chk (hT s13 a0 = 7) <| calT (p_PA_assignment a0 x1 s13) fun v15 s15 => k_PA_statement_106 N p_PA_variable p_PA_call p_PA_assignment p_PA_conditional p_PA_sum a0 v4 v7 v15 s15) else (chk (hT s13 a0 = 7) <| calT (p_PA_call a0 x1 s13) fun v17 s17 => k_PA_statement_106 N p_PA_variable p_PA_call p_PA_assignment p_PA_conditional p_PA_sum a0 v4 v7 v17 s17)) else if v11 = 3 then (chk (hT s11 a0 = 7) <| calT (f_PA_take N a0 10 s11) fun v19 s19 => chk (hT s19 a0 = 7) <| calT (p_PA_sum a0 ((x1 + 1)) s19) fun v21 s21 => chk (hT s21 a0 = 7) <| calT (f_PA_take N a0 19 s21) fun v23 s23 => chk (hT s23 a0 = 7) <| calV (f_PA_finish N a0 11 v7 v4 s23) fun s25 => some (false, 0, s25)) else if v11 = 4 then (chk (hT s11 a0 = 7) <| calT (f_PA_take N a0 10 s11) fun v27 s27 => chk (hT s27 a0 = 7) <| calT (p_PA_sum a0 ((x1 + 1)) s27) fun v29 s29 => chk (hT s29 a0 = 7) <| calT (f_PA_take N a0 19 s29) fun v31 s31 => chk (hT s31 a0 = 7) <| calV (f_PA_finish N a0 11 v7 v4 s31) fun s33 => some (false, 0, s33)) else if v11 = 5 then (chk (hT s11 a0 = 7) <| calT (p_PA_variable a0 x1 s11) fun v35 s35 => chk (hT s35 a0 = 7) <| calV (f_PA_finish N a0 v35 v7 v4 s35) fun s37 => some (false, 0, s37)) else if v11 = 6 then (chk (hT s11 a0 = 7) <| calT (p_PA_conditional a0 x1 s11) fun v39 s39 => chk (hT s39 a0 = 7) <| calV (f_PA_finish N a0 v39 v7 v4 s39) fun s41 => some (false, 0, s41)) else if v11 = 7 then (chk (hT s11 a0 = 7) <| calT (f_PA_take N a0 10 s11) fun v43 s43 => chk (hT s43 a0 = 7) <| calT (p_PA_sum a0 ((x1 + 1)) s43) fun v45 s45 => chk (hT s45 a0 = 7) <| calT (f_PA_take N a0 19 s45) fun v47 s47 => chk (hT s47 a0 = 7) <| calV (f_PA_finish N a0 11 v7 v4 s47) fun s49 => some (false, 0, s49)) else if v11 = 8 then (chk (hT s11 a0 = 7) <| calT (p_PA_conditional a0 x1 s11) fun v51 s51 => chk (hT s51 a0 = 7) <| calV (f_PA_finish N a0 v51 v7 v4 s51) fun s53 => some (false, 0, s53)) else if v11 = 9 then (chk (hT s11 a0 = 7) <| calT (p_PA_conditional a0 x1 s11) fun v55 s55 => chk (hT s55 a0 = 7) <| calV (f_PA_finish N a0 v55 v7 v4 s55) fun s57 => some (false, 0, s57)) else (chk (hT s11 a0 = 7) <| calT (f_PA_take N a0 10 s11) fun v59 s59 => chk (hT s59 a0 = 7) <| calT (p_PA_sum a0 ((x1 + 1)) s59) fun v61 s61 => chk (hT s61 a0 = 7) <| calT (f_PA_take N a0 19 s61) fun v63 s63 => chk (hT s63 a0 = 7) <| calV (f_PA_finish N a0 11 v7 v4 s63) fun s65 => some (false, 0, s65))
theorem c_PA_statement {g : mv_G} {N : Nat} {p_PA_variable : Nat → Int32 → mh_H → Option (Bool × Int32 × mh_H)} {p_PA_call : Nat → Int32 → mh_H → Option (Bool × Int32 × mh_H)} {p_PA_assignment : Nat → Int32 → mh_H → Option (Bool × Int32 × mh_H)} {p_PA_conditional : Nat → Int32 → mh_H → Option (Bool × Int32 × mh_H)} {p_PA_sum : Nat → Int32 → mh_H → Option (Bool × Int32 × mh_H)} (hl : (mg_l g).stackTraces = false) {F Lw : Nat} (h_PA_variable : pkI1 g M_PA_variable F Lw p_PA_variable) (h_PA_call : pkI1 g M_PA_call F Lw p_PA_call) (h_PA_assignment : pkI1 g M_PA_assignment F Lw p_PA_assignment) (h_PA_conditional : pkI1 g M_PA_conditional F Lw p_PA_conditional) (h_PA_sum : pkV1 g M_PA_sum F Lw p_PA_sum) (hF : 40 ≤ F) (hLw : 1000 ≤ Lw) : pkV1 g M_PA_statement (F + 1) (Lw + 60) (f_PA_statement N p_PA_variable p_PA_call p_PA_assignment p_PA_conditional p_PA_sum) := by
  intro a0 x1 σ r h
  refine mv_entry (L := [some (.ref a0), some (.int x1), none, none, none]) rfl rfl (Nat.le_of_ble_eq_true rfl) rfl ?_
  unfold f_PA_statement at h
  refine vr_aload_n d_PA_statement_0 rfl rfl ?_
  have q1 := (l_chk h).1
  replace h := (l_chk h).2
  obtain ⟨b2, eb2, h⟩ := l_rf h
  refine vr_getR (b := b2) d_PA_statement_1 F_PA_19 rfl q1 eb2 ?_
  have q3 := (l_chk h).1
  replace h := (l_chk h).2
  refine vr_getI d_PA_statement_4 F_PA_43 rfl q3 ?_
  obtain ⟨v4, ev4, h⟩ := l_bnd h
  refine vr_nm ev4 ?_
  refine vr_istore_n (L' := [some (.ref a0), some (.int x1), some (.int v4), none, none]) d_PA_statement_7 rfl (by decide) rfl ?_
  refine vr_aload_n d_PA_statement_8 rfl rfl ?_
  obtain ⟨b5, eb5, h⟩ := l_rf h
  refine vr_getR (b := b5) d_PA_statement_9 F_PA_15 rfl q1 eb5 ?_
  refine vr_aload_n d_PA_statement_12 rfl rfl ?_
  refine vr_getI d_PA_statement_13 F_PA_9 rfl q1 ?_
  have q6 := (l_chk h).1
  replace h := (l_chk h).2
  obtain ⟨v7, s7, ev7, h⟩ := l_calI h
  refine mh_callI 4 [.int (hI σ 3 2 a0)] d_PA_statement_16 C_PA_46 (c_TO_placeAt ev7) q6 rfl rfl rfl (Nat.le_of_ble_eq_true rfl) (by omega) (by show 8 + (2 + 11) + 0 ≤ Lw + 60; omega) ?_
  refine vr_istore_n (L' := [some (.ref a0), some (.int x1), some (.int v4), some (.int v7), none]) d_PA_statement_19 rfl (by decide) rfl ?_
  refine vr_aload_n d_PA_statement_20 rfl rfl ?_
  have q8 := (l_chk h).1
  replace h := (l_chk h).2
  obtain ⟨b9, eb9, h⟩ := l_rf h
  refine vr_getR (b := b9) d_PA_statement_21 F_PA_15 rfl q8 eb9 ?_
  refine vr_aload_n d_PA_statement_24 rfl rfl ?_
  refine vr_getI d_PA_statement_25 F_PA_9 rfl q8 ?_
  have q10 := (l_chk h).1
  replace h := (l_chk h).2
  obtain ⟨v11, s11, ev11, h⟩ := l_calI h
  refine mh_callI 4 [.int (hI s7 3 2 a0)] d_PA_statement_28 C_PA_62 (c_TO_kindAt ev11) q10 rfl rfl rfl (Nat.le_of_ble_eq_true rfl) (by omega) (by show 8 + (2 + 11) + 0 ≤ Lw + 60; omega) ?_
  by_cases c31_2 : v11 = 2
  · replace h := l_ifp c31_2 h
    refine vr_tableIn (x := v11) (tgt := 86) (off := 55) d_PA_statement_31 (by rw [c31_2]; decide) (by rw [c31_2]; decide) (by rw [c31_2]; rfl) (by decide) ?_
    refine vr_aload_n d_PA_statement_86 rfl rfl ?_
    have q12 := (l_chk h).1
    replace h := (l_chk h).2
    obtain ⟨v13, s13, ev13, h⟩ := l_calI h
    refine mh_callI 3 [] d_PA_statement_87 C_PA_85 (c_PA_isCall ev13) q12 rfl rfl rfl (Nat.le_of_ble_eq_true rfl) (by omega) (by show 8 + (2 + 11) + 21 ≤ Lw + 60; omega) ?_
    refine vr_if_eq (tgt := 101) d_PA_statement_90 (by decide) (fun c90 => ?_) (fun c90 => ?_)
    · replace h := l_ifp c90 h
      refine vr_aload_n d_PA_statement_101 rfl rfl ?_
      refine vr_iload_n d_PA_statement_102 rfl rfl ?_
      have q14 := (l_chk h).1
      replace h := (l_chk h).2
      rcases l_calT h with ⟨v15, s15, ev15, h⟩ | ⟨v15, s15, ev15, hz⟩
      rotate_left
      · cases hz
        exact mh_threw (Qy := fun _ _ => True) 3 [.int x1] d_PA_statement_103 C_PA_92 (h_PA_assignment _ _ _ _ ev15) q14 rfl rfl rfl (Nat.le_of_ble_eq_true rfl) (by omega) (by show 8 + (3 + 11) + Lw ≤ Lw + 60; omega) rfl ⟨rfl, rfl⟩
      refine mh_callI 3 [.int x1] d_PA_statement_103 C_PA_92 (h_PA_assignment _ _ _ _ ev15) q14 rfl rfl rfl (Nat.le_of_ble_eq_true rfl) (by omega) (by show 8 + (3 + 11) + Lw ≤ Lw + 60; omega) ?_
      exact mv_drop (q_PA_statement_106 hl h_PA_variable h_PA_call h_PA_assignment h_PA_conditional h_PA_sum hF hLw _ _ _ _ _ _ h) (And.intro rfl (And.intro rfl (And.intro rfl trivial)))
    · replace h := l_ifn c90 h
      refine vr_aload_n d_PA_statement_93 rfl rfl ?_
      refine vr_iload_n d_PA_statement_94 rfl rfl ?_
      have q16 := (l_chk h).1
      replace h := (l_chk h).2
      rcases l_calT h with ⟨v17, s17, ev17, h⟩ | ⟨v17, s17, ev17, hz⟩
      rotate_left
      · cases hz
        exact mh_threw (Qy := fun _ _ => True) 3 [.int x1] d_PA_statement_95 C_PA_89 (h_PA_call _ _ _ _ ev17) q16 rfl rfl rfl (Nat.le_of_ble_eq_true rfl) (by omega) (by show 8 + (3 + 11) + Lw ≤ Lw + 60; omega) rfl ⟨rfl, rfl⟩
      refine mh_callI 3 [.int x1] d_PA_statement_95 C_PA_89 (h_PA_call _ _ _ _ ev17) q16 rfl rfl rfl (Nat.le_of_ble_eq_true rfl) (by omega) (by show 8 + (3 + 11) + Lw ≤ Lw + 60; omega) ?_
      refine vr_goto (tgt := 106) d_PA_statement_98 (by decide) ?_
      exact mv_drop (q_PA_statement_106 hl h_PA_variable h_PA_call h_PA_assignment h_PA_conditional h_PA_sum hF hLw _ _ _ _ _ _ h) (And.intro rfl (And.intro rfl (And.intro rfl trivial)))
  replace h := l_ifn c31_2 h
  by_cases c31_3 : v11 = 3
  · replace h := l_ifp c31_3 h
    refine vr_tableIn (x := v11) (tgt := 121) (off := 90) d_PA_statement_31 (by rw [c31_3]; decide) (by rw [c31_3]; decide) (by rw [c31_3]; rfl) (by decide) ?_
    refine vr_aload_n d_PA_statement_121 rfl rfl ?_
    refine vr_bipush 10 d_PA_statement_122 (by decide) ?_
    have q18 := (l_chk h).1
    replace h := (l_chk h).2
    rcases l_calT h with ⟨v19, s19, ev19, h⟩ | ⟨v19, s19, ev19, hz⟩
    rotate_left
    · cases hz
      exact mh_threw (Qy := fun _ _ => True) 3 [.int 10] d_PA_statement_124 C_PA_56 (c_PA_take hl ev19) q18 rfl rfl rfl (Nat.le_of_ble_eq_true rfl) (by omega) (by show 8 + (2 + 11) + 120 ≤ Lw + 60; omega) rfl ⟨rfl, rfl⟩
    refine mh_callU 3 [.int 10] d_PA_statement_124 C_PA_56 (c_PA_take hl ev19) q18 rfl rfl rfl (Nat.le_of_ble_eq_true rfl) (by omega) (by show 8 + (2 + 11) + 120 ≤ Lw + 60; omega) ?_
    refine vr_aload_n d_PA_statement_127 rfl rfl ?_
    refine vr_iload_n d_PA_statement_128 rfl rfl ?_
    refine vr_iconst 1 d_PA_statement_129 (by decide) ?_
    refine vr_iadd d_PA_statement_130 ?_
    have q20 := (l_chk h).1
    replace h := (l_chk h).2
    rcases l_calT h with ⟨v21, s21, ev21, h⟩ | ⟨v21, s21, ev21, hz⟩
    rotate_left
    · cases hz
      exact mh_threw (Qy := fun _ _ => True) 3 [.int (x1 + 1)] d_PA_statement_131 C_PA_98 (h_PA_sum _ _ _ _ ev21) q20 rfl rfl rfl (Nat.le_of_ble_eq_true rfl) (by omega) (by show 8 + (8 + 11) + Lw ≤ Lw + 60; omega) rfl ⟨rfl, rfl⟩
    refine mh_callU 3 [.int (x1 + 1)] d_PA_statement_131 C_PA_98 (h_PA_sum _ _ _ _ ev21) q20 rfl rfl rfl (Nat.le_of_ble_eq_true rfl) (by omega) (by show 8 + (8 + 11) + Lw ≤ Lw + 60; omega) ?_
    refine vr_aload_n d_PA_statement_134 rfl rfl ?_
    refine vr_bipush 19 d_PA_statement_135 (by decide) ?_
    have q22 := (l_chk h).1
    replace h := (l_chk h).2
    rcases l_calT h with ⟨v23, s23, ev23, h⟩ | ⟨v23, s23, ev23, hz⟩
    rotate_left
    · cases hz
      exact mh_threw (Qy := fun _ _ => True) 3 [.int 19] d_PA_statement_137 C_PA_56 (c_PA_take hl ev23) q22 rfl rfl rfl (Nat.le_of_ble_eq_true rfl) (by omega) (by show 8 + (2 + 11) + 120 ≤ Lw + 60; omega) rfl ⟨rfl, rfl⟩
    refine mh_callU 3 [.int 19] d_PA_statement_137 C_PA_56 (c_PA_take hl ev23) q22 rfl rfl rfl (Nat.le_of_ble_eq_true rfl) (by omega) (by show 8 + (2 + 11) + 120 ≤ Lw + 60; omega) ?_
    refine vr_bipush 11 d_PA_statement_140 (by decide) ?_
    refine vr_istore (L' := [some (.ref a0), some (.int x1), some (.int v4), some (.int v7), some (.int 11)]) d_PA_statement_142 (by decide) rfl ?_
    refine vr_aload_n d_PA_statement_144 rfl rfl ?_
    refine vr_iload d_PA_statement_145 rfl ?_
    refine vr_iload_n d_PA_statement_147 rfl rfl ?_
    refine vr_iload_n d_PA_statement_148 rfl rfl ?_
    have q24 := (l_chk h).1
    replace h := (l_chk h).2
    obtain ⟨s25, es25, h⟩ := l_calV h
    refine mh_callU 3 [.int 11, .int v7, .int v4] d_PA_statement_149 C_PA_72 (c_PA_finish es25) q24 rfl rfl rfl (Nat.le_of_ble_eq_true rfl) (by omega) (by show 8 + (4 + 11) + 24 ≤ Lw + 60; omega) ?_
    cases h
    exact vr_vret d_PA_statement_152 rfl ⟨rfl, rfl⟩
  replace h := l_ifn c31_3 h
  by_cases c31_4 : v11 = 4
  · replace h := l_ifp c31_4 h
    refine vr_tableIn (x := v11) (tgt := 121) (off := 90) d_PA_statement_31 (by rw [c31_4]; decide) (by rw [c31_4]; decide) (by rw [c31_4]; rfl) (by decide) ?_
    refine vr_aload_n d_PA_statement_121 rfl rfl ?_
    refine vr_bipush 10 d_PA_statement_122 (by decide) ?_
    have q26 := (l_chk h).1
    replace h := (l_chk h).2
    rcases l_calT h with ⟨v27, s27, ev27, h⟩ | ⟨v27, s27, ev27, hz⟩
    rotate_left
    · cases hz
      exact mh_threw (Qy := fun _ _ => True) 3 [.int 10] d_PA_statement_124 C_PA_56 (c_PA_take hl ev27) q26 rfl rfl rfl (Nat.le_of_ble_eq_true rfl) (by omega) (by show 8 + (2 + 11) + 120 ≤ Lw + 60; omega) rfl ⟨rfl, rfl⟩
    refine mh_callU 3 [.int 10] d_PA_statement_124 C_PA_56 (c_PA_take hl ev27) q26 rfl rfl rfl (Nat.le_of_ble_eq_true rfl) (by omega) (by show 8 + (2 + 11) + 120 ≤ Lw + 60; omega) ?_
    refine vr_aload_n d_PA_statement_127 rfl rfl ?_
    refine vr_iload_n d_PA_statement_128 rfl rfl ?_
    refine vr_iconst 1 d_PA_statement_129 (by decide) ?_
    refine vr_iadd d_PA_statement_130 ?_
    have q28 := (l_chk h).1
    replace h := (l_chk h).2
    rcases l_calT h with ⟨v29, s29, ev29, h⟩ | ⟨v29, s29, ev29, hz⟩
    rotate_left
    · cases hz
      exact mh_threw (Qy := fun _ _ => True) 3 [.int (x1 + 1)] d_PA_statement_131 C_PA_98 (h_PA_sum _ _ _ _ ev29) q28 rfl rfl rfl (Nat.le_of_ble_eq_true rfl) (by omega) (by show 8 + (8 + 11) + Lw ≤ Lw + 60; omega) rfl ⟨rfl, rfl⟩
    refine mh_callU 3 [.int (x1 + 1)] d_PA_statement_131 C_PA_98 (h_PA_sum _ _ _ _ ev29) q28 rfl rfl rfl (Nat.le_of_ble_eq_true rfl) (by omega) (by show 8 + (8 + 11) + Lw ≤ Lw + 60; omega) ?_
    refine vr_aload_n d_PA_statement_134 rfl rfl ?_
    refine vr_bipush 19 d_PA_statement_135 (by decide) ?_
    have q30 := (l_chk h).1
    replace h := (l_chk h).2
    rcases l_calT h with ⟨v31, s31, ev31, h⟩ | ⟨v31, s31, ev31, hz⟩
    rotate_left
    · cases hz
      exact mh_threw (Qy := fun _ _ => True) 3 [.int 19] d_PA_statement_137 C_PA_56 (c_PA_take hl ev31) q30 rfl rfl rfl (Nat.le_of_ble_eq_true rfl) (by omega) (by show 8 + (2 + 11) + 120 ≤ Lw + 60; omega) rfl ⟨rfl, rfl⟩
    refine mh_callU 3 [.int 19] d_PA_statement_137 C_PA_56 (c_PA_take hl ev31) q30 rfl rfl rfl (Nat.le_of_ble_eq_true rfl) (by omega) (by show 8 + (2 + 11) + 120 ≤ Lw + 60; omega) ?_
    refine vr_bipush 11 d_PA_statement_140 (by decide) ?_
    refine vr_istore (L' := [some (.ref a0), some (.int x1), some (.int v4), some (.int v7), some (.int 11)]) d_PA_statement_142 (by decide) rfl ?_
    refine vr_aload_n d_PA_statement_144 rfl rfl ?_
    refine vr_iload d_PA_statement_145 rfl ?_
    refine vr_iload_n d_PA_statement_147 rfl rfl ?_
    refine vr_iload_n d_PA_statement_148 rfl rfl ?_
    have q32 := (l_chk h).1
    replace h := (l_chk h).2
    obtain ⟨s33, es33, h⟩ := l_calV h
    refine mh_callU 3 [.int 11, .int v7, .int v4] d_PA_statement_149 C_PA_72 (c_PA_finish es33) q32 rfl rfl rfl (Nat.le_of_ble_eq_true rfl) (by omega) (by show 8 + (4 + 11) + 24 ≤ Lw + 60; omega) ?_
    cases h
    exact vr_vret d_PA_statement_152 rfl ⟨rfl, rfl⟩
  replace h := l_ifn c31_4 h
  by_cases c31_5 : v11 = 5
  · replace h := l_ifp c31_5 h
    refine vr_tableIn (x := v11) (tgt := 76) (off := 45) d_PA_statement_31 (by rw [c31_5]; decide) (by rw [c31_5]; decide) (by rw [c31_5]; rfl) (by decide) ?_
    refine vr_aload_n d_PA_statement_76 rfl rfl ?_
    refine vr_iload_n d_PA_statement_77 rfl rfl ?_
    have q34 := (l_chk h).1
    replace h := (l_chk h).2
    rcases l_calT h with ⟨v35, s35, ev35, h⟩ | ⟨v35, s35, ev35, hz⟩
    rotate_left
    · cases hz
      exact mh_threw (Qy := fun _ _ => True) 3 [.int x1] d_PA_statement_78 C_PA_82 (h_PA_variable _ _ _ _ ev35) q34 rfl rfl rfl (Nat.le_of_ble_eq_true rfl) (by omega) (by show 8 + (3 + 11) + Lw ≤ Lw + 60; omega) rfl ⟨rfl, rfl⟩
    refine mh_callI 3 [.int x1] d_PA_statement_78 C_PA_82 (h_PA_variable _ _ _ _ ev35) q34 rfl rfl rfl (Nat.le_of_ble_eq_true rfl) (by omega) (by show 8 + (3 + 11) + Lw ≤ Lw + 60; omega) ?_
    refine vr_istore (L' := [some (.ref a0), some (.int x1), some (.int v4), some (.int v7), some (.int v35)]) d_PA_statement_81 (by decide) rfl ?_
    refine vr_goto (tgt := 144) d_PA_statement_83 (by decide) ?_
    refine vr_aload_n d_PA_statement_144 rfl rfl ?_
    refine vr_iload d_PA_statement_145 rfl ?_
    refine vr_iload_n d_PA_statement_147 rfl rfl ?_
    refine vr_iload_n d_PA_statement_148 rfl rfl ?_
    have q36 := (l_chk h).1
    replace h := (l_chk h).2
    obtain ⟨s37, es37, h⟩ := l_calV h
    refine mh_callU 3 [.int v35, .int v7, .int v4] d_PA_statement_149 C_PA_72 (c_PA_finish es37) q36 rfl rfl rfl (Nat.le_of_ble_eq_true rfl) (by omega) (by show 8 + (4 + 11) + 24 ≤ Lw + 60; omega) ?_
    cases h
    exact vr_vret d_PA_statement_152 rfl ⟨rfl, rfl⟩
  replace h := l_ifn c31_5 h
  by_cases c31_6 : v11 = 6
  · replace h := l_ifp c31_6 h
    refine vr_tableIn (x := v11) (tgt := 111) (off := 80) d_PA_statement_31 (by rw [c31_6]; decide) (by rw [c31_6]; decide) (by rw [c31_6]; rfl) (by decide) ?_
    refine vr_aload_n d_PA_statement_111 rfl rfl ?_
    refine vr_iload_n d_PA_statement_112 rfl rfl ?_
    have q38 := (l_chk h).1
    replace h := (l_chk h).2
    rcases l_calT h with ⟨v39, s39, ev39, h⟩ | ⟨v39, s39, ev39, hz⟩
    rotate_left
    · cases hz
      exact mh_threw (Qy := fun _ _ => True) 3 [.int x1] d_PA_statement_113 C_PA_95 (h_PA_conditional _ _ _ _ ev39) q38 rfl rfl rfl (Nat.le_of_ble_eq_true rfl) (by omega) (by show 8 + (3 + 11) + Lw ≤ Lw + 60; omega) rfl ⟨rfl, rfl⟩
    refine mh_callI 3 [.int x1] d_PA_statement_113 C_PA_95 (h_PA_conditional _ _ _ _ ev39) q38 rfl rfl rfl (Nat.le_of_ble_eq_true rfl) (by omega) (by show 8 + (3 + 11) + Lw ≤ Lw + 60; omega) ?_
    refine vr_istore (L' := [some (.ref a0), some (.int x1), some (.int v4), some (.int v7), some (.int v39)]) d_PA_statement_116 (by decide) rfl ?_
    refine vr_goto (tgt := 144) d_PA_statement_118 (by decide) ?_
    refine vr_aload_n d_PA_statement_144 rfl rfl ?_
    refine vr_iload d_PA_statement_145 rfl ?_
    refine vr_iload_n d_PA_statement_147 rfl rfl ?_
    refine vr_iload_n d_PA_statement_148 rfl rfl ?_
    have q40 := (l_chk h).1
    replace h := (l_chk h).2
    obtain ⟨s41, es41, h⟩ := l_calV h
    refine mh_callU 3 [.int v39, .int v7, .int v4] d_PA_statement_149 C_PA_72 (c_PA_finish es41) q40 rfl rfl rfl (Nat.le_of_ble_eq_true rfl) (by omega) (by show 8 + (4 + 11) + 24 ≤ Lw + 60; omega) ?_
    cases h
    exact vr_vret d_PA_statement_152 rfl ⟨rfl, rfl⟩
  replace h := l_ifn c31_6 h
  by_cases c31_7 : v11 = 7
  · replace h := l_ifp c31_7 h
    refine vr_tableIn (x := v11) (tgt := 121) (off := 90) d_PA_statement_31 (by rw [c31_7]; decide) (by rw [c31_7]; decide) (by rw [c31_7]; rfl) (by decide) ?_
    refine vr_aload_n d_PA_statement_121 rfl rfl ?_
    refine vr_bipush 10 d_PA_statement_122 (by decide) ?_
    have q42 := (l_chk h).1
    replace h := (l_chk h).2
    rcases l_calT h with ⟨v43, s43, ev43, h⟩ | ⟨v43, s43, ev43, hz⟩
    rotate_left
    · cases hz
      exact mh_threw (Qy := fun _ _ => True) 3 [.int 10] d_PA_statement_124 C_PA_56 (c_PA_take hl ev43) q42 rfl rfl rfl (Nat.le_of_ble_eq_true rfl) (by omega) (by show 8 + (2 + 11) + 120 ≤ Lw + 60; omega) rfl ⟨rfl, rfl⟩
    refine mh_callU 3 [.int 10] d_PA_statement_124 C_PA_56 (c_PA_take hl ev43) q42 rfl rfl rfl (Nat.le_of_ble_eq_true rfl) (by omega) (by show 8 + (2 + 11) + 120 ≤ Lw + 60; omega) ?_
    refine vr_aload_n d_PA_statement_127 rfl rfl ?_
    refine vr_iload_n d_PA_statement_128 rfl rfl ?_
    refine vr_iconst 1 d_PA_statement_129 (by decide) ?_
    refine vr_iadd d_PA_statement_130 ?_
    have q44 := (l_chk h).1
    replace h := (l_chk h).2
    rcases l_calT h with ⟨v45, s45, ev45, h⟩ | ⟨v45, s45, ev45, hz⟩
    rotate_left
    · cases hz
      exact mh_threw (Qy := fun _ _ => True) 3 [.int (x1 + 1)] d_PA_statement_131 C_PA_98 (h_PA_sum _ _ _ _ ev45) q44 rfl rfl rfl (Nat.le_of_ble_eq_true rfl) (by omega) (by show 8 + (8 + 11) + Lw ≤ Lw + 60; omega) rfl ⟨rfl, rfl⟩
    refine mh_callU 3 [.int (x1 + 1)] d_PA_statement_131 C_PA_98 (h_PA_sum _ _ _ _ ev45) q44 rfl rfl rfl (Nat.le_of_ble_eq_true rfl) (by omega) (by show 8 + (8 + 11) + Lw ≤ Lw + 60; omega) ?_
    refine vr_aload_n d_PA_statement_134 rfl rfl ?_
    refine vr_bipush 19 d_PA_statement_135 (by decide) ?_
    have q46 := (l_chk h).1
    replace h := (l_chk h).2
    rcases l_calT h with ⟨v47, s47, ev47, h⟩ | ⟨v47, s47, ev47, hz⟩
    rotate_left
    · cases hz
      exact mh_threw (Qy := fun _ _ => True) 3 [.int 19] d_PA_statement_137 C_PA_56 (c_PA_take hl ev47) q46 rfl rfl rfl (Nat.le_of_ble_eq_true rfl) (by omega) (by show 8 + (2 + 11) + 120 ≤ Lw + 60; omega) rfl ⟨rfl, rfl⟩
    refine mh_callU 3 [.int 19] d_PA_statement_137 C_PA_56 (c_PA_take hl ev47) q46 rfl rfl rfl (Nat.le_of_ble_eq_true rfl) (by omega) (by show 8 + (2 + 11) + 120 ≤ Lw + 60; omega) ?_
    refine vr_bipush 11 d_PA_statement_140 (by decide) ?_
    refine vr_istore (L' := [some (.ref a0), some (.int x1), some (.int v4), some (.int v7), some (.int 11)]) d_PA_statement_142 (by decide) rfl ?_
    refine vr_aload_n d_PA_statement_144 rfl rfl ?_
    refine vr_iload d_PA_statement_145 rfl ?_
    refine vr_iload_n d_PA_statement_147 rfl rfl ?_
    refine vr_iload_n d_PA_statement_148 rfl rfl ?_
    have q48 := (l_chk h).1
    replace h := (l_chk h).2
    obtain ⟨s49, es49, h⟩ := l_calV h
    refine mh_callU 3 [.int 11, .int v7, .int v4] d_PA_statement_149 C_PA_72 (c_PA_finish es49) q48 rfl rfl rfl (Nat.le_of_ble_eq_true rfl) (by omega) (by show 8 + (4 + 11) + 24 ≤ Lw + 60; omega) ?_
    cases h
    exact vr_vret d_PA_statement_152 rfl ⟨rfl, rfl⟩
  replace h := l_ifn c31_7 h
  by_cases c31_8 : v11 = 8
  · replace h := l_ifp c31_8 h
    refine vr_tableIn (x := v11) (tgt := 111) (off := 80) d_PA_statement_31 (by rw [c31_8]; decide) (by rw [c31_8]; decide) (by rw [c31_8]; rfl) (by decide) ?_
    refine vr_aload_n d_PA_statement_111 rfl rfl ?_
    refine vr_iload_n d_PA_statement_112 rfl rfl ?_
    have q50 := (l_chk h).1
    replace h := (l_chk h).2
    rcases l_calT h with ⟨v51, s51, ev51, h⟩ | ⟨v51, s51, ev51, hz⟩
    rotate_left
    · cases hz
      exact mh_threw (Qy := fun _ _ => True) 3 [.int x1] d_PA_statement_113 C_PA_95 (h_PA_conditional _ _ _ _ ev51) q50 rfl rfl rfl (Nat.le_of_ble_eq_true rfl) (by omega) (by show 8 + (3 + 11) + Lw ≤ Lw + 60; omega) rfl ⟨rfl, rfl⟩
    refine mh_callI 3 [.int x1] d_PA_statement_113 C_PA_95 (h_PA_conditional _ _ _ _ ev51) q50 rfl rfl rfl (Nat.le_of_ble_eq_true rfl) (by omega) (by show 8 + (3 + 11) + Lw ≤ Lw + 60; omega) ?_
    refine vr_istore (L' := [some (.ref a0), some (.int x1), some (.int v4), some (.int v7), some (.int v51)]) d_PA_statement_116 (by decide) rfl ?_
    refine vr_goto (tgt := 144) d_PA_statement_118 (by decide) ?_
    refine vr_aload_n d_PA_statement_144 rfl rfl ?_
    refine vr_iload d_PA_statement_145 rfl ?_
    refine vr_iload_n d_PA_statement_147 rfl rfl ?_
    refine vr_iload_n d_PA_statement_148 rfl rfl ?_
    have q52 := (l_chk h).1
    replace h := (l_chk h).2
    obtain ⟨s53, es53, h⟩ := l_calV h
    refine mh_callU 3 [.int v51, .int v7, .int v4] d_PA_statement_149 C_PA_72 (c_PA_finish es53) q52 rfl rfl rfl (Nat.le_of_ble_eq_true rfl) (by omega) (by show 8 + (4 + 11) + 24 ≤ Lw + 60; omega) ?_
    cases h
    exact vr_vret d_PA_statement_152 rfl ⟨rfl, rfl⟩
  replace h := l_ifn c31_8 h
  by_cases c31_9 : v11 = 9
  · replace h := l_ifp c31_9 h
    refine vr_tableIn (x := v11) (tgt := 111) (off := 80) d_PA_statement_31 (by rw [c31_9]; decide) (by rw [c31_9]; decide) (by rw [c31_9]; rfl) (by decide) ?_
    refine vr_aload_n d_PA_statement_111 rfl rfl ?_
    refine vr_iload_n d_PA_statement_112 rfl rfl ?_
    have q54 := (l_chk h).1
    replace h := (l_chk h).2
    rcases l_calT h with ⟨v55, s55, ev55, h⟩ | ⟨v55, s55, ev55, hz⟩
    rotate_left
    · cases hz
      exact mh_threw (Qy := fun _ _ => True) 3 [.int x1] d_PA_statement_113 C_PA_95 (h_PA_conditional _ _ _ _ ev55) q54 rfl rfl rfl (Nat.le_of_ble_eq_true rfl) (by omega) (by show 8 + (3 + 11) + Lw ≤ Lw + 60; omega) rfl ⟨rfl, rfl⟩
    refine mh_callI 3 [.int x1] d_PA_statement_113 C_PA_95 (h_PA_conditional _ _ _ _ ev55) q54 rfl rfl rfl (Nat.le_of_ble_eq_true rfl) (by omega) (by show 8 + (3 + 11) + Lw ≤ Lw + 60; omega) ?_
    refine vr_istore (L' := [some (.ref a0), some (.int x1), some (.int v4), some (.int v7), some (.int v55)]) d_PA_statement_116 (by decide) rfl ?_
    refine vr_goto (tgt := 144) d_PA_statement_118 (by decide) ?_
    refine vr_aload_n d_PA_statement_144 rfl rfl ?_
    refine vr_iload d_PA_statement_145 rfl ?_
    refine vr_iload_n d_PA_statement_147 rfl rfl ?_
    refine vr_iload_n d_PA_statement_148 rfl rfl ?_
    have q56 := (l_chk h).1
    replace h := (l_chk h).2
    obtain ⟨s57, es57, h⟩ := l_calV h
    refine mh_callU 3 [.int v55, .int v7, .int v4] d_PA_statement_149 C_PA_72 (c_PA_finish es57) q56 rfl rfl rfl (Nat.le_of_ble_eq_true rfl) (by omega) (by show 8 + (4 + 11) + 24 ≤ Lw + 60; omega) ?_
    cases h
    exact vr_vret d_PA_statement_152 rfl ⟨rfl, rfl⟩
  replace h := l_ifn c31_9 h
  refine vr_tableOut (x := v11) (tgt := 121) d_PA_statement_31 (by have u0 : ¬ (v11).toInt = 2 := l_nk c31_2 rfl; have u1 : ¬ (v11).toInt = 3 := l_nk c31_3 rfl; have u2 : ¬ (v11).toInt = 4 := l_nk c31_4 rfl; have u3 : ¬ (v11).toInt = 5 := l_nk c31_5 rfl; have u4 : ¬ (v11).toInt = 6 := l_nk c31_6 rfl; have u5 : ¬ (v11).toInt = 7 := l_nk c31_7 rfl; have u6 : ¬ (v11).toInt = 8 := l_nk c31_8 rfl; have u7 : ¬ (v11).toInt = 9 := l_nk c31_9 rfl; omega) (by decide) ?_
  refine vr_aload_n d_PA_statement_121 rfl rfl ?_
  refine vr_bipush 10 d_PA_statement_122 (by decide) ?_
  have q58 := (l_chk h).1
  replace h := (l_chk h).2
  rcases l_calT h with ⟨v59, s59, ev59, h⟩ | ⟨v59, s59, ev59, hz⟩
  rotate_left
  · cases hz
    exact mh_threw (Qy := fun _ _ => True) 3 [.int 10] d_PA_statement_124 C_PA_56 (c_PA_take hl ev59) q58 rfl rfl rfl (Nat.le_of_ble_eq_true rfl) (by omega) (by show 8 + (2 + 11) + 120 ≤ Lw + 60; omega) rfl ⟨rfl, rfl⟩
  refine mh_callU 3 [.int 10] d_PA_statement_124 C_PA_56 (c_PA_take hl ev59) q58 rfl rfl rfl (Nat.le_of_ble_eq_true rfl) (by omega) (by show 8 + (2 + 11) + 120 ≤ Lw + 60; omega) ?_
  refine vr_aload_n d_PA_statement_127 rfl rfl ?_
  refine vr_iload_n d_PA_statement_128 rfl rfl ?_
  refine vr_iconst 1 d_PA_statement_129 (by decide) ?_
  refine vr_iadd d_PA_statement_130 ?_
  have q60 := (l_chk h).1
  replace h := (l_chk h).2
  rcases l_calT h with ⟨v61, s61, ev61, h⟩ | ⟨v61, s61, ev61, hz⟩
  rotate_left
  · cases hz
    exact mh_threw (Qy := fun _ _ => True) 3 [.int (x1 + 1)] d_PA_statement_131 C_PA_98 (h_PA_sum _ _ _ _ ev61) q60 rfl rfl rfl (Nat.le_of_ble_eq_true rfl) (by omega) (by show 8 + (8 + 11) + Lw ≤ Lw + 60; omega) rfl ⟨rfl, rfl⟩
  refine mh_callU 3 [.int (x1 + 1)] d_PA_statement_131 C_PA_98 (h_PA_sum _ _ _ _ ev61) q60 rfl rfl rfl (Nat.le_of_ble_eq_true rfl) (by omega) (by show 8 + (8 + 11) + Lw ≤ Lw + 60; omega) ?_
  refine vr_aload_n d_PA_statement_134 rfl rfl ?_
  refine vr_bipush 19 d_PA_statement_135 (by decide) ?_
  have q62 := (l_chk h).1
  replace h := (l_chk h).2
  rcases l_calT h with ⟨v63, s63, ev63, h⟩ | ⟨v63, s63, ev63, hz⟩
  rotate_left
  · cases hz
    exact mh_threw (Qy := fun _ _ => True) 3 [.int 19] d_PA_statement_137 C_PA_56 (c_PA_take hl ev63) q62 rfl rfl rfl (Nat.le_of_ble_eq_true rfl) (by omega) (by show 8 + (2 + 11) + 120 ≤ Lw + 60; omega) rfl ⟨rfl, rfl⟩
  refine mh_callU 3 [.int 19] d_PA_statement_137 C_PA_56 (c_PA_take hl ev63) q62 rfl rfl rfl (Nat.le_of_ble_eq_true rfl) (by omega) (by show 8 + (2 + 11) + 120 ≤ Lw + 60; omega) ?_
  refine vr_bipush 11 d_PA_statement_140 (by decide) ?_
  refine vr_istore (L' := [some (.ref a0), some (.int x1), some (.int v4), some (.int v7), some (.int 11)]) d_PA_statement_142 (by decide) rfl ?_
  refine vr_aload_n d_PA_statement_144 rfl rfl ?_
  refine vr_iload d_PA_statement_145 rfl ?_
  refine vr_iload_n d_PA_statement_147 rfl rfl ?_
  refine vr_iload_n d_PA_statement_148 rfl rfl ?_
  have q64 := (l_chk h).1
  replace h := (l_chk h).2
  obtain ⟨s65, es65, h⟩ := l_calV h
  refine mh_callU 3 [.int 11, .int v7, .int v4] d_PA_statement_149 C_PA_72 (c_PA_finish es65) q64 rfl rfl rfl (Nat.le_of_ble_eq_true rfl) (by omega) (by show 8 + (4 + 11) + 24 ≤ Lw + 60; omega) ?_
  cases h
  exact vr_vret d_PA_statement_152 rfl ⟨rfl, rfl⟩

def f_PA_variable (N : Nat) (p_PA_sum : Nat → Int32 → mh_H → Option (Bool × Int32 × mh_H)) (a0 : Nat) (x1 : Int32) (σ : mh_H) : Option (Bool × Int32 × mh_H) := chk (hT σ a0 = 7) <| calT (f_PA_take N a0 5 σ) fun v2 s2 => chk (hT s2 a0 = 7) <| calT (f_PA_name N a0 s2) fun v4 s4 => chk (hT s4 a0 = 7) <| calI (f_PA_skip N a0 20 s4) fun v6 s6 => if v6 = 0 then (chk (hT s6 a0 = 7) <| calI (f_PA_skip N a0 16 s6) fun v8 s8 => if v8 = 0 then (chk (hT s8 a0 = 7) <| calT (f_PA_take N a0 19 s8) fun v10 s10 => some (false, 3, s10)) else (chk (hT s8 a0 = 7) <| calT (f_PA_number N a0 0 s8) fun v12 s12 => chk (hT s12 a0 = 7) <| calT (f_PA_take N a0 17 s12) fun v14 s14 => chk (hT s14 a0 = 7) <| calT (f_PA_take N a0 19 s14) fun v16 s16 => some (false, 4, s16))) else (chk (hT s6 a0 = 7) <| calT (p_PA_sum a0 ((x1 + 1)) s6) fun v18 s18 => chk (hT s18 a0 = 7) <| calT (f_PA_take N a0 19 s18) fun v20 s20 => some (false, 3, s20))
theorem c_PA_variable {g : mv_G} {N : Nat} {p_PA_sum : Nat → Int32 → mh_H → Option (Bool × Int32 × mh_H)} (hl : (mg_l g).stackTraces = false) {F Lw : Nat} (h_PA_sum : pkV1 g M_PA_sum F Lw p_PA_sum) (hF : 40 ≤ F) (hLw : 1000 ≤ Lw) : pkI1 g M_PA_variable (F + 1) (Lw + 60) (f_PA_variable N p_PA_sum) := by
  intro a0 x1 σ r h
  refine mv_entry (L := [some (.ref a0), some (.int x1), none]) rfl rfl (Nat.le_of_ble_eq_true rfl) rfl ?_
  unfold f_PA_variable at h
  refine vr_iconst 3 d_PA_variable_0 (by decide) ?_
  refine vr_istore_n (L' := [some (.ref a0), some (.int x1), some (.int 3)]) d_PA_variable_1 rfl (by decide) rfl ?_
  refine vr_aload_n d_PA_variable_2 rfl rfl ?_
  refine vr_iconst 5 d_PA_variable_3 (by decide) ?_
  have q1 := (l_chk h).1
  replace h := (l_chk h).2
  rcases l_calT h with ⟨v2, s2, ev2, h⟩ | ⟨v2, s2, ev2, hz⟩
  rotate_left
  · cases hz
    exact mh_threw (Qy := fun _ _ => True) 3 [.int 5] d_PA_variable_4 C_PA_56 (c_PA_take hl ev2) q1 rfl rfl rfl (Nat.le_of_ble_eq_true rfl) (by omega) (by show 8 + (2 + 11) + 120 ≤ Lw + 60; omega) rfl ⟨rfl, rfl⟩
  refine mh_callU 3 [.int 5] d_PA_variable_4 C_PA_56 (c_PA_take hl ev2) q1 rfl rfl rfl (Nat.le_of_ble_eq_true rfl) (by omega) (by show 8 + (2 + 11) + 120 ≤ Lw + 60; omega) ?_
  refine vr_aload_n d_PA_variable_7 rfl rfl ?_
  have q3 := (l_chk h).1
  replace h := (l_chk h).2
  rcases l_calT h with ⟨v4, s4, ev4, h⟩ | ⟨v4, s4, ev4, hz⟩
  rotate_left
  · cases hz
    exact mh_threw (Qy := fun _ _ => True) 3 [] d_PA_variable_8 C_PA_59 (c_PA_name hl ev4) q3 rfl rfl rfl (Nat.le_of_ble_eq_true rfl) (by omega) (by show 8 + (1 + 11) + 120 ≤ Lw + 60; omega) rfl ⟨rfl, rfl⟩
  refine mh_callU 3 [] d_PA_variable_8 C_PA_59 (c_PA_name hl ev4) q3 rfl rfl rfl (Nat.le_of_ble_eq_true rfl) (by omega) (by show 8 + (1 + 11) + 120 ≤ Lw + 60; omega) ?_
  refine vr_aload_n d_PA_variable_11 rfl rfl ?_
  refine vr_bipush 20 d_PA_variable_12 (by decide) ?_
  have q5 := (l_chk h).1
  replace h := (l_chk h).2
  obtain ⟨v6, s6, ev6, h⟩ := l_calI h
  refine mh_callI 3 [.int 20] d_PA_variable_14 C_PA_65 (c_PA_skip ev6) q5 rfl rfl rfl (Nat.le_of_ble_eq_true rfl) (by omega) (by show 8 + (2 + 11) + 21 ≤ Lw + 60; omega) ?_
  refine vr_if_eq (tgt := 30) d_PA_variable_17 (by decide) (fun c17 => ?_) (fun c17 => ?_)
  · replace h := l_ifp c17 h
    refine vr_aload_n d_PA_variable_30 rfl rfl ?_
    refine vr_bipush 16 d_PA_variable_31 (by decide) ?_
    have q7 := (l_chk h).1
    replace h := (l_chk h).2
    obtain ⟨v8, s8, ev8, h⟩ := l_calI h
    refine mh_callI 3 [.int 16] d_PA_variable_33 C_PA_65 (c_PA_skip ev8) q7 rfl rfl rfl (Nat.le_of_ble_eq_true rfl) (by omega) (by show 8 + (2 + 11) + 21 ≤ Lw + 60; omega) ?_
    refine vr_if_eq (tgt := 52) d_PA_variable_36 (by decide) (fun c36 => ?_) (fun c36 => ?_)
    · replace h := l_ifp c36 h
      refine vr_aload_n d_PA_variable_52 rfl rfl ?_
      refine vr_bipush 19 d_PA_variable_53 (by decide) ?_
      have q9 := (l_chk h).1
      replace h := (l_chk h).2
      rcases l_calT h with ⟨v10, s10, ev10, h⟩ | ⟨v10, s10, ev10, hz⟩
      rotate_left
      · cases hz
        exact mh_threw (Qy := fun _ _ => True) 3 [.int 19] d_PA_variable_55 C_PA_56 (c_PA_take hl ev10) q9 rfl rfl rfl (Nat.le_of_ble_eq_true rfl) (by omega) (by show 8 + (2 + 11) + 120 ≤ Lw + 60; omega) rfl ⟨rfl, rfl⟩
      refine mh_callU 3 [.int 19] d_PA_variable_55 C_PA_56 (c_PA_take hl ev10) q9 rfl rfl rfl (Nat.le_of_ble_eq_true rfl) (by omega) (by show 8 + (2 + 11) + 120 ≤ Lw + 60; omega) ?_
      refine vr_iload_n d_PA_variable_58 rfl rfl ?_
      cases h
      exact vr_iret d_PA_variable_59 rfl rfl ⟨rfl, rfl⟩
    · replace h := l_ifn c36 h
      refine vr_aload_n d_PA_variable_39 rfl rfl ?_
      refine vr_iconst 0 d_PA_variable_40 (by decide) ?_
      have q11 := (l_chk h).1
      replace h := (l_chk h).2
      rcases l_calT h with ⟨v12, s12, ev12, h⟩ | ⟨v12, s12, ev12, hz⟩
      rotate_left
      · cases hz
        exact mh_threw (Qy := fun _ _ => True) 3 [.int 0] d_PA_variable_41 C_PA_101 (c_PA_number hl ev12) q11 rfl rfl rfl (Nat.le_of_ble_eq_true rfl) (by omega) (by show 8 + (4 + 11) + 120 ≤ Lw + 60; omega) rfl ⟨rfl, rfl⟩
      refine mh_callU 3 [.int 0] d_PA_variable_41 C_PA_101 (c_PA_number hl ev12) q11 rfl rfl rfl (Nat.le_of_ble_eq_true rfl) (by omega) (by show 8 + (4 + 11) + 120 ≤ Lw + 60; omega) ?_
      refine vr_aload_n d_PA_variable_44 rfl rfl ?_
      refine vr_bipush 17 d_PA_variable_45 (by decide) ?_
      have q13 := (l_chk h).1
      replace h := (l_chk h).2
      rcases l_calT h with ⟨v14, s14, ev14, h⟩ | ⟨v14, s14, ev14, hz⟩
      rotate_left
      · cases hz
        exact mh_threw (Qy := fun _ _ => True) 3 [.int 17] d_PA_variable_47 C_PA_56 (c_PA_take hl ev14) q13 rfl rfl rfl (Nat.le_of_ble_eq_true rfl) (by omega) (by show 8 + (2 + 11) + 120 ≤ Lw + 60; omega) rfl ⟨rfl, rfl⟩
      refine mh_callU 3 [.int 17] d_PA_variable_47 C_PA_56 (c_PA_take hl ev14) q13 rfl rfl rfl (Nat.le_of_ble_eq_true rfl) (by omega) (by show 8 + (2 + 11) + 120 ≤ Lw + 60; omega) ?_
      refine vr_iconst 4 d_PA_variable_50 (by decide) ?_
      refine vr_istore_n (L' := [some (.ref a0), some (.int x1), some (.int 4)]) d_PA_variable_51 rfl (by decide) rfl ?_
      refine vr_aload_n d_PA_variable_52 rfl rfl ?_
      refine vr_bipush 19 d_PA_variable_53 (by decide) ?_
      have q15 := (l_chk h).1
      replace h := (l_chk h).2
      rcases l_calT h with ⟨v16, s16, ev16, h⟩ | ⟨v16, s16, ev16, hz⟩
      rotate_left
      · cases hz
        exact mh_threw (Qy := fun _ _ => True) 3 [.int 19] d_PA_variable_55 C_PA_56 (c_PA_take hl ev16) q15 rfl rfl rfl (Nat.le_of_ble_eq_true rfl) (by omega) (by show 8 + (2 + 11) + 120 ≤ Lw + 60; omega) rfl ⟨rfl, rfl⟩
      refine mh_callU 3 [.int 19] d_PA_variable_55 C_PA_56 (c_PA_take hl ev16) q15 rfl rfl rfl (Nat.le_of_ble_eq_true rfl) (by omega) (by show 8 + (2 + 11) + 120 ≤ Lw + 60; omega) ?_
      refine vr_iload_n d_PA_variable_58 rfl rfl ?_
      cases h
      exact vr_iret d_PA_variable_59 rfl rfl ⟨rfl, rfl⟩
  · replace h := l_ifn c17 h
    refine vr_aload_n d_PA_variable_20 rfl rfl ?_
    refine vr_iload_n d_PA_variable_21 rfl rfl ?_
    refine vr_iconst 1 d_PA_variable_22 (by decide) ?_
    refine vr_iadd d_PA_variable_23 ?_
    have q17 := (l_chk h).1
    replace h := (l_chk h).2
    rcases l_calT h with ⟨v18, s18, ev18, h⟩ | ⟨v18, s18, ev18, hz⟩
    rotate_left
    · cases hz
      exact mh_threw (Qy := fun _ _ => True) 3 [.int (x1 + 1)] d_PA_variable_24 C_PA_98 (h_PA_sum _ _ _ _ ev18) q17 rfl rfl rfl (Nat.le_of_ble_eq_true rfl) (by omega) (by show 8 + (8 + 11) + Lw ≤ Lw + 60; omega) rfl ⟨rfl, rfl⟩
    refine mh_callU 3 [.int (x1 + 1)] d_PA_variable_24 C_PA_98 (h_PA_sum _ _ _ _ ev18) q17 rfl rfl rfl (Nat.le_of_ble_eq_true rfl) (by omega) (by show 8 + (8 + 11) + Lw ≤ Lw + 60; omega) ?_
    refine vr_goto (tgt := 52) d_PA_variable_27 (by decide) ?_
    refine vr_aload_n d_PA_variable_52 rfl rfl ?_
    refine vr_bipush 19 d_PA_variable_53 (by decide) ?_
    have q19 := (l_chk h).1
    replace h := (l_chk h).2
    rcases l_calT h with ⟨v20, s20, ev20, h⟩ | ⟨v20, s20, ev20, hz⟩
    rotate_left
    · cases hz
      exact mh_threw (Qy := fun _ _ => True) 3 [.int 19] d_PA_variable_55 C_PA_56 (c_PA_take hl ev20) q19 rfl rfl rfl (Nat.le_of_ble_eq_true rfl) (by omega) (by show 8 + (2 + 11) + 120 ≤ Lw + 60; omega) rfl ⟨rfl, rfl⟩
    refine mh_callU 3 [.int 19] d_PA_variable_55 C_PA_56 (c_PA_take hl ev20) q19 rfl rfl rfl (Nat.le_of_ble_eq_true rfl) (by omega) (by show 8 + (2 + 11) + 120 ≤ Lw + 60; omega) ?_
    refine vr_iload_n d_PA_variable_58 rfl rfl ?_
    cases h
    exact vr_iret d_PA_variable_59 rfl rfl ⟨rfl, rfl⟩

def k_PA_call_121 (N : Nat) (p_PA_sum : Nat → Int32 → mh_H → Option (Bool × Int32 × mh_H)) (y0 : Nat) (σ : mh_H) : Option (Bool × Int32 × mh_H) := chk (hT σ y0 = 7) <| calT (f_PA_take N y0 13 σ) fun v27 s27 => chk (hT s27 y0 = 7) <| calT (f_PA_take N y0 19 s27) fun v29 s29 => some (false, 7, s29)
theorem q_PA_call_121 {g : mv_G} {N : Nat} {p_PA_sum : Nat → Int32 → mh_H → Option (Bool × Int32 × mh_H)} (hl : (mg_l g).stackTraces = false) {F Lw : Nat} (h_PA_sum : pkV1 g M_PA_sum F Lw p_PA_sum) (hF : 40 ≤ F) (hLw : 1000 ≤ Lw) (y0 : Nat) (σ : mh_H) (r : Bool × Int32 × mh_H) (h : k_PA_call_121 N p_PA_sum y0 σ = some r) : mv_V g M_PA_call (F + 1) (Lw + 60) 0 0 121 [some (.ref y0), none, none] [] σ (pcI r) := by
  unfold k_PA_call_121 at h
  refine vr_aload_n d_PA_call_121 rfl rfl ?_
  refine vr_bipush 13 d_PA_call_122 (by decide) ?_
  have q26 := (l_chk h).1
  replace h := (l_chk h).2
  rcases l_calT h with ⟨v27, s27, ev27, h⟩ | ⟨v27, s27, ev27, hz⟩
  rotate_left
  · cases hz
    exact mh_threw (Qy := fun _ _ => True) 3 [.int 13] d_PA_call_124 C_PA_56 (c_PA_take hl ev27) q26 rfl rfl rfl (Nat.le_of_ble_eq_true rfl) (by omega) (by show 8 + (2 + 11) + 120 ≤ Lw + 60; omega) rfl ⟨rfl, rfl⟩
  refine mh_callU 3 [.int 13] d_PA_call_124 C_PA_56 (c_PA_take hl ev27) q26 rfl rfl rfl (Nat.le_of_ble_eq_true rfl) (by omega) (by show 8 + (2 + 11) + 120 ≤ Lw + 60; omega) ?_
  refine vr_aload_n d_PA_call_127 rfl rfl ?_
  refine vr_bipush 19 d_PA_call_128 (by decide) ?_
  have q28 := (l_chk h).1
  replace h := (l_chk h).2
  rcases l_calT h with ⟨v29, s29, ev29, h⟩ | ⟨v29, s29, ev29, hz⟩
  rotate_left
  · cases hz
    exact mh_threw (Qy := fun _ _ => True) 3 [.int 19] d_PA_call_130 C_PA_56 (c_PA_take hl ev29) q28 rfl rfl rfl (Nat.le_of_ble_eq_true rfl) (by omega) (by show 8 + (2 + 11) + 120 ≤ Lw + 60; omega) rfl ⟨rfl, rfl⟩
  refine mh_callU 3 [.int 19] d_PA_call_130 C_PA_56 (c_PA_take hl ev29) q28 rfl rfl rfl (Nat.le_of_ble_eq_true rfl) (by omega) (by show 8 + (2 + 11) + 120 ≤ Lw + 60; omega) ?_
  refine vr_bipush 7 d_PA_call_133 (by decide) ?_
  cases h
  exact vr_iret d_PA_call_135 rfl rfl ⟨rfl, rfl⟩

def k_PA_call_88 (N : Nat) (p_PA_sum : Nat → Int32 → mh_H → Option (Bool × Int32 × mh_H)) : Nat → Nat → Int32 → Int32 → mh_H → Option (Bool × Int32 × mh_H)
  | 0, _, _, _, _ => none
  | n + 1, y0, y1, y2, σ => chk (hT σ y0 = 7) <| rfO (hR σ 3 0 y0) fun b31 => chk (hT σ b31 = 9) <| if (hI σ 4 5 b31) ≤ y2 then (k_PA_call_121 N p_PA_sum y0 σ) else (calI (f_PA_skip N y0 18 σ) fun v33 s33 => if v33 = 0 then (k_PA_call_121 N p_PA_sum y0 s33) else (chk (hT s33 y0 = 7) <| calT (p_PA_sum y0 ((y1 + 1)) s33) fun v35 s35 => k_PA_call_88 N p_PA_sum n y0 y1 ((y2 + 1)) s35))
theorem q_PA_call_88 {g : mv_G} {N : Nat} {p_PA_sum : Nat → Int32 → mh_H → Option (Bool × Int32 × mh_H)} (hl : (mg_l g).stackTraces = false) {F Lw : Nat} (h_PA_sum : pkV1 g M_PA_sum F Lw p_PA_sum) (hF : 40 ≤ F) (hLw : 1000 ≤ Lw) : ∀ (n : Nat) (y0 : Nat) (y1 : Int32) (y2 : Int32) (σ : mh_H) (r : Bool × Int32 × mh_H), k_PA_call_88 N p_PA_sum n y0 y1 y2 σ = some r → mv_V g M_PA_call (F + 1) (Lw + 60) 0 0 88 [some (.ref y0), some (.int y1), some (.int y2)] [] σ (pcI r) := by
  intro n
  induction n with
  | zero =>
    intro y0 y1 y2 σ r h
    exact absurd h (by simp [k_PA_call_88])
  | succ n ih =>
    intro y0 y1 y2 σ r h 
    unfold k_PA_call_88 at h
    refine vr_iload_n d_PA_call_88 rfl rfl ?_
    refine vr_aload_n d_PA_call_89 rfl rfl ?_
    have q30 := (l_chk h).1
    replace h := (l_chk h).2
    obtain ⟨b31, eb31, h⟩ := l_rf h
    refine vr_getR (b := b31) d_PA_call_90 F_PA_15 rfl q30 eb31 ?_
    have q32 := (l_chk h).1
    replace h := (l_chk h).2
    refine vr_getI d_PA_call_93 F_PA_23 rfl q32 ?_
    refine vr_icmp_ge (tgt := 121) d_PA_call_96 (by decide) (fun c96 => ?_) (fun c96 => ?_)
    · replace h := l_ifp c96 h
      exact mv_drop (q_PA_call_121 hl h_PA_sum hF hLw _ _ _ h) (And.intro rfl trivial)
    · replace h := l_ifn c96 h
      refine vr_aload_n d_PA_call_99 rfl rfl ?_
      refine vr_bipush 18 d_PA_call_100 (by decide) ?_
      obtain ⟨v33, s33, ev33, h⟩ := l_calI h
      refine mh_callI 3 [.int 18] d_PA_call_102 C_PA_65 (c_PA_skip ev33) q30 rfl rfl rfl (Nat.le_of_ble_eq_true rfl) (by omega) (by show 8 + (2 + 11) + 21 ≤ Lw + 60; omega) ?_
      refine vr_if_eq (tgt := 121) d_PA_call_105 (by decide) (fun c105 => ?_) (fun c105 => ?_)
      · replace h := l_ifp c105 h
        exact mv_drop (q_PA_call_121 hl h_PA_sum hF hLw _ _ _ h) (And.intro rfl trivial)
      · replace h := l_ifn c105 h
        refine vr_aload_n d_PA_call_108 rfl rfl ?_
        refine vr_iload_n d_PA_call_109 rfl rfl ?_
        refine vr_iconst 1 d_PA_call_110 (by decide) ?_
        refine vr_iadd d_PA_call_111 ?_
        have q34 := (l_chk h).1
        replace h := (l_chk h).2
        rcases l_calT h with ⟨v35, s35, ev35, h⟩ | ⟨v35, s35, ev35, hz⟩
        rotate_left
        · cases hz
          exact mh_threw (Qy := fun _ _ => True) 3 [.int (y1 + 1)] d_PA_call_112 C_PA_98 (h_PA_sum _ _ _ _ ev35) q34 rfl rfl rfl (Nat.le_of_ble_eq_true rfl) (by omega) (by show 8 + (8 + 11) + Lw ≤ Lw + 60; omega) rfl ⟨rfl, rfl⟩
        refine mh_callU 3 [.int (y1 + 1)] d_PA_call_112 C_PA_98 (h_PA_sum _ _ _ _ ev35) q34 rfl rfl rfl (Nat.le_of_ble_eq_true rfl) (by omega) (by show 8 + (8 + 11) + Lw ≤ Lw + 60; omega) ?_
        refine vr_iinc (L' := [some (.ref y0), some (.int y1), some (.int (y2 + 1))]) (y2 + 1) d_PA_call_115 (by decide) rfl rfl rfl ?_
        refine vr_goto (tgt := 88) d_PA_call_118 (by decide) ?_
        exact mv_drop (ih _ _ _ _ _ h) (And.intro rfl (And.intro rfl (And.intro rfl trivial)))

def k_PA_call_53 (N : Nat) (p_PA_sum : Nat → Int32 → mh_H → Option (Bool × Int32 × mh_H)) (y0 : Nat) (y1 : Int32) (σ : mh_H) : Option (Bool × Int32 × mh_H) := chk (hT σ y0 = 7) <| calT (f_PA_name N y0 σ) fun v17 s17 => chk (hT s17 y0 = 7) <| calT (f_PA_take N y0 12 s17) fun v19 s19 => chk (hT s19 y0 = 7) <| rfO (hR s19 3 0 y0) fun b21 => chk (hT s19 b21 = 9) <| calI (f_TO_kindAt N b21 ((hI s19 3 2 y0)) s19) fun v23 s23 => if v23 = 13 then (k_PA_call_121 N p_PA_sum y0 s23) else (chk (hT s23 y0 = 7) <| calT (p_PA_sum y0 ((y1 + 1)) s23) fun v25 s25 => k_PA_call_88 N p_PA_sum N y0 y1 0 s25)
theorem q_PA_call_53 {g : mv_G} {N : Nat} {p_PA_sum : Nat → Int32 → mh_H → Option (Bool × Int32 × mh_H)} (hl : (mg_l g).stackTraces = false) {F Lw : Nat} (h_PA_sum : pkV1 g M_PA_sum F Lw p_PA_sum) (hF : 40 ≤ F) (hLw : 1000 ≤ Lw) (y0 : Nat) (y1 : Int32) (σ : mh_H) (r : Bool × Int32 × mh_H) (h : k_PA_call_53 N p_PA_sum y0 y1 σ = some r) : mv_V g M_PA_call (F + 1) (Lw + 60) 0 0 53 [some (.ref y0), some (.int y1), none] [] σ (pcI r) := by
  unfold k_PA_call_53 at h
  refine vr_aload_n d_PA_call_53 rfl rfl ?_
  have q16 := (l_chk h).1
  replace h := (l_chk h).2
  rcases l_calT h with ⟨v17, s17, ev17, h⟩ | ⟨v17, s17, ev17, hz⟩
  rotate_left
  · cases hz
    exact mh_threw (Qy := fun _ _ => True) 3 [] d_PA_call_54 C_PA_59 (c_PA_name hl ev17) q16 rfl rfl rfl (Nat.le_of_ble_eq_true rfl) (by omega) (by show 8 + (1 + 11) + 120 ≤ Lw + 60; omega) rfl ⟨rfl, rfl⟩
  refine mh_callU 3 [] d_PA_call_54 C_PA_59 (c_PA_name hl ev17) q16 rfl rfl rfl (Nat.le_of_ble_eq_true rfl) (by omega) (by show 8 + (1 + 11) + 120 ≤ Lw + 60; omega) ?_
  refine vr_aload_n d_PA_call_57 rfl rfl ?_
  refine vr_bipush 12 d_PA_call_58 (by decide) ?_
  have q18 := (l_chk h).1
  replace h := (l_chk h).2
  rcases l_calT h with ⟨v19, s19, ev19, h⟩ | ⟨v19, s19, ev19, hz⟩
  rotate_left
  · cases hz
    exact mh_threw (Qy := fun _ _ => True) 3 [.int 12] d_PA_call_60 C_PA_56 (c_PA_take hl ev19) q18 rfl rfl rfl (Nat.le_of_ble_eq_true rfl) (by omega) (by show 8 + (2 + 11) + 120 ≤ Lw + 60; omega) rfl ⟨rfl, rfl⟩
  refine mh_callU 3 [.int 12] d_PA_call_60 C_PA_56 (c_PA_take hl ev19) q18 rfl rfl rfl (Nat.le_of_ble_eq_true rfl) (by omega) (by show 8 + (2 + 11) + 120 ≤ Lw + 60; omega) ?_
  refine vr_aload_n d_PA_call_63 rfl rfl ?_
  have q20 := (l_chk h).1
  replace h := (l_chk h).2
  obtain ⟨b21, eb21, h⟩ := l_rf h
  refine vr_getR (b := b21) d_PA_call_64 F_PA_15 rfl q20 eb21 ?_
  refine vr_aload_n d_PA_call_67 rfl rfl ?_
  refine vr_getI d_PA_call_68 F_PA_9 rfl q20 ?_
  have q22 := (l_chk h).1
  replace h := (l_chk h).2
  obtain ⟨v23, s23, ev23, h⟩ := l_calI h
  refine mh_callI 4 [.int (hI s19 3 2 y0)] d_PA_call_71 C_PA_62 (c_TO_kindAt ev23) q22 rfl rfl rfl (Nat.le_of_ble_eq_true rfl) (by omega) (by show 8 + (2 + 11) + 0 ≤ Lw + 60; omega) ?_
  refine vr_bipush 13 d_PA_call_74 (by decide) ?_
  refine vr_icmp_eq (tgt := 121) d_PA_call_76 (by decide) (fun c76 => ?_) (fun c76 => ?_)
  · replace h := l_ifp c76 h
    exact mv_drop (q_PA_call_121 hl h_PA_sum hF hLw _ _ _ h) (And.intro rfl trivial)
  · replace h := l_ifn c76 h
    refine vr_aload_n d_PA_call_79 rfl rfl ?_
    refine vr_iload_n d_PA_call_80 rfl rfl ?_
    refine vr_iconst 1 d_PA_call_81 (by decide) ?_
    refine vr_iadd d_PA_call_82 ?_
    have q24 := (l_chk h).1
    replace h := (l_chk h).2
    rcases l_calT h with ⟨v25, s25, ev25, h⟩ | ⟨v25, s25, ev25, hz⟩
    rotate_left
    · cases hz
      exact mh_threw (Qy := fun _ _ => True) 3 [.int (y1 + 1)] d_PA_call_83 C_PA_98 (h_PA_sum _ _ _ _ ev25) q24 rfl rfl rfl (Nat.le_of_ble_eq_true rfl) (by omega) (by show 8 + (8 + 11) + Lw ≤ Lw + 60; omega) rfl ⟨rfl, rfl⟩
    refine mh_callU 3 [.int (y1 + 1)] d_PA_call_83 C_PA_98 (h_PA_sum _ _ _ _ ev25) q24 rfl rfl rfl (Nat.le_of_ble_eq_true rfl) (by omega) (by show 8 + (8 + 11) + Lw ≤ Lw + 60; omega) ?_
    refine vr_iconst 0 d_PA_call_86 (by decide) ?_
    refine vr_istore_n (L' := [some (.ref y0), some (.int y1), some (.int 0)]) d_PA_call_87 rfl (by decide) rfl ?_
    exact mv_drop (q_PA_call_88 hl h_PA_sum hF hLw N _ _ _ _ _ h) (And.intro rfl (And.intro rfl (And.intro rfl trivial)))

def f_PA_call (N : Nat) (p_PA_sum : Nat → Int32 → mh_H → Option (Bool × Int32 × mh_H)) (a0 : Nat) (x1 : Int32) (σ : mh_H) : Option (Bool × Int32 × mh_H) := chk (hT σ a0 = 7) <| rfO (hR σ 3 0 a0) fun b2 => chk (hT σ b2 = 9) <| calI (f_TO_kindAt N b2 (((hI σ 3 2 a0) + 1)) σ) fun v4 s4 => if v4 = 12 then (chk (hT s4 a0 = 7) <| rfO (hR s4 3 1 a0) fun b10 => rfO (hR s4 3 0 a0) fun b11 => chk (hT s4 b11 = 9) <| calI (f_TO_placeAt N b11 ((hI s4 3 2 a0)) s4) fun v13 s13 => chk (hT s13 b10 = 3) <| calV (f_DR_add N b10 33 v13 0 1 s13) fun s15 => k_PA_call_53 N p_PA_sum a0 x1 s15) else (chk (hT s4 a0 = 7) <| calT (f_PA_name N a0 s4) fun v6 s6 => chk (hT s6 a0 = 7) <| calT (f_PA_take N a0 20 s6) fun v8 s8 => k_PA_call_53 N p_PA_sum a0 x1 s8)
theorem c_PA_call {g : mv_G} {N : Nat} {p_PA_sum : Nat → Int32 → mh_H → Option (Bool × Int32 × mh_H)} (hl : (mg_l g).stackTraces = false) {F Lw : Nat} (h_PA_sum : pkV1 g M_PA_sum F Lw p_PA_sum) (hF : 40 ≤ F) (hLw : 1000 ≤ Lw) : pkI1 g M_PA_call (F + 1) (Lw + 60) (f_PA_call N p_PA_sum) := by
  intro a0 x1 σ r h
  refine mv_entry (L := [some (.ref a0), some (.int x1), none]) rfl rfl (Nat.le_of_ble_eq_true rfl) rfl ?_
  unfold f_PA_call at h
  refine vr_aload_n d_PA_call_0 rfl rfl ?_
  have q1 := (l_chk h).1
  replace h := (l_chk h).2
  obtain ⟨b2, eb2, h⟩ := l_rf h
  refine vr_getR (b := b2) d_PA_call_1 F_PA_15 rfl q1 eb2 ?_
  refine vr_aload_n d_PA_call_4 rfl rfl ?_
  refine vr_getI d_PA_call_5 F_PA_9 rfl q1 ?_
  refine vr_iconst 1 d_PA_call_8 (by decide) ?_
  refine vr_iadd d_PA_call_9 ?_
  have q3 := (l_chk h).1
  replace h := (l_chk h).2
  obtain ⟨v4, s4, ev4, h⟩ := l_calI h
  refine mh_callI 4 [.int ((hI σ 3 2 a0) + 1)] d_PA_call_10 C_PA_62 (c_TO_kindAt ev4) q3 rfl rfl rfl (Nat.le_of_ble_eq_true rfl) (by omega) (by show 8 + (2 + 11) + 0 ≤ Lw + 60; omega) ?_
  refine vr_bipush 12 d_PA_call_13 (by decide) ?_
  refine vr_icmp_ne (tgt := 43) d_PA_call_15 (by decide) (fun c15 => ?_) (fun c15 => ?_)
  · replace h := l_ifn c15 h
    refine vr_aload_n d_PA_call_43 rfl rfl ?_
    have q5 := (l_chk h).1
    replace h := (l_chk h).2
    rcases l_calT h with ⟨v6, s6, ev6, h⟩ | ⟨v6, s6, ev6, hz⟩
    rotate_left
    · cases hz
      exact mh_threw (Qy := fun _ _ => True) 3 [] d_PA_call_44 C_PA_59 (c_PA_name hl ev6) q5 rfl rfl rfl (Nat.le_of_ble_eq_true rfl) (by omega) (by show 8 + (1 + 11) + 120 ≤ Lw + 60; omega) rfl ⟨rfl, rfl⟩
    refine mh_callU 3 [] d_PA_call_44 C_PA_59 (c_PA_name hl ev6) q5 rfl rfl rfl (Nat.le_of_ble_eq_true rfl) (by omega) (by show 8 + (1 + 11) + 120 ≤ Lw + 60; omega) ?_
    refine vr_aload_n d_PA_call_47 rfl rfl ?_
    refine vr_bipush 20 d_PA_call_48 (by decide) ?_
    have q7 := (l_chk h).1
    replace h := (l_chk h).2
    rcases l_calT h with ⟨v8, s8, ev8, h⟩ | ⟨v8, s8, ev8, hz⟩
    rotate_left
    · cases hz
      exact mh_threw (Qy := fun _ _ => True) 3 [.int 20] d_PA_call_50 C_PA_56 (c_PA_take hl ev8) q7 rfl rfl rfl (Nat.le_of_ble_eq_true rfl) (by omega) (by show 8 + (2 + 11) + 120 ≤ Lw + 60; omega) rfl ⟨rfl, rfl⟩
    refine mh_callU 3 [.int 20] d_PA_call_50 C_PA_56 (c_PA_take hl ev8) q7 rfl rfl rfl (Nat.le_of_ble_eq_true rfl) (by omega) (by show 8 + (2 + 11) + 120 ≤ Lw + 60; omega) ?_
    exact mv_drop (q_PA_call_53 hl h_PA_sum hF hLw _ _ _ _ h) (And.intro rfl (And.intro rfl trivial))
  · replace h := l_ifp c15 h
    refine vr_aload_n d_PA_call_18 rfl rfl ?_
    have q9 := (l_chk h).1
    replace h := (l_chk h).2
    obtain ⟨b10, eb10, h⟩ := l_rf h
    refine vr_getR (b := b10) d_PA_call_19 F_PA_19 rfl q9 eb10 ?_
    refine vr_bipush 33 d_PA_call_22 (by decide) ?_
    refine vr_aload_n d_PA_call_24 rfl rfl ?_
    obtain ⟨b11, eb11, h⟩ := l_rf h
    refine vr_getR (b := b11) d_PA_call_25 F_PA_15 rfl q9 eb11 ?_
    refine vr_aload_n d_PA_call_28 rfl rfl ?_
    refine vr_getI d_PA_call_29 F_PA_9 rfl q9 ?_
    have q12 := (l_chk h).1
    replace h := (l_chk h).2
    obtain ⟨v13, s13, ev13, h⟩ := l_calI h
    refine mh_callI 4 [.int (hI s4 3 2 a0)] d_PA_call_32 C_PA_46 (c_TO_placeAt ev13) q12 rfl rfl rfl (Nat.le_of_ble_eq_true rfl) (by omega) (by show 8 + (2 + 11) + 0 ≤ Lw + 60; omega) ?_
    refine vr_iconst 0 d_PA_call_35 (by decide) ?_
    refine vr_iconst 1 d_PA_call_36 (by decide) ?_
    have q14 := (l_chk h).1
    replace h := (l_chk h).2
    obtain ⟨s15, es15, h⟩ := l_calV h
    refine mh_callU 1 [.int 33, .int v13, .int 0, .int 1] d_PA_call_37 C_PA_52 (c_DR_add es15) q14 rfl rfl rfl (Nat.le_of_ble_eq_true rfl) (by omega) (by show 8 + (5 + 11) + 0 ≤ Lw + 60; omega) ?_
    refine vr_goto (tgt := 53) d_PA_call_40 (by decide) ?_
    exact mv_drop (q_PA_call_53 hl h_PA_sum hF hLw _ _ _ _ h) (And.intro rfl (And.intro rfl trivial))

def k_PA_assignment_31 (N : Nat) (p_PA_sum : Nat → Int32 → mh_H → Option (Bool × Int32 × mh_H)) (y0 : Nat) (y1 : Int32) (y2 : Int32) (σ : mh_H) : Option (Bool × Int32 × mh_H) := chk (hT σ y0 = 7) <| calT (f_PA_take N y0 20 σ) fun v10 s10 => chk (hT s10 y0 = 7) <| calT (p_PA_sum y0 ((y1 + 1)) s10) fun v12 s12 => chk (hT s12 y0 = 7) <| calT (f_PA_take N y0 19 s12) fun v14 s14 => some (false, y2, s14)
theorem q_PA_assignment_31 {g : mv_G} {N : Nat} {p_PA_sum : Nat → Int32 → mh_H → Option (Bool × Int32 × mh_H)} (hl : (mg_l g).stackTraces = false) {F Lw : Nat} (h_PA_sum : pkV1 g M_PA_sum F Lw p_PA_sum) (hF : 40 ≤ F) (hLw : 1000 ≤ Lw) (y0 : Nat) (y1 : Int32) (y2 : Int32) (σ : mh_H) (r : Bool × Int32 × mh_H) (h : k_PA_assignment_31 N p_PA_sum y0 y1 y2 σ = some r) : mv_V g M_PA_assignment (F + 1) (Lw + 60) 0 0 31 [some (.ref y0), some (.int y1), some (.int y2)] [] σ (pcI r) := by
  unfold k_PA_assignment_31 at h
  refine vr_aload_n d_PA_assignment_31 rfl rfl ?_
  refine vr_bipush 20 d_PA_assignment_32 (by decide) ?_
  have q9 := (l_chk h).1
  replace h := (l_chk h).2
  rcases l_calT h with ⟨v10, s10, ev10, h⟩ | ⟨v10, s10, ev10, hz⟩
  rotate_left
  · cases hz
    exact mh_threw (Qy := fun _ _ => True) 3 [.int 20] d_PA_assignment_34 C_PA_56 (c_PA_take hl ev10) q9 rfl rfl rfl (Nat.le_of_ble_eq_true rfl) (by omega) (by show 8 + (2 + 11) + 120 ≤ Lw + 60; omega) rfl ⟨rfl, rfl⟩
  refine mh_callU 3 [.int 20] d_PA_assignment_34 C_PA_56 (c_PA_take hl ev10) q9 rfl rfl rfl (Nat.le_of_ble_eq_true rfl) (by omega) (by show 8 + (2 + 11) + 120 ≤ Lw + 60; omega) ?_
  refine vr_aload_n d_PA_assignment_37 rfl rfl ?_
  refine vr_iload_n d_PA_assignment_38 rfl rfl ?_
  refine vr_iconst 1 d_PA_assignment_39 (by decide) ?_
  refine vr_iadd d_PA_assignment_40 ?_
  have q11 := (l_chk h).1
  replace h := (l_chk h).2
  rcases l_calT h with ⟨v12, s12, ev12, h⟩ | ⟨v12, s12, ev12, hz⟩
  rotate_left
  · cases hz
    exact mh_threw (Qy := fun _ _ => True) 3 [.int (y1 + 1)] d_PA_assignment_41 C_PA_98 (h_PA_sum _ _ _ _ ev12) q11 rfl rfl rfl (Nat.le_of_ble_eq_true rfl) (by omega) (by show 8 + (8 + 11) + Lw ≤ Lw + 60; omega) rfl ⟨rfl, rfl⟩
  refine mh_callU 3 [.int (y1 + 1)] d_PA_assignment_41 C_PA_98 (h_PA_sum _ _ _ _ ev12) q11 rfl rfl rfl (Nat.le_of_ble_eq_true rfl) (by omega) (by show 8 + (8 + 11) + Lw ≤ Lw + 60; omega) ?_
  refine vr_aload_n d_PA_assignment_44 rfl rfl ?_
  refine vr_bipush 19 d_PA_assignment_45 (by decide) ?_
  have q13 := (l_chk h).1
  replace h := (l_chk h).2
  rcases l_calT h with ⟨v14, s14, ev14, h⟩ | ⟨v14, s14, ev14, hz⟩
  rotate_left
  · cases hz
    exact mh_threw (Qy := fun _ _ => True) 3 [.int 19] d_PA_assignment_47 C_PA_56 (c_PA_take hl ev14) q13 rfl rfl rfl (Nat.le_of_ble_eq_true rfl) (by omega) (by show 8 + (2 + 11) + 120 ≤ Lw + 60; omega) rfl ⟨rfl, rfl⟩
  refine mh_callU 3 [.int 19] d_PA_assignment_47 C_PA_56 (c_PA_take hl ev14) q13 rfl rfl rfl (Nat.le_of_ble_eq_true rfl) (by omega) (by show 8 + (2 + 11) + 120 ≤ Lw + 60; omega) ?_
  refine vr_iload_n d_PA_assignment_50 rfl rfl ?_
  cases h
  exact vr_iret d_PA_assignment_51 rfl rfl ⟨rfl, rfl⟩

def f_PA_assignment (N : Nat) (p_PA_sum : Nat → Int32 → mh_H → Option (Bool × Int32 × mh_H)) (a0 : Nat) (x1 : Int32) (σ : mh_H) : Option (Bool × Int32 × mh_H) := chk (hT σ a0 = 7) <| calT (f_PA_name N a0 σ) fun v2 s2 => chk (hT s2 a0 = 7) <| calI (f_PA_skip N a0 16 s2) fun v4 s4 => if v4 = 0 then (k_PA_assignment_31 N p_PA_sum a0 x1 5 s4) else (chk (hT s4 a0 = 7) <| calT (p_PA_sum a0 ((x1 + 1)) s4) fun v6 s6 => chk (hT s6 a0 = 7) <| calT (f_PA_take N a0 17 s6) fun v8 s8 => k_PA_assignment_31 N p_PA_sum a0 x1 6 s8)
theorem c_PA_assignment {g : mv_G} {N : Nat} {p_PA_sum : Nat → Int32 → mh_H → Option (Bool × Int32 × mh_H)} (hl : (mg_l g).stackTraces = false) {F Lw : Nat} (h_PA_sum : pkV1 g M_PA_sum F Lw p_PA_sum) (hF : 40 ≤ F) (hLw : 1000 ≤ Lw) : pkI1 g M_PA_assignment (F + 1) (Lw + 60) (f_PA_assignment N p_PA_sum) := by
  intro a0 x1 σ r h
  refine mv_entry (L := [some (.ref a0), some (.int x1), none]) rfl rfl (Nat.le_of_ble_eq_true rfl) rfl ?_
  unfold f_PA_assignment at h
  refine vr_iconst 5 d_PA_assignment_0 (by decide) ?_
  refine vr_istore_n (L' := [some (.ref a0), some (.int x1), some (.int 5)]) d_PA_assignment_1 rfl (by decide) rfl ?_
  refine vr_aload_n d_PA_assignment_2 rfl rfl ?_
  have q1 := (l_chk h).1
  replace h := (l_chk h).2
  rcases l_calT h with ⟨v2, s2, ev2, h⟩ | ⟨v2, s2, ev2, hz⟩
  rotate_left
  · cases hz
    exact mh_threw (Qy := fun _ _ => True) 3 [] d_PA_assignment_3 C_PA_59 (c_PA_name hl ev2) q1 rfl rfl rfl (Nat.le_of_ble_eq_true rfl) (by omega) (by show 8 + (1 + 11) + 120 ≤ Lw + 60; omega) rfl ⟨rfl, rfl⟩
  refine mh_callU 3 [] d_PA_assignment_3 C_PA_59 (c_PA_name hl ev2) q1 rfl rfl rfl (Nat.le_of_ble_eq_true rfl) (by omega) (by show 8 + (1 + 11) + 120 ≤ Lw + 60; omega) ?_
  refine vr_aload_n d_PA_assignment_6 rfl rfl ?_
  refine vr_bipush 16 d_PA_assignment_7 (by decide) ?_
  have q3 := (l_chk h).1
  replace h := (l_chk h).2
  obtain ⟨v4, s4, ev4, h⟩ := l_calI h
  refine mh_callI 3 [.int 16] d_PA_assignment_9 C_PA_65 (c_PA_skip ev4) q3 rfl rfl rfl (Nat.le_of_ble_eq_true rfl) (by omega) (by show 8 + (2 + 11) + 21 ≤ Lw + 60; omega) ?_
  refine vr_if_eq (tgt := 31) d_PA_assignment_12 (by decide) (fun c12 => ?_) (fun c12 => ?_)
  · replace h := l_ifp c12 h
    exact mv_drop (q_PA_assignment_31 hl h_PA_sum hF hLw _ _ _ _ _ h) (And.intro rfl (And.intro rfl (And.intro rfl trivial)))
  · replace h := l_ifn c12 h
    refine vr_aload_n d_PA_assignment_15 rfl rfl ?_
    refine vr_iload_n d_PA_assignment_16 rfl rfl ?_
    refine vr_iconst 1 d_PA_assignment_17 (by decide) ?_
    refine vr_iadd d_PA_assignment_18 ?_
    have q5 := (l_chk h).1
    replace h := (l_chk h).2
    rcases l_calT h with ⟨v6, s6, ev6, h⟩ | ⟨v6, s6, ev6, hz⟩
    rotate_left
    · cases hz
      exact mh_threw (Qy := fun _ _ => True) 3 [.int (x1 + 1)] d_PA_assignment_19 C_PA_98 (h_PA_sum _ _ _ _ ev6) q5 rfl rfl rfl (Nat.le_of_ble_eq_true rfl) (by omega) (by show 8 + (8 + 11) + Lw ≤ Lw + 60; omega) rfl ⟨rfl, rfl⟩
    refine mh_callU 3 [.int (x1 + 1)] d_PA_assignment_19 C_PA_98 (h_PA_sum _ _ _ _ ev6) q5 rfl rfl rfl (Nat.le_of_ble_eq_true rfl) (by omega) (by show 8 + (8 + 11) + Lw ≤ Lw + 60; omega) ?_
    refine vr_aload_n d_PA_assignment_22 rfl rfl ?_
    refine vr_bipush 17 d_PA_assignment_23 (by decide) ?_
    have q7 := (l_chk h).1
    replace h := (l_chk h).2
    rcases l_calT h with ⟨v8, s8, ev8, h⟩ | ⟨v8, s8, ev8, hz⟩
    rotate_left
    · cases hz
      exact mh_threw (Qy := fun _ _ => True) 3 [.int 17] d_PA_assignment_25 C_PA_56 (c_PA_take hl ev8) q7 rfl rfl rfl (Nat.le_of_ble_eq_true rfl) (by omega) (by show 8 + (2 + 11) + 120 ≤ Lw + 60; omega) rfl ⟨rfl, rfl⟩
    refine mh_callU 3 [.int 17] d_PA_assignment_25 C_PA_56 (c_PA_take hl ev8) q7 rfl rfl rfl (Nat.le_of_ble_eq_true rfl) (by omega) (by show 8 + (2 + 11) + 120 ≤ Lw + 60; omega) ?_
    refine vr_bipush 6 d_PA_assignment_28 (by decide) ?_
    refine vr_istore_n (L' := [some (.ref a0), some (.int x1), some (.int 6)]) d_PA_assignment_30 rfl (by decide) rfl ?_
    exact mv_drop (q_PA_assignment_31 hl h_PA_sum hF hLw _ _ _ _ _ h) (And.intro rfl (And.intro rfl (And.intro rfl trivial)))

def f_PA_conditional (N : Nat) (p_PA_condition : Nat → Int32 → Int32 → Int32 → mh_H → Option (Bool × Int32 × mh_H)) (p_PA_block : Nat → Int32 → mh_H → Option (Bool × Int32 × mh_H)) (a0 : Nat) (x1 : Int32) (σ : mh_H) : Option (Bool × Int32 × mh_H) := chk (hT σ a0 = 7) <| rfO (hR σ 3 0 a0) fun b2 => chk (hT σ b2 = 9) <| calI (f_TO_kindAt N b2 ((hI σ 3 2 a0)) σ) fun v4 s4 => chk (hT s4 a0 = 7) <| calT (f_PA_take N a0 v4 s4) fun v6 s6 => chk (hT s6 a0 = 7) <| calT (p_PA_condition a0 ((x1 + 1)) 12 13 s6) fun v8 s8 => if v4 = 9 then (chk (hT s8 a0 = 7) <| calT (f_PA_take N a0 19 s8) fun v16 s16 => some (false, 10, s16)) else (chk (hT s8 a0 = 7) <| calT (p_PA_block a0 ((x1 + 1)) s8) fun v10 s10 => if v4 = 8 then (some (false, 9, s10)) else (chk (hT s10 a0 = 7) <| calI (f_PA_skip N a0 7 s10) fun v12 s12 => if v12 = 0 then (some (false, 8, s12)) else (chk (hT s12 a0 = 7) <| calT (p_PA_block a0 ((x1 + 1)) s12) fun v14 s14 => some (false, 8, s14))))
theorem c_PA_conditional {g : mv_G} {N : Nat} {p_PA_condition : Nat → Int32 → Int32 → Int32 → mh_H → Option (Bool × Int32 × mh_H)} {p_PA_block : Nat → Int32 → mh_H → Option (Bool × Int32 × mh_H)} (hl : (mg_l g).stackTraces = false) {F Lw : Nat} (h_PA_condition : pkV3 g M_PA_condition F Lw p_PA_condition) (h_PA_block : pkV1 g M_PA_block F Lw p_PA_block) (hF : 40 ≤ F) (hLw : 1000 ≤ Lw) : pkI1 g M_PA_conditional (F + 1) (Lw + 60) (f_PA_conditional N p_PA_condition p_PA_block) := by
  intro a0 x1 σ r h
  refine mv_entry (L := [some (.ref a0), some (.int x1), none]) rfl rfl (Nat.le_of_ble_eq_true rfl) rfl ?_
  unfold f_PA_conditional at h
  refine vr_aload_n d_PA_conditional_0 rfl rfl ?_
  have q1 := (l_chk h).1
  replace h := (l_chk h).2
  obtain ⟨b2, eb2, h⟩ := l_rf h
  refine vr_getR (b := b2) d_PA_conditional_1 F_PA_15 rfl q1 eb2 ?_
  refine vr_aload_n d_PA_conditional_4 rfl rfl ?_
  refine vr_getI d_PA_conditional_5 F_PA_9 rfl q1 ?_
  have q3 := (l_chk h).1
  replace h := (l_chk h).2
  obtain ⟨v4, s4, ev4, h⟩ := l_calI h
  refine mh_callI 4 [.int (hI σ 3 2 a0)] d_PA_conditional_8 C_PA_62 (c_TO_kindAt ev4) q3 rfl rfl rfl (Nat.le_of_ble_eq_true rfl) (by omega) (by show 8 + (2 + 11) + 0 ≤ Lw + 60; omega) ?_
  refine vr_istore_n (L' := [some (.ref a0), some (.int x1), some (.int v4)]) d_PA_conditional_11 rfl (by decide) rfl ?_
  refine vr_aload_n d_PA_conditional_12 rfl rfl ?_
  refine vr_iload_n d_PA_conditional_13 rfl rfl ?_
  have q5 := (l_chk h).1
  replace h := (l_chk h).2
  rcases l_calT h with ⟨v6, s6, ev6, h⟩ | ⟨v6, s6, ev6, hz⟩
  rotate_left
  · cases hz
    exact mh_threw (Qy := fun _ _ => True) 3 [.int v4] d_PA_conditional_14 C_PA_56 (c_PA_take hl ev6) q5 rfl rfl rfl (Nat.le_of_ble_eq_true rfl) (by omega) (by show 8 + (2 + 11) + 120 ≤ Lw + 60; omega) rfl ⟨rfl, rfl⟩
  refine mh_callU 3 [.int v4] d_PA_conditional_14 C_PA_56 (c_PA_take hl ev6) q5 rfl rfl rfl (Nat.le_of_ble_eq_true rfl) (by omega) (by show 8 + (2 + 11) + 120 ≤ Lw + 60; omega) ?_
  refine vr_aload_n d_PA_conditional_17 rfl rfl ?_
  refine vr_iload_n d_PA_conditional_18 rfl rfl ?_
  refine vr_iconst 1 d_PA_conditional_19 (by decide) ?_
  refine vr_iadd d_PA_conditional_20 ?_
  refine vr_bipush 12 d_PA_conditional_21 (by decide) ?_
  refine vr_bipush 13 d_PA_conditional_23 (by decide) ?_
  have q7 := (l_chk h).1
  replace h := (l_chk h).2
  rcases l_calT h with ⟨v8, s8, ev8, h⟩ | ⟨v8, s8, ev8, hz⟩
  rotate_left
  · cases hz
    exact mh_threw (Qy := fun _ _ => True) 3 [.int (x1 + 1), .int 12, .int 13] d_PA_conditional_25 C_PA_105 (h_PA_condition _ _ _ _ _ _ ev8) q7 rfl rfl rfl (Nat.le_of_ble_eq_true rfl) (by omega) (by show 8 + (7 + 11) + Lw ≤ Lw + 60; omega) rfl ⟨rfl, rfl⟩
  refine mh_callU 3 [.int (x1 + 1), .int 12, .int 13] d_PA_conditional_25 C_PA_105 (h_PA_condition _ _ _ _ _ _ ev8) q7 rfl rfl rfl (Nat.le_of_ble_eq_true rfl) (by omega) (by show 8 + (7 + 11) + Lw ≤ Lw + 60; omega) ?_
  refine vr_iload_n d_PA_conditional_28 rfl rfl ?_
  refine vr_bipush 9 d_PA_conditional_29 (by decide) ?_
  refine vr_icmp_ne (tgt := 43) d_PA_conditional_31 (by decide) (fun c31 => ?_) (fun c31 => ?_)
  · replace h := l_ifn c31 h
    refine vr_aload_n d_PA_conditional_43 rfl rfl ?_
    refine vr_iload_n d_PA_conditional_44 rfl rfl ?_
    refine vr_iconst 1 d_PA_conditional_45 (by decide) ?_
    refine vr_iadd d_PA_conditional_46 ?_
    have q9 := (l_chk h).1
    replace h := (l_chk h).2
    rcases l_calT h with ⟨v10, s10, ev10, h⟩ | ⟨v10, s10, ev10, hz⟩
    rotate_left
    · cases hz
      exact mh_threw (Qy := fun _ _ => True) 3 [.int (x1 + 1)] d_PA_conditional_47 C_PA_69 (h_PA_block _ _ _ _ ev10) q9 rfl rfl rfl (Nat.le_of_ble_eq_true rfl) (by omega) (by show 8 + (5 + 11) + Lw ≤ Lw + 60; omega) rfl ⟨rfl, rfl⟩
    refine mh_callU 3 [.int (x1 + 1)] d_PA_conditional_47 C_PA_69 (h_PA_block _ _ _ _ ev10) q9 rfl rfl rfl (Nat.le_of_ble_eq_true rfl) (by omega) (by show 8 + (5 + 11) + Lw ≤ Lw + 60; omega) ?_
    refine vr_iload_n d_PA_conditional_50 rfl rfl ?_
    refine vr_bipush 8 d_PA_conditional_51 (by decide) ?_
    refine vr_icmp_ne (tgt := 59) d_PA_conditional_53 (by decide) (fun c53 => ?_) (fun c53 => ?_)
    · replace h := l_ifn c53 h
      refine vr_aload_n d_PA_conditional_59 rfl rfl ?_
      refine vr_bipush 7 d_PA_conditional_60 (by decide) ?_
      have q11 := (l_chk h).1
      replace h := (l_chk h).2
      obtain ⟨v12, s12, ev12, h⟩ := l_calI h
      refine mh_callI 3 [.int 7] d_PA_conditional_62 C_PA_65 (c_PA_skip ev12) q11 rfl rfl rfl (Nat.le_of_ble_eq_true rfl) (by omega) (by show 8 + (2 + 11) + 21 ≤ Lw + 60; omega) ?_
      refine vr_if_eq (tgt := 75) d_PA_conditional_65 (by decide) (fun c65 => ?_) (fun c65 => ?_)
      · replace h := l_ifp c65 h
        refine vr_bipush 8 d_PA_conditional_75 (by decide) ?_
        cases h
        exact vr_iret d_PA_conditional_77 rfl rfl ⟨rfl, rfl⟩
      · replace h := l_ifn c65 h
        refine vr_aload_n d_PA_conditional_68 rfl rfl ?_
        refine vr_iload_n d_PA_conditional_69 rfl rfl ?_
        refine vr_iconst 1 d_PA_conditional_70 (by decide) ?_
        refine vr_iadd d_PA_conditional_71 ?_
        have q13 := (l_chk h).1
        replace h := (l_chk h).2
        rcases l_calT h with ⟨v14, s14, ev14, h⟩ | ⟨v14, s14, ev14, hz⟩
        rotate_left
        · cases hz
          exact mh_threw (Qy := fun _ _ => True) 3 [.int (x1 + 1)] d_PA_conditional_72 C_PA_69 (h_PA_block _ _ _ _ ev14) q13 rfl rfl rfl (Nat.le_of_ble_eq_true rfl) (by omega) (by show 8 + (5 + 11) + Lw ≤ Lw + 60; omega) rfl ⟨rfl, rfl⟩
        refine mh_callU 3 [.int (x1 + 1)] d_PA_conditional_72 C_PA_69 (h_PA_block _ _ _ _ ev14) q13 rfl rfl rfl (Nat.le_of_ble_eq_true rfl) (by omega) (by show 8 + (5 + 11) + Lw ≤ Lw + 60; omega) ?_
        refine vr_bipush 8 d_PA_conditional_75 (by decide) ?_
        cases h
        exact vr_iret d_PA_conditional_77 rfl rfl ⟨rfl, rfl⟩
    · replace h := l_ifp c53 h
      refine vr_bipush 9 d_PA_conditional_56 (by decide) ?_
      cases h
      exact vr_iret d_PA_conditional_58 rfl rfl ⟨rfl, rfl⟩
  · replace h := l_ifp c31 h
    refine vr_aload_n d_PA_conditional_34 rfl rfl ?_
    refine vr_bipush 19 d_PA_conditional_35 (by decide) ?_
    have q15 := (l_chk h).1
    replace h := (l_chk h).2
    rcases l_calT h with ⟨v16, s16, ev16, h⟩ | ⟨v16, s16, ev16, hz⟩
    rotate_left
    · cases hz
      exact mh_threw (Qy := fun _ _ => True) 3 [.int 19] d_PA_conditional_37 C_PA_56 (c_PA_take hl ev16) q15 rfl rfl rfl (Nat.le_of_ble_eq_true rfl) (by omega) (by show 8 + (2 + 11) + 120 ≤ Lw + 60; omega) rfl ⟨rfl, rfl⟩
    refine mh_callU 3 [.int 19] d_PA_conditional_37 C_PA_56 (c_PA_take hl ev16) q15 rfl rfl rfl (Nat.le_of_ble_eq_true rfl) (by omega) (by show 8 + (2 + 11) + 120 ≤ Lw + 60; omega) ?_
    refine vr_bipush 10 d_PA_conditional_40 (by decide) ?_
    cases h
    exact vr_iret d_PA_conditional_42 rfl rfl ⟨rfl, rfl⟩

def k_PA_condition_68 (N : Nat) (p_PA_both : Nat → Int32 → mh_H → Option (Bool × Int32 × mh_H)) (y0 : Nat) (y3 : Int32) (y4 : Int32) (y5 : Int32) (y6 : Int32) (σ : mh_H) : Option (Bool × Int32 × mh_H) := if y6 ≤ 0 then (chk (hT σ y0 = 7) <| calT (f_PA_take N y0 y3 σ) fun v21 s21 => some (false, 0, s21)) else (chk (hT σ y0 = 7) <| calV (f_PA_finish N y0 24 y5 y4 σ) fun s23 => chk (hT s23 y0 = 7) <| calT (f_PA_take N y0 y3 s23) fun v25 s25 => some (false, 0, s25))
theorem q_PA_condition_68 {g : mv_G} {N : Nat} {p_PA_both : Nat → Int32 → mh_H → Option (Bool × Int32 × mh_H)} (hl : (mg_l g).stackTraces = false) {F Lw : Nat} (h_PA_both : pkV1 g M_PA_both F Lw p_PA_both) (hF : 40 ≤ F) (hLw : 1000 ≤ Lw) (y0 : Nat) (y3 : Int32) (y4 : Int32) (y5 : Int32) (y6 : Int32) (σ : mh_H) (r : Bool × Int32 × mh_H) (h : k_PA_condition_68 N p_PA_both y0 y3 y4 y5 y6 σ = some r) : mv_V g M_PA_condition (F + 1) (Lw + 60) 0 0 68 [some (.ref y0), none, none, some (.int y3), some (.int y4), some (.int y5), some (.int y6)] [] σ (pcV r) := by
  unfold k_PA_condition_68 at h
  refine vr_iload d_PA_condition_68 rfl ?_
  refine vr_if_le (tgt := 83) d_PA_condition_70 (by decide) (fun c70 => ?_) (fun c70 => ?_)
  · replace h := l_ifp c70 h
    refine vr_aload_n d_PA_condition_83 rfl rfl ?_
    refine vr_iload_n d_PA_condition_84 rfl rfl ?_
    have q20 := (l_chk h).1
    replace h := (l_chk h).2
    rcases l_calT h with ⟨v21, s21, ev21, h⟩ | ⟨v21, s21, ev21, hz⟩
    rotate_left
    · cases hz
      exact mh_threw (Qy := fun _ _ => True) 3 [.int y3] d_PA_condition_85 C_PA_56 (c_PA_take hl ev21) q20 rfl rfl rfl (Nat.le_of_ble_eq_true rfl) (by omega) (by show 8 + (2 + 11) + 120 ≤ Lw + 60; omega) rfl ⟨rfl, rfl⟩
    refine mh_callU 3 [.int y3] d_PA_condition_85 C_PA_56 (c_PA_take hl ev21) q20 rfl rfl rfl (Nat.le_of_ble_eq_true rfl) (by omega) (by show 8 + (2 + 11) + 120 ≤ Lw + 60; omega) ?_
    cases h
    exact vr_vret d_PA_condition_88 rfl ⟨rfl, rfl⟩
  · replace h := l_ifn c70 h
    refine vr_aload_n d_PA_condition_73 rfl rfl ?_
    refine vr_bipush 24 d_PA_condition_74 (by decide) ?_
    refine vr_iload d_PA_condition_76 rfl ?_
    refine vr_iload d_PA_condition_78 rfl ?_
    have q22 := (l_chk h).1
    replace h := (l_chk h).2
    obtain ⟨s23, es23, h⟩ := l_calV h
    refine mh_callU 3 [.int 24, .int y5, .int y4] d_PA_condition_80 C_PA_72 (c_PA_finish es23) q22 rfl rfl rfl (Nat.le_of_ble_eq_true rfl) (by omega) (by show 8 + (4 + 11) + 24 ≤ Lw + 60; omega) ?_
    refine vr_aload_n d_PA_condition_83 rfl rfl ?_
    refine vr_iload_n d_PA_condition_84 rfl rfl ?_
    have q24 := (l_chk h).1
    replace h := (l_chk h).2
    rcases l_calT h with ⟨v25, s25, ev25, h⟩ | ⟨v25, s25, ev25, hz⟩
    rotate_left
    · cases hz
      exact mh_threw (Qy := fun _ _ => True) 3 [.int y3] d_PA_condition_85 C_PA_56 (c_PA_take hl ev25) q24 rfl rfl rfl (Nat.le_of_ble_eq_true rfl) (by omega) (by show 8 + (2 + 11) + 120 ≤ Lw + 60; omega) rfl ⟨rfl, rfl⟩
    refine mh_callU 3 [.int y3] d_PA_condition_85 C_PA_56 (c_PA_take hl ev25) q24 rfl rfl rfl (Nat.le_of_ble_eq_true rfl) (by omega) (by show 8 + (2 + 11) + 120 ≤ Lw + 60; omega) ?_
    cases h
    exact vr_vret d_PA_condition_88 rfl ⟨rfl, rfl⟩

def k_PA_condition_36 (N : Nat) (p_PA_both : Nat → Int32 → mh_H → Option (Bool × Int32 × mh_H)) : Nat → Nat → Int32 → Int32 → Int32 → Int32 → Int32 → mh_H → Option (Bool × Int32 × mh_H)
  | 0, _, _, _, _, _, _, _ => none
  | n + 1, y0, y1, y3, y4, y5, y6, σ => chk (hT σ y0 = 7) <| rfO (hR σ 3 0 y0) fun b15 => chk (hT σ b15 = 9) <| if (hI σ 4 5 b15) ≤ y6 then (k_PA_condition_68 N p_PA_both y0 y3 y4 y5 y6 σ) else (calI (f_PA_skip N y0 34 σ) fun v17 s17 => if v17 = 0 then (k_PA_condition_68 N p_PA_both y0 y3 y4 y5 y6 s17) else (chk (hT s17 y0 = 7) <| calT (p_PA_both y0 y1 s17) fun v19 s19 => k_PA_condition_36 N p_PA_both n y0 y1 y3 y4 y5 ((y6 + 1)) s19))
theorem q_PA_condition_36 {g : mv_G} {N : Nat} {p_PA_both : Nat → Int32 → mh_H → Option (Bool × Int32 × mh_H)} (hl : (mg_l g).stackTraces = false) {F Lw : Nat} (h_PA_both : pkV1 g M_PA_both F Lw p_PA_both) (hF : 40 ≤ F) (hLw : 1000 ≤ Lw) : ∀ (n : Nat) (y0 : Nat) (y1 : Int32) (y3 : Int32) (y4 : Int32) (y5 : Int32) (y6 : Int32) (σ : mh_H) (r : Bool × Int32 × mh_H), k_PA_condition_36 N p_PA_both n y0 y1 y3 y4 y5 y6 σ = some r → mv_V g M_PA_condition (F + 1) (Lw + 60) 0 0 36 [some (.ref y0), some (.int y1), none, some (.int y3), some (.int y4), some (.int y5), some (.int y6)] [] σ (pcV r) := by
  intro n
  induction n with
  | zero =>
    intro y0 y1 y3 y4 y5 y6 σ r h
    exact absurd h (by simp [k_PA_condition_36])
  | succ n ih =>
    intro y0 y1 y3 y4 y5 y6 σ r h 
    unfold k_PA_condition_36 at h
    refine vr_iload d_PA_condition_36 rfl ?_
    refine vr_aload_n d_PA_condition_38 rfl rfl ?_
    have q14 := (l_chk h).1
    replace h := (l_chk h).2
    obtain ⟨b15, eb15, h⟩ := l_rf h
    refine vr_getR (b := b15) d_PA_condition_39 F_PA_15 rfl q14 eb15 ?_
    have q16 := (l_chk h).1
    replace h := (l_chk h).2
    refine vr_getI d_PA_condition_42 F_PA_23 rfl q16 ?_
    refine vr_icmp_ge (tgt := 68) d_PA_condition_45 (by decide) (fun c45 => ?_) (fun c45 => ?_)
    · replace h := l_ifp c45 h
      exact mv_drop (q_PA_condition_68 hl h_PA_both hF hLw _ _ _ _ _ _ _ h) (And.intro rfl (And.intro rfl (And.intro rfl (And.intro rfl (And.intro rfl trivial)))))
    · replace h := l_ifn c45 h
      refine vr_aload_n d_PA_condition_48 rfl rfl ?_
      refine vr_bipush 34 d_PA_condition_49 (by decide) ?_
      obtain ⟨v17, s17, ev17, h⟩ := l_calI h
      refine mh_callI 3 [.int 34] d_PA_condition_51 C_PA_65 (c_PA_skip ev17) q14 rfl rfl rfl (Nat.le_of_ble_eq_true rfl) (by omega) (by show 8 + (2 + 11) + 21 ≤ Lw + 60; omega) ?_
      refine vr_if_eq (tgt := 68) d_PA_condition_54 (by decide) (fun c54 => ?_) (fun c54 => ?_)
      · replace h := l_ifp c54 h
        exact mv_drop (q_PA_condition_68 hl h_PA_both hF hLw _ _ _ _ _ _ _ h) (And.intro rfl (And.intro rfl (And.intro rfl (And.intro rfl (And.intro rfl trivial)))))
      · replace h := l_ifn c54 h
        refine vr_aload_n d_PA_condition_57 rfl rfl ?_
        refine vr_iload_n d_PA_condition_58 rfl rfl ?_
        have q18 := (l_chk h).1
        replace h := (l_chk h).2
        rcases l_calT h with ⟨v19, s19, ev19, h⟩ | ⟨v19, s19, ev19, hz⟩
        rotate_left
        · cases hz
          exact mh_threw (Qy := fun _ _ => True) 3 [.int y1] d_PA_condition_59 C_PA_108 (h_PA_both _ _ _ _ ev19) q18 rfl rfl rfl (Nat.le_of_ble_eq_true rfl) (by omega) (by show 8 + (5 + 11) + Lw ≤ Lw + 60; omega) rfl ⟨rfl, rfl⟩
        refine mh_callU 3 [.int y1] d_PA_condition_59 C_PA_108 (h_PA_both _ _ _ _ ev19) q18 rfl rfl rfl (Nat.le_of_ble_eq_true rfl) (by omega) (by show 8 + (5 + 11) + Lw ≤ Lw + 60; omega) ?_
        refine vr_iinc (L' := [some (.ref y0), some (.int y1), none, some (.int y3), some (.int y4), some (.int y5), some (.int (y6 + 1))]) (y6 + 1) d_PA_condition_62 (by decide) rfl rfl rfl ?_
        refine vr_goto (tgt := 36) d_PA_condition_65 (by decide) ?_
        exact mv_drop (ih _ _ _ _ _ _ _ _ h) (And.intro rfl (And.intro rfl (And.intro rfl (And.intro rfl (And.intro rfl (And.intro rfl trivial))))))

def f_PA_condition (N : Nat) (p_PA_both : Nat → Int32 → mh_H → Option (Bool × Int32 × mh_H)) (a0 : Nat) (x1 : Int32) (x2 : Int32) (x3 : Int32) (σ : mh_H) : Option (Bool × Int32 × mh_H) := chk (hT σ a0 = 7) <| calT (f_PA_take N a0 x2 σ) fun v2 s2 => chk (hT s2 a0 = 7) <| calT (f_PA_limit N a0 x1 s2) fun v4 s4 => chk (hT s4 a0 = 7) <| rfO (hR s4 3 1 a0) fun b6 => chk (hT s4 b6 = 3) <| bnd ((hI s4 1 4 b6)) fun v8 => calT (p_PA_both a0 x1 s4) fun v9 s9 => chk (hT s9 a0 = 7) <| rfO (hR s9 3 1 a0) fun b11 => chk (hT s9 b11 = 3) <| calI (f_DR_lastPlace N b11 s9) fun v13 s13 => k_PA_condition_36 N p_PA_both N a0 x1 x3 v8 v13 0 s13
theorem c_PA_condition {g : mv_G} {N : Nat} {p_PA_both : Nat → Int32 → mh_H → Option (Bool × Int32 × mh_H)} (hl : (mg_l g).stackTraces = false) {F Lw : Nat} (h_PA_both : pkV1 g M_PA_both F Lw p_PA_both) (hF : 40 ≤ F) (hLw : 1000 ≤ Lw) : pkV3 g M_PA_condition (F + 1) (Lw + 60) (f_PA_condition N p_PA_both) := by
  intro a0 x1 x2 x3 σ r h
  refine mv_entry (L := [some (.ref a0), some (.int x1), some (.int x2), some (.int x3), none, none, none]) rfl rfl (Nat.le_of_ble_eq_true rfl) rfl ?_
  unfold f_PA_condition at h
  refine vr_aload_n d_PA_condition_0 rfl rfl ?_
  refine vr_iload_n d_PA_condition_1 rfl rfl ?_
  have q1 := (l_chk h).1
  replace h := (l_chk h).2
  rcases l_calT h with ⟨v2, s2, ev2, h⟩ | ⟨v2, s2, ev2, hz⟩
  rotate_left
  · cases hz
    exact mh_threw (Qy := fun _ _ => True) 3 [.int x2] d_PA_condition_2 C_PA_56 (c_PA_take hl ev2) q1 rfl rfl rfl (Nat.le_of_ble_eq_true rfl) (by omega) (by show 8 + (2 + 11) + 120 ≤ Lw + 60; omega) rfl ⟨rfl, rfl⟩
  refine mh_callU 3 [.int x2] d_PA_condition_2 C_PA_56 (c_PA_take hl ev2) q1 rfl rfl rfl (Nat.le_of_ble_eq_true rfl) (by omega) (by show 8 + (2 + 11) + 120 ≤ Lw + 60; omega) ?_
  refine vr_aload_n d_PA_condition_5 rfl rfl ?_
  refine vr_iload_n d_PA_condition_6 rfl rfl ?_
  have q3 := (l_chk h).1
  replace h := (l_chk h).2
  rcases l_calT h with ⟨v4, s4, ev4, h⟩ | ⟨v4, s4, ev4, hz⟩
  rotate_left
  · cases hz
    exact mh_threw (Qy := fun _ _ => True) 3 [.int x1] d_PA_condition_7 C_PA_76 (c_PA_limit hl ev4) q3 rfl rfl rfl (Nat.le_of_ble_eq_true rfl) (by omega) (by show 8 + (2 + 11) + 120 ≤ Lw + 60; omega) rfl ⟨rfl, rfl⟩
  refine mh_callU 3 [.int x1] d_PA_condition_7 C_PA_76 (c_PA_limit hl ev4) q3 rfl rfl rfl (Nat.le_of_ble_eq_true rfl) (by omega) (by show 8 + (2 + 11) + 120 ≤ Lw + 60; omega) ?_
  refine vr_aload_n d_PA_condition_10 rfl rfl ?_
  have q5 := (l_chk h).1
  replace h := (l_chk h).2
  obtain ⟨b6, eb6, h⟩ := l_rf h
  refine vr_getR (b := b6) d_PA_condition_11 F_PA_19 rfl q5 eb6 ?_
  have q7 := (l_chk h).1
  replace h := (l_chk h).2
  refine vr_getI d_PA_condition_14 F_PA_43 rfl q7 ?_
  obtain ⟨v8, ev8, h⟩ := l_bnd h
  refine vr_nm ev8 ?_
  refine vr_istore (L' := [some (.ref a0), some (.int x1), some (.int x2), some (.int x3), some (.int v8), none, none]) d_PA_condition_17 (by decide) rfl ?_
  refine vr_aload_n d_PA_condition_19 rfl rfl ?_
  refine vr_iload_n d_PA_condition_20 rfl rfl ?_
  rcases l_calT h with ⟨v9, s9, ev9, h⟩ | ⟨v9, s9, ev9, hz⟩
  rotate_left
  · cases hz
    exact mh_threw (Qy := fun _ _ => True) 3 [.int x1] d_PA_condition_21 C_PA_108 (h_PA_both _ _ _ _ ev9) q5 rfl rfl rfl (Nat.le_of_ble_eq_true rfl) (by omega) (by show 8 + (5 + 11) + Lw ≤ Lw + 60; omega) rfl ⟨rfl, rfl⟩
  refine mh_callU 3 [.int x1] d_PA_condition_21 C_PA_108 (h_PA_both _ _ _ _ ev9) q5 rfl rfl rfl (Nat.le_of_ble_eq_true rfl) (by omega) (by show 8 + (5 + 11) + Lw ≤ Lw + 60; omega) ?_
  refine vr_aload_n d_PA_condition_24 rfl rfl ?_
  have q10 := (l_chk h).1
  replace h := (l_chk h).2
  obtain ⟨b11, eb11, h⟩ := l_rf h
  refine vr_getR (b := b11) d_PA_condition_25 F_PA_19 rfl q10 eb11 ?_
  have q12 := (l_chk h).1
  replace h := (l_chk h).2
  obtain ⟨v13, s13, ev13, h⟩ := l_calI h
  refine mh_callI 1 [] d_PA_condition_28 C_PA_111 (c_DR_lastPlace ev13) q12 rfl rfl rfl (Nat.le_of_ble_eq_true rfl) (by omega) (by show 8 + (1 + 11) + 0 ≤ Lw + 60; omega) ?_
  refine vr_istore (L' := [some (.ref a0), some (.int x1), some (.int x2), some (.int x3), some (.int v8), some (.int v13), none]) d_PA_condition_31 (by decide) rfl ?_
  refine vr_iconst 0 d_PA_condition_33 (by decide) ?_
  refine vr_istore (L' := [some (.ref a0), some (.int x1), some (.int x2), some (.int x3), some (.int v8), some (.int v13), some (.int 0)]) d_PA_condition_34 (by decide) rfl ?_
  exact mv_drop (q_PA_condition_36 hl h_PA_both hF hLw N _ _ _ _ _ _ _ _ h) (And.intro rfl (And.intro rfl (And.intro rfl (And.intro rfl (And.intro rfl (And.intro rfl trivial))))))

def k_PA_both_56 (N : Nat) (p_PA_test : Nat → Int32 → mh_H → Option (Bool × Int32 × mh_H)) (y0 : Nat) (y2 : Int32) (y3 : Int32) (y4 : Int32) (σ : mh_H) : Option (Bool × Int32 × mh_H) := if y4 ≤ 0 then (some (false, 0, σ)) else (chk (hT σ y0 = 7) <| calV (f_PA_finish N y0 25 y3 y2 σ) fun s17 => some (false, 0, s17))
theorem q_PA_both_56 {g : mv_G} {N : Nat} {p_PA_test : Nat → Int32 → mh_H → Option (Bool × Int32 × mh_H)} (hl : (mg_l g).stackTraces = false) {F Lw : Nat} (h_PA_test : pkV1 g M_PA_test F Lw p_PA_test) (hF : 40 ≤ F) (hLw : 1000 ≤ Lw) (y0 : Nat) (y2 : Int32) (y3 : Int32) (y4 : Int32) (σ : mh_H) (r : Bool × Int32 × mh_H) (h : k_PA_both_56 N p_PA_test y0 y2 y3 y4 σ = some r) : mv_V g M_PA_both (F + 1) (Lw + 60) 0 0 56 [some (.ref y0), none, some (.int y2), some (.int y3), some (.int y4)] [] σ (pcV r) := by
  unfold k_PA_both_56 at h
  refine vr_iload d_PA_both_56 rfl ?_
  refine vr_if_le (tgt := 69) d_PA_both_58 (by decide) (fun c58 => ?_) (fun c58 => ?_)
  · replace h := l_ifp c58 h
    cases h
    exact vr_vret d_PA_both_69 rfl ⟨rfl, rfl⟩
  · replace h := l_ifn c58 h
    refine vr_aload_n d_PA_both_61 rfl rfl ?_
    refine vr_bipush 25 d_PA_both_62 (by decide) ?_
    refine vr_iload_n d_PA_both_64 rfl rfl ?_
    refine vr_iload_n d_PA_both_65 rfl rfl ?_
    have q16 := (l_chk h).1
    replace h := (l_chk h).2
    obtain ⟨s17, es17, h⟩ := l_calV h
    refine mh_callU 3 [.int 25, .int y3, .int y2] d_PA_both_66 C_PA_72 (c_PA_finish es17) q16 rfl rfl rfl (Nat.le_of_ble_eq_true rfl) (by omega) (by show 8 + (4 + 11) + 24 ≤ Lw + 60; omega) ?_
    cases h
    exact vr_vret d_PA_both_69 rfl ⟨rfl, rfl⟩

def k_PA_both_24 (N : Nat) (p_PA_test : Nat → Int32 → mh_H → Option (Bool × Int32 × mh_H)) : Nat → Nat → Int32 → Int32 → Int32 → Int32 → mh_H → Option (Bool × Int32 × mh_H)
  | 0, _, _, _, _, _, _ => none
  | n + 1, y0, y1, y2, y3, y4, σ => chk (hT σ y0 = 7) <| rfO (hR σ 3 0 y0) fun b11 => chk (hT σ b11 = 9) <| if (hI σ 4 5 b11) ≤ y4 then (k_PA_both_56 N p_PA_test y0 y2 y3 y4 σ) else (calI (f_PA_skip N y0 33 σ) fun v13 s13 => if v13 = 0 then (k_PA_both_56 N p_PA_test y0 y2 y3 y4 s13) else (chk (hT s13 y0 = 7) <| calT (p_PA_test y0 y1 s13) fun v15 s15 => k_PA_both_24 N p_PA_test n y0 y1 y2 y3 ((y4 + 1)) s15))
theorem q_PA_both_24 {g : mv_G} {N : Nat} {p_PA_test : Nat → Int32 → mh_H → Option (Bool × Int32 × mh_H)} (hl : (mg_l g).stackTraces = false) {F Lw : Nat} (h_PA_test : pkV1 g M_PA_test F Lw p_PA_test) (hF : 40 ≤ F) (hLw : 1000 ≤ Lw) : ∀ (n : Nat) (y0 : Nat) (y1 : Int32) (y2 : Int32) (y3 : Int32) (y4 : Int32) (σ : mh_H) (r : Bool × Int32 × mh_H), k_PA_both_24 N p_PA_test n y0 y1 y2 y3 y4 σ = some r → mv_V g M_PA_both (F + 1) (Lw + 60) 0 0 24 [some (.ref y0), some (.int y1), some (.int y2), some (.int y3), some (.int y4)] [] σ (pcV r) := by
  intro n
  induction n with
  | zero =>
    intro y0 y1 y2 y3 y4 σ r h
    exact absurd h (by simp [k_PA_both_24])
  | succ n ih =>
    intro y0 y1 y2 y3 y4 σ r h 
    unfold k_PA_both_24 at h
    refine vr_iload d_PA_both_24 rfl ?_
    refine vr_aload_n d_PA_both_26 rfl rfl ?_
    have q10 := (l_chk h).1
    replace h := (l_chk h).2
    obtain ⟨b11, eb11, h⟩ := l_rf h
    refine vr_getR (b := b11) d_PA_both_27 F_PA_15 rfl q10 eb11 ?_
    have q12 := (l_chk h).1
    replace h := (l_chk h).2
    refine vr_getI d_PA_both_30 F_PA_23 rfl q12 ?_
    refine vr_icmp_ge (tgt := 56) d_PA_both_33 (by decide) (fun c33 => ?_) (fun c33 => ?_)
    · replace h := l_ifp c33 h
      exact mv_drop (q_PA_both_56 hl h_PA_test hF hLw _ _ _ _ _ _ h) (And.intro rfl (And.intro rfl (And.intro rfl (And.intro rfl trivial))))
    · replace h := l_ifn c33 h
      refine vr_aload_n d_PA_both_36 rfl rfl ?_
      refine vr_bipush 33 d_PA_both_37 (by decide) ?_
      obtain ⟨v13, s13, ev13, h⟩ := l_calI h
      refine mh_callI 3 [.int 33] d_PA_both_39 C_PA_65 (c_PA_skip ev13) q10 rfl rfl rfl (Nat.le_of_ble_eq_true rfl) (by omega) (by show 8 + (2 + 11) + 21 ≤ Lw + 60; omega) ?_
      refine vr_if_eq (tgt := 56) d_PA_both_42 (by decide) (fun c42 => ?_) (fun c42 => ?_)
      · replace h := l_ifp c42 h
        exact mv_drop (q_PA_both_56 hl h_PA_test hF hLw _ _ _ _ _ _ h) (And.intro rfl (And.intro rfl (And.intro rfl (And.intro rfl trivial))))
      · replace h := l_ifn c42 h
        refine vr_aload_n d_PA_both_45 rfl rfl ?_
        refine vr_iload_n d_PA_both_46 rfl rfl ?_
        have q14 := (l_chk h).1
        replace h := (l_chk h).2
        rcases l_calT h with ⟨v15, s15, ev15, h⟩ | ⟨v15, s15, ev15, hz⟩
        rotate_left
        · cases hz
          exact mh_threw (Qy := fun _ _ => True) 3 [.int y1] d_PA_both_47 C_PA_115 (h_PA_test _ _ _ _ ev15) q14 rfl rfl rfl (Nat.le_of_ble_eq_true rfl) (by omega) (by show 8 + (5 + 11) + Lw ≤ Lw + 60; omega) rfl ⟨rfl, rfl⟩
        refine mh_callU 3 [.int y1] d_PA_both_47 C_PA_115 (h_PA_test _ _ _ _ ev15) q14 rfl rfl rfl (Nat.le_of_ble_eq_true rfl) (by omega) (by show 8 + (5 + 11) + Lw ≤ Lw + 60; omega) ?_
        refine vr_iinc (L' := [some (.ref y0), some (.int y1), some (.int y2), some (.int y3), some (.int (y4 + 1))]) (y4 + 1) d_PA_both_50 (by decide) rfl rfl rfl ?_
        refine vr_goto (tgt := 24) d_PA_both_53 (by decide) ?_
        exact mv_drop (ih _ _ _ _ _ _ _ h) (And.intro rfl (And.intro rfl (And.intro rfl (And.intro rfl (And.intro rfl trivial)))))

def f_PA_both (N : Nat) (p_PA_test : Nat → Int32 → mh_H → Option (Bool × Int32 × mh_H)) (a0 : Nat) (x1 : Int32) (σ : mh_H) : Option (Bool × Int32 × mh_H) := chk (hT σ a0 = 7) <| rfO (hR σ 3 1 a0) fun b2 => chk (hT σ b2 = 3) <| bnd ((hI σ 1 4 b2)) fun v4 => calT (p_PA_test a0 x1 σ) fun v5 s5 => chk (hT s5 a0 = 7) <| rfO (hR s5 3 1 a0) fun b7 => chk (hT s5 b7 = 3) <| calI (f_DR_lastPlace N b7 s5) fun v9 s9 => k_PA_both_24 N p_PA_test N a0 x1 v4 v9 0 s9
theorem c_PA_both {g : mv_G} {N : Nat} {p_PA_test : Nat → Int32 → mh_H → Option (Bool × Int32 × mh_H)} (hl : (mg_l g).stackTraces = false) {F Lw : Nat} (h_PA_test : pkV1 g M_PA_test F Lw p_PA_test) (hF : 40 ≤ F) (hLw : 1000 ≤ Lw) : pkV1 g M_PA_both (F + 1) (Lw + 60) (f_PA_both N p_PA_test) := by
  intro a0 x1 σ r h
  refine mv_entry (L := [some (.ref a0), some (.int x1), none, none, none]) rfl rfl (Nat.le_of_ble_eq_true rfl) rfl ?_
  unfold f_PA_both at h
  refine vr_aload_n d_PA_both_0 rfl rfl ?_
  have q1 := (l_chk h).1
  replace h := (l_chk h).2
  obtain ⟨b2, eb2, h⟩ := l_rf h
  refine vr_getR (b := b2) d_PA_both_1 F_PA_19 rfl q1 eb2 ?_
  have q3 := (l_chk h).1
  replace h := (l_chk h).2
  refine vr_getI d_PA_both_4 F_PA_43 rfl q3 ?_
  obtain ⟨v4, ev4, h⟩ := l_bnd h
  refine vr_nm ev4 ?_
  refine vr_istore_n (L' := [some (.ref a0), some (.int x1), some (.int v4), none, none]) d_PA_both_7 rfl (by decide) rfl ?_
  refine vr_aload_n d_PA_both_8 rfl rfl ?_
  refine vr_iload_n d_PA_both_9 rfl rfl ?_
  rcases l_calT h with ⟨v5, s5, ev5, h⟩ | ⟨v5, s5, ev5, hz⟩
  rotate_left
  · cases hz
    exact mh_threw (Qy := fun _ _ => True) 3 [.int x1] d_PA_both_10 C_PA_115 (h_PA_test _ _ _ _ ev5) q1 rfl rfl rfl (Nat.le_of_ble_eq_true rfl) (by omega) (by show 8 + (5 + 11) + Lw ≤ Lw + 60; omega) rfl ⟨rfl, rfl⟩
  refine mh_callU 3 [.int x1] d_PA_both_10 C_PA_115 (h_PA_test _ _ _ _ ev5) q1 rfl rfl rfl (Nat.le_of_ble_eq_true rfl) (by omega) (by show 8 + (5 + 11) + Lw ≤ Lw + 60; omega) ?_
  refine vr_aload_n d_PA_both_13 rfl rfl ?_
  have q6 := (l_chk h).1
  replace h := (l_chk h).2
  obtain ⟨b7, eb7, h⟩ := l_rf h
  refine vr_getR (b := b7) d_PA_both_14 F_PA_19 rfl q6 eb7 ?_
  have q8 := (l_chk h).1
  replace h := (l_chk h).2
  obtain ⟨v9, s9, ev9, h⟩ := l_calI h
  refine mh_callI 1 [] d_PA_both_17 C_PA_111 (c_DR_lastPlace ev9) q8 rfl rfl rfl (Nat.le_of_ble_eq_true rfl) (by omega) (by show 8 + (1 + 11) + 0 ≤ Lw + 60; omega) ?_
  refine vr_istore_n (L' := [some (.ref a0), some (.int x1), some (.int v4), some (.int v9), none]) d_PA_both_20 rfl (by decide) rfl ?_
  refine vr_iconst 0 d_PA_both_21 (by decide) ?_
  refine vr_istore (L' := [some (.ref a0), some (.int x1), some (.int v4), some (.int v9), some (.int 0)]) d_PA_both_22 (by decide) rfl ?_
  exact mv_drop (q_PA_both_24 hl h_PA_test hF hLw N _ _ _ _ _ _ _ h) (And.intro rfl (And.intro rfl (And.intro rfl (And.intro rfl (And.intro rfl trivial)))))

def k_PA_test_125 (N : Nat) (p_PA_test : Nat → Int32 → mh_H → Option (Bool × Int32 × mh_H)) (p_PA_condition : Nat → Int32 → Int32 → Int32 → mh_H → Option (Bool × Int32 × mh_H)) (p_PA_sum : Nat → Int32 → mh_H → Option (Bool × Int32 × mh_H)) (y0 : Nat) (y1 : Int32) (y2 : Int32) (y3 : Int32) (y4 : Int32) (σ : mh_H) : Option (Bool × Int32 × mh_H) := chk (hT σ y0 = 7) <| calT (f_PA_take N y0 y4 σ) fun v37 s37 => chk (hT s37 y0 = 7) <| calT (p_PA_sum y0 ((y1 + 1)) s37) fun v39 s39 => chk (hT s39 y0 = 7) <| calV (f_PA_finish N y0 (((27 + y4) - 27)) y3 y2 s39) fun s41 => some (false, 0, s41)
theorem q_PA_test_125 {g : mv_G} {N : Nat} {p_PA_test : Nat → Int32 → mh_H → Option (Bool × Int32 × mh_H)} {p_PA_condition : Nat → Int32 → Int32 → Int32 → mh_H → Option (Bool × Int32 × mh_H)} {p_PA_sum : Nat → Int32 → mh_H → Option (Bool × Int32 × mh_H)} (hl : (mg_l g).stackTraces = false) {F Lw : Nat} (h_PA_test : pkV1 g M_PA_test F Lw p_PA_test) (h_PA_condition : pkV3 g M_PA_condition F Lw p_PA_condition) (h_PA_sum : pkV1 g M_PA_sum F Lw p_PA_sum) (hF : 40 ≤ F) (hLw : 1000 ≤ Lw) (y0 : Nat) (y1 : Int32) (y2 : Int32) (y3 : Int32) (y4 : Int32) (σ : mh_H) (r : Bool × Int32 × mh_H) (h : k_PA_test_125 N p_PA_test p_PA_condition p_PA_sum y0 y1 y2 y3 y4 σ = some r) : mv_V g M_PA_test (F + 1) (Lw + 60) 0 0 125 [some (.ref y0), some (.int y1), some (.int y2), some (.int y3), some (.int y4)] [] σ (pcV r) := by
  unfold k_PA_test_125 at h
  refine vr_aload_n d_PA_test_125 rfl rfl ?_
  refine vr_iload d_PA_test_126 rfl ?_
  have q36 := (l_chk h).1
  replace h := (l_chk h).2
  rcases l_calT h with ⟨v37, s37, ev37, h⟩ | ⟨v37, s37, ev37, hz⟩
  rotate_left
  · cases hz
    exact mh_threw (Qy := fun _ _ => True) 3 [.int y4] d_PA_test_128 C_PA_56 (c_PA_take hl ev37) q36 rfl rfl rfl (Nat.le_of_ble_eq_true rfl) (by omega) (by show 8 + (2 + 11) + 120 ≤ Lw + 60; omega) rfl ⟨rfl, rfl⟩
  refine mh_callU 3 [.int y4] d_PA_test_128 C_PA_56 (c_PA_take hl ev37) q36 rfl rfl rfl (Nat.le_of_ble_eq_true rfl) (by omega) (by show 8 + (2 + 11) + 120 ≤ Lw + 60; omega) ?_
  refine vr_aload_n d_PA_test_131 rfl rfl ?_
  refine vr_iload_n d_PA_test_132 rfl rfl ?_
  refine vr_iconst 1 d_PA_test_133 (by decide) ?_
  refine vr_iadd d_PA_test_134 ?_
  have q38 := (l_chk h).1
  replace h := (l_chk h).2
  rcases l_calT h with ⟨v39, s39, ev39, h⟩ | ⟨v39, s39, ev39, hz⟩
  rotate_left
  · cases hz
    exact mh_threw (Qy := fun _ _ => True) 3 [.int (y1 + 1)] d_PA_test_135 C_PA_98 (h_PA_sum _ _ _ _ ev39) q38 rfl rfl rfl (Nat.le_of_ble_eq_true rfl) (by omega) (by show 8 + (8 + 11) + Lw ≤ Lw + 60; omega) rfl ⟨rfl, rfl⟩
  refine mh_callU 3 [.int (y1 + 1)] d_PA_test_135 C_PA_98 (h_PA_sum _ _ _ _ ev39) q38 rfl rfl rfl (Nat.le_of_ble_eq_true rfl) (by omega) (by show 8 + (8 + 11) + Lw ≤ Lw + 60; omega) ?_
  refine vr_aload_n d_PA_test_138 rfl rfl ?_
  refine vr_bipush 27 d_PA_test_139 (by decide) ?_
  refine vr_iload d_PA_test_141 rfl ?_
  refine vr_iadd d_PA_test_143 ?_
  refine vr_bipush 27 d_PA_test_144 (by decide) ?_
  refine vr_isub d_PA_test_146 ?_
  refine vr_iload_n d_PA_test_147 rfl rfl ?_
  refine vr_iload_n d_PA_test_148 rfl rfl ?_
  have q40 := (l_chk h).1
  replace h := (l_chk h).2
  obtain ⟨s41, es41, h⟩ := l_calV h
  refine mh_callU 3 [.int ((27 + y4) - 27), .int y3, .int y2] d_PA_test_149 C_PA_72 (c_PA_finish es41) q40 rfl rfl rfl (Nat.le_of_ble_eq_true rfl) (by omega) (by show 8 + (4 + 11) + 24 ≤ Lw + 60; omega) ?_
  cases h
  exact vr_vret d_PA_test_152 rfl ⟨rfl, rfl⟩

def f_PA_test (N : Nat) (p_PA_test : Nat → Int32 → mh_H → Option (Bool × Int32 × mh_H)) (p_PA_condition : Nat → Int32 → Int32 → Int32 → mh_H → Option (Bool × Int32 × mh_H)) (p_PA_sum : Nat → Int32 → mh_H → Option (Bool × Int32 × mh_H)) (a0 : Nat) (x1 : Int32) (σ : mh_H) : Option (Bool × Int32 × mh_H) := chk (hT σ a0 = 7) <| calT (f_PA_limit N a0 x1 σ) fun v2 s2 => chk (hT s2 a0 = 7) <| rfO (hR s2 3 1 a0) fun b4 => chk (hT s2 b4 = 3) <| bnd ((hI s2 1 4 b4)) fun v6 => rfO (hR s2 3 0 a0) fun b7 => chk (hT s2 b7 = 9) <| calI (f_TO_placeAt N b7 ((hI s2 3 2 a0)) s2) fun v9 s9 => chk (hT s9 a0 = 7) <| calI (f_PA_skip N a0 21 s9) fun v11 s11 => if v11 = 0 then (chk (hT s11 a0 = 7) <| rfO (hR s11 3 0 a0) fun b13 => chk (hT s11 b13 = 9) <| calI (f_TO_kindAt N b13 ((hI s11 3 2 a0)) s11) fun v15 s15 => if v15 = 16 then (chk (hT s15 a0 = 7) <| calT (p_PA_condition a0 ((x1 + 1)) 16 17 s15) fun v31 s31 => some (false, 0, s31)) else (chk (hT s15 a0 = 7) <| calT (p_PA_sum a0 ((x1 + 1)) s15) fun v17 s17 => chk (hT s17 a0 = 7) <| rfO (hR s17 3 1 a0) fun b19 => chk (hT s17 b19 = 3) <| calI (f_DR_lastPlace N b19 s17) fun v21 s21 => chk (hT s21 a0 = 7) <| rfO (hR s21 3 0 a0) fun b23 => chk (hT s21 b23 = 9) <| calI (f_TO_kindAt N b23 ((hI s21 3 2 a0)) s21) fun v25 s25 => chk (hT s25 a0 = 7) <| calI (f_PA_isAt N a0 27 32 s25) fun v27 s27 => if v27 = 0 then (chk (hT s27 a0 = 7) <| calT (f_PA_refuse N a0 s27) fun v29 s29 => k_PA_test_125 N p_PA_test p_PA_condition p_PA_sum a0 x1 v6 v21 v25 s29) else (k_PA_test_125 N p_PA_test p_PA_condition p_PA_sum a0 x1 v6 v21 v25 s27))) else (chk (hT s11 a0 = 7) <| calT (p_PA_test a0 ((x1 + 1)) s11) fun v33 s33 => chk (hT s33 a0 = 7) <| calV (f_PA_finish N a0 26 v9 v6 s33) fun s35 => some (false, 0, s35))
theorem c_PA_test {g : mv_G} {N : Nat} {p_PA_test : Nat → Int32 → mh_H → Option (Bool × Int32 × mh_H)} {p_PA_condition : Nat → Int32 → Int32 → Int32 → mh_H → Option (Bool × Int32 × mh_H)} {p_PA_sum : Nat → Int32 → mh_H → Option (Bool × Int32 × mh_H)} (hl : (mg_l g).stackTraces = false) {F Lw : Nat} (h_PA_test : pkV1 g M_PA_test F Lw p_PA_test) (h_PA_condition : pkV3 g M_PA_condition F Lw p_PA_condition) (h_PA_sum : pkV1 g M_PA_sum F Lw p_PA_sum) (hF : 40 ≤ F) (hLw : 1000 ≤ Lw) : pkV1 g M_PA_test (F + 1) (Lw + 60) (f_PA_test N p_PA_test p_PA_condition p_PA_sum) := by
  intro a0 x1 σ r h
  refine mv_entry (L := [some (.ref a0), some (.int x1), none, none, none]) rfl rfl (Nat.le_of_ble_eq_true rfl) rfl ?_
  unfold f_PA_test at h
  refine vr_aload_n d_PA_test_0 rfl rfl ?_
  refine vr_iload_n d_PA_test_1 rfl rfl ?_
  have q1 := (l_chk h).1
  replace h := (l_chk h).2
  rcases l_calT h with ⟨v2, s2, ev2, h⟩ | ⟨v2, s2, ev2, hz⟩
  rotate_left
  · cases hz
    exact mh_threw (Qy := fun _ _ => True) 3 [.int x1] d_PA_test_2 C_PA_76 (c_PA_limit hl ev2) q1 rfl rfl rfl (Nat.le_of_ble_eq_true rfl) (by omega) (by show 8 + (2 + 11) + 120 ≤ Lw + 60; omega) rfl ⟨rfl, rfl⟩
  refine mh_callU 3 [.int x1] d_PA_test_2 C_PA_76 (c_PA_limit hl ev2) q1 rfl rfl rfl (Nat.le_of_ble_eq_true rfl) (by omega) (by show 8 + (2 + 11) + 120 ≤ Lw + 60; omega) ?_
  refine vr_aload_n d_PA_test_5 rfl rfl ?_
  have q3 := (l_chk h).1
  replace h := (l_chk h).2
  obtain ⟨b4, eb4, h⟩ := l_rf h
  refine vr_getR (b := b4) d_PA_test_6 F_PA_19 rfl q3 eb4 ?_
  have q5 := (l_chk h).1
  replace h := (l_chk h).2
  refine vr_getI d_PA_test_9 F_PA_43 rfl q5 ?_
  obtain ⟨v6, ev6, h⟩ := l_bnd h
  refine vr_nm ev6 ?_
  refine vr_istore_n (L' := [some (.ref a0), some (.int x1), some (.int v6), none, none]) d_PA_test_12 rfl (by decide) rfl ?_
  refine vr_aload_n d_PA_test_13 rfl rfl ?_
  obtain ⟨b7, eb7, h⟩ := l_rf h
  refine vr_getR (b := b7) d_PA_test_14 F_PA_15 rfl q3 eb7 ?_
  refine vr_aload_n d_PA_test_17 rfl rfl ?_
  refine vr_getI d_PA_test_18 F_PA_9 rfl q3 ?_
  have q8 := (l_chk h).1
  replace h := (l_chk h).2
  obtain ⟨v9, s9, ev9, h⟩ := l_calI h
  refine mh_callI 4 [.int (hI s2 3 2 a0)] d_PA_test_21 C_PA_46 (c_TO_placeAt ev9) q8 rfl rfl rfl (Nat.le_of_ble_eq_true rfl) (by omega) (by show 8 + (2 + 11) + 0 ≤ Lw + 60; omega) ?_
  refine vr_istore_n (L' := [some (.ref a0), some (.int x1), some (.int v6), some (.int v9), none]) d_PA_test_24 rfl (by decide) rfl ?_
  refine vr_aload_n d_PA_test_25 rfl rfl ?_
  refine vr_bipush 21 d_PA_test_26 (by decide) ?_
  have q10 := (l_chk h).1
  replace h := (l_chk h).2
  obtain ⟨v11, s11, ev11, h⟩ := l_calI h
  refine mh_callI 3 [.int 21] d_PA_test_28 C_PA_65 (c_PA_skip ev11) q10 rfl rfl rfl (Nat.le_of_ble_eq_true rfl) (by omega) (by show 8 + (2 + 11) + 21 ≤ Lw + 60; omega) ?_
  refine vr_if_eq (tgt := 52) d_PA_test_31 (by decide) (fun c31 => ?_) (fun c31 => ?_)
  · replace h := l_ifp c31 h
    refine vr_aload_n d_PA_test_52 rfl rfl ?_
    have q12 := (l_chk h).1
    replace h := (l_chk h).2
    obtain ⟨b13, eb13, h⟩ := l_rf h
    refine vr_getR (b := b13) d_PA_test_53 F_PA_15 rfl q12 eb13 ?_
    refine vr_aload_n d_PA_test_56 rfl rfl ?_
    refine vr_getI d_PA_test_57 F_PA_9 rfl q12 ?_
    have q14 := (l_chk h).1
    replace h := (l_chk h).2
    obtain ⟨v15, s15, ev15, h⟩ := l_calI h
    refine mh_callI 4 [.int (hI s11 3 2 a0)] d_PA_test_60 C_PA_62 (c_TO_kindAt ev15) q14 rfl rfl rfl (Nat.le_of_ble_eq_true rfl) (by omega) (by show 8 + (2 + 11) + 0 ≤ Lw + 60; omega) ?_
    refine vr_bipush 16 d_PA_test_63 (by decide) ?_
    refine vr_icmp_ne (tgt := 82) d_PA_test_65 (by decide) (fun c65 => ?_) (fun c65 => ?_)
    · replace h := l_ifn c65 h
      refine vr_aload_n d_PA_test_82 rfl rfl ?_
      refine vr_iload_n d_PA_test_83 rfl rfl ?_
      refine vr_iconst 1 d_PA_test_84 (by decide) ?_
      refine vr_iadd d_PA_test_85 ?_
      have q16 := (l_chk h).1
      replace h := (l_chk h).2
      rcases l_calT h with ⟨v17, s17, ev17, h⟩ | ⟨v17, s17, ev17, hz⟩
      rotate_left
      · cases hz
        exact mh_threw (Qy := fun _ _ => True) 3 [.int (x1 + 1)] d_PA_test_86 C_PA_98 (h_PA_sum _ _ _ _ ev17) q16 rfl rfl rfl (Nat.le_of_ble_eq_true rfl) (by omega) (by show 8 + (8 + 11) + Lw ≤ Lw + 60; omega) rfl ⟨rfl, rfl⟩
      refine mh_callU 3 [.int (x1 + 1)] d_PA_test_86 C_PA_98 (h_PA_sum _ _ _ _ ev17) q16 rfl rfl rfl (Nat.le_of_ble_eq_true rfl) (by omega) (by show 8 + (8 + 11) + Lw ≤ Lw + 60; omega) ?_
      refine vr_aload_n d_PA_test_89 rfl rfl ?_
      have q18 := (l_chk h).1
      replace h := (l_chk h).2
      obtain ⟨b19, eb19, h⟩ := l_rf h
      refine vr_getR (b := b19) d_PA_test_90 F_PA_19 rfl q18 eb19 ?_
      have q20 := (l_chk h).1
      replace h := (l_chk h).2
      obtain ⟨v21, s21, ev21, h⟩ := l_calI h
      refine mh_callI 1 [] d_PA_test_93 C_PA_111 (c_DR_lastPlace ev21) q20 rfl rfl rfl (Nat.le_of_ble_eq_true rfl) (by omega) (by show 8 + (1 + 11) + 0 ≤ Lw + 60; omega) ?_
      refine vr_istore_n (L' := [some (.ref a0), some (.int x1), some (.int v6), some (.int v21), none]) d_PA_test_96 rfl (by decide) rfl ?_
      refine vr_aload_n d_PA_test_97 rfl rfl ?_
      have q22 := (l_chk h).1
      replace h := (l_chk h).2
      obtain ⟨b23, eb23, h⟩ := l_rf h
      refine vr_getR (b := b23) d_PA_test_98 F_PA_15 rfl q22 eb23 ?_
      refine vr_aload_n d_PA_test_101 rfl rfl ?_
      refine vr_getI d_PA_test_102 F_PA_9 rfl q22 ?_
      have q24 := (l_chk h).1
      replace h := (l_chk h).2
      obtain ⟨v25, s25, ev25, h⟩ := l_calI h
      refine mh_callI 4 [.int (hI s21 3 2 a0)] d_PA_test_105 C_PA_62 (c_TO_kindAt ev25) q24 rfl rfl rfl (Nat.le_of_ble_eq_true rfl) (by omega) (by show 8 + (2 + 11) + 0 ≤ Lw + 60; omega) ?_
      refine vr_istore (L' := [some (.ref a0), some (.int x1), some (.int v6), some (.int v21), some (.int v25)]) d_PA_test_108 (by decide) rfl ?_
      refine vr_aload_n d_PA_test_110 rfl rfl ?_
      refine vr_bipush 27 d_PA_test_111 (by decide) ?_
      refine vr_bipush 32 d_PA_test_113 (by decide) ?_
      have q26 := (l_chk h).1
      replace h := (l_chk h).2
      obtain ⟨v27, s27, ev27, h⟩ := l_calI h
      refine mh_callI 3 [.int 27, .int 32] d_PA_test_115 C_PA_36 (c_PA_isAt ev27) q26 rfl rfl rfl (Nat.le_of_ble_eq_true rfl) (by omega) (by show 8 + (4 + 11) + 21 ≤ Lw + 60; omega) ?_
      refine vr_if_ne (tgt := 125) d_PA_test_118 (by decide) (fun c118 => ?_) (fun c118 => ?_)
      · replace h := l_ifn c118 h
        exact mv_drop (q_PA_test_125 hl h_PA_test h_PA_condition h_PA_sum hF hLw _ _ _ _ _ _ _ h) (And.intro rfl (And.intro rfl (And.intro rfl (And.intro rfl (And.intro rfl trivial)))))
      · replace h := l_ifp c118 h
        refine vr_aload_n d_PA_test_121 rfl rfl ?_
        have q28 := (l_chk h).1
        replace h := (l_chk h).2
        rcases l_calT h with ⟨v29, s29, ev29, h⟩ | ⟨v29, s29, ev29, hz⟩
        rotate_left
        · cases hz
          exact mh_threw (Qy := fun _ _ => True) 3 [] d_PA_test_122 C_PA_118 (c_PA_refuse hl ev29) q28 rfl rfl rfl (Nat.le_of_ble_eq_true rfl) (by omega) (by show 8 + (1 + 11) + 100 ≤ Lw + 60; omega) rfl ⟨rfl, rfl⟩
        refine mh_callU 3 [] d_PA_test_122 C_PA_118 (c_PA_refuse hl ev29) q28 rfl rfl rfl (Nat.le_of_ble_eq_true rfl) (by omega) (by show 8 + (1 + 11) + 100 ≤ Lw + 60; omega) ?_
        exact mv_drop (q_PA_test_125 hl h_PA_test h_PA_condition h_PA_sum hF hLw _ _ _ _ _ _ _ h) (And.intro rfl (And.intro rfl (And.intro rfl (And.intro rfl (And.intro rfl trivial)))))
    · replace h := l_ifp c65 h
      refine vr_aload_n d_PA_test_68 rfl rfl ?_
      refine vr_iload_n d_PA_test_69 rfl rfl ?_
      refine vr_iconst 1 d_PA_test_70 (by decide) ?_
      refine vr_iadd d_PA_test_71 ?_
      refine vr_bipush 16 d_PA_test_72 (by decide) ?_
      refine vr_bipush 17 d_PA_test_74 (by decide) ?_
      have q30 := (l_chk h).1
      replace h := (l_chk h).2
      rcases l_calT h with ⟨v31, s31, ev31, h⟩ | ⟨v31, s31, ev31, hz⟩
      rotate_left
      · cases hz
        exact mh_threw (Qy := fun _ _ => True) 3 [.int (x1 + 1), .int 16, .int 17] d_PA_test_76 C_PA_105 (h_PA_condition _ _ _ _ _ _ ev31) q30 rfl rfl rfl (Nat.le_of_ble_eq_true rfl) (by omega) (by show 8 + (7 + 11) + Lw ≤ Lw + 60; omega) rfl ⟨rfl, rfl⟩
      refine mh_callU 3 [.int (x1 + 1), .int 16, .int 17] d_PA_test_76 C_PA_105 (h_PA_condition _ _ _ _ _ _ ev31) q30 rfl rfl rfl (Nat.le_of_ble_eq_true rfl) (by omega) (by show 8 + (7 + 11) + Lw ≤ Lw + 60; omega) ?_
      refine vr_goto (tgt := 152) d_PA_test_79 (by decide) ?_
      cases h
      exact vr_vret d_PA_test_152 rfl ⟨rfl, rfl⟩
  · replace h := l_ifn c31 h
    refine vr_aload_n d_PA_test_34 rfl rfl ?_
    refine vr_iload_n d_PA_test_35 rfl rfl ?_
    refine vr_iconst 1 d_PA_test_36 (by decide) ?_
    refine vr_iadd d_PA_test_37 ?_
    have q32 := (l_chk h).1
    replace h := (l_chk h).2
    rcases l_calT h with ⟨v33, s33, ev33, h⟩ | ⟨v33, s33, ev33, hz⟩
    rotate_left
    · cases hz
      exact mh_threw (Qy := fun _ _ => True) 3 [.int (x1 + 1)] d_PA_test_38 C_PA_115 (h_PA_test _ _ _ _ ev33) q32 rfl rfl rfl (Nat.le_of_ble_eq_true rfl) (by omega) (by show 8 + (5 + 11) + Lw ≤ Lw + 60; omega) rfl ⟨rfl, rfl⟩
    refine mh_callU 3 [.int (x1 + 1)] d_PA_test_38 C_PA_115 (h_PA_test _ _ _ _ ev33) q32 rfl rfl rfl (Nat.le_of_ble_eq_true rfl) (by omega) (by show 8 + (5 + 11) + Lw ≤ Lw + 60; omega) ?_
    refine vr_aload_n d_PA_test_41 rfl rfl ?_
    refine vr_bipush 26 d_PA_test_42 (by decide) ?_
    refine vr_iload_n d_PA_test_44 rfl rfl ?_
    refine vr_iload_n d_PA_test_45 rfl rfl ?_
    have q34 := (l_chk h).1
    replace h := (l_chk h).2
    obtain ⟨s35, es35, h⟩ := l_calV h
    refine mh_callU 3 [.int 26, .int v9, .int v6] d_PA_test_46 C_PA_72 (c_PA_finish es35) q34 rfl rfl rfl (Nat.le_of_ble_eq_true rfl) (by omega) (by show 8 + (4 + 11) + 24 ≤ Lw + 60; omega) ?_
    refine vr_goto (tgt := 152) d_PA_test_49 (by decide) ?_
    cases h
    exact vr_vret d_PA_test_152 rfl ⟨rfl, rfl⟩

def k_PA_sum_120 (N : Nat) (p_PA_term : Nat → Int32 → mh_H → Option (Bool × Int32 × mh_H)) (y0 : Nat) (y2 : Int32) (y3 : Int32) (y4 : Int32) (σ : mh_H) : Option (Bool × Int32 × mh_H) := if y4 ≤ 0 then (some (false, 0, σ)) else (chk (hT σ y0 = 7) <| calV (f_PA_finish N y0 17 y3 y2 σ) fun s34 => some (false, 0, s34))
theorem q_PA_sum_120 {g : mv_G} {N : Nat} {p_PA_term : Nat → Int32 → mh_H → Option (Bool × Int32 × mh_H)} (hl : (mg_l g).stackTraces = false) {F Lw : Nat} (h_PA_term : pkV1 g M_PA_term F Lw p_PA_term) (hF : 40 ≤ F) (hLw : 1000 ≤ Lw) (y0 : Nat) (y2 : Int32) (y3 : Int32) (y4 : Int32) (σ : mh_H) (r : Bool × Int32 × mh_H) (h : k_PA_sum_120 N p_PA_term y0 y2 y3 y4 σ = some r) : mv_V g M_PA_sum (F + 1) (Lw + 60) 0 0 120 [some (.ref y0), none, some (.int y2), some (.int y3), some (.int y4), none, none, none] [] σ (pcV r) := by
  unfold k_PA_sum_120 at h
  refine vr_iload d_PA_sum_120 rfl ?_
  refine vr_if_le (tgt := 133) d_PA_sum_122 (by decide) (fun c122 => ?_) (fun c122 => ?_)
  · replace h := l_ifp c122 h
    cases h
    exact vr_vret d_PA_sum_133 rfl ⟨rfl, rfl⟩
  · replace h := l_ifn c122 h
    refine vr_aload_n d_PA_sum_125 rfl rfl ?_
    refine vr_bipush 17 d_PA_sum_126 (by decide) ?_
    refine vr_iload_n d_PA_sum_128 rfl rfl ?_
    refine vr_iload_n d_PA_sum_129 rfl rfl ?_
    have q33 := (l_chk h).1
    replace h := (l_chk h).2
    obtain ⟨s34, es34, h⟩ := l_calV h
    refine mh_callU 3 [.int 17, .int y3, .int y2] d_PA_sum_130 C_PA_72 (c_PA_finish es34) q33 rfl rfl rfl (Nat.le_of_ble_eq_true rfl) (by omega) (by show 8 + (4 + 11) + 24 ≤ Lw + 60; omega) ?_
    cases h
    exact vr_vret d_PA_sum_133 rfl ⟨rfl, rfl⟩

def k_PA_sum_29 (N : Nat) (p_PA_term : Nat → Int32 → mh_H → Option (Bool × Int32 × mh_H)) : Nat → Nat → Int32 → Int32 → Int32 → Int32 → mh_H → Option (Bool × Int32 × mh_H)
  | 0, _, _, _, _, _, _ => none
  | n + 1, y0, y1, y2, y3, y4, σ => chk (hT σ y0 = 7) <| rfO (hR σ 3 0 y0) fun b13 => chk (hT σ b13 = 9) <| if (hI σ 4 5 b13) ≤ y4 then (k_PA_sum_120 N p_PA_term y0 y2 y3 y4 σ) else (calI (f_PA_isAt N y0 22 23 σ) fun v15 s15 => if v15 = 0 then (k_PA_sum_120 N p_PA_term y0 y2 y3 y4 s15) else (chk (hT s15 y0 = 7) <| rfO (hR s15 3 0 y0) fun b17 => chk (hT s15 b17 = 9) <| calI (f_TO_kindAt N b17 ((hI s15 3 2 y0)) s15) fun v19 s19 => chk (hT s19 y0 = 7) <| rfO (hR s19 3 0 y0) fun b21 => chk (hT s19 b21 = 9) <| calI (f_TO_placeAt N b21 ((hI s19 3 2 y0)) s19) fun v23 s23 => chk (hT s23 y0 = 7) <| rfO (hR s23 3 1 y0) fun b25 => chk (hT s23 b25 = 3) <| bnd ((hI s23 1 4 b25)) fun v27 => calT (f_PA_take N y0 v19 s23) fun v28 s28 => chk (hT s28 y0 = 7) <| calT (p_PA_term y0 y1 s28) fun v30 s30 => chk (hT s30 y0 = 7) <| calV (f_PA_finish N y0 (((18 + v19) - 22)) v23 v27 s30) fun s32 => k_PA_sum_29 N p_PA_term n y0 y1 y2 y3 ((y4 + 1)) s32))
theorem q_PA_sum_29 {g : mv_G} {N : Nat} {p_PA_term : Nat → Int32 → mh_H → Option (Bool × Int32 × mh_H)} (hl : (mg_l g).stackTraces = false) {F Lw : Nat} (h_PA_term : pkV1 g M_PA_term F Lw p_PA_term) (hF : 40 ≤ F) (hLw : 1000 ≤ Lw) : ∀ (n : Nat) (y0 : Nat) (y1 : Int32) (y2 : Int32) (y3 : Int32) (y4 : Int32) (σ : mh_H) (r : Bool × Int32 × mh_H), k_PA_sum_29 N p_PA_term n y0 y1 y2 y3 y4 σ = some r → mv_V g M_PA_sum (F + 1) (Lw + 60) 0 0 29 [some (.ref y0), some (.int y1), some (.int y2), some (.int y3), some (.int y4), none, none, none] [] σ (pcV r) := by
  intro n
  induction n with
  | zero =>
    intro y0 y1 y2 y3 y4 σ r h
    exact absurd h (by simp [k_PA_sum_29])
  | succ n ih =>
    intro y0 y1 y2 y3 y4 σ r h 
    unfold k_PA_sum_29 at h
    refine vr_iload d_PA_sum_29 rfl ?_
    refine vr_aload_n d_PA_sum_31 rfl rfl ?_
    have q12 := (l_chk h).1
    replace h := (l_chk h).2
    obtain ⟨b13, eb13, h⟩ := l_rf h
    refine vr_getR (b := b13) d_PA_sum_32 F_PA_15 rfl q12 eb13 ?_
    have q14 := (l_chk h).1
    replace h := (l_chk h).2
    refine vr_getI d_PA_sum_35 F_PA_23 rfl q14 ?_
    refine vr_icmp_ge (tgt := 120) d_PA_sum_38 (by decide) (fun c38 => ?_) (fun c38 => ?_)
    · replace h := l_ifp c38 h
      exact mv_drop (q_PA_sum_120 hl h_PA_term hF hLw _ _ _ _ _ _ h) (And.intro rfl (And.intro rfl (And.intro rfl (And.intro rfl trivial))))
    · replace h := l_ifn c38 h
      refine vr_aload_n d_PA_sum_41 rfl rfl ?_
      refine vr_bipush 22 d_PA_sum_42 (by decide) ?_
      refine vr_bipush 23 d_PA_sum_44 (by decide) ?_
      obtain ⟨v15, s15, ev15, h⟩ := l_calI h
      refine mh_callI 3 [.int 22, .int 23] d_PA_sum_46 C_PA_36 (c_PA_isAt ev15) q12 rfl rfl rfl (Nat.le_of_ble_eq_true rfl) (by omega) (by show 8 + (4 + 11) + 21 ≤ Lw + 60; omega) ?_
      refine vr_if_eq (tgt := 120) d_PA_sum_49 (by decide) (fun c49 => ?_) (fun c49 => ?_)
      · replace h := l_ifp c49 h
        exact mv_drop (q_PA_sum_120 hl h_PA_term hF hLw _ _ _ _ _ _ h) (And.intro rfl (And.intro rfl (And.intro rfl (And.intro rfl trivial))))
      · replace h := l_ifn c49 h
        refine vr_aload_n d_PA_sum_52 rfl rfl ?_
        have q16 := (l_chk h).1
        replace h := (l_chk h).2
        obtain ⟨b17, eb17, h⟩ := l_rf h
        refine vr_getR (b := b17) d_PA_sum_53 F_PA_15 rfl q16 eb17 ?_
        refine vr_aload_n d_PA_sum_56 rfl rfl ?_
        refine vr_getI d_PA_sum_57 F_PA_9 rfl q16 ?_
        have q18 := (l_chk h).1
        replace h := (l_chk h).2
        obtain ⟨v19, s19, ev19, h⟩ := l_calI h
        refine mh_callI 4 [.int (hI s15 3 2 y0)] d_PA_sum_60 C_PA_62 (c_TO_kindAt ev19) q18 rfl rfl rfl (Nat.le_of_ble_eq_true rfl) (by omega) (by show 8 + (2 + 11) + 0 ≤ Lw + 60; omega) ?_
        refine vr_istore (L' := [some (.ref y0), some (.int y1), some (.int y2), some (.int y3), some (.int y4), some (.int v19), none, none]) d_PA_sum_63 (by decide) rfl ?_
        refine vr_aload_n d_PA_sum_65 rfl rfl ?_
        have q20 := (l_chk h).1
        replace h := (l_chk h).2
        obtain ⟨b21, eb21, h⟩ := l_rf h
        refine vr_getR (b := b21) d_PA_sum_66 F_PA_15 rfl q20 eb21 ?_
        refine vr_aload_n d_PA_sum_69 rfl rfl ?_
        refine vr_getI d_PA_sum_70 F_PA_9 rfl q20 ?_
        have q22 := (l_chk h).1
        replace h := (l_chk h).2
        obtain ⟨v23, s23, ev23, h⟩ := l_calI h
        refine mh_callI 4 [.int (hI s19 3 2 y0)] d_PA_sum_73 C_PA_46 (c_TO_placeAt ev23) q22 rfl rfl rfl (Nat.le_of_ble_eq_true rfl) (by omega) (by show 8 + (2 + 11) + 0 ≤ Lw + 60; omega) ?_
        refine vr_istore (L' := [some (.ref y0), some (.int y1), some (.int y2), some (.int y3), some (.int y4), some (.int v19), some (.int v23), none]) d_PA_sum_76 (by decide) rfl ?_
        refine vr_aload_n d_PA_sum_78 rfl rfl ?_
        have q24 := (l_chk h).1
        replace h := (l_chk h).2
        obtain ⟨b25, eb25, h⟩ := l_rf h
        refine vr_getR (b := b25) d_PA_sum_79 F_PA_19 rfl q24 eb25 ?_
        have q26 := (l_chk h).1
        replace h := (l_chk h).2
        refine vr_getI d_PA_sum_82 F_PA_43 rfl q26 ?_
        obtain ⟨v27, ev27, h⟩ := l_bnd h
        refine vr_nm ev27 ?_
        refine vr_istore (L' := [some (.ref y0), some (.int y1), some (.int y2), some (.int y3), some (.int y4), some (.int v19), some (.int v23), some (.int v27)]) d_PA_sum_85 (by decide) rfl ?_
        refine vr_aload_n d_PA_sum_87 rfl rfl ?_
        refine vr_iload d_PA_sum_88 rfl ?_
        rcases l_calT h with ⟨v28, s28, ev28, h⟩ | ⟨v28, s28, ev28, hz⟩
        rotate_left
        · cases hz
          exact mh_threw (Qy := fun _ _ => True) 3 [.int v19] d_PA_sum_90 C_PA_56 (c_PA_take hl ev28) q24 rfl rfl rfl (Nat.le_of_ble_eq_true rfl) (by omega) (by show 8 + (2 + 11) + 120 ≤ Lw + 60; omega) rfl ⟨rfl, rfl⟩
        refine mh_callU 3 [.int v19] d_PA_sum_90 C_PA_56 (c_PA_take hl ev28) q24 rfl rfl rfl (Nat.le_of_ble_eq_true rfl) (by omega) (by show 8 + (2 + 11) + 120 ≤ Lw + 60; omega) ?_
        refine vr_aload_n d_PA_sum_93 rfl rfl ?_
        refine vr_iload_n d_PA_sum_94 rfl rfl ?_
        have q29 := (l_chk h).1
        replace h := (l_chk h).2
        rcases l_calT h with ⟨v30, s30, ev30, h⟩ | ⟨v30, s30, ev30, hz⟩
        rotate_left
        · cases hz
          exact mh_threw (Qy := fun _ _ => True) 3 [.int y1] d_PA_sum_95 C_PA_121 (h_PA_term _ _ _ _ ev30) q29 rfl rfl rfl (Nat.le_of_ble_eq_true rfl) (by omega) (by show 8 + (8 + 11) + Lw ≤ Lw + 60; omega) rfl ⟨rfl, rfl⟩
        refine mh_callU 3 [.int y1] d_PA_sum_95 C_PA_121 (h_PA_term _ _ _ _ ev30) q29 rfl rfl rfl (Nat.le_of_ble_eq_true rfl) (by omega) (by show 8 + (8 + 11) + Lw ≤ Lw + 60; omega) ?_
        refine vr_aload_n d_PA_sum_98 rfl rfl ?_
        refine vr_bipush 18 d_PA_sum_99 (by decide) ?_
        refine vr_iload d_PA_sum_101 rfl ?_
        refine vr_iadd d_PA_sum_103 ?_
        refine vr_bipush 22 d_PA_sum_104 (by decide) ?_
        refine vr_isub d_PA_sum_106 ?_
        refine vr_iload d_PA_sum_107 rfl ?_
        refine vr_iload d_PA_sum_109 rfl ?_
        have q31 := (l_chk h).1
        replace h := (l_chk h).2
        obtain ⟨s32, es32, h⟩ := l_calV h
        refine mh_callU 3 [.int ((18 + v19) - 22), .int v23, .int v27] d_PA_sum_111 C_PA_72 (c_PA_finish es32) q31 rfl rfl rfl (Nat.le_of_ble_eq_true rfl) (by omega) (by show 8 + (4 + 11) + 24 ≤ Lw + 60; omega) ?_
        refine vr_iinc (L' := [some (.ref y0), some (.int y1), some (.int y2), some (.int y3), some (.int (y4 + 1)), some (.int v19), some (.int v23), some (.int v27)]) (y4 + 1) d_PA_sum_114 (by decide) rfl rfl rfl ?_
        refine vr_goto (tgt := 29) d_PA_sum_117 (by decide) ?_
        exact mv_drop (ih _ _ _ _ _ _ _ h) (And.intro rfl (And.intro rfl (And.intro rfl (And.intro rfl (And.intro rfl trivial)))))

def f_PA_sum (N : Nat) (p_PA_term : Nat → Int32 → mh_H → Option (Bool × Int32 × mh_H)) (a0 : Nat) (x1 : Int32) (σ : mh_H) : Option (Bool × Int32 × mh_H) := chk (hT σ a0 = 7) <| calT (f_PA_limit N a0 x1 σ) fun v2 s2 => chk (hT s2 a0 = 7) <| rfO (hR s2 3 1 a0) fun b4 => chk (hT s2 b4 = 3) <| bnd ((hI s2 1 4 b4)) fun v6 => calT (p_PA_term a0 x1 s2) fun v7 s7 => chk (hT s7 a0 = 7) <| rfO (hR s7 3 1 a0) fun b9 => chk (hT s7 b9 = 3) <| calI (f_DR_lastPlace N b9 s7) fun v11 s11 => k_PA_sum_29 N p_PA_term N a0 x1 v6 v11 0 s11
theorem c_PA_sum {g : mv_G} {N : Nat} {p_PA_term : Nat → Int32 → mh_H → Option (Bool × Int32 × mh_H)} (hl : (mg_l g).stackTraces = false) {F Lw : Nat} (h_PA_term : pkV1 g M_PA_term F Lw p_PA_term) (hF : 40 ≤ F) (hLw : 1000 ≤ Lw) : pkV1 g M_PA_sum (F + 1) (Lw + 60) (f_PA_sum N p_PA_term) := by
  intro a0 x1 σ r h
  refine mv_entry (L := [some (.ref a0), some (.int x1), none, none, none, none, none, none]) rfl rfl (Nat.le_of_ble_eq_true rfl) rfl ?_
  unfold f_PA_sum at h
  refine vr_aload_n d_PA_sum_0 rfl rfl ?_
  refine vr_iload_n d_PA_sum_1 rfl rfl ?_
  have q1 := (l_chk h).1
  replace h := (l_chk h).2
  rcases l_calT h with ⟨v2, s2, ev2, h⟩ | ⟨v2, s2, ev2, hz⟩
  rotate_left
  · cases hz
    exact mh_threw (Qy := fun _ _ => True) 3 [.int x1] d_PA_sum_2 C_PA_76 (c_PA_limit hl ev2) q1 rfl rfl rfl (Nat.le_of_ble_eq_true rfl) (by omega) (by show 8 + (2 + 11) + 120 ≤ Lw + 60; omega) rfl ⟨rfl, rfl⟩
  refine mh_callU 3 [.int x1] d_PA_sum_2 C_PA_76 (c_PA_limit hl ev2) q1 rfl rfl rfl (Nat.le_of_ble_eq_true rfl) (by omega) (by show 8 + (2 + 11) + 120 ≤ Lw + 60; omega) ?_
  refine vr_aload_n d_PA_sum_5 rfl rfl ?_
  have q3 := (l_chk h).1
  replace h := (l_chk h).2
  obtain ⟨b4, eb4, h⟩ := l_rf h
  refine vr_getR (b := b4) d_PA_sum_6 F_PA_19 rfl q3 eb4 ?_
  have q5 := (l_chk h).1
  replace h := (l_chk h).2
  refine vr_getI d_PA_sum_9 F_PA_43 rfl q5 ?_
  obtain ⟨v6, ev6, h⟩ := l_bnd h
  refine vr_nm ev6 ?_
  refine vr_istore_n (L' := [some (.ref a0), some (.int x1), some (.int v6), none, none, none, none, none]) d_PA_sum_12 rfl (by decide) rfl ?_
  refine vr_aload_n d_PA_sum_13 rfl rfl ?_
  refine vr_iload_n d_PA_sum_14 rfl rfl ?_
  rcases l_calT h with ⟨v7, s7, ev7, h⟩ | ⟨v7, s7, ev7, hz⟩
  rotate_left
  · cases hz
    exact mh_threw (Qy := fun _ _ => True) 3 [.int x1] d_PA_sum_15 C_PA_121 (h_PA_term _ _ _ _ ev7) q3 rfl rfl rfl (Nat.le_of_ble_eq_true rfl) (by omega) (by show 8 + (8 + 11) + Lw ≤ Lw + 60; omega) rfl ⟨rfl, rfl⟩
  refine mh_callU 3 [.int x1] d_PA_sum_15 C_PA_121 (h_PA_term _ _ _ _ ev7) q3 rfl rfl rfl (Nat.le_of_ble_eq_true rfl) (by omega) (by show 8 + (8 + 11) + Lw ≤ Lw + 60; omega) ?_
  refine vr_aload_n d_PA_sum_18 rfl rfl ?_
  have q8 := (l_chk h).1
  replace h := (l_chk h).2
  obtain ⟨b9, eb9, h⟩ := l_rf h
  refine vr_getR (b := b9) d_PA_sum_19 F_PA_19 rfl q8 eb9 ?_
  have q10 := (l_chk h).1
  replace h := (l_chk h).2
  obtain ⟨v11, s11, ev11, h⟩ := l_calI h
  refine mh_callI 1 [] d_PA_sum_22 C_PA_111 (c_DR_lastPlace ev11) q10 rfl rfl rfl (Nat.le_of_ble_eq_true rfl) (by omega) (by show 8 + (1 + 11) + 0 ≤ Lw + 60; omega) ?_
  refine vr_istore_n (L' := [some (.ref a0), some (.int x1), some (.int v6), some (.int v11), none, none, none, none]) d_PA_sum_25 rfl (by decide) rfl ?_
  refine vr_iconst 0 d_PA_sum_26 (by decide) ?_
  refine vr_istore (L' := [some (.ref a0), some (.int x1), some (.int v6), some (.int v11), some (.int 0), none, none, none]) d_PA_sum_27 (by decide) rfl ?_
  exact mv_drop (q_PA_sum_29 hl h_PA_term hF hLw N _ _ _ _ _ _ _ h) (And.intro rfl (And.intro rfl (And.intro rfl (And.intro rfl (And.intro rfl trivial)))))

def k_PA_term_115 (N : Nat) (p_PA_factor : Nat → Int32 → mh_H → Option (Bool × Int32 × mh_H)) (y0 : Nat) (y2 : Int32) (y3 : Int32) (y4 : Int32) (σ : mh_H) : Option (Bool × Int32 × mh_H) := if y4 ≤ 0 then (some (false, 0, σ)) else (chk (hT σ y0 = 7) <| calV (f_PA_finish N y0 20 y3 y2 σ) fun s32 => some (false, 0, s32))
theorem q_PA_term_115 {g : mv_G} {N : Nat} {p_PA_factor : Nat → Int32 → mh_H → Option (Bool × Int32 × mh_H)} (hl : (mg_l g).stackTraces = false) {F Lw : Nat} (h_PA_factor : pkV1 g M_PA_factor F Lw p_PA_factor) (hF : 40 ≤ F) (hLw : 1000 ≤ Lw) (y0 : Nat) (y2 : Int32) (y3 : Int32) (y4 : Int32) (σ : mh_H) (r : Bool × Int32 × mh_H) (h : k_PA_term_115 N p_PA_factor y0 y2 y3 y4 σ = some r) : mv_V g M_PA_term (F + 1) (Lw + 60) 0 0 115 [some (.ref y0), none, some (.int y2), some (.int y3), some (.int y4), none, none, none] [] σ (pcV r) := by
  unfold k_PA_term_115 at h
  refine vr_iload d_PA_term_115 rfl ?_
  refine vr_if_le (tgt := 128) d_PA_term_117 (by decide) (fun c117 => ?_) (fun c117 => ?_)
  · replace h := l_ifp c117 h
    cases h
    exact vr_vret d_PA_term_128 rfl ⟨rfl, rfl⟩
  · replace h := l_ifn c117 h
    refine vr_aload_n d_PA_term_120 rfl rfl ?_
    refine vr_bipush 20 d_PA_term_121 (by decide) ?_
    refine vr_iload_n d_PA_term_123 rfl rfl ?_
    refine vr_iload_n d_PA_term_124 rfl rfl ?_
    have q31 := (l_chk h).1
    replace h := (l_chk h).2
    obtain ⟨s32, es32, h⟩ := l_calV h
    refine mh_callU 3 [.int 20, .int y3, .int y2] d_PA_term_125 C_PA_72 (c_PA_finish es32) q31 rfl rfl rfl (Nat.le_of_ble_eq_true rfl) (by omega) (by show 8 + (4 + 11) + 24 ≤ Lw + 60; omega) ?_
    cases h
    exact vr_vret d_PA_term_128 rfl ⟨rfl, rfl⟩

def k_PA_term_24 (N : Nat) (p_PA_factor : Nat → Int32 → mh_H → Option (Bool × Int32 × mh_H)) : Nat → Nat → Int32 → Int32 → Int32 → Int32 → mh_H → Option (Bool × Int32 × mh_H)
  | 0, _, _, _, _, _, _ => none
  | n + 1, y0, y1, y2, y3, y4, σ => chk (hT σ y0 = 7) <| rfO (hR σ 3 0 y0) fun b11 => chk (hT σ b11 = 9) <| if (hI σ 4 5 b11) ≤ y4 then (k_PA_term_115 N p_PA_factor y0 y2 y3 y4 σ) else (calI (f_PA_isAt N y0 24 26 σ) fun v13 s13 => if v13 = 0 then (k_PA_term_115 N p_PA_factor y0 y2 y3 y4 s13) else (chk (hT s13 y0 = 7) <| rfO (hR s13 3 0 y0) fun b15 => chk (hT s13 b15 = 9) <| calI (f_TO_kindAt N b15 ((hI s13 3 2 y0)) s13) fun v17 s17 => chk (hT s17 y0 = 7) <| rfO (hR s17 3 0 y0) fun b19 => chk (hT s17 b19 = 9) <| calI (f_TO_placeAt N b19 ((hI s17 3 2 y0)) s17) fun v21 s21 => chk (hT s21 y0 = 7) <| rfO (hR s21 3 1 y0) fun b23 => chk (hT s21 b23 = 3) <| bnd ((hI s21 1 4 b23)) fun v25 => calT (f_PA_take N y0 v17 s21) fun v26 s26 => chk (hT s26 y0 = 7) <| calT (p_PA_factor y0 y1 s26) fun v28 s28 => chk (hT s28 y0 = 7) <| calV (f_PA_finish N y0 (((21 + v17) - 24)) v21 v25 s28) fun s30 => k_PA_term_24 N p_PA_factor n y0 y1 y2 y3 ((y4 + 1)) s30))
theorem q_PA_term_24 {g : mv_G} {N : Nat} {p_PA_factor : Nat → Int32 → mh_H → Option (Bool × Int32 × mh_H)} (hl : (mg_l g).stackTraces = false) {F Lw : Nat} (h_PA_factor : pkV1 g M_PA_factor F Lw p_PA_factor) (hF : 40 ≤ F) (hLw : 1000 ≤ Lw) : ∀ (n : Nat) (y0 : Nat) (y1 : Int32) (y2 : Int32) (y3 : Int32) (y4 : Int32) (σ : mh_H) (r : Bool × Int32 × mh_H), k_PA_term_24 N p_PA_factor n y0 y1 y2 y3 y4 σ = some r → mv_V g M_PA_term (F + 1) (Lw + 60) 0 0 24 [some (.ref y0), some (.int y1), some (.int y2), some (.int y3), some (.int y4), none, none, none] [] σ (pcV r) := by
  intro n
  induction n with
  | zero =>
    intro y0 y1 y2 y3 y4 σ r h
    exact absurd h (by simp [k_PA_term_24])
  | succ n ih =>
    intro y0 y1 y2 y3 y4 σ r h 
    unfold k_PA_term_24 at h
    refine vr_iload d_PA_term_24 rfl ?_
    refine vr_aload_n d_PA_term_26 rfl rfl ?_
    have q10 := (l_chk h).1
    replace h := (l_chk h).2
    obtain ⟨b11, eb11, h⟩ := l_rf h
    refine vr_getR (b := b11) d_PA_term_27 F_PA_15 rfl q10 eb11 ?_
    have q12 := (l_chk h).1
    replace h := (l_chk h).2
    refine vr_getI d_PA_term_30 F_PA_23 rfl q12 ?_
    refine vr_icmp_ge (tgt := 115) d_PA_term_33 (by decide) (fun c33 => ?_) (fun c33 => ?_)
    · replace h := l_ifp c33 h
      exact mv_drop (q_PA_term_115 hl h_PA_factor hF hLw _ _ _ _ _ _ h) (And.intro rfl (And.intro rfl (And.intro rfl (And.intro rfl trivial))))
    · replace h := l_ifn c33 h
      refine vr_aload_n d_PA_term_36 rfl rfl ?_
      refine vr_bipush 24 d_PA_term_37 (by decide) ?_
      refine vr_bipush 26 d_PA_term_39 (by decide) ?_
      obtain ⟨v13, s13, ev13, h⟩ := l_calI h
      refine mh_callI 3 [.int 24, .int 26] d_PA_term_41 C_PA_36 (c_PA_isAt ev13) q10 rfl rfl rfl (Nat.le_of_ble_eq_true rfl) (by omega) (by show 8 + (4 + 11) + 21 ≤ Lw + 60; omega) ?_
      refine vr_if_eq (tgt := 115) d_PA_term_44 (by decide) (fun c44 => ?_) (fun c44 => ?_)
      · replace h := l_ifp c44 h
        exact mv_drop (q_PA_term_115 hl h_PA_factor hF hLw _ _ _ _ _ _ h) (And.intro rfl (And.intro rfl (And.intro rfl (And.intro rfl trivial))))
      · replace h := l_ifn c44 h
        refine vr_aload_n d_PA_term_47 rfl rfl ?_
        have q14 := (l_chk h).1
        replace h := (l_chk h).2
        obtain ⟨b15, eb15, h⟩ := l_rf h
        refine vr_getR (b := b15) d_PA_term_48 F_PA_15 rfl q14 eb15 ?_
        refine vr_aload_n d_PA_term_51 rfl rfl ?_
        refine vr_getI d_PA_term_52 F_PA_9 rfl q14 ?_
        have q16 := (l_chk h).1
        replace h := (l_chk h).2
        obtain ⟨v17, s17, ev17, h⟩ := l_calI h
        refine mh_callI 4 [.int (hI s13 3 2 y0)] d_PA_term_55 C_PA_62 (c_TO_kindAt ev17) q16 rfl rfl rfl (Nat.le_of_ble_eq_true rfl) (by omega) (by show 8 + (2 + 11) + 0 ≤ Lw + 60; omega) ?_
        refine vr_istore (L' := [some (.ref y0), some (.int y1), some (.int y2), some (.int y3), some (.int y4), some (.int v17), none, none]) d_PA_term_58 (by decide) rfl ?_
        refine vr_aload_n d_PA_term_60 rfl rfl ?_
        have q18 := (l_chk h).1
        replace h := (l_chk h).2
        obtain ⟨b19, eb19, h⟩ := l_rf h
        refine vr_getR (b := b19) d_PA_term_61 F_PA_15 rfl q18 eb19 ?_
        refine vr_aload_n d_PA_term_64 rfl rfl ?_
        refine vr_getI d_PA_term_65 F_PA_9 rfl q18 ?_
        have q20 := (l_chk h).1
        replace h := (l_chk h).2
        obtain ⟨v21, s21, ev21, h⟩ := l_calI h
        refine mh_callI 4 [.int (hI s17 3 2 y0)] d_PA_term_68 C_PA_46 (c_TO_placeAt ev21) q20 rfl rfl rfl (Nat.le_of_ble_eq_true rfl) (by omega) (by show 8 + (2 + 11) + 0 ≤ Lw + 60; omega) ?_
        refine vr_istore (L' := [some (.ref y0), some (.int y1), some (.int y2), some (.int y3), some (.int y4), some (.int v17), some (.int v21), none]) d_PA_term_71 (by decide) rfl ?_
        refine vr_aload_n d_PA_term_73 rfl rfl ?_
        have q22 := (l_chk h).1
        replace h := (l_chk h).2
        obtain ⟨b23, eb23, h⟩ := l_rf h
        refine vr_getR (b := b23) d_PA_term_74 F_PA_19 rfl q22 eb23 ?_
        have q24 := (l_chk h).1
        replace h := (l_chk h).2
        refine vr_getI d_PA_term_77 F_PA_43 rfl q24 ?_
        obtain ⟨v25, ev25, h⟩ := l_bnd h
        refine vr_nm ev25 ?_
        refine vr_istore (L' := [some (.ref y0), some (.int y1), some (.int y2), some (.int y3), some (.int y4), some (.int v17), some (.int v21), some (.int v25)]) d_PA_term_80 (by decide) rfl ?_
        refine vr_aload_n d_PA_term_82 rfl rfl ?_
        refine vr_iload d_PA_term_83 rfl ?_
        rcases l_calT h with ⟨v26, s26, ev26, h⟩ | ⟨v26, s26, ev26, hz⟩
        rotate_left
        · cases hz
          exact mh_threw (Qy := fun _ _ => True) 3 [.int v17] d_PA_term_85 C_PA_56 (c_PA_take hl ev26) q22 rfl rfl rfl (Nat.le_of_ble_eq_true rfl) (by omega) (by show 8 + (2 + 11) + 120 ≤ Lw + 60; omega) rfl ⟨rfl, rfl⟩
        refine mh_callU 3 [.int v17] d_PA_term_85 C_PA_56 (c_PA_take hl ev26) q22 rfl rfl rfl (Nat.le_of_ble_eq_true rfl) (by omega) (by show 8 + (2 + 11) + 120 ≤ Lw + 60; omega) ?_
        refine vr_aload_n d_PA_term_88 rfl rfl ?_
        refine vr_iload_n d_PA_term_89 rfl rfl ?_
        have q27 := (l_chk h).1
        replace h := (l_chk h).2
        rcases l_calT h with ⟨v28, s28, ev28, h⟩ | ⟨v28, s28, ev28, hz⟩
        rotate_left
        · cases hz
          exact mh_threw (Qy := fun _ _ => True) 3 [.int y1] d_PA_term_90 C_PA_124 (h_PA_factor _ _ _ _ ev28) q27 rfl rfl rfl (Nat.le_of_ble_eq_true rfl) (by omega) (by show 8 + (4 + 11) + Lw ≤ Lw + 60; omega) rfl ⟨rfl, rfl⟩
        refine mh_callU 3 [.int y1] d_PA_term_90 C_PA_124 (h_PA_factor _ _ _ _ ev28) q27 rfl rfl rfl (Nat.le_of_ble_eq_true rfl) (by omega) (by show 8 + (4 + 11) + Lw ≤ Lw + 60; omega) ?_
        refine vr_aload_n d_PA_term_93 rfl rfl ?_
        refine vr_bipush 21 d_PA_term_94 (by decide) ?_
        refine vr_iload d_PA_term_96 rfl ?_
        refine vr_iadd d_PA_term_98 ?_
        refine vr_bipush 24 d_PA_term_99 (by decide) ?_
        refine vr_isub d_PA_term_101 ?_
        refine vr_iload d_PA_term_102 rfl ?_
        refine vr_iload d_PA_term_104 rfl ?_
        have q29 := (l_chk h).1
        replace h := (l_chk h).2
        obtain ⟨s30, es30, h⟩ := l_calV h
        refine mh_callU 3 [.int ((21 + v17) - 24), .int v21, .int v25] d_PA_term_106 C_PA_72 (c_PA_finish es30) q29 rfl rfl rfl (Nat.le_of_ble_eq_true rfl) (by omega) (by show 8 + (4 + 11) + 24 ≤ Lw + 60; omega) ?_
        refine vr_iinc (L' := [some (.ref y0), some (.int y1), some (.int y2), some (.int y3), some (.int (y4 + 1)), some (.int v17), some (.int v21), some (.int v25)]) (y4 + 1) d_PA_term_109 (by decide) rfl rfl rfl ?_
        refine vr_goto (tgt := 24) d_PA_term_112 (by decide) ?_
        exact mv_drop (ih _ _ _ _ _ _ _ h) (And.intro rfl (And.intro rfl (And.intro rfl (And.intro rfl (And.intro rfl trivial)))))

def f_PA_term (N : Nat) (p_PA_factor : Nat → Int32 → mh_H → Option (Bool × Int32 × mh_H)) (a0 : Nat) (x1 : Int32) (σ : mh_H) : Option (Bool × Int32 × mh_H) := chk (hT σ a0 = 7) <| rfO (hR σ 3 1 a0) fun b2 => chk (hT σ b2 = 3) <| bnd ((hI σ 1 4 b2)) fun v4 => calT (p_PA_factor a0 x1 σ) fun v5 s5 => chk (hT s5 a0 = 7) <| rfO (hR s5 3 1 a0) fun b7 => chk (hT s5 b7 = 3) <| calI (f_DR_lastPlace N b7 s5) fun v9 s9 => k_PA_term_24 N p_PA_factor N a0 x1 v4 v9 0 s9
theorem c_PA_term {g : mv_G} {N : Nat} {p_PA_factor : Nat → Int32 → mh_H → Option (Bool × Int32 × mh_H)} (hl : (mg_l g).stackTraces = false) {F Lw : Nat} (h_PA_factor : pkV1 g M_PA_factor F Lw p_PA_factor) (hF : 40 ≤ F) (hLw : 1000 ≤ Lw) : pkV1 g M_PA_term (F + 1) (Lw + 60) (f_PA_term N p_PA_factor) := by
  intro a0 x1 σ r h
  refine mv_entry (L := [some (.ref a0), some (.int x1), none, none, none, none, none, none]) rfl rfl (Nat.le_of_ble_eq_true rfl) rfl ?_
  unfold f_PA_term at h
  refine vr_aload_n d_PA_term_0 rfl rfl ?_
  have q1 := (l_chk h).1
  replace h := (l_chk h).2
  obtain ⟨b2, eb2, h⟩ := l_rf h
  refine vr_getR (b := b2) d_PA_term_1 F_PA_19 rfl q1 eb2 ?_
  have q3 := (l_chk h).1
  replace h := (l_chk h).2
  refine vr_getI d_PA_term_4 F_PA_43 rfl q3 ?_
  obtain ⟨v4, ev4, h⟩ := l_bnd h
  refine vr_nm ev4 ?_
  refine vr_istore_n (L' := [some (.ref a0), some (.int x1), some (.int v4), none, none, none, none, none]) d_PA_term_7 rfl (by decide) rfl ?_
  refine vr_aload_n d_PA_term_8 rfl rfl ?_
  refine vr_iload_n d_PA_term_9 rfl rfl ?_
  rcases l_calT h with ⟨v5, s5, ev5, h⟩ | ⟨v5, s5, ev5, hz⟩
  rotate_left
  · cases hz
    exact mh_threw (Qy := fun _ _ => True) 3 [.int x1] d_PA_term_10 C_PA_124 (h_PA_factor _ _ _ _ ev5) q1 rfl rfl rfl (Nat.le_of_ble_eq_true rfl) (by omega) (by show 8 + (4 + 11) + Lw ≤ Lw + 60; omega) rfl ⟨rfl, rfl⟩
  refine mh_callU 3 [.int x1] d_PA_term_10 C_PA_124 (h_PA_factor _ _ _ _ ev5) q1 rfl rfl rfl (Nat.le_of_ble_eq_true rfl) (by omega) (by show 8 + (4 + 11) + Lw ≤ Lw + 60; omega) ?_
  refine vr_aload_n d_PA_term_13 rfl rfl ?_
  have q6 := (l_chk h).1
  replace h := (l_chk h).2
  obtain ⟨b7, eb7, h⟩ := l_rf h
  refine vr_getR (b := b7) d_PA_term_14 F_PA_19 rfl q6 eb7 ?_
  have q8 := (l_chk h).1
  replace h := (l_chk h).2
  obtain ⟨v9, s9, ev9, h⟩ := l_calI h
  refine mh_callI 1 [] d_PA_term_17 C_PA_111 (c_DR_lastPlace ev9) q8 rfl rfl rfl (Nat.le_of_ble_eq_true rfl) (by omega) (by show 8 + (1 + 11) + 0 ≤ Lw + 60; omega) ?_
  refine vr_istore_n (L' := [some (.ref a0), some (.int x1), some (.int v4), some (.int v9), none, none, none, none]) d_PA_term_20 rfl (by decide) rfl ?_
  refine vr_iconst 0 d_PA_term_21 (by decide) ?_
  refine vr_istore (L' := [some (.ref a0), some (.int x1), some (.int v4), some (.int v9), some (.int 0), none, none, none]) d_PA_term_22 (by decide) rfl ?_
  exact mv_drop (q_PA_term_24 hl h_PA_factor hF hLw N _ _ _ _ _ _ _ h) (And.intro rfl (And.intro rfl (And.intro rfl (And.intro rfl (And.intro rfl trivial)))))

def k_PA_factor_140 (N : Nat) (p_PA_factor : Nat → Int32 → mh_H → Option (Bool × Int32 × mh_H)) (p_PA_sum : Nat → Int32 → mh_H → Option (Bool × Int32 × mh_H)) (y0 : Nat) (y2 : Int32) (y3 : Int32) (σ : mh_H) : Option (Bool × Int32 × mh_H) := chk (hT σ y0 = 7) <| calV (f_PA_finish N y0 16 y3 y2 σ) fun s51 => some (false, 0, s51)
theorem q_PA_factor_140 {g : mv_G} {N : Nat} {p_PA_factor : Nat → Int32 → mh_H → Option (Bool × Int32 × mh_H)} {p_PA_sum : Nat → Int32 → mh_H → Option (Bool × Int32 × mh_H)} (hl : (mg_l g).stackTraces = false) {F Lw : Nat} (h_PA_factor : pkV1 g M_PA_factor F Lw p_PA_factor) (h_PA_sum : pkV1 g M_PA_sum F Lw p_PA_sum) (hF : 40 ≤ F) (hLw : 1000 ≤ Lw) (y0 : Nat) (y2 : Int32) (y3 : Int32) (σ : mh_H) (r : Bool × Int32 × mh_H) (h : k_PA_factor_140 N p_PA_factor p_PA_sum y0 y2 y3 σ = some r) : mv_V g M_PA_factor (F + 1) (Lw + 60) 0 0 140 [some (.ref y0), none, some (.int y2), some (.int y3)] [] σ (pcV r) := by
  unfold k_PA_factor_140 at h
  refine vr_aload_n d_PA_factor_140 rfl rfl ?_
  refine vr_bipush 16 d_PA_factor_141 (by decide) ?_
  refine vr_iload_n d_PA_factor_143 rfl rfl ?_
  refine vr_iload_n d_PA_factor_144 rfl rfl ?_
  have q50 := (l_chk h).1
  replace h := (l_chk h).2
  obtain ⟨s51, es51, h⟩ := l_calV h
  refine mh_callU 3 [.int 16, .int y3, .int y2] d_PA_factor_145 C_PA_72 (c_PA_finish es51) q50 rfl rfl rfl (Nat.le_of_ble_eq_true rfl) (by omega) (by show 8 + (4 + 11) + 24 ≤ Lw + 60; omega) ?_
  refine vr_goto (tgt := 185) d_PA_factor_148 (by decide) ?_
  cases h
  exact vr_vret d_PA_factor_185 rfl ⟨rfl, rfl⟩

def f_PA_factor (N : Nat) (p_PA_factor : Nat → Int32 → mh_H → Option (Bool × Int32 × mh_H)) (p_PA_sum : Nat → Int32 → mh_H → Option (Bool × Int32 × mh_H)) (a0 : Nat) (x1 : Int32) (σ : mh_H) : Option (Bool × Int32 × mh_H) := chk (hT σ a0 = 7) <| calT (f_PA_limit N a0 x1 σ) fun v2 s2 => chk (hT s2 a0 = 7) <| rfO (hR s2 3 1 a0) fun b4 => chk (hT s2 b4 = 3) <| bnd ((hI s2 1 4 b4)) fun v6 => rfO (hR s2 3 0 a0) fun b7 => chk (hT s2 b7 = 9) <| calI (f_TO_placeAt N b7 ((hI s2 3 2 a0)) s2) fun v9 s9 => chk (hT s9 a0 = 7) <| rfO (hR s9 3 0 a0) fun b11 => chk (hT s9 b11 = 9) <| calI (f_TO_kindAt N b11 ((hI s9 3 2 a0)) s9) fun v13 s13 => if v13 = 3 then (chk (hT s13 a0 = 7) <| calT (f_PA_number N a0 0 s13) fun v49 s49 => some (false, 0, s49)) else (chk (hT s13 a0 = 7) <| calI (f_PA_skip N a0 23 s13) fun v15 s15 => if v15 = 0 then (chk (hT s15 a0 = 7) <| calI (f_PA_skip N a0 12 s15) fun v17 s17 => if v17 = 0 then (chk (hT s17 a0 = 7) <| calI (f_PA_skip N a0 11 s17) fun v19 s19 => if v19 = 0 then (chk (hT s19 a0 = 7) <| calT (f_PA_name N a0 s19) fun v21 s21 => chk (hT s21 a0 = 7) <| calI (f_PA_skip N a0 16 s21) fun v23 s23 => if v23 = 0 then (some (false, 0, s23)) else (chk (hT s23 a0 = 7) <| calT (p_PA_sum a0 ((x1 + 1)) s23) fun v25 s25 => chk (hT s25 a0 = 7) <| calT (f_PA_take N a0 17 s25) fun v27 s27 => chk (hT s27 a0 = 7) <| calV (f_PA_finish N a0 14 v9 v6 s27) fun s29 => some (false, 0, s29))) else (chk (hT s19 a0 = 7) <| calI (f_PA_skip N a0 12 s19) fun v31 s31 => if v31 = 0 then (k_PA_factor_140 N p_PA_factor p_PA_sum a0 v6 v9 s31) else (chk (hT s31 a0 = 7) <| calT (f_PA_number N a0 1 s31) fun v33 s33 => chk (hT s33 a0 = 7) <| calT (f_PA_take N a0 18 s33) fun v35 s35 => chk (hT s35 a0 = 7) <| calT (f_PA_number N a0 1 s35) fun v37 s37 => chk (hT s37 a0 = 7) <| calT (f_PA_take N a0 13 s37) fun v39 s39 => k_PA_factor_140 N p_PA_factor p_PA_sum a0 v6 v9 s39))) else (chk (hT s17 a0 = 7) <| calT (p_PA_sum a0 ((x1 + 1)) s17) fun v41 s41 => chk (hT s41 a0 = 7) <| calT (f_PA_take N a0 13 s41) fun v43 s43 => some (false, 0, s43))) else (chk (hT s15 a0 = 7) <| calT (p_PA_factor a0 ((x1 + 1)) s15) fun v45 s45 => chk (hT s45 a0 = 7) <| calV (f_PA_finish N a0 15 v9 v6 s45) fun s47 => some (false, 0, s47)))
theorem c_PA_factor {g : mv_G} {N : Nat} {p_PA_factor : Nat → Int32 → mh_H → Option (Bool × Int32 × mh_H)} {p_PA_sum : Nat → Int32 → mh_H → Option (Bool × Int32 × mh_H)} (hl : (mg_l g).stackTraces = false) {F Lw : Nat} (h_PA_factor : pkV1 g M_PA_factor F Lw p_PA_factor) (h_PA_sum : pkV1 g M_PA_sum F Lw p_PA_sum) (hF : 40 ≤ F) (hLw : 1000 ≤ Lw) : pkV1 g M_PA_factor (F + 1) (Lw + 60) (f_PA_factor N p_PA_factor p_PA_sum) := by
  intro a0 x1 σ r h
  refine mv_entry (L := [some (.ref a0), some (.int x1), none, none]) rfl rfl (Nat.le_of_ble_eq_true rfl) rfl ?_
  unfold f_PA_factor at h
  refine vr_aload_n d_PA_factor_0 rfl rfl ?_
  refine vr_iload_n d_PA_factor_1 rfl rfl ?_
  have q1 := (l_chk h).1
  replace h := (l_chk h).2
  rcases l_calT h with ⟨v2, s2, ev2, h⟩ | ⟨v2, s2, ev2, hz⟩
  rotate_left
  · cases hz
    exact mh_threw (Qy := fun _ _ => True) 3 [.int x1] d_PA_factor_2 C_PA_76 (c_PA_limit hl ev2) q1 rfl rfl rfl (Nat.le_of_ble_eq_true rfl) (by omega) (by show 8 + (2 + 11) + 120 ≤ Lw + 60; omega) rfl ⟨rfl, rfl⟩
  refine mh_callU 3 [.int x1] d_PA_factor_2 C_PA_76 (c_PA_limit hl ev2) q1 rfl rfl rfl (Nat.le_of_ble_eq_true rfl) (by omega) (by show 8 + (2 + 11) + 120 ≤ Lw + 60; omega) ?_
  refine vr_aload_n d_PA_factor_5 rfl rfl ?_
  have q3 := (l_chk h).1
  replace h := (l_chk h).2
  obtain ⟨b4, eb4, h⟩ := l_rf h
  refine vr_getR (b := b4) d_PA_factor_6 F_PA_19 rfl q3 eb4 ?_
  have q5 := (l_chk h).1
  replace h := (l_chk h).2
  refine vr_getI d_PA_factor_9 F_PA_43 rfl q5 ?_
  obtain ⟨v6, ev6, h⟩ := l_bnd h
  refine vr_nm ev6 ?_
  refine vr_istore_n (L' := [some (.ref a0), some (.int x1), some (.int v6), none]) d_PA_factor_12 rfl (by decide) rfl ?_
  refine vr_aload_n d_PA_factor_13 rfl rfl ?_
  obtain ⟨b7, eb7, h⟩ := l_rf h
  refine vr_getR (b := b7) d_PA_factor_14 F_PA_15 rfl q3 eb7 ?_
  refine vr_aload_n d_PA_factor_17 rfl rfl ?_
  refine vr_getI d_PA_factor_18 F_PA_9 rfl q3 ?_
  have q8 := (l_chk h).1
  replace h := (l_chk h).2
  obtain ⟨v9, s9, ev9, h⟩ := l_calI h
  refine mh_callI 4 [.int (hI s2 3 2 a0)] d_PA_factor_21 C_PA_46 (c_TO_placeAt ev9) q8 rfl rfl rfl (Nat.le_of_ble_eq_true rfl) (by omega) (by show 8 + (2 + 11) + 0 ≤ Lw + 60; omega) ?_
  refine vr_istore_n (L' := [some (.ref a0), some (.int x1), some (.int v6), some (.int v9)]) d_PA_factor_24 rfl (by decide) rfl ?_
  refine vr_aload_n d_PA_factor_25 rfl rfl ?_
  have q10 := (l_chk h).1
  replace h := (l_chk h).2
  obtain ⟨b11, eb11, h⟩ := l_rf h
  refine vr_getR (b := b11) d_PA_factor_26 F_PA_15 rfl q10 eb11 ?_
  refine vr_aload_n d_PA_factor_29 rfl rfl ?_
  refine vr_getI d_PA_factor_30 F_PA_9 rfl q10 ?_
  have q12 := (l_chk h).1
  replace h := (l_chk h).2
  obtain ⟨v13, s13, ev13, h⟩ := l_calI h
  refine mh_callI 4 [.int (hI s9 3 2 a0)] d_PA_factor_33 C_PA_62 (c_TO_kindAt ev13) q12 rfl rfl rfl (Nat.le_of_ble_eq_true rfl) (by omega) (by show 8 + (2 + 11) + 0 ≤ Lw + 60; omega) ?_
  refine vr_iconst 3 d_PA_factor_36 (by decide) ?_
  refine vr_icmp_ne (tgt := 48) d_PA_factor_37 (by decide) (fun c37 => ?_) (fun c37 => ?_)
  · replace h := l_ifn c37 h
    refine vr_aload_n d_PA_factor_48 rfl rfl ?_
    refine vr_bipush 23 d_PA_factor_49 (by decide) ?_
    have q14 := (l_chk h).1
    replace h := (l_chk h).2
    obtain ⟨v15, s15, ev15, h⟩ := l_calI h
    refine mh_callI 3 [.int 23] d_PA_factor_51 C_PA_65 (c_PA_skip ev15) q14 rfl rfl rfl (Nat.le_of_ble_eq_true rfl) (by omega) (by show 8 + (2 + 11) + 21 ≤ Lw + 60; omega) ?_
    refine vr_if_eq (tgt := 75) d_PA_factor_54 (by decide) (fun c54 => ?_) (fun c54 => ?_)
    · replace h := l_ifp c54 h
      refine vr_aload_n d_PA_factor_75 rfl rfl ?_
      refine vr_bipush 12 d_PA_factor_76 (by decide) ?_
      have q16 := (l_chk h).1
      replace h := (l_chk h).2
      obtain ⟨v17, s17, ev17, h⟩ := l_calI h
      refine mh_callI 3 [.int 12] d_PA_factor_78 C_PA_65 (c_PA_skip ev17) q16 rfl rfl rfl (Nat.le_of_ble_eq_true rfl) (by omega) (by show 8 + (2 + 11) + 21 ≤ Lw + 60; omega) ?_
      refine vr_if_eq (tgt := 100) d_PA_factor_81 (by decide) (fun c81 => ?_) (fun c81 => ?_)
      · replace h := l_ifp c81 h
        refine vr_aload_n d_PA_factor_100 rfl rfl ?_
        refine vr_bipush 11 d_PA_factor_101 (by decide) ?_
        have q18 := (l_chk h).1
        replace h := (l_chk h).2
        obtain ⟨v19, s19, ev19, h⟩ := l_calI h
        refine mh_callI 3 [.int 11] d_PA_factor_103 C_PA_65 (c_PA_skip ev19) q18 rfl rfl rfl (Nat.le_of_ble_eq_true rfl) (by omega) (by show 8 + (2 + 11) + 21 ≤ Lw + 60; omega) ?_
        refine vr_if_eq (tgt := 151) d_PA_factor_106 (by decide) (fun c106 => ?_) (fun c106 => ?_)
        · replace h := l_ifp c106 h
          refine vr_aload_n d_PA_factor_151 rfl rfl ?_
          have q20 := (l_chk h).1
          replace h := (l_chk h).2
          rcases l_calT h with ⟨v21, s21, ev21, h⟩ | ⟨v21, s21, ev21, hz⟩
          rotate_left
          · cases hz
            exact mh_threw (Qy := fun _ _ => True) 3 [] d_PA_factor_152 C_PA_59 (c_PA_name hl ev21) q20 rfl rfl rfl (Nat.le_of_ble_eq_true rfl) (by omega) (by show 8 + (1 + 11) + 120 ≤ Lw + 60; omega) rfl ⟨rfl, rfl⟩
          refine mh_callU 3 [] d_PA_factor_152 C_PA_59 (c_PA_name hl ev21) q20 rfl rfl rfl (Nat.le_of_ble_eq_true rfl) (by omega) (by show 8 + (1 + 11) + 120 ≤ Lw + 60; omega) ?_
          refine vr_aload_n d_PA_factor_155 rfl rfl ?_
          refine vr_bipush 16 d_PA_factor_156 (by decide) ?_
          have q22 := (l_chk h).1
          replace h := (l_chk h).2
          obtain ⟨v23, s23, ev23, h⟩ := l_calI h
          refine mh_callI 3 [.int 16] d_PA_factor_158 C_PA_65 (c_PA_skip ev23) q22 rfl rfl rfl (Nat.le_of_ble_eq_true rfl) (by omega) (by show 8 + (2 + 11) + 21 ≤ Lw + 60; omega) ?_
          refine vr_if_eq (tgt := 185) d_PA_factor_161 (by decide) (fun c161 => ?_) (fun c161 => ?_)
          · replace h := l_ifp c161 h
            cases h
            exact vr_vret d_PA_factor_185 rfl ⟨rfl, rfl⟩
          · replace h := l_ifn c161 h
            refine vr_aload_n d_PA_factor_164 rfl rfl ?_
            refine vr_iload_n d_PA_factor_165 rfl rfl ?_
            refine vr_iconst 1 d_PA_factor_166 (by decide) ?_
            refine vr_iadd d_PA_factor_167 ?_
            have q24 := (l_chk h).1
            replace h := (l_chk h).2
            rcases l_calT h with ⟨v25, s25, ev25, h⟩ | ⟨v25, s25, ev25, hz⟩
            rotate_left
            · cases hz
              exact mh_threw (Qy := fun _ _ => True) 3 [.int (x1 + 1)] d_PA_factor_168 C_PA_98 (h_PA_sum _ _ _ _ ev25) q24 rfl rfl rfl (Nat.le_of_ble_eq_true rfl) (by omega) (by show 8 + (8 + 11) + Lw ≤ Lw + 60; omega) rfl ⟨rfl, rfl⟩
            refine mh_callU 3 [.int (x1 + 1)] d_PA_factor_168 C_PA_98 (h_PA_sum _ _ _ _ ev25) q24 rfl rfl rfl (Nat.le_of_ble_eq_true rfl) (by omega) (by show 8 + (8 + 11) + Lw ≤ Lw + 60; omega) ?_
            refine vr_aload_n d_PA_factor_171 rfl rfl ?_
            refine vr_bipush 17 d_PA_factor_172 (by decide) ?_
            have q26 := (l_chk h).1
            replace h := (l_chk h).2
            rcases l_calT h with ⟨v27, s27, ev27, h⟩ | ⟨v27, s27, ev27, hz⟩
            rotate_left
            · cases hz
              exact mh_threw (Qy := fun _ _ => True) 3 [.int 17] d_PA_factor_174 C_PA_56 (c_PA_take hl ev27) q26 rfl rfl rfl (Nat.le_of_ble_eq_true rfl) (by omega) (by show 8 + (2 + 11) + 120 ≤ Lw + 60; omega) rfl ⟨rfl, rfl⟩
            refine mh_callU 3 [.int 17] d_PA_factor_174 C_PA_56 (c_PA_take hl ev27) q26 rfl rfl rfl (Nat.le_of_ble_eq_true rfl) (by omega) (by show 8 + (2 + 11) + 120 ≤ Lw + 60; omega) ?_
            refine vr_aload_n d_PA_factor_177 rfl rfl ?_
            refine vr_bipush 14 d_PA_factor_178 (by decide) ?_
            refine vr_iload_n d_PA_factor_180 rfl rfl ?_
            refine vr_iload_n d_PA_factor_181 rfl rfl ?_
            have q28 := (l_chk h).1
            replace h := (l_chk h).2
            obtain ⟨s29, es29, h⟩ := l_calV h
            refine mh_callU 3 [.int 14, .int v9, .int v6] d_PA_factor_182 C_PA_72 (c_PA_finish es29) q28 rfl rfl rfl (Nat.le_of_ble_eq_true rfl) (by omega) (by show 8 + (4 + 11) + 24 ≤ Lw + 60; omega) ?_
            cases h
            exact vr_vret d_PA_factor_185 rfl ⟨rfl, rfl⟩
        · replace h := l_ifn c106 h
          refine vr_aload_n d_PA_factor_109 rfl rfl ?_
          refine vr_bipush 12 d_PA_factor_110 (by decide) ?_
          have q30 := (l_chk h).1
          replace h := (l_chk h).2
          obtain ⟨v31, s31, ev31, h⟩ := l_calI h
          refine mh_callI 3 [.int 12] d_PA_factor_112 C_PA_65 (c_PA_skip ev31) q30 rfl rfl rfl (Nat.le_of_ble_eq_true rfl) (by omega) (by show 8 + (2 + 11) + 21 ≤ Lw + 60; omega) ?_
          refine vr_if_eq (tgt := 140) d_PA_factor_115 (by decide) (fun c115 => ?_) (fun c115 => ?_)
          · replace h := l_ifp c115 h
            exact mv_drop (q_PA_factor_140 hl h_PA_factor h_PA_sum hF hLw _ _ _ _ _ h) (And.intro rfl (And.intro rfl (And.intro rfl trivial)))
          · replace h := l_ifn c115 h
            refine vr_aload_n d_PA_factor_118 rfl rfl ?_
            refine vr_iconst 1 d_PA_factor_119 (by decide) ?_
            have q32 := (l_chk h).1
            replace h := (l_chk h).2
            rcases l_calT h with ⟨v33, s33, ev33, h⟩ | ⟨v33, s33, ev33, hz⟩
            rotate_left
            · cases hz
              exact mh_threw (Qy := fun _ _ => True) 3 [.int 1] d_PA_factor_120 C_PA_101 (c_PA_number hl ev33) q32 rfl rfl rfl (Nat.le_of_ble_eq_true rfl) (by omega) (by show 8 + (4 + 11) + 120 ≤ Lw + 60; omega) rfl ⟨rfl, rfl⟩
            refine mh_callU 3 [.int 1] d_PA_factor_120 C_PA_101 (c_PA_number hl ev33) q32 rfl rfl rfl (Nat.le_of_ble_eq_true rfl) (by omega) (by show 8 + (4 + 11) + 120 ≤ Lw + 60; omega) ?_
            refine vr_aload_n d_PA_factor_123 rfl rfl ?_
            refine vr_bipush 18 d_PA_factor_124 (by decide) ?_
            have q34 := (l_chk h).1
            replace h := (l_chk h).2
            rcases l_calT h with ⟨v35, s35, ev35, h⟩ | ⟨v35, s35, ev35, hz⟩
            rotate_left
            · cases hz
              exact mh_threw (Qy := fun _ _ => True) 3 [.int 18] d_PA_factor_126 C_PA_56 (c_PA_take hl ev35) q34 rfl rfl rfl (Nat.le_of_ble_eq_true rfl) (by omega) (by show 8 + (2 + 11) + 120 ≤ Lw + 60; omega) rfl ⟨rfl, rfl⟩
            refine mh_callU 3 [.int 18] d_PA_factor_126 C_PA_56 (c_PA_take hl ev35) q34 rfl rfl rfl (Nat.le_of_ble_eq_true rfl) (by omega) (by show 8 + (2 + 11) + 120 ≤ Lw + 60; omega) ?_
            refine vr_aload_n d_PA_factor_129 rfl rfl ?_
            refine vr_iconst 1 d_PA_factor_130 (by decide) ?_
            have q36 := (l_chk h).1
            replace h := (l_chk h).2
            rcases l_calT h with ⟨v37, s37, ev37, h⟩ | ⟨v37, s37, ev37, hz⟩
            rotate_left
            · cases hz
              exact mh_threw (Qy := fun _ _ => True) 3 [.int 1] d_PA_factor_131 C_PA_101 (c_PA_number hl ev37) q36 rfl rfl rfl (Nat.le_of_ble_eq_true rfl) (by omega) (by show 8 + (4 + 11) + 120 ≤ Lw + 60; omega) rfl ⟨rfl, rfl⟩
            refine mh_callU 3 [.int 1] d_PA_factor_131 C_PA_101 (c_PA_number hl ev37) q36 rfl rfl rfl (Nat.le_of_ble_eq_true rfl) (by omega) (by show 8 + (4 + 11) + 120 ≤ Lw + 60; omega) ?_
            refine vr_aload_n d_PA_factor_134 rfl rfl ?_
            refine vr_bipush 13 d_PA_factor_135 (by decide) ?_
            have q38 := (l_chk h).1
            replace h := (l_chk h).2
            rcases l_calT h with ⟨v39, s39, ev39, h⟩ | ⟨v39, s39, ev39, hz⟩
            rotate_left
            · cases hz
              exact mh_threw (Qy := fun _ _ => True) 3 [.int 13] d_PA_factor_137 C_PA_56 (c_PA_take hl ev39) q38 rfl rfl rfl (Nat.le_of_ble_eq_true rfl) (by omega) (by show 8 + (2 + 11) + 120 ≤ Lw + 60; omega) rfl ⟨rfl, rfl⟩
            refine mh_callU 3 [.int 13] d_PA_factor_137 C_PA_56 (c_PA_take hl ev39) q38 rfl rfl rfl (Nat.le_of_ble_eq_true rfl) (by omega) (by show 8 + (2 + 11) + 120 ≤ Lw + 60; omega) ?_
            exact mv_drop (q_PA_factor_140 hl h_PA_factor h_PA_sum hF hLw _ _ _ _ _ h) (And.intro rfl (And.intro rfl (And.intro rfl trivial)))
      · replace h := l_ifn c81 h
        refine vr_aload_n d_PA_factor_84 rfl rfl ?_
        refine vr_iload_n d_PA_factor_85 rfl rfl ?_
        refine vr_iconst 1 d_PA_factor_86 (by decide) ?_
        refine vr_iadd d_PA_factor_87 ?_
        have q40 := (l_chk h).1
        replace h := (l_chk h).2
        rcases l_calT h with ⟨v41, s41, ev41, h⟩ | ⟨v41, s41, ev41, hz⟩
        rotate_left
        · cases hz
          exact mh_threw (Qy := fun _ _ => True) 3 [.int (x1 + 1)] d_PA_factor_88 C_PA_98 (h_PA_sum _ _ _ _ ev41) q40 rfl rfl rfl (Nat.le_of_ble_eq_true rfl) (by omega) (by show 8 + (8 + 11) + Lw ≤ Lw + 60; omega) rfl ⟨rfl, rfl⟩
        refine mh_callU 3 [.int (x1 + 1)] d_PA_factor_88 C_PA_98 (h_PA_sum _ _ _ _ ev41) q40 rfl rfl rfl (Nat.le_of_ble_eq_true rfl) (by omega) (by show 8 + (8 + 11) + Lw ≤ Lw + 60; omega) ?_
        refine vr_aload_n d_PA_factor_91 rfl rfl ?_
        refine vr_bipush 13 d_PA_factor_92 (by decide) ?_
        have q42 := (l_chk h).1
        replace h := (l_chk h).2
        rcases l_calT h with ⟨v43, s43, ev43, h⟩ | ⟨v43, s43, ev43, hz⟩
        rotate_left
        · cases hz
          exact mh_threw (Qy := fun _ _ => True) 3 [.int 13] d_PA_factor_94 C_PA_56 (c_PA_take hl ev43) q42 rfl rfl rfl (Nat.le_of_ble_eq_true rfl) (by omega) (by show 8 + (2 + 11) + 120 ≤ Lw + 60; omega) rfl ⟨rfl, rfl⟩
        refine mh_callU 3 [.int 13] d_PA_factor_94 C_PA_56 (c_PA_take hl ev43) q42 rfl rfl rfl (Nat.le_of_ble_eq_true rfl) (by omega) (by show 8 + (2 + 11) + 120 ≤ Lw + 60; omega) ?_
        refine vr_goto (tgt := 185) d_PA_factor_97 (by decide) ?_
        cases h
        exact vr_vret d_PA_factor_185 rfl ⟨rfl, rfl⟩
    · replace h := l_ifn c54 h
      refine vr_aload_n d_PA_factor_57 rfl rfl ?_
      refine vr_iload_n d_PA_factor_58 rfl rfl ?_
      refine vr_iconst 1 d_PA_factor_59 (by decide) ?_
      refine vr_iadd d_PA_factor_60 ?_
      have q44 := (l_chk h).1
      replace h := (l_chk h).2
      rcases l_calT h with ⟨v45, s45, ev45, h⟩ | ⟨v45, s45, ev45, hz⟩
      rotate_left
      · cases hz
        exact mh_threw (Qy := fun _ _ => True) 3 [.int (x1 + 1)] d_PA_factor_61 C_PA_124 (h_PA_factor _ _ _ _ ev45) q44 rfl rfl rfl (Nat.le_of_ble_eq_true rfl) (by omega) (by show 8 + (4 + 11) + Lw ≤ Lw + 60; omega) rfl ⟨rfl, rfl⟩
      refine mh_callU 3 [.int (x1 + 1)] d_PA_factor_61 C_PA_124 (h_PA_factor _ _ _ _ ev45) q44 rfl rfl rfl (Nat.le_of_ble_eq_true rfl) (by omega) (by show 8 + (4 + 11) + Lw ≤ Lw + 60; omega) ?_
      refine vr_aload_n d_PA_factor_64 rfl rfl ?_
      refine vr_bipush 15 d_PA_factor_65 (by decide) ?_
      refine vr_iload_n d_PA_factor_67 rfl rfl ?_
      refine vr_iload_n d_PA_factor_68 rfl rfl ?_
      have q46 := (l_chk h).1
      replace h := (l_chk h).2
      obtain ⟨s47, es47, h⟩ := l_calV h
      refine mh_callU 3 [.int 15, .int v9, .int v6] d_PA_factor_69 C_PA_72 (c_PA_finish es47) q46 rfl rfl rfl (Nat.le_of_ble_eq_true rfl) (by omega) (by show 8 + (4 + 11) + 24 ≤ Lw + 60; omega) ?_
      refine vr_goto (tgt := 185) d_PA_factor_72 (by decide) ?_
      cases h
      exact vr_vret d_PA_factor_185 rfl ⟨rfl, rfl⟩
  · replace h := l_ifp c37 h
    refine vr_aload_n d_PA_factor_40 rfl rfl ?_
    refine vr_iconst 0 d_PA_factor_41 (by decide) ?_
    have q48 := (l_chk h).1
    replace h := (l_chk h).2
    rcases l_calT h with ⟨v49, s49, ev49, h⟩ | ⟨v49, s49, ev49, hz⟩
    rotate_left
    · cases hz
      exact mh_threw (Qy := fun _ _ => True) 3 [.int 0] d_PA_factor_42 C_PA_101 (c_PA_number hl ev49) q48 rfl rfl rfl (Nat.le_of_ble_eq_true rfl) (by omega) (by show 8 + (4 + 11) + 120 ≤ Lw + 60; omega) rfl ⟨rfl, rfl⟩
    refine mh_callU 3 [.int 0] d_PA_factor_42 C_PA_101 (c_PA_number hl ev49) q48 rfl rfl rfl (Nat.le_of_ble_eq_true rfl) (by omega) (by show 8 + (4 + 11) + 120 ≤ Lw + 60; omega) ?_
    refine vr_goto (tgt := 185) d_PA_factor_45 (by decide) ?_
    cases h
    exact vr_vret d_PA_factor_185 rfl ⟨rfl, rfl⟩

def k_PA_function_86 (N : Nat) (p_PA_block : Nat → Int32 → mh_H → Option (Bool × Int32 × mh_H)) (y0 : Nat) (y1 : Int32) (y2 : Int32) (σ : mh_H) : Option (Bool × Int32 × mh_H) := chk (hT σ y0 = 7) <| calT (f_PA_take N y0 13 σ) fun v21 s21 => chk (hT s21 y0 = 7) <| calT (p_PA_block y0 1 s21) fun v23 s23 => chk (hT s23 y0 = 7) <| calV (f_PA_finish N y0 1 y2 y1 s23) fun s25 => some (false, 0, s25)
theorem q_PA_function_86 {g : mv_G} {N : Nat} {p_PA_block : Nat → Int32 → mh_H → Option (Bool × Int32 × mh_H)} (hl : (mg_l g).stackTraces = false) {F Lw : Nat} (h_PA_block : pkV1 g M_PA_block F Lw p_PA_block) (hF : 40 ≤ F) (hLw : 1000 ≤ Lw) (y0 : Nat) (y1 : Int32) (y2 : Int32) (σ : mh_H) (r : Bool × Int32 × mh_H) (h : k_PA_function_86 N p_PA_block y0 y1 y2 σ = some r) : mv_V g M_PA_function (F + 1) (Lw + 60) 0 0 86 [some (.ref y0), some (.int y1), some (.int y2), none] [] σ (pcV r) := by
  unfold k_PA_function_86 at h
  refine vr_aload_n d_PA_function_86 rfl rfl ?_
  refine vr_bipush 13 d_PA_function_87 (by decide) ?_
  have q20 := (l_chk h).1
  replace h := (l_chk h).2
  rcases l_calT h with ⟨v21, s21, ev21, h⟩ | ⟨v21, s21, ev21, hz⟩
  rotate_left
  · cases hz
    exact mh_threw (Qy := fun _ _ => True) 3 [.int 13] d_PA_function_89 C_PA_56 (c_PA_take hl ev21) q20 rfl rfl rfl (Nat.le_of_ble_eq_true rfl) (by omega) (by show 8 + (2 + 11) + 120 ≤ Lw + 60; omega) rfl ⟨rfl, rfl⟩
  refine mh_callU 3 [.int 13] d_PA_function_89 C_PA_56 (c_PA_take hl ev21) q20 rfl rfl rfl (Nat.le_of_ble_eq_true rfl) (by omega) (by show 8 + (2 + 11) + 120 ≤ Lw + 60; omega) ?_
  refine vr_aload_n d_PA_function_92 rfl rfl ?_
  refine vr_iconst 1 d_PA_function_93 (by decide) ?_
  have q22 := (l_chk h).1
  replace h := (l_chk h).2
  rcases l_calT h with ⟨v23, s23, ev23, h⟩ | ⟨v23, s23, ev23, hz⟩
  rotate_left
  · cases hz
    exact mh_threw (Qy := fun _ _ => True) 3 [.int 1] d_PA_function_94 C_PA_69 (h_PA_block _ _ _ _ ev23) q22 rfl rfl rfl (Nat.le_of_ble_eq_true rfl) (by omega) (by show 8 + (5 + 11) + Lw ≤ Lw + 60; omega) rfl ⟨rfl, rfl⟩
  refine mh_callU 3 [.int 1] d_PA_function_94 C_PA_69 (h_PA_block _ _ _ _ ev23) q22 rfl rfl rfl (Nat.le_of_ble_eq_true rfl) (by omega) (by show 8 + (5 + 11) + Lw ≤ Lw + 60; omega) ?_
  refine vr_aload_n d_PA_function_97 rfl rfl ?_
  refine vr_iconst 1 d_PA_function_98 (by decide) ?_
  refine vr_iload_n d_PA_function_99 rfl rfl ?_
  refine vr_iload_n d_PA_function_100 rfl rfl ?_
  have q24 := (l_chk h).1
  replace h := (l_chk h).2
  obtain ⟨s25, es25, h⟩ := l_calV h
  refine mh_callU 3 [.int 1, .int y2, .int y1] d_PA_function_101 C_PA_72 (c_PA_finish es25) q24 rfl rfl rfl (Nat.le_of_ble_eq_true rfl) (by omega) (by show 8 + (4 + 11) + 24 ≤ Lw + 60; omega) ?_
  cases h
  exact vr_vret d_PA_function_104 rfl ⟨rfl, rfl⟩

def k_PA_function_56 (N : Nat) (p_PA_block : Nat → Int32 → mh_H → Option (Bool × Int32 × mh_H)) : Nat → Nat → Int32 → Int32 → Int32 → mh_H → Option (Bool × Int32 × mh_H)
  | 0, _, _, _, _, _ => none
  | n + 1, y0, y1, y2, y3, σ => chk (hT σ y0 = 7) <| rfO (hR σ 3 0 y0) fun b27 => chk (hT σ b27 = 9) <| if (hI σ 4 5 b27) ≤ y3 then (k_PA_function_86 N p_PA_block y0 y1 y2 σ) else (calI (f_PA_skip N y0 18 σ) fun v29 s29 => if v29 = 0 then (k_PA_function_86 N p_PA_block y0 y1 y2 s29) else (chk (hT s29 y0 = 7) <| calT (f_PA_name N y0 s29) fun v31 s31 => k_PA_function_56 N p_PA_block n y0 y1 y2 ((y3 + 1)) s31))
theorem q_PA_function_56 {g : mv_G} {N : Nat} {p_PA_block : Nat → Int32 → mh_H → Option (Bool × Int32 × mh_H)} (hl : (mg_l g).stackTraces = false) {F Lw : Nat} (h_PA_block : pkV1 g M_PA_block F Lw p_PA_block) (hF : 40 ≤ F) (hLw : 1000 ≤ Lw) : ∀ (n : Nat) (y0 : Nat) (y1 : Int32) (y2 : Int32) (y3 : Int32) (σ : mh_H) (r : Bool × Int32 × mh_H), k_PA_function_56 N p_PA_block n y0 y1 y2 y3 σ = some r → mv_V g M_PA_function (F + 1) (Lw + 60) 0 0 56 [some (.ref y0), some (.int y1), some (.int y2), some (.int y3)] [] σ (pcV r) := by
  intro n
  induction n with
  | zero =>
    intro y0 y1 y2 y3 σ r h
    exact absurd h (by simp [k_PA_function_56])
  | succ n ih =>
    intro y0 y1 y2 y3 σ r h 
    unfold k_PA_function_56 at h
    refine vr_iload_n d_PA_function_56 rfl rfl ?_
    refine vr_aload_n d_PA_function_57 rfl rfl ?_
    have q26 := (l_chk h).1
    replace h := (l_chk h).2
    obtain ⟨b27, eb27, h⟩ := l_rf h
    refine vr_getR (b := b27) d_PA_function_58 F_PA_15 rfl q26 eb27 ?_
    have q28 := (l_chk h).1
    replace h := (l_chk h).2
    refine vr_getI d_PA_function_61 F_PA_23 rfl q28 ?_
    refine vr_icmp_ge (tgt := 86) d_PA_function_64 (by decide) (fun c64 => ?_) (fun c64 => ?_)
    · replace h := l_ifp c64 h
      exact mv_drop (q_PA_function_86 hl h_PA_block hF hLw _ _ _ _ _ h) (And.intro rfl (And.intro rfl (And.intro rfl trivial)))
    · replace h := l_ifn c64 h
      refine vr_aload_n d_PA_function_67 rfl rfl ?_
      refine vr_bipush 18 d_PA_function_68 (by decide) ?_
      obtain ⟨v29, s29, ev29, h⟩ := l_calI h
      refine mh_callI 3 [.int 18] d_PA_function_70 C_PA_65 (c_PA_skip ev29) q26 rfl rfl rfl (Nat.le_of_ble_eq_true rfl) (by omega) (by show 8 + (2 + 11) + 21 ≤ Lw + 60; omega) ?_
      refine vr_if_eq (tgt := 86) d_PA_function_73 (by decide) (fun c73 => ?_) (fun c73 => ?_)
      · replace h := l_ifp c73 h
        exact mv_drop (q_PA_function_86 hl h_PA_block hF hLw _ _ _ _ _ h) (And.intro rfl (And.intro rfl (And.intro rfl trivial)))
      · replace h := l_ifn c73 h
        refine vr_aload_n d_PA_function_76 rfl rfl ?_
        have q30 := (l_chk h).1
        replace h := (l_chk h).2
        rcases l_calT h with ⟨v31, s31, ev31, h⟩ | ⟨v31, s31, ev31, hz⟩
        rotate_left
        · cases hz
          exact mh_threw (Qy := fun _ _ => True) 3 [] d_PA_function_77 C_PA_59 (c_PA_name hl ev31) q30 rfl rfl rfl (Nat.le_of_ble_eq_true rfl) (by omega) (by show 8 + (1 + 11) + 120 ≤ Lw + 60; omega) rfl ⟨rfl, rfl⟩
        refine mh_callU 3 [] d_PA_function_77 C_PA_59 (c_PA_name hl ev31) q30 rfl rfl rfl (Nat.le_of_ble_eq_true rfl) (by omega) (by show 8 + (1 + 11) + 120 ≤ Lw + 60; omega) ?_
        refine vr_iinc (L' := [some (.ref y0), some (.int y1), some (.int y2), some (.int (y3 + 1))]) (y3 + 1) d_PA_function_80 (by decide) rfl rfl rfl ?_
        refine vr_goto (tgt := 56) d_PA_function_83 (by decide) ?_
        exact mv_drop (ih _ _ _ _ _ _ h) (And.intro rfl (And.intro rfl (And.intro rfl (And.intro rfl trivial))))

def f_PA_function (N : Nat) (p_PA_block : Nat → Int32 → mh_H → Option (Bool × Int32 × mh_H)) (a0 : Nat) (σ : mh_H) : Option (Bool × Int32 × mh_H) := chk (hT σ a0 = 7) <| rfO (hR σ 3 1 a0) fun b2 => chk (hT σ b2 = 3) <| bnd ((hI σ 1 4 b2)) fun v4 => rfO (hR σ 3 0 a0) fun b5 => chk (hT σ b5 = 9) <| calI (f_TO_placeAt N b5 ((hI σ 3 2 a0)) σ) fun v7 s7 => chk (hT s7 a0 = 7) <| calT (f_PA_take N a0 4 s7) fun v9 s9 => chk (hT s9 a0 = 7) <| calT (f_PA_name N a0 s9) fun v11 s11 => chk (hT s11 a0 = 7) <| calT (f_PA_take N a0 12 s11) fun v13 s13 => chk (hT s13 a0 = 7) <| rfO (hR s13 3 0 a0) fun b15 => chk (hT s13 b15 = 9) <| calI (f_TO_kindAt N b15 ((hI s13 3 2 a0)) s13) fun v17 s17 => if v17 = 2 then (chk (hT s17 a0 = 7) <| calT (f_PA_name N a0 s17) fun v19 s19 => k_PA_function_56 N p_PA_block N a0 v4 v7 0 s19) else (k_PA_function_86 N p_PA_block a0 v4 v7 s17)
theorem c_PA_function {g : mv_G} {N : Nat} {p_PA_block : Nat → Int32 → mh_H → Option (Bool × Int32 × mh_H)} (hl : (mg_l g).stackTraces = false) {F Lw : Nat} (h_PA_block : pkV1 g M_PA_block F Lw p_PA_block) (hF : 40 ≤ F) (hLw : 1000 ≤ Lw) : pkV0 g M_PA_function (F + 1) (Lw + 60) (f_PA_function N p_PA_block) := by
  intro a0 σ r h
  refine mv_entry (L := [some (.ref a0), none, none, none]) rfl rfl (Nat.le_of_ble_eq_true rfl) rfl ?_
  unfold f_PA_function at h
  refine vr_aload_n d_PA_function_0 rfl rfl ?_
  have q1 := (l_chk h).1
  replace h := (l_chk h).2
  obtain ⟨b2, eb2, h⟩ := l_rf h
  refine vr_getR (b := b2) d_PA_function_1 F_PA_19 rfl q1 eb2 ?_
  have q3 := (l_chk h).1
  replace h := (l_chk h).2
  refine vr_getI d_PA_function_4 F_PA_43 rfl q3 ?_
  obtain ⟨v4, ev4, h⟩ := l_bnd h
  refine vr_nm ev4 ?_
  refine vr_istore_n (L' := [some (.ref a0), some (.int v4), none, none]) d_PA_function_7 rfl (by decide) rfl ?_
  refine vr_aload_n d_PA_function_8 rfl rfl ?_
  obtain ⟨b5, eb5, h⟩ := l_rf h
  refine vr_getR (b := b5) d_PA_function_9 F_PA_15 rfl q1 eb5 ?_
  refine vr_aload_n d_PA_function_12 rfl rfl ?_
  refine vr_getI d_PA_function_13 F_PA_9 rfl q1 ?_
  have q6 := (l_chk h).1
  replace h := (l_chk h).2
  obtain ⟨v7, s7, ev7, h⟩ := l_calI h
  refine mh_callI 4 [.int (hI σ 3 2 a0)] d_PA_function_16 C_PA_46 (c_TO_placeAt ev7) q6 rfl rfl rfl (Nat.le_of_ble_eq_true rfl) (by omega) (by show 8 + (2 + 11) + 0 ≤ Lw + 60; omega) ?_
  refine vr_istore_n (L' := [some (.ref a0), some (.int v4), some (.int v7), none]) d_PA_function_19 rfl (by decide) rfl ?_
  refine vr_aload_n d_PA_function_20 rfl rfl ?_
  refine vr_iconst 4 d_PA_function_21 (by decide) ?_
  have q8 := (l_chk h).1
  replace h := (l_chk h).2
  rcases l_calT h with ⟨v9, s9, ev9, h⟩ | ⟨v9, s9, ev9, hz⟩
  rotate_left
  · cases hz
    exact mh_threw (Qy := fun _ _ => True) 3 [.int 4] d_PA_function_22 C_PA_56 (c_PA_take hl ev9) q8 rfl rfl rfl (Nat.le_of_ble_eq_true rfl) (by omega) (by show 8 + (2 + 11) + 120 ≤ Lw + 60; omega) rfl ⟨rfl, rfl⟩
  refine mh_callU 3 [.int 4] d_PA_function_22 C_PA_56 (c_PA_take hl ev9) q8 rfl rfl rfl (Nat.le_of_ble_eq_true rfl) (by omega) (by show 8 + (2 + 11) + 120 ≤ Lw + 60; omega) ?_
  refine vr_aload_n d_PA_function_25 rfl rfl ?_
  have q10 := (l_chk h).1
  replace h := (l_chk h).2
  rcases l_calT h with ⟨v11, s11, ev11, h⟩ | ⟨v11, s11, ev11, hz⟩
  rotate_left
  · cases hz
    exact mh_threw (Qy := fun _ _ => True) 3 [] d_PA_function_26 C_PA_59 (c_PA_name hl ev11) q10 rfl rfl rfl (Nat.le_of_ble_eq_true rfl) (by omega) (by show 8 + (1 + 11) + 120 ≤ Lw + 60; omega) rfl ⟨rfl, rfl⟩
  refine mh_callU 3 [] d_PA_function_26 C_PA_59 (c_PA_name hl ev11) q10 rfl rfl rfl (Nat.le_of_ble_eq_true rfl) (by omega) (by show 8 + (1 + 11) + 120 ≤ Lw + 60; omega) ?_
  refine vr_aload_n d_PA_function_29 rfl rfl ?_
  refine vr_bipush 12 d_PA_function_30 (by decide) ?_
  have q12 := (l_chk h).1
  replace h := (l_chk h).2
  rcases l_calT h with ⟨v13, s13, ev13, h⟩ | ⟨v13, s13, ev13, hz⟩
  rotate_left
  · cases hz
    exact mh_threw (Qy := fun _ _ => True) 3 [.int 12] d_PA_function_32 C_PA_56 (c_PA_take hl ev13) q12 rfl rfl rfl (Nat.le_of_ble_eq_true rfl) (by omega) (by show 8 + (2 + 11) + 120 ≤ Lw + 60; omega) rfl ⟨rfl, rfl⟩
  refine mh_callU 3 [.int 12] d_PA_function_32 C_PA_56 (c_PA_take hl ev13) q12 rfl rfl rfl (Nat.le_of_ble_eq_true rfl) (by omega) (by show 8 + (2 + 11) + 120 ≤ Lw + 60; omega) ?_
  refine vr_aload_n d_PA_function_35 rfl rfl ?_
  have q14 := (l_chk h).1
  replace h := (l_chk h).2
  obtain ⟨b15, eb15, h⟩ := l_rf h
  refine vr_getR (b := b15) d_PA_function_36 F_PA_15 rfl q14 eb15 ?_
  refine vr_aload_n d_PA_function_39 rfl rfl ?_
  refine vr_getI d_PA_function_40 F_PA_9 rfl q14 ?_
  have q16 := (l_chk h).1
  replace h := (l_chk h).2
  obtain ⟨v17, s17, ev17, h⟩ := l_calI h
  refine mh_callI 4 [.int (hI s13 3 2 a0)] d_PA_function_43 C_PA_62 (c_TO_kindAt ev17) q16 rfl rfl rfl (Nat.le_of_ble_eq_true rfl) (by omega) (by show 8 + (2 + 11) + 0 ≤ Lw + 60; omega) ?_
  refine vr_iconst 2 d_PA_function_46 (by decide) ?_
  refine vr_icmp_ne (tgt := 86) d_PA_function_47 (by decide) (fun c47 => ?_) (fun c47 => ?_)
  · replace h := l_ifn c47 h
    exact mv_drop (q_PA_function_86 hl h_PA_block hF hLw _ _ _ _ _ h) (And.intro rfl (And.intro rfl (And.intro rfl trivial)))
  · replace h := l_ifp c47 h
    refine vr_aload_n d_PA_function_50 rfl rfl ?_
    have q18 := (l_chk h).1
    replace h := (l_chk h).2
    rcases l_calT h with ⟨v19, s19, ev19, h⟩ | ⟨v19, s19, ev19, hz⟩
    rotate_left
    · cases hz
      exact mh_threw (Qy := fun _ _ => True) 3 [] d_PA_function_51 C_PA_59 (c_PA_name hl ev19) q18 rfl rfl rfl (Nat.le_of_ble_eq_true rfl) (by omega) (by show 8 + (1 + 11) + 120 ≤ Lw + 60; omega) rfl ⟨rfl, rfl⟩
    refine mh_callU 3 [] d_PA_function_51 C_PA_59 (c_PA_name hl ev19) q18 rfl rfl rfl (Nat.le_of_ble_eq_true rfl) (by omega) (by show 8 + (1 + 11) + 120 ≤ Lw + 60; omega) ?_
    refine vr_iconst 0 d_PA_function_54 (by decide) ?_
    refine vr_istore_n (L' := [some (.ref a0), some (.int v4), some (.int v7), some (.int 0)]) d_PA_function_55 rfl (by decide) rfl ?_
    exact mv_drop (q_PA_function_56 hl h_PA_block hF hLw N _ _ _ _ _ _ h) (And.intro rfl (And.intro rfl (And.intro rfl (And.intro rfl trivial))))

