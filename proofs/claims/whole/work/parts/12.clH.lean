/-! the class, lifted: the writer -/
def f_WR_init (N : Nat) (a0 : Nat) (x1 : Nat) (σ : mh_H) : Option (mh_H × Nat × Nat) := tkA 1 8 <| bnd (hX σ) fun a2 => bnd (mh_new σ 5) fun s3 => calA (f_TR_init N a2 s3) fun s4 => chk (hT s4 a0 = 13) <| tkA 1 4 <| bnd (hX (mh_setR s4 6 1 a0 (some a2))) fun a7 => bnd (mh_new (mh_setR s4 6 1 a0 (some a2)) 0) fun s8 => calA (f_BR_init N a7 8000 s8) fun s9 => chk (hT s9 a0 = 13) <| some ((mh_setR (mh_setR s9 6 2 a0 (some a7)) 6 0 a0 (some x1)), 0, 0)
theorem c_WR_init {g : mv_G} {N : Nat} {a0 : Nat} {x1 : Nat} {σ : mh_H} {r : mh_H × Nat × Nat} (h : f_WR_init N a0 x1 σ = some r) : mv_Met g M_WR_init 2 41 r.2.1 r.2.2 [.ref a0, .ref x1] σ (fun oc τ => τ = r.1 ∧ oc = .returned none) := by
  have key : ∀ cb sb : Nat, r.2.1 ≤ cb → r.2.2 ≤ sb → mv_V g M_WR_init 2 41 cb sb 0 [some (.ref a0), some (.ref x1)] [] σ (fun oc τ => τ = r.1 ∧ oc = .returned none) := by
    intro cb sb hc hs
    unfold f_WR_init at h
    refine vr_aload_n d_WR_init_0 rfl rfl ?_
    refine vr_objInit d_WR_init_1 w_160 w_27 w_28 (by decide) (Nat.le_of_ble_eq_true rfl) ?_
    refine vr_aload_n d_WR_init_4 rfl rfl ?_
    obtain ⟨ru1, xu1, yu1, hhu1, hz⟩ := l_tkA h
    clear h
    cases hz
    have h := hhu1
    have h1u1 : 1 ≤ cb := by have hz : xu1 + 1 ≤ cb := hc; omega
    have h2u1 : 8 ≤ sb := by have hz : yu1 + 8 ≤ sb := hs; omega
    replace hc : xu1 ≤ cb - 1 := by have hz : xu1 + 1 ≤ cb := hc; omega
    replace hs : yu1 ≤ sb - 8 := by have hz : yu1 + 8 ≤ sb := hs; omega
    refine vr_new (k := 5) d_WR_init_5 rfl w_161 w_162 w_9 h1u1 h2u1 df_5 ?_
    obtain ⟨a2, ea2, h⟩ := l_bnd h
    refine vr_nmA ea2 ?_
    obtain ⟨s3, es3, h⟩ := l_bnd h
    refine vr_nmS es3 ?_
    refine vr_dup d_WR_init_8 rfl ?_
    obtain ⟨s4, c4, n4, ev4, r4, x4, y4, hh4, hz⟩ := l_calA h
    clear h
    cases hz
    have h := hh4
    have h14 : c4 ≤ (cb - 1) := by have hz : x4 + c4 ≤ (cb - 1) := hc; omega
    have h24 : n4 ≤ (sb - 8) := by have hz : y4 + n4 ≤ (sb - 8) := hs; omega
    replace hc : x4 ≤ (cb - 1) - c4 := by have hz : x4 + c4 ≤ (cb - 1) := hc; omega
    replace hs : y4 ≤ (sb - 8) - n4 := by have hz : y4 + n4 ≤ (sb - 8) := hs; omega
    refine mh_callN [] d_WR_init_9 C_WR_11 (c_TR_init ev4) rfl rfl (Nat.le_of_ble_eq_true rfl) (by decide) (Nat.le_of_ble_eq_true rfl) h14 h24 ?_
    have q5 := (l_chk h).1
    replace h := (l_chk h).2
    refine vr_putR d_WR_init_12 W_WR_init_12 rfl rfl rfl q5 ?_
    refine vr_aload_n d_WR_init_15 rfl rfl ?_
    obtain ⟨ru6, xu6, yu6, hhu6, hz⟩ := l_tkA h
    clear h
    cases hz
    have h := hhu6
    have h1u6 : 1 ≤ ((cb - 1) - c4) := by have hz : xu6 + 1 ≤ ((cb - 1) - c4) := hc; omega
    have h2u6 : 4 ≤ ((sb - 8) - n4) := by have hz : yu6 + 4 ≤ ((sb - 8) - n4) := hs; omega
    replace hc : xu6 ≤ ((cb - 1) - c4) - 1 := by have hz : xu6 + 1 ≤ ((cb - 1) - c4) := hc; omega
    replace hs : yu6 ≤ ((sb - 8) - n4) - 4 := by have hz : yu6 + 4 ≤ ((sb - 8) - n4) := hs; omega
    refine vr_new (k := 0) d_WR_init_16 rfl w_198 w_30 w_2 h1u6 h2u6 df_0 ?_
    obtain ⟨a7, ea7, h⟩ := l_bnd h
    refine vr_nmA ea7 ?_
    obtain ⟨s8, es8, h⟩ := l_bnd h
    refine vr_nmS es8 ?_
    refine vr_dup d_WR_init_19 rfl ?_
    refine vr_sipush 8000 d_WR_init_20 (by decide) ?_
    obtain ⟨s9, c9, n9, ev9, r9, x9, y9, hh9, hz⟩ := l_calA h
    clear h
    cases hz
    have h := hh9
    have h19 : c9 ≤ (((cb - 1) - c4) - 1) := by have hz : x9 + c9 ≤ (((cb - 1) - c4) - 1) := hc; omega
    have h29 : n9 ≤ (((sb - 8) - n4) - 4) := by have hz : y9 + n9 ≤ (((sb - 8) - n4) - 4) := hs; omega
    replace hc : x9 ≤ (((cb - 1) - c4) - 1) - c9 := by have hz : x9 + c9 ≤ (((cb - 1) - c4) - 1) := hc; omega
    replace hs : y9 ≤ (((sb - 8) - n4) - 4) - n9 := by have hz : y9 + n9 ≤ (((sb - 8) - n4) - 4) := hs; omega
    refine mh_callN [.int 8000] d_WR_init_23 C_WR_20 (c_BR_init ev9) rfl rfl (Nat.le_of_ble_eq_true rfl) (by decide) (Nat.le_of_ble_eq_true rfl) h19 h29 ?_
    have q10 := (l_chk h).1
    replace h := (l_chk h).2
    refine vr_putR d_WR_init_26 W_WR_init_23 rfl rfl rfl q10 ?_
    refine vr_aload_n d_WR_init_29 rfl rfl ?_
    refine vr_aload_n d_WR_init_30 rfl rfl ?_
    refine vr_putR d_WR_init_31 W_WR_init_27 rfl rfl rfl q10 ?_
    cases h
    exact vr_vret d_WR_init_34 rfl ⟨rfl, rfl⟩
  exact mv_entry (L := [some (.ref a0), some (.ref x1)]) rfl rfl (Nat.le_of_ble_eq_true rfl) rfl (key _ _ (Nat.le_refl _) (Nat.le_refl _))

def f_WR_isCondition (N : Nat) (a0 : Nat) (x1 : Int32) (σ : mh_H) : Option (Int32 × mh_H) := chk (hT σ a0 = 13) <| rfO (hR σ 6 1 a0) fun b2 => chk (hT σ b2 = 11) <| calI (f_TR_kindOf N b2 x1 σ) fun v4 s4 => if v4 = 24 then (some (1, s4)) else (chk (hT s4 a0 = 13) <| rfO (hR s4 6 1 a0) fun b6 => chk (hT s4 b6 = 11) <| calI (f_TR_kindOf N b6 x1 s4) fun v8 s8 => if v8 = 25 then (some (1, s8)) else (some (0, s8)))
theorem c_WR_isCondition {g : mv_G} {N : Nat} {a0 : Nat} {x1 : Int32} {σ : mh_H} {r : Int32 × mh_H} (h : f_WR_isCondition N a0 x1 σ = some r) : mv_Met g M_WR_isCondition 2 42 0 0 [.ref a0, .int x1] σ (fun oc τ => τ = r.2 ∧ oc = .returned (some (.int r.1))) := by
  refine mv_entry (L := [some (.ref a0), some (.int x1)]) rfl rfl (Nat.le_of_ble_eq_true rfl) rfl ?_
  unfold f_WR_isCondition at h
  refine vr_aload_n d_WR_isCondition_0 rfl rfl ?_
  have q1 := (l_chk h).1
  replace h := (l_chk h).2
  obtain ⟨b2, eb2, h⟩ := l_rf h
  refine vr_getR (b := b2) d_WR_isCondition_1 F_WR_12 rfl q1 eb2 ?_
  refine vr_iload_n d_WR_isCondition_4 rfl rfl ?_
  have q3 := (l_chk h).1
  replace h := (l_chk h).2
  obtain ⟨v4, s4, ev4, h⟩ := l_calI h
  refine mh_callI 5 [.int x1] d_WR_isCondition_5 C_WR_87 (c_TR_kindOf ev4) q3 rfl rfl rfl (Nat.le_of_ble_eq_true rfl) (by decide) (Nat.le_of_ble_eq_true rfl) ?_
  refine vr_bipush 24 d_WR_isCondition_8 (by decide) ?_
  refine vr_icmp_eq (tgt := 26) d_WR_isCondition_10 (by decide) (fun c10 => ?_) (fun c10 => ?_)
  · replace h := l_ifp c10 h
    refine vr_iconst 1 d_WR_isCondition_26 (by decide) ?_
    refine vr_goto (tgt := 31) d_WR_isCondition_27 (by decide) ?_
    cases h
    exact vr_iret d_WR_isCondition_31 rfl rfl ⟨rfl, rfl⟩
  · replace h := l_ifn c10 h
    refine vr_aload_n d_WR_isCondition_13 rfl rfl ?_
    have q5 := (l_chk h).1
    replace h := (l_chk h).2
    obtain ⟨b6, eb6, h⟩ := l_rf h
    refine vr_getR (b := b6) d_WR_isCondition_14 F_WR_12 rfl q5 eb6 ?_
    refine vr_iload_n d_WR_isCondition_17 rfl rfl ?_
    have q7 := (l_chk h).1
    replace h := (l_chk h).2
    obtain ⟨v8, s8, ev8, h⟩ := l_calI h
    refine mh_callI 5 [.int x1] d_WR_isCondition_18 C_WR_87 (c_TR_kindOf ev8) q7 rfl rfl rfl (Nat.le_of_ble_eq_true rfl) (by decide) (Nat.le_of_ble_eq_true rfl) ?_
    refine vr_bipush 25 d_WR_isCondition_21 (by decide) ?_
    refine vr_icmp_ne (tgt := 30) d_WR_isCondition_23 (by decide) (fun c23 => ?_) (fun c23 => ?_)
    · replace h := l_ifn c23 h
      refine vr_iconst 0 d_WR_isCondition_30 (by decide) ?_
      cases h
      exact vr_iret d_WR_isCondition_31 rfl rfl ⟨rfl, rfl⟩
    · replace h := l_ifp c23 h
      refine vr_iconst 1 d_WR_isCondition_26 (by decide) ?_
      refine vr_goto (tgt := 31) d_WR_isCondition_27 (by decide) ?_
      cases h
      exact vr_iret d_WR_isCondition_31 rfl rfl ⟨rfl, rfl⟩

def f_WR_opening (N : Nat) (a0 : Nat) (x1 : Int32) (σ : mh_H) : Option (Nat × mh_H) := chk (hT σ a0 = 13) <| calI (f_WR_isCondition N a0 x1 σ) fun v2 s2 => if v2 = 0 then (some (32, s2)) else (some (35, s2))
theorem c_WR_opening {g : mv_G} {N : Nat} {a0 : Nat} {x1 : Int32} {σ : mh_H} {r : Nat × mh_H} (h : f_WR_opening N a0 x1 σ = some r) : mv_Met g M_WR_opening 3 63 0 0 [.ref a0, .int x1] σ (fun oc τ => τ = r.2 ∧ oc = .returned (some (.ref (mg_K g r.1)))) := by
  refine mv_entry (L := [some (.ref a0), some (.int x1)]) rfl rfl (Nat.le_of_ble_eq_true rfl) rfl ?_
  unfold f_WR_opening at h
  refine vr_aload_n d_WR_opening_0 rfl rfl ?_
  refine vr_iload_n d_WR_opening_1 rfl rfl ?_
  have q1 := (l_chk h).1
  replace h := (l_chk h).2
  obtain ⟨v2, s2, ev2, h⟩ := l_calI h
  refine mh_callI 6 [.int x1] d_WR_opening_2 C_WR_192 (c_WR_isCondition ev2) q1 rfl rfl rfl (Nat.le_of_ble_eq_true rfl) (by decide) (Nat.le_of_ble_eq_true rfl) ?_
  refine vr_if_eq (tgt := 13) d_WR_opening_5 (by decide) (fun c5 => ?_) (fun c5 => ?_)
  · replace h := l_ifp c5 h
    refine vr_ldcS 32 d_WR_opening_13 rfl ?_
    cases h
    exact vr_aret d_WR_opening_15 rfl (by first | exact Or.inl ⟨_, rfl⟩ | exact Or.inr ⟨_, rfl⟩) ⟨rfl, rfl⟩
  · replace h := l_ifn c5 h
    refine vr_ldcS 35 d_WR_opening_8 rfl ?_
    refine vr_goto (tgt := 15) d_WR_opening_10 (by decide) ?_
    cases h
    exact vr_aret d_WR_opening_15 rfl (by first | exact Or.inl ⟨_, rfl⟩ | exact Or.inr ⟨_, rfl⟩) ⟨rfl, rfl⟩

def f_WR_closing (N : Nat) (a0 : Nat) (x1 : Int32) (σ : mh_H) : Option (Nat × mh_H) := chk (hT σ a0 = 13) <| calI (f_WR_isCondition N a0 x1 σ) fun v2 s2 => if v2 = 0 then (some (30, s2)) else (some (29, s2))
theorem c_WR_closing {g : mv_G} {N : Nat} {a0 : Nat} {x1 : Int32} {σ : mh_H} {r : Nat × mh_H} (h : f_WR_closing N a0 x1 σ = some r) : mv_Met g M_WR_closing 3 63 0 0 [.ref a0, .int x1] σ (fun oc τ => τ = r.2 ∧ oc = .returned (some (.ref (mg_K g r.1)))) := by
  refine mv_entry (L := [some (.ref a0), some (.int x1)]) rfl rfl (Nat.le_of_ble_eq_true rfl) rfl ?_
  unfold f_WR_closing at h
  refine vr_aload_n d_WR_closing_0 rfl rfl ?_
  refine vr_iload_n d_WR_closing_1 rfl rfl ?_
  have q1 := (l_chk h).1
  replace h := (l_chk h).2
  obtain ⟨v2, s2, ev2, h⟩ := l_calI h
  refine mh_callI 6 [.int x1] d_WR_closing_2 C_WR_192 (c_WR_isCondition ev2) q1 rfl rfl rfl (Nat.le_of_ble_eq_true rfl) (by decide) (Nat.le_of_ble_eq_true rfl) ?_
  refine vr_if_eq (tgt := 13) d_WR_closing_5 (by decide) (fun c5 => ?_) (fun c5 => ?_)
  · replace h := l_ifp c5 h
    refine vr_ldcS 30 d_WR_closing_13 rfl ?_
    cases h
    exact vr_aret d_WR_closing_15 rfl (by first | exact Or.inl ⟨_, rfl⟩ | exact Or.inr ⟨_, rfl⟩) ⟨rfl, rfl⟩
  · replace h := l_ifn c5 h
    refine vr_ldcS 29 d_WR_closing_8 rfl ?_
    refine vr_goto (tgt := 15) d_WR_closing_10 (by decide) ?_
    cases h
    exact vr_aret d_WR_closing_15 rfl (by first | exact Or.inl ⟨_, rfl⟩ | exact Or.inr ⟨_, rfl⟩) ⟨rfl, rfl⟩

def f_WR_isBracketed (N : Nat) (a0 : Nat) (x1 : Int32) (σ : mh_H) : Option (Int32 × mh_H) := chk (hT σ a0 = 13) <| rfO (hR σ 6 1 a0) fun b2 => chk (hT σ b2 = 11) <| calI (f_TR_wholeOf N b2 x1 σ) fun v4 s4 => chk (hT s4 b2 = 11) <| calI (f_TR_kindOf N b2 v4 s4) fun v6 s6 => chk (hT s6 a0 = 13) <| rfO (hR s6 6 1 a0) fun b8 => chk (hT s6 b8 = 11) <| calI (f_TR_kindOf N b8 x1 s6) fun v10 s10 => if v10 = 17 then (if v6 < 15 then (some (0, s10)) else (if 23 < v6 then (some (0, s10)) else (some (1, s10)))) else if v10 = 18 then (some (0, s10)) else if v10 = 19 then (some (0, s10)) else if v10 = 20 then (if v6 = 15 then (some (1, s10)) else (if v6 < 20 then (some (0, s10)) else (if 23 < v6 then (some (0, s10)) else (some (1, s10))))) else if v10 = 21 then (some (0, s10)) else if v10 = 22 then (some (0, s10)) else if v10 = 23 then (some (0, s10)) else if v10 = 24 then (if v6 < 24 then (some (0, s10)) else (if 26 < v6 then (some (0, s10)) else (some (1, s10)))) else if v10 = 25 then (if v6 = 25 then (some (1, s10)) else (if v6 = 26 then (some (1, s10)) else (some (0, s10)))) else (some (0, s10))
theorem c_WR_isBracketed {g : mv_G} {N : Nat} {a0 : Nat} {x1 : Int32} {σ : mh_H} {r : Int32 × mh_H} (h : f_WR_isBracketed N a0 x1 σ = some r) : mv_Met g M_WR_isBracketed 2 42 0 0 [.ref a0, .int x1] σ (fun oc τ => τ = r.2 ∧ oc = .returned (some (.int r.1))) := by
  refine mv_entry (L := [some (.ref a0), some (.int x1), none]) rfl rfl (Nat.le_of_ble_eq_true rfl) rfl ?_
  unfold f_WR_isBracketed at h
  refine vr_aload_n d_WR_isBracketed_0 rfl rfl ?_
  have q1 := (l_chk h).1
  replace h := (l_chk h).2
  obtain ⟨b2, eb2, h⟩ := l_rf h
  refine vr_getR (b := b2) d_WR_isBracketed_1 F_WR_12 rfl q1 eb2 ?_
  refine vr_aload_n d_WR_isBracketed_4 rfl rfl ?_
  refine vr_getR (b := b2) d_WR_isBracketed_5 F_WR_12 rfl q1 eb2 ?_
  refine vr_iload_n d_WR_isBracketed_8 rfl rfl ?_
  have q3 := (l_chk h).1
  replace h := (l_chk h).2
  obtain ⟨v4, s4, ev4, h⟩ := l_calI h
  refine mh_callI 5 [.int x1] d_WR_isBracketed_9 C_WR_49 (c_TR_wholeOf ev4) q3 rfl rfl rfl (Nat.le_of_ble_eq_true rfl) (by decide) (Nat.le_of_ble_eq_true rfl) ?_
  have q5 := (l_chk h).1
  replace h := (l_chk h).2
  obtain ⟨v6, s6, ev6, h⟩ := l_calI h
  refine mh_callI 5 [.int v4] d_WR_isBracketed_12 C_WR_87 (c_TR_kindOf ev6) q5 rfl rfl rfl (Nat.le_of_ble_eq_true rfl) (by decide) (Nat.le_of_ble_eq_true rfl) ?_
  refine vr_istore_n (L' := [some (.ref a0), some (.int x1), some (.int v6)]) d_WR_isBracketed_15 rfl (by decide) rfl ?_
  refine vr_aload_n d_WR_isBracketed_16 rfl rfl ?_
  have q7 := (l_chk h).1
  replace h := (l_chk h).2
  obtain ⟨b8, eb8, h⟩ := l_rf h
  refine vr_getR (b := b8) d_WR_isBracketed_17 F_WR_12 rfl q7 eb8 ?_
  refine vr_iload_n d_WR_isBracketed_20 rfl rfl ?_
  have q9 := (l_chk h).1
  replace h := (l_chk h).2
  obtain ⟨v10, s10, ev10, h⟩ := l_calI h
  refine mh_callI 5 [.int x1] d_WR_isBracketed_21 C_WR_87 (c_TR_kindOf ev10) q9 rfl rfl rfl (Nat.le_of_ble_eq_true rfl) (by decide) (Nat.le_of_ble_eq_true rfl) ?_
  by_cases c24_17 : v10 = 17
  · replace h := l_ifp c24_17 h
    refine vr_tableIn (x := v10) (tgt := 76) (off := 52) d_WR_isBracketed_24 (by rw [c24_17]; decide) (by rw [c24_17]; decide) (by rw [c24_17]; rfl) (by decide) ?_
    refine vr_iload_n d_WR_isBracketed_76 rfl rfl ?_
    refine vr_bipush 15 d_WR_isBracketed_77 (by decide) ?_
    refine vr_icmp_lt (tgt := 92) d_WR_isBracketed_79 (by decide) (fun c79 => ?_) (fun c79 => ?_)
    · replace h := l_ifp c79 h
      refine vr_iconst 0 d_WR_isBracketed_92 (by decide) ?_
      cases h
      exact vr_iret d_WR_isBracketed_93 rfl rfl ⟨rfl, rfl⟩
    · replace h := l_ifn c79 h
      refine vr_iload_n d_WR_isBracketed_82 rfl rfl ?_
      refine vr_bipush 23 d_WR_isBracketed_83 (by decide) ?_
      refine vr_icmp_gt (tgt := 92) d_WR_isBracketed_85 (by decide) (fun c85 => ?_) (fun c85 => ?_)
      · replace h := l_ifp c85 h
        refine vr_iconst 0 d_WR_isBracketed_92 (by decide) ?_
        cases h
        exact vr_iret d_WR_isBracketed_93 rfl rfl ⟨rfl, rfl⟩
      · replace h := l_ifn c85 h
        refine vr_iconst 1 d_WR_isBracketed_88 (by decide) ?_
        refine vr_goto (tgt := 93) d_WR_isBracketed_89 (by decide) ?_
        cases h
        exact vr_iret d_WR_isBracketed_93 rfl rfl ⟨rfl, rfl⟩
  replace h := l_ifn c24_17 h
  by_cases c24_18 : v10 = 18
  · replace h := l_ifp c24_18 h
    refine vr_tableIn (x := v10) (tgt := 154) (off := 130) d_WR_isBracketed_24 (by rw [c24_18]; decide) (by rw [c24_18]; decide) (by rw [c24_18]; rfl) (by decide) ?_
    refine vr_iconst 0 d_WR_isBracketed_154 (by decide) ?_
    cases h
    exact vr_iret d_WR_isBracketed_155 rfl rfl ⟨rfl, rfl⟩
  replace h := l_ifn c24_18 h
  by_cases c24_19 : v10 = 19
  · replace h := l_ifp c24_19 h
    refine vr_tableIn (x := v10) (tgt := 154) (off := 130) d_WR_isBracketed_24 (by rw [c24_19]; decide) (by rw [c24_19]; decide) (by rw [c24_19]; rfl) (by decide) ?_
    refine vr_iconst 0 d_WR_isBracketed_154 (by decide) ?_
    cases h
    exact vr_iret d_WR_isBracketed_155 rfl rfl ⟨rfl, rfl⟩
  replace h := l_ifn c24_19 h
  by_cases c24_20 : v10 = 20
  · replace h := l_ifp c24_20 h
    refine vr_tableIn (x := v10) (tgt := 94) (off := 70) d_WR_isBracketed_24 (by rw [c24_20]; decide) (by rw [c24_20]; decide) (by rw [c24_20]; rfl) (by decide) ?_
    refine vr_iload_n d_WR_isBracketed_94 rfl rfl ?_
    refine vr_bipush 15 d_WR_isBracketed_95 (by decide) ?_
    refine vr_icmp_eq (tgt := 112) d_WR_isBracketed_97 (by decide) (fun c97 => ?_) (fun c97 => ?_)
    · replace h := l_ifp c97 h
      refine vr_iconst 1 d_WR_isBracketed_112 (by decide) ?_
      refine vr_goto (tgt := 117) d_WR_isBracketed_113 (by decide) ?_
      cases h
      exact vr_iret d_WR_isBracketed_117 rfl rfl ⟨rfl, rfl⟩
    · replace h := l_ifn c97 h
      refine vr_iload_n d_WR_isBracketed_100 rfl rfl ?_
      refine vr_bipush 20 d_WR_isBracketed_101 (by decide) ?_
      refine vr_icmp_lt (tgt := 116) d_WR_isBracketed_103 (by decide) (fun c103 => ?_) (fun c103 => ?_)
      · replace h := l_ifp c103 h
        refine vr_iconst 0 d_WR_isBracketed_116 (by decide) ?_
        cases h
        exact vr_iret d_WR_isBracketed_117 rfl rfl ⟨rfl, rfl⟩
      · replace h := l_ifn c103 h
        refine vr_iload_n d_WR_isBracketed_106 rfl rfl ?_
        refine vr_bipush 23 d_WR_isBracketed_107 (by decide) ?_
        refine vr_icmp_gt (tgt := 116) d_WR_isBracketed_109 (by decide) (fun c109 => ?_) (fun c109 => ?_)
        · replace h := l_ifp c109 h
          refine vr_iconst 0 d_WR_isBracketed_116 (by decide) ?_
          cases h
          exact vr_iret d_WR_isBracketed_117 rfl rfl ⟨rfl, rfl⟩
        · replace h := l_ifn c109 h
          refine vr_iconst 1 d_WR_isBracketed_112 (by decide) ?_
          refine vr_goto (tgt := 117) d_WR_isBracketed_113 (by decide) ?_
          cases h
          exact vr_iret d_WR_isBracketed_117 rfl rfl ⟨rfl, rfl⟩
  replace h := l_ifn c24_20 h
  by_cases c24_21 : v10 = 21
  · replace h := l_ifp c24_21 h
    refine vr_tableIn (x := v10) (tgt := 154) (off := 130) d_WR_isBracketed_24 (by rw [c24_21]; decide) (by rw [c24_21]; decide) (by rw [c24_21]; rfl) (by decide) ?_
    refine vr_iconst 0 d_WR_isBracketed_154 (by decide) ?_
    cases h
    exact vr_iret d_WR_isBracketed_155 rfl rfl ⟨rfl, rfl⟩
  replace h := l_ifn c24_21 h
  by_cases c24_22 : v10 = 22
  · replace h := l_ifp c24_22 h
    refine vr_tableIn (x := v10) (tgt := 154) (off := 130) d_WR_isBracketed_24 (by rw [c24_22]; decide) (by rw [c24_22]; decide) (by rw [c24_22]; rfl) (by decide) ?_
    refine vr_iconst 0 d_WR_isBracketed_154 (by decide) ?_
    cases h
    exact vr_iret d_WR_isBracketed_155 rfl rfl ⟨rfl, rfl⟩
  replace h := l_ifn c24_22 h
  by_cases c24_23 : v10 = 23
  · replace h := l_ifp c24_23 h
    refine vr_tableIn (x := v10) (tgt := 154) (off := 130) d_WR_isBracketed_24 (by rw [c24_23]; decide) (by rw [c24_23]; decide) (by rw [c24_23]; rfl) (by decide) ?_
    refine vr_iconst 0 d_WR_isBracketed_154 (by decide) ?_
    cases h
    exact vr_iret d_WR_isBracketed_155 rfl rfl ⟨rfl, rfl⟩
  replace h := l_ifn c24_23 h
  by_cases c24_24 : v10 = 24
  · replace h := l_ifp c24_24 h
    refine vr_tableIn (x := v10) (tgt := 118) (off := 94) d_WR_isBracketed_24 (by rw [c24_24]; decide) (by rw [c24_24]; decide) (by rw [c24_24]; rfl) (by decide) ?_
    refine vr_iload_n d_WR_isBracketed_118 rfl rfl ?_
    refine vr_bipush 24 d_WR_isBracketed_119 (by decide) ?_
    refine vr_icmp_lt (tgt := 134) d_WR_isBracketed_121 (by decide) (fun c121 => ?_) (fun c121 => ?_)
    · replace h := l_ifp c121 h
      refine vr_iconst 0 d_WR_isBracketed_134 (by decide) ?_
      cases h
      exact vr_iret d_WR_isBracketed_135 rfl rfl ⟨rfl, rfl⟩
    · replace h := l_ifn c121 h
      refine vr_iload_n d_WR_isBracketed_124 rfl rfl ?_
      refine vr_bipush 26 d_WR_isBracketed_125 (by decide) ?_
      refine vr_icmp_gt (tgt := 134) d_WR_isBracketed_127 (by decide) (fun c127 => ?_) (fun c127 => ?_)
      · replace h := l_ifp c127 h
        refine vr_iconst 0 d_WR_isBracketed_134 (by decide) ?_
        cases h
        exact vr_iret d_WR_isBracketed_135 rfl rfl ⟨rfl, rfl⟩
      · replace h := l_ifn c127 h
        refine vr_iconst 1 d_WR_isBracketed_130 (by decide) ?_
        refine vr_goto (tgt := 135) d_WR_isBracketed_131 (by decide) ?_
        cases h
        exact vr_iret d_WR_isBracketed_135 rfl rfl ⟨rfl, rfl⟩
  replace h := l_ifn c24_24 h
  by_cases c24_25 : v10 = 25
  · replace h := l_ifp c24_25 h
    refine vr_tableIn (x := v10) (tgt := 136) (off := 112) d_WR_isBracketed_24 (by rw [c24_25]; decide) (by rw [c24_25]; decide) (by rw [c24_25]; rfl) (by decide) ?_
    refine vr_iload_n d_WR_isBracketed_136 rfl rfl ?_
    refine vr_bipush 25 d_WR_isBracketed_137 (by decide) ?_
    refine vr_icmp_eq (tgt := 148) d_WR_isBracketed_139 (by decide) (fun c139 => ?_) (fun c139 => ?_)
    · replace h := l_ifp c139 h
      refine vr_iconst 1 d_WR_isBracketed_148 (by decide) ?_
      refine vr_goto (tgt := 153) d_WR_isBracketed_149 (by decide) ?_
      cases h
      exact vr_iret d_WR_isBracketed_153 rfl rfl ⟨rfl, rfl⟩
    · replace h := l_ifn c139 h
      refine vr_iload_n d_WR_isBracketed_142 rfl rfl ?_
      refine vr_bipush 26 d_WR_isBracketed_143 (by decide) ?_
      refine vr_icmp_ne (tgt := 152) d_WR_isBracketed_145 (by decide) (fun c145 => ?_) (fun c145 => ?_)
      · replace h := l_ifn c145 h
        refine vr_iconst 0 d_WR_isBracketed_152 (by decide) ?_
        cases h
        exact vr_iret d_WR_isBracketed_153 rfl rfl ⟨rfl, rfl⟩
      · replace h := l_ifp c145 h
        refine vr_iconst 1 d_WR_isBracketed_148 (by decide) ?_
        refine vr_goto (tgt := 153) d_WR_isBracketed_149 (by decide) ?_
        cases h
        exact vr_iret d_WR_isBracketed_153 rfl rfl ⟨rfl, rfl⟩
  replace h := l_ifn c24_25 h
  refine vr_tableOut (x := v10) (tgt := 154) d_WR_isBracketed_24 (by have u0 : ¬ (v10).toInt = 17 := l_nk c24_17 rfl; have u1 : ¬ (v10).toInt = 18 := l_nk c24_18 rfl; have u2 : ¬ (v10).toInt = 19 := l_nk c24_19 rfl; have u3 : ¬ (v10).toInt = 20 := l_nk c24_20 rfl; have u4 : ¬ (v10).toInt = 21 := l_nk c24_21 rfl; have u5 : ¬ (v10).toInt = 22 := l_nk c24_22 rfl; have u6 : ¬ (v10).toInt = 23 := l_nk c24_23 rfl; have u7 : ¬ (v10).toInt = 24 := l_nk c24_24 rfl; have u8 : ¬ (v10).toInt = 25 := l_nk c24_25 rfl; omega) (by decide) ?_
  refine vr_iconst 0 d_WR_isBracketed_154 (by decide) ?_
  cases h
  exact vr_iret d_WR_isBracketed_155 rfl rfl ⟨rfl, rfl⟩

def f_WR_ending (N : Nat) (a0 : Nat) (x1 : Int32) (σ : mh_H) : Option (Nat × mh_H) := chk (hT σ a0 = 13) <| rfO (hR σ 6 1 a0) fun b2 => chk (hT σ b2 = 11) <| calI (f_TR_kindOf N b2 x1 σ) fun v4 s4 => if v4 = 2 then (some (24, s4)) else if v4 = 3 then (some (25, s4)) else if v4 = 4 then (some (26, s4)) else if v4 = 5 then (some (25, s4)) else if v4 = 6 then (some (25, s4)) else if v4 = 7 then (chk (hT s4 a0 = 13) <| rfO (hR s4 6 1 a0) fun b6 => chk (hT s4 b6 = 11) <| calI (f_TR_partsOf N b6 x1 s4) fun v8 s8 => if v8 = 2 then (some (27, s8)) else (some (28, s8))) else if v4 = 8 then (some (23, s4)) else if v4 = 9 then (some (23, s4)) else if v4 = 10 then (some (28, s4)) else if v4 = 11 then (some (25, s4)) else if v4 = 12 then (some (23, s4)) else if v4 = 13 then (some (23, s4)) else if v4 = 14 then (some (29, s4)) else if v4 = 15 then (some (23, s4)) else if v4 = 16 then (chk (hT s4 a0 = 13) <| rfO (hR s4 6 1 a0) fun b10 => chk (hT s4 b10 = 11) <| calI (f_TR_partsOf N b10 x1 s4) fun v12 s12 => if v12 = 0 then (some (23, s12)) else (some (30, s12))) else (some (23, s4))
theorem c_WR_ending {g : mv_G} {N : Nat} {a0 : Nat} {x1 : Int32} {σ : mh_H} {r : Nat × mh_H} (h : f_WR_ending N a0 x1 σ = some r) : mv_Met g M_WR_ending 2 42 0 0 [.ref a0, .int x1] σ (fun oc τ => τ = r.2 ∧ oc = .returned (some (.ref (mg_K g r.1)))) := by
  refine mv_entry (L := [some (.ref a0), some (.int x1)]) rfl rfl (Nat.le_of_ble_eq_true rfl) rfl ?_
  unfold f_WR_ending at h
  refine vr_aload_n d_WR_ending_0 rfl rfl ?_
  have q1 := (l_chk h).1
  replace h := (l_chk h).2
  obtain ⟨b2, eb2, h⟩ := l_rf h
  refine vr_getR (b := b2) d_WR_ending_1 F_WR_12 rfl q1 eb2 ?_
  refine vr_iload_n d_WR_ending_4 rfl rfl ?_
  have q3 := (l_chk h).1
  replace h := (l_chk h).2
  obtain ⟨v4, s4, ev4, h⟩ := l_calI h
  refine mh_callI 5 [.int x1] d_WR_ending_5 C_WR_87 (c_TR_kindOf ev4) q3 rfl rfl rfl (Nat.le_of_ble_eq_true rfl) (by decide) (Nat.le_of_ble_eq_true rfl) ?_
  by_cases c8_2 : v4 = 2
  · replace h := l_ifp c8_2 h
    refine vr_tableIn (x := v4) (tgt := 84) (off := 76) d_WR_ending_8 (by rw [c8_2]; decide) (by rw [c8_2]; decide) (by rw [c8_2]; rfl) (by decide) ?_
    refine vr_ldcS 24 d_WR_ending_84 rfl ?_
    cases h
    exact vr_aret d_WR_ending_86 rfl (by first | exact Or.inl ⟨_, rfl⟩ | exact Or.inr ⟨_, rfl⟩) ⟨rfl, rfl⟩
  replace h := l_ifn c8_2 h
  by_cases c8_3 : v4 = 3
  · replace h := l_ifp c8_3 h
    refine vr_tableIn (x := v4) (tgt := 87) (off := 79) d_WR_ending_8 (by rw [c8_3]; decide) (by rw [c8_3]; decide) (by rw [c8_3]; rfl) (by decide) ?_
    refine vr_ldcS 25 d_WR_ending_87 rfl ?_
    cases h
    exact vr_aret d_WR_ending_89 rfl (by first | exact Or.inl ⟨_, rfl⟩ | exact Or.inr ⟨_, rfl⟩) ⟨rfl, rfl⟩
  replace h := l_ifn c8_3 h
  by_cases c8_4 : v4 = 4
  · replace h := l_ifp c8_4 h
    refine vr_tableIn (x := v4) (tgt := 90) (off := 82) d_WR_ending_8 (by rw [c8_4]; decide) (by rw [c8_4]; decide) (by rw [c8_4]; rfl) (by decide) ?_
    refine vr_ldcS 26 d_WR_ending_90 rfl ?_
    cases h
    exact vr_aret d_WR_ending_92 rfl (by first | exact Or.inl ⟨_, rfl⟩ | exact Or.inr ⟨_, rfl⟩) ⟨rfl, rfl⟩
  replace h := l_ifn c8_4 h
  by_cases c8_5 : v4 = 5
  · replace h := l_ifp c8_5 h
    refine vr_tableIn (x := v4) (tgt := 87) (off := 79) d_WR_ending_8 (by rw [c8_5]; decide) (by rw [c8_5]; decide) (by rw [c8_5]; rfl) (by decide) ?_
    refine vr_ldcS 25 d_WR_ending_87 rfl ?_
    cases h
    exact vr_aret d_WR_ending_89 rfl (by first | exact Or.inl ⟨_, rfl⟩ | exact Or.inr ⟨_, rfl⟩) ⟨rfl, rfl⟩
  replace h := l_ifn c8_5 h
  by_cases c8_6 : v4 = 6
  · replace h := l_ifp c8_6 h
    refine vr_tableIn (x := v4) (tgt := 87) (off := 79) d_WR_ending_8 (by rw [c8_6]; decide) (by rw [c8_6]; decide) (by rw [c8_6]; rfl) (by decide) ?_
    refine vr_ldcS 25 d_WR_ending_87 rfl ?_
    cases h
    exact vr_aret d_WR_ending_89 rfl (by first | exact Or.inl ⟨_, rfl⟩ | exact Or.inr ⟨_, rfl⟩) ⟨rfl, rfl⟩
  replace h := l_ifn c8_6 h
  by_cases c8_7 : v4 = 7
  · replace h := l_ifp c8_7 h
    refine vr_tableIn (x := v4) (tgt := 93) (off := 85) d_WR_ending_8 (by rw [c8_7]; decide) (by rw [c8_7]; decide) (by rw [c8_7]; rfl) (by decide) ?_
    refine vr_aload_n d_WR_ending_93 rfl rfl ?_
    have q5 := (l_chk h).1
    replace h := (l_chk h).2
    obtain ⟨b6, eb6, h⟩ := l_rf h
    refine vr_getR (b := b6) d_WR_ending_94 F_WR_12 rfl q5 eb6 ?_
    refine vr_iload_n d_WR_ending_97 rfl rfl ?_
    have q7 := (l_chk h).1
    replace h := (l_chk h).2
    obtain ⟨v8, s8, ev8, h⟩ := l_calI h
    refine mh_callI 5 [.int x1] d_WR_ending_98 C_WR_153 (c_TR_partsOf ev8) q7 rfl rfl rfl (Nat.le_of_ble_eq_true rfl) (by decide) (Nat.le_of_ble_eq_true rfl) ?_
    refine vr_iconst 2 d_WR_ending_101 (by decide) ?_
    refine vr_icmp_ne (tgt := 110) d_WR_ending_102 (by decide) (fun c102 => ?_) (fun c102 => ?_)
    · replace h := l_ifn c102 h
      refine vr_ldcS 28 d_WR_ending_110 rfl ?_
      cases h
      exact vr_aret d_WR_ending_112 rfl (by first | exact Or.inl ⟨_, rfl⟩ | exact Or.inr ⟨_, rfl⟩) ⟨rfl, rfl⟩
    · replace h := l_ifp c102 h
      refine vr_ldcS 27 d_WR_ending_105 rfl ?_
      refine vr_goto (tgt := 112) d_WR_ending_107 (by decide) ?_
      cases h
      exact vr_aret d_WR_ending_112 rfl (by first | exact Or.inl ⟨_, rfl⟩ | exact Or.inr ⟨_, rfl⟩) ⟨rfl, rfl⟩
  replace h := l_ifn c8_7 h
  by_cases c8_8 : v4 = 8
  · replace h := l_ifp c8_8 h
    refine vr_tableIn (x := v4) (tgt := 138) (off := 130) d_WR_ending_8 (by rw [c8_8]; decide) (by rw [c8_8]; decide) (by rw [c8_8]; rfl) (by decide) ?_
    refine vr_ldcS 23 d_WR_ending_138 rfl ?_
    cases h
    exact vr_aret d_WR_ending_140 rfl (by first | exact Or.inl ⟨_, rfl⟩ | exact Or.inr ⟨_, rfl⟩) ⟨rfl, rfl⟩
  replace h := l_ifn c8_8 h
  by_cases c8_9 : v4 = 9
  · replace h := l_ifp c8_9 h
    refine vr_tableIn (x := v4) (tgt := 138) (off := 130) d_WR_ending_8 (by rw [c8_9]; decide) (by rw [c8_9]; decide) (by rw [c8_9]; rfl) (by decide) ?_
    refine vr_ldcS 23 d_WR_ending_138 rfl ?_
    cases h
    exact vr_aret d_WR_ending_140 rfl (by first | exact Or.inl ⟨_, rfl⟩ | exact Or.inr ⟨_, rfl⟩) ⟨rfl, rfl⟩
  replace h := l_ifn c8_9 h
  by_cases c8_10 : v4 = 10
  · replace h := l_ifp c8_10 h
    refine vr_tableIn (x := v4) (tgt := 113) (off := 105) d_WR_ending_8 (by rw [c8_10]; decide) (by rw [c8_10]; decide) (by rw [c8_10]; rfl) (by decide) ?_
    refine vr_ldcS 28 d_WR_ending_113 rfl ?_
    cases h
    exact vr_aret d_WR_ending_115 rfl (by first | exact Or.inl ⟨_, rfl⟩ | exact Or.inr ⟨_, rfl⟩) ⟨rfl, rfl⟩
  replace h := l_ifn c8_10 h
  by_cases c8_11 : v4 = 11
  · replace h := l_ifp c8_11 h
    refine vr_tableIn (x := v4) (tgt := 87) (off := 79) d_WR_ending_8 (by rw [c8_11]; decide) (by rw [c8_11]; decide) (by rw [c8_11]; rfl) (by decide) ?_
    refine vr_ldcS 25 d_WR_ending_87 rfl ?_
    cases h
    exact vr_aret d_WR_ending_89 rfl (by first | exact Or.inl ⟨_, rfl⟩ | exact Or.inr ⟨_, rfl⟩) ⟨rfl, rfl⟩
  replace h := l_ifn c8_11 h
  by_cases c8_12 : v4 = 12
  · replace h := l_ifp c8_12 h
    refine vr_tableIn (x := v4) (tgt := 138) (off := 130) d_WR_ending_8 (by rw [c8_12]; decide) (by rw [c8_12]; decide) (by rw [c8_12]; rfl) (by decide) ?_
    refine vr_ldcS 23 d_WR_ending_138 rfl ?_
    cases h
    exact vr_aret d_WR_ending_140 rfl (by first | exact Or.inl ⟨_, rfl⟩ | exact Or.inr ⟨_, rfl⟩) ⟨rfl, rfl⟩
  replace h := l_ifn c8_12 h
  by_cases c8_13 : v4 = 13
  · replace h := l_ifp c8_13 h
    refine vr_tableIn (x := v4) (tgt := 138) (off := 130) d_WR_ending_8 (by rw [c8_13]; decide) (by rw [c8_13]; decide) (by rw [c8_13]; rfl) (by decide) ?_
    refine vr_ldcS 23 d_WR_ending_138 rfl ?_
    cases h
    exact vr_aret d_WR_ending_140 rfl (by first | exact Or.inl ⟨_, rfl⟩ | exact Or.inr ⟨_, rfl⟩) ⟨rfl, rfl⟩
  replace h := l_ifn c8_13 h
  by_cases c8_14 : v4 = 14
  · replace h := l_ifp c8_14 h
    refine vr_tableIn (x := v4) (tgt := 116) (off := 108) d_WR_ending_8 (by rw [c8_14]; decide) (by rw [c8_14]; decide) (by rw [c8_14]; rfl) (by decide) ?_
    refine vr_ldcS 29 d_WR_ending_116 rfl ?_
    cases h
    exact vr_aret d_WR_ending_118 rfl (by first | exact Or.inl ⟨_, rfl⟩ | exact Or.inr ⟨_, rfl⟩) ⟨rfl, rfl⟩
  replace h := l_ifn c8_14 h
  by_cases c8_15 : v4 = 15
  · replace h := l_ifp c8_15 h
    refine vr_tableIn (x := v4) (tgt := 138) (off := 130) d_WR_ending_8 (by rw [c8_15]; decide) (by rw [c8_15]; decide) (by rw [c8_15]; rfl) (by decide) ?_
    refine vr_ldcS 23 d_WR_ending_138 rfl ?_
    cases h
    exact vr_aret d_WR_ending_140 rfl (by first | exact Or.inl ⟨_, rfl⟩ | exact Or.inr ⟨_, rfl⟩) ⟨rfl, rfl⟩
  replace h := l_ifn c8_15 h
  by_cases c8_16 : v4 = 16
  · replace h := l_ifp c8_16 h
    refine vr_tableIn (x := v4) (tgt := 119) (off := 111) d_WR_ending_8 (by rw [c8_16]; decide) (by rw [c8_16]; decide) (by rw [c8_16]; rfl) (by decide) ?_
    refine vr_aload_n d_WR_ending_119 rfl rfl ?_
    have q9 := (l_chk h).1
    replace h := (l_chk h).2
    obtain ⟨b10, eb10, h⟩ := l_rf h
    refine vr_getR (b := b10) d_WR_ending_120 F_WR_12 rfl q9 eb10 ?_
    refine vr_iload_n d_WR_ending_123 rfl rfl ?_
    have q11 := (l_chk h).1
    replace h := (l_chk h).2
    obtain ⟨v12, s12, ev12, h⟩ := l_calI h
    refine mh_callI 5 [.int x1] d_WR_ending_124 C_WR_153 (c_TR_partsOf ev12) q11 rfl rfl rfl (Nat.le_of_ble_eq_true rfl) (by decide) (Nat.le_of_ble_eq_true rfl) ?_
    refine vr_if_ne (tgt := 135) d_WR_ending_127 (by decide) (fun c127 => ?_) (fun c127 => ?_)
    · replace h := l_ifn c127 h
      refine vr_ldcS 30 d_WR_ending_135 rfl ?_
      cases h
      exact vr_aret d_WR_ending_137 rfl (by first | exact Or.inl ⟨_, rfl⟩ | exact Or.inr ⟨_, rfl⟩) ⟨rfl, rfl⟩
    · replace h := l_ifp c127 h
      refine vr_ldcS 23 d_WR_ending_130 rfl ?_
      refine vr_goto (tgt := 137) d_WR_ending_132 (by decide) ?_
      cases h
      exact vr_aret d_WR_ending_137 rfl (by first | exact Or.inl ⟨_, rfl⟩ | exact Or.inr ⟨_, rfl⟩) ⟨rfl, rfl⟩
  replace h := l_ifn c8_16 h
  refine vr_tableOut (x := v4) (tgt := 138) d_WR_ending_8 (by have u0 : ¬ (v4).toInt = 2 := l_nk c8_2 rfl; have u1 : ¬ (v4).toInt = 3 := l_nk c8_3 rfl; have u2 : ¬ (v4).toInt = 4 := l_nk c8_4 rfl; have u3 : ¬ (v4).toInt = 5 := l_nk c8_5 rfl; have u4 : ¬ (v4).toInt = 6 := l_nk c8_6 rfl; have u5 : ¬ (v4).toInt = 7 := l_nk c8_7 rfl; have u6 : ¬ (v4).toInt = 8 := l_nk c8_8 rfl; have u7 : ¬ (v4).toInt = 9 := l_nk c8_9 rfl; have u8 : ¬ (v4).toInt = 10 := l_nk c8_10 rfl; have u9 : ¬ (v4).toInt = 11 := l_nk c8_11 rfl; have u10 : ¬ (v4).toInt = 12 := l_nk c8_12 rfl; have u11 : ¬ (v4).toInt = 13 := l_nk c8_13 rfl; have u12 : ¬ (v4).toInt = 14 := l_nk c8_14 rfl; have u13 : ¬ (v4).toInt = 15 := l_nk c8_15 rfl; have u14 : ¬ (v4).toInt = 16 := l_nk c8_16 rfl; omega) (by decide) ?_
  refine vr_ldcS 23 d_WR_ending_138 rfl ?_
  cases h
  exact vr_aret d_WR_ending_140 rfl (by first | exact Or.inl ⟨_, rfl⟩ | exact Or.inr ⟨_, rfl⟩) ⟨rfl, rfl⟩

def f_WR_laterJoint (N : Nat) (x0 : Int32) : Option (Nat) := if x0 = 3 then (some (34)) else if x0 = 4 then (some (35)) else if x0 = 5 then (some (34)) else if x0 = 6 then (some (23)) else if x0 = 7 then (some (23)) else if x0 = 8 then (some (23)) else if x0 = 9 then (some (30)) else if x0 = 10 then (some (23)) else if x0 = 11 then (some (23)) else if x0 = 12 then (some (23)) else if x0 = 13 then (some (23)) else if x0 = 14 then (some (35)) else if x0 = 15 then (some (23)) else if x0 = 16 then (some (23)) else if x0 = 17 then (some (23)) else if x0 = 18 then (some (23)) else if x0 = 19 then (some (23)) else if x0 = 20 then (some (23)) else if x0 = 21 then (some (23)) else if x0 = 22 then (some (23)) else if x0 = 23 then (some (23)) else if x0 = 24 then (some (38)) else if x0 = 25 then (some (39)) else if x0 = 26 then (some (23)) else if x0 = 27 then (some (40)) else if x0 = 28 then (some (41)) else if x0 = 29 then (some (42)) else if x0 = 30 then (some (43)) else if x0 = 31 then (some (44)) else if x0 = 32 then (some (45)) else (some (23))
theorem c_WR_laterJoint {g : mv_G} {σ : mh_H} {N : Nat} {x0 : Int32} {r : Nat} (h : f_WR_laterJoint N x0 = some r) : mv_Met g M_WR_laterJoint 0 0 0 0 [.int x0] σ (fun oc τ => τ = σ ∧ oc = .returned (some (.ref (mg_K g r)))) := by
  refine mv_entry (L := [some (.int x0)]) rfl rfl (Nat.le_of_ble_eq_true rfl) rfl ?_
  unfold f_WR_laterJoint at h
  refine vr_iload_n d_WR_laterJoint_0 rfl rfl ?_
  by_cases c1_3 : x0 = 3
  · replace h := l_ifp c1_3 h
    refine vr_tableIn (x := x0) (tgt := 136) (off := 135) d_WR_laterJoint_1 (by rw [c1_3]; decide) (by rw [c1_3]; decide) (by rw [c1_3]; rfl) (by decide) ?_
    refine vr_ldcS 34 d_WR_laterJoint_136 rfl ?_
    cases h
    exact vr_aret d_WR_laterJoint_138 rfl (by first | exact Or.inl ⟨_, rfl⟩ | exact Or.inr ⟨_, rfl⟩) ⟨rfl, rfl⟩
  replace h := l_ifn c1_3 h
  by_cases c1_4 : x0 = 4
  · replace h := l_ifp c1_4 h
    refine vr_tableIn (x := x0) (tgt := 139) (off := 138) d_WR_laterJoint_1 (by rw [c1_4]; decide) (by rw [c1_4]; decide) (by rw [c1_4]; rfl) (by decide) ?_
    refine vr_ldcS 35 d_WR_laterJoint_139 rfl ?_
    cases h
    exact vr_aret d_WR_laterJoint_141 rfl (by first | exact Or.inl ⟨_, rfl⟩ | exact Or.inr ⟨_, rfl⟩) ⟨rfl, rfl⟩
  replace h := l_ifn c1_4 h
  by_cases c1_5 : x0 = 5
  · replace h := l_ifp c1_5 h
    refine vr_tableIn (x := x0) (tgt := 136) (off := 135) d_WR_laterJoint_1 (by rw [c1_5]; decide) (by rw [c1_5]; decide) (by rw [c1_5]; rfl) (by decide) ?_
    refine vr_ldcS 34 d_WR_laterJoint_136 rfl ?_
    cases h
    exact vr_aret d_WR_laterJoint_138 rfl (by first | exact Or.inl ⟨_, rfl⟩ | exact Or.inr ⟨_, rfl⟩) ⟨rfl, rfl⟩
  replace h := l_ifn c1_5 h
  by_cases c1_6 : x0 = 6
  · replace h := l_ifp c1_6 h
    refine vr_tableIn (x := x0) (tgt := 169) (off := 168) d_WR_laterJoint_1 (by rw [c1_6]; decide) (by rw [c1_6]; decide) (by rw [c1_6]; rfl) (by decide) ?_
    refine vr_ldcS 23 d_WR_laterJoint_169 rfl ?_
    cases h
    exact vr_aret d_WR_laterJoint_171 rfl (by first | exact Or.inl ⟨_, rfl⟩ | exact Or.inr ⟨_, rfl⟩) ⟨rfl, rfl⟩
  replace h := l_ifn c1_6 h
  by_cases c1_7 : x0 = 7
  · replace h := l_ifp c1_7 h
    refine vr_tableIn (x := x0) (tgt := 169) (off := 168) d_WR_laterJoint_1 (by rw [c1_7]; decide) (by rw [c1_7]; decide) (by rw [c1_7]; rfl) (by decide) ?_
    refine vr_ldcS 23 d_WR_laterJoint_169 rfl ?_
    cases h
    exact vr_aret d_WR_laterJoint_171 rfl (by first | exact Or.inl ⟨_, rfl⟩ | exact Or.inr ⟨_, rfl⟩) ⟨rfl, rfl⟩
  replace h := l_ifn c1_7 h
  by_cases c1_8 : x0 = 8
  · replace h := l_ifp c1_8 h
    refine vr_tableIn (x := x0) (tgt := 169) (off := 168) d_WR_laterJoint_1 (by rw [c1_8]; decide) (by rw [c1_8]; decide) (by rw [c1_8]; rfl) (by decide) ?_
    refine vr_ldcS 23 d_WR_laterJoint_169 rfl ?_
    cases h
    exact vr_aret d_WR_laterJoint_171 rfl (by first | exact Or.inl ⟨_, rfl⟩ | exact Or.inr ⟨_, rfl⟩) ⟨rfl, rfl⟩
  replace h := l_ifn c1_8 h
  by_cases c1_9 : x0 = 9
  · replace h := l_ifp c1_9 h
    refine vr_tableIn (x := x0) (tgt := 142) (off := 141) d_WR_laterJoint_1 (by rw [c1_9]; decide) (by rw [c1_9]; decide) (by rw [c1_9]; rfl) (by decide) ?_
    refine vr_ldcS 30 d_WR_laterJoint_142 rfl ?_
    cases h
    exact vr_aret d_WR_laterJoint_144 rfl (by first | exact Or.inl ⟨_, rfl⟩ | exact Or.inr ⟨_, rfl⟩) ⟨rfl, rfl⟩
  replace h := l_ifn c1_9 h
  by_cases c1_10 : x0 = 10
  · replace h := l_ifp c1_10 h
    refine vr_tableIn (x := x0) (tgt := 169) (off := 168) d_WR_laterJoint_1 (by rw [c1_10]; decide) (by rw [c1_10]; decide) (by rw [c1_10]; rfl) (by decide) ?_
    refine vr_ldcS 23 d_WR_laterJoint_169 rfl ?_
    cases h
    exact vr_aret d_WR_laterJoint_171 rfl (by first | exact Or.inl ⟨_, rfl⟩ | exact Or.inr ⟨_, rfl⟩) ⟨rfl, rfl⟩
  replace h := l_ifn c1_10 h
  by_cases c1_11 : x0 = 11
  · replace h := l_ifp c1_11 h
    refine vr_tableIn (x := x0) (tgt := 169) (off := 168) d_WR_laterJoint_1 (by rw [c1_11]; decide) (by rw [c1_11]; decide) (by rw [c1_11]; rfl) (by decide) ?_
    refine vr_ldcS 23 d_WR_laterJoint_169 rfl ?_
    cases h
    exact vr_aret d_WR_laterJoint_171 rfl (by first | exact Or.inl ⟨_, rfl⟩ | exact Or.inr ⟨_, rfl⟩) ⟨rfl, rfl⟩
  replace h := l_ifn c1_11 h
  by_cases c1_12 : x0 = 12
  · replace h := l_ifp c1_12 h
    refine vr_tableIn (x := x0) (tgt := 169) (off := 168) d_WR_laterJoint_1 (by rw [c1_12]; decide) (by rw [c1_12]; decide) (by rw [c1_12]; rfl) (by decide) ?_
    refine vr_ldcS 23 d_WR_laterJoint_169 rfl ?_
    cases h
    exact vr_aret d_WR_laterJoint_171 rfl (by first | exact Or.inl ⟨_, rfl⟩ | exact Or.inr ⟨_, rfl⟩) ⟨rfl, rfl⟩
  replace h := l_ifn c1_12 h
  by_cases c1_13 : x0 = 13
  · replace h := l_ifp c1_13 h
    refine vr_tableIn (x := x0) (tgt := 169) (off := 168) d_WR_laterJoint_1 (by rw [c1_13]; decide) (by rw [c1_13]; decide) (by rw [c1_13]; rfl) (by decide) ?_
    refine vr_ldcS 23 d_WR_laterJoint_169 rfl ?_
    cases h
    exact vr_aret d_WR_laterJoint_171 rfl (by first | exact Or.inl ⟨_, rfl⟩ | exact Or.inr ⟨_, rfl⟩) ⟨rfl, rfl⟩
  replace h := l_ifn c1_13 h
  by_cases c1_14 : x0 = 14
  · replace h := l_ifp c1_14 h
    refine vr_tableIn (x := x0) (tgt := 139) (off := 138) d_WR_laterJoint_1 (by rw [c1_14]; decide) (by rw [c1_14]; decide) (by rw [c1_14]; rfl) (by decide) ?_
    refine vr_ldcS 35 d_WR_laterJoint_139 rfl ?_
    cases h
    exact vr_aret d_WR_laterJoint_141 rfl (by first | exact Or.inl ⟨_, rfl⟩ | exact Or.inr ⟨_, rfl⟩) ⟨rfl, rfl⟩
  replace h := l_ifn c1_14 h
  by_cases c1_15 : x0 = 15
  · replace h := l_ifp c1_15 h
    refine vr_tableIn (x := x0) (tgt := 169) (off := 168) d_WR_laterJoint_1 (by rw [c1_15]; decide) (by rw [c1_15]; decide) (by rw [c1_15]; rfl) (by decide) ?_
    refine vr_ldcS 23 d_WR_laterJoint_169 rfl ?_
    cases h
    exact vr_aret d_WR_laterJoint_171 rfl (by first | exact Or.inl ⟨_, rfl⟩ | exact Or.inr ⟨_, rfl⟩) ⟨rfl, rfl⟩
  replace h := l_ifn c1_15 h
  by_cases c1_16 : x0 = 16
  · replace h := l_ifp c1_16 h
    refine vr_tableIn (x := x0) (tgt := 169) (off := 168) d_WR_laterJoint_1 (by rw [c1_16]; decide) (by rw [c1_16]; decide) (by rw [c1_16]; rfl) (by decide) ?_
    refine vr_ldcS 23 d_WR_laterJoint_169 rfl ?_
    cases h
    exact vr_aret d_WR_laterJoint_171 rfl (by first | exact Or.inl ⟨_, rfl⟩ | exact Or.inr ⟨_, rfl⟩) ⟨rfl, rfl⟩
  replace h := l_ifn c1_16 h
  by_cases c1_17 : x0 = 17
  · replace h := l_ifp c1_17 h
    refine vr_tableIn (x := x0) (tgt := 169) (off := 168) d_WR_laterJoint_1 (by rw [c1_17]; decide) (by rw [c1_17]; decide) (by rw [c1_17]; rfl) (by decide) ?_
    refine vr_ldcS 23 d_WR_laterJoint_169 rfl ?_
    cases h
    exact vr_aret d_WR_laterJoint_171 rfl (by first | exact Or.inl ⟨_, rfl⟩ | exact Or.inr ⟨_, rfl⟩) ⟨rfl, rfl⟩
  replace h := l_ifn c1_17 h
  by_cases c1_18 : x0 = 18
  · replace h := l_ifp c1_18 h
    refine vr_tableIn (x := x0) (tgt := 169) (off := 168) d_WR_laterJoint_1 (by rw [c1_18]; decide) (by rw [c1_18]; decide) (by rw [c1_18]; rfl) (by decide) ?_
    refine vr_ldcS 23 d_WR_laterJoint_169 rfl ?_
    cases h
    exact vr_aret d_WR_laterJoint_171 rfl (by first | exact Or.inl ⟨_, rfl⟩ | exact Or.inr ⟨_, rfl⟩) ⟨rfl, rfl⟩
  replace h := l_ifn c1_18 h
  by_cases c1_19 : x0 = 19
  · replace h := l_ifp c1_19 h
    refine vr_tableIn (x := x0) (tgt := 169) (off := 168) d_WR_laterJoint_1 (by rw [c1_19]; decide) (by rw [c1_19]; decide) (by rw [c1_19]; rfl) (by decide) ?_
    refine vr_ldcS 23 d_WR_laterJoint_169 rfl ?_
    cases h
    exact vr_aret d_WR_laterJoint_171 rfl (by first | exact Or.inl ⟨_, rfl⟩ | exact Or.inr ⟨_, rfl⟩) ⟨rfl, rfl⟩
  replace h := l_ifn c1_19 h
  by_cases c1_20 : x0 = 20
  · replace h := l_ifp c1_20 h
    refine vr_tableIn (x := x0) (tgt := 169) (off := 168) d_WR_laterJoint_1 (by rw [c1_20]; decide) (by rw [c1_20]; decide) (by rw [c1_20]; rfl) (by decide) ?_
    refine vr_ldcS 23 d_WR_laterJoint_169 rfl ?_
    cases h
    exact vr_aret d_WR_laterJoint_171 rfl (by first | exact Or.inl ⟨_, rfl⟩ | exact Or.inr ⟨_, rfl⟩) ⟨rfl, rfl⟩
  replace h := l_ifn c1_20 h
  by_cases c1_21 : x0 = 21
  · replace h := l_ifp c1_21 h
    refine vr_tableIn (x := x0) (tgt := 169) (off := 168) d_WR_laterJoint_1 (by rw [c1_21]; decide) (by rw [c1_21]; decide) (by rw [c1_21]; rfl) (by decide) ?_
    refine vr_ldcS 23 d_WR_laterJoint_169 rfl ?_
    cases h
    exact vr_aret d_WR_laterJoint_171 rfl (by first | exact Or.inl ⟨_, rfl⟩ | exact Or.inr ⟨_, rfl⟩) ⟨rfl, rfl⟩
  replace h := l_ifn c1_21 h
  by_cases c1_22 : x0 = 22
  · replace h := l_ifp c1_22 h
    refine vr_tableIn (x := x0) (tgt := 169) (off := 168) d_WR_laterJoint_1 (by rw [c1_22]; decide) (by rw [c1_22]; decide) (by rw [c1_22]; rfl) (by decide) ?_
    refine vr_ldcS 23 d_WR_laterJoint_169 rfl ?_
    cases h
    exact vr_aret d_WR_laterJoint_171 rfl (by first | exact Or.inl ⟨_, rfl⟩ | exact Or.inr ⟨_, rfl⟩) ⟨rfl, rfl⟩
  replace h := l_ifn c1_22 h
  by_cases c1_23 : x0 = 23
  · replace h := l_ifp c1_23 h
    refine vr_tableIn (x := x0) (tgt := 169) (off := 168) d_WR_laterJoint_1 (by rw [c1_23]; decide) (by rw [c1_23]; decide) (by rw [c1_23]; rfl) (by decide) ?_
    refine vr_ldcS 23 d_WR_laterJoint_169 rfl ?_
    cases h
    exact vr_aret d_WR_laterJoint_171 rfl (by first | exact Or.inl ⟨_, rfl⟩ | exact Or.inr ⟨_, rfl⟩) ⟨rfl, rfl⟩
  replace h := l_ifn c1_23 h
  by_cases c1_24 : x0 = 24
  · replace h := l_ifp c1_24 h
    refine vr_tableIn (x := x0) (tgt := 145) (off := 144) d_WR_laterJoint_1 (by rw [c1_24]; decide) (by rw [c1_24]; decide) (by rw [c1_24]; rfl) (by decide) ?_
    refine vr_ldcS 38 d_WR_laterJoint_145 rfl ?_
    cases h
    exact vr_aret d_WR_laterJoint_147 rfl (by first | exact Or.inl ⟨_, rfl⟩ | exact Or.inr ⟨_, rfl⟩) ⟨rfl, rfl⟩
  replace h := l_ifn c1_24 h
  by_cases c1_25 : x0 = 25
  · replace h := l_ifp c1_25 h
    refine vr_tableIn (x := x0) (tgt := 148) (off := 147) d_WR_laterJoint_1 (by rw [c1_25]; decide) (by rw [c1_25]; decide) (by rw [c1_25]; rfl) (by decide) ?_
    refine vr_ldcS 39 d_WR_laterJoint_148 rfl ?_
    cases h
    exact vr_aret d_WR_laterJoint_150 rfl (by first | exact Or.inl ⟨_, rfl⟩ | exact Or.inr ⟨_, rfl⟩) ⟨rfl, rfl⟩
  replace h := l_ifn c1_25 h
  by_cases c1_26 : x0 = 26
  · replace h := l_ifp c1_26 h
    refine vr_tableIn (x := x0) (tgt := 169) (off := 168) d_WR_laterJoint_1 (by rw [c1_26]; decide) (by rw [c1_26]; decide) (by rw [c1_26]; rfl) (by decide) ?_
    refine vr_ldcS 23 d_WR_laterJoint_169 rfl ?_
    cases h
    exact vr_aret d_WR_laterJoint_171 rfl (by first | exact Or.inl ⟨_, rfl⟩ | exact Or.inr ⟨_, rfl⟩) ⟨rfl, rfl⟩
  replace h := l_ifn c1_26 h
  by_cases c1_27 : x0 = 27
  · replace h := l_ifp c1_27 h
    refine vr_tableIn (x := x0) (tgt := 151) (off := 150) d_WR_laterJoint_1 (by rw [c1_27]; decide) (by rw [c1_27]; decide) (by rw [c1_27]; rfl) (by decide) ?_
    refine vr_ldcS 40 d_WR_laterJoint_151 rfl ?_
    cases h
    exact vr_aret d_WR_laterJoint_153 rfl (by first | exact Or.inl ⟨_, rfl⟩ | exact Or.inr ⟨_, rfl⟩) ⟨rfl, rfl⟩
  replace h := l_ifn c1_27 h
  by_cases c1_28 : x0 = 28
  · replace h := l_ifp c1_28 h
    refine vr_tableIn (x := x0) (tgt := 154) (off := 153) d_WR_laterJoint_1 (by rw [c1_28]; decide) (by rw [c1_28]; decide) (by rw [c1_28]; rfl) (by decide) ?_
    refine vr_ldcS 41 d_WR_laterJoint_154 rfl ?_
    cases h
    exact vr_aret d_WR_laterJoint_156 rfl (by first | exact Or.inl ⟨_, rfl⟩ | exact Or.inr ⟨_, rfl⟩) ⟨rfl, rfl⟩
  replace h := l_ifn c1_28 h
  by_cases c1_29 : x0 = 29
  · replace h := l_ifp c1_29 h
    refine vr_tableIn (x := x0) (tgt := 157) (off := 156) d_WR_laterJoint_1 (by rw [c1_29]; decide) (by rw [c1_29]; decide) (by rw [c1_29]; rfl) (by decide) ?_
    refine vr_ldcS 42 d_WR_laterJoint_157 rfl ?_
    cases h
    exact vr_aret d_WR_laterJoint_159 rfl (by first | exact Or.inl ⟨_, rfl⟩ | exact Or.inr ⟨_, rfl⟩) ⟨rfl, rfl⟩
  replace h := l_ifn c1_29 h
  by_cases c1_30 : x0 = 30
  · replace h := l_ifp c1_30 h
    refine vr_tableIn (x := x0) (tgt := 160) (off := 159) d_WR_laterJoint_1 (by rw [c1_30]; decide) (by rw [c1_30]; decide) (by rw [c1_30]; rfl) (by decide) ?_
    refine vr_ldcS 43 d_WR_laterJoint_160 rfl ?_
    cases h
    exact vr_aret d_WR_laterJoint_162 rfl (by first | exact Or.inl ⟨_, rfl⟩ | exact Or.inr ⟨_, rfl⟩) ⟨rfl, rfl⟩
  replace h := l_ifn c1_30 h
  by_cases c1_31 : x0 = 31
  · replace h := l_ifp c1_31 h
    refine vr_tableIn (x := x0) (tgt := 163) (off := 162) d_WR_laterJoint_1 (by rw [c1_31]; decide) (by rw [c1_31]; decide) (by rw [c1_31]; rfl) (by decide) ?_
    refine vr_ldcS 44 d_WR_laterJoint_163 rfl ?_
    cases h
    exact vr_aret d_WR_laterJoint_165 rfl (by first | exact Or.inl ⟨_, rfl⟩ | exact Or.inr ⟨_, rfl⟩) ⟨rfl, rfl⟩
  replace h := l_ifn c1_31 h
  by_cases c1_32 : x0 = 32
  · replace h := l_ifp c1_32 h
    refine vr_tableIn (x := x0) (tgt := 166) (off := 165) d_WR_laterJoint_1 (by rw [c1_32]; decide) (by rw [c1_32]; decide) (by rw [c1_32]; rfl) (by decide) ?_
    refine vr_ldcS 45 d_WR_laterJoint_166 rfl ?_
    cases h
    exact vr_aret d_WR_laterJoint_168 rfl (by first | exact Or.inl ⟨_, rfl⟩ | exact Or.inr ⟨_, rfl⟩) ⟨rfl, rfl⟩
  replace h := l_ifn c1_32 h
  refine vr_tableOut (x := x0) (tgt := 169) d_WR_laterJoint_1 (by have u0 : ¬ (x0).toInt = 3 := l_nk c1_3 rfl; have u1 : ¬ (x0).toInt = 4 := l_nk c1_4 rfl; have u2 : ¬ (x0).toInt = 5 := l_nk c1_5 rfl; have u3 : ¬ (x0).toInt = 6 := l_nk c1_6 rfl; have u4 : ¬ (x0).toInt = 7 := l_nk c1_7 rfl; have u5 : ¬ (x0).toInt = 8 := l_nk c1_8 rfl; have u6 : ¬ (x0).toInt = 9 := l_nk c1_9 rfl; have u7 : ¬ (x0).toInt = 10 := l_nk c1_10 rfl; have u8 : ¬ (x0).toInt = 11 := l_nk c1_11 rfl; have u9 : ¬ (x0).toInt = 12 := l_nk c1_12 rfl; have u10 : ¬ (x0).toInt = 13 := l_nk c1_13 rfl; have u11 : ¬ (x0).toInt = 14 := l_nk c1_14 rfl; have u12 : ¬ (x0).toInt = 15 := l_nk c1_15 rfl; have u13 : ¬ (x0).toInt = 16 := l_nk c1_16 rfl; have u14 : ¬ (x0).toInt = 17 := l_nk c1_17 rfl; have u15 : ¬ (x0).toInt = 18 := l_nk c1_18 rfl; have u16 : ¬ (x0).toInt = 19 := l_nk c1_19 rfl; have u17 : ¬ (x0).toInt = 20 := l_nk c1_20 rfl; have u18 : ¬ (x0).toInt = 21 := l_nk c1_21 rfl; have u19 : ¬ (x0).toInt = 22 := l_nk c1_22 rfl; have u20 : ¬ (x0).toInt = 23 := l_nk c1_23 rfl; have u21 : ¬ (x0).toInt = 24 := l_nk c1_24 rfl; have u22 : ¬ (x0).toInt = 25 := l_nk c1_25 rfl; have u23 : ¬ (x0).toInt = 26 := l_nk c1_26 rfl; have u24 : ¬ (x0).toInt = 27 := l_nk c1_27 rfl; have u25 : ¬ (x0).toInt = 28 := l_nk c1_28 rfl; have u26 : ¬ (x0).toInt = 29 := l_nk c1_29 rfl; have u27 : ¬ (x0).toInt = 30 := l_nk c1_30 rfl; have u28 : ¬ (x0).toInt = 31 := l_nk c1_31 rfl; have u29 : ¬ (x0).toInt = 32 := l_nk c1_32 rfl; omega) (by decide) ?_
  refine vr_ldcS 23 d_WR_laterJoint_169 rfl ?_
  cases h
  exact vr_aret d_WR_laterJoint_171 rfl (by first | exact Or.inl ⟨_, rfl⟩ | exact Or.inr ⟨_, rfl⟩) ⟨rfl, rfl⟩

def f_WR_callJoint (N : Nat) (a0 : Nat) (x1 : Int32) (x2 : Int32) (σ : mh_H) : Option (Nat × mh_H) := if x2 = 0 then (some (23, σ)) else if x2 = 1 then (chk (hT σ a0 = 13) <| rfO (hR σ 6 1 a0) fun b2 => chk (hT σ b2 = 11) <| calI (f_TR_partAt N b2 x1 0 σ) fun v4 s4 => chk (hT s4 b2 = 11) <| calI (f_TR_kindOf N b2 v4 s4) fun v6 s6 => if v6 = 33 then (some (23, s6)) else (some (34, s6))) else if x2 = 2 then (some (32, σ)) else (some (33, σ))
theorem c_WR_callJoint {g : mv_G} {N : Nat} {a0 : Nat} {x1 : Int32} {x2 : Int32} {σ : mh_H} {r : Nat × mh_H} (h : f_WR_callJoint N a0 x1 x2 σ = some r) : mv_Met g M_WR_callJoint 3 66 0 0 [.ref a0, .int x1, .int x2] σ (fun oc τ => τ = r.2 ∧ oc = .returned (some (.ref (mg_K g r.1)))) := by
  refine mv_entry (L := [some (.ref a0), some (.int x1), some (.int x2)]) rfl rfl (Nat.le_of_ble_eq_true rfl) rfl ?_
  unfold f_WR_callJoint at h
  refine vr_iload_n d_WR_callJoint_0 rfl rfl ?_
  by_cases c1_0 : x2 = 0
  · replace h := l_ifp c1_0 h
    refine vr_tableIn (x := x2) (tgt := 28) (off := 27) d_WR_callJoint_1 (by rw [c1_0]; decide) (by rw [c1_0]; decide) (by rw [c1_0]; rfl) (by decide) ?_
    refine vr_ldcS 23 d_WR_callJoint_28 rfl ?_
    cases h
    exact vr_aret d_WR_callJoint_30 rfl (by first | exact Or.inl ⟨_, rfl⟩ | exact Or.inr ⟨_, rfl⟩) ⟨rfl, rfl⟩
  replace h := l_ifn c1_0 h
  by_cases c1_1 : x2 = 1
  · replace h := l_ifp c1_1 h
    refine vr_tableIn (x := x2) (tgt := 31) (off := 30) d_WR_callJoint_1 (by rw [c1_1]; decide) (by rw [c1_1]; decide) (by rw [c1_1]; rfl) (by decide) ?_
    refine vr_aload_n d_WR_callJoint_31 rfl rfl ?_
    have q1 := (l_chk h).1
    replace h := (l_chk h).2
    obtain ⟨b2, eb2, h⟩ := l_rf h
    refine vr_getR (b := b2) d_WR_callJoint_32 F_WR_12 rfl q1 eb2 ?_
    refine vr_aload_n d_WR_callJoint_35 rfl rfl ?_
    refine vr_getR (b := b2) d_WR_callJoint_36 F_WR_12 rfl q1 eb2 ?_
    refine vr_iload_n d_WR_callJoint_39 rfl rfl ?_
    refine vr_iconst 0 d_WR_callJoint_40 (by decide) ?_
    have q3 := (l_chk h).1
    replace h := (l_chk h).2
    obtain ⟨v4, s4, ev4, h⟩ := l_calI h
    refine mh_callI 5 [.int x1, .int 0] d_WR_callJoint_41 C_WR_158 (c_TR_partAt ev4) q3 rfl rfl rfl (Nat.le_of_ble_eq_true rfl) (by decide) (Nat.le_of_ble_eq_true rfl) ?_
    have q5 := (l_chk h).1
    replace h := (l_chk h).2
    obtain ⟨v6, s6, ev6, h⟩ := l_calI h
    refine mh_callI 5 [.int v4] d_WR_callJoint_44 C_WR_87 (c_TR_kindOf ev6) q5 rfl rfl rfl (Nat.le_of_ble_eq_true rfl) (by decide) (Nat.le_of_ble_eq_true rfl) ?_
    refine vr_bipush 33 d_WR_callJoint_47 (by decide) ?_
    refine vr_icmp_ne (tgt := 57) d_WR_callJoint_49 (by decide) (fun c49 => ?_) (fun c49 => ?_)
    · replace h := l_ifn c49 h
      refine vr_ldcS 34 d_WR_callJoint_57 rfl ?_
      cases h
      exact vr_aret d_WR_callJoint_59 rfl (by first | exact Or.inl ⟨_, rfl⟩ | exact Or.inr ⟨_, rfl⟩) ⟨rfl, rfl⟩
    · replace h := l_ifp c49 h
      refine vr_ldcS 23 d_WR_callJoint_52 rfl ?_
      refine vr_goto (tgt := 59) d_WR_callJoint_54 (by decide) ?_
      cases h
      exact vr_aret d_WR_callJoint_59 rfl (by first | exact Or.inl ⟨_, rfl⟩ | exact Or.inr ⟨_, rfl⟩) ⟨rfl, rfl⟩
  replace h := l_ifn c1_1 h
  by_cases c1_2 : x2 = 2
  · replace h := l_ifp c1_2 h
    refine vr_tableIn (x := x2) (tgt := 60) (off := 59) d_WR_callJoint_1 (by rw [c1_2]; decide) (by rw [c1_2]; decide) (by rw [c1_2]; rfl) (by decide) ?_
    refine vr_ldcS 32 d_WR_callJoint_60 rfl ?_
    cases h
    exact vr_aret d_WR_callJoint_62 rfl (by first | exact Or.inl ⟨_, rfl⟩ | exact Or.inr ⟨_, rfl⟩) ⟨rfl, rfl⟩
  replace h := l_ifn c1_2 h
  refine vr_tableOut (x := x2) (tgt := 63) d_WR_callJoint_1 (by have u0 : ¬ (x2).toInt = 0 := l_nk c1_0 rfl; have u1 : ¬ (x2).toInt = 1 := l_nk c1_1 rfl; have u2 : ¬ (x2).toInt = 2 := l_nk c1_2 rfl; omega) (by decide) ?_
  refine vr_ldcS 33 d_WR_callJoint_63 rfl ?_
  cases h
  exact vr_aret d_WR_callJoint_65 rfl (by first | exact Or.inl ⟨_, rfl⟩ | exact Or.inr ⟨_, rfl⟩) ⟨rfl, rfl⟩

def f_WR_functionJoint (N : Nat) (a0 : Nat) (x1 : Int32) (x2 : Int32) (σ : mh_H) : Option (Nat × mh_H) := if x2 = 0 then (some (23, σ)) else (chk (hT σ a0 = 13) <| rfO (hR σ 6 1 a0) fun b2 => chk (hT σ b2 = 11) <| calI (f_TR_partsOf N b2 x1 σ) fun v4 s4 => if x2 = (v4 - 1) then (if x2 = 1 then (some (31, s4)) else (some (30, s4))) else (if x2 = 1 then (some (32, s4)) else (some (33, s4))))
theorem c_WR_functionJoint {g : mv_G} {N : Nat} {a0 : Nat} {x1 : Int32} {x2 : Int32} {σ : mh_H} {r : Nat × mh_H} (h : f_WR_functionJoint N a0 x1 x2 σ = some r) : mv_Met g M_WR_functionJoint 2 42 0 0 [.ref a0, .int x1, .int x2] σ (fun oc τ => τ = r.2 ∧ oc = .returned (some (.ref (mg_K g r.1)))) := by
  refine mv_entry (L := [some (.ref a0), some (.int x1), some (.int x2)]) rfl rfl (Nat.le_of_ble_eq_true rfl) rfl ?_
  unfold f_WR_functionJoint at h
  refine vr_iload_n d_WR_functionJoint_0 rfl rfl ?_
  refine vr_if_ne (tgt := 7) d_WR_functionJoint_1 (by decide) (fun c1 => ?_) (fun c1 => ?_)
  · replace h := l_ifn c1 h
    refine vr_iload_n d_WR_functionJoint_7 rfl rfl ?_
    refine vr_aload_n d_WR_functionJoint_8 rfl rfl ?_
    have q1 := (l_chk h).1
    replace h := (l_chk h).2
    obtain ⟨b2, eb2, h⟩ := l_rf h
    refine vr_getR (b := b2) d_WR_functionJoint_9 F_WR_12 rfl q1 eb2 ?_
    refine vr_iload_n d_WR_functionJoint_12 rfl rfl ?_
    have q3 := (l_chk h).1
    replace h := (l_chk h).2
    obtain ⟨v4, s4, ev4, h⟩ := l_calI h
    refine mh_callI 5 [.int x1] d_WR_functionJoint_13 C_WR_153 (c_TR_partsOf ev4) q3 rfl rfl rfl (Nat.le_of_ble_eq_true rfl) (by decide) (Nat.le_of_ble_eq_true rfl) ?_
    refine vr_iconst 1 d_WR_functionJoint_16 (by decide) ?_
    refine vr_isub d_WR_functionJoint_17 ?_
    refine vr_icmp_ne (tgt := 34) d_WR_functionJoint_18 (by decide) (fun c18 => ?_) (fun c18 => ?_)
    · replace h := l_ifn c18 h
      refine vr_iload_n d_WR_functionJoint_34 rfl rfl ?_
      refine vr_iconst 1 d_WR_functionJoint_35 (by decide) ?_
      refine vr_icmp_ne (tgt := 44) d_WR_functionJoint_36 (by decide) (fun c36 => ?_) (fun c36 => ?_)
      · replace h := l_ifn c36 h
        refine vr_ldcS 33 d_WR_functionJoint_44 rfl ?_
        cases h
        exact vr_aret d_WR_functionJoint_46 rfl (by first | exact Or.inl ⟨_, rfl⟩ | exact Or.inr ⟨_, rfl⟩) ⟨rfl, rfl⟩
      · replace h := l_ifp c36 h
        refine vr_ldcS 32 d_WR_functionJoint_39 rfl ?_
        refine vr_goto (tgt := 46) d_WR_functionJoint_41 (by decide) ?_
        cases h
        exact vr_aret d_WR_functionJoint_46 rfl (by first | exact Or.inl ⟨_, rfl⟩ | exact Or.inr ⟨_, rfl⟩) ⟨rfl, rfl⟩
    · replace h := l_ifp c18 h
      refine vr_iload_n d_WR_functionJoint_21 rfl rfl ?_
      refine vr_iconst 1 d_WR_functionJoint_22 (by decide) ?_
      refine vr_icmp_ne (tgt := 31) d_WR_functionJoint_23 (by decide) (fun c23 => ?_) (fun c23 => ?_)
      · replace h := l_ifn c23 h
        refine vr_ldcS 30 d_WR_functionJoint_31 rfl ?_
        cases h
        exact vr_aret d_WR_functionJoint_33 rfl (by first | exact Or.inl ⟨_, rfl⟩ | exact Or.inr ⟨_, rfl⟩) ⟨rfl, rfl⟩
      · replace h := l_ifp c23 h
        refine vr_ldcS 31 d_WR_functionJoint_26 rfl ?_
        refine vr_goto (tgt := 33) d_WR_functionJoint_28 (by decide) ?_
        cases h
        exact vr_aret d_WR_functionJoint_33 rfl (by first | exact Or.inl ⟨_, rfl⟩ | exact Or.inr ⟨_, rfl⟩) ⟨rfl, rfl⟩
  · replace h := l_ifp c1 h
    refine vr_ldcS 23 d_WR_functionJoint_4 rfl ?_
    cases h
    exact vr_aret d_WR_functionJoint_6 rfl (by first | exact Or.inl ⟨_, rfl⟩ | exact Or.inr ⟨_, rfl⟩) ⟨rfl, rfl⟩

def f_WR_joint (N : Nat) (a0 : Nat) (x1 : Int32) (x2 : Int32) (σ : mh_H) : Option (Nat × mh_H) := chk (hT σ a0 = 13) <| rfO (hR σ 6 1 a0) fun b2 => chk (hT σ b2 = 11) <| calI (f_TR_kindOf N b2 x1 σ) fun v4 s4 => if v4 = 1 then (chk (hT s4 a0 = 13) <| calI (f_WR_functionJoint N a0 x1 x2 s4) fun v6 s6 => some (v6, s6)) else if v4 = 6 then (if x2 = 0 then (some (23, s4)) else (if x2 = 1 then (some (35, s4)) else (some (36, s4)))) else if v4 = 7 then (chk (hT s4 a0 = 13) <| calI (f_WR_callJoint N a0 x1 x2 s4) fun v8 s8 => some (v8, s8)) else if v4 = 8 then (if x2 = 0 then (some (23, s4)) else (if x2 = 1 then (some (30, s4)) else (some (37, s4)))) else if v4 = 16 then (if x2 = 0 then (some (32, s4)) else (some (33, s4))) else (if x2 = 0 then (some (23, s4)) else (chk (hT s4 a0 = 13) <| rfO (hR s4 6 1 a0) fun b10 => chk (hT s4 b10 = 11) <| calI (f_TR_kindOf N b10 x1 s4) fun v12 s12 => calP (f_WR_laterJoint N v12) fun v13 => some (v13, s12)))
theorem c_WR_joint {g : mv_G} {N : Nat} {a0 : Nat} {x1 : Int32} {x2 : Int32} {σ : mh_H} {r : Nat × mh_H} (h : f_WR_joint N a0 x1 x2 σ = some r) : mv_Met g M_WR_joint 4 88 0 0 [.ref a0, .int x1, .int x2] σ (fun oc τ => τ = r.2 ∧ oc = .returned (some (.ref (mg_K g r.1)))) := by
  refine mv_entry (L := [some (.ref a0), some (.int x1), some (.int x2)]) rfl rfl (Nat.le_of_ble_eq_true rfl) rfl ?_
  unfold f_WR_joint at h
  refine vr_aload_n d_WR_joint_0 rfl rfl ?_
  have q1 := (l_chk h).1
  replace h := (l_chk h).2
  obtain ⟨b2, eb2, h⟩ := l_rf h
  refine vr_getR (b := b2) d_WR_joint_1 F_WR_12 rfl q1 eb2 ?_
  refine vr_iload_n d_WR_joint_4 rfl rfl ?_
  have q3 := (l_chk h).1
  replace h := (l_chk h).2
  obtain ⟨v4, s4, ev4, h⟩ := l_calI h
  refine mh_callI 5 [.int x1] d_WR_joint_5 C_WR_87 (c_TR_kindOf ev4) q3 rfl rfl rfl (Nat.le_of_ble_eq_true rfl) (by decide) (Nat.le_of_ble_eq_true rfl) ?_
  by_cases c8_1 : v4 = 1
  · replace h := l_ifp c8_1 h
    refine vr_lookup (x := v4) (tgt := 60) (off := 52) d_WR_joint_8 (by decide) (by rw [c8_1]; decide) (by decide) ?_
    refine vr_aload_n d_WR_joint_60 rfl rfl ?_
    refine vr_iload_n d_WR_joint_61 rfl rfl ?_
    refine vr_iload_n d_WR_joint_62 rfl rfl ?_
    have q5 := (l_chk h).1
    replace h := (l_chk h).2
    obtain ⟨v6, s6, ev6, h⟩ := l_calI h
    refine mh_callT 6 [.int x1, .int x2] d_WR_joint_63 C_WR_132 (c_WR_functionJoint ev6) q5 rfl rfl rfl (Nat.le_of_ble_eq_true rfl) (by decide) (Nat.le_of_ble_eq_true rfl) ?_
    cases h
    exact vr_aret d_WR_joint_66 rfl (by first | exact Or.inl ⟨_, rfl⟩ | exact Or.inr ⟨_, rfl⟩) ⟨rfl, rfl⟩
  replace h := l_ifn c8_1 h
  by_cases c8_6 : v4 = 6
  · replace h := l_ifp c8_6 h
    refine vr_lookup (x := v4) (tgt := 74) (off := 66) d_WR_joint_8 (by decide) (by rw [c8_6]; decide) (by decide) ?_
    refine vr_iload_n d_WR_joint_74 rfl rfl ?_
    refine vr_if_ne (tgt := 83) d_WR_joint_75 (by decide) (fun c75 => ?_) (fun c75 => ?_)
    · replace h := l_ifn c75 h
      refine vr_iload_n d_WR_joint_83 rfl rfl ?_
      refine vr_iconst 1 d_WR_joint_84 (by decide) ?_
      refine vr_icmp_ne (tgt := 93) d_WR_joint_85 (by decide) (fun c85 => ?_) (fun c85 => ?_)
      · replace h := l_ifn c85 h
        refine vr_ldcS 36 d_WR_joint_93 rfl ?_
        cases h
        exact vr_aret d_WR_joint_95 rfl (by first | exact Or.inl ⟨_, rfl⟩ | exact Or.inr ⟨_, rfl⟩) ⟨rfl, rfl⟩
      · replace h := l_ifp c85 h
        refine vr_ldcS 35 d_WR_joint_88 rfl ?_
        refine vr_goto (tgt := 95) d_WR_joint_90 (by decide) ?_
        cases h
        exact vr_aret d_WR_joint_95 rfl (by first | exact Or.inl ⟨_, rfl⟩ | exact Or.inr ⟨_, rfl⟩) ⟨rfl, rfl⟩
    · replace h := l_ifp c75 h
      refine vr_ldcS 23 d_WR_joint_78 rfl ?_
      refine vr_goto (tgt := 95) d_WR_joint_80 (by decide) ?_
      cases h
      exact vr_aret d_WR_joint_95 rfl (by first | exact Or.inl ⟨_, rfl⟩ | exact Or.inr ⟨_, rfl⟩) ⟨rfl, rfl⟩
  replace h := l_ifn c8_6 h
  by_cases c8_7 : v4 = 7
  · replace h := l_ifp c8_7 h
    refine vr_lookup (x := v4) (tgt := 67) (off := 59) d_WR_joint_8 (by decide) (by rw [c8_7]; decide) (by decide) ?_
    refine vr_aload_n d_WR_joint_67 rfl rfl ?_
    refine vr_iload_n d_WR_joint_68 rfl rfl ?_
    refine vr_iload_n d_WR_joint_69 rfl rfl ?_
    have q7 := (l_chk h).1
    replace h := (l_chk h).2
    obtain ⟨v8, s8, ev8, h⟩ := l_calI h
    refine mh_callT 6 [.int x1, .int x2] d_WR_joint_70 C_WR_135 (c_WR_callJoint ev8) q7 rfl rfl rfl (Nat.le_of_ble_eq_true rfl) (by decide) (Nat.le_of_ble_eq_true rfl) ?_
    cases h
    exact vr_aret d_WR_joint_73 rfl (by first | exact Or.inl ⟨_, rfl⟩ | exact Or.inr ⟨_, rfl⟩) ⟨rfl, rfl⟩
  replace h := l_ifn c8_7 h
  by_cases c8_8 : v4 = 8
  · replace h := l_ifp c8_8 h
    refine vr_lookup (x := v4) (tgt := 96) (off := 88) d_WR_joint_8 (by decide) (by rw [c8_8]; decide) (by decide) ?_
    refine vr_iload_n d_WR_joint_96 rfl rfl ?_
    refine vr_if_ne (tgt := 105) d_WR_joint_97 (by decide) (fun c97 => ?_) (fun c97 => ?_)
    · replace h := l_ifn c97 h
      refine vr_iload_n d_WR_joint_105 rfl rfl ?_
      refine vr_iconst 1 d_WR_joint_106 (by decide) ?_
      refine vr_icmp_ne (tgt := 115) d_WR_joint_107 (by decide) (fun c107 => ?_) (fun c107 => ?_)
      · replace h := l_ifn c107 h
        refine vr_ldcS 37 d_WR_joint_115 rfl ?_
        cases h
        exact vr_aret d_WR_joint_117 rfl (by first | exact Or.inl ⟨_, rfl⟩ | exact Or.inr ⟨_, rfl⟩) ⟨rfl, rfl⟩
      · replace h := l_ifp c107 h
        refine vr_ldcS 30 d_WR_joint_110 rfl ?_
        refine vr_goto (tgt := 117) d_WR_joint_112 (by decide) ?_
        cases h
        exact vr_aret d_WR_joint_117 rfl (by first | exact Or.inl ⟨_, rfl⟩ | exact Or.inr ⟨_, rfl⟩) ⟨rfl, rfl⟩
    · replace h := l_ifp c97 h
      refine vr_ldcS 23 d_WR_joint_100 rfl ?_
      refine vr_goto (tgt := 117) d_WR_joint_102 (by decide) ?_
      cases h
      exact vr_aret d_WR_joint_117 rfl (by first | exact Or.inl ⟨_, rfl⟩ | exact Or.inr ⟨_, rfl⟩) ⟨rfl, rfl⟩
  replace h := l_ifn c8_8 h
  by_cases c8_16 : v4 = 16
  · replace h := l_ifp c8_16 h
    refine vr_lookup (x := v4) (tgt := 118) (off := 110) d_WR_joint_8 (by decide) (by rw [c8_16]; decide) (by decide) ?_
    refine vr_iload_n d_WR_joint_118 rfl rfl ?_
    refine vr_if_ne (tgt := 127) d_WR_joint_119 (by decide) (fun c119 => ?_) (fun c119 => ?_)
    · replace h := l_ifn c119 h
      refine vr_ldcS 33 d_WR_joint_127 rfl ?_
      cases h
      exact vr_aret d_WR_joint_129 rfl (by first | exact Or.inl ⟨_, rfl⟩ | exact Or.inr ⟨_, rfl⟩) ⟨rfl, rfl⟩
    · replace h := l_ifp c119 h
      refine vr_ldcS 32 d_WR_joint_122 rfl ?_
      refine vr_goto (tgt := 129) d_WR_joint_124 (by decide) ?_
      cases h
      exact vr_aret d_WR_joint_129 rfl (by first | exact Or.inl ⟨_, rfl⟩ | exact Or.inr ⟨_, rfl⟩) ⟨rfl, rfl⟩
  replace h := l_ifn c8_16 h
  refine vr_lookup (x := v4) (tgt := 130) (off := 122) d_WR_joint_8 (by decide) (by have u0 : ¬ (1 : Int) = (v4).toInt := fun z => l_nk c8_1 rfl z.symm; have u1 : ¬ (6 : Int) = (v4).toInt := fun z => l_nk c8_6 rfl z.symm; have u2 : ¬ (7 : Int) = (v4).toInt := fun z => l_nk c8_7 rfl z.symm; have u3 : ¬ (8 : Int) = (v4).toInt := fun z => l_nk c8_8 rfl z.symm; have u4 : ¬ (16 : Int) = (v4).toInt := fun z => l_nk c8_16 rfl z.symm; simp only [Op.lookupswitch.offset, if_neg u0, if_neg u1, if_neg u2, if_neg u3, if_neg u4]) (by decide) ?_
  refine vr_iload_n d_WR_joint_130 rfl rfl ?_
  refine vr_if_ne (tgt := 139) d_WR_joint_131 (by decide) (fun c131 => ?_) (fun c131 => ?_)
  · replace h := l_ifn c131 h
    refine vr_aload_n d_WR_joint_139 rfl rfl ?_
    have q9 := (l_chk h).1
    replace h := (l_chk h).2
    obtain ⟨b10, eb10, h⟩ := l_rf h
    refine vr_getR (b := b10) d_WR_joint_140 F_WR_12 rfl q9 eb10 ?_
    refine vr_iload_n d_WR_joint_143 rfl rfl ?_
    have q11 := (l_chk h).1
    replace h := (l_chk h).2
    obtain ⟨v12, s12, ev12, h⟩ := l_calI h
    refine mh_callI 5 [.int x1] d_WR_joint_144 C_WR_87 (c_TR_kindOf ev12) q11 rfl rfl rfl (Nat.le_of_ble_eq_true rfl) (by decide) (Nat.le_of_ble_eq_true rfl) ?_
    obtain ⟨v13, ev13, h⟩ := l_calP h
    refine vr_callSPT [.int v12] d_WR_joint_147 C_WR_150 (c_WR_laterJoint ev13) rfl rfl (Nat.le_of_ble_eq_true rfl) (by decide) (Nat.le_of_ble_eq_true rfl) ?_
    cases h
    exact vr_aret d_WR_joint_150 rfl (by first | exact Or.inl ⟨_, rfl⟩ | exact Or.inr ⟨_, rfl⟩) ⟨rfl, rfl⟩
  · replace h := l_ifp c131 h
    refine vr_ldcS 23 d_WR_joint_134 rfl ?_
    refine vr_goto (tgt := 150) d_WR_joint_136 (by decide) ?_
    cases h
    exact vr_aret d_WR_joint_150 rfl (by first | exact Or.inl ⟨_, rfl⟩ | exact Or.inr ⟨_, rfl⟩) ⟨rfl, rfl⟩

def f_WR_beginning (N : Nat) (x0 : Int32) : Option (Nat) := if x0 = 1 then (some (9)) else if x0 = 2 then (some (10)) else if x0 = 3 then (some (11)) else if x0 = 4 then (some (11)) else if x0 = 5 then (some (23)) else if x0 = 6 then (some (23)) else if x0 = 7 then (some (23)) else if x0 = 8 then (some (12)) else if x0 = 9 then (some (13)) else if x0 = 10 then (some (14)) else if x0 = 11 then (some (15)) else if x0 = 12 then (some (23)) else if x0 = 13 then (some (23)) else if x0 = 14 then (some (23)) else if x0 = 15 then (some (18)) else if x0 = 16 then (some (16)) else if x0 = 17 then (some (23)) else if x0 = 18 then (some (17)) else if x0 = 19 then (some (18)) else if x0 = 20 then (some (23)) else if x0 = 21 then (some (19)) else if x0 = 22 then (some (20)) else if x0 = 23 then (some (21)) else if x0 = 24 then (some (23)) else if x0 = 25 then (some (23)) else if x0 = 26 then (some (22)) else (some (23))
theorem c_WR_beginning {g : mv_G} {σ : mh_H} {N : Nat} {x0 : Int32} {r : Nat} (h : f_WR_beginning N x0 = some r) : mv_Met g M_WR_beginning 0 0 0 0 [.int x0] σ (fun oc τ => τ = σ ∧ oc = .returned (some (.ref (mg_K g r)))) := by
  refine mv_entry (L := [some (.int x0)]) rfl rfl (Nat.le_of_ble_eq_true rfl) rfl ?_
  unfold f_WR_beginning at h
  refine vr_iload_n d_WR_beginning_0 rfl rfl ?_
  by_cases c1_1 : x0 = 1
  · replace h := l_ifp c1_1 h
    refine vr_tableIn (x := x0) (tgt := 120) (off := 119) d_WR_beginning_1 (by rw [c1_1]; decide) (by rw [c1_1]; decide) (by rw [c1_1]; rfl) (by decide) ?_
    refine vr_ldcS 9 d_WR_beginning_120 rfl ?_
    cases h
    exact vr_aret d_WR_beginning_122 rfl (by first | exact Or.inl ⟨_, rfl⟩ | exact Or.inr ⟨_, rfl⟩) ⟨rfl, rfl⟩
  replace h := l_ifn c1_1 h
  by_cases c1_2 : x0 = 2
  · replace h := l_ifp c1_2 h
    refine vr_tableIn (x := x0) (tgt := 123) (off := 122) d_WR_beginning_1 (by rw [c1_2]; decide) (by rw [c1_2]; decide) (by rw [c1_2]; rfl) (by decide) ?_
    refine vr_ldcS 10 d_WR_beginning_123 rfl ?_
    cases h
    exact vr_aret d_WR_beginning_125 rfl (by first | exact Or.inl ⟨_, rfl⟩ | exact Or.inr ⟨_, rfl⟩) ⟨rfl, rfl⟩
  replace h := l_ifn c1_2 h
  by_cases c1_3 : x0 = 3
  · replace h := l_ifp c1_3 h
    refine vr_tableIn (x := x0) (tgt := 126) (off := 125) d_WR_beginning_1 (by rw [c1_3]; decide) (by rw [c1_3]; decide) (by rw [c1_3]; rfl) (by decide) ?_
    refine vr_ldcS 11 d_WR_beginning_126 rfl ?_
    cases h
    exact vr_aret d_WR_beginning_128 rfl (by first | exact Or.inl ⟨_, rfl⟩ | exact Or.inr ⟨_, rfl⟩) ⟨rfl, rfl⟩
  replace h := l_ifn c1_3 h
  by_cases c1_4 : x0 = 4
  · replace h := l_ifp c1_4 h
    refine vr_tableIn (x := x0) (tgt := 126) (off := 125) d_WR_beginning_1 (by rw [c1_4]; decide) (by rw [c1_4]; decide) (by rw [c1_4]; rfl) (by decide) ?_
    refine vr_ldcS 11 d_WR_beginning_126 rfl ?_
    cases h
    exact vr_aret d_WR_beginning_128 rfl (by first | exact Or.inl ⟨_, rfl⟩ | exact Or.inr ⟨_, rfl⟩) ⟨rfl, rfl⟩
  replace h := l_ifn c1_4 h
  by_cases c1_5 : x0 = 5
  · replace h := l_ifp c1_5 h
    refine vr_tableIn (x := x0) (tgt := 162) (off := 161) d_WR_beginning_1 (by rw [c1_5]; decide) (by rw [c1_5]; decide) (by rw [c1_5]; rfl) (by decide) ?_
    refine vr_ldcS 23 d_WR_beginning_162 rfl ?_
    cases h
    exact vr_aret d_WR_beginning_164 rfl (by first | exact Or.inl ⟨_, rfl⟩ | exact Or.inr ⟨_, rfl⟩) ⟨rfl, rfl⟩
  replace h := l_ifn c1_5 h
  by_cases c1_6 : x0 = 6
  · replace h := l_ifp c1_6 h
    refine vr_tableIn (x := x0) (tgt := 162) (off := 161) d_WR_beginning_1 (by rw [c1_6]; decide) (by rw [c1_6]; decide) (by rw [c1_6]; rfl) (by decide) ?_
    refine vr_ldcS 23 d_WR_beginning_162 rfl ?_
    cases h
    exact vr_aret d_WR_beginning_164 rfl (by first | exact Or.inl ⟨_, rfl⟩ | exact Or.inr ⟨_, rfl⟩) ⟨rfl, rfl⟩
  replace h := l_ifn c1_6 h
  by_cases c1_7 : x0 = 7
  · replace h := l_ifp c1_7 h
    refine vr_tableIn (x := x0) (tgt := 162) (off := 161) d_WR_beginning_1 (by rw [c1_7]; decide) (by rw [c1_7]; decide) (by rw [c1_7]; rfl) (by decide) ?_
    refine vr_ldcS 23 d_WR_beginning_162 rfl ?_
    cases h
    exact vr_aret d_WR_beginning_164 rfl (by first | exact Or.inl ⟨_, rfl⟩ | exact Or.inr ⟨_, rfl⟩) ⟨rfl, rfl⟩
  replace h := l_ifn c1_7 h
  by_cases c1_8 : x0 = 8
  · replace h := l_ifp c1_8 h
    refine vr_tableIn (x := x0) (tgt := 129) (off := 128) d_WR_beginning_1 (by rw [c1_8]; decide) (by rw [c1_8]; decide) (by rw [c1_8]; rfl) (by decide) ?_
    refine vr_ldcS 12 d_WR_beginning_129 rfl ?_
    cases h
    exact vr_aret d_WR_beginning_131 rfl (by first | exact Or.inl ⟨_, rfl⟩ | exact Or.inr ⟨_, rfl⟩) ⟨rfl, rfl⟩
  replace h := l_ifn c1_8 h
  by_cases c1_9 : x0 = 9
  · replace h := l_ifp c1_9 h
    refine vr_tableIn (x := x0) (tgt := 132) (off := 131) d_WR_beginning_1 (by rw [c1_9]; decide) (by rw [c1_9]; decide) (by rw [c1_9]; rfl) (by decide) ?_
    refine vr_ldcS 13 d_WR_beginning_132 rfl ?_
    cases h
    exact vr_aret d_WR_beginning_134 rfl (by first | exact Or.inl ⟨_, rfl⟩ | exact Or.inr ⟨_, rfl⟩) ⟨rfl, rfl⟩
  replace h := l_ifn c1_9 h
  by_cases c1_10 : x0 = 10
  · replace h := l_ifp c1_10 h
    refine vr_tableIn (x := x0) (tgt := 135) (off := 134) d_WR_beginning_1 (by rw [c1_10]; decide) (by rw [c1_10]; decide) (by rw [c1_10]; rfl) (by decide) ?_
    refine vr_ldcS 14 d_WR_beginning_135 rfl ?_
    cases h
    exact vr_aret d_WR_beginning_137 rfl (by first | exact Or.inl ⟨_, rfl⟩ | exact Or.inr ⟨_, rfl⟩) ⟨rfl, rfl⟩
  replace h := l_ifn c1_10 h
  by_cases c1_11 : x0 = 11
  · replace h := l_ifp c1_11 h
    refine vr_tableIn (x := x0) (tgt := 138) (off := 137) d_WR_beginning_1 (by rw [c1_11]; decide) (by rw [c1_11]; decide) (by rw [c1_11]; rfl) (by decide) ?_
    refine vr_ldcS 15 d_WR_beginning_138 rfl ?_
    cases h
    exact vr_aret d_WR_beginning_140 rfl (by first | exact Or.inl ⟨_, rfl⟩ | exact Or.inr ⟨_, rfl⟩) ⟨rfl, rfl⟩
  replace h := l_ifn c1_11 h
  by_cases c1_12 : x0 = 12
  · replace h := l_ifp c1_12 h
    refine vr_tableIn (x := x0) (tgt := 162) (off := 161) d_WR_beginning_1 (by rw [c1_12]; decide) (by rw [c1_12]; decide) (by rw [c1_12]; rfl) (by decide) ?_
    refine vr_ldcS 23 d_WR_beginning_162 rfl ?_
    cases h
    exact vr_aret d_WR_beginning_164 rfl (by first | exact Or.inl ⟨_, rfl⟩ | exact Or.inr ⟨_, rfl⟩) ⟨rfl, rfl⟩
  replace h := l_ifn c1_12 h
  by_cases c1_13 : x0 = 13
  · replace h := l_ifp c1_13 h
    refine vr_tableIn (x := x0) (tgt := 162) (off := 161) d_WR_beginning_1 (by rw [c1_13]; decide) (by rw [c1_13]; decide) (by rw [c1_13]; rfl) (by decide) ?_
    refine vr_ldcS 23 d_WR_beginning_162 rfl ?_
    cases h
    exact vr_aret d_WR_beginning_164 rfl (by first | exact Or.inl ⟨_, rfl⟩ | exact Or.inr ⟨_, rfl⟩) ⟨rfl, rfl⟩
  replace h := l_ifn c1_13 h
  by_cases c1_14 : x0 = 14
  · replace h := l_ifp c1_14 h
    refine vr_tableIn (x := x0) (tgt := 162) (off := 161) d_WR_beginning_1 (by rw [c1_14]; decide) (by rw [c1_14]; decide) (by rw [c1_14]; rfl) (by decide) ?_
    refine vr_ldcS 23 d_WR_beginning_162 rfl ?_
    cases h
    exact vr_aret d_WR_beginning_164 rfl (by first | exact Or.inl ⟨_, rfl⟩ | exact Or.inr ⟨_, rfl⟩) ⟨rfl, rfl⟩
  replace h := l_ifn c1_14 h
  by_cases c1_15 : x0 = 15
  · replace h := l_ifp c1_15 h
    refine vr_tableIn (x := x0) (tgt := 147) (off := 146) d_WR_beginning_1 (by rw [c1_15]; decide) (by rw [c1_15]; decide) (by rw [c1_15]; rfl) (by decide) ?_
    refine vr_ldcS 18 d_WR_beginning_147 rfl ?_
    cases h
    exact vr_aret d_WR_beginning_149 rfl (by first | exact Or.inl ⟨_, rfl⟩ | exact Or.inr ⟨_, rfl⟩) ⟨rfl, rfl⟩
  replace h := l_ifn c1_15 h
  by_cases c1_16 : x0 = 16
  · replace h := l_ifp c1_16 h
    refine vr_tableIn (x := x0) (tgt := 141) (off := 140) d_WR_beginning_1 (by rw [c1_16]; decide) (by rw [c1_16]; decide) (by rw [c1_16]; rfl) (by decide) ?_
    refine vr_ldcS 16 d_WR_beginning_141 rfl ?_
    cases h
    exact vr_aret d_WR_beginning_143 rfl (by first | exact Or.inl ⟨_, rfl⟩ | exact Or.inr ⟨_, rfl⟩) ⟨rfl, rfl⟩
  replace h := l_ifn c1_16 h
  by_cases c1_17 : x0 = 17
  · replace h := l_ifp c1_17 h
    refine vr_tableIn (x := x0) (tgt := 162) (off := 161) d_WR_beginning_1 (by rw [c1_17]; decide) (by rw [c1_17]; decide) (by rw [c1_17]; rfl) (by decide) ?_
    refine vr_ldcS 23 d_WR_beginning_162 rfl ?_
    cases h
    exact vr_aret d_WR_beginning_164 rfl (by first | exact Or.inl ⟨_, rfl⟩ | exact Or.inr ⟨_, rfl⟩) ⟨rfl, rfl⟩
  replace h := l_ifn c1_17 h
  by_cases c1_18 : x0 = 18
  · replace h := l_ifp c1_18 h
    refine vr_tableIn (x := x0) (tgt := 144) (off := 143) d_WR_beginning_1 (by rw [c1_18]; decide) (by rw [c1_18]; decide) (by rw [c1_18]; rfl) (by decide) ?_
    refine vr_ldcS 17 d_WR_beginning_144 rfl ?_
    cases h
    exact vr_aret d_WR_beginning_146 rfl (by first | exact Or.inl ⟨_, rfl⟩ | exact Or.inr ⟨_, rfl⟩) ⟨rfl, rfl⟩
  replace h := l_ifn c1_18 h
  by_cases c1_19 : x0 = 19
  · replace h := l_ifp c1_19 h
    refine vr_tableIn (x := x0) (tgt := 147) (off := 146) d_WR_beginning_1 (by rw [c1_19]; decide) (by rw [c1_19]; decide) (by rw [c1_19]; rfl) (by decide) ?_
    refine vr_ldcS 18 d_WR_beginning_147 rfl ?_
    cases h
    exact vr_aret d_WR_beginning_149 rfl (by first | exact Or.inl ⟨_, rfl⟩ | exact Or.inr ⟨_, rfl⟩) ⟨rfl, rfl⟩
  replace h := l_ifn c1_19 h
  by_cases c1_20 : x0 = 20
  · replace h := l_ifp c1_20 h
    refine vr_tableIn (x := x0) (tgt := 162) (off := 161) d_WR_beginning_1 (by rw [c1_20]; decide) (by rw [c1_20]; decide) (by rw [c1_20]; rfl) (by decide) ?_
    refine vr_ldcS 23 d_WR_beginning_162 rfl ?_
    cases h
    exact vr_aret d_WR_beginning_164 rfl (by first | exact Or.inl ⟨_, rfl⟩ | exact Or.inr ⟨_, rfl⟩) ⟨rfl, rfl⟩
  replace h := l_ifn c1_20 h
  by_cases c1_21 : x0 = 21
  · replace h := l_ifp c1_21 h
    refine vr_tableIn (x := x0) (tgt := 150) (off := 149) d_WR_beginning_1 (by rw [c1_21]; decide) (by rw [c1_21]; decide) (by rw [c1_21]; rfl) (by decide) ?_
    refine vr_ldcS 19 d_WR_beginning_150 rfl ?_
    cases h
    exact vr_aret d_WR_beginning_152 rfl (by first | exact Or.inl ⟨_, rfl⟩ | exact Or.inr ⟨_, rfl⟩) ⟨rfl, rfl⟩
  replace h := l_ifn c1_21 h
  by_cases c1_22 : x0 = 22
  · replace h := l_ifp c1_22 h
    refine vr_tableIn (x := x0) (tgt := 153) (off := 152) d_WR_beginning_1 (by rw [c1_22]; decide) (by rw [c1_22]; decide) (by rw [c1_22]; rfl) (by decide) ?_
    refine vr_ldcS 20 d_WR_beginning_153 rfl ?_
    cases h
    exact vr_aret d_WR_beginning_155 rfl (by first | exact Or.inl ⟨_, rfl⟩ | exact Or.inr ⟨_, rfl⟩) ⟨rfl, rfl⟩
  replace h := l_ifn c1_22 h
  by_cases c1_23 : x0 = 23
  · replace h := l_ifp c1_23 h
    refine vr_tableIn (x := x0) (tgt := 156) (off := 155) d_WR_beginning_1 (by rw [c1_23]; decide) (by rw [c1_23]; decide) (by rw [c1_23]; rfl) (by decide) ?_
    refine vr_ldcS 21 d_WR_beginning_156 rfl ?_
    cases h
    exact vr_aret d_WR_beginning_158 rfl (by first | exact Or.inl ⟨_, rfl⟩ | exact Or.inr ⟨_, rfl⟩) ⟨rfl, rfl⟩
  replace h := l_ifn c1_23 h
  by_cases c1_24 : x0 = 24
  · replace h := l_ifp c1_24 h
    refine vr_tableIn (x := x0) (tgt := 162) (off := 161) d_WR_beginning_1 (by rw [c1_24]; decide) (by rw [c1_24]; decide) (by rw [c1_24]; rfl) (by decide) ?_
    refine vr_ldcS 23 d_WR_beginning_162 rfl ?_
    cases h
    exact vr_aret d_WR_beginning_164 rfl (by first | exact Or.inl ⟨_, rfl⟩ | exact Or.inr ⟨_, rfl⟩) ⟨rfl, rfl⟩
  replace h := l_ifn c1_24 h
  by_cases c1_25 : x0 = 25
  · replace h := l_ifp c1_25 h
    refine vr_tableIn (x := x0) (tgt := 162) (off := 161) d_WR_beginning_1 (by rw [c1_25]; decide) (by rw [c1_25]; decide) (by rw [c1_25]; rfl) (by decide) ?_
    refine vr_ldcS 23 d_WR_beginning_162 rfl ?_
    cases h
    exact vr_aret d_WR_beginning_164 rfl (by first | exact Or.inl ⟨_, rfl⟩ | exact Or.inr ⟨_, rfl⟩) ⟨rfl, rfl⟩
  replace h := l_ifn c1_25 h
  by_cases c1_26 : x0 = 26
  · replace h := l_ifp c1_26 h
    refine vr_tableIn (x := x0) (tgt := 159) (off := 158) d_WR_beginning_1 (by rw [c1_26]; decide) (by rw [c1_26]; decide) (by rw [c1_26]; rfl) (by decide) ?_
    refine vr_ldcS 22 d_WR_beginning_159 rfl ?_
    cases h
    exact vr_aret d_WR_beginning_161 rfl (by first | exact Or.inl ⟨_, rfl⟩ | exact Or.inr ⟨_, rfl⟩) ⟨rfl, rfl⟩
  replace h := l_ifn c1_26 h
  refine vr_tableOut (x := x0) (tgt := 162) d_WR_beginning_1 (by have u0 : ¬ (x0).toInt = 1 := l_nk c1_1 rfl; have u1 : ¬ (x0).toInt = 2 := l_nk c1_2 rfl; have u2 : ¬ (x0).toInt = 3 := l_nk c1_3 rfl; have u3 : ¬ (x0).toInt = 4 := l_nk c1_4 rfl; have u4 : ¬ (x0).toInt = 5 := l_nk c1_5 rfl; have u5 : ¬ (x0).toInt = 6 := l_nk c1_6 rfl; have u6 : ¬ (x0).toInt = 7 := l_nk c1_7 rfl; have u7 : ¬ (x0).toInt = 8 := l_nk c1_8 rfl; have u8 : ¬ (x0).toInt = 9 := l_nk c1_9 rfl; have u9 : ¬ (x0).toInt = 10 := l_nk c1_10 rfl; have u10 : ¬ (x0).toInt = 11 := l_nk c1_11 rfl; have u11 : ¬ (x0).toInt = 12 := l_nk c1_12 rfl; have u12 : ¬ (x0).toInt = 13 := l_nk c1_13 rfl; have u13 : ¬ (x0).toInt = 14 := l_nk c1_14 rfl; have u14 : ¬ (x0).toInt = 15 := l_nk c1_15 rfl; have u15 : ¬ (x0).toInt = 16 := l_nk c1_16 rfl; have u16 : ¬ (x0).toInt = 17 := l_nk c1_17 rfl; have u17 : ¬ (x0).toInt = 18 := l_nk c1_18 rfl; have u18 : ¬ (x0).toInt = 19 := l_nk c1_19 rfl; have u19 : ¬ (x0).toInt = 20 := l_nk c1_20 rfl; have u20 : ¬ (x0).toInt = 21 := l_nk c1_21 rfl; have u21 : ¬ (x0).toInt = 22 := l_nk c1_22 rfl; have u22 : ¬ (x0).toInt = 23 := l_nk c1_23 rfl; have u23 : ¬ (x0).toInt = 24 := l_nk c1_24 rfl; have u24 : ¬ (x0).toInt = 25 := l_nk c1_25 rfl; have u25 : ¬ (x0).toInt = 26 := l_nk c1_26 rfl; omega) (by decide) ?_
  refine vr_ldcS 23 d_WR_beginning_162 rfl ?_
  cases h
  exact vr_aret d_WR_beginning_164 rfl (by first | exact Or.inl ⟨_, rfl⟩ | exact Or.inr ⟨_, rfl⟩) ⟨rfl, rfl⟩

def f_WR_putGap (N : Nat) (a0 : Nat) (x1 : Int32) (σ : mh_H) : Option (mh_H × Nat × Nat) := calP (f_PR_isWordByte N x1) fun v1 => if v1 = 0 then (some (σ, 0, 0)) else (chk (hT σ a0 = 13) <| rfO (hR σ 6 2 a0) fun b3 => chk (hT σ b3 = 1) <| calI (f_BR_byteAt N b3 (((hI σ 0 1 b3) - 1)) σ) fun v5 s5 => calP (f_PR_isWordByte N v5) fun v6 => if v6 = 0 then (some (s5, 0, 0)) else (chk (hT s5 a0 = 13) <| rfO (hR s5 6 2 a0) fun b8 => chk (hT s5 b8 = 1) <| calA (f_BR_add N b8 32 s5) fun s10 => some (s10, 0, 0)))
theorem c_WR_putGap {g : mv_G} {N : Nat} {a0 : Nat} {x1 : Int32} {σ : mh_H} {r : mh_H × Nat × Nat} (h : f_WR_putGap N a0 x1 σ = some r) : mv_Met g M_WR_putGap 9 184 r.2.1 r.2.2 [.ref a0, .int x1] σ (fun oc τ => τ = r.1 ∧ oc = .returned none) := by
  have key : ∀ cb sb : Nat, r.2.1 ≤ cb → r.2.2 ≤ sb → mv_V g M_WR_putGap 9 184 cb sb 0 [some (.ref a0), some (.int x1)] [] σ (fun oc τ => τ = r.1 ∧ oc = .returned none) := by
    intro cb sb hc hs
    unfold f_WR_putGap at h
    refine vr_iload_n d_WR_putGap_0 rfl rfl ?_
    obtain ⟨v1, ev1, h⟩ := l_calP h
    refine vr_callSP [.int x1] d_WR_putGap_1 C_WR_215 (c_PR_isWordByte ev1) rfl rfl (Nat.le_of_ble_eq_true rfl) (by decide) (Nat.le_of_ble_eq_true rfl) ?_
    refine vr_if_eq (tgt := 38) d_WR_putGap_4 (by decide) (fun c4 => ?_) (fun c4 => ?_)
    · replace h := l_ifp c4 h
      cases h
      exact vr_vret d_WR_putGap_38 rfl ⟨rfl, rfl⟩
    · replace h := l_ifn c4 h
      refine vr_aload_n d_WR_putGap_7 rfl rfl ?_
      have q2 := (l_chk h).1
      replace h := (l_chk h).2
      obtain ⟨b3, eb3, h⟩ := l_rf h
      refine vr_getR (b := b3) d_WR_putGap_8 F_WR_23 rfl q2 eb3 ?_
      refine vr_aload_n d_WR_putGap_11 rfl rfl ?_
      refine vr_getR (b := b3) d_WR_putGap_12 F_WR_23 rfl q2 eb3 ?_
      have q4 := (l_chk h).1
      replace h := (l_chk h).2
      refine vr_getI d_WR_putGap_15 F_WR_218 rfl q4 ?_
      refine vr_iconst 1 d_WR_putGap_18 (by decide) ?_
      refine vr_isub d_WR_putGap_19 ?_
      obtain ⟨v5, s5, ev5, h⟩ := l_calI h
      refine mh_callI 0 [.int ((hI σ 0 1 b3) - 1)] d_WR_putGap_20 C_WR_219 (c_BR_byteAt ev5) q4 rfl rfl rfl (Nat.le_of_ble_eq_true rfl) (by decide) (Nat.le_of_ble_eq_true rfl) ?_
      obtain ⟨v6, ev6, h⟩ := l_calP h
      refine vr_callSP [.int v5] d_WR_putGap_23 C_WR_215 (c_PR_isWordByte ev6) rfl rfl (Nat.le_of_ble_eq_true rfl) (by decide) (Nat.le_of_ble_eq_true rfl) ?_
      refine vr_if_eq (tgt := 38) d_WR_putGap_26 (by decide) (fun c26 => ?_) (fun c26 => ?_)
      · replace h := l_ifp c26 h
        cases h
        exact vr_vret d_WR_putGap_38 rfl ⟨rfl, rfl⟩
      · replace h := l_ifn c26 h
        refine vr_aload_n d_WR_putGap_29 rfl rfl ?_
        have q7 := (l_chk h).1
        replace h := (l_chk h).2
        obtain ⟨b8, eb8, h⟩ := l_rf h
        refine vr_getR (b := b8) d_WR_putGap_30 F_WR_23 rfl q7 eb8 ?_
        refine vr_bipush 32 d_WR_putGap_33 (by decide) ?_
        have q9 := (l_chk h).1
        replace h := (l_chk h).2
        obtain ⟨s10, c10, n10, ev10, r10, x10, y10, hh10, hz⟩ := l_calA h
        clear h
        cases hz
        have h := hh10
        have h110 : c10 ≤ cb := by have hz : x10 + c10 ≤ cb := hc; omega
        have h210 : n10 ≤ sb := by have hz : y10 + n10 ≤ sb := hs; omega
        replace hc : x10 ≤ cb - c10 := by have hz : x10 + c10 ≤ cb := hc; omega
        replace hs : y10 ≤ sb - n10 := by have hz : y10 + n10 ≤ sb := hs; omega
        refine mh_callUa 0 [.int 32] d_WR_putGap_35 C_WR_212 (c_BR_add ev10) q9 rfl rfl rfl (Nat.le_of_ble_eq_true rfl) (by decide) (Nat.le_of_ble_eq_true rfl) h110 h210 ?_
        cases h
        exact vr_vret d_WR_putGap_38 rfl ⟨rfl, rfl⟩
  exact mv_entry (L := [some (.ref a0), some (.int x1)]) rfl rfl (Nat.le_of_ble_eq_true rfl) rfl (key _ _ (Nat.le_refl _) (Nat.le_refl _))

def k_WR_put_19 (N : Nat) : Nat → Nat → Nat → Int32 → mh_H → Option (mh_H × Nat × Nat)
  | 0, _, _, _, _ => none
  | n + 1, y0, y1, y2, σ => chk (y1 < 67) <| if (s_len y1) ≤ y2 then (some (σ, 0, 0)) else (chk (hT σ y0 = 13) <| rfO (hR σ 6 2 y0) fun b8 => chk (y1 < 67) <| chk (ib y2 (s_b y1).length) <| chk (hT σ b8 = 1) <| calA (f_BR_add N b8 ((s_at y1 y2)) σ) fun s12 => k_WR_put_19 N n y0 y1 ((y2 + 1)) s12)
theorem q_WR_put_19 {g : mv_G} {N : Nat} : ∀ (n : Nat) (y0 : Nat) (y1 : Nat) (y2 : Int32) (σ : mh_H) (r : mh_H × Nat × Nat), k_WR_put_19 N n y0 y1 y2 σ = some r → ∀ cb sb : Nat, r.2.1 ≤ cb → r.2.2 ≤ sb → mv_V g M_WR_put 10 205 cb sb 19 [some (.ref y0), some (.ref (mg_K g y1)), some (.int y2)] [] σ (fun oc τ => τ = r.1 ∧ oc = .returned none) := by
  intro n
  induction n with
  | zero =>
    intro y0 y1 y2 σ r h
    exact absurd h (by simp [k_WR_put_19])
  | succ n ih =>
    intro y0 y1 y2 σ r h cb sb hc hs
    unfold k_WR_put_19 at h
    refine vr_iload_n d_WR_put_19 rfl rfl ?_
    refine vr_aload_n d_WR_put_20 rfl rfl ?_
    have q6 := (l_chk h).1
    replace h := (l_chk h).2
    refine vr_strLen d_WR_put_21 C_WR_208 q6 (by decide) (Nat.le_of_ble_eq_true rfl) (Nat.le_of_ble_eq_true rfl) ?_
    refine vr_icmp_ge (tgt := 45) d_WR_put_24 (by decide) (fun c24 => ?_) (fun c24 => ?_)
    · replace h := l_ifp c24 h
      cases h
      exact vr_vret d_WR_put_45 rfl ⟨rfl, rfl⟩
    · replace h := l_ifn c24 h
      refine vr_aload_n d_WR_put_27 rfl rfl ?_
      have q7 := (l_chk h).1
      replace h := (l_chk h).2
      obtain ⟨b8, eb8, h⟩ := l_rf h
      refine vr_getR (b := b8) d_WR_put_28 F_WR_23 rfl q7 eb8 ?_
      refine vr_aload_n d_WR_put_31 rfl rfl ?_
      refine vr_iload_n d_WR_put_32 rfl rfl ?_
      have q9 := (l_chk h).1
      replace h := (l_chk h).2
      have q10 := (l_chk h).1
      replace h := (l_chk h).2
      refine vr_strAt d_WR_put_33 C_WR_201 q9 q10 (by decide) (Nat.le_of_ble_eq_true rfl) (Nat.le_of_ble_eq_true rfl) ?_
      have q11 := (l_chk h).1
      replace h := (l_chk h).2
      obtain ⟨s12, c12, n12, ev12, r12, x12, y12, hh12, hz⟩ := l_calA h
      clear h
      cases hz
      have h := hh12
      have h112 : c12 ≤ cb := by have hz : x12 + c12 ≤ cb := hc; omega
      have h212 : n12 ≤ sb := by have hz : y12 + n12 ≤ sb := hs; omega
      replace hc : x12 ≤ cb - c12 := by have hz : x12 + c12 ≤ cb := hc; omega
      replace hs : y12 ≤ sb - n12 := by have hz : y12 + n12 ≤ sb := hs; omega
      refine mh_callUa 0 [.int (s_at y1 y2)] d_WR_put_36 C_WR_212 (c_BR_add ev12) q11 rfl rfl rfl (Nat.le_of_ble_eq_true rfl) (by decide) (Nat.le_of_ble_eq_true rfl) h112 h212 ?_
      refine vr_iinc (L' := [some (.ref y0), some (.ref (mg_K g y1)), some (.int (y2 + 1))]) (y2 + 1) d_WR_put_39 (by decide) rfl rfl rfl ?_
      refine vr_goto (tgt := 19) d_WR_put_42 (by decide) ?_
      exact mv_drop (ih _ _ _ _ _ h _ _ hc hs) (And.intro rfl (And.intro rfl (And.intro rfl trivial)))

def f_WR_put (N : Nat) (a0 : Nat) (x1 : Nat) (σ : mh_H) : Option (mh_H × Nat × Nat) := chk (x1 < 67) <| if (s_emp x1) = 0 then (chk (x1 < 67) <| chk (ib 0 (s_b x1).length) <| chk (hT σ a0 = 13) <| calA (f_WR_putGap N a0 ((s_at x1 0)) σ) fun s5 => k_WR_put_19 N N a0 x1 0 s5) else (some (σ, 0, 0))
theorem c_WR_put {g : mv_G} {N : Nat} {a0 : Nat} {x1 : Nat} {σ : mh_H} {r : mh_H × Nat × Nat} (h : f_WR_put N a0 x1 σ = some r) : mv_Met g M_WR_put 10 205 r.2.1 r.2.2 [.ref a0, .ref (mg_K g x1)] σ (fun oc τ => τ = r.1 ∧ oc = .returned none) := by
  have key : ∀ cb sb : Nat, r.2.1 ≤ cb → r.2.2 ≤ sb → mv_V g M_WR_put 10 205 cb sb 0 [some (.ref a0), some (.ref (mg_K g x1)), none] [] σ (fun oc τ => τ = r.1 ∧ oc = .returned none) := by
    intro cb sb hc hs
    unfold f_WR_put at h
    refine vr_aload_n d_WR_put_0 rfl rfl ?_
    have q1 := (l_chk h).1
    replace h := (l_chk h).2
    refine vr_strEmpty d_WR_put_1 C_WR_195 q1 (by decide) (Nat.le_of_ble_eq_true rfl) (Nat.le_of_ble_eq_true rfl) ?_
    refine vr_if_eq (tgt := 8) d_WR_put_4 (by decide) (fun c4 => ?_) (fun c4 => ?_)
    · replace h := l_ifp c4 h
      refine vr_aload_n d_WR_put_8 rfl rfl ?_
      refine vr_aload_n d_WR_put_9 rfl rfl ?_
      refine vr_iconst 0 d_WR_put_10 (by decide) ?_
      have q2 := (l_chk h).1
      replace h := (l_chk h).2
      have q3 := (l_chk h).1
      replace h := (l_chk h).2
      refine vr_strAt d_WR_put_11 C_WR_201 q2 q3 (by decide) (Nat.le_of_ble_eq_true rfl) (Nat.le_of_ble_eq_true rfl) ?_
      have q4 := (l_chk h).1
      replace h := (l_chk h).2
      obtain ⟨s5, c5, n5, ev5, r5, x5, y5, hh5, hz⟩ := l_calA h
      clear h
      cases hz
      have h := hh5
      have h15 : c5 ≤ cb := by have hz : x5 + c5 ≤ cb := hc; omega
      have h25 : n5 ≤ sb := by have hz : y5 + n5 ≤ sb := hs; omega
      replace hc : x5 ≤ cb - c5 := by have hz : x5 + c5 ≤ cb := hc; omega
      replace hs : y5 ≤ sb - n5 := by have hz : y5 + n5 ≤ sb := hs; omega
      refine mh_callUa 6 [.int (s_at x1 0)] d_WR_put_14 C_WR_205 (c_WR_putGap ev5) q4 rfl rfl rfl (Nat.le_of_ble_eq_true rfl) (by decide) (Nat.le_of_ble_eq_true rfl) h15 h25 ?_
      refine vr_iconst 0 d_WR_put_17 (by decide) ?_
      refine vr_istore_n (L' := [some (.ref a0), some (.ref (mg_K g x1)), some (.int 0)]) d_WR_put_18 rfl (by decide) rfl ?_
      exact mv_drop (q_WR_put_19 N _ _ _ _ _ h _ _ hc hs) (And.intro rfl (And.intro rfl (And.intro rfl trivial)))
    · replace h := l_ifn c4 h
      cases h
      exact vr_vret d_WR_put_7 rfl ⟨rfl, rfl⟩
  exact mv_entry (L := [some (.ref a0), some (.ref (mg_K g x1)), none]) rfl rfl (Nat.le_of_ble_eq_true rfl) rfl (key _ _ (Nat.le_refl _) (Nat.le_refl _))

def f_WR_putName (N : Nat) (a0 : Nat) (x1 : Int32) (σ : mh_H) : Option (mh_H × Nat × Nat) := chk (hT σ a0 = 13) <| rfO (hR σ 6 0 a0) fun b2 => chk (hT σ b2 = 5) <| calI (f_NA_byteOf N b2 x1 0 σ) fun v4 s4 => chk (hT s4 a0 = 13) <| calA (f_WR_putGap N a0 v4 s4) fun s6 => chk (hT s6 a0 = 13) <| rfO (hR s6 6 0 a0) fun b8 => rfO (hR s6 6 2 a0) fun b9 => chk (hT s6 b8 = 5) <| calA (f_NA_spell N b8 x1 b9 s6) fun s11 => some (s11, 0, 0)
theorem c_WR_putName {g : mv_G} {N : Nat} {a0 : Nat} {x1 : Int32} {σ : mh_H} {r : mh_H × Nat × Nat} (h : f_WR_putName N a0 x1 σ = some r) : mv_Met g M_WR_putName 10 210 r.2.1 r.2.2 [.ref a0, .int x1] σ (fun oc τ => τ = r.1 ∧ oc = .returned none) := by
  have key : ∀ cb sb : Nat, r.2.1 ≤ cb → r.2.2 ≤ sb → mv_V g M_WR_putName 10 210 cb sb 0 [some (.ref a0), some (.int x1)] [] σ (fun oc τ => τ = r.1 ∧ oc = .returned none) := by
    intro cb sb hc hs
    unfold f_WR_putName at h
    refine vr_aload_n d_WR_putName_0 rfl rfl ?_
    refine vr_aload_n d_WR_putName_1 rfl rfl ?_
    have q1 := (l_chk h).1
    replace h := (l_chk h).2
    obtain ⟨b2, eb2, h⟩ := l_rf h
    refine vr_getR (b := b2) d_WR_putName_2 F_WR_27 rfl q1 eb2 ?_
    refine vr_iload_n d_WR_putName_5 rfl rfl ?_
    refine vr_iconst 0 d_WR_putName_6 (by decide) ?_
    have q3 := (l_chk h).1
    replace h := (l_chk h).2
    obtain ⟨v4, s4, ev4, h⟩ := l_calI h
    refine mh_callI 2 [.int x1, .int 0] d_WR_putName_7 C_WR_222 (c_NA_byteOf ev4) q3 rfl rfl rfl (Nat.le_of_ble_eq_true rfl) (by decide) (Nat.le_of_ble_eq_true rfl) ?_
    have q5 := (l_chk h).1
    replace h := (l_chk h).2
    obtain ⟨s6, c6, n6, ev6, r6, x6, y6, hh6, hz⟩ := l_calA h
    clear h
    cases hz
    have h := hh6
    have h16 : c6 ≤ cb := by have hz : x6 + c6 ≤ cb := hc; omega
    have h26 : n6 ≤ sb := by have hz : y6 + n6 ≤ sb := hs; omega
    replace hc : x6 ≤ cb - c6 := by have hz : x6 + c6 ≤ cb := hc; omega
    replace hs : y6 ≤ sb - n6 := by have hz : y6 + n6 ≤ sb := hs; omega
    refine mh_callUa 6 [.int v4] d_WR_putName_10 C_WR_205 (c_WR_putGap ev6) q5 rfl rfl rfl (Nat.le_of_ble_eq_true rfl) (by decide) (Nat.le_of_ble_eq_true rfl) h16 h26 ?_
    refine vr_aload_n d_WR_putName_13 rfl rfl ?_
    have q7 := (l_chk h).1
    replace h := (l_chk h).2
    obtain ⟨b8, eb8, h⟩ := l_rf h
    refine vr_getR (b := b8) d_WR_putName_14 F_WR_27 rfl q7 eb8 ?_
    refine vr_iload_n d_WR_putName_17 rfl rfl ?_
    refine vr_aload_n d_WR_putName_18 rfl rfl ?_
    obtain ⟨b9, eb9, h⟩ := l_rf h
    refine vr_getR (b := b9) d_WR_putName_19 F_WR_23 rfl q7 eb9 ?_
    have q10 := (l_chk h).1
    replace h := (l_chk h).2
    obtain ⟨s11, c11, n11, ev11, r11, x11, y11, hh11, hz⟩ := l_calA h
    clear h
    cases hz
    have h := hh11
    have h111 : c11 ≤ (cb - c6) := by have hz : x11 + c11 ≤ (cb - c6) := hc; omega
    have h211 : n11 ≤ (sb - n6) := by have hz : y11 + n11 ≤ (sb - n6) := hs; omega
    replace hc : x11 ≤ (cb - c6) - c11 := by have hz : x11 + c11 ≤ (cb - c6) := hc; omega
    replace hs : y11 ≤ (sb - n6) - n11 := by have hz : y11 + n11 ≤ (sb - n6) := hs; omega
    refine mh_callUa 2 [.int x1, .ref b9] d_WR_putName_22 C_WR_227 (c_NA_spell ev11) q10 rfl rfl rfl (Nat.le_of_ble_eq_true rfl) (by decide) (Nat.le_of_ble_eq_true rfl) h111 h211 ?_
    cases h
    exact vr_vret d_WR_putName_25 rfl ⟨rfl, rfl⟩
  exact mv_entry (L := [some (.ref a0), some (.int x1)]) rfl rfl (Nat.le_of_ble_eq_true rfl) rfl (key _ _ (Nat.le_refl _) (Nat.le_refl _))

def k_WR_putNumber_66 (N : Nat) (k24 : Nat → Int32 → Int32 → Int32 → mh_H → Option (mh_H × Nat × Nat)) (y0 : Nat) (y2 : Int32) (y3 : Int32) (y4 : Int32) (y5 : Int32) (σ : mh_H) : Option (mh_H × Nat × Nat) := if y3 = 0 then (bnd ((y4 / 10)) fun v12 => k24 y0 y2 y3 v12 σ) else (chk (hT σ y0 = 13) <| rfO (hR σ 6 2 y0) fun b14 => chk (hT σ b14 = 1) <| calA (f_BR_add N b14 y5 σ) fun s16 => bnd ((y4 / 10)) fun v17 => k24 y0 y2 y3 v17 s16)
theorem q_WR_putNumber_66 {g : mv_G} {N : Nat} {k24 : Nat → Int32 → Int32 → Int32 → mh_H → Option (mh_H × Nat × Nat)} (hk24 : ∀ (y0 : Nat) (y2 : Int32) (y3 : Int32) (y4 : Int32) (σ : mh_H) (r : mh_H × Nat × Nat), k24 y0 y2 y3 y4 σ = some r → ∀ cb sb : Nat, r.2.1 ≤ cb → r.2.2 ≤ sb → mv_V g M_WR_putNumber 10 205 cb sb 24 [some (.ref y0), none, some (.int y2), some (.int y3), some (.int y4), none] [] σ (fun oc τ => τ = r.1 ∧ oc = .returned none)) (y0 : Nat) (y2 : Int32) (y3 : Int32) (y4 : Int32) (y5 : Int32) (σ : mh_H) (r : mh_H × Nat × Nat) (h : k_WR_putNumber_66 N k24 y0 y2 y3 y4 y5 σ = some r) : ∀ cb sb : Nat, r.2.1 ≤ cb → r.2.2 ≤ sb → mv_V g M_WR_putNumber 10 205 cb sb 66 [some (.ref y0), none, some (.int y2), some (.int y3), some (.int y4), some (.int y5)] [] σ (fun oc τ => τ = r.1 ∧ oc = .returned none) := by
  intro cb sb hc hs
  unfold k_WR_putNumber_66 at h
  refine vr_iload_n d_WR_putNumber_66 rfl rfl ?_
  refine vr_if_eq (tgt := 79) d_WR_putNumber_67 (by decide) (fun c67 => ?_) (fun c67 => ?_)
  · replace h := l_ifp c67 h
    refine vr_iload d_WR_putNumber_79 rfl ?_
    refine vr_bipush 10 d_WR_putNumber_81 (by decide) ?_
    refine vr_idiv d_WR_putNumber_83 (by decide) ?_
    obtain ⟨v12, ev12, h⟩ := l_bnd h
    refine vr_nm ev12 ?_
    refine vr_istore (L' := [some (.ref y0), none, some (.int y2), some (.int y3), some (.int v12), some (.int y5)]) d_WR_putNumber_84 (by decide) rfl ?_
    refine vr_goto (tgt := 24) d_WR_putNumber_86 (by decide) ?_
    exact mv_drop (hk24 _ _ _ _ _ _ h _ _ hc hs) (And.intro rfl (And.intro rfl (And.intro rfl (And.intro rfl trivial))))
  · replace h := l_ifn c67 h
    refine vr_aload_n d_WR_putNumber_70 rfl rfl ?_
    have q13 := (l_chk h).1
    replace h := (l_chk h).2
    obtain ⟨b14, eb14, h⟩ := l_rf h
    refine vr_getR (b := b14) d_WR_putNumber_71 F_WR_23 rfl q13 eb14 ?_
    refine vr_iload d_WR_putNumber_74 rfl ?_
    have q15 := (l_chk h).1
    replace h := (l_chk h).2
    obtain ⟨s16, c16, n16, ev16, r16, x16, y16, hh16, hz⟩ := l_calA h
    clear h
    cases hz
    have h := hh16
    have h116 : c16 ≤ cb := by have hz : x16 + c16 ≤ cb := hc; omega
    have h216 : n16 ≤ sb := by have hz : y16 + n16 ≤ sb := hs; omega
    replace hc : x16 ≤ cb - c16 := by have hz : x16 + c16 ≤ cb := hc; omega
    replace hs : y16 ≤ sb - n16 := by have hz : y16 + n16 ≤ sb := hs; omega
    refine mh_callUa 0 [.int y5] d_WR_putNumber_76 C_WR_212 (c_BR_add ev16) q15 rfl rfl rfl (Nat.le_of_ble_eq_true rfl) (by decide) (Nat.le_of_ble_eq_true rfl) h116 h216 ?_
    refine vr_iload d_WR_putNumber_79 rfl ?_
    refine vr_bipush 10 d_WR_putNumber_81 (by decide) ?_
    refine vr_idiv d_WR_putNumber_83 (by decide) ?_
    obtain ⟨v17, ev17, h⟩ := l_bnd h
    refine vr_nm ev17 ?_
    refine vr_istore (L' := [some (.ref y0), none, some (.int y2), some (.int y3), some (.int v17), some (.int y5)]) d_WR_putNumber_84 (by decide) rfl ?_
    refine vr_goto (tgt := 24) d_WR_putNumber_86 (by decide) ?_
    exact mv_drop (hk24 _ _ _ _ _ _ h _ _ hc hs) (And.intro rfl (And.intro rfl (And.intro rfl (And.intro rfl trivial))))

def k_WR_putNumber_24 (N : Nat) : Nat → Nat → Int32 → Int32 → Int32 → mh_H → Option (mh_H × Nat × Nat)
  | 0, _, _, _, _, _ => none
  | n + 1, y0, y2, y3, y4, σ => if y4 ≤ 0 then (some (σ, 0, 0)) else (chk (¬ y4 = 0) <| bnd ((48 + ((y2 / y4) - (y2 / y4) / 10 * 10))) fun v7 => if y3 = 0 then (if v7 = 48 then (if y4 = 1 then (chk (hT σ y0 = 13) <| calA (f_WR_putGap N y0 v7 σ) fun s11 => k_WR_putNumber_66 N (k_WR_putNumber_24 N n) y0 y2 1 y4 v7 s11) else (k_WR_putNumber_66 N (k_WR_putNumber_24 N n) y0 y2 y3 y4 v7 σ)) else (chk (hT σ y0 = 13) <| calA (f_WR_putGap N y0 v7 σ) fun s9 => k_WR_putNumber_66 N (k_WR_putNumber_24 N n) y0 y2 1 y4 v7 s9)) else (k_WR_putNumber_66 N (k_WR_putNumber_24 N n) y0 y2 y3 y4 v7 σ))
theorem q_WR_putNumber_24 {g : mv_G} {N : Nat} : ∀ (n : Nat) (y0 : Nat) (y2 : Int32) (y3 : Int32) (y4 : Int32) (σ : mh_H) (r : mh_H × Nat × Nat), k_WR_putNumber_24 N n y0 y2 y3 y4 σ = some r → ∀ cb sb : Nat, r.2.1 ≤ cb → r.2.2 ≤ sb → mv_V g M_WR_putNumber 10 205 cb sb 24 [some (.ref y0), none, some (.int y2), some (.int y3), some (.int y4), none] [] σ (fun oc τ => τ = r.1 ∧ oc = .returned none) := by
  intro n
  induction n with
  | zero =>
    intro y0 y2 y3 y4 σ r h
    exact absurd h (by simp [k_WR_putNumber_24])
  | succ n ih =>
    intro y0 y2 y3 y4 σ r h cb sb hc hs
    unfold k_WR_putNumber_24 at h
    refine vr_iload d_WR_putNumber_24 rfl ?_
    refine vr_if_le (tgt := 89) d_WR_putNumber_26 (by decide) (fun c26 => ?_) (fun c26 => ?_)
    · replace h := l_ifp c26 h
      cases h
      exact vr_vret d_WR_putNumber_89 rfl ⟨rfl, rfl⟩
    · replace h := l_ifn c26 h
      refine vr_bipush 48 d_WR_putNumber_29 (by decide) ?_
      refine vr_iload_n d_WR_putNumber_31 rfl rfl ?_
      refine vr_iload d_WR_putNumber_32 rfl ?_
      have q6 := (l_chk h).1
      replace h := (l_chk h).2
      refine vr_idiv d_WR_putNumber_34 q6 ?_
      refine vr_bipush 10 d_WR_putNumber_35 (by decide) ?_
      refine vr_irem d_WR_putNumber_37 (by decide) ?_
      refine vr_iadd d_WR_putNumber_38 ?_
      obtain ⟨v7, ev7, h⟩ := l_bnd h
      refine vr_nm ev7 ?_
      refine vr_istore (L' := [some (.ref y0), none, some (.int y2), some (.int y3), some (.int y4), some (.int v7)]) d_WR_putNumber_39 (by decide) rfl ?_
      refine vr_iload_n d_WR_putNumber_41 rfl rfl ?_
      refine vr_if_ne (tgt := 66) d_WR_putNumber_42 (by decide) (fun c42 => ?_) (fun c42 => ?_)
      · replace h := l_ifn c42 h
        exact mv_drop (q_WR_putNumber_66 ih _ _ _ _ _ _ _ h _ _ hc hs) (And.intro rfl (And.intro rfl (And.intro rfl (And.intro rfl (And.intro rfl trivial)))))
      · replace h := l_ifp c42 h
        refine vr_iload d_WR_putNumber_45 rfl ?_
        refine vr_bipush 48 d_WR_putNumber_47 (by decide) ?_
        refine vr_icmp_ne (tgt := 58) d_WR_putNumber_49 (by decide) (fun c49 => ?_) (fun c49 => ?_)
        · replace h := l_ifn c49 h
          refine vr_aload_n d_WR_putNumber_58 rfl rfl ?_
          refine vr_iload d_WR_putNumber_59 rfl ?_
          have q8 := (l_chk h).1
          replace h := (l_chk h).2
          obtain ⟨s9, c9, n9, ev9, r9, x9, y9, hh9, hz⟩ := l_calA h
          clear h
          cases hz
          have h := hh9
          have h19 : c9 ≤ cb := by have hz : x9 + c9 ≤ cb := hc; omega
          have h29 : n9 ≤ sb := by have hz : y9 + n9 ≤ sb := hs; omega
          replace hc : x9 ≤ cb - c9 := by have hz : x9 + c9 ≤ cb := hc; omega
          replace hs : y9 ≤ sb - n9 := by have hz : y9 + n9 ≤ sb := hs; omega
          refine mh_callUa 6 [.int v7] d_WR_putNumber_61 C_WR_205 (c_WR_putGap ev9) q8 rfl rfl rfl (Nat.le_of_ble_eq_true rfl) (by decide) (Nat.le_of_ble_eq_true rfl) h19 h29 ?_
          refine vr_iconst 1 d_WR_putNumber_64 (by decide) ?_
          refine vr_istore_n (L' := [some (.ref y0), none, some (.int y2), some (.int 1), some (.int y4), some (.int v7)]) d_WR_putNumber_65 rfl (by decide) rfl ?_
          exact mv_drop (q_WR_putNumber_66 ih _ _ _ _ _ _ _ h _ _ hc hs) (And.intro rfl (And.intro rfl (And.intro rfl (And.intro rfl (And.intro rfl trivial)))))
        · replace h := l_ifp c49 h
          refine vr_iload d_WR_putNumber_52 rfl ?_
          refine vr_iconst 1 d_WR_putNumber_54 (by decide) ?_
          refine vr_icmp_ne (tgt := 66) d_WR_putNumber_55 (by decide) (fun c55 => ?_) (fun c55 => ?_)
          · replace h := l_ifn c55 h
            exact mv_drop (q_WR_putNumber_66 ih _ _ _ _ _ _ _ h _ _ hc hs) (And.intro rfl (And.intro rfl (And.intro rfl (And.intro rfl (And.intro rfl trivial)))))
          · replace h := l_ifp c55 h
            refine vr_aload_n d_WR_putNumber_58 rfl rfl ?_
            refine vr_iload d_WR_putNumber_59 rfl ?_
            have q10 := (l_chk h).1
            replace h := (l_chk h).2
            obtain ⟨s11, c11, n11, ev11, r11, x11, y11, hh11, hz⟩ := l_calA h
            clear h
            cases hz
            have h := hh11
            have h111 : c11 ≤ cb := by have hz : x11 + c11 ≤ cb := hc; omega
            have h211 : n11 ≤ sb := by have hz : y11 + n11 ≤ sb := hs; omega
            replace hc : x11 ≤ cb - c11 := by have hz : x11 + c11 ≤ cb := hc; omega
            replace hs : y11 ≤ sb - n11 := by have hz : y11 + n11 ≤ sb := hs; omega
            refine mh_callUa 6 [.int v7] d_WR_putNumber_61 C_WR_205 (c_WR_putGap ev11) q10 rfl rfl rfl (Nat.le_of_ble_eq_true rfl) (by decide) (Nat.le_of_ble_eq_true rfl) h111 h211 ?_
            refine vr_iconst 1 d_WR_putNumber_64 (by decide) ?_
            refine vr_istore_n (L' := [some (.ref y0), none, some (.int y2), some (.int 1), some (.int y4), some (.int v7)]) d_WR_putNumber_65 rfl (by decide) rfl ?_
            exact mv_drop (q_WR_putNumber_66 ih _ _ _ _ _ _ _ h _ _ hc hs) (And.intro rfl (And.intro rfl (And.intro rfl (And.intro rfl (And.intro rfl trivial)))))

def k_WR_putNumber_13 (N : Nat) (y0 : Nat) (y1 : Int32) (σ : mh_H) : Option (mh_H × Nat × Nat) := calP (f_MA_abs N y1) fun v5 => k_WR_putNumber_24 N N y0 v5 0 1000000000 σ
theorem q_WR_putNumber_13 {g : mv_G} {N : Nat} (y0 : Nat) (y1 : Int32) (σ : mh_H) (r : mh_H × Nat × Nat) (h : k_WR_putNumber_13 N y0 y1 σ = some r) : ∀ cb sb : Nat, r.2.1 ≤ cb → r.2.2 ≤ sb → mv_V g M_WR_putNumber 10 205 cb sb 13 [some (.ref y0), some (.int y1), none, none, none, none] [] σ (fun oc τ => τ = r.1 ∧ oc = .returned none) := by
  intro cb sb hc hs
  unfold k_WR_putNumber_13 at h
  refine vr_iload_n d_WR_putNumber_13 rfl rfl ?_
  obtain ⟨v5, ev5, h⟩ := l_calP h
  refine vr_callSP [.int y1] d_WR_putNumber_14 C_WR_231 (c_MA_abs ev5) rfl rfl (Nat.le_of_ble_eq_true rfl) (by decide) (Nat.le_of_ble_eq_true rfl) ?_
  refine vr_istore_n (L' := [some (.ref y0), some (.int y1), some (.int v5), none, none, none]) d_WR_putNumber_17 rfl (by decide) rfl ?_
  refine vr_iconst 0 d_WR_putNumber_18 (by decide) ?_
  refine vr_istore_n (L' := [some (.ref y0), some (.int y1), some (.int v5), some (.int 0), none, none]) d_WR_putNumber_19 rfl (by decide) rfl ?_
  refine vr_ldc d_WR_putNumber_20 w_756 ?_
  refine vr_istore (L' := [some (.ref y0), some (.int y1), some (.int v5), some (.int 0), some (.int 1000000000), none]) d_WR_putNumber_22 (by decide) rfl ?_
  exact mv_drop (q_WR_putNumber_24 N _ _ _ _ _ _ h _ _ hc hs) (And.intro rfl (And.intro rfl (And.intro rfl (And.intro rfl trivial))))

def f_WR_putNumber (N : Nat) (a0 : Nat) (x1 : Int32) (σ : mh_H) : Option (mh_H × Nat × Nat) := if 0 ≤ x1 then (k_WR_putNumber_13 N a0 x1 σ) else (chk (hT σ a0 = 13) <| rfO (hR σ 6 2 a0) fun b2 => chk (hT σ b2 = 1) <| calA (f_BR_add N b2 45 σ) fun s4 => k_WR_putNumber_13 N a0 x1 s4)
theorem c_WR_putNumber {g : mv_G} {N : Nat} {a0 : Nat} {x1 : Int32} {σ : mh_H} {r : mh_H × Nat × Nat} (h : f_WR_putNumber N a0 x1 σ = some r) : mv_Met g M_WR_putNumber 10 205 r.2.1 r.2.2 [.ref a0, .int x1] σ (fun oc τ => τ = r.1 ∧ oc = .returned none) := by
  have key : ∀ cb sb : Nat, r.2.1 ≤ cb → r.2.2 ≤ sb → mv_V g M_WR_putNumber 10 205 cb sb 0 [some (.ref a0), some (.int x1), none, none, none, none] [] σ (fun oc τ => τ = r.1 ∧ oc = .returned none) := by
    intro cb sb hc hs
    unfold f_WR_putNumber at h
    refine vr_iload_n d_WR_putNumber_0 rfl rfl ?_
    refine vr_if_ge (tgt := 13) d_WR_putNumber_1 (by decide) (fun c1 => ?_) (fun c1 => ?_)
    · replace h := l_ifp c1 h
      exact mv_drop (q_WR_putNumber_13 _ _ _ _ h _ _ hc hs) (And.intro rfl (And.intro rfl trivial))
    · replace h := l_ifn c1 h
      refine vr_aload_n d_WR_putNumber_4 rfl rfl ?_
      have q1 := (l_chk h).1
      replace h := (l_chk h).2
      obtain ⟨b2, eb2, h⟩ := l_rf h
      refine vr_getR (b := b2) d_WR_putNumber_5 F_WR_23 rfl q1 eb2 ?_
      refine vr_bipush 45 d_WR_putNumber_8 (by decide) ?_
      have q3 := (l_chk h).1
      replace h := (l_chk h).2
      obtain ⟨s4, c4, n4, ev4, r4, x4, y4, hh4, hz⟩ := l_calA h
      clear h
      cases hz
      have h := hh4
      have h14 : c4 ≤ cb := by have hz : x4 + c4 ≤ cb := hc; omega
      have h24 : n4 ≤ sb := by have hz : y4 + n4 ≤ sb := hs; omega
      replace hc : x4 ≤ cb - c4 := by have hz : x4 + c4 ≤ cb := hc; omega
      replace hs : y4 ≤ sb - n4 := by have hz : y4 + n4 ≤ sb := hs; omega
      refine mh_callUa 0 [.int 45] d_WR_putNumber_10 C_WR_212 (c_BR_add ev4) q3 rfl rfl rfl (Nat.le_of_ble_eq_true rfl) (by decide) (Nat.le_of_ble_eq_true rfl) h14 h24 ?_
      exact mv_drop (q_WR_putNumber_13 _ _ _ _ h _ _ hc hs) (And.intro rfl (And.intro rfl trivial))
  exact mv_entry (L := [some (.ref a0), some (.int x1), none, none, none, none]) rfl rfl (Nat.le_of_ble_eq_true rfl) rfl (key _ _ (Nat.le_refl _) (Nat.le_refl _))

def f_WR_begin (N : Nat) (a0 : Nat) (x1 : Int32) (σ : mh_H) : Option (mh_H × Nat × Nat) := chk (hT σ a0 = 13) <| rfO (hR σ 6 1 a0) fun b2 => chk (hT σ b2 = 11) <| calI (f_TR_kindOf N b2 x1 σ) fun v4 s4 => if v4 = 12 then (chk (hT s4 a0 = 13) <| rfO (hR s4 6 1 a0) fun b15 => chk (hT s4 b15 = 11) <| calI (f_TR_valueOf N b15 x1 s4) fun v17 s17 => chk (hT s17 a0 = 13) <| calA (f_WR_putNumber N a0 v17 s17) fun s19 => some (s19, 0, 0)) else (if v4 = 13 then (chk (hT s4 a0 = 13) <| rfO (hR s4 6 1 a0) fun b9 => chk (hT s4 b9 = 11) <| calI (f_TR_valueOf N b9 x1 s4) fun v11 s11 => chk (hT s11 a0 = 13) <| calA (f_WR_putName N a0 v11 s11) fun s13 => some (s13, 0, 0)) else (calP (f_WR_beginning N v4) fun v5 => chk (hT s4 a0 = 13) <| calA (f_WR_put N a0 v5 s4) fun s7 => some (s7, 0, 0)))
theorem c_WR_begin {g : mv_G} {N : Nat} {a0 : Nat} {x1 : Int32} {σ : mh_H} {r : mh_H × Nat × Nat} (h : f_WR_begin N a0 x1 σ = some r) : mv_Met g M_WR_begin 11 231 r.2.1 r.2.2 [.ref a0, .int x1] σ (fun oc τ => τ = r.1 ∧ oc = .returned none) := by
  have key : ∀ cb sb : Nat, r.2.1 ≤ cb → r.2.2 ≤ sb → mv_V g M_WR_begin 11 231 cb sb 0 [some (.ref a0), some (.int x1), none] [] σ (fun oc τ => τ = r.1 ∧ oc = .returned none) := by
    intro cb sb hc hs
    unfold f_WR_begin at h
    refine vr_aload_n d_WR_begin_0 rfl rfl ?_
    have q1 := (l_chk h).1
    replace h := (l_chk h).2
    obtain ⟨b2, eb2, h⟩ := l_rf h
    refine vr_getR (b := b2) d_WR_begin_1 F_WR_12 rfl q1 eb2 ?_
    refine vr_iload_n d_WR_begin_4 rfl rfl ?_
    have q3 := (l_chk h).1
    replace h := (l_chk h).2
    obtain ⟨v4, s4, ev4, h⟩ := l_calI h
    refine mh_callI 5 [.int x1] d_WR_begin_5 C_WR_87 (c_TR_kindOf ev4) q3 rfl rfl rfl (Nat.le_of_ble_eq_true rfl) (by decide) (Nat.le_of_ble_eq_true rfl) ?_
    refine vr_istore_n (L' := [some (.ref a0), some (.int x1), some (.int v4)]) d_WR_begin_8 rfl (by decide) rfl ?_
    refine vr_iload_n d_WR_begin_9 rfl rfl ?_
    refine vr_bipush 12 d_WR_begin_10 (by decide) ?_
    refine vr_icmp_ne (tgt := 30) d_WR_begin_12 (by decide) (fun c12 => ?_) (fun c12 => ?_)
    · replace h := l_ifn c12 h
      refine vr_iload_n d_WR_begin_30 rfl rfl ?_
      refine vr_bipush 13 d_WR_begin_31 (by decide) ?_
      refine vr_icmp_ne (tgt := 51) d_WR_begin_33 (by decide) (fun c33 => ?_) (fun c33 => ?_)
      · replace h := l_ifn c33 h
        refine vr_aload_n d_WR_begin_51 rfl rfl ?_
        refine vr_iload_n d_WR_begin_52 rfl rfl ?_
        obtain ⟨v5, ev5, h⟩ := l_calP h
        refine vr_callSPT [.int v4] d_WR_begin_53 C_WR_101 (c_WR_beginning ev5) rfl rfl (Nat.le_of_ble_eq_true rfl) (by decide) (Nat.le_of_ble_eq_true rfl) ?_
        have q6 := (l_chk h).1
        replace h := (l_chk h).2
        obtain ⟨s7, c7, n7, ev7, r7, x7, y7, hh7, hz⟩ := l_calA h
        clear h
        cases hz
        have h := hh7
        have h17 : c7 ≤ cb := by have hz : x7 + c7 ≤ cb := hc; omega
        have h27 : n7 ≤ sb := by have hz : y7 + n7 ≤ sb := hs; omega
        replace hc : x7 ≤ cb - c7 := by have hz : x7 + c7 ≤ cb := hc; omega
        replace hs : y7 ≤ sb - n7 := by have hz : y7 + n7 ≤ sb := hs; omega
        refine mh_callUa 6 [.ref (mg_K g v5)] d_WR_begin_56 C_WR_64 (c_WR_put ev7) q6 rfl rfl rfl (Nat.le_of_ble_eq_true rfl) (by decide) (Nat.le_of_ble_eq_true rfl) h17 h27 ?_
        cases h
        exact vr_vret d_WR_begin_59 rfl ⟨rfl, rfl⟩
      · replace h := l_ifp c33 h
        refine vr_aload_n d_WR_begin_36 rfl rfl ?_
        refine vr_aload_n d_WR_begin_37 rfl rfl ?_
        have q8 := (l_chk h).1
        replace h := (l_chk h).2
        obtain ⟨b9, eb9, h⟩ := l_rf h
        refine vr_getR (b := b9) d_WR_begin_38 F_WR_12 rfl q8 eb9 ?_
        refine vr_iload_n d_WR_begin_41 rfl rfl ?_
        have q10 := (l_chk h).1
        replace h := (l_chk h).2
        obtain ⟨v11, s11, ev11, h⟩ := l_calI h
        refine mh_callI 5 [.int x1] d_WR_begin_42 C_WR_92 (c_TR_valueOf ev11) q10 rfl rfl rfl (Nat.le_of_ble_eq_true rfl) (by decide) (Nat.le_of_ble_eq_true rfl) ?_
        have q12 := (l_chk h).1
        replace h := (l_chk h).2
        obtain ⟨s13, c13, n13, ev13, r13, x13, y13, hh13, hz⟩ := l_calA h
        clear h
        cases hz
        have h := hh13
        have h113 : c13 ≤ cb := by have hz : x13 + c13 ≤ cb := hc; omega
        have h213 : n13 ≤ sb := by have hz : y13 + n13 ≤ sb := hs; omega
        replace hc : x13 ≤ cb - c13 := by have hz : x13 + c13 ≤ cb := hc; omega
        replace hs : y13 ≤ sb - n13 := by have hz : y13 + n13 ≤ sb := hs; omega
        refine mh_callUa 6 [.int v11] d_WR_begin_45 C_WR_98 (c_WR_putName ev13) q12 rfl rfl rfl (Nat.le_of_ble_eq_true rfl) (by decide) (Nat.le_of_ble_eq_true rfl) h113 h213 ?_
        refine vr_goto (tgt := 59) d_WR_begin_48 (by decide) ?_
        cases h
        exact vr_vret d_WR_begin_59 rfl ⟨rfl, rfl⟩
    · replace h := l_ifp c12 h
      refine vr_aload_n d_WR_begin_15 rfl rfl ?_
      refine vr_aload_n d_WR_begin_16 rfl rfl ?_
      have q14 := (l_chk h).1
      replace h := (l_chk h).2
      obtain ⟨b15, eb15, h⟩ := l_rf h
      refine vr_getR (b := b15) d_WR_begin_17 F_WR_12 rfl q14 eb15 ?_
      refine vr_iload_n d_WR_begin_20 rfl rfl ?_
      have q16 := (l_chk h).1
      replace h := (l_chk h).2
      obtain ⟨v17, s17, ev17, h⟩ := l_calI h
      refine mh_callI 5 [.int x1] d_WR_begin_21 C_WR_92 (c_TR_valueOf ev17) q16 rfl rfl rfl (Nat.le_of_ble_eq_true rfl) (by decide) (Nat.le_of_ble_eq_true rfl) ?_
      have q18 := (l_chk h).1
      replace h := (l_chk h).2
      obtain ⟨s19, c19, n19, ev19, r19, x19, y19, hh19, hz⟩ := l_calA h
      clear h
      cases hz
      have h := hh19
      have h119 : c19 ≤ cb := by have hz : x19 + c19 ≤ cb := hc; omega
      have h219 : n19 ≤ sb := by have hz : y19 + n19 ≤ sb := hs; omega
      replace hc : x19 ≤ cb - c19 := by have hz : x19 + c19 ≤ cb := hc; omega
      replace hs : y19 ≤ sb - n19 := by have hz : y19 + n19 ≤ sb := hs; omega
      refine mh_callUa 6 [.int v17] d_WR_begin_24 C_WR_95 (c_WR_putNumber ev19) q18 rfl rfl rfl (Nat.le_of_ble_eq_true rfl) (by decide) (Nat.le_of_ble_eq_true rfl) h119 h219 ?_
      refine vr_goto (tgt := 59) d_WR_begin_27 (by decide) ?_
      cases h
      exact vr_vret d_WR_begin_59 rfl ⟨rfl, rfl⟩
  exact mv_entry (L := [some (.ref a0), some (.int x1), none]) rfl rfl (Nat.le_of_ble_eq_true rfl) rfl (key _ _ (Nat.le_refl _) (Nat.le_refl _))

def k_WR_endDownTo_50 (N : Nat) (k5 : Nat → Int32 → Int32 → Int32 → mh_H → Option (mh_H × Nat × Nat)) (y0 : Nat) (y1 : Int32) (y3 : Int32) (y4 : Int32) (z0 : Nat) (z1 : Nat) (σ : mh_H) : Option (mh_H × Nat × Nat) := chk (hT σ z1 = 13) <| calA (f_WR_put N z1 z0 σ) fun s12 => chk (hT s12 y0 = 13) <| rfO (hR s12 6 1 y0) fun b14 => chk (hT s12 b14 = 11) <| calI (f_TR_wholeOf N b14 y3 s12) fun v16 s16 => k5 y0 y1 v16 ((y4 + 1)) s16
theorem q_WR_endDownTo_50 {g : mv_G} {N : Nat} {k5 : Nat → Int32 → Int32 → Int32 → mh_H → Option (mh_H × Nat × Nat)} (hk5 : ∀ (y0 : Nat) (y1 : Int32) (y3 : Int32) (y4 : Int32) (σ : mh_H) (r : mh_H × Nat × Nat), k5 y0 y1 y3 y4 σ = some r → ∀ cb sb : Nat, r.2.1 ≤ cb → r.2.2 ≤ sb → mv_V g M_WR_endDownTo 11 227 cb sb 5 [some (.ref y0), some (.int y1), none, some (.int y3), some (.int y4)] [] σ (fun oc τ => τ = r.1 ∧ oc = .returned none)) (y0 : Nat) (y1 : Int32) (y3 : Int32) (y4 : Int32) (z0 : Nat) (z1 : Nat) (σ : mh_H) (r : mh_H × Nat × Nat) (h : k_WR_endDownTo_50 N k5 y0 y1 y3 y4 z0 z1 σ = some r) : ∀ cb sb : Nat, r.2.1 ≤ cb → r.2.2 ≤ sb → mv_V g M_WR_endDownTo 11 227 cb sb 50 [some (.ref y0), some (.int y1), none, some (.int y3), some (.int y4)] [.ref (mg_K g z0), .ref z1] σ (fun oc τ => τ = r.1 ∧ oc = .returned none) := by
  intro cb sb hc hs
  unfold k_WR_endDownTo_50 at h
  have q11 := (l_chk h).1
  replace h := (l_chk h).2
  obtain ⟨s12, c12, n12, ev12, r12, x12, y12, hh12, hz⟩ := l_calA h
  clear h
  cases hz
  have h := hh12
  have h112 : c12 ≤ cb := by have hz : x12 + c12 ≤ cb := hc; omega
  have h212 : n12 ≤ sb := by have hz : y12 + n12 ≤ sb := hs; omega
  replace hc : x12 ≤ cb - c12 := by have hz : x12 + c12 ≤ cb := hc; omega
  replace hs : y12 ≤ sb - n12 := by have hz : y12 + n12 ≤ sb := hs; omega
  refine mh_callUa 6 [.ref (mg_K g z0)] d_WR_endDownTo_50 C_WR_64 (c_WR_put ev12) q11 rfl rfl rfl (Nat.le_of_ble_eq_true rfl) (by decide) (Nat.le_of_ble_eq_true rfl) h112 h212 ?_
  refine vr_aload_n d_WR_endDownTo_53 rfl rfl ?_
  have q13 := (l_chk h).1
  replace h := (l_chk h).2
  obtain ⟨b14, eb14, h⟩ := l_rf h
  refine vr_getR (b := b14) d_WR_endDownTo_54 F_WR_12 rfl q13 eb14 ?_
  refine vr_iload_n d_WR_endDownTo_57 rfl rfl ?_
  have q15 := (l_chk h).1
  replace h := (l_chk h).2
  obtain ⟨v16, s16, ev16, h⟩ := l_calI h
  refine mh_callI 5 [.int y3] d_WR_endDownTo_58 C_WR_49 (c_TR_wholeOf ev16) q15 rfl rfl rfl (Nat.le_of_ble_eq_true rfl) (by decide) (Nat.le_of_ble_eq_true rfl) ?_
  refine vr_istore_n (L' := [some (.ref y0), some (.int y1), none, some (.int v16), some (.int y4)]) d_WR_endDownTo_61 rfl (by decide) rfl ?_
  refine vr_iinc (L' := [some (.ref y0), some (.int y1), none, some (.int v16), some (.int (y4 + 1))]) (y4 + 1) d_WR_endDownTo_62 (by decide) rfl rfl rfl ?_
  refine vr_goto (tgt := 5) d_WR_endDownTo_65 (by decide) ?_
  exact mv_drop (hk5 _ _ _ _ _ _ h _ _ hc hs) (And.intro rfl (And.intro rfl (And.intro rfl (And.intro rfl trivial))))

def k_WR_endDownTo_5 (N : Nat) : Nat → Nat → Int32 → Int32 → Int32 → mh_H → Option (mh_H × Nat × Nat)
  | 0, _, _, _, _, _ => none
  | n + 1, y0, y1, y3, y4, σ => chk (hT σ y0 = 13) <| rfO (hR σ 6 1 y0) fun b2 => chk (hT σ b2 = 11) <| if (hI σ 5 0 b2) ≤ y4 then (some (σ, 0, 0)) else (if y3 ≤ y1 then (some (σ, 0, 0)) else (calI (f_WR_ending N y0 y3 σ) fun v4 s4 => chk (hT s4 y0 = 13) <| calA (f_WR_put N y0 v4 s4) fun s6 => chk (hT s6 y0 = 13) <| calI (f_WR_isBracketed N y0 y3 s6) fun v8 s8 => if v8 = 0 then (k_WR_endDownTo_50 N (k_WR_endDownTo_5 N n) y0 y1 y3 y4 23 y0 s8) else (chk (hT s8 y0 = 13) <| calI (f_WR_closing N y0 y3 s8) fun v10 s10 => k_WR_endDownTo_50 N (k_WR_endDownTo_5 N n) y0 y1 y3 y4 v10 y0 s10)))
theorem q_WR_endDownTo_5 {g : mv_G} {N : Nat} : ∀ (n : Nat) (y0 : Nat) (y1 : Int32) (y3 : Int32) (y4 : Int32) (σ : mh_H) (r : mh_H × Nat × Nat), k_WR_endDownTo_5 N n y0 y1 y3 y4 σ = some r → ∀ cb sb : Nat, r.2.1 ≤ cb → r.2.2 ≤ sb → mv_V g M_WR_endDownTo 11 227 cb sb 5 [some (.ref y0), some (.int y1), none, some (.int y3), some (.int y4)] [] σ (fun oc τ => τ = r.1 ∧ oc = .returned none) := by
  intro n
  induction n with
  | zero =>
    intro y0 y1 y3 y4 σ r h
    exact absurd h (by simp [k_WR_endDownTo_5])
  | succ n ih =>
    intro y0 y1 y3 y4 σ r h cb sb hc hs
    unfold k_WR_endDownTo_5 at h
    refine vr_iload d_WR_endDownTo_5 rfl ?_
    refine vr_aload_n d_WR_endDownTo_7 rfl rfl ?_
    have q1 := (l_chk h).1
    replace h := (l_chk h).2
    obtain ⟨b2, eb2, h⟩ := l_rf h
    refine vr_getR (b := b2) d_WR_endDownTo_8 F_WR_12 rfl q1 eb2 ?_
    have q3 := (l_chk h).1
    replace h := (l_chk h).2
    refine vr_getI d_WR_endDownTo_11 F_WR_80 rfl q3 ?_
    refine vr_icmp_ge (tgt := 68) d_WR_endDownTo_14 (by decide) (fun c14 => ?_) (fun c14 => ?_)
    · replace h := l_ifp c14 h
      cases h
      exact vr_vret d_WR_endDownTo_68 rfl ⟨rfl, rfl⟩
    · replace h := l_ifn c14 h
      refine vr_iload_n d_WR_endDownTo_17 rfl rfl ?_
      refine vr_iload_n d_WR_endDownTo_18 rfl rfl ?_
      refine vr_icmp_le (tgt := 68) d_WR_endDownTo_19 (by decide) (fun c19 => ?_) (fun c19 => ?_)
      · replace h := l_ifp c19 h
        cases h
        exact vr_vret d_WR_endDownTo_68 rfl ⟨rfl, rfl⟩
      · replace h := l_ifn c19 h
        refine vr_aload_n d_WR_endDownTo_22 rfl rfl ?_
        refine vr_aload_n d_WR_endDownTo_23 rfl rfl ?_
        refine vr_iload_n d_WR_endDownTo_24 rfl rfl ?_
        obtain ⟨v4, s4, ev4, h⟩ := l_calI h
        refine mh_callT 6 [.int y3] d_WR_endDownTo_25 C_WR_77 (c_WR_ending ev4) q1 rfl rfl rfl (Nat.le_of_ble_eq_true rfl) (by decide) (Nat.le_of_ble_eq_true rfl) ?_
        have q5 := (l_chk h).1
        replace h := (l_chk h).2
        obtain ⟨s6, c6, n6, ev6, r6, x6, y6, hh6, hz⟩ := l_calA h
        clear h
        cases hz
        have h := hh6
        have h16 : c6 ≤ cb := by have hz : x6 + c6 ≤ cb := hc; omega
        have h26 : n6 ≤ sb := by have hz : y6 + n6 ≤ sb := hs; omega
        replace hc : x6 ≤ cb - c6 := by have hz : x6 + c6 ≤ cb := hc; omega
        replace hs : y6 ≤ sb - n6 := by have hz : y6 + n6 ≤ sb := hs; omega
        refine mh_callUa 6 [.ref (mg_K g v4)] d_WR_endDownTo_28 C_WR_64 (c_WR_put ev6) q5 rfl rfl rfl (Nat.le_of_ble_eq_true rfl) (by decide) (Nat.le_of_ble_eq_true rfl) h16 h26 ?_
        refine vr_aload_n d_WR_endDownTo_31 rfl rfl ?_
        refine vr_aload_n d_WR_endDownTo_32 rfl rfl ?_
        refine vr_iload_n d_WR_endDownTo_33 rfl rfl ?_
        have q7 := (l_chk h).1
        replace h := (l_chk h).2
        obtain ⟨v8, s8, ev8, h⟩ := l_calI h
        refine mh_callI 6 [.int y3] d_WR_endDownTo_34 C_WR_68 (c_WR_isBracketed ev8) q7 rfl rfl rfl (Nat.le_of_ble_eq_true rfl) (by decide) (Nat.le_of_ble_eq_true rfl) ?_
        refine vr_if_eq (tgt := 48) d_WR_endDownTo_37 (by decide) (fun c37 => ?_) (fun c37 => ?_)
        · replace h := l_ifp c37 h
          refine vr_ldcS 23 d_WR_endDownTo_48 rfl ?_
          exact mv_drop (q_WR_endDownTo_50 ih _ _ _ _ _ _ _ _ h _ _ hc hs) (And.intro rfl (And.intro rfl (And.intro rfl (And.intro rfl trivial))))
        · replace h := l_ifn c37 h
          refine vr_aload_n d_WR_endDownTo_40 rfl rfl ?_
          refine vr_iload_n d_WR_endDownTo_41 rfl rfl ?_
          have q9 := (l_chk h).1
          replace h := (l_chk h).2
          obtain ⟨v10, s10, ev10, h⟩ := l_calI h
          refine mh_callT 6 [.int y3] d_WR_endDownTo_42 C_WR_84 (c_WR_closing ev10) q9 rfl rfl rfl (Nat.le_of_ble_eq_true rfl) (by decide) (Nat.le_of_ble_eq_true rfl) ?_
          refine vr_goto (tgt := 50) d_WR_endDownTo_45 (by decide) ?_
          exact mv_drop (q_WR_endDownTo_50 ih _ _ _ _ _ _ _ _ h _ _ hc hs) (And.intro rfl (And.intro rfl (And.intro rfl (And.intro rfl trivial))))

def f_WR_endDownTo (N : Nat) (a0 : Nat) (x1 : Int32) (x2 : Int32) (σ : mh_H) : Option (mh_H × Nat × Nat) := k_WR_endDownTo_5 N N a0 x1 x2 0 σ
theorem c_WR_endDownTo {g : mv_G} {N : Nat} {a0 : Nat} {x1 : Int32} {x2 : Int32} {σ : mh_H} {r : mh_H × Nat × Nat} (h : f_WR_endDownTo N a0 x1 x2 σ = some r) : mv_Met g M_WR_endDownTo 11 227 r.2.1 r.2.2 [.ref a0, .int x1, .int x2] σ (fun oc τ => τ = r.1 ∧ oc = .returned none) := by
  have key : ∀ cb sb : Nat, r.2.1 ≤ cb → r.2.2 ≤ sb → mv_V g M_WR_endDownTo 11 227 cb sb 0 [some (.ref a0), some (.int x1), some (.int x2), none, none] [] σ (fun oc τ => τ = r.1 ∧ oc = .returned none) := by
    intro cb sb hc hs
    unfold f_WR_endDownTo at h
    refine vr_iload_n d_WR_endDownTo_0 rfl rfl ?_
    refine vr_istore_n (L' := [some (.ref a0), some (.int x1), some (.int x2), some (.int x2), none]) d_WR_endDownTo_1 rfl (by decide) rfl ?_
    refine vr_iconst 0 d_WR_endDownTo_2 (by decide) ?_
    refine vr_istore (L' := [some (.ref a0), some (.int x1), some (.int x2), some (.int x2), some (.int 0)]) d_WR_endDownTo_3 (by decide) rfl ?_
    exact mv_drop (q_WR_endDownTo_5 N _ _ _ _ _ _ h _ _ hc hs) (And.intro rfl (And.intro rfl (And.intro rfl (And.intro rfl trivial))))
  exact mv_entry (L := [some (.ref a0), some (.int x1), some (.int x2), none, none]) rfl rfl (Nat.le_of_ble_eq_true rfl) rfl (key _ _ (Nat.le_refl _) (Nat.le_refl _))

def k_WR_compose_143 (N : Nat) (y0 : Nat) (y2 : Int32) (y4 : Int32) (σ : mh_H) : Option ((Int32 × mh_H) × Nat × Nat) := chk (hT σ y0 = 13) <| calA (f_WR_endDownTo N y0 y2 ((y4 - 1)) σ) fun s37 => chk (hT s37 y0 = 13) <| calI (f_WR_ending N y0 y2 s37) fun v39 s39 => chk (hT s39 y0 = 13) <| calA (f_WR_put N y0 v39 s39) fun s41 => chk (hT s41 y0 = 13) <| rfO (hR s41 6 2 y0) fun b43 => chk (hT s41 b43 = 1) <| if (hI s41 0 2 b43) = 0 then (some ((1, s41), 0, 0)) else (some ((0, s41), 0, 0))
theorem q_WR_compose_143 {g : mv_G} {N : Nat} (y0 : Nat) (y2 : Int32) (y4 : Int32) (σ : mh_H) (r : (Int32 × mh_H) × Nat × Nat) (h : k_WR_compose_143 N y0 y2 y4 σ = some r) : ∀ cb sb : Nat, r.2.1 ≤ cb → r.2.2 ≤ sb → mv_V g M_WR_compose 12 253 cb sb 143 [some (.ref y0), none, some (.int y2), none, some (.int y4), none, none] [] σ (fun oc τ => τ = r.1.2 ∧ oc = .returned (some (.int r.1.1))) := by
  intro cb sb hc hs
  unfold k_WR_compose_143 at h
  refine vr_aload_n d_WR_compose_143 rfl rfl ?_
  refine vr_iload_n d_WR_compose_144 rfl rfl ?_
  refine vr_iload d_WR_compose_145 rfl ?_
  refine vr_iconst 1 d_WR_compose_147 (by decide) ?_
  refine vr_isub d_WR_compose_148 ?_
  have q36 := (l_chk h).1
  replace h := (l_chk h).2
  obtain ⟨s37, c37, n37, ev37, r37, x37, y37, hh37, hz⟩ := l_calA h
  clear h
  cases hz
  have h := hh37
  have h137 : c37 ≤ cb := by have hz : x37 + c37 ≤ cb := hc; omega
  have h237 : n37 ≤ sb := by have hz : y37 + n37 ≤ sb := hs; omega
  replace hc : x37 ≤ cb - c37 := by have hz : x37 + c37 ≤ cb := hc; omega
  replace hs : y37 ≤ sb - n37 := by have hz : y37 + n37 ≤ sb := hs; omega
  refine mh_callUa 6 [.int y2, .int (y4 - 1)] d_WR_compose_149 C_WR_53 (c_WR_endDownTo ev37) q36 rfl rfl rfl (Nat.le_of_ble_eq_true rfl) (by decide) (Nat.le_of_ble_eq_true rfl) h137 h237 ?_
  refine vr_aload_n d_WR_compose_152 rfl rfl ?_
  refine vr_aload_n d_WR_compose_153 rfl rfl ?_
  refine vr_iload_n d_WR_compose_154 rfl rfl ?_
  have q38 := (l_chk h).1
  replace h := (l_chk h).2
  obtain ⟨v39, s39, ev39, h⟩ := l_calI h
  refine mh_callT 6 [.int y2] d_WR_compose_155 C_WR_77 (c_WR_ending ev39) q38 rfl rfl rfl (Nat.le_of_ble_eq_true rfl) (by decide) (Nat.le_of_ble_eq_true rfl) ?_
  have q40 := (l_chk h).1
  replace h := (l_chk h).2
  obtain ⟨s41, c41, n41, ev41, r41, x41, y41, hh41, hz⟩ := l_calA h
  clear h
  cases hz
  have h := hh41
  have h141 : c41 ≤ (cb - c37) := by have hz : x41 + c41 ≤ (cb - c37) := hc; omega
  have h241 : n41 ≤ (sb - n37) := by have hz : y41 + n41 ≤ (sb - n37) := hs; omega
  replace hc : x41 ≤ (cb - c37) - c41 := by have hz : x41 + c41 ≤ (cb - c37) := hc; omega
  replace hs : y41 ≤ (sb - n37) - n41 := by have hz : y41 + n41 ≤ (sb - n37) := hs; omega
  refine mh_callUa 6 [.ref (mg_K g v39)] d_WR_compose_158 C_WR_64 (c_WR_put ev41) q40 rfl rfl rfl (Nat.le_of_ble_eq_true rfl) (by decide) (Nat.le_of_ble_eq_true rfl) h141 h241 ?_
  refine vr_aload_n d_WR_compose_161 rfl rfl ?_
  have q42 := (l_chk h).1
  replace h := (l_chk h).2
  obtain ⟨b43, eb43, h⟩ := l_rf h
  refine vr_getR (b := b43) d_WR_compose_162 F_WR_23 rfl q42 eb43 ?_
  have q44 := (l_chk h).1
  replace h := (l_chk h).2
  refine vr_getI d_WR_compose_165 F_WR_45 rfl q44 ?_
  refine vr_if_ne (tgt := 175) d_WR_compose_168 (by decide) (fun c168 => ?_) (fun c168 => ?_)
  · replace h := l_ifn c168 h
    refine vr_iconst 0 d_WR_compose_175 (by decide) ?_
    cases h
    exact vr_iret d_WR_compose_176 rfl rfl ⟨rfl, rfl⟩
  · replace h := l_ifp c168 h
    refine vr_iconst 1 d_WR_compose_171 (by decide) ?_
    refine vr_goto (tgt := 176) d_WR_compose_172 (by decide) ?_
    cases h
    exact vr_iret d_WR_compose_176 rfl rfl ⟨rfl, rfl⟩

def k_WR_compose_128 (N : Nat) (k50 : Nat → Int32 → Int32 → Int32 → mh_H → Option ((Int32 × mh_H) × Nat × Nat)) (y0 : Nat) (y2 : Int32) (y4 : Int32) (y5 : Int32) (z0 : Nat) (z1 : Nat) (σ : mh_H) : Option ((Int32 × mh_H) × Nat × Nat) := chk (hT σ z1 = 13) <| calA (f_WR_put N z1 z0 σ) fun s46 => chk (hT s46 y0 = 13) <| calA (f_WR_begin N y0 y5 s46) fun s48 => k50 y0 y2 y4 ((y5 + 1)) s48
theorem q_WR_compose_128 {g : mv_G} {N : Nat} {k50 : Nat → Int32 → Int32 → Int32 → mh_H → Option ((Int32 × mh_H) × Nat × Nat)} (hk50 : ∀ (y0 : Nat) (y2 : Int32) (y4 : Int32) (y5 : Int32) (σ : mh_H) (r : (Int32 × mh_H) × Nat × Nat), k50 y0 y2 y4 y5 σ = some r → ∀ cb sb : Nat, r.2.1 ≤ cb → r.2.2 ≤ sb → mv_V g M_WR_compose 12 253 cb sb 50 [some (.ref y0), none, some (.int y2), none, some (.int y4), some (.int y5), none] [] σ (fun oc τ => τ = r.1.2 ∧ oc = .returned (some (.int r.1.1)))) (y0 : Nat) (y2 : Int32) (y4 : Int32) (y5 : Int32) (z0 : Nat) (z1 : Nat) (σ : mh_H) (r : (Int32 × mh_H) × Nat × Nat) (h : k_WR_compose_128 N k50 y0 y2 y4 y5 z0 z1 σ = some r) : ∀ cb sb : Nat, r.2.1 ≤ cb → r.2.2 ≤ sb → mv_V g M_WR_compose 12 253 cb sb 128 [some (.ref y0), none, some (.int y2), none, some (.int y4), some (.int y5), none] [.ref (mg_K g z0), .ref z1] σ (fun oc τ => τ = r.1.2 ∧ oc = .returned (some (.int r.1.1))) := by
  intro cb sb hc hs
  unfold k_WR_compose_128 at h
  have q45 := (l_chk h).1
  replace h := (l_chk h).2
  obtain ⟨s46, c46, n46, ev46, r46, x46, y46, hh46, hz⟩ := l_calA h
  clear h
  cases hz
  have h := hh46
  have h146 : c46 ≤ cb := by have hz : x46 + c46 ≤ cb := hc; omega
  have h246 : n46 ≤ sb := by have hz : y46 + n46 ≤ sb := hs; omega
  replace hc : x46 ≤ cb - c46 := by have hz : x46 + c46 ≤ cb := hc; omega
  replace hs : y46 ≤ sb - n46 := by have hz : y46 + n46 ≤ sb := hs; omega
  refine mh_callUa 6 [.ref (mg_K g z0)] d_WR_compose_128 C_WR_64 (c_WR_put ev46) q45 rfl rfl rfl (Nat.le_of_ble_eq_true rfl) (by decide) (Nat.le_of_ble_eq_true rfl) h146 h246 ?_
  refine vr_aload_n d_WR_compose_131 rfl rfl ?_
  refine vr_iload d_WR_compose_132 rfl ?_
  have q47 := (l_chk h).1
  replace h := (l_chk h).2
  obtain ⟨s48, c48, n48, ev48, r48, x48, y48, hh48, hz⟩ := l_calA h
  clear h
  cases hz
  have h := hh48
  have h148 : c48 ≤ (cb - c46) := by have hz : x48 + c48 ≤ (cb - c46) := hc; omega
  have h248 : n48 ≤ (sb - n46) := by have hz : y48 + n48 ≤ (sb - n46) := hs; omega
  replace hc : x48 ≤ (cb - c46) - c48 := by have hz : x48 + c48 ≤ (cb - c46) := hc; omega
  replace hs : y48 ≤ (sb - n46) - n48 := by have hz : y48 + n48 ≤ (sb - n46) := hs; omega
  refine mh_callUa 6 [.int y5] d_WR_compose_134 C_WR_42 (c_WR_begin ev48) q47 rfl rfl rfl (Nat.le_of_ble_eq_true rfl) (by decide) (Nat.le_of_ble_eq_true rfl) h148 h248 ?_
  refine vr_iinc (L' := [some (.ref y0), none, some (.int y2), none, some (.int y4), some (.int (y5 + 1)), none]) (y5 + 1) d_WR_compose_137 (by decide) rfl rfl rfl ?_
  refine vr_goto (tgt := 50) d_WR_compose_140 (by decide) ?_
  exact mv_drop (hk50 _ _ _ _ _ _ h _ _ hc hs) (And.intro rfl (And.intro rfl (And.intro rfl (And.intro rfl trivial))))

def k_WR_compose_50 (N : Nat) : Nat → Nat → Int32 → Int32 → Int32 → mh_H → Option ((Int32 × mh_H) × Nat × Nat)
  | 0, _, _, _, _, _ => none
  | n + 1, y0, y2, y4, y5, σ => if y4 ≤ y5 then (k_WR_compose_143 N y0 y2 y4 σ) else (chk (hT σ y0 = 13) <| rfO (hR σ 6 2 y0) fun b17 => chk (hT σ b17 = 1) <| if (hI σ 0 2 b17) = 0 then (rfO (hR σ 6 1 y0) fun b19 => chk (hT σ b19 = 11) <| calI (f_TR_wholeOf N b19 y5 σ) fun v21 s21 => chk (hT s21 y0 = 13) <| calA (f_WR_endDownTo N y0 v21 ((y5 - 1)) s21) fun s23 => chk (hT s23 y0 = 13) <| rfO (hR s23 6 1 y0) fun b25 => chk (hT s23 b25 = 11) <| calI (f_TR_rankOf N b25 y5 s23) fun v27 s27 => chk (hT s27 y0 = 13) <| calI (f_WR_joint N y0 v21 v27 s27) fun v29 s29 => chk (hT s29 y0 = 13) <| calA (f_WR_put N y0 v29 s29) fun s31 => chk (hT s31 y0 = 13) <| calI (f_WR_isBracketed N y0 y5 s31) fun v33 s33 => if v33 = 0 then (k_WR_compose_128 N (k_WR_compose_50 N n) y0 y2 y4 y5 23 y0 s33) else (chk (hT s33 y0 = 13) <| calI (f_WR_opening N y0 y5 s33) fun v35 s35 => k_WR_compose_128 N (k_WR_compose_50 N n) y0 y2 y4 y5 v35 y0 s35)) else (k_WR_compose_143 N y0 y2 y4 σ))
theorem q_WR_compose_50 {g : mv_G} {N : Nat} : ∀ (n : Nat) (y0 : Nat) (y2 : Int32) (y4 : Int32) (y5 : Int32) (σ : mh_H) (r : (Int32 × mh_H) × Nat × Nat), k_WR_compose_50 N n y0 y2 y4 y5 σ = some r → ∀ cb sb : Nat, r.2.1 ≤ cb → r.2.2 ≤ sb → mv_V g M_WR_compose 12 253 cb sb 50 [some (.ref y0), none, some (.int y2), none, some (.int y4), some (.int y5), none] [] σ (fun oc τ => τ = r.1.2 ∧ oc = .returned (some (.int r.1.1))) := by
  intro n
  induction n with
  | zero =>
    intro y0 y2 y4 y5 σ r h
    exact absurd h (by simp [k_WR_compose_50])
  | succ n ih =>
    intro y0 y2 y4 y5 σ r h cb sb hc hs
    unfold k_WR_compose_50 at h
    refine vr_iload d_WR_compose_50 rfl ?_
    refine vr_iload d_WR_compose_52 rfl ?_
    refine vr_icmp_ge (tgt := 143) d_WR_compose_54 (by decide) (fun c54 => ?_) (fun c54 => ?_)
    · replace h := l_ifp c54 h
      exact mv_drop (q_WR_compose_143 _ _ _ _ _ h _ _ hc hs) (And.intro rfl (And.intro rfl (And.intro rfl trivial)))
    · replace h := l_ifn c54 h
      refine vr_aload_n d_WR_compose_57 rfl rfl ?_
      have q16 := (l_chk h).1
      replace h := (l_chk h).2
      obtain ⟨b17, eb17, h⟩ := l_rf h
      refine vr_getR (b := b17) d_WR_compose_58 F_WR_23 rfl q16 eb17 ?_
      have q18 := (l_chk h).1
      replace h := (l_chk h).2
      refine vr_getI d_WR_compose_61 F_WR_45 rfl q18 ?_
      refine vr_if_ne (tgt := 143) d_WR_compose_64 (by decide) (fun c64 => ?_) (fun c64 => ?_)
      · replace h := l_ifn c64 h
        exact mv_drop (q_WR_compose_143 _ _ _ _ _ h _ _ hc hs) (And.intro rfl (And.intro rfl (And.intro rfl trivial)))
      · replace h := l_ifp c64 h
        refine vr_aload_n d_WR_compose_67 rfl rfl ?_
        obtain ⟨b19, eb19, h⟩ := l_rf h
        refine vr_getR (b := b19) d_WR_compose_68 F_WR_12 rfl q16 eb19 ?_
        refine vr_iload d_WR_compose_71 rfl ?_
        have q20 := (l_chk h).1
        replace h := (l_chk h).2
        obtain ⟨v21, s21, ev21, h⟩ := l_calI h
        refine mh_callI 5 [.int y5] d_WR_compose_73 C_WR_49 (c_TR_wholeOf ev21) q20 rfl rfl rfl (Nat.le_of_ble_eq_true rfl) (by decide) (Nat.le_of_ble_eq_true rfl) ?_
        refine vr_istore (L' := [some (.ref y0), none, some (.int y2), none, some (.int y4), some (.int y5), some (.int v21)]) d_WR_compose_76 (by decide) rfl ?_
        refine vr_aload_n d_WR_compose_78 rfl rfl ?_
        refine vr_iload d_WR_compose_79 rfl ?_
        refine vr_iload d_WR_compose_81 rfl ?_
        refine vr_iconst 1 d_WR_compose_83 (by decide) ?_
        refine vr_isub d_WR_compose_84 ?_
        have q22 := (l_chk h).1
        replace h := (l_chk h).2
        obtain ⟨s23, c23, n23, ev23, r23, x23, y23, hh23, hz⟩ := l_calA h
        clear h
        cases hz
        have h := hh23
        have h123 : c23 ≤ cb := by have hz : x23 + c23 ≤ cb := hc; omega
        have h223 : n23 ≤ sb := by have hz : y23 + n23 ≤ sb := hs; omega
        replace hc : x23 ≤ cb - c23 := by have hz : x23 + c23 ≤ cb := hc; omega
        replace hs : y23 ≤ sb - n23 := by have hz : y23 + n23 ≤ sb := hs; omega
        refine mh_callUa 6 [.int v21, .int (y5 - 1)] d_WR_compose_85 C_WR_53 (c_WR_endDownTo ev23) q22 rfl rfl rfl (Nat.le_of_ble_eq_true rfl) (by decide) (Nat.le_of_ble_eq_true rfl) h123 h223 ?_
        refine vr_aload_n d_WR_compose_88 rfl rfl ?_
        refine vr_aload_n d_WR_compose_89 rfl rfl ?_
        refine vr_iload d_WR_compose_90 rfl ?_
        refine vr_aload_n d_WR_compose_92 rfl rfl ?_
        have q24 := (l_chk h).1
        replace h := (l_chk h).2
        obtain ⟨b25, eb25, h⟩ := l_rf h
        refine vr_getR (b := b25) d_WR_compose_93 F_WR_12 rfl q24 eb25 ?_
        refine vr_iload d_WR_compose_96 rfl ?_
        have q26 := (l_chk h).1
        replace h := (l_chk h).2
        obtain ⟨v27, s27, ev27, h⟩ := l_calI h
        refine mh_callI 5 [.int y5] d_WR_compose_98 C_WR_57 (c_TR_rankOf ev27) q26 rfl rfl rfl (Nat.le_of_ble_eq_true rfl) (by decide) (Nat.le_of_ble_eq_true rfl) ?_
        have q28 := (l_chk h).1
        replace h := (l_chk h).2
        obtain ⟨v29, s29, ev29, h⟩ := l_calI h
        refine mh_callT 6 [.int v21, .int v27] d_WR_compose_101 C_WR_60 (c_WR_joint ev29) q28 rfl rfl rfl (Nat.le_of_ble_eq_true rfl) (by decide) (Nat.le_of_ble_eq_true rfl) ?_
        have q30 := (l_chk h).1
        replace h := (l_chk h).2
        obtain ⟨s31, c31, n31, ev31, r31, x31, y31, hh31, hz⟩ := l_calA h
        clear h
        cases hz
        have h := hh31
        have h131 : c31 ≤ (cb - c23) := by have hz : x31 + c31 ≤ (cb - c23) := hc; omega
        have h231 : n31 ≤ (sb - n23) := by have hz : y31 + n31 ≤ (sb - n23) := hs; omega
        replace hc : x31 ≤ (cb - c23) - c31 := by have hz : x31 + c31 ≤ (cb - c23) := hc; omega
        replace hs : y31 ≤ (sb - n23) - n31 := by have hz : y31 + n31 ≤ (sb - n23) := hs; omega
        refine mh_callUa 6 [.ref (mg_K g v29)] d_WR_compose_104 C_WR_64 (c_WR_put ev31) q30 rfl rfl rfl (Nat.le_of_ble_eq_true rfl) (by decide) (Nat.le_of_ble_eq_true rfl) h131 h231 ?_
        refine vr_aload_n d_WR_compose_107 rfl rfl ?_
        refine vr_aload_n d_WR_compose_108 rfl rfl ?_
        refine vr_iload d_WR_compose_109 rfl ?_
        have q32 := (l_chk h).1
        replace h := (l_chk h).2
        obtain ⟨v33, s33, ev33, h⟩ := l_calI h
        refine mh_callI 6 [.int y5] d_WR_compose_111 C_WR_68 (c_WR_isBracketed ev33) q32 rfl rfl rfl (Nat.le_of_ble_eq_true rfl) (by decide) (Nat.le_of_ble_eq_true rfl) ?_
        refine vr_if_eq (tgt := 126) d_WR_compose_114 (by decide) (fun c114 => ?_) (fun c114 => ?_)
        · replace h := l_ifp c114 h
          refine vr_ldcS 23 d_WR_compose_126 rfl ?_
          exact mv_drop (q_WR_compose_128 ih _ _ _ _ _ _ _ _ h _ _ hc hs) (And.intro rfl (And.intro rfl (And.intro rfl (And.intro rfl trivial))))
        · replace h := l_ifn c114 h
          refine vr_aload_n d_WR_compose_117 rfl rfl ?_
          refine vr_iload d_WR_compose_118 rfl ?_
          have q34 := (l_chk h).1
          replace h := (l_chk h).2
          obtain ⟨v35, s35, ev35, h⟩ := l_calI h
          refine mh_callT 6 [.int y5] d_WR_compose_120 C_WR_71 (c_WR_opening ev35) q34 rfl rfl rfl (Nat.le_of_ble_eq_true rfl) (by decide) (Nat.le_of_ble_eq_true rfl) ?_
          refine vr_goto (tgt := 128) d_WR_compose_123 (by decide) ?_
          exact mv_drop (q_WR_compose_128 ih _ _ _ _ _ _ _ _ h _ _ hc hs) (And.intro rfl (And.intro rfl (And.intro rfl (And.intro rfl trivial))))

def f_WR_compose (N : Nat) (a0 : Nat) (x1 : Nat) (x2 : Int32) (x3 : Nat) (σ : mh_H) : Option ((Int32 × mh_H) × Nat × Nat) := chk (hT σ x1 = 11) <| calI (f_TR_has N x1 x2 σ) fun v2 s2 => if v2 = 0 then (some ((0, s2), 0, 0)) else (chk (hT s2 a0 = 13) <| rfO (hR (mh_setR (mh_setR s2 6 1 a0 (some x1)) 6 2 a0 (some x3)) 6 2 a0) fun b4 => chk (hT (mh_setR (mh_setR s2 6 1 a0 (some x1)) 6 2 a0 (some x3)) b4 = 1) <| calV (f_BR_clear N b4 (mh_setR (mh_setR s2 6 1 a0 (some x1)) 6 2 a0 (some x3))) fun s6 => chk (hT s6 a0 = 13) <| rfO (hR s6 6 1 a0) fun b8 => chk (hT s6 b8 = 11) <| rfO (hR s6 5 4 b8) fun b10 => chk (hT s6 b10 = 2) <| chk (ib x2 (hN s6 b10)) <| bnd ((x2 + (hA s6 b10 (Int32.toNatClampNeg x2)))) fun v13 => calA (f_WR_begin N a0 x2 s6) fun s14 => bnd ((x2 + 1)) fun v15 => k_WR_compose_50 N N a0 x2 v13 v15 s14)
theorem c_WR_compose {g : mv_G} {N : Nat} {a0 : Nat} {x1 : Nat} {x2 : Int32} {x3 : Nat} {σ : mh_H} {r : (Int32 × mh_H) × Nat × Nat} (h : f_WR_compose N a0 x1 x2 x3 σ = some r) : mv_Met g M_WR_compose 12 253 r.2.1 r.2.2 [.ref a0, .ref x1, .int x2, .ref x3] σ (fun oc τ => τ = r.1.2 ∧ oc = .returned (some (.int r.1.1))) := by
  have key : ∀ cb sb : Nat, r.2.1 ≤ cb → r.2.2 ≤ sb → mv_V g M_WR_compose 12 253 cb sb 0 [some (.ref a0), some (.ref x1), some (.int x2), some (.ref x3), none, none, none] [] σ (fun oc τ => τ = r.1.2 ∧ oc = .returned (some (.int r.1.1))) := by
    intro cb sb hc hs
    unfold f_WR_compose at h
    refine vr_aload_n d_WR_compose_0 rfl rfl ?_
    refine vr_iload_n d_WR_compose_1 rfl rfl ?_
    have q1 := (l_chk h).1
    replace h := (l_chk h).2
    obtain ⟨v2, s2, ev2, h⟩ := l_calI h
    refine mh_callI 5 [.int x2] d_WR_compose_2 C_WR_31 (c_TR_has ev2) q1 rfl rfl rfl (Nat.le_of_ble_eq_true rfl) (by decide) (Nat.le_of_ble_eq_true rfl) ?_
    refine vr_if_ne (tgt := 10) d_WR_compose_5 (by decide) (fun c5 => ?_) (fun c5 => ?_)
    · replace h := l_ifn c5 h
      refine vr_aload_n d_WR_compose_10 rfl rfl ?_
      refine vr_aload_n d_WR_compose_11 rfl rfl ?_
      have q3 := (l_chk h).1
      replace h := (l_chk h).2
      refine vr_putR d_WR_compose_12 W_WR_compose_12 rfl rfl rfl q3 ?_
      refine vr_aload_n d_WR_compose_15 rfl rfl ?_
      refine vr_aload_n d_WR_compose_16 rfl rfl ?_
      refine vr_putR d_WR_compose_17 W_WR_compose_23 rfl rfl rfl q3 ?_
      refine vr_aload_n d_WR_compose_20 rfl rfl ?_
      obtain ⟨b4, eb4, h⟩ := l_rf h
      refine vr_getR (b := b4) d_WR_compose_21 F_WR_23 rfl q3 eb4 ?_
      have q5 := (l_chk h).1
      replace h := (l_chk h).2
      obtain ⟨s6, es6, h⟩ := l_calV h
      refine mh_callU 0 [] d_WR_compose_24 C_WR_35 (c_BR_clear es6) q5 rfl rfl rfl (Nat.le_of_ble_eq_true rfl) (by decide) (Nat.le_of_ble_eq_true rfl) ?_
      refine vr_iload_n d_WR_compose_27 rfl rfl ?_
      refine vr_aload_n d_WR_compose_28 rfl rfl ?_
      have q7 := (l_chk h).1
      replace h := (l_chk h).2
      obtain ⟨b8, eb8, h⟩ := l_rf h
      refine vr_getR (b := b8) d_WR_compose_29 F_WR_12 rfl q7 eb8 ?_
      have q9 := (l_chk h).1
      replace h := (l_chk h).2
      obtain ⟨b10, eb10, h⟩ := l_rf h
      refine vr_getR (b := b10) d_WR_compose_32 F_WR_38 rfl q9 eb10 ?_
      refine vr_iload_n d_WR_compose_35 rfl rfl ?_
      have q11 := (l_chk h).1
      replace h := (l_chk h).2
      have q12 := (l_chk h).1
      replace h := (l_chk h).2
      refine vr_iald (t := 0) d_WR_compose_36 rfl q11 (ib_in q12) ?_
      refine vr_iadd d_WR_compose_37 ?_
      obtain ⟨v13, ev13, h⟩ := l_bnd h
      refine vr_nm ev13 ?_
      refine vr_istore (L' := [some (.ref a0), some (.ref x1), some (.int x2), some (.ref x3), some (.int v13), none, none]) d_WR_compose_38 (by decide) rfl ?_
      refine vr_aload_n d_WR_compose_40 rfl rfl ?_
      refine vr_iload_n d_WR_compose_41 rfl rfl ?_
      obtain ⟨s14, c14, n14, ev14, r14, x14, y14, hh14, hz⟩ := l_calA h
      clear h
      cases hz
      have h := hh14
      have h114 : c14 ≤ cb := by have hz : x14 + c14 ≤ cb := hc; omega
      have h214 : n14 ≤ sb := by have hz : y14 + n14 ≤ sb := hs; omega
      replace hc : x14 ≤ cb - c14 := by have hz : x14 + c14 ≤ cb := hc; omega
      replace hs : y14 ≤ sb - n14 := by have hz : y14 + n14 ≤ sb := hs; omega
      refine mh_callUa 6 [.int x2] d_WR_compose_42 C_WR_42 (c_WR_begin ev14) q7 rfl rfl rfl (Nat.le_of_ble_eq_true rfl) (by decide) (Nat.le_of_ble_eq_true rfl) h114 h214 ?_
      refine vr_iload_n d_WR_compose_45 rfl rfl ?_
      refine vr_iconst 1 d_WR_compose_46 (by decide) ?_
      refine vr_iadd d_WR_compose_47 ?_
      obtain ⟨v15, ev15, h⟩ := l_bnd h
      refine vr_nm ev15 ?_
      refine vr_istore (L' := [some (.ref a0), some (.ref x1), some (.int x2), some (.ref x3), some (.int v13), some (.int v15), none]) d_WR_compose_48 (by decide) rfl ?_
      exact mv_drop (q_WR_compose_50 N _ _ _ _ _ _ h _ _ hc hs) (And.intro rfl (And.intro rfl (And.intro rfl (And.intro rfl trivial))))
    · replace h := l_ifp c5 h
      refine vr_iconst 0 d_WR_compose_8 (by decide) ?_
      cases h
      exact vr_iret d_WR_compose_9 rfl rfl ⟨rfl, rfl⟩
  exact mv_entry (L := [some (.ref a0), some (.ref x1), some (.int x2), some (.ref x3), none, none, none]) rfl rfl (Nat.le_of_ble_eq_true rfl) rfl (key _ _ (Nat.le_refl _) (Nat.le_refl _))

