/-! the class, lifted: names -/
def f_NA_init (N : Nat) (a0 : Nat) (σ : mh_H) : Option (mh_H × Nat × Nat) := chk (hT σ a0 = 5) <| tkA 1 4 <| bnd (hX (mh_setI σ 2 0 a0 0)) fun a3 => bnd (mh_new (mh_setI σ 2 0 a0 0) 0) fun s4 => calA (f_BR_init N a3 16384 s4) fun s5 => chk (hT s5 a0 = 5) <| chk (¬ (16 : Int32) < 0 ∧ Int32.toNatClampNeg 16 ≤ 100000) <| tkA 1 (Int32.toNatClampNeg 16) <| bnd (hX (mh_setR s5 2 1 a0 (some a3))) fun a9 => bnd (mh_arr (mh_setR s5 2 1 a0 (some a3)) 0 (Int32.toNatClampNeg 16)) fun s10 => chk (hT s10 a0 = 5) <| chk (¬ (16 : Int32) < 0 ∧ Int32.toNatClampNeg 16 ≤ 100000) <| tkA 1 (Int32.toNatClampNeg 16) <| bnd (hX (mh_setR s10 2 2 a0 (some a9))) fun a14 => bnd (mh_arr (mh_setR s10 2 2 a0 (some a9)) 0 (Int32.toNatClampNeg 16)) fun s15 => chk (hT s15 a0 = 5) <| chk (¬ (16 : Int32) < 0 ∧ Int32.toNatClampNeg 16 ≤ 100000) <| tkA 1 (Int32.toNatClampNeg 16) <| bnd (hX (mh_setR s15 2 3 a0 (some a14))) fun a19 => bnd (mh_arr (mh_setR s15 2 3 a0 (some a14)) 0 (Int32.toNatClampNeg 16)) fun s20 => chk (hT s20 a0 = 5) <| rfO (hR (mh_setR s20 2 4 a0 (some a19)) 2 4 a0) fun b22 => calV (f_AR_fill N b22 (-1) (mh_setR s20 2 4 a0 (some a19))) fun s23 => some (s23, 0, 0)
theorem c_NA_init {g : mv_G} {N : Nat} {a0 : Nat} {σ : mh_H} {r : mh_H × Nat × Nat} (h : f_NA_init N a0 σ = some r) : mv_Met g M_NA_init 2 41 r.2.1 r.2.2 [.ref a0] σ (fun oc τ => τ = r.1 ∧ oc = .returned none) := by
  have key : ∀ cb sb : Nat, r.2.1 ≤ cb → r.2.2 ≤ sb → mv_V g M_NA_init 2 41 cb sb 0 [some (.ref a0)] [] σ (fun oc τ => τ = r.1 ∧ oc = .returned none) := by
    intro cb sb hc hs
    unfold f_NA_init at h
    refine vr_aload_n d_NA_init_0 rfl rfl ?_
    refine vr_objInit d_NA_init_1 w_132 w_27 w_28 (by decide) (Nat.le_of_ble_eq_true rfl) ?_
    refine vr_aload_n d_NA_init_4 rfl rfl ?_
    refine vr_iconst 0 d_NA_init_5 (by decide) ?_
    have q1 := (l_chk h).1
    replace h := (l_chk h).2
    refine vr_putI d_NA_init_6 W_NA_init_9 rfl rfl rfl q1 ?_
    refine vr_aload_n d_NA_init_9 rfl rfl ?_
    obtain ⟨ru2, xu2, yu2, hhu2, hz⟩ := l_tkA h
    clear h
    cases hz
    have h := hhu2
    have h1u2 : 1 ≤ cb := by have hz : xu2 + 1 ≤ cb := hc; omega
    have h2u2 : 4 ≤ sb := by have hz : yu2 + 4 ≤ sb := hs; omega
    replace hc : xu2 ≤ cb - 1 := by have hz : xu2 + 1 ≤ cb := hc; omega
    replace hs : yu2 ≤ sb - 4 := by have hz : yu2 + 4 ≤ sb := hs; omega
    refine vr_new (k := 0) d_NA_init_10 rfl w_133 w_30 w_2 h1u2 h2u2 df_0 ?_
    obtain ⟨a3, ea3, h⟩ := l_bnd h
    refine vr_nmA ea3 ?_
    obtain ⟨s4, es4, h⟩ := l_bnd h
    refine vr_nmS es4 ?_
    refine vr_dup d_NA_init_13 rfl ?_
    refine vr_sipush 16384 d_NA_init_14 (by decide) ?_
    obtain ⟨s5, c5, n5, ev5, r5, x5, y5, hh5, hz⟩ := l_calA h
    clear h
    cases hz
    have h := hh5
    have h15 : c5 ≤ (cb - 1) := by have hz : x5 + c5 ≤ (cb - 1) := hc; omega
    have h25 : n5 ≤ (sb - 4) := by have hz : y5 + n5 ≤ (sb - 4) := hs; omega
    replace hc : x5 ≤ (cb - 1) - c5 := by have hz : x5 + c5 ≤ (cb - 1) := hc; omega
    replace hs : y5 ≤ (sb - 4) - n5 := by have hz : y5 + n5 ≤ (sb - 4) := hs; omega
    refine mh_callN [.int 16384] d_NA_init_17 C_NA_17 (c_BR_init ev5) rfl rfl (Nat.le_of_ble_eq_true rfl) (by decide) (Nat.le_of_ble_eq_true rfl) h15 h25 ?_
    have q6 := (l_chk h).1
    replace h := (l_chk h).2
    refine vr_putR d_NA_init_20 W_NA_init_20 rfl rfl rfl q6 ?_
    refine vr_aload_n d_NA_init_23 rfl rfl ?_
    refine vr_bipush 16 d_NA_init_24 (by decide) ?_
    have q7 := (l_chk h).1
    replace h := (l_chk h).2
    obtain ⟨ru8, xu8, yu8, hhu8, hz⟩ := l_tkA h
    clear h
    cases hz
    have h := hhu8
    have h1u8 : 1 ≤ ((cb - 1) - c5) := by have hz : xu8 + 1 ≤ ((cb - 1) - c5) := hc; omega
    have h2u8 : (Int32.toNatClampNeg 16) ≤ ((sb - 4) - n5) := by have hz : yu8 + (Int32.toNatClampNeg 16) ≤ ((sb - 4) - n5) := hs; omega
    replace hc : xu8 ≤ ((cb - 1) - c5) - 1 := by have hz : xu8 + 1 ≤ ((cb - 1) - c5) := hc; omega
    replace hs : yu8 ≤ ((sb - 4) - n5) - (Int32.toNatClampNeg 16) := by have hz : yu8 + (Int32.toNatClampNeg 16) ≤ ((sb - 4) - n5) := hs; omega
    refine mh_newI d_NA_init_26 q7 h1u8 h2u8 ?_
    obtain ⟨a9, ea9, h⟩ := l_bnd h
    refine vr_nmA ea9 ?_
    obtain ⟨s10, es10, h⟩ := l_bnd h
    refine vr_nmS es10 ?_
    have q11 := (l_chk h).1
    replace h := (l_chk h).2
    refine vr_putR d_NA_init_28 W_NA_init_24 rfl rfl rfl q11 ?_
    refine vr_aload_n d_NA_init_31 rfl rfl ?_
    refine vr_bipush 16 d_NA_init_32 (by decide) ?_
    have q12 := (l_chk h).1
    replace h := (l_chk h).2
    obtain ⟨ru13, xu13, yu13, hhu13, hz⟩ := l_tkA h
    clear h
    cases hz
    have h := hhu13
    have h1u13 : 1 ≤ (((cb - 1) - c5) - 1) := by have hz : xu13 + 1 ≤ (((cb - 1) - c5) - 1) := hc; omega
    have h2u13 : (Int32.toNatClampNeg 16) ≤ (((sb - 4) - n5) - (Int32.toNatClampNeg 16)) := by have hz : yu13 + (Int32.toNatClampNeg 16) ≤ (((sb - 4) - n5) - (Int32.toNatClampNeg 16)) := hs; omega
    replace hc : xu13 ≤ (((cb - 1) - c5) - 1) - 1 := by have hz : xu13 + 1 ≤ (((cb - 1) - c5) - 1) := hc; omega
    replace hs : yu13 ≤ (((sb - 4) - n5) - (Int32.toNatClampNeg 16)) - (Int32.toNatClampNeg 16) := by have hz : yu13 + (Int32.toNatClampNeg 16) ≤ (((sb - 4) - n5) - (Int32.toNatClampNeg 16)) := hs; omega
    refine mh_newI d_NA_init_34 q12 h1u13 h2u13 ?_
    obtain ⟨a14, ea14, h⟩ := l_bnd h
    refine vr_nmA ea14 ?_
    obtain ⟨s15, es15, h⟩ := l_bnd h
    refine vr_nmS es15 ?_
    have q16 := (l_chk h).1
    replace h := (l_chk h).2
    refine vr_putR d_NA_init_36 W_NA_init_28 rfl rfl rfl q16 ?_
    refine vr_aload_n d_NA_init_39 rfl rfl ?_
    refine vr_bipush 16 d_NA_init_40 (by decide) ?_
    have q17 := (l_chk h).1
    replace h := (l_chk h).2
    obtain ⟨ru18, xu18, yu18, hhu18, hz⟩ := l_tkA h
    clear h
    cases hz
    have h := hhu18
    have h1u18 : 1 ≤ ((((cb - 1) - c5) - 1) - 1) := by have hz : xu18 + 1 ≤ ((((cb - 1) - c5) - 1) - 1) := hc; omega
    have h2u18 : (Int32.toNatClampNeg 16) ≤ ((((sb - 4) - n5) - (Int32.toNatClampNeg 16)) - (Int32.toNatClampNeg 16)) := by have hz : yu18 + (Int32.toNatClampNeg 16) ≤ ((((sb - 4) - n5) - (Int32.toNatClampNeg 16)) - (Int32.toNatClampNeg 16)) := hs; omega
    replace hc : xu18 ≤ ((((cb - 1) - c5) - 1) - 1) - 1 := by have hz : xu18 + 1 ≤ ((((cb - 1) - c5) - 1) - 1) := hc; omega
    replace hs : yu18 ≤ ((((sb - 4) - n5) - (Int32.toNatClampNeg 16)) - (Int32.toNatClampNeg 16)) - (Int32.toNatClampNeg 16) := by have hz : yu18 + (Int32.toNatClampNeg 16) ≤ ((((sb - 4) - n5) - (Int32.toNatClampNeg 16)) - (Int32.toNatClampNeg 16)) := hs; omega
    refine mh_newI d_NA_init_42 q17 h1u18 h2u18 ?_
    obtain ⟨a19, ea19, h⟩ := l_bnd h
    refine vr_nmA ea19 ?_
    obtain ⟨s20, es20, h⟩ := l_bnd h
    refine vr_nmS es20 ?_
    have q21 := (l_chk h).1
    replace h := (l_chk h).2
    refine vr_putR d_NA_init_44 W_NA_init_31 rfl rfl rfl q21 ?_
    refine vr_aload_n d_NA_init_47 rfl rfl ?_
    obtain ⟨b22, eb22, h⟩ := l_rf h
    refine vr_getR (b := b22) d_NA_init_48 F_NA_31 rfl q21 eb22 ?_
    refine vr_iconst (-1) d_NA_init_51 (by decide) ?_
    obtain ⟨s23, es23, h⟩ := l_calV h
    refine mh_callSU [.ref b22, .int (-1)] d_NA_init_52 C_NA_34 (c_AR_fill es23) rfl rfl (Nat.le_of_ble_eq_true rfl) (by decide) (Nat.le_of_ble_eq_true rfl) ?_
    cases h
    exact vr_vret d_NA_init_55 rfl ⟨rfl, rfl⟩
  exact mv_entry (L := [some (.ref a0)]) rfl rfl (Nat.le_of_ble_eq_true rfl) rfl (key _ _ (Nat.le_refl _) (Nat.le_refl _))

def f_NA_start (N : Nat) (a0 : Nat) (x1 : Int32) (σ : mh_H) : Option (Int32 × mh_H) := if x1 = 0 then (some (0, σ)) else (chk (hT σ a0 = 5) <| rfO (hR σ 2 2 a0) fun b2 => chk (hT σ b2 = 2) <| chk (ib (x1 - 1) (hN σ b2)) <| some ((hA σ b2 (Int32.toNatClampNeg (x1 - 1))), σ))
theorem c_NA_start {g : mv_G} {N : Nat} {a0 : Nat} {x1 : Int32} {σ : mh_H} {r : Int32 × mh_H} (h : f_NA_start N a0 x1 σ = some r) : mv_Met g M_NA_start 0 0 0 0 [.ref a0, .int x1] σ (fun oc τ => τ = r.2 ∧ oc = .returned (some (.int r.1))) := by
  refine mv_entry (L := [some (.ref a0), some (.int x1)]) rfl rfl (Nat.le_of_ble_eq_true rfl) rfl ?_
  unfold f_NA_start at h
  refine vr_iload_n d_NA_start_0 rfl rfl ?_
  refine vr_if_ne (tgt := 8) d_NA_start_1 (by decide) (fun c1 => ?_) (fun c1 => ?_)
  · replace h := l_ifn c1 h
    refine vr_aload_n d_NA_start_8 rfl rfl ?_
    have q1 := (l_chk h).1
    replace h := (l_chk h).2
    obtain ⟨b2, eb2, h⟩ := l_rf h
    refine vr_getR (b := b2) d_NA_start_9 F_NA_24 rfl q1 eb2 ?_
    refine vr_iload_n d_NA_start_12 rfl rfl ?_
    refine vr_iconst 1 d_NA_start_13 (by decide) ?_
    refine vr_isub d_NA_start_14 ?_
    have q3 := (l_chk h).1
    replace h := (l_chk h).2
    have q4 := (l_chk h).1
    replace h := (l_chk h).2
    refine vr_iald (t := 0) d_NA_start_15 rfl q3 (ib_in q4) ?_
    cases h
    exact vr_iret d_NA_start_16 rfl rfl ⟨rfl, rfl⟩
  · replace h := l_ifp c1 h
    refine vr_iconst 0 d_NA_start_4 (by decide) ?_
    refine vr_goto (tgt := 16) d_NA_start_5 (by decide) ?_
    cases h
    exact vr_iret d_NA_start_16 rfl rfl ⟨rfl, rfl⟩

def f_NA_byteOf (N : Nat) (a0 : Nat) (x1 : Int32) (x2 : Int32) (σ : mh_H) : Option (Int32 × mh_H) := if x1 < 0 then (some ((-1), σ)) else (chk (hT σ a0 = 5) <| if (hI σ 2 0 a0) ≤ x1 then (some ((-1), σ)) else (if x2 < 0 then (some ((-1), σ)) else (rfO (hR σ 2 2 a0) fun b2 => chk (hT σ b2 = 2) <| chk (ib x1 (hN σ b2)) <| calI (f_NA_start N a0 x1 σ) fun v5 s5 => if x2 < ((hA σ b2 (Int32.toNatClampNeg x1)) - v5) then (chk (hT s5 a0 = 5) <| rfO (hR s5 2 1 a0) fun b7 => calI (f_NA_start N a0 x1 s5) fun v8 s8 => chk (hT s8 b7 = 1) <| calI (f_BR_byteAt N b7 ((v8 + x2)) s8) fun v10 s10 => some (v10, s10)) else (some ((-1), s5)))))
theorem c_NA_byteOf {g : mv_G} {N : Nat} {a0 : Nat} {x1 : Int32} {x2 : Int32} {σ : mh_H} {r : Int32 × mh_H} (h : f_NA_byteOf N a0 x1 x2 σ = some r) : mv_Met g M_NA_byteOf 1 21 0 0 [.ref a0, .int x1, .int x2] σ (fun oc τ => τ = r.2 ∧ oc = .returned (some (.int r.1))) := by
  refine mv_entry (L := [some (.ref a0), some (.int x1), some (.int x2)]) rfl rfl (Nat.le_of_ble_eq_true rfl) rfl ?_
  unfold f_NA_byteOf at h
  refine vr_iload_n d_NA_byteOf_0 rfl rfl ?_
  refine vr_if_lt (tgt := 32) d_NA_byteOf_1 (by decide) (fun c1 => ?_) (fun c1 => ?_)
  · replace h := l_ifp c1 h
    refine vr_iconst (-1) d_NA_byteOf_32 (by decide) ?_
    cases h
    exact vr_iret d_NA_byteOf_33 rfl rfl ⟨rfl, rfl⟩
  · replace h := l_ifn c1 h
    refine vr_iload_n d_NA_byteOf_4 rfl rfl ?_
    refine vr_aload_n d_NA_byteOf_5 rfl rfl ?_
    have q1 := (l_chk h).1
    replace h := (l_chk h).2
    refine vr_getI d_NA_byteOf_6 F_NA_9 rfl q1 ?_
    refine vr_icmp_ge (tgt := 32) d_NA_byteOf_9 (by decide) (fun c9 => ?_) (fun c9 => ?_)
    · replace h := l_ifp c9 h
      refine vr_iconst (-1) d_NA_byteOf_32 (by decide) ?_
      cases h
      exact vr_iret d_NA_byteOf_33 rfl rfl ⟨rfl, rfl⟩
    · replace h := l_ifn c9 h
      refine vr_iload_n d_NA_byteOf_12 rfl rfl ?_
      refine vr_if_lt (tgt := 32) d_NA_byteOf_13 (by decide) (fun c13 => ?_) (fun c13 => ?_)
      · replace h := l_ifp c13 h
        refine vr_iconst (-1) d_NA_byteOf_32 (by decide) ?_
        cases h
        exact vr_iret d_NA_byteOf_33 rfl rfl ⟨rfl, rfl⟩
      · replace h := l_ifn c13 h
        refine vr_iload_n d_NA_byteOf_16 rfl rfl ?_
        refine vr_aload_n d_NA_byteOf_17 rfl rfl ?_
        obtain ⟨b2, eb2, h⟩ := l_rf h
        refine vr_getR (b := b2) d_NA_byteOf_18 F_NA_24 rfl q1 eb2 ?_
        refine vr_iload_n d_NA_byteOf_21 rfl rfl ?_
        have q3 := (l_chk h).1
        replace h := (l_chk h).2
        have q4 := (l_chk h).1
        replace h := (l_chk h).2
        refine vr_iald (t := 0) d_NA_byteOf_22 rfl q3 (ib_in q4) ?_
        refine vr_aload_n d_NA_byteOf_23 rfl rfl ?_
        refine vr_iload_n d_NA_byteOf_24 rfl rfl ?_
        obtain ⟨v5, s5, ev5, h⟩ := l_calI h
        refine mh_callI 2 [.int x1] d_NA_byteOf_25 C_NA_40 (c_NA_start ev5) q1 rfl rfl rfl (Nat.le_of_ble_eq_true rfl) (by decide) (Nat.le_of_ble_eq_true rfl) ?_
        refine vr_isub d_NA_byteOf_28 ?_
        refine vr_icmp_lt (tgt := 34) d_NA_byteOf_29 (by decide) (fun c29 => ?_) (fun c29 => ?_)
        · replace h := l_ifp c29 h
          refine vr_aload_n d_NA_byteOf_34 rfl rfl ?_
          have q6 := (l_chk h).1
          replace h := (l_chk h).2
          obtain ⟨b7, eb7, h⟩ := l_rf h
          refine vr_getR (b := b7) d_NA_byteOf_35 F_NA_20 rfl q6 eb7 ?_
          refine vr_aload_n d_NA_byteOf_38 rfl rfl ?_
          refine vr_iload_n d_NA_byteOf_39 rfl rfl ?_
          obtain ⟨v8, s8, ev8, h⟩ := l_calI h
          refine mh_callI 2 [.int x1] d_NA_byteOf_40 C_NA_40 (c_NA_start ev8) q6 rfl rfl rfl (Nat.le_of_ble_eq_true rfl) (by decide) (Nat.le_of_ble_eq_true rfl) ?_
          refine vr_iload_n d_NA_byteOf_43 rfl rfl ?_
          refine vr_iadd d_NA_byteOf_44 ?_
          have q9 := (l_chk h).1
          replace h := (l_chk h).2
          obtain ⟨v10, s10, ev10, h⟩ := l_calI h
          refine mh_callI 0 [.int (v8 + x2)] d_NA_byteOf_45 C_NA_44 (c_BR_byteAt ev10) q9 rfl rfl rfl (Nat.le_of_ble_eq_true rfl) (by decide) (Nat.le_of_ble_eq_true rfl) ?_
          cases h
          exact vr_iret d_NA_byteOf_48 rfl rfl ⟨rfl, rfl⟩
        · replace h := l_ifn c29 h
          refine vr_iconst (-1) d_NA_byteOf_32 (by decide) ?_
          cases h
          exact vr_iret d_NA_byteOf_33 rfl rfl ⟨rfl, rfl⟩

def k_NA_isSpelt_28 (N : Nat) : Nat → Nat → Nat → Int32 → Int32 → Int32 → Int32 → mh_H → Option (Int32 × mh_H)
  | 0, _, _, _, _, _, _, _ => none
  | n + 1, y0, y2, y3, y4, y5, y6, σ => if (y4 - y3) ≤ y6 then (some (1, σ)) else (chk (hT σ y0 = 5) <| rfO (hR σ 2 1 y0) fun b8 => chk (hT σ b8 = 1) <| rfO (hR σ 0 0 b8) fun b10 => chk (hT σ b10 = 4) <| chk (ib (y5 + y6) (hN σ b10)) <| chk (hT σ y2 = 4) <| chk (ib (y3 + y6) (hN σ y2)) <| if (hA σ b10 (Int32.toNatClampNeg (y5 + y6))) = (hA σ y2 (Int32.toNatClampNeg (y3 + y6))) then (k_NA_isSpelt_28 N n y0 y2 y3 y4 y5 ((y6 + 1)) σ) else (some (0, σ)))
theorem q_NA_isSpelt_28 {g : mv_G} {N : Nat} : ∀ (n : Nat) (y0 : Nat) (y2 : Nat) (y3 : Int32) (y4 : Int32) (y5 : Int32) (y6 : Int32) (σ : mh_H) (r : Int32 × mh_H), k_NA_isSpelt_28 N n y0 y2 y3 y4 y5 y6 σ = some r → mv_V g M_NA_isSpelt 1 21 0 0 28 [some (.ref y0), none, some (.ref y2), some (.int y3), some (.int y4), some (.int y5), some (.int y6)] [] σ (fun oc τ => τ = r.2 ∧ oc = .returned (some (.int r.1))) := by
  intro n
  induction n with
  | zero =>
    intro y0 y2 y3 y4 y5 y6 σ r h
    exact absurd h (by simp [k_NA_isSpelt_28])
  | succ n ih =>
    intro y0 y2 y3 y4 y5 y6 σ r h 
    unfold k_NA_isSpelt_28 at h
    refine vr_iload d_NA_isSpelt_28 rfl ?_
    refine vr_iload d_NA_isSpelt_30 rfl ?_
    refine vr_iload_n d_NA_isSpelt_32 rfl rfl ?_
    refine vr_isub d_NA_isSpelt_33 ?_
    refine vr_icmp_ge (tgt := 67) d_NA_isSpelt_34 (by decide) (fun c34 => ?_) (fun c34 => ?_)
    · replace h := l_ifp c34 h
      refine vr_iconst 1 d_NA_isSpelt_67 (by decide) ?_
      cases h
      exact vr_iret d_NA_isSpelt_68 rfl rfl ⟨rfl, rfl⟩
    · replace h := l_ifn c34 h
      refine vr_aload_n d_NA_isSpelt_37 rfl rfl ?_
      have q7 := (l_chk h).1
      replace h := (l_chk h).2
      obtain ⟨b8, eb8, h⟩ := l_rf h
      refine vr_getR (b := b8) d_NA_isSpelt_38 F_NA_20 rfl q7 eb8 ?_
      have q9 := (l_chk h).1
      replace h := (l_chk h).2
      obtain ⟨b10, eb10, h⟩ := l_rf h
      refine vr_getR (b := b10) d_NA_isSpelt_41 F_NA_58 rfl q9 eb10 ?_
      refine vr_iload d_NA_isSpelt_44 rfl ?_
      refine vr_iload d_NA_isSpelt_46 rfl ?_
      refine vr_iadd d_NA_isSpelt_48 ?_
      have q11 := (l_chk h).1
      replace h := (l_chk h).2
      have q12 := (l_chk h).1
      replace h := (l_chk h).2
      refine vr_bald (t := 1) d_NA_isSpelt_49 rfl q11 (ib_in q12) ?_
      refine vr_aload_n d_NA_isSpelt_50 rfl rfl ?_
      refine vr_iload_n d_NA_isSpelt_51 rfl rfl ?_
      refine vr_iload d_NA_isSpelt_52 rfl ?_
      refine vr_iadd d_NA_isSpelt_54 ?_
      have q13 := (l_chk h).1
      replace h := (l_chk h).2
      have q14 := (l_chk h).1
      replace h := (l_chk h).2
      refine vr_bald (t := 1) d_NA_isSpelt_55 rfl q13 (ib_in q14) ?_
      refine vr_icmp_eq (tgt := 61) d_NA_isSpelt_56 (by decide) (fun c56 => ?_) (fun c56 => ?_)
      · replace h := l_ifp c56 h
        refine vr_iinc (L' := [some (.ref y0), none, some (.ref y2), some (.int y3), some (.int y4), some (.int y5), some (.int (y6 + 1))]) (y6 + 1) d_NA_isSpelt_61 (by decide) rfl rfl rfl ?_
        refine vr_goto (tgt := 28) d_NA_isSpelt_64 (by decide) ?_
        exact mv_drop (ih _ _ _ _ _ _ _ _ h) (And.intro rfl (And.intro rfl (And.intro rfl (And.intro rfl (And.intro rfl (And.intro rfl trivial))))))
      · replace h := l_ifn c56 h
        refine vr_iconst 0 d_NA_isSpelt_59 (by decide) ?_
        cases h
        exact vr_iret d_NA_isSpelt_60 rfl rfl ⟨rfl, rfl⟩

def f_NA_isSpelt (N : Nat) (a0 : Nat) (x1 : Int32) (x2 : Nat) (x3 : Int32) (x4 : Int32) (σ : mh_H) : Option (Int32 × mh_H) := chk (hT σ a0 = 5) <| calI (f_NA_start N a0 x1 σ) fun v2 s2 => chk (hT s2 a0 = 5) <| rfO (hR s2 2 2 a0) fun b4 => chk (hT s2 b4 = 2) <| chk (ib x1 (hN s2 b4)) <| if ((hA s2 b4 (Int32.toNatClampNeg x1)) - v2) = (x4 - x3) then (k_NA_isSpelt_28 N N a0 x2 x3 x4 v2 0 s2) else (some (0, s2))
theorem c_NA_isSpelt {g : mv_G} {N : Nat} {a0 : Nat} {x1 : Int32} {x2 : Nat} {x3 : Int32} {x4 : Int32} {σ : mh_H} {r : Int32 × mh_H} (h : f_NA_isSpelt N a0 x1 x2 x3 x4 σ = some r) : mv_Met g M_NA_isSpelt 1 21 0 0 [.ref a0, .int x1, .ref x2, .int x3, .int x4] σ (fun oc τ => τ = r.2 ∧ oc = .returned (some (.int r.1))) := by
  refine mv_entry (L := [some (.ref a0), some (.int x1), some (.ref x2), some (.int x3), some (.int x4), none, none]) rfl rfl (Nat.le_of_ble_eq_true rfl) rfl ?_
  unfold f_NA_isSpelt at h
  refine vr_aload_n d_NA_isSpelt_0 rfl rfl ?_
  refine vr_iload_n d_NA_isSpelt_1 rfl rfl ?_
  have q1 := (l_chk h).1
  replace h := (l_chk h).2
  obtain ⟨v2, s2, ev2, h⟩ := l_calI h
  refine mh_callI 2 [.int x1] d_NA_isSpelt_2 C_NA_40 (c_NA_start ev2) q1 rfl rfl rfl (Nat.le_of_ble_eq_true rfl) (by decide) (Nat.le_of_ble_eq_true rfl) ?_
  refine vr_istore (L' := [some (.ref a0), some (.int x1), some (.ref x2), some (.int x3), some (.int x4), some (.int v2), none]) d_NA_isSpelt_5 (by decide) rfl ?_
  refine vr_aload_n d_NA_isSpelt_7 rfl rfl ?_
  have q3 := (l_chk h).1
  replace h := (l_chk h).2
  obtain ⟨b4, eb4, h⟩ := l_rf h
  refine vr_getR (b := b4) d_NA_isSpelt_8 F_NA_24 rfl q3 eb4 ?_
  refine vr_iload_n d_NA_isSpelt_11 rfl rfl ?_
  have q5 := (l_chk h).1
  replace h := (l_chk h).2
  have q6 := (l_chk h).1
  replace h := (l_chk h).2
  refine vr_iald (t := 0) d_NA_isSpelt_12 rfl q5 (ib_in q6) ?_
  refine vr_iload d_NA_isSpelt_13 rfl ?_
  refine vr_isub d_NA_isSpelt_15 ?_
  refine vr_iload d_NA_isSpelt_16 rfl ?_
  refine vr_iload_n d_NA_isSpelt_18 rfl rfl ?_
  refine vr_isub d_NA_isSpelt_19 ?_
  refine vr_icmp_eq (tgt := 25) d_NA_isSpelt_20 (by decide) (fun c20 => ?_) (fun c20 => ?_)
  · replace h := l_ifp c20 h
    refine vr_iconst 0 d_NA_isSpelt_25 (by decide) ?_
    refine vr_istore (L' := [some (.ref a0), some (.int x1), some (.ref x2), some (.int x3), some (.int x4), some (.int v2), some (.int 0)]) d_NA_isSpelt_26 (by decide) rfl ?_
    exact mv_drop (q_NA_isSpelt_28 N _ _ _ _ _ _ _ _ h) (And.intro rfl (And.intro rfl (And.intro rfl (And.intro rfl (And.intro rfl (And.intro rfl trivial))))))
  · replace h := l_ifn c20 h
    refine vr_iconst 0 d_NA_isSpelt_23 (by decide) ?_
    cases h
    exact vr_iret d_NA_isSpelt_24 rfl rfl ⟨rfl, rfl⟩

def k_NA_chain_6 (N : Nat) : Nat → Nat → Nat → Int32 → Int32 → Int32 → mh_H → Option (Int32 × mh_H)
  | 0, _, _, _, _, _, _ => none
  | n + 1, y0, y1, y3, y4, y5, σ => if y3 ≤ y5 then (chk (hT σ y0 = 5) <| rfO (hR σ 2 4 y0) fun b2 => chk (hT σ b2 = 2) <| some ((y4 &&& ((nI (hN σ b2)) - 1)), σ)) else (chk (hT σ y1 = 4) <| chk (ib y5 (hN σ y1)) <| bnd (((31 * y4) + (hA σ y1 (Int32.toNatClampNeg y5)))) fun v6 => k_NA_chain_6 N n y0 y1 y3 v6 ((y5 + 1)) σ)
theorem q_NA_chain_6 {g : mv_G} {N : Nat} : ∀ (n : Nat) (y0 : Nat) (y1 : Nat) (y3 : Int32) (y4 : Int32) (y5 : Int32) (σ : mh_H) (r : Int32 × mh_H), k_NA_chain_6 N n y0 y1 y3 y4 y5 σ = some r → mv_V g M_NA_chain 0 0 0 0 6 [some (.ref y0), some (.ref y1), none, some (.int y3), some (.int y4), some (.int y5)] [] σ (fun oc τ => τ = r.2 ∧ oc = .returned (some (.int r.1))) := by
  intro n
  induction n with
  | zero =>
    intro y0 y1 y3 y4 y5 σ r h
    exact absurd h (by simp [k_NA_chain_6])
  | succ n ih =>
    intro y0 y1 y3 y4 y5 σ r h 
    unfold k_NA_chain_6 at h
    refine vr_iload d_NA_chain_6 rfl ?_
    refine vr_iload_n d_NA_chain_8 rfl rfl ?_
    refine vr_icmp_ge (tgt := 30) d_NA_chain_9 (by decide) (fun c9 => ?_) (fun c9 => ?_)
    · replace h := l_ifp c9 h
      refine vr_iload d_NA_chain_30 rfl ?_
      refine vr_aload_n d_NA_chain_32 rfl rfl ?_
      have q1 := (l_chk h).1
      replace h := (l_chk h).2
      obtain ⟨b2, eb2, h⟩ := l_rf h
      refine vr_getR (b := b2) d_NA_chain_33 F_NA_31 rfl q1 eb2 ?_
      have q3 := (l_chk h).1
      replace h := (l_chk h).2
      refine vr_alen (t := 0) d_NA_chain_36 rfl q3 ?_
      refine vr_iconst 1 d_NA_chain_37 (by decide) ?_
      refine vr_isub d_NA_chain_38 ?_
      refine vr_iand d_NA_chain_39 ?_
      cases h
      exact vr_iret d_NA_chain_40 rfl rfl ⟨rfl, rfl⟩
    · replace h := l_ifn c9 h
      refine vr_bipush 31 d_NA_chain_12 (by decide) ?_
      refine vr_iload d_NA_chain_14 rfl ?_
      refine vr_imul d_NA_chain_16 ?_
      refine vr_aload_n d_NA_chain_17 rfl rfl ?_
      refine vr_iload d_NA_chain_18 rfl ?_
      have q4 := (l_chk h).1
      replace h := (l_chk h).2
      have q5 := (l_chk h).1
      replace h := (l_chk h).2
      refine vr_bald (t := 1) d_NA_chain_20 rfl q4 (ib_in q5) ?_
      refine vr_iadd d_NA_chain_21 ?_
      obtain ⟨v6, ev6, h⟩ := l_bnd h
      refine vr_nm ev6 ?_
      refine vr_istore (L' := [some (.ref y0), some (.ref y1), none, some (.int y3), some (.int v6), some (.int y5)]) d_NA_chain_22 (by decide) rfl ?_
      refine vr_iinc (L' := [some (.ref y0), some (.ref y1), none, some (.int y3), some (.int v6), some (.int (y5 + 1))]) (y5 + 1) d_NA_chain_24 (by decide) rfl rfl rfl ?_
      refine vr_goto (tgt := 6) d_NA_chain_27 (by decide) ?_
      exact mv_drop (ih _ _ _ _ _ _ _ h) (And.intro rfl (And.intro rfl (And.intro rfl (And.intro rfl (And.intro rfl trivial)))))

def f_NA_chain (N : Nat) (a0 : Nat) (x1 : Nat) (x2 : Int32) (x3 : Int32) (σ : mh_H) : Option (Int32 × mh_H) := k_NA_chain_6 N N a0 x1 x3 0 x2 σ
theorem c_NA_chain {g : mv_G} {N : Nat} {a0 : Nat} {x1 : Nat} {x2 : Int32} {x3 : Int32} {σ : mh_H} {r : Int32 × mh_H} (h : f_NA_chain N a0 x1 x2 x3 σ = some r) : mv_Met g M_NA_chain 0 0 0 0 [.ref a0, .ref x1, .int x2, .int x3] σ (fun oc τ => τ = r.2 ∧ oc = .returned (some (.int r.1))) := by
  refine mv_entry (L := [some (.ref a0), some (.ref x1), some (.int x2), some (.int x3), none, none]) rfl rfl (Nat.le_of_ble_eq_true rfl) rfl ?_
  unfold f_NA_chain at h
  refine vr_iconst 0 d_NA_chain_0 (by decide) ?_
  refine vr_istore (L' := [some (.ref a0), some (.ref x1), some (.int x2), some (.int x3), some (.int 0), none]) d_NA_chain_1 (by decide) rfl ?_
  refine vr_iload_n d_NA_chain_3 rfl rfl ?_
  refine vr_istore (L' := [some (.ref a0), some (.ref x1), some (.int x2), some (.int x3), some (.int 0), some (.int x2)]) d_NA_chain_4 (by decide) rfl ?_
  exact mv_drop (q_NA_chain_6 N _ _ _ _ _ _ _ h) (And.intro rfl (And.intro rfl (And.intro rfl (And.intro rfl (And.intro rfl trivial)))))

def f_NA_link (N : Nat) (a0 : Nat) (x1 : Int32) (σ : mh_H) : Option (mh_H) := chk (hT σ a0 = 5) <| rfO (hR σ 2 1 a0) fun b2 => chk (hT σ b2 = 1) <| rfO (hR σ 0 0 b2) fun b4 => calI (f_NA_start N a0 x1 σ) fun v5 s5 => chk (hT s5 a0 = 5) <| rfO (hR s5 2 2 a0) fun b7 => chk (hT s5 b7 = 2) <| chk (ib x1 (hN s5 b7)) <| calI (f_NA_chain N a0 b4 v5 ((hA s5 b7 (Int32.toNatClampNeg x1))) s5) fun v10 s10 => chk (hT s10 a0 = 5) <| rfO (hR s10 2 3 a0) fun b12 => rfO (hR s10 2 4 a0) fun b13 => chk (hT s10 b13 = 2) <| chk (ib v10 (hN s10 b13)) <| bnd ((hA s10 b13 (Int32.toNatClampNeg v10))) fun v16 => chk (hT s10 b12 = 2) <| chk (ib x1 (hN s10 b12)) <| chk (ib v10 (hN (mh_setA s10 b12 (Int32.toNatClampNeg x1) v16) b13)) <| some ((mh_setA (mh_setA s10 b12 (Int32.toNatClampNeg x1) v16) b13 (Int32.toNatClampNeg v10) x1))
theorem c_NA_link {g : mv_G} {N : Nat} {a0 : Nat} {x1 : Int32} {σ : mh_H} {r : mh_H} (h : f_NA_link N a0 x1 σ = some r) : mv_Met g M_NA_link 1 25 0 0 [.ref a0, .int x1] σ (fun oc τ => τ = r ∧ oc = .returned none) := by
  refine mv_entry (L := [some (.ref a0), some (.int x1), none]) rfl rfl (Nat.le_of_ble_eq_true rfl) rfl ?_
  unfold f_NA_link at h
  refine vr_aload_n d_NA_link_0 rfl rfl ?_
  refine vr_aload_n d_NA_link_1 rfl rfl ?_
  have q1 := (l_chk h).1
  replace h := (l_chk h).2
  obtain ⟨b2, eb2, h⟩ := l_rf h
  refine vr_getR (b := b2) d_NA_link_2 F_NA_20 rfl q1 eb2 ?_
  have q3 := (l_chk h).1
  replace h := (l_chk h).2
  obtain ⟨b4, eb4, h⟩ := l_rf h
  refine vr_getR (b := b4) d_NA_link_5 F_NA_58 rfl q3 eb4 ?_
  refine vr_aload_n d_NA_link_8 rfl rfl ?_
  refine vr_iload_n d_NA_link_9 rfl rfl ?_
  obtain ⟨v5, s5, ev5, h⟩ := l_calI h
  refine mh_callI 2 [.int x1] d_NA_link_10 C_NA_40 (c_NA_start ev5) q1 rfl rfl rfl (Nat.le_of_ble_eq_true rfl) (by decide) (Nat.le_of_ble_eq_true rfl) ?_
  refine vr_aload_n d_NA_link_13 rfl rfl ?_
  have q6 := (l_chk h).1
  replace h := (l_chk h).2
  obtain ⟨b7, eb7, h⟩ := l_rf h
  refine vr_getR (b := b7) d_NA_link_14 F_NA_24 rfl q6 eb7 ?_
  refine vr_iload_n d_NA_link_17 rfl rfl ?_
  have q8 := (l_chk h).1
  replace h := (l_chk h).2
  have q9 := (l_chk h).1
  replace h := (l_chk h).2
  refine vr_iald (t := 0) d_NA_link_18 rfl q8 (ib_in q9) ?_
  obtain ⟨v10, s10, ev10, h⟩ := l_calI h
  refine mh_callI 2 [.ref b4, .int v5, .int (hA s5 b7 (Int32.toNatClampNeg x1))] d_NA_link_19 C_NA_47 (c_NA_chain ev10) q6 rfl rfl rfl (Nat.le_of_ble_eq_true rfl) (by decide) (Nat.le_of_ble_eq_true rfl) ?_
  refine vr_istore_n (L' := [some (.ref a0), some (.int x1), some (.int v10)]) d_NA_link_22 rfl (by decide) rfl ?_
  refine vr_aload_n d_NA_link_23 rfl rfl ?_
  have q11 := (l_chk h).1
  replace h := (l_chk h).2
  obtain ⟨b12, eb12, h⟩ := l_rf h
  refine vr_getR (b := b12) d_NA_link_24 F_NA_28 rfl q11 eb12 ?_
  refine vr_iload_n d_NA_link_27 rfl rfl ?_
  refine vr_aload_n d_NA_link_28 rfl rfl ?_
  obtain ⟨b13, eb13, h⟩ := l_rf h
  refine vr_getR (b := b13) d_NA_link_29 F_NA_31 rfl q11 eb13 ?_
  refine vr_iload_n d_NA_link_32 rfl rfl ?_
  have q14 := (l_chk h).1
  replace h := (l_chk h).2
  have q15 := (l_chk h).1
  replace h := (l_chk h).2
  refine vr_iald (t := 0) d_NA_link_33 rfl q14 (ib_in q15) ?_
  obtain ⟨v16, ev16, h⟩ := l_bnd h
  refine vr_nm ev16 ?_
  have q17 := (l_chk h).1
  replace h := (l_chk h).2
  have q18 := (l_chk h).1
  replace h := (l_chk h).2
  refine vr_iast (t := 0) d_NA_link_34 rfl q17 (ib_in q18) ?_
  refine vr_aload_n d_NA_link_35 rfl rfl ?_
  refine vr_getR (b := b13) d_NA_link_36 F_NA_31 rfl q11 eb13 ?_
  refine vr_iload_n d_NA_link_39 rfl rfl ?_
  refine vr_iload_n d_NA_link_40 rfl rfl ?_
  have q19 := (l_chk h).1
  replace h := (l_chk h).2
  refine vr_iast (t := 0) d_NA_link_41 rfl q14 (ib_in q19) ?_
  cases h
  exact vr_vret d_NA_link_42 rfl ⟨rfl, rfl⟩

def k_NA_grow_44 (N : Nat) : Nat → Nat → Int32 → mh_H → Option (mh_H × Nat × Nat)
  | 0, _, _, _ => none
  | n + 1, y0, y2, σ => chk (hT σ y0 = 5) <| if (hI σ 2 0 y0) ≤ y2 then (some (σ, 0, 0)) else (calV (f_NA_link N y0 y2 σ) fun s20 => k_NA_grow_44 N n y0 ((y2 + 1)) s20)
theorem q_NA_grow_44 {g : mv_G} {N : Nat} : ∀ (n : Nat) (y0 : Nat) (y2 : Int32) (σ : mh_H) (r : mh_H × Nat × Nat), k_NA_grow_44 N n y0 y2 σ = some r → ∀ cb sb : Nat, r.2.1 ≤ cb → r.2.2 ≤ sb → mv_V g M_NA_grow 7 142 cb sb 44 [some (.ref y0), none, some (.int y2)] [] σ (fun oc τ => τ = r.1 ∧ oc = .returned none) := by
  intro n
  induction n with
  | zero =>
    intro y0 y2 σ r h
    exact absurd h (by simp [k_NA_grow_44])
  | succ n ih =>
    intro y0 y2 σ r h cb sb hc hs
    unfold k_NA_grow_44 at h
    refine vr_iload_n d_NA_grow_44 rfl rfl ?_
    refine vr_aload_n d_NA_grow_45 rfl rfl ?_
    have q19 := (l_chk h).1
    replace h := (l_chk h).2
    refine vr_getI d_NA_grow_46 F_NA_9 rfl q19 ?_
    refine vr_icmp_ge (tgt := 63) d_NA_grow_49 (by decide) (fun c49 => ?_) (fun c49 => ?_)
    · replace h := l_ifp c49 h
      cases h
      exact vr_vret d_NA_grow_63 rfl ⟨rfl, rfl⟩
    · replace h := l_ifn c49 h
      refine vr_aload_n d_NA_grow_52 rfl rfl ?_
      refine vr_iload_n d_NA_grow_53 rfl rfl ?_
      obtain ⟨s20, es20, h⟩ := l_calV h
      refine mh_callU 2 [.int y2] d_NA_grow_54 C_NA_70 (c_NA_link es20) q19 rfl rfl rfl (Nat.le_of_ble_eq_true rfl) (by decide) (Nat.le_of_ble_eq_true rfl) ?_
      refine vr_iinc (L' := [some (.ref y0), none, some (.int (y2 + 1))]) (y2 + 1) d_NA_grow_57 (by decide) rfl rfl rfl ?_
      refine vr_goto (tgt := 44) d_NA_grow_60 (by decide) ?_
      exact mv_drop (ih _ _ _ _ h _ _ hc hs) (And.intro rfl (And.intro rfl trivial))

def f_NA_grow (N : Nat) (a0 : Nat) (σ : mh_H) : Option (mh_H × Nat × Nat) := chk (hT σ a0 = 5) <| rfO (hR σ 2 2 a0) fun b2 => chk (hT σ b2 = 2) <| bnd ((2 * (nI (hN σ b2)))) fun v4 => calAI (f_AR_copyOfI N b2 v4 σ) fun v5 s5 => chk (hT s5 a0 = 5) <| chk (¬ v4 < 0 ∧ Int32.toNatClampNeg v4 ≤ 100000) <| tkA 1 (Int32.toNatClampNeg v4) <| bnd (hX (mh_setR s5 2 2 a0 (some v5))) fun a9 => bnd (mh_arr (mh_setR s5 2 2 a0 (some v5)) 0 (Int32.toNatClampNeg v4)) fun s10 => chk (hT s10 a0 = 5) <| chk (¬ v4 < 0 ∧ Int32.toNatClampNeg v4 ≤ 100000) <| tkA 1 (Int32.toNatClampNeg v4) <| bnd (hX (mh_setR s10 2 3 a0 (some a9))) fun a14 => bnd (mh_arr (mh_setR s10 2 3 a0 (some a9)) 0 (Int32.toNatClampNeg v4)) fun s15 => chk (hT s15 a0 = 5) <| rfO (hR (mh_setR s15 2 4 a0 (some a14)) 2 4 a0) fun b17 => calV (f_AR_fill N b17 (-1) (mh_setR s15 2 4 a0 (some a14))) fun s18 => k_NA_grow_44 N N a0 0 s18
theorem c_NA_grow {g : mv_G} {N : Nat} {a0 : Nat} {σ : mh_H} {r : mh_H × Nat × Nat} (h : f_NA_grow N a0 σ = some r) : mv_Met g M_NA_grow 7 142 r.2.1 r.2.2 [.ref a0] σ (fun oc τ => τ = r.1 ∧ oc = .returned none) := by
  have key : ∀ cb sb : Nat, r.2.1 ≤ cb → r.2.2 ≤ sb → mv_V g M_NA_grow 7 142 cb sb 0 [some (.ref a0), none, none] [] σ (fun oc τ => τ = r.1 ∧ oc = .returned none) := by
    intro cb sb hc hs
    unfold f_NA_grow at h
    refine vr_iconst 2 d_NA_grow_0 (by decide) ?_
    refine vr_aload_n d_NA_grow_1 rfl rfl ?_
    have q1 := (l_chk h).1
    replace h := (l_chk h).2
    obtain ⟨b2, eb2, h⟩ := l_rf h
    refine vr_getR (b := b2) d_NA_grow_2 F_NA_24 rfl q1 eb2 ?_
    have q3 := (l_chk h).1
    replace h := (l_chk h).2
    refine vr_alen (t := 0) d_NA_grow_5 rfl q3 ?_
    refine vr_imul d_NA_grow_6 ?_
    obtain ⟨v4, ev4, h⟩ := l_bnd h
    refine vr_nm ev4 ?_
    refine vr_istore_n (L' := [some (.ref a0), some (.int v4), none]) d_NA_grow_7 rfl (by decide) rfl ?_
    refine vr_aload_n d_NA_grow_8 rfl rfl ?_
    refine vr_aload_n d_NA_grow_9 rfl rfl ?_
    refine vr_getR (b := b2) d_NA_grow_10 F_NA_24 rfl q1 eb2 ?_
    refine vr_iload_n d_NA_grow_13 rfl rfl ?_
    obtain ⟨v5, s5, c5, n5, ev5, r5, x5, y5, hh5, hz⟩ := l_calAI h
    clear h
    cases hz
    have h := hh5
    have h15 : c5 ≤ cb := by have hz : x5 + c5 ≤ cb := hc; omega
    have h25 : n5 ≤ sb := by have hz : y5 + n5 ≤ sb := hs; omega
    replace hc : x5 ≤ cb - c5 := by have hz : x5 + c5 ≤ cb := hc; omega
    replace hs : y5 ≤ sb - n5 := by have hz : y5 + n5 ≤ sb := hs; omega
    refine mh_callSAa [.ref b2, .int v4] d_NA_grow_14 C_NA_73 (c_AR_copyOfI ev5) rfl rfl (Nat.le_of_ble_eq_true rfl) (by decide) (Nat.le_of_ble_eq_true rfl) h15 h25 ?_
    have q6 := (l_chk h).1
    replace h := (l_chk h).2
    refine vr_putR d_NA_grow_17 W_NA_grow_24 rfl rfl rfl q6 ?_
    refine vr_aload_n d_NA_grow_20 rfl rfl ?_
    refine vr_iload_n d_NA_grow_21 rfl rfl ?_
    have q7 := (l_chk h).1
    replace h := (l_chk h).2
    obtain ⟨ru8, xu8, yu8, hhu8, hz⟩ := l_tkA h
    clear h
    cases hz
    have h := hhu8
    have h1u8 : 1 ≤ (cb - c5) := by have hz : xu8 + 1 ≤ (cb - c5) := hc; omega
    have h2u8 : (Int32.toNatClampNeg v4) ≤ (sb - n5) := by have hz : yu8 + (Int32.toNatClampNeg v4) ≤ (sb - n5) := hs; omega
    replace hc : xu8 ≤ (cb - c5) - 1 := by have hz : xu8 + 1 ≤ (cb - c5) := hc; omega
    replace hs : yu8 ≤ (sb - n5) - (Int32.toNatClampNeg v4) := by have hz : yu8 + (Int32.toNatClampNeg v4) ≤ (sb - n5) := hs; omega
    refine mh_newI d_NA_grow_22 q7 h1u8 h2u8 ?_
    obtain ⟨a9, ea9, h⟩ := l_bnd h
    refine vr_nmA ea9 ?_
    obtain ⟨s10, es10, h⟩ := l_bnd h
    refine vr_nmS es10 ?_
    have q11 := (l_chk h).1
    replace h := (l_chk h).2
    refine vr_putR d_NA_grow_24 W_NA_grow_28 rfl rfl rfl q11 ?_
    refine vr_aload_n d_NA_grow_27 rfl rfl ?_
    refine vr_iload_n d_NA_grow_28 rfl rfl ?_
    have q12 := (l_chk h).1
    replace h := (l_chk h).2
    obtain ⟨ru13, xu13, yu13, hhu13, hz⟩ := l_tkA h
    clear h
    cases hz
    have h := hhu13
    have h1u13 : 1 ≤ ((cb - c5) - 1) := by have hz : xu13 + 1 ≤ ((cb - c5) - 1) := hc; omega
    have h2u13 : (Int32.toNatClampNeg v4) ≤ ((sb - n5) - (Int32.toNatClampNeg v4)) := by have hz : yu13 + (Int32.toNatClampNeg v4) ≤ ((sb - n5) - (Int32.toNatClampNeg v4)) := hs; omega
    replace hc : xu13 ≤ ((cb - c5) - 1) - 1 := by have hz : xu13 + 1 ≤ ((cb - c5) - 1) := hc; omega
    replace hs : yu13 ≤ ((sb - n5) - (Int32.toNatClampNeg v4)) - (Int32.toNatClampNeg v4) := by have hz : yu13 + (Int32.toNatClampNeg v4) ≤ ((sb - n5) - (Int32.toNatClampNeg v4)) := hs; omega
    refine mh_newI d_NA_grow_29 q12 h1u13 h2u13 ?_
    obtain ⟨a14, ea14, h⟩ := l_bnd h
    refine vr_nmA ea14 ?_
    obtain ⟨s15, es15, h⟩ := l_bnd h
    refine vr_nmS es15 ?_
    have q16 := (l_chk h).1
    replace h := (l_chk h).2
    refine vr_putR d_NA_grow_31 W_NA_grow_31 rfl rfl rfl q16 ?_
    refine vr_aload_n d_NA_grow_34 rfl rfl ?_
    obtain ⟨b17, eb17, h⟩ := l_rf h
    refine vr_getR (b := b17) d_NA_grow_35 F_NA_31 rfl q16 eb17 ?_
    refine vr_iconst (-1) d_NA_grow_38 (by decide) ?_
    obtain ⟨s18, es18, h⟩ := l_calV h
    refine mh_callSU [.ref b17, .int (-1)] d_NA_grow_39 C_NA_34 (c_AR_fill es18) rfl rfl (Nat.le_of_ble_eq_true rfl) (by decide) (Nat.le_of_ble_eq_true rfl) ?_
    refine vr_iconst 0 d_NA_grow_42 (by decide) ?_
    refine vr_istore_n (L' := [some (.ref a0), some (.int v4), some (.int 0)]) d_NA_grow_43 rfl (by decide) rfl ?_
    exact mv_drop (q_NA_grow_44 N _ _ _ _ h _ _ hc hs) (And.intro rfl (And.intro rfl trivial))
  exact mv_entry (L := [some (.ref a0), none, none]) rfl rfl (Nat.le_of_ble_eq_true rfl) rfl (key _ _ (Nat.le_refl _) (Nat.le_refl _))

def k_NA_add_45 (N : Nat) (y0 : Nat) (y1 : Nat) (y2 : Int32) (y3 : Int32) (σ : mh_H) : Option ((Int32 × mh_H) × Nat × Nat) := chk (hT σ y0 = 5) <| rfO (hR σ 2 1 y0) fun b8 => chk (hT σ b8 = 1) <| calA (f_BR_addRange N b8 y1 y2 y3 σ) fun s10 => chk (hT s10 y0 = 5) <| rfO (hR s10 2 2 y0) fun b12 => rfO (hR s10 2 1 y0) fun b13 => chk (hT s10 b13 = 1) <| bnd ((hI s10 0 1 b13)) fun v15 => chk (hT s10 b12 = 2) <| chk (ib (hI s10 2 0 y0) (hN s10 b12)) <| bnd ((hI (mh_setA s10 b12 (Int32.toNatClampNeg (hI s10 2 0 y0)) v15) 2 0 y0)) fun v18 => bnd ((v18 + 1)) fun v19 => bnd ((hI (mh_setI (mh_setA s10 b12 (Int32.toNatClampNeg (hI s10 2 0 y0)) v15) 2 0 y0 v19) 2 0 y0)) fun v20 => calV (f_NA_link N y0 ((v20 - 1)) (mh_setI (mh_setA s10 b12 (Int32.toNatClampNeg (hI s10 2 0 y0)) v15) 2 0 y0 v19)) fun s21 => chk (hT s21 y0 = 5) <| some ((((hI s21 2 0 y0) - 1), s21), 0, 0)
theorem q_NA_add_45 {g : mv_G} {N : Nat} (y0 : Nat) (y1 : Nat) (y2 : Int32) (y3 : Int32) (σ : mh_H) (r : (Int32 × mh_H) × Nat × Nat) (h : k_NA_add_45 N y0 y1 y2 y3 σ = some r) : ∀ cb sb : Nat, r.2.1 ≤ cb → r.2.2 ≤ sb → mv_V g M_NA_add 9 188 cb sb 45 [some (.ref y0), some (.ref y1), some (.int y2), some (.int y3)] [] σ (fun oc τ => τ = r.1.2 ∧ oc = .returned (some (.int r.1.1))) := by
  intro cb sb hc hs
  unfold k_NA_add_45 at h
  refine vr_aload_n d_NA_add_45 rfl rfl ?_
  have q7 := (l_chk h).1
  replace h := (l_chk h).2
  obtain ⟨b8, eb8, h⟩ := l_rf h
  refine vr_getR (b := b8) d_NA_add_46 F_NA_20 rfl q7 eb8 ?_
  refine vr_aload_n d_NA_add_49 rfl rfl ?_
  refine vr_iload_n d_NA_add_50 rfl rfl ?_
  refine vr_iload_n d_NA_add_51 rfl rfl ?_
  have q9 := (l_chk h).1
  replace h := (l_chk h).2
  obtain ⟨s10, c10, n10, ev10, r10, x10, y10, hh10, hz⟩ := l_calA h
  clear h
  cases hz
  have h := hh10
  have h110 : c10 ≤ cb := by have hz : x10 + c10 ≤ cb := hc; omega
  have h210 : n10 ≤ sb := by have hz : y10 + n10 ≤ sb := hs; omega
  replace hc : x10 ≤ cb - c10 := by have hz : x10 + c10 ≤ cb := hc; omega
  replace hs : y10 ≤ sb - n10 := by have hz : y10 + n10 ≤ sb := hs; omega
  refine mh_callUa 0 [.ref y1, .int y2, .int y3] d_NA_add_52 C_NA_62 (c_BR_addRange ev10) q9 rfl rfl rfl (Nat.le_of_ble_eq_true rfl) (by decide) (Nat.le_of_ble_eq_true rfl) h110 h210 ?_
  refine vr_aload_n d_NA_add_55 rfl rfl ?_
  have q11 := (l_chk h).1
  replace h := (l_chk h).2
  obtain ⟨b12, eb12, h⟩ := l_rf h
  refine vr_getR (b := b12) d_NA_add_56 F_NA_24 rfl q11 eb12 ?_
  refine vr_aload_n d_NA_add_59 rfl rfl ?_
  refine vr_getI d_NA_add_60 F_NA_9 rfl q11 ?_
  refine vr_aload_n d_NA_add_63 rfl rfl ?_
  obtain ⟨b13, eb13, h⟩ := l_rf h
  refine vr_getR (b := b13) d_NA_add_64 F_NA_20 rfl q11 eb13 ?_
  have q14 := (l_chk h).1
  replace h := (l_chk h).2
  refine vr_getI d_NA_add_67 F_NA_66 rfl q14 ?_
  obtain ⟨v15, ev15, h⟩ := l_bnd h
  refine vr_nm ev15 ?_
  have q16 := (l_chk h).1
  replace h := (l_chk h).2
  have q17 := (l_chk h).1
  replace h := (l_chk h).2
  refine vr_iast (t := 0) d_NA_add_70 rfl q16 (ib_in q17) ?_
  refine vr_aload_n d_NA_add_71 rfl rfl ?_
  refine vr_dup d_NA_add_72 rfl ?_
  refine vr_getI d_NA_add_73 F_NA_9 rfl q11 ?_
  obtain ⟨v18, ev18, h⟩ := l_bnd h
  refine vr_nm ev18 ?_
  refine vr_iconst 1 d_NA_add_76 (by decide) ?_
  refine vr_iadd d_NA_add_77 ?_
  obtain ⟨v19, ev19, h⟩ := l_bnd h
  refine vr_nm ev19 ?_
  refine vr_putI d_NA_add_78 W_NA_add_9 rfl rfl rfl q11 ?_
  refine vr_aload_n d_NA_add_81 rfl rfl ?_
  refine vr_aload_n d_NA_add_82 rfl rfl ?_
  refine vr_getI d_NA_add_83 F_NA_9 rfl q11 ?_
  obtain ⟨v20, ev20, h⟩ := l_bnd h
  refine vr_nm ev20 ?_
  refine vr_iconst 1 d_NA_add_86 (by decide) ?_
  refine vr_isub d_NA_add_87 ?_
  obtain ⟨s21, es21, h⟩ := l_calV h
  refine mh_callU 2 [.int (v20 - 1)] d_NA_add_88 C_NA_70 (c_NA_link es21) q11 rfl rfl rfl (Nat.le_of_ble_eq_true rfl) (by decide) (Nat.le_of_ble_eq_true rfl) ?_
  refine vr_aload_n d_NA_add_91 rfl rfl ?_
  have q22 := (l_chk h).1
  replace h := (l_chk h).2
  refine vr_getI d_NA_add_92 F_NA_9 rfl q22 ?_
  refine vr_iconst 1 d_NA_add_95 (by decide) ?_
  refine vr_isub d_NA_add_96 ?_
  cases h
  exact vr_iret d_NA_add_97 rfl rfl ⟨rfl, rfl⟩

def f_NA_add (N : Nat) (a0 : Nat) (x1 : Nat) (x2 : Int32) (x3 : Int32) (σ : mh_H) : Option ((Int32 × mh_H) × Nat × Nat) := chk (hT σ a0 = 5) <| if 8192 ≤ (hI σ 2 0 a0) then (some (((-1), σ), 0, 0)) else (rfO (hR σ 2 1 a0) fun b2 => chk (hT σ b2 = 1) <| if (((hI σ 0 1 b2) + x3) - x2) ≤ 16384 then (rfO (hR σ 2 2 a0) fun b4 => chk (hT σ b4 = 2) <| if (hI σ 2 0 a0) < (nI (hN σ b4)) then (k_NA_add_45 N a0 x1 x2 x3 σ) else (calA (f_NA_grow N a0 σ) fun s6 => k_NA_add_45 N a0 x1 x2 x3 s6)) else (some (((-1), σ), 0, 0)))
theorem c_NA_add {g : mv_G} {N : Nat} {a0 : Nat} {x1 : Nat} {x2 : Int32} {x3 : Int32} {σ : mh_H} {r : (Int32 × mh_H) × Nat × Nat} (h : f_NA_add N a0 x1 x2 x3 σ = some r) : mv_Met g M_NA_add 9 188 r.2.1 r.2.2 [.ref a0, .ref x1, .int x2, .int x3] σ (fun oc τ => τ = r.1.2 ∧ oc = .returned (some (.int r.1.1))) := by
  have key : ∀ cb sb : Nat, r.2.1 ≤ cb → r.2.2 ≤ sb → mv_V g M_NA_add 9 188 cb sb 0 [some (.ref a0), some (.ref x1), some (.int x2), some (.int x3)] [] σ (fun oc τ => τ = r.1.2 ∧ oc = .returned (some (.int r.1.1))) := by
    intro cb sb hc hs
    unfold f_NA_add at h
    refine vr_aload_n d_NA_add_0 rfl rfl ?_
    have q1 := (l_chk h).1
    replace h := (l_chk h).2
    refine vr_getI d_NA_add_1 F_NA_9 rfl q1 ?_
    refine vr_sipush 8192 d_NA_add_4 (by decide) ?_
    refine vr_icmp_ge (tgt := 27) d_NA_add_7 (by decide) (fun c7 => ?_) (fun c7 => ?_)
    · replace h := l_ifp c7 h
      refine vr_iconst (-1) d_NA_add_27 (by decide) ?_
      cases h
      exact vr_iret d_NA_add_28 rfl rfl ⟨rfl, rfl⟩
    · replace h := l_ifn c7 h
      refine vr_aload_n d_NA_add_10 rfl rfl ?_
      obtain ⟨b2, eb2, h⟩ := l_rf h
      refine vr_getR (b := b2) d_NA_add_11 F_NA_20 rfl q1 eb2 ?_
      have q3 := (l_chk h).1
      replace h := (l_chk h).2
      refine vr_getI d_NA_add_14 F_NA_66 rfl q3 ?_
      refine vr_iload_n d_NA_add_17 rfl rfl ?_
      refine vr_iadd d_NA_add_18 ?_
      refine vr_iload_n d_NA_add_19 rfl rfl ?_
      refine vr_isub d_NA_add_20 ?_
      refine vr_sipush 16384 d_NA_add_21 (by decide) ?_
      refine vr_icmp_le (tgt := 29) d_NA_add_24 (by decide) (fun c24 => ?_) (fun c24 => ?_)
      · replace h := l_ifp c24 h
        refine vr_aload_n d_NA_add_29 rfl rfl ?_
        refine vr_getI d_NA_add_30 F_NA_9 rfl q1 ?_
        refine vr_aload_n d_NA_add_33 rfl rfl ?_
        obtain ⟨b4, eb4, h⟩ := l_rf h
        refine vr_getR (b := b4) d_NA_add_34 F_NA_24 rfl q1 eb4 ?_
        have q5 := (l_chk h).1
        replace h := (l_chk h).2
        refine vr_alen (t := 0) d_NA_add_37 rfl q5 ?_
        refine vr_icmp_lt (tgt := 45) d_NA_add_38 (by decide) (fun c38 => ?_) (fun c38 => ?_)
        · replace h := l_ifp c38 h
          exact mv_drop (q_NA_add_45 _ _ _ _ _ _ h _ _ hc hs) (And.intro rfl (And.intro rfl (And.intro rfl (And.intro rfl trivial))))
        · replace h := l_ifn c38 h
          refine vr_aload_n d_NA_add_41 rfl rfl ?_
          obtain ⟨s6, c6, n6, ev6, r6, x6, y6, hh6, hz⟩ := l_calA h
          clear h
          cases hz
          have h := hh6
          have h16 : c6 ≤ cb := by have hz : x6 + c6 ≤ cb := hc; omega
          have h26 : n6 ≤ sb := by have hz : y6 + n6 ≤ sb := hs; omega
          replace hc : x6 ≤ cb - c6 := by have hz : x6 + c6 ≤ cb := hc; omega
          replace hs : y6 ≤ sb - n6 := by have hz : y6 + n6 ≤ sb := hs; omega
          refine mh_callUa 2 [] d_NA_add_42 C_NA_67 (c_NA_grow ev6) q1 rfl rfl rfl (Nat.le_of_ble_eq_true rfl) (by decide) (Nat.le_of_ble_eq_true rfl) h16 h26 ?_
          exact mv_drop (q_NA_add_45 _ _ _ _ _ _ h _ _ hc hs) (And.intro rfl (And.intro rfl (And.intro rfl (And.intro rfl trivial))))
      · replace h := l_ifn c24 h
        refine vr_iconst (-1) d_NA_add_27 (by decide) ?_
        cases h
        exact vr_iret d_NA_add_28 rfl rfl ⟨rfl, rfl⟩
  exact mv_entry (L := [some (.ref a0), some (.ref x1), some (.int x2), some (.int x3)]) rfl rfl (Nat.le_of_ble_eq_true rfl) rfl (key _ _ (Nat.le_refl _) (Nat.le_refl _))

def k_NA_numberOf_17 (N : Nat) : Nat → Nat → Nat → Int32 → Int32 → Int32 → Int32 → mh_H → Option ((Int32 × mh_H) × Nat × Nat)
  | 0, _, _, _, _, _, _, _ => none
  | n + 1, y0, y1, y2, y3, y4, y5, σ => chk (hT σ y0 = 5) <| if (hI σ 2 0 y0) ≤ y5 then (calAI (f_NA_add N y0 y1 y2 y3 σ) fun v8 s8 => some ((v8, s8), 0, 0)) else (if y4 = (-1) then (calAI (f_NA_add N y0 y1 y2 y3 σ) fun v9 s9 => some ((v9, s9), 0, 0)) else (calI (f_NA_isSpelt N y0 y4 y1 y2 y3 σ) fun v10 s10 => if v10 = 0 then (chk (hT s10 y0 = 5) <| rfO (hR s10 2 3 y0) fun b12 => chk (hT s10 b12 = 2) <| chk (ib y4 (hN s10 b12)) <| bnd ((hA s10 b12 (Int32.toNatClampNeg y4))) fun v15 => k_NA_numberOf_17 N n y0 y1 y2 y3 v15 ((y5 + 1)) s10) else (some ((y4, s10), 0, 0))))
theorem q_NA_numberOf_17 {g : mv_G} {N : Nat} : ∀ (n : Nat) (y0 : Nat) (y1 : Nat) (y2 : Int32) (y3 : Int32) (y4 : Int32) (y5 : Int32) (σ : mh_H) (r : (Int32 × mh_H) × Nat × Nat), k_NA_numberOf_17 N n y0 y1 y2 y3 y4 y5 σ = some r → ∀ cb sb : Nat, r.2.1 ≤ cb → r.2.2 ≤ sb → mv_V g M_NA_numberOf 10 211 cb sb 17 [some (.ref y0), some (.ref y1), some (.int y2), some (.int y3), some (.int y4), some (.int y5)] [] σ (fun oc τ => τ = r.1.2 ∧ oc = .returned (some (.int r.1.1))) := by
  intro n
  induction n with
  | zero =>
    intro y0 y1 y2 y3 y4 y5 σ r h
    exact absurd h (by simp [k_NA_numberOf_17])
  | succ n ih =>
    intro y0 y1 y2 y3 y4 y5 σ r h cb sb hc hs
    unfold k_NA_numberOf_17 at h
    refine vr_iload d_NA_numberOf_17 rfl ?_
    refine vr_aload_n d_NA_numberOf_19 rfl rfl ?_
    have q7 := (l_chk h).1
    replace h := (l_chk h).2
    refine vr_getI d_NA_numberOf_20 F_NA_9 rfl q7 ?_
    refine vr_icmp_ge (tgt := 62) d_NA_numberOf_23 (by decide) (fun c23 => ?_) (fun c23 => ?_)
    · replace h := l_ifp c23 h
      refine vr_aload_n d_NA_numberOf_62 rfl rfl ?_
      refine vr_aload_n d_NA_numberOf_63 rfl rfl ?_
      refine vr_iload_n d_NA_numberOf_64 rfl rfl ?_
      refine vr_iload_n d_NA_numberOf_65 rfl rfl ?_
      obtain ⟨v8, s8, c8, n8, ev8, r8, x8, y8, hh8, hz⟩ := l_calAI h
      clear h
      cases hz
      have h := hh8
      have h18 : c8 ≤ cb := by have hz : x8 + c8 ≤ cb := hc; omega
      have h28 : n8 ≤ sb := by have hz : y8 + n8 ≤ sb := hs; omega
      replace hc : x8 ≤ cb - c8 := by have hz : x8 + c8 ≤ cb := hc; omega
      replace hs : y8 ≤ sb - n8 := by have hz : y8 + n8 ≤ sb := hs; omega
      refine mh_callIa 2 [.ref y1, .int y2, .int y3] d_NA_numberOf_66 C_NA_55 (c_NA_add ev8) q7 rfl rfl rfl (Nat.le_of_ble_eq_true rfl) (by decide) (Nat.le_of_ble_eq_true rfl) h18 h28 ?_
      cases h
      exact vr_iret d_NA_numberOf_69 rfl rfl ⟨rfl, rfl⟩
    · replace h := l_ifn c23 h
      refine vr_iload d_NA_numberOf_26 rfl ?_
      refine vr_iconst (-1) d_NA_numberOf_28 (by decide) ?_
      refine vr_icmp_eq (tgt := 62) d_NA_numberOf_29 (by decide) (fun c29 => ?_) (fun c29 => ?_)
      · replace h := l_ifp c29 h
        refine vr_aload_n d_NA_numberOf_62 rfl rfl ?_
        refine vr_aload_n d_NA_numberOf_63 rfl rfl ?_
        refine vr_iload_n d_NA_numberOf_64 rfl rfl ?_
        refine vr_iload_n d_NA_numberOf_65 rfl rfl ?_
        obtain ⟨v9, s9, c9, n9, ev9, r9, x9, y9, hh9, hz⟩ := l_calAI h
        clear h
        cases hz
        have h := hh9
        have h19 : c9 ≤ cb := by have hz : x9 + c9 ≤ cb := hc; omega
        have h29 : n9 ≤ sb := by have hz : y9 + n9 ≤ sb := hs; omega
        replace hc : x9 ≤ cb - c9 := by have hz : x9 + c9 ≤ cb := hc; omega
        replace hs : y9 ≤ sb - n9 := by have hz : y9 + n9 ≤ sb := hs; omega
        refine mh_callIa 2 [.ref y1, .int y2, .int y3] d_NA_numberOf_66 C_NA_55 (c_NA_add ev9) q7 rfl rfl rfl (Nat.le_of_ble_eq_true rfl) (by decide) (Nat.le_of_ble_eq_true rfl) h19 h29 ?_
        cases h
        exact vr_iret d_NA_numberOf_69 rfl rfl ⟨rfl, rfl⟩
      · replace h := l_ifn c29 h
        refine vr_aload_n d_NA_numberOf_32 rfl rfl ?_
        refine vr_iload d_NA_numberOf_33 rfl ?_
        refine vr_aload_n d_NA_numberOf_35 rfl rfl ?_
        refine vr_iload_n d_NA_numberOf_36 rfl rfl ?_
        refine vr_iload_n d_NA_numberOf_37 rfl rfl ?_
        obtain ⟨v10, s10, ev10, h⟩ := l_calI h
        refine mh_callI 2 [.int y4, .ref y1, .int y2, .int y3] d_NA_numberOf_38 C_NA_51 (c_NA_isSpelt ev10) q7 rfl rfl rfl (Nat.le_of_ble_eq_true rfl) (by decide) (Nat.le_of_ble_eq_true rfl) ?_
        refine vr_if_eq (tgt := 47) d_NA_numberOf_41 (by decide) (fun c41 => ?_) (fun c41 => ?_)
        · replace h := l_ifp c41 h
          refine vr_aload_n d_NA_numberOf_47 rfl rfl ?_
          have q11 := (l_chk h).1
          replace h := (l_chk h).2
          obtain ⟨b12, eb12, h⟩ := l_rf h
          refine vr_getR (b := b12) d_NA_numberOf_48 F_NA_28 rfl q11 eb12 ?_
          refine vr_iload d_NA_numberOf_51 rfl ?_
          have q13 := (l_chk h).1
          replace h := (l_chk h).2
          have q14 := (l_chk h).1
          replace h := (l_chk h).2
          refine vr_iald (t := 0) d_NA_numberOf_53 rfl q13 (ib_in q14) ?_
          obtain ⟨v15, ev15, h⟩ := l_bnd h
          refine vr_nm ev15 ?_
          refine vr_istore (L' := [some (.ref y0), some (.ref y1), some (.int y2), some (.int y3), some (.int v15), some (.int y5)]) d_NA_numberOf_54 (by decide) rfl ?_
          refine vr_iinc (L' := [some (.ref y0), some (.ref y1), some (.int y2), some (.int y3), some (.int v15), some (.int (y5 + 1))]) (y5 + 1) d_NA_numberOf_56 (by decide) rfl rfl rfl ?_
          refine vr_goto (tgt := 17) d_NA_numberOf_59 (by decide) ?_
          exact mv_drop (ih _ _ _ _ _ _ _ _ h _ _ hc hs) (And.intro rfl (And.intro rfl (And.intro rfl (And.intro rfl (And.intro rfl (And.intro rfl trivial))))))
        · replace h := l_ifn c41 h
          refine vr_iload d_NA_numberOf_44 rfl ?_
          cases h
          exact vr_iret d_NA_numberOf_46 rfl rfl ⟨rfl, rfl⟩

def f_NA_numberOf (N : Nat) (a0 : Nat) (x1 : Nat) (x2 : Int32) (x3 : Int32) (σ : mh_H) : Option ((Int32 × mh_H) × Nat × Nat) := chk (hT σ a0 = 5) <| rfO (hR σ 2 4 a0) fun b2 => calI (f_NA_chain N a0 x1 x2 x3 σ) fun v3 s3 => chk (hT s3 b2 = 2) <| chk (ib v3 (hN s3 b2)) <| bnd ((hA s3 b2 (Int32.toNatClampNeg v3))) fun v6 => k_NA_numberOf_17 N N a0 x1 x2 x3 v6 0 s3
theorem c_NA_numberOf {g : mv_G} {N : Nat} {a0 : Nat} {x1 : Nat} {x2 : Int32} {x3 : Int32} {σ : mh_H} {r : (Int32 × mh_H) × Nat × Nat} (h : f_NA_numberOf N a0 x1 x2 x3 σ = some r) : mv_Met g M_NA_numberOf 10 211 r.2.1 r.2.2 [.ref a0, .ref x1, .int x2, .int x3] σ (fun oc τ => τ = r.1.2 ∧ oc = .returned (some (.int r.1.1))) := by
  have key : ∀ cb sb : Nat, r.2.1 ≤ cb → r.2.2 ≤ sb → mv_V g M_NA_numberOf 10 211 cb sb 0 [some (.ref a0), some (.ref x1), some (.int x2), some (.int x3), none, none] [] σ (fun oc τ => τ = r.1.2 ∧ oc = .returned (some (.int r.1.1))) := by
    intro cb sb hc hs
    unfold f_NA_numberOf at h
    refine vr_aload_n d_NA_numberOf_0 rfl rfl ?_
    have q1 := (l_chk h).1
    replace h := (l_chk h).2
    obtain ⟨b2, eb2, h⟩ := l_rf h
    refine vr_getR (b := b2) d_NA_numberOf_1 F_NA_31 rfl q1 eb2 ?_
    refine vr_aload_n d_NA_numberOf_4 rfl rfl ?_
    refine vr_aload_n d_NA_numberOf_5 rfl rfl ?_
    refine vr_iload_n d_NA_numberOf_6 rfl rfl ?_
    refine vr_iload_n d_NA_numberOf_7 rfl rfl ?_
    obtain ⟨v3, s3, ev3, h⟩ := l_calI h
    refine mh_callI 2 [.ref x1, .int x2, .int x3] d_NA_numberOf_8 C_NA_47 (c_NA_chain ev3) q1 rfl rfl rfl (Nat.le_of_ble_eq_true rfl) (by decide) (Nat.le_of_ble_eq_true rfl) ?_
    have q4 := (l_chk h).1
    replace h := (l_chk h).2
    have q5 := (l_chk h).1
    replace h := (l_chk h).2
    refine vr_iald (t := 0) d_NA_numberOf_11 rfl q4 (ib_in q5) ?_
    obtain ⟨v6, ev6, h⟩ := l_bnd h
    refine vr_nm ev6 ?_
    refine vr_istore (L' := [some (.ref a0), some (.ref x1), some (.int x2), some (.int x3), some (.int v6), none]) d_NA_numberOf_12 (by decide) rfl ?_
    refine vr_iconst 0 d_NA_numberOf_14 (by decide) ?_
    refine vr_istore (L' := [some (.ref a0), some (.ref x1), some (.int x2), some (.int x3), some (.int v6), some (.int 0)]) d_NA_numberOf_15 (by decide) rfl ?_
    exact mv_drop (q_NA_numberOf_17 N _ _ _ _ _ _ _ _ h _ _ hc hs) (And.intro rfl (And.intro rfl (And.intro rfl (And.intro rfl (And.intro rfl (And.intro rfl trivial))))))
  exact mv_entry (L := [some (.ref a0), some (.ref x1), some (.int x2), some (.int x3), none, none]) rfl rfl (Nat.le_of_ble_eq_true rfl) rfl (key _ _ (Nat.le_refl _) (Nat.le_refl _))

def f_NA_spell (N : Nat) (a0 : Nat) (x1 : Int32) (x2 : Nat) (σ : mh_H) : Option (mh_H × Nat × Nat) := if x1 < 0 then (some (σ, 0, 0)) else (chk (hT σ a0 = 5) <| if (hI σ 2 0 a0) ≤ x1 then (some (σ, 0, 0)) else (rfO (hR σ 2 1 a0) fun b2 => chk (hT σ b2 = 1) <| rfO (hR σ 0 0 b2) fun b4 => calI (f_NA_start N a0 x1 σ) fun v5 s5 => chk (hT s5 a0 = 5) <| rfO (hR s5 2 2 a0) fun b7 => chk (hT s5 b7 = 2) <| chk (ib x1 (hN s5 b7)) <| chk (hT s5 x2 = 1) <| calA (f_BR_addRange N x2 b4 v5 ((hA s5 b7 (Int32.toNatClampNeg x1))) s5) fun s11 => some (s11, 0, 0)))
theorem c_NA_spell {g : mv_G} {N : Nat} {a0 : Nat} {x1 : Int32} {x2 : Nat} {σ : mh_H} {r : mh_H × Nat × Nat} (h : f_NA_spell N a0 x1 x2 σ = some r) : mv_Met g M_NA_spell 9 188 r.2.1 r.2.2 [.ref a0, .int x1, .ref x2] σ (fun oc τ => τ = r.1 ∧ oc = .returned none) := by
  have key : ∀ cb sb : Nat, r.2.1 ≤ cb → r.2.2 ≤ sb → mv_V g M_NA_spell 9 188 cb sb 0 [some (.ref a0), some (.int x1), some (.ref x2)] [] σ (fun oc τ => τ = r.1 ∧ oc = .returned none) := by
    intro cb sb hc hs
    unfold f_NA_spell at h
    refine vr_iload_n d_NA_spell_0 rfl rfl ?_
    refine vr_if_lt (tgt := 34) d_NA_spell_1 (by decide) (fun c1 => ?_) (fun c1 => ?_)
    · replace h := l_ifp c1 h
      cases h
      exact vr_vret d_NA_spell_34 rfl ⟨rfl, rfl⟩
    · replace h := l_ifn c1 h
      refine vr_iload_n d_NA_spell_4 rfl rfl ?_
      refine vr_aload_n d_NA_spell_5 rfl rfl ?_
      have q1 := (l_chk h).1
      replace h := (l_chk h).2
      refine vr_getI d_NA_spell_6 F_NA_9 rfl q1 ?_
      refine vr_icmp_ge (tgt := 34) d_NA_spell_9 (by decide) (fun c9 => ?_) (fun c9 => ?_)
      · replace h := l_ifp c9 h
        cases h
        exact vr_vret d_NA_spell_34 rfl ⟨rfl, rfl⟩
      · replace h := l_ifn c9 h
        refine vr_aload_n d_NA_spell_12 rfl rfl ?_
        refine vr_aload_n d_NA_spell_13 rfl rfl ?_
        obtain ⟨b2, eb2, h⟩ := l_rf h
        refine vr_getR (b := b2) d_NA_spell_14 F_NA_20 rfl q1 eb2 ?_
        have q3 := (l_chk h).1
        replace h := (l_chk h).2
        obtain ⟨b4, eb4, h⟩ := l_rf h
        refine vr_getR (b := b4) d_NA_spell_17 F_NA_58 rfl q3 eb4 ?_
        refine vr_aload_n d_NA_spell_20 rfl rfl ?_
        refine vr_iload_n d_NA_spell_21 rfl rfl ?_
        obtain ⟨v5, s5, ev5, h⟩ := l_calI h
        refine mh_callI 2 [.int x1] d_NA_spell_22 C_NA_40 (c_NA_start ev5) q1 rfl rfl rfl (Nat.le_of_ble_eq_true rfl) (by decide) (Nat.le_of_ble_eq_true rfl) ?_
        refine vr_aload_n d_NA_spell_25 rfl rfl ?_
        have q6 := (l_chk h).1
        replace h := (l_chk h).2
        obtain ⟨b7, eb7, h⟩ := l_rf h
        refine vr_getR (b := b7) d_NA_spell_26 F_NA_24 rfl q6 eb7 ?_
        refine vr_iload_n d_NA_spell_29 rfl rfl ?_
        have q8 := (l_chk h).1
        replace h := (l_chk h).2
        have q9 := (l_chk h).1
        replace h := (l_chk h).2
        refine vr_iald (t := 0) d_NA_spell_30 rfl q8 (ib_in q9) ?_
        have q10 := (l_chk h).1
        replace h := (l_chk h).2
        obtain ⟨s11, c11, n11, ev11, r11, x11, y11, hh11, hz⟩ := l_calA h
        clear h
        cases hz
        have h := hh11
        have h111 : c11 ≤ cb := by have hz : x11 + c11 ≤ cb := hc; omega
        have h211 : n11 ≤ sb := by have hz : y11 + n11 ≤ sb := hs; omega
        replace hc : x11 ≤ cb - c11 := by have hz : x11 + c11 ≤ cb := hc; omega
        replace hs : y11 ≤ sb - n11 := by have hz : y11 + n11 ≤ sb := hs; omega
        refine mh_callUa 0 [.ref b4, .int v5, .int (hA s5 b7 (Int32.toNatClampNeg x1))] d_NA_spell_31 C_NA_62 (c_BR_addRange ev11) q10 rfl rfl rfl (Nat.le_of_ble_eq_true rfl) (by decide) (Nat.le_of_ble_eq_true rfl) h111 h211 ?_
        cases h
        exact vr_vret d_NA_spell_34 rfl ⟨rfl, rfl⟩
  exact mv_entry (L := [some (.ref a0), some (.int x1), some (.ref x2)]) rfl rfl (Nat.le_of_ble_eq_true rfl) rfl (key _ _ (Nat.le_refl _) (Nat.le_refl _))

