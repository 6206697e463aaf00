/-! the class, lifted: drafts, trees -/
def f_DR_init (N : Nat) (a0 : Nat) (σ : mh_H) : Option (mh_H × Nat × Nat) := chk (¬ (0 : Int32) < 0 ∧ Int32.toNatClampNeg 0 ≤ 100000) <| tkA 1 (Int32.toNatClampNeg 0) <| bnd (hX σ) fun a3 => bnd (mh_arr σ 0 (Int32.toNatClampNeg 0)) fun s4 => chk (hT s4 a0 = 3) <| chk (¬ (0 : Int32) < 0 ∧ Int32.toNatClampNeg 0 ≤ 100000) <| tkA 1 (Int32.toNatClampNeg 0) <| bnd (hX (mh_setR s4 1 0 a0 (some a3))) fun a8 => bnd (mh_arr (mh_setR s4 1 0 a0 (some a3)) 0 (Int32.toNatClampNeg 0)) fun s9 => chk (hT s9 a0 = 3) <| chk (¬ (0 : Int32) < 0 ∧ Int32.toNatClampNeg 0 ≤ 100000) <| tkA 1 (Int32.toNatClampNeg 0) <| bnd (hX (mh_setR s9 1 1 a0 (some a8))) fun a13 => bnd (mh_arr (mh_setR s9 1 1 a0 (some a8)) 0 (Int32.toNatClampNeg 0)) fun s14 => chk (hT s14 a0 = 3) <| chk (¬ (0 : Int32) < 0 ∧ Int32.toNatClampNeg 0 ≤ 100000) <| tkA 1 (Int32.toNatClampNeg 0) <| bnd (hX (mh_setR s14 1 2 a0 (some a13))) fun a18 => bnd (mh_arr (mh_setR s14 1 2 a0 (some a13)) 0 (Int32.toNatClampNeg 0)) fun s19 => chk (hT s19 a0 = 3) <| some ((mh_setI (mh_setR s19 1 3 a0 (some a18)) 1 4 a0 0), 0, 0)
theorem c_DR_init {g : mv_G} {N : Nat} {a0 : Nat} {σ : mh_H} {r : mh_H × Nat × Nat} (h : f_DR_init N a0 σ = some r) : mv_Met g M_DR_init 1 20 r.2.1 r.2.2 [.ref a0] σ (fun oc τ => τ = r.1 ∧ oc = .returned none) := by
  have key : ∀ cb sb : Nat, r.2.1 ≤ cb → r.2.2 ≤ sb → mv_V g M_DR_init 1 20 cb sb 0 [some (.ref a0)] [] σ (fun oc τ => τ = r.1 ∧ oc = .returned none) := by
    intro cb sb hc hs
    unfold f_DR_init at h
    refine vr_aload_n d_DR_init_0 rfl rfl ?_
    refine vr_objInit d_DR_init_1 w_88 w_27 w_28 (by decide) (Nat.le_of_ble_eq_true rfl) ?_
    refine vr_aload_n d_DR_init_4 rfl rfl ?_
    refine vr_iconst 0 d_DR_init_5 (by decide) ?_
    have q1 := (l_chk h).1
    replace h := (l_chk h).2
    obtain ⟨ru2, xu2, yu2, hhu2, hz⟩ := l_tkA h
    clear h
    cases hz
    have h := hhu2
    have h1u2 : 1 ≤ cb := by have hz : xu2 + 1 ≤ cb := hc; omega
    have h2u2 : (Int32.toNatClampNeg 0) ≤ sb := by have hz : yu2 + (Int32.toNatClampNeg 0) ≤ sb := hs; omega
    replace hc : xu2 ≤ cb - 1 := by have hz : xu2 + 1 ≤ cb := hc; omega
    replace hs : yu2 ≤ sb - (Int32.toNatClampNeg 0) := by have hz : yu2 + (Int32.toNatClampNeg 0) ≤ sb := hs; omega
    refine mh_newI d_DR_init_6 q1 h1u2 h2u2 ?_
    obtain ⟨a3, ea3, h⟩ := l_bnd h
    refine vr_nmA ea3 ?_
    obtain ⟨s4, es4, h⟩ := l_bnd h
    refine vr_nmS es4 ?_
    have q5 := (l_chk h).1
    replace h := (l_chk h).2
    refine vr_putR d_DR_init_8 W_DR_init_9 rfl rfl rfl q5 ?_
    refine vr_aload_n d_DR_init_11 rfl rfl ?_
    refine vr_iconst 0 d_DR_init_12 (by decide) ?_
    have q6 := (l_chk h).1
    replace h := (l_chk h).2
    obtain ⟨ru7, xu7, yu7, hhu7, hz⟩ := l_tkA h
    clear h
    cases hz
    have h := hhu7
    have h1u7 : 1 ≤ (cb - 1) := by have hz : xu7 + 1 ≤ (cb - 1) := hc; omega
    have h2u7 : (Int32.toNatClampNeg 0) ≤ (sb - (Int32.toNatClampNeg 0)) := by have hz : yu7 + (Int32.toNatClampNeg 0) ≤ (sb - (Int32.toNatClampNeg 0)) := hs; omega
    replace hc : xu7 ≤ (cb - 1) - 1 := by have hz : xu7 + 1 ≤ (cb - 1) := hc; omega
    replace hs : yu7 ≤ (sb - (Int32.toNatClampNeg 0)) - (Int32.toNatClampNeg 0) := by have hz : yu7 + (Int32.toNatClampNeg 0) ≤ (sb - (Int32.toNatClampNeg 0)) := hs; omega
    refine mh_newI d_DR_init_13 q6 h1u7 h2u7 ?_
    obtain ⟨a8, ea8, h⟩ := l_bnd h
    refine vr_nmA ea8 ?_
    obtain ⟨s9, es9, h⟩ := l_bnd h
    refine vr_nmS es9 ?_
    have q10 := (l_chk h).1
    replace h := (l_chk h).2
    refine vr_putR d_DR_init_15 W_DR_init_15 rfl rfl rfl q10 ?_
    refine vr_aload_n d_DR_init_18 rfl rfl ?_
    refine vr_iconst 0 d_DR_init_19 (by decide) ?_
    have q11 := (l_chk h).1
    replace h := (l_chk h).2
    obtain ⟨ru12, xu12, yu12, hhu12, hz⟩ := l_tkA h
    clear h
    cases hz
    have h := hhu12
    have h1u12 : 1 ≤ ((cb - 1) - 1) := by have hz : xu12 + 1 ≤ ((cb - 1) - 1) := hc; omega
    have h2u12 : (Int32.toNatClampNeg 0) ≤ ((sb - (Int32.toNatClampNeg 0)) - (Int32.toNatClampNeg 0)) := by have hz : yu12 + (Int32.toNatClampNeg 0) ≤ ((sb - (Int32.toNatClampNeg 0)) - (Int32.toNatClampNeg 0)) := hs; omega
    replace hc : xu12 ≤ ((cb - 1) - 1) - 1 := by have hz : xu12 + 1 ≤ ((cb - 1) - 1) := hc; omega
    replace hs : yu12 ≤ ((sb - (Int32.toNatClampNeg 0)) - (Int32.toNatClampNeg 0)) - (Int32.toNatClampNeg 0) := by have hz : yu12 + (Int32.toNatClampNeg 0) ≤ ((sb - (Int32.toNatClampNeg 0)) - (Int32.toNatClampNeg 0)) := hs; omega
    refine mh_newI d_DR_init_20 q11 h1u12 h2u12 ?_
    obtain ⟨a13, ea13, h⟩ := l_bnd h
    refine vr_nmA ea13 ?_
    obtain ⟨s14, es14, h⟩ := l_bnd h
    refine vr_nmS es14 ?_
    have q15 := (l_chk h).1
    replace h := (l_chk h).2
    refine vr_putR d_DR_init_22 W_DR_init_18 rfl rfl rfl q15 ?_
    refine vr_aload_n d_DR_init_25 rfl rfl ?_
    refine vr_iconst 0 d_DR_init_26 (by decide) ?_
    have q16 := (l_chk h).1
    replace h := (l_chk h).2
    obtain ⟨ru17, xu17, yu17, hhu17, hz⟩ := l_tkA h
    clear h
    cases hz
    have h := hhu17
    have h1u17 : 1 ≤ (((cb - 1) - 1) - 1) := by have hz : xu17 + 1 ≤ (((cb - 1) - 1) - 1) := hc; omega
    have h2u17 : (Int32.toNatClampNeg 0) ≤ (((sb - (Int32.toNatClampNeg 0)) - (Int32.toNatClampNeg 0)) - (Int32.toNatClampNeg 0)) := by have hz : yu17 + (Int32.toNatClampNeg 0) ≤ (((sb - (Int32.toNatClampNeg 0)) - (Int32.toNatClampNeg 0)) - (Int32.toNatClampNeg 0)) := hs; omega
    replace hc : xu17 ≤ (((cb - 1) - 1) - 1) - 1 := by have hz : xu17 + 1 ≤ (((cb - 1) - 1) - 1) := hc; omega
    replace hs : yu17 ≤ (((sb - (Int32.toNatClampNeg 0)) - (Int32.toNatClampNeg 0)) - (Int32.toNatClampNeg 0)) - (Int32.toNatClampNeg 0) := by have hz : yu17 + (Int32.toNatClampNeg 0) ≤ (((sb - (Int32.toNatClampNeg 0)) - (Int32.toNatClampNeg 0)) - (Int32.toNatClampNeg 0)) := hs; omega
    refine mh_newI d_DR_init_27 q16 h1u17 h2u17 ?_
    obtain ⟨a18, ea18, h⟩ := l_bnd h
    refine vr_nmA ea18 ?_
    obtain ⟨s19, es19, h⟩ := l_bnd h
    refine vr_nmS es19 ?_
    have q20 := (l_chk h).1
    replace h := (l_chk h).2
    refine vr_putR d_DR_init_29 W_DR_init_21 rfl rfl rfl q20 ?_
    refine vr_aload_n d_DR_init_32 rfl rfl ?_
    refine vr_iconst 0 d_DR_init_33 (by decide) ?_
    refine vr_putI d_DR_init_34 W_DR_init_24 rfl rfl rfl q20 ?_
    cases h
    exact vr_vret d_DR_init_37 rfl ⟨rfl, rfl⟩
  exact mv_entry (L := [some (.ref a0)]) rfl rfl (Nat.le_of_ble_eq_true rfl) rfl (key _ _ (Nat.le_refl _) (Nat.le_refl _))

def f_DR_begin (N : Nat) (a0 : Nat) (x1 : Int32) (σ : mh_H) : Option (mh_H × Nat × Nat) := chk (hT σ a0 = 3) <| rfO (hR σ 1 0 a0) fun b2 => chk (hT σ b2 = 2) <| if x1 ≤ (nI (hN σ b2)) then (some ((mh_setI σ 1 4 a0 0), 0, 0)) else (calP (f_PR_roomier N ((nI (hN σ b2))) x1) fun v4 => chk (¬ v4 < 0 ∧ Int32.toNatClampNeg v4 ≤ 100000) <| tkA 1 (Int32.toNatClampNeg v4) <| bnd (hX σ) fun a7 => bnd (mh_arr σ 0 (Int32.toNatClampNeg v4)) fun s8 => chk (hT s8 a0 = 3) <| chk (¬ v4 < 0 ∧ Int32.toNatClampNeg v4 ≤ 100000) <| tkA 1 (Int32.toNatClampNeg v4) <| bnd (hX (mh_setR s8 1 0 a0 (some a7))) fun a12 => bnd (mh_arr (mh_setR s8 1 0 a0 (some a7)) 0 (Int32.toNatClampNeg v4)) fun s13 => chk (hT s13 a0 = 3) <| chk (¬ v4 < 0 ∧ Int32.toNatClampNeg v4 ≤ 100000) <| tkA 1 (Int32.toNatClampNeg v4) <| bnd (hX (mh_setR s13 1 1 a0 (some a12))) fun a17 => bnd (mh_arr (mh_setR s13 1 1 a0 (some a12)) 0 (Int32.toNatClampNeg v4)) fun s18 => chk (hT s18 a0 = 3) <| chk (¬ v4 < 0 ∧ Int32.toNatClampNeg v4 ≤ 100000) <| tkA 1 (Int32.toNatClampNeg v4) <| bnd (hX (mh_setR s18 1 2 a0 (some a17))) fun a22 => bnd (mh_arr (mh_setR s18 1 2 a0 (some a17)) 0 (Int32.toNatClampNeg v4)) fun s23 => chk (hT s23 a0 = 3) <| some ((mh_setI (mh_setR s23 1 3 a0 (some a22)) 1 4 a0 0), 0, 0))
theorem c_DR_begin {g : mv_G} {N : Nat} {a0 : Nat} {x1 : Int32} {σ : mh_H} {r : mh_H × Nat × Nat} (h : f_DR_begin N a0 x1 σ = some r) : mv_Met g M_DR_begin 2 42 r.2.1 r.2.2 [.ref a0, .int x1] σ (fun oc τ => τ = r.1 ∧ oc = .returned none) := by
  have key : ∀ cb sb : Nat, r.2.1 ≤ cb → r.2.2 ≤ sb → mv_V g M_DR_begin 2 42 cb sb 0 [some (.ref a0), some (.int x1), none] [] σ (fun oc τ => τ = r.1 ∧ oc = .returned none) := by
    intro cb sb hc hs
    unfold f_DR_begin at h
    refine vr_iload_n d_DR_begin_0 rfl rfl ?_
    refine vr_aload_n d_DR_begin_1 rfl rfl ?_
    have q1 := (l_chk h).1
    replace h := (l_chk h).2
    obtain ⟨b2, eb2, h⟩ := l_rf h
    refine vr_getR (b := b2) d_DR_begin_2 F_DR_9 rfl q1 eb2 ?_
    have q3 := (l_chk h).1
    replace h := (l_chk h).2
    refine vr_alen (t := 0) d_DR_begin_5 rfl q3 ?_
    refine vr_icmp_le (tgt := 47) d_DR_begin_6 (by decide) (fun c6 => ?_) (fun c6 => ?_)
    · replace h := l_ifp c6 h
      refine vr_aload_n d_DR_begin_47 rfl rfl ?_
      refine vr_iconst 0 d_DR_begin_48 (by decide) ?_
      refine vr_putI d_DR_begin_49 W_DR_begin_24 rfl rfl rfl q1 ?_
      cases h
      exact vr_vret d_DR_begin_52 rfl ⟨rfl, rfl⟩
    · replace h := l_ifn c6 h
      refine vr_aload_n d_DR_begin_9 rfl rfl ?_
      refine vr_getR (b := b2) d_DR_begin_10 F_DR_9 rfl q1 eb2 ?_
      refine vr_alen (t := 0) d_DR_begin_13 rfl q3 ?_
      refine vr_iload_n d_DR_begin_14 rfl rfl ?_
      obtain ⟨v4, ev4, h⟩ := l_calP h
      refine vr_callSP [.int (nI (hN σ b2)), .int x1] d_DR_begin_15 C_DR_28 (c_PR_roomier ev4) rfl rfl (Nat.le_of_ble_eq_true rfl) (by decide) (Nat.le_of_ble_eq_true rfl) ?_
      refine vr_istore_n (L' := [some (.ref a0), some (.int x1), some (.int v4)]) d_DR_begin_18 rfl (by decide) rfl ?_
      refine vr_aload_n d_DR_begin_19 rfl rfl ?_
      refine vr_iload_n d_DR_begin_20 rfl rfl ?_
      have q5 := (l_chk h).1
      replace h := (l_chk h).2
      obtain ⟨ru6, xu6, yu6, hhu6, hz⟩ := l_tkA h
      clear h
      cases hz
      have h := hhu6
      have h1u6 : 1 ≤ cb := by have hz : xu6 + 1 ≤ cb := hc; omega
      have h2u6 : (Int32.toNatClampNeg v4) ≤ sb := by have hz : yu6 + (Int32.toNatClampNeg v4) ≤ sb := hs; omega
      replace hc : xu6 ≤ cb - 1 := by have hz : xu6 + 1 ≤ cb := hc; omega
      replace hs : yu6 ≤ sb - (Int32.toNatClampNeg v4) := by have hz : yu6 + (Int32.toNatClampNeg v4) ≤ sb := hs; omega
      refine mh_newI d_DR_begin_21 q5 h1u6 h2u6 ?_
      obtain ⟨a7, ea7, h⟩ := l_bnd h
      refine vr_nmA ea7 ?_
      obtain ⟨s8, es8, h⟩ := l_bnd h
      refine vr_nmS es8 ?_
      have q9 := (l_chk h).1
      replace h := (l_chk h).2
      refine vr_putR d_DR_begin_23 W_DR_begin_9 rfl rfl rfl q9 ?_
      refine vr_aload_n d_DR_begin_26 rfl rfl ?_
      refine vr_iload_n d_DR_begin_27 rfl rfl ?_
      have q10 := (l_chk h).1
      replace h := (l_chk h).2
      obtain ⟨ru11, xu11, yu11, hhu11, hz⟩ := l_tkA h
      clear h
      cases hz
      have h := hhu11
      have h1u11 : 1 ≤ (cb - 1) := by have hz : xu11 + 1 ≤ (cb - 1) := hc; omega
      have h2u11 : (Int32.toNatClampNeg v4) ≤ (sb - (Int32.toNatClampNeg v4)) := by have hz : yu11 + (Int32.toNatClampNeg v4) ≤ (sb - (Int32.toNatClampNeg v4)) := hs; omega
      replace hc : xu11 ≤ (cb - 1) - 1 := by have hz : xu11 + 1 ≤ (cb - 1) := hc; omega
      replace hs : yu11 ≤ (sb - (Int32.toNatClampNeg v4)) - (Int32.toNatClampNeg v4) := by have hz : yu11 + (Int32.toNatClampNeg v4) ≤ (sb - (Int32.toNatClampNeg v4)) := hs; omega
      refine mh_newI d_DR_begin_28 q10 h1u11 h2u11 ?_
      obtain ⟨a12, ea12, h⟩ := l_bnd h
      refine vr_nmA ea12 ?_
      obtain ⟨s13, es13, h⟩ := l_bnd h
      refine vr_nmS es13 ?_
      have q14 := (l_chk h).1
      replace h := (l_chk h).2
      refine vr_putR d_DR_begin_30 W_DR_begin_15 rfl rfl rfl q14 ?_
      refine vr_aload_n d_DR_begin_33 rfl rfl ?_
      refine vr_iload_n d_DR_begin_34 rfl rfl ?_
      have q15 := (l_chk h).1
      replace h := (l_chk h).2
      obtain ⟨ru16, xu16, yu16, hhu16, hz⟩ := l_tkA h
      clear h
      cases hz
      have h := hhu16
      have h1u16 : 1 ≤ ((cb - 1) - 1) := by have hz : xu16 + 1 ≤ ((cb - 1) - 1) := hc; omega
      have h2u16 : (Int32.toNatClampNeg v4) ≤ ((sb - (Int32.toNatClampNeg v4)) - (Int32.toNatClampNeg v4)) := by have hz : yu16 + (Int32.toNatClampNeg v4) ≤ ((sb - (Int32.toNatClampNeg v4)) - (Int32.toNatClampNeg v4)) := hs; omega
      replace hc : xu16 ≤ ((cb - 1) - 1) - 1 := by have hz : xu16 + 1 ≤ ((cb - 1) - 1) := hc; omega
      replace hs : yu16 ≤ ((sb - (Int32.toNatClampNeg v4)) - (Int32.toNatClampNeg v4)) - (Int32.toNatClampNeg v4) := by have hz : yu16 + (Int32.toNatClampNeg v4) ≤ ((sb - (Int32.toNatClampNeg v4)) - (Int32.toNatClampNeg v4)) := hs; omega
      refine mh_newI d_DR_begin_35 q15 h1u16 h2u16 ?_
      obtain ⟨a17, ea17, h⟩ := l_bnd h
      refine vr_nmA ea17 ?_
      obtain ⟨s18, es18, h⟩ := l_bnd h
      refine vr_nmS es18 ?_
      have q19 := (l_chk h).1
      replace h := (l_chk h).2
      refine vr_putR d_DR_begin_37 W_DR_begin_18 rfl rfl rfl q19 ?_
      refine vr_aload_n d_DR_begin_40 rfl rfl ?_
      refine vr_iload_n d_DR_begin_41 rfl rfl ?_
      have q20 := (l_chk h).1
      replace h := (l_chk h).2
      obtain ⟨ru21, xu21, yu21, hhu21, hz⟩ := l_tkA h
      clear h
      cases hz
      have h := hhu21
      have h1u21 : 1 ≤ (((cb - 1) - 1) - 1) := by have hz : xu21 + 1 ≤ (((cb - 1) - 1) - 1) := hc; omega
      have h2u21 : (Int32.toNatClampNeg v4) ≤ (((sb - (Int32.toNatClampNeg v4)) - (Int32.toNatClampNeg v4)) - (Int32.toNatClampNeg v4)) := by have hz : yu21 + (Int32.toNatClampNeg v4) ≤ (((sb - (Int32.toNatClampNeg v4)) - (Int32.toNatClampNeg v4)) - (Int32.toNatClampNeg v4)) := hs; omega
      replace hc : xu21 ≤ (((cb - 1) - 1) - 1) - 1 := by have hz : xu21 + 1 ≤ (((cb - 1) - 1) - 1) := hc; omega
      replace hs : yu21 ≤ (((sb - (Int32.toNatClampNeg v4)) - (Int32.toNatClampNeg v4)) - (Int32.toNatClampNeg v4)) - (Int32.toNatClampNeg v4) := by have hz : yu21 + (Int32.toNatClampNeg v4) ≤ (((sb - (Int32.toNatClampNeg v4)) - (Int32.toNatClampNeg v4)) - (Int32.toNatClampNeg v4)) := hs; omega
      refine mh_newI d_DR_begin_42 q20 h1u21 h2u21 ?_
      obtain ⟨a22, ea22, h⟩ := l_bnd h
      refine vr_nmA ea22 ?_
      obtain ⟨s23, es23, h⟩ := l_bnd h
      refine vr_nmS es23 ?_
      have q24 := (l_chk h).1
      replace h := (l_chk h).2
      refine vr_putR d_DR_begin_44 W_DR_begin_21 rfl rfl rfl q24 ?_
      refine vr_aload_n d_DR_begin_47 rfl rfl ?_
      refine vr_iconst 0 d_DR_begin_48 (by decide) ?_
      refine vr_putI d_DR_begin_49 W_DR_begin_24 rfl rfl rfl q24 ?_
      cases h
      exact vr_vret d_DR_begin_52 rfl ⟨rfl, rfl⟩
  exact mv_entry (L := [some (.ref a0), some (.int x1), none]) rfl rfl (Nat.le_of_ble_eq_true rfl) rfl (key _ _ (Nat.le_refl _) (Nat.le_refl _))

def f_DR_add (N : Nat) (a0 : Nat) (x1 : Int32) (x2 : Int32) (x3 : Int32) (x4 : Int32) (σ : mh_H) : Option (mh_H) := chk (hT σ a0 = 3) <| rfO (hR σ 1 0 a0) fun b2 => chk (hT σ b2 = 2) <| if (nI (hN σ b2)) ≤ (hI σ 1 4 a0) then (some (σ)) else (chk (ib (hI σ 1 4 a0) (hN σ b2)) <| rfO (hR (mh_setA σ b2 (Int32.toNatClampNeg (hI σ 1 4 a0)) x1) 1 1 a0) fun b5 => bnd ((hI (mh_setA σ b2 (Int32.toNatClampNeg (hI σ 1 4 a0)) x1) 1 4 a0)) fun v6 => chk (hT (mh_setA σ b2 (Int32.toNatClampNeg (hI σ 1 4 a0)) x1) b5 = 2) <| chk (ib v6 (hN (mh_setA σ b2 (Int32.toNatClampNeg (hI σ 1 4 a0)) x1) b5)) <| rfO (hR (mh_setA (mh_setA σ b2 (Int32.toNatClampNeg (hI σ 1 4 a0)) x1) b5 (Int32.toNatClampNeg v6) x2) 1 2 a0) fun b9 => bnd ((hI (mh_setA (mh_setA σ b2 (Int32.toNatClampNeg (hI σ 1 4 a0)) x1) b5 (Int32.toNatClampNeg v6) x2) 1 4 a0)) fun v10 => chk (hT (mh_setA (mh_setA σ b2 (Int32.toNatClampNeg (hI σ 1 4 a0)) x1) b5 (Int32.toNatClampNeg v6) x2) b9 = 2) <| chk (ib v10 (hN (mh_setA (mh_setA σ b2 (Int32.toNatClampNeg (hI σ 1 4 a0)) x1) b5 (Int32.toNatClampNeg v6) x2) b9)) <| rfO (hR (mh_setA (mh_setA (mh_setA σ b2 (Int32.toNatClampNeg (hI σ 1 4 a0)) x1) b5 (Int32.toNatClampNeg v6) x2) b9 (Int32.toNatClampNeg v10) x3) 1 3 a0) fun b13 => bnd ((hI (mh_setA (mh_setA (mh_setA σ b2 (Int32.toNatClampNeg (hI σ 1 4 a0)) x1) b5 (Int32.toNatClampNeg v6) x2) b9 (Int32.toNatClampNeg v10) x3) 1 4 a0)) fun v14 => chk (hT (mh_setA (mh_setA (mh_setA σ b2 (Int32.toNatClampNeg (hI σ 1 4 a0)) x1) b5 (Int32.toNatClampNeg v6) x2) b9 (Int32.toNatClampNeg v10) x3) b13 = 2) <| chk (ib v14 (hN (mh_setA (mh_setA (mh_setA σ b2 (Int32.toNatClampNeg (hI σ 1 4 a0)) x1) b5 (Int32.toNatClampNeg v6) x2) b9 (Int32.toNatClampNeg v10) x3) b13)) <| bnd ((hI (mh_setA (mh_setA (mh_setA (mh_setA σ b2 (Int32.toNatClampNeg (hI σ 1 4 a0)) x1) b5 (Int32.toNatClampNeg v6) x2) b9 (Int32.toNatClampNeg v10) x3) b13 (Int32.toNatClampNeg v14) x4) 1 4 a0)) fun v17 => bnd ((v17 + 1)) fun v18 => some ((mh_setI (mh_setA (mh_setA (mh_setA (mh_setA σ b2 (Int32.toNatClampNeg (hI σ 1 4 a0)) x1) b5 (Int32.toNatClampNeg v6) x2) b9 (Int32.toNatClampNeg v10) x3) b13 (Int32.toNatClampNeg v14) x4) 1 4 a0 v18)))
theorem c_DR_add {g : mv_G} {N : Nat} {a0 : Nat} {x1 : Int32} {x2 : Int32} {x3 : Int32} {x4 : Int32} {σ : mh_H} {r : mh_H} (h : f_DR_add N a0 x1 x2 x3 x4 σ = some r) : mv_Met g M_DR_add 0 0 0 0 [.ref a0, .int x1, .int x2, .int x3, .int x4] σ (fun oc τ => τ = r ∧ oc = .returned none) := by
  refine mv_entry (L := [some (.ref a0), some (.int x1), some (.int x2), some (.int x3), some (.int x4)]) rfl rfl (Nat.le_of_ble_eq_true rfl) rfl ?_
  unfold f_DR_add at h
  refine vr_aload_n d_DR_add_0 rfl rfl ?_
  have q1 := (l_chk h).1
  replace h := (l_chk h).2
  refine vr_getI d_DR_add_1 F_DR_24 rfl q1 ?_
  refine vr_aload_n d_DR_add_4 rfl rfl ?_
  obtain ⟨b2, eb2, h⟩ := l_rf h
  refine vr_getR (b := b2) d_DR_add_5 F_DR_9 rfl q1 eb2 ?_
  have q3 := (l_chk h).1
  replace h := (l_chk h).2
  refine vr_alen (t := 0) d_DR_add_8 rfl q3 ?_
  refine vr_icmp_ge (tgt := 63) d_DR_add_9 (by decide) (fun c9 => ?_) (fun c9 => ?_)
  · replace h := l_ifp c9 h
    cases h
    exact vr_vret d_DR_add_63 rfl ⟨rfl, rfl⟩
  · replace h := l_ifn c9 h
    refine vr_aload_n d_DR_add_12 rfl rfl ?_
    refine vr_getR (b := b2) d_DR_add_13 F_DR_9 rfl q1 eb2 ?_
    refine vr_aload_n d_DR_add_16 rfl rfl ?_
    refine vr_getI d_DR_add_17 F_DR_24 rfl q1 ?_
    refine vr_iload_n d_DR_add_20 rfl rfl ?_
    have q4 := (l_chk h).1
    replace h := (l_chk h).2
    refine vr_iast (t := 0) d_DR_add_21 rfl q3 (ib_in q4) ?_
    refine vr_aload_n d_DR_add_22 rfl rfl ?_
    obtain ⟨b5, eb5, h⟩ := l_rf h
    refine vr_getR (b := b5) d_DR_add_23 F_DR_15 rfl q1 eb5 ?_
    refine vr_aload_n d_DR_add_26 rfl rfl ?_
    refine vr_getI d_DR_add_27 F_DR_24 rfl q1 ?_
    obtain ⟨v6, ev6, h⟩ := l_bnd h
    refine vr_nm ev6 ?_
    refine vr_iload_n d_DR_add_30 rfl rfl ?_
    have q7 := (l_chk h).1
    replace h := (l_chk h).2
    have q8 := (l_chk h).1
    replace h := (l_chk h).2
    refine vr_iast (t := 0) d_DR_add_31 rfl q7 (ib_in q8) ?_
    refine vr_aload_n d_DR_add_32 rfl rfl ?_
    obtain ⟨b9, eb9, h⟩ := l_rf h
    refine vr_getR (b := b9) d_DR_add_33 F_DR_18 rfl q1 eb9 ?_
    refine vr_aload_n d_DR_add_36 rfl rfl ?_
    refine vr_getI d_DR_add_37 F_DR_24 rfl q1 ?_
    obtain ⟨v10, ev10, h⟩ := l_bnd h
    refine vr_nm ev10 ?_
    refine vr_iload_n d_DR_add_40 rfl rfl ?_
    have q11 := (l_chk h).1
    replace h := (l_chk h).2
    have q12 := (l_chk h).1
    replace h := (l_chk h).2
    refine vr_iast (t := 0) d_DR_add_41 rfl q11 (ib_in q12) ?_
    refine vr_aload_n d_DR_add_42 rfl rfl ?_
    obtain ⟨b13, eb13, h⟩ := l_rf h
    refine vr_getR (b := b13) d_DR_add_43 F_DR_21 rfl q1 eb13 ?_
    refine vr_aload_n d_DR_add_46 rfl rfl ?_
    refine vr_getI d_DR_add_47 F_DR_24 rfl q1 ?_
    obtain ⟨v14, ev14, h⟩ := l_bnd h
    refine vr_nm ev14 ?_
    refine vr_iload d_DR_add_50 rfl ?_
    have q15 := (l_chk h).1
    replace h := (l_chk h).2
    have q16 := (l_chk h).1
    replace h := (l_chk h).2
    refine vr_iast (t := 0) d_DR_add_52 rfl q15 (ib_in q16) ?_
    refine vr_aload_n d_DR_add_53 rfl rfl ?_
    refine vr_dup d_DR_add_54 rfl ?_
    refine vr_getI d_DR_add_55 F_DR_24 rfl q1 ?_
    obtain ⟨v17, ev17, h⟩ := l_bnd h
    refine vr_nm ev17 ?_
    refine vr_iconst 1 d_DR_add_58 (by decide) ?_
    refine vr_iadd d_DR_add_59 ?_
    obtain ⟨v18, ev18, h⟩ := l_bnd h
    refine vr_nm ev18 ?_
    refine vr_putI d_DR_add_60 W_DR_add_24 rfl rfl rfl q1 ?_
    cases h
    exact vr_vret d_DR_add_63 rfl ⟨rfl, rfl⟩

def f_DR_lastPlace (N : Nat) (a0 : Nat) (σ : mh_H) : Option (Int32 × mh_H) := chk (hT σ a0 = 3) <| if (hI σ 1 4 a0) ≤ 0 then (some ((-1), σ)) else (rfO (hR σ 1 1 a0) fun b2 => chk (hT σ b2 = 2) <| chk (ib ((hI σ 1 4 a0) - 1) (hN σ b2)) <| some ((hA σ b2 (Int32.toNatClampNeg ((hI σ 1 4 a0) - 1))), σ))
theorem c_DR_lastPlace {g : mv_G} {N : Nat} {a0 : Nat} {σ : mh_H} {r : Int32 × mh_H} (h : f_DR_lastPlace N a0 σ = some r) : mv_Met g M_DR_lastPlace 0 0 0 0 [.ref a0] σ (fun oc τ => τ = r.2 ∧ oc = .returned (some (.int r.1))) := by
  refine mv_entry (L := [some (.ref a0)]) rfl rfl (Nat.le_of_ble_eq_true rfl) rfl ?_
  unfold f_DR_lastPlace at h
  refine vr_aload_n d_DR_lastPlace_0 rfl rfl ?_
  have q1 := (l_chk h).1
  replace h := (l_chk h).2
  refine vr_getI d_DR_lastPlace_1 F_DR_24 rfl q1 ?_
  refine vr_if_le (tgt := 21) d_DR_lastPlace_4 (by decide) (fun c4 => ?_) (fun c4 => ?_)
  · replace h := l_ifp c4 h
    refine vr_iconst (-1) d_DR_lastPlace_21 (by decide) ?_
    cases h
    exact vr_iret d_DR_lastPlace_22 rfl rfl ⟨rfl, rfl⟩
  · replace h := l_ifn c4 h
    refine vr_aload_n d_DR_lastPlace_7 rfl rfl ?_
    obtain ⟨b2, eb2, h⟩ := l_rf h
    refine vr_getR (b := b2) d_DR_lastPlace_8 F_DR_15 rfl q1 eb2 ?_
    refine vr_aload_n d_DR_lastPlace_11 rfl rfl ?_
    refine vr_getI d_DR_lastPlace_12 F_DR_24 rfl q1 ?_
    refine vr_iconst 1 d_DR_lastPlace_15 (by decide) ?_
    refine vr_isub d_DR_lastPlace_16 ?_
    have q3 := (l_chk h).1
    replace h := (l_chk h).2
    have q4 := (l_chk h).1
    replace h := (l_chk h).2
    refine vr_iald (t := 0) d_DR_lastPlace_17 rfl q3 (ib_in q4) ?_
    refine vr_goto (tgt := 22) d_DR_lastPlace_18 (by decide) ?_
    cases h
    exact vr_iret d_DR_lastPlace_22 rfl rfl ⟨rfl, rfl⟩

def f_TR_init (N : Nat) (a0 : Nat) (σ : mh_H) : Option (mh_H × Nat × Nat) := chk (hT σ a0 = 11) <| chk (¬ (1 : Int32) < 0 ∧ Int32.toNatClampNeg 1 ≤ 100000) <| tkA 1 (Int32.toNatClampNeg 1) <| bnd (hX (mh_setI σ 5 0 a0 1)) fun a4 => bnd (mh_arr (mh_setI σ 5 0 a0 1) 0 (Int32.toNatClampNeg 1)) fun s5 => chk (hT s5 a0 = 11) <| chk (¬ (1 : Int32) < 0 ∧ Int32.toNatClampNeg 1 ≤ 100000) <| tkA 1 (Int32.toNatClampNeg 1) <| bnd (hX (mh_setR s5 5 1 a0 (some a4))) fun a9 => bnd (mh_arr (mh_setR s5 5 1 a0 (some a4)) 0 (Int32.toNatClampNeg 1)) fun s10 => chk (hT s10 a9 = 2) <| chk (ib 0 (hN s10 a9)) <| chk (hT (mh_setA s10 a9 (Int32.toNatClampNeg 0) (-1)) a0 = 11) <| chk (¬ (1 : Int32) < 0 ∧ Int32.toNatClampNeg 1 ≤ 100000) <| tkA 1 (Int32.toNatClampNeg 1) <| bnd (hX (mh_setR (mh_setA s10 a9 (Int32.toNatClampNeg 0) (-1)) 5 2 a0 (some a9))) fun a16 => bnd (mh_arr (mh_setR (mh_setA s10 a9 (Int32.toNatClampNeg 0) (-1)) 5 2 a0 (some a9)) 0 (Int32.toNatClampNeg 1)) fun s17 => chk (hT s17 a0 = 11) <| chk (¬ (1 : Int32) < 0 ∧ Int32.toNatClampNeg 1 ≤ 100000) <| tkA 1 (Int32.toNatClampNeg 1) <| bnd (hX (mh_setR s17 5 3 a0 (some a16))) fun a21 => bnd (mh_arr (mh_setR s17 5 3 a0 (some a16)) 0 (Int32.toNatClampNeg 1)) fun s22 => chk (hT s22 a21 = 2) <| chk (ib 0 (hN s22 a21)) <| chk (hT (mh_setA s22 a21 (Int32.toNatClampNeg 0) 1) a0 = 11) <| chk (¬ (1 : Int32) < 0 ∧ Int32.toNatClampNeg 1 ≤ 100000) <| tkA 1 (Int32.toNatClampNeg 1) <| bnd (hX (mh_setR (mh_setA s22 a21 (Int32.toNatClampNeg 0) 1) 5 4 a0 (some a21))) fun a28 => bnd (mh_arr (mh_setR (mh_setA s22 a21 (Int32.toNatClampNeg 0) 1) 5 4 a0 (some a21)) 0 (Int32.toNatClampNeg 1)) fun s29 => chk (hT s29 a0 = 11) <| chk (¬ (1 : Int32) < 0 ∧ Int32.toNatClampNeg 1 ≤ 100000) <| tkA 1 (Int32.toNatClampNeg 1) <| bnd (hX (mh_setR s29 5 5 a0 (some a28))) fun a33 => bnd (mh_arr (mh_setR s29 5 5 a0 (some a28)) 0 (Int32.toNatClampNeg 1)) fun s34 => chk (hT s34 a33 = 2) <| chk (ib 0 (hN s34 a33)) <| chk (hT (mh_setA s34 a33 (Int32.toNatClampNeg 0) (-1)) a0 = 11) <| chk (¬ (1 : Int32) < 0 ∧ Int32.toNatClampNeg 1 ≤ 100000) <| tkA 1 (Int32.toNatClampNeg 1) <| bnd (hX (mh_setR (mh_setA s34 a33 (Int32.toNatClampNeg 0) (-1)) 5 6 a0 (some a33))) fun a40 => bnd (mh_arr (mh_setR (mh_setA s34 a33 (Int32.toNatClampNeg 0) (-1)) 5 6 a0 (some a33)) 0 (Int32.toNatClampNeg 1)) fun s41 => chk (hT s41 a0 = 11) <| some ((mh_setR s41 5 7 a0 (some a40)), 0, 0)
theorem c_TR_init {g : mv_G} {N : Nat} {a0 : Nat} {σ : mh_H} {r : mh_H × Nat × Nat} (h : f_TR_init N a0 σ = some r) : mv_Met g M_TR_init 1 20 r.2.1 r.2.2 [.ref a0] σ (fun oc τ => τ = r.1 ∧ oc = .returned none) := by
  have key : ∀ cb sb : Nat, r.2.1 ≤ cb → r.2.2 ≤ sb → mv_V g M_TR_init 1 20 cb sb 0 [some (.ref a0)] [] σ (fun oc τ => τ = r.1 ∧ oc = .returned none) := by
    intro cb sb hc hs
    unfold f_TR_init at h
    refine vr_aload_n d_TR_init_0 rfl rfl ?_
    refine vr_objInit d_TR_init_1 w_166 w_27 w_28 (by decide) (Nat.le_of_ble_eq_true rfl) ?_
    refine vr_aload_n d_TR_init_4 rfl rfl ?_
    refine vr_iconst 1 d_TR_init_5 (by decide) ?_
    have q1 := (l_chk h).1
    replace h := (l_chk h).2
    refine vr_putI d_TR_init_6 W_TR_init_9 rfl rfl rfl q1 ?_
    refine vr_aload_n d_TR_init_9 rfl rfl ?_
    refine vr_iconst 1 d_TR_init_10 (by decide) ?_
    have q2 := (l_chk h).1
    replace h := (l_chk h).2
    obtain ⟨ru3, xu3, yu3, hhu3, hz⟩ := l_tkA h
    clear h
    cases hz
    have h := hhu3
    have h1u3 : 1 ≤ cb := by have hz : xu3 + 1 ≤ cb := hc; omega
    have h2u3 : (Int32.toNatClampNeg 1) ≤ sb := by have hz : yu3 + (Int32.toNatClampNeg 1) ≤ sb := hs; omega
    replace hc : xu3 ≤ cb - 1 := by have hz : xu3 + 1 ≤ cb := hc; omega
    replace hs : yu3 ≤ sb - (Int32.toNatClampNeg 1) := by have hz : yu3 + (Int32.toNatClampNeg 1) ≤ sb := hs; omega
    refine mh_newI d_TR_init_11 q2 h1u3 h2u3 ?_
    obtain ⟨a4, ea4, h⟩ := l_bnd h
    refine vr_nmA ea4 ?_
    obtain ⟨s5, es5, h⟩ := l_bnd h
    refine vr_nmS es5 ?_
    have q6 := (l_chk h).1
    replace h := (l_chk h).2
    refine vr_putR d_TR_init_13 W_TR_init_15 rfl rfl rfl q6 ?_
    refine vr_aload_n d_TR_init_16 rfl rfl ?_
    refine vr_iconst 1 d_TR_init_17 (by decide) ?_
    have q7 := (l_chk h).1
    replace h := (l_chk h).2
    obtain ⟨ru8, xu8, yu8, hhu8, hz⟩ := l_tkA h
    clear h
    cases hz
    have h := hhu8
    have h1u8 : 1 ≤ (cb - 1) := by have hz : xu8 + 1 ≤ (cb - 1) := hc; omega
    have h2u8 : (Int32.toNatClampNeg 1) ≤ (sb - (Int32.toNatClampNeg 1)) := by have hz : yu8 + (Int32.toNatClampNeg 1) ≤ (sb - (Int32.toNatClampNeg 1)) := hs; omega
    replace hc : xu8 ≤ (cb - 1) - 1 := by have hz : xu8 + 1 ≤ (cb - 1) := hc; omega
    replace hs : yu8 ≤ (sb - (Int32.toNatClampNeg 1)) - (Int32.toNatClampNeg 1) := by have hz : yu8 + (Int32.toNatClampNeg 1) ≤ (sb - (Int32.toNatClampNeg 1)) := hs; omega
    refine mh_newI d_TR_init_18 q7 h1u8 h2u8 ?_
    obtain ⟨a9, ea9, h⟩ := l_bnd h
    refine vr_nmA ea9 ?_
    obtain ⟨s10, es10, h⟩ := l_bnd h
    refine vr_nmS es10 ?_
    refine vr_dup d_TR_init_20 rfl ?_
    refine vr_iconst 0 d_TR_init_21 (by decide) ?_
    refine vr_iconst (-1) d_TR_init_22 (by decide) ?_
    have q11 := (l_chk h).1
    replace h := (l_chk h).2
    have q12 := (l_chk h).1
    replace h := (l_chk h).2
    refine vr_iast (t := 0) d_TR_init_23 rfl q11 (ib_in q12) ?_
    have q13 := (l_chk h).1
    replace h := (l_chk h).2
    refine vr_putR d_TR_init_24 W_TR_init_19 rfl rfl rfl q13 ?_
    refine vr_aload_n d_TR_init_27 rfl rfl ?_
    refine vr_iconst 1 d_TR_init_28 (by decide) ?_
    have q14 := (l_chk h).1
    replace h := (l_chk h).2
    obtain ⟨ru15, xu15, yu15, hhu15, hz⟩ := l_tkA h
    clear h
    cases hz
    have h := hhu15
    have h1u15 : 1 ≤ ((cb - 1) - 1) := by have hz : xu15 + 1 ≤ ((cb - 1) - 1) := hc; omega
    have h2u15 : (Int32.toNatClampNeg 1) ≤ ((sb - (Int32.toNatClampNeg 1)) - (Int32.toNatClampNeg 1)) := by have hz : yu15 + (Int32.toNatClampNeg 1) ≤ ((sb - (Int32.toNatClampNeg 1)) - (Int32.toNatClampNeg 1)) := hs; omega
    replace hc : xu15 ≤ ((cb - 1) - 1) - 1 := by have hz : xu15 + 1 ≤ ((cb - 1) - 1) := hc; omega
    replace hs : yu15 ≤ ((sb - (Int32.toNatClampNeg 1)) - (Int32.toNatClampNeg 1)) - (Int32.toNatClampNeg 1) := by have hz : yu15 + (Int32.toNatClampNeg 1) ≤ ((sb - (Int32.toNatClampNeg 1)) - (Int32.toNatClampNeg 1)) := hs; omega
    refine mh_newI d_TR_init_29 q14 h1u15 h2u15 ?_
    obtain ⟨a16, ea16, h⟩ := l_bnd h
    refine vr_nmA ea16 ?_
    obtain ⟨s17, es17, h⟩ := l_bnd h
    refine vr_nmS es17 ?_
    have q18 := (l_chk h).1
    replace h := (l_chk h).2
    refine vr_putR d_TR_init_31 W_TR_init_22 rfl rfl rfl q18 ?_
    refine vr_aload_n d_TR_init_34 rfl rfl ?_
    refine vr_iconst 1 d_TR_init_35 (by decide) ?_
    have q19 := (l_chk h).1
    replace h := (l_chk h).2
    obtain ⟨ru20, xu20, yu20, hhu20, hz⟩ := l_tkA h
    clear h
    cases hz
    have h := hhu20
    have h1u20 : 1 ≤ (((cb - 1) - 1) - 1) := by have hz : xu20 + 1 ≤ (((cb - 1) - 1) - 1) := hc; omega
    have h2u20 : (Int32.toNatClampNeg 1) ≤ (((sb - (Int32.toNatClampNeg 1)) - (Int32.toNatClampNeg 1)) - (Int32.toNatClampNeg 1)) := by have hz : yu20 + (Int32.toNatClampNeg 1) ≤ (((sb - (Int32.toNatClampNeg 1)) - (Int32.toNatClampNeg 1)) - (Int32.toNatClampNeg 1)) := hs; omega
    replace hc : xu20 ≤ (((cb - 1) - 1) - 1) - 1 := by have hz : xu20 + 1 ≤ (((cb - 1) - 1) - 1) := hc; omega
    replace hs : yu20 ≤ (((sb - (Int32.toNatClampNeg 1)) - (Int32.toNatClampNeg 1)) - (Int32.toNatClampNeg 1)) - (Int32.toNatClampNeg 1) := by have hz : yu20 + (Int32.toNatClampNeg 1) ≤ (((sb - (Int32.toNatClampNeg 1)) - (Int32.toNatClampNeg 1)) - (Int32.toNatClampNeg 1)) := hs; omega
    refine mh_newI d_TR_init_36 q19 h1u20 h2u20 ?_
    obtain ⟨a21, ea21, h⟩ := l_bnd h
    refine vr_nmA ea21 ?_
    obtain ⟨s22, es22, h⟩ := l_bnd h
    refine vr_nmS es22 ?_
    refine vr_dup d_TR_init_38 rfl ?_
    refine vr_iconst 0 d_TR_init_39 (by decide) ?_
    refine vr_iconst 1 d_TR_init_40 (by decide) ?_
    have q23 := (l_chk h).1
    replace h := (l_chk h).2
    have q24 := (l_chk h).1
    replace h := (l_chk h).2
    refine vr_iast (t := 0) d_TR_init_41 rfl q23 (ib_in q24) ?_
    have q25 := (l_chk h).1
    replace h := (l_chk h).2
    refine vr_putR d_TR_init_42 W_TR_init_25 rfl rfl rfl q25 ?_
    refine vr_aload_n d_TR_init_45 rfl rfl ?_
    refine vr_iconst 1 d_TR_init_46 (by decide) ?_
    have q26 := (l_chk h).1
    replace h := (l_chk h).2
    obtain ⟨ru27, xu27, yu27, hhu27, hz⟩ := l_tkA h
    clear h
    cases hz
    have h := hhu27
    have h1u27 : 1 ≤ ((((cb - 1) - 1) - 1) - 1) := by have hz : xu27 + 1 ≤ ((((cb - 1) - 1) - 1) - 1) := hc; omega
    have h2u27 : (Int32.toNatClampNeg 1) ≤ ((((sb - (Int32.toNatClampNeg 1)) - (Int32.toNatClampNeg 1)) - (Int32.toNatClampNeg 1)) - (Int32.toNatClampNeg 1)) := by have hz : yu27 + (Int32.toNatClampNeg 1) ≤ ((((sb - (Int32.toNatClampNeg 1)) - (Int32.toNatClampNeg 1)) - (Int32.toNatClampNeg 1)) - (Int32.toNatClampNeg 1)) := hs; omega
    replace hc : xu27 ≤ ((((cb - 1) - 1) - 1) - 1) - 1 := by have hz : xu27 + 1 ≤ ((((cb - 1) - 1) - 1) - 1) := hc; omega
    replace hs : yu27 ≤ ((((sb - (Int32.toNatClampNeg 1)) - (Int32.toNatClampNeg 1)) - (Int32.toNatClampNeg 1)) - (Int32.toNatClampNeg 1)) - (Int32.toNatClampNeg 1) := by have hz : yu27 + (Int32.toNatClampNeg 1) ≤ ((((sb - (Int32.toNatClampNeg 1)) - (Int32.toNatClampNeg 1)) - (Int32.toNatClampNeg 1)) - (Int32.toNatClampNeg 1)) := hs; omega
    refine mh_newI d_TR_init_47 q26 h1u27 h2u27 ?_
    obtain ⟨a28, ea28, h⟩ := l_bnd h
    refine vr_nmA ea28 ?_
    obtain ⟨s29, es29, h⟩ := l_bnd h
    refine vr_nmS es29 ?_
    have q30 := (l_chk h).1
    replace h := (l_chk h).2
    refine vr_putR d_TR_init_49 W_TR_init_28 rfl rfl rfl q30 ?_
    refine vr_aload_n d_TR_init_52 rfl rfl ?_
    refine vr_iconst 1 d_TR_init_53 (by decide) ?_
    have q31 := (l_chk h).1
    replace h := (l_chk h).2
    obtain ⟨ru32, xu32, yu32, hhu32, hz⟩ := l_tkA h
    clear h
    cases hz
    have h := hhu32
    have h1u32 : 1 ≤ (((((cb - 1) - 1) - 1) - 1) - 1) := by have hz : xu32 + 1 ≤ (((((cb - 1) - 1) - 1) - 1) - 1) := hc; omega
    have h2u32 : (Int32.toNatClampNeg 1) ≤ (((((sb - (Int32.toNatClampNeg 1)) - (Int32.toNatClampNeg 1)) - (Int32.toNatClampNeg 1)) - (Int32.toNatClampNeg 1)) - (Int32.toNatClampNeg 1)) := by have hz : yu32 + (Int32.toNatClampNeg 1) ≤ (((((sb - (Int32.toNatClampNeg 1)) - (Int32.toNatClampNeg 1)) - (Int32.toNatClampNeg 1)) - (Int32.toNatClampNeg 1)) - (Int32.toNatClampNeg 1)) := hs; omega
    replace hc : xu32 ≤ (((((cb - 1) - 1) - 1) - 1) - 1) - 1 := by have hz : xu32 + 1 ≤ (((((cb - 1) - 1) - 1) - 1) - 1) := hc; omega
    replace hs : yu32 ≤ (((((sb - (Int32.toNatClampNeg 1)) - (Int32.toNatClampNeg 1)) - (Int32.toNatClampNeg 1)) - (Int32.toNatClampNeg 1)) - (Int32.toNatClampNeg 1)) - (Int32.toNatClampNeg 1) := by have hz : yu32 + (Int32.toNatClampNeg 1) ≤ (((((sb - (Int32.toNatClampNeg 1)) - (Int32.toNatClampNeg 1)) - (Int32.toNatClampNeg 1)) - (Int32.toNatClampNeg 1)) - (Int32.toNatClampNeg 1)) := hs; omega
    refine mh_newI d_TR_init_54 q31 h1u32 h2u32 ?_
    obtain ⟨a33, ea33, h⟩ := l_bnd h
    refine vr_nmA ea33 ?_
    obtain ⟨s34, es34, h⟩ := l_bnd h
    refine vr_nmS es34 ?_
    refine vr_dup d_TR_init_56 rfl ?_
    refine vr_iconst 0 d_TR_init_57 (by decide) ?_
    refine vr_iconst (-1) d_TR_init_58 (by decide) ?_
    have q35 := (l_chk h).1
    replace h := (l_chk h).2
    have q36 := (l_chk h).1
    replace h := (l_chk h).2
    refine vr_iast (t := 0) d_TR_init_59 rfl q35 (ib_in q36) ?_
    have q37 := (l_chk h).1
    replace h := (l_chk h).2
    refine vr_putR d_TR_init_60 W_TR_init_31 rfl rfl rfl q37 ?_
    refine vr_aload_n d_TR_init_63 rfl rfl ?_
    refine vr_iconst 1 d_TR_init_64 (by decide) ?_
    have q38 := (l_chk h).1
    replace h := (l_chk h).2
    obtain ⟨ru39, xu39, yu39, hhu39, hz⟩ := l_tkA h
    clear h
    cases hz
    have h := hhu39
    have h1u39 : 1 ≤ ((((((cb - 1) - 1) - 1) - 1) - 1) - 1) := by have hz : xu39 + 1 ≤ ((((((cb - 1) - 1) - 1) - 1) - 1) - 1) := hc; omega
    have h2u39 : (Int32.toNatClampNeg 1) ≤ ((((((sb - (Int32.toNatClampNeg 1)) - (Int32.toNatClampNeg 1)) - (Int32.toNatClampNeg 1)) - (Int32.toNatClampNeg 1)) - (Int32.toNatClampNeg 1)) - (Int32.toNatClampNeg 1)) := by have hz : yu39 + (Int32.toNatClampNeg 1) ≤ ((((((sb - (Int32.toNatClampNeg 1)) - (Int32.toNatClampNeg 1)) - (Int32.toNatClampNeg 1)) - (Int32.toNatClampNeg 1)) - (Int32.toNatClampNeg 1)) - (Int32.toNatClampNeg 1)) := hs; omega
    replace hc : xu39 ≤ ((((((cb - 1) - 1) - 1) - 1) - 1) - 1) - 1 := by have hz : xu39 + 1 ≤ ((((((cb - 1) - 1) - 1) - 1) - 1) - 1) := hc; omega
    replace hs : yu39 ≤ ((((((sb - (Int32.toNatClampNeg 1)) - (Int32.toNatClampNeg 1)) - (Int32.toNatClampNeg 1)) - (Int32.toNatClampNeg 1)) - (Int32.toNatClampNeg 1)) - (Int32.toNatClampNeg 1)) - (Int32.toNatClampNeg 1) := by have hz : yu39 + (Int32.toNatClampNeg 1) ≤ ((((((sb - (Int32.toNatClampNeg 1)) - (Int32.toNatClampNeg 1)) - (Int32.toNatClampNeg 1)) - (Int32.toNatClampNeg 1)) - (Int32.toNatClampNeg 1)) - (Int32.toNatClampNeg 1)) := hs; omega
    refine mh_newI d_TR_init_65 q38 h1u39 h2u39 ?_
    obtain ⟨a40, ea40, h⟩ := l_bnd h
    refine vr_nmA ea40 ?_
    obtain ⟨s41, es41, h⟩ := l_bnd h
    refine vr_nmS es41 ?_
    have q42 := (l_chk h).1
    replace h := (l_chk h).2
    refine vr_putR d_TR_init_67 W_TR_init_34 rfl rfl rfl q42 ?_
    cases h
    exact vr_vret d_TR_init_70 rfl ⟨rfl, rfl⟩
  exact mv_entry (L := [some (.ref a0)]) rfl rfl (Nat.le_of_ble_eq_true rfl) rfl (key _ _ (Nat.le_refl _) (Nat.le_refl _))

def f_TR_has (N : Nat) (a0 : Nat) (x1 : Int32) (σ : mh_H) : Option (Int32 × mh_H) := if x1 < 0 then (some (0, σ)) else (chk (hT σ a0 = 11) <| if (hI σ 5 0 a0) ≤ x1 then (some (0, σ)) else (some (1, σ)))
theorem c_TR_has {g : mv_G} {N : Nat} {a0 : Nat} {x1 : Int32} {σ : mh_H} {r : Int32 × mh_H} (h : f_TR_has N a0 x1 σ = some r) : mv_Met g M_TR_has 0 0 0 0 [.ref a0, .int x1] σ (fun oc τ => τ = r.2 ∧ oc = .returned (some (.int r.1))) := by
  refine mv_entry (L := [some (.ref a0), some (.int x1)]) rfl rfl (Nat.le_of_ble_eq_true rfl) rfl ?_
  unfold f_TR_has at h
  refine vr_iload_n d_TR_has_0 rfl rfl ?_
  refine vr_if_lt (tgt := 16) d_TR_has_1 (by decide) (fun c1 => ?_) (fun c1 => ?_)
  · replace h := l_ifp c1 h
    refine vr_iconst 0 d_TR_has_16 (by decide) ?_
    cases h
    exact vr_iret d_TR_has_17 rfl rfl ⟨rfl, rfl⟩
  · replace h := l_ifn c1 h
    refine vr_iload_n d_TR_has_4 rfl rfl ?_
    refine vr_aload_n d_TR_has_5 rfl rfl ?_
    have q1 := (l_chk h).1
    replace h := (l_chk h).2
    refine vr_getI d_TR_has_6 F_TR_9 rfl q1 ?_
    refine vr_icmp_ge (tgt := 16) d_TR_has_9 (by decide) (fun c9 => ?_) (fun c9 => ?_)
    · replace h := l_ifp c9 h
      refine vr_iconst 0 d_TR_has_16 (by decide) ?_
      cases h
      exact vr_iret d_TR_has_17 rfl rfl ⟨rfl, rfl⟩
    · replace h := l_ifn c9 h
      refine vr_iconst 1 d_TR_has_12 (by decide) ?_
      refine vr_goto (tgt := 17) d_TR_has_13 (by decide) ?_
      cases h
      exact vr_iret d_TR_has_17 rfl rfl ⟨rfl, rfl⟩

def f_TR_kindOf (N : Nat) (a0 : Nat) (x1 : Int32) (σ : mh_H) : Option (Int32 × mh_H) := chk (hT σ a0 = 11) <| calI (f_TR_has N a0 x1 σ) fun v2 s2 => if v2 = 0 then (some (33, s2)) else (chk (hT s2 a0 = 11) <| rfO (hR s2 5 1 a0) fun b4 => chk (hT s2 b4 = 2) <| chk (ib x1 (hN s2 b4)) <| some ((hA s2 b4 (Int32.toNatClampNeg x1)), s2))
theorem c_TR_kindOf {g : mv_G} {N : Nat} {a0 : Nat} {x1 : Int32} {σ : mh_H} {r : Int32 × mh_H} (h : f_TR_kindOf N a0 x1 σ = some r) : mv_Met g M_TR_kindOf 1 21 0 0 [.ref a0, .int x1] σ (fun oc τ => τ = r.2 ∧ oc = .returned (some (.int r.1))) := by
  refine mv_entry (L := [some (.ref a0), some (.int x1)]) rfl rfl (Nat.le_of_ble_eq_true rfl) rfl ?_
  unfold f_TR_kindOf at h
  refine vr_aload_n d_TR_kindOf_0 rfl rfl ?_
  refine vr_iload_n d_TR_kindOf_1 rfl rfl ?_
  have q1 := (l_chk h).1
  replace h := (l_chk h).2
  obtain ⟨v2, s2, ev2, h⟩ := l_calI h
  refine mh_callI 5 [.int x1] d_TR_kindOf_2 C_TR_51 (c_TR_has ev2) q1 rfl rfl rfl (Nat.le_of_ble_eq_true rfl) (by decide) (Nat.le_of_ble_eq_true rfl) ?_
  refine vr_if_eq (tgt := 17) d_TR_kindOf_5 (by decide) (fun c5 => ?_) (fun c5 => ?_)
  · replace h := l_ifp c5 h
    refine vr_bipush 33 d_TR_kindOf_17 (by decide) ?_
    cases h
    exact vr_iret d_TR_kindOf_19 rfl rfl ⟨rfl, rfl⟩
  · replace h := l_ifn c5 h
    refine vr_aload_n d_TR_kindOf_8 rfl rfl ?_
    have q3 := (l_chk h).1
    replace h := (l_chk h).2
    obtain ⟨b4, eb4, h⟩ := l_rf h
    refine vr_getR (b := b4) d_TR_kindOf_9 F_TR_15 rfl q3 eb4 ?_
    refine vr_iload_n d_TR_kindOf_12 rfl rfl ?_
    have q5 := (l_chk h).1
    replace h := (l_chk h).2
    have q6 := (l_chk h).1
    replace h := (l_chk h).2
    refine vr_iald (t := 0) d_TR_kindOf_13 rfl q5 (ib_in q6) ?_
    refine vr_goto (tgt := 19) d_TR_kindOf_14 (by decide) ?_
    cases h
    exact vr_iret d_TR_kindOf_19 rfl rfl ⟨rfl, rfl⟩

def f_TR_valueOf (N : Nat) (a0 : Nat) (x1 : Int32) (σ : mh_H) : Option (Int32 × mh_H) := chk (hT σ a0 = 11) <| calI (f_TR_has N a0 x1 σ) fun v2 s2 => if v2 = 0 then (some (0, s2)) else (chk (hT s2 a0 = 11) <| rfO (hR s2 5 3 a0) fun b4 => chk (hT s2 b4 = 2) <| chk (ib x1 (hN s2 b4)) <| some ((hA s2 b4 (Int32.toNatClampNeg x1)), s2))
theorem c_TR_valueOf {g : mv_G} {N : Nat} {a0 : Nat} {x1 : Int32} {σ : mh_H} {r : Int32 × mh_H} (h : f_TR_valueOf N a0 x1 σ = some r) : mv_Met g M_TR_valueOf 1 21 0 0 [.ref a0, .int x1] σ (fun oc τ => τ = r.2 ∧ oc = .returned (some (.int r.1))) := by
  refine mv_entry (L := [some (.ref a0), some (.int x1)]) rfl rfl (Nat.le_of_ble_eq_true rfl) rfl ?_
  unfold f_TR_valueOf at h
  refine vr_aload_n d_TR_valueOf_0 rfl rfl ?_
  refine vr_iload_n d_TR_valueOf_1 rfl rfl ?_
  have q1 := (l_chk h).1
  replace h := (l_chk h).2
  obtain ⟨v2, s2, ev2, h⟩ := l_calI h
  refine mh_callI 5 [.int x1] d_TR_valueOf_2 C_TR_51 (c_TR_has ev2) q1 rfl rfl rfl (Nat.le_of_ble_eq_true rfl) (by decide) (Nat.le_of_ble_eq_true rfl) ?_
  refine vr_if_eq (tgt := 17) d_TR_valueOf_5 (by decide) (fun c5 => ?_) (fun c5 => ?_)
  · replace h := l_ifp c5 h
    refine vr_iconst 0 d_TR_valueOf_17 (by decide) ?_
    cases h
    exact vr_iret d_TR_valueOf_18 rfl rfl ⟨rfl, rfl⟩
  · replace h := l_ifn c5 h
    refine vr_aload_n d_TR_valueOf_8 rfl rfl ?_
    have q3 := (l_chk h).1
    replace h := (l_chk h).2
    obtain ⟨b4, eb4, h⟩ := l_rf h
    refine vr_getR (b := b4) d_TR_valueOf_9 F_TR_22 rfl q3 eb4 ?_
    refine vr_iload_n d_TR_valueOf_12 rfl rfl ?_
    have q5 := (l_chk h).1
    replace h := (l_chk h).2
    have q6 := (l_chk h).1
    replace h := (l_chk h).2
    refine vr_iald (t := 0) d_TR_valueOf_13 rfl q5 (ib_in q6) ?_
    refine vr_goto (tgt := 18) d_TR_valueOf_14 (by decide) ?_
    cases h
    exact vr_iret d_TR_valueOf_18 rfl rfl ⟨rfl, rfl⟩

def f_TR_partsOf (N : Nat) (a0 : Nat) (x1 : Int32) (σ : mh_H) : Option (Int32 × mh_H) := chk (hT σ a0 = 11) <| calI (f_TR_has N a0 x1 σ) fun v2 s2 => if v2 = 0 then (some (0, s2)) else (chk (hT s2 a0 = 11) <| rfO (hR s2 5 5 a0) fun b4 => chk (hT s2 b4 = 2) <| chk (ib x1 (hN s2 b4)) <| some ((hA s2 b4 (Int32.toNatClampNeg x1)), s2))
theorem c_TR_partsOf {g : mv_G} {N : Nat} {a0 : Nat} {x1 : Int32} {σ : mh_H} {r : Int32 × mh_H} (h : f_TR_partsOf N a0 x1 σ = some r) : mv_Met g M_TR_partsOf 1 21 0 0 [.ref a0, .int x1] σ (fun oc τ => τ = r.2 ∧ oc = .returned (some (.int r.1))) := by
  refine mv_entry (L := [some (.ref a0), some (.int x1)]) rfl rfl (Nat.le_of_ble_eq_true rfl) rfl ?_
  unfold f_TR_partsOf at h
  refine vr_aload_n d_TR_partsOf_0 rfl rfl ?_
  refine vr_iload_n d_TR_partsOf_1 rfl rfl ?_
  have q1 := (l_chk h).1
  replace h := (l_chk h).2
  obtain ⟨v2, s2, ev2, h⟩ := l_calI h
  refine mh_callI 5 [.int x1] d_TR_partsOf_2 C_TR_51 (c_TR_has ev2) q1 rfl rfl rfl (Nat.le_of_ble_eq_true rfl) (by decide) (Nat.le_of_ble_eq_true rfl) ?_
  refine vr_if_eq (tgt := 17) d_TR_partsOf_5 (by decide) (fun c5 => ?_) (fun c5 => ?_)
  · replace h := l_ifp c5 h
    refine vr_iconst 0 d_TR_partsOf_17 (by decide) ?_
    cases h
    exact vr_iret d_TR_partsOf_18 rfl rfl ⟨rfl, rfl⟩
  · replace h := l_ifn c5 h
    refine vr_aload_n d_TR_partsOf_8 rfl rfl ?_
    have q3 := (l_chk h).1
    replace h := (l_chk h).2
    obtain ⟨b4, eb4, h⟩ := l_rf h
    refine vr_getR (b := b4) d_TR_partsOf_9 F_TR_28 rfl q3 eb4 ?_
    refine vr_iload_n d_TR_partsOf_12 rfl rfl ?_
    have q5 := (l_chk h).1
    replace h := (l_chk h).2
    have q6 := (l_chk h).1
    replace h := (l_chk h).2
    refine vr_iald (t := 0) d_TR_partsOf_13 rfl q5 (ib_in q6) ?_
    refine vr_goto (tgt := 18) d_TR_partsOf_14 (by decide) ?_
    cases h
    exact vr_iret d_TR_partsOf_18 rfl rfl ⟨rfl, rfl⟩

def f_TR_wholeOf (N : Nat) (a0 : Nat) (x1 : Int32) (σ : mh_H) : Option (Int32 × mh_H) := chk (hT σ a0 = 11) <| calI (f_TR_has N a0 x1 σ) fun v2 s2 => if v2 = 0 then (some ((-1), s2)) else (chk (hT s2 a0 = 11) <| rfO (hR s2 5 6 a0) fun b4 => chk (hT s2 b4 = 2) <| chk (ib x1 (hN s2 b4)) <| some ((hA s2 b4 (Int32.toNatClampNeg x1)), s2))
theorem c_TR_wholeOf {g : mv_G} {N : Nat} {a0 : Nat} {x1 : Int32} {σ : mh_H} {r : Int32 × mh_H} (h : f_TR_wholeOf N a0 x1 σ = some r) : mv_Met g M_TR_wholeOf 1 21 0 0 [.ref a0, .int x1] σ (fun oc τ => τ = r.2 ∧ oc = .returned (some (.int r.1))) := by
  refine mv_entry (L := [some (.ref a0), some (.int x1)]) rfl rfl (Nat.le_of_ble_eq_true rfl) rfl ?_
  unfold f_TR_wholeOf at h
  refine vr_aload_n d_TR_wholeOf_0 rfl rfl ?_
  refine vr_iload_n d_TR_wholeOf_1 rfl rfl ?_
  have q1 := (l_chk h).1
  replace h := (l_chk h).2
  obtain ⟨v2, s2, ev2, h⟩ := l_calI h
  refine mh_callI 5 [.int x1] d_TR_wholeOf_2 C_TR_51 (c_TR_has ev2) q1 rfl rfl rfl (Nat.le_of_ble_eq_true rfl) (by decide) (Nat.le_of_ble_eq_true rfl) ?_
  refine vr_if_eq (tgt := 17) d_TR_wholeOf_5 (by decide) (fun c5 => ?_) (fun c5 => ?_)
  · replace h := l_ifp c5 h
    refine vr_iconst (-1) d_TR_wholeOf_17 (by decide) ?_
    cases h
    exact vr_iret d_TR_wholeOf_18 rfl rfl ⟨rfl, rfl⟩
  · replace h := l_ifn c5 h
    refine vr_aload_n d_TR_wholeOf_8 rfl rfl ?_
    have q3 := (l_chk h).1
    replace h := (l_chk h).2
    obtain ⟨b4, eb4, h⟩ := l_rf h
    refine vr_getR (b := b4) d_TR_wholeOf_9 F_TR_31 rfl q3 eb4 ?_
    refine vr_iload_n d_TR_wholeOf_12 rfl rfl ?_
    have q5 := (l_chk h).1
    replace h := (l_chk h).2
    have q6 := (l_chk h).1
    replace h := (l_chk h).2
    refine vr_iald (t := 0) d_TR_wholeOf_13 rfl q5 (ib_in q6) ?_
    refine vr_goto (tgt := 18) d_TR_wholeOf_14 (by decide) ?_
    cases h
    exact vr_iret d_TR_wholeOf_18 rfl rfl ⟨rfl, rfl⟩

def f_TR_rankOf (N : Nat) (a0 : Nat) (x1 : Int32) (σ : mh_H) : Option (Int32 × mh_H) := chk (hT σ a0 = 11) <| calI (f_TR_has N a0 x1 σ) fun v2 s2 => if v2 = 0 then (some (0, s2)) else (chk (hT s2 a0 = 11) <| rfO (hR s2 5 7 a0) fun b4 => chk (hT s2 b4 = 2) <| chk (ib x1 (hN s2 b4)) <| some ((hA s2 b4 (Int32.toNatClampNeg x1)), s2))
theorem c_TR_rankOf {g : mv_G} {N : Nat} {a0 : Nat} {x1 : Int32} {σ : mh_H} {r : Int32 × mh_H} (h : f_TR_rankOf N a0 x1 σ = some r) : mv_Met g M_TR_rankOf 1 21 0 0 [.ref a0, .int x1] σ (fun oc τ => τ = r.2 ∧ oc = .returned (some (.int r.1))) := by
  refine mv_entry (L := [some (.ref a0), some (.int x1)]) rfl rfl (Nat.le_of_ble_eq_true rfl) rfl ?_
  unfold f_TR_rankOf at h
  refine vr_aload_n d_TR_rankOf_0 rfl rfl ?_
  refine vr_iload_n d_TR_rankOf_1 rfl rfl ?_
  have q1 := (l_chk h).1
  replace h := (l_chk h).2
  obtain ⟨v2, s2, ev2, h⟩ := l_calI h
  refine mh_callI 5 [.int x1] d_TR_rankOf_2 C_TR_51 (c_TR_has ev2) q1 rfl rfl rfl (Nat.le_of_ble_eq_true rfl) (by decide) (Nat.le_of_ble_eq_true rfl) ?_
  refine vr_if_eq (tgt := 17) d_TR_rankOf_5 (by decide) (fun c5 => ?_) (fun c5 => ?_)
  · replace h := l_ifp c5 h
    refine vr_iconst 0 d_TR_rankOf_17 (by decide) ?_
    cases h
    exact vr_iret d_TR_rankOf_18 rfl rfl ⟨rfl, rfl⟩
  · replace h := l_ifn c5 h
    refine vr_aload_n d_TR_rankOf_8 rfl rfl ?_
    have q3 := (l_chk h).1
    replace h := (l_chk h).2
    obtain ⟨b4, eb4, h⟩ := l_rf h
    refine vr_getR (b := b4) d_TR_rankOf_9 F_TR_34 rfl q3 eb4 ?_
    refine vr_iload_n d_TR_rankOf_12 rfl rfl ?_
    have q5 := (l_chk h).1
    replace h := (l_chk h).2
    have q6 := (l_chk h).1
    replace h := (l_chk h).2
    refine vr_iald (t := 0) d_TR_rankOf_13 rfl q5 (ib_in q6) ?_
    refine vr_goto (tgt := 18) d_TR_rankOf_14 (by decide) ?_
    cases h
    exact vr_iret d_TR_rankOf_18 rfl rfl ⟨rfl, rfl⟩

def f_TR_makeRoom (N : Nat) (a0 : Nat) (x1 : Int32) (σ : mh_H) : Option (mh_H × Nat × Nat) := chk (hT σ a0 = 11) <| rfO (hR σ 5 1 a0) fun b2 => chk (hT σ b2 = 2) <| if x1 ≤ (nI (hN σ b2)) then (some (σ, 0, 0)) else (calP (f_PR_roomier N ((nI (hN σ b2))) x1) fun v4 => chk (¬ v4 < 0 ∧ Int32.toNatClampNeg v4 ≤ 100000) <| tkA 1 (Int32.toNatClampNeg v4) <| bnd (hX σ) fun a7 => bnd (mh_arr σ 0 (Int32.toNatClampNeg v4)) fun s8 => chk (hT s8 a0 = 11) <| chk (¬ v4 < 0 ∧ Int32.toNatClampNeg v4 ≤ 100000) <| tkA 1 (Int32.toNatClampNeg v4) <| bnd (hX (mh_setR s8 5 1 a0 (some a7))) fun a12 => bnd (mh_arr (mh_setR s8 5 1 a0 (some a7)) 0 (Int32.toNatClampNeg v4)) fun s13 => chk (hT s13 a0 = 11) <| chk (¬ v4 < 0 ∧ Int32.toNatClampNeg v4 ≤ 100000) <| tkA 1 (Int32.toNatClampNeg v4) <| bnd (hX (mh_setR s13 5 2 a0 (some a12))) fun a17 => bnd (mh_arr (mh_setR s13 5 2 a0 (some a12)) 0 (Int32.toNatClampNeg v4)) fun s18 => chk (hT s18 a0 = 11) <| chk (¬ v4 < 0 ∧ Int32.toNatClampNeg v4 ≤ 100000) <| tkA 1 (Int32.toNatClampNeg v4) <| bnd (hX (mh_setR s18 5 3 a0 (some a17))) fun a22 => bnd (mh_arr (mh_setR s18 5 3 a0 (some a17)) 0 (Int32.toNatClampNeg v4)) fun s23 => chk (hT s23 a0 = 11) <| chk (¬ v4 < 0 ∧ Int32.toNatClampNeg v4 ≤ 100000) <| tkA 1 (Int32.toNatClampNeg v4) <| bnd (hX (mh_setR s23 5 4 a0 (some a22))) fun a27 => bnd (mh_arr (mh_setR s23 5 4 a0 (some a22)) 0 (Int32.toNatClampNeg v4)) fun s28 => chk (hT s28 a0 = 11) <| chk (¬ v4 < 0 ∧ Int32.toNatClampNeg v4 ≤ 100000) <| tkA 1 (Int32.toNatClampNeg v4) <| bnd (hX (mh_setR s28 5 5 a0 (some a27))) fun a32 => bnd (mh_arr (mh_setR s28 5 5 a0 (some a27)) 0 (Int32.toNatClampNeg v4)) fun s33 => chk (hT s33 a0 = 11) <| chk (¬ v4 < 0 ∧ Int32.toNatClampNeg v4 ≤ 100000) <| tkA 1 (Int32.toNatClampNeg v4) <| bnd (hX (mh_setR s33 5 6 a0 (some a32))) fun a37 => bnd (mh_arr (mh_setR s33 5 6 a0 (some a32)) 0 (Int32.toNatClampNeg v4)) fun s38 => chk (hT s38 a0 = 11) <| some ((mh_setR s38 5 7 a0 (some a37)), 0, 0))
theorem c_TR_makeRoom {g : mv_G} {N : Nat} {a0 : Nat} {x1 : Int32} {σ : mh_H} {r : mh_H × Nat × Nat} (h : f_TR_makeRoom N a0 x1 σ = some r) : mv_Met g M_TR_makeRoom 2 42 r.2.1 r.2.2 [.ref a0, .int x1] σ (fun oc τ => τ = r.1 ∧ oc = .returned none) := by
  have key : ∀ cb sb : Nat, r.2.1 ≤ cb → r.2.2 ≤ sb → mv_V g M_TR_makeRoom 2 42 cb sb 0 [some (.ref a0), some (.int x1), none] [] σ (fun oc τ => τ = r.1 ∧ oc = .returned none) := by
    intro cb sb hc hs
    unfold f_TR_makeRoom at h
    refine vr_iload_n d_TR_makeRoom_0 rfl rfl ?_
    refine vr_aload_n d_TR_makeRoom_1 rfl rfl ?_
    have q1 := (l_chk h).1
    replace h := (l_chk h).2
    obtain ⟨b2, eb2, h⟩ := l_rf h
    refine vr_getR (b := b2) d_TR_makeRoom_2 F_TR_15 rfl q1 eb2 ?_
    have q3 := (l_chk h).1
    replace h := (l_chk h).2
    refine vr_alen (t := 0) d_TR_makeRoom_5 rfl q3 ?_
    refine vr_icmp_le (tgt := 68) d_TR_makeRoom_6 (by decide) (fun c6 => ?_) (fun c6 => ?_)
    · replace h := l_ifp c6 h
      cases h
      exact vr_vret d_TR_makeRoom_68 rfl ⟨rfl, rfl⟩
    · replace h := l_ifn c6 h
      refine vr_aload_n d_TR_makeRoom_9 rfl rfl ?_
      refine vr_getR (b := b2) d_TR_makeRoom_10 F_TR_15 rfl q1 eb2 ?_
      refine vr_alen (t := 0) d_TR_makeRoom_13 rfl q3 ?_
      refine vr_iload_n d_TR_makeRoom_14 rfl rfl ?_
      obtain ⟨v4, ev4, h⟩ := l_calP h
      refine vr_callSP [.int (nI (hN σ b2)), .int x1] d_TR_makeRoom_15 C_TR_61 (c_PR_roomier ev4) rfl rfl (Nat.le_of_ble_eq_true rfl) (by decide) (Nat.le_of_ble_eq_true rfl) ?_
      refine vr_istore_n (L' := [some (.ref a0), some (.int x1), some (.int v4)]) d_TR_makeRoom_18 rfl (by decide) rfl ?_
      refine vr_aload_n d_TR_makeRoom_19 rfl rfl ?_
      refine vr_iload_n d_TR_makeRoom_20 rfl rfl ?_
      have q5 := (l_chk h).1
      replace h := (l_chk h).2
      obtain ⟨ru6, xu6, yu6, hhu6, hz⟩ := l_tkA h
      clear h
      cases hz
      have h := hhu6
      have h1u6 : 1 ≤ cb := by have hz : xu6 + 1 ≤ cb := hc; omega
      have h2u6 : (Int32.toNatClampNeg v4) ≤ sb := by have hz : yu6 + (Int32.toNatClampNeg v4) ≤ sb := hs; omega
      replace hc : xu6 ≤ cb - 1 := by have hz : xu6 + 1 ≤ cb := hc; omega
      replace hs : yu6 ≤ sb - (Int32.toNatClampNeg v4) := by have hz : yu6 + (Int32.toNatClampNeg v4) ≤ sb := hs; omega
      refine mh_newI d_TR_makeRoom_21 q5 h1u6 h2u6 ?_
      obtain ⟨a7, ea7, h⟩ := l_bnd h
      refine vr_nmA ea7 ?_
      obtain ⟨s8, es8, h⟩ := l_bnd h
      refine vr_nmS es8 ?_
      have q9 := (l_chk h).1
      replace h := (l_chk h).2
      refine vr_putR d_TR_makeRoom_23 W_TR_makeRoom_15 rfl rfl rfl q9 ?_
      refine vr_aload_n d_TR_makeRoom_26 rfl rfl ?_
      refine vr_iload_n d_TR_makeRoom_27 rfl rfl ?_
      have q10 := (l_chk h).1
      replace h := (l_chk h).2
      obtain ⟨ru11, xu11, yu11, hhu11, hz⟩ := l_tkA h
      clear h
      cases hz
      have h := hhu11
      have h1u11 : 1 ≤ (cb - 1) := by have hz : xu11 + 1 ≤ (cb - 1) := hc; omega
      have h2u11 : (Int32.toNatClampNeg v4) ≤ (sb - (Int32.toNatClampNeg v4)) := by have hz : yu11 + (Int32.toNatClampNeg v4) ≤ (sb - (Int32.toNatClampNeg v4)) := hs; omega
      replace hc : xu11 ≤ (cb - 1) - 1 := by have hz : xu11 + 1 ≤ (cb - 1) := hc; omega
      replace hs : yu11 ≤ (sb - (Int32.toNatClampNeg v4)) - (Int32.toNatClampNeg v4) := by have hz : yu11 + (Int32.toNatClampNeg v4) ≤ (sb - (Int32.toNatClampNeg v4)) := hs; omega
      refine mh_newI d_TR_makeRoom_28 q10 h1u11 h2u11 ?_
      obtain ⟨a12, ea12, h⟩ := l_bnd h
      refine vr_nmA ea12 ?_
      obtain ⟨s13, es13, h⟩ := l_bnd h
      refine vr_nmS es13 ?_
      have q14 := (l_chk h).1
      replace h := (l_chk h).2
      refine vr_putR d_TR_makeRoom_30 W_TR_makeRoom_19 rfl rfl rfl q14 ?_
      refine vr_aload_n d_TR_makeRoom_33 rfl rfl ?_
      refine vr_iload_n d_TR_makeRoom_34 rfl rfl ?_
      have q15 := (l_chk h).1
      replace h := (l_chk h).2
      obtain ⟨ru16, xu16, yu16, hhu16, hz⟩ := l_tkA h
      clear h
      cases hz
      have h := hhu16
      have h1u16 : 1 ≤ ((cb - 1) - 1) := by have hz : xu16 + 1 ≤ ((cb - 1) - 1) := hc; omega
      have h2u16 : (Int32.toNatClampNeg v4) ≤ ((sb - (Int32.toNatClampNeg v4)) - (Int32.toNatClampNeg v4)) := by have hz : yu16 + (Int32.toNatClampNeg v4) ≤ ((sb - (Int32.toNatClampNeg v4)) - (Int32.toNatClampNeg v4)) := hs; omega
      replace hc : xu16 ≤ ((cb - 1) - 1) - 1 := by have hz : xu16 + 1 ≤ ((cb - 1) - 1) := hc; omega
      replace hs : yu16 ≤ ((sb - (Int32.toNatClampNeg v4)) - (Int32.toNatClampNeg v4)) - (Int32.toNatClampNeg v4) := by have hz : yu16 + (Int32.toNatClampNeg v4) ≤ ((sb - (Int32.toNatClampNeg v4)) - (Int32.toNatClampNeg v4)) := hs; omega
      refine mh_newI d_TR_makeRoom_35 q15 h1u16 h2u16 ?_
      obtain ⟨a17, ea17, h⟩ := l_bnd h
      refine vr_nmA ea17 ?_
      obtain ⟨s18, es18, h⟩ := l_bnd h
      refine vr_nmS es18 ?_
      have q19 := (l_chk h).1
      replace h := (l_chk h).2
      refine vr_putR d_TR_makeRoom_37 W_TR_makeRoom_22 rfl rfl rfl q19 ?_
      refine vr_aload_n d_TR_makeRoom_40 rfl rfl ?_
      refine vr_iload_n d_TR_makeRoom_41 rfl rfl ?_
      have q20 := (l_chk h).1
      replace h := (l_chk h).2
      obtain ⟨ru21, xu21, yu21, hhu21, hz⟩ := l_tkA h
      clear h
      cases hz
      have h := hhu21
      have h1u21 : 1 ≤ (((cb - 1) - 1) - 1) := by have hz : xu21 + 1 ≤ (((cb - 1) - 1) - 1) := hc; omega
      have h2u21 : (Int32.toNatClampNeg v4) ≤ (((sb - (Int32.toNatClampNeg v4)) - (Int32.toNatClampNeg v4)) - (Int32.toNatClampNeg v4)) := by have hz : yu21 + (Int32.toNatClampNeg v4) ≤ (((sb - (Int32.toNatClampNeg v4)) - (Int32.toNatClampNeg v4)) - (Int32.toNatClampNeg v4)) := hs; omega
      replace hc : xu21 ≤ (((cb - 1) - 1) - 1) - 1 := by have hz : xu21 + 1 ≤ (((cb - 1) - 1) - 1) := hc; omega
      replace hs : yu21 ≤ (((sb - (Int32.toNatClampNeg v4)) - (Int32.toNatClampNeg v4)) - (Int32.toNatClampNeg v4)) - (Int32.toNatClampNeg v4) := by have hz : yu21 + (Int32.toNatClampNeg v4) ≤ (((sb - (Int32.toNatClampNeg v4)) - (Int32.toNatClampNeg v4)) - (Int32.toNatClampNeg v4)) := hs; omega
      refine mh_newI d_TR_makeRoom_42 q20 h1u21 h2u21 ?_
      obtain ⟨a22, ea22, h⟩ := l_bnd h
      refine vr_nmA ea22 ?_
      obtain ⟨s23, es23, h⟩ := l_bnd h
      refine vr_nmS es23 ?_
      have q24 := (l_chk h).1
      replace h := (l_chk h).2
      refine vr_putR d_TR_makeRoom_44 W_TR_makeRoom_25 rfl rfl rfl q24 ?_
      refine vr_aload_n d_TR_makeRoom_47 rfl rfl ?_
      refine vr_iload_n d_TR_makeRoom_48 rfl rfl ?_
      have q25 := (l_chk h).1
      replace h := (l_chk h).2
      obtain ⟨ru26, xu26, yu26, hhu26, hz⟩ := l_tkA h
      clear h
      cases hz
      have h := hhu26
      have h1u26 : 1 ≤ ((((cb - 1) - 1) - 1) - 1) := by have hz : xu26 + 1 ≤ ((((cb - 1) - 1) - 1) - 1) := hc; omega
      have h2u26 : (Int32.toNatClampNeg v4) ≤ ((((sb - (Int32.toNatClampNeg v4)) - (Int32.toNatClampNeg v4)) - (Int32.toNatClampNeg v4)) - (Int32.toNatClampNeg v4)) := by have hz : yu26 + (Int32.toNatClampNeg v4) ≤ ((((sb - (Int32.toNatClampNeg v4)) - (Int32.toNatClampNeg v4)) - (Int32.toNatClampNeg v4)) - (Int32.toNatClampNeg v4)) := hs; omega
      replace hc : xu26 ≤ ((((cb - 1) - 1) - 1) - 1) - 1 := by have hz : xu26 + 1 ≤ ((((cb - 1) - 1) - 1) - 1) := hc; omega
      replace hs : yu26 ≤ ((((sb - (Int32.toNatClampNeg v4)) - (Int32.toNatClampNeg v4)) - (Int32.toNatClampNeg v4)) - (Int32.toNatClampNeg v4)) - (Int32.toNatClampNeg v4) := by have hz : yu26 + (Int32.toNatClampNeg v4) ≤ ((((sb - (Int32.toNatClampNeg v4)) - (Int32.toNatClampNeg v4)) - (Int32.toNatClampNeg v4)) - (Int32.toNatClampNeg v4)) := hs; omega
      refine mh_newI d_TR_makeRoom_49 q25 h1u26 h2u26 ?_
      obtain ⟨a27, ea27, h⟩ := l_bnd h
      refine vr_nmA ea27 ?_
      obtain ⟨s28, es28, h⟩ := l_bnd h
      refine vr_nmS es28 ?_
      have q29 := (l_chk h).1
      replace h := (l_chk h).2
      refine vr_putR d_TR_makeRoom_51 W_TR_makeRoom_28 rfl rfl rfl q29 ?_
      refine vr_aload_n d_TR_makeRoom_54 rfl rfl ?_
      refine vr_iload_n d_TR_makeRoom_55 rfl rfl ?_
      have q30 := (l_chk h).1
      replace h := (l_chk h).2
      obtain ⟨ru31, xu31, yu31, hhu31, hz⟩ := l_tkA h
      clear h
      cases hz
      have h := hhu31
      have h1u31 : 1 ≤ (((((cb - 1) - 1) - 1) - 1) - 1) := by have hz : xu31 + 1 ≤ (((((cb - 1) - 1) - 1) - 1) - 1) := hc; omega
      have h2u31 : (Int32.toNatClampNeg v4) ≤ (((((sb - (Int32.toNatClampNeg v4)) - (Int32.toNatClampNeg v4)) - (Int32.toNatClampNeg v4)) - (Int32.toNatClampNeg v4)) - (Int32.toNatClampNeg v4)) := by have hz : yu31 + (Int32.toNatClampNeg v4) ≤ (((((sb - (Int32.toNatClampNeg v4)) - (Int32.toNatClampNeg v4)) - (Int32.toNatClampNeg v4)) - (Int32.toNatClampNeg v4)) - (Int32.toNatClampNeg v4)) := hs; omega
      replace hc : xu31 ≤ (((((cb - 1) - 1) - 1) - 1) - 1) - 1 := by have hz : xu31 + 1 ≤ (((((cb - 1) - 1) - 1) - 1) - 1) := hc; omega
      replace hs : yu31 ≤ (((((sb - (Int32.toNatClampNeg v4)) - (Int32.toNatClampNeg v4)) - (Int32.toNatClampNeg v4)) - (Int32.toNatClampNeg v4)) - (Int32.toNatClampNeg v4)) - (Int32.toNatClampNeg v4) := by have hz : yu31 + (Int32.toNatClampNeg v4) ≤ (((((sb - (Int32.toNatClampNeg v4)) - (Int32.toNatClampNeg v4)) - (Int32.toNatClampNeg v4)) - (Int32.toNatClampNeg v4)) - (Int32.toNatClampNeg v4)) := hs; omega
      refine mh_newI d_TR_makeRoom_56 q30 h1u31 h2u31 ?_
      obtain ⟨a32, ea32, h⟩ := l_bnd h
      refine vr_nmA ea32 ?_
      obtain ⟨s33, es33, h⟩ := l_bnd h
      refine vr_nmS es33 ?_
      have q34 := (l_chk h).1
      replace h := (l_chk h).2
      refine vr_putR d_TR_makeRoom_58 W_TR_makeRoom_31 rfl rfl rfl q34 ?_
      refine vr_aload_n d_TR_makeRoom_61 rfl rfl ?_
      refine vr_iload_n d_TR_makeRoom_62 rfl rfl ?_
      have q35 := (l_chk h).1
      replace h := (l_chk h).2
      obtain ⟨ru36, xu36, yu36, hhu36, hz⟩ := l_tkA h
      clear h
      cases hz
      have h := hhu36
      have h1u36 : 1 ≤ ((((((cb - 1) - 1) - 1) - 1) - 1) - 1) := by have hz : xu36 + 1 ≤ ((((((cb - 1) - 1) - 1) - 1) - 1) - 1) := hc; omega
      have h2u36 : (Int32.toNatClampNeg v4) ≤ ((((((sb - (Int32.toNatClampNeg v4)) - (Int32.toNatClampNeg v4)) - (Int32.toNatClampNeg v4)) - (Int32.toNatClampNeg v4)) - (Int32.toNatClampNeg v4)) - (Int32.toNatClampNeg v4)) := by have hz : yu36 + (Int32.toNatClampNeg v4) ≤ ((((((sb - (Int32.toNatClampNeg v4)) - (Int32.toNatClampNeg v4)) - (Int32.toNatClampNeg v4)) - (Int32.toNatClampNeg v4)) - (Int32.toNatClampNeg v4)) - (Int32.toNatClampNeg v4)) := hs; omega
      replace hc : xu36 ≤ ((((((cb - 1) - 1) - 1) - 1) - 1) - 1) - 1 := by have hz : xu36 + 1 ≤ ((((((cb - 1) - 1) - 1) - 1) - 1) - 1) := hc; omega
      replace hs : yu36 ≤ ((((((sb - (Int32.toNatClampNeg v4)) - (Int32.toNatClampNeg v4)) - (Int32.toNatClampNeg v4)) - (Int32.toNatClampNeg v4)) - (Int32.toNatClampNeg v4)) - (Int32.toNatClampNeg v4)) - (Int32.toNatClampNeg v4) := by have hz : yu36 + (Int32.toNatClampNeg v4) ≤ ((((((sb - (Int32.toNatClampNeg v4)) - (Int32.toNatClampNeg v4)) - (Int32.toNatClampNeg v4)) - (Int32.toNatClampNeg v4)) - (Int32.toNatClampNeg v4)) - (Int32.toNatClampNeg v4)) := hs; omega
      refine mh_newI d_TR_makeRoom_63 q35 h1u36 h2u36 ?_
      obtain ⟨a37, ea37, h⟩ := l_bnd h
      refine vr_nmA ea37 ?_
      obtain ⟨s38, es38, h⟩ := l_bnd h
      refine vr_nmS es38 ?_
      have q39 := (l_chk h).1
      replace h := (l_chk h).2
      refine vr_putR d_TR_makeRoom_65 W_TR_makeRoom_34 rfl rfl rfl q39 ?_
      cases h
      exact vr_vret d_TR_makeRoom_68 rfl ⟨rfl, rfl⟩
  exact mv_entry (L := [some (.ref a0), some (.int x1), none]) rfl rfl (Nat.le_of_ble_eq_true rfl) rfl (key _ _ (Nat.le_refl _) (Nat.le_refl _))

def f_TR_placeNode (N : Nat) (a0 : Nat) (x1 : Int32) (x2 : Nat) (x3 : Int32) (x4 : Int32) (σ : mh_H) : Option (mh_H) := chk (hT σ a0 = 11) <| calI (f_TR_has N a0 x1 σ) fun v2 s2 => if v2 = 0 then (some (s2)) else (chk (hT s2 a0 = 11) <| rfO (hR s2 5 1 a0) fun b4 => chk (hT s2 x2 = 3) <| rfO (hR s2 1 0 x2) fun b6 => chk (hT s2 b6 = 2) <| chk (ib x3 (hN s2 b6)) <| bnd ((hA s2 b6 (Int32.toNatClampNeg x3))) fun v9 => chk (hT s2 b4 = 2) <| chk (ib x1 (hN s2 b4)) <| rfO (hR (mh_setA s2 b4 (Int32.toNatClampNeg x1) v9) 5 2 a0) fun b12 => rfO (hR (mh_setA s2 b4 (Int32.toNatClampNeg x1) v9) 1 1 x2) fun b13 => chk (hT (mh_setA s2 b4 (Int32.toNatClampNeg x1) v9) b13 = 2) <| chk (ib x3 (hN (mh_setA s2 b4 (Int32.toNatClampNeg x1) v9) b13)) <| bnd ((hA (mh_setA s2 b4 (Int32.toNatClampNeg x1) v9) b13 (Int32.toNatClampNeg x3))) fun v16 => chk (hT (mh_setA s2 b4 (Int32.toNatClampNeg x1) v9) b12 = 2) <| chk (ib x1 (hN (mh_setA s2 b4 (Int32.toNatClampNeg x1) v9) b12)) <| rfO (hR (mh_setA (mh_setA s2 b4 (Int32.toNatClampNeg x1) v9) b12 (Int32.toNatClampNeg x1) v16) 5 3 a0) fun b19 => rfO (hR (mh_setA (mh_setA s2 b4 (Int32.toNatClampNeg x1) v9) b12 (Int32.toNatClampNeg x1) v16) 1 2 x2) fun b20 => chk (hT (mh_setA (mh_setA s2 b4 (Int32.toNatClampNeg x1) v9) b12 (Int32.toNatClampNeg x1) v16) b20 = 2) <| chk (ib x3 (hN (mh_setA (mh_setA s2 b4 (Int32.toNatClampNeg x1) v9) b12 (Int32.toNatClampNeg x1) v16) b20)) <| bnd ((hA (mh_setA (mh_setA s2 b4 (Int32.toNatClampNeg x1) v9) b12 (Int32.toNatClampNeg x1) v16) b20 (Int32.toNatClampNeg x3))) fun v23 => chk (hT (mh_setA (mh_setA s2 b4 (Int32.toNatClampNeg x1) v9) b12 (Int32.toNatClampNeg x1) v16) b19 = 2) <| chk (ib x1 (hN (mh_setA (mh_setA s2 b4 (Int32.toNatClampNeg x1) v9) b12 (Int32.toNatClampNeg x1) v16) b19)) <| rfO (hR (mh_setA (mh_setA (mh_setA s2 b4 (Int32.toNatClampNeg x1) v9) b12 (Int32.toNatClampNeg x1) v16) b19 (Int32.toNatClampNeg x1) v23) 5 4 a0) fun b26 => rfO (hR (mh_setA (mh_setA (mh_setA s2 b4 (Int32.toNatClampNeg x1) v9) b12 (Int32.toNatClampNeg x1) v16) b19 (Int32.toNatClampNeg x1) v23) 1 3 x2) fun b27 => chk (hT (mh_setA (mh_setA (mh_setA s2 b4 (Int32.toNatClampNeg x1) v9) b12 (Int32.toNatClampNeg x1) v16) b19 (Int32.toNatClampNeg x1) v23) b27 = 2) <| chk (ib x3 (hN (mh_setA (mh_setA (mh_setA s2 b4 (Int32.toNatClampNeg x1) v9) b12 (Int32.toNatClampNeg x1) v16) b19 (Int32.toNatClampNeg x1) v23) b27)) <| bnd ((hA (mh_setA (mh_setA (mh_setA s2 b4 (Int32.toNatClampNeg x1) v9) b12 (Int32.toNatClampNeg x1) v16) b19 (Int32.toNatClampNeg x1) v23) b27 (Int32.toNatClampNeg x3))) fun v30 => chk (hT (mh_setA (mh_setA (mh_setA s2 b4 (Int32.toNatClampNeg x1) v9) b12 (Int32.toNatClampNeg x1) v16) b19 (Int32.toNatClampNeg x1) v23) b26 = 2) <| chk (ib x1 (hN (mh_setA (mh_setA (mh_setA s2 b4 (Int32.toNatClampNeg x1) v9) b12 (Int32.toNatClampNeg x1) v16) b19 (Int32.toNatClampNeg x1) v23) b26)) <| rfO (hR (mh_setA (mh_setA (mh_setA (mh_setA s2 b4 (Int32.toNatClampNeg x1) v9) b12 (Int32.toNatClampNeg x1) v16) b19 (Int32.toNatClampNeg x1) v23) b26 (Int32.toNatClampNeg x1) v30) 5 6 a0) fun b33 => chk (hT (mh_setA (mh_setA (mh_setA (mh_setA s2 b4 (Int32.toNatClampNeg x1) v9) b12 (Int32.toNatClampNeg x1) v16) b19 (Int32.toNatClampNeg x1) v23) b26 (Int32.toNatClampNeg x1) v30) b33 = 2) <| chk (ib x1 (hN (mh_setA (mh_setA (mh_setA (mh_setA s2 b4 (Int32.toNatClampNeg x1) v9) b12 (Int32.toNatClampNeg x1) v16) b19 (Int32.toNatClampNeg x1) v23) b26 (Int32.toNatClampNeg x1) v30) b33)) <| some ((mh_setA (mh_setA (mh_setA (mh_setA (mh_setA s2 b4 (Int32.toNatClampNeg x1) v9) b12 (Int32.toNatClampNeg x1) v16) b19 (Int32.toNatClampNeg x1) v23) b26 (Int32.toNatClampNeg x1) v30) b33 (Int32.toNatClampNeg x1) x4)))
theorem c_TR_placeNode {g : mv_G} {N : Nat} {a0 : Nat} {x1 : Int32} {x2 : Nat} {x3 : Int32} {x4 : Int32} {σ : mh_H} {r : mh_H} (h : f_TR_placeNode N a0 x1 x2 x3 x4 σ = some r) : mv_Met g M_TR_placeNode 1 21 0 0 [.ref a0, .int x1, .ref x2, .int x3, .int x4] σ (fun oc τ => τ = r ∧ oc = .returned none) := by
  refine mv_entry (L := [some (.ref a0), some (.int x1), some (.ref x2), some (.int x3), some (.int x4)]) rfl rfl (Nat.le_of_ble_eq_true rfl) rfl ?_
  unfold f_TR_placeNode at h
  refine vr_aload_n d_TR_placeNode_0 rfl rfl ?_
  refine vr_iload_n d_TR_placeNode_1 rfl rfl ?_
  have q1 := (l_chk h).1
  replace h := (l_chk h).2
  obtain ⟨v2, s2, ev2, h⟩ := l_calI h
  refine mh_callI 5 [.int x1] d_TR_placeNode_2 C_TR_51 (c_TR_has ev2) q1 rfl rfl rfl (Nat.le_of_ble_eq_true rfl) (by decide) (Nat.le_of_ble_eq_true rfl) ?_
  refine vr_if_eq (tgt := 64) d_TR_placeNode_5 (by decide) (fun c5 => ?_) (fun c5 => ?_)
  · replace h := l_ifp c5 h
    cases h
    exact vr_vret d_TR_placeNode_64 rfl ⟨rfl, rfl⟩
  · replace h := l_ifn c5 h
    refine vr_aload_n d_TR_placeNode_8 rfl rfl ?_
    have q3 := (l_chk h).1
    replace h := (l_chk h).2
    obtain ⟨b4, eb4, h⟩ := l_rf h
    refine vr_getR (b := b4) d_TR_placeNode_9 F_TR_15 rfl q3 eb4 ?_
    refine vr_iload_n d_TR_placeNode_12 rfl rfl ?_
    refine vr_aload_n d_TR_placeNode_13 rfl rfl ?_
    have q5 := (l_chk h).1
    replace h := (l_chk h).2
    obtain ⟨b6, eb6, h⟩ := l_rf h
    refine vr_getR (b := b6) d_TR_placeNode_14 F_TR_73 rfl q5 eb6 ?_
    refine vr_iload_n d_TR_placeNode_17 rfl rfl ?_
    have q7 := (l_chk h).1
    replace h := (l_chk h).2
    have q8 := (l_chk h).1
    replace h := (l_chk h).2
    refine vr_iald (t := 0) d_TR_placeNode_18 rfl q7 (ib_in q8) ?_
    obtain ⟨v9, ev9, h⟩ := l_bnd h
    refine vr_nm ev9 ?_
    have q10 := (l_chk h).1
    replace h := (l_chk h).2
    have q11 := (l_chk h).1
    replace h := (l_chk h).2
    refine vr_iast (t := 0) d_TR_placeNode_19 rfl q10 (ib_in q11) ?_
    refine vr_aload_n d_TR_placeNode_20 rfl rfl ?_
    obtain ⟨b12, eb12, h⟩ := l_rf h
    refine vr_getR (b := b12) d_TR_placeNode_21 F_TR_19 rfl q3 eb12 ?_
    refine vr_iload_n d_TR_placeNode_24 rfl rfl ?_
    refine vr_aload_n d_TR_placeNode_25 rfl rfl ?_
    obtain ⟨b13, eb13, h⟩ := l_rf h
    refine vr_getR (b := b13) d_TR_placeNode_26 F_TR_74 rfl q5 eb13 ?_
    refine vr_iload_n d_TR_placeNode_29 rfl rfl ?_
    have q14 := (l_chk h).1
    replace h := (l_chk h).2
    have q15 := (l_chk h).1
    replace h := (l_chk h).2
    refine vr_iald (t := 0) d_TR_placeNode_30 rfl q14 (ib_in q15) ?_
    obtain ⟨v16, ev16, h⟩ := l_bnd h
    refine vr_nm ev16 ?_
    have q17 := (l_chk h).1
    replace h := (l_chk h).2
    have q18 := (l_chk h).1
    replace h := (l_chk h).2
    refine vr_iast (t := 0) d_TR_placeNode_31 rfl q17 (ib_in q18) ?_
    refine vr_aload_n d_TR_placeNode_32 rfl rfl ?_
    obtain ⟨b19, eb19, h⟩ := l_rf h
    refine vr_getR (b := b19) d_TR_placeNode_33 F_TR_22 rfl q3 eb19 ?_
    refine vr_iload_n d_TR_placeNode_36 rfl rfl ?_
    refine vr_aload_n d_TR_placeNode_37 rfl rfl ?_
    obtain ⟨b20, eb20, h⟩ := l_rf h
    refine vr_getR (b := b20) d_TR_placeNode_38 F_TR_75 rfl q5 eb20 ?_
    refine vr_iload_n d_TR_placeNode_41 rfl rfl ?_
    have q21 := (l_chk h).1
    replace h := (l_chk h).2
    have q22 := (l_chk h).1
    replace h := (l_chk h).2
    refine vr_iald (t := 0) d_TR_placeNode_42 rfl q21 (ib_in q22) ?_
    obtain ⟨v23, ev23, h⟩ := l_bnd h
    refine vr_nm ev23 ?_
    have q24 := (l_chk h).1
    replace h := (l_chk h).2
    have q25 := (l_chk h).1
    replace h := (l_chk h).2
    refine vr_iast (t := 0) d_TR_placeNode_43 rfl q24 (ib_in q25) ?_
    refine vr_aload_n d_TR_placeNode_44 rfl rfl ?_
    obtain ⟨b26, eb26, h⟩ := l_rf h
    refine vr_getR (b := b26) d_TR_placeNode_45 F_TR_25 rfl q3 eb26 ?_
    refine vr_iload_n d_TR_placeNode_48 rfl rfl ?_
    refine vr_aload_n d_TR_placeNode_49 rfl rfl ?_
    obtain ⟨b27, eb27, h⟩ := l_rf h
    refine vr_getR (b := b27) d_TR_placeNode_50 F_TR_68 rfl q5 eb27 ?_
    refine vr_iload_n d_TR_placeNode_53 rfl rfl ?_
    have q28 := (l_chk h).1
    replace h := (l_chk h).2
    have q29 := (l_chk h).1
    replace h := (l_chk h).2
    refine vr_iald (t := 0) d_TR_placeNode_54 rfl q28 (ib_in q29) ?_
    obtain ⟨v30, ev30, h⟩ := l_bnd h
    refine vr_nm ev30 ?_
    have q31 := (l_chk h).1
    replace h := (l_chk h).2
    have q32 := (l_chk h).1
    replace h := (l_chk h).2
    refine vr_iast (t := 0) d_TR_placeNode_55 rfl q31 (ib_in q32) ?_
    refine vr_aload_n d_TR_placeNode_56 rfl rfl ?_
    obtain ⟨b33, eb33, h⟩ := l_rf h
    refine vr_getR (b := b33) d_TR_placeNode_57 F_TR_31 rfl q3 eb33 ?_
    refine vr_iload_n d_TR_placeNode_60 rfl rfl ?_
    refine vr_iload d_TR_placeNode_61 rfl ?_
    have q34 := (l_chk h).1
    replace h := (l_chk h).2
    have q35 := (l_chk h).1
    replace h := (l_chk h).2
    refine vr_iast (t := 0) d_TR_placeNode_63 rfl q34 (ib_in q35) ?_
    cases h
    exact vr_vret d_TR_placeNode_64 rfl ⟨rfl, rfl⟩

def k_TR_placeNodes_41 (N : Nat) (k12 : Nat → Nat → Int32 → Int32 → Int32 → mh_H → Option (mh_H)) (y0 : Nat) (y1 : Nat) (y2 : Int32) (y3 : Int32) (y4 : Int32) (σ : mh_H) : Option (mh_H) := chk (hT σ y1 = 3) <| rfO (hR σ 1 3 y1) fun b6 => chk (hT σ b6 = 2) <| chk (ib y4 (hN σ b6)) <| bnd ((((y4 - (hA σ b6 (Int32.toNatClampNeg y4))) + 1) + y3)) fun v9 => chk (hT σ y0 = 11) <| calV (f_TR_placeNode N y0 v9 y1 y4 y2 σ) fun s11 => k12 y0 y1 v9 ((y3 + 1)) ((y4 + (-1))) s11
theorem q_TR_placeNodes_41 {g : mv_G} {N : Nat} {k12 : Nat → Nat → Int32 → Int32 → Int32 → mh_H → Option (mh_H)} (hk12 : ∀ (y0 : Nat) (y1 : Nat) (y2 : Int32) (y3 : Int32) (y4 : Int32) (σ : mh_H) (r : mh_H), k12 y0 y1 y2 y3 y4 σ = some r → mv_V g M_TR_placeNodes 2 45 0 0 12 [some (.ref y0), some (.ref y1), some (.int y2), some (.int y3), some (.int y4), none] [] σ (fun oc τ => τ = r ∧ oc = .returned none)) (y0 : Nat) (y1 : Nat) (y2 : Int32) (y3 : Int32) (y4 : Int32) (σ : mh_H) (r : mh_H) (h : k_TR_placeNodes_41 N k12 y0 y1 y2 y3 y4 σ = some r) : mv_V g M_TR_placeNodes 2 45 0 0 41 [some (.ref y0), some (.ref y1), some (.int y2), some (.int y3), some (.int y4), none] [] σ (fun oc τ => τ = r ∧ oc = .returned none) := by
  unfold k_TR_placeNodes_41 at h
  refine vr_iload d_TR_placeNodes_41 rfl ?_
  refine vr_aload_n d_TR_placeNodes_43 rfl rfl ?_
  have q5 := (l_chk h).1
  replace h := (l_chk h).2
  obtain ⟨b6, eb6, h⟩ := l_rf h
  refine vr_getR (b := b6) d_TR_placeNodes_44 F_TR_68 rfl q5 eb6 ?_
  refine vr_iload d_TR_placeNodes_47 rfl ?_
  have q7 := (l_chk h).1
  replace h := (l_chk h).2
  have q8 := (l_chk h).1
  replace h := (l_chk h).2
  refine vr_iald (t := 0) d_TR_placeNodes_49 rfl q7 (ib_in q8) ?_
  refine vr_isub d_TR_placeNodes_50 ?_
  refine vr_iconst 1 d_TR_placeNodes_51 (by decide) ?_
  refine vr_iadd d_TR_placeNodes_52 ?_
  refine vr_iload_n d_TR_placeNodes_53 rfl rfl ?_
  refine vr_iadd d_TR_placeNodes_54 ?_
  obtain ⟨v9, ev9, h⟩ := l_bnd h
  refine vr_nm ev9 ?_
  refine vr_istore (L' := [some (.ref y0), some (.ref y1), some (.int y2), some (.int y3), some (.int y4), some (.int v9)]) d_TR_placeNodes_55 (by decide) rfl ?_
  refine vr_aload_n d_TR_placeNodes_57 rfl rfl ?_
  refine vr_iload d_TR_placeNodes_58 rfl ?_
  refine vr_aload_n d_TR_placeNodes_60 rfl rfl ?_
  refine vr_iload d_TR_placeNodes_61 rfl ?_
  refine vr_iload_n d_TR_placeNodes_63 rfl rfl ?_
  have q10 := (l_chk h).1
  replace h := (l_chk h).2
  obtain ⟨s11, es11, h⟩ := l_calV h
  refine mh_callU 5 [.int v9, .ref y1, .int y4, .int y2] d_TR_placeNodes_64 C_TR_69 (c_TR_placeNode es11) q10 rfl rfl rfl (Nat.le_of_ble_eq_true rfl) (by decide) (Nat.le_of_ble_eq_true rfl) ?_
  refine vr_iload d_TR_placeNodes_67 rfl ?_
  refine vr_istore_n (L' := [some (.ref y0), some (.ref y1), some (.int v9), some (.int y3), some (.int y4), some (.int v9)]) d_TR_placeNodes_69 rfl (by decide) rfl ?_
  refine vr_iinc (L' := [some (.ref y0), some (.ref y1), some (.int v9), some (.int (y3 + 1)), some (.int y4), some (.int v9)]) (y3 + 1) d_TR_placeNodes_70 (by decide) rfl rfl rfl ?_
  refine vr_iinc (L' := [some (.ref y0), some (.ref y1), some (.int v9), some (.int (y3 + 1)), some (.int (y4 + (-1))), some (.int v9)]) (y4 + (-1)) d_TR_placeNodes_73 (by decide) rfl rfl rfl ?_
  refine vr_goto (tgt := 12) d_TR_placeNodes_76 (by decide) ?_
  exact mv_drop (hk12 _ _ _ _ _ _ _ h) (And.intro rfl (And.intro rfl (And.intro rfl (And.intro rfl (And.intro rfl trivial)))))

def k_TR_placeNodes_17 (N : Nat) (k12 : Nat → Nat → Int32 → Int32 → Int32 → mh_H → Option (mh_H)) : Nat → Nat → Nat → Int32 → Int32 → Int32 → mh_H → Option (mh_H)
  | 0, _, _, _, _, _, _ => none
  | n + 1, y0, y1, y2, y3, y4, σ => if y3 ≤ 0 then (k_TR_placeNodes_41 N k12 y0 y1 y2 y3 y4 σ) else (if (y2 - y3) < y4 then (k_TR_placeNodes_41 N k12 y0 y1 y2 y3 y4 σ) else (chk (hT σ y0 = 11) <| calI (f_TR_wholeOf N y0 y2 σ) fun v4 s4 => k_TR_placeNodes_17 N k12 n y0 y1 v4 ((y3 + (-1))) y4 s4))
theorem q_TR_placeNodes_17 {g : mv_G} {N : Nat} {k12 : Nat → Nat → Int32 → Int32 → Int32 → mh_H → Option (mh_H)} (hk12 : ∀ (y0 : Nat) (y1 : Nat) (y2 : Int32) (y3 : Int32) (y4 : Int32) (σ : mh_H) (r : mh_H), k12 y0 y1 y2 y3 y4 σ = some r → mv_V g M_TR_placeNodes 2 45 0 0 12 [some (.ref y0), some (.ref y1), some (.int y2), some (.int y3), some (.int y4), none] [] σ (fun oc τ => τ = r ∧ oc = .returned none)) : ∀ (n : Nat) (y0 : Nat) (y1 : Nat) (y2 : Int32) (y3 : Int32) (y4 : Int32) (σ : mh_H) (r : mh_H), k_TR_placeNodes_17 N k12 n y0 y1 y2 y3 y4 σ = some r → mv_V g M_TR_placeNodes 2 45 0 0 17 [some (.ref y0), some (.ref y1), some (.int y2), some (.int y3), some (.int y4), none] [] σ (fun oc τ => τ = r ∧ oc = .returned none) := by
  intro n
  induction n with
  | zero =>
    intro y0 y1 y2 y3 y4 σ r h
    exact absurd h (by simp [k_TR_placeNodes_17])
  | succ n ih =>
    intro y0 y1 y2 y3 y4 σ r h 
    unfold k_TR_placeNodes_17 at h
    refine vr_iload_n d_TR_placeNodes_17 rfl rfl ?_
    refine vr_if_le (tgt := 41) d_TR_placeNodes_18 (by decide) (fun c18 => ?_) (fun c18 => ?_)
    · replace h := l_ifp c18 h
      exact mv_drop (q_TR_placeNodes_41 hk12 _ _ _ _ _ _ _ h) (And.intro rfl (And.intro rfl (And.intro rfl (And.intro rfl (And.intro rfl trivial)))))
    · replace h := l_ifn c18 h
      refine vr_iload d_TR_placeNodes_21 rfl ?_
      refine vr_iload_n d_TR_placeNodes_23 rfl rfl ?_
      refine vr_iload_n d_TR_placeNodes_24 rfl rfl ?_
      refine vr_isub d_TR_placeNodes_25 ?_
      refine vr_icmp_gt (tgt := 41) d_TR_placeNodes_26 (by decide) (fun c26 => ?_) (fun c26 => ?_)
      · replace h := l_ifp c26 h
        exact mv_drop (q_TR_placeNodes_41 hk12 _ _ _ _ _ _ _ h) (And.intro rfl (And.intro rfl (And.intro rfl (And.intro rfl (And.intro rfl trivial)))))
      · replace h := l_ifn c26 h
        refine vr_aload_n d_TR_placeNodes_29 rfl rfl ?_
        refine vr_iload_n d_TR_placeNodes_30 rfl rfl ?_
        have q3 := (l_chk h).1
        replace h := (l_chk h).2
        obtain ⟨v4, s4, ev4, h⟩ := l_calI h
        refine mh_callI 5 [.int y2] d_TR_placeNodes_31 C_TR_65 (c_TR_wholeOf ev4) q3 rfl rfl rfl (Nat.le_of_ble_eq_true rfl) (by decide) (Nat.le_of_ble_eq_true rfl) ?_
        refine vr_istore_n (L' := [some (.ref y0), some (.ref y1), some (.int v4), some (.int y3), some (.int y4), none]) d_TR_placeNodes_34 rfl (by decide) rfl ?_
        refine vr_iinc (L' := [some (.ref y0), some (.ref y1), some (.int v4), some (.int (y3 + (-1))), some (.int y4), none]) (y3 + (-1)) d_TR_placeNodes_35 (by decide) rfl rfl rfl ?_
        refine vr_goto (tgt := 17) d_TR_placeNodes_38 (by decide) ?_
        exact mv_drop (ih _ _ _ _ _ _ _ h) (And.intro rfl (And.intro rfl (And.intro rfl (And.intro rfl (And.intro rfl trivial)))))

def k_TR_placeNodes_12 (N : Nat) : Nat → Nat → Nat → Int32 → Int32 → Int32 → mh_H → Option (mh_H)
  | 0, _, _, _, _, _, _ => none
  | n + 1, y0, y1, y2, y3, y4, σ => if y4 < 0 then (some (σ)) else (k_TR_placeNodes_17 N (k_TR_placeNodes_12 N n) N y0 y1 y2 y3 y4 σ)
theorem q_TR_placeNodes_12 {g : mv_G} {N : Nat} : ∀ (n : Nat) (y0 : Nat) (y1 : Nat) (y2 : Int32) (y3 : Int32) (y4 : Int32) (σ : mh_H) (r : mh_H), k_TR_placeNodes_12 N n y0 y1 y2 y3 y4 σ = some r → mv_V g M_TR_placeNodes 2 45 0 0 12 [some (.ref y0), some (.ref y1), some (.int y2), some (.int y3), some (.int y4), none] [] σ (fun oc τ => τ = r ∧ oc = .returned none) := by
  intro n
  induction n with
  | zero =>
    intro y0 y1 y2 y3 y4 σ r h
    exact absurd h (by simp [k_TR_placeNodes_12])
  | succ n ih =>
    intro y0 y1 y2 y3 y4 σ r h 
    unfold k_TR_placeNodes_12 at h
    refine vr_iload d_TR_placeNodes_12 rfl ?_
    refine vr_if_lt (tgt := 79) d_TR_placeNodes_14 (by decide) (fun c14 => ?_) (fun c14 => ?_)
    · replace h := l_ifp c14 h
      cases h
      exact vr_vret d_TR_placeNodes_79 rfl ⟨rfl, rfl⟩
    · replace h := l_ifn c14 h
      exact mv_drop (q_TR_placeNodes_17 ih N _ _ _ _ _ _ _ h) (And.intro rfl (And.intro rfl (And.intro rfl (And.intro rfl (And.intro rfl trivial)))))

def f_TR_placeNodes (N : Nat) (a0 : Nat) (x1 : Nat) (σ : mh_H) : Option (mh_H) := chk (hT σ x1 = 3) <| bnd (((hI σ 1 4 x1) - 1)) fun v2 => k_TR_placeNodes_12 N N a0 x1 (-1) 0 v2 σ
theorem c_TR_placeNodes {g : mv_G} {N : Nat} {a0 : Nat} {x1 : Nat} {σ : mh_H} {r : mh_H} (h : f_TR_placeNodes N a0 x1 σ = some r) : mv_Met g M_TR_placeNodes 2 45 0 0 [.ref a0, .ref x1] σ (fun oc τ => τ = r ∧ oc = .returned none) := by
  refine mv_entry (L := [some (.ref a0), some (.ref x1), none, none, none, none]) rfl rfl (Nat.le_of_ble_eq_true rfl) rfl ?_
  unfold f_TR_placeNodes at h
  refine vr_iconst (-1) d_TR_placeNodes_0 (by decide) ?_
  refine vr_istore_n (L' := [some (.ref a0), some (.ref x1), some (.int (-1)), none, none, none]) d_TR_placeNodes_1 rfl (by decide) rfl ?_
  refine vr_iconst 0 d_TR_placeNodes_2 (by decide) ?_
  refine vr_istore_n (L' := [some (.ref a0), some (.ref x1), some (.int (-1)), some (.int 0), none, none]) d_TR_placeNodes_3 rfl (by decide) rfl ?_
  refine vr_aload_n d_TR_placeNodes_4 rfl rfl ?_
  have q1 := (l_chk h).1
  replace h := (l_chk h).2
  refine vr_getI d_TR_placeNodes_5 F_TR_37 rfl q1 ?_
  refine vr_iconst 1 d_TR_placeNodes_8 (by decide) ?_
  refine vr_isub d_TR_placeNodes_9 ?_
  obtain ⟨v2, ev2, h⟩ := l_bnd h
  refine vr_nm ev2 ?_
  refine vr_istore (L' := [some (.ref a0), some (.ref x1), some (.int (-1)), some (.int 0), some (.int v2), none]) d_TR_placeNodes_10 (by decide) rfl ?_
  exact mv_drop (q_TR_placeNodes_12 N _ _ _ _ _ _ _ h) (And.intro rfl (And.intro rfl (And.intro rfl (And.intro rfl (And.intro rfl trivial)))))

def k_TR_countParts_2 (N : Nat) : Nat → Nat → Int32 → mh_H → Option (mh_H)
  | 0, _, _, _ => none
  | n + 1, y0, y1, σ => chk (hT σ y0 = 11) <| if (hI σ 5 0 y0) ≤ y1 then (some (σ)) else (rfO (hR σ 5 5 y0) fun b2 => chk (hT σ b2 = 2) <| chk (ib y1 (hN σ b2)) <| rfO (hR (mh_setA σ b2 (Int32.toNatClampNeg y1) 0) 5 7 y0) fun b5 => chk (hT (mh_setA σ b2 (Int32.toNatClampNeg y1) 0) b5 = 2) <| chk (ib y1 (hN (mh_setA σ b2 (Int32.toNatClampNeg y1) 0) b5)) <| rfO (hR (mh_setA (mh_setA σ b2 (Int32.toNatClampNeg y1) 0) b5 (Int32.toNatClampNeg y1) 0) 5 6 y0) fun b8 => chk (hT (mh_setA (mh_setA σ b2 (Int32.toNatClampNeg y1) 0) b5 (Int32.toNatClampNeg y1) 0) b8 = 2) <| chk (ib y1 (hN (mh_setA (mh_setA σ b2 (Int32.toNatClampNeg y1) 0) b5 (Int32.toNatClampNeg y1) 0) b8)) <| bnd ((hA (mh_setA (mh_setA σ b2 (Int32.toNatClampNeg y1) 0) b5 (Int32.toNatClampNeg y1) 0) b8 (Int32.toNatClampNeg y1))) fun v11 => calI (f_TR_has N y0 v11 (mh_setA (mh_setA σ b2 (Int32.toNatClampNeg y1) 0) b5 (Int32.toNatClampNeg y1) 0)) fun v12 s12 => if v12 = 0 then (k_TR_countParts_2 N n y0 ((y1 + 1)) s12) else (chk (hT s12 y0 = 11) <| rfO (hR s12 5 7 y0) fun b14 => rfO (hR s12 5 5 y0) fun b15 => chk (hT s12 b15 = 2) <| chk (ib v11 (hN s12 b15)) <| bnd ((hA s12 b15 (Int32.toNatClampNeg v11))) fun v18 => chk (hT s12 b14 = 2) <| chk (ib y1 (hN s12 b14)) <| chk (ib v11 (hN (mh_setA s12 b14 (Int32.toNatClampNeg y1) v18) b15)) <| bnd ((hA (mh_setA s12 b14 (Int32.toNatClampNeg y1) v18) b15 (Int32.toNatClampNeg v11))) fun v22 => bnd ((v22 + 1)) fun v23 => chk (ib v11 (hN (mh_setA s12 b14 (Int32.toNatClampNeg y1) v18) b15)) <| k_TR_countParts_2 N n y0 ((y1 + 1)) ((mh_setA (mh_setA s12 b14 (Int32.toNatClampNeg y1) v18) b15 (Int32.toNatClampNeg v11) v23))))
theorem q_TR_countParts_2 {g : mv_G} {N : Nat} : ∀ (n : Nat) (y0 : Nat) (y1 : Int32) (σ : mh_H) (r : mh_H), k_TR_countParts_2 N n y0 y1 σ = some r → mv_V g M_TR_countParts 1 21 0 0 2 [some (.ref y0), some (.int y1), none] [] σ (fun oc τ => τ = r ∧ oc = .returned none) := by
  intro n
  induction n with
  | zero =>
    intro y0 y1 σ r h
    exact absurd h (by simp [k_TR_countParts_2])
  | succ n ih =>
    intro y0 y1 σ r h 
    unfold k_TR_countParts_2 at h
    refine vr_iload_n d_TR_countParts_2 rfl rfl ?_
    refine vr_aload_n d_TR_countParts_3 rfl rfl ?_
    have q1 := (l_chk h).1
    replace h := (l_chk h).2
    refine vr_getI d_TR_countParts_4 F_TR_9 rfl q1 ?_
    refine vr_icmp_ge (tgt := 67) d_TR_countParts_7 (by decide) (fun c7 => ?_) (fun c7 => ?_)
    · replace h := l_ifp c7 h
      cases h
      exact vr_vret d_TR_countParts_67 rfl ⟨rfl, rfl⟩
    · replace h := l_ifn c7 h
      refine vr_aload_n d_TR_countParts_10 rfl rfl ?_
      obtain ⟨b2, eb2, h⟩ := l_rf h
      refine vr_getR (b := b2) d_TR_countParts_11 F_TR_28 rfl q1 eb2 ?_
      refine vr_iload_n d_TR_countParts_14 rfl rfl ?_
      refine vr_iconst 0 d_TR_countParts_15 (by decide) ?_
      have q3 := (l_chk h).1
      replace h := (l_chk h).2
      have q4 := (l_chk h).1
      replace h := (l_chk h).2
      refine vr_iast (t := 0) d_TR_countParts_16 rfl q3 (ib_in q4) ?_
      refine vr_aload_n d_TR_countParts_17 rfl rfl ?_
      obtain ⟨b5, eb5, h⟩ := l_rf h
      refine vr_getR (b := b5) d_TR_countParts_18 F_TR_34 rfl q1 eb5 ?_
      refine vr_iload_n d_TR_countParts_21 rfl rfl ?_
      refine vr_iconst 0 d_TR_countParts_22 (by decide) ?_
      have q6 := (l_chk h).1
      replace h := (l_chk h).2
      have q7 := (l_chk h).1
      replace h := (l_chk h).2
      refine vr_iast (t := 0) d_TR_countParts_23 rfl q6 (ib_in q7) ?_
      refine vr_aload_n d_TR_countParts_24 rfl rfl ?_
      obtain ⟨b8, eb8, h⟩ := l_rf h
      refine vr_getR (b := b8) d_TR_countParts_25 F_TR_31 rfl q1 eb8 ?_
      refine vr_iload_n d_TR_countParts_28 rfl rfl ?_
      have q9 := (l_chk h).1
      replace h := (l_chk h).2
      have q10 := (l_chk h).1
      replace h := (l_chk h).2
      refine vr_iald (t := 0) d_TR_countParts_29 rfl q9 (ib_in q10) ?_
      obtain ⟨v11, ev11, h⟩ := l_bnd h
      refine vr_nm ev11 ?_
      refine vr_istore_n (L' := [some (.ref y0), some (.int y1), some (.int v11)]) d_TR_countParts_30 rfl (by decide) rfl ?_
      refine vr_aload_n d_TR_countParts_31 rfl rfl ?_
      refine vr_iload_n d_TR_countParts_32 rfl rfl ?_
      obtain ⟨v12, s12, ev12, h⟩ := l_calI h
      refine mh_callI 5 [.int v11] d_TR_countParts_33 C_TR_51 (c_TR_has ev12) q1 rfl rfl rfl (Nat.le_of_ble_eq_true rfl) (by decide) (Nat.le_of_ble_eq_true rfl) ?_
      refine vr_if_eq (tgt := 61) d_TR_countParts_36 (by decide) (fun c36 => ?_) (fun c36 => ?_)
      · replace h := l_ifp c36 h
        refine vr_iinc (L' := [some (.ref y0), some (.int (y1 + 1)), some (.int v11)]) (y1 + 1) d_TR_countParts_61 (by decide) rfl rfl rfl ?_
        refine vr_goto (tgt := 2) d_TR_countParts_64 (by decide) ?_
        exact mv_drop (ih _ _ _ _ h) (And.intro rfl (And.intro rfl trivial))
      · replace h := l_ifn c36 h
        refine vr_aload_n d_TR_countParts_39 rfl rfl ?_
        have q13 := (l_chk h).1
        replace h := (l_chk h).2
        obtain ⟨b14, eb14, h⟩ := l_rf h
        refine vr_getR (b := b14) d_TR_countParts_40 F_TR_34 rfl q13 eb14 ?_
        refine vr_iload_n d_TR_countParts_43 rfl rfl ?_
        refine vr_aload_n d_TR_countParts_44 rfl rfl ?_
        obtain ⟨b15, eb15, h⟩ := l_rf h
        refine vr_getR (b := b15) d_TR_countParts_45 F_TR_28 rfl q13 eb15 ?_
        refine vr_iload_n d_TR_countParts_48 rfl rfl ?_
        have q16 := (l_chk h).1
        replace h := (l_chk h).2
        have q17 := (l_chk h).1
        replace h := (l_chk h).2
        refine vr_iald (t := 0) d_TR_countParts_49 rfl q16 (ib_in q17) ?_
        obtain ⟨v18, ev18, h⟩ := l_bnd h
        refine vr_nm ev18 ?_
        have q19 := (l_chk h).1
        replace h := (l_chk h).2
        have q20 := (l_chk h).1
        replace h := (l_chk h).2
        refine vr_iast (t := 0) d_TR_countParts_50 rfl q19 (ib_in q20) ?_
        refine vr_aload_n d_TR_countParts_51 rfl rfl ?_
        refine vr_getR (b := b15) d_TR_countParts_52 F_TR_28 rfl q13 eb15 ?_
        refine vr_iload_n d_TR_countParts_55 rfl rfl ?_
        refine vr_dup2_11 d_TR_countParts_56 rfl rfl ?_
        have q21 := (l_chk h).1
        replace h := (l_chk h).2
        refine vr_iald (t := 0) d_TR_countParts_57 rfl q16 (ib_in q21) ?_
        obtain ⟨v22, ev22, h⟩ := l_bnd h
        refine vr_nm ev22 ?_
        refine vr_iconst 1 d_TR_countParts_58 (by decide) ?_
        refine vr_iadd d_TR_countParts_59 ?_
        obtain ⟨v23, ev23, h⟩ := l_bnd h
        refine vr_nm ev23 ?_
        have q24 := (l_chk h).1
        replace h := (l_chk h).2
        refine vr_iast (t := 0) d_TR_countParts_60 rfl q16 (ib_in q24) ?_
        refine vr_iinc (L' := [some (.ref y0), some (.int (y1 + 1)), some (.int v11)]) (y1 + 1) d_TR_countParts_61 (by decide) rfl rfl rfl ?_
        refine vr_goto (tgt := 2) d_TR_countParts_64 (by decide) ?_
        exact mv_drop (ih _ _ _ _ h) (And.intro rfl (And.intro rfl trivial))

def f_TR_countParts (N : Nat) (a0 : Nat) (σ : mh_H) : Option (mh_H) := k_TR_countParts_2 N N a0 0 σ
theorem c_TR_countParts {g : mv_G} {N : Nat} {a0 : Nat} {σ : mh_H} {r : mh_H} (h : f_TR_countParts N a0 σ = some r) : mv_Met g M_TR_countParts 1 21 0 0 [.ref a0] σ (fun oc τ => τ = r ∧ oc = .returned none) := by
  refine mv_entry (L := [some (.ref a0), none, none]) rfl rfl (Nat.le_of_ble_eq_true rfl) rfl ?_
  unfold f_TR_countParts at h
  refine vr_iconst 0 d_TR_countParts_0 (by decide) ?_
  refine vr_istore_n (L' := [some (.ref a0), some (.int 0), none]) d_TR_countParts_1 rfl (by decide) rfl ?_
  exact mv_drop (q_TR_countParts_2 N _ _ _ _ h) (And.intro rfl (And.intro rfl trivial))

def f_TR_lay (N : Nat) (a0 : Nat) (x1 : Nat) (σ : mh_H) : Option (mh_H × Nat × Nat) := chk (hT σ x1 = 3) <| chk (hT σ a0 = 11) <| calA (f_TR_makeRoom N a0 ((hI σ 1 4 x1)) σ) fun s3 => chk (hT s3 x1 = 3) <| bnd ((hI s3 1 4 x1)) fun v5 => chk (hT s3 a0 = 11) <| calV (f_TR_placeNodes N a0 x1 (mh_setI s3 5 0 a0 v5)) fun s7 => chk (hT s7 a0 = 11) <| calV (f_TR_countParts N a0 s7) fun s9 => some (s9, 0, 0)
theorem c_TR_lay {g : mv_G} {N : Nat} {a0 : Nat} {x1 : Nat} {σ : mh_H} {r : mh_H × Nat × Nat} (h : f_TR_lay N a0 x1 σ = some r) : mv_Met g M_TR_lay 3 70 r.2.1 r.2.2 [.ref a0, .ref x1] σ (fun oc τ => τ = r.1 ∧ oc = .returned none) := by
  have key : ∀ cb sb : Nat, r.2.1 ≤ cb → r.2.2 ≤ sb → mv_V g M_TR_lay 3 70 cb sb 0 [some (.ref a0), some (.ref x1)] [] σ (fun oc τ => τ = r.1 ∧ oc = .returned none) := by
    intro cb sb hc hs
    unfold f_TR_lay at h
    refine vr_aload_n d_TR_lay_0 rfl rfl ?_
    refine vr_aload_n d_TR_lay_1 rfl rfl ?_
    have q1 := (l_chk h).1
    replace h := (l_chk h).2
    refine vr_getI d_TR_lay_2 F_TR_37 rfl q1 ?_
    have q2 := (l_chk h).1
    replace h := (l_chk h).2
    obtain ⟨s3, c3, n3, ev3, r3, x3, y3, hh3, hz⟩ := l_calA h
    clear h
    cases hz
    have h := hh3
    have h13 : c3 ≤ cb := by have hz : x3 + c3 ≤ cb := hc; omega
    have h23 : n3 ≤ sb := by have hz : y3 + n3 ≤ sb := hs; omega
    replace hc : x3 ≤ cb - c3 := by have hz : x3 + c3 ≤ cb := hc; omega
    replace hs : y3 ≤ sb - n3 := by have hz : y3 + n3 ≤ sb := hs; omega
    refine mh_callUa 5 [.int (hI σ 1 4 x1)] d_TR_lay_5 C_TR_40 (c_TR_makeRoom ev3) q2 rfl rfl rfl (Nat.le_of_ble_eq_true rfl) (by decide) (Nat.le_of_ble_eq_true rfl) h13 h23 ?_
    refine vr_aload_n d_TR_lay_8 rfl rfl ?_
    refine vr_aload_n d_TR_lay_9 rfl rfl ?_
    have q4 := (l_chk h).1
    replace h := (l_chk h).2
    refine vr_getI d_TR_lay_10 F_TR_37 rfl q4 ?_
    obtain ⟨v5, ev5, h⟩ := l_bnd h
    refine vr_nm ev5 ?_
    have q6 := (l_chk h).1
    replace h := (l_chk h).2
    refine vr_putI d_TR_lay_13 W_TR_lay_9 rfl rfl rfl q6 ?_
    refine vr_aload_n d_TR_lay_16 rfl rfl ?_
    refine vr_aload_n d_TR_lay_17 rfl rfl ?_
    obtain ⟨s7, es7, h⟩ := l_calV h
    refine mh_callU 5 [.ref x1] d_TR_lay_18 C_TR_44 (c_TR_placeNodes es7) q6 rfl rfl rfl (Nat.le_of_ble_eq_true rfl) (by decide) (Nat.le_of_ble_eq_true rfl) ?_
    refine vr_aload_n d_TR_lay_21 rfl rfl ?_
    have q8 := (l_chk h).1
    replace h := (l_chk h).2
    obtain ⟨s9, es9, h⟩ := l_calV h
    refine mh_callU 5 [] d_TR_lay_22 C_TR_48 (c_TR_countParts es9) q8 rfl rfl rfl (Nat.le_of_ble_eq_true rfl) (by decide) (Nat.le_of_ble_eq_true rfl) ?_
    cases h
    exact vr_vret d_TR_lay_25 rfl ⟨rfl, rfl⟩
  exact mv_entry (L := [some (.ref a0), some (.ref x1)]) rfl rfl (Nat.le_of_ble_eq_true rfl) rfl (key _ _ (Nat.le_refl _) (Nat.le_refl _))

def f_TR_about (N : Nat) (a0 : Nat) (x1 : Int32) (x2 : Int32) (σ : mh_H) : Option (Int32 × mh_H) := chk (hT σ a0 = 11) <| calI (f_TR_has N a0 x1 σ) fun v2 s2 => if v2 = 0 then (some ((-2), s2)) else (if x2 = 0 then (chk (hT s2 a0 = 11) <| rfO (hR s2 5 1 a0) fun b4 => chk (hT s2 b4 = 2) <| chk (ib x1 (hN s2 b4)) <| some ((hA s2 b4 (Int32.toNatClampNeg x1)), s2)) else if x2 = 1 then (chk (hT s2 a0 = 11) <| rfO (hR s2 5 2 a0) fun b8 => chk (hT s2 b8 = 2) <| chk (ib x1 (hN s2 b8)) <| some ((hA s2 b8 (Int32.toNatClampNeg x1)), s2)) else if x2 = 2 then (chk (hT s2 a0 = 11) <| rfO (hR s2 5 3 a0) fun b12 => chk (hT s2 b12 = 2) <| chk (ib x1 (hN s2 b12)) <| some ((hA s2 b12 (Int32.toNatClampNeg x1)), s2)) else if x2 = 3 then (chk (hT s2 a0 = 11) <| rfO (hR s2 5 4 a0) fun b16 => chk (hT s2 b16 = 2) <| chk (ib x1 (hN s2 b16)) <| some ((hA s2 b16 (Int32.toNatClampNeg x1)), s2)) else if x2 = 4 then (chk (hT s2 a0 = 11) <| rfO (hR s2 5 5 a0) fun b20 => chk (hT s2 b20 = 2) <| chk (ib x1 (hN s2 b20)) <| some ((hA s2 b20 (Int32.toNatClampNeg x1)), s2)) else (some ((-2), s2)))
theorem c_TR_about {g : mv_G} {N : Nat} {a0 : Nat} {x1 : Int32} {x2 : Int32} {σ : mh_H} {r : Int32 × mh_H} (h : f_TR_about N a0 x1 x2 σ = some r) : mv_Met g M_TR_about 1 21 0 0 [.ref a0, .int x1, .int x2] σ (fun oc τ => τ = r.2 ∧ oc = .returned (some (.int r.1))) := by
  refine mv_entry (L := [some (.ref a0), some (.int x1), some (.int x2)]) rfl rfl (Nat.le_of_ble_eq_true rfl) rfl ?_
  unfold f_TR_about at h
  refine vr_aload_n d_TR_about_0 rfl rfl ?_
  refine vr_iload_n d_TR_about_1 rfl rfl ?_
  have q1 := (l_chk h).1
  replace h := (l_chk h).2
  obtain ⟨v2, s2, ev2, h⟩ := l_calI h
  refine mh_callI 5 [.int x1] d_TR_about_2 C_TR_51 (c_TR_has ev2) q1 rfl rfl rfl (Nat.le_of_ble_eq_true rfl) (by decide) (Nat.le_of_ble_eq_true rfl) ?_
  refine vr_if_ne (tgt := 11) d_TR_about_5 (by decide) (fun c5 => ?_) (fun c5 => ?_)
  · replace h := l_ifn c5 h
    refine vr_iload_n d_TR_about_11 rfl rfl ?_
    by_cases c12_0 : x2 = 0
    · replace h := l_ifp c12_0 h
      refine vr_tableIn (x := x2) (tgt := 48) (off := 36) d_TR_about_12 (by rw [c12_0]; decide) (by rw [c12_0]; decide) (by rw [c12_0]; rfl) (by decide) ?_
      refine vr_aload_n d_TR_about_48 rfl rfl ?_
      have q3 := (l_chk h).1
      replace h := (l_chk h).2
      obtain ⟨b4, eb4, h⟩ := l_rf h
      refine vr_getR (b := b4) d_TR_about_49 F_TR_15 rfl q3 eb4 ?_
      refine vr_iload_n d_TR_about_52 rfl rfl ?_
      have q5 := (l_chk h).1
      replace h := (l_chk h).2
      have q6 := (l_chk h).1
      replace h := (l_chk h).2
      refine vr_iald (t := 0) d_TR_about_53 rfl q5 (ib_in q6) ?_
      cases h
      exact vr_iret d_TR_about_54 rfl rfl ⟨rfl, rfl⟩
    replace h := l_ifn c12_0 h
    by_cases c12_1 : x2 = 1
    · replace h := l_ifp c12_1 h
      refine vr_tableIn (x := x2) (tgt := 55) (off := 43) d_TR_about_12 (by rw [c12_1]; decide) (by rw [c12_1]; decide) (by rw [c12_1]; rfl) (by decide) ?_
      refine vr_aload_n d_TR_about_55 rfl rfl ?_
      have q7 := (l_chk h).1
      replace h := (l_chk h).2
      obtain ⟨b8, eb8, h⟩ := l_rf h
      refine vr_getR (b := b8) d_TR_about_56 F_TR_19 rfl q7 eb8 ?_
      refine vr_iload_n d_TR_about_59 rfl rfl ?_
      have q9 := (l_chk h).1
      replace h := (l_chk h).2
      have q10 := (l_chk h).1
      replace h := (l_chk h).2
      refine vr_iald (t := 0) d_TR_about_60 rfl q9 (ib_in q10) ?_
      cases h
      exact vr_iret d_TR_about_61 rfl rfl ⟨rfl, rfl⟩
    replace h := l_ifn c12_1 h
    by_cases c12_2 : x2 = 2
    · replace h := l_ifp c12_2 h
      refine vr_tableIn (x := x2) (tgt := 62) (off := 50) d_TR_about_12 (by rw [c12_2]; decide) (by rw [c12_2]; decide) (by rw [c12_2]; rfl) (by decide) ?_
      refine vr_aload_n d_TR_about_62 rfl rfl ?_
      have q11 := (l_chk h).1
      replace h := (l_chk h).2
      obtain ⟨b12, eb12, h⟩ := l_rf h
      refine vr_getR (b := b12) d_TR_about_63 F_TR_22 rfl q11 eb12 ?_
      refine vr_iload_n d_TR_about_66 rfl rfl ?_
      have q13 := (l_chk h).1
      replace h := (l_chk h).2
      have q14 := (l_chk h).1
      replace h := (l_chk h).2
      refine vr_iald (t := 0) d_TR_about_67 rfl q13 (ib_in q14) ?_
      cases h
      exact vr_iret d_TR_about_68 rfl rfl ⟨rfl, rfl⟩
    replace h := l_ifn c12_2 h
    by_cases c12_3 : x2 = 3
    · replace h := l_ifp c12_3 h
      refine vr_tableIn (x := x2) (tgt := 69) (off := 57) d_TR_about_12 (by rw [c12_3]; decide) (by rw [c12_3]; decide) (by rw [c12_3]; rfl) (by decide) ?_
      refine vr_aload_n d_TR_about_69 rfl rfl ?_
      have q15 := (l_chk h).1
      replace h := (l_chk h).2
      obtain ⟨b16, eb16, h⟩ := l_rf h
      refine vr_getR (b := b16) d_TR_about_70 F_TR_25 rfl q15 eb16 ?_
      refine vr_iload_n d_TR_about_73 rfl rfl ?_
      have q17 := (l_chk h).1
      replace h := (l_chk h).2
      have q18 := (l_chk h).1
      replace h := (l_chk h).2
      refine vr_iald (t := 0) d_TR_about_74 rfl q17 (ib_in q18) ?_
      cases h
      exact vr_iret d_TR_about_75 rfl rfl ⟨rfl, rfl⟩
    replace h := l_ifn c12_3 h
    by_cases c12_4 : x2 = 4
    · replace h := l_ifp c12_4 h
      refine vr_tableIn (x := x2) (tgt := 76) (off := 64) d_TR_about_12 (by rw [c12_4]; decide) (by rw [c12_4]; decide) (by rw [c12_4]; rfl) (by decide) ?_
      refine vr_aload_n d_TR_about_76 rfl rfl ?_
      have q19 := (l_chk h).1
      replace h := (l_chk h).2
      obtain ⟨b20, eb20, h⟩ := l_rf h
      refine vr_getR (b := b20) d_TR_about_77 F_TR_28 rfl q19 eb20 ?_
      refine vr_iload_n d_TR_about_80 rfl rfl ?_
      have q21 := (l_chk h).1
      replace h := (l_chk h).2
      have q22 := (l_chk h).1
      replace h := (l_chk h).2
      refine vr_iald (t := 0) d_TR_about_81 rfl q21 (ib_in q22) ?_
      cases h
      exact vr_iret d_TR_about_82 rfl rfl ⟨rfl, rfl⟩
    replace h := l_ifn c12_4 h
    refine vr_tableOut (x := x2) (tgt := 83) d_TR_about_12 (by have u0 : ¬ (x2).toInt = 0 := l_nk c12_0 rfl; have u1 : ¬ (x2).toInt = 1 := l_nk c12_1 rfl; have u2 : ¬ (x2).toInt = 2 := l_nk c12_2 rfl; have u3 : ¬ (x2).toInt = 3 := l_nk c12_3 rfl; have u4 : ¬ (x2).toInt = 4 := l_nk c12_4 rfl; omega) (by decide) ?_
    refine vr_bipush (-2) d_TR_about_83 (by decide) ?_
    cases h
    exact vr_iret d_TR_about_85 rfl rfl ⟨rfl, rfl⟩
  · replace h := l_ifp c5 h
    refine vr_bipush (-2) d_TR_about_8 (by decide) ?_
    cases h
    exact vr_iret d_TR_about_10 rfl rfl ⟨rfl, rfl⟩

def k_TR_partAt_22 (N : Nat) : Nat → Nat → Int32 → Int32 → Int32 → mh_H → Option (Int32 × mh_H)
  | 0, _, _, _, _, _ => none
  | n + 1, y0, y2, y3, y4, σ => if y2 ≤ y4 then (some (y3, σ)) else (chk (hT σ y0 = 11) <| calI (f_TR_has N y0 y3 σ) fun v5 s5 => if v5 = 0 then (some (y3, s5)) else (chk (hT s5 y0 = 11) <| rfO (hR s5 5 4 y0) fun b7 => chk (hT s5 b7 = 2) <| chk (ib y3 (hN s5 b7)) <| bnd ((y3 + (hA s5 b7 (Int32.toNatClampNeg y3)))) fun v10 => k_TR_partAt_22 N n y0 y2 v10 ((y4 + 1)) s5))
theorem q_TR_partAt_22 {g : mv_G} {N : Nat} : ∀ (n : Nat) (y0 : Nat) (y2 : Int32) (y3 : Int32) (y4 : Int32) (σ : mh_H) (r : Int32 × mh_H), k_TR_partAt_22 N n y0 y2 y3 y4 σ = some r → mv_V g M_TR_partAt 2 42 0 0 22 [some (.ref y0), none, some (.int y2), some (.int y3), some (.int y4)] [] σ (fun oc τ => τ = r.2 ∧ oc = .returned (some (.int r.1))) := by
  intro n
  induction n with
  | zero =>
    intro y0 y2 y3 y4 σ r h
    exact absurd h (by simp [k_TR_partAt_22])
  | succ n ih =>
    intro y0 y2 y3 y4 σ r h 
    unfold k_TR_partAt_22 at h
    refine vr_iload d_TR_partAt_22 rfl ?_
    refine vr_iload_n d_TR_partAt_24 rfl rfl ?_
    refine vr_icmp_ge (tgt := 51) d_TR_partAt_25 (by decide) (fun c25 => ?_) (fun c25 => ?_)
    · replace h := l_ifp c25 h
      refine vr_iload_n d_TR_partAt_51 rfl rfl ?_
      cases h
      exact vr_iret d_TR_partAt_52 rfl rfl ⟨rfl, rfl⟩
    · replace h := l_ifn c25 h
      refine vr_aload_n d_TR_partAt_28 rfl rfl ?_
      refine vr_iload_n d_TR_partAt_29 rfl rfl ?_
      have q4 := (l_chk h).1
      replace h := (l_chk h).2
      obtain ⟨v5, s5, ev5, h⟩ := l_calI h
      refine mh_callI 5 [.int y3] d_TR_partAt_30 C_TR_51 (c_TR_has ev5) q4 rfl rfl rfl (Nat.le_of_ble_eq_true rfl) (by decide) (Nat.le_of_ble_eq_true rfl) ?_
      refine vr_if_eq (tgt := 51) d_TR_partAt_33 (by decide) (fun c33 => ?_) (fun c33 => ?_)
      · replace h := l_ifp c33 h
        refine vr_iload_n d_TR_partAt_51 rfl rfl ?_
        cases h
        exact vr_iret d_TR_partAt_52 rfl rfl ⟨rfl, rfl⟩
      · replace h := l_ifn c33 h
        refine vr_iload_n d_TR_partAt_36 rfl rfl ?_
        refine vr_aload_n d_TR_partAt_37 rfl rfl ?_
        have q6 := (l_chk h).1
        replace h := (l_chk h).2
        obtain ⟨b7, eb7, h⟩ := l_rf h
        refine vr_getR (b := b7) d_TR_partAt_38 F_TR_25 rfl q6 eb7 ?_
        refine vr_iload_n d_TR_partAt_41 rfl rfl ?_
        have q8 := (l_chk h).1
        replace h := (l_chk h).2
        have q9 := (l_chk h).1
        replace h := (l_chk h).2
        refine vr_iald (t := 0) d_TR_partAt_42 rfl q8 (ib_in q9) ?_
        refine vr_iadd d_TR_partAt_43 ?_
        obtain ⟨v10, ev10, h⟩ := l_bnd h
        refine vr_nm ev10 ?_
        refine vr_istore_n (L' := [some (.ref y0), none, some (.int y2), some (.int v10), some (.int y4)]) d_TR_partAt_44 rfl (by decide) rfl ?_
        refine vr_iinc (L' := [some (.ref y0), none, some (.int y2), some (.int v10), some (.int (y4 + 1))]) (y4 + 1) d_TR_partAt_45 (by decide) rfl rfl rfl ?_
        refine vr_goto (tgt := 22) d_TR_partAt_48 (by decide) ?_
        exact mv_drop (ih _ _ _ _ _ _ h) (And.intro rfl (And.intro rfl (And.intro rfl (And.intro rfl trivial))))

def f_TR_partAt (N : Nat) (a0 : Nat) (x1 : Int32) (x2 : Int32) (σ : mh_H) : Option (Int32 × mh_H) := if x2 < 0 then (some ((-1), σ)) else (chk (hT σ a0 = 11) <| calI (f_TR_partsOf N a0 x1 σ) fun v2 s2 => if x2 < v2 then (bnd ((x1 + 1)) fun v3 => k_TR_partAt_22 N N a0 x2 v3 0 s2) else (some ((-1), s2)))
theorem c_TR_partAt {g : mv_G} {N : Nat} {a0 : Nat} {x1 : Int32} {x2 : Int32} {σ : mh_H} {r : Int32 × mh_H} (h : f_TR_partAt N a0 x1 x2 σ = some r) : mv_Met g M_TR_partAt 2 42 0 0 [.ref a0, .int x1, .int x2] σ (fun oc τ => τ = r.2 ∧ oc = .returned (some (.int r.1))) := by
  refine mv_entry (L := [some (.ref a0), some (.int x1), some (.int x2), none, none]) rfl rfl (Nat.le_of_ble_eq_true rfl) rfl ?_
  unfold f_TR_partAt at h
  refine vr_iload_n d_TR_partAt_0 rfl rfl ?_
  refine vr_if_lt (tgt := 13) d_TR_partAt_1 (by decide) (fun c1 => ?_) (fun c1 => ?_)
  · replace h := l_ifp c1 h
    refine vr_iconst (-1) d_TR_partAt_13 (by decide) ?_
    cases h
    exact vr_iret d_TR_partAt_14 rfl rfl ⟨rfl, rfl⟩
  · replace h := l_ifn c1 h
    refine vr_iload_n d_TR_partAt_4 rfl rfl ?_
    refine vr_aload_n d_TR_partAt_5 rfl rfl ?_
    refine vr_iload_n d_TR_partAt_6 rfl rfl ?_
    have q1 := (l_chk h).1
    replace h := (l_chk h).2
    obtain ⟨v2, s2, ev2, h⟩ := l_calI h
    refine mh_callI 5 [.int x1] d_TR_partAt_7 C_TR_57 (c_TR_partsOf ev2) q1 rfl rfl rfl (Nat.le_of_ble_eq_true rfl) (by decide) (Nat.le_of_ble_eq_true rfl) ?_
    refine vr_icmp_lt (tgt := 15) d_TR_partAt_10 (by decide) (fun c10 => ?_) (fun c10 => ?_)
    · replace h := l_ifp c10 h
      refine vr_iload_n d_TR_partAt_15 rfl rfl ?_
      refine vr_iconst 1 d_TR_partAt_16 (by decide) ?_
      refine vr_iadd d_TR_partAt_17 ?_
      obtain ⟨v3, ev3, h⟩ := l_bnd h
      refine vr_nm ev3 ?_
      refine vr_istore_n (L' := [some (.ref a0), some (.int x1), some (.int x2), some (.int v3), none]) d_TR_partAt_18 rfl (by decide) rfl ?_
      refine vr_iconst 0 d_TR_partAt_19 (by decide) ?_
      refine vr_istore (L' := [some (.ref a0), some (.int x1), some (.int x2), some (.int v3), some (.int 0)]) d_TR_partAt_20 (by decide) rfl ?_
      exact mv_drop (q_TR_partAt_22 N _ _ _ _ _ _ h) (And.intro rfl (And.intro rfl (And.intro rfl (And.intro rfl trivial))))
    · replace h := l_ifn c10 h
      refine vr_iconst (-1) d_TR_partAt_13 (by decide) ?_
      cases h
      exact vr_iret d_TR_partAt_14 rfl rfl ⟨rfl, rfl⟩

def k_TR_matches_15 (N : Nat) : Nat → Nat → Nat → Int32 → mh_H → Option (Int32 × mh_H)
  | 0, _, _, _, _ => none
  | n + 1, y0, y1, y2, σ => chk (hT σ y0 = 11) <| if (hI σ 5 0 y0) ≤ y2 then (some (1, σ)) else (rfO (hR σ 5 1 y0) fun b4 => chk (hT σ b4 = 2) <| chk (ib y2 (hN σ b4)) <| chk (hT σ y1 = 11) <| rfO (hR σ 5 1 y1) fun b8 => chk (hT σ b8 = 2) <| chk (ib y2 (hN σ b8)) <| if (hA σ b4 (Int32.toNatClampNeg y2)) = (hA σ b8 (Int32.toNatClampNeg y2)) then (rfO (hR σ 5 3 y0) fun b11 => chk (hT σ b11 = 2) <| chk (ib y2 (hN σ b11)) <| rfO (hR σ 5 3 y1) fun b14 => chk (hT σ b14 = 2) <| chk (ib y2 (hN σ b14)) <| if (hA σ b11 (Int32.toNatClampNeg y2)) = (hA σ b14 (Int32.toNatClampNeg y2)) then (rfO (hR σ 5 4 y0) fun b17 => chk (hT σ b17 = 2) <| chk (ib y2 (hN σ b17)) <| rfO (hR σ 5 4 y1) fun b20 => chk (hT σ b20 = 2) <| chk (ib y2 (hN σ b20)) <| if (hA σ b17 (Int32.toNatClampNeg y2)) = (hA σ b20 (Int32.toNatClampNeg y2)) then (k_TR_matches_15 N n y0 y1 ((y2 + 1)) σ) else (some (0, σ))) else (some (0, σ))) else (some (0, σ)))
theorem q_TR_matches_15 {g : mv_G} {N : Nat} : ∀ (n : Nat) (y0 : Nat) (y1 : Nat) (y2 : Int32) (σ : mh_H) (r : Int32 × mh_H), k_TR_matches_15 N n y0 y1 y2 σ = some r → mv_V g M_TR_matches 0 0 0 0 15 [some (.ref y0), some (.ref y1), some (.int y2)] [] σ (fun oc τ => τ = r.2 ∧ oc = .returned (some (.int r.1))) := by
  intro n
  induction n with
  | zero =>
    intro y0 y1 y2 σ r h
    exact absurd h (by simp [k_TR_matches_15])
  | succ n ih =>
    intro y0 y1 y2 σ r h 
    unfold k_TR_matches_15 at h
    refine vr_iload_n d_TR_matches_15 rfl rfl ?_
    refine vr_aload_n d_TR_matches_16 rfl rfl ?_
    have q3 := (l_chk h).1
    replace h := (l_chk h).2
    refine vr_getI d_TR_matches_17 F_TR_9 rfl q3 ?_
    refine vr_icmp_ge (tgt := 76) d_TR_matches_20 (by decide) (fun c20 => ?_) (fun c20 => ?_)
    · replace h := l_ifp c20 h
      refine vr_iconst 1 d_TR_matches_76 (by decide) ?_
      cases h
      exact vr_iret d_TR_matches_77 rfl rfl ⟨rfl, rfl⟩
    · replace h := l_ifn c20 h
      refine vr_aload_n d_TR_matches_23 rfl rfl ?_
      obtain ⟨b4, eb4, h⟩ := l_rf h
      refine vr_getR (b := b4) d_TR_matches_24 F_TR_15 rfl q3 eb4 ?_
      refine vr_iload_n d_TR_matches_27 rfl rfl ?_
      have q5 := (l_chk h).1
      replace h := (l_chk h).2
      have q6 := (l_chk h).1
      replace h := (l_chk h).2
      refine vr_iald (t := 0) d_TR_matches_28 rfl q5 (ib_in q6) ?_
      refine vr_aload_n d_TR_matches_29 rfl rfl ?_
      have q7 := (l_chk h).1
      replace h := (l_chk h).2
      obtain ⟨b8, eb8, h⟩ := l_rf h
      refine vr_getR (b := b8) d_TR_matches_30 F_TR_15 rfl q7 eb8 ?_
      refine vr_iload_n d_TR_matches_33 rfl rfl ?_
      have q9 := (l_chk h).1
      replace h := (l_chk h).2
      have q10 := (l_chk h).1
      replace h := (l_chk h).2
      refine vr_iald (t := 0) d_TR_matches_34 rfl q9 (ib_in q10) ?_
      refine vr_icmp_ne (tgt := 68) d_TR_matches_35 (by decide) (fun c35 => ?_) (fun c35 => ?_)
      · replace h := l_ifn c35 h
        refine vr_iconst 0 d_TR_matches_68 (by decide) ?_
        cases h
        exact vr_iret d_TR_matches_69 rfl rfl ⟨rfl, rfl⟩
      · replace h := l_ifp c35 h
        refine vr_aload_n d_TR_matches_38 rfl rfl ?_
        obtain ⟨b11, eb11, h⟩ := l_rf h
        refine vr_getR (b := b11) d_TR_matches_39 F_TR_22 rfl q3 eb11 ?_
        refine vr_iload_n d_TR_matches_42 rfl rfl ?_
        have q12 := (l_chk h).1
        replace h := (l_chk h).2
        have q13 := (l_chk h).1
        replace h := (l_chk h).2
        refine vr_iald (t := 0) d_TR_matches_43 rfl q12 (ib_in q13) ?_
        refine vr_aload_n d_TR_matches_44 rfl rfl ?_
        obtain ⟨b14, eb14, h⟩ := l_rf h
        refine vr_getR (b := b14) d_TR_matches_45 F_TR_22 rfl q7 eb14 ?_
        refine vr_iload_n d_TR_matches_48 rfl rfl ?_
        have q15 := (l_chk h).1
        replace h := (l_chk h).2
        have q16 := (l_chk h).1
        replace h := (l_chk h).2
        refine vr_iald (t := 0) d_TR_matches_49 rfl q15 (ib_in q16) ?_
        refine vr_icmp_ne (tgt := 68) d_TR_matches_50 (by decide) (fun c50 => ?_) (fun c50 => ?_)
        · replace h := l_ifn c50 h
          refine vr_iconst 0 d_TR_matches_68 (by decide) ?_
          cases h
          exact vr_iret d_TR_matches_69 rfl rfl ⟨rfl, rfl⟩
        · replace h := l_ifp c50 h
          refine vr_aload_n d_TR_matches_53 rfl rfl ?_
          obtain ⟨b17, eb17, h⟩ := l_rf h
          refine vr_getR (b := b17) d_TR_matches_54 F_TR_25 rfl q3 eb17 ?_
          refine vr_iload_n d_TR_matches_57 rfl rfl ?_
          have q18 := (l_chk h).1
          replace h := (l_chk h).2
          have q19 := (l_chk h).1
          replace h := (l_chk h).2
          refine vr_iald (t := 0) d_TR_matches_58 rfl q18 (ib_in q19) ?_
          refine vr_aload_n d_TR_matches_59 rfl rfl ?_
          obtain ⟨b20, eb20, h⟩ := l_rf h
          refine vr_getR (b := b20) d_TR_matches_60 F_TR_25 rfl q7 eb20 ?_
          refine vr_iload_n d_TR_matches_63 rfl rfl ?_
          have q21 := (l_chk h).1
          replace h := (l_chk h).2
          have q22 := (l_chk h).1
          replace h := (l_chk h).2
          refine vr_iald (t := 0) d_TR_matches_64 rfl q21 (ib_in q22) ?_
          refine vr_icmp_eq (tgt := 70) d_TR_matches_65 (by decide) (fun c65 => ?_) (fun c65 => ?_)
          · replace h := l_ifp c65 h
            refine vr_iinc (L' := [some (.ref y0), some (.ref y1), some (.int (y2 + 1))]) (y2 + 1) d_TR_matches_70 (by decide) rfl rfl rfl ?_
            refine vr_goto (tgt := 15) d_TR_matches_73 (by decide) ?_
            exact mv_drop (ih _ _ _ _ _ h) (And.intro rfl (And.intro rfl (And.intro rfl trivial)))
          · replace h := l_ifn c65 h
            refine vr_iconst 0 d_TR_matches_68 (by decide) ?_
            cases h
            exact vr_iret d_TR_matches_69 rfl rfl ⟨rfl, rfl⟩

def f_TR_matches (N : Nat) (a0 : Nat) (x1 : Nat) (σ : mh_H) : Option (Int32 × mh_H) := chk (hT σ a0 = 11) <| chk (hT σ x1 = 11) <| if (hI σ 5 0 a0) = (hI σ 5 0 x1) then (k_TR_matches_15 N N a0 x1 0 σ) else (some (0, σ))
theorem c_TR_matches {g : mv_G} {N : Nat} {a0 : Nat} {x1 : Nat} {σ : mh_H} {r : Int32 × mh_H} (h : f_TR_matches N a0 x1 σ = some r) : mv_Met g M_TR_matches 0 0 0 0 [.ref a0, .ref x1] σ (fun oc τ => τ = r.2 ∧ oc = .returned (some (.int r.1))) := by
  refine mv_entry (L := [some (.ref a0), some (.ref x1), none]) rfl rfl (Nat.le_of_ble_eq_true rfl) rfl ?_
  unfold f_TR_matches at h
  refine vr_aload_n d_TR_matches_0 rfl rfl ?_
  have q1 := (l_chk h).1
  replace h := (l_chk h).2
  refine vr_getI d_TR_matches_1 F_TR_9 rfl q1 ?_
  refine vr_aload_n d_TR_matches_4 rfl rfl ?_
  have q2 := (l_chk h).1
  replace h := (l_chk h).2
  refine vr_getI d_TR_matches_5 F_TR_9 rfl q2 ?_
  refine vr_icmp_eq (tgt := 13) d_TR_matches_8 (by decide) (fun c8 => ?_) (fun c8 => ?_)
  · replace h := l_ifp c8 h
    refine vr_iconst 0 d_TR_matches_13 (by decide) ?_
    refine vr_istore_n (L' := [some (.ref a0), some (.ref x1), some (.int 0)]) d_TR_matches_14 rfl (by decide) rfl ?_
    exact mv_drop (q_TR_matches_15 N _ _ _ _ _ h) (And.intro rfl (And.intro rfl (And.intro rfl trivial)))
  · replace h := l_ifn c8 h
    refine vr_iconst 0 d_TR_matches_11 (by decide) ?_
    cases h
    exact vr_iret d_TR_matches_12 rfl rfl ⟨rfl, rfl⟩

