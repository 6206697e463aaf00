/-! the class, lifted: tokens -/
def f_TO_init (N : Nat) (a0 : Nat) (σ : mh_H) : Option (mh_H × Nat × Nat) := chk (¬ (0 : Int32) < 0 ∧ Int32.toNatClampNeg 0 ≤ 100000) <| tkA 1 (Int32.toNatClampNeg 0) <| bnd (hX σ) fun a3 => bnd (mh_arr σ 1 (Int32.toNatClampNeg 0)) fun s4 => chk (hT s4 a0 = 9) <| chk (¬ (0 : Int32) < 0 ∧ Int32.toNatClampNeg 0 ≤ 100000) <| tkA 1 (Int32.toNatClampNeg 0) <| bnd (hX (mh_setI (mh_setR s4 4 0 a0 (some a3)) 4 1 a0 0)) fun a8 => bnd (mh_arr (mh_setI (mh_setR s4 4 0 a0 (some a3)) 4 1 a0 0) 0 (Int32.toNatClampNeg 0)) fun s9 => chk (hT s9 a0 = 9) <| chk (¬ (0 : Int32) < 0 ∧ Int32.toNatClampNeg 0 ≤ 100000) <| tkA 1 (Int32.toNatClampNeg 0) <| bnd (hX (mh_setR s9 4 2 a0 (some a8))) fun a13 => bnd (mh_arr (mh_setR s9 4 2 a0 (some a8)) 0 (Int32.toNatClampNeg 0)) fun s14 => chk (hT s14 a0 = 9) <| chk (¬ (0 : Int32) < 0 ∧ Int32.toNatClampNeg 0 ≤ 100000) <| tkA 1 (Int32.toNatClampNeg 0) <| bnd (hX (mh_setR s14 4 3 a0 (some a13))) fun a18 => bnd (mh_arr (mh_setR s14 4 3 a0 (some a13)) 0 (Int32.toNatClampNeg 0)) fun s19 => chk (hT s19 a0 = 9) <| some ((mh_setI (mh_setR s19 4 4 a0 (some a18)) 4 5 a0 0), 0, 0)
theorem c_TO_init {g : mv_G} {N : Nat} {a0 : Nat} {σ : mh_H} {r : mh_H × Nat × Nat} (h : f_TO_init N a0 σ = some r) : mv_Met g M_TO_init 1 20 r.2.1 r.2.2 [.ref a0] σ (fun oc τ => τ = r.1 ∧ oc = .returned none) := by
  have key : ∀ cb sb : Nat, r.2.1 ≤ cb → r.2.2 ≤ sb → mv_V g M_TO_init 1 20 cb sb 0 [some (.ref a0)] [] σ (fun oc τ => τ = r.1 ∧ oc = .returned none) := by
    intro cb sb hc hs
    unfold f_TO_init at h
    refine vr_aload_n d_TO_init_0 rfl rfl ?_
    refine vr_objInit d_TO_init_1 w_60 w_27 w_28 (by decide) (Nat.le_of_ble_eq_true rfl) ?_
    refine vr_aload_n d_TO_init_4 rfl rfl ?_
    refine vr_iconst 0 d_TO_init_5 (by decide) ?_
    have q1 := (l_chk h).1
    replace h := (l_chk h).2
    obtain ⟨ru2, xu2, yu2, hhu2, hz⟩ := l_tkA h
    clear h
    cases hz
    have h := hhu2
    have h1u2 : 1 ≤ cb := by have hz : xu2 + 1 ≤ cb := hc; omega
    have h2u2 : (Int32.toNatClampNeg 0) ≤ sb := by have hz : yu2 + (Int32.toNatClampNeg 0) ≤ sb := hs; omega
    replace hc : xu2 ≤ cb - 1 := by have hz : xu2 + 1 ≤ cb := hc; omega
    replace hs : yu2 ≤ sb - (Int32.toNatClampNeg 0) := by have hz : yu2 + (Int32.toNatClampNeg 0) ≤ sb := hs; omega
    refine mh_newB d_TO_init_6 q1 h1u2 h2u2 ?_
    obtain ⟨a3, ea3, h⟩ := l_bnd h
    refine vr_nmA ea3 ?_
    obtain ⟨s4, es4, h⟩ := l_bnd h
    refine vr_nmS es4 ?_
    have q5 := (l_chk h).1
    replace h := (l_chk h).2
    refine vr_putR d_TO_init_8 W_TO_init_9 rfl rfl rfl q5 ?_
    refine vr_aload_n d_TO_init_11 rfl rfl ?_
    refine vr_iconst 0 d_TO_init_12 (by decide) ?_
    refine vr_putI d_TO_init_13 W_TO_init_15 rfl rfl rfl q5 ?_
    refine vr_aload_n d_TO_init_16 rfl rfl ?_
    refine vr_iconst 0 d_TO_init_17 (by decide) ?_
    have q6 := (l_chk h).1
    replace h := (l_chk h).2
    obtain ⟨ru7, xu7, yu7, hhu7, hz⟩ := l_tkA h
    clear h
    cases hz
    have h := hhu7
    have h1u7 : 1 ≤ (cb - 1) := by have hz : xu7 + 1 ≤ (cb - 1) := hc; omega
    have h2u7 : (Int32.toNatClampNeg 0) ≤ (sb - (Int32.toNatClampNeg 0)) := by have hz : yu7 + (Int32.toNatClampNeg 0) ≤ (sb - (Int32.toNatClampNeg 0)) := hs; omega
    replace hc : xu7 ≤ (cb - 1) - 1 := by have hz : xu7 + 1 ≤ (cb - 1) := hc; omega
    replace hs : yu7 ≤ (sb - (Int32.toNatClampNeg 0)) - (Int32.toNatClampNeg 0) := by have hz : yu7 + (Int32.toNatClampNeg 0) ≤ (sb - (Int32.toNatClampNeg 0)) := hs; omega
    refine mh_newI d_TO_init_18 q6 h1u7 h2u7 ?_
    obtain ⟨a8, ea8, h⟩ := l_bnd h
    refine vr_nmA ea8 ?_
    obtain ⟨s9, es9, h⟩ := l_bnd h
    refine vr_nmS es9 ?_
    have q10 := (l_chk h).1
    replace h := (l_chk h).2
    refine vr_putR d_TO_init_20 W_TO_init_19 rfl rfl rfl q10 ?_
    refine vr_aload_n d_TO_init_23 rfl rfl ?_
    refine vr_iconst 0 d_TO_init_24 (by decide) ?_
    have q11 := (l_chk h).1
    replace h := (l_chk h).2
    obtain ⟨ru12, xu12, yu12, hhu12, hz⟩ := l_tkA h
    clear h
    cases hz
    have h := hhu12
    have h1u12 : 1 ≤ ((cb - 1) - 1) := by have hz : xu12 + 1 ≤ ((cb - 1) - 1) := hc; omega
    have h2u12 : (Int32.toNatClampNeg 0) ≤ ((sb - (Int32.toNatClampNeg 0)) - (Int32.toNatClampNeg 0)) := by have hz : yu12 + (Int32.toNatClampNeg 0) ≤ ((sb - (Int32.toNatClampNeg 0)) - (Int32.toNatClampNeg 0)) := hs; omega
    replace hc : xu12 ≤ ((cb - 1) - 1) - 1 := by have hz : xu12 + 1 ≤ ((cb - 1) - 1) := hc; omega
    replace hs : yu12 ≤ ((sb - (Int32.toNatClampNeg 0)) - (Int32.toNatClampNeg 0)) - (Int32.toNatClampNeg 0) := by have hz : yu12 + (Int32.toNatClampNeg 0) ≤ ((sb - (Int32.toNatClampNeg 0)) - (Int32.toNatClampNeg 0)) := hs; omega
    refine mh_newI d_TO_init_25 q11 h1u12 h2u12 ?_
    obtain ⟨a13, ea13, h⟩ := l_bnd h
    refine vr_nmA ea13 ?_
    obtain ⟨s14, es14, h⟩ := l_bnd h
    refine vr_nmS es14 ?_
    have q15 := (l_chk h).1
    replace h := (l_chk h).2
    refine vr_putR d_TO_init_27 W_TO_init_23 rfl rfl rfl q15 ?_
    refine vr_aload_n d_TO_init_30 rfl rfl ?_
    refine vr_iconst 0 d_TO_init_31 (by decide) ?_
    have q16 := (l_chk h).1
    replace h := (l_chk h).2
    obtain ⟨ru17, xu17, yu17, hhu17, hz⟩ := l_tkA h
    clear h
    cases hz
    have h := hhu17
    have h1u17 : 1 ≤ (((cb - 1) - 1) - 1) := by have hz : xu17 + 1 ≤ (((cb - 1) - 1) - 1) := hc; omega
    have h2u17 : (Int32.toNatClampNeg 0) ≤ (((sb - (Int32.toNatClampNeg 0)) - (Int32.toNatClampNeg 0)) - (Int32.toNatClampNeg 0)) := by have hz : yu17 + (Int32.toNatClampNeg 0) ≤ (((sb - (Int32.toNatClampNeg 0)) - (Int32.toNatClampNeg 0)) - (Int32.toNatClampNeg 0)) := hs; omega
    replace hc : xu17 ≤ (((cb - 1) - 1) - 1) - 1 := by have hz : xu17 + 1 ≤ (((cb - 1) - 1) - 1) := hc; omega
    replace hs : yu17 ≤ (((sb - (Int32.toNatClampNeg 0)) - (Int32.toNatClampNeg 0)) - (Int32.toNatClampNeg 0)) - (Int32.toNatClampNeg 0) := by have hz : yu17 + (Int32.toNatClampNeg 0) ≤ (((sb - (Int32.toNatClampNeg 0)) - (Int32.toNatClampNeg 0)) - (Int32.toNatClampNeg 0)) := hs; omega
    refine mh_newI d_TO_init_32 q16 h1u17 h2u17 ?_
    obtain ⟨a18, ea18, h⟩ := l_bnd h
    refine vr_nmA ea18 ?_
    obtain ⟨s19, es19, h⟩ := l_bnd h
    refine vr_nmS es19 ?_
    have q20 := (l_chk h).1
    replace h := (l_chk h).2
    refine vr_putR d_TO_init_34 W_TO_init_26 rfl rfl rfl q20 ?_
    refine vr_aload_n d_TO_init_37 rfl rfl ?_
    refine vr_iconst 0 d_TO_init_38 (by decide) ?_
    refine vr_putI d_TO_init_39 W_TO_init_29 rfl rfl rfl q20 ?_
    cases h
    exact vr_vret d_TO_init_42 rfl ⟨rfl, rfl⟩
  exact mv_entry (L := [some (.ref a0)]) rfl rfl (Nat.le_of_ble_eq_true rfl) rfl (key _ _ (Nat.le_refl _) (Nat.le_refl _))

def f_TO_kindAt (N : Nat) (a0 : Nat) (x1 : Int32) (σ : mh_H) : Option (Int32 × mh_H) := if x1 < 0 then (some (0, σ)) else (chk (hT σ a0 = 9) <| if (hI σ 4 5 a0) ≤ x1 then (some (0, σ)) else (rfO (hR σ 4 2 a0) fun b2 => chk (hT σ b2 = 2) <| chk (ib x1 (hN σ b2)) <| some ((hA σ b2 (Int32.toNatClampNeg x1)), σ)))
theorem c_TO_kindAt {g : mv_G} {N : Nat} {a0 : Nat} {x1 : Int32} {σ : mh_H} {r : Int32 × mh_H} (h : f_TO_kindAt N a0 x1 σ = some r) : mv_Met g M_TO_kindAt 0 0 0 0 [.ref a0, .int x1] σ (fun oc τ => τ = r.2 ∧ oc = .returned (some (.int r.1))) := by
  refine mv_entry (L := [some (.ref a0), some (.int x1)]) rfl rfl (Nat.le_of_ble_eq_true rfl) rfl ?_
  unfold f_TO_kindAt at h
  refine vr_iload_n d_TO_kindAt_0 rfl rfl ?_
  refine vr_if_lt (tgt := 21) d_TO_kindAt_1 (by decide) (fun c1 => ?_) (fun c1 => ?_)
  · replace h := l_ifp c1 h
    refine vr_iconst 0 d_TO_kindAt_21 (by decide) ?_
    cases h
    exact vr_iret d_TO_kindAt_22 rfl rfl ⟨rfl, rfl⟩
  · replace h := l_ifn c1 h
    refine vr_iload_n d_TO_kindAt_4 rfl rfl ?_
    refine vr_aload_n d_TO_kindAt_5 rfl rfl ?_
    have q1 := (l_chk h).1
    replace h := (l_chk h).2
    refine vr_getI d_TO_kindAt_6 F_TO_29 rfl q1 ?_
    refine vr_icmp_ge (tgt := 21) d_TO_kindAt_9 (by decide) (fun c9 => ?_) (fun c9 => ?_)
    · replace h := l_ifp c9 h
      refine vr_iconst 0 d_TO_kindAt_21 (by decide) ?_
      cases h
      exact vr_iret d_TO_kindAt_22 rfl rfl ⟨rfl, rfl⟩
    · replace h := l_ifn c9 h
      refine vr_aload_n d_TO_kindAt_12 rfl rfl ?_
      obtain ⟨b2, eb2, h⟩ := l_rf h
      refine vr_getR (b := b2) d_TO_kindAt_13 F_TO_19 rfl q1 eb2 ?_
      refine vr_iload_n d_TO_kindAt_16 rfl rfl ?_
      have q3 := (l_chk h).1
      replace h := (l_chk h).2
      have q4 := (l_chk h).1
      replace h := (l_chk h).2
      refine vr_iald (t := 0) d_TO_kindAt_17 rfl q3 (ib_in q4) ?_
      refine vr_goto (tgt := 22) d_TO_kindAt_18 (by decide) ?_
      cases h
      exact vr_iret d_TO_kindAt_22 rfl rfl ⟨rfl, rfl⟩

def f_TO_placeAt (N : Nat) (a0 : Nat) (x1 : Int32) (σ : mh_H) : Option (Int32 × mh_H) := if x1 < 0 then (chk (hT σ a0 = 9) <| some ((hI σ 4 1 a0), σ)) else (chk (hT σ a0 = 9) <| if (hI σ 4 5 a0) ≤ x1 then (some ((hI σ 4 1 a0), σ)) else (rfO (hR σ 4 3 a0) fun b3 => chk (hT σ b3 = 2) <| chk (ib x1 (hN σ b3)) <| some ((hA σ b3 (Int32.toNatClampNeg x1)), σ)))
theorem c_TO_placeAt {g : mv_G} {N : Nat} {a0 : Nat} {x1 : Int32} {σ : mh_H} {r : Int32 × mh_H} (h : f_TO_placeAt N a0 x1 σ = some r) : mv_Met g M_TO_placeAt 0 0 0 0 [.ref a0, .int x1] σ (fun oc τ => τ = r.2 ∧ oc = .returned (some (.int r.1))) := by
  refine mv_entry (L := [some (.ref a0), some (.int x1)]) rfl rfl (Nat.le_of_ble_eq_true rfl) rfl ?_
  unfold f_TO_placeAt at h
  refine vr_iload_n d_TO_placeAt_0 rfl rfl ?_
  refine vr_if_lt (tgt := 21) d_TO_placeAt_1 (by decide) (fun c1 => ?_) (fun c1 => ?_)
  · replace h := l_ifp c1 h
    refine vr_aload_n d_TO_placeAt_21 rfl rfl ?_
    have q1 := (l_chk h).1
    replace h := (l_chk h).2
    refine vr_getI d_TO_placeAt_22 F_TO_15 rfl q1 ?_
    cases h
    exact vr_iret d_TO_placeAt_25 rfl rfl ⟨rfl, rfl⟩
  · replace h := l_ifn c1 h
    refine vr_iload_n d_TO_placeAt_4 rfl rfl ?_
    refine vr_aload_n d_TO_placeAt_5 rfl rfl ?_
    have q2 := (l_chk h).1
    replace h := (l_chk h).2
    refine vr_getI d_TO_placeAt_6 F_TO_29 rfl q2 ?_
    refine vr_icmp_ge (tgt := 21) d_TO_placeAt_9 (by decide) (fun c9 => ?_) (fun c9 => ?_)
    · replace h := l_ifp c9 h
      refine vr_aload_n d_TO_placeAt_21 rfl rfl ?_
      refine vr_getI d_TO_placeAt_22 F_TO_15 rfl q2 ?_
      cases h
      exact vr_iret d_TO_placeAt_25 rfl rfl ⟨rfl, rfl⟩
    · replace h := l_ifn c9 h
      refine vr_aload_n d_TO_placeAt_12 rfl rfl ?_
      obtain ⟨b3, eb3, h⟩ := l_rf h
      refine vr_getR (b := b3) d_TO_placeAt_13 F_TO_23 rfl q2 eb3 ?_
      refine vr_iload_n d_TO_placeAt_16 rfl rfl ?_
      have q4 := (l_chk h).1
      replace h := (l_chk h).2
      have q5 := (l_chk h).1
      replace h := (l_chk h).2
      refine vr_iald (t := 0) d_TO_placeAt_17 rfl q4 (ib_in q5) ?_
      refine vr_goto (tgt := 25) d_TO_placeAt_18 (by decide) ?_
      cases h
      exact vr_iret d_TO_placeAt_25 rfl rfl ⟨rfl, rfl⟩

def f_TO_valueAt (N : Nat) (a0 : Nat) (x1 : Int32) (σ : mh_H) : Option (Int32 × mh_H) := if x1 < 0 then (some (0, σ)) else (chk (hT σ a0 = 9) <| if (hI σ 4 5 a0) ≤ x1 then (some (0, σ)) else (rfO (hR σ 4 4 a0) fun b2 => chk (hT σ b2 = 2) <| chk (ib x1 (hN σ b2)) <| some ((hA σ b2 (Int32.toNatClampNeg x1)), σ)))
theorem c_TO_valueAt {g : mv_G} {N : Nat} {a0 : Nat} {x1 : Int32} {σ : mh_H} {r : Int32 × mh_H} (h : f_TO_valueAt N a0 x1 σ = some r) : mv_Met g M_TO_valueAt 0 0 0 0 [.ref a0, .int x1] σ (fun oc τ => τ = r.2 ∧ oc = .returned (some (.int r.1))) := by
  refine mv_entry (L := [some (.ref a0), some (.int x1)]) rfl rfl (Nat.le_of_ble_eq_true rfl) rfl ?_
  unfold f_TO_valueAt at h
  refine vr_iload_n d_TO_valueAt_0 rfl rfl ?_
  refine vr_if_lt (tgt := 21) d_TO_valueAt_1 (by decide) (fun c1 => ?_) (fun c1 => ?_)
  · replace h := l_ifp c1 h
    refine vr_iconst 0 d_TO_valueAt_21 (by decide) ?_
    cases h
    exact vr_iret d_TO_valueAt_22 rfl rfl ⟨rfl, rfl⟩
  · replace h := l_ifn c1 h
    refine vr_iload_n d_TO_valueAt_4 rfl rfl ?_
    refine vr_aload_n d_TO_valueAt_5 rfl rfl ?_
    have q1 := (l_chk h).1
    replace h := (l_chk h).2
    refine vr_getI d_TO_valueAt_6 F_TO_29 rfl q1 ?_
    refine vr_icmp_ge (tgt := 21) d_TO_valueAt_9 (by decide) (fun c9 => ?_) (fun c9 => ?_)
    · replace h := l_ifp c9 h
      refine vr_iconst 0 d_TO_valueAt_21 (by decide) ?_
      cases h
      exact vr_iret d_TO_valueAt_22 rfl rfl ⟨rfl, rfl⟩
    · replace h := l_ifn c9 h
      refine vr_aload_n d_TO_valueAt_12 rfl rfl ?_
      obtain ⟨b2, eb2, h⟩ := l_rf h
      refine vr_getR (b := b2) d_TO_valueAt_13 F_TO_26 rfl q1 eb2 ?_
      refine vr_iload_n d_TO_valueAt_16 rfl rfl ?_
      have q3 := (l_chk h).1
      replace h := (l_chk h).2
      have q4 := (l_chk h).1
      replace h := (l_chk h).2
      refine vr_iald (t := 0) d_TO_valueAt_17 rfl q3 (ib_in q4) ?_
      refine vr_goto (tgt := 22) d_TO_valueAt_18 (by decide) ?_
      cases h
      exact vr_iret d_TO_valueAt_22 rfl rfl ⟨rfl, rfl⟩

def k_TO_behindWord_2 (N : Nat) : Nat → Nat → Int32 → mh_H → Option (Int32 × mh_H)
  | 0, _, _, _ => none
  | n + 1, y0, y2, σ => chk (hT σ y0 = 9) <| if (hI σ 4 1 y0) ≤ y2 then (some (y2, σ)) else (rfO (hR σ 4 0 y0) fun b2 => chk (hT σ b2 = 4) <| chk (ib y2 (hN σ b2)) <| calP (f_PR_isWordByte N ((hA σ b2 (Int32.toNatClampNeg y2)))) fun v5 => if v5 = 0 then (some (y2, σ)) else (k_TO_behindWord_2 N n y0 ((y2 + 1)) σ))
theorem q_TO_behindWord_2 {g : mv_G} {N : Nat} : ∀ (n : Nat) (y0 : Nat) (y2 : Int32) (σ : mh_H) (r : Int32 × mh_H), k_TO_behindWord_2 N n y0 y2 σ = some r → mv_V g M_TO_behindWord 2 40 0 0 2 [some (.ref y0), none, some (.int y2)] [] σ (fun oc τ => τ = r.2 ∧ oc = .returned (some (.int r.1))) := by
  intro n
  induction n with
  | zero =>
    intro y0 y2 σ r h
    exact absurd h (by simp [k_TO_behindWord_2])
  | succ n ih =>
    intro y0 y2 σ r h 
    unfold k_TO_behindWord_2 at h
    refine vr_iload_n d_TO_behindWord_2 rfl rfl ?_
    refine vr_aload_n d_TO_behindWord_3 rfl rfl ?_
    have q1 := (l_chk h).1
    replace h := (l_chk h).2
    refine vr_getI d_TO_behindWord_4 F_TO_15 rfl q1 ?_
    refine vr_icmp_ge (tgt := 28) d_TO_behindWord_7 (by decide) (fun c7 => ?_) (fun c7 => ?_)
    · replace h := l_ifp c7 h
      refine vr_iload_n d_TO_behindWord_28 rfl rfl ?_
      cases h
      exact vr_iret d_TO_behindWord_29 rfl rfl ⟨rfl, rfl⟩
    · replace h := l_ifn c7 h
      refine vr_aload_n d_TO_behindWord_10 rfl rfl ?_
      obtain ⟨b2, eb2, h⟩ := l_rf h
      refine vr_getR (b := b2) d_TO_behindWord_11 F_TO_9 rfl q1 eb2 ?_
      refine vr_iload_n d_TO_behindWord_14 rfl rfl ?_
      have q3 := (l_chk h).1
      replace h := (l_chk h).2
      have q4 := (l_chk h).1
      replace h := (l_chk h).2
      refine vr_bald (t := 1) d_TO_behindWord_15 rfl q3 (ib_in q4) ?_
      obtain ⟨v5, ev5, h⟩ := l_calP h
      refine vr_callSP [.int (hA σ b2 (Int32.toNatClampNeg y2))] d_TO_behindWord_16 C_TO_55 (c_PR_isWordByte ev5) rfl rfl (Nat.le_of_ble_eq_true rfl) (by decide) (Nat.le_of_ble_eq_true rfl) ?_
      refine vr_if_eq (tgt := 28) d_TO_behindWord_19 (by decide) (fun c19 => ?_) (fun c19 => ?_)
      · replace h := l_ifp c19 h
        refine vr_iload_n d_TO_behindWord_28 rfl rfl ?_
        cases h
        exact vr_iret d_TO_behindWord_29 rfl rfl ⟨rfl, rfl⟩
      · replace h := l_ifn c19 h
        refine vr_iinc (L' := [some (.ref y0), none, some (.int (y2 + 1))]) (y2 + 1) d_TO_behindWord_22 (by decide) rfl rfl rfl ?_
        refine vr_goto (tgt := 2) d_TO_behindWord_25 (by decide) ?_
        exact mv_drop (ih _ _ _ _ h) (And.intro rfl (And.intro rfl trivial))

def f_TO_behindWord (N : Nat) (a0 : Nat) (x1 : Int32) (σ : mh_H) : Option (Int32 × mh_H) := k_TO_behindWord_2 N N a0 x1 σ
theorem c_TO_behindWord {g : mv_G} {N : Nat} {a0 : Nat} {x1 : Int32} {σ : mh_H} {r : Int32 × mh_H} (h : f_TO_behindWord N a0 x1 σ = some r) : mv_Met g M_TO_behindWord 2 40 0 0 [.ref a0, .int x1] σ (fun oc τ => τ = r.2 ∧ oc = .returned (some (.int r.1))) := by
  refine mv_entry (L := [some (.ref a0), some (.int x1), none]) rfl rfl (Nat.le_of_ble_eq_true rfl) rfl ?_
  unfold f_TO_behindWord at h
  refine vr_iload_n d_TO_behindWord_0 rfl rfl ?_
  refine vr_istore_n (L' := [some (.ref a0), some (.int x1), some (.int x1)]) d_TO_behindWord_1 rfl (by decide) rfl ?_
  exact mv_drop (q_TO_behindWord_2 N _ _ _ _ h) (And.intro rfl (And.intro rfl trivial))

def f_TO_makeRoom (N : Nat) (a0 : Nat) (x1 : Int32) (σ : mh_H) : Option (mh_H × Nat × Nat) := chk (hT σ a0 = 9) <| rfO (hR σ 4 2 a0) fun b2 => chk (hT σ b2 = 2) <| if x1 ≤ (nI (hN σ b2)) then (some (σ, 0, 0)) else (calP (f_PR_roomier N ((nI (hN σ b2))) x1) fun v4 => chk (¬ v4 < 0 ∧ Int32.toNatClampNeg v4 ≤ 100000) <| tkA 1 (Int32.toNatClampNeg v4) <| bnd (hX σ) fun a7 => bnd (mh_arr σ 0 (Int32.toNatClampNeg v4)) fun s8 => chk (hT s8 a0 = 9) <| chk (¬ v4 < 0 ∧ Int32.toNatClampNeg v4 ≤ 100000) <| tkA 1 (Int32.toNatClampNeg v4) <| bnd (hX (mh_setR s8 4 2 a0 (some a7))) fun a12 => bnd (mh_arr (mh_setR s8 4 2 a0 (some a7)) 0 (Int32.toNatClampNeg v4)) fun s13 => chk (hT s13 a0 = 9) <| chk (¬ v4 < 0 ∧ Int32.toNatClampNeg v4 ≤ 100000) <| tkA 1 (Int32.toNatClampNeg v4) <| bnd (hX (mh_setR s13 4 3 a0 (some a12))) fun a17 => bnd (mh_arr (mh_setR s13 4 3 a0 (some a12)) 0 (Int32.toNatClampNeg v4)) fun s18 => chk (hT s18 a0 = 9) <| some ((mh_setR s18 4 4 a0 (some a17)), 0, 0))
theorem c_TO_makeRoom {g : mv_G} {N : Nat} {a0 : Nat} {x1 : Int32} {σ : mh_H} {r : mh_H × Nat × Nat} (h : f_TO_makeRoom N a0 x1 σ = some r) : mv_Met g M_TO_makeRoom 2 42 r.2.1 r.2.2 [.ref a0, .int x1] σ (fun oc τ => τ = r.1 ∧ oc = .returned none) := by
  have key : ∀ cb sb : Nat, r.2.1 ≤ cb → r.2.2 ≤ sb → mv_V g M_TO_makeRoom 2 42 cb sb 0 [some (.ref a0), some (.int x1), none] [] σ (fun oc τ => τ = r.1 ∧ oc = .returned none) := by
    intro cb sb hc hs
    unfold f_TO_makeRoom at h
    refine vr_iload_n d_TO_makeRoom_0 rfl rfl ?_
    refine vr_aload_n d_TO_makeRoom_1 rfl rfl ?_
    have q1 := (l_chk h).1
    replace h := (l_chk h).2
    obtain ⟨b2, eb2, h⟩ := l_rf h
    refine vr_getR (b := b2) d_TO_makeRoom_2 F_TO_19 rfl q1 eb2 ?_
    have q3 := (l_chk h).1
    replace h := (l_chk h).2
    refine vr_alen (t := 0) d_TO_makeRoom_5 rfl q3 ?_
    refine vr_icmp_le (tgt := 40) d_TO_makeRoom_6 (by decide) (fun c6 => ?_) (fun c6 => ?_)
    · replace h := l_ifp c6 h
      cases h
      exact vr_vret d_TO_makeRoom_40 rfl ⟨rfl, rfl⟩
    · replace h := l_ifn c6 h
      refine vr_aload_n d_TO_makeRoom_9 rfl rfl ?_
      refine vr_getR (b := b2) d_TO_makeRoom_10 F_TO_19 rfl q1 eb2 ?_
      refine vr_alen (t := 0) d_TO_makeRoom_13 rfl q3 ?_
      refine vr_iload_n d_TO_makeRoom_14 rfl rfl ?_
      obtain ⟨v4, ev4, h⟩ := l_calP h
      refine vr_callSP [.int (nI (hN σ b2)), .int x1] d_TO_makeRoom_15 C_TO_59 (c_PR_roomier ev4) rfl rfl (Nat.le_of_ble_eq_true rfl) (by decide) (Nat.le_of_ble_eq_true rfl) ?_
      refine vr_istore_n (L' := [some (.ref a0), some (.int x1), some (.int v4)]) d_TO_makeRoom_18 rfl (by decide) rfl ?_
      refine vr_aload_n d_TO_makeRoom_19 rfl rfl ?_
      refine vr_iload_n d_TO_makeRoom_20 rfl rfl ?_
      have q5 := (l_chk h).1
      replace h := (l_chk h).2
      obtain ⟨ru6, xu6, yu6, hhu6, hz⟩ := l_tkA h
      clear h
      cases hz
      have h := hhu6
      have h1u6 : 1 ≤ cb := by have hz : xu6 + 1 ≤ cb := hc; omega
      have h2u6 : (Int32.toNatClampNeg v4) ≤ sb := by have hz : yu6 + (Int32.toNatClampNeg v4) ≤ sb := hs; omega
      replace hc : xu6 ≤ cb - 1 := by have hz : xu6 + 1 ≤ cb := hc; omega
      replace hs : yu6 ≤ sb - (Int32.toNatClampNeg v4) := by have hz : yu6 + (Int32.toNatClampNeg v4) ≤ sb := hs; omega
      refine mh_newI d_TO_makeRoom_21 q5 h1u6 h2u6 ?_
      obtain ⟨a7, ea7, h⟩ := l_bnd h
      refine vr_nmA ea7 ?_
      obtain ⟨s8, es8, h⟩ := l_bnd h
      refine vr_nmS es8 ?_
      have q9 := (l_chk h).1
      replace h := (l_chk h).2
      refine vr_putR d_TO_makeRoom_23 W_TO_makeRoom_19 rfl rfl rfl q9 ?_
      refine vr_aload_n d_TO_makeRoom_26 rfl rfl ?_
      refine vr_iload_n d_TO_makeRoom_27 rfl rfl ?_
      have q10 := (l_chk h).1
      replace h := (l_chk h).2
      obtain ⟨ru11, xu11, yu11, hhu11, hz⟩ := l_tkA h
      clear h
      cases hz
      have h := hhu11
      have h1u11 : 1 ≤ (cb - 1) := by have hz : xu11 + 1 ≤ (cb - 1) := hc; omega
      have h2u11 : (Int32.toNatClampNeg v4) ≤ (sb - (Int32.toNatClampNeg v4)) := by have hz : yu11 + (Int32.toNatClampNeg v4) ≤ (sb - (Int32.toNatClampNeg v4)) := hs; omega
      replace hc : xu11 ≤ (cb - 1) - 1 := by have hz : xu11 + 1 ≤ (cb - 1) := hc; omega
      replace hs : yu11 ≤ (sb - (Int32.toNatClampNeg v4)) - (Int32.toNatClampNeg v4) := by have hz : yu11 + (Int32.toNatClampNeg v4) ≤ (sb - (Int32.toNatClampNeg v4)) := hs; omega
      refine mh_newI d_TO_makeRoom_28 q10 h1u11 h2u11 ?_
      obtain ⟨a12, ea12, h⟩ := l_bnd h
      refine vr_nmA ea12 ?_
      obtain ⟨s13, es13, h⟩ := l_bnd h
      refine vr_nmS es13 ?_
      have q14 := (l_chk h).1
      replace h := (l_chk h).2
      refine vr_putR d_TO_makeRoom_30 W_TO_makeRoom_23 rfl rfl rfl q14 ?_
      refine vr_aload_n d_TO_makeRoom_33 rfl rfl ?_
      refine vr_iload_n d_TO_makeRoom_34 rfl rfl ?_
      have q15 := (l_chk h).1
      replace h := (l_chk h).2
      obtain ⟨ru16, xu16, yu16, hhu16, hz⟩ := l_tkA h
      clear h
      cases hz
      have h := hhu16
      have h1u16 : 1 ≤ ((cb - 1) - 1) := by have hz : xu16 + 1 ≤ ((cb - 1) - 1) := hc; omega
      have h2u16 : (Int32.toNatClampNeg v4) ≤ ((sb - (Int32.toNatClampNeg v4)) - (Int32.toNatClampNeg v4)) := by have hz : yu16 + (Int32.toNatClampNeg v4) ≤ ((sb - (Int32.toNatClampNeg v4)) - (Int32.toNatClampNeg v4)) := hs; omega
      replace hc : xu16 ≤ ((cb - 1) - 1) - 1 := by have hz : xu16 + 1 ≤ ((cb - 1) - 1) := hc; omega
      replace hs : yu16 ≤ ((sb - (Int32.toNatClampNeg v4)) - (Int32.toNatClampNeg v4)) - (Int32.toNatClampNeg v4) := by have hz : yu16 + (Int32.toNatClampNeg v4) ≤ ((sb - (Int32.toNatClampNeg v4)) - (Int32.toNatClampNeg v4)) := hs; omega
      refine mh_newI d_TO_makeRoom_35 q15 h1u16 h2u16 ?_
      obtain ⟨a17, ea17, h⟩ := l_bnd h
      refine vr_nmA ea17 ?_
      obtain ⟨s18, es18, h⟩ := l_bnd h
      refine vr_nmS es18 ?_
      have q19 := (l_chk h).1
      replace h := (l_chk h).2
      refine vr_putR d_TO_makeRoom_37 W_TO_makeRoom_26 rfl rfl rfl q19 ?_
      cases h
      exact vr_vret d_TO_makeRoom_40 rfl ⟨rfl, rfl⟩
  exact mv_entry (L := [some (.ref a0), some (.int x1), none]) rfl rfl (Nat.le_of_ble_eq_true rfl) rfl (key _ _ (Nat.le_refl _) (Nat.le_refl _))

def f_TO_add (N : Nat) (a0 : Nat) (x1 : Int32) (x2 : Int32) (x3 : Int32) (σ : mh_H) : Option (mh_H) := chk (hT σ a0 = 9) <| rfO (hR σ 4 2 a0) fun b2 => chk (hT σ b2 = 2) <| if (nI (hN σ b2)) ≤ (hI σ 4 5 a0) then (some (σ)) else (chk (ib (hI σ 4 5 a0) (hN σ b2)) <| rfO (hR (mh_setA σ b2 (Int32.toNatClampNeg (hI σ 4 5 a0)) x1) 4 3 a0) fun b5 => bnd ((hI (mh_setA σ b2 (Int32.toNatClampNeg (hI σ 4 5 a0)) x1) 4 5 a0)) fun v6 => chk (hT (mh_setA σ b2 (Int32.toNatClampNeg (hI σ 4 5 a0)) x1) b5 = 2) <| chk (ib v6 (hN (mh_setA σ b2 (Int32.toNatClampNeg (hI σ 4 5 a0)) x1) b5)) <| rfO (hR (mh_setA (mh_setA σ b2 (Int32.toNatClampNeg (hI σ 4 5 a0)) x1) b5 (Int32.toNatClampNeg v6) x2) 4 4 a0) fun b9 => bnd ((hI (mh_setA (mh_setA σ b2 (Int32.toNatClampNeg (hI σ 4 5 a0)) x1) b5 (Int32.toNatClampNeg v6) x2) 4 5 a0)) fun v10 => chk (hT (mh_setA (mh_setA σ b2 (Int32.toNatClampNeg (hI σ 4 5 a0)) x1) b5 (Int32.toNatClampNeg v6) x2) b9 = 2) <| chk (ib v10 (hN (mh_setA (mh_setA σ b2 (Int32.toNatClampNeg (hI σ 4 5 a0)) x1) b5 (Int32.toNatClampNeg v6) x2) b9)) <| bnd ((hI (mh_setA (mh_setA (mh_setA σ b2 (Int32.toNatClampNeg (hI σ 4 5 a0)) x1) b5 (Int32.toNatClampNeg v6) x2) b9 (Int32.toNatClampNeg v10) x3) 4 5 a0)) fun v13 => bnd ((v13 + 1)) fun v14 => some ((mh_setI (mh_setA (mh_setA (mh_setA σ b2 (Int32.toNatClampNeg (hI σ 4 5 a0)) x1) b5 (Int32.toNatClampNeg v6) x2) b9 (Int32.toNatClampNeg v10) x3) 4 5 a0 v14)))
theorem c_TO_add {g : mv_G} {N : Nat} {a0 : Nat} {x1 : Int32} {x2 : Int32} {x3 : Int32} {σ : mh_H} {r : mh_H} (h : f_TO_add N a0 x1 x2 x3 σ = some r) : mv_Met g M_TO_add 0 0 0 0 [.ref a0, .int x1, .int x2, .int x3] σ (fun oc τ => τ = r ∧ oc = .returned none) := by
  refine mv_entry (L := [some (.ref a0), some (.int x1), some (.int x2), some (.int x3)]) rfl rfl (Nat.le_of_ble_eq_true rfl) rfl ?_
  unfold f_TO_add at h
  refine vr_aload_n d_TO_add_0 rfl rfl ?_
  have q1 := (l_chk h).1
  replace h := (l_chk h).2
  refine vr_getI d_TO_add_1 F_TO_29 rfl q1 ?_
  refine vr_aload_n d_TO_add_4 rfl rfl ?_
  obtain ⟨b2, eb2, h⟩ := l_rf h
  refine vr_getR (b := b2) d_TO_add_5 F_TO_19 rfl q1 eb2 ?_
  have q3 := (l_chk h).1
  replace h := (l_chk h).2
  refine vr_alen (t := 0) d_TO_add_8 rfl q3 ?_
  refine vr_icmp_ge (tgt := 52) d_TO_add_9 (by decide) (fun c9 => ?_) (fun c9 => ?_)
  · replace h := l_ifp c9 h
    cases h
    exact vr_vret d_TO_add_52 rfl ⟨rfl, rfl⟩
  · replace h := l_ifn c9 h
    refine vr_aload_n d_TO_add_12 rfl rfl ?_
    refine vr_getR (b := b2) d_TO_add_13 F_TO_19 rfl q1 eb2 ?_
    refine vr_aload_n d_TO_add_16 rfl rfl ?_
    refine vr_getI d_TO_add_17 F_TO_29 rfl q1 ?_
    refine vr_iload_n d_TO_add_20 rfl rfl ?_
    have q4 := (l_chk h).1
    replace h := (l_chk h).2
    refine vr_iast (t := 0) d_TO_add_21 rfl q3 (ib_in q4) ?_
    refine vr_aload_n d_TO_add_22 rfl rfl ?_
    obtain ⟨b5, eb5, h⟩ := l_rf h
    refine vr_getR (b := b5) d_TO_add_23 F_TO_23 rfl q1 eb5 ?_
    refine vr_aload_n d_TO_add_26 rfl rfl ?_
    refine vr_getI d_TO_add_27 F_TO_29 rfl q1 ?_
    obtain ⟨v6, ev6, h⟩ := l_bnd h
    refine vr_nm ev6 ?_
    refine vr_iload_n d_TO_add_30 rfl rfl ?_
    have q7 := (l_chk h).1
    replace h := (l_chk h).2
    have q8 := (l_chk h).1
    replace h := (l_chk h).2
    refine vr_iast (t := 0) d_TO_add_31 rfl q7 (ib_in q8) ?_
    refine vr_aload_n d_TO_add_32 rfl rfl ?_
    obtain ⟨b9, eb9, h⟩ := l_rf h
    refine vr_getR (b := b9) d_TO_add_33 F_TO_26 rfl q1 eb9 ?_
    refine vr_aload_n d_TO_add_36 rfl rfl ?_
    refine vr_getI d_TO_add_37 F_TO_29 rfl q1 ?_
    obtain ⟨v10, ev10, h⟩ := l_bnd h
    refine vr_nm ev10 ?_
    refine vr_iload_n d_TO_add_40 rfl rfl ?_
    have q11 := (l_chk h).1
    replace h := (l_chk h).2
    have q12 := (l_chk h).1
    replace h := (l_chk h).2
    refine vr_iast (t := 0) d_TO_add_41 rfl q11 (ib_in q12) ?_
    refine vr_aload_n d_TO_add_42 rfl rfl ?_
    refine vr_dup d_TO_add_43 rfl ?_
    refine vr_getI d_TO_add_44 F_TO_29 rfl q1 ?_
    obtain ⟨v13, ev13, h⟩ := l_bnd h
    refine vr_nm ev13 ?_
    refine vr_iconst 1 d_TO_add_47 (by decide) ?_
    refine vr_iadd d_TO_add_48 ?_
    obtain ⟨v14, ev14, h⟩ := l_bnd h
    refine vr_nm ev14 ?_
    refine vr_putI d_TO_add_49 W_TO_add_29 rfl rfl rfl q1 ?_
    cases h
    exact vr_vret d_TO_add_52 rfl ⟨rfl, rfl⟩

def f_TO_startsRemark (N : Nat) (a0 : Nat) (x1 : Int32) (σ : mh_H) : Option (Int32 × mh_H) := chk (hT σ a0 = 9) <| if (hI σ 4 1 a0) ≤ (x1 + 1) then (some (0, σ)) else (rfO (hR σ 4 0 a0) fun b2 => chk (hT σ b2 = 4) <| chk (ib x1 (hN σ b2)) <| if (hA σ b2 (Int32.toNatClampNeg x1)) = 47 then (chk (ib (x1 + 1) (hN σ b2)) <| if (hA σ b2 (Int32.toNatClampNeg (x1 + 1))) = 47 then (some (1, σ)) else (some (0, σ))) else (some (0, σ)))
theorem c_TO_startsRemark {g : mv_G} {N : Nat} {a0 : Nat} {x1 : Int32} {σ : mh_H} {r : Int32 × mh_H} (h : f_TO_startsRemark N a0 x1 σ = some r) : mv_Met g M_TO_startsRemark 0 0 0 0 [.ref a0, .int x1] σ (fun oc τ => τ = r.2 ∧ oc = .returned (some (.int r.1))) := by
  refine mv_entry (L := [some (.ref a0), some (.int x1)]) rfl rfl (Nat.le_of_ble_eq_true rfl) rfl ?_
  unfold f_TO_startsRemark at h
  refine vr_iload_n d_TO_startsRemark_0 rfl rfl ?_
  refine vr_iconst 1 d_TO_startsRemark_1 (by decide) ?_
  refine vr_iadd d_TO_startsRemark_2 ?_
  refine vr_aload_n d_TO_startsRemark_3 rfl rfl ?_
  have q1 := (l_chk h).1
  replace h := (l_chk h).2
  refine vr_getI d_TO_startsRemark_4 F_TO_15 rfl q1 ?_
  refine vr_icmp_ge (tgt := 38) d_TO_startsRemark_7 (by decide) (fun c7 => ?_) (fun c7 => ?_)
  · replace h := l_ifp c7 h
    refine vr_iconst 0 d_TO_startsRemark_38 (by decide) ?_
    cases h
    exact vr_iret d_TO_startsRemark_39 rfl rfl ⟨rfl, rfl⟩
  · replace h := l_ifn c7 h
    refine vr_aload_n d_TO_startsRemark_10 rfl rfl ?_
    obtain ⟨b2, eb2, h⟩ := l_rf h
    refine vr_getR (b := b2) d_TO_startsRemark_11 F_TO_9 rfl q1 eb2 ?_
    refine vr_iload_n d_TO_startsRemark_14 rfl rfl ?_
    have q3 := (l_chk h).1
    replace h := (l_chk h).2
    have q4 := (l_chk h).1
    replace h := (l_chk h).2
    refine vr_bald (t := 1) d_TO_startsRemark_15 rfl q3 (ib_in q4) ?_
    refine vr_bipush 47 d_TO_startsRemark_16 (by decide) ?_
    refine vr_icmp_ne (tgt := 38) d_TO_startsRemark_18 (by decide) (fun c18 => ?_) (fun c18 => ?_)
    · replace h := l_ifn c18 h
      refine vr_iconst 0 d_TO_startsRemark_38 (by decide) ?_
      cases h
      exact vr_iret d_TO_startsRemark_39 rfl rfl ⟨rfl, rfl⟩
    · replace h := l_ifp c18 h
      refine vr_aload_n d_TO_startsRemark_21 rfl rfl ?_
      refine vr_getR (b := b2) d_TO_startsRemark_22 F_TO_9 rfl q1 eb2 ?_
      refine vr_iload_n d_TO_startsRemark_25 rfl rfl ?_
      refine vr_iconst 1 d_TO_startsRemark_26 (by decide) ?_
      refine vr_iadd d_TO_startsRemark_27 ?_
      have q5 := (l_chk h).1
      replace h := (l_chk h).2
      refine vr_bald (t := 1) d_TO_startsRemark_28 rfl q3 (ib_in q5) ?_
      refine vr_bipush 47 d_TO_startsRemark_29 (by decide) ?_
      refine vr_icmp_ne (tgt := 38) d_TO_startsRemark_31 (by decide) (fun c31 => ?_) (fun c31 => ?_)
      · replace h := l_ifn c31 h
        refine vr_iconst 0 d_TO_startsRemark_38 (by decide) ?_
        cases h
        exact vr_iret d_TO_startsRemark_39 rfl rfl ⟨rfl, rfl⟩
      · replace h := l_ifp c31 h
        refine vr_iconst 1 d_TO_startsRemark_34 (by decide) ?_
        refine vr_goto (tgt := 39) d_TO_startsRemark_35 (by decide) ?_
        cases h
        exact vr_iret d_TO_startsRemark_39 rfl rfl ⟨rfl, rfl⟩

def k_TO_behindBlanks_4 (N : Nat) : Nat → Nat → Int32 → Int32 → mh_H → Option (Int32 × mh_H)
  | 0, _, _, _, _ => none
  | n + 1, y0, y2, y3, σ => chk (hT σ y0 = 9) <| if (hI σ 4 1 y0) ≤ y3 then (some (y3, σ)) else (if y2 = 0 then (calI (f_TO_startsRemark N y0 y3 σ) fun v2 s2 => if v2 = 0 then (chk (hT s2 y0 = 9) <| rfO (hR s2 4 0 y0) fun b4 => chk (hT s2 b4 = 4) <| chk (ib y3 (hN s2 b4)) <| calP (f_PR_isBlank N ((hA s2 b4 (Int32.toNatClampNeg y3)))) fun v7 => if v7 = 0 then (some (y3, s2)) else (k_TO_behindBlanks_4 N n y0 y2 ((y3 + 1)) s2)) else (k_TO_behindBlanks_4 N n y0 1 ((y3 + 1)) s2)) else (rfO (hR σ 4 0 y0) fun b8 => chk (hT σ b8 = 4) <| chk (ib y3 (hN σ b8)) <| if (hA σ b8 (Int32.toNatClampNeg y3)) = 10 then (k_TO_behindBlanks_4 N n y0 0 ((y3 + 1)) σ) else (k_TO_behindBlanks_4 N n y0 1 ((y3 + 1)) σ)))
theorem q_TO_behindBlanks_4 {g : mv_G} {N : Nat} : ∀ (n : Nat) (y0 : Nat) (y2 : Int32) (y3 : Int32) (σ : mh_H) (r : Int32 × mh_H), k_TO_behindBlanks_4 N n y0 y2 y3 σ = some r → mv_V g M_TO_behindBlanks 1 21 0 0 4 [some (.ref y0), none, some (.int y2), some (.int y3)] [] σ (fun oc τ => τ = r.2 ∧ oc = .returned (some (.int r.1))) := by
  intro n
  induction n with
  | zero =>
    intro y0 y2 y3 σ r h
    exact absurd h (by simp [k_TO_behindBlanks_4])
  | succ n ih =>
    intro y0 y2 y3 σ r h 
    unfold k_TO_behindBlanks_4 at h
    refine vr_iload_n d_TO_behindBlanks_4 rfl rfl ?_
    refine vr_aload_n d_TO_behindBlanks_5 rfl rfl ?_
    have q1 := (l_chk h).1
    replace h := (l_chk h).2
    refine vr_getI d_TO_behindBlanks_6 F_TO_15 rfl q1 ?_
    refine vr_icmp_ge (tgt := 70) d_TO_behindBlanks_9 (by decide) (fun c9 => ?_) (fun c9 => ?_)
    · replace h := l_ifp c9 h
      refine vr_iload_n d_TO_behindBlanks_70 rfl rfl ?_
      cases h
      exact vr_iret d_TO_behindBlanks_71 rfl rfl ⟨rfl, rfl⟩
    · replace h := l_ifn c9 h
      refine vr_iload_n d_TO_behindBlanks_12 rfl rfl ?_
      refine vr_if_eq (tgt := 36) d_TO_behindBlanks_13 (by decide) (fun c13 => ?_) (fun c13 => ?_)
      · replace h := l_ifp c13 h
        refine vr_aload_n d_TO_behindBlanks_36 rfl rfl ?_
        refine vr_iload_n d_TO_behindBlanks_37 rfl rfl ?_
        obtain ⟨v2, s2, ev2, h⟩ := l_calI h
        refine mh_callI 4 [.int y3] d_TO_behindBlanks_38 C_TO_62 (c_TO_startsRemark ev2) q1 rfl rfl rfl (Nat.le_of_ble_eq_true rfl) (by decide) (Nat.le_of_ble_eq_true rfl) ?_
        refine vr_if_eq (tgt := 49) d_TO_behindBlanks_41 (by decide) (fun c41 => ?_) (fun c41 => ?_)
        · replace h := l_ifp c41 h
          refine vr_aload_n d_TO_behindBlanks_49 rfl rfl ?_
          have q3 := (l_chk h).1
          replace h := (l_chk h).2
          obtain ⟨b4, eb4, h⟩ := l_rf h
          refine vr_getR (b := b4) d_TO_behindBlanks_50 F_TO_9 rfl q3 eb4 ?_
          refine vr_iload_n d_TO_behindBlanks_53 rfl rfl ?_
          have q5 := (l_chk h).1
          replace h := (l_chk h).2
          have q6 := (l_chk h).1
          replace h := (l_chk h).2
          refine vr_bald (t := 1) d_TO_behindBlanks_54 rfl q5 (ib_in q6) ?_
          obtain ⟨v7, ev7, h⟩ := l_calP h
          refine vr_callSP [.int (hA s2 b4 (Int32.toNatClampNeg y3))] d_TO_behindBlanks_55 C_TO_65 (c_PR_isBlank ev7) rfl rfl (Nat.le_of_ble_eq_true rfl) (by decide) (Nat.le_of_ble_eq_true rfl) ?_
          refine vr_if_ne (tgt := 64) d_TO_behindBlanks_58 (by decide) (fun c58 => ?_) (fun c58 => ?_)
          · replace h := l_ifn c58 h
            refine vr_iinc (L' := [some (.ref y0), none, some (.int y2), some (.int (y3 + 1))]) (y3 + 1) d_TO_behindBlanks_64 (by decide) rfl rfl rfl ?_
            refine vr_goto (tgt := 4) d_TO_behindBlanks_67 (by decide) ?_
            exact mv_drop (ih _ _ _ _ _ h) (And.intro rfl (And.intro rfl (And.intro rfl trivial)))
          · replace h := l_ifp c58 h
            refine vr_goto (tgt := 70) d_TO_behindBlanks_61 (by decide) ?_
            refine vr_iload_n d_TO_behindBlanks_70 rfl rfl ?_
            cases h
            exact vr_iret d_TO_behindBlanks_71 rfl rfl ⟨rfl, rfl⟩
        · replace h := l_ifn c41 h
          refine vr_iconst 1 d_TO_behindBlanks_44 (by decide) ?_
          refine vr_istore_n (L' := [some (.ref y0), none, some (.int 1), some (.int y3)]) d_TO_behindBlanks_45 rfl (by decide) rfl ?_
          refine vr_goto (tgt := 64) d_TO_behindBlanks_46 (by decide) ?_
          refine vr_iinc (L' := [some (.ref y0), none, some (.int 1), some (.int (y3 + 1))]) (y3 + 1) d_TO_behindBlanks_64 (by decide) rfl rfl rfl ?_
          refine vr_goto (tgt := 4) d_TO_behindBlanks_67 (by decide) ?_
          exact mv_drop (ih _ _ _ _ _ h) (And.intro rfl (And.intro rfl (And.intro rfl trivial)))
      · replace h := l_ifn c13 h
        refine vr_aload_n d_TO_behindBlanks_16 rfl rfl ?_
        obtain ⟨b8, eb8, h⟩ := l_rf h
        refine vr_getR (b := b8) d_TO_behindBlanks_17 F_TO_9 rfl q1 eb8 ?_
        refine vr_iload_n d_TO_behindBlanks_20 rfl rfl ?_
        have q9 := (l_chk h).1
        replace h := (l_chk h).2
        have q10 := (l_chk h).1
        replace h := (l_chk h).2
        refine vr_bald (t := 1) d_TO_behindBlanks_21 rfl q9 (ib_in q10) ?_
        refine vr_bipush 10 d_TO_behindBlanks_22 (by decide) ?_
        refine vr_icmp_eq (tgt := 31) d_TO_behindBlanks_24 (by decide) (fun c24 => ?_) (fun c24 => ?_)
        · replace h := l_ifp c24 h
          refine vr_iconst 0 d_TO_behindBlanks_31 (by decide) ?_
          refine vr_istore_n (L' := [some (.ref y0), none, some (.int 0), some (.int y3)]) d_TO_behindBlanks_32 rfl (by decide) rfl ?_
          refine vr_goto (tgt := 64) d_TO_behindBlanks_33 (by decide) ?_
          refine vr_iinc (L' := [some (.ref y0), none, some (.int 0), some (.int (y3 + 1))]) (y3 + 1) d_TO_behindBlanks_64 (by decide) rfl rfl rfl ?_
          refine vr_goto (tgt := 4) d_TO_behindBlanks_67 (by decide) ?_
          exact mv_drop (ih _ _ _ _ _ h) (And.intro rfl (And.intro rfl (And.intro rfl trivial)))
        · replace h := l_ifn c24 h
          refine vr_iconst 1 d_TO_behindBlanks_27 (by decide) ?_
          refine vr_goto (tgt := 32) d_TO_behindBlanks_28 (by decide) ?_
          refine vr_istore_n (L' := [some (.ref y0), none, some (.int 1), some (.int y3)]) d_TO_behindBlanks_32 rfl (by decide) rfl ?_
          refine vr_goto (tgt := 64) d_TO_behindBlanks_33 (by decide) ?_
          refine vr_iinc (L' := [some (.ref y0), none, some (.int 1), some (.int (y3 + 1))]) (y3 + 1) d_TO_behindBlanks_64 (by decide) rfl rfl rfl ?_
          refine vr_goto (tgt := 4) d_TO_behindBlanks_67 (by decide) ?_
          exact mv_drop (ih _ _ _ _ _ h) (And.intro rfl (And.intro rfl (And.intro rfl trivial)))

def f_TO_behindBlanks (N : Nat) (a0 : Nat) (x1 : Int32) (σ : mh_H) : Option (Int32 × mh_H) := k_TO_behindBlanks_4 N N a0 0 x1 σ
theorem c_TO_behindBlanks {g : mv_G} {N : Nat} {a0 : Nat} {x1 : Int32} {σ : mh_H} {r : Int32 × mh_H} (h : f_TO_behindBlanks N a0 x1 σ = some r) : mv_Met g M_TO_behindBlanks 1 21 0 0 [.ref a0, .int x1] σ (fun oc τ => τ = r.2 ∧ oc = .returned (some (.int r.1))) := by
  refine mv_entry (L := [some (.ref a0), some (.int x1), none, none]) rfl rfl (Nat.le_of_ble_eq_true rfl) rfl ?_
  unfold f_TO_behindBlanks at h
  refine vr_iconst 0 d_TO_behindBlanks_0 (by decide) ?_
  refine vr_istore_n (L' := [some (.ref a0), some (.int x1), some (.int 0), none]) d_TO_behindBlanks_1 rfl (by decide) rfl ?_
  refine vr_iload_n d_TO_behindBlanks_2 rfl rfl ?_
  refine vr_istore_n (L' := [some (.ref a0), some (.int x1), some (.int 0), some (.int x1)]) d_TO_behindBlanks_3 rfl (by decide) rfl ?_
  exact mv_drop (q_TO_behindBlanks_4 N _ _ _ _ _ h) (And.intro rfl (And.intro rfl (And.intro rfl trivial)))

def f_TO_take (N : Nat) (a0 : Nat) (x1 : Int32) (x2 : Int32) (x3 : Int32) (x4 : Int32) (σ : mh_H) : Option (Int32 × mh_H) := chk (hT σ a0 = 9) <| calV (f_TO_add N a0 x1 x2 x4 σ) fun s2 => if x1 = 1 then (chk (hT s2 a0 = 9) <| some ((hI s2 4 1 a0), s2)) else (some (x3, s2))
theorem c_TO_take {g : mv_G} {N : Nat} {a0 : Nat} {x1 : Int32} {x2 : Int32} {x3 : Int32} {x4 : Int32} {σ : mh_H} {r : Int32 × mh_H} (h : f_TO_take N a0 x1 x2 x3 x4 σ = some r) : mv_Met g M_TO_take 1 23 0 0 [.ref a0, .int x1, .int x2, .int x3, .int x4] σ (fun oc τ => τ = r.2 ∧ oc = .returned (some (.int r.1))) := by
  refine mv_entry (L := [some (.ref a0), some (.int x1), some (.int x2), some (.int x3), some (.int x4)]) rfl rfl (Nat.le_of_ble_eq_true rfl) rfl ?_
  unfold f_TO_take at h
  refine vr_aload_n d_TO_take_0 rfl rfl ?_
  refine vr_iload_n d_TO_take_1 rfl rfl ?_
  refine vr_iload_n d_TO_take_2 rfl rfl ?_
  refine vr_iload d_TO_take_3 rfl ?_
  have q1 := (l_chk h).1
  replace h := (l_chk h).2
  obtain ⟨s2, es2, h⟩ := l_calV h
  refine mh_callU 4 [.int x1, .int x2, .int x4] d_TO_take_5 C_TO_51 (c_TO_add es2) q1 rfl rfl rfl (Nat.le_of_ble_eq_true rfl) (by decide) (Nat.le_of_ble_eq_true rfl) ?_
  refine vr_iload_n d_TO_take_8 rfl rfl ?_
  refine vr_iconst 1 d_TO_take_9 (by decide) ?_
  refine vr_icmp_ne (tgt := 20) d_TO_take_10 (by decide) (fun c10 => ?_) (fun c10 => ?_)
  · replace h := l_ifn c10 h
    refine vr_iload_n d_TO_take_20 rfl rfl ?_
    cases h
    exact vr_iret d_TO_take_21 rfl rfl ⟨rfl, rfl⟩
  · replace h := l_ifp c10 h
    refine vr_aload_n d_TO_take_13 rfl rfl ?_
    have q3 := (l_chk h).1
    replace h := (l_chk h).2
    refine vr_getI d_TO_take_14 F_TO_15 rfl q3 ?_
    refine vr_goto (tgt := 21) d_TO_take_17 (by decide) ?_
    cases h
    exact vr_iret d_TO_take_21 rfl rfl ⟨rfl, rfl⟩

def f_TO_wordText (N : Nat) (x0 : Int32) : Option (Nat) := if x0 = 4 then (some (0)) else if x0 = 5 then (some (1)) else if x0 = 6 then (some (2)) else if x0 = 7 then (some (3)) else if x0 = 8 then (some (4)) else if x0 = 9 then (some (5)) else if x0 = 10 then (some (6)) else if x0 = 11 then (some (7)) else (some (8))
theorem c_TO_wordText {g : mv_G} {σ : mh_H} {N : Nat} {x0 : Int32} {r : Nat} (h : f_TO_wordText N x0 = some r) : mv_Met g M_TO_wordText 0 0 0 0 [.int x0] σ (fun oc τ => τ = σ ∧ oc = .returned (some (.ref (mg_K g r)))) := by
  refine mv_entry (L := [some (.int x0)]) rfl rfl (Nat.le_of_ble_eq_true rfl) rfl ?_
  unfold f_TO_wordText at h
  refine vr_iload_n d_TO_wordText_0 rfl rfl ?_
  by_cases c1_4 : x0 = 4
  · replace h := l_ifp c1_4 h
    refine vr_tableIn (x := x0) (tgt := 48) (off := 47) d_TO_wordText_1 (by rw [c1_4]; decide) (by rw [c1_4]; decide) (by rw [c1_4]; rfl) (by decide) ?_
    refine vr_ldcS 0 d_TO_wordText_48 rfl ?_
    cases h
    exact vr_aret d_TO_wordText_50 rfl (by first | exact Or.inl ⟨_, rfl⟩ | exact Or.inr ⟨_, rfl⟩) ⟨rfl, rfl⟩
  replace h := l_ifn c1_4 h
  by_cases c1_5 : x0 = 5
  · replace h := l_ifp c1_5 h
    refine vr_tableIn (x := x0) (tgt := 51) (off := 50) d_TO_wordText_1 (by rw [c1_5]; decide) (by rw [c1_5]; decide) (by rw [c1_5]; rfl) (by decide) ?_
    refine vr_ldcS 1 d_TO_wordText_51 rfl ?_
    cases h
    exact vr_aret d_TO_wordText_53 rfl (by first | exact Or.inl ⟨_, rfl⟩ | exact Or.inr ⟨_, rfl⟩) ⟨rfl, rfl⟩
  replace h := l_ifn c1_5 h
  by_cases c1_6 : x0 = 6
  · replace h := l_ifp c1_6 h
    refine vr_tableIn (x := x0) (tgt := 54) (off := 53) d_TO_wordText_1 (by rw [c1_6]; decide) (by rw [c1_6]; decide) (by rw [c1_6]; rfl) (by decide) ?_
    refine vr_ldcS 2 d_TO_wordText_54 rfl ?_
    cases h
    exact vr_aret d_TO_wordText_56 rfl (by first | exact Or.inl ⟨_, rfl⟩ | exact Or.inr ⟨_, rfl⟩) ⟨rfl, rfl⟩
  replace h := l_ifn c1_6 h
  by_cases c1_7 : x0 = 7
  · replace h := l_ifp c1_7 h
    refine vr_tableIn (x := x0) (tgt := 57) (off := 56) d_TO_wordText_1 (by rw [c1_7]; decide) (by rw [c1_7]; decide) (by rw [c1_7]; rfl) (by decide) ?_
    refine vr_ldcS 3 d_TO_wordText_57 rfl ?_
    cases h
    exact vr_aret d_TO_wordText_59 rfl (by first | exact Or.inl ⟨_, rfl⟩ | exact Or.inr ⟨_, rfl⟩) ⟨rfl, rfl⟩
  replace h := l_ifn c1_7 h
  by_cases c1_8 : x0 = 8
  · replace h := l_ifp c1_8 h
    refine vr_tableIn (x := x0) (tgt := 60) (off := 59) d_TO_wordText_1 (by rw [c1_8]; decide) (by rw [c1_8]; decide) (by rw [c1_8]; rfl) (by decide) ?_
    refine vr_ldcS 4 d_TO_wordText_60 rfl ?_
    cases h
    exact vr_aret d_TO_wordText_62 rfl (by first | exact Or.inl ⟨_, rfl⟩ | exact Or.inr ⟨_, rfl⟩) ⟨rfl, rfl⟩
  replace h := l_ifn c1_8 h
  by_cases c1_9 : x0 = 9
  · replace h := l_ifp c1_9 h
    refine vr_tableIn (x := x0) (tgt := 63) (off := 62) d_TO_wordText_1 (by rw [c1_9]; decide) (by rw [c1_9]; decide) (by rw [c1_9]; rfl) (by decide) ?_
    refine vr_ldcS 5 d_TO_wordText_63 rfl ?_
    cases h
    exact vr_aret d_TO_wordText_65 rfl (by first | exact Or.inl ⟨_, rfl⟩ | exact Or.inr ⟨_, rfl⟩) ⟨rfl, rfl⟩
  replace h := l_ifn c1_9 h
  by_cases c1_10 : x0 = 10
  · replace h := l_ifp c1_10 h
    refine vr_tableIn (x := x0) (tgt := 66) (off := 65) d_TO_wordText_1 (by rw [c1_10]; decide) (by rw [c1_10]; decide) (by rw [c1_10]; rfl) (by decide) ?_
    refine vr_ldcS 6 d_TO_wordText_66 rfl ?_
    cases h
    exact vr_aret d_TO_wordText_68 rfl (by first | exact Or.inl ⟨_, rfl⟩ | exact Or.inr ⟨_, rfl⟩) ⟨rfl, rfl⟩
  replace h := l_ifn c1_10 h
  by_cases c1_11 : x0 = 11
  · replace h := l_ifp c1_11 h
    refine vr_tableIn (x := x0) (tgt := 69) (off := 68) d_TO_wordText_1 (by rw [c1_11]; decide) (by rw [c1_11]; decide) (by rw [c1_11]; rfl) (by decide) ?_
    refine vr_ldcS 7 d_TO_wordText_69 rfl ?_
    cases h
    exact vr_aret d_TO_wordText_71 rfl (by first | exact Or.inl ⟨_, rfl⟩ | exact Or.inr ⟨_, rfl⟩) ⟨rfl, rfl⟩
  replace h := l_ifn c1_11 h
  refine vr_tableOut (x := x0) (tgt := 72) d_TO_wordText_1 (by have u0 : ¬ (x0).toInt = 4 := l_nk c1_4 rfl; have u1 : ¬ (x0).toInt = 5 := l_nk c1_5 rfl; have u2 : ¬ (x0).toInt = 6 := l_nk c1_6 rfl; have u3 : ¬ (x0).toInt = 7 := l_nk c1_7 rfl; have u4 : ¬ (x0).toInt = 8 := l_nk c1_8 rfl; have u5 : ¬ (x0).toInt = 9 := l_nk c1_9 rfl; have u6 : ¬ (x0).toInt = 10 := l_nk c1_10 rfl; have u7 : ¬ (x0).toInt = 11 := l_nk c1_11 rfl; omega) (by decide) ?_
  refine vr_ldcS 8 d_TO_wordText_72 rfl ?_
  cases h
  exact vr_aret d_TO_wordText_74 rfl (by first | exact Or.inl ⟨_, rfl⟩ | exact Or.inr ⟨_, rfl⟩) ⟨rfl, rfl⟩

def k_TO_isSpelt_15 (N : Nat) : Nat → Nat → Nat → Int32 → Int32 → mh_H → Option (Int32 × mh_H)
  | 0, _, _, _, _, _ => none
  | n + 1, y0, y1, y2, y4, σ => chk (y1 < 67) <| if (s_len y1) ≤ y4 then (some (1, σ)) else (chk (hT σ y0 = 9) <| rfO (hR σ 4 0 y0) fun b4 => chk (hT σ b4 = 4) <| chk (ib (y2 + y4) (hN σ b4)) <| chk (y1 < 67) <| chk (ib y4 (s_b y1).length) <| if (hA σ b4 (Int32.toNatClampNeg (y2 + y4))) = (s_at y1 y4) then (k_TO_isSpelt_15 N n y0 y1 y2 ((y4 + 1)) σ) else (some (0, σ)))
theorem q_TO_isSpelt_15 {g : mv_G} {N : Nat} : ∀ (n : Nat) (y0 : Nat) (y1 : Nat) (y2 : Int32) (y4 : Int32) (σ : mh_H) (r : Int32 × mh_H), k_TO_isSpelt_15 N n y0 y1 y2 y4 σ = some r → mv_V g M_TO_isSpelt 7 141 0 0 15 [some (.ref y0), some (.ref (mg_K g y1)), some (.int y2), none, some (.int y4)] [] σ (fun oc τ => τ = r.2 ∧ oc = .returned (some (.int r.1))) := by
  intro n
  induction n with
  | zero =>
    intro y0 y1 y2 y4 σ r h
    exact absurd h (by simp [k_TO_isSpelt_15])
  | succ n ih =>
    intro y0 y1 y2 y4 σ r h 
    unfold k_TO_isSpelt_15 at h
    refine vr_iload d_TO_isSpelt_15 rfl ?_
    refine vr_aload_n d_TO_isSpelt_17 rfl rfl ?_
    have q2 := (l_chk h).1
    replace h := (l_chk h).2
    refine vr_strLen d_TO_isSpelt_18 C_TO_113 q2 (by decide) (Nat.le_of_ble_eq_true rfl) (Nat.le_of_ble_eq_true rfl) ?_
    refine vr_icmp_ge (tgt := 50) d_TO_isSpelt_21 (by decide) (fun c21 => ?_) (fun c21 => ?_)
    · replace h := l_ifp c21 h
      refine vr_iconst 1 d_TO_isSpelt_50 (by decide) ?_
      cases h
      exact vr_iret d_TO_isSpelt_51 rfl rfl ⟨rfl, rfl⟩
    · replace h := l_ifn c21 h
      refine vr_aload_n d_TO_isSpelt_24 rfl rfl ?_
      have q3 := (l_chk h).1
      replace h := (l_chk h).2
      obtain ⟨b4, eb4, h⟩ := l_rf h
      refine vr_getR (b := b4) d_TO_isSpelt_25 F_TO_9 rfl q3 eb4 ?_
      refine vr_iload_n d_TO_isSpelt_28 rfl rfl ?_
      refine vr_iload d_TO_isSpelt_29 rfl ?_
      refine vr_iadd d_TO_isSpelt_31 ?_
      have q5 := (l_chk h).1
      replace h := (l_chk h).2
      have q6 := (l_chk h).1
      replace h := (l_chk h).2
      refine vr_bald (t := 1) d_TO_isSpelt_32 rfl q5 (ib_in q6) ?_
      refine vr_aload_n d_TO_isSpelt_33 rfl rfl ?_
      refine vr_iload d_TO_isSpelt_34 rfl ?_
      have q7 := (l_chk h).1
      replace h := (l_chk h).2
      have q8 := (l_chk h).1
      replace h := (l_chk h).2
      refine vr_strAt d_TO_isSpelt_36 C_TO_119 q7 q8 (by decide) (Nat.le_of_ble_eq_true rfl) (Nat.le_of_ble_eq_true rfl) ?_
      refine vr_icmp_eq (tgt := 44) d_TO_isSpelt_39 (by decide) (fun c39 => ?_) (fun c39 => ?_)
      · replace h := l_ifp c39 h
        refine vr_iinc (L' := [some (.ref y0), some (.ref (mg_K g y1)), some (.int y2), none, some (.int (y4 + 1))]) (y4 + 1) d_TO_isSpelt_44 (by decide) rfl rfl rfl ?_
        refine vr_goto (tgt := 15) d_TO_isSpelt_47 (by decide) ?_
        exact mv_drop (ih _ _ _ _ _ _ h) (And.intro rfl (And.intro rfl (And.intro rfl (And.intro rfl trivial))))
      · replace h := l_ifn c39 h
        refine vr_iconst 0 d_TO_isSpelt_42 (by decide) ?_
        cases h
        exact vr_iret d_TO_isSpelt_43 rfl rfl ⟨rfl, rfl⟩

def f_TO_isSpelt (N : Nat) (a0 : Nat) (x1 : Nat) (x2 : Int32) (x3 : Int32) (σ : mh_H) : Option (Int32 × mh_H) := chk (x1 < 67) <| if (s_len x1) = (x3 - x2) then (k_TO_isSpelt_15 N N a0 x1 x2 0 σ) else (some (0, σ))
theorem c_TO_isSpelt {g : mv_G} {N : Nat} {a0 : Nat} {x1 : Nat} {x2 : Int32} {x3 : Int32} {σ : mh_H} {r : Int32 × mh_H} (h : f_TO_isSpelt N a0 x1 x2 x3 σ = some r) : mv_Met g M_TO_isSpelt 7 141 0 0 [.ref a0, .ref (mg_K g x1), .int x2, .int x3] σ (fun oc τ => τ = r.2 ∧ oc = .returned (some (.int r.1))) := by
  refine mv_entry (L := [some (.ref a0), some (.ref (mg_K g x1)), some (.int x2), some (.int x3), none]) rfl rfl (Nat.le_of_ble_eq_true rfl) rfl ?_
  unfold f_TO_isSpelt at h
  refine vr_aload_n d_TO_isSpelt_0 rfl rfl ?_
  have q1 := (l_chk h).1
  replace h := (l_chk h).2
  refine vr_strLen d_TO_isSpelt_1 C_TO_113 q1 (by decide) (Nat.le_of_ble_eq_true rfl) (Nat.le_of_ble_eq_true rfl) ?_
  refine vr_iload_n d_TO_isSpelt_4 rfl rfl ?_
  refine vr_iload_n d_TO_isSpelt_5 rfl rfl ?_
  refine vr_isub d_TO_isSpelt_6 ?_
  refine vr_icmp_eq (tgt := 12) d_TO_isSpelt_7 (by decide) (fun c7 => ?_) (fun c7 => ?_)
  · replace h := l_ifp c7 h
    refine vr_iconst 0 d_TO_isSpelt_12 (by decide) ?_
    refine vr_istore (L' := [some (.ref a0), some (.ref (mg_K g x1)), some (.int x2), some (.int x3), some (.int 0)]) d_TO_isSpelt_13 (by decide) rfl ?_
    exact mv_drop (q_TO_isSpelt_15 N _ _ _ _ _ _ h) (And.intro rfl (And.intro rfl (And.intro rfl (And.intro rfl trivial))))
  · replace h := l_ifn c7 h
    refine vr_iconst 0 d_TO_isSpelt_10 (by decide) ?_
    cases h
    exact vr_iret d_TO_isSpelt_11 rfl rfl ⟨rfl, rfl⟩

def k_TO_wordAt_2 (N : Nat) : Nat → Nat → Int32 → Int32 → Int32 → mh_H → Option (Int32 × mh_H)
  | 0, _, _, _, _, _ => none
  | n + 1, y0, y1, y2, y3, σ => if 11 < y3 then (some (2, σ)) else (calP (f_TO_wordText N y3) fun v1 => chk (hT σ y0 = 9) <| calI (f_TO_isSpelt N y0 v1 y1 y2 σ) fun v3 s3 => if v3 = 0 then (k_TO_wordAt_2 N n y0 y1 y2 ((y3 + 1)) s3) else (some (y3, s3)))
theorem q_TO_wordAt_2 {g : mv_G} {N : Nat} : ∀ (n : Nat) (y0 : Nat) (y1 : Int32) (y2 : Int32) (y3 : Int32) (σ : mh_H) (r : Int32 × mh_H), k_TO_wordAt_2 N n y0 y1 y2 y3 σ = some r → mv_V g M_TO_wordAt 8 165 0 0 2 [some (.ref y0), some (.int y1), some (.int y2), some (.int y3)] [] σ (fun oc τ => τ = r.2 ∧ oc = .returned (some (.int r.1))) := by
  intro n
  induction n with
  | zero =>
    intro y0 y1 y2 y3 σ r h
    exact absurd h (by simp [k_TO_wordAt_2])
  | succ n ih =>
    intro y0 y1 y2 y3 σ r h 
    unfold k_TO_wordAt_2 at h
    refine vr_iload_n d_TO_wordAt_2 rfl rfl ?_
    refine vr_bipush 11 d_TO_wordAt_3 (by decide) ?_
    refine vr_icmp_gt (tgt := 29) d_TO_wordAt_5 (by decide) (fun c5 => ?_) (fun c5 => ?_)
    · replace h := l_ifp c5 h
      refine vr_iconst 2 d_TO_wordAt_29 (by decide) ?_
      cases h
      exact vr_iret d_TO_wordAt_30 rfl rfl ⟨rfl, rfl⟩
    · replace h := l_ifn c5 h
      refine vr_aload_n d_TO_wordAt_8 rfl rfl ?_
      refine vr_iload_n d_TO_wordAt_9 rfl rfl ?_
      obtain ⟨v1, ev1, h⟩ := l_calP h
      refine vr_callSPT [.int y3] d_TO_wordAt_10 C_TO_105 (c_TO_wordText ev1) rfl rfl (Nat.le_of_ble_eq_true rfl) (by decide) (Nat.le_of_ble_eq_true rfl) ?_
      refine vr_iload_n d_TO_wordAt_13 rfl rfl ?_
      refine vr_iload_n d_TO_wordAt_14 rfl rfl ?_
      have q2 := (l_chk h).1
      replace h := (l_chk h).2
      obtain ⟨v3, s3, ev3, h⟩ := l_calI h
      refine mh_callI 4 [.ref (mg_K g v1), .int y1, .int y2] d_TO_wordAt_15 C_TO_109 (c_TO_isSpelt ev3) q2 rfl rfl rfl (Nat.le_of_ble_eq_true rfl) (by decide) (Nat.le_of_ble_eq_true rfl) ?_
      refine vr_if_eq (tgt := 23) d_TO_wordAt_18 (by decide) (fun c18 => ?_) (fun c18 => ?_)
      · replace h := l_ifp c18 h
        refine vr_iinc (L' := [some (.ref y0), some (.int y1), some (.int y2), some (.int (y3 + 1))]) (y3 + 1) d_TO_wordAt_23 (by decide) rfl rfl rfl ?_
        refine vr_goto (tgt := 2) d_TO_wordAt_26 (by decide) ?_
        exact mv_drop (ih _ _ _ _ _ _ h) (And.intro rfl (And.intro rfl (And.intro rfl (And.intro rfl trivial))))
      · replace h := l_ifn c18 h
        refine vr_iload_n d_TO_wordAt_21 rfl rfl ?_
        cases h
        exact vr_iret d_TO_wordAt_22 rfl rfl ⟨rfl, rfl⟩

def f_TO_wordAt (N : Nat) (a0 : Nat) (x1 : Int32) (x2 : Int32) (σ : mh_H) : Option (Int32 × mh_H) := k_TO_wordAt_2 N N a0 x1 x2 4 σ
theorem c_TO_wordAt {g : mv_G} {N : Nat} {a0 : Nat} {x1 : Int32} {x2 : Int32} {σ : mh_H} {r : Int32 × mh_H} (h : f_TO_wordAt N a0 x1 x2 σ = some r) : mv_Met g M_TO_wordAt 8 165 0 0 [.ref a0, .int x1, .int x2] σ (fun oc τ => τ = r.2 ∧ oc = .returned (some (.int r.1))) := by
  refine mv_entry (L := [some (.ref a0), some (.int x1), some (.int x2), none]) rfl rfl (Nat.le_of_ble_eq_true rfl) rfl ?_
  unfold f_TO_wordAt at h
  refine vr_iconst 4 d_TO_wordAt_0 (by decide) ?_
  refine vr_istore_n (L' := [some (.ref a0), some (.int x1), some (.int x2), some (.int 4)]) d_TO_wordAt_1 rfl (by decide) rfl ?_
  exact mv_drop (q_TO_wordAt_2 N _ _ _ _ _ _ h) (And.intro rfl (And.intro rfl (And.intro rfl (And.intro rfl trivial))))

def k_TO_takeWord_19 (N : Nat) (y0 : Nat) (y1 : Int32) (y2 : Int32) (z0 : Int32) (σ : mh_H) : Option (Int32 × mh_H) := if z0 = 0 then (chk (hT σ y0 = 9) <| calI (f_TO_wordAt N y0 y1 y2 σ) fun v4 s4 => chk (hT s4 y0 = 9) <| calI (f_TO_take N y0 v4 y1 y2 0 s4) fun v6 s6 => some (v6, s6)) else (chk (hT σ y0 = 9) <| calI (f_TO_take N y0 1 y1 y2 0 σ) fun v8 s8 => some (v8, s8))
theorem q_TO_takeWord_19 {g : mv_G} {N : Nat} (y0 : Nat) (y1 : Int32) (y2 : Int32) (z0 : Int32) (σ : mh_H) (r : Int32 × mh_H) (h : k_TO_takeWord_19 N y0 y1 y2 z0 σ = some r) : mv_V g M_TO_takeWord 9 188 0 0 19 [some (.ref y0), some (.int y1), some (.int y2), none] [.int z0] σ (fun oc τ => τ = r.2 ∧ oc = .returned (some (.int r.1))) := by
  unfold k_TO_takeWord_19 at h
  refine vr_istore_n (L' := [some (.ref y0), some (.int y1), some (.int y2), some (.int z0)]) d_TO_takeWord_19 rfl (by decide) rfl ?_
  refine vr_aload_n d_TO_takeWord_20 rfl rfl ?_
  refine vr_iload_n d_TO_takeWord_21 rfl rfl ?_
  refine vr_if_eq (tgt := 29) d_TO_takeWord_22 (by decide) (fun c22 => ?_) (fun c22 => ?_)
  · replace h := l_ifp c22 h
    refine vr_aload_n d_TO_takeWord_29 rfl rfl ?_
    refine vr_iload_n d_TO_takeWord_30 rfl rfl ?_
    refine vr_iload_n d_TO_takeWord_31 rfl rfl ?_
    have q3 := (l_chk h).1
    replace h := (l_chk h).2
    obtain ⟨v4, s4, ev4, h⟩ := l_calI h
    refine mh_callI 4 [.int y1, .int y2] d_TO_takeWord_32 C_TO_93 (c_TO_wordAt ev4) q3 rfl rfl rfl (Nat.le_of_ble_eq_true rfl) (by decide) (Nat.le_of_ble_eq_true rfl) ?_
    refine vr_iload_n d_TO_takeWord_35 rfl rfl ?_
    refine vr_iload_n d_TO_takeWord_36 rfl rfl ?_
    refine vr_iconst 0 d_TO_takeWord_37 (by decide) ?_
    have q5 := (l_chk h).1
    replace h := (l_chk h).2
    obtain ⟨v6, s6, ev6, h⟩ := l_calI h
    refine mh_callI 4 [.int v4, .int y1, .int y2, .int 0] d_TO_takeWord_38 C_TO_86 (c_TO_take ev6) q5 rfl rfl rfl (Nat.le_of_ble_eq_true rfl) (by decide) (Nat.le_of_ble_eq_true rfl) ?_
    cases h
    exact vr_iret d_TO_takeWord_41 rfl rfl ⟨rfl, rfl⟩
  · replace h := l_ifn c22 h
    refine vr_iconst 1 d_TO_takeWord_25 (by decide) ?_
    refine vr_goto (tgt := 35) d_TO_takeWord_26 (by decide) ?_
    refine vr_iload_n d_TO_takeWord_35 rfl rfl ?_
    refine vr_iload_n d_TO_takeWord_36 rfl rfl ?_
    refine vr_iconst 0 d_TO_takeWord_37 (by decide) ?_
    have q7 := (l_chk h).1
    replace h := (l_chk h).2
    obtain ⟨v8, s8, ev8, h⟩ := l_calI h
    refine mh_callI 4 [.int 1, .int y1, .int y2, .int 0] d_TO_takeWord_38 C_TO_86 (c_TO_take ev8) q7 rfl rfl rfl (Nat.le_of_ble_eq_true rfl) (by decide) (Nat.le_of_ble_eq_true rfl) ?_
    cases h
    exact vr_iret d_TO_takeWord_41 rfl rfl ⟨rfl, rfl⟩

def f_TO_takeWord (N : Nat) (a0 : Nat) (x1 : Int32) (σ : mh_H) : Option (Int32 × mh_H) := chk (hT σ a0 = 9) <| calI (f_TO_behindWord N a0 x1 σ) fun v2 s2 => if (v2 - x1) ≤ 30 then (k_TO_takeWord_19 N a0 x1 v2 0 s2) else (k_TO_takeWord_19 N a0 x1 v2 1 s2)
theorem c_TO_takeWord {g : mv_G} {N : Nat} {a0 : Nat} {x1 : Int32} {σ : mh_H} {r : Int32 × mh_H} (h : f_TO_takeWord N a0 x1 σ = some r) : mv_Met g M_TO_takeWord 9 188 0 0 [.ref a0, .int x1] σ (fun oc τ => τ = r.2 ∧ oc = .returned (some (.int r.1))) := by
  refine mv_entry (L := [some (.ref a0), some (.int x1), none, none]) rfl rfl (Nat.le_of_ble_eq_true rfl) rfl ?_
  unfold f_TO_takeWord at h
  refine vr_aload_n d_TO_takeWord_0 rfl rfl ?_
  refine vr_iload_n d_TO_takeWord_1 rfl rfl ?_
  have q1 := (l_chk h).1
  replace h := (l_chk h).2
  obtain ⟨v2, s2, ev2, h⟩ := l_calI h
  refine mh_callI 4 [.int x1] d_TO_takeWord_2 C_TO_90 (c_TO_behindWord ev2) q1 rfl rfl rfl (Nat.le_of_ble_eq_true rfl) (by decide) (Nat.le_of_ble_eq_true rfl) ?_
  refine vr_istore_n (L' := [some (.ref a0), some (.int x1), some (.int v2), none]) d_TO_takeWord_5 rfl (by decide) rfl ?_
  refine vr_iload_n d_TO_takeWord_6 rfl rfl ?_
  refine vr_iload_n d_TO_takeWord_7 rfl rfl ?_
  refine vr_isub d_TO_takeWord_8 ?_
  refine vr_bipush 30 d_TO_takeWord_9 (by decide) ?_
  refine vr_icmp_le (tgt := 18) d_TO_takeWord_11 (by decide) (fun c11 => ?_) (fun c11 => ?_)
  · replace h := l_ifp c11 h
    refine vr_iconst 0 d_TO_takeWord_18 (by decide) ?_
    exact mv_drop (q_TO_takeWord_19 _ _ _ _ _ _ h) (And.intro rfl (And.intro rfl (And.intro rfl trivial)))
  · replace h := l_ifn c11 h
    refine vr_iconst 1 d_TO_takeWord_14 (by decide) ?_
    refine vr_goto (tgt := 19) d_TO_takeWord_15 (by decide) ?_
    exact mv_drop (q_TO_takeWord_19 _ _ _ _ _ _ h) (And.intro rfl (And.intro rfl (And.intro rfl trivial)))

def k_TO_takeNumber_131 (N : Nat) (y0 : Nat) (y1 : Int32) (y4 : Int32) (σ : mh_H) : Option (Int32 × mh_H) := chk (hT σ y0 = 9) <| calI (f_TO_take N y0 1 y1 y4 0 σ) fun v20 s20 => some (v20, s20)
theorem q_TO_takeNumber_131 {g : mv_G} {N : Nat} (y0 : Nat) (y1 : Int32) (y4 : Int32) (σ : mh_H) (r : Int32 × mh_H) (h : k_TO_takeNumber_131 N y0 y1 y4 σ = some r) : mv_V g M_TO_takeNumber 2 47 0 0 131 [some (.ref y0), some (.int y1), none, none, some (.int y4), none, none] [] σ (fun oc τ => τ = r.2 ∧ oc = .returned (some (.int r.1))) := by
  unfold k_TO_takeNumber_131 at h
  refine vr_aload_n d_TO_takeNumber_131 rfl rfl ?_
  refine vr_iconst 1 d_TO_takeNumber_132 (by decide) ?_
  refine vr_iload_n d_TO_takeNumber_133 rfl rfl ?_
  refine vr_iload d_TO_takeNumber_134 rfl ?_
  refine vr_iconst 0 d_TO_takeNumber_136 (by decide) ?_
  have q19 := (l_chk h).1
  replace h := (l_chk h).2
  obtain ⟨v20, s20, ev20, h⟩ := l_calI h
  refine mh_callI 4 [.int 1, .int y1, .int y4, .int 0] d_TO_takeNumber_137 C_TO_86 (c_TO_take ev20) q19 rfl rfl rfl (Nat.le_of_ble_eq_true rfl) (by decide) (Nat.le_of_ble_eq_true rfl) ?_
  cases h
  exact vr_iret d_TO_takeNumber_140 rfl rfl ⟨rfl, rfl⟩

def k_TO_takeNumber_111 (N : Nat) (y0 : Nat) (y1 : Int32) (y2 : Int64) (y4 : Int32) (y5 : Int32) (z0 : Int32) (σ : mh_H) : Option (Int32 × mh_H) := if 0 ≤ (lg_cmp y2 2147483648) then (k_TO_takeNumber_131 N y0 y1 y4 σ) else (if y5 = 0 then (if z0 = 0 then (chk (hT σ y0 = 9) <| calI (f_TO_take N y0 3 y1 y4 ((Int64.toInt32 y2)) σ) fun v18 s18 => some (v18, s18)) else (k_TO_takeNumber_131 N y0 y1 y4 σ)) else (k_TO_takeNumber_131 N y0 y1 y4 σ))
theorem q_TO_takeNumber_111 {g : mv_G} {N : Nat} (y0 : Nat) (y1 : Int32) (y2 : Int64) (y4 : Int32) (y5 : Int32) (z0 : Int32) (σ : mh_H) (r : Int32 × mh_H) (h : k_TO_takeNumber_111 N y0 y1 y2 y4 y5 z0 σ = some r) : mv_V g M_TO_takeNumber 2 47 0 0 111 [some (.ref y0), some (.int y1), some (.long y2), none, some (.int y4), some (.int y5), none] [.int z0] σ (fun oc τ => τ = r.2 ∧ oc = .returned (some (.int r.1))) := by
  unfold k_TO_takeNumber_111 at h
  refine vr_istore (L' := [some (.ref y0), some (.int y1), some (.long y2), none, some (.int y4), some (.int y5), some (.int z0)]) d_TO_takeNumber_111 (by decide) rfl ?_
  refine vr_lload_n d_TO_takeNumber_113 rfl rfl ?_
  refine vr_ldc2 d_TO_takeNumber_114 w_411 ?_
  refine vr_lcmp d_TO_takeNumber_117 ?_
  refine vr_if_ge (tgt := 131) d_TO_takeNumber_118 (by decide) (fun c118 => ?_) (fun c118 => ?_)
  · replace h := l_ifp c118 h
    exact mv_drop (q_TO_takeNumber_131 _ _ _ _ _ h) (And.intro rfl (And.intro rfl (And.intro rfl trivial)))
  · replace h := l_ifn c118 h
    refine vr_iload d_TO_takeNumber_121 rfl ?_
    refine vr_if_ne (tgt := 131) d_TO_takeNumber_123 (by decide) (fun c123 => ?_) (fun c123 => ?_)
    · replace h := l_ifn c123 h
      exact mv_drop (q_TO_takeNumber_131 _ _ _ _ _ h) (And.intro rfl (And.intro rfl (And.intro rfl trivial)))
    · replace h := l_ifp c123 h
      refine vr_iload d_TO_takeNumber_126 rfl ?_
      refine vr_if_eq (tgt := 141) d_TO_takeNumber_128 (by decide) (fun c128 => ?_) (fun c128 => ?_)
      · replace h := l_ifp c128 h
        refine vr_aload_n d_TO_takeNumber_141 rfl rfl ?_
        refine vr_iconst 3 d_TO_takeNumber_142 (by decide) ?_
        refine vr_iload_n d_TO_takeNumber_143 rfl rfl ?_
        refine vr_iload d_TO_takeNumber_144 rfl ?_
        refine vr_lload_n d_TO_takeNumber_146 rfl rfl ?_
        refine vr_l2i d_TO_takeNumber_147 rfl ?_
        have q17 := (l_chk h).1
        replace h := (l_chk h).2
        obtain ⟨v18, s18, ev18, h⟩ := l_calI h
        refine mh_callI 4 [.int 3, .int y1, .int y4, .int (Int64.toInt32 y2)] d_TO_takeNumber_148 C_TO_86 (c_TO_take ev18) q17 rfl rfl rfl (Nat.le_of_ble_eq_true rfl) (by decide) (Nat.le_of_ble_eq_true rfl) ?_
        cases h
        exact vr_iret d_TO_takeNumber_151 rfl rfl ⟨rfl, rfl⟩
      · replace h := l_ifn c128 h
        exact mv_drop (q_TO_takeNumber_131 _ _ _ _ _ h) (And.intro rfl (And.intro rfl (And.intro rfl trivial)))

def k_TO_takeNumber_82 (N : Nat) (y0 : Nat) (y1 : Int32) (y2 : Int64) (y4 : Int32) (z0 : Int32) (σ : mh_H) : Option (Int32 × mh_H) := chk (hT σ y0 = 9) <| if (hI σ 4 1 y0) ≤ y4 then (k_TO_takeNumber_111 N y0 y1 y2 y4 z0 0 σ) else (rfO (hR σ 4 0 y0) fun b13 => chk (hT σ b13 = 4) <| chk (ib y4 (hN σ b13)) <| calP (f_PR_isLetter N ((hA σ b13 (Int32.toNatClampNeg y4)))) fun v16 => if v16 = 0 then (k_TO_takeNumber_111 N y0 y1 y2 y4 z0 0 σ) else (k_TO_takeNumber_111 N y0 y1 y2 y4 z0 1 σ))
theorem q_TO_takeNumber_82 {g : mv_G} {N : Nat} (y0 : Nat) (y1 : Int32) (y2 : Int64) (y4 : Int32) (z0 : Int32) (σ : mh_H) (r : Int32 × mh_H) (h : k_TO_takeNumber_82 N y0 y1 y2 y4 z0 σ = some r) : mv_V g M_TO_takeNumber 2 47 0 0 82 [some (.ref y0), some (.int y1), some (.long y2), none, some (.int y4), none, none] [.int z0] σ (fun oc τ => τ = r.2 ∧ oc = .returned (some (.int r.1))) := by
  unfold k_TO_takeNumber_82 at h
  refine vr_istore (L' := [some (.ref y0), some (.int y1), some (.long y2), none, some (.int y4), some (.int z0), none]) d_TO_takeNumber_82 (by decide) rfl ?_
  refine vr_iload d_TO_takeNumber_84 rfl ?_
  refine vr_aload_n d_TO_takeNumber_86 rfl rfl ?_
  have q12 := (l_chk h).1
  replace h := (l_chk h).2
  refine vr_getI d_TO_takeNumber_87 F_TO_15 rfl q12 ?_
  refine vr_icmp_ge (tgt := 110) d_TO_takeNumber_90 (by decide) (fun c90 => ?_) (fun c90 => ?_)
  · replace h := l_ifp c90 h
    refine vr_iconst 0 d_TO_takeNumber_110 (by decide) ?_
    exact mv_drop (q_TO_takeNumber_111 _ _ _ _ _ _ _ _ h) (And.intro rfl (And.intro rfl (And.intro rfl (And.intro rfl (And.intro rfl trivial)))))
  · replace h := l_ifn c90 h
    refine vr_aload_n d_TO_takeNumber_93 rfl rfl ?_
    obtain ⟨b13, eb13, h⟩ := l_rf h
    refine vr_getR (b := b13) d_TO_takeNumber_94 F_TO_9 rfl q12 eb13 ?_
    refine vr_iload d_TO_takeNumber_97 rfl ?_
    have q14 := (l_chk h).1
    replace h := (l_chk h).2
    have q15 := (l_chk h).1
    replace h := (l_chk h).2
    refine vr_bald (t := 1) d_TO_takeNumber_99 rfl q14 (ib_in q15) ?_
    obtain ⟨v16, ev16, h⟩ := l_calP h
    refine vr_callSP [.int (hA σ b13 (Int32.toNatClampNeg y4))] d_TO_takeNumber_100 C_TO_68 (c_PR_isLetter ev16) rfl rfl (Nat.le_of_ble_eq_true rfl) (by decide) (Nat.le_of_ble_eq_true rfl) ?_
    refine vr_if_eq (tgt := 110) d_TO_takeNumber_103 (by decide) (fun c103 => ?_) (fun c103 => ?_)
    · replace h := l_ifp c103 h
      refine vr_iconst 0 d_TO_takeNumber_110 (by decide) ?_
      exact mv_drop (q_TO_takeNumber_111 _ _ _ _ _ _ _ _ h) (And.intro rfl (And.intro rfl (And.intro rfl (And.intro rfl (And.intro rfl trivial)))))
    · replace h := l_ifn c103 h
      refine vr_iconst 1 d_TO_takeNumber_106 (by decide) ?_
      refine vr_goto (tgt := 111) d_TO_takeNumber_107 (by decide) ?_
      exact mv_drop (q_TO_takeNumber_111 _ _ _ _ _ _ _ _ h) (And.intro rfl (And.intro rfl (And.intro rfl (And.intro rfl (And.intro rfl trivial)))))

def k_TO_takeNumber_58 (N : Nat) (y0 : Nat) (y1 : Int32) (y2 : Int64) (y4 : Int32) (σ : mh_H) : Option (Int32 × mh_H) := chk (hT σ y0 = 9) <| rfO (hR σ 4 0 y0) fun b9 => chk (hT σ b9 = 4) <| chk (ib y1 (hN σ b9)) <| if (hA σ b9 (Int32.toNatClampNeg y1)) = 48 then (if y4 ≤ (y1 + 1) then (k_TO_takeNumber_82 N y0 y1 y2 y4 0 σ) else (k_TO_takeNumber_82 N y0 y1 y2 y4 1 σ)) else (k_TO_takeNumber_82 N y0 y1 y2 y4 0 σ)
theorem q_TO_takeNumber_58 {g : mv_G} {N : Nat} (y0 : Nat) (y1 : Int32) (y2 : Int64) (y4 : Int32) (σ : mh_H) (r : Int32 × mh_H) (h : k_TO_takeNumber_58 N y0 y1 y2 y4 σ = some r) : mv_V g M_TO_takeNumber 2 47 0 0 58 [some (.ref y0), some (.int y1), some (.long y2), none, some (.int y4), none, none] [] σ (fun oc τ => τ = r.2 ∧ oc = .returned (some (.int r.1))) := by
  unfold k_TO_takeNumber_58 at h
  refine vr_aload_n d_TO_takeNumber_58 rfl rfl ?_
  have q8 := (l_chk h).1
  replace h := (l_chk h).2
  obtain ⟨b9, eb9, h⟩ := l_rf h
  refine vr_getR (b := b9) d_TO_takeNumber_59 F_TO_9 rfl q8 eb9 ?_
  refine vr_iload_n d_TO_takeNumber_62 rfl rfl ?_
  have q10 := (l_chk h).1
  replace h := (l_chk h).2
  have q11 := (l_chk h).1
  replace h := (l_chk h).2
  refine vr_bald (t := 1) d_TO_takeNumber_63 rfl q10 (ib_in q11) ?_
  refine vr_bipush 48 d_TO_takeNumber_64 (by decide) ?_
  refine vr_icmp_ne (tgt := 81) d_TO_takeNumber_66 (by decide) (fun c66 => ?_) (fun c66 => ?_)
  · replace h := l_ifn c66 h
    refine vr_iconst 0 d_TO_takeNumber_81 (by decide) ?_
    exact mv_drop (q_TO_takeNumber_82 _ _ _ _ _ _ _ h) (And.intro rfl (And.intro rfl (And.intro rfl (And.intro rfl trivial))))
  · replace h := l_ifp c66 h
    refine vr_iload d_TO_takeNumber_69 rfl ?_
    refine vr_iload_n d_TO_takeNumber_71 rfl rfl ?_
    refine vr_iconst 1 d_TO_takeNumber_72 (by decide) ?_
    refine vr_iadd d_TO_takeNumber_73 ?_
    refine vr_icmp_le (tgt := 81) d_TO_takeNumber_74 (by decide) (fun c74 => ?_) (fun c74 => ?_)
    · replace h := l_ifp c74 h
      refine vr_iconst 0 d_TO_takeNumber_81 (by decide) ?_
      exact mv_drop (q_TO_takeNumber_82 _ _ _ _ _ _ _ h) (And.intro rfl (And.intro rfl (And.intro rfl (And.intro rfl trivial))))
    · replace h := l_ifn c74 h
      refine vr_iconst 1 d_TO_takeNumber_77 (by decide) ?_
      refine vr_goto (tgt := 82) d_TO_takeNumber_78 (by decide) ?_
      exact mv_drop (q_TO_takeNumber_82 _ _ _ _ _ _ _ h) (And.intro rfl (And.intro rfl (And.intro rfl (And.intro rfl trivial))))

def k_TO_takeNumber_5 (N : Nat) : Nat → Nat → Int32 → Int64 → Int32 → mh_H → Option (Int32 × mh_H)
  | 0, _, _, _, _, _ => none
  | n + 1, y0, y1, y2, y4, σ => chk (hT σ y0 = 9) <| if (hI σ 4 1 y0) ≤ y4 then (k_TO_takeNumber_58 N y0 y1 y2 y4 σ) else (rfO (hR σ 4 0 y0) fun b2 => chk (hT σ b2 = 4) <| chk (ib y4 (hN σ b2)) <| calP (f_PR_isDigit N ((hA σ b2 (Int32.toNatClampNeg y4)))) fun v5 => if v5 = 0 then (k_TO_takeNumber_58 N y0 y1 y2 y4 σ) else (chk (ib y4 (hN σ b2)) <| calP (f_MA_minJ N 2147483648 ((((10 * y2) + (Int32.toInt64 (hA σ b2 (Int32.toNatClampNeg y4)))) - 48))) fun v7 => k_TO_takeNumber_5 N n y0 y1 v7 ((y4 + 1)) σ))
theorem q_TO_takeNumber_5 {g : mv_G} {N : Nat} : ∀ (n : Nat) (y0 : Nat) (y1 : Int32) (y2 : Int64) (y4 : Int32) (σ : mh_H) (r : Int32 × mh_H), k_TO_takeNumber_5 N n y0 y1 y2 y4 σ = some r → mv_V g M_TO_takeNumber 2 47 0 0 5 [some (.ref y0), some (.int y1), some (.long y2), none, some (.int y4), none, none] [] σ (fun oc τ => τ = r.2 ∧ oc = .returned (some (.int r.1))) := by
  intro n
  induction n with
  | zero =>
    intro y0 y1 y2 y4 σ r h
    exact absurd h (by simp [k_TO_takeNumber_5])
  | succ n ih =>
    intro y0 y1 y2 y4 σ r h 
    unfold k_TO_takeNumber_5 at h
    refine vr_iload d_TO_takeNumber_5 rfl ?_
    refine vr_aload_n d_TO_takeNumber_7 rfl rfl ?_
    have q1 := (l_chk h).1
    replace h := (l_chk h).2
    refine vr_getI d_TO_takeNumber_8 F_TO_15 rfl q1 ?_
    refine vr_icmp_ge (tgt := 58) d_TO_takeNumber_11 (by decide) (fun c11 => ?_) (fun c11 => ?_)
    · replace h := l_ifp c11 h
      exact mv_drop (q_TO_takeNumber_58 _ _ _ _ _ _ h) (And.intro rfl (And.intro rfl (And.intro rfl (And.intro rfl trivial))))
    · replace h := l_ifn c11 h
      refine vr_aload_n d_TO_takeNumber_14 rfl rfl ?_
      obtain ⟨b2, eb2, h⟩ := l_rf h
      refine vr_getR (b := b2) d_TO_takeNumber_15 F_TO_9 rfl q1 eb2 ?_
      refine vr_iload d_TO_takeNumber_18 rfl ?_
      have q3 := (l_chk h).1
      replace h := (l_chk h).2
      have q4 := (l_chk h).1
      replace h := (l_chk h).2
      refine vr_bald (t := 1) d_TO_takeNumber_20 rfl q3 (ib_in q4) ?_
      obtain ⟨v5, ev5, h⟩ := l_calP h
      refine vr_callSP [.int (hA σ b2 (Int32.toNatClampNeg y4))] d_TO_takeNumber_21 C_TO_74 (c_PR_isDigit ev5) rfl rfl (Nat.le_of_ble_eq_true rfl) (by decide) (Nat.le_of_ble_eq_true rfl) ?_
      refine vr_if_eq (tgt := 58) d_TO_takeNumber_24 (by decide) (fun c24 => ?_) (fun c24 => ?_)
      · replace h := l_ifp c24 h
        exact mv_drop (q_TO_takeNumber_58 _ _ _ _ _ _ h) (And.intro rfl (And.intro rfl (And.intro rfl (And.intro rfl trivial))))
      · replace h := l_ifn c24 h
        refine vr_ldc2 d_TO_takeNumber_27 w_411 ?_
        refine vr_ldc2 d_TO_takeNumber_30 w_412 ?_
        refine vr_lload_n d_TO_takeNumber_33 rfl rfl ?_
        refine vr_lmul d_TO_takeNumber_34 ?_
        refine vr_aload_n d_TO_takeNumber_35 rfl rfl ?_
        refine vr_getR (b := b2) d_TO_takeNumber_36 F_TO_9 rfl q1 eb2 ?_
        refine vr_iload d_TO_takeNumber_39 rfl ?_
        have q6 := (l_chk h).1
        replace h := (l_chk h).2
        refine vr_bald (t := 1) d_TO_takeNumber_41 rfl q3 (ib_in q6) ?_
        refine vr_i2l d_TO_takeNumber_42 rfl ?_
        refine vr_ladd d_TO_takeNumber_43 ?_
        refine vr_ldc2 d_TO_takeNumber_44 w_413 ?_
        refine vr_lsub d_TO_takeNumber_47 ?_
        obtain ⟨v7, ev7, h⟩ := l_calP h
        refine vr_callSPJ [.long 2147483648, .long (((10 * y2) + (Int32.toInt64 (hA σ b2 (Int32.toNatClampNeg y4)))) - 48)] d_TO_takeNumber_48 C_TO_102 (c_MA_minJ ev7) rfl rfl (Nat.le_of_ble_eq_true rfl) (by decide) (Nat.le_of_ble_eq_true rfl) ?_
        refine vr_lstore_n (L' := [some (.ref y0), some (.int y1), some (.long v7), none, some (.int y4), none, none]) d_TO_takeNumber_51 rfl (by decide) rfl ?_
        refine vr_iinc (L' := [some (.ref y0), some (.int y1), some (.long v7), none, some (.int (y4 + 1)), none, none]) (y4 + 1) d_TO_takeNumber_52 (by decide) rfl rfl rfl ?_
        refine vr_goto (tgt := 5) d_TO_takeNumber_55 (by decide) ?_
        exact mv_drop (ih _ _ _ _ _ _ h) (And.intro rfl (And.intro rfl (And.intro rfl (And.intro rfl trivial))))

def f_TO_takeNumber (N : Nat) (a0 : Nat) (x1 : Int32) (σ : mh_H) : Option (Int32 × mh_H) := k_TO_takeNumber_5 N N a0 x1 0 x1 σ
theorem c_TO_takeNumber {g : mv_G} {N : Nat} {a0 : Nat} {x1 : Int32} {σ : mh_H} {r : Int32 × mh_H} (h : f_TO_takeNumber N a0 x1 σ = some r) : mv_Met g M_TO_takeNumber 2 47 0 0 [.ref a0, .int x1] σ (fun oc τ => τ = r.2 ∧ oc = .returned (some (.int r.1))) := by
  refine mv_entry (L := [some (.ref a0), some (.int x1), none, none, none, none, none]) rfl rfl (Nat.le_of_ble_eq_true rfl) rfl ?_
  unfold f_TO_takeNumber at h
  refine vr_lconst 0 d_TO_takeNumber_0 (by decide) ?_
  refine vr_lstore_n (L' := [some (.ref a0), some (.int x1), some (.long 0), none, none, none, none]) d_TO_takeNumber_1 rfl (by decide) rfl ?_
  refine vr_iload_n d_TO_takeNumber_2 rfl rfl ?_
  refine vr_istore (L' := [some (.ref a0), some (.int x1), some (.long 0), none, some (.int x1), none, none]) d_TO_takeNumber_3 (by decide) rfl ?_
  exact mv_drop (q_TO_takeNumber_5 N _ _ _ _ _ _ h) (And.intro rfl (And.intro rfl (And.intro rfl (And.intro rfl trivial))))

def f_TO_isLongSign (N : Nat) (x0 : Int32) : Option (Int32) := if x0 ≤ 27 then (some (0)) else (if x0 = 29 then (some (0)) else (some (1)))
theorem c_TO_isLongSign {g : mv_G} {σ : mh_H} {N : Nat} {x0 : Int32} {r : Int32} (h : f_TO_isLongSign N x0 = some r) : mv_Met g M_TO_isLongSign 0 0 0 0 [.int x0] σ (fun oc τ => τ = σ ∧ oc = .returned (some (.int r))) := by
  refine mv_entry (L := [some (.int x0)]) rfl rfl (Nat.le_of_ble_eq_true rfl) rfl ?_
  unfold f_TO_isLongSign at h
  refine vr_iload_n d_TO_isLongSign_0 rfl rfl ?_
  refine vr_bipush 27 d_TO_isLongSign_1 (by decide) ?_
  refine vr_icmp_le (tgt := 16) d_TO_isLongSign_3 (by decide) (fun c3 => ?_) (fun c3 => ?_)
  · replace h := l_ifp c3 h
    refine vr_iconst 0 d_TO_isLongSign_16 (by decide) ?_
    cases h
    exact vr_iret d_TO_isLongSign_17 rfl rfl ⟨rfl, rfl⟩
  · replace h := l_ifn c3 h
    refine vr_iload_n d_TO_isLongSign_6 rfl rfl ?_
    refine vr_bipush 29 d_TO_isLongSign_7 (by decide) ?_
    refine vr_icmp_eq (tgt := 16) d_TO_isLongSign_9 (by decide) (fun c9 => ?_) (fun c9 => ?_)
    · replace h := l_ifp c9 h
      refine vr_iconst 0 d_TO_isLongSign_16 (by decide) ?_
      cases h
      exact vr_iret d_TO_isLongSign_17 rfl rfl ⟨rfl, rfl⟩
    · replace h := l_ifn c9 h
      refine vr_iconst 1 d_TO_isLongSign_12 (by decide) ?_
      refine vr_goto (tgt := 17) d_TO_isLongSign_13 (by decide) ?_
      cases h
      exact vr_iret d_TO_isLongSign_17 rfl rfl ⟨rfl, rfl⟩

def k_TO_signAt_22 (N : Nat) (y0 : Nat) (y1 : Int32) (z0 : Int32) (σ : mh_H) : Option (Int32 × mh_H) := chk (hT σ y0 = 9) <| rfO (hR σ 4 0 y0) fun b6 => chk (hT σ b6 = 4) <| chk (ib y1 (hN σ b6)) <| if (hA σ b6 (Int32.toNatClampNeg y1)) = 33 then (if z0 = 61 then (some (32, σ)) else (some (21, σ))) else if (hA σ b6 (Int32.toNatClampNeg y1)) = 37 then (some (26, σ)) else if (hA σ b6 (Int32.toNatClampNeg y1)) = 38 then (if z0 = 38 then (some (33, σ)) else (some (1, σ))) else if (hA σ b6 (Int32.toNatClampNeg y1)) = 40 then (some (12, σ)) else if (hA σ b6 (Int32.toNatClampNeg y1)) = 41 then (some (13, σ)) else if (hA σ b6 (Int32.toNatClampNeg y1)) = 42 then (some (24, σ)) else if (hA σ b6 (Int32.toNatClampNeg y1)) = 43 then (some (22, σ)) else if (hA σ b6 (Int32.toNatClampNeg y1)) = 44 then (some (18, σ)) else if (hA σ b6 (Int32.toNatClampNeg y1)) = 45 then (some (23, σ)) else if (hA σ b6 (Int32.toNatClampNeg y1)) = 47 then (some (25, σ)) else if (hA σ b6 (Int32.toNatClampNeg y1)) = 59 then (some (19, σ)) else if (hA σ b6 (Int32.toNatClampNeg y1)) = 60 then (if z0 = 61 then (some (28, σ)) else (some (27, σ))) else if (hA σ b6 (Int32.toNatClampNeg y1)) = 61 then (if z0 = 61 then (some (31, σ)) else (some (20, σ))) else if (hA σ b6 (Int32.toNatClampNeg y1)) = 62 then (if z0 = 61 then (some (30, σ)) else (some (29, σ))) else if (hA σ b6 (Int32.toNatClampNeg y1)) = 91 then (some (16, σ)) else if (hA σ b6 (Int32.toNatClampNeg y1)) = 93 then (some (17, σ)) else if (hA σ b6 (Int32.toNatClampNeg y1)) = 123 then (some (14, σ)) else if (hA σ b6 (Int32.toNatClampNeg y1)) = 124 then (if z0 = 124 then (some (34, σ)) else (some (1, σ))) else if (hA σ b6 (Int32.toNatClampNeg y1)) = 125 then (some (15, σ)) else (some (1, σ))
theorem q_TO_signAt_22 {g : mv_G} {N : Nat} (y0 : Nat) (y1 : Int32) (z0 : Int32) (σ : mh_H) (r : Int32 × mh_H) (h : k_TO_signAt_22 N y0 y1 z0 σ = some r) : mv_V g M_TO_signAt 0 0 0 0 22 [some (.ref y0), some (.int y1), none] [.int z0] σ (fun oc τ => τ = r.2 ∧ oc = .returned (some (.int r.1))) := by
  unfold k_TO_signAt_22 at h
  refine vr_istore_n (L' := [some (.ref y0), some (.int y1), some (.int z0)]) d_TO_signAt_22 rfl (by decide) rfl ?_
  refine vr_aload_n d_TO_signAt_23 rfl rfl ?_
  have q5 := (l_chk h).1
  replace h := (l_chk h).2
  obtain ⟨b6, eb6, h⟩ := l_rf h
  refine vr_getR (b := b6) d_TO_signAt_24 F_TO_9 rfl q5 eb6 ?_
  refine vr_iload_n d_TO_signAt_27 rfl rfl ?_
  have q7 := (l_chk h).1
  replace h := (l_chk h).2
  have q8 := (l_chk h).1
  replace h := (l_chk h).2
  refine vr_bald (t := 1) d_TO_signAt_28 rfl q7 (ib_in q8) ?_
  by_cases c29_33 : (hA σ b6 (Int32.toNatClampNeg y1)) = 33
  · replace h := l_ifp c29_33 h
    refine vr_lookup (x := (hA σ b6 (Int32.toNatClampNeg y1))) (tgt := 273) (off := 244) d_TO_signAt_29 (by decide) (by rw [c29_33]; decide) (by decide) ?_
    refine vr_iload_n d_TO_signAt_273 rfl rfl ?_
    refine vr_bipush 61 d_TO_signAt_274 (by decide) ?_
    refine vr_icmp_ne (tgt := 284) d_TO_signAt_276 (by decide) (fun c276 => ?_) (fun c276 => ?_)
    · replace h := l_ifn c276 h
      refine vr_bipush 21 d_TO_signAt_284 (by decide) ?_
      cases h
      exact vr_iret d_TO_signAt_286 rfl rfl ⟨rfl, rfl⟩
    · replace h := l_ifp c276 h
      refine vr_bipush 32 d_TO_signAt_279 (by decide) ?_
      refine vr_goto (tgt := 286) d_TO_signAt_281 (by decide) ?_
      cases h
      exact vr_iret d_TO_signAt_286 rfl rfl ⟨rfl, rfl⟩
  replace h := l_ifn c29_33 h
  by_cases c29_37 : (hA σ b6 (Int32.toNatClampNeg y1)) = 37
  · replace h := l_ifp c29_37 h
    refine vr_lookup (x := (hA σ b6 (Int32.toNatClampNeg y1))) (tgt := 228) (off := 199) d_TO_signAt_29 (by decide) (by rw [c29_37]; decide) (by decide) ?_
    refine vr_bipush 26 d_TO_signAt_228 (by decide) ?_
    cases h
    exact vr_iret d_TO_signAt_230 rfl rfl ⟨rfl, rfl⟩
  replace h := l_ifn c29_37 h
  by_cases c29_38 : (hA σ b6 (Int32.toNatClampNeg y1)) = 38
  · replace h := l_ifp c29_38 h
    refine vr_lookup (x := (hA σ b6 (Int32.toNatClampNeg y1))) (tgt := 287) (off := 258) d_TO_signAt_29 (by decide) (by rw [c29_38]; decide) (by decide) ?_
    refine vr_iload_n d_TO_signAt_287 rfl rfl ?_
    refine vr_bipush 38 d_TO_signAt_288 (by decide) ?_
    refine vr_icmp_ne (tgt := 298) d_TO_signAt_290 (by decide) (fun c290 => ?_) (fun c290 => ?_)
    · replace h := l_ifn c290 h
      refine vr_iconst 1 d_TO_signAt_298 (by decide) ?_
      cases h
      exact vr_iret d_TO_signAt_299 rfl rfl ⟨rfl, rfl⟩
    · replace h := l_ifp c290 h
      refine vr_bipush 33 d_TO_signAt_293 (by decide) ?_
      refine vr_goto (tgt := 299) d_TO_signAt_295 (by decide) ?_
      cases h
      exact vr_iret d_TO_signAt_299 rfl rfl ⟨rfl, rfl⟩
  replace h := l_ifn c29_38 h
  by_cases c29_40 : (hA σ b6 (Int32.toNatClampNeg y1)) = 40
  · replace h := l_ifp c29_40 h
    refine vr_lookup (x := (hA σ b6 (Int32.toNatClampNeg y1))) (tgt := 192) (off := 163) d_TO_signAt_29 (by decide) (by rw [c29_40]; decide) (by decide) ?_
    refine vr_bipush 12 d_TO_signAt_192 (by decide) ?_
    cases h
    exact vr_iret d_TO_signAt_194 rfl rfl ⟨rfl, rfl⟩
  replace h := l_ifn c29_40 h
  by_cases c29_41 : (hA σ b6 (Int32.toNatClampNeg y1)) = 41
  · replace h := l_ifp c29_41 h
    refine vr_lookup (x := (hA σ b6 (Int32.toNatClampNeg y1))) (tgt := 195) (off := 166) d_TO_signAt_29 (by decide) (by rw [c29_41]; decide) (by decide) ?_
    refine vr_bipush 13 d_TO_signAt_195 (by decide) ?_
    cases h
    exact vr_iret d_TO_signAt_197 rfl rfl ⟨rfl, rfl⟩
  replace h := l_ifn c29_41 h
  by_cases c29_42 : (hA σ b6 (Int32.toNatClampNeg y1)) = 42
  · replace h := l_ifp c29_42 h
    refine vr_lookup (x := (hA σ b6 (Int32.toNatClampNeg y1))) (tgt := 222) (off := 193) d_TO_signAt_29 (by decide) (by rw [c29_42]; decide) (by decide) ?_
    refine vr_bipush 24 d_TO_signAt_222 (by decide) ?_
    cases h
    exact vr_iret d_TO_signAt_224 rfl rfl ⟨rfl, rfl⟩
  replace h := l_ifn c29_42 h
  by_cases c29_43 : (hA σ b6 (Int32.toNatClampNeg y1)) = 43
  · replace h := l_ifp c29_43 h
    refine vr_lookup (x := (hA σ b6 (Int32.toNatClampNeg y1))) (tgt := 216) (off := 187) d_TO_signAt_29 (by decide) (by rw [c29_43]; decide) (by decide) ?_
    refine vr_bipush 22 d_TO_signAt_216 (by decide) ?_
    cases h
    exact vr_iret d_TO_signAt_218 rfl rfl ⟨rfl, rfl⟩
  replace h := l_ifn c29_43 h
  by_cases c29_44 : (hA σ b6 (Int32.toNatClampNeg y1)) = 44
  · replace h := l_ifp c29_44 h
    refine vr_lookup (x := (hA σ b6 (Int32.toNatClampNeg y1))) (tgt := 210) (off := 181) d_TO_signAt_29 (by decide) (by rw [c29_44]; decide) (by decide) ?_
    refine vr_bipush 18 d_TO_signAt_210 (by decide) ?_
    cases h
    exact vr_iret d_TO_signAt_212 rfl rfl ⟨rfl, rfl⟩
  replace h := l_ifn c29_44 h
  by_cases c29_45 : (hA σ b6 (Int32.toNatClampNeg y1)) = 45
  · replace h := l_ifp c29_45 h
    refine vr_lookup (x := (hA σ b6 (Int32.toNatClampNeg y1))) (tgt := 219) (off := 190) d_TO_signAt_29 (by decide) (by rw [c29_45]; decide) (by decide) ?_
    refine vr_bipush 23 d_TO_signAt_219 (by decide) ?_
    cases h
    exact vr_iret d_TO_signAt_221 rfl rfl ⟨rfl, rfl⟩
  replace h := l_ifn c29_45 h
  by_cases c29_47 : (hA σ b6 (Int32.toNatClampNeg y1)) = 47
  · replace h := l_ifp c29_47 h
    refine vr_lookup (x := (hA σ b6 (Int32.toNatClampNeg y1))) (tgt := 225) (off := 196) d_TO_signAt_29 (by decide) (by rw [c29_47]; decide) (by decide) ?_
    refine vr_bipush 25 d_TO_signAt_225 (by decide) ?_
    cases h
    exact vr_iret d_TO_signAt_227 rfl rfl ⟨rfl, rfl⟩
  replace h := l_ifn c29_47 h
  by_cases c29_59 : (hA σ b6 (Int32.toNatClampNeg y1)) = 59
  · replace h := l_ifp c29_59 h
    refine vr_lookup (x := (hA σ b6 (Int32.toNatClampNeg y1))) (tgt := 213) (off := 184) d_TO_signAt_29 (by decide) (by rw [c29_59]; decide) (by decide) ?_
    refine vr_bipush 19 d_TO_signAt_213 (by decide) ?_
    cases h
    exact vr_iret d_TO_signAt_215 rfl rfl ⟨rfl, rfl⟩
  replace h := l_ifn c29_59 h
  by_cases c29_60 : (hA σ b6 (Int32.toNatClampNeg y1)) = 60
  · replace h := l_ifp c29_60 h
    refine vr_lookup (x := (hA σ b6 (Int32.toNatClampNeg y1))) (tgt := 245) (off := 216) d_TO_signAt_29 (by decide) (by rw [c29_60]; decide) (by decide) ?_
    refine vr_iload_n d_TO_signAt_245 rfl rfl ?_
    refine vr_bipush 61 d_TO_signAt_246 (by decide) ?_
    refine vr_icmp_ne (tgt := 256) d_TO_signAt_248 (by decide) (fun c248 => ?_) (fun c248 => ?_)
    · replace h := l_ifn c248 h
      refine vr_bipush 27 d_TO_signAt_256 (by decide) ?_
      cases h
      exact vr_iret d_TO_signAt_258 rfl rfl ⟨rfl, rfl⟩
    · replace h := l_ifp c248 h
      refine vr_bipush 28 d_TO_signAt_251 (by decide) ?_
      refine vr_goto (tgt := 258) d_TO_signAt_253 (by decide) ?_
      cases h
      exact vr_iret d_TO_signAt_258 rfl rfl ⟨rfl, rfl⟩
  replace h := l_ifn c29_60 h
  by_cases c29_61 : (hA σ b6 (Int32.toNatClampNeg y1)) = 61
  · replace h := l_ifp c29_61 h
    refine vr_lookup (x := (hA σ b6 (Int32.toNatClampNeg y1))) (tgt := 231) (off := 202) d_TO_signAt_29 (by decide) (by rw [c29_61]; decide) (by decide) ?_
    refine vr_iload_n d_TO_signAt_231 rfl rfl ?_
    refine vr_bipush 61 d_TO_signAt_232 (by decide) ?_
    refine vr_icmp_ne (tgt := 242) d_TO_signAt_234 (by decide) (fun c234 => ?_) (fun c234 => ?_)
    · replace h := l_ifn c234 h
      refine vr_bipush 20 d_TO_signAt_242 (by decide) ?_
      cases h
      exact vr_iret d_TO_signAt_244 rfl rfl ⟨rfl, rfl⟩
    · replace h := l_ifp c234 h
      refine vr_bipush 31 d_TO_signAt_237 (by decide) ?_
      refine vr_goto (tgt := 244) d_TO_signAt_239 (by decide) ?_
      cases h
      exact vr_iret d_TO_signAt_244 rfl rfl ⟨rfl, rfl⟩
  replace h := l_ifn c29_61 h
  by_cases c29_62 : (hA σ b6 (Int32.toNatClampNeg y1)) = 62
  · replace h := l_ifp c29_62 h
    refine vr_lookup (x := (hA σ b6 (Int32.toNatClampNeg y1))) (tgt := 259) (off := 230) d_TO_signAt_29 (by decide) (by rw [c29_62]; decide) (by decide) ?_
    refine vr_iload_n d_TO_signAt_259 rfl rfl ?_
    refine vr_bipush 61 d_TO_signAt_260 (by decide) ?_
    refine vr_icmp_ne (tgt := 270) d_TO_signAt_262 (by decide) (fun c262 => ?_) (fun c262 => ?_)
    · replace h := l_ifn c262 h
      refine vr_bipush 29 d_TO_signAt_270 (by decide) ?_
      cases h
      exact vr_iret d_TO_signAt_272 rfl rfl ⟨rfl, rfl⟩
    · replace h := l_ifp c262 h
      refine vr_bipush 30 d_TO_signAt_265 (by decide) ?_
      refine vr_goto (tgt := 272) d_TO_signAt_267 (by decide) ?_
      cases h
      exact vr_iret d_TO_signAt_272 rfl rfl ⟨rfl, rfl⟩
  replace h := l_ifn c29_62 h
  by_cases c29_91 : (hA σ b6 (Int32.toNatClampNeg y1)) = 91
  · replace h := l_ifp c29_91 h
    refine vr_lookup (x := (hA σ b6 (Int32.toNatClampNeg y1))) (tgt := 204) (off := 175) d_TO_signAt_29 (by decide) (by rw [c29_91]; decide) (by decide) ?_
    refine vr_bipush 16 d_TO_signAt_204 (by decide) ?_
    cases h
    exact vr_iret d_TO_signAt_206 rfl rfl ⟨rfl, rfl⟩
  replace h := l_ifn c29_91 h
  by_cases c29_93 : (hA σ b6 (Int32.toNatClampNeg y1)) = 93
  · replace h := l_ifp c29_93 h
    refine vr_lookup (x := (hA σ b6 (Int32.toNatClampNeg y1))) (tgt := 207) (off := 178) d_TO_signAt_29 (by decide) (by rw [c29_93]; decide) (by decide) ?_
    refine vr_bipush 17 d_TO_signAt_207 (by decide) ?_
    cases h
    exact vr_iret d_TO_signAt_209 rfl rfl ⟨rfl, rfl⟩
  replace h := l_ifn c29_93 h
  by_cases c29_123 : (hA σ b6 (Int32.toNatClampNeg y1)) = 123
  · replace h := l_ifp c29_123 h
    refine vr_lookup (x := (hA σ b6 (Int32.toNatClampNeg y1))) (tgt := 198) (off := 169) d_TO_signAt_29 (by decide) (by rw [c29_123]; decide) (by decide) ?_
    refine vr_bipush 14 d_TO_signAt_198 (by decide) ?_
    cases h
    exact vr_iret d_TO_signAt_200 rfl rfl ⟨rfl, rfl⟩
  replace h := l_ifn c29_123 h
  by_cases c29_124 : (hA σ b6 (Int32.toNatClampNeg y1)) = 124
  · replace h := l_ifp c29_124 h
    refine vr_lookup (x := (hA σ b6 (Int32.toNatClampNeg y1))) (tgt := 300) (off := 271) d_TO_signAt_29 (by decide) (by rw [c29_124]; decide) (by decide) ?_
    refine vr_iload_n d_TO_signAt_300 rfl rfl ?_
    refine vr_bipush 124 d_TO_signAt_301 (by decide) ?_
    refine vr_icmp_ne (tgt := 311) d_TO_signAt_303 (by decide) (fun c303 => ?_) (fun c303 => ?_)
    · replace h := l_ifn c303 h
      refine vr_iconst 1 d_TO_signAt_311 (by decide) ?_
      cases h
      exact vr_iret d_TO_signAt_312 rfl rfl ⟨rfl, rfl⟩
    · replace h := l_ifp c303 h
      refine vr_bipush 34 d_TO_signAt_306 (by decide) ?_
      refine vr_goto (tgt := 312) d_TO_signAt_308 (by decide) ?_
      cases h
      exact vr_iret d_TO_signAt_312 rfl rfl ⟨rfl, rfl⟩
  replace h := l_ifn c29_124 h
  by_cases c29_125 : (hA σ b6 (Int32.toNatClampNeg y1)) = 125
  · replace h := l_ifp c29_125 h
    refine vr_lookup (x := (hA σ b6 (Int32.toNatClampNeg y1))) (tgt := 201) (off := 172) d_TO_signAt_29 (by decide) (by rw [c29_125]; decide) (by decide) ?_
    refine vr_bipush 15 d_TO_signAt_201 (by decide) ?_
    cases h
    exact vr_iret d_TO_signAt_203 rfl rfl ⟨rfl, rfl⟩
  replace h := l_ifn c29_125 h
  refine vr_lookup (x := (hA σ b6 (Int32.toNatClampNeg y1))) (tgt := 313) (off := 284) d_TO_signAt_29 (by decide) (by have u0 : ¬ (33 : Int) = ((hA σ b6 (Int32.toNatClampNeg y1))).toInt := fun z => l_nk c29_33 rfl z.symm; have u1 : ¬ (37 : Int) = ((hA σ b6 (Int32.toNatClampNeg y1))).toInt := fun z => l_nk c29_37 rfl z.symm; have u2 : ¬ (38 : Int) = ((hA σ b6 (Int32.toNatClampNeg y1))).toInt := fun z => l_nk c29_38 rfl z.symm; have u3 : ¬ (40 : Int) = ((hA σ b6 (Int32.toNatClampNeg y1))).toInt := fun z => l_nk c29_40 rfl z.symm; have u4 : ¬ (41 : Int) = ((hA σ b6 (Int32.toNatClampNeg y1))).toInt := fun z => l_nk c29_41 rfl z.symm; have u5 : ¬ (42 : Int) = ((hA σ b6 (Int32.toNatClampNeg y1))).toInt := fun z => l_nk c29_42 rfl z.symm; have u6 : ¬ (43 : Int) = ((hA σ b6 (Int32.toNatClampNeg y1))).toInt := fun z => l_nk c29_43 rfl z.symm; have u7 : ¬ (44 : Int) = ((hA σ b6 (Int32.toNatClampNeg y1))).toInt := fun z => l_nk c29_44 rfl z.symm; have u8 : ¬ (45 : Int) = ((hA σ b6 (Int32.toNatClampNeg y1))).toInt := fun z => l_nk c29_45 rfl z.symm; have u9 : ¬ (47 : Int) = ((hA σ b6 (Int32.toNatClampNeg y1))).toInt := fun z => l_nk c29_47 rfl z.symm; have u10 : ¬ (59 : Int) = ((hA σ b6 (Int32.toNatClampNeg y1))).toInt := fun z => l_nk c29_59 rfl z.symm; have u11 : ¬ (60 : Int) = ((hA σ b6 (Int32.toNatClampNeg y1))).toInt := fun z => l_nk c29_60 rfl z.symm; have u12 : ¬ (61 : Int) = ((hA σ b6 (Int32.toNatClampNeg y1))).toInt := fun z => l_nk c29_61 rfl z.symm; have u13 : ¬ (62 : Int) = ((hA σ b6 (Int32.toNatClampNeg y1))).toInt := fun z => l_nk c29_62 rfl z.symm; have u14 : ¬ (91 : Int) = ((hA σ b6 (Int32.toNatClampNeg y1))).toInt := fun z => l_nk c29_91 rfl z.symm; have u15 : ¬ (93 : Int) = ((hA σ b6 (Int32.toNatClampNeg y1))).toInt := fun z => l_nk c29_93 rfl z.symm; have u16 : ¬ (123 : Int) = ((hA σ b6 (Int32.toNatClampNeg y1))).toInt := fun z => l_nk c29_123 rfl z.symm; have u17 : ¬ (124 : Int) = ((hA σ b6 (Int32.toNatClampNeg y1))).toInt := fun z => l_nk c29_124 rfl z.symm; have u18 : ¬ (125 : Int) = ((hA σ b6 (Int32.toNatClampNeg y1))).toInt := fun z => l_nk c29_125 rfl z.symm; simp only [Op.lookupswitch.offset, if_neg u0, if_neg u1, if_neg u2, if_neg u3, if_neg u4, if_neg u5, if_neg u6, if_neg u7, if_neg u8, if_neg u9, if_neg u10, if_neg u11, if_neg u12, if_neg u13, if_neg u14, if_neg u15, if_neg u16, if_neg u17, if_neg u18]) (by decide) ?_
  refine vr_iconst 1 d_TO_signAt_313 (by decide) ?_
  cases h
  exact vr_iret d_TO_signAt_314 rfl rfl ⟨rfl, rfl⟩

def f_TO_signAt (N : Nat) (a0 : Nat) (x1 : Int32) (σ : mh_H) : Option (Int32 × mh_H) := chk (hT σ a0 = 9) <| if (hI σ 4 1 a0) ≤ (x1 + 1) then (k_TO_signAt_22 N a0 x1 0 σ) else (rfO (hR σ 4 0 a0) fun b2 => chk (hT σ b2 = 4) <| chk (ib (x1 + 1) (hN σ b2)) <| k_TO_signAt_22 N a0 x1 ((hA σ b2 (Int32.toNatClampNeg (x1 + 1)))) σ)
theorem c_TO_signAt {g : mv_G} {N : Nat} {a0 : Nat} {x1 : Int32} {σ : mh_H} {r : Int32 × mh_H} (h : f_TO_signAt N a0 x1 σ = some r) : mv_Met g M_TO_signAt 0 0 0 0 [.ref a0, .int x1] σ (fun oc τ => τ = r.2 ∧ oc = .returned (some (.int r.1))) := by
  refine mv_entry (L := [some (.ref a0), some (.int x1), none]) rfl rfl (Nat.le_of_ble_eq_true rfl) rfl ?_
  unfold f_TO_signAt at h
  refine vr_iload_n d_TO_signAt_0 rfl rfl ?_
  refine vr_iconst 1 d_TO_signAt_1 (by decide) ?_
  refine vr_iadd d_TO_signAt_2 ?_
  refine vr_aload_n d_TO_signAt_3 rfl rfl ?_
  have q1 := (l_chk h).1
  replace h := (l_chk h).2
  refine vr_getI d_TO_signAt_4 F_TO_15 rfl q1 ?_
  refine vr_icmp_ge (tgt := 21) d_TO_signAt_7 (by decide) (fun c7 => ?_) (fun c7 => ?_)
  · replace h := l_ifp c7 h
    refine vr_iconst 0 d_TO_signAt_21 (by decide) ?_
    exact mv_drop (q_TO_signAt_22 _ _ _ _ _ h) (And.intro rfl (And.intro rfl trivial))
  · replace h := l_ifn c7 h
    refine vr_aload_n d_TO_signAt_10 rfl rfl ?_
    obtain ⟨b2, eb2, h⟩ := l_rf h
    refine vr_getR (b := b2) d_TO_signAt_11 F_TO_9 rfl q1 eb2 ?_
    refine vr_iload_n d_TO_signAt_14 rfl rfl ?_
    refine vr_iconst 1 d_TO_signAt_15 (by decide) ?_
    refine vr_iadd d_TO_signAt_16 ?_
    have q3 := (l_chk h).1
    replace h := (l_chk h).2
    have q4 := (l_chk h).1
    replace h := (l_chk h).2
    refine vr_bald (t := 1) d_TO_signAt_17 rfl q3 (ib_in q4) ?_
    refine vr_goto (tgt := 22) d_TO_signAt_18 (by decide) ?_
    exact mv_drop (q_TO_signAt_22 _ _ _ _ _ h) (And.intro rfl (And.intro rfl trivial))

def f_TO_takeToken (N : Nat) (a0 : Nat) (x1 : Int32) (σ : mh_H) : Option (Int32 × mh_H) := chk (hT σ a0 = 9) <| rfO (hR σ 4 0 a0) fun b2 => chk (hT σ b2 = 4) <| chk (ib x1 (hN σ b2)) <| calP (f_PR_isLetter N ((hA σ b2 (Int32.toNatClampNeg x1)))) fun v5 => if v5 = 0 then (chk (ib x1 (hN σ b2)) <| calP (f_PR_isDigit N ((hA σ b2 (Int32.toNatClampNeg x1)))) fun v7 => if v7 = 0 then (calI (f_TO_signAt N a0 x1 σ) fun v8 s8 => calP (f_TO_isLongSign N v8) fun v9 => if v9 = 0 then (chk (hT s8 a0 = 9) <| calI (f_TO_take N a0 v8 x1 ((x1 + 1)) 0 s8) fun v11 s11 => some (v11, s11)) else (chk (hT s8 a0 = 9) <| calI (f_TO_take N a0 v8 x1 ((x1 + 2)) 0 s8) fun v13 s13 => some (v13, s13))) else (calI (f_TO_takeNumber N a0 x1 σ) fun v14 s14 => some (v14, s14))) else (calI (f_TO_takeWord N a0 x1 σ) fun v15 s15 => some (v15, s15))
theorem c_TO_takeToken {g : mv_G} {N : Nat} {a0 : Nat} {x1 : Int32} {σ : mh_H} {r : Int32 × mh_H} (h : f_TO_takeToken N a0 x1 σ = some r) : mv_Met g M_TO_takeToken 10 211 0 0 [.ref a0, .int x1] σ (fun oc τ => τ = r.2 ∧ oc = .returned (some (.int r.1))) := by
  refine mv_entry (L := [some (.ref a0), some (.int x1), none]) rfl rfl (Nat.le_of_ble_eq_true rfl) rfl ?_
  unfold f_TO_takeToken at h
  refine vr_aload_n d_TO_takeToken_0 rfl rfl ?_
  have q1 := (l_chk h).1
  replace h := (l_chk h).2
  obtain ⟨b2, eb2, h⟩ := l_rf h
  refine vr_getR (b := b2) d_TO_takeToken_1 F_TO_9 rfl q1 eb2 ?_
  refine vr_iload_n d_TO_takeToken_4 rfl rfl ?_
  have q3 := (l_chk h).1
  replace h := (l_chk h).2
  have q4 := (l_chk h).1
  replace h := (l_chk h).2
  refine vr_bald (t := 1) d_TO_takeToken_5 rfl q3 (ib_in q4) ?_
  obtain ⟨v5, ev5, h⟩ := l_calP h
  refine vr_callSP [.int (hA σ b2 (Int32.toNatClampNeg x1))] d_TO_takeToken_6 C_TO_68 (c_PR_isLetter ev5) rfl rfl (Nat.le_of_ble_eq_true rfl) (by decide) (Nat.le_of_ble_eq_true rfl) ?_
  refine vr_if_eq (tgt := 18) d_TO_takeToken_9 (by decide) (fun c9 => ?_) (fun c9 => ?_)
  · replace h := l_ifp c9 h
    refine vr_aload_n d_TO_takeToken_18 rfl rfl ?_
    refine vr_getR (b := b2) d_TO_takeToken_19 F_TO_9 rfl q1 eb2 ?_
    refine vr_iload_n d_TO_takeToken_22 rfl rfl ?_
    have q6 := (l_chk h).1
    replace h := (l_chk h).2
    refine vr_bald (t := 1) d_TO_takeToken_23 rfl q3 (ib_in q6) ?_
    obtain ⟨v7, ev7, h⟩ := l_calP h
    refine vr_callSP [.int (hA σ b2 (Int32.toNatClampNeg x1))] d_TO_takeToken_24 C_TO_74 (c_PR_isDigit ev7) rfl rfl (Nat.le_of_ble_eq_true rfl) (by decide) (Nat.le_of_ble_eq_true rfl) ?_
    refine vr_if_eq (tgt := 36) d_TO_takeToken_27 (by decide) (fun c27 => ?_) (fun c27 => ?_)
    · replace h := l_ifp c27 h
      refine vr_aload_n d_TO_takeToken_36 rfl rfl ?_
      refine vr_iload_n d_TO_takeToken_37 rfl rfl ?_
      obtain ⟨v8, s8, ev8, h⟩ := l_calI h
      refine mh_callI 4 [.int x1] d_TO_takeToken_38 C_TO_80 (c_TO_signAt ev8) q1 rfl rfl rfl (Nat.le_of_ble_eq_true rfl) (by decide) (Nat.le_of_ble_eq_true rfl) ?_
      refine vr_istore_n (L' := [some (.ref a0), some (.int x1), some (.int v8)]) d_TO_takeToken_41 rfl (by decide) rfl ?_
      refine vr_aload_n d_TO_takeToken_42 rfl rfl ?_
      refine vr_iload_n d_TO_takeToken_43 rfl rfl ?_
      refine vr_iload_n d_TO_takeToken_44 rfl rfl ?_
      refine vr_iload_n d_TO_takeToken_45 rfl rfl ?_
      refine vr_iload_n d_TO_takeToken_46 rfl rfl ?_
      obtain ⟨v9, ev9, h⟩ := l_calP h
      refine vr_callSP [.int v8] d_TO_takeToken_47 C_TO_83 (c_TO_isLongSign ev9) rfl rfl (Nat.le_of_ble_eq_true rfl) (by decide) (Nat.le_of_ble_eq_true rfl) ?_
      refine vr_if_eq (tgt := 57) d_TO_takeToken_50 (by decide) (fun c50 => ?_) (fun c50 => ?_)
      · replace h := l_ifp c50 h
        refine vr_iconst 1 d_TO_takeToken_57 (by decide) ?_
        refine vr_iadd d_TO_takeToken_58 ?_
        refine vr_iconst 0 d_TO_takeToken_59 (by decide) ?_
        have q10 := (l_chk h).1
        replace h := (l_chk h).2
        obtain ⟨v11, s11, ev11, h⟩ := l_calI h
        refine mh_callI 4 [.int v8, .int x1, .int (x1 + 1), .int 0] d_TO_takeToken_60 C_TO_86 (c_TO_take ev11) q10 rfl rfl rfl (Nat.le_of_ble_eq_true rfl) (by decide) (Nat.le_of_ble_eq_true rfl) ?_
        cases h
        exact vr_iret d_TO_takeToken_63 rfl rfl ⟨rfl, rfl⟩
      · replace h := l_ifn c50 h
        refine vr_iconst 2 d_TO_takeToken_53 (by decide) ?_
        refine vr_goto (tgt := 58) d_TO_takeToken_54 (by decide) ?_
        refine vr_iadd d_TO_takeToken_58 ?_
        refine vr_iconst 0 d_TO_takeToken_59 (by decide) ?_
        have q12 := (l_chk h).1
        replace h := (l_chk h).2
        obtain ⟨v13, s13, ev13, h⟩ := l_calI h
        refine mh_callI 4 [.int v8, .int x1, .int (x1 + 2), .int 0] d_TO_takeToken_60 C_TO_86 (c_TO_take ev13) q12 rfl rfl rfl (Nat.le_of_ble_eq_true rfl) (by decide) (Nat.le_of_ble_eq_true rfl) ?_
        cases h
        exact vr_iret d_TO_takeToken_63 rfl rfl ⟨rfl, rfl⟩
    · replace h := l_ifn c27 h
      refine vr_aload_n d_TO_takeToken_30 rfl rfl ?_
      refine vr_iload_n d_TO_takeToken_31 rfl rfl ?_
      obtain ⟨v14, s14, ev14, h⟩ := l_calI h
      refine mh_callI 4 [.int x1] d_TO_takeToken_32 C_TO_77 (c_TO_takeNumber ev14) q1 rfl rfl rfl (Nat.le_of_ble_eq_true rfl) (by decide) (Nat.le_of_ble_eq_true rfl) ?_
      cases h
      exact vr_iret d_TO_takeToken_35 rfl rfl ⟨rfl, rfl⟩
  · replace h := l_ifn c9 h
    refine vr_aload_n d_TO_takeToken_12 rfl rfl ?_
    refine vr_iload_n d_TO_takeToken_13 rfl rfl ?_
    obtain ⟨v15, s15, ev15, h⟩ := l_calI h
    refine mh_callI 4 [.int x1] d_TO_takeToken_14 C_TO_71 (c_TO_takeWord ev15) q1 rfl rfl rfl (Nat.le_of_ble_eq_true rfl) (by decide) (Nat.le_of_ble_eq_true rfl) ?_
    cases h
    exact vr_iret d_TO_takeToken_17 rfl rfl ⟨rfl, rfl⟩

def k_TO_scan_72 (N : Nat) (y0 : Nat) (σ : mh_H) : Option (mh_H × Nat × Nat) := chk (hT σ y0 = 9) <| calV (f_TO_add N y0 0 ((hI σ 4 1 y0)) 0 σ) fun s14 => some (s14, 0, 0)
theorem q_TO_scan_72 {g : mv_G} {N : Nat} (y0 : Nat) (σ : mh_H) (r : mh_H × Nat × Nat) (h : k_TO_scan_72 N y0 σ = some r) : ∀ cb sb : Nat, r.2.1 ≤ cb → r.2.2 ≤ sb → mv_V g M_TO_scan 11 233 cb sb 72 [some (.ref y0), none, none, none, none] [] σ (fun oc τ => τ = r.1 ∧ oc = .returned none) := by
  intro cb sb hc hs
  unfold k_TO_scan_72 at h
  refine vr_aload_n d_TO_scan_72 rfl rfl ?_
  refine vr_iconst 0 d_TO_scan_73 (by decide) ?_
  refine vr_aload_n d_TO_scan_74 rfl rfl ?_
  have q13 := (l_chk h).1
  replace h := (l_chk h).2
  refine vr_getI d_TO_scan_75 F_TO_15 rfl q13 ?_
  refine vr_iconst 0 d_TO_scan_78 (by decide) ?_
  obtain ⟨s14, es14, h⟩ := l_calV h
  refine mh_callU 4 [.int 0, .int (hI σ 4 1 y0), .int 0] d_TO_scan_79 C_TO_51 (c_TO_add es14) q13 rfl rfl rfl (Nat.le_of_ble_eq_true rfl) (by decide) (Nat.le_of_ble_eq_true rfl) ?_
  cases h
  exact vr_vret d_TO_scan_82 rfl ⟨rfl, rfl⟩

def k_TO_scan_39 (N : Nat) : Nat → Nat → Int32 → Int32 → mh_H → Option (mh_H × Nat × Nat)
  | 0, _, _, _, _ => none
  | n + 1, y0, y3, y4, σ => chk (hT σ y0 = 9) <| if (hI σ 4 1 y0) ≤ y4 then (k_TO_scan_72 N y0 σ) else (if (hI σ 4 1 y0) ≤ y3 then (k_TO_scan_72 N y0 σ) else (calI (f_TO_takeToken N y0 y3 σ) fun v10 s10 => chk (hT s10 y0 = 9) <| calI (f_TO_behindBlanks N y0 v10 s10) fun v12 s12 => k_TO_scan_39 N n y0 v12 ((y4 + 1)) s12))
theorem q_TO_scan_39 {g : mv_G} {N : Nat} : ∀ (n : Nat) (y0 : Nat) (y3 : Int32) (y4 : Int32) (σ : mh_H) (r : mh_H × Nat × Nat), k_TO_scan_39 N n y0 y3 y4 σ = some r → ∀ cb sb : Nat, r.2.1 ≤ cb → r.2.2 ≤ sb → mv_V g M_TO_scan 11 233 cb sb 39 [some (.ref y0), none, none, some (.int y3), some (.int y4)] [] σ (fun oc τ => τ = r.1 ∧ oc = .returned none) := by
  intro n
  induction n with
  | zero =>
    intro y0 y3 y4 σ r h
    exact absurd h (by simp [k_TO_scan_39])
  | succ n ih =>
    intro y0 y3 y4 σ r h cb sb hc hs
    unfold k_TO_scan_39 at h
    refine vr_iload d_TO_scan_39 rfl ?_
    refine vr_aload_n d_TO_scan_41 rfl rfl ?_
    have q9 := (l_chk h).1
    replace h := (l_chk h).2
    refine vr_getI d_TO_scan_42 F_TO_15 rfl q9 ?_
    refine vr_icmp_ge (tgt := 72) d_TO_scan_45 (by decide) (fun c45 => ?_) (fun c45 => ?_)
    · replace h := l_ifp c45 h
      exact mv_drop (q_TO_scan_72 _ _ _ h _ _ hc hs) (And.intro rfl trivial)
    · replace h := l_ifn c45 h
      refine vr_iload_n d_TO_scan_48 rfl rfl ?_
      refine vr_aload_n d_TO_scan_49 rfl rfl ?_
      refine vr_getI d_TO_scan_50 F_TO_15 rfl q9 ?_
      refine vr_icmp_ge (tgt := 72) d_TO_scan_53 (by decide) (fun c53 => ?_) (fun c53 => ?_)
      · replace h := l_ifp c53 h
        exact mv_drop (q_TO_scan_72 _ _ _ h _ _ hc hs) (And.intro rfl trivial)
      · replace h := l_ifn c53 h
        refine vr_aload_n d_TO_scan_56 rfl rfl ?_
        refine vr_aload_n d_TO_scan_57 rfl rfl ?_
        refine vr_iload_n d_TO_scan_58 rfl rfl ?_
        obtain ⟨v10, s10, ev10, h⟩ := l_calI h
        refine mh_callI 4 [.int y3] d_TO_scan_59 C_TO_46 (c_TO_takeToken ev10) q9 rfl rfl rfl (Nat.le_of_ble_eq_true rfl) (by decide) (Nat.le_of_ble_eq_true rfl) ?_
        have q11 := (l_chk h).1
        replace h := (l_chk h).2
        obtain ⟨v12, s12, ev12, h⟩ := l_calI h
        refine mh_callI 4 [.int v10] d_TO_scan_62 C_TO_42 (c_TO_behindBlanks ev12) q11 rfl rfl rfl (Nat.le_of_ble_eq_true rfl) (by decide) (Nat.le_of_ble_eq_true rfl) ?_
        refine vr_istore_n (L' := [some (.ref y0), none, none, some (.int v12), some (.int y4)]) d_TO_scan_65 rfl (by decide) rfl ?_
        refine vr_iinc (L' := [some (.ref y0), none, none, some (.int v12), some (.int (y4 + 1))]) (y4 + 1) d_TO_scan_66 (by decide) rfl rfl rfl ?_
        refine vr_goto (tgt := 39) d_TO_scan_69 (by decide) ?_
        exact mv_drop (ih _ _ _ _ _ h _ _ hc hs) (And.intro rfl (And.intro rfl (And.intro rfl trivial)))

def f_TO_scan (N : Nat) (a0 : Nat) (x1 : Nat) (x2 : Int32) (σ : mh_H) : Option (mh_H × Nat × Nat) := chk (hT σ a0 = 9) <| chk (hT (mh_setR σ 4 0 a0 (some x1)) x1 = 4) <| bnd ((nI (hN (mh_setR σ 4 0 a0 (some x1)) x1))) fun v3 => calP (f_MA_min N x2 v3) fun v4 => bnd ((hI (mh_setI (mh_setR σ 4 0 a0 (some x1)) 4 1 a0 v4) 4 1 a0)) fun v5 => calA (f_TO_makeRoom N a0 ((v5 + 1)) (mh_setI (mh_setR σ 4 0 a0 (some x1)) 4 1 a0 v4)) fun s6 => chk (hT s6 a0 = 9) <| calI (f_TO_behindBlanks N a0 0 (mh_setI s6 4 5 a0 0)) fun v8 s8 => k_TO_scan_39 N N a0 v8 0 s8
theorem c_TO_scan {g : mv_G} {N : Nat} {a0 : Nat} {x1 : Nat} {x2 : Int32} {σ : mh_H} {r : mh_H × Nat × Nat} (h : f_TO_scan N a0 x1 x2 σ = some r) : mv_Met g M_TO_scan 11 233 r.2.1 r.2.2 [.ref a0, .ref x1, .int x2] σ (fun oc τ => τ = r.1 ∧ oc = .returned none) := by
  have key : ∀ cb sb : Nat, r.2.1 ≤ cb → r.2.2 ≤ sb → mv_V g M_TO_scan 11 233 cb sb 0 [some (.ref a0), some (.ref x1), some (.int x2), none, none] [] σ (fun oc τ => τ = r.1 ∧ oc = .returned none) := by
    intro cb sb hc hs
    unfold f_TO_scan at h
    refine vr_aload_n d_TO_scan_0 rfl rfl ?_
    refine vr_aload_n d_TO_scan_1 rfl rfl ?_
    have q1 := (l_chk h).1
    replace h := (l_chk h).2
    refine vr_putR d_TO_scan_2 W_TO_scan_9 rfl rfl rfl q1 ?_
    refine vr_aload_n d_TO_scan_5 rfl rfl ?_
    refine vr_iload_n d_TO_scan_6 rfl rfl ?_
    refine vr_aload_n d_TO_scan_7 rfl rfl ?_
    have q2 := (l_chk h).1
    replace h := (l_chk h).2
    refine vr_alen (t := 1) d_TO_scan_8 rfl q2 ?_
    obtain ⟨v3, ev3, h⟩ := l_bnd h
    refine vr_nm ev3 ?_
    obtain ⟨v4, ev4, h⟩ := l_calP h
    refine vr_callSP [.int x2, .int v3] d_TO_scan_9 C_TO_32 (c_MA_min ev4) rfl rfl (Nat.le_of_ble_eq_true rfl) (by decide) (Nat.le_of_ble_eq_true rfl) ?_
    refine vr_putI d_TO_scan_12 W_TO_scan_15 rfl rfl rfl q1 ?_
    refine vr_aload_n d_TO_scan_15 rfl rfl ?_
    refine vr_aload_n d_TO_scan_16 rfl rfl ?_
    refine vr_getI d_TO_scan_17 F_TO_15 rfl q1 ?_
    obtain ⟨v5, ev5, h⟩ := l_bnd h
    refine vr_nm ev5 ?_
    refine vr_iconst 1 d_TO_scan_20 (by decide) ?_
    refine vr_iadd d_TO_scan_21 ?_
    obtain ⟨s6, c6, n6, ev6, r6, x6, y6, hh6, hz⟩ := l_calA h
    clear h
    cases hz
    have h := hh6
    have h16 : c6 ≤ cb := by have hz : x6 + c6 ≤ cb := hc; omega
    have h26 : n6 ≤ sb := by have hz : y6 + n6 ≤ sb := hs; omega
    replace hc : x6 ≤ cb - c6 := by have hz : x6 + c6 ≤ cb := hc; omega
    replace hs : y6 ≤ sb - n6 := by have hz : y6 + n6 ≤ sb := hs; omega
    refine mh_callUa 4 [.int (v5 + 1)] d_TO_scan_22 C_TO_38 (c_TO_makeRoom ev6) q1 rfl rfl rfl (Nat.le_of_ble_eq_true rfl) (by decide) (Nat.le_of_ble_eq_true rfl) h16 h26 ?_
    refine vr_aload_n d_TO_scan_25 rfl rfl ?_
    refine vr_iconst 0 d_TO_scan_26 (by decide) ?_
    have q7 := (l_chk h).1
    replace h := (l_chk h).2
    refine vr_putI d_TO_scan_27 W_TO_scan_29 rfl rfl rfl q7 ?_
    refine vr_aload_n d_TO_scan_30 rfl rfl ?_
    refine vr_iconst 0 d_TO_scan_31 (by decide) ?_
    obtain ⟨v8, s8, ev8, h⟩ := l_calI h
    refine mh_callI 4 [.int 0] d_TO_scan_32 C_TO_42 (c_TO_behindBlanks ev8) q7 rfl rfl rfl (Nat.le_of_ble_eq_true rfl) (by decide) (Nat.le_of_ble_eq_true rfl) ?_
    refine vr_istore_n (L' := [some (.ref a0), some (.ref x1), some (.int x2), some (.int v8), none]) d_TO_scan_35 rfl (by decide) rfl ?_
    refine vr_iconst 0 d_TO_scan_36 (by decide) ?_
    refine vr_istore (L' := [some (.ref a0), some (.ref x1), some (.int x2), some (.int v8), some (.int 0)]) d_TO_scan_37 (by decide) rfl ?_
    exact mv_drop (q_TO_scan_39 N _ _ _ _ _ h _ _ hc hs) (And.intro rfl (And.intro rfl (And.intro rfl trivial)))
  exact mv_entry (L := [some (.ref a0), some (.ref x1), some (.int x2), none, none]) rfl rfl (Nat.le_of_ble_eq_true rfl) rfl (key _ _ (Nat.le_refl _) (Nat.le_refl _))

