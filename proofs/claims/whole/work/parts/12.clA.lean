/-! the class, lifted: rows of bytes -/
def f_MA_max (N : Nat) (x0 : Int32) (x1 : Int32) : Option (Int32) := if x0 < x1 then (some (x1)) else (some (x0))
theorem c_MA_max {g : mv_G} {σ : mh_H} {N : Nat} {x0 : Int32} {x1 : Int32} {r : Int32} (h : f_MA_max N x0 x1 = some r) : mv_Met g M_MA_max 0 0 0 0 [.int x0, .int x1] σ (fun oc τ => τ = σ ∧ oc = .returned (some (.int r))) := by
  refine mv_entryF (L := [some (.int x0), some (.int x1)]) (by decide +kernel) rfl (Nat.le_of_ble_eq_true rfl) rfl ?_
  unfold f_MA_max at h
  refine vr_iload_n d_MA_max_0 rfl rfl ?_
  refine vr_iload_n d_MA_max_1 rfl rfl ?_
  refine vr_icmp_lt (tgt := 9) d_MA_max_2 (by decide) (fun c2 => ?_) (fun c2 => ?_)
  · replace h := l_ifp c2 h
    refine vr_iload_n d_MA_max_9 rfl rfl ?_
    cases h
    exact vr_iret d_MA_max_10 rfl rfl ⟨rfl, rfl⟩
  · replace h := l_ifn c2 h
    refine vr_iload_n d_MA_max_5 rfl rfl ?_
    refine vr_goto (tgt := 10) d_MA_max_6 (by decide) ?_
    cases h
    exact vr_iret d_MA_max_10 rfl rfl ⟨rfl, rfl⟩

def f_MA_min (N : Nat) (x0 : Int32) (x1 : Int32) : Option (Int32) := if x1 < x0 then (some (x1)) else (some (x0))
theorem c_MA_min {g : mv_G} {σ : mh_H} {N : Nat} {x0 : Int32} {x1 : Int32} {r : Int32} (h : f_MA_min N x0 x1 = some r) : mv_Met g M_MA_min 0 0 0 0 [.int x0, .int x1] σ (fun oc τ => τ = σ ∧ oc = .returned (some (.int r))) := by
  refine mv_entryF (L := [some (.int x0), some (.int x1)]) (by decide +kernel) rfl (Nat.le_of_ble_eq_true rfl) rfl ?_
  unfold f_MA_min at h
  refine vr_iload_n d_MA_min_0 rfl rfl ?_
  refine vr_iload_n d_MA_min_1 rfl rfl ?_
  refine vr_icmp_gt (tgt := 9) d_MA_min_2 (by decide) (fun c2 => ?_) (fun c2 => ?_)
  · replace h := l_ifp c2 h
    refine vr_iload_n d_MA_min_9 rfl rfl ?_
    cases h
    exact vr_iret d_MA_min_10 rfl rfl ⟨rfl, rfl⟩
  · replace h := l_ifn c2 h
    refine vr_iload_n d_MA_min_5 rfl rfl ?_
    refine vr_goto (tgt := 10) d_MA_min_6 (by decide) ?_
    cases h
    exact vr_iret d_MA_min_10 rfl rfl ⟨rfl, rfl⟩

def f_MA_minJ (N : Nat) (x0 : Int64) (x2 : Int64) : Option (Int64) := if 0 < (lg_cmp x0 x2) then (some (x2)) else (some (x0))
theorem c_MA_minJ {g : mv_G} {σ : mh_H} {N : Nat} {x0 : Int64} {x2 : Int64} {r : Int64} (h : f_MA_minJ N x0 x2 = some r) : mv_Met g M_MA_minJ 0 0 0 0 [.long x0, .long x2] σ (fun oc τ => τ = σ ∧ oc = .returned (some (.long r))) := by
  refine mv_entryF (L := [some (.long x0), none, some (.long x2), none]) (by decide +kernel) rfl (Nat.le_of_ble_eq_true rfl) rfl ?_
  unfold f_MA_minJ at h
  refine vr_lload_n d_MA_minJ_0 rfl rfl ?_
  refine vr_lload_n d_MA_minJ_1 rfl rfl ?_
  refine vr_lcmp d_MA_minJ_2 ?_
  refine vr_if_gt (tgt := 10) d_MA_minJ_3 (by decide) (fun c3 => ?_) (fun c3 => ?_)
  · replace h := l_ifp c3 h
    refine vr_lload_n d_MA_minJ_10 rfl rfl ?_
    cases h
    exact vr_lret d_MA_minJ_11 rfl rfl ⟨rfl, rfl⟩
  · replace h := l_ifn c3 h
    refine vr_lload_n d_MA_minJ_6 rfl rfl ?_
    refine vr_goto (tgt := 11) d_MA_minJ_7 (by decide) ?_
    cases h
    exact vr_lret d_MA_minJ_11 rfl rfl ⟨rfl, rfl⟩

def f_MA_abs (N : Nat) (x0 : Int32) : Option (Int32) := if 0 ≤ x0 then (some (x0)) else (some ((-x0)))
theorem c_MA_abs {g : mv_G} {σ : mh_H} {N : Nat} {x0 : Int32} {r : Int32} (h : f_MA_abs N x0 = some r) : mv_Met g M_MA_abs 0 0 0 0 [.int x0] σ (fun oc τ => τ = σ ∧ oc = .returned (some (.int r))) := by
  refine mv_entryF (L := [some (.int x0)]) (by decide +kernel) rfl (Nat.le_of_ble_eq_true rfl) rfl ?_
  unfold f_MA_abs at h
  refine vr_iload_n d_MA_abs_0 rfl rfl ?_
  refine vr_if_ge (tgt := 9) d_MA_abs_1 (by decide) (fun c1 => ?_) (fun c1 => ?_)
  · replace h := l_ifp c1 h
    refine vr_iload_n d_MA_abs_9 rfl rfl ?_
    cases h
    exact vr_iret d_MA_abs_10 rfl rfl ⟨rfl, rfl⟩
  · replace h := l_ifn c1 h
    refine vr_iload_n d_MA_abs_4 rfl rfl ?_
    refine vr_ineg d_MA_abs_5 ?_
    refine vr_goto (tgt := 10) d_MA_abs_6 (by decide) ?_
    cases h
    exact vr_iret d_MA_abs_10 rfl rfl ⟨rfl, rfl⟩

def k_AR_fill_5 (N : Nat) : Nat → Nat → Int32 → Int32 → Int32 → mh_H → Option (mh_H)
  | 0, _, _, _, _, _ => none
  | n + 1, y0, y1, y2, y3, σ => if y3 ≤ y2 then (some (σ)) else (chk (hT σ y0 = 2) <| chk (ib y2 (hN σ y0)) <| k_AR_fill_5 N n y0 y1 ((y2 + 1)) y3 ((mh_setA σ y0 (Int32.toNatClampNeg y2) y1)))
theorem q_AR_fill_5 {g : mv_G} {N : Nat} : ∀ (n : Nat) (y0 : Nat) (y1 : Int32) (y2 : Int32) (y3 : Int32) (σ : mh_H) (r : mh_H), k_AR_fill_5 N n y0 y1 y2 y3 σ = some r → mv_V g M_AR_fill 0 0 0 0 5 [some (.ref y0), some (.int y1), some (.int y2), some (.int y3)] [] σ (fun oc τ => τ = r ∧ oc = .returned none) := by
  intro n
  induction n with
  | zero =>
    intro y0 y1 y2 y3 σ r h
    exact absurd h (by simp [k_AR_fill_5])
  | succ n ih =>
    intro y0 y1 y2 y3 σ r h 
    unfold k_AR_fill_5 at h
    refine vr_iload_n d_AR_fill_5 rfl rfl ?_
    refine vr_iload_n d_AR_fill_6 rfl rfl ?_
    refine vr_icmp_ge (tgt := 20) d_AR_fill_7 (by decide) (fun c7 => ?_) (fun c7 => ?_)
    · replace h := l_ifp c7 h
      cases h
      exact vr_vret d_AR_fill_20 rfl ⟨rfl, rfl⟩
    · replace h := l_ifn c7 h
      refine vr_aload_n d_AR_fill_10 rfl rfl ?_
      refine vr_iload_n d_AR_fill_11 rfl rfl ?_
      refine vr_iload_n d_AR_fill_12 rfl rfl ?_
      have q3 := (l_chk h).1
      replace h := (l_chk h).2
      have q4 := (l_chk h).1
      replace h := (l_chk h).2
      refine vr_iast (t := 0) d_AR_fill_13 rfl q3 (ib_in q4) ?_
      refine vr_iinc (L' := [some (.ref y0), some (.int y1), some (.int (y2 + 1)), some (.int y3)]) (y2 + 1) d_AR_fill_14 (by decide) rfl rfl rfl ?_
      refine vr_goto (tgt := 5) d_AR_fill_17 (by decide) ?_
      exact mv_drop (ih _ _ _ _ _ _ h) (And.intro rfl (And.intro rfl (And.intro rfl (And.intro rfl trivial))))

def f_AR_fill (N : Nat) (x0 : Nat) (x1 : Int32) (σ : mh_H) : Option (mh_H) := chk (hT σ x0 = 2) <| bnd ((nI (hN σ x0))) fun v2 => k_AR_fill_5 N N x0 x1 0 v2 σ
theorem c_AR_fill {g : mv_G} {N : Nat} {x0 : Nat} {x1 : Int32} {σ : mh_H} {r : mh_H} (h : f_AR_fill N x0 x1 σ = some r) : mv_Met g M_AR_fill 0 0 0 0 [.ref x0, .int x1] σ (fun oc τ => τ = r ∧ oc = .returned none) := by
  refine mv_entryF (L := [some (.ref x0), some (.int x1), none, none]) (by decide +kernel) rfl (Nat.le_of_ble_eq_true rfl) rfl ?_
  unfold f_AR_fill at h
  refine vr_iconst 0 d_AR_fill_0 (by decide) ?_
  refine vr_istore_n (L' := [some (.ref x0), some (.int x1), some (.int 0), none]) d_AR_fill_1 rfl (by decide) rfl ?_
  refine vr_aload_n d_AR_fill_2 rfl rfl ?_
  have q1 := (l_chk h).1
  replace h := (l_chk h).2
  refine vr_alen (t := 0) d_AR_fill_3 rfl q1 ?_
  obtain ⟨v2, ev2, h⟩ := l_bnd h
  refine vr_nm ev2 ?_
  refine vr_istore_n (L' := [some (.ref x0), some (.int x1), some (.int 0), some (.int v2)]) d_AR_fill_4 rfl (by decide) rfl ?_
  exact mv_drop (q_AR_fill_5 N _ _ _ _ _ _ h) (And.intro rfl (And.intro rfl (And.intro rfl (And.intro rfl trivial))))

def f_AR_copyOfB (N : Nat) (x0 : Nat) (x1 : Int32) (σ : mh_H) : Option ((Nat × mh_H) × Nat × Nat) := chk (hT σ x0 = 4) <| if x1 = (nI (hN σ x0)) then (none) else (chk (¬ x1 < 0 ∧ Int32.toNatClampNeg x1 ≤ 100000) <| tkA 1 (Int32.toNatClampNeg x1) <| bnd (hX σ) fun a4 => bnd (mh_arr σ 1 (Int32.toNatClampNeg x1)) fun s5 => chk (hT s5 x0 = 4) <| calP (f_MA_min N ((nI (hN s5 x0))) x1) fun v7 => chk (hT s5 a4 = 4) <| chk (¬ (0 : Int32) < 0 ∧ ¬ (0 : Int32) < 0 ∧ ¬ v7 < 0 ∧ Int32.toNatClampNeg 0 + Int32.toNatClampNeg v7 ≤ hN s5 x0 ∧ Int32.toNatClampNeg 0 + Int32.toNatClampNeg v7 ≤ hN s5 a4) <| some ((a4, (mh_cpy s5 x0 a4 (Int32.toNatClampNeg 0) (Int32.toNatClampNeg 0) (Int32.toNatClampNeg v7))), 0, 0))
theorem c_AR_copyOfB {g : mv_G} {N : Nat} {x0 : Nat} {x1 : Int32} {σ : mh_H} {r : (Nat × mh_H) × Nat × Nat} (h : f_AR_copyOfB N x0 x1 σ = some r) : mv_Met g M_AR_copyOfB 6 120 r.2.1 r.2.2 [.ref x0, .int x1] σ (fun oc τ => τ = r.1.2 ∧ oc = .returned (some (.ref r.1.1))) := by
  have key : ∀ cb sb : Nat, r.2.1 ≤ cb → r.2.2 ≤ sb → mv_V g M_AR_copyOfB 6 120 cb sb 0 [some (.ref x0), some (.int x1), none] [] σ (fun oc τ => τ = r.1.2 ∧ oc = .returned (some (.ref r.1.1))) := by
    intro cb sb hc hs
    unfold f_AR_copyOfB at h
    refine vr_iload_n d_AR_copyOfB_0 rfl rfl ?_
    refine vr_aload_n d_AR_copyOfB_1 rfl rfl ?_
    have q1 := (l_chk h).1
    replace h := (l_chk h).2
    refine vr_alen (t := 1) d_AR_copyOfB_2 rfl q1 ?_
    refine vr_icmp_ne (tgt := 14) d_AR_copyOfB_3 (by decide) (fun c3 => ?_) (fun c3 => ?_)
    · replace h := l_ifn c3 h
      refine vr_iload_n d_AR_copyOfB_14 rfl rfl ?_
      have q2 := (l_chk h).1
      replace h := (l_chk h).2
      obtain ⟨ru3, xu3, yu3, hhu3, hz⟩ := l_tkA h
      clear h
      cases hz
      have h := hhu3
      have h1u3 : 1 ≤ cb := by have hz : xu3 + 1 ≤ cb := hc; omega
      have h2u3 : (Int32.toNatClampNeg x1) ≤ sb := by have hz : yu3 + (Int32.toNatClampNeg x1) ≤ sb := hs; omega
      replace hc : xu3 ≤ cb - 1 := by have hz : xu3 + 1 ≤ cb := hc; omega
      replace hs : yu3 ≤ sb - (Int32.toNatClampNeg x1) := by have hz : yu3 + (Int32.toNatClampNeg x1) ≤ sb := hs; omega
      refine mh_newB d_AR_copyOfB_15 q2 h1u3 h2u3 ?_
      obtain ⟨a4, ea4, h⟩ := l_bnd h
      refine vr_nmA ea4 ?_
      obtain ⟨s5, es5, h⟩ := l_bnd h
      refine vr_nmS es5 ?_
      refine vr_astore_n (L' := [some (.ref x0), some (.int x1), some (.ref a4)]) d_AR_copyOfB_17 rfl (by decide) rfl ?_
      refine vr_aload_n d_AR_copyOfB_18 rfl rfl ?_
      refine vr_iconst 0 d_AR_copyOfB_19 (by decide) ?_
      refine vr_aload_n d_AR_copyOfB_20 rfl rfl ?_
      refine vr_iconst 0 d_AR_copyOfB_21 (by decide) ?_
      refine vr_aload_n d_AR_copyOfB_22 rfl rfl ?_
      have q6 := (l_chk h).1
      replace h := (l_chk h).2
      refine vr_alen (t := 1) d_AR_copyOfB_23 rfl q6 ?_
      refine vr_iload_n d_AR_copyOfB_24 rfl rfl ?_
      obtain ⟨v7, ev7, h⟩ := l_calP h
      refine vr_callSP [.int (nI (hN s5 x0)), .int x1] d_AR_copyOfB_25 C_AR_304 (c_MA_min ev7) rfl rfl (Nat.le_of_ble_eq_true rfl) (by decide) (Nat.le_of_ble_eq_true rfl) ?_
      have q8 := (l_chk h).1
      replace h := (l_chk h).2
      have q9 := (l_chk h).1
      replace h := (l_chk h).2
      refine vr_acopy (t := 1) d_AR_copyOfB_28 w_273 w_275 w_274 w_12 rfl rfl rfl (Or.inl rfl) q6 q8 q9.1 q9.2.1 q9.2.2.1 q9.2.2.2.1 q9.2.2.2.2 (by decide) (Nat.le_of_ble_eq_true rfl) ?_
      refine vr_aload_n d_AR_copyOfB_31 rfl rfl ?_
      cases h
      exact vr_aret d_AR_copyOfB_32 rfl (by first | exact Or.inl ⟨_, rfl⟩ | exact Or.inr ⟨_, rfl⟩) ⟨rfl, rfl⟩
    · replace h := l_ifp c3 h
      refine vr_aload_n d_AR_copyOfB_6 rfl rfl ?_
      cases h
  exact mv_entryF (L := [some (.ref x0), some (.int x1), none]) (by decide +kernel) rfl (Nat.le_of_ble_eq_true rfl) rfl (key _ _ (Nat.le_refl _) (Nat.le_refl _))

def f_AR_copyOfI (N : Nat) (x0 : Nat) (x1 : Int32) (σ : mh_H) : Option ((Nat × mh_H) × Nat × Nat) := chk (hT σ x0 = 2) <| if x1 = (nI (hN σ x0)) then (none) else (chk (¬ x1 < 0 ∧ Int32.toNatClampNeg x1 ≤ 100000) <| tkA 1 (Int32.toNatClampNeg x1) <| bnd (hX σ) fun a4 => bnd (mh_arr σ 0 (Int32.toNatClampNeg x1)) fun s5 => chk (hT s5 x0 = 2) <| calP (f_MA_min N ((nI (hN s5 x0))) x1) fun v7 => chk (hT s5 a4 = 2) <| chk (¬ (0 : Int32) < 0 ∧ ¬ (0 : Int32) < 0 ∧ ¬ v7 < 0 ∧ Int32.toNatClampNeg 0 + Int32.toNatClampNeg v7 ≤ hN s5 x0 ∧ Int32.toNatClampNeg 0 + Int32.toNatClampNeg v7 ≤ hN s5 a4) <| some ((a4, (mh_cpy s5 x0 a4 (Int32.toNatClampNeg 0) (Int32.toNatClampNeg 0) (Int32.toNatClampNeg v7))), 0, 0))
theorem c_AR_copyOfI {g : mv_G} {N : Nat} {x0 : Nat} {x1 : Int32} {σ : mh_H} {r : (Nat × mh_H) × Nat × Nat} (h : f_AR_copyOfI N x0 x1 σ = some r) : mv_Met g M_AR_copyOfI 6 120 r.2.1 r.2.2 [.ref x0, .int x1] σ (fun oc τ => τ = r.1.2 ∧ oc = .returned (some (.ref r.1.1))) := by
  have key : ∀ cb sb : Nat, r.2.1 ≤ cb → r.2.2 ≤ sb → mv_V g M_AR_copyOfI 6 120 cb sb 0 [some (.ref x0), some (.int x1), none] [] σ (fun oc τ => τ = r.1.2 ∧ oc = .returned (some (.ref r.1.1))) := by
    intro cb sb hc hs
    unfold f_AR_copyOfI at h
    refine vr_iload_n d_AR_copyOfI_0 rfl rfl ?_
    refine vr_aload_n d_AR_copyOfI_1 rfl rfl ?_
    have q1 := (l_chk h).1
    replace h := (l_chk h).2
    refine vr_alen (t := 0) d_AR_copyOfI_2 rfl q1 ?_
    refine vr_icmp_ne (tgt := 14) d_AR_copyOfI_3 (by decide) (fun c3 => ?_) (fun c3 => ?_)
    · replace h := l_ifn c3 h
      refine vr_iload_n d_AR_copyOfI_14 rfl rfl ?_
      have q2 := (l_chk h).1
      replace h := (l_chk h).2
      obtain ⟨ru3, xu3, yu3, hhu3, hz⟩ := l_tkA h
      clear h
      cases hz
      have h := hhu3
      have h1u3 : 1 ≤ cb := by have hz : xu3 + 1 ≤ cb := hc; omega
      have h2u3 : (Int32.toNatClampNeg x1) ≤ sb := by have hz : yu3 + (Int32.toNatClampNeg x1) ≤ sb := hs; omega
      replace hc : xu3 ≤ cb - 1 := by have hz : xu3 + 1 ≤ cb := hc; omega
      replace hs : yu3 ≤ sb - (Int32.toNatClampNeg x1) := by have hz : yu3 + (Int32.toNatClampNeg x1) ≤ sb := hs; omega
      refine mh_newI d_AR_copyOfI_15 q2 h1u3 h2u3 ?_
      obtain ⟨a4, ea4, h⟩ := l_bnd h
      refine vr_nmA ea4 ?_
      obtain ⟨s5, es5, h⟩ := l_bnd h
      refine vr_nmS es5 ?_
      refine vr_astore_n (L' := [some (.ref x0), some (.int x1), some (.ref a4)]) d_AR_copyOfI_17 rfl (by decide) rfl ?_
      refine vr_aload_n d_AR_copyOfI_18 rfl rfl ?_
      refine vr_iconst 0 d_AR_copyOfI_19 (by decide) ?_
      refine vr_aload_n d_AR_copyOfI_20 rfl rfl ?_
      refine vr_iconst 0 d_AR_copyOfI_21 (by decide) ?_
      refine vr_aload_n d_AR_copyOfI_22 rfl rfl ?_
      have q6 := (l_chk h).1
      replace h := (l_chk h).2
      refine vr_alen (t := 0) d_AR_copyOfI_23 rfl q6 ?_
      refine vr_iload_n d_AR_copyOfI_24 rfl rfl ?_
      obtain ⟨v7, ev7, h⟩ := l_calP h
      refine vr_callSP [.int (nI (hN s5 x0)), .int x1] d_AR_copyOfI_25 C_AR_304 (c_MA_min ev7) rfl rfl (Nat.le_of_ble_eq_true rfl) (by decide) (Nat.le_of_ble_eq_true rfl) ?_
      have q8 := (l_chk h).1
      replace h := (l_chk h).2
      have q9 := (l_chk h).1
      replace h := (l_chk h).2
      refine vr_acopy (t := 0) d_AR_copyOfI_28 w_273 w_275 w_274 w_12 rfl rfl rfl (Or.inr (fun _ => rfl)) q6 q8 q9.1 q9.2.1 q9.2.2.1 q9.2.2.2.1 q9.2.2.2.2 (by decide) (Nat.le_of_ble_eq_true rfl) ?_
      refine vr_aload_n d_AR_copyOfI_31 rfl rfl ?_
      cases h
      exact vr_aret d_AR_copyOfI_32 rfl (by first | exact Or.inl ⟨_, rfl⟩ | exact Or.inr ⟨_, rfl⟩) ⟨rfl, rfl⟩
    · replace h := l_ifp c3 h
      refine vr_aload_n d_AR_copyOfI_6 rfl rfl ?_
      cases h
  exact mv_entryF (L := [some (.ref x0), some (.int x1), none]) (by decide +kernel) rfl (Nat.le_of_ble_eq_true rfl) rfl (key _ _ (Nat.le_refl _) (Nat.le_refl _))

def k_PR_isLetter_24 (N : Nat) (y0 : Int32) : Option (Int32) := if y0 = 95 then (some (1)) else (some (0))
theorem q_PR_isLetter_24 {g : mv_G} {σ : mh_H} {N : Nat} (y0 : Int32) (r : Int32) (h : k_PR_isLetter_24 N y0 = some r) : mv_V g M_PR_isLetter 0 0 0 0 24 [some (.int y0)] [] σ (fun oc τ => τ = σ ∧ oc = .returned (some (.int r))) := by
  unfold k_PR_isLetter_24 at h
  refine vr_iload_n d_PR_isLetter_24 rfl rfl ?_
  refine vr_bipush 95 d_PR_isLetter_25 (by decide) ?_
  refine vr_icmp_ne (tgt := 34) d_PR_isLetter_27 (by decide) (fun c27 => ?_) (fun c27 => ?_)
  · replace h := l_ifn c27 h
    refine vr_iconst 0 d_PR_isLetter_34 (by decide) ?_
    cases h
    exact vr_iret d_PR_isLetter_35 rfl rfl ⟨rfl, rfl⟩
  · replace h := l_ifp c27 h
    refine vr_iconst 1 d_PR_isLetter_30 (by decide) ?_
    refine vr_goto (tgt := 35) d_PR_isLetter_31 (by decide) ?_
    cases h
    exact vr_iret d_PR_isLetter_35 rfl rfl ⟨rfl, rfl⟩

def k_PR_isLetter_12 (N : Nat) (y0 : Int32) : Option (Int32) := if y0 < 65 then (k_PR_isLetter_24 N y0) else (if y0 ≤ 90 then (some (1)) else (k_PR_isLetter_24 N y0))
theorem q_PR_isLetter_12 {g : mv_G} {σ : mh_H} {N : Nat} (y0 : Int32) (r : Int32) (h : k_PR_isLetter_12 N y0 = some r) : mv_V g M_PR_isLetter 0 0 0 0 12 [some (.int y0)] [] σ (fun oc τ => τ = σ ∧ oc = .returned (some (.int r))) := by
  unfold k_PR_isLetter_12 at h
  refine vr_iload_n d_PR_isLetter_12 rfl rfl ?_
  refine vr_bipush 65 d_PR_isLetter_13 (by decide) ?_
  refine vr_icmp_lt (tgt := 24) d_PR_isLetter_15 (by decide) (fun c15 => ?_) (fun c15 => ?_)
  · replace h := l_ifp c15 h
    exact mv_drop (q_PR_isLetter_24 _ _ h) (And.intro rfl trivial)
  · replace h := l_ifn c15 h
    refine vr_iload_n d_PR_isLetter_18 rfl rfl ?_
    refine vr_bipush 90 d_PR_isLetter_19 (by decide) ?_
    refine vr_icmp_le (tgt := 30) d_PR_isLetter_21 (by decide) (fun c21 => ?_) (fun c21 => ?_)
    · replace h := l_ifp c21 h
      refine vr_iconst 1 d_PR_isLetter_30 (by decide) ?_
      refine vr_goto (tgt := 35) d_PR_isLetter_31 (by decide) ?_
      cases h
      exact vr_iret d_PR_isLetter_35 rfl rfl ⟨rfl, rfl⟩
    · replace h := l_ifn c21 h
      exact mv_drop (q_PR_isLetter_24 _ _ h) (And.intro rfl trivial)

def f_PR_isLetter (N : Nat) (x0 : Int32) : Option (Int32) := if x0 < 97 then (k_PR_isLetter_12 N x0) else (if x0 ≤ 122 then (some (1)) else (k_PR_isLetter_12 N x0))
theorem c_PR_isLetter {g : mv_G} {σ : mh_H} {N : Nat} {x0 : Int32} {r : Int32} (h : f_PR_isLetter N x0 = some r) : mv_Met g M_PR_isLetter 0 0 0 0 [.int x0] σ (fun oc τ => τ = σ ∧ oc = .returned (some (.int r))) := by
  refine mv_entry (L := [some (.int x0)]) rfl rfl (Nat.le_of_ble_eq_true rfl) rfl ?_
  unfold f_PR_isLetter at h
  refine vr_iload_n d_PR_isLetter_0 rfl rfl ?_
  refine vr_bipush 97 d_PR_isLetter_1 (by decide) ?_
  refine vr_icmp_lt (tgt := 12) d_PR_isLetter_3 (by decide) (fun c3 => ?_) (fun c3 => ?_)
  · replace h := l_ifp c3 h
    exact mv_drop (q_PR_isLetter_12 _ _ h) (And.intro rfl trivial)
  · replace h := l_ifn c3 h
    refine vr_iload_n d_PR_isLetter_6 rfl rfl ?_
    refine vr_bipush 122 d_PR_isLetter_7 (by decide) ?_
    refine vr_icmp_le (tgt := 30) d_PR_isLetter_9 (by decide) (fun c9 => ?_) (fun c9 => ?_)
    · replace h := l_ifp c9 h
      refine vr_iconst 1 d_PR_isLetter_30 (by decide) ?_
      refine vr_goto (tgt := 35) d_PR_isLetter_31 (by decide) ?_
      cases h
      exact vr_iret d_PR_isLetter_35 rfl rfl ⟨rfl, rfl⟩
    · replace h := l_ifn c9 h
      exact mv_drop (q_PR_isLetter_12 _ _ h) (And.intro rfl trivial)

def f_PR_isDigit (N : Nat) (x0 : Int32) : Option (Int32) := if x0 < 48 then (some (0)) else (if 57 < x0 then (some (0)) else (some (1)))
theorem c_PR_isDigit {g : mv_G} {σ : mh_H} {N : Nat} {x0 : Int32} {r : Int32} (h : f_PR_isDigit N x0 = some r) : mv_Met g M_PR_isDigit 0 0 0 0 [.int x0] σ (fun oc τ => τ = σ ∧ oc = .returned (some (.int r))) := by
  refine mv_entry (L := [some (.int x0)]) rfl rfl (Nat.le_of_ble_eq_true rfl) rfl ?_
  unfold f_PR_isDigit at h
  refine vr_iload_n d_PR_isDigit_0 rfl rfl ?_
  refine vr_bipush 48 d_PR_isDigit_1 (by decide) ?_
  refine vr_icmp_lt (tgt := 16) d_PR_isDigit_3 (by decide) (fun c3 => ?_) (fun c3 => ?_)
  · replace h := l_ifp c3 h
    refine vr_iconst 0 d_PR_isDigit_16 (by decide) ?_
    cases h
    exact vr_iret d_PR_isDigit_17 rfl rfl ⟨rfl, rfl⟩
  · replace h := l_ifn c3 h
    refine vr_iload_n d_PR_isDigit_6 rfl rfl ?_
    refine vr_bipush 57 d_PR_isDigit_7 (by decide) ?_
    refine vr_icmp_gt (tgt := 16) d_PR_isDigit_9 (by decide) (fun c9 => ?_) (fun c9 => ?_)
    · replace h := l_ifp c9 h
      refine vr_iconst 0 d_PR_isDigit_16 (by decide) ?_
      cases h
      exact vr_iret d_PR_isDigit_17 rfl rfl ⟨rfl, rfl⟩
    · replace h := l_ifn c9 h
      refine vr_iconst 1 d_PR_isDigit_12 (by decide) ?_
      refine vr_goto (tgt := 17) d_PR_isDigit_13 (by decide) ?_
      cases h
      exact vr_iret d_PR_isDigit_17 rfl rfl ⟨rfl, rfl⟩

def f_PR_isWordByte (N : Nat) (x0 : Int32) : Option (Int32) := calP (f_PR_isLetter N x0) fun v1 => if v1 = 0 then (calP (f_PR_isDigit N x0) fun v2 => if v2 = 0 then (some (0)) else (some (1))) else (some (1))
theorem c_PR_isWordByte {g : mv_G} {σ : mh_H} {N : Nat} {x0 : Int32} {r : Int32} (h : f_PR_isWordByte N x0 = some r) : mv_Met g M_PR_isWordByte 1 20 0 0 [.int x0] σ (fun oc τ => τ = σ ∧ oc = .returned (some (.int r))) := by
  refine mv_entry (L := [some (.int x0)]) rfl rfl (Nat.le_of_ble_eq_true rfl) rfl ?_
  unfold f_PR_isWordByte at h
  refine vr_iload_n d_PR_isWordByte_0 rfl rfl ?_
  obtain ⟨v1, ev1, h⟩ := l_calP h
  refine vr_callSP [.int x0] d_PR_isWordByte_1 C_PR_157 (c_PR_isLetter ev1) rfl rfl (Nat.le_of_ble_eq_true rfl) (by decide) (Nat.le_of_ble_eq_true rfl) ?_
  refine vr_if_ne (tgt := 14) d_PR_isWordByte_4 (by decide) (fun c4 => ?_) (fun c4 => ?_)
  · replace h := l_ifn c4 h
    refine vr_iconst 1 d_PR_isWordByte_14 (by decide) ?_
    refine vr_goto (tgt := 19) d_PR_isWordByte_15 (by decide) ?_
    cases h
    exact vr_iret d_PR_isWordByte_19 rfl rfl ⟨rfl, rfl⟩
  · replace h := l_ifp c4 h
    refine vr_iload_n d_PR_isWordByte_7 rfl rfl ?_
    obtain ⟨v2, ev2, h⟩ := l_calP h
    refine vr_callSP [.int x0] d_PR_isWordByte_8 C_PR_160 (c_PR_isDigit ev2) rfl rfl (Nat.le_of_ble_eq_true rfl) (by decide) (Nat.le_of_ble_eq_true rfl) ?_
    refine vr_if_eq (tgt := 18) d_PR_isWordByte_11 (by decide) (fun c11 => ?_) (fun c11 => ?_)
    · replace h := l_ifp c11 h
      refine vr_iconst 0 d_PR_isWordByte_18 (by decide) ?_
      cases h
      exact vr_iret d_PR_isWordByte_19 rfl rfl ⟨rfl, rfl⟩
    · replace h := l_ifn c11 h
      refine vr_iconst 1 d_PR_isWordByte_14 (by decide) ?_
      refine vr_goto (tgt := 19) d_PR_isWordByte_15 (by decide) ?_
      cases h
      exact vr_iret d_PR_isWordByte_19 rfl rfl ⟨rfl, rfl⟩

def f_PR_isBlank (N : Nat) (x0 : Int32) : Option (Int32) := if x0 = 9 then (some (1)) else (if x0 = 10 then (some (1)) else (if x0 = 13 then (some (1)) else (if x0 = 32 then (some (1)) else (some (0)))))
theorem c_PR_isBlank {g : mv_G} {σ : mh_H} {N : Nat} {x0 : Int32} {r : Int32} (h : f_PR_isBlank N x0 = some r) : mv_Met g M_PR_isBlank 0 0 0 0 [.int x0] σ (fun oc τ => τ = σ ∧ oc = .returned (some (.int r))) := by
  refine mv_entry (L := [some (.int x0)]) rfl rfl (Nat.le_of_ble_eq_true rfl) rfl ?_
  unfold f_PR_isBlank at h
  refine vr_iload_n d_PR_isBlank_0 rfl rfl ?_
  refine vr_bipush 9 d_PR_isBlank_1 (by decide) ?_
  refine vr_icmp_eq (tgt := 24) d_PR_isBlank_3 (by decide) (fun c3 => ?_) (fun c3 => ?_)
  · replace h := l_ifp c3 h
    refine vr_iconst 1 d_PR_isBlank_24 (by decide) ?_
    refine vr_goto (tgt := 29) d_PR_isBlank_25 (by decide) ?_
    cases h
    exact vr_iret d_PR_isBlank_29 rfl rfl ⟨rfl, rfl⟩
  · replace h := l_ifn c3 h
    refine vr_iload_n d_PR_isBlank_6 rfl rfl ?_
    refine vr_bipush 10 d_PR_isBlank_7 (by decide) ?_
    refine vr_icmp_eq (tgt := 24) d_PR_isBlank_9 (by decide) (fun c9 => ?_) (fun c9 => ?_)
    · replace h := l_ifp c9 h
      refine vr_iconst 1 d_PR_isBlank_24 (by decide) ?_
      refine vr_goto (tgt := 29) d_PR_isBlank_25 (by decide) ?_
      cases h
      exact vr_iret d_PR_isBlank_29 rfl rfl ⟨rfl, rfl⟩
    · replace h := l_ifn c9 h
      refine vr_iload_n d_PR_isBlank_12 rfl rfl ?_
      refine vr_bipush 13 d_PR_isBlank_13 (by decide) ?_
      refine vr_icmp_eq (tgt := 24) d_PR_isBlank_15 (by decide) (fun c15 => ?_) (fun c15 => ?_)
      · replace h := l_ifp c15 h
        refine vr_iconst 1 d_PR_isBlank_24 (by decide) ?_
        refine vr_goto (tgt := 29) d_PR_isBlank_25 (by decide) ?_
        cases h
        exact vr_iret d_PR_isBlank_29 rfl rfl ⟨rfl, rfl⟩
      · replace h := l_ifn c15 h
        refine vr_iload_n d_PR_isBlank_18 rfl rfl ?_
        refine vr_bipush 32 d_PR_isBlank_19 (by decide) ?_
        refine vr_icmp_ne (tgt := 28) d_PR_isBlank_21 (by decide) (fun c21 => ?_) (fun c21 => ?_)
        · replace h := l_ifn c21 h
          refine vr_iconst 0 d_PR_isBlank_28 (by decide) ?_
          cases h
          exact vr_iret d_PR_isBlank_29 rfl rfl ⟨rfl, rfl⟩
        · replace h := l_ifp c21 h
          refine vr_iconst 1 d_PR_isBlank_24 (by decide) ?_
          refine vr_goto (tgt := 29) d_PR_isBlank_25 (by decide) ?_
          cases h
          exact vr_iret d_PR_isBlank_29 rfl rfl ⟨rfl, rfl⟩

def f_PR_roomier (N : Nat) (x0 : Int32) (x1 : Int32) : Option (Int32) := calP (f_MA_max N x1 ((2 * x0))) fun v1 => some (v1)
theorem c_PR_roomier {g : mv_G} {σ : mh_H} {N : Nat} {x0 : Int32} {x1 : Int32} {r : Int32} (h : f_PR_roomier N x0 x1 = some r) : mv_Met g M_PR_roomier 1 21 0 0 [.int x0, .int x1] σ (fun oc τ => τ = σ ∧ oc = .returned (some (.int r))) := by
  refine mv_entry (L := [some (.int x0), some (.int x1)]) rfl rfl (Nat.le_of_ble_eq_true rfl) rfl ?_
  unfold f_PR_roomier at h
  refine vr_iload_n d_PR_roomier_0 rfl rfl ?_
  refine vr_iconst 2 d_PR_roomier_1 (by decide) ?_
  refine vr_iload_n d_PR_roomier_2 rfl rfl ?_
  refine vr_imul d_PR_roomier_3 ?_
  obtain ⟨v1, ev1, h⟩ := l_calP h
  refine vr_callSP [.int x1, .int (2 * x0)] d_PR_roomier_4 C_PR_163 (c_MA_max ev1) rfl rfl (Nat.le_of_ble_eq_true rfl) (by decide) (Nat.le_of_ble_eq_true rfl) ?_
  cases h
  exact vr_iret d_PR_roomier_7 rfl rfl ⟨rfl, rfl⟩

def f_BR_init (N : Nat) (a0 : Nat) (x1 : Int32) (σ : mh_H) : Option (mh_H × Nat × Nat) := chk (¬ (64 : Int32) < 0 ∧ Int32.toNatClampNeg 64 ≤ 100000) <| tkA 1 (Int32.toNatClampNeg 64) <| bnd (hX σ) fun a3 => bnd (mh_arr σ 1 (Int32.toNatClampNeg 64)) fun s4 => chk (hT s4 a0 = 1) <| some ((mh_setI (mh_setI (mh_setI (mh_setR s4 0 0 a0 (some a3)) 0 1 a0 0) 0 2 a0 0) 0 3 a0 x1), 0, 0)
theorem c_BR_init {g : mv_G} {N : Nat} {a0 : Nat} {x1 : Int32} {σ : mh_H} {r : mh_H × Nat × Nat} (h : f_BR_init N a0 x1 σ = some r) : mv_Met g M_BR_init 1 20 r.2.1 r.2.2 [.ref a0, .int x1] σ (fun oc τ => τ = r.1 ∧ oc = .returned none) := by
  have key : ∀ cb sb : Nat, r.2.1 ≤ cb → r.2.2 ≤ sb → mv_V g M_BR_init 1 20 cb sb 0 [some (.ref a0), some (.int x1)] [] σ (fun oc τ => τ = r.1 ∧ oc = .returned none) := by
    intro cb sb hc hs
    unfold f_BR_init at h
    refine vr_aload_n d_BR_init_0 rfl rfl ?_
    refine vr_objInit d_BR_init_1 w_34 w_27 w_28 (by decide) (Nat.le_of_ble_eq_true rfl) ?_
    refine vr_aload_n d_BR_init_4 rfl rfl ?_
    refine vr_bipush 64 d_BR_init_5 (by decide) ?_
    have q1 := (l_chk h).1
    replace h := (l_chk h).2
    obtain ⟨ru2, xu2, yu2, hhu2, hz⟩ := l_tkA h
    clear h
    cases hz
    have h := hhu2
    have h1u2 : 1 ≤ cb := by have hz : xu2 + 1 ≤ cb := hc; omega
    have h2u2 : (Int32.toNatClampNeg 64) ≤ sb := by have hz : yu2 + (Int32.toNatClampNeg 64) ≤ sb := hs; omega
    replace hc : xu2 ≤ cb - 1 := by have hz : xu2 + 1 ≤ cb := hc; omega
    replace hs : yu2 ≤ sb - (Int32.toNatClampNeg 64) := by have hz : yu2 + (Int32.toNatClampNeg 64) ≤ sb := hs; omega
    refine mh_newB d_BR_init_7 q1 h1u2 h2u2 ?_
    obtain ⟨a3, ea3, h⟩ := l_bnd h
    refine vr_nmA ea3 ?_
    obtain ⟨s4, es4, h⟩ := l_bnd h
    refine vr_nmS es4 ?_
    have q5 := (l_chk h).1
    replace h := (l_chk h).2
    refine vr_putR d_BR_init_9 W_BR_init_11 rfl rfl rfl q5 ?_
    refine vr_aload_n d_BR_init_12 rfl rfl ?_
    refine vr_iconst 0 d_BR_init_13 (by decide) ?_
    refine vr_putI d_BR_init_14 W_BR_init_15 rfl rfl rfl q5 ?_
    refine vr_aload_n d_BR_init_17 rfl rfl ?_
    refine vr_iconst 0 d_BR_init_18 (by decide) ?_
    refine vr_putI d_BR_init_19 W_BR_init_19 rfl rfl rfl q5 ?_
    refine vr_aload_n d_BR_init_22 rfl rfl ?_
    refine vr_iload_n d_BR_init_23 rfl rfl ?_
    refine vr_putI d_BR_init_24 W_BR_init_23 rfl rfl rfl q5 ?_
    cases h
    exact vr_vret d_BR_init_27 rfl ⟨rfl, rfl⟩
  exact mv_entry (L := [some (.ref a0), some (.int x1)]) rfl rfl (Nat.le_of_ble_eq_true rfl) rfl (key _ _ (Nat.le_refl _) (Nat.le_refl _))

def f_BR_clear (N : Nat) (a0 : Nat) (σ : mh_H) : Option (mh_H) := chk (hT σ a0 = 1) <| some ((mh_setI (mh_setI σ 0 1 a0 0) 0 2 a0 0))
theorem c_BR_clear {g : mv_G} {N : Nat} {a0 : Nat} {σ : mh_H} {r : mh_H} (h : f_BR_clear N a0 σ = some r) : mv_Met g M_BR_clear 0 0 0 0 [.ref a0] σ (fun oc τ => τ = r ∧ oc = .returned none) := by
  refine mv_entry (L := [some (.ref a0)]) rfl rfl (Nat.le_of_ble_eq_true rfl) rfl ?_
  unfold f_BR_clear at h
  refine vr_aload_n d_BR_clear_0 rfl rfl ?_
  refine vr_iconst 0 d_BR_clear_1 (by decide) ?_
  have q1 := (l_chk h).1
  replace h := (l_chk h).2
  refine vr_putI d_BR_clear_2 W_BR_clear_15 rfl rfl rfl q1 ?_
  refine vr_aload_n d_BR_clear_5 rfl rfl ?_
  refine vr_iconst 0 d_BR_clear_6 (by decide) ?_
  refine vr_putI d_BR_clear_7 W_BR_clear_19 rfl rfl rfl q1 ?_
  cases h
  exact vr_vret d_BR_clear_10 rfl ⟨rfl, rfl⟩

def f_BR_makeRoom (N : Nat) (a0 : Nat) (x1 : Int32) (σ : mh_H) : Option (mh_H × Nat × Nat) := chk (hT σ a0 = 1) <| rfO (hR σ 0 0 a0) fun b2 => chk (hT σ b2 = 4) <| if x1 ≤ (nI (hN σ b2)) then (some (σ, 0, 0)) else (calP (f_MA_max N x1 ((2 * (nI (hN σ b2))))) fun v4 => calAI (f_AR_copyOfB N b2 v4 σ) fun v5 s5 => chk (hT s5 a0 = 1) <| some ((mh_setR s5 0 0 a0 (some v5)), 0, 0))
theorem c_BR_makeRoom {g : mv_G} {N : Nat} {a0 : Nat} {x1 : Int32} {σ : mh_H} {r : mh_H × Nat × Nat} (h : f_BR_makeRoom N a0 x1 σ = some r) : mv_Met g M_BR_makeRoom 7 142 r.2.1 r.2.2 [.ref a0, .int x1] σ (fun oc τ => τ = r.1 ∧ oc = .returned none) := by
  have key : ∀ cb sb : Nat, r.2.1 ≤ cb → r.2.2 ≤ sb → mv_V g M_BR_makeRoom 7 142 cb sb 0 [some (.ref a0), some (.int x1)] [] σ (fun oc τ => τ = r.1 ∧ oc = .returned none) := by
    intro cb sb hc hs
    unfold f_BR_makeRoom at h
    refine vr_iload_n d_BR_makeRoom_0 rfl rfl ?_
    refine vr_aload_n d_BR_makeRoom_1 rfl rfl ?_
    have q1 := (l_chk h).1
    replace h := (l_chk h).2
    obtain ⟨b2, eb2, h⟩ := l_rf h
    refine vr_getR (b := b2) d_BR_makeRoom_2 F_BR_11 rfl q1 eb2 ?_
    have q3 := (l_chk h).1
    replace h := (l_chk h).2
    refine vr_alen (t := 1) d_BR_makeRoom_5 rfl q3 ?_
    refine vr_icmp_le (tgt := 31) d_BR_makeRoom_6 (by decide) (fun c6 => ?_) (fun c6 => ?_)
    · replace h := l_ifp c6 h
      cases h
      exact vr_vret d_BR_makeRoom_31 rfl ⟨rfl, rfl⟩
    · replace h := l_ifn c6 h
      refine vr_aload_n d_BR_makeRoom_9 rfl rfl ?_
      refine vr_aload_n d_BR_makeRoom_10 rfl rfl ?_
      refine vr_getR (b := b2) d_BR_makeRoom_11 F_BR_11 rfl q1 eb2 ?_
      refine vr_iload_n d_BR_makeRoom_14 rfl rfl ?_
      refine vr_iconst 2 d_BR_makeRoom_15 (by decide) ?_
      refine vr_aload_n d_BR_makeRoom_16 rfl rfl ?_
      refine vr_getR (b := b2) d_BR_makeRoom_17 F_BR_11 rfl q1 eb2 ?_
      refine vr_alen (t := 1) d_BR_makeRoom_20 rfl q3 ?_
      refine vr_imul d_BR_makeRoom_21 ?_
      obtain ⟨v4, ev4, h⟩ := l_calP h
      refine vr_callSP [.int x1, .int (2 * (nI (hN σ b2)))] d_BR_makeRoom_22 C_BR_46 (c_MA_max ev4) rfl rfl (Nat.le_of_ble_eq_true rfl) (by decide) (Nat.le_of_ble_eq_true rfl) ?_
      obtain ⟨v5, s5, c5, n5, ev5, r5, x5, y5, hh5, hz⟩ := l_calAI h
      clear h
      cases hz
      have h := hh5
      have h15 : c5 ≤ cb := by have hz : x5 + c5 ≤ cb := hc; omega
      have h25 : n5 ≤ sb := by have hz : y5 + n5 ≤ sb := hs; omega
      replace hc : x5 ≤ cb - c5 := by have hz : x5 + c5 ≤ cb := hc; omega
      replace hs : y5 ≤ sb - n5 := by have hz : y5 + n5 ≤ sb := hs; omega
      refine mh_callSAa [.ref b2, .int v4] d_BR_makeRoom_25 C_BR_52 (c_AR_copyOfB ev5) rfl rfl (Nat.le_of_ble_eq_true rfl) (by decide) (Nat.le_of_ble_eq_true rfl) h15 h25 ?_
      have q6 := (l_chk h).1
      replace h := (l_chk h).2
      refine vr_putR d_BR_makeRoom_28 W_BR_makeRoom_11 rfl rfl rfl q6 ?_
      cases h
      exact vr_vret d_BR_makeRoom_31 rfl ⟨rfl, rfl⟩
  exact mv_entry (L := [some (.ref a0), some (.int x1)]) rfl rfl (Nat.le_of_ble_eq_true rfl) rfl (key _ _ (Nat.le_refl _) (Nat.le_refl _))

def f_BR_add (N : Nat) (a0 : Nat) (x1 : Int32) (σ : mh_H) : Option (mh_H × Nat × Nat) := chk (hT σ a0 = 1) <| if (hI σ 0 1 a0) < (hI σ 0 3 a0) then (calA (f_BR_makeRoom N a0 (((hI σ 0 1 a0) + 1)) σ) fun s2 => chk (hT s2 a0 = 1) <| rfO (hR s2 0 0 a0) fun b4 => bnd ((Int8.toInt32 (Int32.toInt8 x1))) fun v5 => chk (hT s2 b4 = 4) <| chk (ib (hI s2 0 1 a0) (hN s2 b4)) <| bnd ((hI (mh_setA s2 b4 (Int32.toNatClampNeg (hI s2 0 1 a0)) (Int8.toInt32 (Int32.toInt8 v5))) 0 1 a0)) fun v8 => bnd ((v8 + 1)) fun v9 => some ((mh_setI (mh_setA s2 b4 (Int32.toNatClampNeg (hI s2 0 1 a0)) (Int8.toInt32 (Int32.toInt8 v5))) 0 1 a0 v9), 0, 0)) else (some ((mh_setI σ 0 2 a0 1), 0, 0))
theorem c_BR_add {g : mv_G} {N : Nat} {a0 : Nat} {x1 : Int32} {σ : mh_H} {r : mh_H × Nat × Nat} (h : f_BR_add N a0 x1 σ = some r) : mv_Met g M_BR_add 8 163 r.2.1 r.2.2 [.ref a0, .int x1] σ (fun oc τ => τ = r.1 ∧ oc = .returned none) := by
  have key : ∀ cb sb : Nat, r.2.1 ≤ cb → r.2.2 ≤ sb → mv_V g M_BR_add 8 163 cb sb 0 [some (.ref a0), some (.int x1)] [] σ (fun oc τ => τ = r.1 ∧ oc = .returned none) := by
    intro cb sb hc hs
    unfold f_BR_add at h
    refine vr_aload_n d_BR_add_0 rfl rfl ?_
    have q1 := (l_chk h).1
    replace h := (l_chk h).2
    refine vr_getI d_BR_add_1 F_BR_15 rfl q1 ?_
    refine vr_aload_n d_BR_add_4 rfl rfl ?_
    refine vr_getI d_BR_add_5 F_BR_23 rfl q1 ?_
    refine vr_icmp_lt (tgt := 17) d_BR_add_8 (by decide) (fun c8 => ?_) (fun c8 => ?_)
    · replace h := l_ifp c8 h
      refine vr_aload_n d_BR_add_17 rfl rfl ?_
      refine vr_aload_n d_BR_add_18 rfl rfl ?_
      refine vr_getI d_BR_add_19 F_BR_15 rfl q1 ?_
      refine vr_iconst 1 d_BR_add_22 (by decide) ?_
      refine vr_iadd d_BR_add_23 ?_
      obtain ⟨s2, c2, n2, ev2, r2, x2, y2, hh2, hz⟩ := l_calA h
      clear h
      cases hz
      have h := hh2
      have h12 : c2 ≤ cb := by have hz : x2 + c2 ≤ cb := hc; omega
      have h22 : n2 ≤ sb := by have hz : y2 + n2 ≤ sb := hs; omega
      replace hc : x2 ≤ cb - c2 := by have hz : x2 + c2 ≤ cb := hc; omega
      replace hs : y2 ≤ sb - n2 := by have hz : y2 + n2 ≤ sb := hs; omega
      refine mh_callUa 0 [.int ((hI σ 0 1 a0) + 1)] d_BR_add_24 C_BR_26 (c_BR_makeRoom ev2) q1 rfl rfl rfl (Nat.le_of_ble_eq_true rfl) (by decide) (Nat.le_of_ble_eq_true rfl) h12 h22 ?_
      refine vr_aload_n d_BR_add_27 rfl rfl ?_
      have q3 := (l_chk h).1
      replace h := (l_chk h).2
      obtain ⟨b4, eb4, h⟩ := l_rf h
      refine vr_getR (b := b4) d_BR_add_28 F_BR_11 rfl q3 eb4 ?_
      refine vr_aload_n d_BR_add_31 rfl rfl ?_
      refine vr_getI d_BR_add_32 F_BR_15 rfl q3 ?_
      refine vr_iload_n d_BR_add_35 rfl rfl ?_
      refine vr_i2b d_BR_add_36 rfl ?_
      obtain ⟨v5, ev5, h⟩ := l_bnd h
      refine vr_nm ev5 ?_
      have q6 := (l_chk h).1
      replace h := (l_chk h).2
      have q7 := (l_chk h).1
      replace h := (l_chk h).2
      refine vr_bast (t := 1) d_BR_add_37 rfl q6 (ib_in q7) ?_
      refine vr_aload_n d_BR_add_38 rfl rfl ?_
      refine vr_dup d_BR_add_39 rfl ?_
      refine vr_getI d_BR_add_40 F_BR_15 rfl q3 ?_
      obtain ⟨v8, ev8, h⟩ := l_bnd h
      refine vr_nm ev8 ?_
      refine vr_iconst 1 d_BR_add_43 (by decide) ?_
      refine vr_iadd d_BR_add_44 ?_
      obtain ⟨v9, ev9, h⟩ := l_bnd h
      refine vr_nm ev9 ?_
      refine vr_putI d_BR_add_45 W_BR_add_15 rfl rfl rfl q3 ?_
      cases h
      exact vr_vret d_BR_add_48 rfl ⟨rfl, rfl⟩
    · replace h := l_ifn c8 h
      refine vr_aload_n d_BR_add_11 rfl rfl ?_
      refine vr_iconst 1 d_BR_add_12 (by decide) ?_
      refine vr_putI d_BR_add_13 W_BR_add_19 rfl rfl rfl q1 ?_
      cases h
      exact vr_vret d_BR_add_16 rfl ⟨rfl, rfl⟩
  exact mv_entry (L := [some (.ref a0), some (.int x1)]) rfl rfl (Nat.le_of_ble_eq_true rfl) rfl (key _ _ (Nat.le_refl _) (Nat.le_refl _))

def f_BR_addFour (N : Nat) (a0 : Nat) (x1 : Int32) (σ : mh_H) : Option (mh_H × Nat × Nat) := chk (hT σ a0 = 1) <| calA (f_BR_add N a0 (((Int32.toUInt32 x1 >>> (Int32.toUInt32 24 &&& Int32.toUInt32 31)).toInt32)) σ) fun s2 => chk (hT s2 a0 = 1) <| calA (f_BR_add N a0 (((Int32.toUInt32 x1 >>> (Int32.toUInt32 16 &&& Int32.toUInt32 31)).toInt32)) s2) fun s4 => chk (hT s4 a0 = 1) <| calA (f_BR_add N a0 (((Int32.toUInt32 x1 >>> (Int32.toUInt32 8 &&& Int32.toUInt32 31)).toInt32)) s4) fun s6 => chk (hT s6 a0 = 1) <| calA (f_BR_add N a0 x1 s6) fun s8 => some (s8, 0, 0)
theorem c_BR_addFour {g : mv_G} {N : Nat} {a0 : Nat} {x1 : Int32} {σ : mh_H} {r : mh_H × Nat × Nat} (h : f_BR_addFour N a0 x1 σ = some r) : mv_Met g M_BR_addFour 9 184 r.2.1 r.2.2 [.ref a0, .int x1] σ (fun oc τ => τ = r.1 ∧ oc = .returned none) := by
  have key : ∀ cb sb : Nat, r.2.1 ≤ cb → r.2.2 ≤ sb → mv_V g M_BR_addFour 9 184 cb sb 0 [some (.ref a0), some (.int x1)] [] σ (fun oc τ => τ = r.1 ∧ oc = .returned none) := by
    intro cb sb hc hs
    unfold f_BR_addFour at h
    refine vr_aload_n d_BR_addFour_0 rfl rfl ?_
    refine vr_iload_n d_BR_addFour_1 rfl rfl ?_
    refine vr_bipush 24 d_BR_addFour_2 (by decide) ?_
    refine vr_iushr d_BR_addFour_4 rfl ?_
    have q1 := (l_chk h).1
    replace h := (l_chk h).2
    obtain ⟨s2, c2, n2, ev2, r2, x2, y2, hh2, hz⟩ := l_calA h
    clear h
    cases hz
    have h := hh2
    have h12 : c2 ≤ cb := by have hz : x2 + c2 ≤ cb := hc; omega
    have h22 : n2 ≤ sb := by have hz : y2 + n2 ≤ sb := hs; omega
    replace hc : x2 ≤ cb - c2 := by have hz : x2 + c2 ≤ cb := hc; omega
    replace hs : y2 ≤ sb - n2 := by have hz : y2 + n2 ≤ sb := hs; omega
    refine mh_callUa 0 [.int ((Int32.toUInt32 x1 >>> (Int32.toUInt32 24 &&& Int32.toUInt32 31)).toInt32)] d_BR_addFour_5 C_BR_30 (c_BR_add ev2) q1 rfl rfl rfl (Nat.le_of_ble_eq_true rfl) (by decide) (Nat.le_of_ble_eq_true rfl) h12 h22 ?_
    refine vr_aload_n d_BR_addFour_8 rfl rfl ?_
    refine vr_iload_n d_BR_addFour_9 rfl rfl ?_
    refine vr_bipush 16 d_BR_addFour_10 (by decide) ?_
    refine vr_iushr d_BR_addFour_12 rfl ?_
    have q3 := (l_chk h).1
    replace h := (l_chk h).2
    obtain ⟨s4, c4, n4, ev4, r4, x4, y4, hh4, hz⟩ := l_calA h
    clear h
    cases hz
    have h := hh4
    have h14 : c4 ≤ (cb - c2) := by have hz : x4 + c4 ≤ (cb - c2) := hc; omega
    have h24 : n4 ≤ (sb - n2) := by have hz : y4 + n4 ≤ (sb - n2) := hs; omega
    replace hc : x4 ≤ (cb - c2) - c4 := by have hz : x4 + c4 ≤ (cb - c2) := hc; omega
    replace hs : y4 ≤ (sb - n2) - n4 := by have hz : y4 + n4 ≤ (sb - n2) := hs; omega
    refine mh_callUa 0 [.int ((Int32.toUInt32 x1 >>> (Int32.toUInt32 16 &&& Int32.toUInt32 31)).toInt32)] d_BR_addFour_13 C_BR_30 (c_BR_add ev4) q3 rfl rfl rfl (Nat.le_of_ble_eq_true rfl) (by decide) (Nat.le_of_ble_eq_true rfl) h14 h24 ?_
    refine vr_aload_n d_BR_addFour_16 rfl rfl ?_
    refine vr_iload_n d_BR_addFour_17 rfl rfl ?_
    refine vr_bipush 8 d_BR_addFour_18 (by decide) ?_
    refine vr_iushr d_BR_addFour_20 rfl ?_
    have q5 := (l_chk h).1
    replace h := (l_chk h).2
    obtain ⟨s6, c6, n6, ev6, r6, x6, y6, hh6, hz⟩ := l_calA h
    clear h
    cases hz
    have h := hh6
    have h16 : c6 ≤ ((cb - c2) - c4) := by have hz : x6 + c6 ≤ ((cb - c2) - c4) := hc; omega
    have h26 : n6 ≤ ((sb - n2) - n4) := by have hz : y6 + n6 ≤ ((sb - n2) - n4) := hs; omega
    replace hc : x6 ≤ ((cb - c2) - c4) - c6 := by have hz : x6 + c6 ≤ ((cb - c2) - c4) := hc; omega
    replace hs : y6 ≤ ((sb - n2) - n4) - n6 := by have hz : y6 + n6 ≤ ((sb - n2) - n4) := hs; omega
    refine mh_callUa 0 [.int ((Int32.toUInt32 x1 >>> (Int32.toUInt32 8 &&& Int32.toUInt32 31)).toInt32)] d_BR_addFour_21 C_BR_30 (c_BR_add ev6) q5 rfl rfl rfl (Nat.le_of_ble_eq_true rfl) (by decide) (Nat.le_of_ble_eq_true rfl) h16 h26 ?_
    refine vr_aload_n d_BR_addFour_24 rfl rfl ?_
    refine vr_iload_n d_BR_addFour_25 rfl rfl ?_
    have q7 := (l_chk h).1
    replace h := (l_chk h).2
    obtain ⟨s8, c8, n8, ev8, r8, x8, y8, hh8, hz⟩ := l_calA h
    clear h
    cases hz
    have h := hh8
    have h18 : c8 ≤ (((cb - c2) - c4) - c6) := by have hz : x8 + c8 ≤ (((cb - c2) - c4) - c6) := hc; omega
    have h28 : n8 ≤ (((sb - n2) - n4) - n6) := by have hz : y8 + n8 ≤ (((sb - n2) - n4) - n6) := hs; omega
    replace hc : x8 ≤ (((cb - c2) - c4) - c6) - c8 := by have hz : x8 + c8 ≤ (((cb - c2) - c4) - c6) := hc; omega
    replace hs : y8 ≤ (((sb - n2) - n4) - n6) - n8 := by have hz : y8 + n8 ≤ (((sb - n2) - n4) - n6) := hs; omega
    refine mh_callUa 0 [.int x1] d_BR_addFour_26 C_BR_30 (c_BR_add ev8) q7 rfl rfl rfl (Nat.le_of_ble_eq_true rfl) (by decide) (Nat.le_of_ble_eq_true rfl) h18 h28 ?_
    cases h
    exact vr_vret d_BR_addFour_29 rfl ⟨rfl, rfl⟩
  exact mv_entry (L := [some (.ref a0), some (.int x1)]) rfl rfl (Nat.le_of_ble_eq_true rfl) rfl (key _ _ (Nat.le_refl _) (Nat.le_refl _))

def k_BR_addRange_25 (N : Nat) (y0 : Nat) (y1 : Nat) (y2 : Int32) (y4 : Int32) (z0 : Int32) (σ : mh_H) : Option (mh_H × Nat × Nat) := if z0 = 0 then (chk (hT σ y0 = 1) <| some ((mh_setI σ 0 2 y0 1), 0, 0)) else (chk (hT σ y0 = 1) <| if y4 ≤ ((hI σ 0 3 y0) - (hI σ 0 1 y0)) then (calA (f_BR_makeRoom N y0 (((hI σ 0 1 y0) + y4)) σ) fun s5 => chk (hT s5 y0 = 1) <| rfO (hR s5 0 0 y0) fun b7 => chk (hT s5 y1 = 4) <| chk (hT s5 b7 = 4) <| chk (¬ y2 < 0 ∧ ¬ (hI s5 0 1 y0) < 0 ∧ ¬ y4 < 0 ∧ Int32.toNatClampNeg y2 + Int32.toNatClampNeg y4 ≤ hN s5 y1 ∧ Int32.toNatClampNeg (hI s5 0 1 y0) + Int32.toNatClampNeg y4 ≤ hN s5 b7) <| bnd ((hI (mh_cpy s5 y1 b7 (Int32.toNatClampNeg y2) (Int32.toNatClampNeg (hI s5 0 1 y0)) (Int32.toNatClampNeg y4)) 0 1 y0)) fun v11 => bnd ((v11 + y4)) fun v12 => some ((mh_setI (mh_cpy s5 y1 b7 (Int32.toNatClampNeg y2) (Int32.toNatClampNeg (hI s5 0 1 y0)) (Int32.toNatClampNeg y4)) 0 1 y0 v12), 0, 0)) else (some ((mh_setI σ 0 2 y0 1), 0, 0)))
theorem q_BR_addRange_25 {g : mv_G} {N : Nat} (y0 : Nat) (y1 : Nat) (y2 : Int32) (y4 : Int32) (z0 : Int32) (σ : mh_H) (r : mh_H × Nat × Nat) (h : k_BR_addRange_25 N y0 y1 y2 y4 z0 σ = some r) : ∀ cb sb : Nat, r.2.1 ≤ cb → r.2.2 ≤ sb → mv_V g M_BR_addRange 8 163 cb sb 25 [some (.ref y0), some (.ref y1), some (.int y2), none, some (.int y4), none] [.int z0] σ (fun oc τ => τ = r.1 ∧ oc = .returned none) := by
  intro cb sb hc hs
  unfold k_BR_addRange_25 at h
  refine vr_istore (L' := [some (.ref y0), some (.ref y1), some (.int y2), none, some (.int y4), some (.int z0)]) d_BR_addRange_25 (by decide) rfl ?_
  refine vr_iload d_BR_addRange_27 rfl ?_
  refine vr_if_eq (tgt := 46) d_BR_addRange_29 (by decide) (fun c29 => ?_) (fun c29 => ?_)
  · replace h := l_ifp c29 h
    refine vr_aload_n d_BR_addRange_46 rfl rfl ?_
    refine vr_iconst 1 d_BR_addRange_47 (by decide) ?_
    have q3 := (l_chk h).1
    replace h := (l_chk h).2
    refine vr_putI d_BR_addRange_48 W_BR_addRange_19 rfl rfl rfl q3 ?_
    cases h
    exact vr_vret d_BR_addRange_51 rfl ⟨rfl, rfl⟩
  · replace h := l_ifn c29 h
    refine vr_iload d_BR_addRange_32 rfl ?_
    refine vr_aload_n d_BR_addRange_34 rfl rfl ?_
    have q4 := (l_chk h).1
    replace h := (l_chk h).2
    refine vr_getI d_BR_addRange_35 F_BR_23 rfl q4 ?_
    refine vr_aload_n d_BR_addRange_38 rfl rfl ?_
    refine vr_getI d_BR_addRange_39 F_BR_15 rfl q4 ?_
    refine vr_isub d_BR_addRange_42 ?_
    refine vr_icmp_le (tgt := 52) d_BR_addRange_43 (by decide) (fun c43 => ?_) (fun c43 => ?_)
    · replace h := l_ifp c43 h
      refine vr_aload_n d_BR_addRange_52 rfl rfl ?_
      refine vr_aload_n d_BR_addRange_53 rfl rfl ?_
      refine vr_getI d_BR_addRange_54 F_BR_15 rfl q4 ?_
      refine vr_iload d_BR_addRange_57 rfl ?_
      refine vr_iadd d_BR_addRange_59 ?_
      obtain ⟨s5, c5, n5, ev5, r5, x5, y5, hh5, hz⟩ := l_calA h
      clear h
      cases hz
      have h := hh5
      have h15 : c5 ≤ cb := by have hz : x5 + c5 ≤ cb := hc; omega
      have h25 : n5 ≤ sb := by have hz : y5 + n5 ≤ sb := hs; omega
      replace hc : x5 ≤ cb - c5 := by have hz : x5 + c5 ≤ cb := hc; omega
      replace hs : y5 ≤ sb - n5 := by have hz : y5 + n5 ≤ sb := hs; omega
      refine mh_callUa 0 [.int ((hI σ 0 1 y0) + y4)] d_BR_addRange_60 C_BR_26 (c_BR_makeRoom ev5) q4 rfl rfl rfl (Nat.le_of_ble_eq_true rfl) (by decide) (Nat.le_of_ble_eq_true rfl) h15 h25 ?_
      refine vr_aload_n d_BR_addRange_63 rfl rfl ?_
      refine vr_iload_n d_BR_addRange_64 rfl rfl ?_
      refine vr_aload_n d_BR_addRange_65 rfl rfl ?_
      have q6 := (l_chk h).1
      replace h := (l_chk h).2
      obtain ⟨b7, eb7, h⟩ := l_rf h
      refine vr_getR (b := b7) d_BR_addRange_66 F_BR_11 rfl q6 eb7 ?_
      refine vr_aload_n d_BR_addRange_69 rfl rfl ?_
      refine vr_getI d_BR_addRange_70 F_BR_15 rfl q6 ?_
      refine vr_iload d_BR_addRange_73 rfl ?_
      have q8 := (l_chk h).1
      replace h := (l_chk h).2
      have q9 := (l_chk h).1
      replace h := (l_chk h).2
      have q10 := (l_chk h).1
      replace h := (l_chk h).2
      refine vr_acopy (t := 1) d_BR_addRange_75 w_676 w_275 w_274 w_12 rfl rfl rfl (Or.inl rfl) q8 q9 q10.1 q10.2.1 q10.2.2.1 q10.2.2.2.1 q10.2.2.2.2 (by decide) (Nat.le_of_ble_eq_true rfl) ?_
      refine vr_aload_n d_BR_addRange_78 rfl rfl ?_
      refine vr_dup d_BR_addRange_79 rfl ?_
      refine vr_getI d_BR_addRange_80 F_BR_15 rfl q6 ?_
      obtain ⟨v11, ev11, h⟩ := l_bnd h
      refine vr_nm ev11 ?_
      refine vr_iload d_BR_addRange_83 rfl ?_
      refine vr_iadd d_BR_addRange_85 ?_
      obtain ⟨v12, ev12, h⟩ := l_bnd h
      refine vr_nm ev12 ?_
      refine vr_putI d_BR_addRange_86 W_BR_addRange_15 rfl rfl rfl q6 ?_
      cases h
      exact vr_vret d_BR_addRange_89 rfl ⟨rfl, rfl⟩
    · replace h := l_ifn c43 h
      refine vr_aload_n d_BR_addRange_46 rfl rfl ?_
      refine vr_iconst 1 d_BR_addRange_47 (by decide) ?_
      refine vr_putI d_BR_addRange_48 W_BR_addRange_19 rfl rfl rfl q4 ?_
      cases h
      exact vr_vret d_BR_addRange_51 rfl ⟨rfl, rfl⟩

def f_BR_addRange (N : Nat) (a0 : Nat) (x1 : Nat) (x2 : Int32) (x3 : Int32) (σ : mh_H) : Option (mh_H × Nat × Nat) := bnd ((x3 - x2)) fun v1 => if x2 < 0 then (k_BR_addRange_25 N a0 x1 x2 v1 0 σ) else (if v1 < 0 then (k_BR_addRange_25 N a0 x1 x2 v1 0 σ) else (chk (hT σ x1 = 4) <| if (nI (hN σ x1)) < x3 then (k_BR_addRange_25 N a0 x1 x2 v1 0 σ) else (k_BR_addRange_25 N a0 x1 x2 v1 1 σ)))
theorem c_BR_addRange {g : mv_G} {N : Nat} {a0 : Nat} {x1 : Nat} {x2 : Int32} {x3 : Int32} {σ : mh_H} {r : mh_H × Nat × Nat} (h : f_BR_addRange N a0 x1 x2 x3 σ = some r) : mv_Met g M_BR_addRange 8 163 r.2.1 r.2.2 [.ref a0, .ref x1, .int x2, .int x3] σ (fun oc τ => τ = r.1 ∧ oc = .returned none) := by
  have key : ∀ cb sb : Nat, r.2.1 ≤ cb → r.2.2 ≤ sb → mv_V g M_BR_addRange 8 163 cb sb 0 [some (.ref a0), some (.ref x1), some (.int x2), some (.int x3), none, none] [] σ (fun oc τ => τ = r.1 ∧ oc = .returned none) := by
    intro cb sb hc hs
    unfold f_BR_addRange at h
    refine vr_iload_n d_BR_addRange_0 rfl rfl ?_
    refine vr_iload_n d_BR_addRange_1 rfl rfl ?_
    refine vr_isub d_BR_addRange_2 ?_
    obtain ⟨v1, ev1, h⟩ := l_bnd h
    refine vr_nm ev1 ?_
    refine vr_istore (L' := [some (.ref a0), some (.ref x1), some (.int x2), some (.int x3), some (.int v1), none]) d_BR_addRange_3 (by decide) rfl ?_
    refine vr_iload_n d_BR_addRange_5 rfl rfl ?_
    refine vr_if_lt (tgt := 24) d_BR_addRange_6 (by decide) (fun c6 => ?_) (fun c6 => ?_)
    · replace h := l_ifp c6 h
      refine vr_iconst 0 d_BR_addRange_24 (by decide) ?_
      exact mv_drop (q_BR_addRange_25 _ _ _ _ _ _ _ h _ _ hc hs) (And.intro rfl (And.intro rfl (And.intro rfl (And.intro rfl trivial))))
    · replace h := l_ifn c6 h
      refine vr_iload d_BR_addRange_9 rfl ?_
      refine vr_if_lt (tgt := 24) d_BR_addRange_11 (by decide) (fun c11 => ?_) (fun c11 => ?_)
      · replace h := l_ifp c11 h
        refine vr_iconst 0 d_BR_addRange_24 (by decide) ?_
        exact mv_drop (q_BR_addRange_25 _ _ _ _ _ _ _ h _ _ hc hs) (And.intro rfl (And.intro rfl (And.intro rfl (And.intro rfl trivial))))
      · replace h := l_ifn c11 h
        refine vr_iload_n d_BR_addRange_14 rfl rfl ?_
        refine vr_aload_n d_BR_addRange_15 rfl rfl ?_
        have q2 := (l_chk h).1
        replace h := (l_chk h).2
        refine vr_alen (t := 1) d_BR_addRange_16 rfl q2 ?_
        refine vr_icmp_gt (tgt := 24) d_BR_addRange_17 (by decide) (fun c17 => ?_) (fun c17 => ?_)
        · replace h := l_ifp c17 h
          refine vr_iconst 0 d_BR_addRange_24 (by decide) ?_
          exact mv_drop (q_BR_addRange_25 _ _ _ _ _ _ _ h _ _ hc hs) (And.intro rfl (And.intro rfl (And.intro rfl (And.intro rfl trivial))))
        · replace h := l_ifn c17 h
          refine vr_iconst 1 d_BR_addRange_20 (by decide) ?_
          refine vr_goto (tgt := 25) d_BR_addRange_21 (by decide) ?_
          exact mv_drop (q_BR_addRange_25 _ _ _ _ _ _ _ h _ _ hc hs) (And.intro rfl (And.intro rfl (And.intro rfl (And.intro rfl trivial))))
  exact mv_entry (L := [some (.ref a0), some (.ref x1), some (.int x2), some (.int x3), none, none]) rfl rfl (Nat.le_of_ble_eq_true rfl) rfl (key _ _ (Nat.le_refl _) (Nat.le_refl _))

def f_BR_copy (N : Nat) (a0 : Nat) (x1 : Nat) (σ : mh_H) : Option (mh_H × Nat × Nat) := chk (hT σ a0 = 1) <| calV (f_BR_clear N a0 σ) fun s2 => chk (hT s2 x1 = 1) <| rfO (hR s2 0 0 x1) fun b4 => chk (hT s2 a0 = 1) <| calA (f_BR_addRange N a0 b4 0 ((hI s2 0 1 x1)) s2) fun s6 => some (s6, 0, 0)
theorem c_BR_copy {g : mv_G} {N : Nat} {a0 : Nat} {x1 : Nat} {σ : mh_H} {r : mh_H × Nat × Nat} (h : f_BR_copy N a0 x1 σ = some r) : mv_Met g M_BR_copy 9 188 r.2.1 r.2.2 [.ref a0, .ref x1] σ (fun oc τ => τ = r.1 ∧ oc = .returned none) := by
  have key : ∀ cb sb : Nat, r.2.1 ≤ cb → r.2.2 ≤ sb → mv_V g M_BR_copy 9 188 cb sb 0 [some (.ref a0), some (.ref x1)] [] σ (fun oc τ => τ = r.1 ∧ oc = .returned none) := by
    intro cb sb hc hs
    unfold f_BR_copy at h
    refine vr_aload_n d_BR_copy_0 rfl rfl ?_
    have q1 := (l_chk h).1
    replace h := (l_chk h).2
    obtain ⟨s2, es2, h⟩ := l_calV h
    refine mh_callU 0 [] d_BR_copy_1 C_BR_39 (c_BR_clear es2) q1 rfl rfl rfl (Nat.le_of_ble_eq_true rfl) (by decide) (Nat.le_of_ble_eq_true rfl) ?_
    refine vr_aload_n d_BR_copy_4 rfl rfl ?_
    refine vr_aload_n d_BR_copy_5 rfl rfl ?_
    have q3 := (l_chk h).1
    replace h := (l_chk h).2
    obtain ⟨b4, eb4, h⟩ := l_rf h
    refine vr_getR (b := b4) d_BR_copy_6 F_BR_11 rfl q3 eb4 ?_
    refine vr_iconst 0 d_BR_copy_9 (by decide) ?_
    refine vr_aload_n d_BR_copy_10 rfl rfl ?_
    refine vr_getI d_BR_copy_11 F_BR_15 rfl q3 ?_
    have q5 := (l_chk h).1
    replace h := (l_chk h).2
    obtain ⟨s6, c6, n6, ev6, r6, x6, y6, hh6, hz⟩ := l_calA h
    clear h
    cases hz
    have h := hh6
    have h16 : c6 ≤ cb := by have hz : x6 + c6 ≤ cb := hc; omega
    have h26 : n6 ≤ sb := by have hz : y6 + n6 ≤ sb := hs; omega
    replace hc : x6 ≤ cb - c6 := by have hz : x6 + c6 ≤ cb := hc; omega
    replace hs : y6 ≤ sb - n6 := by have hz : y6 + n6 ≤ sb := hs; omega
    refine mh_callUa 0 [.ref b4, .int 0, .int (hI s2 0 1 x1)] d_BR_copy_14 C_BR_42 (c_BR_addRange ev6) q5 rfl rfl rfl (Nat.le_of_ble_eq_true rfl) (by decide) (Nat.le_of_ble_eq_true rfl) h16 h26 ?_
    cases h
    exact vr_vret d_BR_copy_17 rfl ⟨rfl, rfl⟩
  exact mv_entry (L := [some (.ref a0), some (.ref x1)]) rfl rfl (Nat.le_of_ble_eq_true rfl) rfl (key _ _ (Nat.le_refl _) (Nat.le_refl _))

def f_BR_byteAt (N : Nat) (a0 : Nat) (x1 : Int32) (σ : mh_H) : Option (Int32 × mh_H) := if x1 < 0 then (some ((-1), σ)) else (chk (hT σ a0 = 1) <| if (hI σ 0 1 a0) ≤ x1 then (some ((-1), σ)) else (rfO (hR σ 0 0 a0) fun b2 => chk (hT σ b2 = 4) <| chk (ib x1 (hN σ b2)) <| some (((hA σ b2 (Int32.toNatClampNeg x1)) &&& 255), σ)))
theorem c_BR_byteAt {g : mv_G} {N : Nat} {a0 : Nat} {x1 : Int32} {σ : mh_H} {r : Int32 × mh_H} (h : f_BR_byteAt N a0 x1 σ = some r) : mv_Met g M_BR_byteAt 0 0 0 0 [.ref a0, .int x1] σ (fun oc τ => τ = r.2 ∧ oc = .returned (some (.int r.1))) := by
  refine mv_entry (L := [some (.ref a0), some (.int x1)]) rfl rfl (Nat.le_of_ble_eq_true rfl) rfl ?_
  unfold f_BR_byteAt at h
  refine vr_iload_n d_BR_byteAt_0 rfl rfl ?_
  refine vr_if_lt (tgt := 25) d_BR_byteAt_1 (by decide) (fun c1 => ?_) (fun c1 => ?_)
  · replace h := l_ifp c1 h
    refine vr_iconst (-1) d_BR_byteAt_25 (by decide) ?_
    cases h
    exact vr_iret d_BR_byteAt_26 rfl rfl ⟨rfl, rfl⟩
  · replace h := l_ifn c1 h
    refine vr_iload_n d_BR_byteAt_4 rfl rfl ?_
    refine vr_aload_n d_BR_byteAt_5 rfl rfl ?_
    have q1 := (l_chk h).1
    replace h := (l_chk h).2
    refine vr_getI d_BR_byteAt_6 F_BR_15 rfl q1 ?_
    refine vr_icmp_ge (tgt := 25) d_BR_byteAt_9 (by decide) (fun c9 => ?_) (fun c9 => ?_)
    · replace h := l_ifp c9 h
      refine vr_iconst (-1) d_BR_byteAt_25 (by decide) ?_
      cases h
      exact vr_iret d_BR_byteAt_26 rfl rfl ⟨rfl, rfl⟩
    · replace h := l_ifn c9 h
      refine vr_aload_n d_BR_byteAt_12 rfl rfl ?_
      obtain ⟨b2, eb2, h⟩ := l_rf h
      refine vr_getR (b := b2) d_BR_byteAt_13 F_BR_11 rfl q1 eb2 ?_
      refine vr_iload_n d_BR_byteAt_16 rfl rfl ?_
      have q3 := (l_chk h).1
      replace h := (l_chk h).2
      have q4 := (l_chk h).1
      replace h := (l_chk h).2
      refine vr_bald (t := 1) d_BR_byteAt_17 rfl q3 (ib_in q4) ?_
      refine vr_sipush 255 d_BR_byteAt_18 (by decide) ?_
      refine vr_iand d_BR_byteAt_21 ?_
      refine vr_goto (tgt := 26) d_BR_byteAt_22 (by decide) ?_
      cases h
      exact vr_iret d_BR_byteAt_26 rfl rfl ⟨rfl, rfl⟩

