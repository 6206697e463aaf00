/-! the reference's constructor, over the heap -/
def k_RM_add_h_60 (N : Nat) : Nat → Nat → Int32 → Int32 → mh_H → Option (Int32 × mh_H)
  | 0, _, _, _, _ => none
  | n + 1, y0, y1, y7, σ => if y7 = (-1) then (chk (hT σ y0 = 17) <| rfO (hR σ 8 28 y0) fun b22 => chk (hT σ b22 = 2) <| chk (ib y1 (hN σ b22)) <| bnd (((hA σ b22 (Int32.toNatClampNeg y1)) + 1)) fun v25 => chk (ib y1 (hN σ b22)) <| chk (ib y1 (hN (mh_setA σ b22 (Int32.toNatClampNeg y1) v25) b22)) <| bnd ((hA (mh_setA σ b22 (Int32.toNatClampNeg y1) v25) b22 (Int32.toNatClampNeg y1))) fun v28 => some ((v28 - 1), (mh_setA σ b22 (Int32.toNatClampNeg y1) v25))) else (chk (hT σ y0 = 17) <| rfO (hR σ 8 27 y0) fun b30 => chk (hT σ b30 = 2) <| chk (ib ((13000 * y1) + y7) (hN σ b30)) <| bnd (((hA σ b30 (Int32.toNatClampNeg ((13000 * y1) + y7))) + 1)) fun v33 => chk (ib ((13000 * y1) + y7) (hN σ b30)) <| rfO (hR (mh_setA σ b30 (Int32.toNatClampNeg ((13000 * y1) + y7)) v33) 8 26 y0) fun b35 => chk (hT (mh_setA σ b30 (Int32.toNatClampNeg ((13000 * y1) + y7)) v33) b35 = 2) <| chk (ib ((13000 * y1) + y7) (hN (mh_setA σ b30 (Int32.toNatClampNeg ((13000 * y1) + y7)) v33) b35)) <| bnd ((hA (mh_setA σ b30 (Int32.toNatClampNeg ((13000 * y1) + y7)) v33) b35 (Int32.toNatClampNeg ((13000 * y1) + y7)))) fun v38 => k_RM_add_h_60 N n y0 y1 v38 ((mh_setA σ b30 (Int32.toNatClampNeg ((13000 * y1) + y7)) v33)))
theorem q_RM_add_h_60 {g : mv_G} {N : Nat} : ∀ (n : Nat) (y0 : Nat) (y1 : Int32) (y7 : Int32) (σ : mh_H) (r : Int32 × mh_H), k_RM_add_h_60 N n y0 y1 y7 σ = some r → mv_V g M_RM_add 0 0 0 0 60 [some (.ref y0), some (.int y1), none, none, none, none, none, some (.int y7)] [] σ (fun oc τ => τ = r.2 ∧ oc = .returned (some (.int r.1))) := by
  intro n
  induction n with
  | zero =>
    intro y0 y1 y7 σ r h
    exact absurd h (by simp [k_RM_add_h_60])
  | succ n ih =>
    intro y0 y1 y7 σ r h 
    unfold k_RM_add_h_60 at h
    refine vr_iload d_RM_add_60 rfl ?_
    refine vr_iconst (-1) d_RM_add_62 (by decide) ?_
    refine vr_icmp_eq (tgt := 101) d_RM_add_63 (by decide) (fun c63 => ?_) (fun c63 => ?_)
    · replace h := l_ifp c63 h
      refine vr_aload_n d_RM_add_101 rfl rfl ?_
      have q21 := (l_chk h).1
      replace h := (l_chk h).2
      obtain ⟨b22, eb22, h⟩ := l_rf h
      refine vr_getR (b := b22) d_RM_add_102 F_RM_68 rfl q21 eb22 ?_
      refine vr_iload_n d_RM_add_105 rfl rfl ?_
      refine vr_dup2_11 d_RM_add_106 rfl rfl ?_
      have q23 := (l_chk h).1
      replace h := (l_chk h).2
      have q24 := (l_chk h).1
      replace h := (l_chk h).2
      refine vr_iald (t := 0) d_RM_add_107 rfl q23 (ib_in q24) ?_
      refine vr_iconst 1 d_RM_add_108 (by decide) ?_
      refine vr_iadd d_RM_add_109 ?_
      obtain ⟨v25, ev25, h⟩ := l_bnd h
      refine vr_nm ev25 ?_
      have q26 := (l_chk h).1
      replace h := (l_chk h).2
      refine vr_iast (t := 0) d_RM_add_110 rfl q23 (ib_in q26) ?_
      refine vr_aload_n d_RM_add_111 rfl rfl ?_
      refine vr_getR (b := b22) d_RM_add_112 F_RM_68 rfl q21 eb22 ?_
      refine vr_iload_n d_RM_add_115 rfl rfl ?_
      have q27 := (l_chk h).1
      replace h := (l_chk h).2
      refine vr_iald (t := 0) d_RM_add_116 rfl q23 (ib_in q27) ?_
      obtain ⟨v28, ev28, h⟩ := l_bnd h
      refine vr_nm ev28 ?_
      refine vr_iconst 1 d_RM_add_117 (by decide) ?_
      refine vr_isub d_RM_add_118 ?_
      cases h
      exact vr_iret d_RM_add_119 rfl rfl ⟨rfl, rfl⟩
    · replace h := l_ifn c63 h
      refine vr_aload_n d_RM_add_66 rfl rfl ?_
      have q29 := (l_chk h).1
      replace h := (l_chk h).2
      obtain ⟨b30, eb30, h⟩ := l_rf h
      refine vr_getR (b := b30) d_RM_add_67 F_RM_65 rfl q29 eb30 ?_
      refine vr_sipush 13000 d_RM_add_70 (by decide) ?_
      refine vr_iload_n d_RM_add_73 rfl rfl ?_
      refine vr_imul d_RM_add_74 ?_
      refine vr_iload d_RM_add_75 rfl ?_
      refine vr_iadd d_RM_add_77 ?_
      refine vr_dup2_11 d_RM_add_78 rfl rfl ?_
      have q31 := (l_chk h).1
      replace h := (l_chk h).2
      have q32 := (l_chk h).1
      replace h := (l_chk h).2
      refine vr_iald (t := 0) d_RM_add_79 rfl q31 (ib_in q32) ?_
      refine vr_iconst 1 d_RM_add_80 (by decide) ?_
      refine vr_iadd d_RM_add_81 ?_
      obtain ⟨v33, ev33, h⟩ := l_bnd h
      refine vr_nm ev33 ?_
      have q34 := (l_chk h).1
      replace h := (l_chk h).2
      refine vr_iast (t := 0) d_RM_add_82 rfl q31 (ib_in q34) ?_
      refine vr_aload_n d_RM_add_83 rfl rfl ?_
      obtain ⟨b35, eb35, h⟩ := l_rf h
      refine vr_getR (b := b35) d_RM_add_84 F_RM_62 rfl q29 eb35 ?_
      refine vr_sipush 13000 d_RM_add_87 (by decide) ?_
      refine vr_iload_n d_RM_add_90 rfl rfl ?_
      refine vr_imul d_RM_add_91 ?_
      refine vr_iload d_RM_add_92 rfl ?_
      refine vr_iadd d_RM_add_94 ?_
      have q36 := (l_chk h).1
      replace h := (l_chk h).2
      have q37 := (l_chk h).1
      replace h := (l_chk h).2
      refine vr_iald (t := 0) d_RM_add_95 rfl q36 (ib_in q37) ?_
      obtain ⟨v38, ev38, h⟩ := l_bnd h
      refine vr_nm ev38 ?_
      refine vr_istore (L' := [some (.ref y0), some (.int y1), none, none, none, none, none, some (.int v38)]) d_RM_add_96 (by decide) rfl ?_
      refine vr_goto (tgt := 60) d_RM_add_98 (by decide) ?_
      exact mv_drop (ih _ _ _ _ _ h) (And.intro rfl (And.intro rfl (And.intro rfl trivial)))

def f_RM_add_h (N : Nat) (a0 : Nat) (x1 : Int32) (x2 : Int32) (x3 : Int32) (x4 : Int32) (x5 : Int32) (σ : mh_H) : Option (Int32 × mh_H) := chk (hT σ a0 = 17) <| rfO (hR σ 8 28 a0) fun b2 => chk (hT σ b2 = 2) <| chk (ib x1 (hN σ b2)) <| bnd (((13000 * x1) + (hA σ b2 (Int32.toNatClampNeg x1)))) fun v5 => rfO (hR σ 8 23 a0) fun b6 => chk (hT σ b6 = 2) <| chk (ib v5 (hN σ b6)) <| rfO (hR (mh_setA σ b6 (Int32.toNatClampNeg v5) x2) 8 24 a0) fun b9 => chk (hT (mh_setA σ b6 (Int32.toNatClampNeg v5) x2) b9 = 2) <| chk (ib v5 (hN (mh_setA σ b6 (Int32.toNatClampNeg v5) x2) b9)) <| rfO (hR (mh_setA (mh_setA σ b6 (Int32.toNatClampNeg v5) x2) b9 (Int32.toNatClampNeg v5) x3) 8 25 a0) fun b12 => chk (hT (mh_setA (mh_setA σ b6 (Int32.toNatClampNeg v5) x2) b9 (Int32.toNatClampNeg v5) x3) b12 = 2) <| chk (ib v5 (hN (mh_setA (mh_setA σ b6 (Int32.toNatClampNeg v5) x2) b9 (Int32.toNatClampNeg v5) x3) b12)) <| rfO (hR (mh_setA (mh_setA (mh_setA σ b6 (Int32.toNatClampNeg v5) x2) b9 (Int32.toNatClampNeg v5) x3) b12 (Int32.toNatClampNeg v5) x4) 8 26 a0) fun b15 => chk (hT (mh_setA (mh_setA (mh_setA σ b6 (Int32.toNatClampNeg v5) x2) b9 (Int32.toNatClampNeg v5) x3) b12 (Int32.toNatClampNeg v5) x4) b15 = 2) <| chk (ib v5 (hN (mh_setA (mh_setA (mh_setA σ b6 (Int32.toNatClampNeg v5) x2) b9 (Int32.toNatClampNeg v5) x3) b12 (Int32.toNatClampNeg v5) x4) b15)) <| rfO (hR (mh_setA (mh_setA (mh_setA (mh_setA σ b6 (Int32.toNatClampNeg v5) x2) b9 (Int32.toNatClampNeg v5) x3) b12 (Int32.toNatClampNeg v5) x4) b15 (Int32.toNatClampNeg v5) x5) 8 27 a0) fun b18 => chk (hT (mh_setA (mh_setA (mh_setA (mh_setA σ b6 (Int32.toNatClampNeg v5) x2) b9 (Int32.toNatClampNeg v5) x3) b12 (Int32.toNatClampNeg v5) x4) b15 (Int32.toNatClampNeg v5) x5) b18 = 2) <| chk (ib v5 (hN (mh_setA (mh_setA (mh_setA (mh_setA σ b6 (Int32.toNatClampNeg v5) x2) b9 (Int32.toNatClampNeg v5) x3) b12 (Int32.toNatClampNeg v5) x4) b15 (Int32.toNatClampNeg v5) x5) b18)) <| k_RM_add_h_60 N N a0 x1 x5 ((mh_setA (mh_setA (mh_setA (mh_setA (mh_setA σ b6 (Int32.toNatClampNeg v5) x2) b9 (Int32.toNatClampNeg v5) x3) b12 (Int32.toNatClampNeg v5) x4) b15 (Int32.toNatClampNeg v5) x5) b18 (Int32.toNatClampNeg v5) 1))
theorem c_RM_add_h {g : mv_G} {N : Nat} {a0 : Nat} {x1 : Int32} {x2 : Int32} {x3 : Int32} {x4 : Int32} {x5 : Int32} {σ : mh_H} {r : Int32 × mh_H} (h : f_RM_add_h N a0 x1 x2 x3 x4 x5 σ = some r) : mv_Met g M_RM_add 0 0 0 0 [.ref a0, .int x1, .int x2, .int x3, .int x4, .int x5] σ (fun oc τ => τ = r.2 ∧ oc = .returned (some (.int r.1))) := by
  refine mv_entry (L := [some (.ref a0), some (.int x1), some (.int x2), some (.int x3), some (.int x4), some (.int x5), none, none]) rfl rfl (Nat.le_of_ble_eq_true rfl) rfl ?_
  unfold f_RM_add_h at h
  refine vr_sipush 13000 d_RM_add_0 (by decide) ?_
  refine vr_iload_n d_RM_add_3 rfl rfl ?_
  refine vr_imul d_RM_add_4 ?_
  refine vr_aload_n d_RM_add_5 rfl rfl ?_
  have q1 := (l_chk h).1
  replace h := (l_chk h).2
  obtain ⟨b2, eb2, h⟩ := l_rf h
  refine vr_getR (b := b2) d_RM_add_6 F_RM_68 rfl q1 eb2 ?_
  refine vr_iload_n d_RM_add_9 rfl rfl ?_
  have q3 := (l_chk h).1
  replace h := (l_chk h).2
  have q4 := (l_chk h).1
  replace h := (l_chk h).2
  refine vr_iald (t := 0) d_RM_add_10 rfl q3 (ib_in q4) ?_
  refine vr_iadd d_RM_add_11 ?_
  obtain ⟨v5, ev5, h⟩ := l_bnd h
  refine vr_nm ev5 ?_
  refine vr_istore (L' := [some (.ref a0), some (.int x1), some (.int x2), some (.int x3), some (.int x4), some (.int x5), some (.int v5), none]) d_RM_add_12 (by decide) rfl ?_
  refine vr_aload_n d_RM_add_14 rfl rfl ?_
  obtain ⟨b6, eb6, h⟩ := l_rf h
  refine vr_getR (b := b6) d_RM_add_15 F_RM_53 rfl q1 eb6 ?_
  refine vr_iload d_RM_add_18 rfl ?_
  refine vr_iload_n d_RM_add_20 rfl rfl ?_
  have q7 := (l_chk h).1
  replace h := (l_chk h).2
  have q8 := (l_chk h).1
  replace h := (l_chk h).2
  refine vr_iast (t := 0) d_RM_add_21 rfl q7 (ib_in q8) ?_
  refine vr_aload_n d_RM_add_22 rfl rfl ?_
  obtain ⟨b9, eb9, h⟩ := l_rf h
  refine vr_getR (b := b9) d_RM_add_23 F_RM_56 rfl q1 eb9 ?_
  refine vr_iload d_RM_add_26 rfl ?_
  refine vr_iload_n d_RM_add_28 rfl rfl ?_
  have q10 := (l_chk h).1
  replace h := (l_chk h).2
  have q11 := (l_chk h).1
  replace h := (l_chk h).2
  refine vr_iast (t := 0) d_RM_add_29 rfl q10 (ib_in q11) ?_
  refine vr_aload_n d_RM_add_30 rfl rfl ?_
  obtain ⟨b12, eb12, h⟩ := l_rf h
  refine vr_getR (b := b12) d_RM_add_31 F_RM_59 rfl q1 eb12 ?_
  refine vr_iload d_RM_add_34 rfl ?_
  refine vr_iload d_RM_add_36 rfl ?_
  have q13 := (l_chk h).1
  replace h := (l_chk h).2
  have q14 := (l_chk h).1
  replace h := (l_chk h).2
  refine vr_iast (t := 0) d_RM_add_38 rfl q13 (ib_in q14) ?_
  refine vr_aload_n d_RM_add_39 rfl rfl ?_
  obtain ⟨b15, eb15, h⟩ := l_rf h
  refine vr_getR (b := b15) d_RM_add_40 F_RM_62 rfl q1 eb15 ?_
  refine vr_iload d_RM_add_43 rfl ?_
  refine vr_iload d_RM_add_45 rfl ?_
  have q16 := (l_chk h).1
  replace h := (l_chk h).2
  have q17 := (l_chk h).1
  replace h := (l_chk h).2
  refine vr_iast (t := 0) d_RM_add_47 rfl q16 (ib_in q17) ?_
  refine vr_aload_n d_RM_add_48 rfl rfl ?_
  obtain ⟨b18, eb18, h⟩ := l_rf h
  refine vr_getR (b := b18) d_RM_add_49 F_RM_65 rfl q1 eb18 ?_
  refine vr_iload d_RM_add_52 rfl ?_
  refine vr_iconst 1 d_RM_add_54 (by decide) ?_
  have q19 := (l_chk h).1
  replace h := (l_chk h).2
  have q20 := (l_chk h).1
  replace h := (l_chk h).2
  refine vr_iast (t := 0) d_RM_add_55 rfl q19 (ib_in q20) ?_
  refine vr_iload d_RM_add_56 rfl ?_
  refine vr_istore (L' := [some (.ref a0), some (.int x1), some (.int x2), some (.int x3), some (.int x4), some (.int x5), some (.int v5), some (.int x5)]) d_RM_add_58 (by decide) rfl ?_
  exact mv_drop (q_RM_add_h_60 N _ _ _ _ _ h) (And.intro rfl (And.intro rfl (And.intro rfl trivial)))

def f_RM_clear_h (N : Nat) (a0 : Nat) (x1 : Int32) (σ : mh_H) : Option (mh_H) := chk (hT σ a0 = 17) <| rfO (hR σ 8 28 a0) fun b2 => chk (hT σ b2 = 2) <| chk (ib x1 (hN σ b2)) <| calI (f_RM_add_h N a0 x1 0 0 0 (-1) (mh_setA σ b2 (Int32.toNatClampNeg x1) 0)) fun v5 s5 => chk (hT s5 a0 = 17) <| rfO (hR s5 8 24 a0) fun b7 => chk (hT s5 b7 = 2) <| chk (ib (13000 * x1) (hN s5 b7)) <| some ((mh_setA s5 b7 (Int32.toNatClampNeg (13000 * x1)) (-1)))
theorem c_RM_clear_h {g : mv_G} {N : Nat} {a0 : Nat} {x1 : Int32} {σ : mh_H} {r : mh_H} (h : f_RM_clear_h N a0 x1 σ = some r) : mv_Met g M_RM_clear 1 27 0 0 [.ref a0, .int x1] σ (fun oc τ => τ = r ∧ oc = .returned none) := by
  refine mv_entry (L := [some (.ref a0), some (.int x1)]) rfl rfl (Nat.le_of_ble_eq_true rfl) rfl ?_
  unfold f_RM_clear_h at h
  refine vr_aload_n d_RM_clear_0 rfl rfl ?_
  have q1 := (l_chk h).1
  replace h := (l_chk h).2
  obtain ⟨b2, eb2, h⟩ := l_rf h
  refine vr_getR (b := b2) d_RM_clear_1 F_RM_68 rfl q1 eb2 ?_
  refine vr_iload_n d_RM_clear_4 rfl rfl ?_
  refine vr_iconst 0 d_RM_clear_5 (by decide) ?_
  have q3 := (l_chk h).1
  replace h := (l_chk h).2
  have q4 := (l_chk h).1
  replace h := (l_chk h).2
  refine vr_iast (t := 0) d_RM_clear_6 rfl q3 (ib_in q4) ?_
  refine vr_aload_n d_RM_clear_7 rfl rfl ?_
  refine vr_iload_n d_RM_clear_8 rfl rfl ?_
  refine vr_iconst 0 d_RM_clear_9 (by decide) ?_
  refine vr_iconst 0 d_RM_clear_10 (by decide) ?_
  refine vr_iconst 0 d_RM_clear_11 (by decide) ?_
  refine vr_iconst (-1) d_RM_clear_12 (by decide) ?_
  obtain ⟨v5, s5, ev5, h⟩ := l_calI h
  refine mh_callI 8 [.int x1, .int 0, .int 0, .int 0, .int (-1)] d_RM_clear_13 C_RM_103 (c_RM_add_h ev5) q1 rfl rfl rfl (Nat.le_of_ble_eq_true rfl) (by decide) (Nat.le_of_ble_eq_true rfl) ?_
  refine vr_pop d_RM_clear_16 rfl ?_
  refine vr_aload_n d_RM_clear_17 rfl rfl ?_
  have q6 := (l_chk h).1
  replace h := (l_chk h).2
  obtain ⟨b7, eb7, h⟩ := l_rf h
  refine vr_getR (b := b7) d_RM_clear_18 F_RM_56 rfl q6 eb7 ?_
  refine vr_sipush 13000 d_RM_clear_21 (by decide) ?_
  refine vr_iload_n d_RM_clear_24 rfl rfl ?_
  refine vr_imul d_RM_clear_25 ?_
  refine vr_iconst (-1) d_RM_clear_26 (by decide) ?_
  have q8 := (l_chk h).1
  replace h := (l_chk h).2
  have q9 := (l_chk h).1
  replace h := (l_chk h).2
  refine vr_iast (t := 0) d_RM_clear_27 rfl q8 (ib_in q9) ?_
  cases h
  exact vr_vret d_RM_clear_28 rfl ⟨rfl, rfl⟩

def f_RM_init (N : Nat) (K : Nat → Nat) (a0 : Nat) (σ : mh_H) : Option (mh_H × Nat × Nat) := chk (¬ (8000 : Int32) < 0 ∧ Int32.toNatClampNeg 8000 ≤ 100000) <| tkA 1 (Int32.toNatClampNeg 8000) <| bnd (hX σ) fun a3 => bnd (mh_arr σ 0 (Int32.toNatClampNeg 8000)) fun s4 => chk (hT s4 a0 = 17) <| chk (¬ (8000 : Int32) < 0 ∧ Int32.toNatClampNeg 8000 ≤ 100000) <| tkA 1 (Int32.toNatClampNeg 8000) <| bnd (hX (mh_setR s4 8 1 a0 (some a3))) fun a8 => bnd (mh_arr (mh_setR s4 8 1 a0 (some a3)) 0 (Int32.toNatClampNeg 8000)) fun s9 => chk (hT s9 a0 = 17) <| chk (¬ (8001 : Int32) < 0 ∧ Int32.toNatClampNeg 8001 ≤ 100000) <| tkA 1 (Int32.toNatClampNeg 8001) <| bnd (hX (mh_setR s9 8 4 a0 (some a8))) fun a13 => bnd (mh_arr (mh_setR s9 8 4 a0 (some a8)) 0 (Int32.toNatClampNeg 8001)) fun s14 => chk (hT s14 a0 = 17) <| chk (¬ (8002 : Int32) < 0 ∧ Int32.toNatClampNeg 8002 ≤ 100000) <| tkA 1 (Int32.toNatClampNeg 8002) <| bnd (hX (mh_setR s14 8 6 a0 (some a13))) fun a18 => bnd (mh_arr (mh_setR s14 8 6 a0 (some a13)) 0 (Int32.toNatClampNeg 8002)) fun s19 => chk (hT s19 a0 = 17) <| chk (¬ (8002 : Int32) < 0 ∧ Int32.toNatClampNeg 8002 ≤ 100000) <| tkA 1 (Int32.toNatClampNeg 8002) <| bnd (hX (mh_setR s19 8 8 a0 (some a18))) fun a23 => bnd (mh_arr (mh_setR s19 8 8 a0 (some a18)) 0 (Int32.toNatClampNeg 8002)) fun s24 => chk (hT s24 a0 = 17) <| chk (¬ (8002 : Int32) < 0 ∧ Int32.toNatClampNeg 8002 ≤ 100000) <| tkA 1 (Int32.toNatClampNeg 8002) <| bnd (hX (mh_setR s24 8 9 a0 (some a23))) fun a28 => bnd (mh_arr (mh_setR s24 8 9 a0 (some a23)) 0 (Int32.toNatClampNeg 8002)) fun s29 => chk (hT s29 a0 = 17) <| chk (¬ (26000 : Int32) < 0 ∧ Int32.toNatClampNeg 26000 ≤ 100000) <| tkA 1 (Int32.toNatClampNeg 26000) <| bnd (hX (mh_setI (mh_setR s29 8 10 a0 (some a28)) 8 14 a0 (-1))) fun a33 => bnd (mh_arr (mh_setI (mh_setR s29 8 10 a0 (some a28)) 8 14 a0 (-1)) 0 (Int32.toNatClampNeg 26000)) fun s34 => chk (hT s34 a0 = 17) <| chk (¬ (26000 : Int32) < 0 ∧ Int32.toNatClampNeg 26000 ≤ 100000) <| tkA 1 (Int32.toNatClampNeg 26000) <| bnd (hX (mh_setR s34 8 15 a0 (some a33))) fun a38 => bnd (mh_arr (mh_setR s34 8 15 a0 (some a33)) 0 (Int32.toNatClampNeg 26000)) fun s39 => chk (hT s39 a0 = 17) <| chk (¬ (26000 : Int32) < 0 ∧ Int32.toNatClampNeg 26000 ≤ 100000) <| tkA 1 (Int32.toNatClampNeg 26000) <| bnd (hX (mh_setR s39 8 16 a0 (some a38))) fun a43 => bnd (mh_arr (mh_setR s39 8 16 a0 (some a38)) 0 (Int32.toNatClampNeg 26000)) fun s44 => chk (hT s44 a0 = 17) <| chk (¬ (26000 : Int32) < 0 ∧ Int32.toNatClampNeg 26000 ≤ 100000) <| tkA 1 (Int32.toNatClampNeg 26000) <| bnd (hX (mh_setR s44 8 17 a0 (some a43))) fun a48 => bnd (mh_arr (mh_setR s44 8 17 a0 (some a43)) 0 (Int32.toNatClampNeg 26000)) fun s49 => chk (hT s49 a0 = 17) <| chk (¬ (26000 : Int32) < 0 ∧ Int32.toNatClampNeg 26000 ≤ 100000) <| tkA 1 (Int32.toNatClampNeg 26000) <| bnd (hX (mh_setR s49 8 18 a0 (some a48))) fun a53 => bnd (mh_arr (mh_setR s49 8 18 a0 (some a48)) 0 (Int32.toNatClampNeg 26000)) fun s54 => chk (hT s54 a0 = 17) <| chk (¬ (26000 : Int32) < 0 ∧ Int32.toNatClampNeg 26000 ≤ 100000) <| tkA 1 (Int32.toNatClampNeg 26000) <| bnd (hX (mh_setR s54 8 19 a0 (some a53))) fun a58 => bnd (mh_arr (mh_setR s54 8 19 a0 (some a53)) 0 (Int32.toNatClampNeg 26000)) fun s59 => chk (hT s59 a0 = 17) <| chk (¬ (26000 : Int32) < 0 ∧ Int32.toNatClampNeg 26000 ≤ 100000) <| tkA 1 (Int32.toNatClampNeg 26000) <| bnd (hX (mh_setR s59 8 20 a0 (some a58))) fun a63 => bnd (mh_arr (mh_setR s59 8 20 a0 (some a58)) 0 (Int32.toNatClampNeg 26000)) fun s64 => chk (hT s64 a0 = 17) <| chk (¬ (26000 : Int32) < 0 ∧ Int32.toNatClampNeg 26000 ≤ 100000) <| tkA 1 (Int32.toNatClampNeg 26000) <| bnd (hX (mh_setR s64 8 22 a0 (some a63))) fun a68 => bnd (mh_arr (mh_setR s64 8 22 a0 (some a63)) 0 (Int32.toNatClampNeg 26000)) fun s69 => chk (hT s69 a0 = 17) <| chk (¬ (26000 : Int32) < 0 ∧ Int32.toNatClampNeg 26000 ≤ 100000) <| tkA 1 (Int32.toNatClampNeg 26000) <| bnd (hX (mh_setR s69 8 23 a0 (some a68))) fun a73 => bnd (mh_arr (mh_setR s69 8 23 a0 (some a68)) 0 (Int32.toNatClampNeg 26000)) fun s74 => chk (hT s74 a0 = 17) <| chk (¬ (26000 : Int32) < 0 ∧ Int32.toNatClampNeg 26000 ≤ 100000) <| tkA 1 (Int32.toNatClampNeg 26000) <| bnd (hX (mh_setR s74 8 24 a0 (some a73))) fun a78 => bnd (mh_arr (mh_setR s74 8 24 a0 (some a73)) 0 (Int32.toNatClampNeg 26000)) fun s79 => chk (hT s79 a0 = 17) <| chk (¬ (26000 : Int32) < 0 ∧ Int32.toNatClampNeg 26000 ≤ 100000) <| tkA 1 (Int32.toNatClampNeg 26000) <| bnd (hX (mh_setR s79 8 25 a0 (some a78))) fun a83 => bnd (mh_arr (mh_setR s79 8 25 a0 (some a78)) 0 (Int32.toNatClampNeg 26000)) fun s84 => chk (hT s84 a0 = 17) <| chk (¬ (26000 : Int32) < 0 ∧ Int32.toNatClampNeg 26000 ≤ 100000) <| tkA 1 (Int32.toNatClampNeg 26000) <| bnd (hX (mh_setR s84 8 26 a0 (some a83))) fun a88 => bnd (mh_arr (mh_setR s84 8 26 a0 (some a83)) 0 (Int32.toNatClampNeg 26000)) fun s89 => chk (hT s89 a0 = 17) <| chk (¬ (2 : Int32) < 0 ∧ Int32.toNatClampNeg 2 ≤ 100000) <| tkA 1 (Int32.toNatClampNeg 2) <| bnd (hX (mh_setR s89 8 27 a0 (some a88))) fun a93 => bnd (mh_arr (mh_setR s89 8 27 a0 (some a88)) 0 (Int32.toNatClampNeg 2)) fun s94 => chk (hT s94 a0 = 17) <| chk (¬ (12000 : Int32) < 0 ∧ Int32.toNatClampNeg 12000 ≤ 100000) <| tkA 1 (Int32.toNatClampNeg 12000) <| bnd (hX (mh_setR s94 8 28 a0 (some a93))) fun a98 => bnd (mh_arr (mh_setR s94 8 28 a0 (some a93)) 0 (Int32.toNatClampNeg 12000)) fun s99 => chk (hT s99 a0 = 17) <| chk (¬ (6001 : Int32) < 0 ∧ Int32.toNatClampNeg 6001 ≤ 100000) <| tkA 1 (Int32.toNatClampNeg 6001) <| bnd (hX (mh_setR s99 8 29 a0 (some a98))) fun a103 => bnd (mh_arr (mh_setR s99 8 29 a0 (some a98)) 0 (Int32.toNatClampNeg 6001)) fun s104 => chk (hT s104 a0 = 17) <| chk (¬ (8 : Int32) < 0 ∧ Int32.toNatClampNeg 8 ≤ 100000) <| tkA 1 (Int32.toNatClampNeg 8) <| bnd (hX (mh_setR s104 8 30 a0 (some a103))) fun a108 => bnd (mh_arr (mh_setR s104 8 30 a0 (some a103)) 3 (Int32.toNatClampNeg 8)) fun s109 => chk (hT s109 a108 = 8) <| chk (ib 0 (hN s109 a108)) <| chk (ib 1 (hN (mh_setQ s109 a108 (Int32.toNatClampNeg 0) (some (K 46))) a108)) <| chk (ib 2 (hN (mh_setQ (mh_setQ s109 a108 (Int32.toNatClampNeg 0) (some (K 46))) a108 (Int32.toNatClampNeg 1) (some (K 47))) a108)) <| chk (ib 3 (hN (mh_setQ (mh_setQ (mh_setQ s109 a108 (Int32.toNatClampNeg 0) (some (K 46))) a108 (Int32.toNatClampNeg 1) (some (K 47))) a108 (Int32.toNatClampNeg 2) (some (K 48))) a108)) <| chk (ib 4 (hN (mh_setQ (mh_setQ (mh_setQ (mh_setQ s109 a108 (Int32.toNatClampNeg 0) (some (K 46))) a108 (Int32.toNatClampNeg 1) (some (K 47))) a108 (Int32.toNatClampNeg 2) (some (K 48))) a108 (Int32.toNatClampNeg 3) (some (K 49))) a108)) <| chk (ib 5 (hN (mh_setQ (mh_setQ (mh_setQ (mh_setQ (mh_setQ s109 a108 (Int32.toNatClampNeg 0) (some (K 46))) a108 (Int32.toNatClampNeg 1) (some (K 47))) a108 (Int32.toNatClampNeg 2) (some (K 48))) a108 (Int32.toNatClampNeg 3) (some (K 49))) a108 (Int32.toNatClampNeg 4) (some (K 50))) a108)) <| chk (ib 6 (hN (mh_setQ (mh_setQ (mh_setQ (mh_setQ (mh_setQ (mh_setQ s109 a108 (Int32.toNatClampNeg 0) (some (K 46))) a108 (Int32.toNatClampNeg 1) (some (K 47))) a108 (Int32.toNatClampNeg 2) (some (K 48))) a108 (Int32.toNatClampNeg 3) (some (K 49))) a108 (Int32.toNatClampNeg 4) (some (K 50))) a108 (Int32.toNatClampNeg 5) (some (K 51))) a108)) <| chk (ib 7 (hN (mh_setQ (mh_setQ (mh_setQ (mh_setQ (mh_setQ (mh_setQ (mh_setQ s109 a108 (Int32.toNatClampNeg 0) (some (K 46))) a108 (Int32.toNatClampNeg 1) (some (K 47))) a108 (Int32.toNatClampNeg 2) (some (K 48))) a108 (Int32.toNatClampNeg 3) (some (K 49))) a108 (Int32.toNatClampNeg 4) (some (K 50))) a108 (Int32.toNatClampNeg 5) (some (K 51))) a108 (Int32.toNatClampNeg 6) (some (K 52))) a108)) <| bnd (mh_setQ (mh_setQ (mh_setQ (mh_setQ (mh_setQ (mh_setQ (mh_setQ (mh_setQ s109 a108 (Int32.toNatClampNeg 0) (some (K 46))) a108 (Int32.toNatClampNeg 1) (some (K 47))) a108 (Int32.toNatClampNeg 2) (some (K 48))) a108 (Int32.toNatClampNeg 3) (some (K 49))) a108 (Int32.toNatClampNeg 4) (some (K 50))) a108 (Int32.toNatClampNeg 5) (some (K 51))) a108 (Int32.toNatClampNeg 6) (some (K 52))) a108 (Int32.toNatClampNeg 7) (some (K 53))) fun s119 => chk (hT s119 a0 = 17) <| calV (f_RM_clear_h N a0 0 (mh_setR s119 8 0 a0 (some a108))) fun s121 => chk (hT s121 a0 = 17) <| calV (f_RM_clear_h N a0 1 s121) fun s123 => some (s123, 0, 0)
theorem c_RM_init {g : mv_G} {N : Nat} {a0 : Nat} {σ : mh_H} {r : mh_H × Nat × Nat} (h : f_RM_init N (mg_K g) a0 σ = some r) : mv_Met g M_RM_init 2 48 r.2.1 r.2.2 [.ref a0] σ (fun oc τ => τ = r.1 ∧ oc = .returned none) := by
  have key : ∀ cb sb : Nat, r.2.1 ≤ cb → r.2.2 ≤ sb → mv_V g M_RM_init 2 48 cb sb 0 [some (.ref a0)] [] σ (fun oc τ => τ = r.1 ∧ oc = .returned none) := by
    intro cb sb hc hs
    unfold f_RM_init at h
    refine vr_aload_n d_RM_init_0 rfl rfl ?_
    refine vr_objInit d_RM_init_1 w_896 w_27 w_28 (by decide) (Nat.le_of_ble_eq_true rfl) ?_
    refine vr_aload_n d_RM_init_4 rfl rfl ?_
    refine vr_sipush 8000 d_RM_init_5 (by decide) ?_
    have q1 := (l_chk h).1
    replace h := (l_chk h).2
    obtain ⟨ru2, xu2, yu2, hhu2, hz⟩ := l_tkA h
    clear h
    cases hz
    have h := hhu2
    have h1u2 : 1 ≤ cb := by have hz : xu2 + 1 ≤ cb := hc; omega
    have h2u2 : (Int32.toNatClampNeg 8000) ≤ sb := by have hz : yu2 + (Int32.toNatClampNeg 8000) ≤ sb := hs; omega
    replace hc : xu2 ≤ cb - 1 := by have hz : xu2 + 1 ≤ cb := hc; omega
    replace hs : yu2 ≤ sb - (Int32.toNatClampNeg 8000) := by have hz : yu2 + (Int32.toNatClampNeg 8000) ≤ sb := hs; omega
    refine mh_newI d_RM_init_8 q1 h1u2 h2u2 ?_
    obtain ⟨a3, ea3, h⟩ := l_bnd h
    refine vr_nmA ea3 ?_
    obtain ⟨s4, es4, h⟩ := l_bnd h
    refine vr_nmS es4 ?_
    have q5 := (l_chk h).1
    replace h := (l_chk h).2
    refine vr_putR d_RM_init_10 W_RM_init_9 rfl rfl rfl q5 ?_
    refine vr_aload_n d_RM_init_13 rfl rfl ?_
    refine vr_sipush 8000 d_RM_init_14 (by decide) ?_
    have q6 := (l_chk h).1
    replace h := (l_chk h).2
    obtain ⟨ru7, xu7, yu7, hhu7, hz⟩ := l_tkA h
    clear h
    cases hz
    have h := hhu7
    have h1u7 : 1 ≤ (cb - 1) := by have hz : xu7 + 1 ≤ (cb - 1) := hc; omega
    have h2u7 : (Int32.toNatClampNeg 8000) ≤ (sb - (Int32.toNatClampNeg 8000)) := by have hz : yu7 + (Int32.toNatClampNeg 8000) ≤ (sb - (Int32.toNatClampNeg 8000)) := hs; omega
    replace hc : xu7 ≤ (cb - 1) - 1 := by have hz : xu7 + 1 ≤ (cb - 1) := hc; omega
    replace hs : yu7 ≤ (sb - (Int32.toNatClampNeg 8000)) - (Int32.toNatClampNeg 8000) := by have hz : yu7 + (Int32.toNatClampNeg 8000) ≤ (sb - (Int32.toNatClampNeg 8000)) := hs; omega
    refine mh_newI d_RM_init_17 q6 h1u7 h2u7 ?_
    obtain ⟨a8, ea8, h⟩ := l_bnd h
    refine vr_nmA ea8 ?_
    obtain ⟨s9, es9, h⟩ := l_bnd h
    refine vr_nmS es9 ?_
    have q10 := (l_chk h).1
    replace h := (l_chk h).2
    refine vr_putR d_RM_init_19 W_RM_init_13 rfl rfl rfl q10 ?_
    refine vr_aload_n d_RM_init_22 rfl rfl ?_
    refine vr_sipush 8001 d_RM_init_23 (by decide) ?_
    have q11 := (l_chk h).1
    replace h := (l_chk h).2
    obtain ⟨ru12, xu12, yu12, hhu12, hz⟩ := l_tkA h
    clear h
    cases hz
    have h := hhu12
    have h1u12 : 1 ≤ ((cb - 1) - 1) := by have hz : xu12 + 1 ≤ ((cb - 1) - 1) := hc; omega
    have h2u12 : (Int32.toNatClampNeg 8001) ≤ ((sb - (Int32.toNatClampNeg 8000)) - (Int32.toNatClampNeg 8000)) := by have hz : yu12 + (Int32.toNatClampNeg 8001) ≤ ((sb - (Int32.toNatClampNeg 8000)) - (Int32.toNatClampNeg 8000)) := hs; omega
    replace hc : xu12 ≤ ((cb - 1) - 1) - 1 := by have hz : xu12 + 1 ≤ ((cb - 1) - 1) := hc; omega
    replace hs : yu12 ≤ ((sb - (Int32.toNatClampNeg 8000)) - (Int32.toNatClampNeg 8000)) - (Int32.toNatClampNeg 8001) := by have hz : yu12 + (Int32.toNatClampNeg 8001) ≤ ((sb - (Int32.toNatClampNeg 8000)) - (Int32.toNatClampNeg 8000)) := hs; omega
    refine mh_newI d_RM_init_26 q11 h1u12 h2u12 ?_
    obtain ⟨a13, ea13, h⟩ := l_bnd h
    refine vr_nmA ea13 ?_
    obtain ⟨s14, es14, h⟩ := l_bnd h
    refine vr_nmS es14 ?_
    have q15 := (l_chk h).1
    replace h := (l_chk h).2
    refine vr_putR d_RM_init_28 W_RM_init_16 rfl rfl rfl q15 ?_
    refine vr_aload_n d_RM_init_31 rfl rfl ?_
    refine vr_sipush 8002 d_RM_init_32 (by decide) ?_
    have q16 := (l_chk h).1
    replace h := (l_chk h).2
    obtain ⟨ru17, xu17, yu17, hhu17, hz⟩ := l_tkA h
    clear h
    cases hz
    have h := hhu17
    have h1u17 : 1 ≤ (((cb - 1) - 1) - 1) := by have hz : xu17 + 1 ≤ (((cb - 1) - 1) - 1) := hc; omega
    have h2u17 : (Int32.toNatClampNeg 8002) ≤ (((sb - (Int32.toNatClampNeg 8000)) - (Int32.toNatClampNeg 8000)) - (Int32.toNatClampNeg 8001)) := by have hz : yu17 + (Int32.toNatClampNeg 8002) ≤ (((sb - (Int32.toNatClampNeg 8000)) - (Int32.toNatClampNeg 8000)) - (Int32.toNatClampNeg 8001)) := hs; omega
    replace hc : xu17 ≤ (((cb - 1) - 1) - 1) - 1 := by have hz : xu17 + 1 ≤ (((cb - 1) - 1) - 1) := hc; omega
    replace hs : yu17 ≤ (((sb - (Int32.toNatClampNeg 8000)) - (Int32.toNatClampNeg 8000)) - (Int32.toNatClampNeg 8001)) - (Int32.toNatClampNeg 8002) := by have hz : yu17 + (Int32.toNatClampNeg 8002) ≤ (((sb - (Int32.toNatClampNeg 8000)) - (Int32.toNatClampNeg 8000)) - (Int32.toNatClampNeg 8001)) := hs; omega
    refine mh_newI d_RM_init_35 q16 h1u17 h2u17 ?_
    obtain ⟨a18, ea18, h⟩ := l_bnd h
    refine vr_nmA ea18 ?_
    obtain ⟨s19, es19, h⟩ := l_bnd h
    refine vr_nmS es19 ?_
    have q20 := (l_chk h).1
    replace h := (l_chk h).2
    refine vr_putR d_RM_init_37 W_RM_init_19 rfl rfl rfl q20 ?_
    refine vr_aload_n d_RM_init_40 rfl rfl ?_
    refine vr_sipush 8002 d_RM_init_41 (by decide) ?_
    have q21 := (l_chk h).1
    replace h := (l_chk h).2
    obtain ⟨ru22, xu22, yu22, hhu22, hz⟩ := l_tkA h
    clear h
    cases hz
    have h := hhu22
    have h1u22 : 1 ≤ ((((cb - 1) - 1) - 1) - 1) := by have hz : xu22 + 1 ≤ ((((cb - 1) - 1) - 1) - 1) := hc; omega
    have h2u22 : (Int32.toNatClampNeg 8002) ≤ ((((sb - (Int32.toNatClampNeg 8000)) - (Int32.toNatClampNeg 8000)) - (Int32.toNatClampNeg 8001)) - (Int32.toNatClampNeg 8002)) := by have hz : yu22 + (Int32.toNatClampNeg 8002) ≤ ((((sb - (Int32.toNatClampNeg 8000)) - (Int32.toNatClampNeg 8000)) - (Int32.toNatClampNeg 8001)) - (Int32.toNatClampNeg 8002)) := hs; omega
    replace hc : xu22 ≤ ((((cb - 1) - 1) - 1) - 1) - 1 := by have hz : xu22 + 1 ≤ ((((cb - 1) - 1) - 1) - 1) := hc; omega
    replace hs : yu22 ≤ ((((sb - (Int32.toNatClampNeg 8000)) - (Int32.toNatClampNeg 8000)) - (Int32.toNatClampNeg 8001)) - (Int32.toNatClampNeg 8002)) - (Int32.toNatClampNeg 8002) := by have hz : yu22 + (Int32.toNatClampNeg 8002) ≤ ((((sb - (Int32.toNatClampNeg 8000)) - (Int32.toNatClampNeg 8000)) - (Int32.toNatClampNeg 8001)) - (Int32.toNatClampNeg 8002)) := hs; omega
    refine mh_newI d_RM_init_44 q21 h1u22 h2u22 ?_
    obtain ⟨a23, ea23, h⟩ := l_bnd h
    refine vr_nmA ea23 ?_
    obtain ⟨s24, es24, h⟩ := l_bnd h
    refine vr_nmS es24 ?_
    have q25 := (l_chk h).1
    replace h := (l_chk h).2
    refine vr_putR d_RM_init_46 W_RM_init_22 rfl rfl rfl q25 ?_
    refine vr_aload_n d_RM_init_49 rfl rfl ?_
    refine vr_sipush 8002 d_RM_init_50 (by decide) ?_
    have q26 := (l_chk h).1
    replace h := (l_chk h).2
    obtain ⟨ru27, xu27, yu27, hhu27, hz⟩ := l_tkA h
    clear h
    cases hz
    have h := hhu27
    have h1u27 : 1 ≤ (((((cb - 1) - 1) - 1) - 1) - 1) := by have hz : xu27 + 1 ≤ (((((cb - 1) - 1) - 1) - 1) - 1) := hc; omega
    have h2u27 : (Int32.toNatClampNeg 8002) ≤ (((((sb - (Int32.toNatClampNeg 8000)) - (Int32.toNatClampNeg 8000)) - (Int32.toNatClampNeg 8001)) - (Int32.toNatClampNeg 8002)) - (Int32.toNatClampNeg 8002)) := by have hz : yu27 + (Int32.toNatClampNeg 8002) ≤ (((((sb - (Int32.toNatClampNeg 8000)) - (Int32.toNatClampNeg 8000)) - (Int32.toNatClampNeg 8001)) - (Int32.toNatClampNeg 8002)) - (Int32.toNatClampNeg 8002)) := hs; omega
    replace hc : xu27 ≤ (((((cb - 1) - 1) - 1) - 1) - 1) - 1 := by have hz : xu27 + 1 ≤ (((((cb - 1) - 1) - 1) - 1) - 1) := hc; omega
    replace hs : yu27 ≤ (((((sb - (Int32.toNatClampNeg 8000)) - (Int32.toNatClampNeg 8000)) - (Int32.toNatClampNeg 8001)) - (Int32.toNatClampNeg 8002)) - (Int32.toNatClampNeg 8002)) - (Int32.toNatClampNeg 8002) := by have hz : yu27 + (Int32.toNatClampNeg 8002) ≤ (((((sb - (Int32.toNatClampNeg 8000)) - (Int32.toNatClampNeg 8000)) - (Int32.toNatClampNeg 8001)) - (Int32.toNatClampNeg 8002)) - (Int32.toNatClampNeg 8002)) := hs; omega
    refine mh_newI d_RM_init_53 q26 h1u27 h2u27 ?_
    obtain ⟨a28, ea28, h⟩ := l_bnd h
    refine vr_nmA ea28 ?_
    obtain ⟨s29, es29, h⟩ := l_bnd h
    refine vr_nmS es29 ?_
    have q30 := (l_chk h).1
    replace h := (l_chk h).2
    refine vr_putR d_RM_init_55 W_RM_init_25 rfl rfl rfl q30 ?_
    refine vr_aload_n d_RM_init_58 rfl rfl ?_
    refine vr_iconst (-1) d_RM_init_59 (by decide) ?_
    refine vr_putI d_RM_init_60 W_RM_init_28 rfl rfl rfl q30 ?_
    refine vr_aload_n d_RM_init_63 rfl rfl ?_
    refine vr_sipush 26000 d_RM_init_64 (by decide) ?_
    have q31 := (l_chk h).1
    replace h := (l_chk h).2
    obtain ⟨ru32, xu32, yu32, hhu32, hz⟩ := l_tkA h
    clear h
    cases hz
    have h := hhu32
    have h1u32 : 1 ≤ ((((((cb - 1) - 1) - 1) - 1) - 1) - 1) := by have hz : xu32 + 1 ≤ ((((((cb - 1) - 1) - 1) - 1) - 1) - 1) := hc; omega
    have h2u32 : (Int32.toNatClampNeg 26000) ≤ ((((((sb - (Int32.toNatClampNeg 8000)) - (Int32.toNatClampNeg 8000)) - (Int32.toNatClampNeg 8001)) - (Int32.toNatClampNeg 8002)) - (Int32.toNatClampNeg 8002)) - (Int32.toNatClampNeg 8002)) := by have hz : yu32 + (Int32.toNatClampNeg 26000) ≤ ((((((sb - (Int32.toNatClampNeg 8000)) - (Int32.toNatClampNeg 8000)) - (Int32.toNatClampNeg 8001)) - (Int32.toNatClampNeg 8002)) - (Int32.toNatClampNeg 8002)) - (Int32.toNatClampNeg 8002)) := hs; omega
    replace hc : xu32 ≤ ((((((cb - 1) - 1) - 1) - 1) - 1) - 1) - 1 := by have hz : xu32 + 1 ≤ ((((((cb - 1) - 1) - 1) - 1) - 1) - 1) := hc; omega
    replace hs : yu32 ≤ ((((((sb - (Int32.toNatClampNeg 8000)) - (Int32.toNatClampNeg 8000)) - (Int32.toNatClampNeg 8001)) - (Int32.toNatClampNeg 8002)) - (Int32.toNatClampNeg 8002)) - (Int32.toNatClampNeg 8002)) - (Int32.toNatClampNeg 26000) := by have hz : yu32 + (Int32.toNatClampNeg 26000) ≤ ((((((sb - (Int32.toNatClampNeg 8000)) - (Int32.toNatClampNeg 8000)) - (Int32.toNatClampNeg 8001)) - (Int32.toNatClampNeg 8002)) - (Int32.toNatClampNeg 8002)) - (Int32.toNatClampNeg 8002)) := hs; omega
    refine mh_newI d_RM_init_67 q31 h1u32 h2u32 ?_
    obtain ⟨a33, ea33, h⟩ := l_bnd h
    refine vr_nmA ea33 ?_
    obtain ⟨s34, es34, h⟩ := l_bnd h
    refine vr_nmS es34 ?_
    have q35 := (l_chk h).1
    replace h := (l_chk h).2
    refine vr_putR d_RM_init_69 W_RM_init_32 rfl rfl rfl q35 ?_
    refine vr_aload_n d_RM_init_72 rfl rfl ?_
    refine vr_sipush 26000 d_RM_init_73 (by decide) ?_
    have q36 := (l_chk h).1
    replace h := (l_chk h).2
    obtain ⟨ru37, xu37, yu37, hhu37, hz⟩ := l_tkA h
    clear h
    cases hz
    have h := hhu37
    have h1u37 : 1 ≤ (((((((cb - 1) - 1) - 1) - 1) - 1) - 1) - 1) := by have hz : xu37 + 1 ≤ (((((((cb - 1) - 1) - 1) - 1) - 1) - 1) - 1) := hc; omega
    have h2u37 : (Int32.toNatClampNeg 26000) ≤ (((((((sb - (Int32.toNatClampNeg 8000)) - (Int32.toNatClampNeg 8000)) - (Int32.toNatClampNeg 8001)) - (Int32.toNatClampNeg 8002)) - (Int32.toNatClampNeg 8002)) - (Int32.toNatClampNeg 8002)) - (Int32.toNatClampNeg 26000)) := by have hz : yu37 + (Int32.toNatClampNeg 26000) ≤ (((((((sb - (Int32.toNatClampNeg 8000)) - (Int32.toNatClampNeg 8000)) - (Int32.toNatClampNeg 8001)) - (Int32.toNatClampNeg 8002)) - (Int32.toNatClampNeg 8002)) - (Int32.toNatClampNeg 8002)) - (Int32.toNatClampNeg 26000)) := hs; omega
    replace hc : xu37 ≤ (((((((cb - 1) - 1) - 1) - 1) - 1) - 1) - 1) - 1 := by have hz : xu37 + 1 ≤ (((((((cb - 1) - 1) - 1) - 1) - 1) - 1) - 1) := hc; omega
    replace hs : yu37 ≤ (((((((sb - (Int32.toNatClampNeg 8000)) - (Int32.toNatClampNeg 8000)) - (Int32.toNatClampNeg 8001)) - (Int32.toNatClampNeg 8002)) - (Int32.toNatClampNeg 8002)) - (Int32.toNatClampNeg 8002)) - (Int32.toNatClampNeg 26000)) - (Int32.toNatClampNeg 26000) := by have hz : yu37 + (Int32.toNatClampNeg 26000) ≤ (((((((sb - (Int32.toNatClampNeg 8000)) - (Int32.toNatClampNeg 8000)) - (Int32.toNatClampNeg 8001)) - (Int32.toNatClampNeg 8002)) - (Int32.toNatClampNeg 8002)) - (Int32.toNatClampNeg 8002)) - (Int32.toNatClampNeg 26000)) := hs; omega
    refine mh_newI d_RM_init_76 q36 h1u37 h2u37 ?_
    obtain ⟨a38, ea38, h⟩ := l_bnd h
    refine vr_nmA ea38 ?_
    obtain ⟨s39, es39, h⟩ := l_bnd h
    refine vr_nmS es39 ?_
    have q40 := (l_chk h).1
    replace h := (l_chk h).2
    refine vr_putR d_RM_init_78 W_RM_init_35 rfl rfl rfl q40 ?_
    refine vr_aload_n d_RM_init_81 rfl rfl ?_
    refine vr_sipush 26000 d_RM_init_82 (by decide) ?_
    have q41 := (l_chk h).1
    replace h := (l_chk h).2
    obtain ⟨ru42, xu42, yu42, hhu42, hz⟩ := l_tkA h
    clear h
    cases hz
    have h := hhu42
    have h1u42 : 1 ≤ ((((((((cb - 1) - 1) - 1) - 1) - 1) - 1) - 1) - 1) := by have hz : xu42 + 1 ≤ ((((((((cb - 1) - 1) - 1) - 1) - 1) - 1) - 1) - 1) := hc; omega
    have h2u42 : (Int32.toNatClampNeg 26000) ≤ ((((((((sb - (Int32.toNatClampNeg 8000)) - (Int32.toNatClampNeg 8000)) - (Int32.toNatClampNeg 8001)) - (Int32.toNatClampNeg 8002)) - (Int32.toNatClampNeg 8002)) - (Int32.toNatClampNeg 8002)) - (Int32.toNatClampNeg 26000)) - (Int32.toNatClampNeg 26000)) := by have hz : yu42 + (Int32.toNatClampNeg 26000) ≤ ((((((((sb - (Int32.toNatClampNeg 8000)) - (Int32.toNatClampNeg 8000)) - (Int32.toNatClampNeg 8001)) - (Int32.toNatClampNeg 8002)) - (Int32.toNatClampNeg 8002)) - (Int32.toNatClampNeg 8002)) - (Int32.toNatClampNeg 26000)) - (Int32.toNatClampNeg 26000)) := hs; omega
    replace hc : xu42 ≤ ((((((((cb - 1) - 1) - 1) - 1) - 1) - 1) - 1) - 1) - 1 := by have hz : xu42 + 1 ≤ ((((((((cb - 1) - 1) - 1) - 1) - 1) - 1) - 1) - 1) := hc; omega
    replace hs : yu42 ≤ ((((((((sb - (Int32.toNatClampNeg 8000)) - (Int32.toNatClampNeg 8000)) - (Int32.toNatClampNeg 8001)) - (Int32.toNatClampNeg 8002)) - (Int32.toNatClampNeg 8002)) - (Int32.toNatClampNeg 8002)) - (Int32.toNatClampNeg 26000)) - (Int32.toNatClampNeg 26000)) - (Int32.toNatClampNeg 26000) := by have hz : yu42 + (Int32.toNatClampNeg 26000) ≤ ((((((((sb - (Int32.toNatClampNeg 8000)) - (Int32.toNatClampNeg 8000)) - (Int32.toNatClampNeg 8001)) - (Int32.toNatClampNeg 8002)) - (Int32.toNatClampNeg 8002)) - (Int32.toNatClampNeg 8002)) - (Int32.toNatClampNeg 26000)) - (Int32.toNatClampNeg 26000)) := hs; omega
    refine mh_newI d_RM_init_85 q41 h1u42 h2u42 ?_
    obtain ⟨a43, ea43, h⟩ := l_bnd h
    refine vr_nmA ea43 ?_
    obtain ⟨s44, es44, h⟩ := l_bnd h
    refine vr_nmS es44 ?_
    have q45 := (l_chk h).1
    replace h := (l_chk h).2
    refine vr_putR d_RM_init_87 W_RM_init_38 rfl rfl rfl q45 ?_
    refine vr_aload_n d_RM_init_90 rfl rfl ?_
    refine vr_sipush 26000 d_RM_init_91 (by decide) ?_
    have q46 := (l_chk h).1
    replace h := (l_chk h).2
    obtain ⟨ru47, xu47, yu47, hhu47, hz⟩ := l_tkA h
    clear h
    cases hz
    have h := hhu47
    have h1u47 : 1 ≤ (((((((((cb - 1) - 1) - 1) - 1) - 1) - 1) - 1) - 1) - 1) := by have hz : xu47 + 1 ≤ (((((((((cb - 1) - 1) - 1) - 1) - 1) - 1) - 1) - 1) - 1) := hc; omega
    have h2u47 : (Int32.toNatClampNeg 26000) ≤ (((((((((sb - (Int32.toNatClampNeg 8000)) - (Int32.toNatClampNeg 8000)) - (Int32.toNatClampNeg 8001)) - (Int32.toNatClampNeg 8002)) - (Int32.toNatClampNeg 8002)) - (Int32.toNatClampNeg 8002)) - (Int32.toNatClampNeg 26000)) - (Int32.toNatClampNeg 26000)) - (Int32.toNatClampNeg 26000)) := by have hz : yu47 + (Int32.toNatClampNeg 26000) ≤ (((((((((sb - (Int32.toNatClampNeg 8000)) - (Int32.toNatClampNeg 8000)) - (Int32.toNatClampNeg 8001)) - (Int32.toNatClampNeg 8002)) - (Int32.toNatClampNeg 8002)) - (Int32.toNatClampNeg 8002)) - (Int32.toNatClampNeg 26000)) - (Int32.toNatClampNeg 26000)) - (Int32.toNatClampNeg 26000)) := hs; omega
    replace hc : xu47 ≤ (((((((((cb - 1) - 1) - 1) - 1) - 1) - 1) - 1) - 1) - 1) - 1 := by have hz : xu47 + 1 ≤ (((((((((cb - 1) - 1) - 1) - 1) - 1) - 1) - 1) - 1) - 1) := hc; omega
    replace hs : yu47 ≤ (((((((((sb - (Int32.toNatClampNeg 8000)) - (Int32.toNatClampNeg 8000)) - (Int32.toNatClampNeg 8001)) - (Int32.toNatClampNeg 8002)) - (Int32.toNatClampNeg 8002)) - (Int32.toNatClampNeg 8002)) - (Int32.toNatClampNeg 26000)) - (Int32.toNatClampNeg 26000)) - (Int32.toNatClampNeg 26000)) - (Int32.toNatClampNeg 26000) := by have hz : yu47 + (Int32.toNatClampNeg 26000) ≤ (((((((((sb - (Int32.toNatClampNeg 8000)) - (Int32.toNatClampNeg 8000)) - (Int32.toNatClampNeg 8001)) - (Int32.toNatClampNeg 8002)) - (Int32.toNatClampNeg 8002)) - (Int32.toNatClampNeg 8002)) - (Int32.toNatClampNeg 26000)) - (Int32.toNatClampNeg 26000)) - (Int32.toNatClampNeg 26000)) := hs; omega
    refine mh_newI d_RM_init_94 q46 h1u47 h2u47 ?_
    obtain ⟨a48, ea48, h⟩ := l_bnd h
    refine vr_nmA ea48 ?_
    obtain ⟨s49, es49, h⟩ := l_bnd h
    refine vr_nmS es49 ?_
    have q50 := (l_chk h).1
    replace h := (l_chk h).2
    refine vr_putR d_RM_init_96 W_RM_init_41 rfl rfl rfl q50 ?_
    refine vr_aload_n d_RM_init_99 rfl rfl ?_
    refine vr_sipush 26000 d_RM_init_100 (by decide) ?_
    have q51 := (l_chk h).1
    replace h := (l_chk h).2
    obtain ⟨ru52, xu52, yu52, hhu52, hz⟩ := l_tkA h
    clear h
    cases hz
    have h := hhu52
    have h1u52 : 1 ≤ ((((((((((cb - 1) - 1) - 1) - 1) - 1) - 1) - 1) - 1) - 1) - 1) := by have hz : xu52 + 1 ≤ ((((((((((cb - 1) - 1) - 1) - 1) - 1) - 1) - 1) - 1) - 1) - 1) := hc; omega
    have h2u52 : (Int32.toNatClampNeg 26000) ≤ ((((((((((sb - (Int32.toNatClampNeg 8000)) - (Int32.toNatClampNeg 8000)) - (Int32.toNatClampNeg 8001)) - (Int32.toNatClampNeg 8002)) - (Int32.toNatClampNeg 8002)) - (Int32.toNatClampNeg 8002)) - (Int32.toNatClampNeg 26000)) - (Int32.toNatClampNeg 26000)) - (Int32.toNatClampNeg 26000)) - (Int32.toNatClampNeg 26000)) := by have hz : yu52 + (Int32.toNatClampNeg 26000) ≤ ((((((((((sb - (Int32.toNatClampNeg 8000)) - (Int32.toNatClampNeg 8000)) - (Int32.toNatClampNeg 8001)) - (Int32.toNatClampNeg 8002)) - (Int32.toNatClampNeg 8002)) - (Int32.toNatClampNeg 8002)) - (Int32.toNatClampNeg 26000)) - (Int32.toNatClampNeg 26000)) - (Int32.toNatClampNeg 26000)) - (Int32.toNatClampNeg 26000)) := hs; omega
    replace hc : xu52 ≤ ((((((((((cb - 1) - 1) - 1) - 1) - 1) - 1) - 1) - 1) - 1) - 1) - 1 := by have hz : xu52 + 1 ≤ ((((((((((cb - 1) - 1) - 1) - 1) - 1) - 1) - 1) - 1) - 1) - 1) := hc; omega
    replace hs : yu52 ≤ ((((((((((sb - (Int32.toNatClampNeg 8000)) - (Int32.toNatClampNeg 8000)) - (Int32.toNatClampNeg 8001)) - (Int32.toNatClampNeg 8002)) - (Int32.toNatClampNeg 8002)) - (Int32.toNatClampNeg 8002)) - (Int32.toNatClampNeg 26000)) - (Int32.toNatClampNeg 26000)) - (Int32.toNatClampNeg 26000)) - (Int32.toNatClampNeg 26000)) - (Int32.toNatClampNeg 26000) := by have hz : yu52 + (Int32.toNatClampNeg 26000) ≤ ((((((((((sb - (Int32.toNatClampNeg 8000)) - (Int32.toNatClampNeg 8000)) - (Int32.toNatClampNeg 8001)) - (Int32.toNatClampNeg 8002)) - (Int32.toNatClampNeg 8002)) - (Int32.toNatClampNeg 8002)) - (Int32.toNatClampNeg 26000)) - (Int32.toNatClampNeg 26000)) - (Int32.toNatClampNeg 26000)) - (Int32.toNatClampNeg 26000)) := hs; omega
    refine mh_newI d_RM_init_103 q51 h1u52 h2u52 ?_
    obtain ⟨a53, ea53, h⟩ := l_bnd h
    refine vr_nmA ea53 ?_
    obtain ⟨s54, es54, h⟩ := l_bnd h
    refine vr_nmS es54 ?_
    have q55 := (l_chk h).1
    replace h := (l_chk h).2
    refine vr_putR d_RM_init_105 W_RM_init_44 rfl rfl rfl q55 ?_
    refine vr_aload_n d_RM_init_108 rfl rfl ?_
    refine vr_sipush 26000 d_RM_init_109 (by decide) ?_
    have q56 := (l_chk h).1
    replace h := (l_chk h).2
    obtain ⟨ru57, xu57, yu57, hhu57, hz⟩ := l_tkA h
    clear h
    cases hz
    have h := hhu57
    have h1u57 : 1 ≤ (((((((((((cb - 1) - 1) - 1) - 1) - 1) - 1) - 1) - 1) - 1) - 1) - 1) := by have hz : xu57 + 1 ≤ (((((((((((cb - 1) - 1) - 1) - 1) - 1) - 1) - 1) - 1) - 1) - 1) - 1) := hc; omega
    have h2u57 : (Int32.toNatClampNeg 26000) ≤ (((((((((((sb - (Int32.toNatClampNeg 8000)) - (Int32.toNatClampNeg 8000)) - (Int32.toNatClampNeg 8001)) - (Int32.toNatClampNeg 8002)) - (Int32.toNatClampNeg 8002)) - (Int32.toNatClampNeg 8002)) - (Int32.toNatClampNeg 26000)) - (Int32.toNatClampNeg 26000)) - (Int32.toNatClampNeg 26000)) - (Int32.toNatClampNeg 26000)) - (Int32.toNatClampNeg 26000)) := by have hz : yu57 + (Int32.toNatClampNeg 26000) ≤ (((((((((((sb - (Int32.toNatClampNeg 8000)) - (Int32.toNatClampNeg 8000)) - (Int32.toNatClampNeg 8001)) - (Int32.toNatClampNeg 8002)) - (Int32.toNatClampNeg 8002)) - (Int32.toNatClampNeg 8002)) - (Int32.toNatClampNeg 26000)) - (Int32.toNatClampNeg 26000)) - (Int32.toNatClampNeg 26000)) - (Int32.toNatClampNeg 26000)) - (Int32.toNatClampNeg 26000)) := hs; omega
    replace hc : xu57 ≤ (((((((((((cb - 1) - 1) - 1) - 1) - 1) - 1) - 1) - 1) - 1) - 1) - 1) - 1 := by have hz : xu57 + 1 ≤ (((((((((((cb - 1) - 1) - 1) - 1) - 1) - 1) - 1) - 1) - 1) - 1) - 1) := hc; omega
    replace hs : yu57 ≤ (((((((((((sb - (Int32.toNatClampNeg 8000)) - (Int32.toNatClampNeg 8000)) - (Int32.toNatClampNeg 8001)) - (Int32.toNatClampNeg 8002)) - (Int32.toNatClampNeg 8002)) - (Int32.toNatClampNeg 8002)) - (Int32.toNatClampNeg 26000)) - (Int32.toNatClampNeg 26000)) - (Int32.toNatClampNeg 26000)) - (Int32.toNatClampNeg 26000)) - (Int32.toNatClampNeg 26000)) - (Int32.toNatClampNeg 26000) := by have hz : yu57 + (Int32.toNatClampNeg 26000) ≤ (((((((((((sb - (Int32.toNatClampNeg 8000)) - (Int32.toNatClampNeg 8000)) - (Int32.toNatClampNeg 8001)) - (Int32.toNatClampNeg 8002)) - (Int32.toNatClampNeg 8002)) - (Int32.toNatClampNeg 8002)) - (Int32.toNatClampNeg 26000)) - (Int32.toNatClampNeg 26000)) - (Int32.toNatClampNeg 26000)) - (Int32.toNatClampNeg 26000)) - (Int32.toNatClampNeg 26000)) := hs; omega
    refine mh_newI d_RM_init_112 q56 h1u57 h2u57 ?_
    obtain ⟨a58, ea58, h⟩ := l_bnd h
    refine vr_nmA ea58 ?_
    obtain ⟨s59, es59, h⟩ := l_bnd h
    refine vr_nmS es59 ?_
    have q60 := (l_chk h).1
    replace h := (l_chk h).2
    refine vr_putR d_RM_init_114 W_RM_init_47 rfl rfl rfl q60 ?_
    refine vr_aload_n d_RM_init_117 rfl rfl ?_
    refine vr_sipush 26000 d_RM_init_118 (by decide) ?_
    have q61 := (l_chk h).1
    replace h := (l_chk h).2
    obtain ⟨ru62, xu62, yu62, hhu62, hz⟩ := l_tkA h
    clear h
    cases hz
    have h := hhu62
    have h1u62 : 1 ≤ ((((((((((((cb - 1) - 1) - 1) - 1) - 1) - 1) - 1) - 1) - 1) - 1) - 1) - 1) := by have hz : xu62 + 1 ≤ ((((((((((((cb - 1) - 1) - 1) - 1) - 1) - 1) - 1) - 1) - 1) - 1) - 1) - 1) := hc; omega
    have h2u62 : (Int32.toNatClampNeg 26000) ≤ ((((((((((((sb - (Int32.toNatClampNeg 8000)) - (Int32.toNatClampNeg 8000)) - (Int32.toNatClampNeg 8001)) - (Int32.toNatClampNeg 8002)) - (Int32.toNatClampNeg 8002)) - (Int32.toNatClampNeg 8002)) - (Int32.toNatClampNeg 26000)) - (Int32.toNatClampNeg 26000)) - (Int32.toNatClampNeg 26000)) - (Int32.toNatClampNeg 26000)) - (Int32.toNatClampNeg 26000)) - (Int32.toNatClampNeg 26000)) := by have hz : yu62 + (Int32.toNatClampNeg 26000) ≤ ((((((((((((sb - (Int32.toNatClampNeg 8000)) - (Int32.toNatClampNeg 8000)) - (Int32.toNatClampNeg 8001)) - (Int32.toNatClampNeg 8002)) - (Int32.toNatClampNeg 8002)) - (Int32.toNatClampNeg 8002)) - (Int32.toNatClampNeg 26000)) - (Int32.toNatClampNeg 26000)) - (Int32.toNatClampNeg 26000)) - (Int32.toNatClampNeg 26000)) - (Int32.toNatClampNeg 26000)) - (Int32.toNatClampNeg 26000)) := hs; omega
    replace hc : xu62 ≤ ((((((((((((cb - 1) - 1) - 1) - 1) - 1) - 1) - 1) - 1) - 1) - 1) - 1) - 1) - 1 := by have hz : xu62 + 1 ≤ ((((((((((((cb - 1) - 1) - 1) - 1) - 1) - 1) - 1) - 1) - 1) - 1) - 1) - 1) := hc; omega
    replace hs : yu62 ≤ ((((((((((((sb - (Int32.toNatClampNeg 8000)) - (Int32.toNatClampNeg 8000)) - (Int32.toNatClampNeg 8001)) - (Int32.toNatClampNeg 8002)) - (Int32.toNatClampNeg 8002)) - (Int32.toNatClampNeg 8002)) - (Int32.toNatClampNeg 26000)) - (Int32.toNatClampNeg 26000)) - (Int32.toNatClampNeg 26000)) - (Int32.toNatClampNeg 26000)) - (Int32.toNatClampNeg 26000)) - (Int32.toNatClampNeg 26000)) - (Int32.toNatClampNeg 26000) := by have hz : yu62 + (Int32.toNatClampNeg 26000) ≤ ((((((((((((sb - (Int32.toNatClampNeg 8000)) - (Int32.toNatClampNeg 8000)) - (Int32.toNatClampNeg 8001)) - (Int32.toNatClampNeg 8002)) - (Int32.toNatClampNeg 8002)) - (Int32.toNatClampNeg 8002)) - (Int32.toNatClampNeg 26000)) - (Int32.toNatClampNeg 26000)) - (Int32.toNatClampNeg 26000)) - (Int32.toNatClampNeg 26000)) - (Int32.toNatClampNeg 26000)) - (Int32.toNatClampNeg 26000)) := hs; omega
    refine mh_newI d_RM_init_121 q61 h1u62 h2u62 ?_
    obtain ⟨a63, ea63, h⟩ := l_bnd h
    refine vr_nmA ea63 ?_
    obtain ⟨s64, es64, h⟩ := l_bnd h
    refine vr_nmS es64 ?_
    have q65 := (l_chk h).1
    replace h := (l_chk h).2
    refine vr_putR d_RM_init_123 W_RM_init_50 rfl rfl rfl q65 ?_
    refine vr_aload_n d_RM_init_126 rfl rfl ?_
    refine vr_sipush 26000 d_RM_init_127 (by decide) ?_
    have q66 := (l_chk h).1
    replace h := (l_chk h).2
    obtain ⟨ru67, xu67, yu67, hhu67, hz⟩ := l_tkA h
    clear h
    cases hz
    have h := hhu67
    have h1u67 : 1 ≤ (((((((((((((cb - 1) - 1) - 1) - 1) - 1) - 1) - 1) - 1) - 1) - 1) - 1) - 1) - 1) := by have hz : xu67 + 1 ≤ (((((((((((((cb - 1) - 1) - 1) - 1) - 1) - 1) - 1) - 1) - 1) - 1) - 1) - 1) - 1) := hc; omega
    have h2u67 : (Int32.toNatClampNeg 26000) ≤ (((((((((((((sb - (Int32.toNatClampNeg 8000)) - (Int32.toNatClampNeg 8000)) - (Int32.toNatClampNeg 8001)) - (Int32.toNatClampNeg 8002)) - (Int32.toNatClampNeg 8002)) - (Int32.toNatClampNeg 8002)) - (Int32.toNatClampNeg 26000)) - (Int32.toNatClampNeg 26000)) - (Int32.toNatClampNeg 26000)) - (Int32.toNatClampNeg 26000)) - (Int32.toNatClampNeg 26000)) - (Int32.toNatClampNeg 26000)) - (Int32.toNatClampNeg 26000)) := by have hz : yu67 + (Int32.toNatClampNeg 26000) ≤ (((((((((((((sb - (Int32.toNatClampNeg 8000)) - (Int32.toNatClampNeg 8000)) - (Int32.toNatClampNeg 8001)) - (Int32.toNatClampNeg 8002)) - (Int32.toNatClampNeg 8002)) - (Int32.toNatClampNeg 8002)) - (Int32.toNatClampNeg 26000)) - (Int32.toNatClampNeg 26000)) - (Int32.toNatClampNeg 26000)) - (Int32.toNatClampNeg 26000)) - (Int32.toNatClampNeg 26000)) - (Int32.toNatClampNeg 26000)) - (Int32.toNatClampNeg 26000)) := hs; omega
    replace hc : xu67 ≤ (((((((((((((cb - 1) - 1) - 1) - 1) - 1) - 1) - 1) - 1) - 1) - 1) - 1) - 1) - 1) - 1 := by have hz : xu67 + 1 ≤ (((((((((((((cb - 1) - 1) - 1) - 1) - 1) - 1) - 1) - 1) - 1) - 1) - 1) - 1) - 1) := hc; omega
    replace hs : yu67 ≤ (((((((((((((sb - (Int32.toNatClampNeg 8000)) - (Int32.toNatClampNeg 8000)) - (Int32.toNatClampNeg 8001)) - (Int32.toNatClampNeg 8002)) - (Int32.toNatClampNeg 8002)) - (Int32.toNatClampNeg 8002)) - (Int32.toNatClampNeg 26000)) - (Int32.toNatClampNeg 26000)) - (Int32.toNatClampNeg 26000)) - (Int32.toNatClampNeg 26000)) - (Int32.toNatClampNeg 26000)) - (Int32.toNatClampNeg 26000)) - (Int32.toNatClampNeg 26000)) - (Int32.toNatClampNeg 26000) := by have hz : yu67 + (Int32.toNatClampNeg 26000) ≤ (((((((((((((sb - (Int32.toNatClampNeg 8000)) - (Int32.toNatClampNeg 8000)) - (Int32.toNatClampNeg 8001)) - (Int32.toNatClampNeg 8002)) - (Int32.toNatClampNeg 8002)) - (Int32.toNatClampNeg 8002)) - (Int32.toNatClampNeg 26000)) - (Int32.toNatClampNeg 26000)) - (Int32.toNatClampNeg 26000)) - (Int32.toNatClampNeg 26000)) - (Int32.toNatClampNeg 26000)) - (Int32.toNatClampNeg 26000)) - (Int32.toNatClampNeg 26000)) := hs; omega
    refine mh_newI d_RM_init_130 q66 h1u67 h2u67 ?_
    obtain ⟨a68, ea68, h⟩ := l_bnd h
    refine vr_nmA ea68 ?_
    obtain ⟨s69, es69, h⟩ := l_bnd h
    refine vr_nmS es69 ?_
    have q70 := (l_chk h).1
    replace h := (l_chk h).2
    refine vr_putR d_RM_init_132 W_RM_init_53 rfl rfl rfl q70 ?_
    refine vr_aload_n d_RM_init_135 rfl rfl ?_
    refine vr_sipush 26000 d_RM_init_136 (by decide) ?_
    have q71 := (l_chk h).1
    replace h := (l_chk h).2
    obtain ⟨ru72, xu72, yu72, hhu72, hz⟩ := l_tkA h
    clear h
    cases hz
    have h := hhu72
    have h1u72 : 1 ≤ ((((((((((((((cb - 1) - 1) - 1) - 1) - 1) - 1) - 1) - 1) - 1) - 1) - 1) - 1) - 1) - 1) := by have hz : xu72 + 1 ≤ ((((((((((((((cb - 1) - 1) - 1) - 1) - 1) - 1) - 1) - 1) - 1) - 1) - 1) - 1) - 1) - 1) := hc; omega
    have h2u72 : (Int32.toNatClampNeg 26000) ≤ ((((((((((((((sb - (Int32.toNatClampNeg 8000)) - (Int32.toNatClampNeg 8000)) - (Int32.toNatClampNeg 8001)) - (Int32.toNatClampNeg 8002)) - (Int32.toNatClampNeg 8002)) - (Int32.toNatClampNeg 8002)) - (Int32.toNatClampNeg 26000)) - (Int32.toNatClampNeg 26000)) - (Int32.toNatClampNeg 26000)) - (Int32.toNatClampNeg 26000)) - (Int32.toNatClampNeg 26000)) - (Int32.toNatClampNeg 26000)) - (Int32.toNatClampNeg 26000)) - (Int32.toNatClampNeg 26000)) := by have hz : yu72 + (Int32.toNatClampNeg 26000) ≤ ((((((((((((((sb - (Int32.toNatClampNeg 8000)) - (Int32.toNatClampNeg 8000)) - (Int32.toNatClampNeg 8001)) - (Int32.toNatClampNeg 8002)) - (Int32.toNatClampNeg 8002)) - (Int32.toNatClampNeg 8002)) - (Int32.toNatClampNeg 26000)) - (Int32.toNatClampNeg 26000)) - (Int32.toNatClampNeg 26000)) - (Int32.toNatClampNeg 26000)) - (Int32.toNatClampNeg 26000)) - (Int32.toNatClampNeg 26000)) - (Int32.toNatClampNeg 26000)) - (Int32.toNatClampNeg 26000)) := hs; omega
    replace hc : xu72 ≤ ((((((((((((((cb - 1) - 1) - 1) - 1) - 1) - 1) - 1) - 1) - 1) - 1) - 1) - 1) - 1) - 1) - 1 := by have hz : xu72 + 1 ≤ ((((((((((((((cb - 1) - 1) - 1) - 1) - 1) - 1) - 1) - 1) - 1) - 1) - 1) - 1) - 1) - 1) := hc; omega
    replace hs : yu72 ≤ ((((((((((((((sb - (Int32.toNatClampNeg 8000)) - (Int32.toNatClampNeg 8000)) - (Int32.toNatClampNeg 8001)) - (Int32.toNatClampNeg 8002)) - (Int32.toNatClampNeg 8002)) - (Int32.toNatClampNeg 8002)) - (Int32.toNatClampNeg 26000)) - (Int32.toNatClampNeg 26000)) - (Int32.toNatClampNeg 26000)) - (Int32.toNatClampNeg 26000)) - (Int32.toNatClampNeg 26000)) - (Int32.toNatClampNeg 26000)) - (Int32.toNatClampNeg 26000)) - (Int32.toNatClampNeg 26000)) - (Int32.toNatClampNeg 26000) := by have hz : yu72 + (Int32.toNatClampNeg 26000) ≤ ((((((((((((((sb - (Int32.toNatClampNeg 8000)) - (Int32.toNatClampNeg 8000)) - (Int32.toNatClampNeg 8001)) - (Int32.toNatClampNeg 8002)) - (Int32.toNatClampNeg 8002)) - (Int32.toNatClampNeg 8002)) - (Int32.toNatClampNeg 26000)) - (Int32.toNatClampNeg 26000)) - (Int32.toNatClampNeg 26000)) - (Int32.toNatClampNeg 26000)) - (Int32.toNatClampNeg 26000)) - (Int32.toNatClampNeg 26000)) - (Int32.toNatClampNeg 26000)) - (Int32.toNatClampNeg 26000)) := hs; omega
    refine mh_newI d_RM_init_139 q71 h1u72 h2u72 ?_
    obtain ⟨a73, ea73, h⟩ := l_bnd h
    refine vr_nmA ea73 ?_
    obtain ⟨s74, es74, h⟩ := l_bnd h
    refine vr_nmS es74 ?_
    have q75 := (l_chk h).1
    replace h := (l_chk h).2
    refine vr_putR d_RM_init_141 W_RM_init_56 rfl rfl rfl q75 ?_
    refine vr_aload_n d_RM_init_144 rfl rfl ?_
    refine vr_sipush 26000 d_RM_init_145 (by decide) ?_
    have q76 := (l_chk h).1
    replace h := (l_chk h).2
    obtain ⟨ru77, xu77, yu77, hhu77, hz⟩ := l_tkA h
    clear h
    cases hz
    have h := hhu77
    have h1u77 : 1 ≤ (((((((((((((((cb - 1) - 1) - 1) - 1) - 1) - 1) - 1) - 1) - 1) - 1) - 1) - 1) - 1) - 1) - 1) := by have hz : xu77 + 1 ≤ (((((((((((((((cb - 1) - 1) - 1) - 1) - 1) - 1) - 1) - 1) - 1) - 1) - 1) - 1) - 1) - 1) - 1) := hc; omega
    have h2u77 : (Int32.toNatClampNeg 26000) ≤ (((((((((((((((sb - (Int32.toNatClampNeg 8000)) - (Int32.toNatClampNeg 8000)) - (Int32.toNatClampNeg 8001)) - (Int32.toNatClampNeg 8002)) - (Int32.toNatClampNeg 8002)) - (Int32.toNatClampNeg 8002)) - (Int32.toNatClampNeg 26000)) - (Int32.toNatClampNeg 26000)) - (Int32.toNatClampNeg 26000)) - (Int32.toNatClampNeg 26000)) - (Int32.toNatClampNeg 26000)) - (Int32.toNatClampNeg 26000)) - (Int32.toNatClampNeg 26000)) - (Int32.toNatClampNeg 26000)) - (Int32.toNatClampNeg 26000)) := by have hz : yu77 + (Int32.toNatClampNeg 26000) ≤ (((((((((((((((sb - (Int32.toNatClampNeg 8000)) - (Int32.toNatClampNeg 8000)) - (Int32.toNatClampNeg 8001)) - (Int32.toNatClampNeg 8002)) - (Int32.toNatClampNeg 8002)) - (Int32.toNatClampNeg 8002)) - (Int32.toNatClampNeg 26000)) - (Int32.toNatClampNeg 26000)) - (Int32.toNatClampNeg 26000)) - (Int32.toNatClampNeg 26000)) - (Int32.toNatClampNeg 26000)) - (Int32.toNatClampNeg 26000)) - (Int32.toNatClampNeg 26000)) - (Int32.toNatClampNeg 26000)) - (Int32.toNatClampNeg 26000)) := hs; omega
    replace hc : xu77 ≤ (((((((((((((((cb - 1) - 1) - 1) - 1) - 1) - 1) - 1) - 1) - 1) - 1) - 1) - 1) - 1) - 1) - 1) - 1 := by have hz : xu77 + 1 ≤ (((((((((((((((cb - 1) - 1) - 1) - 1) - 1) - 1) - 1) - 1) - 1) - 1) - 1) - 1) - 1) - 1) - 1) := hc; omega
    replace hs : yu77 ≤ (((((((((((((((sb - (Int32.toNatClampNeg 8000)) - (Int32.toNatClampNeg 8000)) - (Int32.toNatClampNeg 8001)) - (Int32.toNatClampNeg 8002)) - (Int32.toNatClampNeg 8002)) - (Int32.toNatClampNeg 8002)) - (Int32.toNatClampNeg 26000)) - (Int32.toNatClampNeg 26000)) - (Int32.toNatClampNeg 26000)) - (Int32.toNatClampNeg 26000)) - (Int32.toNatClampNeg 26000)) - (Int32.toNatClampNeg 26000)) - (Int32.toNatClampNeg 26000)) - (Int32.toNatClampNeg 26000)) - (Int32.toNatClampNeg 26000)) - (Int32.toNatClampNeg 26000) := by have hz : yu77 + (Int32.toNatClampNeg 26000) ≤ (((((((((((((((sb - (Int32.toNatClampNeg 8000)) - (Int32.toNatClampNeg 8000)) - (Int32.toNatClampNeg 8001)) - (Int32.toNatClampNeg 8002)) - (Int32.toNatClampNeg 8002)) - (Int32.toNatClampNeg 8002)) - (Int32.toNatClampNeg 26000)) - (Int32.toNatClampNeg 26000)) - (Int32.toNatClampNeg 26000)) - (Int32.toNatClampNeg 26000)) - (Int32.toNatClampNeg 26000)) - (Int32.toNatClampNeg 26000)) - (Int32.toNatClampNeg 26000)) - (Int32.toNatClampNeg 26000)) - (Int32.toNatClampNeg 26000)) := hs; omega
    refine mh_newI d_RM_init_148 q76 h1u77 h2u77 ?_
    obtain ⟨a78, ea78, h⟩ := l_bnd h
    refine vr_nmA ea78 ?_
    obtain ⟨s79, es79, h⟩ := l_bnd h
    refine vr_nmS es79 ?_
    have q80 := (l_chk h).1
    replace h := (l_chk h).2
    refine vr_putR d_RM_init_150 W_RM_init_59 rfl rfl rfl q80 ?_
    refine vr_aload_n d_RM_init_153 rfl rfl ?_
    refine vr_sipush 26000 d_RM_init_154 (by decide) ?_
    have q81 := (l_chk h).1
    replace h := (l_chk h).2
    obtain ⟨ru82, xu82, yu82, hhu82, hz⟩ := l_tkA h
    clear h
    cases hz
    have h := hhu82
    have h1u82 : 1 ≤ ((((((((((((((((cb - 1) - 1) - 1) - 1) - 1) - 1) - 1) - 1) - 1) - 1) - 1) - 1) - 1) - 1) - 1) - 1) := by have hz : xu82 + 1 ≤ ((((((((((((((((cb - 1) - 1) - 1) - 1) - 1) - 1) - 1) - 1) - 1) - 1) - 1) - 1) - 1) - 1) - 1) - 1) := hc; omega
    have h2u82 : (Int32.toNatClampNeg 26000) ≤ ((((((((((((((((sb - (Int32.toNatClampNeg 8000)) - (Int32.toNatClampNeg 8000)) - (Int32.toNatClampNeg 8001)) - (Int32.toNatClampNeg 8002)) - (Int32.toNatClampNeg 8002)) - (Int32.toNatClampNeg 8002)) - (Int32.toNatClampNeg 26000)) - (Int32.toNatClampNeg 26000)) - (Int32.toNatClampNeg 26000)) - (Int32.toNatClampNeg 26000)) - (Int32.toNatClampNeg 26000)) - (Int32.toNatClampNeg 26000)) - (Int32.toNatClampNeg 26000)) - (Int32.toNatClampNeg 26000)) - (Int32.toNatClampNeg 26000)) - (Int32.toNatClampNeg 26000)) := by have hz : yu82 + (Int32.toNatClampNeg 26000) ≤ ((((((((((((((((sb - (Int32.toNatClampNeg 8000)) - (Int32.toNatClampNeg 8000)) - (Int32.toNatClampNeg 8001)) - (Int32.toNatClampNeg 8002)) - (Int32.toNatClampNeg 8002)) - (Int32.toNatClampNeg 8002)) - (Int32.toNatClampNeg 26000)) - (Int32.toNatClampNeg 26000)) - (Int32.toNatClampNeg 26000)) - (Int32.toNatClampNeg 26000)) - (Int32.toNatClampNeg 26000)) - (Int32.toNatClampNeg 26000)) - (Int32.toNatClampNeg 26000)) - (Int32.toNatClampNeg 26000)) - (Int32.toNatClampNeg 26000)) - (Int32.toNatClampNeg 26000)) := hs; omega
    replace hc : xu82 ≤ ((((((((((((((((cb - 1) - 1) - 1) - 1) - 1) - 1) - 1) - 1) - 1) - 1) - 1) - 1) - 1) - 1) - 1) - 1) - 1 := by have hz : xu82 + 1 ≤ ((((((((((((((((cb - 1) - 1) - 1) - 1) - 1) - 1) - 1) - 1) - 1) - 1) - 1) - 1) - 1) - 1) - 1) - 1) := hc; omega
    replace hs : yu82 ≤ ((((((((((((((((sb - (Int32.toNatClampNeg 8000)) - (Int32.toNatClampNeg 8000)) - (Int32.toNatClampNeg 8001)) - (Int32.toNatClampNeg 8002)) - (Int32.toNatClampNeg 8002)) - (Int32.toNatClampNeg 8002)) - (Int32.toNatClampNeg 26000)) - (Int32.toNatClampNeg 26000)) - (Int32.toNatClampNeg 26000)) - (Int32.toNatClampNeg 26000)) - (Int32.toNatClampNeg 26000)) - (Int32.toNatClampNeg 26000)) - (Int32.toNatClampNeg 26000)) - (Int32.toNatClampNeg 26000)) - (Int32.toNatClampNeg 26000)) - (Int32.toNatClampNeg 26000)) - (Int32.toNatClampNeg 26000) := by have hz : yu82 + (Int32.toNatClampNeg 26000) ≤ ((((((((((((((((sb - (Int32.toNatClampNeg 8000)) - (Int32.toNatClampNeg 8000)) - (Int32.toNatClampNeg 8001)) - (Int32.toNatClampNeg 8002)) - (Int32.toNatClampNeg 8002)) - (Int32.toNatClampNeg 8002)) - (Int32.toNatClampNeg 26000)) - (Int32.toNatClampNeg 26000)) - (Int32.toNatClampNeg 26000)) - (Int32.toNatClampNeg 26000)) - (Int32.toNatClampNeg 26000)) - (Int32.toNatClampNeg 26000)) - (Int32.toNatClampNeg 26000)) - (Int32.toNatClampNeg 26000)) - (Int32.toNatClampNeg 26000)) - (Int32.toNatClampNeg 26000)) := hs; omega
    refine mh_newI d_RM_init_157 q81 h1u82 h2u82 ?_
    obtain ⟨a83, ea83, h⟩ := l_bnd h
    refine vr_nmA ea83 ?_
    obtain ⟨s84, es84, h⟩ := l_bnd h
    refine vr_nmS es84 ?_
    have q85 := (l_chk h).1
    replace h := (l_chk h).2
    refine vr_putR d_RM_init_159 W_RM_init_62 rfl rfl rfl q85 ?_
    refine vr_aload_n d_RM_init_162 rfl rfl ?_
    refine vr_sipush 26000 d_RM_init_163 (by decide) ?_
    have q86 := (l_chk h).1
    replace h := (l_chk h).2
    obtain ⟨ru87, xu87, yu87, hhu87, hz⟩ := l_tkA h
    clear h
    cases hz
    have h := hhu87
    have h1u87 : 1 ≤ (((((((((((((((((cb - 1) - 1) - 1) - 1) - 1) - 1) - 1) - 1) - 1) - 1) - 1) - 1) - 1) - 1) - 1) - 1) - 1) := by have hz : xu87 + 1 ≤ (((((((((((((((((cb - 1) - 1) - 1) - 1) - 1) - 1) - 1) - 1) - 1) - 1) - 1) - 1) - 1) - 1) - 1) - 1) - 1) := hc; omega
    have h2u87 : (Int32.toNatClampNeg 26000) ≤ (((((((((((((((((sb - (Int32.toNatClampNeg 8000)) - (Int32.toNatClampNeg 8000)) - (Int32.toNatClampNeg 8001)) - (Int32.toNatClampNeg 8002)) - (Int32.toNatClampNeg 8002)) - (Int32.toNatClampNeg 8002)) - (Int32.toNatClampNeg 26000)) - (Int32.toNatClampNeg 26000)) - (Int32.toNatClampNeg 26000)) - (Int32.toNatClampNeg 26000)) - (Int32.toNatClampNeg 26000)) - (Int32.toNatClampNeg 26000)) - (Int32.toNatClampNeg 26000)) - (Int32.toNatClampNeg 26000)) - (Int32.toNatClampNeg 26000)) - (Int32.toNatClampNeg 26000)) - (Int32.toNatClampNeg 26000)) := by have hz : yu87 + (Int32.toNatClampNeg 26000) ≤ (((((((((((((((((sb - (Int32.toNatClampNeg 8000)) - (Int32.toNatClampNeg 8000)) - (Int32.toNatClampNeg 8001)) - (Int32.toNatClampNeg 8002)) - (Int32.toNatClampNeg 8002)) - (Int32.toNatClampNeg 8002)) - (Int32.toNatClampNeg 26000)) - (Int32.toNatClampNeg 26000)) - (Int32.toNatClampNeg 26000)) - (Int32.toNatClampNeg 26000)) - (Int32.toNatClampNeg 26000)) - (Int32.toNatClampNeg 26000)) - (Int32.toNatClampNeg 26000)) - (Int32.toNatClampNeg 26000)) - (Int32.toNatClampNeg 26000)) - (Int32.toNatClampNeg 26000)) - (Int32.toNatClampNeg 26000)) := hs; omega
    replace hc : xu87 ≤ (((((((((((((((((cb - 1) - 1) - 1) - 1) - 1) - 1) - 1) - 1) - 1) - 1) - 1) - 1) - 1) - 1) - 1) - 1) - 1) - 1 := by have hz : xu87 + 1 ≤ (((((((((((((((((cb - 1) - 1) - 1) - 1) - 1) - 1) - 1) - 1) - 1) - 1) - 1) - 1) - 1) - 1) - 1) - 1) - 1) := hc; omega
    replace hs : yu87 ≤ (((((((((((((((((sb - (Int32.toNatClampNeg 8000)) - (Int32.toNatClampNeg 8000)) - (Int32.toNatClampNeg 8001)) - (Int32.toNatClampNeg 8002)) - (Int32.toNatClampNeg 8002)) - (Int32.toNatClampNeg 8002)) - (Int32.toNatClampNeg 26000)) - (Int32.toNatClampNeg 26000)) - (Int32.toNatClampNeg 26000)) - (Int32.toNatClampNeg 26000)) - (Int32.toNatClampNeg 26000)) - (Int32.toNatClampNeg 26000)) - (Int32.toNatClampNeg 26000)) - (Int32.toNatClampNeg 26000)) - (Int32.toNatClampNeg 26000)) - (Int32.toNatClampNeg 26000)) - (Int32.toNatClampNeg 26000)) - (Int32.toNatClampNeg 26000) := by have hz : yu87 + (Int32.toNatClampNeg 26000) ≤ (((((((((((((((((sb - (Int32.toNatClampNeg 8000)) - (Int32.toNatClampNeg 8000)) - (Int32.toNatClampNeg 8001)) - (Int32.toNatClampNeg 8002)) - (Int32.toNatClampNeg 8002)) - (Int32.toNatClampNeg 8002)) - (Int32.toNatClampNeg 26000)) - (Int32.toNatClampNeg 26000)) - (Int32.toNatClampNeg 26000)) - (Int32.toNatClampNeg 26000)) - (Int32.toNatClampNeg 26000)) - (Int32.toNatClampNeg 26000)) - (Int32.toNatClampNeg 26000)) - (Int32.toNatClampNeg 26000)) - (Int32.toNatClampNeg 26000)) - (Int32.toNatClampNeg 26000)) - (Int32.toNatClampNeg 26000)) := hs; omega
    refine mh_newI d_RM_init_166 q86 h1u87 h2u87 ?_
    obtain ⟨a88, ea88, h⟩ := l_bnd h
    refine vr_nmA ea88 ?_
    obtain ⟨s89, es89, h⟩ := l_bnd h
    refine vr_nmS es89 ?_
    have q90 := (l_chk h).1
    replace h := (l_chk h).2
    refine vr_putR d_RM_init_168 W_RM_init_65 rfl rfl rfl q90 ?_
    refine vr_aload_n d_RM_init_171 rfl rfl ?_
    refine vr_iconst 2 d_RM_init_172 (by decide) ?_
    have q91 := (l_chk h).1
    replace h := (l_chk h).2
    obtain ⟨ru92, xu92, yu92, hhu92, hz⟩ := l_tkA h
    clear h
    cases hz
    have h := hhu92
    have h1u92 : 1 ≤ ((((((((((((((((((cb - 1) - 1) - 1) - 1) - 1) - 1) - 1) - 1) - 1) - 1) - 1) - 1) - 1) - 1) - 1) - 1) - 1) - 1) := by have hz : xu92 + 1 ≤ ((((((((((((((((((cb - 1) - 1) - 1) - 1) - 1) - 1) - 1) - 1) - 1) - 1) - 1) - 1) - 1) - 1) - 1) - 1) - 1) - 1) := hc; omega
    have h2u92 : (Int32.toNatClampNeg 2) ≤ ((((((((((((((((((sb - (Int32.toNatClampNeg 8000)) - (Int32.toNatClampNeg 8000)) - (Int32.toNatClampNeg 8001)) - (Int32.toNatClampNeg 8002)) - (Int32.toNatClampNeg 8002)) - (Int32.toNatClampNeg 8002)) - (Int32.toNatClampNeg 26000)) - (Int32.toNatClampNeg 26000)) - (Int32.toNatClampNeg 26000)) - (Int32.toNatClampNeg 26000)) - (Int32.toNatClampNeg 26000)) - (Int32.toNatClampNeg 26000)) - (Int32.toNatClampNeg 26000)) - (Int32.toNatClampNeg 26000)) - (Int32.toNatClampNeg 26000)) - (Int32.toNatClampNeg 26000)) - (Int32.toNatClampNeg 26000)) - (Int32.toNatClampNeg 26000)) := by have hz : yu92 + (Int32.toNatClampNeg 2) ≤ ((((((((((((((((((sb - (Int32.toNatClampNeg 8000)) - (Int32.toNatClampNeg 8000)) - (Int32.toNatClampNeg 8001)) - (Int32.toNatClampNeg 8002)) - (Int32.toNatClampNeg 8002)) - (Int32.toNatClampNeg 8002)) - (Int32.toNatClampNeg 26000)) - (Int32.toNatClampNeg 26000)) - (Int32.toNatClampNeg 26000)) - (Int32.toNatClampNeg 26000)) - (Int32.toNatClampNeg 26000)) - (Int32.toNatClampNeg 26000)) - (Int32.toNatClampNeg 26000)) - (Int32.toNatClampNeg 26000)) - (Int32.toNatClampNeg 26000)) - (Int32.toNatClampNeg 26000)) - (Int32.toNatClampNeg 26000)) - (Int32.toNatClampNeg 26000)) := hs; omega
    replace hc : xu92 ≤ ((((((((((((((((((cb - 1) - 1) - 1) - 1) - 1) - 1) - 1) - 1) - 1) - 1) - 1) - 1) - 1) - 1) - 1) - 1) - 1) - 1) - 1 := by have hz : xu92 + 1 ≤ ((((((((((((((((((cb - 1) - 1) - 1) - 1) - 1) - 1) - 1) - 1) - 1) - 1) - 1) - 1) - 1) - 1) - 1) - 1) - 1) - 1) := hc; omega
    replace hs : yu92 ≤ ((((((((((((((((((sb - (Int32.toNatClampNeg 8000)) - (Int32.toNatClampNeg 8000)) - (Int32.toNatClampNeg 8001)) - (Int32.toNatClampNeg 8002)) - (Int32.toNatClampNeg 8002)) - (Int32.toNatClampNeg 8002)) - (Int32.toNatClampNeg 26000)) - (Int32.toNatClampNeg 26000)) - (Int32.toNatClampNeg 26000)) - (Int32.toNatClampNeg 26000)) - (Int32.toNatClampNeg 26000)) - (Int32.toNatClampNeg 26000)) - (Int32.toNatClampNeg 26000)) - (Int32.toNatClampNeg 26000)) - (Int32.toNatClampNeg 26000)) - (Int32.toNatClampNeg 26000)) - (Int32.toNatClampNeg 26000)) - (Int32.toNatClampNeg 26000)) - (Int32.toNatClampNeg 2) := by have hz : yu92 + (Int32.toNatClampNeg 2) ≤ ((((((((((((((((((sb - (Int32.toNatClampNeg 8000)) - (Int32.toNatClampNeg 8000)) - (Int32.toNatClampNeg 8001)) - (Int32.toNatClampNeg 8002)) - (Int32.toNatClampNeg 8002)) - (Int32.toNatClampNeg 8002)) - (Int32.toNatClampNeg 26000)) - (Int32.toNatClampNeg 26000)) - (Int32.toNatClampNeg 26000)) - (Int32.toNatClampNeg 26000)) - (Int32.toNatClampNeg 26000)) - (Int32.toNatClampNeg 26000)) - (Int32.toNatClampNeg 26000)) - (Int32.toNatClampNeg 26000)) - (Int32.toNatClampNeg 26000)) - (Int32.toNatClampNeg 26000)) - (Int32.toNatClampNeg 26000)) - (Int32.toNatClampNeg 26000)) := hs; omega
    refine mh_newI d_RM_init_173 q91 h1u92 h2u92 ?_
    obtain ⟨a93, ea93, h⟩ := l_bnd h
    refine vr_nmA ea93 ?_
    obtain ⟨s94, es94, h⟩ := l_bnd h
    refine vr_nmS es94 ?_
    have q95 := (l_chk h).1
    replace h := (l_chk h).2
    refine vr_putR d_RM_init_175 W_RM_init_68 rfl rfl rfl q95 ?_
    refine vr_aload_n d_RM_init_178 rfl rfl ?_
    refine vr_sipush 12000 d_RM_init_179 (by decide) ?_
    have q96 := (l_chk h).1
    replace h := (l_chk h).2
    obtain ⟨ru97, xu97, yu97, hhu97, hz⟩ := l_tkA h
    clear h
    cases hz
    have h := hhu97
    have h1u97 : 1 ≤ (((((((((((((((((((cb - 1) - 1) - 1) - 1) - 1) - 1) - 1) - 1) - 1) - 1) - 1) - 1) - 1) - 1) - 1) - 1) - 1) - 1) - 1) := by have hz : xu97 + 1 ≤ (((((((((((((((((((cb - 1) - 1) - 1) - 1) - 1) - 1) - 1) - 1) - 1) - 1) - 1) - 1) - 1) - 1) - 1) - 1) - 1) - 1) - 1) := hc; omega
    have h2u97 : (Int32.toNatClampNeg 12000) ≤ (((((((((((((((((((sb - (Int32.toNatClampNeg 8000)) - (Int32.toNatClampNeg 8000)) - (Int32.toNatClampNeg 8001)) - (Int32.toNatClampNeg 8002)) - (Int32.toNatClampNeg 8002)) - (Int32.toNatClampNeg 8002)) - (Int32.toNatClampNeg 26000)) - (Int32.toNatClampNeg 26000)) - (Int32.toNatClampNeg 26000)) - (Int32.toNatClampNeg 26000)) - (Int32.toNatClampNeg 26000)) - (Int32.toNatClampNeg 26000)) - (Int32.toNatClampNeg 26000)) - (Int32.toNatClampNeg 26000)) - (Int32.toNatClampNeg 26000)) - (Int32.toNatClampNeg 26000)) - (Int32.toNatClampNeg 26000)) - (Int32.toNatClampNeg 26000)) - (Int32.toNatClampNeg 2)) := by have hz : yu97 + (Int32.toNatClampNeg 12000) ≤ (((((((((((((((((((sb - (Int32.toNatClampNeg 8000)) - (Int32.toNatClampNeg 8000)) - (Int32.toNatClampNeg 8001)) - (Int32.toNatClampNeg 8002)) - (Int32.toNatClampNeg 8002)) - (Int32.toNatClampNeg 8002)) - (Int32.toNatClampNeg 26000)) - (Int32.toNatClampNeg 26000)) - (Int32.toNatClampNeg 26000)) - (Int32.toNatClampNeg 26000)) - (Int32.toNatClampNeg 26000)) - (Int32.toNatClampNeg 26000)) - (Int32.toNatClampNeg 26000)) - (Int32.toNatClampNeg 26000)) - (Int32.toNatClampNeg 26000)) - (Int32.toNatClampNeg 26000)) - (Int32.toNatClampNeg 26000)) - (Int32.toNatClampNeg 26000)) - (Int32.toNatClampNeg 2)) := hs; omega
    replace hc : xu97 ≤ (((((((((((((((((((cb - 1) - 1) - 1) - 1) - 1) - 1) - 1) - 1) - 1) - 1) - 1) - 1) - 1) - 1) - 1) - 1) - 1) - 1) - 1) - 1 := by have hz : xu97 + 1 ≤ (((((((((((((((((((cb - 1) - 1) - 1) - 1) - 1) - 1) - 1) - 1) - 1) - 1) - 1) - 1) - 1) - 1) - 1) - 1) - 1) - 1) - 1) := hc; omega
    replace hs : yu97 ≤ (((((((((((((((((((sb - (Int32.toNatClampNeg 8000)) - (Int32.toNatClampNeg 8000)) - (Int32.toNatClampNeg 8001)) - (Int32.toNatClampNeg 8002)) - (Int32.toNatClampNeg 8002)) - (Int32.toNatClampNeg 8002)) - (Int32.toNatClampNeg 26000)) - (Int32.toNatClampNeg 26000)) - (Int32.toNatClampNeg 26000)) - (Int32.toNatClampNeg 26000)) - (Int32.toNatClampNeg 26000)) - (Int32.toNatClampNeg 26000)) - (Int32.toNatClampNeg 26000)) - (Int32.toNatClampNeg 26000)) - (Int32.toNatClampNeg 26000)) - (Int32.toNatClampNeg 26000)) - (Int32.toNatClampNeg 26000)) - (Int32.toNatClampNeg 26000)) - (Int32.toNatClampNeg 2)) - (Int32.toNatClampNeg 12000) := by have hz : yu97 + (Int32.toNatClampNeg 12000) ≤ (((((((((((((((((((sb - (Int32.toNatClampNeg 8000)) - (Int32.toNatClampNeg 8000)) - (Int32.toNatClampNeg 8001)) - (Int32.toNatClampNeg 8002)) - (Int32.toNatClampNeg 8002)) - (Int32.toNatClampNeg 8002)) - (Int32.toNatClampNeg 26000)) - (Int32.toNatClampNeg 26000)) - (Int32.toNatClampNeg 26000)) - (Int32.toNatClampNeg 26000)) - (Int32.toNatClampNeg 26000)) - (Int32.toNatClampNeg 26000)) - (Int32.toNatClampNeg 26000)) - (Int32.toNatClampNeg 26000)) - (Int32.toNatClampNeg 26000)) - (Int32.toNatClampNeg 26000)) - (Int32.toNatClampNeg 26000)) - (Int32.toNatClampNeg 26000)) - (Int32.toNatClampNeg 2)) := hs; omega
    refine mh_newI d_RM_init_182 q96 h1u97 h2u97 ?_
    obtain ⟨a98, ea98, h⟩ := l_bnd h
    refine vr_nmA ea98 ?_
    obtain ⟨s99, es99, h⟩ := l_bnd h
    refine vr_nmS es99 ?_
    have q100 := (l_chk h).1
    replace h := (l_chk h).2
    refine vr_putR d_RM_init_184 W_RM_init_71 rfl rfl rfl q100 ?_
    refine vr_aload_n d_RM_init_187 rfl rfl ?_
    refine vr_sipush 6001 d_RM_init_188 (by decide) ?_
    have q101 := (l_chk h).1
    replace h := (l_chk h).2
    obtain ⟨ru102, xu102, yu102, hhu102, hz⟩ := l_tkA h
    clear h
    cases hz
    have h := hhu102
    have h1u102 : 1 ≤ ((((((((((((((((((((cb - 1) - 1) - 1) - 1) - 1) - 1) - 1) - 1) - 1) - 1) - 1) - 1) - 1) - 1) - 1) - 1) - 1) - 1) - 1) - 1) := by have hz : xu102 + 1 ≤ ((((((((((((((((((((cb - 1) - 1) - 1) - 1) - 1) - 1) - 1) - 1) - 1) - 1) - 1) - 1) - 1) - 1) - 1) - 1) - 1) - 1) - 1) - 1) := hc; omega
    have h2u102 : (Int32.toNatClampNeg 6001) ≤ ((((((((((((((((((((sb - (Int32.toNatClampNeg 8000)) - (Int32.toNatClampNeg 8000)) - (Int32.toNatClampNeg 8001)) - (Int32.toNatClampNeg 8002)) - (Int32.toNatClampNeg 8002)) - (Int32.toNatClampNeg 8002)) - (Int32.toNatClampNeg 26000)) - (Int32.toNatClampNeg 26000)) - (Int32.toNatClampNeg 26000)) - (Int32.toNatClampNeg 26000)) - (Int32.toNatClampNeg 26000)) - (Int32.toNatClampNeg 26000)) - (Int32.toNatClampNeg 26000)) - (Int32.toNatClampNeg 26000)) - (Int32.toNatClampNeg 26000)) - (Int32.toNatClampNeg 26000)) - (Int32.toNatClampNeg 26000)) - (Int32.toNatClampNeg 26000)) - (Int32.toNatClampNeg 2)) - (Int32.toNatClampNeg 12000)) := by have hz : yu102 + (Int32.toNatClampNeg 6001) ≤ ((((((((((((((((((((sb - (Int32.toNatClampNeg 8000)) - (Int32.toNatClampNeg 8000)) - (Int32.toNatClampNeg 8001)) - (Int32.toNatClampNeg 8002)) - (Int32.toNatClampNeg 8002)) - (Int32.toNatClampNeg 8002)) - (Int32.toNatClampNeg 26000)) - (Int32.toNatClampNeg 26000)) - (Int32.toNatClampNeg 26000)) - (Int32.toNatClampNeg 26000)) - (Int32.toNatClampNeg 26000)) - (Int32.toNatClampNeg 26000)) - (Int32.toNatClampNeg 26000)) - (Int32.toNatClampNeg 26000)) - (Int32.toNatClampNeg 26000)) - (Int32.toNatClampNeg 26000)) - (Int32.toNatClampNeg 26000)) - (Int32.toNatClampNeg 26000)) - (Int32.toNatClampNeg 2)) - (Int32.toNatClampNeg 12000)) := hs; omega
    replace hc : xu102 ≤ ((((((((((((((((((((cb - 1) - 1) - 1) - 1) - 1) - 1) - 1) - 1) - 1) - 1) - 1) - 1) - 1) - 1) - 1) - 1) - 1) - 1) - 1) - 1) - 1 := by have hz : xu102 + 1 ≤ ((((((((((((((((((((cb - 1) - 1) - 1) - 1) - 1) - 1) - 1) - 1) - 1) - 1) - 1) - 1) - 1) - 1) - 1) - 1) - 1) - 1) - 1) - 1) := hc; omega
    replace hs : yu102 ≤ ((((((((((((((((((((sb - (Int32.toNatClampNeg 8000)) - (Int32.toNatClampNeg 8000)) - (Int32.toNatClampNeg 8001)) - (Int32.toNatClampNeg 8002)) - (Int32.toNatClampNeg 8002)) - (Int32.toNatClampNeg 8002)) - (Int32.toNatClampNeg 26000)) - (Int32.toNatClampNeg 26000)) - (Int32.toNatClampNeg 26000)) - (Int32.toNatClampNeg 26000)) - (Int32.toNatClampNeg 26000)) - (Int32.toNatClampNeg 26000)) - (Int32.toNatClampNeg 26000)) - (Int32.toNatClampNeg 26000)) - (Int32.toNatClampNeg 26000)) - (Int32.toNatClampNeg 26000)) - (Int32.toNatClampNeg 26000)) - (Int32.toNatClampNeg 26000)) - (Int32.toNatClampNeg 2)) - (Int32.toNatClampNeg 12000)) - (Int32.toNatClampNeg 6001) := by have hz : yu102 + (Int32.toNatClampNeg 6001) ≤ ((((((((((((((((((((sb - (Int32.toNatClampNeg 8000)) - (Int32.toNatClampNeg 8000)) - (Int32.toNatClampNeg 8001)) - (Int32.toNatClampNeg 8002)) - (Int32.toNatClampNeg 8002)) - (Int32.toNatClampNeg 8002)) - (Int32.toNatClampNeg 26000)) - (Int32.toNatClampNeg 26000)) - (Int32.toNatClampNeg 26000)) - (Int32.toNatClampNeg 26000)) - (Int32.toNatClampNeg 26000)) - (Int32.toNatClampNeg 26000)) - (Int32.toNatClampNeg 26000)) - (Int32.toNatClampNeg 26000)) - (Int32.toNatClampNeg 26000)) - (Int32.toNatClampNeg 26000)) - (Int32.toNatClampNeg 26000)) - (Int32.toNatClampNeg 26000)) - (Int32.toNatClampNeg 2)) - (Int32.toNatClampNeg 12000)) := hs; omega
    refine mh_newI d_RM_init_191 q101 h1u102 h2u102 ?_
    obtain ⟨a103, ea103, h⟩ := l_bnd h
    refine vr_nmA ea103 ?_
    obtain ⟨s104, es104, h⟩ := l_bnd h
    refine vr_nmS es104 ?_
    have q105 := (l_chk h).1
    replace h := (l_chk h).2
    refine vr_putR d_RM_init_193 W_RM_init_74 rfl rfl rfl q105 ?_
    refine vr_aload_n d_RM_init_196 rfl rfl ?_
    refine vr_bipush 8 d_RM_init_197 (by decide) ?_
    have q106 := (l_chk h).1
    replace h := (l_chk h).2
    obtain ⟨ru107, xu107, yu107, hhu107, hz⟩ := l_tkA h
    clear h
    cases hz
    have h := hhu107
    have h1u107 : 1 ≤ (((((((((((((((((((((cb - 1) - 1) - 1) - 1) - 1) - 1) - 1) - 1) - 1) - 1) - 1) - 1) - 1) - 1) - 1) - 1) - 1) - 1) - 1) - 1) - 1) := by have hz : xu107 + 1 ≤ (((((((((((((((((((((cb - 1) - 1) - 1) - 1) - 1) - 1) - 1) - 1) - 1) - 1) - 1) - 1) - 1) - 1) - 1) - 1) - 1) - 1) - 1) - 1) - 1) := hc; omega
    have h2u107 : (Int32.toNatClampNeg 8) ≤ (((((((((((((((((((((sb - (Int32.toNatClampNeg 8000)) - (Int32.toNatClampNeg 8000)) - (Int32.toNatClampNeg 8001)) - (Int32.toNatClampNeg 8002)) - (Int32.toNatClampNeg 8002)) - (Int32.toNatClampNeg 8002)) - (Int32.toNatClampNeg 26000)) - (Int32.toNatClampNeg 26000)) - (Int32.toNatClampNeg 26000)) - (Int32.toNatClampNeg 26000)) - (Int32.toNatClampNeg 26000)) - (Int32.toNatClampNeg 26000)) - (Int32.toNatClampNeg 26000)) - (Int32.toNatClampNeg 26000)) - (Int32.toNatClampNeg 26000)) - (Int32.toNatClampNeg 26000)) - (Int32.toNatClampNeg 26000)) - (Int32.toNatClampNeg 26000)) - (Int32.toNatClampNeg 2)) - (Int32.toNatClampNeg 12000)) - (Int32.toNatClampNeg 6001)) := by have hz : yu107 + (Int32.toNatClampNeg 8) ≤ (((((((((((((((((((((sb - (Int32.toNatClampNeg 8000)) - (Int32.toNatClampNeg 8000)) - (Int32.toNatClampNeg 8001)) - (Int32.toNatClampNeg 8002)) - (Int32.toNatClampNeg 8002)) - (Int32.toNatClampNeg 8002)) - (Int32.toNatClampNeg 26000)) - (Int32.toNatClampNeg 26000)) - (Int32.toNatClampNeg 26000)) - (Int32.toNatClampNeg 26000)) - (Int32.toNatClampNeg 26000)) - (Int32.toNatClampNeg 26000)) - (Int32.toNatClampNeg 26000)) - (Int32.toNatClampNeg 26000)) - (Int32.toNatClampNeg 26000)) - (Int32.toNatClampNeg 26000)) - (Int32.toNatClampNeg 26000)) - (Int32.toNatClampNeg 26000)) - (Int32.toNatClampNeg 2)) - (Int32.toNatClampNeg 12000)) - (Int32.toNatClampNeg 6001)) := hs; omega
    replace hc : xu107 ≤ (((((((((((((((((((((cb - 1) - 1) - 1) - 1) - 1) - 1) - 1) - 1) - 1) - 1) - 1) - 1) - 1) - 1) - 1) - 1) - 1) - 1) - 1) - 1) - 1) - 1 := by have hz : xu107 + 1 ≤ (((((((((((((((((((((cb - 1) - 1) - 1) - 1) - 1) - 1) - 1) - 1) - 1) - 1) - 1) - 1) - 1) - 1) - 1) - 1) - 1) - 1) - 1) - 1) - 1) := hc; omega
    replace hs : yu107 ≤ (((((((((((((((((((((sb - (Int32.toNatClampNeg 8000)) - (Int32.toNatClampNeg 8000)) - (Int32.toNatClampNeg 8001)) - (Int32.toNatClampNeg 8002)) - (Int32.toNatClampNeg 8002)) - (Int32.toNatClampNeg 8002)) - (Int32.toNatClampNeg 26000)) - (Int32.toNatClampNeg 26000)) - (Int32.toNatClampNeg 26000)) - (Int32.toNatClampNeg 26000)) - (Int32.toNatClampNeg 26000)) - (Int32.toNatClampNeg 26000)) - (Int32.toNatClampNeg 26000)) - (Int32.toNatClampNeg 26000)) - (Int32.toNatClampNeg 26000)) - (Int32.toNatClampNeg 26000)) - (Int32.toNatClampNeg 26000)) - (Int32.toNatClampNeg 26000)) - (Int32.toNatClampNeg 2)) - (Int32.toNatClampNeg 12000)) - (Int32.toNatClampNeg 6001)) - (Int32.toNatClampNeg 8) := by have hz : yu107 + (Int32.toNatClampNeg 8) ≤ (((((((((((((((((((((sb - (Int32.toNatClampNeg 8000)) - (Int32.toNatClampNeg 8000)) - (Int32.toNatClampNeg 8001)) - (Int32.toNatClampNeg 8002)) - (Int32.toNatClampNeg 8002)) - (Int32.toNatClampNeg 8002)) - (Int32.toNatClampNeg 26000)) - (Int32.toNatClampNeg 26000)) - (Int32.toNatClampNeg 26000)) - (Int32.toNatClampNeg 26000)) - (Int32.toNatClampNeg 26000)) - (Int32.toNatClampNeg 26000)) - (Int32.toNatClampNeg 26000)) - (Int32.toNatClampNeg 26000)) - (Int32.toNatClampNeg 26000)) - (Int32.toNatClampNeg 26000)) - (Int32.toNatClampNeg 26000)) - (Int32.toNatClampNeg 26000)) - (Int32.toNatClampNeg 2)) - (Int32.toNatClampNeg 12000)) - (Int32.toNatClampNeg 6001)) := hs; omega
    refine vr_anew (t := 3) (n := (Int32.toNatClampNeg 8)) d_RM_init_199 w_897 (by simp [mk_O]) rfl q106.1 rfl (by have := q106.2; omega) h1u107 h2u107 ?_
    obtain ⟨a108, ea108, h⟩ := l_bnd h
    refine vr_nmA ea108 ?_
    obtain ⟨s109, es109, h⟩ := l_bnd h
    refine vr_nmS es109 ?_
    refine vr_dup d_RM_init_202 rfl ?_
    refine vr_iconst 0 d_RM_init_203 (by decide) ?_
    refine vr_ldcS 46 d_RM_init_204 rfl ?_
    have q110 := (l_chk h).1
    replace h := (l_chk h).2
    have q111 := (l_chk h).1
    replace h := (l_chk h).2
    refine vr_aastS d_RM_init_206 q110 (by decide) (ib_in q111) ?_
    refine vr_dup d_RM_init_207 rfl ?_
    refine vr_iconst 1 d_RM_init_208 (by decide) ?_
    refine vr_ldcS 47 d_RM_init_209 rfl ?_
    have q112 := (l_chk h).1
    replace h := (l_chk h).2
    refine vr_aastS d_RM_init_211 q110 (by decide) (ib_in q112) ?_
    refine vr_dup d_RM_init_212 rfl ?_
    refine vr_iconst 2 d_RM_init_213 (by decide) ?_
    refine vr_ldcS 48 d_RM_init_214 rfl ?_
    have q113 := (l_chk h).1
    replace h := (l_chk h).2
    refine vr_aastS d_RM_init_216 q110 (by decide) (ib_in q113) ?_
    refine vr_dup d_RM_init_217 rfl ?_
    refine vr_iconst 3 d_RM_init_218 (by decide) ?_
    refine vr_ldcS 49 d_RM_init_219 rfl ?_
    have q114 := (l_chk h).1
    replace h := (l_chk h).2
    refine vr_aastS d_RM_init_221 q110 (by decide) (ib_in q114) ?_
    refine vr_dup d_RM_init_222 rfl ?_
    refine vr_iconst 4 d_RM_init_223 (by decide) ?_
    refine vr_ldcS 50 d_RM_init_224 rfl ?_
    have q115 := (l_chk h).1
    replace h := (l_chk h).2
    refine vr_aastS d_RM_init_226 q110 (by decide) (ib_in q115) ?_
    refine vr_dup d_RM_init_227 rfl ?_
    refine vr_iconst 5 d_RM_init_228 (by decide) ?_
    refine vr_ldcS 51 d_RM_init_229 rfl ?_
    have q116 := (l_chk h).1
    replace h := (l_chk h).2
    refine vr_aastS d_RM_init_231 q110 (by decide) (ib_in q116) ?_
    refine vr_dup d_RM_init_232 rfl ?_
    refine vr_bipush 6 d_RM_init_233 (by decide) ?_
    refine vr_ldcS 52 d_RM_init_235 rfl ?_
    have q117 := (l_chk h).1
    replace h := (l_chk h).2
    refine vr_aastS d_RM_init_237 q110 (by decide) (ib_in q117) ?_
    refine vr_dup d_RM_init_238 rfl ?_
    refine vr_bipush 7 d_RM_init_239 (by decide) ?_
    refine vr_ldcS 53 d_RM_init_241 rfl ?_
    have q118 := (l_chk h).1
    replace h := (l_chk h).2
    refine vr_aastS d_RM_init_243 q110 (by decide) (ib_in q118) ?_
    obtain ⟨s119, es119, h⟩ := l_bnd h
    refine vr_nmS es119 ?_
    have q120 := (l_chk h).1
    replace h := (l_chk h).2
    refine vr_putR d_RM_init_244 W_RM_init_95 rfl rfl rfl q120 ?_
    refine vr_aload_n d_RM_init_247 rfl rfl ?_
    refine vr_iconst 0 d_RM_init_248 (by decide) ?_
    obtain ⟨s121, es121, h⟩ := l_calV h
    refine mh_callU 8 [.int 0] d_RM_init_249 C_RM_99 (c_RM_clear_h es121) q120 rfl rfl rfl (Nat.le_of_ble_eq_true rfl) (by decide) (Nat.le_of_ble_eq_true rfl) ?_
    refine vr_aload_n d_RM_init_252 rfl rfl ?_
    refine vr_iconst 1 d_RM_init_253 (by decide) ?_
    have q122 := (l_chk h).1
    replace h := (l_chk h).2
    obtain ⟨s123, es123, h⟩ := l_calV h
    refine mh_callU 8 [.int 1] d_RM_init_254 C_RM_99 (c_RM_clear_h es123) q122 rfl rfl rfl (Nat.le_of_ble_eq_true rfl) (by decide) (Nat.le_of_ble_eq_true rfl) ?_
    cases h
    exact vr_vret d_RM_init_257 rfl ⟨rfl, rfl⟩
  exact mv_entry (L := [some (.ref a0)]) rfl rfl (Nat.le_of_ble_eq_true rfl) rfl (key _ _ (Nat.le_refl _) (Nat.le_refl _))

