/-! the class, lifted: parse -/
def k_PA_parse_95 (N : Nat) (p_PA_function : Nat → mh_H → Option (Bool × Int32 × mh_H)) (y0 : Nat) (y1 : Int32) (σ : mh_H) : Option ((Int32 × mh_H) × Nat × Nat) := chk (hT σ y0 = 7) <| rfO (hR σ 3 1 y0) fun b13 => chk (hT σ b13 = 3) <| calV (f_DR_add N b13 0 (-1) 0 (((hI σ 1 4 b13) + 1)) σ) fun s15 => some ((y1, s15), 0, 0)
theorem q_PA_parse_95 {g : mv_G} {N : Nat} {p_PA_function : Nat → mh_H → Option (Bool × Int32 × mh_H)} (hl : (mg_l g).stackTraces = false) {F Lw : Nat} (h_PA_function : pkV0 g M_PA_function F Lw p_PA_function) (hF : 40 ≤ F) (hLw : 1000 ≤ Lw) (y0 : Nat) (y1 : Int32) (σ : mh_H) (r : (Int32 × mh_H) × Nat × Nat) (h : k_PA_parse_95 N p_PA_function y0 y1 σ = some r) : ∀ cb sb : Nat, r.2.1 ≤ cb → r.2.2 ≤ sb → mv_V g M_PA_parse (F + 1) (Lw + 60) cb sb 95 [some (.ref y0), some (.int y1), none, none] [] σ (fun oc τ => τ = r.1.2 ∧ oc = .returned (some (.int r.1.1))) := by
  intro cb sb hc hs
  unfold k_PA_parse_95 at h
  refine vr_aload_n d_PA_parse_95 rfl rfl ?_
  have q12 := (l_chk h).1
  replace h := (l_chk h).2
  obtain ⟨b13, eb13, h⟩ := l_rf h
  refine vr_getR (b := b13) d_PA_parse_96 F_PA_19 rfl q12 eb13 ?_
  refine vr_iconst 0 d_PA_parse_99 (by decide) ?_
  refine vr_iconst (-1) d_PA_parse_100 (by decide) ?_
  refine vr_iconst 0 d_PA_parse_101 (by decide) ?_
  refine vr_aload_n d_PA_parse_102 rfl rfl ?_
  refine vr_getR (b := b13) d_PA_parse_103 F_PA_19 rfl q12 eb13 ?_
  have q14 := (l_chk h).1
  replace h := (l_chk h).2
  refine vr_getI d_PA_parse_106 F_PA_43 rfl q14 ?_
  refine vr_iconst 1 d_PA_parse_109 (by decide) ?_
  refine vr_iadd d_PA_parse_110 ?_
  obtain ⟨s15, es15, h⟩ := l_calV h
  refine mh_callU 1 [.int 0, .int (-1), .int 0, .int ((hI σ 1 4 b13) + 1)] d_PA_parse_111 C_PA_52 (c_DR_add es15) q14 rfl rfl rfl (Nat.le_of_ble_eq_true rfl) (by omega) (by show 8 + (5 + 11) + 0 ≤ Lw + 60; omega) ?_
  refine vr_iload_n d_PA_parse_114 rfl rfl ?_
  cases h
  exact vr_iret d_PA_parse_115 rfl rfl ⟨rfl, rfl⟩

def k_PA_parse_53 (N : Nat) (p_PA_function : Nat → mh_H → Option (Bool × Int32 × mh_H)) (k29 : Nat → Int32 → Int32 → Int32 → mh_H → Option ((Int32 × mh_H) × Nat × Nat)) (y0 : Nat) (y1 : Int32) (y2 : Int32) (y3 : Int32) (σ : mh_H) : Option ((Int32 × mh_H) × Nat × Nat) := chk (hT σ y0 = 7) <| calC (p_PA_function y0 σ) (fun v17 s17 => chk (hT s17 y0 = 7) <| rfO (hR s17 3 1 y0) fun b30 => chk (hT s17 b30 = 3) <| bnd ((hI s17 1 4 b30)) fun v32 => k29 y0 y1 v32 ((y3 + 1)) s17) (fun s17 => chk (hT s17 (hX s17 - 1) = 19) <| tkA 1 6 <| bnd (hX s17 - 1) fun a21 => chk (hT s17 y0 = 7) <| rfO (hR s17 3 0 y0) fun b23 => chk (hT s17 b23 = 9) <| calI (f_TO_placeAt N b23 ((hI s17 3 2 y0)) s17) fun v25 s25 => chk (hT s25 y0 = 7) <| rfO (hR s25 3 1 y0) fun b27 => chk (hT s25 b27 = 3) <| k_PA_parse_95 N p_PA_function y0 v25 ((mh_setI s25 1 4 b27 y2)))
theorem q_PA_parse_53 {g : mv_G} {N : Nat} {p_PA_function : Nat → mh_H → Option (Bool × Int32 × mh_H)} {k29 : Nat → Int32 → Int32 → Int32 → mh_H → Option ((Int32 × mh_H) × Nat × Nat)} (hl : (mg_l g).stackTraces = false) {F Lw : Nat} (h_PA_function : pkV0 g M_PA_function F Lw p_PA_function) (hF : 40 ≤ F) (hLw : 1000 ≤ Lw) (hk29 : ∀ (y0 : Nat) (y1 : Int32) (y2 : Int32) (y3 : Int32) (σ : mh_H) (r : (Int32 × mh_H) × Nat × Nat), k29 y0 y1 y2 y3 σ = some r → ∀ cb sb : Nat, r.2.1 ≤ cb → r.2.2 ≤ sb → mv_V g M_PA_parse (F + 1) (Lw + 60) cb sb 29 [some (.ref y0), some (.int y1), some (.int y2), some (.int y3)] [] σ (fun oc τ => τ = r.1.2 ∧ oc = .returned (some (.int r.1.1)))) (y0 : Nat) (y1 : Int32) (y2 : Int32) (y3 : Int32) (σ : mh_H) (r : (Int32 × mh_H) × Nat × Nat) (h : k_PA_parse_53 N p_PA_function k29 y0 y1 y2 y3 σ = some r) : ∀ cb sb : Nat, r.2.1 ≤ cb → r.2.2 ≤ sb → mv_V g M_PA_parse (F + 1) (Lw + 60) cb sb 53 [some (.ref y0), some (.int y1), some (.int y2), some (.int y3)] [] σ (fun oc τ => τ = r.1.2 ∧ oc = .returned (some (.int r.1.1))) := by
  intro cb sb hc hs
  unfold k_PA_parse_53 at h
  refine vr_aload_n d_PA_parse_53 rfl rfl ?_
  have q16 := (l_chk h).1
  replace h := (l_chk h).2
  rcases l_calC h with ⟨v17, s17, ev17, hh⟩ | ⟨v17, s17, ev17, hh⟩
  clear h
  rotate_left
  · clear h
    have h := hh
    clear hh
    refine mh_thrown 3 [] d_PA_parse_54 C_PA_40 (h_PA_function _ _ _ ev17) q16 rfl rfl rfl (Nat.le_of_ble_eq_true rfl) (by omega) (by show 8 + (4 + 11) + Lw ≤ Lw + 60; omega) ?_
    have q19 := (l_chk h).1
    replace h := (l_chk h).2
    obtain ⟨ru20, xu20, yu20, hhu20, hz⟩ := l_tkA h
    clear h
    cases hz
    have h := hhu20
    have h1u20 : 1 ≤ cb := by have hz : xu20 + 1 ≤ cb := hc; omega
    have h2u20 : 6 ≤ sb := by have hz : yu20 + 6 ≤ sb := hs; omega
    replace hc : xu20 ≤ cb - 1 := by have hz : xu20 + 1 ≤ cb := hc; omega
    replace hs : yu20 ≤ sb - 6 := by have hz : yu20 + 6 ≤ sb := hs; omega
    refine mv_T.catch rfl (by decide) (by decide) w_428 q19 h1u20 h2u20 ?_
    obtain ⟨a21, ea21, h⟩ := l_bnd h
    refine vr_nmA ea21 ?_
    refine vr_astore_n (L' := [some (.ref y0), some (.int y1), some (.int y2), some (.ref a21)]) d_PA_parse_74 rfl (by decide) rfl ?_
    refine vr_aload_n d_PA_parse_75 rfl rfl ?_
    have q22 := (l_chk h).1
    replace h := (l_chk h).2
    obtain ⟨b23, eb23, h⟩ := l_rf h
    refine vr_getR (b := b23) d_PA_parse_76 F_PA_15 rfl q22 eb23 ?_
    refine vr_aload_n d_PA_parse_79 rfl rfl ?_
    refine vr_getI d_PA_parse_80 F_PA_9 rfl q22 ?_
    have q24 := (l_chk h).1
    replace h := (l_chk h).2
    obtain ⟨v25, s25, ev25, h⟩ := l_calI h
    refine mh_callI 4 [.int (hI s17 3 2 y0)] d_PA_parse_83 C_PA_46 (c_TO_placeAt ev25) q24 rfl rfl rfl (Nat.le_of_ble_eq_true rfl) (by omega) (by show 8 + (2 + 11) + 0 ≤ Lw + 60; omega) ?_
    refine vr_istore_n (L' := [some (.ref y0), some (.int v25), some (.int y2), some (.ref a21)]) d_PA_parse_86 rfl (by decide) rfl ?_
    refine vr_aload_n d_PA_parse_87 rfl rfl ?_
    have q26 := (l_chk h).1
    replace h := (l_chk h).2
    obtain ⟨b27, eb27, h⟩ := l_rf h
    refine vr_getR (b := b27) d_PA_parse_88 F_PA_19 rfl q26 eb27 ?_
    refine vr_iload_n d_PA_parse_91 rfl rfl ?_
    have q28 := (l_chk h).1
    replace h := (l_chk h).2
    refine vr_putI d_PA_parse_92 W_PA_parse_43 rfl rfl rfl q28 ?_
    exact mv_drop (q_PA_parse_95 hl h_PA_function hF hLw _ _ _ _ h _ _ hc hs) (And.intro rfl (And.intro rfl trivial))
  have h := hh
  clear hh
  refine mh_callU 3 [] d_PA_parse_54 C_PA_40 (h_PA_function _ _ _ ev17) q16 rfl rfl rfl (Nat.le_of_ble_eq_true rfl) (by omega) (by show 8 + (4 + 11) + Lw ≤ Lw + 60; omega) ?_
  refine vr_aload_n d_PA_parse_57 rfl rfl ?_
  have q29 := (l_chk h).1
  replace h := (l_chk h).2
  obtain ⟨b30, eb30, h⟩ := l_rf h
  refine vr_getR (b := b30) d_PA_parse_58 F_PA_19 rfl q29 eb30 ?_
  have q31 := (l_chk h).1
  replace h := (l_chk h).2
  refine vr_getI d_PA_parse_61 F_PA_43 rfl q31 ?_
  obtain ⟨v32, ev32, h⟩ := l_bnd h
  refine vr_nm ev32 ?_
  refine vr_istore_n (L' := [some (.ref y0), some (.int y1), some (.int v32), some (.int y3)]) d_PA_parse_64 rfl (by decide) rfl ?_
  refine vr_iinc (L' := [some (.ref y0), some (.int y1), some (.int v32), some (.int (y3 + 1))]) (y3 + 1) d_PA_parse_65 (by decide) rfl rfl rfl ?_
  refine vr_goto (tgt := 29) d_PA_parse_68 (by decide) ?_
  exact mv_drop (hk29 _ _ _ _ _ _ h _ _ hc hs) (And.intro rfl (And.intro rfl (And.intro rfl (And.intro rfl trivial))))

def k_PA_parse_29 (N : Nat) (p_PA_function : Nat → mh_H → Option (Bool × Int32 × mh_H)) : Nat → Nat → Int32 → Int32 → Int32 → mh_H → Option ((Int32 × mh_H) × Nat × Nat)
  | 0, _, _, _, _, _ => none
  | n + 1, y0, y1, y2, y3, σ => chk (hT σ y0 = 7) <| rfO (hR σ 3 0 y0) fun b9 => chk (hT σ b9 = 9) <| if (hI σ 4 5 b9) ≤ y3 then (k_PA_parse_95 N p_PA_function y0 y1 σ) else (if y3 = 0 then (k_PA_parse_53 N p_PA_function (k_PA_parse_29 N p_PA_function n) y0 y1 y2 y3 σ) else (calI (f_PA_isAt N y0 0 0 σ) fun v11 s11 => if v11 = 0 then (k_PA_parse_53 N p_PA_function (k_PA_parse_29 N p_PA_function n) y0 y1 y2 y3 s11) else (k_PA_parse_95 N p_PA_function y0 y1 s11)))
theorem q_PA_parse_29 {g : mv_G} {N : Nat} {p_PA_function : Nat → mh_H → Option (Bool × Int32 × mh_H)} (hl : (mg_l g).stackTraces = false) {F Lw : Nat} (h_PA_function : pkV0 g M_PA_function F Lw p_PA_function) (hF : 40 ≤ F) (hLw : 1000 ≤ Lw) : ∀ (n : Nat) (y0 : Nat) (y1 : Int32) (y2 : Int32) (y3 : Int32) (σ : mh_H) (r : (Int32 × mh_H) × Nat × Nat), k_PA_parse_29 N p_PA_function n y0 y1 y2 y3 σ = some r → ∀ cb sb : Nat, r.2.1 ≤ cb → r.2.2 ≤ sb → mv_V g M_PA_parse (F + 1) (Lw + 60) cb sb 29 [some (.ref y0), some (.int y1), some (.int y2), some (.int y3)] [] σ (fun oc τ => τ = r.1.2 ∧ oc = .returned (some (.int r.1.1))) := by
  intro n
  induction n with
  | zero =>
    intro y0 y1 y2 y3 σ r h
    exact absurd h (by simp [k_PA_parse_29])
  | succ n ih =>
    intro y0 y1 y2 y3 σ r h cb sb hc hs
    unfold k_PA_parse_29 at h
    refine vr_iload_n d_PA_parse_29 rfl rfl ?_
    refine vr_aload_n d_PA_parse_30 rfl rfl ?_
    have q8 := (l_chk h).1
    replace h := (l_chk h).2
    obtain ⟨b9, eb9, h⟩ := l_rf h
    refine vr_getR (b := b9) d_PA_parse_31 F_PA_15 rfl q8 eb9 ?_
    have q10 := (l_chk h).1
    replace h := (l_chk h).2
    refine vr_getI d_PA_parse_34 F_PA_23 rfl q10 ?_
    refine vr_icmp_ge (tgt := 71) d_PA_parse_37 (by decide) (fun c37 => ?_) (fun c37 => ?_)
    · replace h := l_ifp c37 h
      refine vr_goto (tgt := 95) d_PA_parse_71 (by decide) ?_
      exact mv_drop (q_PA_parse_95 hl h_PA_function hF hLw _ _ _ _ h _ _ hc hs) (And.intro rfl (And.intro rfl trivial))
    · replace h := l_ifn c37 h
      refine vr_iload_n d_PA_parse_40 rfl rfl ?_
      refine vr_if_eq (tgt := 53) d_PA_parse_41 (by decide) (fun c41 => ?_) (fun c41 => ?_)
      · replace h := l_ifp c41 h
        exact mv_drop (q_PA_parse_53 hl h_PA_function hF hLw ih _ _ _ _ _ _ h _ _ hc hs) (And.intro rfl (And.intro rfl (And.intro rfl (And.intro rfl trivial))))
      · replace h := l_ifn c41 h
        refine vr_aload_n d_PA_parse_44 rfl rfl ?_
        refine vr_iconst 0 d_PA_parse_45 (by decide) ?_
        refine vr_iconst 0 d_PA_parse_46 (by decide) ?_
        obtain ⟨v11, s11, ev11, h⟩ := l_calI h
        refine mh_callI 3 [.int 0, .int 0] d_PA_parse_47 C_PA_36 (c_PA_isAt ev11) q8 rfl rfl rfl (Nat.le_of_ble_eq_true rfl) (by omega) (by show 8 + (4 + 11) + 21 ≤ Lw + 60; omega) ?_
        refine vr_if_ne (tgt := 71) d_PA_parse_50 (by decide) (fun c50 => ?_) (fun c50 => ?_)
        · replace h := l_ifn c50 h
          refine vr_goto (tgt := 95) d_PA_parse_71 (by decide) ?_
          exact mv_drop (q_PA_parse_95 hl h_PA_function hF hLw _ _ _ _ h _ _ hc hs) (And.intro rfl (And.intro rfl trivial))
        · replace h := l_ifp c50 h
          exact mv_drop (q_PA_parse_53 hl h_PA_function hF hLw ih _ _ _ _ _ _ h _ _ hc hs) (And.intro rfl (And.intro rfl (And.intro rfl (And.intro rfl trivial))))

def f_PA_parse (N : Nat) (p_PA_function : Nat → mh_H → Option (Bool × Int32 × mh_H)) (a0 : Nat) (σ : mh_H) : Option ((Int32 × mh_H) × Nat × Nat) := chk (hT σ a0 = 7) <| rfO (hR (mh_setI σ 3 2 a0 0) 3 1 a0) fun b2 => rfO (hR (mh_setI σ 3 2 a0 0) 3 0 a0) fun b3 => chk (hT (mh_setI σ 3 2 a0 0) b3 = 9) <| bnd ((hI (mh_setI σ 3 2 a0 0) 4 5 b3)) fun v5 => chk (hT (mh_setI σ 3 2 a0 0) b2 = 3) <| calA (f_DR_begin N b2 (((2 * v5) + 1)) (mh_setI σ 3 2 a0 0)) fun s7 => k_PA_parse_29 N p_PA_function N a0 (-1) 0 0 s7
theorem c_PA_parse {g : mv_G} {N : Nat} {p_PA_function : Nat → mh_H → Option (Bool × Int32 × mh_H)} (hl : (mg_l g).stackTraces = false) {F Lw : Nat} (h_PA_function : pkV0 g M_PA_function F Lw p_PA_function) (hF : 40 ≤ F) (hLw : 1000 ≤ Lw) {a0 : Nat} {σ : mh_H} {r : (Int32 × mh_H) × Nat × Nat} (h : f_PA_parse N p_PA_function a0 σ = some r) : mv_MetH g M_PA_parse (F + 1) (Lw + 60) r.2.1 r.2.2 [.ref a0] σ (fun oc τ => τ = r.1.2 ∧ oc = .returned (some (.int r.1.1))) := by
  have key : ∀ cb sb : Nat, r.2.1 ≤ cb → r.2.2 ≤ sb → mv_V g M_PA_parse (F + 1) (Lw + 60) cb sb 0 [some (.ref a0), none, none, none] [] σ (fun oc τ => τ = r.1.2 ∧ oc = .returned (some (.int r.1.1))) := by
    intro cb sb hc hs
    unfold f_PA_parse at h
    refine vr_aload_n d_PA_parse_0 rfl rfl ?_
    refine vr_iconst 0 d_PA_parse_1 (by decide) ?_
    have q1 := (l_chk h).1
    replace h := (l_chk h).2
    refine vr_putI d_PA_parse_2 W_PA_parse_9 rfl rfl rfl q1 ?_
    refine vr_aload_n d_PA_parse_5 rfl rfl ?_
    obtain ⟨b2, eb2, h⟩ := l_rf h
    refine vr_getR (b := b2) d_PA_parse_6 F_PA_19 rfl q1 eb2 ?_
    refine vr_iconst 2 d_PA_parse_9 (by decide) ?_
    refine vr_aload_n d_PA_parse_10 rfl rfl ?_
    obtain ⟨b3, eb3, h⟩ := l_rf h
    refine vr_getR (b := b3) d_PA_parse_11 F_PA_15 rfl q1 eb3 ?_
    have q4 := (l_chk h).1
    replace h := (l_chk h).2
    refine vr_getI d_PA_parse_14 F_PA_23 rfl q4 ?_
    obtain ⟨v5, ev5, h⟩ := l_bnd h
    refine vr_nm ev5 ?_
    refine vr_imul d_PA_parse_17 ?_
    refine vr_iconst 1 d_PA_parse_18 (by decide) ?_
    refine vr_iadd d_PA_parse_19 ?_
    have q6 := (l_chk h).1
    replace h := (l_chk h).2
    obtain ⟨s7, c7, n7, ev7, r7, x7, y7, hh7, hz⟩ := l_calA h
    clear h
    cases hz
    have h := hh7
    have h17 : c7 ≤ cb := by have hz : x7 + c7 ≤ cb := hc; omega
    have h27 : n7 ≤ sb := by have hz : y7 + n7 ≤ sb := hs; omega
    replace hc : x7 ≤ cb - c7 := by have hz : x7 + c7 ≤ cb := hc; omega
    replace hs : y7 ≤ sb - n7 := by have hz : y7 + n7 ≤ sb := hs; omega
    refine mh_callUa 1 [.int ((2 * v5) + 1)] d_PA_parse_20 C_PA_28 (c_DR_begin ev7) q6 rfl rfl rfl (Nat.le_of_ble_eq_true rfl) (by omega) (by show 8 + (3 + 11) + 42 ≤ Lw + 60; omega) h17 h27 ?_
    refine vr_iconst (-1) d_PA_parse_23 (by decide) ?_
    refine vr_istore_n (L' := [some (.ref a0), some (.int (-1)), none, none]) d_PA_parse_24 rfl (by decide) rfl ?_
    refine vr_iconst 0 d_PA_parse_25 (by decide) ?_
    refine vr_istore_n (L' := [some (.ref a0), some (.int (-1)), some (.int 0), none]) d_PA_parse_26 rfl (by decide) rfl ?_
    refine vr_iconst 0 d_PA_parse_27 (by decide) ?_
    refine vr_istore_n (L' := [some (.ref a0), some (.int (-1)), some (.int 0), some (.int 0)]) d_PA_parse_28 rfl (by decide) rfl ?_
    exact mv_drop (q_PA_parse_29 hl h_PA_function hF hLw N _ _ _ _ _ _ h _ _ hc hs) (And.intro rfl (And.intro rfl (And.intro rfl (And.intro rfl trivial))))
  exact mv_entryH (L := [some (.ref a0), none, none, none]) rfl (Nat.le_of_ble_eq_true rfl) rfl (key _ _ (Nat.le_refl _) (Nat.le_refl _))

