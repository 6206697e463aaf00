/-! the class, lifted: parse -/
def k_PA_parse_110 (N : Nat) (p_PA_function : Nat → mh_H → Option (Bool × Int32 × mh_H)) (y0 : Nat) (y1 : Int32) (σ : mh_H) : Option ((Int32 × mh_H) × Nat × Nat) := chk (hT σ y0 = 7) <| rfO (hR σ 3 1 y0) fun b16 => chk (hT σ b16 = 3) <| calV (f_DR_add N b16 0 (-1) 0 (((hI σ 1 4 b16) + 1)) σ) fun s18 => some ((y1, s18), 0, 0)
theorem q_PA_parse_110 {g : mv_G} {N : Nat} {p_PA_function : Nat → mh_H → Option (Bool × Int32 × mh_H)} (hl : (mg_l g).stackTraces = false) {F Lw : Nat} (h_PA_function : pkV0 g M_PA_function F Lw p_PA_function) (hF : 40 ≤ F) (hLw : 1000 ≤ Lw) (y0 : Nat) (y1 : Int32) (σ : mh_H) (r : (Int32 × mh_H) × Nat × Nat) (h : k_PA_parse_110 N p_PA_function y0 y1 σ = some r) : ∀ cb sb : Nat, r.2.1 ≤ cb → r.2.2 ≤ sb → mv_V g M_PA_parse (F + 1) (Lw + 60) cb sb 110 [some (.ref y0), some (.int y1), none, none] [] σ (fun oc τ => τ = r.1.2 ∧ oc = .returned (some (.int r.1.1))) := by
  intro cb sb hc hs
  unfold k_PA_parse_110 at h
  refine vr_aload_n d_PA_parse_110 rfl rfl ?_
  have q15 := (l_chk h).1
  replace h := (l_chk h).2
  obtain ⟨b16, eb16, h⟩ := l_rf h
  refine vr_getR (b := b16) d_PA_parse_111 F_PA_19 rfl q15 eb16 ?_
  refine vr_iconst 0 d_PA_parse_114 (by decide) ?_
  refine vr_iconst (-1) d_PA_parse_115 (by decide) ?_
  refine vr_iconst 0 d_PA_parse_116 (by decide) ?_
  refine vr_aload_n d_PA_parse_117 rfl rfl ?_
  refine vr_getR (b := b16) d_PA_parse_118 F_PA_19 rfl q15 eb16 ?_
  have q17 := (l_chk h).1
  replace h := (l_chk h).2
  refine vr_getI d_PA_parse_121 F_PA_42 rfl q17 ?_
  refine vr_iconst 1 d_PA_parse_124 (by decide) ?_
  refine vr_iadd d_PA_parse_125 ?_
  obtain ⟨s18, es18, h⟩ := l_calV h
  refine mh_callU 1 [.int 0, .int (-1), .int 0, .int ((hI σ 1 4 b16) + 1)] d_PA_parse_126 C_PA_50 (c_DR_add es18) q17 rfl rfl rfl (Nat.le_of_ble_eq_true rfl) (by omega) (by show 8 + (5 + 11) + 0 ≤ Lw + 60; omega) ?_
  refine vr_iload_n d_PA_parse_129 rfl rfl ?_
  cases h
  exact vr_iret d_PA_parse_130 rfl rfl ⟨rfl, rfl⟩

def k_PA_parse_67 (N : Nat) (p_PA_function : Nat → mh_H → Option (Bool × Int32 × mh_H)) (k40 : Nat → Int32 → Int32 → Int32 → mh_H → Option ((Int32 × mh_H) × Nat × Nat)) (y0 : Nat) (y1 : Int32) (y2 : Int32) (y3 : Int32) (σ : mh_H) : Option ((Int32 × mh_H) × Nat × Nat) := chk (hT σ y0 = 7) <| calC (p_PA_function y0 σ) (fun v20 s20 => chk (hT s20 y0 = 7) <| rfO (hR s20 3 1 y0) fun b35 => chk (hT s20 b35 = 3) <| bnd ((hI s20 1 4 b35)) fun v37 => k40 y0 y1 v37 ((y3 + 1)) s20) (fun s20 => chk (hT s20 (hX s20 - 1) = 19) <| tkA 1 6 <| bnd (hX s20 - 1) fun a24 => chk (hT s20 y0 = 7) <| rfO (hR s20 3 0 y0) fun b26 => chk (hT s20 b26 = 9) <| rfO (hR s20 4 3 b26) fun b28 => chk (hT s20 b28 = 2) <| chk (ib (hI s20 3 3 y0) (hN s20 b28)) <| bnd ((hA s20 b28 (Int32.toNatClampNeg (hI s20 3 3 y0)))) fun v31 => rfO (hR s20 3 1 y0) fun b32 => chk (hT s20 b32 = 3) <| k_PA_parse_110 N p_PA_function y0 v31 ((mh_setI s20 1 4 b32 y2)))
theorem q_PA_parse_67 {g : mv_G} {N : Nat} {p_PA_function : Nat → mh_H → Option (Bool × Int32 × mh_H)} {k40 : Nat → Int32 → Int32 → Int32 → mh_H → Option ((Int32 × mh_H) × Nat × Nat)} (hl : (mg_l g).stackTraces = false) {F Lw : Nat} (h_PA_function : pkV0 g M_PA_function F Lw p_PA_function) (hF : 40 ≤ F) (hLw : 1000 ≤ Lw) (hk40 : ∀ (y0 : Nat) (y1 : Int32) (y2 : Int32) (y3 : Int32) (σ : mh_H) (r : (Int32 × mh_H) × Nat × Nat), k40 y0 y1 y2 y3 σ = some r → ∀ cb sb : Nat, r.2.1 ≤ cb → r.2.2 ≤ sb → mv_V g M_PA_parse (F + 1) (Lw + 60) cb sb 40 [some (.ref y0), some (.int y1), some (.int y2), some (.int y3)] [] σ (fun oc τ => τ = r.1.2 ∧ oc = .returned (some (.int r.1.1)))) (y0 : Nat) (y1 : Int32) (y2 : Int32) (y3 : Int32) (σ : mh_H) (r : (Int32 × mh_H) × Nat × Nat) (h : k_PA_parse_67 N p_PA_function k40 y0 y1 y2 y3 σ = some r) : ∀ cb sb : Nat, r.2.1 ≤ cb → r.2.2 ≤ sb → mv_V g M_PA_parse (F + 1) (Lw + 60) cb sb 67 [some (.ref y0), some (.int y1), some (.int y2), some (.int y3)] [] σ (fun oc τ => τ = r.1.2 ∧ oc = .returned (some (.int r.1.1))) := by
  intro cb sb hc hs
  unfold k_PA_parse_67 at h
  refine vr_aload_n d_PA_parse_67 rfl rfl ?_
  have q19 := (l_chk h).1
  replace h := (l_chk h).2
  rcases l_calC h with ⟨v20, s20, ev20, hh⟩ | ⟨v20, s20, ev20, hh⟩
  clear h
  rotate_left
  · clear h
    have h := hh
    clear hh
    refine mh_thrown 3 [] d_PA_parse_68 C_PA_39 (h_PA_function _ _ _ ev20) q19 rfl rfl rfl (Nat.le_of_ble_eq_true rfl) (by omega) (by show 8 + (4 + 11) + Lw ≤ Lw + 60; omega) ?_
    have q22 := (l_chk h).1
    replace h := (l_chk h).2
    obtain ⟨ru23, xu23, yu23, hhu23, hz⟩ := l_tkA h
    clear h
    cases hz
    have h := hhu23
    have h1u23 : 1 ≤ cb := by have hz : xu23 + 1 ≤ cb := hc; omega
    have h2u23 : 6 ≤ sb := by have hz : yu23 + 6 ≤ sb := hs; omega
    replace hc : xu23 ≤ cb - 1 := by have hz : xu23 + 1 ≤ cb := hc; omega
    replace hs : yu23 ≤ sb - 6 := by have hz : yu23 + 6 ≤ sb := hs; omega
    refine mv_T.catch rfl (by decide) (by decide) w_440 q22 h1u23 h2u23 ?_
    obtain ⟨a24, ea24, h⟩ := l_bnd h
    refine vr_nmA ea24 ?_
    refine vr_astore_n (L' := [some (.ref y0), some (.int y1), some (.int y2), some (.ref a24)]) d_PA_parse_88 rfl (by decide) rfl ?_
    refine vr_aload_n d_PA_parse_89 rfl rfl ?_
    have q25 := (l_chk h).1
    replace h := (l_chk h).2
    obtain ⟨b26, eb26, h⟩ := l_rf h
    refine vr_getR (b := b26) d_PA_parse_90 F_PA_15 rfl q25 eb26 ?_
    have q27 := (l_chk h).1
    replace h := (l_chk h).2
    obtain ⟨b28, eb28, h⟩ := l_rf h
    refine vr_getR (b := b28) d_PA_parse_93 F_PA_45 rfl q27 eb28 ?_
    refine vr_aload_n d_PA_parse_96 rfl rfl ?_
    refine vr_getI d_PA_parse_97 F_PA_9 rfl q25 ?_
    have q29 := (l_chk h).1
    replace h := (l_chk h).2
    have q30 := (l_chk h).1
    replace h := (l_chk h).2
    refine vr_iald (t := 0) d_PA_parse_100 rfl q29 (ib_in q30) ?_
    obtain ⟨v31, ev31, h⟩ := l_bnd h
    refine vr_nm ev31 ?_
    refine vr_istore_n (L' := [some (.ref y0), some (.int v31), some (.int y2), some (.ref a24)]) d_PA_parse_101 rfl (by decide) rfl ?_
    refine vr_aload_n d_PA_parse_102 rfl rfl ?_
    obtain ⟨b32, eb32, h⟩ := l_rf h
    refine vr_getR (b := b32) d_PA_parse_103 F_PA_19 rfl q25 eb32 ?_
    refine vr_iload_n d_PA_parse_106 rfl rfl ?_
    have q33 := (l_chk h).1
    replace h := (l_chk h).2
    refine vr_putI d_PA_parse_107 W_PA_parse_42 rfl rfl rfl q33 ?_
    exact mv_drop (q_PA_parse_110 hl h_PA_function hF hLw _ _ _ _ h _ _ hc hs) (And.intro rfl (And.intro rfl trivial))
  have h := hh
  clear hh
  refine mh_callU 3 [] d_PA_parse_68 C_PA_39 (h_PA_function _ _ _ ev20) q19 rfl rfl rfl (Nat.le_of_ble_eq_true rfl) (by omega) (by show 8 + (4 + 11) + Lw ≤ Lw + 60; omega) ?_
  refine vr_aload_n d_PA_parse_71 rfl rfl ?_
  have q34 := (l_chk h).1
  replace h := (l_chk h).2
  obtain ⟨b35, eb35, h⟩ := l_rf h
  refine vr_getR (b := b35) d_PA_parse_72 F_PA_19 rfl q34 eb35 ?_
  have q36 := (l_chk h).1
  replace h := (l_chk h).2
  refine vr_getI d_PA_parse_75 F_PA_42 rfl q36 ?_
  obtain ⟨v37, ev37, h⟩ := l_bnd h
  refine vr_nm ev37 ?_
  refine vr_istore_n (L' := [some (.ref y0), some (.int y1), some (.int v37), some (.int y3)]) d_PA_parse_78 rfl (by decide) rfl ?_
  refine vr_iinc (L' := [some (.ref y0), some (.int y1), some (.int v37), some (.int (y3 + 1))]) (y3 + 1) d_PA_parse_79 (by decide) rfl rfl rfl ?_
  refine vr_goto (tgt := 40) d_PA_parse_82 (by decide) ?_
  exact mv_drop (hk40 _ _ _ _ _ _ h _ _ hc hs) (And.intro rfl (And.intro rfl (And.intro rfl (And.intro rfl trivial))))

def k_PA_parse_40 (N : Nat) (p_PA_function : Nat → mh_H → Option (Bool × Int32 × mh_H)) : Nat → Nat → Int32 → Int32 → Int32 → mh_H → Option ((Int32 × mh_H) × Nat × Nat)
  | 0, _, _, _, _, _ => none
  | n + 1, y0, y1, y2, y3, σ => chk (hT σ y0 = 7) <| rfO (hR σ 3 0 y0) fun b10 => chk (hT σ b10 = 9) <| if (hI σ 4 5 b10) ≤ y3 then (k_PA_parse_110 N p_PA_function y0 y1 σ) else (if y3 = 0 then (k_PA_parse_67 N p_PA_function (k_PA_parse_40 N p_PA_function n) y0 y1 y2 y3 σ) else (rfO (hR σ 3 2 y0) fun b12 => chk (hT σ b12 = 2) <| chk (ib (hI σ 3 3 y0) (hN σ b12)) <| if (hA σ b12 (Int32.toNatClampNeg (hI σ 3 3 y0))) = 0 then (k_PA_parse_110 N p_PA_function y0 y1 σ) else (k_PA_parse_67 N p_PA_function (k_PA_parse_40 N p_PA_function n) y0 y1 y2 y3 σ)))
theorem q_PA_parse_40 {g : mv_G} {N : Nat} {p_PA_function : Nat → mh_H → Option (Bool × Int32 × mh_H)} (hl : (mg_l g).stackTraces = false) {F Lw : Nat} (h_PA_function : pkV0 g M_PA_function F Lw p_PA_function) (hF : 40 ≤ F) (hLw : 1000 ≤ Lw) : ∀ (n : Nat) (y0 : Nat) (y1 : Int32) (y2 : Int32) (y3 : Int32) (σ : mh_H) (r : (Int32 × mh_H) × Nat × Nat), k_PA_parse_40 N p_PA_function n y0 y1 y2 y3 σ = some r → ∀ cb sb : Nat, r.2.1 ≤ cb → r.2.2 ≤ sb → mv_V g M_PA_parse (F + 1) (Lw + 60) cb sb 40 [some (.ref y0), some (.int y1), some (.int y2), some (.int y3)] [] σ (fun oc τ => τ = r.1.2 ∧ oc = .returned (some (.int r.1.1))) := by
  intro n
  induction n with
  | zero =>
    intro y0 y1 y2 y3 σ r h
    exact absurd h (by simp [k_PA_parse_40])
  | succ n ih =>
    intro y0 y1 y2 y3 σ r h cb sb hc hs
    unfold k_PA_parse_40 at h
    refine vr_iload_n d_PA_parse_40 rfl rfl ?_
    refine vr_aload_n d_PA_parse_41 rfl rfl ?_
    have q9 := (l_chk h).1
    replace h := (l_chk h).2
    obtain ⟨b10, eb10, h⟩ := l_rf h
    refine vr_getR (b := b10) d_PA_parse_42 F_PA_15 rfl q9 eb10 ?_
    have q11 := (l_chk h).1
    replace h := (l_chk h).2
    refine vr_getI d_PA_parse_45 F_PA_30 rfl q11 ?_
    refine vr_icmp_ge (tgt := 85) d_PA_parse_48 (by decide) (fun c48 => ?_) (fun c48 => ?_)
    · replace h := l_ifp c48 h
      refine vr_goto (tgt := 110) d_PA_parse_85 (by decide) ?_
      exact mv_drop (q_PA_parse_110 hl h_PA_function hF hLw _ _ _ _ h _ _ hc hs) (And.intro rfl (And.intro rfl trivial))
    · replace h := l_ifn c48 h
      refine vr_iload_n d_PA_parse_51 rfl rfl ?_
      refine vr_if_eq (tgt := 67) d_PA_parse_52 (by decide) (fun c52 => ?_) (fun c52 => ?_)
      · replace h := l_ifp c52 h
        exact mv_drop (q_PA_parse_67 hl h_PA_function hF hLw ih _ _ _ _ _ _ h _ _ hc hs) (And.intro rfl (And.intro rfl (And.intro rfl (And.intro rfl trivial))))
      · replace h := l_ifn c52 h
        refine vr_aload_n d_PA_parse_55 rfl rfl ?_
        obtain ⟨b12, eb12, h⟩ := l_rf h
        refine vr_getR (b := b12) d_PA_parse_56 F_PA_29 rfl q9 eb12 ?_
        refine vr_aload_n d_PA_parse_59 rfl rfl ?_
        refine vr_getI d_PA_parse_60 F_PA_9 rfl q9 ?_
        have q13 := (l_chk h).1
        replace h := (l_chk h).2
        have q14 := (l_chk h).1
        replace h := (l_chk h).2
        refine vr_iald (t := 0) d_PA_parse_63 rfl q13 (ib_in q14) ?_
        refine vr_if_eq (tgt := 85) d_PA_parse_64 (by decide) (fun c64 => ?_) (fun c64 => ?_)
        · replace h := l_ifp c64 h
          refine vr_goto (tgt := 110) d_PA_parse_85 (by decide) ?_
          exact mv_drop (q_PA_parse_110 hl h_PA_function hF hLw _ _ _ _ h _ _ hc hs) (And.intro rfl (And.intro rfl trivial))
        · replace h := l_ifn c64 h
          exact mv_drop (q_PA_parse_67 hl h_PA_function hF hLw ih _ _ _ _ _ _ h _ _ hc hs) (And.intro rfl (And.intro rfl (And.intro rfl (And.intro rfl trivial))))

def f_PA_parse (N : Nat) (p_PA_function : Nat → mh_H → Option (Bool × Int32 × mh_H)) (a0 : Nat) (σ : mh_H) : Option ((Int32 × mh_H) × Nat × Nat) := chk (hT σ a0 = 7) <| rfO (hR σ 3 0 a0) fun b2 => chk (hT σ b2 = 9) <| rfO (hR σ 4 2 b2) fun b4 => rfO (hR (mh_setI (mh_setR σ 3 2 a0 (some b4)) 3 3 a0 0) 3 1 a0) fun b5 => bnd ((hI (mh_setI (mh_setR σ 3 2 a0 (some b4)) 3 3 a0 0) 4 5 b2)) fun v6 => chk (hT (mh_setI (mh_setR σ 3 2 a0 (some b4)) 3 3 a0 0) b5 = 3) <| calA (f_DR_begin N b5 (((2 * v6) + 1)) (mh_setI (mh_setR σ 3 2 a0 (some b4)) 3 3 a0 0)) fun s8 => k_PA_parse_40 N p_PA_function N a0 (-1) 0 0 s8
theorem c_PA_parse {g : mv_G} {N : Nat} {p_PA_function : Nat → mh_H → Option (Bool × Int32 × mh_H)} (hl : (mg_l g).stackTraces = false) {F Lw : Nat} (h_PA_function : pkV0 g M_PA_function F Lw p_PA_function) (hF : 40 ≤ F) (hLw : 1000 ≤ Lw) {a0 : Nat} {σ : mh_H} {r : (Int32 × mh_H) × Nat × Nat} (h : f_PA_parse N p_PA_function a0 σ = some r) : mv_MetH g M_PA_parse (F + 1) (Lw + 60) r.2.1 r.2.2 [.ref a0] σ (fun oc τ => τ = r.1.2 ∧ oc = .returned (some (.int r.1.1))) := by
  have key : ∀ cb sb : Nat, r.2.1 ≤ cb → r.2.2 ≤ sb → mv_V g M_PA_parse (F + 1) (Lw + 60) cb sb 0 [some (.ref a0), none, none, none] [] σ (fun oc τ => τ = r.1.2 ∧ oc = .returned (some (.int r.1.1))) := by
    intro cb sb hc hs
    unfold f_PA_parse at h
    refine vr_aload_n d_PA_parse_0 rfl rfl ?_
    refine vr_aload_n d_PA_parse_1 rfl rfl ?_
    have q1 := (l_chk h).1
    replace h := (l_chk h).2
    obtain ⟨b2, eb2, h⟩ := l_rf h
    refine vr_getR (b := b2) d_PA_parse_2 F_PA_15 rfl q1 eb2 ?_
    have q3 := (l_chk h).1
    replace h := (l_chk h).2
    obtain ⟨b4, eb4, h⟩ := l_rf h
    refine vr_getR (b := b4) d_PA_parse_5 F_PA_23 rfl q3 eb4 ?_
    refine vr_putR d_PA_parse_8 W_PA_parse_29 rfl rfl rfl q1 ?_
    refine vr_aload_n d_PA_parse_11 rfl rfl ?_
    refine vr_iconst 0 d_PA_parse_12 (by decide) ?_
    refine vr_putI d_PA_parse_13 W_PA_parse_9 rfl rfl rfl q1 ?_
    refine vr_aload_n d_PA_parse_16 rfl rfl ?_
    obtain ⟨b5, eb5, h⟩ := l_rf h
    refine vr_getR (b := b5) d_PA_parse_17 F_PA_19 rfl q1 eb5 ?_
    refine vr_iconst 2 d_PA_parse_20 (by decide) ?_
    refine vr_aload_n d_PA_parse_21 rfl rfl ?_
    refine vr_getR (b := b2) d_PA_parse_22 F_PA_15 rfl q1 eb2 ?_
    refine vr_getI d_PA_parse_25 F_PA_30 rfl q3 ?_
    obtain ⟨v6, ev6, h⟩ := l_bnd h
    refine vr_nm ev6 ?_
    refine vr_imul d_PA_parse_28 ?_
    refine vr_iconst 1 d_PA_parse_29 (by decide) ?_
    refine vr_iadd d_PA_parse_30 ?_
    have q7 := (l_chk h).1
    replace h := (l_chk h).2
    obtain ⟨s8, c8, n8, ev8, r8, x8, y8, hh8, hz⟩ := l_calA h
    clear h
    cases hz
    have h := hh8
    have h18 : c8 ≤ cb := by have hz : x8 + c8 ≤ cb := hc; omega
    have h28 : n8 ≤ sb := by have hz : y8 + n8 ≤ sb := hs; omega
    replace hc : x8 ≤ cb - c8 := by have hz : x8 + c8 ≤ cb := hc; omega
    replace hs : y8 ≤ sb - n8 := by have hz : y8 + n8 ≤ sb := hs; omega
    refine mh_callUa 1 [.int ((2 * v6) + 1)] d_PA_parse_31 C_PA_33 (c_DR_begin ev8) q7 rfl rfl rfl (Nat.le_of_ble_eq_true rfl) (by omega) (by show 8 + (3 + 11) + 42 ≤ Lw + 60; omega) h18 h28 ?_
    refine vr_iconst (-1) d_PA_parse_34 (by decide) ?_
    refine vr_istore_n (L' := [some (.ref a0), some (.int (-1)), none, none]) d_PA_parse_35 rfl (by decide) rfl ?_
    refine vr_iconst 0 d_PA_parse_36 (by decide) ?_
    refine vr_istore_n (L' := [some (.ref a0), some (.int (-1)), some (.int 0), none]) d_PA_parse_37 rfl (by decide) rfl ?_
    refine vr_iconst 0 d_PA_parse_38 (by decide) ?_
    refine vr_istore_n (L' := [some (.ref a0), some (.int (-1)), some (.int 0), some (.int 0)]) d_PA_parse_39 rfl (by decide) rfl ?_
    exact mv_drop (q_PA_parse_40 hl h_PA_function hF hLw N _ _ _ _ _ _ h _ _ hc hs) (And.intro rfl (And.intro rfl (And.intro rfl (And.intro rfl trivial))))
  exact mv_entryH (L := [some (.ref a0), none, none, none]) rfl (Nat.le_of_ble_eq_true rfl) rfl (key _ _ (Nat.le_refl _) (Nat.le_refl _))

