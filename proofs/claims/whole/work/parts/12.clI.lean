/-! the class, lifted: its face -/
def k_PR_init_123 (N : Nat) : Nat → Nat → Int32 → mh_H → Option (mh_H × Nat × Nat)
  | 0, _, _, _ => none
  | n + 1, y0, y1, σ => if 2 ≤ y1 then (some (σ, 0, 0)) else (chk (hT σ y0 = 15) <| rfO (hR σ 7 8 y0) fun b52 => tkA 1 8 <| bnd (hX σ) fun a54 => bnd (mh_new σ 5) fun s55 => calA (f_TR_init N a54 s55) fun s56 => chk (hT s56 b52 = 6) <| chk (hT s56 a54 = 11) <| chk (ib y1 (hN s56 b52)) <| k_PR_init_123 N n y0 ((y1 + 1)) ((mh_setQ s56 b52 (Int32.toNatClampNeg y1) (some a54))))
theorem q_PR_init_123 {g : mv_G} {N : Nat} : ∀ (n : Nat) (y0 : Nat) (y1 : Int32) (σ : mh_H) (r : mh_H × Nat × Nat), k_PR_init_123 N n y0 y1 σ = some r → ∀ cb sb : Nat, r.2.1 ≤ cb → r.2.2 ≤ sb → mv_V g M_PR_init 3 62 cb sb 123 [some (.ref y0), some (.int y1)] [] σ (fun oc τ => τ = r.1 ∧ oc = .returned none) := by
  intro n
  induction n with
  | zero =>
    intro y0 y1 σ r h
    exact absurd h (by simp [k_PR_init_123])
  | succ n ih =>
    intro y0 y1 σ r h cb sb hc hs
    unfold k_PR_init_123 at h
    refine vr_iload_n d_PR_init_123 rfl rfl ?_
    refine vr_iconst 2 d_PR_init_124 (by decide) ?_
    refine vr_icmp_ge (tgt := 147) d_PR_init_125 (by decide) (fun c125 => ?_) (fun c125 => ?_)
    · replace h := l_ifp c125 h
      cases h
      exact vr_vret d_PR_init_147 rfl ⟨rfl, rfl⟩
    · replace h := l_ifn c125 h
      refine vr_aload_n d_PR_init_128 rfl rfl ?_
      have q51 := (l_chk h).1
      replace h := (l_chk h).2
      obtain ⟨b52, eb52, h⟩ := l_rf h
      refine vr_getR (b := b52) d_PR_init_129 F_PR_65 rfl q51 eb52 ?_
      refine vr_iload_n d_PR_init_132 rfl rfl ?_
      obtain ⟨ru53, xu53, yu53, hhu53, hz⟩ := l_tkA h
      clear h
      cases hz
      have h := hhu53
      have h1u53 : 1 ≤ cb := by have hz : xu53 + 1 ≤ cb := hc; omega
      have h2u53 : 8 ≤ sb := by have hz : yu53 + 8 ≤ sb := hs; omega
      replace hc : xu53 ≤ cb - 1 := by have hz : xu53 + 1 ≤ cb := hc; omega
      replace hs : yu53 ≤ sb - 8 := by have hz : yu53 + 8 ≤ sb := hs; omega
      refine vr_new (k := 5) d_PR_init_133 rfl w_210 w_162 w_9 h1u53 h2u53 df_5 ?_
      obtain ⟨a54, ea54, h⟩ := l_bnd h
      refine vr_nmA ea54 ?_
      obtain ⟨s55, es55, h⟩ := l_bnd h
      refine vr_nmS es55 ?_
      refine vr_dup d_PR_init_136 rfl ?_
      obtain ⟨s56, c56, n56, ev56, r56, x56, y56, hh56, hz⟩ := l_calA h
      clear h
      cases hz
      have h := hh56
      have h156 : c56 ≤ (cb - 1) := by have hz : x56 + c56 ≤ (cb - 1) := hc; omega
      have h256 : n56 ≤ (sb - 8) := by have hz : y56 + n56 ≤ (sb - 8) := hs; omega
      replace hc : x56 ≤ (cb - 1) - c56 := by have hz : x56 + c56 ≤ (cb - 1) := hc; omega
      replace hs : y56 ≤ (sb - 8) - n56 := by have hz : y56 + n56 ≤ (sb - 8) := hs; omega
      refine mh_callN [] d_PR_init_137 C_PR_69 (c_TR_init ev56) rfl rfl (Nat.le_of_ble_eq_true rfl) (by decide) (Nat.le_of_ble_eq_true rfl) h156 h256 ?_
      have q57 := (l_chk h).1
      replace h := (l_chk h).2
      have q58 := (l_chk h).1
      replace h := (l_chk h).2
      have q59 := (l_chk h).1
      replace h := (l_chk h).2
      refine vr_aast (t := 2) (k := 5) d_PR_init_140 rfl rfl q57 q58 (ib_in q59) ?_
      refine vr_iinc (L' := [some (.ref y0), some (.int (y1 + 1))]) (y1 + 1) d_PR_init_141 (by decide) rfl rfl rfl ?_
      refine vr_goto (tgt := 123) d_PR_init_144 (by decide) ?_
      exact mv_drop (ih _ _ _ _ h _ _ hc hs) (And.intro rfl (And.intro rfl trivial))

def f_PR_init (N : Nat) (a0 : Nat) (σ : mh_H) : Option (mh_H × Nat × Nat) := tkA 1 4 <| bnd (hX σ) fun a2 => bnd (mh_new σ 0) fun s3 => calA (f_BR_init N a2 8000 s3) fun s4 => chk (hT s4 a0 = 15) <| tkA 1 4 <| bnd (hX (mh_setR s4 7 0 a0 (some a2))) fun a7 => bnd (mh_new (mh_setR s4 7 0 a0 (some a2)) 0) fun s8 => calA (f_BR_init N a7 8000 s8) fun s9 => chk (hT s9 a0 = 15) <| tkA 1 4 <| bnd (hX (mh_setR s9 7 1 a0 (some a7))) fun a12 => bnd (mh_new (mh_setR s9 7 1 a0 (some a7)) 0) fun s13 => calA (f_BR_init N a12 8000 s13) fun s14 => chk (hT s14 a0 = 15) <| tkA 1 6 <| bnd (hX (mh_setR s14 7 2 a0 (some a12))) fun a17 => bnd (mh_new (mh_setR s14 7 2 a0 (some a12)) 4) fun s18 => calA (f_TO_init N a17 s18) fun s19 => chk (hT s19 a0 = 15) <| tkA 1 5 <| bnd (hX (mh_setR s19 7 3 a0 (some a17))) fun a22 => bnd (mh_new (mh_setR s19 7 3 a0 (some a17)) 1) fun s23 => calA (f_DR_init N a22 s23) fun s24 => chk (hT s24 a0 = 15) <| tkA 1 3 <| bnd (hX (mh_setR s24 7 4 a0 (some a22))) fun a27 => bnd (mh_new (mh_setR s24 7 4 a0 (some a22)) 3) fun s28 => chk (hT s28 a0 = 15) <| rfO (hR s28 7 3 a0) fun b30 => rfO (hR s28 7 4 a0) fun b31 => calA (f_PA_init N a27 b30 b31 s28) fun s32 => chk (hT s32 a0 = 15) <| tkA 1 5 <| bnd (hX (mh_setR s32 7 5 a0 (some a27))) fun a35 => bnd (mh_new (mh_setR s32 7 5 a0 (some a27)) 2) fun s36 => calA (f_NA_init N a35 s36) fun s37 => chk (hT s37 a0 = 15) <| tkA 1 3 <| bnd (hX (mh_setR s37 7 6 a0 (some a35))) fun a40 => bnd (mh_new (mh_setR s37 7 6 a0 (some a35)) 6) fun s41 => chk (hT s41 a0 = 15) <| rfO (hR s41 7 6 a0) fun b43 => calA (f_WR_init N a40 b43 s41) fun s44 => chk (hT s44 a0 = 15) <| chk (¬ (2 : Int32) < 0 ∧ Int32.toNatClampNeg 2 ≤ 100000) <| tkA 1 (Int32.toNatClampNeg 2) <| bnd (hX (mh_setR s44 7 7 a0 (some a40))) fun a48 => bnd (mh_arr (mh_setR s44 7 7 a0 (some a40)) 2 (Int32.toNatClampNeg 2)) fun s49 => chk (hT s49 a0 = 15) <| k_PR_init_123 N N a0 0 ((mh_setR s49 7 8 a0 (some a48)))
theorem c_PR_init {g : mv_G} {N : Nat} {a0 : Nat} {σ : mh_H} {r : mh_H × Nat × Nat} (h : f_PR_init N a0 σ = some r) : mv_Met g M_PR_init 3 62 r.2.1 r.2.2 [.ref a0] σ (fun oc τ => τ = r.1 ∧ oc = .returned none) := by
  have key : ∀ cb sb : Nat, r.2.1 ≤ cb → r.2.2 ≤ sb → mv_V g M_PR_init 3 62 cb sb 0 [some (.ref a0), none] [] σ (fun oc τ => τ = r.1 ∧ oc = .returned none) := by
    intro cb sb hc hs
    unfold f_PR_init at h
    refine vr_aload_n d_PR_init_0 rfl rfl ?_
    refine vr_objInit d_PR_init_1 w_26 w_27 w_28 (by decide) (Nat.le_of_ble_eq_true rfl) ?_
    refine vr_aload_n d_PR_init_4 rfl rfl ?_
    obtain ⟨ru1, xu1, yu1, hhu1, hz⟩ := l_tkA h
    clear h
    cases hz
    have h := hhu1
    have h1u1 : 1 ≤ cb := by have hz : xu1 + 1 ≤ cb := hc; omega
    have h2u1 : 4 ≤ sb := by have hz : yu1 + 4 ≤ sb := hs; omega
    replace hc : xu1 ≤ cb - 1 := by have hz : xu1 + 1 ≤ cb := hc; omega
    replace hs : yu1 ≤ sb - 4 := by have hz : yu1 + 4 ≤ sb := hs; omega
    refine vr_new (k := 0) d_PR_init_5 rfl w_29 w_30 w_2 h1u1 h2u1 df_0 ?_
    obtain ⟨a2, ea2, h⟩ := l_bnd h
    refine vr_nmA ea2 ?_
    obtain ⟨s3, es3, h⟩ := l_bnd h
    refine vr_nmS es3 ?_
    refine vr_dup d_PR_init_8 rfl ?_
    refine vr_sipush 8000 d_PR_init_9 (by decide) ?_
    obtain ⟨s4, c4, n4, ev4, r4, x4, y4, hh4, hz⟩ := l_calA h
    clear h
    cases hz
    have h := hh4
    have h14 : c4 ≤ (cb - 1) := by have hz : x4 + c4 ≤ (cb - 1) := hc; omega
    have h24 : n4 ≤ (sb - 4) := by have hz : y4 + n4 ≤ (sb - 4) := hs; omega
    replace hc : x4 ≤ (cb - 1) - c4 := by have hz : x4 + c4 ≤ (cb - 1) := hc; omega
    replace hs : y4 ≤ (sb - 4) - n4 := by have hz : y4 + n4 ≤ (sb - 4) := hs; omega
    refine mh_callN [.int 8000] d_PR_init_12 C_PR_11 (c_BR_init ev4) rfl rfl (Nat.le_of_ble_eq_true rfl) (by decide) (Nat.le_of_ble_eq_true rfl) h14 h24 ?_
    have q5 := (l_chk h).1
    replace h := (l_chk h).2
    refine vr_putR d_PR_init_15 W_PR_init_14 rfl rfl rfl q5 ?_
    refine vr_aload_n d_PR_init_18 rfl rfl ?_
    obtain ⟨ru6, xu6, yu6, hhu6, hz⟩ := l_tkA h
    clear h
    cases hz
    have h := hhu6
    have h1u6 : 1 ≤ ((cb - 1) - c4) := by have hz : xu6 + 1 ≤ ((cb - 1) - c4) := hc; omega
    have h2u6 : 4 ≤ ((sb - 4) - n4) := by have hz : yu6 + 4 ≤ ((sb - 4) - n4) := hs; omega
    replace hc : xu6 ≤ ((cb - 1) - c4) - 1 := by have hz : xu6 + 1 ≤ ((cb - 1) - c4) := hc; omega
    replace hs : yu6 ≤ ((sb - 4) - n4) - 4 := by have hz : yu6 + 4 ≤ ((sb - 4) - n4) := hs; omega
    refine vr_new (k := 0) d_PR_init_19 rfl w_29 w_30 w_2 h1u6 h2u6 df_0 ?_
    obtain ⟨a7, ea7, h⟩ := l_bnd h
    refine vr_nmA ea7 ?_
    obtain ⟨s8, es8, h⟩ := l_bnd h
    refine vr_nmS es8 ?_
    refine vr_dup d_PR_init_22 rfl ?_
    refine vr_sipush 8000 d_PR_init_23 (by decide) ?_
    obtain ⟨s9, c9, n9, ev9, r9, x9, y9, hh9, hz⟩ := l_calA h
    clear h
    cases hz
    have h := hh9
    have h19 : c9 ≤ (((cb - 1) - c4) - 1) := by have hz : x9 + c9 ≤ (((cb - 1) - c4) - 1) := hc; omega
    have h29 : n9 ≤ (((sb - 4) - n4) - 4) := by have hz : y9 + n9 ≤ (((sb - 4) - n4) - 4) := hs; omega
    replace hc : x9 ≤ (((cb - 1) - c4) - 1) - c9 := by have hz : x9 + c9 ≤ (((cb - 1) - c4) - 1) := hc; omega
    replace hs : y9 ≤ (((sb - 4) - n4) - 4) - n9 := by have hz : y9 + n9 ≤ (((sb - 4) - n4) - 4) := hs; omega
    refine mh_callN [.int 8000] d_PR_init_26 C_PR_11 (c_BR_init ev9) rfl rfl (Nat.le_of_ble_eq_true rfl) (by decide) (Nat.le_of_ble_eq_true rfl) h19 h29 ?_
    have q10 := (l_chk h).1
    replace h := (l_chk h).2
    refine vr_putR d_PR_init_29 W_PR_init_18 rfl rfl rfl q10 ?_
    refine vr_aload_n d_PR_init_32 rfl rfl ?_
    obtain ⟨ru11, xu11, yu11, hhu11, hz⟩ := l_tkA h
    clear h
    cases hz
    have h := hhu11
    have h1u11 : 1 ≤ ((((cb - 1) - c4) - 1) - c9) := by have hz : xu11 + 1 ≤ ((((cb - 1) - c4) - 1) - c9) := hc; omega
    have h2u11 : 4 ≤ ((((sb - 4) - n4) - 4) - n9) := by have hz : yu11 + 4 ≤ ((((sb - 4) - n4) - 4) - n9) := hs; omega
    replace hc : xu11 ≤ ((((cb - 1) - c4) - 1) - c9) - 1 := by have hz : xu11 + 1 ≤ ((((cb - 1) - c4) - 1) - c9) := hc; omega
    replace hs : yu11 ≤ ((((sb - 4) - n4) - 4) - n9) - 4 := by have hz : yu11 + 4 ≤ ((((sb - 4) - n4) - 4) - n9) := hs; omega
    refine vr_new (k := 0) d_PR_init_33 rfl w_29 w_30 w_2 h1u11 h2u11 df_0 ?_
    obtain ⟨a12, ea12, h⟩ := l_bnd h
    refine vr_nmA ea12 ?_
    obtain ⟨s13, es13, h⟩ := l_bnd h
    refine vr_nmS es13 ?_
    refine vr_dup d_PR_init_36 rfl ?_
    refine vr_sipush 8000 d_PR_init_37 (by decide) ?_
    obtain ⟨s14, c14, n14, ev14, r14, x14, y14, hh14, hz⟩ := l_calA h
    clear h
    cases hz
    have h := hh14
    have h114 : c14 ≤ (((((cb - 1) - c4) - 1) - c9) - 1) := by have hz : x14 + c14 ≤ (((((cb - 1) - c4) - 1) - c9) - 1) := hc; omega
    have h214 : n14 ≤ (((((sb - 4) - n4) - 4) - n9) - 4) := by have hz : y14 + n14 ≤ (((((sb - 4) - n4) - 4) - n9) - 4) := hs; omega
    replace hc : x14 ≤ (((((cb - 1) - c4) - 1) - c9) - 1) - c14 := by have hz : x14 + c14 ≤ (((((cb - 1) - c4) - 1) - c9) - 1) := hc; omega
    replace hs : y14 ≤ (((((sb - 4) - n4) - 4) - n9) - 4) - n14 := by have hz : y14 + n14 ≤ (((((sb - 4) - n4) - 4) - n9) - 4) := hs; omega
    refine mh_callN [.int 8000] d_PR_init_40 C_PR_11 (c_BR_init ev14) rfl rfl (Nat.le_of_ble_eq_true rfl) (by decide) (Nat.le_of_ble_eq_true rfl) h114 h214 ?_
    have q15 := (l_chk h).1
    replace h := (l_chk h).2
    refine vr_putR d_PR_init_43 W_PR_init_21 rfl rfl rfl q15 ?_
    refine vr_aload_n d_PR_init_46 rfl rfl ?_
    obtain ⟨ru16, xu16, yu16, hhu16, hz⟩ := l_tkA h
    clear h
    cases hz
    have h := hhu16
    have h1u16 : 1 ≤ ((((((cb - 1) - c4) - 1) - c9) - 1) - c14) := by have hz : xu16 + 1 ≤ ((((((cb - 1) - c4) - 1) - c9) - 1) - c14) := hc; omega
    have h2u16 : 6 ≤ ((((((sb - 4) - n4) - 4) - n9) - 4) - n14) := by have hz : yu16 + 6 ≤ ((((((sb - 4) - n4) - 4) - n9) - 4) - n14) := hs; omega
    replace hc : xu16 ≤ ((((((cb - 1) - c4) - 1) - c9) - 1) - c14) - 1 := by have hz : xu16 + 1 ≤ ((((((cb - 1) - c4) - 1) - c9) - 1) - c14) := hc; omega
    replace hs : yu16 ≤ ((((((sb - 4) - n4) - 4) - n9) - 4) - n14) - 6 := by have hz : yu16 + 6 ≤ ((((((sb - 4) - n4) - 4) - n9) - 4) - n14) := hs; omega
    refine vr_new (k := 4) d_PR_init_47 rfl w_55 w_56 w_3 h1u16 h2u16 df_4 ?_
    obtain ⟨a17, ea17, h⟩ := l_bnd h
    refine vr_nmA ea17 ?_
    obtain ⟨s18, es18, h⟩ := l_bnd h
    refine vr_nmS es18 ?_
    refine vr_dup d_PR_init_50 rfl ?_
    obtain ⟨s19, c19, n19, ev19, r19, x19, y19, hh19, hz⟩ := l_calA h
    clear h
    cases hz
    have h := hh19
    have h119 : c19 ≤ (((((((cb - 1) - c4) - 1) - c9) - 1) - c14) - 1) := by have hz : x19 + c19 ≤ (((((((cb - 1) - c4) - 1) - c9) - 1) - c14) - 1) := hc; omega
    have h219 : n19 ≤ (((((((sb - 4) - n4) - 4) - n9) - 4) - n14) - 6) := by have hz : y19 + n19 ≤ (((((((sb - 4) - n4) - 4) - n9) - 4) - n14) - 6) := hs; omega
    replace hc : x19 ≤ (((((((cb - 1) - c4) - 1) - c9) - 1) - c14) - 1) - c19 := by have hz : x19 + c19 ≤ (((((((cb - 1) - c4) - 1) - c9) - 1) - c14) - 1) := hc; omega
    replace hs : y19 ≤ (((((((sb - 4) - n4) - 4) - n9) - 4) - n14) - 6) - n19 := by have hz : y19 + n19 ≤ (((((((sb - 4) - n4) - 4) - n9) - 4) - n14) - 6) := hs; omega
    refine mh_callN [] d_PR_init_51 C_PR_26 (c_TO_init ev19) rfl rfl (Nat.le_of_ble_eq_true rfl) (by decide) (Nat.le_of_ble_eq_true rfl) h119 h219 ?_
    have q20 := (l_chk h).1
    replace h := (l_chk h).2
    refine vr_putR d_PR_init_54 W_PR_init_27 rfl rfl rfl q20 ?_
    refine vr_aload_n d_PR_init_57 rfl rfl ?_
    obtain ⟨ru21, xu21, yu21, hhu21, hz⟩ := l_tkA h
    clear h
    cases hz
    have h := hhu21
    have h1u21 : 1 ≤ ((((((((cb - 1) - c4) - 1) - c9) - 1) - c14) - 1) - c19) := by have hz : xu21 + 1 ≤ ((((((((cb - 1) - c4) - 1) - c9) - 1) - c14) - 1) - c19) := hc; omega
    have h2u21 : 5 ≤ ((((((((sb - 4) - n4) - 4) - n9) - 4) - n14) - 6) - n19) := by have hz : yu21 + 5 ≤ ((((((((sb - 4) - n4) - 4) - n9) - 4) - n14) - 6) - n19) := hs; omega
    replace hc : xu21 ≤ ((((((((cb - 1) - c4) - 1) - c9) - 1) - c14) - 1) - c19) - 1 := by have hz : xu21 + 1 ≤ ((((((((cb - 1) - c4) - 1) - c9) - 1) - c14) - 1) - c19) := hc; omega
    replace hs : yu21 ≤ ((((((((sb - 4) - n4) - 4) - n9) - 4) - n14) - 6) - n19) - 5 := by have hz : yu21 + 5 ≤ ((((((((sb - 4) - n4) - 4) - n9) - 4) - n14) - 6) - n19) := hs; omega
    refine vr_new (k := 1) d_PR_init_58 rfl w_83 w_84 w_4 h1u21 h2u21 df_1 ?_
    obtain ⟨a22, ea22, h⟩ := l_bnd h
    refine vr_nmA ea22 ?_
    obtain ⟨s23, es23, h⟩ := l_bnd h
    refine vr_nmS es23 ?_
    refine vr_dup d_PR_init_61 rfl ?_
    obtain ⟨s24, c24, n24, ev24, r24, x24, y24, hh24, hz⟩ := l_calA h
    clear h
    cases hz
    have h := hh24
    have h124 : c24 ≤ (((((((((cb - 1) - c4) - 1) - c9) - 1) - c14) - 1) - c19) - 1) := by have hz : x24 + c24 ≤ (((((((((cb - 1) - c4) - 1) - c9) - 1) - c14) - 1) - c19) - 1) := hc; omega
    have h224 : n24 ≤ (((((((((sb - 4) - n4) - 4) - n9) - 4) - n14) - 6) - n19) - 5) := by have hz : y24 + n24 ≤ (((((((((sb - 4) - n4) - 4) - n9) - 4) - n14) - 6) - n19) - 5) := hs; omega
    replace hc : x24 ≤ (((((((((cb - 1) - c4) - 1) - c9) - 1) - c14) - 1) - c19) - 1) - c24 := by have hz : x24 + c24 ≤ (((((((((cb - 1) - c4) - 1) - c9) - 1) - c14) - 1) - c19) - 1) := hc; omega
    replace hs : y24 ≤ (((((((((sb - 4) - n4) - 4) - n9) - 4) - n14) - 6) - n19) - 5) - n24 := by have hz : y24 + n24 ≤ (((((((((sb - 4) - n4) - 4) - n9) - 4) - n14) - 6) - n19) - 5) := hs; omega
    refine mh_callN [] d_PR_init_62 C_PR_33 (c_DR_init ev24) rfl rfl (Nat.le_of_ble_eq_true rfl) (by decide) (Nat.le_of_ble_eq_true rfl) h124 h224 ?_
    have q25 := (l_chk h).1
    replace h := (l_chk h).2
    refine vr_putR d_PR_init_65 W_PR_init_34 rfl rfl rfl q25 ?_
    refine vr_aload_n d_PR_init_68 rfl rfl ?_
    obtain ⟨ru26, xu26, yu26, hhu26, hz⟩ := l_tkA h
    clear h
    cases hz
    have h := hhu26
    have h1u26 : 1 ≤ ((((((((((cb - 1) - c4) - 1) - c9) - 1) - c14) - 1) - c19) - 1) - c24) := by have hz : xu26 + 1 ≤ ((((((((((cb - 1) - c4) - 1) - c9) - 1) - c14) - 1) - c19) - 1) - c24) := hc; omega
    have h2u26 : 3 ≤ ((((((((((sb - 4) - n4) - 4) - n9) - 4) - n14) - 6) - n19) - 5) - n24) := by have hz : yu26 + 3 ≤ ((((((((((sb - 4) - n4) - 4) - n9) - 4) - n14) - 6) - n19) - 5) - n24) := hs; omega
    replace hc : xu26 ≤ ((((((((((cb - 1) - c4) - 1) - c9) - 1) - c14) - 1) - c19) - 1) - c24) - 1 := by have hz : xu26 + 1 ≤ ((((((((((cb - 1) - c4) - 1) - c9) - 1) - c14) - 1) - c19) - 1) - c24) := hc; omega
    replace hs : yu26 ≤ ((((((((((sb - 4) - n4) - 4) - n9) - 4) - n14) - 6) - n19) - 5) - n24) - 3 := by have hz : yu26 + 3 ≤ ((((((((((sb - 4) - n4) - 4) - n9) - 4) - n14) - 6) - n19) - 5) - n24) := hs; omega
    refine vr_new (k := 3) d_PR_init_69 rfl w_111 w_112 w_5 h1u26 h2u26 df_3 ?_
    obtain ⟨a27, ea27, h⟩ := l_bnd h
    refine vr_nmA ea27 ?_
    obtain ⟨s28, es28, h⟩ := l_bnd h
    refine vr_nmS es28 ?_
    refine vr_dup d_PR_init_72 rfl ?_
    refine vr_aload_n d_PR_init_73 rfl rfl ?_
    have q29 := (l_chk h).1
    replace h := (l_chk h).2
    obtain ⟨b30, eb30, h⟩ := l_rf h
    refine vr_getR (b := b30) d_PR_init_74 F_PR_27 rfl q29 eb30 ?_
    refine vr_aload_n d_PR_init_77 rfl rfl ?_
    obtain ⟨b31, eb31, h⟩ := l_rf h
    refine vr_getR (b := b31) d_PR_init_78 F_PR_34 rfl q29 eb31 ?_
    obtain ⟨s32, c32, n32, ev32, r32, x32, y32, hh32, hz⟩ := l_calA h
    clear h
    cases hz
    have h := hh32
    have h132 : c32 ≤ (((((((((((cb - 1) - c4) - 1) - c9) - 1) - c14) - 1) - c19) - 1) - c24) - 1) := by have hz : x32 + c32 ≤ (((((((((((cb - 1) - c4) - 1) - c9) - 1) - c14) - 1) - c19) - 1) - c24) - 1) := hc; omega
    have h232 : n32 ≤ (((((((((((sb - 4) - n4) - 4) - n9) - 4) - n14) - 6) - n19) - 5) - n24) - 3) := by have hz : y32 + n32 ≤ (((((((((((sb - 4) - n4) - 4) - n9) - 4) - n14) - 6) - n19) - 5) - n24) - 3) := hs; omega
    replace hc : x32 ≤ (((((((((((cb - 1) - c4) - 1) - c9) - 1) - c14) - 1) - c19) - 1) - c24) - 1) - c32 := by have hz : x32 + c32 ≤ (((((((((((cb - 1) - c4) - 1) - c9) - 1) - c14) - 1) - c19) - 1) - c24) - 1) := hc; omega
    replace hs : y32 ≤ (((((((((((sb - 4) - n4) - 4) - n9) - 4) - n14) - 6) - n19) - 5) - n24) - 3) - n32 := by have hz : y32 + n32 ≤ (((((((((((sb - 4) - n4) - 4) - n9) - 4) - n14) - 6) - n19) - 5) - n24) - 3) := hs; omega
    refine mh_callN [.ref b30, .ref b31] d_PR_init_81 C_PR_40 (c_PA_init ev32) rfl rfl (Nat.le_of_ble_eq_true rfl) (by decide) (Nat.le_of_ble_eq_true rfl) h132 h232 ?_
    have q33 := (l_chk h).1
    replace h := (l_chk h).2
    refine vr_putR d_PR_init_84 W_PR_init_43 rfl rfl rfl q33 ?_
    refine vr_aload_n d_PR_init_87 rfl rfl ?_
    obtain ⟨ru34, xu34, yu34, hhu34, hz⟩ := l_tkA h
    clear h
    cases hz
    have h := hhu34
    have h1u34 : 1 ≤ ((((((((((((cb - 1) - c4) - 1) - c9) - 1) - c14) - 1) - c19) - 1) - c24) - 1) - c32) := by have hz : xu34 + 1 ≤ ((((((((((((cb - 1) - c4) - 1) - c9) - 1) - c14) - 1) - c19) - 1) - c24) - 1) - c32) := hc; omega
    have h2u34 : 5 ≤ ((((((((((((sb - 4) - n4) - 4) - n9) - 4) - n14) - 6) - n19) - 5) - n24) - 3) - n32) := by have hz : yu34 + 5 ≤ ((((((((((((sb - 4) - n4) - 4) - n9) - 4) - n14) - 6) - n19) - 5) - n24) - 3) - n32) := hs; omega
    replace hc : xu34 ≤ ((((((((((((cb - 1) - c4) - 1) - c9) - 1) - c14) - 1) - c19) - 1) - c24) - 1) - c32) - 1 := by have hz : xu34 + 1 ≤ ((((((((((((cb - 1) - c4) - 1) - c9) - 1) - c14) - 1) - c19) - 1) - c24) - 1) - c32) := hc; omega
    replace hs : yu34 ≤ ((((((((((((sb - 4) - n4) - 4) - n9) - 4) - n14) - 6) - n19) - 5) - n24) - 3) - n32) - 5 := by have hz : yu34 + 5 ≤ ((((((((((((sb - 4) - n4) - 4) - n9) - 4) - n14) - 6) - n19) - 5) - n24) - 3) - n32) := hs; omega
    refine vr_new (k := 2) d_PR_init_88 rfl w_127 w_128 w_6 h1u34 h2u34 df_2 ?_
    obtain ⟨a35, ea35, h⟩ := l_bnd h
    refine vr_nmA ea35 ?_
    obtain ⟨s36, es36, h⟩ := l_bnd h
    refine vr_nmS es36 ?_
    refine vr_dup d_PR_init_91 rfl ?_
    obtain ⟨s37, c37, n37, ev37, r37, x37, y37, hh37, hz⟩ := l_calA h
    clear h
    cases hz
    have h := hh37
    have h137 : c37 ≤ (((((((((((((cb - 1) - c4) - 1) - c9) - 1) - c14) - 1) - c19) - 1) - c24) - 1) - c32) - 1) := by have hz : x37 + c37 ≤ (((((((((((((cb - 1) - c4) - 1) - c9) - 1) - c14) - 1) - c19) - 1) - c24) - 1) - c32) - 1) := hc; omega
    have h237 : n37 ≤ (((((((((((((sb - 4) - n4) - 4) - n9) - 4) - n14) - 6) - n19) - 5) - n24) - 3) - n32) - 5) := by have hz : y37 + n37 ≤ (((((((((((((sb - 4) - n4) - 4) - n9) - 4) - n14) - 6) - n19) - 5) - n24) - 3) - n32) - 5) := hs; omega
    replace hc : x37 ≤ (((((((((((((cb - 1) - c4) - 1) - c9) - 1) - c14) - 1) - c19) - 1) - c24) - 1) - c32) - 1) - c37 := by have hz : x37 + c37 ≤ (((((((((((((cb - 1) - c4) - 1) - c9) - 1) - c14) - 1) - c19) - 1) - c24) - 1) - c32) - 1) := hc; omega
    replace hs : y37 ≤ (((((((((((((sb - 4) - n4) - 4) - n9) - 4) - n14) - 6) - n19) - 5) - n24) - 3) - n32) - 5) - n37 := by have hz : y37 + n37 ≤ (((((((((((((sb - 4) - n4) - 4) - n9) - 4) - n14) - 6) - n19) - 5) - n24) - 3) - n32) - 5) := hs; omega
    refine mh_callN [] d_PR_init_92 C_PR_49 (c_NA_init ev37) rfl rfl (Nat.le_of_ble_eq_true rfl) (by decide) (Nat.le_of_ble_eq_true rfl) h137 h237 ?_
    have q38 := (l_chk h).1
    replace h := (l_chk h).2
    refine vr_putR d_PR_init_95 W_PR_init_50 rfl rfl rfl q38 ?_
    refine vr_aload_n d_PR_init_98 rfl rfl ?_
    obtain ⟨ru39, xu39, yu39, hhu39, hz⟩ := l_tkA h
    clear h
    cases hz
    have h := hhu39
    have h1u39 : 1 ≤ ((((((((((((((cb - 1) - c4) - 1) - c9) - 1) - c14) - 1) - c19) - 1) - c24) - 1) - c32) - 1) - c37) := by have hz : xu39 + 1 ≤ ((((((((((((((cb - 1) - c4) - 1) - c9) - 1) - c14) - 1) - c19) - 1) - c24) - 1) - c32) - 1) - c37) := hc; omega
    have h2u39 : 3 ≤ ((((((((((((((sb - 4) - n4) - 4) - n9) - 4) - n14) - 6) - n19) - 5) - n24) - 3) - n32) - 5) - n37) := by have hz : yu39 + 3 ≤ ((((((((((((((sb - 4) - n4) - 4) - n9) - 4) - n14) - 6) - n19) - 5) - n24) - 3) - n32) - 5) - n37) := hs; omega
    replace hc : xu39 ≤ ((((((((((((((cb - 1) - c4) - 1) - c9) - 1) - c14) - 1) - c19) - 1) - c24) - 1) - c32) - 1) - c37) - 1 := by have hz : xu39 + 1 ≤ ((((((((((((((cb - 1) - c4) - 1) - c9) - 1) - c14) - 1) - c19) - 1) - c24) - 1) - c32) - 1) - c37) := hc; omega
    replace hs : yu39 ≤ ((((((((((((((sb - 4) - n4) - 4) - n9) - 4) - n14) - 6) - n19) - 5) - n24) - 3) - n32) - 5) - n37) - 3 := by have hz : yu39 + 3 ≤ ((((((((((((((sb - 4) - n4) - 4) - n9) - 4) - n14) - 6) - n19) - 5) - n24) - 3) - n32) - 5) - n37) := hs; omega
    refine vr_new (k := 6) d_PR_init_99 rfl w_155 w_156 w_8 h1u39 h2u39 df_6 ?_
    obtain ⟨a40, ea40, h⟩ := l_bnd h
    refine vr_nmA ea40 ?_
    obtain ⟨s41, es41, h⟩ := l_bnd h
    refine vr_nmS es41 ?_
    refine vr_dup d_PR_init_102 rfl ?_
    refine vr_aload_n d_PR_init_103 rfl rfl ?_
    have q42 := (l_chk h).1
    replace h := (l_chk h).2
    obtain ⟨b43, eb43, h⟩ := l_rf h
    refine vr_getR (b := b43) d_PR_init_104 F_PR_50 rfl q42 eb43 ?_
    obtain ⟨s44, c44, n44, ev44, r44, x44, y44, hh44, hz⟩ := l_calA h
    clear h
    cases hz
    have h := hh44
    have h144 : c44 ≤ (((((((((((((((cb - 1) - c4) - 1) - c9) - 1) - c14) - 1) - c19) - 1) - c24) - 1) - c32) - 1) - c37) - 1) := by have hz : x44 + c44 ≤ (((((((((((((((cb - 1) - c4) - 1) - c9) - 1) - c14) - 1) - c19) - 1) - c24) - 1) - c32) - 1) - c37) - 1) := hc; omega
    have h244 : n44 ≤ (((((((((((((((sb - 4) - n4) - 4) - n9) - 4) - n14) - 6) - n19) - 5) - n24) - 3) - n32) - 5) - n37) - 3) := by have hz : y44 + n44 ≤ (((((((((((((((sb - 4) - n4) - 4) - n9) - 4) - n14) - 6) - n19) - 5) - n24) - 3) - n32) - 5) - n37) - 3) := hs; omega
    replace hc : x44 ≤ (((((((((((((((cb - 1) - c4) - 1) - c9) - 1) - c14) - 1) - c19) - 1) - c24) - 1) - c32) - 1) - c37) - 1) - c44 := by have hz : x44 + c44 ≤ (((((((((((((((cb - 1) - c4) - 1) - c9) - 1) - c14) - 1) - c19) - 1) - c24) - 1) - c32) - 1) - c37) - 1) := hc; omega
    replace hs : y44 ≤ (((((((((((((((sb - 4) - n4) - 4) - n9) - 4) - n14) - 6) - n19) - 5) - n24) - 3) - n32) - 5) - n37) - 3) - n44 := by have hz : y44 + n44 ≤ (((((((((((((((sb - 4) - n4) - 4) - n9) - 4) - n14) - 6) - n19) - 5) - n24) - 3) - n32) - 5) - n37) - 3) := hs; omega
    refine mh_callN [.ref b43] d_PR_init_107 C_PR_56 (c_WR_init ev44) rfl rfl (Nat.le_of_ble_eq_true rfl) (by decide) (Nat.le_of_ble_eq_true rfl) h144 h244 ?_
    have q45 := (l_chk h).1
    replace h := (l_chk h).2
    refine vr_putR d_PR_init_110 W_PR_init_59 rfl rfl rfl q45 ?_
    refine vr_aload_n d_PR_init_113 rfl rfl ?_
    refine vr_iconst 2 d_PR_init_114 (by decide) ?_
    have q46 := (l_chk h).1
    replace h := (l_chk h).2
    obtain ⟨ru47, xu47, yu47, hhu47, hz⟩ := l_tkA h
    clear h
    cases hz
    have h := hhu47
    have h1u47 : 1 ≤ ((((((((((((((((cb - 1) - c4) - 1) - c9) - 1) - c14) - 1) - c19) - 1) - c24) - 1) - c32) - 1) - c37) - 1) - c44) := by have hz : xu47 + 1 ≤ ((((((((((((((((cb - 1) - c4) - 1) - c9) - 1) - c14) - 1) - c19) - 1) - c24) - 1) - c32) - 1) - c37) - 1) - c44) := hc; omega
    have h2u47 : (Int32.toNatClampNeg 2) ≤ ((((((((((((((((sb - 4) - n4) - 4) - n9) - 4) - n14) - 6) - n19) - 5) - n24) - 3) - n32) - 5) - n37) - 3) - n44) := by have hz : yu47 + (Int32.toNatClampNeg 2) ≤ ((((((((((((((((sb - 4) - n4) - 4) - n9) - 4) - n14) - 6) - n19) - 5) - n24) - 3) - n32) - 5) - n37) - 3) - n44) := hs; omega
    replace hc : xu47 ≤ ((((((((((((((((cb - 1) - c4) - 1) - c9) - 1) - c14) - 1) - c19) - 1) - c24) - 1) - c32) - 1) - c37) - 1) - c44) - 1 := by have hz : xu47 + 1 ≤ ((((((((((((((((cb - 1) - c4) - 1) - c9) - 1) - c14) - 1) - c19) - 1) - c24) - 1) - c32) - 1) - c37) - 1) - c44) := hc; omega
    replace hs : yu47 ≤ ((((((((((((((((sb - 4) - n4) - 4) - n9) - 4) - n14) - 6) - n19) - 5) - n24) - 3) - n32) - 5) - n37) - 3) - n44) - (Int32.toNatClampNeg 2) := by have hz : yu47 + (Int32.toNatClampNeg 2) ≤ ((((((((((((((((sb - 4) - n4) - 4) - n9) - 4) - n14) - 6) - n19) - 5) - n24) - 3) - n32) - 5) - n37) - 3) - n44) := hs; omega
    refine vr_anew (t := 2) (n := (Int32.toNatClampNeg 2)) d_PR_init_115 w_210 (by simp [mk_O]) rfl q46.1 rfl (by have := q46.2; omega) h1u47 h2u47 ?_
    obtain ⟨a48, ea48, h⟩ := l_bnd h
    refine vr_nmA ea48 ?_
    obtain ⟨s49, es49, h⟩ := l_bnd h
    refine vr_nmS es49 ?_
    have q50 := (l_chk h).1
    replace h := (l_chk h).2
    refine vr_putR d_PR_init_118 W_PR_init_65 rfl rfl rfl q50 ?_
    refine vr_iconst 0 d_PR_init_121 (by decide) ?_
    refine vr_istore_n (L' := [some (.ref a0), some (.int 0)]) d_PR_init_122 rfl (by decide) rfl ?_
    exact mv_drop (q_PR_init_123 N _ _ _ _ h _ _ hc hs) (And.intro rfl (And.intro rfl trivial))
  exact mv_entry (L := [some (.ref a0), none]) rfl rfl (Nat.le_of_ble_eq_true rfl) rfl (key _ _ (Nat.le_refl _) (Nat.le_refl _))

def f_PR_hasTree (N : Nat) (a0 : Nat) (x1 : Int32) (σ : mh_H) : Option (Int32 × mh_H) := if x1 < 0 then (some (0, σ)) else (if 2 ≤ x1 then (some (0, σ)) else (some (1, σ)))
theorem c_PR_hasTree {g : mv_G} {N : Nat} {a0 : Nat} {x1 : Int32} {σ : mh_H} {r : Int32 × mh_H} (h : f_PR_hasTree N a0 x1 σ = some r) : mv_Met g M_PR_hasTree 0 0 0 0 [.ref a0, .int x1] σ (fun oc τ => τ = r.2 ∧ oc = .returned (some (.int r.1))) := by
  refine mv_entry (L := [some (.ref a0), some (.int x1)]) rfl rfl (Nat.le_of_ble_eq_true rfl) rfl ?_
  unfold f_PR_hasTree at h
  refine vr_iload_n d_PR_hasTree_0 rfl rfl ?_
  refine vr_if_lt (tgt := 13) d_PR_hasTree_1 (by decide) (fun c1 => ?_) (fun c1 => ?_)
  · replace h := l_ifp c1 h
    refine vr_iconst 0 d_PR_hasTree_13 (by decide) ?_
    cases h
    exact vr_iret d_PR_hasTree_14 rfl rfl ⟨rfl, rfl⟩
  · replace h := l_ifn c1 h
    refine vr_iload_n d_PR_hasTree_4 rfl rfl ?_
    refine vr_iconst 2 d_PR_hasTree_5 (by decide) ?_
    refine vr_icmp_ge (tgt := 13) d_PR_hasTree_6 (by decide) (fun c6 => ?_) (fun c6 => ?_)
    · replace h := l_ifp c6 h
      refine vr_iconst 0 d_PR_hasTree_13 (by decide) ?_
      cases h
      exact vr_iret d_PR_hasTree_14 rfl rfl ⟨rfl, rfl⟩
    · replace h := l_ifn c6 h
      refine vr_iconst 1 d_PR_hasTree_9 (by decide) ?_
      refine vr_goto (tgt := 14) d_PR_hasTree_10 (by decide) ?_
      cases h
      exact vr_iret d_PR_hasTree_14 rfl rfl ⟨rfl, rfl⟩

def k_PR_numberNames_2 (N : Nat) : Nat → Nat → Nat → Int32 → mh_H → Option (mh_H × Nat × Nat)
  | 0, _, _, _, _ => none
  | n + 1, y0, y1, y2, σ => chk (hT σ y1 = 11) <| if (hI σ 5 0 y1) ≤ y2 then (some (σ, 0, 0)) else (rfO (hR σ 5 1 y1) fun b2 => chk (hT σ b2 = 2) <| chk (ib y2 (hN σ b2)) <| if (hA σ b2 (Int32.toNatClampNeg y2)) = 13 then (rfO (hR σ 5 2 y1) fun b5 => chk (hT σ b5 = 2) <| chk (ib y2 (hN σ b5)) <| bnd ((hA σ b5 (Int32.toNatClampNeg y2))) fun v8 => rfO (hR σ 5 3 y1) fun b9 => chk (hT σ y0 = 15) <| rfO (hR σ 7 6 y0) fun b11 => rfO (hR σ 7 3 y0) fun b12 => chk (hT σ b12 = 9) <| rfO (hR σ 4 0 b12) fun b14 => calI (f_TO_behindWord N b12 v8 σ) fun v15 s15 => chk (hT s15 b11 = 5) <| calAI (f_NA_numberOf N b11 b14 v8 v15 s15) fun v17 s17 => chk (hT s17 b9 = 2) <| chk (ib y2 (hN s17 b9)) <| k_PR_numberNames_2 N n y0 y1 ((y2 + 1)) ((mh_setA s17 b9 (Int32.toNatClampNeg y2) v17))) else (k_PR_numberNames_2 N n y0 y1 ((y2 + 1)) σ))
theorem q_PR_numberNames_2 {g : mv_G} {N : Nat} : ∀ (n : Nat) (y0 : Nat) (y1 : Nat) (y2 : Int32) (σ : mh_H) (r : mh_H × Nat × Nat), k_PR_numberNames_2 N n y0 y1 y2 σ = some r → ∀ cb sb : Nat, r.2.1 ≤ cb → r.2.2 ≤ sb → mv_V g M_PR_numberNames 11 236 cb sb 2 [some (.ref y0), some (.ref y1), some (.int y2), none] [] σ (fun oc τ => τ = r.1 ∧ oc = .returned none) := by
  intro n
  induction n with
  | zero =>
    intro y0 y1 y2 σ r h
    exact absurd h (by simp [k_PR_numberNames_2])
  | succ n ih =>
    intro y0 y1 y2 σ r h cb sb hc hs
    unfold k_PR_numberNames_2 at h
    refine vr_iload_n d_PR_numberNames_2 rfl rfl ?_
    refine vr_aload_n d_PR_numberNames_3 rfl rfl ?_
    have q1 := (l_chk h).1
    replace h := (l_chk h).2
    refine vr_getI d_PR_numberNames_4 F_PR_104 rfl q1 ?_
    refine vr_icmp_ge (tgt := 63) d_PR_numberNames_7 (by decide) (fun c7 => ?_) (fun c7 => ?_)
    · replace h := l_ifp c7 h
      cases h
      exact vr_vret d_PR_numberNames_63 rfl ⟨rfl, rfl⟩
    · replace h := l_ifn c7 h
      refine vr_aload_n d_PR_numberNames_10 rfl rfl ?_
      obtain ⟨b2, eb2, h⟩ := l_rf h
      refine vr_getR (b := b2) d_PR_numberNames_11 F_PR_135 rfl q1 eb2 ?_
      refine vr_iload_n d_PR_numberNames_14 rfl rfl ?_
      have q3 := (l_chk h).1
      replace h := (l_chk h).2
      have q4 := (l_chk h).1
      replace h := (l_chk h).2
      refine vr_iald (t := 0) d_PR_numberNames_15 rfl q3 (ib_in q4) ?_
      refine vr_bipush 13 d_PR_numberNames_16 (by decide) ?_
      refine vr_icmp_ne (tgt := 57) d_PR_numberNames_18 (by decide) (fun c18 => ?_) (fun c18 => ?_)
      · replace h := l_ifn c18 h
        refine vr_iinc (L' := [some (.ref y0), some (.ref y1), some (.int (y2 + 1)), none]) (y2 + 1) d_PR_numberNames_57 (by decide) rfl rfl rfl ?_
        refine vr_goto (tgt := 2) d_PR_numberNames_60 (by decide) ?_
        exact mv_drop (ih _ _ _ _ _ h _ _ hc hs) (And.intro rfl (And.intro rfl (And.intro rfl trivial)))
      · replace h := l_ifp c18 h
        refine vr_aload_n d_PR_numberNames_21 rfl rfl ?_
        obtain ⟨b5, eb5, h⟩ := l_rf h
        refine vr_getR (b := b5) d_PR_numberNames_22 F_PR_141 rfl q1 eb5 ?_
        refine vr_iload_n d_PR_numberNames_25 rfl rfl ?_
        have q6 := (l_chk h).1
        replace h := (l_chk h).2
        have q7 := (l_chk h).1
        replace h := (l_chk h).2
        refine vr_iald (t := 0) d_PR_numberNames_26 rfl q6 (ib_in q7) ?_
        obtain ⟨v8, ev8, h⟩ := l_bnd h
        refine vr_nm ev8 ?_
        refine vr_istore_n (L' := [some (.ref y0), some (.ref y1), some (.int y2), some (.int v8)]) d_PR_numberNames_27 rfl (by decide) rfl ?_
        refine vr_aload_n d_PR_numberNames_28 rfl rfl ?_
        obtain ⟨b9, eb9, h⟩ := l_rf h
        refine vr_getR (b := b9) d_PR_numberNames_29 F_PR_144 rfl q1 eb9 ?_
        refine vr_iload_n d_PR_numberNames_32 rfl rfl ?_
        refine vr_aload_n d_PR_numberNames_33 rfl rfl ?_
        have q10 := (l_chk h).1
        replace h := (l_chk h).2
        obtain ⟨b11, eb11, h⟩ := l_rf h
        refine vr_getR (b := b11) d_PR_numberNames_34 F_PR_50 rfl q10 eb11 ?_
        refine vr_aload_n d_PR_numberNames_37 rfl rfl ?_
        obtain ⟨b12, eb12, h⟩ := l_rf h
        refine vr_getR (b := b12) d_PR_numberNames_38 F_PR_27 rfl q10 eb12 ?_
        have q13 := (l_chk h).1
        replace h := (l_chk h).2
        obtain ⟨b14, eb14, h⟩ := l_rf h
        refine vr_getR (b := b14) d_PR_numberNames_41 F_PR_147 rfl q13 eb14 ?_
        refine vr_iload_n d_PR_numberNames_44 rfl rfl ?_
        refine vr_aload_n d_PR_numberNames_45 rfl rfl ?_
        refine vr_getR (b := b12) d_PR_numberNames_46 F_PR_27 rfl q10 eb12 ?_
        refine vr_iload_n d_PR_numberNames_49 rfl rfl ?_
        obtain ⟨v15, s15, ev15, h⟩ := l_calI h
        refine mh_callI 4 [.int v8] d_PR_numberNames_50 C_PR_150 (c_TO_behindWord ev15) q13 rfl rfl rfl (Nat.le_of_ble_eq_true rfl) (by decide) (Nat.le_of_ble_eq_true rfl) ?_
        have q16 := (l_chk h).1
        replace h := (l_chk h).2
        obtain ⟨v17, s17, c17, n17, ev17, r17, x17, y17, hh17, hz⟩ := l_calAI h
        clear h
        cases hz
        have h := hh17
        have h117 : c17 ≤ cb := by have hz : x17 + c17 ≤ cb := hc; omega
        have h217 : n17 ≤ sb := by have hz : y17 + n17 ≤ sb := hs; omega
        replace hc : x17 ≤ cb - c17 := by have hz : x17 + c17 ≤ cb := hc; omega
        replace hs : y17 ≤ sb - n17 := by have hz : y17 + n17 ≤ sb := hs; omega
        refine mh_callIa 2 [.ref b14, .int v8, .int v15] d_PR_numberNames_53 C_PR_153 (c_NA_numberOf ev17) q16 rfl rfl rfl (Nat.le_of_ble_eq_true rfl) (by decide) (Nat.le_of_ble_eq_true rfl) h117 h217 ?_
        have q18 := (l_chk h).1
        replace h := (l_chk h).2
        have q19 := (l_chk h).1
        replace h := (l_chk h).2
        refine vr_iast (t := 0) d_PR_numberNames_56 rfl q18 (ib_in q19) ?_
        refine vr_iinc (L' := [some (.ref y0), some (.ref y1), some (.int (y2 + 1)), some (.int v8)]) (y2 + 1) d_PR_numberNames_57 (by decide) rfl rfl rfl ?_
        refine vr_goto (tgt := 2) d_PR_numberNames_60 (by decide) ?_
        exact mv_drop (ih _ _ _ _ _ h _ _ hc hs) (And.intro rfl (And.intro rfl (And.intro rfl trivial)))

def f_PR_numberNames (N : Nat) (a0 : Nat) (x1 : Nat) (σ : mh_H) : Option (mh_H × Nat × Nat) := k_PR_numberNames_2 N N a0 x1 0 σ
theorem c_PR_numberNames {g : mv_G} {N : Nat} {a0 : Nat} {x1 : Nat} {σ : mh_H} {r : mh_H × Nat × Nat} (h : f_PR_numberNames N a0 x1 σ = some r) : mv_Met g M_PR_numberNames 11 236 r.2.1 r.2.2 [.ref a0, .ref x1] σ (fun oc τ => τ = r.1 ∧ oc = .returned none) := by
  have key : ∀ cb sb : Nat, r.2.1 ≤ cb → r.2.2 ≤ sb → mv_V g M_PR_numberNames 11 236 cb sb 0 [some (.ref a0), some (.ref x1), none, none] [] σ (fun oc τ => τ = r.1 ∧ oc = .returned none) := by
    intro cb sb hc hs
    unfold f_PR_numberNames at h
    refine vr_iconst 0 d_PR_numberNames_0 (by decide) ?_
    refine vr_istore_n (L' := [some (.ref a0), some (.ref x1), some (.int 0), none]) d_PR_numberNames_1 rfl (by decide) rfl ?_
    exact mv_drop (q_PR_numberNames_2 N _ _ _ _ _ h _ _ hc hs) (And.intro rfl (And.intro rfl (And.intro rfl trivial)))
  exact mv_entry (L := [some (.ref a0), some (.ref x1), none, none]) rfl rfl (Nat.le_of_ble_eq_true rfl) rfl (key _ _ (Nat.le_refl _) (Nat.le_refl _))

def f_PR_feed (N : Nat) (a0 : Nat) (x1 : Int32) (x2 : Int32) (x3 : Int32) (x4 : Int32) (x5 : Int32) (σ : mh_H) : Option ((Int32 × mh_H) × Nat × Nat) := chk (hT σ a0 = 15) <| rfO (hR σ 7 0 a0) fun b2 => chk (hT σ b2 = 1) <| if ((hI σ 0 1 b2) + 20) ≤ 8000 then (calA (f_BR_addFour N b2 x1 σ) fun s4 => chk (hT s4 a0 = 15) <| rfO (hR s4 7 0 a0) fun b6 => chk (hT s4 b6 = 1) <| calA (f_BR_addFour N b6 x2 s4) fun s8 => chk (hT s8 a0 = 15) <| rfO (hR s8 7 0 a0) fun b10 => chk (hT s8 b10 = 1) <| calA (f_BR_addFour N b10 x3 s8) fun s12 => chk (hT s12 a0 = 15) <| rfO (hR s12 7 0 a0) fun b14 => chk (hT s12 b14 = 1) <| calA (f_BR_addFour N b14 x4 s12) fun s16 => chk (hT s16 a0 = 15) <| rfO (hR s16 7 0 a0) fun b18 => chk (hT s16 b18 = 1) <| calA (f_BR_addFour N b18 x5 s16) fun s20 => chk (hT s20 a0 = 15) <| rfO (hR s20 7 0 a0) fun b22 => chk (hT s20 b22 = 1) <| some (((hI s20 0 1 b22), s20), 0, 0)) else (some (((-1), σ), 0, 0))
theorem c_PR_feed {g : mv_G} {N : Nat} {a0 : Nat} {x1 : Int32} {x2 : Int32} {x3 : Int32} {x4 : Int32} {x5 : Int32} {σ : mh_H} {r : (Int32 × mh_H) × Nat × Nat} (h : f_PR_feed N a0 x1 x2 x3 x4 x5 σ = some r) : mv_Met g M_PR_feed 10 205 r.2.1 r.2.2 [.ref a0, .int x1, .int x2, .int x3, .int x4, .int x5] σ (fun oc τ => τ = r.1.2 ∧ oc = .returned (some (.int r.1.1))) := by
  have key : ∀ cb sb : Nat, r.2.1 ≤ cb → r.2.2 ≤ sb → mv_V g M_PR_feed 10 205 cb sb 0 [some (.ref a0), some (.int x1), some (.int x2), some (.int x3), some (.int x4), some (.int x5)] [] σ (fun oc τ => τ = r.1.2 ∧ oc = .returned (some (.int r.1.1))) := by
    intro cb sb hc hs
    unfold f_PR_feed at h
    refine vr_aload_n d_PR_feed_0 rfl rfl ?_
    have q1 := (l_chk h).1
    replace h := (l_chk h).2
    obtain ⟨b2, eb2, h⟩ := l_rf h
    refine vr_getR (b := b2) d_PR_feed_1 F_PR_14 rfl q1 eb2 ?_
    have q3 := (l_chk h).1
    replace h := (l_chk h).2
    refine vr_getI d_PR_feed_4 F_PR_70 rfl q3 ?_
    refine vr_bipush 20 d_PR_feed_7 (by decide) ?_
    refine vr_iadd d_PR_feed_9 ?_
    refine vr_sipush 8000 d_PR_feed_10 (by decide) ?_
    refine vr_icmp_le (tgt := 18) d_PR_feed_13 (by decide) (fun c13 => ?_) (fun c13 => ?_)
    · replace h := l_ifp c13 h
      refine vr_aload_n d_PR_feed_18 rfl rfl ?_
      refine vr_getR (b := b2) d_PR_feed_19 F_PR_14 rfl q1 eb2 ?_
      refine vr_iload_n d_PR_feed_22 rfl rfl ?_
      obtain ⟨s4, c4, n4, ev4, r4, x4, y4, hh4, hz⟩ := l_calA h
      clear h
      cases hz
      have h := hh4
      have h14 : c4 ≤ cb := by have hz : x4 + c4 ≤ cb := hc; omega
      have h24 : n4 ≤ sb := by have hz : y4 + n4 ≤ sb := hs; omega
      replace hc : x4 ≤ cb - c4 := by have hz : x4 + c4 ≤ cb := hc; omega
      replace hs : y4 ≤ sb - n4 := by have hz : y4 + n4 ≤ sb := hs; omega
      refine mh_callUa 0 [.int x1] d_PR_feed_23 C_PR_74 (c_BR_addFour ev4) q3 rfl rfl rfl (Nat.le_of_ble_eq_true rfl) (by decide) (Nat.le_of_ble_eq_true rfl) h14 h24 ?_
      refine vr_aload_n d_PR_feed_26 rfl rfl ?_
      have q5 := (l_chk h).1
      replace h := (l_chk h).2
      obtain ⟨b6, eb6, h⟩ := l_rf h
      refine vr_getR (b := b6) d_PR_feed_27 F_PR_14 rfl q5 eb6 ?_
      refine vr_iload_n d_PR_feed_30 rfl rfl ?_
      have q7 := (l_chk h).1
      replace h := (l_chk h).2
      obtain ⟨s8, c8, n8, ev8, r8, x8, y8, hh8, hz⟩ := l_calA h
      clear h
      cases hz
      have h := hh8
      have h18 : c8 ≤ (cb - c4) := by have hz : x8 + c8 ≤ (cb - c4) := hc; omega
      have h28 : n8 ≤ (sb - n4) := by have hz : y8 + n8 ≤ (sb - n4) := hs; omega
      replace hc : x8 ≤ (cb - c4) - c8 := by have hz : x8 + c8 ≤ (cb - c4) := hc; omega
      replace hs : y8 ≤ (sb - n4) - n8 := by have hz : y8 + n8 ≤ (sb - n4) := hs; omega
      refine mh_callUa 0 [.int x2] d_PR_feed_31 C_PR_74 (c_BR_addFour ev8) q7 rfl rfl rfl (Nat.le_of_ble_eq_true rfl) (by decide) (Nat.le_of_ble_eq_true rfl) h18 h28 ?_
      refine vr_aload_n d_PR_feed_34 rfl rfl ?_
      have q9 := (l_chk h).1
      replace h := (l_chk h).2
      obtain ⟨b10, eb10, h⟩ := l_rf h
      refine vr_getR (b := b10) d_PR_feed_35 F_PR_14 rfl q9 eb10 ?_
      refine vr_iload_n d_PR_feed_38 rfl rfl ?_
      have q11 := (l_chk h).1
      replace h := (l_chk h).2
      obtain ⟨s12, c12, n12, ev12, r12, x12, y12, hh12, hz⟩ := l_calA h
      clear h
      cases hz
      have h := hh12
      have h112 : c12 ≤ ((cb - c4) - c8) := by have hz : x12 + c12 ≤ ((cb - c4) - c8) := hc; omega
      have h212 : n12 ≤ ((sb - n4) - n8) := by have hz : y12 + n12 ≤ ((sb - n4) - n8) := hs; omega
      replace hc : x12 ≤ ((cb - c4) - c8) - c12 := by have hz : x12 + c12 ≤ ((cb - c4) - c8) := hc; omega
      replace hs : y12 ≤ ((sb - n4) - n8) - n12 := by have hz : y12 + n12 ≤ ((sb - n4) - n8) := hs; omega
      refine mh_callUa 0 [.int x3] d_PR_feed_39 C_PR_74 (c_BR_addFour ev12) q11 rfl rfl rfl (Nat.le_of_ble_eq_true rfl) (by decide) (Nat.le_of_ble_eq_true rfl) h112 h212 ?_
      refine vr_aload_n d_PR_feed_42 rfl rfl ?_
      have q13 := (l_chk h).1
      replace h := (l_chk h).2
      obtain ⟨b14, eb14, h⟩ := l_rf h
      refine vr_getR (b := b14) d_PR_feed_43 F_PR_14 rfl q13 eb14 ?_
      refine vr_iload d_PR_feed_46 rfl ?_
      have q15 := (l_chk h).1
      replace h := (l_chk h).2
      obtain ⟨s16, c16, n16, ev16, r16, x16, y16, hh16, hz⟩ := l_calA h
      clear h
      cases hz
      have h := hh16
      have h116 : c16 ≤ (((cb - c4) - c8) - c12) := by have hz : x16 + c16 ≤ (((cb - c4) - c8) - c12) := hc; omega
      have h216 : n16 ≤ (((sb - n4) - n8) - n12) := by have hz : y16 + n16 ≤ (((sb - n4) - n8) - n12) := hs; omega
      replace hc : x16 ≤ (((cb - c4) - c8) - c12) - c16 := by have hz : x16 + c16 ≤ (((cb - c4) - c8) - c12) := hc; omega
      replace hs : y16 ≤ (((sb - n4) - n8) - n12) - n16 := by have hz : y16 + n16 ≤ (((sb - n4) - n8) - n12) := hs; omega
      refine mh_callUa 0 [.int x4] d_PR_feed_48 C_PR_74 (c_BR_addFour ev16) q15 rfl rfl rfl (Nat.le_of_ble_eq_true rfl) (by decide) (Nat.le_of_ble_eq_true rfl) h116 h216 ?_
      refine vr_aload_n d_PR_feed_51 rfl rfl ?_
      have q17 := (l_chk h).1
      replace h := (l_chk h).2
      obtain ⟨b18, eb18, h⟩ := l_rf h
      refine vr_getR (b := b18) d_PR_feed_52 F_PR_14 rfl q17 eb18 ?_
      refine vr_iload d_PR_feed_55 rfl ?_
      have q19 := (l_chk h).1
      replace h := (l_chk h).2
      obtain ⟨s20, c20, n20, ev20, r20, x20, y20, hh20, hz⟩ := l_calA h
      clear h
      cases hz
      have h := hh20
      have h120 : c20 ≤ ((((cb - c4) - c8) - c12) - c16) := by have hz : x20 + c20 ≤ ((((cb - c4) - c8) - c12) - c16) := hc; omega
      have h220 : n20 ≤ ((((sb - n4) - n8) - n12) - n16) := by have hz : y20 + n20 ≤ ((((sb - n4) - n8) - n12) - n16) := hs; omega
      replace hc : x20 ≤ ((((cb - c4) - c8) - c12) - c16) - c20 := by have hz : x20 + c20 ≤ ((((cb - c4) - c8) - c12) - c16) := hc; omega
      replace hs : y20 ≤ ((((sb - n4) - n8) - n12) - n16) - n20 := by have hz : y20 + n20 ≤ ((((sb - n4) - n8) - n12) - n16) := hs; omega
      refine mh_callUa 0 [.int x5] d_PR_feed_57 C_PR_74 (c_BR_addFour ev20) q19 rfl rfl rfl (Nat.le_of_ble_eq_true rfl) (by decide) (Nat.le_of_ble_eq_true rfl) h120 h220 ?_
      refine vr_aload_n d_PR_feed_60 rfl rfl ?_
      have q21 := (l_chk h).1
      replace h := (l_chk h).2
      obtain ⟨b22, eb22, h⟩ := l_rf h
      refine vr_getR (b := b22) d_PR_feed_61 F_PR_14 rfl q21 eb22 ?_
      have q23 := (l_chk h).1
      replace h := (l_chk h).2
      refine vr_getI d_PR_feed_64 F_PR_70 rfl q23 ?_
      cases h
      exact vr_iret d_PR_feed_67 rfl rfl ⟨rfl, rfl⟩
    · replace h := l_ifn c13 h
      refine vr_iconst (-1) d_PR_feed_16 (by decide) ?_
      cases h
      exact vr_iret d_PR_feed_17 rfl rfl ⟨rfl, rfl⟩
  exact mv_entry (L := [some (.ref a0), some (.int x1), some (.int x2), some (.int x3), some (.int x4), some (.int x5)]) rfl rfl (Nat.le_of_ble_eq_true rfl) rfl (key _ _ (Nat.le_refl _) (Nat.le_refl _))

def k_PR_read_16 (N : Nat) (p_PA_function : Nat → mh_H → Option (Bool × Int32 × mh_H)) (y0 : Nat) (y1 : Int32) (z0 : Int32) (σ : mh_H) : Option ((Int32 × mh_H) × Nat × Nat) := chk (hT σ y0 = 15) <| calI (f_PR_hasTree N y0 y1 σ) fun v5 s5 => if v5 = 0 then (some (((-2), s5), 0, 0)) else (if z0 < 0 then (some (((-2), s5), 0, 0)) else (chk (hT s5 y0 = 15) <| rfO (hR s5 7 0 y0) fun b7 => chk (hT s5 b7 = 1) <| if z0 ≤ (hI s5 0 1 b7) then (rfO (hR s5 7 3 y0) fun b9 => rfO (hR s5 0 0 b7) fun b10 => chk (hT s5 b9 = 9) <| calA (f_TO_scan N b9 b10 z0 s5) fun s12 => chk (hT s12 y0 = 15) <| rfO (hR s12 7 5 y0) fun b14 => chk (hT s12 b14 = 7) <| calAI (f_PA_parse N p_PA_function b14 s12) fun v16 s16 => chk (hT s16 y0 = 15) <| rfO (hR s16 7 8 y0) fun b18 => chk (hT s16 b18 = 6) <| chk (ib y1 (hN s16 b18)) <| rfO (hQ s16 b18 (Int32.toNatClampNeg y1)) fun b21 => rfO (hR s16 7 4 y0) fun b22 => chk (hT s16 b21 = 11) <| calA (f_TR_lay N b21 b22 s16) fun s24 => chk (hT s24 y0 = 15) <| rfO (hR s24 7 8 y0) fun b26 => chk (hT s24 b26 = 6) <| chk (ib y1 (hN s24 b26)) <| rfO (hQ s24 b26 (Int32.toNatClampNeg y1)) fun b29 => calA (f_PR_numberNames N y0 b29 s24) fun s30 => chk (hT s30 y0 = 15) <| rfO (hR s30 7 0 y0) fun b32 => chk (hT s30 b32 = 1) <| calV (f_BR_clear N b32 s30) fun s34 => some ((v16, s34), 0, 0)) else (some (((-2), s5), 0, 0))))
theorem q_PR_read_16 {g : mv_G} {N : Nat} {p_PA_function : Nat → mh_H → Option (Bool × Int32 × mh_H)} (hl : (mg_l g).stackTraces = false) {F Lw : Nat} (h_PA_function : pkV0 g M_PA_function F Lw p_PA_function) (hF : 40 ≤ F) (hLw : 1000 ≤ Lw) (y0 : Nat) (y1 : Int32) (z0 : Int32) (σ : mh_H) (r : (Int32 × mh_H) × Nat × Nat) (h : k_PR_read_16 N p_PA_function y0 y1 z0 σ = some r) : ∀ cb sb : Nat, r.2.1 ≤ cb → r.2.2 ≤ sb → mv_V g M_PR_read (F + 2) (Lw + 120) cb sb 16 [some (.ref y0), some (.int y1), none, none, none] [.int z0] σ (fun oc τ => τ = r.1.2 ∧ oc = .returned (some (.int r.1.1))) := by
  intro cb sb hc hs
  unfold k_PR_read_16 at h
  refine vr_istore_n (L' := [some (.ref y0), some (.int y1), none, some (.int z0), none]) d_PR_read_16 rfl (by decide) rfl ?_
  refine vr_aload_n d_PR_read_17 rfl rfl ?_
  refine vr_iload_n d_PR_read_18 rfl rfl ?_
  have q4 := (l_chk h).1
  replace h := (l_chk h).2
  obtain ⟨v5, s5, ev5, h⟩ := l_calI h
  refine mh_callI 7 [.int y1] d_PR_read_19 C_PR_77 (c_PR_hasTree ev5) q4 rfl rfl rfl (Nat.le_of_ble_eq_true rfl) (by omega) (by show 8 + (2 + 11) + 0 ≤ Lw + 120; omega) ?_
  refine vr_if_eq (tgt := 40) d_PR_read_22 (by decide) (fun c22 => ?_) (fun c22 => ?_)
  · replace h := l_ifp c22 h
    refine vr_bipush (-2) d_PR_read_40 (by decide) ?_
    cases h
    exact vr_iret d_PR_read_42 rfl rfl ⟨rfl, rfl⟩
  · replace h := l_ifn c22 h
    refine vr_iload_n d_PR_read_25 rfl rfl ?_
    refine vr_if_lt (tgt := 40) d_PR_read_26 (by decide) (fun c26 => ?_) (fun c26 => ?_)
    · replace h := l_ifp c26 h
      refine vr_bipush (-2) d_PR_read_40 (by decide) ?_
      cases h
      exact vr_iret d_PR_read_42 rfl rfl ⟨rfl, rfl⟩
    · replace h := l_ifn c26 h
      refine vr_iload_n d_PR_read_29 rfl rfl ?_
      refine vr_aload_n d_PR_read_30 rfl rfl ?_
      have q6 := (l_chk h).1
      replace h := (l_chk h).2
      obtain ⟨b7, eb7, h⟩ := l_rf h
      refine vr_getR (b := b7) d_PR_read_31 F_PR_14 rfl q6 eb7 ?_
      have q8 := (l_chk h).1
      replace h := (l_chk h).2
      refine vr_getI d_PR_read_34 F_PR_70 rfl q8 ?_
      refine vr_icmp_le (tgt := 43) d_PR_read_37 (by decide) (fun c37 => ?_) (fun c37 => ?_)
      · replace h := l_ifp c37 h
        refine vr_aload_n d_PR_read_43 rfl rfl ?_
        obtain ⟨b9, eb9, h⟩ := l_rf h
        refine vr_getR (b := b9) d_PR_read_44 F_PR_27 rfl q6 eb9 ?_
        refine vr_aload_n d_PR_read_47 rfl rfl ?_
        refine vr_getR (b := b7) d_PR_read_48 F_PR_14 rfl q6 eb7 ?_
        obtain ⟨b10, eb10, h⟩ := l_rf h
        refine vr_getR (b := b10) d_PR_read_51 F_PR_81 rfl q8 eb10 ?_
        refine vr_iload_n d_PR_read_54 rfl rfl ?_
        have q11 := (l_chk h).1
        replace h := (l_chk h).2
        obtain ⟨s12, c12, n12, ev12, r12, x12, y12, hh12, hz⟩ := l_calA h
        clear h
        cases hz
        have h := hh12
        have h112 : c12 ≤ cb := by have hz : x12 + c12 ≤ cb := hc; omega
        have h212 : n12 ≤ sb := by have hz : y12 + n12 ≤ sb := hs; omega
        replace hc : x12 ≤ cb - c12 := by have hz : x12 + c12 ≤ cb := hc; omega
        replace hs : y12 ≤ sb - n12 := by have hz : y12 + n12 ≤ sb := hs; omega
        refine mh_callUa 4 [.ref b10, .int z0] d_PR_read_55 C_PR_85 (c_TO_scan ev12) q11 rfl rfl rfl (Nat.le_of_ble_eq_true rfl) (by omega) (by show 8 + (5 + 11) + 233 ≤ Lw + 120; omega) h112 h212 ?_
        refine vr_aload_n d_PR_read_58 rfl rfl ?_
        have q13 := (l_chk h).1
        replace h := (l_chk h).2
        obtain ⟨b14, eb14, h⟩ := l_rf h
        refine vr_getR (b := b14) d_PR_read_59 F_PR_43 rfl q13 eb14 ?_
        have q15 := (l_chk h).1
        replace h := (l_chk h).2
        obtain ⟨v16, s16, c16, n16, ev16, r16, x16, y16, hh16, hz⟩ := l_calAI h
        clear h
        cases hz
        have h := hh16
        have h116 : c16 ≤ (cb - c12) := by have hz : x16 + c16 ≤ (cb - c12) := hc; omega
        have h216 : n16 ≤ (sb - n12) := by have hz : y16 + n16 ≤ (sb - n12) := hs; omega
        replace hc : x16 ≤ (cb - c12) - c16 := by have hz : x16 + c16 ≤ (cb - c12) := hc; omega
        replace hs : y16 ≤ (sb - n12) - n16 := by have hz : y16 + n16 ≤ (sb - n12) := hs; omega
        refine mh_callIaH 3 [] d_PR_read_62 C_PR_89 (c_PA_parse hl h_PA_function hF hLw ev16) q15 rfl rfl rfl (Nat.le_of_ble_eq_true rfl) (by omega) (by show 8 + (4 + 11) + (Lw + 60) ≤ Lw + 120; omega) h116 h216 ?_
        refine vr_istore (L' := [some (.ref y0), some (.int y1), none, some (.int z0), some (.int v16)]) d_PR_read_65 (by decide) rfl ?_
        refine vr_aload_n d_PR_read_67 rfl rfl ?_
        have q17 := (l_chk h).1
        replace h := (l_chk h).2
        obtain ⟨b18, eb18, h⟩ := l_rf h
        refine vr_getR (b := b18) d_PR_read_68 F_PR_65 rfl q17 eb18 ?_
        refine vr_iload_n d_PR_read_71 rfl rfl ?_
        have q19 := (l_chk h).1
        replace h := (l_chk h).2
        have q20 := (l_chk h).1
        replace h := (l_chk h).2
        obtain ⟨b21, eb21, h⟩ := l_rf h
        refine vr_aald (t := 2) d_PR_read_72 rfl q19 (ib_in q20) eb21 ?_
        refine vr_aload_n d_PR_read_73 rfl rfl ?_
        obtain ⟨b22, eb22, h⟩ := l_rf h
        refine vr_getR (b := b22) d_PR_read_74 F_PR_34 rfl q17 eb22 ?_
        have q23 := (l_chk h).1
        replace h := (l_chk h).2
        obtain ⟨s24, c24, n24, ev24, r24, x24, y24, hh24, hz⟩ := l_calA h
        clear h
        cases hz
        have h := hh24
        have h124 : c24 ≤ ((cb - c12) - c16) := by have hz : x24 + c24 ≤ ((cb - c12) - c16) := hc; omega
        have h224 : n24 ≤ ((sb - n12) - n16) := by have hz : y24 + n24 ≤ ((sb - n12) - n16) := hs; omega
        replace hc : x24 ≤ ((cb - c12) - c16) - c24 := by have hz : x24 + c24 ≤ ((cb - c12) - c16) := hc; omega
        replace hs : y24 ≤ ((sb - n12) - n16) - n24 := by have hz : y24 + n24 ≤ ((sb - n12) - n16) := hs; omega
        refine mh_callUa 5 [.ref b22] d_PR_read_77 C_PR_93 (c_TR_lay ev24) q23 rfl rfl rfl (Nat.le_of_ble_eq_true rfl) (by omega) (by show 8 + (2 + 11) + 70 ≤ Lw + 120; omega) h124 h224 ?_
        refine vr_aload_n d_PR_read_80 rfl rfl ?_
        refine vr_aload_n d_PR_read_81 rfl rfl ?_
        have q25 := (l_chk h).1
        replace h := (l_chk h).2
        obtain ⟨b26, eb26, h⟩ := l_rf h
        refine vr_getR (b := b26) d_PR_read_82 F_PR_65 rfl q25 eb26 ?_
        refine vr_iload_n d_PR_read_85 rfl rfl ?_
        have q27 := (l_chk h).1
        replace h := (l_chk h).2
        have q28 := (l_chk h).1
        replace h := (l_chk h).2
        obtain ⟨b29, eb29, h⟩ := l_rf h
        refine vr_aald (t := 2) d_PR_read_86 rfl q27 (ib_in q28) eb29 ?_
        obtain ⟨s30, c30, n30, ev30, r30, x30, y30, hh30, hz⟩ := l_calA h
        clear h
        cases hz
        have h := hh30
        have h130 : c30 ≤ (((cb - c12) - c16) - c24) := by have hz : x30 + c30 ≤ (((cb - c12) - c16) - c24) := hc; omega
        have h230 : n30 ≤ (((sb - n12) - n16) - n24) := by have hz : y30 + n30 ≤ (((sb - n12) - n16) - n24) := hs; omega
        replace hc : x30 ≤ (((cb - c12) - c16) - c24) - c30 := by have hz : x30 + c30 ≤ (((cb - c12) - c16) - c24) := hc; omega
        replace hs : y30 ≤ (((sb - n12) - n16) - n24) - n30 := by have hz : y30 + n30 ≤ (((sb - n12) - n16) - n24) := hs; omega
        refine mh_callUa 7 [.ref b29] d_PR_read_87 C_PR_97 (c_PR_numberNames ev30) q25 rfl rfl rfl (Nat.le_of_ble_eq_true rfl) (by omega) (by show 8 + (4 + 11) + 236 ≤ Lw + 120; omega) h130 h230 ?_
        refine vr_aload_n d_PR_read_90 rfl rfl ?_
        have q31 := (l_chk h).1
        replace h := (l_chk h).2
        obtain ⟨b32, eb32, h⟩ := l_rf h
        refine vr_getR (b := b32) d_PR_read_91 F_PR_14 rfl q31 eb32 ?_
        have q33 := (l_chk h).1
        replace h := (l_chk h).2
        obtain ⟨s34, es34, h⟩ := l_calV h
        refine mh_callU 0 [] d_PR_read_94 C_PR_101 (c_BR_clear es34) q33 rfl rfl rfl (Nat.le_of_ble_eq_true rfl) (by omega) (by show 8 + (1 + 11) + 0 ≤ Lw + 120; omega) ?_
        refine vr_iload d_PR_read_97 rfl ?_
        cases h
        exact vr_iret d_PR_read_99 rfl rfl ⟨rfl, rfl⟩
      · replace h := l_ifn c37 h
        refine vr_bipush (-2) d_PR_read_40 (by decide) ?_
        cases h
        exact vr_iret d_PR_read_42 rfl rfl ⟨rfl, rfl⟩

def f_PR_read (N : Nat) (p_PA_function : Nat → mh_H → Option (Bool × Int32 × mh_H)) (a0 : Nat) (x1 : Int32) (x2 : Int32) (σ : mh_H) : Option ((Int32 × mh_H) × Nat × Nat) := if x2 = (-1) then (chk (hT σ a0 = 15) <| rfO (hR σ 7 0 a0) fun b2 => chk (hT σ b2 = 1) <| k_PR_read_16 N p_PA_function a0 x1 ((hI σ 0 1 b2)) σ) else (k_PR_read_16 N p_PA_function a0 x1 x2 σ)
theorem c_PR_read {g : mv_G} {N : Nat} {p_PA_function : Nat → mh_H → Option (Bool × Int32 × mh_H)} (hl : (mg_l g).stackTraces = false) {F Lw : Nat} (h_PA_function : pkV0 g M_PA_function F Lw p_PA_function) (hF : 40 ≤ F) (hLw : 1000 ≤ Lw) {a0 : Nat} {x1 : Int32} {x2 : Int32} {σ : mh_H} {r : (Int32 × mh_H) × Nat × Nat} (h : f_PR_read N p_PA_function a0 x1 x2 σ = some r) : mv_Met g M_PR_read (F + 2) (Lw + 120) r.2.1 r.2.2 [.ref a0, .int x1, .int x2] σ (fun oc τ => τ = r.1.2 ∧ oc = .returned (some (.int r.1.1))) := by
  have key : ∀ cb sb : Nat, r.2.1 ≤ cb → r.2.2 ≤ sb → mv_V g M_PR_read (F + 2) (Lw + 120) cb sb 0 [some (.ref a0), some (.int x1), some (.int x2), none, none] [] σ (fun oc τ => τ = r.1.2 ∧ oc = .returned (some (.int r.1.1))) := by
    intro cb sb hc hs
    unfold f_PR_read at h
    refine vr_iload_n d_PR_read_0 rfl rfl ?_
    refine vr_iconst (-1) d_PR_read_1 (by decide) ?_
    refine vr_icmp_ne (tgt := 15) d_PR_read_2 (by decide) (fun c2 => ?_) (fun c2 => ?_)
    · replace h := l_ifn c2 h
      refine vr_iload_n d_PR_read_15 rfl rfl ?_
      exact mv_drop (q_PR_read_16 hl h_PA_function hF hLw _ _ _ _ _ h _ _ hc hs) (And.intro rfl (And.intro rfl trivial))
    · replace h := l_ifp c2 h
      refine vr_aload_n d_PR_read_5 rfl rfl ?_
      have q1 := (l_chk h).1
      replace h := (l_chk h).2
      obtain ⟨b2, eb2, h⟩ := l_rf h
      refine vr_getR (b := b2) d_PR_read_6 F_PR_14 rfl q1 eb2 ?_
      have q3 := (l_chk h).1
      replace h := (l_chk h).2
      refine vr_getI d_PR_read_9 F_PR_70 rfl q3 ?_
      refine vr_goto (tgt := 16) d_PR_read_12 (by decide) ?_
      exact mv_drop (q_PR_read_16 hl h_PA_function hF hLw _ _ _ _ _ h _ _ hc hs) (And.intro rfl (And.intro rfl trivial))
  exact mv_entry (L := [some (.ref a0), some (.int x1), some (.int x2), none, none]) rfl rfl (Nat.le_of_ble_eq_true rfl) rfl (key _ _ (Nat.le_refl _) (Nat.le_refl _))

def f_PR_nodes (N : Nat) (a0 : Nat) (x1 : Int32) (σ : mh_H) : Option (Int32 × mh_H) := chk (hT σ a0 = 15) <| calI (f_PR_hasTree N a0 x1 σ) fun v2 s2 => if v2 = 0 then (some (0, s2)) else (chk (hT s2 a0 = 15) <| rfO (hR s2 7 8 a0) fun b4 => chk (hT s2 b4 = 6) <| chk (ib x1 (hN s2 b4)) <| rfO (hQ s2 b4 (Int32.toNatClampNeg x1)) fun b7 => chk (hT s2 b7 = 11) <| some ((hI s2 5 0 b7), s2))
theorem c_PR_nodes {g : mv_G} {N : Nat} {a0 : Nat} {x1 : Int32} {σ : mh_H} {r : Int32 × mh_H} (h : f_PR_nodes N a0 x1 σ = some r) : mv_Met g M_PR_nodes 1 21 0 0 [.ref a0, .int x1] σ (fun oc τ => τ = r.2 ∧ oc = .returned (some (.int r.1))) := by
  refine mv_entry (L := [some (.ref a0), some (.int x1)]) rfl rfl (Nat.le_of_ble_eq_true rfl) rfl ?_
  unfold f_PR_nodes at h
  refine vr_aload_n d_PR_nodes_0 rfl rfl ?_
  refine vr_iload_n d_PR_nodes_1 rfl rfl ?_
  have q1 := (l_chk h).1
  replace h := (l_chk h).2
  obtain ⟨v2, s2, ev2, h⟩ := l_calI h
  refine mh_callI 7 [.int x1] d_PR_nodes_2 C_PR_77 (c_PR_hasTree ev2) q1 rfl rfl rfl (Nat.le_of_ble_eq_true rfl) (by decide) (Nat.le_of_ble_eq_true rfl) ?_
  refine vr_if_eq (tgt := 20) d_PR_nodes_5 (by decide) (fun c5 => ?_) (fun c5 => ?_)
  · replace h := l_ifp c5 h
    refine vr_iconst 0 d_PR_nodes_20 (by decide) ?_
    cases h
    exact vr_iret d_PR_nodes_21 rfl rfl ⟨rfl, rfl⟩
  · replace h := l_ifn c5 h
    refine vr_aload_n d_PR_nodes_8 rfl rfl ?_
    have q3 := (l_chk h).1
    replace h := (l_chk h).2
    obtain ⟨b4, eb4, h⟩ := l_rf h
    refine vr_getR (b := b4) d_PR_nodes_9 F_PR_65 rfl q3 eb4 ?_
    refine vr_iload_n d_PR_nodes_12 rfl rfl ?_
    have q5 := (l_chk h).1
    replace h := (l_chk h).2
    have q6 := (l_chk h).1
    replace h := (l_chk h).2
    obtain ⟨b7, eb7, h⟩ := l_rf h
    refine vr_aald (t := 2) d_PR_nodes_13 rfl q5 (ib_in q6) eb7 ?_
    have q8 := (l_chk h).1
    replace h := (l_chk h).2
    refine vr_getI d_PR_nodes_14 F_PR_104 rfl q8 ?_
    refine vr_goto (tgt := 21) d_PR_nodes_17 (by decide) ?_
    cases h
    exact vr_iret d_PR_nodes_21 rfl rfl ⟨rfl, rfl⟩

def f_PR_node (N : Nat) (a0 : Nat) (x1 : Int32) (x2 : Int32) (x3 : Int32) (σ : mh_H) : Option (Int32 × mh_H) := chk (hT σ a0 = 15) <| calI (f_PR_hasTree N a0 x1 σ) fun v2 s2 => if v2 = 0 then (some ((-2), s2)) else (chk (hT s2 a0 = 15) <| rfO (hR s2 7 8 a0) fun b4 => chk (hT s2 b4 = 6) <| chk (ib x1 (hN s2 b4)) <| rfO (hQ s2 b4 (Int32.toNatClampNeg x1)) fun b7 => chk (hT s2 b7 = 11) <| calI (f_TR_about N b7 x2 x3 s2) fun v9 s9 => some (v9, s9))
theorem c_PR_node {g : mv_G} {N : Nat} {a0 : Nat} {x1 : Int32} {x2 : Int32} {x3 : Int32} {σ : mh_H} {r : Int32 × mh_H} (h : f_PR_node N a0 x1 x2 x3 σ = some r) : mv_Met g M_PR_node 2 43 0 0 [.ref a0, .int x1, .int x2, .int x3] σ (fun oc τ => τ = r.2 ∧ oc = .returned (some (.int r.1))) := by
  refine mv_entry (L := [some (.ref a0), some (.int x1), some (.int x2), some (.int x3)]) rfl rfl (Nat.le_of_ble_eq_true rfl) rfl ?_
  unfold f_PR_node at h
  refine vr_aload_n d_PR_node_0 rfl rfl ?_
  refine vr_iload_n d_PR_node_1 rfl rfl ?_
  have q1 := (l_chk h).1
  replace h := (l_chk h).2
  obtain ⟨v2, s2, ev2, h⟩ := l_calI h
  refine mh_callI 7 [.int x1] d_PR_node_2 C_PR_77 (c_PR_hasTree ev2) q1 rfl rfl rfl (Nat.le_of_ble_eq_true rfl) (by decide) (Nat.le_of_ble_eq_true rfl) ?_
  refine vr_if_eq (tgt := 22) d_PR_node_5 (by decide) (fun c5 => ?_) (fun c5 => ?_)
  · replace h := l_ifp c5 h
    refine vr_bipush (-2) d_PR_node_22 (by decide) ?_
    cases h
    exact vr_iret d_PR_node_24 rfl rfl ⟨rfl, rfl⟩
  · replace h := l_ifn c5 h
    refine vr_aload_n d_PR_node_8 rfl rfl ?_
    have q3 := (l_chk h).1
    replace h := (l_chk h).2
    obtain ⟨b4, eb4, h⟩ := l_rf h
    refine vr_getR (b := b4) d_PR_node_9 F_PR_65 rfl q3 eb4 ?_
    refine vr_iload_n d_PR_node_12 rfl rfl ?_
    have q5 := (l_chk h).1
    replace h := (l_chk h).2
    have q6 := (l_chk h).1
    replace h := (l_chk h).2
    obtain ⟨b7, eb7, h⟩ := l_rf h
    refine vr_aald (t := 2) d_PR_node_13 rfl q5 (ib_in q6) eb7 ?_
    refine vr_iload_n d_PR_node_14 rfl rfl ?_
    refine vr_iload_n d_PR_node_15 rfl rfl ?_
    have q8 := (l_chk h).1
    replace h := (l_chk h).2
    obtain ⟨v9, s9, ev9, h⟩ := l_calI h
    refine mh_callI 5 [.int x2, .int x3] d_PR_node_16 C_PR_105 (c_TR_about ev9) q8 rfl rfl rfl (Nat.le_of_ble_eq_true rfl) (by decide) (Nat.le_of_ble_eq_true rfl) ?_
    refine vr_goto (tgt := 24) d_PR_node_19 (by decide) ?_
    cases h
    exact vr_iret d_PR_node_24 rfl rfl ⟨rfl, rfl⟩

def f_PR_part (N : Nat) (a0 : Nat) (x1 : Int32) (x2 : Int32) (x3 : Int32) (σ : mh_H) : Option (Int32 × mh_H) := chk (hT σ a0 = 15) <| calI (f_PR_hasTree N a0 x1 σ) fun v2 s2 => if v2 = 0 then (some ((-1), s2)) else (chk (hT s2 a0 = 15) <| rfO (hR s2 7 8 a0) fun b4 => chk (hT s2 b4 = 6) <| chk (ib x1 (hN s2 b4)) <| rfO (hQ s2 b4 (Int32.toNatClampNeg x1)) fun b7 => chk (hT s2 b7 = 11) <| calI (f_TR_partAt N b7 x2 x3 s2) fun v9 s9 => some (v9, s9))
theorem c_PR_part {g : mv_G} {N : Nat} {a0 : Nat} {x1 : Int32} {x2 : Int32} {x3 : Int32} {σ : mh_H} {r : Int32 × mh_H} (h : f_PR_part N a0 x1 x2 x3 σ = some r) : mv_Met g M_PR_part 3 66 0 0 [.ref a0, .int x1, .int x2, .int x3] σ (fun oc τ => τ = r.2 ∧ oc = .returned (some (.int r.1))) := by
  refine mv_entry (L := [some (.ref a0), some (.int x1), some (.int x2), some (.int x3)]) rfl rfl (Nat.le_of_ble_eq_true rfl) rfl ?_
  unfold f_PR_part at h
  refine vr_aload_n d_PR_part_0 rfl rfl ?_
  refine vr_iload_n d_PR_part_1 rfl rfl ?_
  have q1 := (l_chk h).1
  replace h := (l_chk h).2
  obtain ⟨v2, s2, ev2, h⟩ := l_calI h
  refine mh_callI 7 [.int x1] d_PR_part_2 C_PR_77 (c_PR_hasTree ev2) q1 rfl rfl rfl (Nat.le_of_ble_eq_true rfl) (by decide) (Nat.le_of_ble_eq_true rfl) ?_
  refine vr_if_eq (tgt := 22) d_PR_part_5 (by decide) (fun c5 => ?_) (fun c5 => ?_)
  · replace h := l_ifp c5 h
    refine vr_iconst (-1) d_PR_part_22 (by decide) ?_
    cases h
    exact vr_iret d_PR_part_23 rfl rfl ⟨rfl, rfl⟩
  · replace h := l_ifn c5 h
    refine vr_aload_n d_PR_part_8 rfl rfl ?_
    have q3 := (l_chk h).1
    replace h := (l_chk h).2
    obtain ⟨b4, eb4, h⟩ := l_rf h
    refine vr_getR (b := b4) d_PR_part_9 F_PR_65 rfl q3 eb4 ?_
    refine vr_iload_n d_PR_part_12 rfl rfl ?_
    have q5 := (l_chk h).1
    replace h := (l_chk h).2
    have q6 := (l_chk h).1
    replace h := (l_chk h).2
    obtain ⟨b7, eb7, h⟩ := l_rf h
    refine vr_aald (t := 2) d_PR_part_13 rfl q5 (ib_in q6) eb7 ?_
    refine vr_iload_n d_PR_part_14 rfl rfl ?_
    refine vr_iload_n d_PR_part_15 rfl rfl ?_
    have q8 := (l_chk h).1
    replace h := (l_chk h).2
    obtain ⟨v9, s9, ev9, h⟩ := l_calI h
    refine mh_callI 5 [.int x2, .int x3] d_PR_part_16 C_PR_109 (c_TR_partAt ev9) q8 rfl rfl rfl (Nat.le_of_ble_eq_true rfl) (by decide) (Nat.le_of_ble_eq_true rfl) ?_
    refine vr_goto (tgt := 23) d_PR_part_19 (by decide) ?_
    cases h
    exact vr_iret d_PR_part_23 rfl rfl ⟨rfl, rfl⟩

def f_PR_whole (N : Nat) (a0 : Nat) (x1 : Int32) (x2 : Int32) (σ : mh_H) : Option (Int32 × mh_H) := chk (hT σ a0 = 15) <| calI (f_PR_hasTree N a0 x1 σ) fun v2 s2 => if v2 = 0 then (some ((-1), s2)) else (chk (hT s2 a0 = 15) <| rfO (hR s2 7 8 a0) fun b4 => chk (hT s2 b4 = 6) <| chk (ib x1 (hN s2 b4)) <| rfO (hQ s2 b4 (Int32.toNatClampNeg x1)) fun b7 => chk (hT s2 b7 = 11) <| calI (f_TR_wholeOf N b7 x2 s2) fun v9 s9 => some (v9, s9))
theorem c_PR_whole {g : mv_G} {N : Nat} {a0 : Nat} {x1 : Int32} {x2 : Int32} {σ : mh_H} {r : Int32 × mh_H} (h : f_PR_whole N a0 x1 x2 σ = some r) : mv_Met g M_PR_whole 2 42 0 0 [.ref a0, .int x1, .int x2] σ (fun oc τ => τ = r.2 ∧ oc = .returned (some (.int r.1))) := by
  refine mv_entry (L := [some (.ref a0), some (.int x1), some (.int x2)]) rfl rfl (Nat.le_of_ble_eq_true rfl) rfl ?_
  unfold f_PR_whole at h
  refine vr_aload_n d_PR_whole_0 rfl rfl ?_
  refine vr_iload_n d_PR_whole_1 rfl rfl ?_
  have q1 := (l_chk h).1
  replace h := (l_chk h).2
  obtain ⟨v2, s2, ev2, h⟩ := l_calI h
  refine mh_callI 7 [.int x1] d_PR_whole_2 C_PR_77 (c_PR_hasTree ev2) q1 rfl rfl rfl (Nat.le_of_ble_eq_true rfl) (by decide) (Nat.le_of_ble_eq_true rfl) ?_
  refine vr_if_eq (tgt := 21) d_PR_whole_5 (by decide) (fun c5 => ?_) (fun c5 => ?_)
  · replace h := l_ifp c5 h
    refine vr_iconst (-1) d_PR_whole_21 (by decide) ?_
    cases h
    exact vr_iret d_PR_whole_22 rfl rfl ⟨rfl, rfl⟩
  · replace h := l_ifn c5 h
    refine vr_aload_n d_PR_whole_8 rfl rfl ?_
    have q3 := (l_chk h).1
    replace h := (l_chk h).2
    obtain ⟨b4, eb4, h⟩ := l_rf h
    refine vr_getR (b := b4) d_PR_whole_9 F_PR_65 rfl q3 eb4 ?_
    refine vr_iload_n d_PR_whole_12 rfl rfl ?_
    have q5 := (l_chk h).1
    replace h := (l_chk h).2
    have q6 := (l_chk h).1
    replace h := (l_chk h).2
    obtain ⟨b7, eb7, h⟩ := l_rf h
    refine vr_aald (t := 2) d_PR_whole_13 rfl q5 (ib_in q6) eb7 ?_
    refine vr_iload_n d_PR_whole_14 rfl rfl ?_
    have q8 := (l_chk h).1
    replace h := (l_chk h).2
    obtain ⟨v9, s9, ev9, h⟩ := l_calI h
    refine mh_callI 5 [.int x2] d_PR_whole_15 C_PR_112 (c_TR_wholeOf ev9) q8 rfl rfl rfl (Nat.le_of_ble_eq_true rfl) (by decide) (Nat.le_of_ble_eq_true rfl) ?_
    refine vr_goto (tgt := 22) d_PR_whole_18 (by decide) ?_
    cases h
    exact vr_iret d_PR_whole_22 rfl rfl ⟨rfl, rfl⟩

def f_PR_names (N : Nat) (a0 : Nat) (σ : mh_H) : Option (Int32 × mh_H) := chk (hT σ a0 = 15) <| rfO (hR σ 7 6 a0) fun b2 => chk (hT σ b2 = 5) <| some ((hI σ 2 0 b2), σ)
theorem c_PR_names {g : mv_G} {N : Nat} {a0 : Nat} {σ : mh_H} {r : Int32 × mh_H} (h : f_PR_names N a0 σ = some r) : mv_Met g M_PR_names 0 0 0 0 [.ref a0] σ (fun oc τ => τ = r.2 ∧ oc = .returned (some (.int r.1))) := by
  refine mv_entry (L := [some (.ref a0)]) rfl rfl (Nat.le_of_ble_eq_true rfl) rfl ?_
  unfold f_PR_names at h
  refine vr_aload_n d_PR_names_0 rfl rfl ?_
  have q1 := (l_chk h).1
  replace h := (l_chk h).2
  obtain ⟨b2, eb2, h⟩ := l_rf h
  refine vr_getR (b := b2) d_PR_names_1 F_PR_50 rfl q1 eb2 ?_
  have q3 := (l_chk h).1
  replace h := (l_chk h).2
  refine vr_getI d_PR_names_4 F_PR_116 rfl q3 ?_
  cases h
  exact vr_iret d_PR_names_7 rfl rfl ⟨rfl, rfl⟩

def f_PR_spelt (N : Nat) (a0 : Nat) (x1 : Int32) (x2 : Int32) (σ : mh_H) : Option (Int32 × mh_H) := chk (hT σ a0 = 15) <| rfO (hR σ 7 6 a0) fun b2 => chk (hT σ b2 = 5) <| calI (f_NA_byteOf N b2 x1 x2 σ) fun v4 s4 => some (v4, s4)
theorem c_PR_spelt {g : mv_G} {N : Nat} {a0 : Nat} {x1 : Int32} {x2 : Int32} {σ : mh_H} {r : Int32 × mh_H} (h : f_PR_spelt N a0 x1 x2 σ = some r) : mv_Met g M_PR_spelt 2 43 0 0 [.ref a0, .int x1, .int x2] σ (fun oc τ => τ = r.2 ∧ oc = .returned (some (.int r.1))) := by
  refine mv_entry (L := [some (.ref a0), some (.int x1), some (.int x2)]) rfl rfl (Nat.le_of_ble_eq_true rfl) rfl ?_
  unfold f_PR_spelt at h
  refine vr_aload_n d_PR_spelt_0 rfl rfl ?_
  have q1 := (l_chk h).1
  replace h := (l_chk h).2
  obtain ⟨b2, eb2, h⟩ := l_rf h
  refine vr_getR (b := b2) d_PR_spelt_1 F_PR_50 rfl q1 eb2 ?_
  refine vr_iload_n d_PR_spelt_4 rfl rfl ?_
  refine vr_iload_n d_PR_spelt_5 rfl rfl ?_
  have q3 := (l_chk h).1
  replace h := (l_chk h).2
  obtain ⟨v4, s4, ev4, h⟩ := l_calI h
  refine mh_callI 2 [.int x1, .int x2] d_PR_spelt_6 C_PR_117 (c_NA_byteOf ev4) q3 rfl rfl rfl (Nat.le_of_ble_eq_true rfl) (by decide) (Nat.le_of_ble_eq_true rfl) ?_
  cases h
  exact vr_iret d_PR_spelt_9 rfl rfl ⟨rfl, rfl⟩

def f_PR_write (N : Nat) (a0 : Nat) (x1 : Int32) (x2 : Int32) (σ : mh_H) : Option ((Int32 × mh_H) × Nat × Nat) := chk (hT σ a0 = 15) <| calI (f_PR_hasTree N a0 x1 σ) fun v2 s2 => if v2 = 0 then (some (((-1), s2), 0, 0)) else (chk (hT s2 a0 = 15) <| rfO (hR s2 7 7 a0) fun b4 => rfO (hR s2 7 8 a0) fun b5 => chk (hT s2 b5 = 6) <| chk (ib x1 (hN s2 b5)) <| rfO (hQ s2 b5 (Int32.toNatClampNeg x1)) fun b8 => rfO (hR s2 7 2 a0) fun b9 => chk (hT s2 b4 = 13) <| calAI (f_WR_compose N b4 b8 x2 b9 s2) fun v11 s11 => if v11 = 0 then (some (((-1), s11), 0, 0)) else (chk (hT s11 a0 = 15) <| rfO (hR s11 7 2 a0) fun b13 => rfO (hR s11 7 1 a0) fun b14 => rfO (hR (mh_setR (mh_setR s11 7 2 a0 (some b14)) 7 1 a0 (some b13)) 7 1 a0) fun b15 => chk (hT (mh_setR (mh_setR s11 7 2 a0 (some b14)) 7 1 a0 (some b13)) b15 = 1) <| bnd ((hI (mh_setR (mh_setR s11 7 2 a0 (some b14)) 7 1 a0 (some b13)) 0 1 b15)) fun v17 => some ((v17, (mh_setR (mh_setR s11 7 2 a0 (some b14)) 7 1 a0 (some b13))), 0, 0)))
theorem c_PR_write {g : mv_G} {N : Nat} {a0 : Nat} {x1 : Int32} {x2 : Int32} {σ : mh_H} {r : (Int32 × mh_H) × Nat × Nat} (h : f_PR_write N a0 x1 x2 σ = some r) : mv_Met g M_PR_write 13 279 r.2.1 r.2.2 [.ref a0, .int x1, .int x2] σ (fun oc τ => τ = r.1.2 ∧ oc = .returned (some (.int r.1.1))) := by
  have key : ∀ cb sb : Nat, r.2.1 ≤ cb → r.2.2 ≤ sb → mv_V g M_PR_write 13 279 cb sb 0 [some (.ref a0), some (.int x1), some (.int x2), none] [] σ (fun oc τ => τ = r.1.2 ∧ oc = .returned (some (.int r.1.1))) := by
    intro cb sb hc hs
    unfold f_PR_write at h
    refine vr_aload_n d_PR_write_0 rfl rfl ?_
    refine vr_iload_n d_PR_write_1 rfl rfl ?_
    have q1 := (l_chk h).1
    replace h := (l_chk h).2
    obtain ⟨v2, s2, ev2, h⟩ := l_calI h
    refine mh_callI 7 [.int x1] d_PR_write_2 C_PR_77 (c_PR_hasTree ev2) q1 rfl rfl rfl (Nat.le_of_ble_eq_true rfl) (by decide) (Nat.le_of_ble_eq_true rfl) ?_
    refine vr_if_eq (tgt := 29) d_PR_write_5 (by decide) (fun c5 => ?_) (fun c5 => ?_)
    · replace h := l_ifp c5 h
      refine vr_iconst (-1) d_PR_write_29 (by decide) ?_
      cases h
      exact vr_iret d_PR_write_30 rfl rfl ⟨rfl, rfl⟩
    · replace h := l_ifn c5 h
      refine vr_aload_n d_PR_write_8 rfl rfl ?_
      have q3 := (l_chk h).1
      replace h := (l_chk h).2
      obtain ⟨b4, eb4, h⟩ := l_rf h
      refine vr_getR (b := b4) d_PR_write_9 F_PR_59 rfl q3 eb4 ?_
      refine vr_aload_n d_PR_write_12 rfl rfl ?_
      obtain ⟨b5, eb5, h⟩ := l_rf h
      refine vr_getR (b := b5) d_PR_write_13 F_PR_65 rfl q3 eb5 ?_
      refine vr_iload_n d_PR_write_16 rfl rfl ?_
      have q6 := (l_chk h).1
      replace h := (l_chk h).2
      have q7 := (l_chk h).1
      replace h := (l_chk h).2
      obtain ⟨b8, eb8, h⟩ := l_rf h
      refine vr_aald (t := 2) d_PR_write_17 rfl q6 (ib_in q7) eb8 ?_
      refine vr_iload_n d_PR_write_18 rfl rfl ?_
      refine vr_aload_n d_PR_write_19 rfl rfl ?_
      obtain ⟨b9, eb9, h⟩ := l_rf h
      refine vr_getR (b := b9) d_PR_write_20 F_PR_21 rfl q3 eb9 ?_
      have q10 := (l_chk h).1
      replace h := (l_chk h).2
      obtain ⟨v11, s11, c11, n11, ev11, r11, x11, y11, hh11, hz⟩ := l_calAI h
      clear h
      cases hz
      have h := hh11
      have h111 : c11 ≤ cb := by have hz : x11 + c11 ≤ cb := hc; omega
      have h211 : n11 ≤ sb := by have hz : y11 + n11 ≤ sb := hs; omega
      replace hc : x11 ≤ cb - c11 := by have hz : x11 + c11 ≤ cb := hc; omega
      replace hs : y11 ≤ sb - n11 := by have hz : y11 + n11 ≤ sb := hs; omega
      refine mh_callIa 6 [.ref b8, .int x2, .ref b9] d_PR_write_23 C_PR_120 (c_WR_compose ev11) q10 rfl rfl rfl (Nat.le_of_ble_eq_true rfl) (by decide) (Nat.le_of_ble_eq_true rfl) h111 h211 ?_
      refine vr_if_ne (tgt := 31) d_PR_write_26 (by decide) (fun c26 => ?_) (fun c26 => ?_)
      · replace h := l_ifn c26 h
        refine vr_aload_n d_PR_write_31 rfl rfl ?_
        have q12 := (l_chk h).1
        replace h := (l_chk h).2
        obtain ⟨b13, eb13, h⟩ := l_rf h
        refine vr_getR (b := b13) d_PR_write_32 F_PR_21 rfl q12 eb13 ?_
        refine vr_astore_n (L' := [some (.ref a0), some (.int x1), some (.int x2), some (.ref b13)]) d_PR_write_35 rfl (by decide) rfl ?_
        refine vr_aload_n d_PR_write_36 rfl rfl ?_
        refine vr_aload_n d_PR_write_37 rfl rfl ?_
        obtain ⟨b14, eb14, h⟩ := l_rf h
        refine vr_getR (b := b14) d_PR_write_38 F_PR_18 rfl q12 eb14 ?_
        refine vr_putR d_PR_write_41 W_PR_write_21 rfl rfl rfl q12 ?_
        refine vr_aload_n d_PR_write_44 rfl rfl ?_
        refine vr_aload_n d_PR_write_45 rfl rfl ?_
        refine vr_putR d_PR_write_46 W_PR_write_18 rfl rfl rfl q12 ?_
        refine vr_aload_n d_PR_write_49 rfl rfl ?_
        obtain ⟨b15, eb15, h⟩ := l_rf h
        refine vr_getR (b := b15) d_PR_write_50 F_PR_18 rfl q12 eb15 ?_
        have q16 := (l_chk h).1
        replace h := (l_chk h).2
        refine vr_getI d_PR_write_53 F_PR_70 rfl q16 ?_
        obtain ⟨v17, ev17, h⟩ := l_bnd h
        refine vr_nm ev17 ?_
        cases h
        exact vr_iret d_PR_write_56 rfl rfl ⟨rfl, rfl⟩
      · replace h := l_ifp c26 h
        refine vr_iconst (-1) d_PR_write_29 (by decide) ?_
        cases h
        exact vr_iret d_PR_write_30 rfl rfl ⟨rfl, rfl⟩
  exact mv_entry (L := [some (.ref a0), some (.int x1), some (.int x2), none]) rfl rfl (Nat.le_of_ble_eq_true rfl) rfl (key _ _ (Nat.le_refl _) (Nat.le_refl _))

def f_PR_written (N : Nat) (a0 : Nat) (x1 : Int32) (σ : mh_H) : Option (Int32 × mh_H) := chk (hT σ a0 = 15) <| rfO (hR σ 7 1 a0) fun b2 => chk (hT σ b2 = 1) <| calI (f_BR_byteAt N b2 x1 σ) fun v4 s4 => some (v4, s4)
theorem c_PR_written {g : mv_G} {N : Nat} {a0 : Nat} {x1 : Int32} {σ : mh_H} {r : Int32 × mh_H} (h : f_PR_written N a0 x1 σ = some r) : mv_Met g M_PR_written 1 21 0 0 [.ref a0, .int x1] σ (fun oc τ => τ = r.2 ∧ oc = .returned (some (.int r.1))) := by
  refine mv_entry (L := [some (.ref a0), some (.int x1)]) rfl rfl (Nat.le_of_ble_eq_true rfl) rfl ?_
  unfold f_PR_written at h
  refine vr_aload_n d_PR_written_0 rfl rfl ?_
  have q1 := (l_chk h).1
  replace h := (l_chk h).2
  obtain ⟨b2, eb2, h⟩ := l_rf h
  refine vr_getR (b := b2) d_PR_written_1 F_PR_18 rfl q1 eb2 ?_
  refine vr_iload_n d_PR_written_4 rfl rfl ?_
  have q3 := (l_chk h).1
  replace h := (l_chk h).2
  obtain ⟨v4, s4, ev4, h⟩ := l_calI h
  refine mh_callI 0 [.int x1] d_PR_written_5 C_PR_124 (c_BR_byteAt ev4) q3 rfl rfl rfl (Nat.le_of_ble_eq_true rfl) (by decide) (Nat.le_of_ble_eq_true rfl) ?_
  cases h
  exact vr_iret d_PR_written_8 rfl rfl ⟨rfl, rfl⟩

def f_PR_again (N : Nat) (a0 : Nat) (σ : mh_H) : Option ((Int32 × mh_H) × Nat × Nat) := chk (hT σ a0 = 15) <| rfO (hR σ 7 0 a0) fun b2 => rfO (hR σ 7 1 a0) fun b3 => chk (hT σ b2 = 1) <| calA (f_BR_copy N b2 b3 σ) fun s5 => chk (hT s5 a0 = 15) <| rfO (hR s5 7 0 a0) fun b7 => chk (hT s5 b7 = 1) <| some (((hI s5 0 1 b7), s5), 0, 0)
theorem c_PR_again {g : mv_G} {N : Nat} {a0 : Nat} {σ : mh_H} {r : (Int32 × mh_H) × Nat × Nat} (h : f_PR_again N a0 σ = some r) : mv_Met g M_PR_again 10 209 r.2.1 r.2.2 [.ref a0] σ (fun oc τ => τ = r.1.2 ∧ oc = .returned (some (.int r.1.1))) := by
  have key : ∀ cb sb : Nat, r.2.1 ≤ cb → r.2.2 ≤ sb → mv_V g M_PR_again 10 209 cb sb 0 [some (.ref a0)] [] σ (fun oc τ => τ = r.1.2 ∧ oc = .returned (some (.int r.1.1))) := by
    intro cb sb hc hs
    unfold f_PR_again at h
    refine vr_aload_n d_PR_again_0 rfl rfl ?_
    have q1 := (l_chk h).1
    replace h := (l_chk h).2
    obtain ⟨b2, eb2, h⟩ := l_rf h
    refine vr_getR (b := b2) d_PR_again_1 F_PR_14 rfl q1 eb2 ?_
    refine vr_aload_n d_PR_again_4 rfl rfl ?_
    obtain ⟨b3, eb3, h⟩ := l_rf h
    refine vr_getR (b := b3) d_PR_again_5 F_PR_18 rfl q1 eb3 ?_
    have q4 := (l_chk h).1
    replace h := (l_chk h).2
    obtain ⟨s5, c5, n5, ev5, r5, x5, y5, hh5, hz⟩ := l_calA h
    clear h
    cases hz
    have h := hh5
    have h15 : c5 ≤ cb := by have hz : x5 + c5 ≤ cb := hc; omega
    have h25 : n5 ≤ sb := by have hz : y5 + n5 ≤ sb := hs; omega
    replace hc : x5 ≤ cb - c5 := by have hz : x5 + c5 ≤ cb := hc; omega
    replace hs : y5 ≤ sb - n5 := by have hz : y5 + n5 ≤ sb := hs; omega
    refine mh_callUa 0 [.ref b3] d_PR_again_8 C_PR_127 (c_BR_copy ev5) q4 rfl rfl rfl (Nat.le_of_ble_eq_true rfl) (by decide) (Nat.le_of_ble_eq_true rfl) h15 h25 ?_
    refine vr_aload_n d_PR_again_11 rfl rfl ?_
    have q6 := (l_chk h).1
    replace h := (l_chk h).2
    obtain ⟨b7, eb7, h⟩ := l_rf h
    refine vr_getR (b := b7) d_PR_again_12 F_PR_14 rfl q6 eb7 ?_
    have q8 := (l_chk h).1
    replace h := (l_chk h).2
    refine vr_getI d_PR_again_15 F_PR_70 rfl q8 ?_
    cases h
    exact vr_iret d_PR_again_18 rfl rfl ⟨rfl, rfl⟩
  exact mv_entry (L := [some (.ref a0)]) rfl rfl (Nat.le_of_ble_eq_true rfl) rfl (key _ _ (Nat.le_refl _) (Nat.le_refl _))

def f_PR_same (N : Nat) (a0 : Nat) (σ : mh_H) : Option (Int32 × mh_H) := chk (hT σ a0 = 15) <| rfO (hR σ 7 8 a0) fun b2 => chk (hT σ b2 = 6) <| chk (ib 0 (hN σ b2)) <| rfO (hQ σ b2 (Int32.toNatClampNeg 0)) fun b5 => chk (ib 1 (hN σ b2)) <| rfO (hQ σ b2 (Int32.toNatClampNeg 1)) fun b7 => chk (hT σ b5 = 11) <| calI (f_TR_matches N b5 b7 σ) fun v9 s9 => chk (v9 = 0 ∨ v9 = 1) <| some (v9, s9)
theorem c_PR_same {g : mv_G} {N : Nat} {a0 : Nat} {σ : mh_H} {r : Int32 × mh_H} (h : f_PR_same N a0 σ = some r) : mv_Met g M_PR_same 1 22 0 0 [.ref a0] σ (fun oc τ => τ = r.2 ∧ oc = .returned (some (.int r.1))) := by
  refine mv_entry (L := [some (.ref a0)]) rfl rfl (Nat.le_of_ble_eq_true rfl) rfl ?_
  unfold f_PR_same at h
  refine vr_aload_n d_PR_same_0 rfl rfl ?_
  have q1 := (l_chk h).1
  replace h := (l_chk h).2
  obtain ⟨b2, eb2, h⟩ := l_rf h
  refine vr_getR (b := b2) d_PR_same_1 F_PR_65 rfl q1 eb2 ?_
  refine vr_iconst 0 d_PR_same_4 (by decide) ?_
  have q3 := (l_chk h).1
  replace h := (l_chk h).2
  have q4 := (l_chk h).1
  replace h := (l_chk h).2
  obtain ⟨b5, eb5, h⟩ := l_rf h
  refine vr_aald (t := 2) d_PR_same_5 rfl q3 (ib_in q4) eb5 ?_
  refine vr_aload_n d_PR_same_6 rfl rfl ?_
  refine vr_getR (b := b2) d_PR_same_7 F_PR_65 rfl q1 eb2 ?_
  refine vr_iconst 1 d_PR_same_10 (by decide) ?_
  have q6 := (l_chk h).1
  replace h := (l_chk h).2
  obtain ⟨b7, eb7, h⟩ := l_rf h
  refine vr_aald (t := 2) d_PR_same_11 rfl q3 (ib_in q6) eb7 ?_
  have q8 := (l_chk h).1
  replace h := (l_chk h).2
  obtain ⟨v9, s9, ev9, h⟩ := l_calI h
  refine mh_callI 5 [.ref b7] d_PR_same_12 C_PR_131 (c_TR_matches ev9) q8 rfl rfl rfl (Nat.le_of_ble_eq_true rfl) (by decide) (Nat.le_of_ble_eq_true rfl) ?_
  have q10 := (l_chk h).1
  replace h := (l_chk h).2
  cases h
  exact vr_iret d_PR_same_15 rfl (l_narZ q10) ⟨rfl, rfl⟩

