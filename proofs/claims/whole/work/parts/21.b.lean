/-! THE CLASS'S PARSER: where it stands, what it has drafted -/
abbrev Ent : Type := Int32 × Int32 × Int32 × Int32
def pA (A : Nat → Nat → Int32) (dk dp dv dz : Nat) (ds : List Ent) : Nat → Nat → Int32 := fun b i => match ds[i]? with
  | none => A b i
  | some e => if b = dk then e.1 else if b = dp then e.2.1 else if b = dv then e.2.2.1 else if b = dz then e.2.2.2 else A b i
def pz (σ : mh_H) (ap dd dk dp dv dz q : Nat) (ds : List Ent) : mh_H := (hT σ, (fun k j a => if k = 3 ∧ j = 2 ∧ a = ap then nI q else if k = 1 ∧ j = 4 ∧ a = dd then nI ds.length else hI σ k j a), hR σ, pA (hA σ) dk dp dv dz ds, hQ σ, hN σ, hX σ)
def PE (σ : mh_H) (ap dd tt bk bp bv dk dp dv dz n room : Nat) (tk tp : Nat → Nat) (tv : Nat → Int32) : Prop :=
  (hT σ ap = 7 ∧ hT σ dd = 3 ∧ hT σ tt = 9) ∧ (hT σ bk = 2 ∧ hT σ bp = 2 ∧ hT σ bv = 2 ∧ hT σ dk = 2 ∧ hT σ dp = 2 ∧ hT σ dv = 2 ∧ hT σ dz = 2) ∧
  (hR σ 3 0 ap = some tt ∧ hR σ 3 1 ap = some dd) ∧ (hR σ 4 2 tt = some bk ∧ hR σ 4 3 tt = some bp ∧ hR σ 4 4 tt = some bv) ∧ (hR σ 1 0 dd = some dk ∧ hR σ 1 1 dd = some dp ∧ hR σ 1 2 dd = some dv ∧ hR σ 1 3 dd = some dz) ∧
  (hN σ dk = room ∧ hN σ dp = room ∧ hN σ dv = room ∧ hN σ dz = room) ∧ (n ≤ hN σ bk ∧ n ≤ hN σ bp ∧ n ≤ hN σ bv) ∧ hI σ 4 5 tt = nI n ∧
  (dk ≠ dp ∧ dk ≠ dv ∧ dk ≠ dz ∧ dp ≠ dv ∧ dp ≠ dz ∧ dv ≠ dz) ∧ (bk ≠ dk ∧ bk ≠ dp ∧ bk ≠ dv ∧ bk ≠ dz) ∧ (bp ≠ dk ∧ bp ≠ dp ∧ bp ≠ dv ∧ bp ≠ dz) ∧ (bv ≠ dk ∧ bv ≠ dp ∧ bv ≠ dv ∧ bv ≠ dz) ∧
  (∀ i, i < n → hA σ bk i = nI (tk i) ∧ hA σ bp i = nI (tp i) ∧ hA σ bv i = tv i ∧ tk i < 35) ∧ n < 10000 ∧ room < 100000 ∧ 2 * n < room ∧ ∀ i, i < n → tk i ≠ 0 → i + 1 < n
section PARSER
variable {σ : mh_H} {ap dd tt bk bp bv dk dp dv dz n room : Nat} {tk : Nat → Nat} {tp : Nat → Nat} {tv : Nat → Int32} {N q : Nat} {ds : List Ent}
theorem pA_o {A : Nat → Nat → Int32} {b : Nat} (h1 : b ≠ dk) (h2 : b ≠ dp) (h3 : b ≠ dv) (h4 : b ≠ dz) (i : Nat) : pA A dk dp dv dz ds b i = A b i := by
  unfold pA; split
  · rfl
  · simp [h1, h2, h3, h4]
theorem pz_T : hT (pz σ ap dd dk dp dv dz q ds) = hT σ := rfl
theorem pz_R : hR (pz σ ap dd dk dp dv dz q ds) = hR σ := rfl
theorem pz_N : hN (pz σ ap dd dk dp dv dz q ds) = hN σ := rfl
theorem pz_X : hX (pz σ ap dd dk dp dv dz q ds) = hX σ := rfl
theorem pz_A : hA (pz σ ap dd dk dp dv dz q ds) = pA (hA σ) dk dp dv dz ds := rfl
theorem pz_33 : hI (pz σ ap dd dk dp dv dz q ds) 3 2 ap = nI q := by simp [hI, pz]
theorem pz_14 : hI (pz σ ap dd dk dp dv dz q ds) 1 4 dd = nI ds.length := by simp [hI, pz]
theorem pz_45 : hI (pz σ ap dd dk dp dv dz q ds) 4 5 tt = hI σ 4 5 tt := by simp [hI, pz]
theorem p_add {k p v z : Int32} (h : PE σ ap dd tt bk bp bv dk dp dv dz n room tk tp tv) (hd : ds.length < room) : f_DR_add N dd k p v z (pz σ ap dd dk dp dv dz q ds) = some (pz σ ap dd dk dp dv dz q (ds ++ [(k, p, v, z)])) := by
  obtain ⟨⟨a1, a2, a3⟩, ⟨a4, a5, a6, a7, a8, a9, a10⟩, ⟨c1, c2⟩, ⟨c4, c5, c6⟩, ⟨c7, c8, c9, c10⟩, ⟨e1, e2, e3, e4⟩, ⟨e5, e6, e7⟩, e8, ⟨g1, g2, g3, g4, g5, g6⟩, ⟨g7, g8, g9, g10⟩, ⟨g11, g12, g13, g14⟩, ⟨g15, g16, g17, g18⟩, e9, e10, e11, e12, e13⟩ := h
  simp (disch := omega) only [f_DR_add, e_chkT,e_bnd,e_calI,e_calV,e_calP,e_rfO,e_calT,e_calTt, gT_setI,gR_setI,gA_setI,gQ_setI,gN_setI,gX_setI,gT_setR,gI_setR,gA_setR,gQ_setR,gN_setR,gX_setR,gT_setA,gI_setA,gR_setA,gQ_setA,gN_setA,gX_setA,gT_setQ,gI_setQ,gR_setQ,gA_setQ,gN_setQ,gX_setQ,gT_cpy,gI_cpy,gR_cpy,gQ_cpy,gN_cpy,gX_cpy,gI_setI,gR_setR,gA_setA,gA_cpy, pz_T, pz_R, pz_N, pz_14, a2, a7, a8, a9, a10, c7, c8, c9, c10, e1, e2, e3, e4, e_chk, n_le, n_ib, n_nat]
  rw [if_neg (by omega)]
  refine congrArg some (mh_ext rfl (fun k' j' a' => ?_) (fun _ _ _ => rfl) (fun b i => ?_) rfl rfl rfl)
  · simp only [gT_setI,gR_setI,gA_setI,gQ_setI,gN_setI,gX_setI,gT_setR,gI_setR,gA_setR,gQ_setR,gN_setR,gX_setR,gT_setA,gI_setA,gR_setA,gQ_setA,gN_setA,gX_setA,gT_setQ,gI_setQ,gR_setQ,gA_setQ,gN_setQ,gX_setQ,gT_cpy,gI_cpy,gR_cpy,gQ_cpy,gN_cpy,gX_cpy,gI_setI,gR_setR,gA_setA,gA_cpy]
    simp only [hI, pz, List.length_append, List.length_cons, List.length_nil]
    by_cases h1 : k' = 1 ∧ j' = 4 ∧ a' = dd
    · obtain ⟨rfl, rfl, rfl⟩ := h1; simp only [lit, n_add]; simp
    · simp [h1]
  · simp only [gT_setI,gR_setI,gA_setI,gQ_setI,gN_setI,gX_setI,gT_setR,gI_setR,gA_setR,gQ_setR,gN_setR,gX_setR,gT_setA,gI_setA,gR_setA,gQ_setA,gN_setA,gX_setA,gT_setQ,gI_setQ,gR_setQ,gA_setQ,gN_setQ,gX_setQ,gT_cpy,gI_cpy,gR_cpy,gQ_cpy,gN_cpy,gX_cpy,gI_setI,gR_setR,gA_setA,gA_cpy, pz_A]
    by_cases hi : i = ds.length
    · subst hi
      simp only [pA, List.getElem?_append_right (Nat.le_refl _), Nat.sub_self, List.getElem?_cons_zero, List.getElem?_eq_none (Nat.le_refl _), and_true]
      by_cases h1 : b = dk
      · subst h1; simp [g1, g2, g3]
      · by_cases h2 : b = dp
        · subst h2; simp [h1, g4, g5]
        · by_cases h3 : b = dv
          · subst h3; simp [h1, h2, g6]
          · simp [h1, h2, h3]
    · have e : (ds ++ [(k, p, v, z)])[i]? = ds[i]? := by
        rcases Nat.lt_or_ge i ds.length with h | h
        · rw [List.getElem?_append_left h]
        · rw [List.getElem?_eq_none h, List.getElem?_eq_none (by simp; omega)]
      simp only [pA, e, hi, and_false, if_false]
theorem pz_k (h : PE σ ap dd tt bk bp bv dk dp dv dz n room tk tp tv) (hq : q < n) (q' : Nat) : hA (pz σ ap dd dk dp dv dz q' ds) bk q = nI (tk q) := by
  obtain ⟨⟨a1, a2, a3⟩, ⟨a4, a5, a6, a7, a8, a9, a10⟩, ⟨c1, c2⟩, ⟨c4, c5, c6⟩, ⟨c7, c8, c9, c10⟩, ⟨e1, e2, e3, e4⟩, ⟨e5, e6, e7⟩, e8, ⟨g1, g2, g3, g4, g5, g6⟩, ⟨g7, g8, g9, g10⟩, ⟨g11, g12, g13, g14⟩, ⟨g15, g16, g17, g18⟩, e9, e10, e11, e12, e13⟩ := h
  rw [pz_A, pA_o g7 g8 g9 g10]; exact (e9 q hq).1
theorem pz_p (h : PE σ ap dd tt bk bp bv dk dp dv dz n room tk tp tv) (hq : q < n) (q' : Nat) : hA (pz σ ap dd dk dp dv dz q' ds) bp q = nI (tp q) := by
  obtain ⟨⟨a1, a2, a3⟩, ⟨a4, a5, a6, a7, a8, a9, a10⟩, ⟨c1, c2⟩, ⟨c4, c5, c6⟩, ⟨c7, c8, c9, c10⟩, ⟨e1, e2, e3, e4⟩, ⟨e5, e6, e7⟩, e8, ⟨g1, g2, g3, g4, g5, g6⟩, ⟨g7, g8, g9, g10⟩, ⟨g11, g12, g13, g14⟩, ⟨g15, g16, g17, g18⟩, e9, e10, e11, e12, e13⟩ := h
  rw [pz_A, pA_o g11 g12 g13 g14]; exact (e9 q hq).2.1
theorem pz_v (h : PE σ ap dd tt bk bp bv dk dp dv dz n room tk tp tv) (hq : q < n) (q' : Nat) : hA (pz σ ap dd dk dp dv dz q' ds) bv q = tv q := by
  obtain ⟨⟨a1, a2, a3⟩, ⟨a4, a5, a6, a7, a8, a9, a10⟩, ⟨c1, c2⟩, ⟨c4, c5, c6⟩, ⟨c7, c8, c9, c10⟩, ⟨e1, e2, e3, e4⟩, ⟨e5, e6, e7⟩, e8, ⟨g1, g2, g3, g4, g5, g6⟩, ⟨g7, g8, g9, g10⟩, ⟨g11, g12, g13, g14⟩, ⟨g15, g16, g17, g18⟩, e9, e10, e11, e12, e13⟩ := h
  rw [pz_A, pA_o g15 g16 g17 g18]; exact (e9 q hq).2.2.1
theorem pz_set {v : Int32} {q' : Nat} (hv : v = nI q') : mh_setI (pz σ ap dd dk dp dv dz q ds) 3 2 ap v = pz σ ap dd dk dp dv dz q' ds := by
  subst hv
  refine mh_ext rfl (fun k' j' a' => ?_) (fun _ _ _ => rfl) (fun b i => rfl) rfl rfl rfl
  simp only [gT_setI,gR_setI,gA_setI,gQ_setI,gN_setI,gX_setI,gT_setR,gI_setR,gA_setR,gQ_setR,gN_setR,gX_setR,gT_setA,gI_setA,gR_setA,gQ_setA,gN_setA,gX_setA,gT_setQ,gI_setQ,gR_setQ,gA_setQ,gN_setQ,gX_setQ,gT_cpy,gI_cpy,gR_cpy,gQ_cpy,gN_cpy,gX_cpy,gI_setI,gR_setR,gA_setA,gA_cpy]
  simp only [hI, pz]
  by_cases h1 : k' = 3 ∧ j' = 2 ∧ a' = ap
  · simp [h1]
  · simp [h1]
theorem p_kindAt {i : Nat} (h : PE σ ap dd tt bk bp bv dk dp dv dz n room tk tp tv) (hi : i < 20000) : f_TO_kindAt N tt (nI i) (pz σ ap dd dk dp dv dz q ds) = some (if i < n then nI (tk i) else 0, pz σ ap dd dk dp dv dz q ds) := by
  have hk := fun (hq : i < n) => pz_k (q' := q) (ds := ds) h hq
  obtain ⟨⟨a1, a2, a3⟩, ⟨a4, a5, a6, a7, a8, a9, a10⟩, ⟨c1, c2⟩, ⟨c4, c5, c6⟩, ⟨c7, c8, c9, c10⟩, ⟨e1, e2, e3, e4⟩, ⟨e5, e6, e7⟩, e8, ⟨g1, g2, g3, g4, g5, g6⟩, ⟨g7, g8, g9, g10⟩, ⟨g11, g12, g13, g14⟩, ⟨g15, g16, g17, g18⟩, e9, e10, e11, e12, e13⟩ := h
  simp (disch := omega) only [f_TO_kindAt, e_chkT,e_bnd,e_calI,e_calV,e_calP,e_rfO,e_calT,e_calTt, pz_T, pz_R, pz_N, pz_45, a3, a4, c4, e8, lit,n_add,n_le,n_lt,n_eq,n_nat,n_ib]
  rw [if_neg (by omega)]
  by_cases hi : i < n
  · rw [if_neg (by omega), if_pos hi, hk hi, e_chk (by omega)]
  · rw [if_pos (by omega), if_neg hi]
theorem p_ka {i : Nat} (h : PE σ ap dd tt bk bp bv dk dp dv dz n room tk tp tv) (hi : i < n) : f_TO_kindAt N tt (nI i) (pz σ ap dd dk dp dv dz q ds) = some (nI (tk i), pz σ ap dd dk dp dv dz q ds) := by
  rw [p_kindAt h (by obtain ⟨⟨a1, a2, a3⟩, ⟨a4, a5, a6, a7, a8, a9, a10⟩, ⟨c1, c2⟩, ⟨c4, c5, c6⟩, ⟨c7, c8, c9, c10⟩, ⟨e1, e2, e3, e4⟩, ⟨e5, e6, e7⟩, e8, ⟨g1, g2, g3, g4, g5, g6⟩, ⟨g7, g8, g9, g10⟩, ⟨g11, g12, g13, g14⟩, ⟨g15, g16, g17, g18⟩, e9, e10, e11, e12, e13⟩ := h; omega), if_pos hi]
theorem p_pa {i : Nat} (h : PE σ ap dd tt bk bp bv dk dp dv dz n room tk tp tv) (hi : i < n) : f_TO_placeAt N tt (nI i) (pz σ ap dd dk dp dv dz q ds) = some (nI (tp i), pz σ ap dd dk dp dv dz q ds) := by
  have hk := pz_p (q' := q) (ds := ds) h hi
  obtain ⟨⟨a1, a2, a3⟩, ⟨a4, a5, a6, a7, a8, a9, a10⟩, ⟨c1, c2⟩, ⟨c4, c5, c6⟩, ⟨c7, c8, c9, c10⟩, ⟨e1, e2, e3, e4⟩, ⟨e5, e6, e7⟩, e8, ⟨g1, g2, g3, g4, g5, g6⟩, ⟨g7, g8, g9, g10⟩, ⟨g11, g12, g13, g14⟩, ⟨g15, g16, g17, g18⟩, e9, e10, e11, e12, e13⟩ := h
  simp (disch := omega) only [f_TO_placeAt, e_chkT,e_bnd,e_calI,e_calV,e_calP,e_rfO,e_calT,e_calTt, pz_T, pz_R, pz_N, pz_45, a3, a5, c5, e8, lit,n_add,n_le,n_lt,n_eq,n_nat,n_ib]
  rw [if_neg (by omega), if_neg (by omega), hk, e_chk (by omega)]
theorem p_va {i : Nat} (h : PE σ ap dd tt bk bp bv dk dp dv dz n room tk tp tv) (hi : i < n) : f_TO_valueAt N tt (nI i) (pz σ ap dd dk dp dv dz q ds) = some (tv i, pz σ ap dd dk dp dv dz q ds) := by
  have hk := pz_v (q' := q) (ds := ds) h hi
  obtain ⟨⟨a1, a2, a3⟩, ⟨a4, a5, a6, a7, a8, a9, a10⟩, ⟨c1, c2⟩, ⟨c4, c5, c6⟩, ⟨c7, c8, c9, c10⟩, ⟨e1, e2, e3, e4⟩, ⟨e5, e6, e7⟩, e8, ⟨g1, g2, g3, g4, g5, g6⟩, ⟨g7, g8, g9, g10⟩, ⟨g11, g12, g13, g14⟩, ⟨g15, g16, g17, g18⟩, e9, e10, e11, e12, e13⟩ := h
  simp (disch := omega) only [f_TO_valueAt, e_chkT,e_bnd,e_calI,e_calV,e_calP,e_rfO,e_calT,e_calTt, pz_T, pz_R, pz_N, pz_45, a3, a6, c6, e8, lit,n_add,n_le,n_lt,n_eq,n_nat,n_ib]
  rw [if_neg (by omega), if_neg (by omega), hk, e_chk (by omega)]
theorem p_kaC (h : PE σ ap dd tt bk bp bv dk dp dv dz n room tk tp tv) (hq : q < n) : f_TO_kindAt N tt (hI (pz σ ap dd dk dp dv dz q ds) 3 2 ap) (pz σ ap dd dk dp dv dz q ds) = some (nI (tk q), pz σ ap dd dk dp dv dz q ds) := by rw [pz_33]; exact p_ka h hq
theorem p_paC (h : PE σ ap dd tt bk bp bv dk dp dv dz n room tk tp tv) (hq : q < n) : f_TO_placeAt N tt (hI (pz σ ap dd dk dp dv dz q ds) 3 2 ap) (pz σ ap dd dk dp dv dz q ds) = some (nI (tp q), pz σ ap dd dk dp dv dz q ds) := by rw [pz_33]; exact p_pa h hq
theorem p_vaC (h : PE σ ap dd tt bk bp bv dk dp dv dz n room tk tp tv) (hq : q < n) : f_TO_valueAt N tt (hI (pz σ ap dd dk dp dv dz q ds) 3 2 ap) (pz σ ap dd dk dp dv dz q ds) = some (tv q, pz σ ap dd dk dp dv dz q ds) := by rw [pz_33]; exact p_va h hq
theorem p_isAt {b c : Nat} (h : PE σ ap dd tt bk bp bv dk dp dv dz n room tk tp tv) (hq : q < n) (hb : b < 1000) (hc : c < 1000) : f_PA_isAt N ap (nI b) (nI c) (pz σ ap dd dk dp dv dz q ds) = some (if b ≤ tk q ∧ tk q ≤ c then 1 else 0, pz σ ap dd dk dp dv dz q ds) := by
  have hk := p_kaC (N := N) (ds := ds) h hq
  obtain ⟨⟨a1, a2, a3⟩, ⟨a4, a5, a6, a7, a8, a9, a10⟩, ⟨c1, c2⟩, ⟨c4, c5, c6⟩, ⟨c7, c8, c9, c10⟩, ⟨e1, e2, e3, e4⟩, ⟨e5, e6, e7⟩, e8, ⟨g1, g2, g3, g4, g5, g6⟩, ⟨g7, g8, g9, g10⟩, ⟨g11, g12, g13, g14⟩, ⟨g15, g16, g17, g18⟩, e9, e10, e11, e12, e13⟩ := h
  have ht := (e9 q hq).2.2.2
  simp (disch := omega) only [f_PA_isAt, e_chkT,e_bnd,e_calI,e_calV,e_calP,e_rfO,e_calT,e_calTt, pz_T, pz_R, a1, a3, c1, hk, n_lt]
  by_cases h1 : tk q < b
  · rw [if_pos h1, if_neg (by omega)]
  · rw [if_neg h1]
    by_cases h2 : c < tk q
    · rw [if_pos h2, if_neg (by omega)]
    · rw [if_neg h2, if_pos (by omega)]
theorem p_refuse {s : mh_H} : f_PA_refuse N ap s = some (true, 0, mh_new s 9) := rfl
theorem p_take {j : Nat} (h : PE σ ap dd tt bk bp bv dk dp dv dz n room tk tp tv) (hq : q < n) (hj : j < 1000) : f_PA_take N ap (nI j) (pz σ ap dd dk dp dv dz q ds) = if tk q = j then some (false, 0, pz σ ap dd dk dp dv dz (q + 1) ds) else some (true, 0, mh_new (pz σ ap dd dk dp dv dz q ds) 9) := by
  have hka := p_ka (N := N) (q := q) (ds := ds) h hq
  have hpa := p_pa (N := N) (q := q) (ds := ds) h hq
  have hva := p_va (N := N) (q := q) (ds := ds) h hq
  have hk := pz_k (q' := q) (ds := ds) h hq
  have hp := pz_p (q' := q) (ds := ds) h hq
  have hv := pz_v (q' := q) (ds := ds) h hq
  obtain ⟨⟨a1, a2, a3⟩, ⟨a4, a5, a6, a7, a8, a9, a10⟩, ⟨c1, c2⟩, ⟨c4, c5, c6⟩, ⟨c7, c8, c9, c10⟩, ⟨e1, e2, e3, e4⟩, ⟨e5, e6, e7⟩, e8, ⟨g1, g2, g3, g4, g5, g6⟩, ⟨g7, g8, g9, g10⟩, ⟨g11, g12, g13, g14⟩, ⟨g15, g16, g17, g18⟩, e9, e10, e11, e12, e13⟩ := h
  have ht := (e9 q hq).2.2.2
  have hb1 : q < hN σ bk := by omega
  have hb2 : q < hN σ bp := by omega
  have hb3 : q < hN σ bv := by omega
  have hs : mh_setI (pz σ ap dd dk dp dv dz q ds) 3 2 ap (nI (q + 1)) = pz σ ap dd dk dp dv dz (q + 1) ds := pz_set rfl
  simp (disch := omega) only [f_PA_take, k_PA_take_19, p_refuse, e_chkT,e_bnd,e_calI,e_calV,e_calP,e_rfO,e_calT,e_calTt, pz_T, pz_R, pz_N, pz_33, a1, a3, c1, lit,n_add,n_le,n_lt,n_eq,n_nat,n_ib, hka, hs]
theorem p_skip {j : Nat} (h : PE σ ap dd tt bk bp bv dk dp dv dz n room tk tp tv) (hq : q < n) (hj : j < 1000) : f_PA_skip N ap (nI j) (pz σ ap dd dk dp dv dz q ds) = if tk q = j then some (1, pz σ ap dd dk dp dv dz (q + 1) ds) else some (0, pz σ ap dd dk dp dv dz q ds) := by
  have hka := p_ka (N := N) (q := q) (ds := ds) h hq
  have hpa := p_pa (N := N) (q := q) (ds := ds) h hq
  have hva := p_va (N := N) (q := q) (ds := ds) h hq
  have hk := pz_k (q' := q) (ds := ds) h hq
  have hp := pz_p (q' := q) (ds := ds) h hq
  have hv := pz_v (q' := q) (ds := ds) h hq
  obtain ⟨⟨a1, a2, a3⟩, ⟨a4, a5, a6, a7, a8, a9, a10⟩, ⟨c1, c2⟩, ⟨c4, c5, c6⟩, ⟨c7, c8, c9, c10⟩, ⟨e1, e2, e3, e4⟩, ⟨e5, e6, e7⟩, e8, ⟨g1, g2, g3, g4, g5, g6⟩, ⟨g7, g8, g9, g10⟩, ⟨g11, g12, g13, g14⟩, ⟨g15, g16, g17, g18⟩, e9, e10, e11, e12, e13⟩ := h
  have ht := (e9 q hq).2.2.2
  have hb1 : q < hN σ bk := by omega
  have hb2 : q < hN σ bp := by omega
  have hb3 : q < hN σ bv := by omega
  have hs : mh_setI (pz σ ap dd dk dp dv dz q ds) 3 2 ap (nI (q + 1)) = pz σ ap dd dk dp dv dz (q + 1) ds := pz_set rfl
  simp (disch := omega) only [f_PA_skip, e_chkT,e_bnd,e_calI,e_calV,e_calP,e_rfO,e_calT,e_calTt, pz_T, pz_R, pz_N, pz_33, a1, a3, c1, lit,n_add,n_le,n_lt,n_eq,n_nat,n_ib, hka, hs]
theorem p_finish {k p : Int32} {b : Nat} (h : PE σ ap dd tt bk bp bv dk dp dv dz n room tk tp tv) (hd : ds.length < room) (hb : b ≤ ds.length) : f_PA_finish N ap k p (nI b) (pz σ ap dd dk dp dv dz q ds) = some (pz σ ap dd dk dp dv dz q (ds ++ [(k, p, 0, nI (ds.length - b + 1))])) := by
  have ha := fun z => p_add (N := N) (q := q) (k := k) (p := p) (v := 0) (z := z) h hd
  obtain ⟨⟨a1, a2, a3⟩, ⟨a4, a5, a6, a7, a8, a9, a10⟩, ⟨c1, c2⟩, ⟨c4, c5, c6⟩, ⟨c7, c8, c9, c10⟩, ⟨e1, e2, e3, e4⟩, ⟨e5, e6, e7⟩, e8, ⟨g1, g2, g3, g4, g5, g6⟩, ⟨g7, g8, g9, g10⟩, ⟨g11, g12, g13, g14⟩, ⟨g15, g16, g17, g18⟩, e9, e10, e11, e12, e13⟩ := h
  simp (disch := omega) only [f_PA_finish, e_chkT,e_bnd,e_calI,e_calV,e_calP,e_rfO,e_calT,e_calTt, pz_T, pz_R, pz_N, pz_14, a1, a2, c2, ha, n_sub]
  rw [← n_add]; rfl
theorem p_name (h : PE σ ap dd tt bk bp bv dk dp dv dz n room tk tp tv) (hq : q < n) (hd : ds.length < room) : f_PA_name N ap (pz σ ap dd dk dp dv dz q ds) = if tk q = 2 then some (false, 0, pz σ ap dd dk dp dv dz (q + 1) (ds ++ [(13, nI (tp q), 0, 1)])) else some (true, 0, mh_new (pz σ ap dd dk dp dv dz q ds) 9) := by
  have ha := p_add (N := N) (q := q) (k := 13) (p := nI (tp q)) (v := 0) (z := 1) h hd
  have hka := p_ka (N := N) (q := q) (ds := ds) h hq
  have hpa := p_pa (N := N) (q := q) (ds := ds) h hq
  have hva := p_va (N := N) (q := q) (ds := ds) h hq
  have hk := pz_k (q' := q) (ds := ds) h hq
  have hp := pz_p (q' := q) (ds := ds) h hq
  have hv := pz_v (q' := q) (ds := ds) h hq
  obtain ⟨⟨a1, a2, a3⟩, ⟨a4, a5, a6, a7, a8, a9, a10⟩, ⟨c1, c2⟩, ⟨c4, c5, c6⟩, ⟨c7, c8, c9, c10⟩, ⟨e1, e2, e3, e4⟩, ⟨e5, e6, e7⟩, e8, ⟨g1, g2, g3, g4, g5, g6⟩, ⟨g7, g8, g9, g10⟩, ⟨g11, g12, g13, g14⟩, ⟨g15, g16, g17, g18⟩, e9, e10, e11, e12, e13⟩ := h
  have ht := (e9 q hq).2.2.2
  have hb1 : q < hN σ bk := by omega
  have hb2 : q < hN σ bp := by omega
  have hb3 : q < hN σ bv := by omega
  have hs : mh_setI (pz σ ap dd dk dp dv dz q ds) 3 2 ap (nI (q + 1)) = pz σ ap dd dk dp dv dz (q + 1) ds := pz_set rfl
  have hs' : mh_setI (pz σ ap dd dk dp dv dz q (ds ++ [(13, nI (tp q), 0, 1)])) 3 2 ap (nI (q + 1)) = pz σ ap dd dk dp dv dz (q + 1) (ds ++ [(13, nI (tp q), 0, 1)]) := pz_set rfl
  simp only [lit] at ha hs'
  simp (disch := omega) only [f_PA_name, k_PA_name_19, p_refuse, e_chkT,e_bnd,e_calI,e_calV,e_calP,e_rfO,e_calT,e_calTt, pz_T, pz_R, pz_N, pz_33, a1, a2, a3, c1, c2, lit,n_add,n_le,n_lt,n_eq,n_nat,n_ib, hka, hpa, ha, hs']
theorem p_number0 (h : PE σ ap dd tt bk bp bv dk dp dv dz n room tk tp tv) (hq : q < n) (hd : ds.length < room) : f_PA_number N ap 0 (pz σ ap dd dk dp dv dz q ds) = if tk q = 3 then some (false, 0, pz σ ap dd dk dp dv dz (q + 1) (ds ++ [(12, nI (tp q), 1 * tv q, 1)])) else some (true, 0, mh_new (pz σ ap dd dk dp dv dz q ds) 9) := by
  have ha := p_add (N := N) (q := q) (k := 12) (p := nI (tp q)) (v := 1 * tv q) (z := 1) h hd
  have hka := p_ka (N := N) (q := q) (ds := ds) h hq
  have hpa := p_pa (N := N) (q := q) (ds := ds) h hq
  have hva := p_va (N := N) (q := q) (ds := ds) h hq
  have hk := pz_k (q' := q) (ds := ds) h hq
  have hp := pz_p (q' := q) (ds := ds) h hq
  have hv := pz_v (q' := q) (ds := ds) h hq
  obtain ⟨⟨a1, a2, a3⟩, ⟨a4, a5, a6, a7, a8, a9, a10⟩, ⟨c1, c2⟩, ⟨c4, c5, c6⟩, ⟨c7, c8, c9, c10⟩, ⟨e1, e2, e3, e4⟩, ⟨e5, e6, e7⟩, e8, ⟨g1, g2, g3, g4, g5, g6⟩, ⟨g7, g8, g9, g10⟩, ⟨g11, g12, g13, g14⟩, ⟨g15, g16, g17, g18⟩, e9, e10, e11, e12, e13⟩ := h
  have ht := (e9 q hq).2.2.2
  have hb1 : q < hN σ bk := by omega
  have hb2 : q < hN σ bp := by omega
  have hb3 : q < hN σ bv := by omega
  have hs : mh_setI (pz σ ap dd dk dp dv dz q ds) 3 2 ap (nI (q + 1)) = pz σ ap dd dk dp dv dz (q + 1) ds := pz_set rfl
  have hs' : mh_setI (pz σ ap dd dk dp dv dz q (ds ++ [(12, nI (tp q), 1 * tv q, 1)])) 3 2 ap (nI (q + 1)) = pz σ ap dd dk dp dv dz (q + 1) (ds ++ [(12, nI (tp q), 1 * tv q, 1)]) := pz_set rfl
  simp only [lit] at ha hs'
  simp (disch := omega) only [f_PA_number, k_PA_number_46, k_PA_number_65, p_refuse, e_chkT,e_bnd,e_calI,e_calV,e_calP,e_rfO,e_calT,e_calTt, pz_T, pz_R, pz_N, pz_33, a1, a2, a3, c1, c2, lit,n_add,n_le,n_lt,n_eq,n_nat,n_ib, hka, hpa, hva, ha, hs', if_true]
theorem p_limit {d : Nat} (h : PE σ ap dd tt bk bp bv dk dp dv dz n room tk tp tv) (hd : d < 1000) : f_PA_limit N ap (nI d) (pz σ ap dd dk dp dv dz q ds) = if d ≤ 60 then some (false, 0, pz σ ap dd dk dp dv dz q ds) else some (true, 0, mh_new (pz σ ap dd dk dp dv dz q ds) 9) := by
  obtain ⟨⟨a1, a2, a3⟩, ⟨a4, a5, a6, a7, a8, a9, a10⟩, ⟨c1, c2⟩, ⟨c4, c5, c6⟩, ⟨c7, c8, c9, c10⟩, ⟨e1, e2, e3, e4⟩, ⟨e5, e6, e7⟩, e8, ⟨g1, g2, g3, g4, g5, g6⟩, ⟨g7, g8, g9, g10⟩, ⟨g11, g12, g13, g14⟩, ⟨g15, g16, g17, g18⟩, e9, e10, e11, e12, e13⟩ := h
  simp (disch := omega) only [f_PA_limit, p_refuse, e_chkT,e_bnd,e_calI,e_calV,e_calP,e_rfO,e_calT,e_calTt, pz_T, a1, lit,n_add,n_le,n_lt,n_eq,n_nat,n_ib]
theorem p_last {e : Ent} (h : PE σ ap dd tt bk bp bv dk dp dv dz n room tk tp tv) (hd : ds.length < room) : f_DR_lastPlace N dd (pz σ ap dd dk dp dv dz q (ds ++ [e])) = some (e.2.1, pz σ ap dd dk dp dv dz q (ds ++ [e])) := by
  obtain ⟨⟨a1, a2, a3⟩, ⟨a4, a5, a6, a7, a8, a9, a10⟩, ⟨c1, c2⟩, ⟨c4, c5, c6⟩, ⟨c7, c8, c9, c10⟩, ⟨e1, e2, e3, e4⟩, ⟨e5, e6, e7⟩, e8, ⟨g1, g2, g3, g4, g5, g6⟩, ⟨g7, g8, g9, g10⟩, ⟨g11, g12, g13, g14⟩, ⟨g15, g16, g17, g18⟩, e9, e10, e11, e12, e13⟩ := h
  have hl : (ds ++ [e]).length = ds.length + 1 := by simp
  have hA : hA (pz σ ap dd dk dp dv dz q (ds ++ [e])) dp ds.length = e.2.1 := by
    rw [pz_A]; simp [pA, g1.symm]
  have h1 : nI (ds.length + 1) - nI 1 = nI ds.length := n_sub (by omega)
  simp (disch := omega) only [f_DR_lastPlace, e_chkT,e_bnd,e_calI,e_calV,e_calP,e_rfO,e_calT,e_calTt, pz_T, pz_R, pz_N, pz_14, a2, a8, c8, e2, hl, lit,n_add,n_le,n_lt,n_eq,n_nat,n_ib, h1, hA, hd]
  rw [if_neg (by omega)]
theorem p_number1 (h : PE σ ap dd tt bk bp bv dk dp dv dz n room tk tp tv) (hq : q < n) (hd : ds.length < room) : f_PA_number N ap 1 (pz σ ap dd dk dp dv dz q ds) = if tk q = 23 then (if tk (q + 1) = 3 then some (false, 0, pz σ ap dd dk dp dv dz (q + 1 + 1) (ds ++ [(12, nI (tp q), -1 * tv (q + 1), 1)])) else some (true, 0, mh_new (pz σ ap dd dk dp dv dz (q + 1) ds) 9)) else if tk q = 3 then some (false, 0, pz σ ap dd dk dp dv dz (q + 1) (ds ++ [(12, nI (tp q), 1 * tv q, 1)])) else some (true, 0, mh_new (pz σ ap dd dk dp dv dz q ds) 9) := by
  have ha := p_add (N := N) (q := q) (k := 12) (p := nI (tp q)) (v := 1 * tv q) (z := 1) h hd
  have ha' := p_add (N := N) (q := q + 1) (k := 12) (p := nI (tp q)) (v := -1 * tv (q + 1)) (z := 1) h hd
  have hka' := fun (hq' : q + 1 < n) => p_ka (N := N) (q := q + 1) (ds := ds) h hq'
  have hva' := fun (hq' : q + 1 < n) => p_va (N := N) (q := q + 1) (ds := ds) h hq'
  have hka := p_ka (N := N) (q := q) (ds := ds) h hq
  have hpa := p_pa (N := N) (q := q) (ds := ds) h hq
  have hva := p_va (N := N) (q := q) (ds := ds) h hq
  have hk := pz_k (q' := q) (ds := ds) h hq
  have hp := pz_p (q' := q) (ds := ds) h hq
  have hv := pz_v (q' := q) (ds := ds) h hq
  obtain ⟨⟨a1, a2, a3⟩, ⟨a4, a5, a6, a7, a8, a9, a10⟩, ⟨c1, c2⟩, ⟨c4, c5, c6⟩, ⟨c7, c8, c9, c10⟩, ⟨e1, e2, e3, e4⟩, ⟨e5, e6, e7⟩, e8, ⟨g1, g2, g3, g4, g5, g6⟩, ⟨g7, g8, g9, g10⟩, ⟨g11, g12, g13, g14⟩, ⟨g15, g16, g17, g18⟩, e9, e10, e11, e12, e13⟩ := h
  have ht := (e9 q hq).2.2.2
  have hb1 : q < hN σ bk := by omega
  have hb2 : q < hN σ bp := by omega
  have hb3 : q < hN σ bv := by omega
  have hs : mh_setI (pz σ ap dd dk dp dv dz q ds) 3 2 ap (nI (q + 1)) = pz σ ap dd dk dp dv dz (q + 1) ds := pz_set rfl
  have hs' : mh_setI (pz σ ap dd dk dp dv dz q (ds ++ [(12, nI (tp q), 1 * tv q, 1)])) 3 2 ap (nI (q + 1)) = pz σ ap dd dk dp dv dz (q + 1) (ds ++ [(12, nI (tp q), 1 * tv q, 1)]) := pz_set rfl
  have hs2 : mh_setI (pz σ ap dd dk dp dv dz (q + 1) (ds ++ [(12, nI (tp q), -1 * tv (q + 1), 1)])) 3 2 ap (nI (q + 1 + 1)) = pz σ ap dd dk dp dv dz (q + 1 + 1) (ds ++ [(12, nI (tp q), -1 * tv (q + 1), 1)]) := pz_set rfl
  simp only [lit] at ha hs' ha' hs2
  by_cases h1 : tk q = 23
  · have hn := e13 q hq (by omega)
    have hk2 := hka' hn
    have hv2 := hva' hn
    have ht2 := (e9 (q + 1) hn).2.2.2
    rw [h1] at hka
    simp (disch := omega) only [f_PA_number, k_PA_number_46, k_PA_number_65, p_refuse, e_chkT,e_bnd,e_calI,e_calV,e_calP,e_rfO,e_calT,e_calTt, pz_T, pz_R, pz_N, pz_33, a1, a2, a3, c1, c2, lit,n_add,n_le,n_lt,n_eq,n_nat,n_ib, hka, hk2, hpa, hv2, ha', hs, hs2, h1]
    simp
  · simp (disch := omega) only [f_PA_number, k_PA_number_46, k_PA_number_65, p_refuse, e_chkT,e_bnd,e_calI,e_calV,e_calP,e_rfO,e_calT,e_calTt, pz_T, pz_R, pz_N, pz_33, a1, a2, a3, c1, c2, lit,n_add,n_le,n_lt,n_eq,n_nat,n_ib, hka, hpa, hva, ha, hs', h1, if_true]
    simp
theorem p_isCall (h : PE σ ap dd tt bk bp bv dk dp dv dz n room tk tp tv) (hq : q < n) : f_PA_isCall N ap (pz σ ap dd dk dp dv dz q ds) = some (if (q + 1 < n ∧ tk (q + 1) = 12) ∨ (q + 1 < n ∧ tk (q + 1) = 20 ∧ q + 2 < n ∧ tk (q + 2) = 2 ∧ q + 3 < n ∧ tk (q + 3) = 12) then 1 else 0, pz σ ap dd dk dp dv dz q ds) := by
  have hk1 := p_kindAt (N := N) (i := q + 1) (q := q) (ds := ds) h (by obtain ⟨⟨a1, a2, a3⟩, ⟨a4, a5, a6, a7, a8, a9, a10⟩, ⟨c1, c2⟩, ⟨c4, c5, c6⟩, ⟨c7, c8, c9, c10⟩, ⟨e1, e2, e3, e4⟩, ⟨e5, e6, e7⟩, e8, ⟨g1, g2, g3, g4, g5, g6⟩, ⟨g7, g8, g9, g10⟩, ⟨g11, g12, g13, g14⟩, ⟨g15, g16, g17, g18⟩, e9, e10, e11, e12, e13⟩ := h; omega)
  have hk2 := p_kindAt (N := N) (i := q + 2) (q := q) (ds := ds) h (by obtain ⟨⟨a1, a2, a3⟩, ⟨a4, a5, a6, a7, a8, a9, a10⟩, ⟨c1, c2⟩, ⟨c4, c5, c6⟩, ⟨c7, c8, c9, c10⟩, ⟨e1, e2, e3, e4⟩, ⟨e5, e6, e7⟩, e8, ⟨g1, g2, g3, g4, g5, g6⟩, ⟨g7, g8, g9, g10⟩, ⟨g11, g12, g13, g14⟩, ⟨g15, g16, g17, g18⟩, e9, e10, e11, e12, e13⟩ := h; omega)
  have hk3 := p_kindAt (N := N) (i := q + 3) (q := q) (ds := ds) h (by obtain ⟨⟨a1, a2, a3⟩, ⟨a4, a5, a6, a7, a8, a9, a10⟩, ⟨c1, c2⟩, ⟨c4, c5, c6⟩, ⟨c7, c8, c9, c10⟩, ⟨e1, e2, e3, e4⟩, ⟨e5, e6, e7⟩, e8, ⟨g1, g2, g3, g4, g5, g6⟩, ⟨g7, g8, g9, g10⟩, ⟨g11, g12, g13, g14⟩, ⟨g15, g16, g17, g18⟩, e9, e10, e11, e12, e13⟩ := h; omega)
  obtain ⟨⟨a1, a2, a3⟩, ⟨a4, a5, a6, a7, a8, a9, a10⟩, ⟨c1, c2⟩, ⟨c4, c5, c6⟩, ⟨c7, c8, c9, c10⟩, ⟨e1, e2, e3, e4⟩, ⟨e5, e6, e7⟩, e8, ⟨g1, g2, g3, g4, g5, g6⟩, ⟨g7, g8, g9, g10⟩, ⟨g11, g12, g13, g14⟩, ⟨g15, g16, g17, g18⟩, e9, e10, e11, e12, e13⟩ := h
  have ht1 : q + 1 < n → tk (q + 1) < 35 := fun h => (e9 _ h).2.2.2
  have ht2 : q + 2 < n → tk (q + 2) < 35 := fun h => (e9 _ h).2.2.2
  have ht3 : q + 3 < n → tk (q + 3) < 35 := fun h => (e9 _ h).2.2.2
  simp only [lit] at hk1 hk2 hk3
  simp (disch := omega) only [f_PA_isCall, e_chkT,e_bnd,e_calI,e_calV,e_calP,e_rfO,e_calT,e_calTt, pz_T, pz_R, pz_33, a1, a3, c1, lit, n_add, hk1, hk2, hk3]
  by_cases h1 : q + 1 < n
  · have := ht1 h1
    by_cases h2 : q + 2 < n
    · have := ht2 h2
      by_cases h3 : q + 3 < n
      · have := ht3 h3
        simp (disch := omega) only [h1, h2, h3, if_true, n_eq, true_and]
        by_cases x1 : tk (q + 1) = 12 <;> by_cases x2 : tk (q + 1) = 20 <;> by_cases x3 : tk (q + 2) = 2 <;> by_cases x4 : tk (q + 3) = 12 <;> simp [x1, x2, x3, x4]
      · simp (disch := omega) only [h1, h2, h3, if_true, if_false, n_eq, true_and]
        by_cases x1 : tk (q + 1) = 12 <;> by_cases x2 : tk (q + 1) = 20 <;> by_cases x3 : tk (q + 2) = 2 <;> simp [x1, x2, x3]
    · simp (disch := omega) only [h1, h2, if_true, if_false, n_eq, true_and]
      by_cases x1 : tk (q + 1) = 12 <;> by_cases x2 : tk (q + 1) = 20 <;> simp [x1, x2]
  · simp (disch := omega) only [h1, if_false, n_eq, false_and, or_false]
    simp
end PARSER
