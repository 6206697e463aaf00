/-! sums, products and factors of every depth -/
section SIMEXPR
variable {σ : mh_H} {ap dd tt bk bp bv dk dp dv dz n room : Nat} {tk tp : Nat → Nat} {tv : Nat → Int32} {S : rm_S} {N : Nat}
theorem sim_sum_bad {d lim hm : Nat} {pf : Nat → Int32 → mh_H → Option (Bool × Int32 × mh_H)} {rf : Int32 → rm_S → Option (Int32 × rm_S)} (E : EN σ ap dd tt bk bp bv dk dp dv dz n room tk tp tv S N) (hl : 16010 ≤ lim) (hd : 60 < d) (hd2 : d < 1000) : Sim σ ap dd dk dp dv dz n tk tp S d lim hm (f_PA_sum N pf) (f_RM_sum N rf) := by
  intro flt q ds dr B hI
  obtain ⟨⟨i1, i2⟩, i3, i4, i5⟩ := hI
  obtain ⟨h, R, hn, hNN⟩ := E
  have h' := h
  obtain ⟨⟨a1, a2, a3⟩, ⟨a4, a5, a6, a7, a8, a9, a10⟩, ⟨c1, c2⟩, ⟨c4, c5, c6⟩, ⟨c7, c8, c9, c10⟩, -, ⟨e5, e6, e7⟩, e8, -, -, -, -, e9, e10, e11, e12, e13⟩ := h
  have ht : ∀ j, j < n → tk j < 35 := fun j hj => (e9 j hj).2.2.2
  have hb1 : ∀ j, j < n → j < hN σ bk := fun j hj => by omega
  have hb2 : ∀ j, j < n → j < hN σ bp := fun j hj => by omega
  refine Out_b0 (q := q) ?_ rfl ?_ i1 i2
  · unfold f_PA_sum
    repeat (first
    | ((with_reducible apply X_bndE); focus (first | ((with_reducible apply pz_pp h') <;> omega) | ((with_reducible apply pz_kk h') <;> omega) | (with_reducible exact pz_14)); skip)
    | with_reducible refine X_bnd ?_
    | ((with_reducible apply X_chk); focus (first | exact a1 | exact a2 | exact a3 | exact a4 | exact a5 | ((with_reducible apply pz_i1 h') <;> omega) | ((with_reducible apply pz_i2 h') <;> omega)); skip)
    | ((with_reducible apply X_rfO); focus (first | exact c1 | exact c2 | exact c5); skip)
    | ((with_reducible apply X_I); focus (first | ((with_reducible apply p_kaC h') <;> omega) | ((with_reducible apply p_paC h') <;> omega) | ((with_reducible apply p_skip_y h') <;> first | omega | ((simp (disch := omega) only [lit, n_eq]) <;> omega)) | ((with_reducible apply p_skip_n h') <;> first | omega | ((simp (disch := first | omega | exact Nat.lt_trans (ht _ (by omega)) (by omega)) only [lit, n_eq]) <;> omega))); skip)
    | ((with_reducible apply X_if); focus (first | (with_reducible exact rfl) | (with_reducible exact n00) | ((simp (disch := omega) only [lit, n_eq]) <;> omega)); skip)
    | ((with_reducible apply X_nif); focus (first | exact n10 | ((with_reducible apply p_cnt h') <;> omega) | ((simp (disch := first | omega | exact Nat.lt_trans (ht _ (by omega)) (by omega)) only [lit, n_eq]) <;> omega)); skip)
    | ((with_reducible apply X_T); focus (first | ((with_reducible apply p_take_y h') <;> first | omega | ((simp (disch := omega) only [lit, n_eq]) <;> omega)) | ((with_reducible apply p_limit_y h' rfl) <;> omega)); skip)
    | ((with_reducible apply X_Tt); focus (first | ((with_reducible apply p_take_n h') <;> first | omega | ((simp (disch := first | omega | exact Nat.lt_trans (ht _ (by omega)) (by omega)) only [lit, n_eq]) <;> omega)) | ((with_reducible apply p_limit_n h' rfl) <;> omega)); skip))
    rfl
  · unfold f_RM_sum k_RM_sum_21
    repeat (first
    | with_reducible refine M_VI ?_
    | with_reducible refine M_VV ?_
    | with_reducible refine M_Vif ?_
    | with_reducible refine M_Vs ?_
    | with_reducible refine M_II ?_
    | with_reducible refine M_IV ?_
    | with_reducible refine M_Iif ?_
    | with_reducible refine M_Is ?_
    | with_reducible refine M_Ichk ?_
    | ((with_reducible apply BM_bndE); focus (first | ((with_reducible apply r_p R hn) <;> first | omega | assumption)); skip)
    | with_reducible refine BM_bnd ?_
    | ((with_reducible apply BM_chk); focus (((with_reducible apply r_i hn)) <;> omega); skip)
    | ((with_reducible apply BM_I); focus (first | ((with_reducible apply r_look R hn) <;> first | omega | assumption) | (with_reducible exact q_look1) | ((with_reducible apply r_draft) <;> first | omega | exact rfl | exact r_p R hn (by omega) (by assumption)) | ((with_reducible apply r_db) <;> omega) | ((with_reducible apply r_nb) <;> omega) | ((with_reducible apply r_nameb) <;> omega) | ((with_reducible apply r_name_y R hn) <;> first | omega | assumption) | ((with_reducible apply r_name_n R hn) <;> first | omega | assumption | exact ht _ (by omega))); skip)
    | ((with_reducible apply BM_V); focus (first | ((with_reducible apply r_take_y R hn) <;> first | omega | assumption | first | exact rfl | (with_reducible exact n00) | exact kp_y (by assumption) (by decide)) | ((with_reducible apply r_take_n R hn) <;> first | omega | assumption | first | exact n10 | ((simp (disch := first | assumption | omega | exact ht _ (by omega)) only [lit, n_eq, n_le, kp_0, kp_1, kp_2, kp_3, kp_4, kp_5, kp_6, kp_7, kp_8, kp_9, kp_10, kp_11, kp_12, kp_13, kp_14, kp_15, kp_16, kp_17, kp_18, kp_19, kp_20, kp_21, kp_22, kp_23, kp_24, kp_25, kp_26, kp_27, kp_28, kp_29, kp_30, kp_31, kp_32, kp_33, kp_34]) <;> omega)) | (with_reducible exact q_takeb) | ((with_reducible apply q_deep_y rfl) <;> omega) | ((with_reducible apply q_deep_n R rfl) <;> first | omega | assumption) | ((with_reducible apply q_deepb' rfl) <;> omega) | (with_reducible exact q_needb) | (with_reducible exact r_need1) | ((with_reducible apply r_need0 R hn) <;> first | omega | assumption)); skip)
    | ((with_reducible apply BM_if); focus (first | exact rfl | (with_reducible exact n00) | exact kp_y (by assumption) (by decide)); skip)
    | ((with_reducible apply BM_nif); focus (first | exact n10 | ((simp (disch := first | assumption | omega | exact ht _ (by omega)) only [lit, n_eq, n_le, kp_0, kp_1, kp_2, kp_3, kp_4, kp_5, kp_6, kp_7, kp_8, kp_9, kp_10, kp_11, kp_12, kp_13, kp_14, kp_15, kp_16, kp_17, kp_18, kp_19, kp_20, kp_21, kp_22, kp_23, kp_24, kp_25, kp_26, kp_27, kp_28, kp_29, kp_30, kp_31, kp_32, kp_33, kp_34]) <;> omega)); skip)
    | (with_reducible refine bm_jn ?_ rfl)
    | ((with_reducible apply bm_join); (focus (first | assumption | exact BI_new (by assumption) | exact BI_new (BI_new (by assumption)) | exact BI_new (BI_new (BI_new (by assumption))))); (focus omega); (focus omega); (focus (first | assumption | exact Or.inr ⟨_, by omega, rfl⟩)); intro _ _)
    | exact ⟨_, _, _, (by with_reducible rfl), by omega, by omega, (by first | assumption | exact BI_new (by assumption) | exact BI_new (BI_new (by assumption)) | exact BI_new (BI_new (BI_new (by assumption)))), (by first | exact Or.inl rfl | assumption | exact Or.inr ⟨_, by omega, rfl⟩)⟩)
theorem fac_bad {d : Nat} {pf ps : Nat → Int32 → mh_H → Option (Bool × Int32 × mh_H)} (h' : PE σ ap dd tt bk bp bv dk dp dv dz n room tk tp tv) (hd : 60 < d) (hd2 : d < 1000) (q : Nat) (ds : List Ent) : f_PA_factor N pf ps ap (nI d) (pz σ ap dd dk dp dv dz q ds) = some (true, 0, mh_new (pz σ ap dd dk dp dv dz q ds) 9) := by
  have h := h'
  obtain ⟨⟨a1, a2, a3⟩, ⟨a4, a5, a6, a7, a8, a9, a10⟩, ⟨c1, c2⟩, ⟨c4, c5, c6⟩, ⟨c7, c8, c9, c10⟩, -, ⟨e5, e6, e7⟩, e8, -, -, -, -, e9, e10, e11, e12, e13⟩ := h
  unfold f_PA_factor
  repeat (first
    | ((with_reducible apply X_bndE); focus (first | ((with_reducible apply pz_pp h') <;> omega) | ((with_reducible apply pz_kk h') <;> omega) | (with_reducible exact pz_14)); skip)
    | with_reducible refine X_bnd ?_
    | ((with_reducible apply X_chk); focus (first | exact a1 | exact a2 | exact a3 | exact a4 | exact a5 | ((with_reducible apply pz_i1 h') <;> omega) | ((with_reducible apply pz_i2 h') <;> omega)); skip)
    | ((with_reducible apply X_rfO); focus (first | exact c1 | exact c2 | exact c5); skip)
    | ((with_reducible apply X_I); focus (first | ((with_reducible apply p_kaC h') <;> omega) | ((with_reducible apply p_paC h') <;> omega) | ((with_reducible apply p_skip_y h') <;> first | omega | ((simp (disch := omega) only [lit, n_eq]) <;> omega)) | ((with_reducible apply p_skip_n h') <;> first | omega | ((simp (disch := first | omega | exact Nat.lt_trans (ht _ (by omega)) (by omega)) only [lit, n_eq]) <;> omega))); skip)
    | ((with_reducible apply X_if); focus (first | (with_reducible exact rfl) | (with_reducible exact n00) | ((simp (disch := omega) only [lit, n_eq]) <;> omega)); skip)
    | ((with_reducible apply X_nif); focus (first | exact n10 | ((with_reducible apply p_cnt h') <;> omega) | ((simp (disch := first | omega | exact Nat.lt_trans (ht _ (by omega)) (by omega)) only [lit, n_eq]) <;> omega)); skip)
    | ((with_reducible apply X_T); focus (first | ((with_reducible apply p_take_y h') <;> first | omega | ((simp (disch := omega) only [lit, n_eq]) <;> omega)) | ((with_reducible apply p_limit_y h' rfl) <;> omega)); skip)
    | ((with_reducible apply X_Tt); focus (first | ((with_reducible apply p_take_n h') <;> first | omega | ((simp (disch := first | omega | exact Nat.lt_trans (ht _ (by omega)) (by omega)) only [lit, n_eq]) <;> omega)) | ((with_reducible apply p_limit_n h' rfl) <;> omega)); skip))
  rfl
theorem sim_exprs (E : EN σ ap dd tt bk bp bv dk dp dv dz n room tk tp tv S N) : ∀ m, m ≤ 60 → ∀ lc lr, 3 * m + 1 ≤ lc → 3 * m + 1 ≤ lr → Sim σ ap dd dk dp dv dz n tk tp S (61 - m) (16010 + 2 * m) (5 * m + 1) (pa_sum N lc) (rp_sum N lr) ∧ (1 ≤ m → ∀ lc lr, 3 * m ≤ lc + 1 → 3 * m ≤ lr + 1 → Sim σ ap dd dk dp dv dz n tk tp S (61 - m) (16010 + 2 * m) (5 * m + 1) (pa_factor N lc) (rp_factor N lr)) := by
  intro m
  induction m with
  | zero =>
    intro _ lc lr h1 h2
    obtain ⟨lc, rfl⟩ : ∃ x, lc = x + 1 := ⟨lc - 1, by omega⟩
    obtain ⟨lr, rfl⟩ : ∃ x, lr = x + 1 := ⟨lr - 1, by omega⟩
    rw [pa_sum_s, rp_sum_s]
    exact ⟨sim_sum_bad E (by omega) (by omega) (by omega), fun h => by omega⟩
  | succ m ih =>
    intro hm lc lr h1 h2
    have hF : ∀ lc lr, 3 * m + 2 ≤ lc → 3 * m + 2 ≤ lr → Sim σ ap dd dk dp dv dz n tk tp S (61 - (m + 1)) (16010 + 2 * (m + 1)) (5 * m + 2) (pa_factor N lc) (rp_factor N lr) := by
      intro lc lr h1 h2
      obtain ⟨lc, rfl⟩ : ∃ x, lc = x + 1 := ⟨lc - 1, by omega⟩
      obtain ⟨lr, rfl⟩ : ∃ x, lr = x + 1 := ⟨lr - 1, by omega⟩
      rw [pa_factor_s, rp_factor_s]
      have e : 61 - (m + 1) + 1 = 61 - m := by omega
      refine sim_factor (lim := 16010 + 2 * m) (hm := 5 * m + 1) E ?_ ?_ ?_ ⟨by omega, by omega, by omega⟩ (by omega)
      · rw [e]; exact (ih (by omega) lc lr (by omega) (by omega)).1
      · rw [e]; intro h6; exact (ih (by omega) (3 * m + 1) (3 * m + 1) (by omega) (by omega)).2 (by omega) lc lr (by omega) (by omega)
      · rw [e]; intro h6 q ds
        obtain ⟨lc, rfl⟩ : ∃ x, lc = x + 1 := ⟨lc - 1, by omega⟩
        rw [pa_factor_s]
        exact fac_bad E.1 (by omega) (by omega) q ds
    refine ⟨?_, fun _ lc lr h1 h2 => ?_⟩
    · obtain ⟨lc, rfl⟩ : ∃ x, lc = x + 1 + 1 := ⟨lc - 2, by omega⟩
      obtain ⟨lr, rfl⟩ : ∃ x, lr = x + 1 + 1 := ⟨lr - 2, by omega⟩
      rw [pa_sum_s, rp_sum_s, pa_term_s, rp_term_s]
      have := sim_sum E (sim_term E (hF lc lr (by omega) (by omega)) (by omega)) (by omega) (by omega)
      exact this
    · intro flt q ds dr B hI
      rcases hF lc lr (by omega) (by omega) flt q ds dr B hI with ⟨q', i', k', p', v', c', dr', B', x1, x2, x3⟩ | h
      · exact Or.inl ⟨q', i', k', p', v', c', dr', B', x1, x2, x3.1, x3.2.1, x3.2.2.1, x3.2.2.2.1, x3.2.2.2.2.1, x3.2.2.2.2.2.1, x3.2.2.2.2.2.2.1, by have := x3.2.2.2.2.2.2.2; omega⟩
      · exact Or.inr h
end SIMEXPR
