/-! blocks of every depth; functions -/
section SIMFUN
variable {σ : mh_H} {ap dd tt bk bp bv dk dp dv dz n room : Nat} {tk tp : Nat → Nat} {tv : Nat → Int32} {S : rm_S} {N : Nat}
theorem cond_no {d : Nat} {pb : (Nat → Int32 → mh_H → Option (Bool × Int32 × mh_H))} (h' : PE σ ap dd tt bk bp bv dk dp dv dz n room tk tp tv) (q : Nat) (ds : List Ent) (hq : q < n) (hc : ¬ tk q = 12) : f_PA_condition N pb ap (nI d) 12 13 (pz σ ap dd dk dp dv dz q ds) = some (true, 0, mh_new (pz σ ap dd dk dp dv dz q ds) 9) := by
  have h := h'
  obtain ⟨⟨a1, a2, a3⟩, ⟨a4, a5, a6, a7, a8, a9, a10⟩, ⟨c1, c2⟩, ⟨c4, c5, c6⟩, ⟨c7, c8, c9, c10⟩, -, ⟨e5, e6, e7⟩, e8, -, -, -, -, e9, e10, e11, e12, e13⟩ := h
  have ht : ∀ j, j < n → tk j < 35 := fun j hj => (e9 j hj).2.2.2
  unfold f_PA_condition
  repeat (first
    | ((with_reducible apply X_bndE); focus (first | ((with_reducible apply pz_pp h') <;> omega) | ((with_reducible apply pz_kk h') <;> omega) | (with_reducible exact pz_14)); skip)
    | with_reducible refine X_bnd ?_
    | ((with_reducible apply X_chk); focus (first | exact a1 | exact a2 | exact a3 | exact a4 | exact a5 | ((with_reducible apply pz_i1 h') <;> omega) | ((with_reducible apply pz_i2 h') <;> omega)); skip)
    | ((with_reducible apply X_rfO); focus (first | exact c1 | exact c2 | exact c5); skip)
    | ((with_reducible apply X_I); focus (first | ((with_reducible apply p_kaC h') <;> omega) | ((with_reducible apply p_paC h') <;> omega) | ((with_reducible apply p_skip_y h') <;> first | omega | ((simp (disch := omega) only [lit, n_eq]) <;> omega)) | ((with_reducible apply p_skip_n h') <;> first | omega | ((simp (disch := first | omega | exact Nat.lt_trans (ht _ (by omega)) (by omega)) only [lit, n_eq]) <;> omega))); skip)
    | ((with_reducible apply X_if); focus (first | (with_reducible exact rfl) | (with_reducible exact n00) | ((simp (disch := omega) only [lit, n_eq]) <;> omega)); skip)
    | ((with_reducible apply X_nif); focus (first | exact n10 | ((with_reducible apply p_cnt h') <;> omega) | ((simp (disch := first | omega | exact Nat.lt_trans (ht _ (by omega)) (by omega)) only [lit, n_eq]) <;> omega)); skip)
    | ((with_reducible apply X_T); focus (first | ((with_reducible apply p_take_y h') <;> first | omega | ((simp (disch := omega) only [lit, n_eq]) <;> omega)) | ((with_reducible apply p_limit_y h' rfl) <;> omega)); skip)
    | ((with_reducible apply X_Tt); focus (first | ((with_reducible apply p_take_n h') <;> first | omega | ((simp (disch := first | omega | exact Nat.lt_trans (ht _ (by omega)) (by omega)) only [lit, n_eq]) <;> omega)) | ((with_reducible apply p_limit_n h' rfl) <;> omega)); skip))
  rfl
theorem sim_blocks (E : EN σ ap dd tt bk bp bv dk dp dv dz n room tk tp tv S N) : ∀ m, m ≤ 60 → ∀ lc lr, 4 * m + 8 ≤ lc → 4 * m + 8 ≤ lr → SimB σ ap dd dk dp dv dz n tk tp S (61 - m) (16400 + 10 * m) (5 * m + 6) (pa_block N lc) (rp_block N lr) := by
  intro m
  induction m with
  | zero =>
    intro _ lc lr h1 h2
    obtain ⟨lc, rfl⟩ : ∃ x, lc = x + 1 := ⟨lc - 1, by omega⟩
    obtain ⟨lr, rfl⟩ : ∃ x, lr = x + 1 := ⟨lr - 1, by omega⟩
    rw [pa_block_s, rp_block_s]
    exact sim_block_bad E (by omega) (by omega) (by omega)
  | succ m ih =>
    intro hm lc lr h1 h2
    obtain ⟨lc, rfl⟩ : ∃ x, lc = x + 1 + 1 + 1 := ⟨lc - 3, by omega⟩
    obtain ⟨lr, rfl⟩ : ∃ x, lr = x + 1 + 1 + 1 + 1 := ⟨lr - 4, by omega⟩
    have e : 61 - (m + 1) + 1 = 61 - m := by omega
    have hsum := fun lc lr h1 h2 => Sim_mono (lim' := 16400 + 10 * m) (hm' := 5 * m + 6) (sim_exprs E m (by omega) lc lr h1 h2).1 (by omega) (by omega)
    rw [pa_block_s, rp_block_s, pa_statement_s, rp_statement_s, pa_variable_s, pa_call_s, pa_assignment_s, pa_conditional_s, rp_named_s, rp_sums_s]
    refine SimB_mono (sim_block (lim := 16400 + 10 * m + 10) (hm := 5 * m + 7) E (sim_statement (lim := 16400 + 10 * m) (hm := 5 * m + 6) E ?_ ?_ ?_ ?_ ?_ ?_ ?_ ?_ ?_ ⟨by omega, by omega, by omega⟩ (by omega)) ⟨by omega, by omega, by omega⟩ (by omega)) (by omega) (by omega)
    · rw [e]; exact hsum _ _ (by omega) (by omega)
    · rw [e]; exact hsum _ _ (by omega) (by omega)
    · rw [e]; exact hsum _ _ (by omega) (by omega)
    · rw [e]; exact hsum _ _ (by omega) (by omega)
    · rw [e]; exact hsum _ _ (by omega) (by omega)
    · rw [e]; exact hsum _ _ (by omega) (by omega)
    · rw [e]; exact SimC_mono ((sim_conds E m (by omega)).1 _ _ (by omega) (by omega)) (by omega) (by omega)
    · rw [e]; intro q ds hq hc
      obtain ⟨lc, rfl⟩ : ∃ x, lc = x + 1 := ⟨lc - 1, by omega⟩
      rw [pa_condition_s]
      exact cond_no E.1 q ds hq hc
    · rw [e]; exact SimB_sim (SimB_mono (ih (by omega) _ _ (by omega) (by omega)) (by omega) (by omega))
end SIMFUN
