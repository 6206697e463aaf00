/-! conditions of every depth -/
section SIMCONDS
variable {σ : mh_H} {ap dd tt bk bp bv dk dp dv dz n room : Nat} {tk tp : Nat → Nat} {tv : Nat → Int32} {S : rm_S} {N : Nat}
theorem BM_mono {q lo lim lim' : Nat} {flt : Int32} {r : Option (Int32 × rm_S)} (h : BM S q flt lo lim r) (hl : lim ≤ lim') : BM S q flt lo lim' r := by
  obtain ⟨v, dr, B, h1, h2, h3, h4, h5⟩ := h
  exact ⟨v, dr, B, h1, h2, by omega, h4, h5⟩
theorem New_mono {q0 dr0 : Nat} {B0 : Nat → Nat → Int32} {hm hm' q i k p : Nat} {v : Int32} {c : Fo} {dr : Nat} {B : Nat → Nat → Int32} (h : New n tk tp q0 dr0 B0 hm q i k p v c dr B) (hh : hm ≤ hm') : New n tk tp q0 dr0 B0 hm' q i k p v c dr B :=
  ⟨h.1, h.2.1, h.2.2.1, h.2.2.2.1, h.2.2.2.2.1, h.2.2.2.2.2.1, h.2.2.2.2.2.2.1, by have := h.2.2.2.2.2.2.2; omega⟩
theorem Sim_mono {d lim lim' hm hm' : Nat} {pf : (Nat → Int32 → mh_H → Option (Bool × Int32 × mh_H))} {rf : (Int32 → rm_S → Option (Int32 × rm_S))} (h : Sim σ ap dd dk dp dv dz n tk tp S d lim hm pf rf) (hl : lim ≤ lim') (hh : hm ≤ hm') : Sim σ ap dd dk dp dv dz n tk tp S d lim' hm' pf rf := by
  intro flt q ds dr B hI
  rcases h flt q ds dr B hI with ⟨q', i', k', p', v', c', dr', B', x1, x2, x3⟩ | ⟨q', y, x1, x2, x3, x4⟩
  · exact Or.inl ⟨q', i', k', p', v', c', dr', B', x1, x2, New_mono x3 hh⟩
  · exact Or.inr ⟨q', y, x1, BM_mono x2 hl, x3, x4⟩
theorem SimC_mono {d lim lim' hm hm' : Nat} {pf : Nat → Int32 → Int32 → Int32 → mh_H → Option (Bool × Int32 × mh_H)} {rf : (Int32 → rm_S → Option (Int32 × rm_S))} (h : SimC σ ap dd dk dp dv dz n tk tp S d lim hm pf rf) (hl : lim ≤ lim') (hh : hm ≤ hm') : SimC σ ap dd dk dp dv dz n tk tp S d lim' hm' pf rf := by
  intro flt q ds dr B op cl h1 h2 h3 h4 h5 hI
  rcases h flt q ds dr B op cl h1 h2 h3 h4 h5 hI with ⟨q', i', k', p', v', c', dr', B', x1, x2, x3⟩ | ⟨q', y, x1, x2, x3, x4⟩
  · exact Or.inl ⟨q', i', k', p', v', c', dr', B', x1, x2, New_mono x3 hh⟩
  · exact Or.inr ⟨q', y, x1, BM_mono x2 hl, x3, x4⟩
theorem tst_bad {d : Nat} {pt ps : (Nat → Int32 → mh_H → Option (Bool × Int32 × mh_H))} {pc : Nat → Int32 → Int32 → Int32 → mh_H → Option (Bool × Int32 × mh_H)} (h' : PE σ ap dd tt bk bp bv dk dp dv dz n room tk tp tv) (hd : 60 < d) (hd2 : d < 1000) (q : Nat) (ds : List Ent) : f_PA_test N pt pc ps ap (nI d) (pz σ ap dd dk dp dv dz q ds) = some (true, 0, mh_new (pz σ ap dd dk dp dv dz q ds) 9) := by
  have h := h'
  obtain ⟨⟨a1, a2, a3⟩, ⟨a4, a5, a6, a7, a8, a9, a10⟩, ⟨c1, c2⟩, ⟨c4, c5, c6⟩, ⟨c7, c8, c9, c10⟩, -, ⟨e5, e6, e7⟩, e8, -, -, -, -, e9, e10, e11, e12, e13⟩ := h
  unfold f_PA_test
  repeat (first
    | ((with_reducible apply X_bndE); focus (first | ((with_reducible apply pz_pp h') <;> omega) | ((with_reducible apply pz_kk h') <;> omega) | (with_reducible exact pz_14)); skip)
    | with_reducible refine X_bnd ?_
    | ((with_reducible apply X_chk); focus (first | exact a1 | exact a2 | exact a3 | exact a4 | exact a5 | ((with_reducible apply pz_i1 h') <;> omega) | ((with_reducible apply pz_i2 h') <;> omega)); skip)
    | ((with_reducible apply X_rfO); focus (first | exact c1 | exact c2 | exact c5); skip)
    | ((with_reducible apply X_I); focus (first | ((with_reducible apply p_kaC h') <;> omega) | ((with_reducible apply p_paC h') <;> omega) | ((with_reducible apply p_skip_y h') <;> first | omega | ((simp (disch := omega) only [lit, n_eq]) <;> omega)) | ((with_reducible apply p_skip_n h') <;> first | omega | ((simp (disch := first | omega | exact Nat.lt_trans (ht _ (by omega)) (by omega)) only [lit, n_eq]) <;> omega))); skip)
    | ((with_reducible apply X_if); focus (first | (with_reducible exact rfl) | (with_reducible exact n00) | ((simp (disch := omega) only [lit, n_eq]) <;> omega)); skip)
    | ((with_reducible apply X_nif); focus (first | exact n10 | ((with_reducible apply p_cnt h') <;> omega) | ((simp (disch := first | omega | exact Nat.lt_trans (ht _ (by omega)) (by omega)) only [lit, n_eq]) <;> omega)); skip)
    | ((with_reducible apply X_T); focus (first | ((with_reducible apply p_take_y h') <;> first | omega | ((simp (disch := omega) only [lit, n_eq]) <;> omega)) | ((with_reducible apply p_limit_y h' rfl) <;> omega)); skip)
    | ((with_reducible apply X_Tt); focus (first | ((with_reducible apply p_take_n h') <;> first | omega | ((simp (disch := first | omega | exact Nat.lt_trans (ht _ (by omega)) (by omega)) only [lit, n_eq]) <;> omega)) | ((with_reducible apply p_limit_n h' rfl) <;> omega)); skip))
  rfl
theorem sim_conds (E : EN σ ap dd tt bk bp bv dk dp dv dz n room tk tp tv S N) : ∀ m, m ≤ 60 → (∀ lc lr, 4 * m + 4 ≤ lc → 4 * m + 4 ≤ lr → SimC σ ap dd dk dp dv dz n tk tp S (61 - m) (16200 + 2 * m) (5 * m + 4) (pa_condition N lc) (rp_cond N lr)) ∧ (1 ≤ m → ∀ lc lr, 4 * m + 1 ≤ lc → 4 * m + 1 ≤ lr → Sim σ ap dd dk dp dv dz n tk tp S (61 - m) (16200 + 2 * m) (5 * m + 2) (pa_test N lc) (rp_test N lr)) := by
  intro m
  induction m with
  | zero =>
    intro _
    refine ⟨fun lc lr h1 h2 => ?_, fun h => by omega⟩
    obtain ⟨lc, rfl⟩ : ∃ x, lc = x + 1 := ⟨lc - 1, by omega⟩
    obtain ⟨lr, rfl⟩ : ∃ x, lr = x + 1 := ⟨lr - 1, by omega⟩
    rw [pa_condition_s, rp_cond_s]
    exact sim_or_bad E ⟨by omega, by omega⟩ (by omega) (by omega)
  | succ m ih =>
    intro hm
    obtain ⟨ihC, ihT⟩ := ih (by omega)
    have e : 61 - (m + 1) + 1 = 61 - m := by omega
    have hT : ∀ lc lr, 4 * (m + 1) + 1 ≤ lc → 4 * (m + 1) + 1 ≤ lr → Sim σ ap dd dk dp dv dz n tk tp S (61 - (m + 1)) (16200 + 2 * (m + 1)) (5 * (m + 1) + 2) (pa_test N lc) (rp_test N lr) := by
      intro lc lr h1 h2
      obtain ⟨lc, rfl⟩ : ∃ x, lc = x + 1 := ⟨lc - 1, by omega⟩
      obtain ⟨lr, rfl⟩ : ∃ x, lr = x + 1 := ⟨lr - 1, by omega⟩
      rw [pa_test_s, rp_test_s]
      refine Sim_mono (sim_test (lim := 16200 + 2 * m) (hm := 5 * m + 4) E ?_ ?_ ?_ ?_ ⟨by omega, by omega, by omega⟩ (by omega)) (by omega) (by omega)
      · rw [e]; exact Sim_mono (sim_exprs E m (by omega) lc lr (by omega) (by omega)).1 (by omega) (by omega)
      · rw [e]; intro h6; exact Sim_mono (ihT (by omega) lc lr (by omega) (by omega)) (by omega) (by omega)
      · rw [e]; intro h6 q ds
        obtain ⟨lc, rfl⟩ : ∃ x, lc = x + 1 := ⟨lc - 1, by omega⟩
        rw [pa_test_s]
        exact tst_bad E.1 (by omega) (by omega) q ds
      · rw [e]; exact ihC lc lr (by omega) (by omega)
    refine ⟨fun lc lr h1 h2 => ?_, fun _ => hT⟩
    obtain ⟨lc, rfl⟩ : ∃ x, lc = x + 1 + 1 := ⟨lc - 2, by omega⟩
    obtain ⟨lr, rfl⟩ : ∃ x, lr = x + 1 + 1 + 1 := ⟨lr - 3, by omega⟩
    rw [pa_condition_s, rp_cond_s, rp_tests_s, pa_both_s]
    refine SimC_mono (sim_or (lim := 16200 + 2 * (m + 1)) (hm := 5 * (m + 1) + 3) E ?_ (by omega) (by omega)) (by omega) (by omega)
    rw [rp_tests_s]
    exact sim_both E (hT lc lr (by omega) (by omega)) (by omega)
end SIMCONDS
