/-! functions -/
section SIMFUN2
variable {σ : mh_H} {ap dd tt bk bp bv dk dp dv dz n room : Nat} {tk tp : Nat → Nat} {tv : Nat → Int32} {S : rm_S} {N : Nat}
theorem k56_bad {fu : Nat} {rb : (Int32 → rm_S → Option (Int32 × rm_S))} {s : Nat} {flt : Int32} {q dr lo lim : Nat} {B : Nat → Nat → Int32} (hf : 0 < fu) (hI : BI dr B) (hs : s < dr) (hd : dr < 25999) (h1 : lo ≤ dr) (h2 : dr ≤ lim) (hq : q < 8002) : BM S q flt lo lim (k_RM_function_56 N rb fu (nI s) (qz S q 1 flt dr B)) := by
  obtain ⟨fu, rfl⟩ : ∃ x, fu = x + 1 := ⟨fu - 1, by omega⟩
  unfold k_RM_function_56 k_RM_function_83
  refine BM_I q_look1 (BM_nif (by decide) (BM_V q_takeb (BM_nif n10 (bm_jn ?_ rfl))))
  exact ⟨_, _, _, rfl, h1, h2, hI, Or.inr ⟨s, hs, rfl⟩⟩
theorem k83_bad {rb : (Int32 → rm_S → Option (Int32 × rm_S))} {s : Nat} {flt : Int32} {q dr lo lim : Nat} {B : Nat → Nat → Int32} (hI : BI dr B) (hs : s < dr) (h1 : lo ≤ dr) (h2 : dr ≤ lim) : BM S q flt lo lim (k_RM_function_83 N rb (nI s) (qz S q 1 flt dr B)) := by
  unfold k_RM_function_83
  refine BM_V q_takeb (BM_nif n10 (bm_jn ?_ rfl))
  exact ⟨_, _, _, rfl, h1, h2, hI, Or.inr ⟨s, hs, rfl⟩⟩
theorem fun_end {lim hm : Nat} {pb : (Nat → Int32 → mh_H → Option (Bool × Int32 × mh_H))} {rb : (Int32 → rm_S → Option (Int32 × rm_S))} (E : EN σ ap dd tt bk bp bv dk dp dv dz n room tk tp tv S N) (hS : SimB σ ap dd dk dp dv dz n tk tp S 1 lim hm pb rb) (hl : 16010 ≤ lim ∧ lim < 25900 ∧ 1 ≤ hm) {flt : Int32} {q0 dr0 s q dr j : Nat} {ds0 : List Ent} {B0 B : Nat → Nat → Int32} {f : Fo} (h0 : q0 < n ∧ ds0.length ≤ 2 * q0 ∧ dr0 ≤ 2 * q0) (hp : tp q0 < 10000) (hq0 : q0 < q) (hq : q < n) (hg : gd tk q) (hb : NB dr0 B0 s 1 (tp q0) 0 f dr B) (hdr : dr ≤ dr0 + 2 * (q - q0)) (hsz : 2 * siz f + 3 ≤ 3 * (q - q0)) (hw : wf n tk tp f) (hh : hgt f ≤ hm) (hk : kls f = 13 :: List.replicate j 13) :
    Out σ ap dd dk dp dv dz n tk tp S flt q0 ds0 dr0 B0 (lim + 10) (hm + 1) (k_PA_function_86 N pb ap (nI ds0.length) (nI (tp q0)) (pz σ ap dd dk dp dv dz q (ds0 ++ post f))) (k_RM_function_83 N rb (nI s) (qz S q 0 flt dr B)) := by
  obtain ⟨h, R, hn, hNN⟩ := E
  have h' := h
  obtain ⟨⟨a1, a2, a3⟩, ⟨a4, a5, a6, a7, a8, a9, a10⟩, ⟨c1, c2⟩, ⟨c4, c5, c6⟩, ⟨c7, c8, c9, c10⟩, -, ⟨e5, e6, e7⟩, e8, -, -, -, -, e9, e10, e11, e12, e13⟩ := h
  have ht : ∀ j, j < n → tk j < 35 := fun j hj => (e9 j hj).2.2.2
  have hlen : (ds0 ++ post f).length = ds0.length + siz f := by rw [List.length_append, post_len]
  have hs := nb_lt hb
  have htq := ht q hq
  by_cases u13 : tk q = 13
  · have q1 := e13 q hq (by omega)
    have g1 := gd_s hg (by omega) (by omega)
    rcases hS flt (q + 1) (ds0 ++ post f) dr B ⟨⟨q1, g1⟩, by omega, by omega, hb.2.2.2⟩ with ⟨q', i', p', v', c', dr', B', x1, x2, x3⟩ | ⟨q', y, x1, ⟨v, dr', B', x2, x3, x4, x5, x6⟩, x7, x8⟩
    · have hb' := nb_of x3
      obtain ⟨⟨y1, y2, y3⟩, -, -, -, y0, ⟨y4, y5, y6⟩, y7, y8⟩ := x3
      have hb2 := nb_join hb hb'
      have hj := nb_joinE (S := S) (N := N) (bad := 0) (flt := flt) (q := q') hb hb'
      refine Out_y (q := q') ?_ ?_ (New_of hb2 (by omega) y2 y3 (by omega) (by rw [siz_app]; simp only [siz] at *; omega) ⟨?_, by simp, ⟨hp, by rw [siz_app]; simp only [siz] at *; omega⟩, wf_app hw y7, trivial⟩ (by simp only [hgt, hgt_app] at *; omega))
      · unfold k_PA_function_86
        repeat (first
    | ((with_reducible apply X_bndE); focus (first | ((with_reducible apply pz_pp h') <;> omega) | ((with_reducible apply pz_kk h') <;> omega) | (with_reducible exact pz_14)); skip)
    | with_reducible refine X_bnd ?_
    | ((with_reducible apply X_chk); focus (first | exact a1 | exact a2 | exact a3 | exact a4 | exact a5 | ((with_reducible apply pz_i1 h') <;> omega) | ((with_reducible apply pz_i2 h') <;> omega)); skip)
    | ((with_reducible apply X_rfO); focus (first | exact c1 | exact c2 | exact c5); skip)
    | ((with_reducible apply X_I); focus (first | ((with_reducible apply p_kaC h') <;> omega) | ((with_reducible apply p_paC h') <;> omega) | ((with_reducible apply p_skip_y h') <;> first | omega | ((simp (disch := omega) only [lit, n_eq]) <;> omega)) | ((with_reducible apply p_skip_n h') <;> first | omega | ((simp (disch := first | omega | exact Nat.lt_trans (ht _ (by omega)) (by omega)) only [lit, n_eq]) <;> omega))); skip)
    | ((with_reducible apply X_if); focus (first | (with_reducible exact rfl) | (with_reducible exact n00) | ((simp (disch := omega) only [lit, n_eq]) <;> omega)); skip)
    | ((with_reducible apply X_nif); focus (first | exact n10 | ((with_reducible apply p_cnt h') <;> omega) | ((simp (disch := first | omega | exact Nat.lt_trans (ht _ (by omega)) (by omega)) only [lit, n_eq]) <;> omega)); skip)
    | ((with_reducible apply X_T); focus (first | ((with_reducible apply p_take_y h') <;> first | omega | ((simp (disch := omega) only [lit, n_eq]) <;> omega)) | ((with_reducible apply p_limit_y h' rfl) <;> omega)); skip)
    | ((with_reducible apply X_Tt); focus (first | ((with_reducible apply p_take_n h') <;> first | omega | ((simp (disch := first | omega | exact Nat.lt_trans (ht _ (by omega)) (by omega)) only [lit, n_eq]) <;> omega)) | ((with_reducible apply p_limit_n h' rfl) <;> omega)); skip))
        refine X_T x1 ?_
        repeat (first
    | ((with_reducible apply X_bndE); focus (first | ((with_reducible apply pz_pp h') <;> omega) | ((with_reducible apply pz_kk h') <;> omega) | (with_reducible exact pz_14)); skip)
    | with_reducible refine X_bnd ?_
    | ((with_reducible apply X_chk); focus (first | exact a1 | exact a2 | exact a3 | exact a4 | exact a5 | ((with_reducible apply pz_i1 h') <;> omega) | ((with_reducible apply pz_i2 h') <;> omega)); skip)
    | ((with_reducible apply X_rfO); focus (first | exact c1 | exact c2 | exact c5); skip)
    | ((with_reducible apply X_I); focus (first | ((with_reducible apply p_kaC h') <;> omega) | ((with_reducible apply p_paC h') <;> omega) | ((with_reducible apply p_skip_y h') <;> first | omega | ((simp (disch := omega) only [lit, n_eq]) <;> omega)) | ((with_reducible apply p_skip_n h') <;> first | omega | ((simp (disch := first | omega | exact Nat.lt_trans (ht _ (by omega)) (by omega)) only [lit, n_eq]) <;> omega))); skip)
    | ((with_reducible apply X_if); focus (first | (with_reducible exact rfl) | (with_reducible exact n00) | ((simp (disch := omega) only [lit, n_eq]) <;> omega)); skip)
    | ((with_reducible apply X_nif); focus (first | exact n10 | ((with_reducible apply p_cnt h') <;> omega) | ((simp (disch := first | omega | exact Nat.lt_trans (ht _ (by omega)) (by omega)) only [lit, n_eq]) <;> omega)); skip)
    | ((with_reducible apply X_T); focus (first | ((with_reducible apply p_take_y h') <;> first | omega | ((simp (disch := omega) only [lit, n_eq]) <;> omega)) | ((with_reducible apply p_limit_y h' rfl) <;> omega)); skip)
    | ((with_reducible apply X_Tt); focus (first | ((with_reducible apply p_take_n h') <;> first | omega | ((simp (disch := first | omega | exact Nat.lt_trans (ht _ (by omega)) (by omega)) only [lit, n_eq]) <;> omega)) | ((with_reducible apply p_limit_n h' rfl) <;> omega)); skip))
        rw [List.append_assoc, ← post_app]
        exact X_V (p_fin h' (by rw [siz_app]; simp only [siz] at *; omega) rfl s) rfl
      · unfold k_RM_function_83
        repeat (first
    | with_reducible refine A_VI ?_
    | with_reducible refine A_VV ?_
    | with_reducible refine A_Vif ?_
    | with_reducible refine A_Vs ?_
    | with_reducible refine A_II ?_
    | with_reducible refine A_IV ?_
    | with_reducible refine A_Iif ?_
    | with_reducible refine A_Is ?_
    | with_reducible refine A_Ichk ?_
    | ((with_reducible apply X_bndE); focus (first | ((with_reducible apply r_p R hn) <;> first | omega | assumption)); skip)
    | with_reducible refine X_bnd ?_
    | ((with_reducible apply X_chk); focus (((with_reducible apply r_i hn)) <;> omega); skip)
    | ((with_reducible apply X_I); focus (first | ((with_reducible apply r_look R hn) <;> first | omega | assumption) | (with_reducible exact q_look1) | ((with_reducible apply r_draft) <;> first | omega | exact rfl | exact r_p R hn (by omega) (by assumption)) | ((with_reducible apply r_name_y R hn) <;> first | omega | assumption)); skip)
    | ((with_reducible apply X_V); focus (first | ((with_reducible apply r_take_y R hn) <;> first | omega | assumption | first | exact rfl | (with_reducible exact n00) | exact kp_y (by assumption) (by decide)) | ((with_reducible apply r_take_n R hn) <;> first | omega | assumption | first | exact n10 | ((simp (disch := first | assumption | omega | exact ht _ (by omega)) only [lit, n_eq, n_le, kp_0, kp_1, kp_2, kp_3, kp_4, kp_5, kp_6, kp_7, kp_8, kp_9, kp_10, kp_11, kp_12, kp_13, kp_14, kp_15, kp_16, kp_17, kp_18, kp_19, kp_20, kp_21, kp_22, kp_23, kp_24, kp_25, kp_26, kp_27, kp_28, kp_29, kp_30, kp_31, kp_32, kp_33, kp_34]) <;> omega)) | (with_reducible exact q_takeb) | ((with_reducible apply q_deep_y rfl) <;> omega) | ((with_reducible apply q_deep_n R rfl) <;> first | omega | assumption) | (with_reducible exact q_needb) | (with_reducible exact r_need1) | ((with_reducible apply r_need0 R hn) <;> first | omega | assumption)); skip)
    | ((with_reducible apply X_if); focus (first | exact rfl | (with_reducible exact n00) | exact kp_y (by assumption) (by decide)); skip)
    | ((with_reducible apply X_nif); focus (first | exact n10 | ((simp (disch := first | assumption | omega | exact ht _ (by omega)) only [lit, n_eq, n_le, kp_0, kp_1, kp_2, kp_3, kp_4, kp_5, kp_6, kp_7, kp_8, kp_9, kp_10, kp_11, kp_12, kp_13, kp_14, kp_15, kp_16, kp_17, kp_18, kp_19, kp_20, kp_21, kp_22, kp_23, kp_24, kp_25, kp_26, kp_27, kp_28, kp_29, kp_30, kp_31, kp_32, kp_33, kp_34]) <;> omega)); skip))
        refine X_I x2 ?_
        exact X_V hj rfl
      · rw [kls_app, hk]
        exact ⟨j, rfl⟩
    · refine Out_b (q := q') (x := post f ++ y) ?_ rfl ?_ x7 x8
      · rw [← List.append_assoc]
        unfold k_PA_function_86
        repeat (first
    | ((with_reducible apply X_bndE); focus (first | ((with_reducible apply pz_pp h') <;> omega) | ((with_reducible apply pz_kk h') <;> omega) | (with_reducible exact pz_14)); skip)
    | with_reducible refine X_bnd ?_
    | ((with_reducible apply X_chk); focus (first | exact a1 | exact a2 | exact a3 | exact a4 | exact a5 | ((with_reducible apply pz_i1 h') <;> omega) | ((with_reducible apply pz_i2 h') <;> omega)); skip)
    | ((with_reducible apply X_rfO); focus (first | exact c1 | exact c2 | exact c5); skip)
    | ((with_reducible apply X_I); focus (first | ((with_reducible apply p_kaC h') <;> omega) | ((with_reducible apply p_paC h') <;> omega) | ((with_reducible apply p_skip_y h') <;> first | omega | ((simp (disch := omega) only [lit, n_eq]) <;> omega)) | ((with_reducible apply p_skip_n h') <;> first | omega | ((simp (disch := first | omega | exact Nat.lt_trans (ht _ (by omega)) (by omega)) only [lit, n_eq]) <;> omega))); skip)
    | ((with_reducible apply X_if); focus (first | (with_reducible exact rfl) | (with_reducible exact n00) | ((simp (disch := omega) only [lit, n_eq]) <;> omega)); skip)
    | ((with_reducible apply X_nif); focus (first | exact n10 | ((with_reducible apply p_cnt h') <;> omega) | ((simp (disch := first | omega | exact Nat.lt_trans (ht _ (by omega)) (by omega)) only [lit, n_eq]) <;> omega)); skip)
    | ((with_reducible apply X_T); focus (first | ((with_reducible apply p_take_y h') <;> first | omega | ((simp (disch := omega) only [lit, n_eq]) <;> omega)) | ((with_reducible apply p_limit_y h' rfl) <;> omega)); skip)
    | ((with_reducible apply X_Tt); focus (first | ((with_reducible apply p_take_n h') <;> first | omega | ((simp (disch := first | omega | exact Nat.lt_trans (ht _ (by omega)) (by omega)) only [lit, n_eq]) <;> omega)) | ((with_reducible apply p_limit_n h' rfl) <;> omega)); skip))
        exact X_Tt x1 rfl
      · unfold k_RM_function_83
        repeat (first
    | with_reducible refine M_VI ?_
    | with_reducible refine M_VV ?_
    | with_reducible refine M_Vif ?_
    | with_reducible refine M_Vs ?_
    | with_reducible refine M_II ?_
    | with_reducible refine M_IV ?_
    | with_reducible refine M_Iif ?_
    | with_reducible refine M_Is ?_
    | with_reducible refine M_Ichk ?_
    | ((with_reducible apply BM_bndE); focus (first | ((with_reducible apply r_p R hn) <;> first | omega | assumption)); skip)
    | with_reducible refine BM_bnd ?_
    | ((with_reducible apply BM_chk); focus (((with_reducible apply r_i hn)) <;> omega); skip)
    | ((with_reducible apply BM_I); focus (first | ((with_reducible apply r_look R hn) <;> first | omega | assumption) | (with_reducible exact q_look1) | ((with_reducible apply r_draft) <;> first | omega | exact rfl | exact r_p R hn (by omega) (by assumption)) | ((with_reducible apply r_db) <;> omega) | ((with_reducible apply r_nb) <;> omega) | ((with_reducible apply r_nameb) <;> omega) | ((with_reducible apply r_name_y R hn) <;> first | omega | assumption) | ((with_reducible apply r_name_n R hn) <;> first | omega | assumption | exact ht _ (by omega))); skip)
    | ((with_reducible apply BM_V); focus (first | ((with_reducible apply r_take_y R hn) <;> first | omega | assumption | first | exact rfl | (with_reducible exact n00) | exact kp_y (by assumption) (by decide)) | ((with_reducible apply r_take_n R hn) <;> first | omega | assumption | first | exact n10 | ((simp (disch := first | assumption | omega | exact ht _ (by omega)) only [lit, n_eq, n_le, kp_0, kp_1, kp_2, kp_3, kp_4, kp_5, kp_6, kp_7, kp_8, kp_9, kp_10, kp_11, kp_12, kp_13, kp_14, kp_15, kp_16, kp_17, kp_18, kp_19, kp_20, kp_21, kp_22, kp_23, kp_24, kp_25, kp_26, kp_27, kp_28, kp_29, kp_30, kp_31, kp_32, kp_33, kp_34]) <;> omega)) | (with_reducible exact q_takeb) | ((with_reducible apply q_deep_y rfl) <;> omega) | ((with_reducible apply q_deep_n R rfl) <;> first | omega | assumption) | ((with_reducible apply q_deepb' rfl) <;> omega) | (with_reducible exact q_needb) | (with_reducible exact r_need1) | ((with_reducible apply r_need0 R hn) <;> first | omega | assumption)); skip)
    | ((with_reducible apply BM_if); focus (first | exact rfl | (with_reducible exact n00) | exact kp_y (by assumption) (by decide)); skip)
    | ((with_reducible apply BM_nif); focus (first | exact n10 | ((simp (disch := first | assumption | omega | exact ht _ (by omega)) only [lit, n_eq, n_le, kp_0, kp_1, kp_2, kp_3, kp_4, kp_5, kp_6, kp_7, kp_8, kp_9, kp_10, kp_11, kp_12, kp_13, kp_14, kp_15, kp_16, kp_17, kp_18, kp_19, kp_20, kp_21, kp_22, kp_23, kp_24, kp_25, kp_26, kp_27, kp_28, kp_29, kp_30, kp_31, kp_32, kp_33, kp_34]) <;> omega)); skip)
    | (with_reducible refine bm_jn ?_ rfl)
    | ((with_reducible apply bm_join); (focus (first | assumption | exact BI_new (by assumption) | exact BI_new (BI_new (by assumption)) | exact BI_new (BI_new (BI_new (by assumption))))); (focus omega); (focus omega); (focus (first | assumption | exact Or.inr ⟨_, by omega, rfl⟩)); intro _ _)
    | exact ⟨_, _, _, (by with_reducible rfl), by omega, by omega, (by first | assumption | exact BI_new (by assumption) | exact BI_new (BI_new (by assumption)) | exact BI_new (BI_new (BI_new (by assumption)))), (by first | exact Or.inl rfl | assumption | exact Or.inr ⟨_, by omega, rfl⟩)⟩)
        refine BM_I x2 ?_
        repeat (first
    | with_reducible refine M_VI ?_
    | with_reducible refine M_VV ?_
    | with_reducible refine M_Vif ?_
    | with_reducible refine M_Vs ?_
    | with_reducible refine M_II ?_
    | with_reducible refine M_IV ?_
    | with_reducible refine M_Iif ?_
    | with_reducible refine M_Is ?_
    | with_reducible refine M_Ichk ?_
    | ((with_reducible apply BM_bndE); focus (first | ((with_reducible apply r_p R hn) <;> first | omega | assumption)); skip)
    | with_reducible refine BM_bnd ?_
    | ((with_reducible apply BM_chk); focus (((with_reducible apply r_i hn)) <;> omega); skip)
    | ((with_reducible apply BM_I); focus (first | ((with_reducible apply r_look R hn) <;> first | omega | assumption) | (with_reducible exact q_look1) | ((with_reducible apply r_draft) <;> first | omega | exact rfl | exact r_p R hn (by omega) (by assumption)) | ((with_reducible apply r_db) <;> omega) | ((with_reducible apply r_nb) <;> omega) | ((with_reducible apply r_nameb) <;> omega) | ((with_reducible apply r_name_y R hn) <;> first | omega | assumption) | ((with_reducible apply r_name_n R hn) <;> first | omega | assumption | exact ht _ (by omega))); skip)
    | ((with_reducible apply BM_V); focus (first | ((with_reducible apply r_take_y R hn) <;> first | omega | assumption | first | exact rfl | (with_reducible exact n00) | exact kp_y (by assumption) (by decide)) | ((with_reducible apply r_take_n R hn) <;> first | omega | assumption | first | exact n10 | ((simp (disch := first | assumption | omega | exact ht _ (by omega)) only [lit, n_eq, n_le, kp_0, kp_1, kp_2, kp_3, kp_4, kp_5, kp_6, kp_7, kp_8, kp_9, kp_10, kp_11, kp_12, kp_13, kp_14, kp_15, kp_16, kp_17, kp_18, kp_19, kp_20, kp_21, kp_22, kp_23, kp_24, kp_25, kp_26, kp_27, kp_28, kp_29, kp_30, kp_31, kp_32, kp_33, kp_34]) <;> omega)) | (with_reducible exact q_takeb) | ((with_reducible apply q_deep_y rfl) <;> omega) | ((with_reducible apply q_deep_n R rfl) <;> first | omega | assumption) | ((with_reducible apply q_deepb' rfl) <;> omega) | (with_reducible exact q_needb) | (with_reducible exact r_need1) | ((with_reducible apply r_need0 R hn) <;> first | omega | assumption)); skip)
    | ((with_reducible apply BM_if); focus (first | exact rfl | (with_reducible exact n00) | exact kp_y (by assumption) (by decide)); skip)
    | ((with_reducible apply BM_nif); focus (first | exact n10 | ((simp (disch := first | assumption | omega | exact ht _ (by omega)) only [lit, n_eq, n_le, kp_0, kp_1, kp_2, kp_3, kp_4, kp_5, kp_6, kp_7, kp_8, kp_9, kp_10, kp_11, kp_12, kp_13, kp_14, kp_15, kp_16, kp_17, kp_18, kp_19, kp_20, kp_21, kp_22, kp_23, kp_24, kp_25, kp_26, kp_27, kp_28, kp_29, kp_30, kp_31, kp_32, kp_33, kp_34]) <;> omega)); skip)
    | (with_reducible refine bm_jn ?_ rfl)
    | ((with_reducible apply bm_join); (focus (first | assumption | exact BI_new (by assumption) | exact BI_new (BI_new (by assumption)) | exact BI_new (BI_new (BI_new (by assumption))))); (focus omega); (focus omega); (focus (first | assumption | exact Or.inr ⟨_, by omega, rfl⟩)); intro _ _)
    | exact ⟨_, _, _, (by with_reducible rfl), by omega, by omega, (by first | assumption | exact BI_new (by assumption) | exact BI_new (BI_new (by assumption)) | exact BI_new (BI_new (BI_new (by assumption)))), (by first | exact Or.inl rfl | assumption | exact Or.inr ⟨_, by omega, rfl⟩)⟩)
  · refine Out_b (q := q) (x := post f) ?_ rfl ?_ hq hg
    · unfold k_PA_function_86
      repeat (first
    | ((with_reducible apply X_bndE); focus (first | ((with_reducible apply pz_pp h') <;> omega) | ((with_reducible apply pz_kk h') <;> omega) | (with_reducible exact pz_14)); skip)
    | with_reducible refine X_bnd ?_
    | ((with_reducible apply X_chk); focus (first | exact a1 | exact a2 | exact a3 | exact a4 | exact a5 | ((with_reducible apply pz_i1 h') <;> omega) | ((with_reducible apply pz_i2 h') <;> omega)); skip)
    | ((with_reducible apply X_rfO); focus (first | exact c1 | exact c2 | exact c5); skip)
    | ((with_reducible apply X_I); focus (first | ((with_reducible apply p_kaC h') <;> omega) | ((with_reducible apply p_paC h') <;> omega) | ((with_reducible apply p_skip_y h') <;> first | omega | ((simp (disch := omega) only [lit, n_eq]) <;> omega)) | ((with_reducible apply p_skip_n h') <;> first | omega | ((simp (disch := first | omega | exact Nat.lt_trans (ht _ (by omega)) (by omega)) only [lit, n_eq]) <;> omega))); skip)
    | ((with_reducible apply X_if); focus (first | (with_reducible exact rfl) | (with_reducible exact n00) | ((simp (disch := omega) only [lit, n_eq]) <;> omega)); skip)
    | ((with_reducible apply X_nif); focus (first | exact n10 | ((with_reducible apply p_cnt h') <;> omega) | ((simp (disch := first | omega | exact Nat.lt_trans (ht _ (by omega)) (by omega)) only [lit, n_eq]) <;> omega)); skip)
    | ((with_reducible apply X_T); focus (first | ((with_reducible apply p_take_y h') <;> first | omega | ((simp (disch := omega) only [lit, n_eq]) <;> omega)) | ((with_reducible apply p_limit_y h' rfl) <;> omega)); skip)
    | ((with_reducible apply X_Tt); focus (first | ((with_reducible apply p_take_n h') <;> first | omega | ((simp (disch := first | omega | exact Nat.lt_trans (ht _ (by omega)) (by omega)) only [lit, n_eq]) <;> omega)) | ((with_reducible apply p_limit_n h' rfl) <;> omega)); skip))
      rfl
    · unfold k_RM_function_83
      have hBI := hb.2.2.2
      repeat (first
    | with_reducible refine M_VI ?_
    | with_reducible refine M_VV ?_
    | with_reducible refine M_Vif ?_
    | with_reducible refine M_Vs ?_
    | with_reducible refine M_II ?_
    | with_reducible refine M_IV ?_
    | with_reducible refine M_Iif ?_
    | with_reducible refine M_Is ?_
    | with_reducible refine M_Ichk ?_
    | ((with_reducible apply BM_bndE); focus (first | ((with_reducible apply r_p R hn) <;> first | omega | assumption)); skip)
    | with_reducible refine BM_bnd ?_
    | ((with_reducible apply BM_chk); focus (((with_reducible apply r_i hn)) <;> omega); skip)
    | ((with_reducible apply BM_I); focus (first | ((with_reducible apply r_look R hn) <;> first | omega | assumption) | (with_reducible exact q_look1) | ((with_reducible apply r_draft) <;> first | omega | exact rfl | exact r_p R hn (by omega) (by assumption)) | ((with_reducible apply r_db) <;> omega) | ((with_reducible apply r_nb) <;> omega) | ((with_reducible apply r_nameb) <;> omega) | ((with_reducible apply r_name_y R hn) <;> first | omega | assumption) | ((with_reducible apply r_name_n R hn) <;> first | omega | assumption | exact ht _ (by omega))); skip)
    | ((with_reducible apply BM_V); focus (first | ((with_reducible apply r_take_y R hn) <;> first | omega | assumption | first | exact rfl | (with_reducible exact n00) | exact kp_y (by assumption) (by decide)) | ((with_reducible apply r_take_n R hn) <;> first | omega | assumption | first | exact n10 | ((simp (disch := first | assumption | omega | exact ht _ (by omega)) only [lit, n_eq, n_le, kp_0, kp_1, kp_2, kp_3, kp_4, kp_5, kp_6, kp_7, kp_8, kp_9, kp_10, kp_11, kp_12, kp_13, kp_14, kp_15, kp_16, kp_17, kp_18, kp_19, kp_20, kp_21, kp_22, kp_23, kp_24, kp_25, kp_26, kp_27, kp_28, kp_29, kp_30, kp_31, kp_32, kp_33, kp_34]) <;> omega)) | (with_reducible exact q_takeb) | ((with_reducible apply q_deep_y rfl) <;> omega) | ((with_reducible apply q_deep_n R rfl) <;> first | omega | assumption) | ((with_reducible apply q_deepb' rfl) <;> omega) | (with_reducible exact q_needb) | (with_reducible exact r_need1) | ((with_reducible apply r_need0 R hn) <;> first | omega | assumption)); skip)
    | ((with_reducible apply BM_if); focus (first | exact rfl | (with_reducible exact n00) | exact kp_y (by assumption) (by decide)); skip)
    | ((with_reducible apply BM_nif); focus (first | exact n10 | ((simp (disch := first | assumption | omega | exact ht _ (by omega)) only [lit, n_eq, n_le, kp_0, kp_1, kp_2, kp_3, kp_4, kp_5, kp_6, kp_7, kp_8, kp_9, kp_10, kp_11, kp_12, kp_13, kp_14, kp_15, kp_16, kp_17, kp_18, kp_19, kp_20, kp_21, kp_22, kp_23, kp_24, kp_25, kp_26, kp_27, kp_28, kp_29, kp_30, kp_31, kp_32, kp_33, kp_34]) <;> omega)); skip)
    | (with_reducible refine bm_jn ?_ rfl)
    | ((with_reducible apply bm_join); (focus (first | assumption | exact BI_new (by assumption) | exact BI_new (BI_new (by assumption)) | exact BI_new (BI_new (BI_new (by assumption))))); (focus omega); (focus omega); (focus (first | assumption | exact Or.inr ⟨_, by omega, rfl⟩)); intro _ _)
    | exact ⟨_, _, _, (by with_reducible rfl), by omega, by omega, (by first | assumption | exact BI_new (by assumption) | exact BI_new (BI_new (by assumption)) | exact BI_new (BI_new (BI_new (by assumption)))), (by first | exact Or.inl rfl | assumption | exact Or.inr ⟨_, by omega, rfl⟩)⟩)
theorem loop_fun {lim hm : Nat} {pb : (Nat → Int32 → mh_H → Option (Bool × Int32 × mh_H))} {rb : (Int32 → rm_S → Option (Int32 × rm_S))} (E : EN σ ap dd tt bk bp bv dk dp dv dz n room tk tp tv S N) (hS : SimB σ ap dd dk dp dv dz n tk tp S 1 lim hm pb rb) (hl : 16010 ≤ lim ∧ lim < 25900 ∧ 1 ≤ hm) {flt : Int32} {q0 dr0 s : Nat} {ds0 : List Ent} {B0 : Nat → Nat → Int32} (h0 : q0 < n ∧ ds0.length ≤ 2 * q0 ∧ dr0 ≤ 2 * q0) (hp : tp q0 < 10000) :
    ∀ m q f o dr B fu fu' j, n - q ≤ m → m < fu → m < fu' → q0 < q → q < n → gd tk q → NB dr0 B0 s 1 (tp q0) 0 f dr B → (dr ≤ dr0 + 2 * (q - q0) ∧ 2 * siz f + 3 ≤ 3 * (q - q0) ∧ o + q0 ≤ q) → wf n tk tp f → hgt f ≤ hm → kls f = 13 :: List.replicate j 13 →
    Out σ ap dd dk dp dv dz n tk tp S flt q0 ds0 dr0 B0 (lim + 10) (hm + 1) (k_PA_function_56 N pb fu ap (nI ds0.length) (nI (tp q0)) (nI o) (pz σ ap dd dk dp dv dz q (ds0 ++ post f))) (k_RM_function_56 N rb fu' (nI s) (qz S q 0 flt dr B)) := by
  have E' := E
  obtain ⟨h, R, hn, hNN⟩ := E
  have h' := h
  obtain ⟨⟨a1, a2, a3⟩, ⟨a4, a5, a6, a7, a8, a9, a10⟩, ⟨c1, c2⟩, ⟨c4, c5, c6⟩, ⟨c7, c8, c9, c10⟩, -, ⟨e5, e6, e7⟩, e8, -, -, -, -, e9, e10, e11, e12, e13⟩ := h
  have ht : ∀ j, j < n → tk j < 35 := fun j hj => (e9 j hj).2.2.2
  intro m
  induction m with
  | zero => intro q f o dr B fu fu' j h1 _ _ _ h2; omega
  | succ m ih =>
    intro q f o dr B fu fu' j h1 hfu hfu' hq0 hq hg hb ⟨hdr, hsz, hoq⟩ hw hh hk
    obtain ⟨fu, rfl⟩ : ∃ x, fu = x + 1 := ⟨fu - 1, by omega⟩
    obtain ⟨fu', rfl⟩ : ∃ x, fu' = x + 1 := ⟨fu' - 1, by omega⟩
    have hlen : (ds0 ++ post f).length = ds0.length + siz f := by rw [List.length_append, post_len]
    have hs := nb_lt hb
    have htq := ht q hq
    by_cases u18 : tk q = 18
    · have q1 := e13 q hq (by omega)
      have g1 := gd_s hg (by omega) (by omega)
      have htq1 := ht (q + 1) q1
      by_cases u2 : tk (q + 1) = 2
      · have q2 := e13 (q + 1) q1 (by omega)
        have g2 := gd_s g1 (by omega) (by omega)
        have hb' := nb_new (k := 13) (p := tp (q + 1)) (v := nI (q + 1)) (show dr < 26000 by omega) hb.2.2.2
        have hb2 := nb_join hb hb'
        have hj := fun q' => nb_joinE (S := S) (N := N) (bad := 0) (flt := flt) (q := q') hb hb'
        have hnC := p_name_y (N := N) (ds := ds0 ++ post f) h' q1 (by omega) u2 dr
        refine Out_c (rc' := k_PA_function_56 N pb fu ap (nI ds0.length) (nI (tp q0)) (nI (o + 1)) (pz σ ap dd dk dp dv dz (q + 1 + 1) (ds0 ++ post (app f (one dr 13 (tp (q + 1)) (nI (q + 1)) .leaf))))) (rr' := k_RM_function_56 N rb fu' (nI s) (qz S (q + 1 + 1) 0 flt (dr + 1) (bj (bd B dr (nI 13) (nI (tp (q + 1))) (nI (q + 1))) s f dr))) ?_ ?_ ?_
        · conv => lhs; unfold k_PA_function_56
          repeat (first
    | ((with_reducible apply X_bndE); focus (first | ((with_reducible apply pz_pp h') <;> omega) | ((with_reducible apply pz_kk h') <;> omega) | (with_reducible exact pz_14)); skip)
    | with_reducible refine X_bnd ?_
    | ((with_reducible apply X_chk); focus (first | exact a1 | exact a2 | exact a3 | exact a4 | exact a5 | ((with_reducible apply pz_i1 h') <;> omega) | ((with_reducible apply pz_i2 h') <;> omega)); skip)
    | ((with_reducible apply X_rfO); focus (first | exact c1 | exact c2 | exact c5); skip)
    | ((with_reducible apply X_I); focus (first | ((with_reducible apply p_kaC h') <;> omega) | ((with_reducible apply p_paC h') <;> omega) | ((with_reducible apply p_skip_y h') <;> first | omega | ((simp (disch := omega) only [lit, n_eq]) <;> omega)) | ((with_reducible apply p_skip_n h') <;> first | omega | ((simp (disch := first | omega | exact Nat.lt_trans (ht _ (by omega)) (by omega)) only [lit, n_eq]) <;> omega))); skip)
    | ((with_reducible apply X_if); focus (first | (with_reducible exact rfl) | (with_reducible exact n00) | ((simp (disch := omega) only [lit, n_eq]) <;> omega)); skip)
    | ((with_reducible apply X_nif); focus (first | exact n10 | ((with_reducible apply p_cnt h') <;> omega) | ((simp (disch := first | omega | exact Nat.lt_trans (ht _ (by omega)) (by omega)) only [lit, n_eq]) <;> omega)); skip)
    | ((with_reducible apply X_T); focus (first | ((with_reducible apply p_take_y h') <;> first | omega | ((simp (disch := omega) only [lit, n_eq]) <;> omega)) | ((with_reducible apply p_limit_y h' rfl) <;> omega)); skip)
    | ((with_reducible apply X_Tt); focus (first | ((with_reducible apply p_take_n h') <;> first | omega | ((simp (disch := first | omega | exact Nat.lt_trans (ht _ (by omega)) (by omega)) only [lit, n_eq]) <;> omega)) | ((with_reducible apply p_limit_n h' rfl) <;> omega)); skip))
          refine X_T hnC ?_
          rw [List.append_assoc, ← post_app, ← n_add o 1]; rfl
        · conv => lhs; unfold k_RM_function_56
          repeat (first
    | with_reducible refine A_VI ?_
    | with_reducible refine A_VV ?_
    | with_reducible refine A_Vif ?_
    | with_reducible refine A_Vs ?_
    | with_reducible refine A_II ?_
    | with_reducible refine A_IV ?_
    | with_reducible refine A_Iif ?_
    | with_reducible refine A_Is ?_
    | with_reducible refine A_Ichk ?_
    | ((with_reducible apply X_bndE); focus (first | ((with_reducible apply r_p R hn) <;> first | omega | assumption)); skip)
    | with_reducible refine X_bnd ?_
    | ((with_reducible apply X_chk); focus (((with_reducible apply r_i hn)) <;> omega); skip)
    | ((with_reducible apply X_I); focus (first | ((with_reducible apply r_look R hn) <;> first | omega | assumption) | (with_reducible exact q_look1) | ((with_reducible apply r_draft) <;> first | omega | exact rfl | exact r_p R hn (by omega) (by assumption)) | ((with_reducible apply r_name_y R hn) <;> first | omega | assumption)); skip)
    | ((with_reducible apply X_V); focus (first | ((with_reducible apply r_take_y R hn) <;> first | omega | assumption | first | exact rfl | (with_reducible exact n00) | exact kp_y (by assumption) (by decide)) | ((with_reducible apply r_take_n R hn) <;> first | omega | assumption | first | exact n10 | ((simp (disch := first | assumption | omega | exact ht _ (by omega)) only [lit, n_eq, n_le, kp_0, kp_1, kp_2, kp_3, kp_4, kp_5, kp_6, kp_7, kp_8, kp_9, kp_10, kp_11, kp_12, kp_13, kp_14, kp_15, kp_16, kp_17, kp_18, kp_19, kp_20, kp_21, kp_22, kp_23, kp_24, kp_25, kp_26, kp_27, kp_28, kp_29, kp_30, kp_31, kp_32, kp_33, kp_34]) <;> omega)) | (with_reducible exact q_takeb) | ((with_reducible apply q_deep_y rfl) <;> omega) | ((with_reducible apply q_deep_n R rfl) <;> first | omega | assumption) | (with_reducible exact q_needb) | (with_reducible exact r_need1) | ((with_reducible apply r_need0 R hn) <;> first | omega | assumption)); skip)
    | ((with_reducible apply X_if); focus (first | exact rfl | (with_reducible exact n00) | exact kp_y (by assumption) (by decide)); skip)
    | ((with_reducible apply X_nif); focus (first | exact n10 | ((simp (disch := first | assumption | omega | exact ht _ (by omega)) only [lit, n_eq, n_le, kp_0, kp_1, kp_2, kp_3, kp_4, kp_5, kp_6, kp_7, kp_8, kp_9, kp_10, kp_11, kp_12, kp_13, kp_14, kp_15, kp_16, kp_17, kp_18, kp_19, kp_20, kp_21, kp_22, kp_23, kp_24, kp_25, kp_26, kp_27, kp_28, kp_29, kp_30, kp_31, kp_32, kp_33, kp_34]) <;> omega)); skip))
          exact X_V (hj _) rfl
        · refine ih (q + 1 + 1) _ (o + 1) (dr + 1) _ fu fu' (j + 1) (by omega) (by omega) (by omega) (by omega) q2 g2 hb2 ⟨by omega, ?_, by omega⟩ (wf_app hw (s_first q1 g1 u2 (R_3 R q1 g1) _)) ?_ ?_
          · rw [siz_app]; simp only [siz] at *; omega
          · rw [hgt_app]; simp only [hgt] at *; omega
          · rw [kls_app, hk, List.replicate_succ', ← List.cons_append]; rfl
      · refine Out_b (q := q + 1) (x := post f) ?_ rfl ?_ q1 g1
        · unfold k_PA_function_56
          repeat (first
    | ((with_reducible apply X_bndE); focus (first | ((with_reducible apply pz_pp h') <;> omega) | ((with_reducible apply pz_kk h') <;> omega) | (with_reducible exact pz_14)); skip)
    | with_reducible refine X_bnd ?_
    | ((with_reducible apply X_chk); focus (first | exact a1 | exact a2 | exact a3 | exact a4 | exact a5 | ((with_reducible apply pz_i1 h') <;> omega) | ((with_reducible apply pz_i2 h') <;> omega)); skip)
    | ((with_reducible apply X_rfO); focus (first | exact c1 | exact c2 | exact c5); skip)
    | ((with_reducible apply X_I); focus (first | ((with_reducible apply p_kaC h') <;> omega) | ((with_reducible apply p_paC h') <;> omega) | ((with_reducible apply p_skip_y h') <;> first | omega | ((simp (disch := omega) only [lit, n_eq]) <;> omega)) | ((with_reducible apply p_skip_n h') <;> first | omega | ((simp (disch := first | omega | exact Nat.lt_trans (ht _ (by omega)) (by omega)) only [lit, n_eq]) <;> omega))); skip)
    | ((with_reducible apply X_if); focus (first | (with_reducible exact rfl) | (with_reducible exact n00) | ((simp (disch := omega) only [lit, n_eq]) <;> omega)); skip)
    | ((with_reducible apply X_nif); focus (first | exact n10 | ((with_reducible apply p_cnt h') <;> omega) | ((simp (disch := first | omega | exact Nat.lt_trans (ht _ (by omega)) (by omega)) only [lit, n_eq]) <;> omega)); skip)
    | ((with_reducible apply X_T); focus (first | ((with_reducible apply p_take_y h') <;> first | omega | ((simp (disch := omega) only [lit, n_eq]) <;> omega)) | ((with_reducible apply p_limit_y h' rfl) <;> omega)); skip)
    | ((with_reducible apply X_Tt); focus (first | ((with_reducible apply p_take_n h') <;> first | omega | ((simp (disch := first | omega | exact Nat.lt_trans (ht _ (by omega)) (by omega)) only [lit, n_eq]) <;> omega)) | ((with_reducible apply p_limit_n h' rfl) <;> omega)); skip))
          exact X_Tt (p_name_n h' q1 (by omega) u2) rfl
        · conv => arg 6; unfold k_RM_function_56
          have hBI := hb.2.2.2
          repeat (first
    | with_reducible refine M_VI ?_
    | with_reducible refine M_VV ?_
    | with_reducible refine M_Vif ?_
    | with_reducible refine M_Vs ?_
    | with_reducible refine M_II ?_
    | with_reducible refine M_IV ?_
    | with_reducible refine M_Iif ?_
    | with_reducible refine M_Is ?_
    | with_reducible refine M_Ichk ?_
    | ((with_reducible apply BM_bndE); focus (first | ((with_reducible apply r_p R hn) <;> first | omega | assumption)); skip)
    | with_reducible refine BM_bnd ?_
    | ((with_reducible apply BM_chk); focus (((with_reducible apply r_i hn)) <;> omega); skip)
    | ((with_reducible apply BM_I); focus (first | ((with_reducible apply r_look R hn) <;> first | omega | assumption) | (with_reducible exact q_look1) | ((with_reducible apply r_draft) <;> first | omega | exact rfl | exact r_p R hn (by omega) (by assumption)) | ((with_reducible apply r_db) <;> omega) | ((with_reducible apply r_nb) <;> omega) | ((with_reducible apply r_nameb) <;> omega) | ((with_reducible apply r_name_y R hn) <;> first | omega | assumption) | ((with_reducible apply r_name_n R hn) <;> first | omega | assumption | exact ht _ (by omega))); skip)
    | ((with_reducible apply BM_V); focus (first | ((with_reducible apply r_take_y R hn) <;> first | omega | assumption | first | exact rfl | (with_reducible exact n00) | exact kp_y (by assumption) (by decide)) | ((with_reducible apply r_take_n R hn) <;> first | omega | assumption | first | exact n10 | ((simp (disch := first | assumption | omega | exact ht _ (by omega)) only [lit, n_eq, n_le, kp_0, kp_1, kp_2, kp_3, kp_4, kp_5, kp_6, kp_7, kp_8, kp_9, kp_10, kp_11, kp_12, kp_13, kp_14, kp_15, kp_16, kp_17, kp_18, kp_19, kp_20, kp_21, kp_22, kp_23, kp_24, kp_25, kp_26, kp_27, kp_28, kp_29, kp_30, kp_31, kp_32, kp_33, kp_34]) <;> omega)) | (with_reducible exact q_takeb) | ((with_reducible apply q_deep_y rfl) <;> omega) | ((with_reducible apply q_deep_n R rfl) <;> first | omega | assumption) | ((with_reducible apply q_deepb' rfl) <;> omega) | (with_reducible exact q_needb) | (with_reducible exact r_need1) | ((with_reducible apply r_need0 R hn) <;> first | omega | assumption)); skip)
    | ((with_reducible apply BM_if); focus (first | exact rfl | (with_reducible exact n00) | exact kp_y (by assumption) (by decide)); skip)
    | ((with_reducible apply BM_nif); focus (first | exact n10 | ((simp (disch := first | assumption | omega | exact ht _ (by omega)) only [lit, n_eq, n_le, kp_0, kp_1, kp_2, kp_3, kp_4, kp_5, kp_6, kp_7, kp_8, kp_9, kp_10, kp_11, kp_12, kp_13, kp_14, kp_15, kp_16, kp_17, kp_18, kp_19, kp_20, kp_21, kp_22, kp_23, kp_24, kp_25, kp_26, kp_27, kp_28, kp_29, kp_30, kp_31, kp_32, kp_33, kp_34]) <;> omega)); skip)
    | (with_reducible refine bm_jn ?_ rfl)
    | ((with_reducible apply bm_join); (focus (first | assumption | exact BI_new (by assumption) | exact BI_new (BI_new (by assumption)) | exact BI_new (BI_new (BI_new (by assumption))))); (focus omega); (focus omega); (focus (first | assumption | exact Or.inr ⟨_, by omega, rfl⟩)); intro _ _)
    | exact ⟨_, _, _, (by with_reducible rfl), by omega, by omega, (by first | assumption | exact BI_new (by assumption) | exact BI_new (BI_new (by assumption)) | exact BI_new (BI_new (BI_new (by assumption)))), (by first | exact Or.inl rfl | assumption | exact Or.inr ⟨_, by omega, rfl⟩)⟩)
          refine k56_bad (by omega) (by assumption) (by omega) (by omega) (by omega) (by omega) (by omega)
    · refine Out_c (rc' := k_PA_function_86 N pb ap (nI ds0.length) (nI (tp q0)) (pz σ ap dd dk dp dv dz q (ds0 ++ post f))) (rr' := k_RM_function_83 N rb (nI s) (qz S q 0 flt dr B)) ?_ ?_ (fun_end E' hS hl h0 hp hq0 hq hg hb hdr hsz hw hh hk)
      · unfold k_PA_function_56
        repeat (first
    | ((with_reducible apply X_bndE); focus (first | ((with_reducible apply pz_pp h') <;> omega) | ((with_reducible apply pz_kk h') <;> omega) | (with_reducible exact pz_14)); skip)
    | with_reducible refine X_bnd ?_
    | ((with_reducible apply X_chk); focus (first | exact a1 | exact a2 | exact a3 | exact a4 | exact a5 | ((with_reducible apply pz_i1 h') <;> omega) | ((with_reducible apply pz_i2 h') <;> omega)); skip)
    | ((with_reducible apply X_rfO); focus (first | exact c1 | exact c2 | exact c5); skip)
    | ((with_reducible apply X_I); focus (first | ((with_reducible apply p_kaC h') <;> omega) | ((with_reducible apply p_paC h') <;> omega) | ((with_reducible apply p_skip_y h') <;> first | omega | ((simp (disch := omega) only [lit, n_eq]) <;> omega)) | ((with_reducible apply p_skip_n h') <;> first | omega | ((simp (disch := first | omega | exact Nat.lt_trans (ht _ (by omega)) (by omega)) only [lit, n_eq]) <;> omega))); skip)
    | ((with_reducible apply X_if); focus (first | (with_reducible exact rfl) | (with_reducible exact n00) | ((simp (disch := omega) only [lit, n_eq]) <;> omega)); skip)
    | ((with_reducible apply X_nif); focus (first | exact n10 | ((with_reducible apply p_cnt h') <;> omega) | ((simp (disch := first | omega | exact Nat.lt_trans (ht _ (by omega)) (by omega)) only [lit, n_eq]) <;> omega)); skip)
    | ((with_reducible apply X_T); focus (first | ((with_reducible apply p_take_y h') <;> first | omega | ((simp (disch := omega) only [lit, n_eq]) <;> omega)) | ((with_reducible apply p_limit_y h' rfl) <;> omega)); skip)
    | ((with_reducible apply X_Tt); focus (first | ((with_reducible apply p_take_n h') <;> first | omega | ((simp (disch := first | omega | exact Nat.lt_trans (ht _ (by omega)) (by omega)) only [lit, n_eq]) <;> omega)) | ((with_reducible apply p_limit_n h' rfl) <;> omega)); skip))
        rfl
      · unfold k_RM_function_56
        repeat (first
    | with_reducible refine A_VI ?_
    | with_reducible refine A_VV ?_
    | with_reducible refine A_Vif ?_
    | with_reducible refine A_Vs ?_
    | with_reducible refine A_II ?_
    | with_reducible refine A_IV ?_
    | with_reducible refine A_Iif ?_
    | with_reducible refine A_Is ?_
    | with_reducible refine A_Ichk ?_
    | ((with_reducible apply X_bndE); focus (first | ((with_reducible apply r_p R hn) <;> first | omega | assumption)); skip)
    | with_reducible refine X_bnd ?_
    | ((with_reducible apply X_chk); focus (((with_reducible apply r_i hn)) <;> omega); skip)
    | ((with_reducible apply X_I); focus (first | ((with_reducible apply r_look R hn) <;> first | omega | assumption) | (with_reducible exact q_look1) | ((with_reducible apply r_draft) <;> first | omega | exact rfl | exact r_p R hn (by omega) (by assumption)) | ((with_reducible apply r_name_y R hn) <;> first | omega | assumption)); skip)
    | ((with_reducible apply X_V); focus (first | ((with_reducible apply r_take_y R hn) <;> first | omega | assumption | first | exact rfl | (with_reducible exact n00) | exact kp_y (by assumption) (by decide)) | ((with_reducible apply r_take_n R hn) <;> first | omega | assumption | first | exact n10 | ((simp (disch := first | assumption | omega | exact ht _ (by omega)) only [lit, n_eq, n_le, kp_0, kp_1, kp_2, kp_3, kp_4, kp_5, kp_6, kp_7, kp_8, kp_9, kp_10, kp_11, kp_12, kp_13, kp_14, kp_15, kp_16, kp_17, kp_18, kp_19, kp_20, kp_21, kp_22, kp_23, kp_24, kp_25, kp_26, kp_27, kp_28, kp_29, kp_30, kp_31, kp_32, kp_33, kp_34]) <;> omega)) | (with_reducible exact q_takeb) | ((with_reducible apply q_deep_y rfl) <;> omega) | ((with_reducible apply q_deep_n R rfl) <;> first | omega | assumption) | (with_reducible exact q_needb) | (with_reducible exact r_need1) | ((with_reducible apply r_need0 R hn) <;> first | omega | assumption)); skip)
    | ((with_reducible apply X_if); focus (first | exact rfl | (with_reducible exact n00) | exact kp_y (by assumption) (by decide)); skip)
    | ((with_reducible apply X_nif); focus (first | exact n10 | ((simp (disch := first | assumption | omega | exact ht _ (by omega)) only [lit, n_eq, n_le, kp_0, kp_1, kp_2, kp_3, kp_4, kp_5, kp_6, kp_7, kp_8, kp_9, kp_10, kp_11, kp_12, kp_13, kp_14, kp_15, kp_16, kp_17, kp_18, kp_19, kp_20, kp_21, kp_22, kp_23, kp_24, kp_25, kp_26, kp_27, kp_28, kp_29, kp_30, kp_31, kp_32, kp_33, kp_34]) <;> omega)); skip))
        rfl
theorem sim_function {lim hm : Nat} {pb : (Nat → Int32 → mh_H → Option (Bool × Int32 × mh_H))} {rb : (Int32 → rm_S → Option (Int32 × rm_S))} (E : EN σ ap dd tt bk bp bv dk dp dv dz n room tk tp tv S N) (hS : SimB σ ap dd dk dp dv dz n tk tp S 1 lim hm pb rb) (hl : 16010 ≤ lim ∧ lim < 25900 ∧ 1 ≤ hm) {flt : Int32} {q : Nat} {ds : List Ent} {dr : Nat} {B : Nat → Nat → Int32} (hI : Inp n tk q ds dr B) :
    Out σ ap dd dk dp dv dz n tk tp S flt q ds dr B (lim + 10) (hm + 1) (f_PA_function N pb ap (pz σ ap dd dk dp dv dz q ds)) (f_RM_function N rb (qz S q 0 flt dr B)) := by
  have E' := E
  obtain ⟨⟨i1, i2⟩, i3, i4, i5⟩ := hI
  obtain ⟨h, R, hn, hNN⟩ := E
  have h' := h
  obtain ⟨⟨a1, a2, a3⟩, ⟨a4, a5, a6, a7, a8, a9, a10⟩, ⟨c1, c2⟩, ⟨c4, c5, c6⟩, ⟨c7, c8, c9, c10⟩, -, ⟨e5, e6, e7⟩, e8, -, -, -, -, e9, e10, e11, e12, e13⟩ := h
  have ht : ∀ j, j < n → tk j < 35 := fun j hj => (e9 j hj).2.2.2
  have hb1 : ∀ j, j < n → j < hN σ bk := fun j hj => by omega
  have hb2 : ∀ j, j < n → j < hN σ bp := fun j hj => by omega
  have hp := R_3 R i1 i2
  have htq := ht q i1
  have hb := nb_new (k := 1) (p := tp q) (v := 0) (show dr < 26000 by omega) i5
  by_cases u4 : tk q = 4
  · have q1 := e13 q i1 (by omega)
    have g1 := gd_s i2 (by omega) (by omega)
    have htq1 := ht (q + 1) q1
    by_cases u2 : tk (q + 1) = 2
    · have q2 := e13 (q + 1) q1 (by omega)
      have g2 := gd_s g1 (by omega) (by omega)
      have htq2 := ht (q + 1 + 1) q2
      have hb1 := nb_new (k := 13) (p := tp (q + 1)) (v := nI (q + 1)) (show dr + 1 < 26000 by omega) hb.2.2.2
      have hb2 := nb_join hb hb1
      have hj := fun q' => nb_joinE (S := S) (N := N) (bad := 0) (flt := flt) (q := q') hb hb1
      have hnC := p_name_y (N := N) (ds := ds) h' q1 (by omega) u2 (dr + 1)
      have hw1 : wf n tk tp (one (dr + 1) 13 (tp (q + 1)) (nI (q + 1)) .leaf) := s_first q1 g1 u2 (R_3 R q1 g1) _
      have hll : (ds ++ post (one (dr + 1) 13 (tp (q + 1)) (nI (q + 1)) .leaf)).length = ds.length + 1 := by simp [post]
      by_cases u12 : tk (q + 1 + 1) = 12
      · have q3 := e13 (q + 1 + 1) q2 (by omega)
        have g3 := gd_s g2 (by omega) (by omega)
        have htq3 := ht (q + 1 + 1 + 1) q3
        by_cases v2 : tk (q + 1 + 1 + 1) = 2
        · have q4 := e13 (q + 1 + 1 + 1) q3 (by omega)
          have g4 := gd_s g3 (by omega) (by omega)
          have hb3 := nb_new (k := 13) (p := tp (q + 1 + 1 + 1)) (v := nI (q + 1 + 1 + 1)) (show dr + 1 + 1 < 26000 by omega) hb2.2.2.2
          have hb4 := nb_join hb2 hb3
          have hj2 := fun q' => nb_joinE (S := S) (N := N) (bad := 0) (flt := flt) (q := q') hb2 hb3
          have hnC2 := p_name_y (N := N) (ds := ds ++ post (one (dr + 1) 13 (tp (q + 1)) (nI (q + 1)) .leaf)) h' q3 (by omega) v2 (dr + 1 + 1)
          have hw2 : wf n tk tp (one (dr + 1 + 1) 13 (tp (q + 1 + 1 + 1)) (nI (q + 1 + 1 + 1)) .leaf) := s_first q3 g3 v2 (R_3 R q3 g3) _
          refine Out_c (rc' := k_PA_function_56 N pb N ap (nI ds.length) (nI (tp q)) (nI 0) (pz σ ap dd dk dp dv dz (q + 1 + 1 + 1 + 1) (ds ++ post (app (app .leaf (one (dr + 1) 13 (tp (q + 1)) (nI (q + 1)) .leaf)) (one (dr + 1 + 1) 13 (tp (q + 1 + 1 + 1)) (nI (q + 1 + 1 + 1)) .leaf))))) (rr' := k_RM_function_56 N rb N (nI dr) (qz S (q + 1 + 1 + 1 + 1) 0 flt (dr + 1 + 1 + 1) (bj (bd (bj (bd (bd B dr (nI 1) (nI (tp q)) 0) (dr + 1) (nI 13) (nI (tp (q + 1))) (nI (q + 1))) dr .leaf (dr + 1)) (dr + 1 + 1) (nI 13) (nI (tp (q + 1 + 1 + 1))) (nI (q + 1 + 1 + 1))) dr (app .leaf (one (dr + 1) 13 (tp (q + 1)) (nI (q + 1)) .leaf)) (dr + 1 + 1)))) ?_ ?_ ?_
          · unfold f_PA_function
            repeat (first
    | ((with_reducible apply X_bndE); focus (first | ((with_reducible apply pz_pp h') <;> omega) | ((with_reducible apply pz_kk h') <;> omega) | (with_reducible exact pz_14)); skip)
    | with_reducible refine X_bnd ?_
    | ((with_reducible apply X_chk); focus (first | exact a1 | exact a2 | exact a3 | exact a4 | exact a5 | ((with_reducible apply pz_i1 h') <;> omega) | ((with_reducible apply pz_i2 h') <;> omega)); skip)
    | ((with_reducible apply X_rfO); focus (first | exact c1 | exact c2 | exact c5); skip)
    | ((with_reducible apply X_I); focus (first | ((with_reducible apply p_kaC h') <;> omega) | ((with_reducible apply p_paC h') <;> omega) | ((with_reducible apply p_skip_y h') <;> first | omega | ((simp (disch := omega) only [lit, n_eq]) <;> omega)) | ((with_reducible apply p_skip_n h') <;> first | omega | ((simp (disch := first | omega | exact Nat.lt_trans (ht _ (by omega)) (by omega)) only [lit, n_eq]) <;> omega))); skip)
    | ((with_reducible apply X_if); focus (first | (with_reducible exact rfl) | (with_reducible exact n00) | ((simp (disch := omega) only [lit, n_eq]) <;> omega)); skip)
    | ((with_reducible apply X_nif); focus (first | exact n10 | ((with_reducible apply p_cnt h') <;> omega) | ((simp (disch := first | omega | exact Nat.lt_trans (ht _ (by omega)) (by omega)) only [lit, n_eq]) <;> omega)); skip)
    | ((with_reducible apply X_T); focus (first | ((with_reducible apply p_take_y h') <;> first | omega | ((simp (disch := omega) only [lit, n_eq]) <;> omega)) | ((with_reducible apply p_limit_y h' rfl) <;> omega)); skip)
    | ((with_reducible apply X_Tt); focus (first | ((with_reducible apply p_take_n h') <;> first | omega | ((simp (disch := first | omega | exact Nat.lt_trans (ht _ (by omega)) (by omega)) only [lit, n_eq]) <;> omega)) | ((with_reducible apply p_limit_n h' rfl) <;> omega)); skip))
            refine X_T hnC ?_
            repeat (first
    | ((with_reducible apply X_bndE); focus (first | ((with_reducible apply pz_pp h') <;> omega) | ((with_reducible apply pz_kk h') <;> omega) | (with_reducible exact pz_14)); skip)
    | with_reducible refine X_bnd ?_
    | ((with_reducible apply X_chk); focus (first | exact a1 | exact a2 | exact a3 | exact a4 | exact a5 | ((with_reducible apply pz_i1 h') <;> omega) | ((with_reducible apply pz_i2 h') <;> omega)); skip)
    | ((with_reducible apply X_rfO); focus (first | exact c1 | exact c2 | exact c5); skip)
    | ((with_reducible apply X_I); focus (first | ((with_reducible apply p_kaC h') <;> omega) | ((with_reducible apply p_paC h') <;> omega) | ((with_reducible apply p_skip_y h') <;> first | omega | ((simp (disch := omega) only [lit, n_eq]) <;> omega)) | ((with_reducible apply p_skip_n h') <;> first | omega | ((simp (disch := first | omega | exact Nat.lt_trans (ht _ (by omega)) (by omega)) only [lit, n_eq]) <;> omega))); skip)
    | ((with_reducible apply X_if); focus (first | (with_reducible exact rfl) | (with_reducible exact n00) | ((simp (disch := omega) only [lit, n_eq]) <;> omega)); skip)
    | ((with_reducible apply X_nif); focus (first | exact n10 | ((with_reducible apply p_cnt h') <;> omega) | ((simp (disch := first | omega | exact Nat.lt_trans (ht _ (by omega)) (by omega)) only [lit, n_eq]) <;> omega)); skip)
    | ((with_reducible apply X_T); focus (first | ((with_reducible apply p_take_y h') <;> first | omega | ((simp (disch := omega) only [lit, n_eq]) <;> omega)) | ((with_reducible apply p_limit_y h' rfl) <;> omega)); skip)
    | ((with_reducible apply X_Tt); focus (first | ((with_reducible apply p_take_n h') <;> first | omega | ((simp (disch := first | omega | exact Nat.lt_trans (ht _ (by omega)) (by omega)) only [lit, n_eq]) <;> omega)) | ((with_reducible apply p_limit_n h' rfl) <;> omega)); skip))
            refine X_T hnC2 ?_
            rw [List.append_assoc]; rfl
          · unfold f_RM_function
            repeat (first
    | with_reducible refine A_VI ?_
    | with_reducible refine A_VV ?_
    | with_reducible refine A_Vif ?_
    | with_reducible refine A_Vs ?_
    | with_reducible refine A_II ?_
    | with_reducible refine A_IV ?_
    | with_reducible refine A_Iif ?_
    | with_reducible refine A_Is ?_
    | with_reducible refine A_Ichk ?_
    | ((with_reducible apply X_bndE); focus (first | ((with_reducible apply r_p R hn) <;> first | omega | assumption)); skip)
    | with_reducible refine X_bnd ?_
    | ((with_reducible apply X_chk); focus (((with_reducible apply r_i hn)) <;> omega); skip)
    | ((with_reducible apply X_I); focus (first | ((with_reducible apply r_look R hn) <;> first | omega | assumption) | (with_reducible exact q_look1) | ((with_reducible apply r_draft) <;> first | omega | exact rfl | exact r_p R hn (by omega) (by assumption)) | ((with_reducible apply r_name_y R hn) <;> first | omega | assumption)); skip)
    | ((with_reducible apply X_V); focus (first | ((with_reducible apply r_take_y R hn) <;> first | omega | assumption | first | exact rfl | (with_reducible exact n00) | exact kp_y (by assumption) (by decide)) | ((with_reducible apply r_take_n R hn) <;> first | omega | assumption | first | exact n10 | ((simp (disch := first | assumption | omega | exact ht _ (by omega)) only [lit, n_eq, n_le, kp_0, kp_1, kp_2, kp_3, kp_4, kp_5, kp_6, kp_7, kp_8, kp_9, kp_10, kp_11, kp_12, kp_13, kp_14, kp_15, kp_16, kp_17, kp_18, kp_19, kp_20, kp_21, kp_22, kp_23, kp_24, kp_25, kp_26, kp_27, kp_28, kp_29, kp_30, kp_31, kp_32, kp_33, kp_34]) <;> omega)) | (with_reducible exact q_takeb) | ((with_reducible apply q_deep_y rfl) <;> omega) | ((with_reducible apply q_deep_n R rfl) <;> first | omega | assumption) | (with_reducible exact q_needb) | (with_reducible exact r_need1) | ((with_reducible apply r_need0 R hn) <;> first | omega | assumption)); skip)
    | ((with_reducible apply X_if); focus (first | exact rfl | (with_reducible exact n00) | exact kp_y (by assumption) (by decide)); skip)
    | ((with_reducible apply X_nif); focus (first | exact n10 | ((simp (disch := first | assumption | omega | exact ht _ (by omega)) only [lit, n_eq, n_le, kp_0, kp_1, kp_2, kp_3, kp_4, kp_5, kp_6, kp_7, kp_8, kp_9, kp_10, kp_11, kp_12, kp_13, kp_14, kp_15, kp_16, kp_17, kp_18, kp_19, kp_20, kp_21, kp_22, kp_23, kp_24, kp_25, kp_26, kp_27, kp_28, kp_29, kp_30, kp_31, kp_32, kp_33, kp_34]) <;> omega)); skip))
            refine X_V (hj _) ?_
            repeat (first
    | with_reducible refine A_VI ?_
    | with_reducible refine A_VV ?_
    | with_reducible refine A_Vif ?_
    | with_reducible refine A_Vs ?_
    | with_reducible refine A_II ?_
    | with_reducible refine A_IV ?_
    | with_reducible refine A_Iif ?_
    | with_reducible refine A_Is ?_
    | with_reducible refine A_Ichk ?_
    | ((with_reducible apply X_bndE); focus (first | ((with_reducible apply r_p R hn) <;> first | omega | assumption)); skip)
    | with_reducible refine X_bnd ?_
    | ((with_reducible apply X_chk); focus (((with_reducible apply r_i hn)) <;> omega); skip)
    | ((with_reducible apply X_I); focus (first | ((with_reducible apply r_look R hn) <;> first | omega | assumption) | (with_reducible exact q_look1) | ((with_reducible apply r_draft) <;> first | omega | exact rfl | exact r_p R hn (by omega) (by assumption)) | ((with_reducible apply r_name_y R hn) <;> first | omega | assumption)); skip)
    | ((with_reducible apply X_V); focus (first | ((with_reducible apply r_take_y R hn) <;> first | omega | assumption | first | exact rfl | (with_reducible exact n00) | exact kp_y (by assumption) (by decide)) | ((with_reducible apply r_take_n R hn) <;> first | omega | assumption | first | exact n10 | ((simp (disch := first | assumption | omega | exact ht _ (by omega)) only [lit, n_eq, n_le, kp_0, kp_1, kp_2, kp_3, kp_4, kp_5, kp_6, kp_7, kp_8, kp_9, kp_10, kp_11, kp_12, kp_13, kp_14, kp_15, kp_16, kp_17, kp_18, kp_19, kp_20, kp_21, kp_22, kp_23, kp_24, kp_25, kp_26, kp_27, kp_28, kp_29, kp_30, kp_31, kp_32, kp_33, kp_34]) <;> omega)) | (with_reducible exact q_takeb) | ((with_reducible apply q_deep_y rfl) <;> omega) | ((with_reducible apply q_deep_n R rfl) <;> first | omega | assumption) | (with_reducible exact q_needb) | (with_reducible exact r_need1) | ((with_reducible apply r_need0 R hn) <;> first | omega | assumption)); skip)
    | ((with_reducible apply X_if); focus (first | exact rfl | (with_reducible exact n00) | exact kp_y (by assumption) (by decide)); skip)
    | ((with_reducible apply X_nif); focus (first | exact n10 | ((simp (disch := first | assumption | omega | exact ht _ (by omega)) only [lit, n_eq, n_le, kp_0, kp_1, kp_2, kp_3, kp_4, kp_5, kp_6, kp_7, kp_8, kp_9, kp_10, kp_11, kp_12, kp_13, kp_14, kp_15, kp_16, kp_17, kp_18, kp_19, kp_20, kp_21, kp_22, kp_23, kp_24, kp_25, kp_26, kp_27, kp_28, kp_29, kp_30, kp_31, kp_32, kp_33, kp_34]) <;> omega)); skip))
            exact X_V (hj2 _) rfl
          · exact loop_fun E' hS hl ⟨i1, i3, i4⟩ hp n (q + 1 + 1 + 1 + 1) _ 0 (dr + 1 + 1 + 1) _ N N 1 (by omega) (by omega) (by omega) (by omega) q4 g4 hb4 ⟨by omega, by simp only [siz, app]; omega, by omega⟩ (wf_app hw1 hw2) (by simp only [hgt, app]; omega) rfl
        · by_cases v13 : tk (q + 1 + 1 + 1) = 13
          · refine Out_c (rc' := k_PA_function_86 N pb ap (nI ds.length) (nI (tp q)) (pz σ ap dd dk dp dv dz (q + 1 + 1 + 1) (ds ++ post (one (dr + 1) 13 (tp (q + 1)) (nI (q + 1)) .leaf)))) (rr' := k_RM_function_83 N rb (nI dr) (qz S (q + 1 + 1 + 1) 0 flt (dr + 1 + 1) (bj (bd (bd B dr (nI 1) (nI (tp q)) 0) (dr + 1) (nI 13) (nI (tp (q + 1))) (nI (q + 1))) dr .leaf (dr + 1)))) ?_ ?_ (fun_end E' hS hl ⟨i1, i3, i4⟩ hp (by omega) q3 g3 hb2 (by omega) (by simp only [siz, app]; omega) hw1 (by simp only [hgt, app]; omega) (j := 0) rfl)
            · unfold f_PA_function
              repeat (first
    | ((with_reducible apply X_bndE); focus (first | ((with_reducible apply pz_pp h') <;> omega) | ((with_reducible apply pz_kk h') <;> omega) | (with_reducible exact pz_14)); skip)
    | with_reducible refine X_bnd ?_
    | ((with_reducible apply X_chk); focus (first | exact a1 | exact a2 | exact a3 | exact a4 | exact a5 | ((with_reducible apply pz_i1 h') <;> omega) | ((with_reducible apply pz_i2 h') <;> omega)); skip)
    | ((with_reducible apply X_rfO); focus (first | exact c1 | exact c2 | exact c5); skip)
    | ((with_reducible apply X_I); focus (first | ((with_reducible apply p_kaC h') <;> omega) | ((with_reducible apply p_paC h') <;> omega) | ((with_reducible apply p_skip_y h') <;> first | omega | ((simp (disch := omega) only [lit, n_eq]) <;> omega)) | ((with_reducible apply p_skip_n h') <;> first | omega | ((simp (disch := first | omega | exact Nat.lt_trans (ht _ (by omega)) (by omega)) only [lit, n_eq]) <;> omega))); skip)
    | ((with_reducible apply X_if); focus (first | (with_reducible exact rfl) | (with_reducible exact n00) | ((simp (disch := omega) only [lit, n_eq]) <;> omega)); skip)
    | ((with_reducible apply X_nif); focus (first | exact n10 | ((with_reducible apply p_cnt h') <;> omega) | ((simp (disch := first | omega | exact Nat.lt_trans (ht _ (by omega)) (by omega)) only [lit, n_eq]) <;> omega)); skip)
    | ((with_reducible apply X_T); focus (first | ((with_reducible apply p_take_y h') <;> first | omega | ((simp (disch := omega) only [lit, n_eq]) <;> omega)) | ((with_reducible apply p_limit_y h' rfl) <;> omega)); skip)
    | ((with_reducible apply X_Tt); focus (first | ((with_reducible apply p_take_n h') <;> first | omega | ((simp (disch := first | omega | exact Nat.lt_trans (ht _ (by omega)) (by omega)) only [lit, n_eq]) <;> omega)) | ((with_reducible apply p_limit_n h' rfl) <;> omega)); skip))
              refine X_T hnC ?_
              repeat (first
    | ((with_reducible apply X_bndE); focus (first | ((with_reducible apply pz_pp h') <;> omega) | ((with_reducible apply pz_kk h') <;> omega) | (with_reducible exact pz_14)); skip)
    | with_reducible refine X_bnd ?_
    | ((with_reducible apply X_chk); focus (first | exact a1 | exact a2 | exact a3 | exact a4 | exact a5 | ((with_reducible apply pz_i1 h') <;> omega) | ((with_reducible apply pz_i2 h') <;> omega)); skip)
    | ((with_reducible apply X_rfO); focus (first | exact c1 | exact c2 | exact c5); skip)
    | ((with_reducible apply X_I); focus (first | ((with_reducible apply p_kaC h') <;> omega) | ((with_reducible apply p_paC h') <;> omega) | ((with_reducible apply p_skip_y h') <;> first | omega | ((simp (disch := omega) only [lit, n_eq]) <;> omega)) | ((with_reducible apply p_skip_n h') <;> first | omega | ((simp (disch := first | omega | exact Nat.lt_trans (ht _ (by omega)) (by omega)) only [lit, n_eq]) <;> omega))); skip)
    | ((with_reducible apply X_if); focus (first | (with_reducible exact rfl) | (with_reducible exact n00) | ((simp (disch := omega) only [lit, n_eq]) <;> omega)); skip)
    | ((with_reducible apply X_nif); focus (first | exact n10 | ((with_reducible apply p_cnt h') <;> omega) | ((simp (disch := first | omega | exact Nat.lt_trans (ht _ (by omega)) (by omega)) only [lit, n_eq]) <;> omega)); skip)
    | ((with_reducible apply X_T); focus (first | ((with_reducible apply p_take_y h') <;> first | omega | ((simp (disch := omega) only [lit, n_eq]) <;> omega)) | ((with_reducible apply p_limit_y h' rfl) <;> omega)); skip)
    | ((with_reducible apply X_Tt); focus (first | ((with_reducible apply p_take_n h') <;> first | omega | ((simp (disch := first | omega | exact Nat.lt_trans (ht _ (by omega)) (by omega)) only [lit, n_eq]) <;> omega)) | ((with_reducible apply p_limit_n h' rfl) <;> omega)); skip))
              rfl
            · unfold f_RM_function
              repeat (first
    | with_reducible refine A_VI ?_
    | with_reducible refine A_VV ?_
    | with_reducible refine A_Vif ?_
    | with_reducible refine A_Vs ?_
    | with_reducible refine A_II ?_
    | with_reducible refine A_IV ?_
    | with_reducible refine A_Iif ?_
    | with_reducible refine A_Is ?_
    | with_reducible refine A_Ichk ?_
    | ((with_reducible apply X_bndE); focus (first | ((with_reducible apply r_p R hn) <;> first | omega | assumption)); skip)
    | with_reducible refine X_bnd ?_
    | ((with_reducible apply X_chk); focus (((with_reducible apply r_i hn)) <;> omega); skip)
    | ((with_reducible apply X_I); focus (first | ((with_reducible apply r_look R hn) <;> first | omega | assumption) | (with_reducible exact q_look1) | ((with_reducible apply r_draft) <;> first | omega | exact rfl | exact r_p R hn (by omega) (by assumption)) | ((with_reducible apply r_name_y R hn) <;> first | omega | assumption)); skip)
    | ((with_reducible apply X_V); focus (first | ((with_reducible apply r_take_y R hn) <;> first | omega | assumption | first | exact rfl | (with_reducible exact n00) | exact kp_y (by assumption) (by decide)) | ((with_reducible apply r_take_n R hn) <;> first | omega | assumption | first | exact n10 | ((simp (disch := first | assumption | omega | exact ht _ (by omega)) only [lit, n_eq, n_le, kp_0, kp_1, kp_2, kp_3, kp_4, kp_5, kp_6, kp_7, kp_8, kp_9, kp_10, kp_11, kp_12, kp_13, kp_14, kp_15, kp_16, kp_17, kp_18, kp_19, kp_20, kp_21, kp_22, kp_23, kp_24, kp_25, kp_26, kp_27, kp_28, kp_29, kp_30, kp_31, kp_32, kp_33, kp_34]) <;> omega)) | (with_reducible exact q_takeb) | ((with_reducible apply q_deep_y rfl) <;> omega) | ((with_reducible apply q_deep_n R rfl) <;> first | omega | assumption) | (with_reducible exact q_needb) | (with_reducible exact r_need1) | ((with_reducible apply r_need0 R hn) <;> first | omega | assumption)); skip)
    | ((with_reducible apply X_if); focus (first | exact rfl | (with_reducible exact n00) | exact kp_y (by assumption) (by decide)); skip)
    | ((with_reducible apply X_nif); focus (first | exact n10 | ((simp (disch := first | assumption | omega | exact ht _ (by omega)) only [lit, n_eq, n_le, kp_0, kp_1, kp_2, kp_3, kp_4, kp_5, kp_6, kp_7, kp_8, kp_9, kp_10, kp_11, kp_12, kp_13, kp_14, kp_15, kp_16, kp_17, kp_18, kp_19, kp_20, kp_21, kp_22, kp_23, kp_24, kp_25, kp_26, kp_27, kp_28, kp_29, kp_30, kp_31, kp_32, kp_33, kp_34]) <;> omega)); skip))
              refine X_V (hj _) ?_
              repeat (first
    | with_reducible refine A_VI ?_
    | with_reducible refine A_VV ?_
    | with_reducible refine A_Vif ?_
    | with_reducible refine A_Vs ?_
    | with_reducible refine A_II ?_
    | with_reducible refine A_IV ?_
    | with_reducible refine A_Iif ?_
    | with_reducible refine A_Is ?_
    | with_reducible refine A_Ichk ?_
    | ((with_reducible apply X_bndE); focus (first | ((with_reducible apply r_p R hn) <;> first | omega | assumption)); skip)
    | with_reducible refine X_bnd ?_
    | ((with_reducible apply X_chk); focus (((with_reducible apply r_i hn)) <;> omega); skip)
    | ((with_reducible apply X_I); focus (first | ((with_reducible apply r_look R hn) <;> first | omega | assumption) | (with_reducible exact q_look1) | ((with_reducible apply r_draft) <;> first | omega | exact rfl | exact r_p R hn (by omega) (by assumption)) | ((with_reducible apply r_name_y R hn) <;> first | omega | assumption)); skip)
    | ((with_reducible apply X_V); focus (first | ((with_reducible apply r_take_y R hn) <;> first | omega | assumption | first | exact rfl | (with_reducible exact n00) | exact kp_y (by assumption) (by decide)) | ((with_reducible apply r_take_n R hn) <;> first | omega | assumption | first | exact n10 | ((simp (disch := first | assumption | omega | exact ht _ (by omega)) only [lit, n_eq, n_le, kp_0, kp_1, kp_2, kp_3, kp_4, kp_5, kp_6, kp_7, kp_8, kp_9, kp_10, kp_11, kp_12, kp_13, kp_14, kp_15, kp_16, kp_17, kp_18, kp_19, kp_20, kp_21, kp_22, kp_23, kp_24, kp_25, kp_26, kp_27, kp_28, kp_29, kp_30, kp_31, kp_32, kp_33, kp_34]) <;> omega)) | (with_reducible exact q_takeb) | ((with_reducible apply q_deep_y rfl) <;> omega) | ((with_reducible apply q_deep_n R rfl) <;> first | omega | assumption) | (with_reducible exact q_needb) | (with_reducible exact r_need1) | ((with_reducible apply r_need0 R hn) <;> first | omega | assumption)); skip)
    | ((with_reducible apply X_if); focus (first | exact rfl | (with_reducible exact n00) | exact kp_y (by assumption) (by decide)); skip)
    | ((with_reducible apply X_nif); focus (first | exact n10 | ((simp (disch := first | assumption | omega | exact ht _ (by omega)) only [lit, n_eq, n_le, kp_0, kp_1, kp_2, kp_3, kp_4, kp_5, kp_6, kp_7, kp_8, kp_9, kp_10, kp_11, kp_12, kp_13, kp_14, kp_15, kp_16, kp_17, kp_18, kp_19, kp_20, kp_21, kp_22, kp_23, kp_24, kp_25, kp_26, kp_27, kp_28, kp_29, kp_30, kp_31, kp_32, kp_33, kp_34]) <;> omega)); skip))
              rfl
          · refine Out_b (q := q + 1 + 1 + 1) (x := post (one (dr + 1) 13 (tp (q + 1)) (nI (q + 1)) .leaf)) ?_ rfl ?_ q3 g3
            · unfold f_PA_function k_PA_function_86
              repeat (first
    | ((with_reducible apply X_bndE); focus (first | ((with_reducible apply pz_pp h') <;> omega) | ((with_reducible apply pz_kk h') <;> omega) | (with_reducible exact pz_14)); skip)
    | with_reducible refine X_bnd ?_
    | ((with_reducible apply X_chk); focus (first | exact a1 | exact a2 | exact a3 | exact a4 | exact a5 | ((with_reducible apply pz_i1 h') <;> omega) | ((with_reducible apply pz_i2 h') <;> omega)); skip)
    | ((with_reducible apply X_rfO); focus (first | exact c1 | exact c2 | exact c5); skip)
    | ((with_reducible apply X_I); focus (first | ((with_reducible apply p_kaC h') <;> omega) | ((with_reducible apply p_paC h') <;> omega) | ((with_reducible apply p_skip_y h') <;> first | omega | ((simp (disch := omega) only [lit, n_eq]) <;> omega)) | ((with_reducible apply p_skip_n h') <;> first | omega | ((simp (disch := first | omega | exact Nat.lt_trans (ht _ (by omega)) (by omega)) only [lit, n_eq]) <;> omega))); skip)
    | ((with_reducible apply X_if); focus (first | (with_reducible exact rfl) | (with_reducible exact n00) | ((simp (disch := omega) only [lit, n_eq]) <;> omega)); skip)
    | ((with_reducible apply X_nif); focus (first | exact n10 | ((with_reducible apply p_cnt h') <;> omega) | ((simp (disch := first | omega | exact Nat.lt_trans (ht _ (by omega)) (by omega)) only [lit, n_eq]) <;> omega)); skip)
    | ((with_reducible apply X_T); focus (first | ((with_reducible apply p_take_y h') <;> first | omega | ((simp (disch := omega) only [lit, n_eq]) <;> omega)) | ((with_reducible apply p_limit_y h' rfl) <;> omega)); skip)
    | ((with_reducible apply X_Tt); focus (first | ((with_reducible apply p_take_n h') <;> first | omega | ((simp (disch := first | omega | exact Nat.lt_trans (ht _ (by omega)) (by omega)) only [lit, n_eq]) <;> omega)) | ((with_reducible apply p_limit_n h' rfl) <;> omega)); skip))
              refine X_T hnC ?_
              repeat (first
    | ((with_reducible apply X_bndE); focus (first | ((with_reducible apply pz_pp h') <;> omega) | ((with_reducible apply pz_kk h') <;> omega) | (with_reducible exact pz_14)); skip)
    | with_reducible refine X_bnd ?_
    | ((with_reducible apply X_chk); focus (first | exact a1 | exact a2 | exact a3 | exact a4 | exact a5 | ((with_reducible apply pz_i1 h') <;> omega) | ((with_reducible apply pz_i2 h') <;> omega)); skip)
    | ((with_reducible apply X_rfO); focus (first | exact c1 | exact c2 | exact c5); skip)
    | ((with_reducible apply X_I); focus (first | ((with_reducible apply p_kaC h') <;> omega) | ((with_reducible apply p_paC h') <;> omega) | ((with_reducible apply p_skip_y h') <;> first | omega | ((simp (disch := omega) only [lit, n_eq]) <;> omega)) | ((with_reducible apply p_skip_n h') <;> first | omega | ((simp (disch := first | omega | exact Nat.lt_trans (ht _ (by omega)) (by omega)) only [lit, n_eq]) <;> omega))); skip)
    | ((with_reducible apply X_if); focus (first | (with_reducible exact rfl) | (with_reducible exact n00) | ((simp (disch := omega) only [lit, n_eq]) <;> omega)); skip)
    | ((with_reducible apply X_nif); focus (first | exact n10 | ((with_reducible apply p_cnt h') <;> omega) | ((simp (disch := first | omega | exact Nat.lt_trans (ht _ (by omega)) (by omega)) only [lit, n_eq]) <;> omega)); skip)
    | ((with_reducible apply X_T); focus (first | ((with_reducible apply p_take_y h') <;> first | omega | ((simp (disch := omega) only [lit, n_eq]) <;> omega)) | ((with_reducible apply p_limit_y h' rfl) <;> omega)); skip)
    | ((with_reducible apply X_Tt); focus (first | ((with_reducible apply p_take_n h') <;> first | omega | ((simp (disch := first | omega | exact Nat.lt_trans (ht _ (by omega)) (by omega)) only [lit, n_eq]) <;> omega)) | ((with_reducible apply p_limit_n h' rfl) <;> omega)); skip))
              rfl
            · unfold f_RM_function
              repeat (first
    | with_reducible refine M_VI ?_
    | with_reducible refine M_VV ?_
    | with_reducible refine M_Vif ?_
    | with_reducible refine M_Vs ?_
    | with_reducible refine M_II ?_
    | with_reducible refine M_IV ?_
    | with_reducible refine M_Iif ?_
    | with_reducible refine M_Is ?_
    | with_reducible refine M_Ichk ?_
    | ((with_reducible apply BM_bndE); focus (first | ((with_reducible apply r_p R hn) <;> first | omega | assumption)); skip)
    | with_reducible refine BM_bnd ?_
    | ((with_reducible apply BM_chk); focus (((with_reducible apply r_i hn)) <;> omega); skip)
    | ((with_reducible apply BM_I); focus (first | ((with_reducible apply r_look R hn) <;> first | omega | assumption) | (with_reducible exact q_look1) | ((with_reducible apply r_draft) <;> first | omega | exact rfl | exact r_p R hn (by omega) (by assumption)) | ((with_reducible apply r_db) <;> omega) | ((with_reducible apply r_nb) <;> omega) | ((with_reducible apply r_nameb) <;> omega) | ((with_reducible apply r_name_y R hn) <;> first | omega | assumption) | ((with_reducible apply r_name_n R hn) <;> first | omega | assumption | exact ht _ (by omega))); skip)
    | ((with_reducible apply BM_V); focus (first | ((with_reducible apply r_take_y R hn) <;> first | omega | assumption | first | exact rfl | (with_reducible exact n00) | exact kp_y (by assumption) (by decide)) | ((with_reducible apply r_take_n R hn) <;> first | omega | assumption | first | exact n10 | ((simp (disch := first | assumption | omega | exact ht _ (by omega)) only [lit, n_eq, n_le, kp_0, kp_1, kp_2, kp_3, kp_4, kp_5, kp_6, kp_7, kp_8, kp_9, kp_10, kp_11, kp_12, kp_13, kp_14, kp_15, kp_16, kp_17, kp_18, kp_19, kp_20, kp_21, kp_22, kp_23, kp_24, kp_25, kp_26, kp_27, kp_28, kp_29, kp_30, kp_31, kp_32, kp_33, kp_34]) <;> omega)) | (with_reducible exact q_takeb) | ((with_reducible apply q_deep_y rfl) <;> omega) | ((with_reducible apply q_deep_n R rfl) <;> first | omega | assumption) | ((with_reducible apply q_deepb' rfl) <;> omega) | (with_reducible exact q_needb) | (with_reducible exact r_need1) | ((with_reducible apply r_need0 R hn) <;> first | omega | assumption)); skip)
    | ((with_reducible apply BM_if); focus (first | exact rfl | (with_reducible exact n00) | exact kp_y (by assumption) (by decide)); skip)
    | ((with_reducible apply BM_nif); focus (first | exact n10 | ((simp (disch := first | assumption | omega | exact ht _ (by omega)) only [lit, n_eq, n_le, kp_0, kp_1, kp_2, kp_3, kp_4, kp_5, kp_6, kp_7, kp_8, kp_9, kp_10, kp_11, kp_12, kp_13, kp_14, kp_15, kp_16, kp_17, kp_18, kp_19, kp_20, kp_21, kp_22, kp_23, kp_24, kp_25, kp_26, kp_27, kp_28, kp_29, kp_30, kp_31, kp_32, kp_33, kp_34]) <;> omega)); skip)
    | (with_reducible refine bm_jn ?_ rfl)
    | ((with_reducible apply bm_join); (focus (first | assumption | exact BI_new (by assumption) | exact BI_new (BI_new (by assumption)) | exact BI_new (BI_new (BI_new (by assumption))))); (focus omega); (focus omega); (focus (first | assumption | exact Or.inr ⟨_, by omega, rfl⟩)); intro _ _)
    | exact ⟨_, _, _, (by with_reducible rfl), by omega, by omega, (by first | assumption | exact BI_new (by assumption) | exact BI_new (BI_new (by assumption)) | exact BI_new (BI_new (BI_new (by assumption)))), (by first | exact Or.inl rfl | assumption | exact Or.inr ⟨_, by omega, rfl⟩)⟩)
              refine BM_V (hj _) ?_
              have hBI := hb2.2.2.2
              repeat (first
    | with_reducible refine M_VI ?_
    | with_reducible refine M_VV ?_
    | with_reducible refine M_Vif ?_
    | with_reducible refine M_Vs ?_
    | with_reducible refine M_II ?_
    | with_reducible refine M_IV ?_
    | with_reducible refine M_Iif ?_
    | with_reducible refine M_Is ?_
    | with_reducible refine M_Ichk ?_
    | ((with_reducible apply BM_bndE); focus (first | ((with_reducible apply r_p R hn) <;> first | omega | assumption)); skip)
    | with_reducible refine BM_bnd ?_
    | ((with_reducible apply BM_chk); focus (((with_reducible apply r_i hn)) <;> omega); skip)
    | ((with_reducible apply BM_I); focus (first | ((with_reducible apply r_look R hn) <;> first | omega | assumption) | (with_reducible exact q_look1) | ((with_reducible apply r_draft) <;> first | omega | exact rfl | exact r_p R hn (by omega) (by assumption)) | ((with_reducible apply r_db) <;> omega) | ((with_reducible apply r_nb) <;> omega) | ((with_reducible apply r_nameb) <;> omega) | ((with_reducible apply r_name_y R hn) <;> first | omega | assumption) | ((with_reducible apply r_name_n R hn) <;> first | omega | assumption | exact ht _ (by omega))); skip)
    | ((with_reducible apply BM_V); focus (first | ((with_reducible apply r_take_y R hn) <;> first | omega | assumption | first | exact rfl | (with_reducible exact n00) | exact kp_y (by assumption) (by decide)) | ((with_reducible apply r_take_n R hn) <;> first | omega | assumption | first | exact n10 | ((simp (disch := first | assumption | omega | exact ht _ (by omega)) only [lit, n_eq, n_le, kp_0, kp_1, kp_2, kp_3, kp_4, kp_5, kp_6, kp_7, kp_8, kp_9, kp_10, kp_11, kp_12, kp_13, kp_14, kp_15, kp_16, kp_17, kp_18, kp_19, kp_20, kp_21, kp_22, kp_23, kp_24, kp_25, kp_26, kp_27, kp_28, kp_29, kp_30, kp_31, kp_32, kp_33, kp_34]) <;> omega)) | (with_reducible exact q_takeb) | ((with_reducible apply q_deep_y rfl) <;> omega) | ((with_reducible apply q_deep_n R rfl) <;> first | omega | assumption) | ((with_reducible apply q_deepb' rfl) <;> omega) | (with_reducible exact q_needb) | (with_reducible exact r_need1) | ((with_reducible apply r_need0 R hn) <;> first | omega | assumption)); skip)
    | ((with_reducible apply BM_if); focus (first | exact rfl | (with_reducible exact n00) | exact kp_y (by assumption) (by decide)); skip)
    | ((with_reducible apply BM_nif); focus (first | exact n10 | ((simp (disch := first | assumption | omega | exact ht _ (by omega)) only [lit, n_eq, n_le, kp_0, kp_1, kp_2, kp_3, kp_4, kp_5, kp_6, kp_7, kp_8, kp_9, kp_10, kp_11, kp_12, kp_13, kp_14, kp_15, kp_16, kp_17, kp_18, kp_19, kp_20, kp_21, kp_22, kp_23, kp_24, kp_25, kp_26, kp_27, kp_28, kp_29, kp_30, kp_31, kp_32, kp_33, kp_34]) <;> omega)); skip)
    | (with_reducible refine bm_jn ?_ rfl)
    | ((with_reducible apply bm_join); (focus (first | assumption | exact BI_new (by assumption) | exact BI_new (BI_new (by assumption)) | exact BI_new (BI_new (BI_new (by assumption))))); (focus omega); (focus omega); (focus (first | assumption | exact Or.inr ⟨_, by omega, rfl⟩)); intro _ _)
    | exact ⟨_, _, _, (by with_reducible rfl), by omega, by omega, (by first | assumption | exact BI_new (by assumption) | exact BI_new (BI_new (by assumption)) | exact BI_new (BI_new (BI_new (by assumption)))), (by first | exact Or.inl rfl | assumption | exact Or.inr ⟨_, by omega, rfl⟩)⟩)
              refine k56_bad (by omega) (by assumption) (by omega) (by omega) (by omega) (by omega) (by omega)
      · refine Out_b (q := q + 1 + 1) (x := post (one (dr + 1) 13 (tp (q + 1)) (nI (q + 1)) .leaf)) ?_ rfl ?_ q2 g2
        · unfold f_PA_function
          repeat (first
    | ((with_reducible apply X_bndE); focus (first | ((with_reducible apply pz_pp h') <;> omega) | ((with_reducible apply pz_kk h') <;> omega) | (with_reducible exact pz_14)); skip)
    | with_reducible refine X_bnd ?_
    | ((with_reducible apply X_chk); focus (first | exact a1 | exact a2 | exact a3 | exact a4 | exact a5 | ((with_reducible apply pz_i1 h') <;> omega) | ((with_reducible apply pz_i2 h') <;> omega)); skip)
    | ((with_reducible apply X_rfO); focus (first | exact c1 | exact c2 | exact c5); skip)
    | ((with_reducible apply X_I); focus (first | ((with_reducible apply p_kaC h') <;> omega) | ((with_reducible apply p_paC h') <;> omega) | ((with_reducible apply p_skip_y h') <;> first | omega | ((simp (disch := omega) only [lit, n_eq]) <;> omega)) | ((with_reducible apply p_skip_n h') <;> first | omega | ((simp (disch := first | omega | exact Nat.lt_trans (ht _ (by omega)) (by omega)) only [lit, n_eq]) <;> omega))); skip)
    | ((with_reducible apply X_if); focus (first | (with_reducible exact rfl) | (with_reducible exact n00) | ((simp (disch := omega) only [lit, n_eq]) <;> omega)); skip)
    | ((with_reducible apply X_nif); focus (first | exact n10 | ((with_reducible apply p_cnt h') <;> omega) | ((simp (disch := first | omega | exact Nat.lt_trans (ht _ (by omega)) (by omega)) only [lit, n_eq]) <;> omega)); skip)
    | ((with_reducible apply X_T); focus (first | ((with_reducible apply p_take_y h') <;> first | omega | ((simp (disch := omega) only [lit, n_eq]) <;> omega)) | ((with_reducible apply p_limit_y h' rfl) <;> omega)); skip)
    | ((with_reducible apply X_Tt); focus (first | ((with_reducible apply p_take_n h') <;> first | omega | ((simp (disch := first | omega | exact Nat.lt_trans (ht _ (by omega)) (by omega)) only [lit, n_eq]) <;> omega)) | ((with_reducible apply p_limit_n h' rfl) <;> omega)); skip))
          refine X_T hnC ?_
          repeat (first
    | ((with_reducible apply X_bndE); focus (first | ((with_reducible apply pz_pp h') <;> omega) | ((with_reducible apply pz_kk h') <;> omega) | (with_reducible exact pz_14)); skip)
    | with_reducible refine X_bnd ?_
    | ((with_reducible apply X_chk); focus (first | exact a1 | exact a2 | exact a3 | exact a4 | exact a5 | ((with_reducible apply pz_i1 h') <;> omega) | ((with_reducible apply pz_i2 h') <;> omega)); skip)
    | ((with_reducible apply X_rfO); focus (first | exact c1 | exact c2 | exact c5); skip)
    | ((with_reducible apply X_I); focus (first | ((with_reducible apply p_kaC h') <;> omega) | ((with_reducible apply p_paC h') <;> omega) | ((with_reducible apply p_skip_y h') <;> first | omega | ((simp (disch := omega) only [lit, n_eq]) <;> omega)) | ((with_reducible apply p_skip_n h') <;> first | omega | ((simp (disch := first | omega | exact Nat.lt_trans (ht _ (by omega)) (by omega)) only [lit, n_eq]) <;> omega))); skip)
    | ((with_reducible apply X_if); focus (first | (with_reducible exact rfl) | (with_reducible exact n00) | ((simp (disch := omega) only [lit, n_eq]) <;> omega)); skip)
    | ((with_reducible apply X_nif); focus (first | exact n10 | ((with_reducible apply p_cnt h') <;> omega) | ((simp (disch := first | omega | exact Nat.lt_trans (ht _ (by omega)) (by omega)) only [lit, n_eq]) <;> omega)); skip)
    | ((with_reducible apply X_T); focus (first | ((with_reducible apply p_take_y h') <;> first | omega | ((simp (disch := omega) only [lit, n_eq]) <;> omega)) | ((with_reducible apply p_limit_y h' rfl) <;> omega)); skip)
    | ((with_reducible apply X_Tt); focus (first | ((with_reducible apply p_take_n h') <;> first | omega | ((simp (disch := first | omega | exact Nat.lt_trans (ht _ (by omega)) (by omega)) only [lit, n_eq]) <;> omega)) | ((with_reducible apply p_limit_n h' rfl) <;> omega)); skip))
          rfl
        · unfold f_RM_function
          repeat (first
    | with_reducible refine M_VI ?_
    | with_reducible refine M_VV ?_
    | with_reducible refine M_Vif ?_
    | with_reducible refine M_Vs ?_
    | with_reducible refine M_II ?_
    | with_reducible refine M_IV ?_
    | with_reducible refine M_Iif ?_
    | with_reducible refine M_Is ?_
    | with_reducible refine M_Ichk ?_
    | ((with_reducible apply BM_bndE); focus (first | ((with_reducible apply r_p R hn) <;> first | omega | assumption)); skip)
    | with_reducible refine BM_bnd ?_
    | ((with_reducible apply BM_chk); focus (((with_reducible apply r_i hn)) <;> omega); skip)
    | ((with_reducible apply BM_I); focus (first | ((with_reducible apply r_look R hn) <;> first | omega | assumption) | (with_reducible exact q_look1) | ((with_reducible apply r_draft) <;> first | omega | exact rfl | exact r_p R hn (by omega) (by assumption)) | ((with_reducible apply r_db) <;> omega) | ((with_reducible apply r_nb) <;> omega) | ((with_reducible apply r_nameb) <;> omega) | ((with_reducible apply r_name_y R hn) <;> first | omega | assumption) | ((with_reducible apply r_name_n R hn) <;> first | omega | assumption | exact ht _ (by omega))); skip)
    | ((with_reducible apply BM_V); focus (first | ((with_reducible apply r_take_y R hn) <;> first | omega | assumption | first | exact rfl | (with_reducible exact n00) | exact kp_y (by assumption) (by decide)) | ((with_reducible apply r_take_n R hn) <;> first | omega | assumption | first | exact n10 | ((simp (disch := first | assumption | omega | exact ht _ (by omega)) only [lit, n_eq, n_le, kp_0, kp_1, kp_2, kp_3, kp_4, kp_5, kp_6, kp_7, kp_8, kp_9, kp_10, kp_11, kp_12, kp_13, kp_14, kp_15, kp_16, kp_17, kp_18, kp_19, kp_20, kp_21, kp_22, kp_23, kp_24, kp_25, kp_26, kp_27, kp_28, kp_29, kp_30, kp_31, kp_32, kp_33, kp_34]) <;> omega)) | (with_reducible exact q_takeb) | ((with_reducible apply q_deep_y rfl) <;> omega) | ((with_reducible apply q_deep_n R rfl) <;> first | omega | assumption) | ((with_reducible apply q_deepb' rfl) <;> omega) | (with_reducible exact q_needb) | (with_reducible exact r_need1) | ((with_reducible apply r_need0 R hn) <;> first | omega | assumption)); skip)
    | ((with_reducible apply BM_if); focus (first | exact rfl | (with_reducible exact n00) | exact kp_y (by assumption) (by decide)); skip)
    | ((with_reducible apply BM_nif); focus (first | exact n10 | ((simp (disch := first | assumption | omega | exact ht _ (by omega)) only [lit, n_eq, n_le, kp_0, kp_1, kp_2, kp_3, kp_4, kp_5, kp_6, kp_7, kp_8, kp_9, kp_10, kp_11, kp_12, kp_13, kp_14, kp_15, kp_16, kp_17, kp_18, kp_19, kp_20, kp_21, kp_22, kp_23, kp_24, kp_25, kp_26, kp_27, kp_28, kp_29, kp_30, kp_31, kp_32, kp_33, kp_34]) <;> omega)); skip)
    | (with_reducible refine bm_jn ?_ rfl)
    | ((with_reducible apply bm_join); (focus (first | assumption | exact BI_new (by assumption) | exact BI_new (BI_new (by assumption)) | exact BI_new (BI_new (BI_new (by assumption))))); (focus omega); (focus omega); (focus (first | assumption | exact Or.inr ⟨_, by omega, rfl⟩)); intro _ _)
    | exact ⟨_, _, _, (by with_reducible rfl), by omega, by omega, (by first | assumption | exact BI_new (by assumption) | exact BI_new (BI_new (by assumption)) | exact BI_new (BI_new (BI_new (by assumption)))), (by first | exact Or.inl rfl | assumption | exact Or.inr ⟨_, by omega, rfl⟩)⟩)
          refine BM_V (hj _) ?_
          have hBI := hb2.2.2.2
          repeat (first
    | with_reducible refine M_VI ?_
    | with_reducible refine M_VV ?_
    | with_reducible refine M_Vif ?_
    | with_reducible refine M_Vs ?_
    | with_reducible refine M_II ?_
    | with_reducible refine M_IV ?_
    | with_reducible refine M_Iif ?_
    | with_reducible refine M_Is ?_
    | with_reducible refine M_Ichk ?_
    | ((with_reducible apply BM_bndE); focus (first | ((with_reducible apply r_p R hn) <;> first | omega | assumption)); skip)
    | with_reducible refine BM_bnd ?_
    | ((with_reducible apply BM_chk); focus (((with_reducible apply r_i hn)) <;> omega); skip)
    | ((with_reducible apply BM_I); focus (first | ((with_reducible apply r_look R hn) <;> first | omega | assumption) | (with_reducible exact q_look1) | ((with_reducible apply r_draft) <;> first | omega | exact rfl | exact r_p R hn (by omega) (by assumption)) | ((with_reducible apply r_db) <;> omega) | ((with_reducible apply r_nb) <;> omega) | ((with_reducible apply r_nameb) <;> omega) | ((with_reducible apply r_name_y R hn) <;> first | omega | assumption) | ((with_reducible apply r_name_n R hn) <;> first | omega | assumption | exact ht _ (by omega))); skip)
    | ((with_reducible apply BM_V); focus (first | ((with_reducible apply r_take_y R hn) <;> first | omega | assumption | first | exact rfl | (with_reducible exact n00) | exact kp_y (by assumption) (by decide)) | ((with_reducible apply r_take_n R hn) <;> first | omega | assumption | first | exact n10 | ((simp (disch := first | assumption | omega | exact ht _ (by omega)) only [lit, n_eq, n_le, kp_0, kp_1, kp_2, kp_3, kp_4, kp_5, kp_6, kp_7, kp_8, kp_9, kp_10, kp_11, kp_12, kp_13, kp_14, kp_15, kp_16, kp_17, kp_18, kp_19, kp_20, kp_21, kp_22, kp_23, kp_24, kp_25, kp_26, kp_27, kp_28, kp_29, kp_30, kp_31, kp_32, kp_33, kp_34]) <;> omega)) | (with_reducible exact q_takeb) | ((with_reducible apply q_deep_y rfl) <;> omega) | ((with_reducible apply q_deep_n R rfl) <;> first | omega | assumption) | ((with_reducible apply q_deepb' rfl) <;> omega) | (with_reducible exact q_needb) | (with_reducible exact r_need1) | ((with_reducible apply r_need0 R hn) <;> first | omega | assumption)); skip)
    | ((with_reducible apply BM_if); focus (first | exact rfl | (with_reducible exact n00) | exact kp_y (by assumption) (by decide)); skip)
    | ((with_reducible apply BM_nif); focus (first | exact n10 | ((simp (disch := first | assumption | omega | exact ht _ (by omega)) only [lit, n_eq, n_le, kp_0, kp_1, kp_2, kp_3, kp_4, kp_5, kp_6, kp_7, kp_8, kp_9, kp_10, kp_11, kp_12, kp_13, kp_14, kp_15, kp_16, kp_17, kp_18, kp_19, kp_20, kp_21, kp_22, kp_23, kp_24, kp_25, kp_26, kp_27, kp_28, kp_29, kp_30, kp_31, kp_32, kp_33, kp_34]) <;> omega)); skip)
    | (with_reducible refine bm_jn ?_ rfl)
    | ((with_reducible apply bm_join); (focus (first | assumption | exact BI_new (by assumption) | exact BI_new (BI_new (by assumption)) | exact BI_new (BI_new (BI_new (by assumption))))); (focus omega); (focus omega); (focus (first | assumption | exact Or.inr ⟨_, by omega, rfl⟩)); intro _ _)
    | exact ⟨_, _, _, (by with_reducible rfl), by omega, by omega, (by first | assumption | exact BI_new (by assumption) | exact BI_new (BI_new (by assumption)) | exact BI_new (BI_new (BI_new (by assumption)))), (by first | exact Or.inl rfl | assumption | exact Or.inr ⟨_, by omega, rfl⟩)⟩)
          refine k56_bad (by omega) (by assumption) (by omega) (by omega) (by omega) (by omega) (by omega)
    · refine Out_b0 (q := q + 1) ?_ rfl ?_ q1 g1
      · unfold f_PA_function
        repeat (first
    | ((with_reducible apply X_bndE); focus (first | ((with_reducible apply pz_pp h') <;> omega) | ((with_reducible apply pz_kk h') <;> omega) | (with_reducible exact pz_14)); skip)
    | with_reducible refine X_bnd ?_
    | ((with_reducible apply X_chk); focus (first | exact a1 | exact a2 | exact a3 | exact a4 | exact a5 | ((with_reducible apply pz_i1 h') <;> omega) | ((with_reducible apply pz_i2 h') <;> omega)); skip)
    | ((with_reducible apply X_rfO); focus (first | exact c1 | exact c2 | exact c5); skip)
    | ((with_reducible apply X_I); focus (first | ((with_reducible apply p_kaC h') <;> omega) | ((with_reducible apply p_paC h') <;> omega) | ((with_reducible apply p_skip_y h') <;> first | omega | ((simp (disch := omega) only [lit, n_eq]) <;> omega)) | ((with_reducible apply p_skip_n h') <;> first | omega | ((simp (disch := first | omega | exact Nat.lt_trans (ht _ (by omega)) (by omega)) only [lit, n_eq]) <;> omega))); skip)
    | ((with_reducible apply X_if); focus (first | (with_reducible exact rfl) | (with_reducible exact n00) | ((simp (disch := omega) only [lit, n_eq]) <;> omega)); skip)
    | ((with_reducible apply X_nif); focus (first | exact n10 | ((with_reducible apply p_cnt h') <;> omega) | ((simp (disch := first | omega | exact Nat.lt_trans (ht _ (by omega)) (by omega)) only [lit, n_eq]) <;> omega)); skip)
    | ((with_reducible apply X_T); focus (first | ((with_reducible apply p_take_y h') <;> first | omega | ((simp (disch := omega) only [lit, n_eq]) <;> omega)) | ((with_reducible apply p_limit_y h' rfl) <;> omega)); skip)
    | ((with_reducible apply X_Tt); focus (first | ((with_reducible apply p_take_n h') <;> first | omega | ((simp (disch := first | omega | exact Nat.lt_trans (ht _ (by omega)) (by omega)) only [lit, n_eq]) <;> omega)) | ((with_reducible apply p_limit_n h' rfl) <;> omega)); skip))
        exact X_Tt (p_name_n h' q1 (by omega) u2) rfl
      · unfold f_RM_function
        repeat (first
    | with_reducible refine M_VI ?_
    | with_reducible refine M_VV ?_
    | with_reducible refine M_Vif ?_
    | with_reducible refine M_Vs ?_
    | with_reducible refine M_II ?_
    | with_reducible refine M_IV ?_
    | with_reducible refine M_Iif ?_
    | with_reducible refine M_Is ?_
    | with_reducible refine M_Ichk ?_
    | ((with_reducible apply BM_bndE); focus (first | ((with_reducible apply r_p R hn) <;> first | omega | assumption)); skip)
    | with_reducible refine BM_bnd ?_
    | ((with_reducible apply BM_chk); focus (((with_reducible apply r_i hn)) <;> omega); skip)
    | ((with_reducible apply BM_I); focus (first | ((with_reducible apply r_look R hn) <;> first | omega | assumption) | (with_reducible exact q_look1) | ((with_reducible apply r_draft) <;> first | omega | exact rfl | exact r_p R hn (by omega) (by assumption)) | ((with_reducible apply r_db) <;> omega) | ((with_reducible apply r_nb) <;> omega) | ((with_reducible apply r_nameb) <;> omega) | ((with_reducible apply r_name_y R hn) <;> first | omega | assumption) | ((with_reducible apply r_name_n R hn) <;> first | omega | assumption | exact ht _ (by omega))); skip)
    | ((with_reducible apply BM_V); focus (first | ((with_reducible apply r_take_y R hn) <;> first | omega | assumption | first | exact rfl | (with_reducible exact n00) | exact kp_y (by assumption) (by decide)) | ((with_reducible apply r_take_n R hn) <;> first | omega | assumption | first | exact n10 | ((simp (disch := first | assumption | omega | exact ht _ (by omega)) only [lit, n_eq, n_le, kp_0, kp_1, kp_2, kp_3, kp_4, kp_5, kp_6, kp_7, kp_8, kp_9, kp_10, kp_11, kp_12, kp_13, kp_14, kp_15, kp_16, kp_17, kp_18, kp_19, kp_20, kp_21, kp_22, kp_23, kp_24, kp_25, kp_26, kp_27, kp_28, kp_29, kp_30, kp_31, kp_32, kp_33, kp_34]) <;> omega)) | (with_reducible exact q_takeb) | ((with_reducible apply q_deep_y rfl) <;> omega) | ((with_reducible apply q_deep_n R rfl) <;> first | omega | assumption) | ((with_reducible apply q_deepb' rfl) <;> omega) | (with_reducible exact q_needb) | (with_reducible exact r_need1) | ((with_reducible apply r_need0 R hn) <;> first | omega | assumption)); skip)
    | ((with_reducible apply BM_if); focus (first | exact rfl | (with_reducible exact n00) | exact kp_y (by assumption) (by decide)); skip)
    | ((with_reducible apply BM_nif); focus (first | exact n10 | ((simp (disch := first | assumption | omega | exact ht _ (by omega)) only [lit, n_eq, n_le, kp_0, kp_1, kp_2, kp_3, kp_4, kp_5, kp_6, kp_7, kp_8, kp_9, kp_10, kp_11, kp_12, kp_13, kp_14, kp_15, kp_16, kp_17, kp_18, kp_19, kp_20, kp_21, kp_22, kp_23, kp_24, kp_25, kp_26, kp_27, kp_28, kp_29, kp_30, kp_31, kp_32, kp_33, kp_34]) <;> omega)); skip)
    | (with_reducible refine bm_jn ?_ rfl)
    | ((with_reducible apply bm_join); (focus (first | assumption | exact BI_new (by assumption) | exact BI_new (BI_new (by assumption)) | exact BI_new (BI_new (BI_new (by assumption))))); (focus omega); (focus omega); (focus (first | assumption | exact Or.inr ⟨_, by omega, rfl⟩)); intro _ _)
    | exact ⟨_, _, _, (by with_reducible rfl), by omega, by omega, (by first | assumption | exact BI_new (by assumption) | exact BI_new (BI_new (by assumption)) | exact BI_new (BI_new (BI_new (by assumption)))), (by first | exact Or.inl rfl | assumption | exact Or.inr ⟨_, by omega, rfl⟩)⟩)
        refine k56_bad (by omega) (by assumption) (by omega) (by omega) (by omega) (by omega) (by omega)
  · refine Out_b0 (q := q) ?_ rfl ?_ i1 i2
    · unfold f_PA_function
      repeat (first
    | ((with_reducible apply X_bndE); focus (first | ((with_reducible apply pz_pp h') <;> omega) | ((with_reducible apply pz_kk h') <;> omega) | (with_reducible exact pz_14)); skip)
    | with_reducible refine X_bnd ?_
    | ((with_reducible apply X_chk); focus (first | exact a1 | exact a2 | exact a3 | exact a4 | exact a5 | ((with_reducible apply pz_i1 h') <;> omega) | ((with_reducible apply pz_i2 h') <;> omega)); skip)
    | ((with_reducible apply X_rfO); focus (first | exact c1 | exact c2 | exact c5); skip)
    | ((with_reducible apply X_I); focus (first | ((with_reducible apply p_kaC h') <;> omega) | ((with_reducible apply p_paC h') <;> omega) | ((with_reducible apply p_skip_y h') <;> first | omega | ((simp (disch := omega) only [lit, n_eq]) <;> omega)) | ((with_reducible apply p_skip_n h') <;> first | omega | ((simp (disch := first | omega | exact Nat.lt_trans (ht _ (by omega)) (by omega)) only [lit, n_eq]) <;> omega))); skip)
    | ((with_reducible apply X_if); focus (first | (with_reducible exact rfl) | (with_reducible exact n00) | ((simp (disch := omega) only [lit, n_eq]) <;> omega)); skip)
    | ((with_reducible apply X_nif); focus (first | exact n10 | ((with_reducible apply p_cnt h') <;> omega) | ((simp (disch := first | omega | exact Nat.lt_trans (ht _ (by omega)) (by omega)) only [lit, n_eq]) <;> omega)); skip)
    | ((with_reducible apply X_T); focus (first | ((with_reducible apply p_take_y h') <;> first | omega | ((simp (disch := omega) only [lit, n_eq]) <;> omega)) | ((with_reducible apply p_limit_y h' rfl) <;> omega)); skip)
    | ((with_reducible apply X_Tt); focus (first | ((with_reducible apply p_take_n h') <;> first | omega | ((simp (disch := first | omega | exact Nat.lt_trans (ht _ (by omega)) (by omega)) only [lit, n_eq]) <;> omega)) | ((with_reducible apply p_limit_n h' rfl) <;> omega)); skip))
      rfl
    · unfold f_RM_function
      repeat (first
    | with_reducible refine M_VI ?_
    | with_reducible refine M_VV ?_
    | with_reducible refine M_Vif ?_
    | with_reducible refine M_Vs ?_
    | with_reducible refine M_II ?_
    | with_reducible refine M_IV ?_
    | with_reducible refine M_Iif ?_
    | with_reducible refine M_Is ?_
    | with_reducible refine M_Ichk ?_
    | ((with_reducible apply BM_bndE); focus (first | ((with_reducible apply r_p R hn) <;> first | omega | assumption)); skip)
    | with_reducible refine BM_bnd ?_
    | ((with_reducible apply BM_chk); focus (((with_reducible apply r_i hn)) <;> omega); skip)
    | ((with_reducible apply BM_I); focus (first | ((with_reducible apply r_look R hn) <;> first | omega | assumption) | (with_reducible exact q_look1) | ((with_reducible apply r_draft) <;> first | omega | exact rfl | exact r_p R hn (by omega) (by assumption)) | ((with_reducible apply r_db) <;> omega) | ((with_reducible apply r_nb) <;> omega) | ((with_reducible apply r_nameb) <;> omega) | ((with_reducible apply r_name_y R hn) <;> first | omega | assumption) | ((with_reducible apply r_name_n R hn) <;> first | omega | assumption | exact ht _ (by omega))); skip)
    | ((with_reducible apply BM_V); focus (first | ((with_reducible apply r_take_y R hn) <;> first | omega | assumption | first | exact rfl | (with_reducible exact n00) | exact kp_y (by assumption) (by decide)) | ((with_reducible apply r_take_n R hn) <;> first | omega | assumption | first | exact n10 | ((simp (disch := first | assumption | omega | exact ht _ (by omega)) only [lit, n_eq, n_le, kp_0, kp_1, kp_2, kp_3, kp_4, kp_5, kp_6, kp_7, kp_8, kp_9, kp_10, kp_11, kp_12, kp_13, kp_14, kp_15, kp_16, kp_17, kp_18, kp_19, kp_20, kp_21, kp_22, kp_23, kp_24, kp_25, kp_26, kp_27, kp_28, kp_29, kp_30, kp_31, kp_32, kp_33, kp_34]) <;> omega)) | (with_reducible exact q_takeb) | ((with_reducible apply q_deep_y rfl) <;> omega) | ((with_reducible apply q_deep_n R rfl) <;> first | omega | assumption) | ((with_reducible apply q_deepb' rfl) <;> omega) | (with_reducible exact q_needb) | (with_reducible exact r_need1) | ((with_reducible apply r_need0 R hn) <;> first | omega | assumption)); skip)
    | ((with_reducible apply BM_if); focus (first | exact rfl | (with_reducible exact n00) | exact kp_y (by assumption) (by decide)); skip)
    | ((with_reducible apply BM_nif); focus (first | exact n10 | ((simp (disch := first | assumption | omega | exact ht _ (by omega)) only [lit, n_eq, n_le, kp_0, kp_1, kp_2, kp_3, kp_4, kp_5, kp_6, kp_7, kp_8, kp_9, kp_10, kp_11, kp_12, kp_13, kp_14, kp_15, kp_16, kp_17, kp_18, kp_19, kp_20, kp_21, kp_22, kp_23, kp_24, kp_25, kp_26, kp_27, kp_28, kp_29, kp_30, kp_31, kp_32, kp_33, kp_34]) <;> omega)); skip)
    | (with_reducible refine bm_jn ?_ rfl)
    | ((with_reducible apply bm_join); (focus (first | assumption | exact BI_new (by assumption) | exact BI_new (BI_new (by assumption)) | exact BI_new (BI_new (BI_new (by assumption))))); (focus omega); (focus omega); (focus (first | assumption | exact Or.inr ⟨_, by omega, rfl⟩)); intro _ _)
    | exact ⟨_, _, _, (by with_reducible rfl), by omega, by omega, (by first | assumption | exact BI_new (by assumption) | exact BI_new (BI_new (by assumption)) | exact BI_new (BI_new (BI_new (by assumption)))), (by first | exact Or.inl rfl | assumption | exact Or.inr ⟨_, by omega, rfl⟩)⟩)
      refine k56_bad (by omega) (by assumption) (by omega) (by omega) (by omega) (by omega) (by omega)
end SIMFUN2
