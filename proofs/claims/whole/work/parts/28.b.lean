/-! factors -/
section SIMFACTOR
variable {σ : mh_H} {ap dd tt bk bp bv dk dp dv dz n room : Nat} {tk tp : Nat → Nat} {tv : Nat → Int32} {S : rm_S} {N : Nat}
theorem fac_3 {d lim hm : Nat} {pf ps : Nat → Int32 → mh_H → Option (Bool × Int32 × mh_H)} {rf rs : Int32 → rm_S → Option (Int32 × rm_S)} (E : EN σ ap dd tt bk bp bv dk dp dv dz n room tk tp tv S N) (hS : Sim σ ap dd dk dp dv dz n tk tp S (d + 1) lim hm ps rs) (hF : d + 1 ≤ 60 → Sim σ ap dd dk dp dv dz n tk tp S (d + 1) lim hm pf rf) (hX : ¬ d + 1 ≤ 60 → ∀ q ds, pf ap (nI (d + 1)) (pz σ ap dd dk dp dv dz q ds) = some (true, 0, mh_new (pz σ ap dd dk dp dv dz q ds) 9)) (hl : 16010 ≤ lim ∧ lim < 25990 ∧ 1 ≤ hm) (hd : d ≤ 60) {flt : Int32} {q : Nat} {ds : List Ent} {dr : Nat} {B : Nat → Nat → Int32} (hI : Inp n tk q ds dr B) (t3 : tk q = 3) : Out σ ap dd dk dp dv dz n tk tp S flt q ds dr B (lim + 2) (hm + 1) (f_PA_factor N pf ps ap (nI d) (pz σ ap dd dk dp dv dz q ds)) (f_RM_factor N rs rf (nI d) (qz S q 0 flt dr B)) := by
  have hI' := hI
  obtain ⟨⟨i1, i2⟩, i3, i4, i5⟩ := hI
  obtain ⟨h, R, hn, hNN⟩ := E
  have h' := h
  obtain ⟨⟨a1, a2, a3⟩, ⟨a4, a5, a6, a7, a8, a9, a10⟩, ⟨c1, c2⟩, ⟨c4, c5, c6⟩, ⟨c7, c8, c9, c10⟩, -, ⟨e5, e6, e7⟩, e8, -, -, -, -, e9, e10, e11, e12, e13⟩ := h
  have ht : ∀ j, j < n → tk j < 35 := fun j hj => (e9 j hj).2.2.2
  have hb1 : ∀ j, j < n → j < hN σ bk := fun j hj => by omega
  have hb2 : ∀ j, j < n → j < hN σ bp := fun j hj => by omega
  have htq := ht q i1
  have hp := R_3 R i1 i2
  have hd1 : nI d + 1 = nI (d + 1) := n_add d 1
  have q1 := e13 q i1 (by omega)
  have g1 := gd_s i2 (by omega) (by omega)
  have hb := nb_new (k := 12) (p := tp q) (v := 1 * tv q) (show dr < 26000 by omega) i5
  refine Out_y (q := q + 1) ?_ ?_ (New_of hb (by omega) q1 g1 (by omega) (by simp only [siz]; omega) (s_num hp _ _ (R_4 R i1 i2 t3).1) (by simp only [hgt]; omega))
  · unfold f_PA_factor
    repeat (first
    | ((with_reducible apply X_bndE); focus (first | ((with_reducible apply pz_pp h') <;> omega) | ((with_reducible apply pz_kk h') <;> omega) | (with_reducible exact pz_14)); skip)
    | with_reducible refine X_bnd ?_
    | ((with_reducible apply X_chk); focus (first | exact a1 | exact a2 | exact a3 | exact a4 | exact a5 | ((with_reducible apply pz_i1 h') <;> omega) | ((with_reducible apply pz_i2 h') <;> omega)); skip)
    | ((with_reducible apply X_rfO); focus (first | exact c1 | exact c2 | exact c5); skip)
    | ((with_reducible apply X_I); focus (first | ((with_reducible apply p_kaC h') <;> omega) | ((with_reducible apply p_paC h') <;> omega) | ((with_reducible apply p_skip_y h') <;> first | omega | ((simp (disch := omega) only [lit, n_eq]) <;> omega)) | ((with_reducible apply p_skip_n h') <;> first | omega | ((simp (disch := first | omega | exact Nat.lt_trans (ht _ (by omega)) (by omega)) only [lit, n_eq]) <;> omega))); skip)
    | ((with_reducible apply X_if); focus (first | (with_reducible exact rfl) | (with_reducible exact n00) | ((simp (disch := omega) only [lit, n_eq]) <;> omega)); skip)
    | ((with_reducible apply X_nif); focus (first | exact n10 | ((with_reducible apply p_cnt h') <;> omega) | ((simp (disch := first | omega | exact Nat.lt_trans (ht _ (by omega)) (by omega)) only [lit, n_eq]) <;> omega)); skip)
    | ((with_reducible apply X_T); focus (first | ((with_reducible apply p_take_y h') <;> first | omega | ((simp (disch := omega) only [lit, n_eq]) <;> omega)) | ((with_reducible apply p_limit_y h' rfl) <;> omega)); skip)
    | ((with_reducible apply X_Tt); focus (first | ((with_reducible apply p_take_n h') <;> first | omega | ((simp (disch := first | omega | exact Nat.lt_trans (ht _ (by omega)) (by omega)) only [lit, n_eq]) <;> omega)) | ((with_reducible apply p_limit_n h' rfl) <;> omega)); skip))
    exact X_T (p_num0_y h' i1 (by omega) t3 dr) rfl
  · unfold f_RM_factor
    repeat (first
    | with_reducible refine A_VI ?_
    | with_reducible refine A_VV ?_
    | with_reducible refine A_Vif ?_
    | with_reducible refine A_Vs ?_
    | with_reducible refine A_II ?_
    | with_reducible refine A_IV ?_
    | with_reducible refine A_Iif ?_
    | with_reducible refine A_Is ?_
    | with_reducible refine A_Ichk ?_
    | ((with_reducible apply X_bndE); focus (first | ((with_reducible apply r_p R hn) <;> first | omega | assumption)); skip)
    | with_reducible refine X_bnd ?_
    | ((with_reducible apply X_chk); focus (((with_reducible apply r_i hn)) <;> omega); skip)
    | ((with_reducible apply X_I); focus (first | ((with_reducible apply r_look R hn) <;> first | omega | assumption) | (with_reducible exact q_look1) | ((with_reducible apply r_draft) <;> first | omega | exact rfl | exact r_p R hn (by omega) (by assumption)) | ((with_reducible apply r_name_y R hn) <;> first | omega | assumption)); skip)
    | ((with_reducible apply X_V); focus (first | ((with_reducible apply r_take_y R hn) <;> first | omega | assumption | first | exact rfl | (with_reducible exact n00) | exact kp_y (by assumption) (by decide)) | ((with_reducible apply r_take_n R hn) <;> first | omega | assumption | first | exact n10 | ((simp (disch := first | assumption | omega | exact ht _ (by omega)) only [lit, n_eq, n_le, kp_0, kp_1, kp_2, kp_3, kp_4, kp_5, kp_6, kp_7, kp_8, kp_9, kp_10, kp_11, kp_12, kp_13, kp_14, kp_15, kp_16, kp_17, kp_18, kp_19, kp_20, kp_21, kp_22, kp_23, kp_24, kp_25, kp_26, kp_27, kp_28, kp_29, kp_30, kp_31, kp_32, kp_33, kp_34]) <;> omega)) | (with_reducible exact q_takeb) | ((with_reducible apply q_deep_y rfl) <;> omega) | ((with_reducible apply q_deep_n R rfl) <;> first | omega | assumption) | (with_reducible exact q_needb) | (with_reducible exact r_need1) | ((with_reducible apply r_need0 R hn) <;> first | omega | assumption)); skip)
    | ((with_reducible apply X_if); focus (first | exact rfl | (with_reducible exact n00) | exact kp_y (by assumption) (by decide)); skip)
    | ((with_reducible apply X_nif); focus (first | exact n10 | ((simp (disch := first | assumption | omega | exact ht _ (by omega)) only [lit, n_eq, n_le, kp_0, kp_1, kp_2, kp_3, kp_4, kp_5, kp_6, kp_7, kp_8, kp_9, kp_10, kp_11, kp_12, kp_13, kp_14, kp_15, kp_16, kp_17, kp_18, kp_19, kp_20, kp_21, kp_22, kp_23, kp_24, kp_25, kp_26, kp_27, kp_28, kp_29, kp_30, kp_31, kp_32, kp_33, kp_34]) <;> omega)); skip))
    exact X_I (r_num0_y R hn i1 i2 t3 (show dr < 26000 by omega)) rfl
theorem fac_23 {d lim hm : Nat} {pf ps : Nat → Int32 → mh_H → Option (Bool × Int32 × mh_H)} {rf rs : Int32 → rm_S → Option (Int32 × rm_S)} (E : EN σ ap dd tt bk bp bv dk dp dv dz n room tk tp tv S N) (hS : Sim σ ap dd dk dp dv dz n tk tp S (d + 1) lim hm ps rs) (hF : d + 1 ≤ 60 → Sim σ ap dd dk dp dv dz n tk tp S (d + 1) lim hm pf rf) (hX : ¬ d + 1 ≤ 60 → ∀ q ds, pf ap (nI (d + 1)) (pz σ ap dd dk dp dv dz q ds) = some (true, 0, mh_new (pz σ ap dd dk dp dv dz q ds) 9)) (hl : 16010 ≤ lim ∧ lim < 25990 ∧ 1 ≤ hm) (hd : d ≤ 60) {flt : Int32} {q : Nat} {ds : List Ent} {dr : Nat} {B : Nat → Nat → Int32} (hI : Inp n tk q ds dr B) (t3 : ¬ tk q = 3) (t23 : tk q = 23) : Out σ ap dd dk dp dv dz n tk tp S flt q ds dr B (lim + 2) (hm + 1) (f_PA_factor N pf ps ap (nI d) (pz σ ap dd dk dp dv dz q ds)) (f_RM_factor N rs rf (nI d) (qz S q 0 flt dr B)) := by
  have hI' := hI
  obtain ⟨⟨i1, i2⟩, i3, i4, i5⟩ := hI
  obtain ⟨h, R, hn, hNN⟩ := E
  have h' := h
  obtain ⟨⟨a1, a2, a3⟩, ⟨a4, a5, a6, a7, a8, a9, a10⟩, ⟨c1, c2⟩, ⟨c4, c5, c6⟩, ⟨c7, c8, c9, c10⟩, -, ⟨e5, e6, e7⟩, e8, -, -, -, -, e9, e10, e11, e12, e13⟩ := h
  have ht : ∀ j, j < n → tk j < 35 := fun j hj => (e9 j hj).2.2.2
  have hb1 : ∀ j, j < n → j < hN σ bk := fun j hj => by omega
  have hb2 : ∀ j, j < n → j < hN σ bp := fun j hj => by omega
  have htq := ht q i1
  have hp := R_3 R i1 i2
  have hd1 : nI d + 1 = nI (d + 1) := n_add d 1
  have q1 := e13 q i1 (by omega)
  have g1 := gd_s i2 (by omega) (by omega)
  have hb := nb_new (k := 15) (p := tp q) (v := 0) (show dr < 26000 by omega) i5
  by_cases h60 : d + 1 ≤ 60
  · rcases hF h60 flt (q + 1) ds (dr + 1) (bd B dr (nI 15) (nI (tp q)) 0) ⟨⟨q1, g1⟩, by omega, by omega, BI_new i5⟩ with ⟨q', i', k', p', v', c', dr', B', x1, x2, x3⟩ | ⟨q', y, x1, ⟨v, dr', B', x2, x3, x4, x5, x6⟩, x7, x8⟩
    · have hb' := nb_of x3
      obtain ⟨⟨y1, y2, y3⟩, -, -, -, -, ⟨y4, y5, y6⟩, y7, y8⟩ := x3
      refine Out_y (q := q') ?_ ?_ (New_of (nb_join hb hb') (by omega) y2 y3 (by omega) (by simp only [app, siz] at *; omega) ⟨by simp [okk, app, kls], by simp, ⟨hp, by simp only [app, siz] at *; omega⟩, y7, trivial⟩ (by simp only [app, hgt] at *; omega))
      · unfold f_PA_factor
        rw [hd1]
        repeat (first
    | ((with_reducible apply X_bndE); focus (first | ((with_reducible apply pz_pp h') <;> omega) | ((with_reducible apply pz_kk h') <;> omega) | (with_reducible exact pz_14)); skip)
    | with_reducible refine X_bnd ?_
    | ((with_reducible apply X_chk); focus (first | exact a1 | exact a2 | exact a3 | exact a4 | exact a5 | ((with_reducible apply pz_i1 h') <;> omega) | ((with_reducible apply pz_i2 h') <;> omega)); skip)
    | ((with_reducible apply X_rfO); focus (first | exact c1 | exact c2 | exact c5); skip)
    | ((with_reducible apply X_I); focus (first | ((with_reducible apply p_kaC h') <;> omega) | ((with_reducible apply p_paC h') <;> omega) | ((with_reducible apply p_skip_y h') <;> first | omega | ((simp (disch := omega) only [lit, n_eq]) <;> omega)) | ((with_reducible apply p_skip_n h') <;> first | omega | ((simp (disch := first | omega | exact Nat.lt_trans (ht _ (by omega)) (by omega)) only [lit, n_eq]) <;> omega))); skip)
    | ((with_reducible apply X_if); focus (first | (with_reducible exact rfl) | (with_reducible exact n00) | ((simp (disch := omega) only [lit, n_eq]) <;> omega)); skip)
    | ((with_reducible apply X_nif); focus (first | exact n10 | ((with_reducible apply p_cnt h') <;> omega) | ((simp (disch := first | omega | exact Nat.lt_trans (ht _ (by omega)) (by omega)) only [lit, n_eq]) <;> omega)); skip)
    | ((with_reducible apply X_T); focus (first | ((with_reducible apply p_take_y h') <;> first | omega | ((simp (disch := omega) only [lit, n_eq]) <;> omega)) | ((with_reducible apply p_limit_y h' rfl) <;> omega)); skip)
    | ((with_reducible apply X_Tt); focus (first | ((with_reducible apply p_take_n h') <;> first | omega | ((simp (disch := first | omega | exact Nat.lt_trans (ht _ (by omega)) (by omega)) only [lit, n_eq]) <;> omega)) | ((with_reducible apply p_limit_n h' rfl) <;> omega)); skip))
        refine X_T x1 ?_
        repeat (first
    | ((with_reducible apply X_bndE); focus (first | ((with_reducible apply pz_pp h') <;> omega) | ((with_reducible apply pz_kk h') <;> omega) | (with_reducible exact pz_14)); skip)
    | with_reducible refine X_bnd ?_
    | ((with_reducible apply X_chk); focus (first | exact a1 | exact a2 | exact a3 | exact a4 | exact a5 | ((with_reducible apply pz_i1 h') <;> omega) | ((with_reducible apply pz_i2 h') <;> omega)); skip)
    | ((with_reducible apply X_rfO); focus (first | exact c1 | exact c2 | exact c5); skip)
    | ((with_reducible apply X_I); focus (first | ((with_reducible apply p_kaC h') <;> omega) | ((with_reducible apply p_paC h') <;> omega) | ((with_reducible apply p_skip_y h') <;> first | omega | ((simp (disch := omega) only [lit, n_eq]) <;> omega)) | ((with_reducible apply p_skip_n h') <;> first | omega | ((simp (disch := first | omega | exact Nat.lt_trans (ht _ (by omega)) (by omega)) only [lit, n_eq]) <;> omega))); skip)
    | ((with_reducible apply X_if); focus (first | (with_reducible exact rfl) | (with_reducible exact n00) | ((simp (disch := omega) only [lit, n_eq]) <;> omega)); skip)
    | ((with_reducible apply X_nif); focus (first | exact n10 | ((with_reducible apply p_cnt h') <;> omega) | ((simp (disch := first | omega | exact Nat.lt_trans (ht _ (by omega)) (by omega)) only [lit, n_eq]) <;> omega)); skip)
    | ((with_reducible apply X_T); focus (first | ((with_reducible apply p_take_y h') <;> first | omega | ((simp (disch := omega) only [lit, n_eq]) <;> omega)) | ((with_reducible apply p_limit_y h' rfl) <;> omega)); skip)
    | ((with_reducible apply X_Tt); focus (first | ((with_reducible apply p_take_n h') <;> first | omega | ((simp (disch := first | omega | exact Nat.lt_trans (ht _ (by omega)) (by omega)) only [lit, n_eq]) <;> omega)) | ((with_reducible apply p_limit_n h' rfl) <;> omega)); skip))
        exact X_V (p_fin h' (by simp only [siz] at *; omega) rfl dr) rfl
      · unfold f_RM_factor
        rw [hd1]
        repeat (first
    | with_reducible refine A_VI ?_
    | with_reducible refine A_VV ?_
    | with_reducible refine A_Vif ?_
    | with_reducible refine A_Vs ?_
    | with_reducible refine A_II ?_
    | with_reducible refine A_IV ?_
    | with_reducible refine A_Iif ?_
    | with_reducible refine A_Is ?_
    | with_reducible refine A_Ichk ?_
    | ((with_reducible apply X_bndE); focus (first | ((with_reducible apply r_p R hn) <;> first | omega | assumption)); skip)
    | with_reducible refine X_bnd ?_
    | ((with_reducible apply X_chk); focus (((with_reducible apply r_i hn)) <;> omega); skip)
    | ((with_reducible apply X_I); focus (first | ((with_reducible apply r_look R hn) <;> first | omega | assumption) | (with_reducible exact q_look1) | ((with_reducible apply r_draft) <;> first | omega | exact rfl | exact r_p R hn (by omega) (by assumption)) | ((with_reducible apply r_name_y R hn) <;> first | omega | assumption)); skip)
    | ((with_reducible apply X_V); focus (first | ((with_reducible apply r_take_y R hn) <;> first | omega | assumption | first | exact rfl | (with_reducible exact n00) | exact kp_y (by assumption) (by decide)) | ((with_reducible apply r_take_n R hn) <;> first | omega | assumption | first | exact n10 | ((simp (disch := first | assumption | omega | exact ht _ (by omega)) only [lit, n_eq, n_le, kp_0, kp_1, kp_2, kp_3, kp_4, kp_5, kp_6, kp_7, kp_8, kp_9, kp_10, kp_11, kp_12, kp_13, kp_14, kp_15, kp_16, kp_17, kp_18, kp_19, kp_20, kp_21, kp_22, kp_23, kp_24, kp_25, kp_26, kp_27, kp_28, kp_29, kp_30, kp_31, kp_32, kp_33, kp_34]) <;> omega)) | (with_reducible exact q_takeb) | ((with_reducible apply q_deep_y rfl) <;> omega) | ((with_reducible apply q_deep_n R rfl) <;> first | omega | assumption) | (with_reducible exact q_needb) | (with_reducible exact r_need1) | ((with_reducible apply r_need0 R hn) <;> first | omega | assumption)); skip)
    | ((with_reducible apply X_if); focus (first | exact rfl | (with_reducible exact n00) | exact kp_y (by assumption) (by decide)); skip)
    | ((with_reducible apply X_nif); focus (first | exact n10 | ((simp (disch := first | assumption | omega | exact ht _ (by omega)) only [lit, n_eq, n_le, kp_0, kp_1, kp_2, kp_3, kp_4, kp_5, kp_6, kp_7, kp_8, kp_9, kp_10, kp_11, kp_12, kp_13, kp_14, kp_15, kp_16, kp_17, kp_18, kp_19, kp_20, kp_21, kp_22, kp_23, kp_24, kp_25, kp_26, kp_27, kp_28, kp_29, kp_30, kp_31, kp_32, kp_33, kp_34]) <;> omega)); skip))
        refine X_I x2 ?_
        exact X_V (nb_joinE hb hb') rfl
    · refine Out_b (q := q') (x := y) (rr' := calV (f_RM_join N (nI dr) v (qz S q' 1 (nI (tp q')) dr' B')) fun S22 => some (nI dr, S22)) ?_ ?_ ?_ x7 x8
      · unfold f_PA_factor
        rw [hd1]
        repeat (first
    | ((with_reducible apply X_bndE); focus (first | ((with_reducible apply pz_pp h') <;> omega) | ((with_reducible apply pz_kk h') <;> omega) | (with_reducible exact pz_14)); skip)
    | with_reducible refine X_bnd ?_
    | ((with_reducible apply X_chk); focus (first | exact a1 | exact a2 | exact a3 | exact a4 | exact a5 | ((with_reducible apply pz_i1 h') <;> omega) | ((with_reducible apply pz_i2 h') <;> omega)); skip)
    | ((with_reducible apply X_rfO); focus (first | exact c1 | exact c2 | exact c5); skip)
    | ((with_reducible apply X_I); focus (first | ((with_reducible apply p_kaC h') <;> omega) | ((with_reducible apply p_paC h') <;> omega) | ((with_reducible apply p_skip_y h') <;> first | omega | ((simp (disch := omega) only [lit, n_eq]) <;> omega)) | ((with_reducible apply p_skip_n h') <;> first | omega | ((simp (disch := first | omega | exact Nat.lt_trans (ht _ (by omega)) (by omega)) only [lit, n_eq]) <;> omega))); skip)
    | ((with_reducible apply X_if); focus (first | (with_reducible exact rfl) | (with_reducible exact n00) | ((simp (disch := omega) only [lit, n_eq]) <;> omega)); skip)
    | ((with_reducible apply X_nif); focus (first | exact n10 | ((with_reducible apply p_cnt h') <;> omega) | ((simp (disch := first | omega | exact Nat.lt_trans (ht _ (by omega)) (by omega)) only [lit, n_eq]) <;> omega)); skip)
    | ((with_reducible apply X_T); focus (first | ((with_reducible apply p_take_y h') <;> first | omega | ((simp (disch := omega) only [lit, n_eq]) <;> omega)) | ((with_reducible apply p_limit_y h' rfl) <;> omega)); skip)
    | ((with_reducible apply X_Tt); focus (first | ((with_reducible apply p_take_n h') <;> first | omega | ((simp (disch := first | omega | exact Nat.lt_trans (ht _ (by omega)) (by omega)) only [lit, n_eq]) <;> omega)) | ((with_reducible apply p_limit_n h' rfl) <;> omega)); skip))
        exact X_Tt x1 rfl
      · unfold f_RM_factor
        rw [hd1]
        repeat (first
    | with_reducible refine A_VI ?_
    | with_reducible refine A_VV ?_
    | with_reducible refine A_Vif ?_
    | with_reducible refine A_Vs ?_
    | with_reducible refine A_II ?_
    | with_reducible refine A_IV ?_
    | with_reducible refine A_Iif ?_
    | with_reducible refine A_Is ?_
    | with_reducible refine A_Ichk ?_
    | ((with_reducible apply X_bndE); focus (first | ((with_reducible apply r_p R hn) <;> first | omega | assumption)); skip)
    | with_reducible refine X_bnd ?_
    | ((with_reducible apply X_chk); focus (((with_reducible apply r_i hn)) <;> omega); skip)
    | ((with_reducible apply X_I); focus (first | ((with_reducible apply r_look R hn) <;> first | omega | assumption) | (with_reducible exact q_look1) | ((with_reducible apply r_draft) <;> first | omega | exact rfl | exact r_p R hn (by omega) (by assumption)) | ((with_reducible apply r_name_y R hn) <;> first | omega | assumption)); skip)
    | ((with_reducible apply X_V); focus (first | ((with_reducible apply r_take_y R hn) <;> first | omega | assumption | first | exact rfl | (with_reducible exact n00) | exact kp_y (by assumption) (by decide)) | ((with_reducible apply r_take_n R hn) <;> first | omega | assumption | first | exact n10 | ((simp (disch := first | assumption | omega | exact ht _ (by omega)) only [lit, n_eq, n_le, kp_0, kp_1, kp_2, kp_3, kp_4, kp_5, kp_6, kp_7, kp_8, kp_9, kp_10, kp_11, kp_12, kp_13, kp_14, kp_15, kp_16, kp_17, kp_18, kp_19, kp_20, kp_21, kp_22, kp_23, kp_24, kp_25, kp_26, kp_27, kp_28, kp_29, kp_30, kp_31, kp_32, kp_33, kp_34]) <;> omega)) | (with_reducible exact q_takeb) | ((with_reducible apply q_deep_y rfl) <;> omega) | ((with_reducible apply q_deep_n R rfl) <;> first | omega | assumption) | (with_reducible exact q_needb) | (with_reducible exact r_need1) | ((with_reducible apply r_need0 R hn) <;> first | omega | assumption)); skip)
    | ((with_reducible apply X_if); focus (first | exact rfl | (with_reducible exact n00) | exact kp_y (by assumption) (by decide)); skip)
    | ((with_reducible apply X_nif); focus (first | exact n10 | ((simp (disch := first | assumption | omega | exact ht _ (by omega)) only [lit, n_eq, n_le, kp_0, kp_1, kp_2, kp_3, kp_4, kp_5, kp_6, kp_7, kp_8, kp_9, kp_10, kp_11, kp_12, kp_13, kp_14, kp_15, kp_16, kp_17, kp_18, kp_19, kp_20, kp_21, kp_22, kp_23, kp_24, kp_25, kp_26, kp_27, kp_28, kp_29, kp_30, kp_31, kp_32, kp_33, kp_34]) <;> omega)); skip))
        exact X_I x2 rfl
      · refine bm_join x5 (by omega) (by omega) x6 (fun B2 hB2 => ?_)
        exact ⟨_, _, _, (by with_reducible rfl), by omega, by omega, (by first | assumption | exact BI_new (by assumption) | exact BI_new (BI_new (by assumption)) | exact BI_new (BI_new (BI_new (by assumption)))), (by first | exact Or.inl rfl | assumption | exact Or.inr ⟨_, by omega, rfl⟩)⟩
  · refine Out_b0 (q := q + 1) (rr' := calV (f_RM_join N (nI dr) (-1) (qz S (q + 1) 1 (nI (tp (q + 1))) (dr + 1) (bd B dr (nI 15) (nI (tp q)) 0))) fun S22 => some (nI dr, S22)) ?_ ?_ ?_ q1 g1
    · unfold f_PA_factor
      rw [hd1]
      repeat (first
    | ((with_reducible apply X_bndE); focus (first | ((with_reducible apply pz_pp h') <;> omega) | ((with_reducible apply pz_kk h') <;> omega) | (with_reducible exact pz_14)); skip)
    | with_reducible refine X_bnd ?_
    | ((with_reducible apply X_chk); focus (first | exact a1 | exact a2 | exact a3 | exact a4 | exact a5 | ((with_reducible apply pz_i1 h') <;> omega) | ((with_reducible apply pz_i2 h') <;> omega)); skip)
    | ((with_reducible apply X_rfO); focus (first | exact c1 | exact c2 | exact c5); skip)
    | ((with_reducible apply X_I); focus (first | ((with_reducible apply p_kaC h') <;> omega) | ((with_reducible apply p_paC h') <;> omega) | ((with_reducible apply p_skip_y h') <;> first | omega | ((simp (disch := omega) only [lit, n_eq]) <;> omega)) | ((with_reducible apply p_skip_n h') <;> first | omega | ((simp (disch := first | omega | exact Nat.lt_trans (ht _ (by omega)) (by omega)) only [lit, n_eq]) <;> omega))); skip)
    | ((with_reducible apply X_if); focus (first | (with_reducible exact rfl) | (with_reducible exact n00) | ((simp (disch := omega) only [lit, n_eq]) <;> omega)); skip)
    | ((with_reducible apply X_nif); focus (first | exact n10 | ((with_reducible apply p_cnt h') <;> omega) | ((simp (disch := first | omega | exact Nat.lt_trans (ht _ (by omega)) (by omega)) only [lit, n_eq]) <;> omega)); skip)
    | ((with_reducible apply X_T); focus (first | ((with_reducible apply p_take_y h') <;> first | omega | ((simp (disch := omega) only [lit, n_eq]) <;> omega)) | ((with_reducible apply p_limit_y h' rfl) <;> omega)); skip)
    | ((with_reducible apply X_Tt); focus (first | ((with_reducible apply p_take_n h') <;> first | omega | ((simp (disch := first | omega | exact Nat.lt_trans (ht _ (by omega)) (by omega)) only [lit, n_eq]) <;> omega)) | ((with_reducible apply p_limit_n h' rfl) <;> omega)); skip))
      exact X_Tt (hX h60 _ _) rfl
    · unfold f_RM_factor
      rw [hd1]
      repeat (first
    | with_reducible refine A_VI ?_
    | with_reducible refine A_VV ?_
    | with_reducible refine A_Vif ?_
    | with_reducible refine A_Vs ?_
    | with_reducible refine A_II ?_
    | with_reducible refine A_IV ?_
    | with_reducible refine A_Iif ?_
    | with_reducible refine A_Is ?_
    | with_reducible refine A_Ichk ?_
    | ((with_reducible apply X_bndE); focus (first | ((with_reducible apply r_p R hn) <;> first | omega | assumption)); skip)
    | with_reducible refine X_bnd ?_
    | ((with_reducible apply X_chk); focus (((with_reducible apply r_i hn)) <;> omega); skip)
    | ((with_reducible apply X_I); focus (first | ((with_reducible apply r_look R hn) <;> first | omega | assumption) | (with_reducible exact q_look1) | ((with_reducible apply r_draft) <;> first | omega | exact rfl | exact r_p R hn (by omega) (by assumption)) | ((with_reducible apply r_name_y R hn) <;> first | omega | assumption)); skip)
    | ((with_reducible apply X_V); focus (first | ((with_reducible apply r_take_y R hn) <;> first | omega | assumption | first | exact rfl | (with_reducible exact n00) | exact kp_y (by assumption) (by decide)) | ((with_reducible apply r_take_n R hn) <;> first | omega | assumption | first | exact n10 | ((simp (disch := first | assumption | omega | exact ht _ (by omega)) only [lit, n_eq, n_le, kp_0, kp_1, kp_2, kp_3, kp_4, kp_5, kp_6, kp_7, kp_8, kp_9, kp_10, kp_11, kp_12, kp_13, kp_14, kp_15, kp_16, kp_17, kp_18, kp_19, kp_20, kp_21, kp_22, kp_23, kp_24, kp_25, kp_26, kp_27, kp_28, kp_29, kp_30, kp_31, kp_32, kp_33, kp_34]) <;> omega)) | (with_reducible exact q_takeb) | ((with_reducible apply q_deep_y rfl) <;> omega) | ((with_reducible apply q_deep_n R rfl) <;> first | omega | assumption) | (with_reducible exact q_needb) | (with_reducible exact r_need1) | ((with_reducible apply r_need0 R hn) <;> first | omega | assumption)); skip)
    | ((with_reducible apply X_if); focus (first | exact rfl | (with_reducible exact n00) | exact kp_y (by assumption) (by decide)); skip)
    | ((with_reducible apply X_nif); focus (first | exact n10 | ((simp (disch := first | assumption | omega | exact ht _ (by omega)) only [lit, n_eq, n_le, kp_0, kp_1, kp_2, kp_3, kp_4, kp_5, kp_6, kp_7, kp_8, kp_9, kp_10, kp_11, kp_12, kp_13, kp_14, kp_15, kp_16, kp_17, kp_18, kp_19, kp_20, kp_21, kp_22, kp_23, kp_24, kp_25, kp_26, kp_27, kp_28, kp_29, kp_30, kp_31, kp_32, kp_33, kp_34]) <;> omega)); skip))
      rfl
    · refine bm_jn ?_ rfl
      exact ⟨_, _, _, rfl, by omega, by omega, BI_new i5, Or.inr ⟨_, by omega, rfl⟩⟩
theorem fac_12 {d lim hm : Nat} {pf ps : Nat → Int32 → mh_H → Option (Bool × Int32 × mh_H)} {rf rs : Int32 → rm_S → Option (Int32 × rm_S)} (E : EN σ ap dd tt bk bp bv dk dp dv dz n room tk tp tv S N) (hS : Sim σ ap dd dk dp dv dz n tk tp S (d + 1) lim hm ps rs) (hF : d + 1 ≤ 60 → Sim σ ap dd dk dp dv dz n tk tp S (d + 1) lim hm pf rf) (hX : ¬ d + 1 ≤ 60 → ∀ q ds, pf ap (nI (d + 1)) (pz σ ap dd dk dp dv dz q ds) = some (true, 0, mh_new (pz σ ap dd dk dp dv dz q ds) 9)) (hl : 16010 ≤ lim ∧ lim < 25990 ∧ 1 ≤ hm) (hd : d ≤ 60) {flt : Int32} {q : Nat} {ds : List Ent} {dr : Nat} {B : Nat → Nat → Int32} (hI : Inp n tk q ds dr B) (t3 : ¬ tk q = 3) (t23 : ¬ tk q = 23) (t12 : tk q = 12) : Out σ ap dd dk dp dv dz n tk tp S flt q ds dr B (lim + 2) (hm + 1) (f_PA_factor N pf ps ap (nI d) (pz σ ap dd dk dp dv dz q ds)) (f_RM_factor N rs rf (nI d) (qz S q 0 flt dr B)) := by
  have hI' := hI
  obtain ⟨⟨i1, i2⟩, i3, i4, i5⟩ := hI
  obtain ⟨h, R, hn, hNN⟩ := E
  have h' := h
  obtain ⟨⟨a1, a2, a3⟩, ⟨a4, a5, a6, a7, a8, a9, a10⟩, ⟨c1, c2⟩, ⟨c4, c5, c6⟩, ⟨c7, c8, c9, c10⟩, -, ⟨e5, e6, e7⟩, e8, -, -, -, -, e9, e10, e11, e12, e13⟩ := h
  have ht : ∀ j, j < n → tk j < 35 := fun j hj => (e9 j hj).2.2.2
  have hb1 : ∀ j, j < n → j < hN σ bk := fun j hj => by omega
  have hb2 : ∀ j, j < n → j < hN σ bp := fun j hj => by omega
  have htq := ht q i1
  have hp := R_3 R i1 i2
  have hd1 : nI d + 1 = nI (d + 1) := n_add d 1
  have q1 := e13 q i1 (by omega)
  have g1 := gd_s i2 (by omega) (by omega)
  rcases hS flt (q + 1) ds dr B ⟨⟨q1, g1⟩, by omega, by omega, i5⟩ with ⟨q', i', k', p', v', c', dr', B', x1, x2, x3⟩ | ⟨q', y, x1, ⟨v, dr', B', x2, x3, x4, x5, x6⟩, x7, x8⟩
  · have hb' := nb_of x3
    obtain ⟨⟨y1, y2, y3⟩, -, -, -, y0, ⟨y4, y5, y6⟩, y7, y8⟩ := x3
    by_cases u13 : tk q' = 13
    · have q2 := e13 q' y2 (by omega)
      have g2 := gd_s y3 (by omega) (by omega)
      refine Out_y (q := q' + 1) ?_ ?_ (New_of hb' (by omega) q2 g2 (by omega) (by omega) y7 (by omega))
      · unfold f_PA_factor
        rw [hd1]
        repeat (first
    | ((with_reducible apply X_bndE); focus (first | ((with_reducible apply pz_pp h') <;> omega) | ((with_reducible apply pz_kk h') <;> omega) | (with_reducible exact pz_14)); skip)
    | with_reducible refine X_bnd ?_
    | ((with_reducible apply X_chk); focus (first | exact a1 | exact a2 | exact a3 | exact a4 | exact a5 | ((with_reducible apply pz_i1 h') <;> omega) | ((with_reducible apply pz_i2 h') <;> omega)); skip)
    | ((with_reducible apply X_rfO); focus (first | exact c1 | exact c2 | exact c5); skip)
    | ((with_reducible apply X_I); focus (first | ((with_reducible apply p_kaC h') <;> omega) | ((with_reducible apply p_paC h') <;> omega) | ((with_reducible apply p_skip_y h') <;> first | omega | ((simp (disch := omega) only [lit, n_eq]) <;> omega)) | ((with_reducible apply p_skip_n h') <;> first | omega | ((simp (disch := first | omega | exact Nat.lt_trans (ht _ (by omega)) (by omega)) only [lit, n_eq]) <;> omega))); skip)
    | ((with_reducible apply X_if); focus (first | (with_reducible exact rfl) | (with_reducible exact n00) | ((simp (disch := omega) only [lit, n_eq]) <;> omega)); skip)
    | ((with_reducible apply X_nif); focus (first | exact n10 | ((with_reducible apply p_cnt h') <;> omega) | ((simp (disch := first | omega | exact Nat.lt_trans (ht _ (by omega)) (by omega)) only [lit, n_eq]) <;> omega)); skip)
    | ((with_reducible apply X_T); focus (first | ((with_reducible apply p_take_y h') <;> first | omega | ((simp (disch := omega) only [lit, n_eq]) <;> omega)) | ((with_reducible apply p_limit_y h' rfl) <;> omega)); skip)
    | ((with_reducible apply X_Tt); focus (first | ((with_reducible apply p_take_n h') <;> first | omega | ((simp (disch := first | omega | exact Nat.lt_trans (ht _ (by omega)) (by omega)) only [lit, n_eq]) <;> omega)) | ((with_reducible apply p_limit_n h' rfl) <;> omega)); skip))
        refine X_T x1 ?_
        repeat (first
    | ((with_reducible apply X_bndE); focus (first | ((with_reducible apply pz_pp h') <;> omega) | ((with_reducible apply pz_kk h') <;> omega) | (with_reducible exact pz_14)); skip)
    | with_reducible refine X_bnd ?_
    | ((with_reducible apply X_chk); focus (first | exact a1 | exact a2 | exact a3 | exact a4 | exact a5 | ((with_reducible apply pz_i1 h') <;> omega) | ((with_reducible apply pz_i2 h') <;> omega)); skip)
    | ((with_reducible apply X_rfO); focus (first | exact c1 | exact c2 | exact c5); skip)
    | ((with_reducible apply X_I); focus (first | ((with_reducible apply p_kaC h') <;> omega) | ((with_reducible apply p_paC h') <;> omega) | ((with_reducible apply p_skip_y h') <;> first | omega | ((simp (disch := omega) only [lit, n_eq]) <;> omega)) | ((with_reducible apply p_skip_n h') <;> first | omega | ((simp (disch := first | omega | exact Nat.lt_trans (ht _ (by omega)) (by omega)) only [lit, n_eq]) <;> omega))); skip)
    | ((with_reducible apply X_if); focus (first | (with_reducible exact rfl) | (with_reducible exact n00) | ((simp (disch := omega) only [lit, n_eq]) <;> omega)); skip)
    | ((with_reducible apply X_nif); focus (first | exact n10 | ((with_reducible apply p_cnt h') <;> omega) | ((simp (disch := first | omega | exact Nat.lt_trans (ht _ (by omega)) (by omega)) only [lit, n_eq]) <;> omega)); skip)
    | ((with_reducible apply X_T); focus (first | ((with_reducible apply p_take_y h') <;> first | omega | ((simp (disch := omega) only [lit, n_eq]) <;> omega)) | ((with_reducible apply p_limit_y h' rfl) <;> omega)); skip)
    | ((with_reducible apply X_Tt); focus (first | ((with_reducible apply p_take_n h') <;> first | omega | ((simp (disch := first | omega | exact Nat.lt_trans (ht _ (by omega)) (by omega)) only [lit, n_eq]) <;> omega)) | ((with_reducible apply p_limit_n h' rfl) <;> omega)); skip))
        rfl
      · unfold f_RM_factor
        rw [hd1]
        repeat (first
    | with_reducible refine A_VI ?_
    | with_reducible refine A_VV ?_
    | with_reducible refine A_Vif ?_
    | with_reducible refine A_Vs ?_
    | with_reducible refine A_II ?_
    | with_reducible refine A_IV ?_
    | with_reducible refine A_Iif ?_
    | with_reducible refine A_Is ?_
    | with_reducible refine A_Ichk ?_
    | ((with_reducible apply X_bndE); focus (first | ((with_reducible apply r_p R hn) <;> first | omega | assumption)); skip)
    | with_reducible refine X_bnd ?_
    | ((with_reducible apply X_chk); focus (((with_reducible apply r_i hn)) <;> omega); skip)
    | ((with_reducible apply X_I); focus (first | ((with_reducible apply r_look R hn) <;> first | omega | assumption) | (with_reducible exact q_look1) | ((with_reducible apply r_draft) <;> first | omega | exact rfl | exact r_p R hn (by omega) (by assumption)) | ((with_reducible apply r_name_y R hn) <;> first | omega | assumption)); skip)
    | ((with_reducible apply X_V); focus (first | ((with_reducible apply r_take_y R hn) <;> first | omega | assumption | first | exact rfl | (with_reducible exact n00) | exact kp_y (by assumption) (by decide)) | ((with_reducible apply r_take_n R hn) <;> first | omega | assumption | first | exact n10 | ((simp (disch := first | assumption | omega | exact ht _ (by omega)) only [lit, n_eq, n_le, kp_0, kp_1, kp_2, kp_3, kp_4, kp_5, kp_6, kp_7, kp_8, kp_9, kp_10, kp_11, kp_12, kp_13, kp_14, kp_15, kp_16, kp_17, kp_18, kp_19, kp_20, kp_21, kp_22, kp_23, kp_24, kp_25, kp_26, kp_27, kp_28, kp_29, kp_30, kp_31, kp_32, kp_33, kp_34]) <;> omega)) | (with_reducible exact q_takeb) | ((with_reducible apply q_deep_y rfl) <;> omega) | ((with_reducible apply q_deep_n R rfl) <;> first | omega | assumption) | (with_reducible exact q_needb) | (with_reducible exact r_need1) | ((with_reducible apply r_need0 R hn) <;> first | omega | assumption)); skip)
    | ((with_reducible apply X_if); focus (first | exact rfl | (with_reducible exact n00) | exact kp_y (by assumption) (by decide)); skip)
    | ((with_reducible apply X_nif); focus (first | exact n10 | ((simp (disch := first | assumption | omega | exact ht _ (by omega)) only [lit, n_eq, n_le, kp_0, kp_1, kp_2, kp_3, kp_4, kp_5, kp_6, kp_7, kp_8, kp_9, kp_10, kp_11, kp_12, kp_13, kp_14, kp_15, kp_16, kp_17, kp_18, kp_19, kp_20, kp_21, kp_22, kp_23, kp_24, kp_25, kp_26, kp_27, kp_28, kp_29, kp_30, kp_31, kp_32, kp_33, kp_34]) <;> omega)); skip))
        refine X_I x2 ?_
        repeat (first
    | with_reducible refine A_VI ?_
    | with_reducible refine A_VV ?_
    | with_reducible refine A_Vif ?_
    | with_reducible refine A_Vs ?_
    | with_reducible refine A_II ?_
    | with_reducible refine A_IV ?_
    | with_reducible refine A_Iif ?_
    | with_reducible refine A_Is ?_
    | with_reducible refine A_Ichk ?_
    | ((with_reducible apply X_bndE); focus (first | ((with_reducible apply r_p R hn) <;> first | omega | assumption)); skip)
    | with_reducible refine X_bnd ?_
    | ((with_reducible apply X_chk); focus (((with_reducible apply r_i hn)) <;> omega); skip)
    | ((with_reducible apply X_I); focus (first | ((with_reducible apply r_look R hn) <;> first | omega | assumption) | (with_reducible exact q_look1) | ((with_reducible apply r_draft) <;> first | omega | exact rfl | exact r_p R hn (by omega) (by assumption)) | ((with_reducible apply r_name_y R hn) <;> first | omega | assumption)); skip)
    | ((with_reducible apply X_V); focus (first | ((with_reducible apply r_take_y R hn) <;> first | omega | assumption | first | exact rfl | (with_reducible exact n00) | exact kp_y (by assumption) (by decide)) | ((with_reducible apply r_take_n R hn) <;> first | omega | assumption | first | exact n10 | ((simp (disch := first | assumption | omega | exact ht _ (by omega)) only [lit, n_eq, n_le, kp_0, kp_1, kp_2, kp_3, kp_4, kp_5, kp_6, kp_7, kp_8, kp_9, kp_10, kp_11, kp_12, kp_13, kp_14, kp_15, kp_16, kp_17, kp_18, kp_19, kp_20, kp_21, kp_22, kp_23, kp_24, kp_25, kp_26, kp_27, kp_28, kp_29, kp_30, kp_31, kp_32, kp_33, kp_34]) <;> omega)) | (with_reducible exact q_takeb) | ((with_reducible apply q_deep_y rfl) <;> omega) | ((with_reducible apply q_deep_n R rfl) <;> first | omega | assumption) | (with_reducible exact q_needb) | (with_reducible exact r_need1) | ((with_reducible apply r_need0 R hn) <;> first | omega | assumption)); skip)
    | ((with_reducible apply X_if); focus (first | exact rfl | (with_reducible exact n00) | exact kp_y (by assumption) (by decide)); skip)
    | ((with_reducible apply X_nif); focus (first | exact n10 | ((simp (disch := first | assumption | omega | exact ht _ (by omega)) only [lit, n_eq, n_le, kp_0, kp_1, kp_2, kp_3, kp_4, kp_5, kp_6, kp_7, kp_8, kp_9, kp_10, kp_11, kp_12, kp_13, kp_14, kp_15, kp_16, kp_17, kp_18, kp_19, kp_20, kp_21, kp_22, kp_23, kp_24, kp_25, kp_26, kp_27, kp_28, kp_29, kp_30, kp_31, kp_32, kp_33, kp_34]) <;> omega)); skip))
        rfl
    · refine Out_b (q := q') (x := post (one i' k' p' v' c')) (rr' := some (nI i', qz S q' 1 (nI (tp q')) dr' B')) ?_ ?_ ?_ y2 y3
      · unfold f_PA_factor
        rw [hd1]
        repeat (first
    | ((with_reducible apply X_bndE); focus (first | ((with_reducible apply pz_pp h') <;> omega) | ((with_reducible apply pz_kk h') <;> omega) | (with_reducible exact pz_14)); skip)
    | with_reducible refine X_bnd ?_
    | ((with_reducible apply X_chk); focus (first | exact a1 | exact a2 | exact a3 | exact a4 | exact a5 | ((with_reducible apply pz_i1 h') <;> omega) | ((with_reducible apply pz_i2 h') <;> omega)); skip)
    | ((with_reducible apply X_rfO); focus (first | exact c1 | exact c2 | exact c5); skip)
    | ((with_reducible apply X_I); focus (first | ((with_reducible apply p_kaC h') <;> omega) | ((with_reducible apply p_paC h') <;> omega) | ((with_reducible apply p_skip_y h') <;> first | omega | ((simp (disch := omega) only [lit, n_eq]) <;> omega)) | ((with_reducible apply p_skip_n h') <;> first | omega | ((simp (disch := first | omega | exact Nat.lt_trans (ht _ (by omega)) (by omega)) only [lit, n_eq]) <;> omega))); skip)
    | ((with_reducible apply X_if); focus (first | (with_reducible exact rfl) | (with_reducible exact n00) | ((simp (disch := omega) only [lit, n_eq]) <;> omega)); skip)
    | ((with_reducible apply X_nif); focus (first | exact n10 | ((with_reducible apply p_cnt h') <;> omega) | ((simp (disch := first | omega | exact Nat.lt_trans (ht _ (by omega)) (by omega)) only [lit, n_eq]) <;> omega)); skip)
    | ((with_reducible apply X_T); focus (first | ((with_reducible apply p_take_y h') <;> first | omega | ((simp (disch := omega) only [lit, n_eq]) <;> omega)) | ((with_reducible apply p_limit_y h' rfl) <;> omega)); skip)
    | ((with_reducible apply X_Tt); focus (first | ((with_reducible apply p_take_n h') <;> first | omega | ((simp (disch := first | omega | exact Nat.lt_trans (ht _ (by omega)) (by omega)) only [lit, n_eq]) <;> omega)) | ((with_reducible apply p_limit_n h' rfl) <;> omega)); skip))
        refine X_T x1 ?_
        repeat (first
    | ((with_reducible apply X_bndE); focus (first | ((with_reducible apply pz_pp h') <;> omega) | ((with_reducible apply pz_kk h') <;> omega) | (with_reducible exact pz_14)); skip)
    | with_reducible refine X_bnd ?_
    | ((with_reducible apply X_chk); focus (first | exact a1 | exact a2 | exact a3 | exact a4 | exact a5 | ((with_reducible apply pz_i1 h') <;> omega) | ((with_reducible apply pz_i2 h') <;> omega)); skip)
    | ((with_reducible apply X_rfO); focus (first | exact c1 | exact c2 | exact c5); skip)
    | ((with_reducible apply X_I); focus (first | ((with_reducible apply p_kaC h') <;> omega) | ((with_reducible apply p_paC h') <;> omega) | ((with_reducible apply p_skip_y h') <;> first | omega | ((simp (disch := omega) only [lit, n_eq]) <;> omega)) | ((with_reducible apply p_skip_n h') <;> first | omega | ((simp (disch := first | omega | exact Nat.lt_trans (ht _ (by omega)) (by omega)) only [lit, n_eq]) <;> omega))); skip)
    | ((with_reducible apply X_if); focus (first | (with_reducible exact rfl) | (with_reducible exact n00) | ((simp (disch := omega) only [lit, n_eq]) <;> omega)); skip)
    | ((with_reducible apply X_nif); focus (first | exact n10 | ((with_reducible apply p_cnt h') <;> omega) | ((simp (disch := first | omega | exact Nat.lt_trans (ht _ (by omega)) (by omega)) only [lit, n_eq]) <;> omega)); skip)
    | ((with_reducible apply X_T); focus (first | ((with_reducible apply p_take_y h') <;> first | omega | ((simp (disch := omega) only [lit, n_eq]) <;> omega)) | ((with_reducible apply p_limit_y h' rfl) <;> omega)); skip)
    | ((with_reducible apply X_Tt); focus (first | ((with_reducible apply p_take_n h') <;> first | omega | ((simp (disch := first | omega | exact Nat.lt_trans (ht _ (by omega)) (by omega)) only [lit, n_eq]) <;> omega)) | ((with_reducible apply p_limit_n h' rfl) <;> omega)); skip))
        rfl
      · unfold f_RM_factor
        rw [hd1]
        repeat (first
    | with_reducible refine A_VI ?_
    | with_reducible refine A_VV ?_
    | with_reducible refine A_Vif ?_
    | with_reducible refine A_Vs ?_
    | with_reducible refine A_II ?_
    | with_reducible refine A_IV ?_
    | with_reducible refine A_Iif ?_
    | with_reducible refine A_Is ?_
    | with_reducible refine A_Ichk ?_
    | ((with_reducible apply X_bndE); focus (first | ((with_reducible apply r_p R hn) <;> first | omega | assumption)); skip)
    | with_reducible refine X_bnd ?_
    | ((with_reducible apply X_chk); focus (((with_reducible apply r_i hn)) <;> omega); skip)
    | ((with_reducible apply X_I); focus (first | ((with_reducible apply r_look R hn) <;> first | omega | assumption) | (with_reducible exact q_look1) | ((with_reducible apply r_draft) <;> first | omega | exact rfl | exact r_p R hn (by omega) (by assumption)) | ((with_reducible apply r_name_y R hn) <;> first | omega | assumption)); skip)
    | ((with_reducible apply X_V); focus (first | ((with_reducible apply r_take_y R hn) <;> first | omega | assumption | first | exact rfl | (with_reducible exact n00) | exact kp_y (by assumption) (by decide)) | ((with_reducible apply r_take_n R hn) <;> first | omega | assumption | first | exact n10 | ((simp (disch := first | assumption | omega | exact ht _ (by omega)) only [lit, n_eq, n_le, kp_0, kp_1, kp_2, kp_3, kp_4, kp_5, kp_6, kp_7, kp_8, kp_9, kp_10, kp_11, kp_12, kp_13, kp_14, kp_15, kp_16, kp_17, kp_18, kp_19, kp_20, kp_21, kp_22, kp_23, kp_24, kp_25, kp_26, kp_27, kp_28, kp_29, kp_30, kp_31, kp_32, kp_33, kp_34]) <;> omega)) | (with_reducible exact q_takeb) | ((with_reducible apply q_deep_y rfl) <;> omega) | ((with_reducible apply q_deep_n R rfl) <;> first | omega | assumption) | (with_reducible exact q_needb) | (with_reducible exact r_need1) | ((with_reducible apply r_need0 R hn) <;> first | omega | assumption)); skip)
    | ((with_reducible apply X_if); focus (first | exact rfl | (with_reducible exact n00) | exact kp_y (by assumption) (by decide)); skip)
    | ((with_reducible apply X_nif); focus (first | exact n10 | ((simp (disch := first | assumption | omega | exact ht _ (by omega)) only [lit, n_eq, n_le, kp_0, kp_1, kp_2, kp_3, kp_4, kp_5, kp_6, kp_7, kp_8, kp_9, kp_10, kp_11, kp_12, kp_13, kp_14, kp_15, kp_16, kp_17, kp_18, kp_19, kp_20, kp_21, kp_22, kp_23, kp_24, kp_25, kp_26, kp_27, kp_28, kp_29, kp_30, kp_31, kp_32, kp_33, kp_34]) <;> omega)); skip))
        refine X_I x2 ?_
        repeat (first
    | with_reducible refine A_VI ?_
    | with_reducible refine A_VV ?_
    | with_reducible refine A_Vif ?_
    | with_reducible refine A_Vs ?_
    | with_reducible refine A_II ?_
    | with_reducible refine A_IV ?_
    | with_reducible refine A_Iif ?_
    | with_reducible refine A_Is ?_
    | with_reducible refine A_Ichk ?_
    | ((with_reducible apply X_bndE); focus (first | ((with_reducible apply r_p R hn) <;> first | omega | assumption)); skip)
    | with_reducible refine X_bnd ?_
    | ((with_reducible apply X_chk); focus (((with_reducible apply r_i hn)) <;> omega); skip)
    | ((with_reducible apply X_I); focus (first | ((with_reducible apply r_look R hn) <;> first | omega | assumption) | (with_reducible exact q_look1) | ((with_reducible apply r_draft) <;> first | omega | exact rfl | exact r_p R hn (by omega) (by assumption)) | ((with_reducible apply r_name_y R hn) <;> first | omega | assumption)); skip)
    | ((with_reducible apply X_V); focus (first | ((with_reducible apply r_take_y R hn) <;> first | omega | assumption | first | exact rfl | (with_reducible exact n00) | exact kp_y (by assumption) (by decide)) | ((with_reducible apply r_take_n R hn) <;> first | omega | assumption | first | exact n10 | ((simp (disch := first | assumption | omega | exact ht _ (by omega)) only [lit, n_eq, n_le, kp_0, kp_1, kp_2, kp_3, kp_4, kp_5, kp_6, kp_7, kp_8, kp_9, kp_10, kp_11, kp_12, kp_13, kp_14, kp_15, kp_16, kp_17, kp_18, kp_19, kp_20, kp_21, kp_22, kp_23, kp_24, kp_25, kp_26, kp_27, kp_28, kp_29, kp_30, kp_31, kp_32, kp_33, kp_34]) <;> omega)) | (with_reducible exact q_takeb) | ((with_reducible apply q_deep_y rfl) <;> omega) | ((with_reducible apply q_deep_n R rfl) <;> first | omega | assumption) | (with_reducible exact q_needb) | (with_reducible exact r_need1) | ((with_reducible apply r_need0 R hn) <;> first | omega | assumption)); skip)
    | ((with_reducible apply X_if); focus (first | exact rfl | (with_reducible exact n00) | exact kp_y (by assumption) (by decide)); skip)
    | ((with_reducible apply X_nif); focus (first | exact n10 | ((simp (disch := first | assumption | omega | exact ht _ (by omega)) only [lit, n_eq, n_le, kp_0, kp_1, kp_2, kp_3, kp_4, kp_5, kp_6, kp_7, kp_8, kp_9, kp_10, kp_11, kp_12, kp_13, kp_14, kp_15, kp_16, kp_17, kp_18, kp_19, kp_20, kp_21, kp_22, kp_23, kp_24, kp_25, kp_26, kp_27, kp_28, kp_29, kp_30, kp_31, kp_32, kp_33, kp_34]) <;> omega)); skip))
        rfl
      · have := nb_lt hb'
        exact ⟨_, _, _, (by with_reducible rfl), by omega, by omega, (by first | assumption | exact BI_new (by assumption) | exact BI_new (BI_new (by assumption)) | exact BI_new (BI_new (BI_new (by assumption)))), (by first | exact Or.inl rfl | assumption | exact Or.inr ⟨_, by omega, rfl⟩)⟩
  · refine Out_b (q := q') (x := y) (rr' := some (v, qz S q' 1 (nI (tp q')) dr' B')) ?_ ?_ ?_ x7 x8
    · unfold f_PA_factor
      rw [hd1]
      repeat (first
    | ((with_reducible apply X_bndE); focus (first | ((with_reducible apply pz_pp h') <;> omega) | ((with_reducible apply pz_kk h') <;> omega) | (with_reducible exact pz_14)); skip)
    | with_reducible refine X_bnd ?_
    | ((with_reducible apply X_chk); focus (first | exact a1 | exact a2 | exact a3 | exact a4 | exact a5 | ((with_reducible apply pz_i1 h') <;> omega) | ((with_reducible apply pz_i2 h') <;> omega)); skip)
    | ((with_reducible apply X_rfO); focus (first | exact c1 | exact c2 | exact c5); skip)
    | ((with_reducible apply X_I); focus (first | ((with_reducible apply p_kaC h') <;> omega) | ((with_reducible apply p_paC h') <;> omega) | ((with_reducible apply p_skip_y h') <;> first | omega | ((simp (disch := omega) only [lit, n_eq]) <;> omega)) | ((with_reducible apply p_skip_n h') <;> first | omega | ((simp (disch := first | omega | exact Nat.lt_trans (ht _ (by omega)) (by omega)) only [lit, n_eq]) <;> omega))); skip)
    | ((with_reducible apply X_if); focus (first | (with_reducible exact rfl) | (with_reducible exact n00) | ((simp (disch := omega) only [lit, n_eq]) <;> omega)); skip)
    | ((with_reducible apply X_nif); focus (first | exact n10 | ((with_reducible apply p_cnt h') <;> omega) | ((simp (disch := first | omega | exact Nat.lt_trans (ht _ (by omega)) (by omega)) only [lit, n_eq]) <;> omega)); skip)
    | ((with_reducible apply X_T); focus (first | ((with_reducible apply p_take_y h') <;> first | omega | ((simp (disch := omega) only [lit, n_eq]) <;> omega)) | ((with_reducible apply p_limit_y h' rfl) <;> omega)); skip)
    | ((with_reducible apply X_Tt); focus (first | ((with_reducible apply p_take_n h') <;> first | omega | ((simp (disch := first | omega | exact Nat.lt_trans (ht _ (by omega)) (by omega)) only [lit, n_eq]) <;> omega)) | ((with_reducible apply p_limit_n h' rfl) <;> omega)); skip))
      exact X_Tt x1 rfl
    · unfold f_RM_factor
      rw [hd1]
      repeat (first
    | with_reducible refine A_VI ?_
    | with_reducible refine A_VV ?_
    | with_reducible refine A_Vif ?_
    | with_reducible refine A_Vs ?_
    | with_reducible refine A_II ?_
    | with_reducible refine A_IV ?_
    | with_reducible refine A_Iif ?_
    | with_reducible refine A_Is ?_
    | with_reducible refine A_Ichk ?_
    | ((with_reducible apply X_bndE); focus (first | ((with_reducible apply r_p R hn) <;> first | omega | assumption)); skip)
    | with_reducible refine X_bnd ?_
    | ((with_reducible apply X_chk); focus (((with_reducible apply r_i hn)) <;> omega); skip)
    | ((with_reducible apply X_I); focus (first | ((with_reducible apply r_look R hn) <;> first | omega | assumption) | (with_reducible exact q_look1) | ((with_reducible apply r_draft) <;> first | omega | exact rfl | exact r_p R hn (by omega) (by assumption)) | ((with_reducible apply r_name_y R hn) <;> first | omega | assumption)); skip)
    | ((with_reducible apply X_V); focus (first | ((with_reducible apply r_take_y R hn) <;> first | omega | assumption | first | exact rfl | (with_reducible exact n00) | exact kp_y (by assumption) (by decide)) | ((with_reducible apply r_take_n R hn) <;> first | omega | assumption | first | exact n10 | ((simp (disch := first | assumption | omega | exact ht _ (by omega)) only [lit, n_eq, n_le, kp_0, kp_1, kp_2, kp_3, kp_4, kp_5, kp_6, kp_7, kp_8, kp_9, kp_10, kp_11, kp_12, kp_13, kp_14, kp_15, kp_16, kp_17, kp_18, kp_19, kp_20, kp_21, kp_22, kp_23, kp_24, kp_25, kp_26, kp_27, kp_28, kp_29, kp_30, kp_31, kp_32, kp_33, kp_34]) <;> omega)) | (with_reducible exact q_takeb) | ((with_reducible apply q_deep_y rfl) <;> omega) | ((with_reducible apply q_deep_n R rfl) <;> first | omega | assumption) | (with_reducible exact q_needb) | (with_reducible exact r_need1) | ((with_reducible apply r_need0 R hn) <;> first | omega | assumption)); skip)
    | ((with_reducible apply X_if); focus (first | exact rfl | (with_reducible exact n00) | exact kp_y (by assumption) (by decide)); skip)
    | ((with_reducible apply X_nif); focus (first | exact n10 | ((simp (disch := first | assumption | omega | exact ht _ (by omega)) only [lit, n_eq, n_le, kp_0, kp_1, kp_2, kp_3, kp_4, kp_5, kp_6, kp_7, kp_8, kp_9, kp_10, kp_11, kp_12, kp_13, kp_14, kp_15, kp_16, kp_17, kp_18, kp_19, kp_20, kp_21, kp_22, kp_23, kp_24, kp_25, kp_26, kp_27, kp_28, kp_29, kp_30, kp_31, kp_32, kp_33, kp_34]) <;> omega)); skip))
      refine X_I x2 ?_
      repeat (first
    | with_reducible refine A_VI ?_
    | with_reducible refine A_VV ?_
    | with_reducible refine A_Vif ?_
    | with_reducible refine A_Vs ?_
    | with_reducible refine A_II ?_
    | with_reducible refine A_IV ?_
    | with_reducible refine A_Iif ?_
    | with_reducible refine A_Is ?_
    | with_reducible refine A_Ichk ?_
    | ((with_reducible apply X_bndE); focus (first | ((with_reducible apply r_p R hn) <;> first | omega | assumption)); skip)
    | with_reducible refine X_bnd ?_
    | ((with_reducible apply X_chk); focus (((with_reducible apply r_i hn)) <;> omega); skip)
    | ((with_reducible apply X_I); focus (first | ((with_reducible apply r_look R hn) <;> first | omega | assumption) | (with_reducible exact q_look1) | ((with_reducible apply r_draft) <;> first | omega | exact rfl | exact r_p R hn (by omega) (by assumption)) | ((with_reducible apply r_name_y R hn) <;> first | omega | assumption)); skip)
    | ((with_reducible apply X_V); focus (first | ((with_reducible apply r_take_y R hn) <;> first | omega | assumption | first | exact rfl | (with_reducible exact n00) | exact kp_y (by assumption) (by decide)) | ((with_reducible apply r_take_n R hn) <;> first | omega | assumption | first | exact n10 | ((simp (disch := first | assumption | omega | exact ht _ (by omega)) only [lit, n_eq, n_le, kp_0, kp_1, kp_2, kp_3, kp_4, kp_5, kp_6, kp_7, kp_8, kp_9, kp_10, kp_11, kp_12, kp_13, kp_14, kp_15, kp_16, kp_17, kp_18, kp_19, kp_20, kp_21, kp_22, kp_23, kp_24, kp_25, kp_26, kp_27, kp_28, kp_29, kp_30, kp_31, kp_32, kp_33, kp_34]) <;> omega)) | (with_reducible exact q_takeb) | ((with_reducible apply q_deep_y rfl) <;> omega) | ((with_reducible apply q_deep_n R rfl) <;> first | omega | assumption) | (with_reducible exact q_needb) | (with_reducible exact r_need1) | ((with_reducible apply r_need0 R hn) <;> first | omega | assumption)); skip)
    | ((with_reducible apply X_if); focus (first | exact rfl | (with_reducible exact n00) | exact kp_y (by assumption) (by decide)); skip)
    | ((with_reducible apply X_nif); focus (first | exact n10 | ((simp (disch := first | assumption | omega | exact ht _ (by omega)) only [lit, n_eq, n_le, kp_0, kp_1, kp_2, kp_3, kp_4, kp_5, kp_6, kp_7, kp_8, kp_9, kp_10, kp_11, kp_12, kp_13, kp_14, kp_15, kp_16, kp_17, kp_18, kp_19, kp_20, kp_21, kp_22, kp_23, kp_24, kp_25, kp_26, kp_27, kp_28, kp_29, kp_30, kp_31, kp_32, kp_33, kp_34]) <;> omega)); skip))
      rfl
    · exact ⟨_, _, _, (by with_reducible rfl), by omega, by omega, (by first | assumption | exact BI_new (by assumption) | exact BI_new (BI_new (by assumption)) | exact BI_new (BI_new (BI_new (by assumption)))), (by first | exact Or.inl rfl | assumption | exact Or.inr ⟨_, by omega, rfl⟩)⟩
theorem fac_11 {d lim hm : Nat} {pf ps : Nat → Int32 → mh_H → Option (Bool × Int32 × mh_H)} {rf rs : Int32 → rm_S → Option (Int32 × rm_S)} (E : EN σ ap dd tt bk bp bv dk dp dv dz n room tk tp tv S N) (hS : Sim σ ap dd dk dp dv dz n tk tp S (d + 1) lim hm ps rs) (hF : d + 1 ≤ 60 → Sim σ ap dd dk dp dv dz n tk tp S (d + 1) lim hm pf rf) (hX : ¬ d + 1 ≤ 60 → ∀ q ds, pf ap (nI (d + 1)) (pz σ ap dd dk dp dv dz q ds) = some (true, 0, mh_new (pz σ ap dd dk dp dv dz q ds) 9)) (hl : 16010 ≤ lim ∧ lim < 25990 ∧ 1 ≤ hm) (hd : d ≤ 60) {flt : Int32} {q : Nat} {ds : List Ent} {dr : Nat} {B : Nat → Nat → Int32} (hI : Inp n tk q ds dr B) (t3 : ¬ tk q = 3) (t23 : ¬ tk q = 23) (t12 : ¬ tk q = 12) (t11 : tk q = 11) : Out σ ap dd dk dp dv dz n tk tp S flt q ds dr B (lim + 2) (hm + 1) (f_PA_factor N pf ps ap (nI d) (pz σ ap dd dk dp dv dz q ds)) (f_RM_factor N rs rf (nI d) (qz S q 0 flt dr B)) := by
  have hI' := hI
  obtain ⟨⟨i1, i2⟩, i3, i4, i5⟩ := hI
  obtain ⟨h, R, hn, hNN⟩ := E
  have h' := h
  obtain ⟨⟨a1, a2, a3⟩, ⟨a4, a5, a6, a7, a8, a9, a10⟩, ⟨c1, c2⟩, ⟨c4, c5, c6⟩, ⟨c7, c8, c9, c10⟩, -, ⟨e5, e6, e7⟩, e8, -, -, -, -, e9, e10, e11, e12, e13⟩ := h
  have ht : ∀ j, j < n → tk j < 35 := fun j hj => (e9 j hj).2.2.2
  have hb1 : ∀ j, j < n → j < hN σ bk := fun j hj => by omega
  have hb2 : ∀ j, j < n → j < hN σ bp := fun j hj => by omega
  have htq := ht q i1
  have hp := R_3 R i1 i2
  have hd1 : nI d + 1 = nI (d + 1) := n_add d 1
  have q1 := e13 q i1 (by omega)
  have g1 := gd_s i2 (by omega) (by omega)
  have hb := nb_new (k := 16) (p := tp q) (v := 0) (show dr < 26000 by omega) i5
  by_cases u12 : tk (q + 1) = 12
  · have q2 := e13 (q + 1) q1 (by omega)
    have g2 := gd_s g1 (by omega) (by omega)
    rcases num1 (flt := flt) (N := N) (q := q + 1 + 1) (dr := dr + 1) (B := bd B dr (nI 16) (nI (tp q)) 0) (ds := ds) h' R hn q2 g2 (by omega) (by omega) with ⟨qa, va, ⟨z1, z2, z3⟩, z4, z5, z6⟩ | ⟨qa, va, ⟨z1, z2, z3⟩, z4, z5⟩
    · have hb1 := nb_new (k := 12) (p := tp (q + 1 + 1)) (v := va) (show dr + 1 < 26000 by omega) hb.2.2.2
      have hb2 := nb_join hb hb1
      have hj1 := fun q => nb_joinE (S := S) (N := N) (bad := 0) (flt := flt) (q := q) hb hb1
      have hw1 : wf n tk tp (one (dr + 1) 12 (tp (q + 1 + 1)) va .leaf) := s_num (R_3 R q2 g2) _ _ z6
      by_cases u18 : tk qa = 18
      · have q3 := e13 qa z2 (by omega)
        have g3 := gd_s z3 (by omega) (by omega)
        have hll : (ds ++ post (one (dr + 1) 12 (tp (q + 1 + 1)) va .leaf)).length = ds.length + 1 := by simp [post]
        rcases num1 (flt := flt) (N := N) (q := qa + 1) (dr := dr + 1 + 1) (B := bj (bd (bd B dr (nI 16) (nI (tp q)) 0) (dr + 1) (nI 12) (nI (tp (q + 1 + 1))) va) dr .leaf (dr + 1)) (ds := ds ++ post (one (dr + 1) 12 (tp (q + 1 + 1)) va .leaf)) h' R hn q3 g3 (by omega) (by omega) with ⟨qb, vb, ⟨w1, w2, w3⟩, w4, w5, w6⟩ | ⟨qb, vb, ⟨w1, w2, w3⟩, w4, w5⟩
        · have hb3 := nb_new (k := 12) (p := tp (qa + 1)) (v := vb) (show dr + 1 + 1 < 26000 by omega) hb2.2.2.2
          have hb4 := nb_join hb2 hb3
          have hj2 := fun q => nb_joinE (S := S) (N := N) (bad := 0) (flt := flt) (q := q) hb2 hb3
          have hw2 : wf n tk tp (one (dr + 1 + 1) 12 (tp (qa + 1)) vb .leaf) := s_num (R_3 R q3 g3) _ _ w6
          by_cases u13 : tk qb = 13
          · have q4 := e13 qb w2 (by omega)
            have g4 := gd_s w3 (by omega) (by omega)
            refine Out_y (q := qb + 1) ?_ ?_ (New_of hb4 (by omega) q4 g4 (by omega) (by simp only [app, siz] at *; omega) ⟨by simp [okk, app, kls], by simp, ⟨hp, by simp only [app, siz]; omega⟩, wf_app hw1 hw2, trivial⟩ (by simp only [app, hgt] at *; omega))
            · unfold f_PA_factor
              repeat (first
    | ((with_reducible apply X_bndE); focus (first | ((with_reducible apply pz_pp h') <;> omega) | ((with_reducible apply pz_kk h') <;> omega) | (with_reducible exact pz_14)); skip)
    | with_reducible refine X_bnd ?_
    | ((with_reducible apply X_chk); focus (first | exact a1 | exact a2 | exact a3 | exact a4 | exact a5 | ((with_reducible apply pz_i1 h') <;> omega) | ((with_reducible apply pz_i2 h') <;> omega)); skip)
    | ((with_reducible apply X_rfO); focus (first | exact c1 | exact c2 | exact c5); skip)
    | ((with_reducible apply X_I); focus (first | ((with_reducible apply p_kaC h') <;> omega) | ((with_reducible apply p_paC h') <;> omega) | ((with_reducible apply p_skip_y h') <;> first | omega | ((simp (disch := omega) only [lit, n_eq]) <;> omega)) | ((with_reducible apply p_skip_n h') <;> first | omega | ((simp (disch := first | omega | exact Nat.lt_trans (ht _ (by omega)) (by omega)) only [lit, n_eq]) <;> omega))); skip)
    | ((with_reducible apply X_if); focus (first | (with_reducible exact rfl) | (with_reducible exact n00) | ((simp (disch := omega) only [lit, n_eq]) <;> omega)); skip)
    | ((with_reducible apply X_nif); focus (first | exact n10 | ((with_reducible apply p_cnt h') <;> omega) | ((simp (disch := first | omega | exact Nat.lt_trans (ht _ (by omega)) (by omega)) only [lit, n_eq]) <;> omega)); skip)
    | ((with_reducible apply X_T); focus (first | ((with_reducible apply p_take_y h') <;> first | omega | ((simp (disch := omega) only [lit, n_eq]) <;> omega)) | ((with_reducible apply p_limit_y h' rfl) <;> omega)); skip)
    | ((with_reducible apply X_Tt); focus (first | ((with_reducible apply p_take_n h') <;> first | omega | ((simp (disch := first | omega | exact Nat.lt_trans (ht _ (by omega)) (by omega)) only [lit, n_eq]) <;> omega)) | ((with_reducible apply p_limit_n h' rfl) <;> omega)); skip))
              refine X_T z4 ?_
              repeat (first
    | ((with_reducible apply X_bndE); focus (first | ((with_reducible apply pz_pp h') <;> omega) | ((with_reducible apply pz_kk h') <;> omega) | (with_reducible exact pz_14)); skip)
    | with_reducible refine X_bnd ?_
    | ((with_reducible apply X_chk); focus (first | exact a1 | exact a2 | exact a3 | exact a4 | exact a5 | ((with_reducible apply pz_i1 h') <;> omega) | ((with_reducible apply pz_i2 h') <;> omega)); skip)
    | ((with_reducible apply X_rfO); focus (first | exact c1 | exact c2 | exact c5); skip)
    | ((with_reducible apply X_I); focus (first | ((with_reducible apply p_kaC h') <;> omega) | ((with_reducible apply p_paC h') <;> omega) | ((with_reducible apply p_skip_y h') <;> first | omega | ((simp (disch := omega) only [lit, n_eq]) <;> omega)) | ((with_reducible apply p_skip_n h') <;> first | omega | ((simp (disch := first | omega | exact Nat.lt_trans (ht _ (by omega)) (by omega)) only [lit, n_eq]) <;> omega))); skip)
    | ((with_reducible apply X_if); focus (first | (with_reducible exact rfl) | (with_reducible exact n00) | ((simp (disch := omega) only [lit, n_eq]) <;> omega)); skip)
    | ((with_reducible apply X_nif); focus (first | exact n10 | ((with_reducible apply p_cnt h') <;> omega) | ((simp (disch := first | omega | exact Nat.lt_trans (ht _ (by omega)) (by omega)) only [lit, n_eq]) <;> omega)); skip)
    | ((with_reducible apply X_T); focus (first | ((with_reducible apply p_take_y h') <;> first | omega | ((simp (disch := omega) only [lit, n_eq]) <;> omega)) | ((with_reducible apply p_limit_y h' rfl) <;> omega)); skip)
    | ((with_reducible apply X_Tt); focus (first | ((with_reducible apply p_take_n h') <;> first | omega | ((simp (disch := first | omega | exact Nat.lt_trans (ht _ (by omega)) (by omega)) only [lit, n_eq]) <;> omega)) | ((with_reducible apply p_limit_n h' rfl) <;> omega)); skip))
              refine X_T w4 ?_
              repeat (first
    | ((with_reducible apply X_bndE); focus (first | ((with_reducible apply pz_pp h') <;> omega) | ((with_reducible apply pz_kk h') <;> omega) | (with_reducible exact pz_14)); skip)
    | with_reducible refine X_bnd ?_
    | ((with_reducible apply X_chk); focus (first | exact a1 | exact a2 | exact a3 | exact a4 | exact a5 | ((with_reducible apply pz_i1 h') <;> omega) | ((with_reducible apply pz_i2 h') <;> omega)); skip)
    | ((with_reducible apply X_rfO); focus (first | exact c1 | exact c2 | exact c5); skip)
    | ((with_reducible apply X_I); focus (first | ((with_reducible apply p_kaC h') <;> omega) | ((with_reducible apply p_paC h') <;> omega) | ((with_reducible apply p_skip_y h') <;> first | omega | ((simp (disch := omega) only [lit, n_eq]) <;> omega)) | ((with_reducible apply p_skip_n h') <;> first | omega | ((simp (disch := first | omega | exact Nat.lt_trans (ht _ (by omega)) (by omega)) only [lit, n_eq]) <;> omega))); skip)
    | ((with_reducible apply X_if); focus (first | (with_reducible exact rfl) | (with_reducible exact n00) | ((simp (disch := omega) only [lit, n_eq]) <;> omega)); skip)
    | ((with_reducible apply X_nif); focus (first | exact n10 | ((with_reducible apply p_cnt h') <;> omega) | ((simp (disch := first | omega | exact Nat.lt_trans (ht _ (by omega)) (by omega)) only [lit, n_eq]) <;> omega)); skip)
    | ((with_reducible apply X_T); focus (first | ((with_reducible apply p_take_y h') <;> first | omega | ((simp (disch := omega) only [lit, n_eq]) <;> omega)) | ((with_reducible apply p_limit_y h' rfl) <;> omega)); skip)
    | ((with_reducible apply X_Tt); focus (first | ((with_reducible apply p_take_n h') <;> first | omega | ((simp (disch := first | omega | exact Nat.lt_trans (ht _ (by omega)) (by omega)) only [lit, n_eq]) <;> omega)) | ((with_reducible apply p_limit_n h' rfl) <;> omega)); skip))
              unfold k_PA_factor_140
              repeat (first
    | ((with_reducible apply X_bndE); focus (first | ((with_reducible apply pz_pp h') <;> omega) | ((with_reducible apply pz_kk h') <;> omega) | (with_reducible exact pz_14)); skip)
    | with_reducible refine X_bnd ?_
    | ((with_reducible apply X_chk); focus (first | exact a1 | exact a2 | exact a3 | exact a4 | exact a5 | ((with_reducible apply pz_i1 h') <;> omega) | ((with_reducible apply pz_i2 h') <;> omega)); skip)
    | ((with_reducible apply X_rfO); focus (first | exact c1 | exact c2 | exact c5); skip)
    | ((with_reducible apply X_I); focus (first | ((with_reducible apply p_kaC h') <;> omega) | ((with_reducible apply p_paC h') <;> omega) | ((with_reducible apply p_skip_y h') <;> first | omega | ((simp (disch := omega) only [lit, n_eq]) <;> omega)) | ((with_reducible apply p_skip_n h') <;> first | omega | ((simp (disch := first | omega | exact Nat.lt_trans (ht _ (by omega)) (by omega)) only [lit, n_eq]) <;> omega))); skip)
    | ((with_reducible apply X_if); focus (first | (with_reducible exact rfl) | (with_reducible exact n00) | ((simp (disch := omega) only [lit, n_eq]) <;> omega)); skip)
    | ((with_reducible apply X_nif); focus (first | exact n10 | ((with_reducible apply p_cnt h') <;> omega) | ((simp (disch := first | omega | exact Nat.lt_trans (ht _ (by omega)) (by omega)) only [lit, n_eq]) <;> omega)); skip)
    | ((with_reducible apply X_T); focus (first | ((with_reducible apply p_take_y h') <;> first | omega | ((simp (disch := omega) only [lit, n_eq]) <;> omega)) | ((with_reducible apply p_limit_y h' rfl) <;> omega)); skip)
    | ((with_reducible apply X_Tt); focus (first | ((with_reducible apply p_take_n h') <;> first | omega | ((simp (disch := first | omega | exact Nat.lt_trans (ht _ (by omega)) (by omega)) only [lit, n_eq]) <;> omega)) | ((with_reducible apply p_limit_n h' rfl) <;> omega)); skip))
              have hpa : ds ++ post (one (dr + 1) 12 (tp (q + 1 + 1)) va .leaf) ++ post (one (dr + 1 + 1) 12 (tp (qa + 1)) vb .leaf) = ds ++ post (app (app .leaf (one (dr + 1) 12 (tp (q + 1 + 1)) va .leaf)) (one (dr + 1 + 1) 12 (tp (qa + 1)) vb .leaf)) := by rw [post_app, List.append_assoc]; rfl
              rw [hpa]
              exact X_V (p_fin h' (by simp only [app, siz] at *; omega) rfl dr) rfl
            · unfold f_RM_factor
              repeat (first
    | with_reducible refine A_VI ?_
    | with_reducible refine A_VV ?_
    | with_reducible refine A_Vif ?_
    | with_reducible refine A_Vs ?_
    | with_reducible refine A_II ?_
    | with_reducible refine A_IV ?_
    | with_reducible refine A_Iif ?_
    | with_reducible refine A_Is ?_
    | with_reducible refine A_Ichk ?_
    | ((with_reducible apply X_bndE); focus (first | ((with_reducible apply r_p R hn) <;> first | omega | assumption)); skip)
    | with_reducible refine X_bnd ?_
    | ((with_reducible apply X_chk); focus (((with_reducible apply r_i hn)) <;> omega); skip)
    | ((with_reducible apply X_I); focus (first | ((with_reducible apply r_look R hn) <;> first | omega | assumption) | (with_reducible exact q_look1) | ((with_reducible apply r_draft) <;> first | omega | exact rfl | exact r_p R hn (by omega) (by assumption)) | ((with_reducible apply r_name_y R hn) <;> first | omega | assumption)); skip)
    | ((with_reducible apply X_V); focus (first | ((with_reducible apply r_take_y R hn) <;> first | omega | assumption | first | exact rfl | (with_reducible exact n00) | exact kp_y (by assumption) (by decide)) | ((with_reducible apply r_take_n R hn) <;> first | omega | assumption | first | exact n10 | ((simp (disch := first | assumption | omega | exact ht _ (by omega)) only [lit, n_eq, n_le, kp_0, kp_1, kp_2, kp_3, kp_4, kp_5, kp_6, kp_7, kp_8, kp_9, kp_10, kp_11, kp_12, kp_13, kp_14, kp_15, kp_16, kp_17, kp_18, kp_19, kp_20, kp_21, kp_22, kp_23, kp_24, kp_25, kp_26, kp_27, kp_28, kp_29, kp_30, kp_31, kp_32, kp_33, kp_34]) <;> omega)) | (with_reducible exact q_takeb) | ((with_reducible apply q_deep_y rfl) <;> omega) | ((with_reducible apply q_deep_n R rfl) <;> first | omega | assumption) | (with_reducible exact q_needb) | (with_reducible exact r_need1) | ((with_reducible apply r_need0 R hn) <;> first | omega | assumption)); skip)
    | ((with_reducible apply X_if); focus (first | exact rfl | (with_reducible exact n00) | exact kp_y (by assumption) (by decide)); skip)
    | ((with_reducible apply X_nif); focus (first | exact n10 | ((simp (disch := first | assumption | omega | exact ht _ (by omega)) only [lit, n_eq, n_le, kp_0, kp_1, kp_2, kp_3, kp_4, kp_5, kp_6, kp_7, kp_8, kp_9, kp_10, kp_11, kp_12, kp_13, kp_14, kp_15, kp_16, kp_17, kp_18, kp_19, kp_20, kp_21, kp_22, kp_23, kp_24, kp_25, kp_26, kp_27, kp_28, kp_29, kp_30, kp_31, kp_32, kp_33, kp_34]) <;> omega)); skip))
              refine X_I z5 ?_
              refine X_V (hj1 _) ?_
              repeat (first
    | with_reducible refine A_VI ?_
    | with_reducible refine A_VV ?_
    | with_reducible refine A_Vif ?_
    | with_reducible refine A_Vs ?_
    | with_reducible refine A_II ?_
    | with_reducible refine A_IV ?_
    | with_reducible refine A_Iif ?_
    | with_reducible refine A_Is ?_
    | with_reducible refine A_Ichk ?_
    | ((with_reducible apply X_bndE); focus (first | ((with_reducible apply r_p R hn) <;> first | omega | assumption)); skip)
    | with_reducible refine X_bnd ?_
    | ((with_reducible apply X_chk); focus (((with_reducible apply r_i hn)) <;> omega); skip)
    | ((with_reducible apply X_I); focus (first | ((with_reducible apply r_look R hn) <;> first | omega | assumption) | (with_reducible exact q_look1) | ((with_reducible apply r_draft) <;> first | omega | exact rfl | exact r_p R hn (by omega) (by assumption)) | ((with_reducible apply r_name_y R hn) <;> first | omega | assumption)); skip)
    | ((with_reducible apply X_V); focus (first | ((with_reducible apply r_take_y R hn) <;> first | omega | assumption | first | exact rfl | (with_reducible exact n00) | exact kp_y (by assumption) (by decide)) | ((with_reducible apply r_take_n R hn) <;> first | omega | assumption | first | exact n10 | ((simp (disch := first | assumption | omega | exact ht _ (by omega)) only [lit, n_eq, n_le, kp_0, kp_1, kp_2, kp_3, kp_4, kp_5, kp_6, kp_7, kp_8, kp_9, kp_10, kp_11, kp_12, kp_13, kp_14, kp_15, kp_16, kp_17, kp_18, kp_19, kp_20, kp_21, kp_22, kp_23, kp_24, kp_25, kp_26, kp_27, kp_28, kp_29, kp_30, kp_31, kp_32, kp_33, kp_34]) <;> omega)) | (with_reducible exact q_takeb) | ((with_reducible apply q_deep_y rfl) <;> omega) | ((with_reducible apply q_deep_n R rfl) <;> first | omega | assumption) | (with_reducible exact q_needb) | (with_reducible exact r_need1) | ((with_reducible apply r_need0 R hn) <;> first | omega | assumption)); skip)
    | ((with_reducible apply X_if); focus (first | exact rfl | (with_reducible exact n00) | exact kp_y (by assumption) (by decide)); skip)
    | ((with_reducible apply X_nif); focus (first | exact n10 | ((simp (disch := first | assumption | omega | exact ht _ (by omega)) only [lit, n_eq, n_le, kp_0, kp_1, kp_2, kp_3, kp_4, kp_5, kp_6, kp_7, kp_8, kp_9, kp_10, kp_11, kp_12, kp_13, kp_14, kp_15, kp_16, kp_17, kp_18, kp_19, kp_20, kp_21, kp_22, kp_23, kp_24, kp_25, kp_26, kp_27, kp_28, kp_29, kp_30, kp_31, kp_32, kp_33, kp_34]) <;> omega)); skip))
              refine X_I w5 ?_
              refine X_V (hj2 _) ?_
              repeat (first
    | with_reducible refine A_VI ?_
    | with_reducible refine A_VV ?_
    | with_reducible refine A_Vif ?_
    | with_reducible refine A_Vs ?_
    | with_reducible refine A_II ?_
    | with_reducible refine A_IV ?_
    | with_reducible refine A_Iif ?_
    | with_reducible refine A_Is ?_
    | with_reducible refine A_Ichk ?_
    | ((with_reducible apply X_bndE); focus (first | ((with_reducible apply r_p R hn) <;> first | omega | assumption)); skip)
    | with_reducible refine X_bnd ?_
    | ((with_reducible apply X_chk); focus (((with_reducible apply r_i hn)) <;> omega); skip)
    | ((with_reducible apply X_I); focus (first | ((with_reducible apply r_look R hn) <;> first | omega | assumption) | (with_reducible exact q_look1) | ((with_reducible apply r_draft) <;> first | omega | exact rfl | exact r_p R hn (by omega) (by assumption)) | ((with_reducible apply r_name_y R hn) <;> first | omega | assumption)); skip)
    | ((with_reducible apply X_V); focus (first | ((with_reducible apply r_take_y R hn) <;> first | omega | assumption | first | exact rfl | (with_reducible exact n00) | exact kp_y (by assumption) (by decide)) | ((with_reducible apply r_take_n R hn) <;> first | omega | assumption | first | exact n10 | ((simp (disch := first | assumption | omega | exact ht _ (by omega)) only [lit, n_eq, n_le, kp_0, kp_1, kp_2, kp_3, kp_4, kp_5, kp_6, kp_7, kp_8, kp_9, kp_10, kp_11, kp_12, kp_13, kp_14, kp_15, kp_16, kp_17, kp_18, kp_19, kp_20, kp_21, kp_22, kp_23, kp_24, kp_25, kp_26, kp_27, kp_28, kp_29, kp_30, kp_31, kp_32, kp_33, kp_34]) <;> omega)) | (with_reducible exact q_takeb) | ((with_reducible apply q_deep_y rfl) <;> omega) | ((with_reducible apply q_deep_n R rfl) <;> first | omega | assumption) | (with_reducible exact q_needb) | (with_reducible exact r_need1) | ((with_reducible apply r_need0 R hn) <;> first | omega | assumption)); skip)
    | ((with_reducible apply X_if); focus (first | exact rfl | (with_reducible exact n00) | exact kp_y (by assumption) (by decide)); skip)
    | ((with_reducible apply X_nif); focus (first | exact n10 | ((simp (disch := first | assumption | omega | exact ht _ (by omega)) only [lit, n_eq, n_le, kp_0, kp_1, kp_2, kp_3, kp_4, kp_5, kp_6, kp_7, kp_8, kp_9, kp_10, kp_11, kp_12, kp_13, kp_14, kp_15, kp_16, kp_17, kp_18, kp_19, kp_20, kp_21, kp_22, kp_23, kp_24, kp_25, kp_26, kp_27, kp_28, kp_29, kp_30, kp_31, kp_32, kp_33, kp_34]) <;> omega)); skip))
              rfl
          · refine Out_b (q := qb) (x := post (one (dr + 1) 12 (tp (q + 1 + 1)) va .leaf) ++ post (one (dr + 1 + 1) 12 (tp (qa + 1)) vb .leaf)) ?_ rfl ?_ w2 w3
            · rw [← List.append_assoc]
              unfold f_PA_factor
              repeat (first
    | ((with_reducible apply X_bndE); focus (first | ((with_reducible apply pz_pp h') <;> omega) | ((with_reducible apply pz_kk h') <;> omega) | (with_reducible exact pz_14)); skip)
    | with_reducible refine X_bnd ?_
    | ((with_reducible apply X_chk); focus (first | exact a1 | exact a2 | exact a3 | exact a4 | exact a5 | ((with_reducible apply pz_i1 h') <;> omega) | ((with_reducible apply pz_i2 h') <;> omega)); skip)
    | ((with_reducible apply X_rfO); focus (first | exact c1 | exact c2 | exact c5); skip)
    | ((with_reducible apply X_I); focus (first | ((with_reducible apply p_kaC h') <;> omega) | ((with_reducible apply p_paC h') <;> omega) | ((with_reducible apply p_skip_y h') <;> first | omega | ((simp (disch := omega) only [lit, n_eq]) <;> omega)) | ((with_reducible apply p_skip_n h') <;> first | omega | ((simp (disch := first | omega | exact Nat.lt_trans (ht _ (by omega)) (by omega)) only [lit, n_eq]) <;> omega))); skip)
    | ((with_reducible apply X_if); focus (first | (with_reducible exact rfl) | (with_reducible exact n00) | ((simp (disch := omega) only [lit, n_eq]) <;> omega)); skip)
    | ((with_reducible apply X_nif); focus (first | exact n10 | ((with_reducible apply p_cnt h') <;> omega) | ((simp (disch := first | omega | exact Nat.lt_trans (ht _ (by omega)) (by omega)) only [lit, n_eq]) <;> omega)); skip)
    | ((with_reducible apply X_T); focus (first | ((with_reducible apply p_take_y h') <;> first | omega | ((simp (disch := omega) only [lit, n_eq]) <;> omega)) | ((with_reducible apply p_limit_y h' rfl) <;> omega)); skip)
    | ((with_reducible apply X_Tt); focus (first | ((with_reducible apply p_take_n h') <;> first | omega | ((simp (disch := first | omega | exact Nat.lt_trans (ht _ (by omega)) (by omega)) only [lit, n_eq]) <;> omega)) | ((with_reducible apply p_limit_n h' rfl) <;> omega)); skip))
              refine X_T z4 ?_
              repeat (first
    | ((with_reducible apply X_bndE); focus (first | ((with_reducible apply pz_pp h') <;> omega) | ((with_reducible apply pz_kk h') <;> omega) | (with_reducible exact pz_14)); skip)
    | with_reducible refine X_bnd ?_
    | ((with_reducible apply X_chk); focus (first | exact a1 | exact a2 | exact a3 | exact a4 | exact a5 | ((with_reducible apply pz_i1 h') <;> omega) | ((with_reducible apply pz_i2 h') <;> omega)); skip)
    | ((with_reducible apply X_rfO); focus (first | exact c1 | exact c2 | exact c5); skip)
    | ((with_reducible apply X_I); focus (first | ((with_reducible apply p_kaC h') <;> omega) | ((with_reducible apply p_paC h') <;> omega) | ((with_reducible apply p_skip_y h') <;> first | omega | ((simp (disch := omega) only [lit, n_eq]) <;> omega)) | ((with_reducible apply p_skip_n h') <;> first | omega | ((simp (disch := first | omega | exact Nat.lt_trans (ht _ (by omega)) (by omega)) only [lit, n_eq]) <;> omega))); skip)
    | ((with_reducible apply X_if); focus (first | (with_reducible exact rfl) | (with_reducible exact n00) | ((simp (disch := omega) only [lit, n_eq]) <;> omega)); skip)
    | ((with_reducible apply X_nif); focus (first | exact n10 | ((with_reducible apply p_cnt h') <;> omega) | ((simp (disch := first | omega | exact Nat.lt_trans (ht _ (by omega)) (by omega)) only [lit, n_eq]) <;> omega)); skip)
    | ((with_reducible apply X_T); focus (first | ((with_reducible apply p_take_y h') <;> first | omega | ((simp (disch := omega) only [lit, n_eq]) <;> omega)) | ((with_reducible apply p_limit_y h' rfl) <;> omega)); skip)
    | ((with_reducible apply X_Tt); focus (first | ((with_reducible apply p_take_n h') <;> first | omega | ((simp (disch := first | omega | exact Nat.lt_trans (ht _ (by omega)) (by omega)) only [lit, n_eq]) <;> omega)) | ((with_reducible apply p_limit_n h' rfl) <;> omega)); skip))
              refine X_T w4 ?_
              repeat (first
    | ((with_reducible apply X_bndE); focus (first | ((with_reducible apply pz_pp h') <;> omega) | ((with_reducible apply pz_kk h') <;> omega) | (with_reducible exact pz_14)); skip)
    | with_reducible refine X_bnd ?_
    | ((with_reducible apply X_chk); focus (first | exact a1 | exact a2 | exact a3 | exact a4 | exact a5 | ((with_reducible apply pz_i1 h') <;> omega) | ((with_reducible apply pz_i2 h') <;> omega)); skip)
    | ((with_reducible apply X_rfO); focus (first | exact c1 | exact c2 | exact c5); skip)
    | ((with_reducible apply X_I); focus (first | ((with_reducible apply p_kaC h') <;> omega) | ((with_reducible apply p_paC h') <;> omega) | ((with_reducible apply p_skip_y h') <;> first | omega | ((simp (disch := omega) only [lit, n_eq]) <;> omega)) | ((with_reducible apply p_skip_n h') <;> first | omega | ((simp (disch := first | omega | exact Nat.lt_trans (ht _ (by omega)) (by omega)) only [lit, n_eq]) <;> omega))); skip)
    | ((with_reducible apply X_if); focus (first | (with_reducible exact rfl) | (with_reducible exact n00) | ((simp (disch := omega) only [lit, n_eq]) <;> omega)); skip)
    | ((with_reducible apply X_nif); focus (first | exact n10 | ((with_reducible apply p_cnt h') <;> omega) | ((simp (disch := first | omega | exact Nat.lt_trans (ht _ (by omega)) (by omega)) only [lit, n_eq]) <;> omega)); skip)
    | ((with_reducible apply X_T); focus (first | ((with_reducible apply p_take_y h') <;> first | omega | ((simp (disch := omega) only [lit, n_eq]) <;> omega)) | ((with_reducible apply p_limit_y h' rfl) <;> omega)); skip)
    | ((with_reducible apply X_Tt); focus (first | ((with_reducible apply p_take_n h') <;> first | omega | ((simp (disch := first | omega | exact Nat.lt_trans (ht _ (by omega)) (by omega)) only [lit, n_eq]) <;> omega)) | ((with_reducible apply p_limit_n h' rfl) <;> omega)); skip))
              rfl
            · unfold f_RM_factor
              repeat (first
    | with_reducible refine M_VI ?_
    | with_reducible refine M_VV ?_
    | with_reducible refine M_Vif ?_
    | with_reducible refine M_Vs ?_
    | with_reducible refine M_II ?_
    | with_reducible refine M_IV ?_
    | with_reducible refine M_Iif ?_
    | with_reducible refine M_Is ?_
    | with_reducible refine M_Ichk ?_
    | ((with_reducible apply BM_bndE); focus (first | ((with_reducible apply r_p R hn) <;> first | omega | assumption)); skip)
    | with_reducible refine BM_bnd ?_
    | ((with_reducible apply BM_chk); focus (((with_reducible apply r_i hn)) <;> omega); skip)
    | ((with_reducible apply BM_I); focus (first | ((with_reducible apply r_look R hn) <;> first | omega | assumption) | (with_reducible exact q_look1) | ((with_reducible apply r_draft) <;> first | omega | exact rfl | exact r_p R hn (by omega) (by assumption)) | ((with_reducible apply r_db) <;> omega) | ((with_reducible apply r_nb) <;> omega) | ((with_reducible apply r_nameb) <;> omega) | ((with_reducible apply r_name_y R hn) <;> first | omega | assumption) | ((with_reducible apply r_name_n R hn) <;> first | omega | assumption | exact ht _ (by omega))); skip)
    | ((with_reducible apply BM_V); focus (first | ((with_reducible apply r_take_y R hn) <;> first | omega | assumption | first | exact rfl | (with_reducible exact n00) | exact kp_y (by assumption) (by decide)) | ((with_reducible apply r_take_n R hn) <;> first | omega | assumption | first | exact n10 | ((simp (disch := first | assumption | omega | exact ht _ (by omega)) only [lit, n_eq, n_le, kp_0, kp_1, kp_2, kp_3, kp_4, kp_5, kp_6, kp_7, kp_8, kp_9, kp_10, kp_11, kp_12, kp_13, kp_14, kp_15, kp_16, kp_17, kp_18, kp_19, kp_20, kp_21, kp_22, kp_23, kp_24, kp_25, kp_26, kp_27, kp_28, kp_29, kp_30, kp_31, kp_32, kp_33, kp_34]) <;> omega)) | (with_reducible exact q_takeb) | ((with_reducible apply q_deep_y rfl) <;> omega) | ((with_reducible apply q_deep_n R rfl) <;> first | omega | assumption) | ((with_reducible apply q_deepb' rfl) <;> omega) | (with_reducible exact q_needb) | (with_reducible exact r_need1) | ((with_reducible apply r_need0 R hn) <;> first | omega | assumption)); skip)
    | ((with_reducible apply BM_if); focus (first | exact rfl | (with_reducible exact n00) | exact kp_y (by assumption) (by decide)); skip)
    | ((with_reducible apply BM_nif); focus (first | exact n10 | ((simp (disch := first | assumption | omega | exact ht _ (by omega)) only [lit, n_eq, n_le, kp_0, kp_1, kp_2, kp_3, kp_4, kp_5, kp_6, kp_7, kp_8, kp_9, kp_10, kp_11, kp_12, kp_13, kp_14, kp_15, kp_16, kp_17, kp_18, kp_19, kp_20, kp_21, kp_22, kp_23, kp_24, kp_25, kp_26, kp_27, kp_28, kp_29, kp_30, kp_31, kp_32, kp_33, kp_34]) <;> omega)); skip)
    | (with_reducible refine bm_jn ?_ rfl)
    | ((with_reducible apply bm_join); (focus (first | assumption | exact BI_new (by assumption) | exact BI_new (BI_new (by assumption)) | exact BI_new (BI_new (BI_new (by assumption))))); (focus omega); (focus omega); (focus (first | assumption | exact Or.inr ⟨_, by omega, rfl⟩)); intro _ _)
    | exact ⟨_, _, _, (by with_reducible rfl), by omega, by omega, (by first | assumption | exact BI_new (by assumption) | exact BI_new (BI_new (by assumption)) | exact BI_new (BI_new (BI_new (by assumption)))), (by first | exact Or.inl rfl | assumption | exact Or.inr ⟨_, by omega, rfl⟩)⟩)
              refine BM_I z5 ?_
              refine BM_V (hj1 _) ?_
              repeat (first
    | with_reducible refine M_VI ?_
    | with_reducible refine M_VV ?_
    | with_reducible refine M_Vif ?_
    | with_reducible refine M_Vs ?_
    | with_reducible refine M_II ?_
    | with_reducible refine M_IV ?_
    | with_reducible refine M_Iif ?_
    | with_reducible refine M_Is ?_
    | with_reducible refine M_Ichk ?_
    | ((with_reducible apply BM_bndE); focus (first | ((with_reducible apply r_p R hn) <;> first | omega | assumption)); skip)
    | with_reducible refine BM_bnd ?_
    | ((with_reducible apply BM_chk); focus (((with_reducible apply r_i hn)) <;> omega); skip)
    | ((with_reducible apply BM_I); focus (first | ((with_reducible apply r_look R hn) <;> first | omega | assumption) | (with_reducible exact q_look1) | ((with_reducible apply r_draft) <;> first | omega | exact rfl | exact r_p R hn (by omega) (by assumption)) | ((with_reducible apply r_db) <;> omega) | ((with_reducible apply r_nb) <;> omega) | ((with_reducible apply r_nameb) <;> omega) | ((with_reducible apply r_name_y R hn) <;> first | omega | assumption) | ((with_reducible apply r_name_n R hn) <;> first | omega | assumption | exact ht _ (by omega))); skip)
    | ((with_reducible apply BM_V); focus (first | ((with_reducible apply r_take_y R hn) <;> first | omega | assumption | first | exact rfl | (with_reducible exact n00) | exact kp_y (by assumption) (by decide)) | ((with_reducible apply r_take_n R hn) <;> first | omega | assumption | first | exact n10 | ((simp (disch := first | assumption | omega | exact ht _ (by omega)) only [lit, n_eq, n_le, kp_0, kp_1, kp_2, kp_3, kp_4, kp_5, kp_6, kp_7, kp_8, kp_9, kp_10, kp_11, kp_12, kp_13, kp_14, kp_15, kp_16, kp_17, kp_18, kp_19, kp_20, kp_21, kp_22, kp_23, kp_24, kp_25, kp_26, kp_27, kp_28, kp_29, kp_30, kp_31, kp_32, kp_33, kp_34]) <;> omega)) | (with_reducible exact q_takeb) | ((with_reducible apply q_deep_y rfl) <;> omega) | ((with_reducible apply q_deep_n R rfl) <;> first | omega | assumption) | ((with_reducible apply q_deepb' rfl) <;> omega) | (with_reducible exact q_needb) | (with_reducible exact r_need1) | ((with_reducible apply r_need0 R hn) <;> first | omega | assumption)); skip)
    | ((with_reducible apply BM_if); focus (first | exact rfl | (with_reducible exact n00) | exact kp_y (by assumption) (by decide)); skip)
    | ((with_reducible apply BM_nif); focus (first | exact n10 | ((simp (disch := first | assumption | omega | exact ht _ (by omega)) only [lit, n_eq, n_le, kp_0, kp_1, kp_2, kp_3, kp_4, kp_5, kp_6, kp_7, kp_8, kp_9, kp_10, kp_11, kp_12, kp_13, kp_14, kp_15, kp_16, kp_17, kp_18, kp_19, kp_20, kp_21, kp_22, kp_23, kp_24, kp_25, kp_26, kp_27, kp_28, kp_29, kp_30, kp_31, kp_32, kp_33, kp_34]) <;> omega)); skip)
    | (with_reducible refine bm_jn ?_ rfl)
    | ((with_reducible apply bm_join); (focus (first | assumption | exact BI_new (by assumption) | exact BI_new (BI_new (by assumption)) | exact BI_new (BI_new (BI_new (by assumption))))); (focus omega); (focus omega); (focus (first | assumption | exact Or.inr ⟨_, by omega, rfl⟩)); intro _ _)
    | exact ⟨_, _, _, (by with_reducible rfl), by omega, by omega, (by first | assumption | exact BI_new (by assumption) | exact BI_new (BI_new (by assumption)) | exact BI_new (BI_new (BI_new (by assumption)))), (by first | exact Or.inl rfl | assumption | exact Or.inr ⟨_, by omega, rfl⟩)⟩)
              refine BM_I w5 ?_
              refine BM_V (hj2 _) ?_
              have hBI := hb4.2.2.2
              repeat (first
    | with_reducible refine M_VI ?_
    | with_reducible refine M_VV ?_
    | with_reducible refine M_Vif ?_
    | with_reducible refine M_Vs ?_
    | with_reducible refine M_II ?_
    | with_reducible refine M_IV ?_
    | with_reducible refine M_Iif ?_
    | with_reducible refine M_Is ?_
    | with_reducible refine M_Ichk ?_
    | ((with_reducible apply BM_bndE); focus (first | ((with_reducible apply r_p R hn) <;> first | omega | assumption)); skip)
    | with_reducible refine BM_bnd ?_
    | ((with_reducible apply BM_chk); focus (((with_reducible apply r_i hn)) <;> omega); skip)
    | ((with_reducible apply BM_I); focus (first | ((with_reducible apply r_look R hn) <;> first | omega | assumption) | (with_reducible exact q_look1) | ((with_reducible apply r_draft) <;> first | omega | exact rfl | exact r_p R hn (by omega) (by assumption)) | ((with_reducible apply r_db) <;> omega) | ((with_reducible apply r_nb) <;> omega) | ((with_reducible apply r_nameb) <;> omega) | ((with_reducible apply r_name_y R hn) <;> first | omega | assumption) | ((with_reducible apply r_name_n R hn) <;> first | omega | assumption | exact ht _ (by omega))); skip)
    | ((with_reducible apply BM_V); focus (first | ((with_reducible apply r_take_y R hn) <;> first | omega | assumption | first | exact rfl | (with_reducible exact n00) | exact kp_y (by assumption) (by decide)) | ((with_reducible apply r_take_n R hn) <;> first | omega | assumption | first | exact n10 | ((simp (disch := first | assumption | omega | exact ht _ (by omega)) only [lit, n_eq, n_le, kp_0, kp_1, kp_2, kp_3, kp_4, kp_5, kp_6, kp_7, kp_8, kp_9, kp_10, kp_11, kp_12, kp_13, kp_14, kp_15, kp_16, kp_17, kp_18, kp_19, kp_20, kp_21, kp_22, kp_23, kp_24, kp_25, kp_26, kp_27, kp_28, kp_29, kp_30, kp_31, kp_32, kp_33, kp_34]) <;> omega)) | (with_reducible exact q_takeb) | ((with_reducible apply q_deep_y rfl) <;> omega) | ((with_reducible apply q_deep_n R rfl) <;> first | omega | assumption) | ((with_reducible apply q_deepb' rfl) <;> omega) | (with_reducible exact q_needb) | (with_reducible exact r_need1) | ((with_reducible apply r_need0 R hn) <;> first | omega | assumption)); skip)
    | ((with_reducible apply BM_if); focus (first | exact rfl | (with_reducible exact n00) | exact kp_y (by assumption) (by decide)); skip)
    | ((with_reducible apply BM_nif); focus (first | exact n10 | ((simp (disch := first | assumption | omega | exact ht _ (by omega)) only [lit, n_eq, n_le, kp_0, kp_1, kp_2, kp_3, kp_4, kp_5, kp_6, kp_7, kp_8, kp_9, kp_10, kp_11, kp_12, kp_13, kp_14, kp_15, kp_16, kp_17, kp_18, kp_19, kp_20, kp_21, kp_22, kp_23, kp_24, kp_25, kp_26, kp_27, kp_28, kp_29, kp_30, kp_31, kp_32, kp_33, kp_34]) <;> omega)); skip)
    | (with_reducible refine bm_jn ?_ rfl)
    | ((with_reducible apply bm_join); (focus (first | assumption | exact BI_new (by assumption) | exact BI_new (BI_new (by assumption)) | exact BI_new (BI_new (BI_new (by assumption))))); (focus omega); (focus omega); (focus (first | assumption | exact Or.inr ⟨_, by omega, rfl⟩)); intro _ _)
    | exact ⟨_, _, _, (by with_reducible rfl), by omega, by omega, (by first | assumption | exact BI_new (by assumption) | exact BI_new (BI_new (by assumption)) | exact BI_new (BI_new (BI_new (by assumption)))), (by first | exact Or.inl rfl | assumption | exact Or.inr ⟨_, by omega, rfl⟩)⟩)
        · refine Out_b (q := qb) (x := post (one (dr + 1) 12 (tp (q + 1 + 1)) va .leaf)) ?_ rfl ?_ w2 w3
          · unfold f_PA_factor
            repeat (first
    | ((with_reducible apply X_bndE); focus (first | ((with_reducible apply pz_pp h') <;> omega) | ((with_reducible apply pz_kk h') <;> omega) | (with_reducible exact pz_14)); skip)
    | with_reducible refine X_bnd ?_
    | ((with_reducible apply X_chk); focus (first | exact a1 | exact a2 | exact a3 | exact a4 | exact a5 | ((with_reducible apply pz_i1 h') <;> omega) | ((with_reducible apply pz_i2 h') <;> omega)); skip)
    | ((with_reducible apply X_rfO); focus (first | exact c1 | exact c2 | exact c5); skip)
    | ((with_reducible apply X_I); focus (first | ((with_reducible apply p_kaC h') <;> omega) | ((with_reducible apply p_paC h') <;> omega) | ((with_reducible apply p_skip_y h') <;> first | omega | ((simp (disch := omega) only [lit, n_eq]) <;> omega)) | ((with_reducible apply p_skip_n h') <;> first | omega | ((simp (disch := first | omega | exact Nat.lt_trans (ht _ (by omega)) (by omega)) only [lit, n_eq]) <;> omega))); skip)
    | ((with_reducible apply X_if); focus (first | (with_reducible exact rfl) | (with_reducible exact n00) | ((simp (disch := omega) only [lit, n_eq]) <;> omega)); skip)
    | ((with_reducible apply X_nif); focus (first | exact n10 | ((with_reducible apply p_cnt h') <;> omega) | ((simp (disch := first | omega | exact Nat.lt_trans (ht _ (by omega)) (by omega)) only [lit, n_eq]) <;> omega)); skip)
    | ((with_reducible apply X_T); focus (first | ((with_reducible apply p_take_y h') <;> first | omega | ((simp (disch := omega) only [lit, n_eq]) <;> omega)) | ((with_reducible apply p_limit_y h' rfl) <;> omega)); skip)
    | ((with_reducible apply X_Tt); focus (first | ((with_reducible apply p_take_n h') <;> first | omega | ((simp (disch := first | omega | exact Nat.lt_trans (ht _ (by omega)) (by omega)) only [lit, n_eq]) <;> omega)) | ((with_reducible apply p_limit_n h' rfl) <;> omega)); skip))
            refine X_T z4 ?_
            repeat (first
    | ((with_reducible apply X_bndE); focus (first | ((with_reducible apply pz_pp h') <;> omega) | ((with_reducible apply pz_kk h') <;> omega) | (with_reducible exact pz_14)); skip)
    | with_reducible refine X_bnd ?_
    | ((with_reducible apply X_chk); focus (first | exact a1 | exact a2 | exact a3 | exact a4 | exact a5 | ((with_reducible apply pz_i1 h') <;> omega) | ((with_reducible apply pz_i2 h') <;> omega)); skip)
    | ((with_reducible apply X_rfO); focus (first | exact c1 | exact c2 | exact c5); skip)
    | ((with_reducible apply X_I); focus (first | ((with_reducible apply p_kaC h') <;> omega) | ((with_reducible apply p_paC h') <;> omega) | ((with_reducible apply p_skip_y h') <;> first | omega | ((simp (disch := omega) only [lit, n_eq]) <;> omega)) | ((with_reducible apply p_skip_n h') <;> first | omega | ((simp (disch := first | omega | exact Nat.lt_trans (ht _ (by omega)) (by omega)) only [lit, n_eq]) <;> omega))); skip)
    | ((with_reducible apply X_if); focus (first | (with_reducible exact rfl) | (with_reducible exact n00) | ((simp (disch := omega) only [lit, n_eq]) <;> omega)); skip)
    | ((with_reducible apply X_nif); focus (first | exact n10 | ((with_reducible apply p_cnt h') <;> omega) | ((simp (disch := first | omega | exact Nat.lt_trans (ht _ (by omega)) (by omega)) only [lit, n_eq]) <;> omega)); skip)
    | ((with_reducible apply X_T); focus (first | ((with_reducible apply p_take_y h') <;> first | omega | ((simp (disch := omega) only [lit, n_eq]) <;> omega)) | ((with_reducible apply p_limit_y h' rfl) <;> omega)); skip)
    | ((with_reducible apply X_Tt); focus (first | ((with_reducible apply p_take_n h') <;> first | omega | ((simp (disch := first | omega | exact Nat.lt_trans (ht _ (by omega)) (by omega)) only [lit, n_eq]) <;> omega)) | ((with_reducible apply p_limit_n h' rfl) <;> omega)); skip))
            exact X_Tt w4 rfl
          · unfold f_RM_factor
            repeat (first
    | with_reducible refine M_VI ?_
    | with_reducible refine M_VV ?_
    | with_reducible refine M_Vif ?_
    | with_reducible refine M_Vs ?_
    | with_reducible refine M_II ?_
    | with_reducible refine M_IV ?_
    | with_reducible refine M_Iif ?_
    | with_reducible refine M_Is ?_
    | with_reducible refine M_Ichk ?_
    | ((with_reducible apply BM_bndE); focus (first | ((with_reducible apply r_p R hn) <;> first | omega | assumption)); skip)
    | with_reducible refine BM_bnd ?_
    | ((with_reducible apply BM_chk); focus (((with_reducible apply r_i hn)) <;> omega); skip)
    | ((with_reducible apply BM_I); focus (first | ((with_reducible apply r_look R hn) <;> first | omega | assumption) | (with_reducible exact q_look1) | ((with_reducible apply r_draft) <;> first | omega | exact rfl | exact r_p R hn (by omega) (by assumption)) | ((with_reducible apply r_db) <;> omega) | ((with_reducible apply r_nb) <;> omega) | ((with_reducible apply r_nameb) <;> omega) | ((with_reducible apply r_name_y R hn) <;> first | omega | assumption) | ((with_reducible apply r_name_n R hn) <;> first | omega | assumption | exact ht _ (by omega))); skip)
    | ((with_reducible apply BM_V); focus (first | ((with_reducible apply r_take_y R hn) <;> first | omega | assumption | first | exact rfl | (with_reducible exact n00) | exact kp_y (by assumption) (by decide)) | ((with_reducible apply r_take_n R hn) <;> first | omega | assumption | first | exact n10 | ((simp (disch := first | assumption | omega | exact ht _ (by omega)) only [lit, n_eq, n_le, kp_0, kp_1, kp_2, kp_3, kp_4, kp_5, kp_6, kp_7, kp_8, kp_9, kp_10, kp_11, kp_12, kp_13, kp_14, kp_15, kp_16, kp_17, kp_18, kp_19, kp_20, kp_21, kp_22, kp_23, kp_24, kp_25, kp_26, kp_27, kp_28, kp_29, kp_30, kp_31, kp_32, kp_33, kp_34]) <;> omega)) | (with_reducible exact q_takeb) | ((with_reducible apply q_deep_y rfl) <;> omega) | ((with_reducible apply q_deep_n R rfl) <;> first | omega | assumption) | ((with_reducible apply q_deepb' rfl) <;> omega) | (with_reducible exact q_needb) | (with_reducible exact r_need1) | ((with_reducible apply r_need0 R hn) <;> first | omega | assumption)); skip)
    | ((with_reducible apply BM_if); focus (first | exact rfl | (with_reducible exact n00) | exact kp_y (by assumption) (by decide)); skip)
    | ((with_reducible apply BM_nif); focus (first | exact n10 | ((simp (disch := first | assumption | omega | exact ht _ (by omega)) only [lit, n_eq, n_le, kp_0, kp_1, kp_2, kp_3, kp_4, kp_5, kp_6, kp_7, kp_8, kp_9, kp_10, kp_11, kp_12, kp_13, kp_14, kp_15, kp_16, kp_17, kp_18, kp_19, kp_20, kp_21, kp_22, kp_23, kp_24, kp_25, kp_26, kp_27, kp_28, kp_29, kp_30, kp_31, kp_32, kp_33, kp_34]) <;> omega)); skip)
    | (with_reducible refine bm_jn ?_ rfl)
    | ((with_reducible apply bm_join); (focus (first | assumption | exact BI_new (by assumption) | exact BI_new (BI_new (by assumption)) | exact BI_new (BI_new (BI_new (by assumption))))); (focus omega); (focus omega); (focus (first | assumption | exact Or.inr ⟨_, by omega, rfl⟩)); intro _ _)
    | exact ⟨_, _, _, (by with_reducible rfl), by omega, by omega, (by first | assumption | exact BI_new (by assumption) | exact BI_new (BI_new (by assumption)) | exact BI_new (BI_new (BI_new (by assumption)))), (by first | exact Or.inl rfl | assumption | exact Or.inr ⟨_, by omega, rfl⟩)⟩)
            refine BM_I z5 ?_
            refine BM_V (hj1 _) ?_
            repeat (first
    | with_reducible refine M_VI ?_
    | with_reducible refine M_VV ?_
    | with_reducible refine M_Vif ?_
    | with_reducible refine M_Vs ?_
    | with_reducible refine M_II ?_
    | with_reducible refine M_IV ?_
    | with_reducible refine M_Iif ?_
    | with_reducible refine M_Is ?_
    | with_reducible refine M_Ichk ?_
    | ((with_reducible apply BM_bndE); focus (first | ((with_reducible apply r_p R hn) <;> first | omega | assumption)); skip)
    | with_reducible refine BM_bnd ?_
    | ((with_reducible apply BM_chk); focus (((with_reducible apply r_i hn)) <;> omega); skip)
    | ((with_reducible apply BM_I); focus (first | ((with_reducible apply r_look R hn) <;> first | omega | assumption) | (with_reducible exact q_look1) | ((with_reducible apply r_draft) <;> first | omega | exact rfl | exact r_p R hn (by omega) (by assumption)) | ((with_reducible apply r_db) <;> omega) | ((with_reducible apply r_nb) <;> omega) | ((with_reducible apply r_nameb) <;> omega) | ((with_reducible apply r_name_y R hn) <;> first | omega | assumption) | ((with_reducible apply r_name_n R hn) <;> first | omega | assumption | exact ht _ (by omega))); skip)
    | ((with_reducible apply BM_V); focus (first | ((with_reducible apply r_take_y R hn) <;> first | omega | assumption | first | exact rfl | (with_reducible exact n00) | exact kp_y (by assumption) (by decide)) | ((with_reducible apply r_take_n R hn) <;> first | omega | assumption | first | exact n10 | ((simp (disch := first | assumption | omega | exact ht _ (by omega)) only [lit, n_eq, n_le, kp_0, kp_1, kp_2, kp_3, kp_4, kp_5, kp_6, kp_7, kp_8, kp_9, kp_10, kp_11, kp_12, kp_13, kp_14, kp_15, kp_16, kp_17, kp_18, kp_19, kp_20, kp_21, kp_22, kp_23, kp_24, kp_25, kp_26, kp_27, kp_28, kp_29, kp_30, kp_31, kp_32, kp_33, kp_34]) <;> omega)) | (with_reducible exact q_takeb) | ((with_reducible apply q_deep_y rfl) <;> omega) | ((with_reducible apply q_deep_n R rfl) <;> first | omega | assumption) | ((with_reducible apply q_deepb' rfl) <;> omega) | (with_reducible exact q_needb) | (with_reducible exact r_need1) | ((with_reducible apply r_need0 R hn) <;> first | omega | assumption)); skip)
    | ((with_reducible apply BM_if); focus (first | exact rfl | (with_reducible exact n00) | exact kp_y (by assumption) (by decide)); skip)
    | ((with_reducible apply BM_nif); focus (first | exact n10 | ((simp (disch := first | assumption | omega | exact ht _ (by omega)) only [lit, n_eq, n_le, kp_0, kp_1, kp_2, kp_3, kp_4, kp_5, kp_6, kp_7, kp_8, kp_9, kp_10, kp_11, kp_12, kp_13, kp_14, kp_15, kp_16, kp_17, kp_18, kp_19, kp_20, kp_21, kp_22, kp_23, kp_24, kp_25, kp_26, kp_27, kp_28, kp_29, kp_30, kp_31, kp_32, kp_33, kp_34]) <;> omega)); skip)
    | (with_reducible refine bm_jn ?_ rfl)
    | ((with_reducible apply bm_join); (focus (first | assumption | exact BI_new (by assumption) | exact BI_new (BI_new (by assumption)) | exact BI_new (BI_new (BI_new (by assumption))))); (focus omega); (focus omega); (focus (first | assumption | exact Or.inr ⟨_, by omega, rfl⟩)); intro _ _)
    | exact ⟨_, _, _, (by with_reducible rfl), by omega, by omega, (by first | assumption | exact BI_new (by assumption) | exact BI_new (BI_new (by assumption)) | exact BI_new (BI_new (BI_new (by assumption)))), (by first | exact Or.inl rfl | assumption | exact Or.inr ⟨_, by omega, rfl⟩)⟩)
            refine BM_I w5 ?_
            have hBI := hb2.2.2.2
            repeat (first
    | with_reducible refine M_VI ?_
    | with_reducible refine M_VV ?_
    | with_reducible refine M_Vif ?_
    | with_reducible refine M_Vs ?_
    | with_reducible refine M_II ?_
    | with_reducible refine M_IV ?_
    | with_reducible refine M_Iif ?_
    | with_reducible refine M_Is ?_
    | with_reducible refine M_Ichk ?_
    | ((with_reducible apply BM_bndE); focus (first | ((with_reducible apply r_p R hn) <;> first | omega | assumption)); skip)
    | with_reducible refine BM_bnd ?_
    | ((with_reducible apply BM_chk); focus (((with_reducible apply r_i hn)) <;> omega); skip)
    | ((with_reducible apply BM_I); focus (first | ((with_reducible apply r_look R hn) <;> first | omega | assumption) | (with_reducible exact q_look1) | ((with_reducible apply r_draft) <;> first | omega | exact rfl | exact r_p R hn (by omega) (by assumption)) | ((with_reducible apply r_db) <;> omega) | ((with_reducible apply r_nb) <;> omega) | ((with_reducible apply r_nameb) <;> omega) | ((with_reducible apply r_name_y R hn) <;> first | omega | assumption) | ((with_reducible apply r_name_n R hn) <;> first | omega | assumption | exact ht _ (by omega))); skip)
    | ((with_reducible apply BM_V); focus (first | ((with_reducible apply r_take_y R hn) <;> first | omega | assumption | first | exact rfl | (with_reducible exact n00) | exact kp_y (by assumption) (by decide)) | ((with_reducible apply r_take_n R hn) <;> first | omega | assumption | first | exact n10 | ((simp (disch := first | assumption | omega | exact ht _ (by omega)) only [lit, n_eq, n_le, kp_0, kp_1, kp_2, kp_3, kp_4, kp_5, kp_6, kp_7, kp_8, kp_9, kp_10, kp_11, kp_12, kp_13, kp_14, kp_15, kp_16, kp_17, kp_18, kp_19, kp_20, kp_21, kp_22, kp_23, kp_24, kp_25, kp_26, kp_27, kp_28, kp_29, kp_30, kp_31, kp_32, kp_33, kp_34]) <;> omega)) | (with_reducible exact q_takeb) | ((with_reducible apply q_deep_y rfl) <;> omega) | ((with_reducible apply q_deep_n R rfl) <;> first | omega | assumption) | ((with_reducible apply q_deepb' rfl) <;> omega) | (with_reducible exact q_needb) | (with_reducible exact r_need1) | ((with_reducible apply r_need0 R hn) <;> first | omega | assumption)); skip)
    | ((with_reducible apply BM_if); focus (first | exact rfl | (with_reducible exact n00) | exact kp_y (by assumption) (by decide)); skip)
    | ((with_reducible apply BM_nif); focus (first | exact n10 | ((simp (disch := first | assumption | omega | exact ht _ (by omega)) only [lit, n_eq, n_le, kp_0, kp_1, kp_2, kp_3, kp_4, kp_5, kp_6, kp_7, kp_8, kp_9, kp_10, kp_11, kp_12, kp_13, kp_14, kp_15, kp_16, kp_17, kp_18, kp_19, kp_20, kp_21, kp_22, kp_23, kp_24, kp_25, kp_26, kp_27, kp_28, kp_29, kp_30, kp_31, kp_32, kp_33, kp_34]) <;> omega)); skip)
    | (with_reducible refine bm_jn ?_ rfl)
    | ((with_reducible apply bm_join); (focus (first | assumption | exact BI_new (by assumption) | exact BI_new (BI_new (by assumption)) | exact BI_new (BI_new (BI_new (by assumption))))); (focus omega); (focus omega); (focus (first | assumption | exact Or.inr ⟨_, by omega, rfl⟩)); intro _ _)
    | exact ⟨_, _, _, (by with_reducible rfl), by omega, by omega, (by first | assumption | exact BI_new (by assumption) | exact BI_new (BI_new (by assumption)) | exact BI_new (BI_new (BI_new (by assumption)))), (by first | exact Or.inl rfl | assumption | exact Or.inr ⟨_, by omega, rfl⟩)⟩)
      · refine Out_b (q := qa) (x := post (one (dr + 1) 12 (tp (q + 1 + 1)) va .leaf)) ?_ rfl ?_ z2 z3
        · unfold f_PA_factor
          repeat (first
    | ((with_reducible apply X_bndE); focus (first | ((with_reducible apply pz_pp h') <;> omega) | ((with_reducible apply pz_kk h') <;> omega) | (with_reducible exact pz_14)); skip)
    | with_reducible refine X_bnd ?_
    | ((with_reducible apply X_chk); focus (first | exact a1 | exact a2 | exact a3 | exact a4 | exact a5 | ((with_reducible apply pz_i1 h') <;> omega) | ((with_reducible apply pz_i2 h') <;> omega)); skip)
    | ((with_reducible apply X_rfO); focus (first | exact c1 | exact c2 | exact c5); skip)
    | ((with_reducible apply X_I); focus (first | ((with_reducible apply p_kaC h') <;> omega) | ((with_reducible apply p_paC h') <;> omega) | ((with_reducible apply p_skip_y h') <;> first | omega | ((simp (disch := omega) only [lit, n_eq]) <;> omega)) | ((with_reducible apply p_skip_n h') <;> first | omega | ((simp (disch := first | omega | exact Nat.lt_trans (ht _ (by omega)) (by omega)) only [lit, n_eq]) <;> omega))); skip)
    | ((with_reducible apply X_if); focus (first | (with_reducible exact rfl) | (with_reducible exact n00) | ((simp (disch := omega) only [lit, n_eq]) <;> omega)); skip)
    | ((with_reducible apply X_nif); focus (first | exact n10 | ((with_reducible apply p_cnt h') <;> omega) | ((simp (disch := first | omega | exact Nat.lt_trans (ht _ (by omega)) (by omega)) only [lit, n_eq]) <;> omega)); skip)
    | ((with_reducible apply X_T); focus (first | ((with_reducible apply p_take_y h') <;> first | omega | ((simp (disch := omega) only [lit, n_eq]) <;> omega)) | ((with_reducible apply p_limit_y h' rfl) <;> omega)); skip)
    | ((with_reducible apply X_Tt); focus (first | ((with_reducible apply p_take_n h') <;> first | omega | ((simp (disch := first | omega | exact Nat.lt_trans (ht _ (by omega)) (by omega)) only [lit, n_eq]) <;> omega)) | ((with_reducible apply p_limit_n h' rfl) <;> omega)); skip))
          refine X_T z4 ?_
          repeat (first
    | ((with_reducible apply X_bndE); focus (first | ((with_reducible apply pz_pp h') <;> omega) | ((with_reducible apply pz_kk h') <;> omega) | (with_reducible exact pz_14)); skip)
    | with_reducible refine X_bnd ?_
    | ((with_reducible apply X_chk); focus (first | exact a1 | exact a2 | exact a3 | exact a4 | exact a5 | ((with_reducible apply pz_i1 h') <;> omega) | ((with_reducible apply pz_i2 h') <;> omega)); skip)
    | ((with_reducible apply X_rfO); focus (first | exact c1 | exact c2 | exact c5); skip)
    | ((with_reducible apply X_I); focus (first | ((with_reducible apply p_kaC h') <;> omega) | ((with_reducible apply p_paC h') <;> omega) | ((with_reducible apply p_skip_y h') <;> first | omega | ((simp (disch := omega) only [lit, n_eq]) <;> omega)) | ((with_reducible apply p_skip_n h') <;> first | omega | ((simp (disch := first | omega | exact Nat.lt_trans (ht _ (by omega)) (by omega)) only [lit, n_eq]) <;> omega))); skip)
    | ((with_reducible apply X_if); focus (first | (with_reducible exact rfl) | (with_reducible exact n00) | ((simp (disch := omega) only [lit, n_eq]) <;> omega)); skip)
    | ((with_reducible apply X_nif); focus (first | exact n10 | ((with_reducible apply p_cnt h') <;> omega) | ((simp (disch := first | omega | exact Nat.lt_trans (ht _ (by omega)) (by omega)) only [lit, n_eq]) <;> omega)); skip)
    | ((with_reducible apply X_T); focus (first | ((with_reducible apply p_take_y h') <;> first | omega | ((simp (disch := omega) only [lit, n_eq]) <;> omega)) | ((with_reducible apply p_limit_y h' rfl) <;> omega)); skip)
    | ((with_reducible apply X_Tt); focus (first | ((with_reducible apply p_take_n h') <;> first | omega | ((simp (disch := first | omega | exact Nat.lt_trans (ht _ (by omega)) (by omega)) only [lit, n_eq]) <;> omega)) | ((with_reducible apply p_limit_n h' rfl) <;> omega)); skip))
          rfl
        · unfold f_RM_factor
          repeat (first
    | with_reducible refine M_VI ?_
    | with_reducible refine M_VV ?_
    | with_reducible refine M_Vif ?_
    | with_reducible refine M_Vs ?_
    | with_reducible refine M_II ?_
    | with_reducible refine M_IV ?_
    | with_reducible refine M_Iif ?_
    | with_reducible refine M_Is ?_
    | with_reducible refine M_Ichk ?_
    | ((with_reducible apply BM_bndE); focus (first | ((with_reducible apply r_p R hn) <;> first | omega | assumption)); skip)
    | with_reducible refine BM_bnd ?_
    | ((with_reducible apply BM_chk); focus (((with_reducible apply r_i hn)) <;> omega); skip)
    | ((with_reducible apply BM_I); focus (first | ((with_reducible apply r_look R hn) <;> first | omega | assumption) | (with_reducible exact q_look1) | ((with_reducible apply r_draft) <;> first | omega | exact rfl | exact r_p R hn (by omega) (by assumption)) | ((with_reducible apply r_db) <;> omega) | ((with_reducible apply r_nb) <;> omega) | ((with_reducible apply r_nameb) <;> omega) | ((with_reducible apply r_name_y R hn) <;> first | omega | assumption) | ((with_reducible apply r_name_n R hn) <;> first | omega | assumption | exact ht _ (by omega))); skip)
    | ((with_reducible apply BM_V); focus (first | ((with_reducible apply r_take_y R hn) <;> first | omega | assumption | first | exact rfl | (with_reducible exact n00) | exact kp_y (by assumption) (by decide)) | ((with_reducible apply r_take_n R hn) <;> first | omega | assumption | first | exact n10 | ((simp (disch := first | assumption | omega | exact ht _ (by omega)) only [lit, n_eq, n_le, kp_0, kp_1, kp_2, kp_3, kp_4, kp_5, kp_6, kp_7, kp_8, kp_9, kp_10, kp_11, kp_12, kp_13, kp_14, kp_15, kp_16, kp_17, kp_18, kp_19, kp_20, kp_21, kp_22, kp_23, kp_24, kp_25, kp_26, kp_27, kp_28, kp_29, kp_30, kp_31, kp_32, kp_33, kp_34]) <;> omega)) | (with_reducible exact q_takeb) | ((with_reducible apply q_deep_y rfl) <;> omega) | ((with_reducible apply q_deep_n R rfl) <;> first | omega | assumption) | ((with_reducible apply q_deepb' rfl) <;> omega) | (with_reducible exact q_needb) | (with_reducible exact r_need1) | ((with_reducible apply r_need0 R hn) <;> first | omega | assumption)); skip)
    | ((with_reducible apply BM_if); focus (first | exact rfl | (with_reducible exact n00) | exact kp_y (by assumption) (by decide)); skip)
    | ((with_reducible apply BM_nif); focus (first | exact n10 | ((simp (disch := first | assumption | omega | exact ht _ (by omega)) only [lit, n_eq, n_le, kp_0, kp_1, kp_2, kp_3, kp_4, kp_5, kp_6, kp_7, kp_8, kp_9, kp_10, kp_11, kp_12, kp_13, kp_14, kp_15, kp_16, kp_17, kp_18, kp_19, kp_20, kp_21, kp_22, kp_23, kp_24, kp_25, kp_26, kp_27, kp_28, kp_29, kp_30, kp_31, kp_32, kp_33, kp_34]) <;> omega)); skip)
    | (with_reducible refine bm_jn ?_ rfl)
    | ((with_reducible apply bm_join); (focus (first | assumption | exact BI_new (by assumption) | exact BI_new (BI_new (by assumption)) | exact BI_new (BI_new (BI_new (by assumption))))); (focus omega); (focus omega); (focus (first | assumption | exact Or.inr ⟨_, by omega, rfl⟩)); intro _ _)
    | exact ⟨_, _, _, (by with_reducible rfl), by omega, by omega, (by first | assumption | exact BI_new (by assumption) | exact BI_new (BI_new (by assumption)) | exact BI_new (BI_new (BI_new (by assumption)))), (by first | exact Or.inl rfl | assumption | exact Or.inr ⟨_, by omega, rfl⟩)⟩)
          refine BM_I z5 ?_
          refine BM_V (hj1 _) ?_
          have hBI := hb2.2.2.2
          repeat (first
    | with_reducible refine M_VI ?_
    | with_reducible refine M_VV ?_
    | with_reducible refine M_Vif ?_
    | with_reducible refine M_Vs ?_
    | with_reducible refine M_II ?_
    | with_reducible refine M_IV ?_
    | with_reducible refine M_Iif ?_
    | with_reducible refine M_Is ?_
    | with_reducible refine M_Ichk ?_
    | ((with_reducible apply BM_bndE); focus (first | ((with_reducible apply r_p R hn) <;> first | omega | assumption)); skip)
    | with_reducible refine BM_bnd ?_
    | ((with_reducible apply BM_chk); focus (((with_reducible apply r_i hn)) <;> omega); skip)
    | ((with_reducible apply BM_I); focus (first | ((with_reducible apply r_look R hn) <;> first | omega | assumption) | (with_reducible exact q_look1) | ((with_reducible apply r_draft) <;> first | omega | exact rfl | exact r_p R hn (by omega) (by assumption)) | ((with_reducible apply r_db) <;> omega) | ((with_reducible apply r_nb) <;> omega) | ((with_reducible apply r_nameb) <;> omega) | ((with_reducible apply r_name_y R hn) <;> first | omega | assumption) | ((with_reducible apply r_name_n R hn) <;> first | omega | assumption | exact ht _ (by omega))); skip)
    | ((with_reducible apply BM_V); focus (first | ((with_reducible apply r_take_y R hn) <;> first | omega | assumption | first | exact rfl | (with_reducible exact n00) | exact kp_y (by assumption) (by decide)) | ((with_reducible apply r_take_n R hn) <;> first | omega | assumption | first | exact n10 | ((simp (disch := first | assumption | omega | exact ht _ (by omega)) only [lit, n_eq, n_le, kp_0, kp_1, kp_2, kp_3, kp_4, kp_5, kp_6, kp_7, kp_8, kp_9, kp_10, kp_11, kp_12, kp_13, kp_14, kp_15, kp_16, kp_17, kp_18, kp_19, kp_20, kp_21, kp_22, kp_23, kp_24, kp_25, kp_26, kp_27, kp_28, kp_29, kp_30, kp_31, kp_32, kp_33, kp_34]) <;> omega)) | (with_reducible exact q_takeb) | ((with_reducible apply q_deep_y rfl) <;> omega) | ((with_reducible apply q_deep_n R rfl) <;> first | omega | assumption) | ((with_reducible apply q_deepb' rfl) <;> omega) | (with_reducible exact q_needb) | (with_reducible exact r_need1) | ((with_reducible apply r_need0 R hn) <;> first | omega | assumption)); skip)
    | ((with_reducible apply BM_if); focus (first | exact rfl | (with_reducible exact n00) | exact kp_y (by assumption) (by decide)); skip)
    | ((with_reducible apply BM_nif); focus (first | exact n10 | ((simp (disch := first | assumption | omega | exact ht _ (by omega)) only [lit, n_eq, n_le, kp_0, kp_1, kp_2, kp_3, kp_4, kp_5, kp_6, kp_7, kp_8, kp_9, kp_10, kp_11, kp_12, kp_13, kp_14, kp_15, kp_16, kp_17, kp_18, kp_19, kp_20, kp_21, kp_22, kp_23, kp_24, kp_25, kp_26, kp_27, kp_28, kp_29, kp_30, kp_31, kp_32, kp_33, kp_34]) <;> omega)); skip)
    | (with_reducible refine bm_jn ?_ rfl)
    | ((with_reducible apply bm_join); (focus (first | assumption | exact BI_new (by assumption) | exact BI_new (BI_new (by assumption)) | exact BI_new (BI_new (BI_new (by assumption))))); (focus omega); (focus omega); (focus (first | assumption | exact Or.inr ⟨_, by omega, rfl⟩)); intro _ _)
    | exact ⟨_, _, _, (by with_reducible rfl), by omega, by omega, (by first | assumption | exact BI_new (by assumption) | exact BI_new (BI_new (by assumption)) | exact BI_new (BI_new (BI_new (by assumption)))), (by first | exact Or.inl rfl | assumption | exact Or.inr ⟨_, by omega, rfl⟩)⟩)
    · refine Out_b0 (q := qa) ?_ rfl ?_ z2 z3
      · unfold f_PA_factor
        repeat (first
    | ((with_reducible apply X_bndE); focus (first | ((with_reducible apply pz_pp h') <;> omega) | ((with_reducible apply pz_kk h') <;> omega) | (with_reducible exact pz_14)); skip)
    | with_reducible refine X_bnd ?_
    | ((with_reducible apply X_chk); focus (first | exact a1 | exact a2 | exact a3 | exact a4 | exact a5 | ((with_reducible apply pz_i1 h') <;> omega) | ((with_reducible apply pz_i2 h') <;> omega)); skip)
    | ((with_reducible apply X_rfO); focus (first | exact c1 | exact c2 | exact c5); skip)
    | ((with_reducible apply X_I); focus (first | ((with_reducible apply p_kaC h') <;> omega) | ((with_reducible apply p_paC h') <;> omega) | ((with_reducible apply p_skip_y h') <;> first | omega | ((simp (disch := omega) only [lit, n_eq]) <;> omega)) | ((with_reducible apply p_skip_n h') <;> first | omega | ((simp (disch := first | omega | exact Nat.lt_trans (ht _ (by omega)) (by omega)) only [lit, n_eq]) <;> omega))); skip)
    | ((with_reducible apply X_if); focus (first | (with_reducible exact rfl) | (with_reducible exact n00) | ((simp (disch := omega) only [lit, n_eq]) <;> omega)); skip)
    | ((with_reducible apply X_nif); focus (first | exact n10 | ((with_reducible apply p_cnt h') <;> omega) | ((simp (disch := first | omega | exact Nat.lt_trans (ht _ (by omega)) (by omega)) only [lit, n_eq]) <;> omega)); skip)
    | ((with_reducible apply X_T); focus (first | ((with_reducible apply p_take_y h') <;> first | omega | ((simp (disch := omega) only [lit, n_eq]) <;> omega)) | ((with_reducible apply p_limit_y h' rfl) <;> omega)); skip)
    | ((with_reducible apply X_Tt); focus (first | ((with_reducible apply p_take_n h') <;> first | omega | ((simp (disch := first | omega | exact Nat.lt_trans (ht _ (by omega)) (by omega)) only [lit, n_eq]) <;> omega)) | ((with_reducible apply p_limit_n h' rfl) <;> omega)); skip))
        exact X_Tt z4 rfl
      · unfold f_RM_factor
        repeat (first
    | with_reducible refine M_VI ?_
    | with_reducible refine M_VV ?_
    | with_reducible refine M_Vif ?_
    | with_reducible refine M_Vs ?_
    | with_reducible refine M_II ?_
    | with_reducible refine M_IV ?_
    | with_reducible refine M_Iif ?_
    | with_reducible refine M_Is ?_
    | with_reducible refine M_Ichk ?_
    | ((with_reducible apply BM_bndE); focus (first | ((with_reducible apply r_p R hn) <;> first | omega | assumption)); skip)
    | with_reducible refine BM_bnd ?_
    | ((with_reducible apply BM_chk); focus (((with_reducible apply r_i hn)) <;> omega); skip)
    | ((with_reducible apply BM_I); focus (first | ((with_reducible apply r_look R hn) <;> first | omega | assumption) | (with_reducible exact q_look1) | ((with_reducible apply r_draft) <;> first | omega | exact rfl | exact r_p R hn (by omega) (by assumption)) | ((with_reducible apply r_db) <;> omega) | ((with_reducible apply r_nb) <;> omega) | ((with_reducible apply r_nameb) <;> omega) | ((with_reducible apply r_name_y R hn) <;> first | omega | assumption) | ((with_reducible apply r_name_n R hn) <;> first | omega | assumption | exact ht _ (by omega))); skip)
    | ((with_reducible apply BM_V); focus (first | ((with_reducible apply r_take_y R hn) <;> first | omega | assumption | first | exact rfl | (with_reducible exact n00) | exact kp_y (by assumption) (by decide)) | ((with_reducible apply r_take_n R hn) <;> first | omega | assumption | first | exact n10 | ((simp (disch := first | assumption | omega | exact ht _ (by omega)) only [lit, n_eq, n_le, kp_0, kp_1, kp_2, kp_3, kp_4, kp_5, kp_6, kp_7, kp_8, kp_9, kp_10, kp_11, kp_12, kp_13, kp_14, kp_15, kp_16, kp_17, kp_18, kp_19, kp_20, kp_21, kp_22, kp_23, kp_24, kp_25, kp_26, kp_27, kp_28, kp_29, kp_30, kp_31, kp_32, kp_33, kp_34]) <;> omega)) | (with_reducible exact q_takeb) | ((with_reducible apply q_deep_y rfl) <;> omega) | ((with_reducible apply q_deep_n R rfl) <;> first | omega | assumption) | ((with_reducible apply q_deepb' rfl) <;> omega) | (with_reducible exact q_needb) | (with_reducible exact r_need1) | ((with_reducible apply r_need0 R hn) <;> first | omega | assumption)); skip)
    | ((with_reducible apply BM_if); focus (first | exact rfl | (with_reducible exact n00) | exact kp_y (by assumption) (by decide)); skip)
    | ((with_reducible apply BM_nif); focus (first | exact n10 | ((simp (disch := first | assumption | omega | exact ht _ (by omega)) only [lit, n_eq, n_le, kp_0, kp_1, kp_2, kp_3, kp_4, kp_5, kp_6, kp_7, kp_8, kp_9, kp_10, kp_11, kp_12, kp_13, kp_14, kp_15, kp_16, kp_17, kp_18, kp_19, kp_20, kp_21, kp_22, kp_23, kp_24, kp_25, kp_26, kp_27, kp_28, kp_29, kp_30, kp_31, kp_32, kp_33, kp_34]) <;> omega)); skip)
    | (with_reducible refine bm_jn ?_ rfl)
    | ((with_reducible apply bm_join); (focus (first | assumption | exact BI_new (by assumption) | exact BI_new (BI_new (by assumption)) | exact BI_new (BI_new (BI_new (by assumption))))); (focus omega); (focus omega); (focus (first | assumption | exact Or.inr ⟨_, by omega, rfl⟩)); intro _ _)
    | exact ⟨_, _, _, (by with_reducible rfl), by omega, by omega, (by first | assumption | exact BI_new (by assumption) | exact BI_new (BI_new (by assumption)) | exact BI_new (BI_new (BI_new (by assumption)))), (by first | exact Or.inl rfl | assumption | exact Or.inr ⟨_, by omega, rfl⟩)⟩)
        refine BM_I z5 ?_
        repeat (first
    | with_reducible refine M_VI ?_
    | with_reducible refine M_VV ?_
    | with_reducible refine M_Vif ?_
    | with_reducible refine M_Vs ?_
    | with_reducible refine M_II ?_
    | with_reducible refine M_IV ?_
    | with_reducible refine M_Iif ?_
    | with_reducible refine M_Is ?_
    | with_reducible refine M_Ichk ?_
    | ((with_reducible apply BM_bndE); focus (first | ((with_reducible apply r_p R hn) <;> first | omega | assumption)); skip)
    | with_reducible refine BM_bnd ?_
    | ((with_reducible apply BM_chk); focus (((with_reducible apply r_i hn)) <;> omega); skip)
    | ((with_reducible apply BM_I); focus (first | ((with_reducible apply r_look R hn) <;> first | omega | assumption) | (with_reducible exact q_look1) | ((with_reducible apply r_draft) <;> first | omega | exact rfl | exact r_p R hn (by omega) (by assumption)) | ((with_reducible apply r_db) <;> omega) | ((with_reducible apply r_nb) <;> omega) | ((with_reducible apply r_nameb) <;> omega) | ((with_reducible apply r_name_y R hn) <;> first | omega | assumption) | ((with_reducible apply r_name_n R hn) <;> first | omega | assumption | exact ht _ (by omega))); skip)
    | ((with_reducible apply BM_V); focus (first | ((with_reducible apply r_take_y R hn) <;> first | omega | assumption | first | exact rfl | (with_reducible exact n00) | exact kp_y (by assumption) (by decide)) | ((with_reducible apply r_take_n R hn) <;> first | omega | assumption | first | exact n10 | ((simp (disch := first | assumption | omega | exact ht _ (by omega)) only [lit, n_eq, n_le, kp_0, kp_1, kp_2, kp_3, kp_4, kp_5, kp_6, kp_7, kp_8, kp_9, kp_10, kp_11, kp_12, kp_13, kp_14, kp_15, kp_16, kp_17, kp_18, kp_19, kp_20, kp_21, kp_22, kp_23, kp_24, kp_25, kp_26, kp_27, kp_28, kp_29, kp_30, kp_31, kp_32, kp_33, kp_34]) <;> omega)) | (with_reducible exact q_takeb) | ((with_reducible apply q_deep_y rfl) <;> omega) | ((with_reducible apply q_deep_n R rfl) <;> first | omega | assumption) | ((with_reducible apply q_deepb' rfl) <;> omega) | (with_reducible exact q_needb) | (with_reducible exact r_need1) | ((with_reducible apply r_need0 R hn) <;> first | omega | assumption)); skip)
    | ((with_reducible apply BM_if); focus (first | exact rfl | (with_reducible exact n00) | exact kp_y (by assumption) (by decide)); skip)
    | ((with_reducible apply BM_nif); focus (first | exact n10 | ((simp (disch := first | assumption | omega | exact ht _ (by omega)) only [lit, n_eq, n_le, kp_0, kp_1, kp_2, kp_3, kp_4, kp_5, kp_6, kp_7, kp_8, kp_9, kp_10, kp_11, kp_12, kp_13, kp_14, kp_15, kp_16, kp_17, kp_18, kp_19, kp_20, kp_21, kp_22, kp_23, kp_24, kp_25, kp_26, kp_27, kp_28, kp_29, kp_30, kp_31, kp_32, kp_33, kp_34]) <;> omega)); skip)
    | (with_reducible refine bm_jn ?_ rfl)
    | ((with_reducible apply bm_join); (focus (first | assumption | exact BI_new (by assumption) | exact BI_new (BI_new (by assumption)) | exact BI_new (BI_new (BI_new (by assumption))))); (focus omega); (focus omega); (focus (first | assumption | exact Or.inr ⟨_, by omega, rfl⟩)); intro _ _)
    | exact ⟨_, _, _, (by with_reducible rfl), by omega, by omega, (by first | assumption | exact BI_new (by assumption) | exact BI_new (BI_new (by assumption)) | exact BI_new (BI_new (BI_new (by assumption)))), (by first | exact Or.inl rfl | assumption | exact Or.inr ⟨_, by omega, rfl⟩)⟩)
  · refine Out_y (q := q + 1) ?_ ?_ (New_of hb (by omega) q1 g1 (by omega) (by simp only [siz]; omega) ⟨by simp [okk, kls], by simp, ⟨hp, by simp [siz]⟩, trivial, trivial⟩ (by simp only [hgt]; omega))
    · unfold f_PA_factor
      repeat (first
    | ((with_reducible apply X_bndE); focus (first | ((with_reducible apply pz_pp h') <;> omega) | ((with_reducible apply pz_kk h') <;> omega) | (with_reducible exact pz_14)); skip)
    | with_reducible refine X_bnd ?_
    | ((with_reducible apply X_chk); focus (first | exact a1 | exact a2 | exact a3 | exact a4 | exact a5 | ((with_reducible apply pz_i1 h') <;> omega) | ((with_reducible apply pz_i2 h') <;> omega)); skip)
    | ((with_reducible apply X_rfO); focus (first | exact c1 | exact c2 | exact c5); skip)
    | ((with_reducible apply X_I); focus (first | ((with_reducible apply p_kaC h') <;> omega) | ((with_reducible apply p_paC h') <;> omega) | ((with_reducible apply p_skip_y h') <;> first | omega | ((simp (disch := omega) only [lit, n_eq]) <;> omega)) | ((with_reducible apply p_skip_n h') <;> first | omega | ((simp (disch := first | omega | exact Nat.lt_trans (ht _ (by omega)) (by omega)) only [lit, n_eq]) <;> omega))); skip)
    | ((with_reducible apply X_if); focus (first | (with_reducible exact rfl) | (with_reducible exact n00) | ((simp (disch := omega) only [lit, n_eq]) <;> omega)); skip)
    | ((with_reducible apply X_nif); focus (first | exact n10 | ((with_reducible apply p_cnt h') <;> omega) | ((simp (disch := first | omega | exact Nat.lt_trans (ht _ (by omega)) (by omega)) only [lit, n_eq]) <;> omega)); skip)
    | ((with_reducible apply X_T); focus (first | ((with_reducible apply p_take_y h') <;> first | omega | ((simp (disch := omega) only [lit, n_eq]) <;> omega)) | ((with_reducible apply p_limit_y h' rfl) <;> omega)); skip)
    | ((with_reducible apply X_Tt); focus (first | ((with_reducible apply p_take_n h') <;> first | omega | ((simp (disch := first | omega | exact Nat.lt_trans (ht _ (by omega)) (by omega)) only [lit, n_eq]) <;> omega)) | ((with_reducible apply p_limit_n h' rfl) <;> omega)); skip))
      unfold k_PA_factor_140
      repeat (first
    | ((with_reducible apply X_bndE); focus (first | ((with_reducible apply pz_pp h') <;> omega) | ((with_reducible apply pz_kk h') <;> omega) | (with_reducible exact pz_14)); skip)
    | with_reducible refine X_bnd ?_
    | ((with_reducible apply X_chk); focus (first | exact a1 | exact a2 | exact a3 | exact a4 | exact a5 | ((with_reducible apply pz_i1 h') <;> omega) | ((with_reducible apply pz_i2 h') <;> omega)); skip)
    | ((with_reducible apply X_rfO); focus (first | exact c1 | exact c2 | exact c5); skip)
    | ((with_reducible apply X_I); focus (first | ((with_reducible apply p_kaC h') <;> omega) | ((with_reducible apply p_paC h') <;> omega) | ((with_reducible apply p_skip_y h') <;> first | omega | ((simp (disch := omega) only [lit, n_eq]) <;> omega)) | ((with_reducible apply p_skip_n h') <;> first | omega | ((simp (disch := first | omega | exact Nat.lt_trans (ht _ (by omega)) (by omega)) only [lit, n_eq]) <;> omega))); skip)
    | ((with_reducible apply X_if); focus (first | (with_reducible exact rfl) | (with_reducible exact n00) | ((simp (disch := omega) only [lit, n_eq]) <;> omega)); skip)
    | ((with_reducible apply X_nif); focus (first | exact n10 | ((with_reducible apply p_cnt h') <;> omega) | ((simp (disch := first | omega | exact Nat.lt_trans (ht _ (by omega)) (by omega)) only [lit, n_eq]) <;> omega)); skip)
    | ((with_reducible apply X_T); focus (first | ((with_reducible apply p_take_y h') <;> first | omega | ((simp (disch := omega) only [lit, n_eq]) <;> omega)) | ((with_reducible apply p_limit_y h' rfl) <;> omega)); skip)
    | ((with_reducible apply X_Tt); focus (first | ((with_reducible apply p_take_n h') <;> first | omega | ((simp (disch := first | omega | exact Nat.lt_trans (ht _ (by omega)) (by omega)) only [lit, n_eq]) <;> omega)) | ((with_reducible apply p_limit_n h' rfl) <;> omega)); skip))
      exact X_V (p_fin0 h' (by omega) rfl dr) rfl
    · unfold f_RM_factor
      repeat (first
    | with_reducible refine A_VI ?_
    | with_reducible refine A_VV ?_
    | with_reducible refine A_Vif ?_
    | with_reducible refine A_Vs ?_
    | with_reducible refine A_II ?_
    | with_reducible refine A_IV ?_
    | with_reducible refine A_Iif ?_
    | with_reducible refine A_Is ?_
    | with_reducible refine A_Ichk ?_
    | ((with_reducible apply X_bndE); focus (first | ((with_reducible apply r_p R hn) <;> first | omega | assumption)); skip)
    | with_reducible refine X_bnd ?_
    | ((with_reducible apply X_chk); focus (((with_reducible apply r_i hn)) <;> omega); skip)
    | ((with_reducible apply X_I); focus (first | ((with_reducible apply r_look R hn) <;> first | omega | assumption) | (with_reducible exact q_look1) | ((with_reducible apply r_draft) <;> first | omega | exact rfl | exact r_p R hn (by omega) (by assumption)) | ((with_reducible apply r_name_y R hn) <;> first | omega | assumption)); skip)
    | ((with_reducible apply X_V); focus (first | ((with_reducible apply r_take_y R hn) <;> first | omega | assumption | first | exact rfl | (with_reducible exact n00) | exact kp_y (by assumption) (by decide)) | ((with_reducible apply r_take_n R hn) <;> first | omega | assumption | first | exact n10 | ((simp (disch := first | assumption | omega | exact ht _ (by omega)) only [lit, n_eq, n_le, kp_0, kp_1, kp_2, kp_3, kp_4, kp_5, kp_6, kp_7, kp_8, kp_9, kp_10, kp_11, kp_12, kp_13, kp_14, kp_15, kp_16, kp_17, kp_18, kp_19, kp_20, kp_21, kp_22, kp_23, kp_24, kp_25, kp_26, kp_27, kp_28, kp_29, kp_30, kp_31, kp_32, kp_33, kp_34]) <;> omega)) | (with_reducible exact q_takeb) | ((with_reducible apply q_deep_y rfl) <;> omega) | ((with_reducible apply q_deep_n R rfl) <;> first | omega | assumption) | (with_reducible exact q_needb) | (with_reducible exact r_need1) | ((with_reducible apply r_need0 R hn) <;> first | omega | assumption)); skip)
    | ((with_reducible apply X_if); focus (first | exact rfl | (with_reducible exact n00) | exact kp_y (by assumption) (by decide)); skip)
    | ((with_reducible apply X_nif); focus (first | exact n10 | ((simp (disch := first | assumption | omega | exact ht _ (by omega)) only [lit, n_eq, n_le, kp_0, kp_1, kp_2, kp_3, kp_4, kp_5, kp_6, kp_7, kp_8, kp_9, kp_10, kp_11, kp_12, kp_13, kp_14, kp_15, kp_16, kp_17, kp_18, kp_19, kp_20, kp_21, kp_22, kp_23, kp_24, kp_25, kp_26, kp_27, kp_28, kp_29, kp_30, kp_31, kp_32, kp_33, kp_34]) <;> omega)); skip))
      rfl
theorem fac_2 {d lim hm : Nat} {pf ps : Nat → Int32 → mh_H → Option (Bool × Int32 × mh_H)} {rf rs : Int32 → rm_S → Option (Int32 × rm_S)} (E : EN σ ap dd tt bk bp bv dk dp dv dz n room tk tp tv S N) (hS : Sim σ ap dd dk dp dv dz n tk tp S (d + 1) lim hm ps rs) (hF : d + 1 ≤ 60 → Sim σ ap dd dk dp dv dz n tk tp S (d + 1) lim hm pf rf) (hX : ¬ d + 1 ≤ 60 → ∀ q ds, pf ap (nI (d + 1)) (pz σ ap dd dk dp dv dz q ds) = some (true, 0, mh_new (pz σ ap dd dk dp dv dz q ds) 9)) (hl : 16010 ≤ lim ∧ lim < 25990 ∧ 1 ≤ hm) (hd : d ≤ 60) {flt : Int32} {q : Nat} {ds : List Ent} {dr : Nat} {B : Nat → Nat → Int32} (hI : Inp n tk q ds dr B) (t3 : ¬ tk q = 3) (t23 : ¬ tk q = 23) (t12 : ¬ tk q = 12) (t11 : ¬ tk q = 11) (t2 : tk q = 2) : Out σ ap dd dk dp dv dz n tk tp S flt q ds dr B (lim + 2) (hm + 1) (f_PA_factor N pf ps ap (nI d) (pz σ ap dd dk dp dv dz q ds)) (f_RM_factor N rs rf (nI d) (qz S q 0 flt dr B)) := by
  have hI' := hI
  obtain ⟨⟨i1, i2⟩, i3, i4, i5⟩ := hI
  obtain ⟨h, R, hn, hNN⟩ := E
  have h' := h
  obtain ⟨⟨a1, a2, a3⟩, ⟨a4, a5, a6, a7, a8, a9, a10⟩, ⟨c1, c2⟩, ⟨c4, c5, c6⟩, ⟨c7, c8, c9, c10⟩, -, ⟨e5, e6, e7⟩, e8, -, -, -, -, e9, e10, e11, e12, e13⟩ := h
  have ht : ∀ j, j < n → tk j < 35 := fun j hj => (e9 j hj).2.2.2
  have hb1 : ∀ j, j < n → j < hN σ bk := fun j hj => by omega
  have hb2 : ∀ j, j < n → j < hN σ bp := fun j hj => by omega
  have htq := ht q i1
  have hp := R_3 R i1 i2
  have hd1 : nI d + 1 = nI (d + 1) := n_add d 1
  have q1 := e13 q i1 (by omega)
  have g1 := gd_s i2 (by omega) (by omega)
  have hb := nb_new (k := 13) (p := tp q) (v := nI q) (show dr < 26000 by omega) i5
  have hw1 : wf n tk tp (one dr 13 (tp q) (nI q) .leaf) := s_first i1 i2 t2 hp _
  have hnC := p_name_y (N := N) (ds := ds) h' i1 (by omega) t2 dr
  have hnR := r_name_y (flt := flt) (dr := dr) (B := B) R hn i1 i2 t2 (by omega)
  by_cases u16 : tk (q + 1) = 16
  · have q2 := e13 (q + 1) q1 (by omega)
    have g2 := gd_s g1 (by omega) (by omega)
    have hb1 := nb_wrap (k := 14) (p := tp q) (v := 0) hb (by omega)
    have hj1 := fun q' => nb_wrapE (S := S) (N := N) (bad := 0) (flt := flt) (q := q') (k := 14) (p := tp q) (v := 0) hb (by omega)
    have hll : (ds ++ post (one dr 13 (tp q) (nI q) .leaf)).length = ds.length + 1 := by simp [post]
    rcases hS flt (q + 1 + 1) (ds ++ post (one dr 13 (tp q) (nI q) .leaf)) (dr + 1 + 1) _ ⟨⟨q2, g2⟩, by omega, by omega, hb1.2.2.2⟩ with ⟨q', i', k', p', v', c', dr', B', x1, x2, x3⟩ | ⟨q', y, x1, ⟨v, dr', B', x2, x3, x4, x5, x6⟩, x7, x8⟩
    · have hb' := nb_of x3
      obtain ⟨⟨y1, y2, y3⟩, -, -, -, y0, ⟨y4, y5, y6⟩, y7, y8⟩ := x3
      have hj2 := fun q => nb_joinE (S := S) (N := N) (bad := 0) (flt := flt) (q := q) hb1 hb'
      have hb2 := nb_join hb1 hb'
      by_cases u17 : tk q' = 17
      · have q3 := e13 q' y2 (by omega)
        have g3 := gd_s y3 (by omega) (by omega)
        refine Out_y (q := q' + 1) ?_ ?_ (New_of hb2 (by omega) q3 g3 (by omega) (by simp only [app, siz] at *; omega) ⟨by simp [okk, app, kls], by simp, ⟨hp, by simp only [app, siz] at *; omega⟩, wf_app hw1 y7, trivial⟩ (by simp only [app, hgt] at *; omega))
        · unfold f_PA_factor
          rw [hd1]
          repeat (first
    | ((with_reducible apply X_bndE); focus (first | ((with_reducible apply pz_pp h') <;> omega) | ((with_reducible apply pz_kk h') <;> omega) | (with_reducible exact pz_14)); skip)
    | with_reducible refine X_bnd ?_
    | ((with_reducible apply X_chk); focus (first | exact a1 | exact a2 | exact a3 | exact a4 | exact a5 | ((with_reducible apply pz_i1 h') <;> omega) | ((with_reducible apply pz_i2 h') <;> omega)); skip)
    | ((with_reducible apply X_rfO); focus (first | exact c1 | exact c2 | exact c5); skip)
    | ((with_reducible apply X_I); focus (first | ((with_reducible apply p_kaC h') <;> omega) | ((with_reducible apply p_paC h') <;> omega) | ((with_reducible apply p_skip_y h') <;> first | omega | ((simp (disch := omega) only [lit, n_eq]) <;> omega)) | ((with_reducible apply p_skip_n h') <;> first | omega | ((simp (disch := first | omega | exact Nat.lt_trans (ht _ (by omega)) (by omega)) only [lit, n_eq]) <;> omega))); skip)
    | ((with_reducible apply X_if); focus (first | (with_reducible exact rfl) | (with_reducible exact n00) | ((simp (disch := omega) only [lit, n_eq]) <;> omega)); skip)
    | ((with_reducible apply X_nif); focus (first | exact n10 | ((with_reducible apply p_cnt h') <;> omega) | ((simp (disch := first | omega | exact Nat.lt_trans (ht _ (by omega)) (by omega)) only [lit, n_eq]) <;> omega)); skip)
    | ((with_reducible apply X_T); focus (first | ((with_reducible apply p_take_y h') <;> first | omega | ((simp (disch := omega) only [lit, n_eq]) <;> omega)) | ((with_reducible apply p_limit_y h' rfl) <;> omega)); skip)
    | ((with_reducible apply X_Tt); focus (first | ((with_reducible apply p_take_n h') <;> first | omega | ((simp (disch := first | omega | exact Nat.lt_trans (ht _ (by omega)) (by omega)) only [lit, n_eq]) <;> omega)) | ((with_reducible apply p_limit_n h' rfl) <;> omega)); skip))
          refine X_T hnC ?_
          repeat (first
    | ((with_reducible apply X_bndE); focus (first | ((with_reducible apply pz_pp h') <;> omega) | ((with_reducible apply pz_kk h') <;> omega) | (with_reducible exact pz_14)); skip)
    | with_reducible refine X_bnd ?_
    | ((with_reducible apply X_chk); focus (first | exact a1 | exact a2 | exact a3 | exact a4 | exact a5 | ((with_reducible apply pz_i1 h') <;> omega) | ((with_reducible apply pz_i2 h') <;> omega)); skip)
    | ((with_reducible apply X_rfO); focus (first | exact c1 | exact c2 | exact c5); skip)
    | ((with_reducible apply X_I); focus (first | ((with_reducible apply p_kaC h') <;> omega) | ((with_reducible apply p_paC h') <;> omega) | ((with_reducible apply p_skip_y h') <;> first | omega | ((simp (disch := omega) only [lit, n_eq]) <;> omega)) | ((with_reducible apply p_skip_n h') <;> first | omega | ((simp (disch := first | omega | exact Nat.lt_trans (ht _ (by omega)) (by omega)) only [lit, n_eq]) <;> omega))); skip)
    | ((with_reducible apply X_if); focus (first | (with_reducible exact rfl) | (with_reducible exact n00) | ((simp (disch := omega) only [lit, n_eq]) <;> omega)); skip)
    | ((with_reducible apply X_nif); focus (first | exact n10 | ((with_reducible apply p_cnt h') <;> omega) | ((simp (disch := first | omega | exact Nat.lt_trans (ht _ (by omega)) (by omega)) only [lit, n_eq]) <;> omega)); skip)
    | ((with_reducible apply X_T); focus (first | ((with_reducible apply p_take_y h') <;> first | omega | ((simp (disch := omega) only [lit, n_eq]) <;> omega)) | ((with_reducible apply p_limit_y h' rfl) <;> omega)); skip)
    | ((with_reducible apply X_Tt); focus (first | ((with_reducible apply p_take_n h') <;> first | omega | ((simp (disch := first | omega | exact Nat.lt_trans (ht _ (by omega)) (by omega)) only [lit, n_eq]) <;> omega)) | ((with_reducible apply p_limit_n h' rfl) <;> omega)); skip))
          refine X_T x1 ?_
          repeat (first
    | ((with_reducible apply X_bndE); focus (first | ((with_reducible apply pz_pp h') <;> omega) | ((with_reducible apply pz_kk h') <;> omega) | (with_reducible exact pz_14)); skip)
    | with_reducible refine X_bnd ?_
    | ((with_reducible apply X_chk); focus (first | exact a1 | exact a2 | exact a3 | exact a4 | exact a5 | ((with_reducible apply pz_i1 h') <;> omega) | ((with_reducible apply pz_i2 h') <;> omega)); skip)
    | ((with_reducible apply X_rfO); focus (first | exact c1 | exact c2 | exact c5); skip)
    | ((with_reducible apply X_I); focus (first | ((with_reducible apply p_kaC h') <;> omega) | ((with_reducible apply p_paC h') <;> omega) | ((with_reducible apply p_skip_y h') <;> first | omega | ((simp (disch := omega) only [lit, n_eq]) <;> omega)) | ((with_reducible apply p_skip_n h') <;> first | omega | ((simp (disch := first | omega | exact Nat.lt_trans (ht _ (by omega)) (by omega)) only [lit, n_eq]) <;> omega))); skip)
    | ((with_reducible apply X_if); focus (first | (with_reducible exact rfl) | (with_reducible exact n00) | ((simp (disch := omega) only [lit, n_eq]) <;> omega)); skip)
    | ((with_reducible apply X_nif); focus (first | exact n10 | ((with_reducible apply p_cnt h') <;> omega) | ((simp (disch := first | omega | exact Nat.lt_trans (ht _ (by omega)) (by omega)) only [lit, n_eq]) <;> omega)); skip)
    | ((with_reducible apply X_T); focus (first | ((with_reducible apply p_take_y h') <;> first | omega | ((simp (disch := omega) only [lit, n_eq]) <;> omega)) | ((with_reducible apply p_limit_y h' rfl) <;> omega)); skip)
    | ((with_reducible apply X_Tt); focus (first | ((with_reducible apply p_take_n h') <;> first | omega | ((simp (disch := first | omega | exact Nat.lt_trans (ht _ (by omega)) (by omega)) only [lit, n_eq]) <;> omega)) | ((with_reducible apply p_limit_n h' rfl) <;> omega)); skip))
          rw [List.append_assoc, ← post_app]
          exact X_V (p_fin h' (by simp only [app, siz] at *; omega) rfl (dr + 1)) rfl
        · unfold f_RM_factor
          rw [hd1]
          repeat (first
    | with_reducible refine A_VI ?_
    | with_reducible refine A_VV ?_
    | with_reducible refine A_Vif ?_
    | with_reducible refine A_Vs ?_
    | with_reducible refine A_II ?_
    | with_reducible refine A_IV ?_
    | with_reducible refine A_Iif ?_
    | with_reducible refine A_Is ?_
    | with_reducible refine A_Ichk ?_
    | ((with_reducible apply X_bndE); focus (first | ((with_reducible apply r_p R hn) <;> first | omega | assumption)); skip)
    | with_reducible refine X_bnd ?_
    | ((with_reducible apply X_chk); focus (((with_reducible apply r_i hn)) <;> omega); skip)
    | ((with_reducible apply X_I); focus (first | ((with_reducible apply r_look R hn) <;> first | omega | assumption) | (with_reducible exact q_look1) | ((with_reducible apply r_draft) <;> first | omega | exact rfl | exact r_p R hn (by omega) (by assumption)) | ((with_reducible apply r_name_y R hn) <;> first | omega | assumption)); skip)
    | ((with_reducible apply X_V); focus (first | ((with_reducible apply r_take_y R hn) <;> first | omega | assumption | first | exact rfl | (with_reducible exact n00) | exact kp_y (by assumption) (by decide)) | ((with_reducible apply r_take_n R hn) <;> first | omega | assumption | first | exact n10 | ((simp (disch := first | assumption | omega | exact ht _ (by omega)) only [lit, n_eq, n_le, kp_0, kp_1, kp_2, kp_3, kp_4, kp_5, kp_6, kp_7, kp_8, kp_9, kp_10, kp_11, kp_12, kp_13, kp_14, kp_15, kp_16, kp_17, kp_18, kp_19, kp_20, kp_21, kp_22, kp_23, kp_24, kp_25, kp_26, kp_27, kp_28, kp_29, kp_30, kp_31, kp_32, kp_33, kp_34]) <;> omega)) | (with_reducible exact q_takeb) | ((with_reducible apply q_deep_y rfl) <;> omega) | ((with_reducible apply q_deep_n R rfl) <;> first | omega | assumption) | (with_reducible exact q_needb) | (with_reducible exact r_need1) | ((with_reducible apply r_need0 R hn) <;> first | omega | assumption)); skip)
    | ((with_reducible apply X_if); focus (first | exact rfl | (with_reducible exact n00) | exact kp_y (by assumption) (by decide)); skip)
    | ((with_reducible apply X_nif); focus (first | exact n10 | ((simp (disch := first | assumption | omega | exact ht _ (by omega)) only [lit, n_eq, n_le, kp_0, kp_1, kp_2, kp_3, kp_4, kp_5, kp_6, kp_7, kp_8, kp_9, kp_10, kp_11, kp_12, kp_13, kp_14, kp_15, kp_16, kp_17, kp_18, kp_19, kp_20, kp_21, kp_22, kp_23, kp_24, kp_25, kp_26, kp_27, kp_28, kp_29, kp_30, kp_31, kp_32, kp_33, kp_34]) <;> omega)); skip))
          refine X_V (hj1 _) ?_
          repeat (first
    | with_reducible refine A_VI ?_
    | with_reducible refine A_VV ?_
    | with_reducible refine A_Vif ?_
    | with_reducible refine A_Vs ?_
    | with_reducible refine A_II ?_
    | with_reducible refine A_IV ?_
    | with_reducible refine A_Iif ?_
    | with_reducible refine A_Is ?_
    | with_reducible refine A_Ichk ?_
    | ((with_reducible apply X_bndE); focus (first | ((with_reducible apply r_p R hn) <;> first | omega | assumption)); skip)
    | with_reducible refine X_bnd ?_
    | ((with_reducible apply X_chk); focus (((with_reducible apply r_i hn)) <;> omega); skip)
    | ((with_reducible apply X_I); focus (first | ((with_reducible apply r_look R hn) <;> first | omega | assumption) | (with_reducible exact q_look1) | ((with_reducible apply r_draft) <;> first | omega | exact rfl | exact r_p R hn (by omega) (by assumption)) | ((with_reducible apply r_name_y R hn) <;> first | omega | assumption)); skip)
    | ((with_reducible apply X_V); focus (first | ((with_reducible apply r_take_y R hn) <;> first | omega | assumption | first | exact rfl | (with_reducible exact n00) | exact kp_y (by assumption) (by decide)) | ((with_reducible apply r_take_n R hn) <;> first | omega | assumption | first | exact n10 | ((simp (disch := first | assumption | omega | exact ht _ (by omega)) only [lit, n_eq, n_le, kp_0, kp_1, kp_2, kp_3, kp_4, kp_5, kp_6, kp_7, kp_8, kp_9, kp_10, kp_11, kp_12, kp_13, kp_14, kp_15, kp_16, kp_17, kp_18, kp_19, kp_20, kp_21, kp_22, kp_23, kp_24, kp_25, kp_26, kp_27, kp_28, kp_29, kp_30, kp_31, kp_32, kp_33, kp_34]) <;> omega)) | (with_reducible exact q_takeb) | ((with_reducible apply q_deep_y rfl) <;> omega) | ((with_reducible apply q_deep_n R rfl) <;> first | omega | assumption) | (with_reducible exact q_needb) | (with_reducible exact r_need1) | ((with_reducible apply r_need0 R hn) <;> first | omega | assumption)); skip)
    | ((with_reducible apply X_if); focus (first | exact rfl | (with_reducible exact n00) | exact kp_y (by assumption) (by decide)); skip)
    | ((with_reducible apply X_nif); focus (first | exact n10 | ((simp (disch := first | assumption | omega | exact ht _ (by omega)) only [lit, n_eq, n_le, kp_0, kp_1, kp_2, kp_3, kp_4, kp_5, kp_6, kp_7, kp_8, kp_9, kp_10, kp_11, kp_12, kp_13, kp_14, kp_15, kp_16, kp_17, kp_18, kp_19, kp_20, kp_21, kp_22, kp_23, kp_24, kp_25, kp_26, kp_27, kp_28, kp_29, kp_30, kp_31, kp_32, kp_33, kp_34]) <;> omega)); skip))
          refine X_I x2 ?_
          refine X_V (hj2 _) ?_
          repeat (first
    | with_reducible refine A_VI ?_
    | with_reducible refine A_VV ?_
    | with_reducible refine A_Vif ?_
    | with_reducible refine A_Vs ?_
    | with_reducible refine A_II ?_
    | with_reducible refine A_IV ?_
    | with_reducible refine A_Iif ?_
    | with_reducible refine A_Is ?_
    | with_reducible refine A_Ichk ?_
    | ((with_reducible apply X_bndE); focus (first | ((with_reducible apply r_p R hn) <;> first | omega | assumption)); skip)
    | with_reducible refine X_bnd ?_
    | ((with_reducible apply X_chk); focus (((with_reducible apply r_i hn)) <;> omega); skip)
    | ((with_reducible apply X_I); focus (first | ((with_reducible apply r_look R hn) <;> first | omega | assumption) | (with_reducible exact q_look1) | ((with_reducible apply r_draft) <;> first | omega | exact rfl | exact r_p R hn (by omega) (by assumption)) | ((with_reducible apply r_name_y R hn) <;> first | omega | assumption)); skip)
    | ((with_reducible apply X_V); focus (first | ((with_reducible apply r_take_y R hn) <;> first | omega | assumption | first | exact rfl | (with_reducible exact n00) | exact kp_y (by assumption) (by decide)) | ((with_reducible apply r_take_n R hn) <;> first | omega | assumption | first | exact n10 | ((simp (disch := first | assumption | omega | exact ht _ (by omega)) only [lit, n_eq, n_le, kp_0, kp_1, kp_2, kp_3, kp_4, kp_5, kp_6, kp_7, kp_8, kp_9, kp_10, kp_11, kp_12, kp_13, kp_14, kp_15, kp_16, kp_17, kp_18, kp_19, kp_20, kp_21, kp_22, kp_23, kp_24, kp_25, kp_26, kp_27, kp_28, kp_29, kp_30, kp_31, kp_32, kp_33, kp_34]) <;> omega)) | (with_reducible exact q_takeb) | ((with_reducible apply q_deep_y rfl) <;> omega) | ((with_reducible apply q_deep_n R rfl) <;> first | omega | assumption) | (with_reducible exact q_needb) | (with_reducible exact r_need1) | ((with_reducible apply r_need0 R hn) <;> first | omega | assumption)); skip)
    | ((with_reducible apply X_if); focus (first | exact rfl | (with_reducible exact n00) | exact kp_y (by assumption) (by decide)); skip)
    | ((with_reducible apply X_nif); focus (first | exact n10 | ((simp (disch := first | assumption | omega | exact ht _ (by omega)) only [lit, n_eq, n_le, kp_0, kp_1, kp_2, kp_3, kp_4, kp_5, kp_6, kp_7, kp_8, kp_9, kp_10, kp_11, kp_12, kp_13, kp_14, kp_15, kp_16, kp_17, kp_18, kp_19, kp_20, kp_21, kp_22, kp_23, kp_24, kp_25, kp_26, kp_27, kp_28, kp_29, kp_30, kp_31, kp_32, kp_33, kp_34]) <;> omega)); skip))
          rfl
      · refine Out_b (q := q') (x := post (one dr 13 (tp q) (nI q) .leaf) ++ post (one i' k' p' v' c')) ?_ rfl ?_ y2 y3
        · rw [← List.append_assoc]
          unfold f_PA_factor
          rw [hd1]
          repeat (first
    | ((with_reducible apply X_bndE); focus (first | ((with_reducible apply pz_pp h') <;> omega) | ((with_reducible apply pz_kk h') <;> omega) | (with_reducible exact pz_14)); skip)
    | with_reducible refine X_bnd ?_
    | ((with_reducible apply X_chk); focus (first | exact a1 | exact a2 | exact a3 | exact a4 | exact a5 | ((with_reducible apply pz_i1 h') <;> omega) | ((with_reducible apply pz_i2 h') <;> omega)); skip)
    | ((with_reducible apply X_rfO); focus (first | exact c1 | exact c2 | exact c5); skip)
    | ((with_reducible apply X_I); focus (first | ((with_reducible apply p_kaC h') <;> omega) | ((with_reducible apply p_paC h') <;> omega) | ((with_reducible apply p_skip_y h') <;> first | omega | ((simp (disch := omega) only [lit, n_eq]) <;> omega)) | ((with_reducible apply p_skip_n h') <;> first | omega | ((simp (disch := first | omega | exact Nat.lt_trans (ht _ (by omega)) (by omega)) only [lit, n_eq]) <;> omega))); skip)
    | ((with_reducible apply X_if); focus (first | (with_reducible exact rfl) | (with_reducible exact n00) | ((simp (disch := omega) only [lit, n_eq]) <;> omega)); skip)
    | ((with_reducible apply X_nif); focus (first | exact n10 | ((with_reducible apply p_cnt h') <;> omega) | ((simp (disch := first | omega | exact Nat.lt_trans (ht _ (by omega)) (by omega)) only [lit, n_eq]) <;> omega)); skip)
    | ((with_reducible apply X_T); focus (first | ((with_reducible apply p_take_y h') <;> first | omega | ((simp (disch := omega) only [lit, n_eq]) <;> omega)) | ((with_reducible apply p_limit_y h' rfl) <;> omega)); skip)
    | ((with_reducible apply X_Tt); focus (first | ((with_reducible apply p_take_n h') <;> first | omega | ((simp (disch := first | omega | exact Nat.lt_trans (ht _ (by omega)) (by omega)) only [lit, n_eq]) <;> omega)) | ((with_reducible apply p_limit_n h' rfl) <;> omega)); skip))
          refine X_T hnC ?_
          repeat (first
    | ((with_reducible apply X_bndE); focus (first | ((with_reducible apply pz_pp h') <;> omega) | ((with_reducible apply pz_kk h') <;> omega) | (with_reducible exact pz_14)); skip)
    | with_reducible refine X_bnd ?_
    | ((with_reducible apply X_chk); focus (first | exact a1 | exact a2 | exact a3 | exact a4 | exact a5 | ((with_reducible apply pz_i1 h') <;> omega) | ((with_reducible apply pz_i2 h') <;> omega)); skip)
    | ((with_reducible apply X_rfO); focus (first | exact c1 | exact c2 | exact c5); skip)
    | ((with_reducible apply X_I); focus (first | ((with_reducible apply p_kaC h') <;> omega) | ((with_reducible apply p_paC h') <;> omega) | ((with_reducible apply p_skip_y h') <;> first | omega | ((simp (disch := omega) only [lit, n_eq]) <;> omega)) | ((with_reducible apply p_skip_n h') <;> first | omega | ((simp (disch := first | omega | exact Nat.lt_trans (ht _ (by omega)) (by omega)) only [lit, n_eq]) <;> omega))); skip)
    | ((with_reducible apply X_if); focus (first | (with_reducible exact rfl) | (with_reducible exact n00) | ((simp (disch := omega) only [lit, n_eq]) <;> omega)); skip)
    | ((with_reducible apply X_nif); focus (first | exact n10 | ((with_reducible apply p_cnt h') <;> omega) | ((simp (disch := first | omega | exact Nat.lt_trans (ht _ (by omega)) (by omega)) only [lit, n_eq]) <;> omega)); skip)
    | ((with_reducible apply X_T); focus (first | ((with_reducible apply p_take_y h') <;> first | omega | ((simp (disch := omega) only [lit, n_eq]) <;> omega)) | ((with_reducible apply p_limit_y h' rfl) <;> omega)); skip)
    | ((with_reducible apply X_Tt); focus (first | ((with_reducible apply p_take_n h') <;> first | omega | ((simp (disch := first | omega | exact Nat.lt_trans (ht _ (by omega)) (by omega)) only [lit, n_eq]) <;> omega)) | ((with_reducible apply p_limit_n h' rfl) <;> omega)); skip))
          refine X_T x1 ?_
          repeat (first
    | ((with_reducible apply X_bndE); focus (first | ((with_reducible apply pz_pp h') <;> omega) | ((with_reducible apply pz_kk h') <;> omega) | (with_reducible exact pz_14)); skip)
    | with_reducible refine X_bnd ?_
    | ((with_reducible apply X_chk); focus (first | exact a1 | exact a2 | exact a3 | exact a4 | exact a5 | ((with_reducible apply pz_i1 h') <;> omega) | ((with_reducible apply pz_i2 h') <;> omega)); skip)
    | ((with_reducible apply X_rfO); focus (first | exact c1 | exact c2 | exact c5); skip)
    | ((with_reducible apply X_I); focus (first | ((with_reducible apply p_kaC h') <;> omega) | ((with_reducible apply p_paC h') <;> omega) | ((with_reducible apply p_skip_y h') <;> first | omega | ((simp (disch := omega) only [lit, n_eq]) <;> omega)) | ((with_reducible apply p_skip_n h') <;> first | omega | ((simp (disch := first | omega | exact Nat.lt_trans (ht _ (by omega)) (by omega)) only [lit, n_eq]) <;> omega))); skip)
    | ((with_reducible apply X_if); focus (first | (with_reducible exact rfl) | (with_reducible exact n00) | ((simp (disch := omega) only [lit, n_eq]) <;> omega)); skip)
    | ((with_reducible apply X_nif); focus (first | exact n10 | ((with_reducible apply p_cnt h') <;> omega) | ((simp (disch := first | omega | exact Nat.lt_trans (ht _ (by omega)) (by omega)) only [lit, n_eq]) <;> omega)); skip)
    | ((with_reducible apply X_T); focus (first | ((with_reducible apply p_take_y h') <;> first | omega | ((simp (disch := omega) only [lit, n_eq]) <;> omega)) | ((with_reducible apply p_limit_y h' rfl) <;> omega)); skip)
    | ((with_reducible apply X_Tt); focus (first | ((with_reducible apply p_take_n h') <;> first | omega | ((simp (disch := first | omega | exact Nat.lt_trans (ht _ (by omega)) (by omega)) only [lit, n_eq]) <;> omega)) | ((with_reducible apply p_limit_n h' rfl) <;> omega)); skip))
          rfl
        · unfold f_RM_factor
          rw [hd1]
          repeat (first
    | with_reducible refine M_VI ?_
    | with_reducible refine M_VV ?_
    | with_reducible refine M_Vif ?_
    | with_reducible refine M_Vs ?_
    | with_reducible refine M_II ?_
    | with_reducible refine M_IV ?_
    | with_reducible refine M_Iif ?_
    | with_reducible refine M_Is ?_
    | with_reducible refine M_Ichk ?_
    | ((with_reducible apply BM_bndE); focus (first | ((with_reducible apply r_p R hn) <;> first | omega | assumption)); skip)
    | with_reducible refine BM_bnd ?_
    | ((with_reducible apply BM_chk); focus (((with_reducible apply r_i hn)) <;> omega); skip)
    | ((with_reducible apply BM_I); focus (first | ((with_reducible apply r_look R hn) <;> first | omega | assumption) | (with_reducible exact q_look1) | ((with_reducible apply r_draft) <;> first | omega | exact rfl | exact r_p R hn (by omega) (by assumption)) | ((with_reducible apply r_db) <;> omega) | ((with_reducible apply r_nb) <;> omega) | ((with_reducible apply r_nameb) <;> omega) | ((with_reducible apply r_name_y R hn) <;> first | omega | assumption) | ((with_reducible apply r_name_n R hn) <;> first | omega | assumption | exact ht _ (by omega))); skip)
    | ((with_reducible apply BM_V); focus (first | ((with_reducible apply r_take_y R hn) <;> first | omega | assumption | first | exact rfl | (with_reducible exact n00) | exact kp_y (by assumption) (by decide)) | ((with_reducible apply r_take_n R hn) <;> first | omega | assumption | first | exact n10 | ((simp (disch := first | assumption | omega | exact ht _ (by omega)) only [lit, n_eq, n_le, kp_0, kp_1, kp_2, kp_3, kp_4, kp_5, kp_6, kp_7, kp_8, kp_9, kp_10, kp_11, kp_12, kp_13, kp_14, kp_15, kp_16, kp_17, kp_18, kp_19, kp_20, kp_21, kp_22, kp_23, kp_24, kp_25, kp_26, kp_27, kp_28, kp_29, kp_30, kp_31, kp_32, kp_33, kp_34]) <;> omega)) | (with_reducible exact q_takeb) | ((with_reducible apply q_deep_y rfl) <;> omega) | ((with_reducible apply q_deep_n R rfl) <;> first | omega | assumption) | ((with_reducible apply q_deepb' rfl) <;> omega) | (with_reducible exact q_needb) | (with_reducible exact r_need1) | ((with_reducible apply r_need0 R hn) <;> first | omega | assumption)); skip)
    | ((with_reducible apply BM_if); focus (first | exact rfl | (with_reducible exact n00) | exact kp_y (by assumption) (by decide)); skip)
    | ((with_reducible apply BM_nif); focus (first | exact n10 | ((simp (disch := first | assumption | omega | exact ht _ (by omega)) only [lit, n_eq, n_le, kp_0, kp_1, kp_2, kp_3, kp_4, kp_5, kp_6, kp_7, kp_8, kp_9, kp_10, kp_11, kp_12, kp_13, kp_14, kp_15, kp_16, kp_17, kp_18, kp_19, kp_20, kp_21, kp_22, kp_23, kp_24, kp_25, kp_26, kp_27, kp_28, kp_29, kp_30, kp_31, kp_32, kp_33, kp_34]) <;> omega)); skip)
    | (with_reducible refine bm_jn ?_ rfl)
    | ((with_reducible apply bm_join); (focus (first | assumption | exact BI_new (by assumption) | exact BI_new (BI_new (by assumption)) | exact BI_new (BI_new (BI_new (by assumption))))); (focus omega); (focus omega); (focus (first | assumption | exact Or.inr ⟨_, by omega, rfl⟩)); intro _ _)
    | exact ⟨_, _, _, (by with_reducible rfl), by omega, by omega, (by first | assumption | exact BI_new (by assumption) | exact BI_new (BI_new (by assumption)) | exact BI_new (BI_new (BI_new (by assumption)))), (by first | exact Or.inl rfl | assumption | exact Or.inr ⟨_, by omega, rfl⟩)⟩)
          refine BM_V (hj1 _) ?_
          repeat (first
    | with_reducible refine M_VI ?_
    | with_reducible refine M_VV ?_
    | with_reducible refine M_Vif ?_
    | with_reducible refine M_Vs ?_
    | with_reducible refine M_II ?_
    | with_reducible refine M_IV ?_
    | with_reducible refine M_Iif ?_
    | with_reducible refine M_Is ?_
    | with_reducible refine M_Ichk ?_
    | ((with_reducible apply BM_bndE); focus (first | ((with_reducible apply r_p R hn) <;> first | omega | assumption)); skip)
    | with_reducible refine BM_bnd ?_
    | ((with_reducible apply BM_chk); focus (((with_reducible apply r_i hn)) <;> omega); skip)
    | ((with_reducible apply BM_I); focus (first | ((with_reducible apply r_look R hn) <;> first | omega | assumption) | (with_reducible exact q_look1) | ((with_reducible apply r_draft) <;> first | omega | exact rfl | exact r_p R hn (by omega) (by assumption)) | ((with_reducible apply r_db) <;> omega) | ((with_reducible apply r_nb) <;> omega) | ((with_reducible apply r_nameb) <;> omega) | ((with_reducible apply r_name_y R hn) <;> first | omega | assumption) | ((with_reducible apply r_name_n R hn) <;> first | omega | assumption | exact ht _ (by omega))); skip)
    | ((with_reducible apply BM_V); focus (first | ((with_reducible apply r_take_y R hn) <;> first | omega | assumption | first | exact rfl | (with_reducible exact n00) | exact kp_y (by assumption) (by decide)) | ((with_reducible apply r_take_n R hn) <;> first | omega | assumption | first | exact n10 | ((simp (disch := first | assumption | omega | exact ht _ (by omega)) only [lit, n_eq, n_le, kp_0, kp_1, kp_2, kp_3, kp_4, kp_5, kp_6, kp_7, kp_8, kp_9, kp_10, kp_11, kp_12, kp_13, kp_14, kp_15, kp_16, kp_17, kp_18, kp_19, kp_20, kp_21, kp_22, kp_23, kp_24, kp_25, kp_26, kp_27, kp_28, kp_29, kp_30, kp_31, kp_32, kp_33, kp_34]) <;> omega)) | (with_reducible exact q_takeb) | ((with_reducible apply q_deep_y rfl) <;> omega) | ((with_reducible apply q_deep_n R rfl) <;> first | omega | assumption) | ((with_reducible apply q_deepb' rfl) <;> omega) | (with_reducible exact q_needb) | (with_reducible exact r_need1) | ((with_reducible apply r_need0 R hn) <;> first | omega | assumption)); skip)
    | ((with_reducible apply BM_if); focus (first | exact rfl | (with_reducible exact n00) | exact kp_y (by assumption) (by decide)); skip)
    | ((with_reducible apply BM_nif); focus (first | exact n10 | ((simp (disch := first | assumption | omega | exact ht _ (by omega)) only [lit, n_eq, n_le, kp_0, kp_1, kp_2, kp_3, kp_4, kp_5, kp_6, kp_7, kp_8, kp_9, kp_10, kp_11, kp_12, kp_13, kp_14, kp_15, kp_16, kp_17, kp_18, kp_19, kp_20, kp_21, kp_22, kp_23, kp_24, kp_25, kp_26, kp_27, kp_28, kp_29, kp_30, kp_31, kp_32, kp_33, kp_34]) <;> omega)); skip)
    | (with_reducible refine bm_jn ?_ rfl)
    | ((with_reducible apply bm_join); (focus (first | assumption | exact BI_new (by assumption) | exact BI_new (BI_new (by assumption)) | exact BI_new (BI_new (BI_new (by assumption))))); (focus omega); (focus omega); (focus (first | assumption | exact Or.inr ⟨_, by omega, rfl⟩)); intro _ _)
    | exact ⟨_, _, _, (by with_reducible rfl), by omega, by omega, (by first | assumption | exact BI_new (by assumption) | exact BI_new (BI_new (by assumption)) | exact BI_new (BI_new (BI_new (by assumption)))), (by first | exact Or.inl rfl | assumption | exact Or.inr ⟨_, by omega, rfl⟩)⟩)
          refine BM_I x2 ?_
          refine BM_V (hj2 _) ?_
          have hBI := hb2.2.2.2
          repeat (first
    | with_reducible refine M_VI ?_
    | with_reducible refine M_VV ?_
    | with_reducible refine M_Vif ?_
    | with_reducible refine M_Vs ?_
    | with_reducible refine M_II ?_
    | with_reducible refine M_IV ?_
    | with_reducible refine M_Iif ?_
    | with_reducible refine M_Is ?_
    | with_reducible refine M_Ichk ?_
    | ((with_reducible apply BM_bndE); focus (first | ((with_reducible apply r_p R hn) <;> first | omega | assumption)); skip)
    | with_reducible refine BM_bnd ?_
    | ((with_reducible apply BM_chk); focus (((with_reducible apply r_i hn)) <;> omega); skip)
    | ((with_reducible apply BM_I); focus (first | ((with_reducible apply r_look R hn) <;> first | omega | assumption) | (with_reducible exact q_look1) | ((with_reducible apply r_draft) <;> first | omega | exact rfl | exact r_p R hn (by omega) (by assumption)) | ((with_reducible apply r_db) <;> omega) | ((with_reducible apply r_nb) <;> omega) | ((with_reducible apply r_nameb) <;> omega) | ((with_reducible apply r_name_y R hn) <;> first | omega | assumption) | ((with_reducible apply r_name_n R hn) <;> first | omega | assumption | exact ht _ (by omega))); skip)
    | ((with_reducible apply BM_V); focus (first | ((with_reducible apply r_take_y R hn) <;> first | omega | assumption | first | exact rfl | (with_reducible exact n00) | exact kp_y (by assumption) (by decide)) | ((with_reducible apply r_take_n R hn) <;> first | omega | assumption | first | exact n10 | ((simp (disch := first | assumption | omega | exact ht _ (by omega)) only [lit, n_eq, n_le, kp_0, kp_1, kp_2, kp_3, kp_4, kp_5, kp_6, kp_7, kp_8, kp_9, kp_10, kp_11, kp_12, kp_13, kp_14, kp_15, kp_16, kp_17, kp_18, kp_19, kp_20, kp_21, kp_22, kp_23, kp_24, kp_25, kp_26, kp_27, kp_28, kp_29, kp_30, kp_31, kp_32, kp_33, kp_34]) <;> omega)) | (with_reducible exact q_takeb) | ((with_reducible apply q_deep_y rfl) <;> omega) | ((with_reducible apply q_deep_n R rfl) <;> first | omega | assumption) | ((with_reducible apply q_deepb' rfl) <;> omega) | (with_reducible exact q_needb) | (with_reducible exact r_need1) | ((with_reducible apply r_need0 R hn) <;> first | omega | assumption)); skip)
    | ((with_reducible apply BM_if); focus (first | exact rfl | (with_reducible exact n00) | exact kp_y (by assumption) (by decide)); skip)
    | ((with_reducible apply BM_nif); focus (first | exact n10 | ((simp (disch := first | assumption | omega | exact ht _ (by omega)) only [lit, n_eq, n_le, kp_0, kp_1, kp_2, kp_3, kp_4, kp_5, kp_6, kp_7, kp_8, kp_9, kp_10, kp_11, kp_12, kp_13, kp_14, kp_15, kp_16, kp_17, kp_18, kp_19, kp_20, kp_21, kp_22, kp_23, kp_24, kp_25, kp_26, kp_27, kp_28, kp_29, kp_30, kp_31, kp_32, kp_33, kp_34]) <;> omega)); skip)
    | (with_reducible refine bm_jn ?_ rfl)
    | ((with_reducible apply bm_join); (focus (first | assumption | exact BI_new (by assumption) | exact BI_new (BI_new (by assumption)) | exact BI_new (BI_new (BI_new (by assumption))))); (focus omega); (focus omega); (focus (first | assumption | exact Or.inr ⟨_, by omega, rfl⟩)); intro _ _)
    | exact ⟨_, _, _, (by with_reducible rfl), by omega, by omega, (by first | assumption | exact BI_new (by assumption) | exact BI_new (BI_new (by assumption)) | exact BI_new (BI_new (BI_new (by assumption)))), (by first | exact Or.inl rfl | assumption | exact Or.inr ⟨_, by omega, rfl⟩)⟩)
    · refine Out_b (q := q') (x := post (one dr 13 (tp q) (nI q) .leaf) ++ y) ?_ rfl ?_ x7 x8
      · rw [← List.append_assoc]
        unfold f_PA_factor
        rw [hd1]
        repeat (first
    | ((with_reducible apply X_bndE); focus (first | ((with_reducible apply pz_pp h') <;> omega) | ((with_reducible apply pz_kk h') <;> omega) | (with_reducible exact pz_14)); skip)
    | with_reducible refine X_bnd ?_
    | ((with_reducible apply X_chk); focus (first | exact a1 | exact a2 | exact a3 | exact a4 | exact a5 | ((with_reducible apply pz_i1 h') <;> omega) | ((with_reducible apply pz_i2 h') <;> omega)); skip)
    | ((with_reducible apply X_rfO); focus (first | exact c1 | exact c2 | exact c5); skip)
    | ((with_reducible apply X_I); focus (first | ((with_reducible apply p_kaC h') <;> omega) | ((with_reducible apply p_paC h') <;> omega) | ((with_reducible apply p_skip_y h') <;> first | omega | ((simp (disch := omega) only [lit, n_eq]) <;> omega)) | ((with_reducible apply p_skip_n h') <;> first | omega | ((simp (disch := first | omega | exact Nat.lt_trans (ht _ (by omega)) (by omega)) only [lit, n_eq]) <;> omega))); skip)
    | ((with_reducible apply X_if); focus (first | (with_reducible exact rfl) | (with_reducible exact n00) | ((simp (disch := omega) only [lit, n_eq]) <;> omega)); skip)
    | ((with_reducible apply X_nif); focus (first | exact n10 | ((with_reducible apply p_cnt h') <;> omega) | ((simp (disch := first | omega | exact Nat.lt_trans (ht _ (by omega)) (by omega)) only [lit, n_eq]) <;> omega)); skip)
    | ((with_reducible apply X_T); focus (first | ((with_reducible apply p_take_y h') <;> first | omega | ((simp (disch := omega) only [lit, n_eq]) <;> omega)) | ((with_reducible apply p_limit_y h' rfl) <;> omega)); skip)
    | ((with_reducible apply X_Tt); focus (first | ((with_reducible apply p_take_n h') <;> first | omega | ((simp (disch := first | omega | exact Nat.lt_trans (ht _ (by omega)) (by omega)) only [lit, n_eq]) <;> omega)) | ((with_reducible apply p_limit_n h' rfl) <;> omega)); skip))
        refine X_T hnC ?_
        repeat (first
    | ((with_reducible apply X_bndE); focus (first | ((with_reducible apply pz_pp h') <;> omega) | ((with_reducible apply pz_kk h') <;> omega) | (with_reducible exact pz_14)); skip)
    | with_reducible refine X_bnd ?_
    | ((with_reducible apply X_chk); focus (first | exact a1 | exact a2 | exact a3 | exact a4 | exact a5 | ((with_reducible apply pz_i1 h') <;> omega) | ((with_reducible apply pz_i2 h') <;> omega)); skip)
    | ((with_reducible apply X_rfO); focus (first | exact c1 | exact c2 | exact c5); skip)
    | ((with_reducible apply X_I); focus (first | ((with_reducible apply p_kaC h') <;> omega) | ((with_reducible apply p_paC h') <;> omega) | ((with_reducible apply p_skip_y h') <;> first | omega | ((simp (disch := omega) only [lit, n_eq]) <;> omega)) | ((with_reducible apply p_skip_n h') <;> first | omega | ((simp (disch := first | omega | exact Nat.lt_trans (ht _ (by omega)) (by omega)) only [lit, n_eq]) <;> omega))); skip)
    | ((with_reducible apply X_if); focus (first | (with_reducible exact rfl) | (with_reducible exact n00) | ((simp (disch := omega) only [lit, n_eq]) <;> omega)); skip)
    | ((with_reducible apply X_nif); focus (first | exact n10 | ((with_reducible apply p_cnt h') <;> omega) | ((simp (disch := first | omega | exact Nat.lt_trans (ht _ (by omega)) (by omega)) only [lit, n_eq]) <;> omega)); skip)
    | ((with_reducible apply X_T); focus (first | ((with_reducible apply p_take_y h') <;> first | omega | ((simp (disch := omega) only [lit, n_eq]) <;> omega)) | ((with_reducible apply p_limit_y h' rfl) <;> omega)); skip)
    | ((with_reducible apply X_Tt); focus (first | ((with_reducible apply p_take_n h') <;> first | omega | ((simp (disch := first | omega | exact Nat.lt_trans (ht _ (by omega)) (by omega)) only [lit, n_eq]) <;> omega)) | ((with_reducible apply p_limit_n h' rfl) <;> omega)); skip))
        exact X_Tt x1 rfl
      · unfold f_RM_factor
        rw [hd1]
        repeat (first
    | with_reducible refine M_VI ?_
    | with_reducible refine M_VV ?_
    | with_reducible refine M_Vif ?_
    | with_reducible refine M_Vs ?_
    | with_reducible refine M_II ?_
    | with_reducible refine M_IV ?_
    | with_reducible refine M_Iif ?_
    | with_reducible refine M_Is ?_
    | with_reducible refine M_Ichk ?_
    | ((with_reducible apply BM_bndE); focus (first | ((with_reducible apply r_p R hn) <;> first | omega | assumption)); skip)
    | with_reducible refine BM_bnd ?_
    | ((with_reducible apply BM_chk); focus (((with_reducible apply r_i hn)) <;> omega); skip)
    | ((with_reducible apply BM_I); focus (first | ((with_reducible apply r_look R hn) <;> first | omega | assumption) | (with_reducible exact q_look1) | ((with_reducible apply r_draft) <;> first | omega | exact rfl | exact r_p R hn (by omega) (by assumption)) | ((with_reducible apply r_db) <;> omega) | ((with_reducible apply r_nb) <;> omega) | ((with_reducible apply r_nameb) <;> omega) | ((with_reducible apply r_name_y R hn) <;> first | omega | assumption) | ((with_reducible apply r_name_n R hn) <;> first | omega | assumption | exact ht _ (by omega))); skip)
    | ((with_reducible apply BM_V); focus (first | ((with_reducible apply r_take_y R hn) <;> first | omega | assumption | first | exact rfl | (with_reducible exact n00) | exact kp_y (by assumption) (by decide)) | ((with_reducible apply r_take_n R hn) <;> first | omega | assumption | first | exact n10 | ((simp (disch := first | assumption | omega | exact ht _ (by omega)) only [lit, n_eq, n_le, kp_0, kp_1, kp_2, kp_3, kp_4, kp_5, kp_6, kp_7, kp_8, kp_9, kp_10, kp_11, kp_12, kp_13, kp_14, kp_15, kp_16, kp_17, kp_18, kp_19, kp_20, kp_21, kp_22, kp_23, kp_24, kp_25, kp_26, kp_27, kp_28, kp_29, kp_30, kp_31, kp_32, kp_33, kp_34]) <;> omega)) | (with_reducible exact q_takeb) | ((with_reducible apply q_deep_y rfl) <;> omega) | ((with_reducible apply q_deep_n R rfl) <;> first | omega | assumption) | ((with_reducible apply q_deepb' rfl) <;> omega) | (with_reducible exact q_needb) | (with_reducible exact r_need1) | ((with_reducible apply r_need0 R hn) <;> first | omega | assumption)); skip)
    | ((with_reducible apply BM_if); focus (first | exact rfl | (with_reducible exact n00) | exact kp_y (by assumption) (by decide)); skip)
    | ((with_reducible apply BM_nif); focus (first | exact n10 | ((simp (disch := first | assumption | omega | exact ht _ (by omega)) only [lit, n_eq, n_le, kp_0, kp_1, kp_2, kp_3, kp_4, kp_5, kp_6, kp_7, kp_8, kp_9, kp_10, kp_11, kp_12, kp_13, kp_14, kp_15, kp_16, kp_17, kp_18, kp_19, kp_20, kp_21, kp_22, kp_23, kp_24, kp_25, kp_26, kp_27, kp_28, kp_29, kp_30, kp_31, kp_32, kp_33, kp_34]) <;> omega)); skip)
    | (with_reducible refine bm_jn ?_ rfl)
    | ((with_reducible apply bm_join); (focus (first | assumption | exact BI_new (by assumption) | exact BI_new (BI_new (by assumption)) | exact BI_new (BI_new (BI_new (by assumption))))); (focus omega); (focus omega); (focus (first | assumption | exact Or.inr ⟨_, by omega, rfl⟩)); intro _ _)
    | exact ⟨_, _, _, (by with_reducible rfl), by omega, by omega, (by first | assumption | exact BI_new (by assumption) | exact BI_new (BI_new (by assumption)) | exact BI_new (BI_new (BI_new (by assumption)))), (by first | exact Or.inl rfl | assumption | exact Or.inr ⟨_, by omega, rfl⟩)⟩)
        refine BM_V (hj1 _) ?_
        repeat (first
    | with_reducible refine M_VI ?_
    | with_reducible refine M_VV ?_
    | with_reducible refine M_Vif ?_
    | with_reducible refine M_Vs ?_
    | with_reducible refine M_II ?_
    | with_reducible refine M_IV ?_
    | with_reducible refine M_Iif ?_
    | with_reducible refine M_Is ?_
    | with_reducible refine M_Ichk ?_
    | ((with_reducible apply BM_bndE); focus (first | ((with_reducible apply r_p R hn) <;> first | omega | assumption)); skip)
    | with_reducible refine BM_bnd ?_
    | ((with_reducible apply BM_chk); focus (((with_reducible apply r_i hn)) <;> omega); skip)
    | ((with_reducible apply BM_I); focus (first | ((with_reducible apply r_look R hn) <;> first | omega | assumption) | (with_reducible exact q_look1) | ((with_reducible apply r_draft) <;> first | omega | exact rfl | exact r_p R hn (by omega) (by assumption)) | ((with_reducible apply r_db) <;> omega) | ((with_reducible apply r_nb) <;> omega) | ((with_reducible apply r_nameb) <;> omega) | ((with_reducible apply r_name_y R hn) <;> first | omega | assumption) | ((with_reducible apply r_name_n R hn) <;> first | omega | assumption | exact ht _ (by omega))); skip)
    | ((with_reducible apply BM_V); focus (first | ((with_reducible apply r_take_y R hn) <;> first | omega | assumption | first | exact rfl | (with_reducible exact n00) | exact kp_y (by assumption) (by decide)) | ((with_reducible apply r_take_n R hn) <;> first | omega | assumption | first | exact n10 | ((simp (disch := first | assumption | omega | exact ht _ (by omega)) only [lit, n_eq, n_le, kp_0, kp_1, kp_2, kp_3, kp_4, kp_5, kp_6, kp_7, kp_8, kp_9, kp_10, kp_11, kp_12, kp_13, kp_14, kp_15, kp_16, kp_17, kp_18, kp_19, kp_20, kp_21, kp_22, kp_23, kp_24, kp_25, kp_26, kp_27, kp_28, kp_29, kp_30, kp_31, kp_32, kp_33, kp_34]) <;> omega)) | (with_reducible exact q_takeb) | ((with_reducible apply q_deep_y rfl) <;> omega) | ((with_reducible apply q_deep_n R rfl) <;> first | omega | assumption) | ((with_reducible apply q_deepb' rfl) <;> omega) | (with_reducible exact q_needb) | (with_reducible exact r_need1) | ((with_reducible apply r_need0 R hn) <;> first | omega | assumption)); skip)
    | ((with_reducible apply BM_if); focus (first | exact rfl | (with_reducible exact n00) | exact kp_y (by assumption) (by decide)); skip)
    | ((with_reducible apply BM_nif); focus (first | exact n10 | ((simp (disch := first | assumption | omega | exact ht _ (by omega)) only [lit, n_eq, n_le, kp_0, kp_1, kp_2, kp_3, kp_4, kp_5, kp_6, kp_7, kp_8, kp_9, kp_10, kp_11, kp_12, kp_13, kp_14, kp_15, kp_16, kp_17, kp_18, kp_19, kp_20, kp_21, kp_22, kp_23, kp_24, kp_25, kp_26, kp_27, kp_28, kp_29, kp_30, kp_31, kp_32, kp_33, kp_34]) <;> omega)); skip)
    | (with_reducible refine bm_jn ?_ rfl)
    | ((with_reducible apply bm_join); (focus (first | assumption | exact BI_new (by assumption) | exact BI_new (BI_new (by assumption)) | exact BI_new (BI_new (BI_new (by assumption))))); (focus omega); (focus omega); (focus (first | assumption | exact Or.inr ⟨_, by omega, rfl⟩)); intro _ _)
    | exact ⟨_, _, _, (by with_reducible rfl), by omega, by omega, (by first | assumption | exact BI_new (by assumption) | exact BI_new (BI_new (by assumption)) | exact BI_new (BI_new (BI_new (by assumption)))), (by first | exact Or.inl rfl | assumption | exact Or.inr ⟨_, by omega, rfl⟩)⟩)
        refine BM_I x2 ?_
        repeat (first
    | with_reducible refine M_VI ?_
    | with_reducible refine M_VV ?_
    | with_reducible refine M_Vif ?_
    | with_reducible refine M_Vs ?_
    | with_reducible refine M_II ?_
    | with_reducible refine M_IV ?_
    | with_reducible refine M_Iif ?_
    | with_reducible refine M_Is ?_
    | with_reducible refine M_Ichk ?_
    | ((with_reducible apply BM_bndE); focus (first | ((with_reducible apply r_p R hn) <;> first | omega | assumption)); skip)
    | with_reducible refine BM_bnd ?_
    | ((with_reducible apply BM_chk); focus (((with_reducible apply r_i hn)) <;> omega); skip)
    | ((with_reducible apply BM_I); focus (first | ((with_reducible apply r_look R hn) <;> first | omega | assumption) | (with_reducible exact q_look1) | ((with_reducible apply r_draft) <;> first | omega | exact rfl | exact r_p R hn (by omega) (by assumption)) | ((with_reducible apply r_db) <;> omega) | ((with_reducible apply r_nb) <;> omega) | ((with_reducible apply r_nameb) <;> omega) | ((with_reducible apply r_name_y R hn) <;> first | omega | assumption) | ((with_reducible apply r_name_n R hn) <;> first | omega | assumption | exact ht _ (by omega))); skip)
    | ((with_reducible apply BM_V); focus (first | ((with_reducible apply r_take_y R hn) <;> first | omega | assumption | first | exact rfl | (with_reducible exact n00) | exact kp_y (by assumption) (by decide)) | ((with_reducible apply r_take_n R hn) <;> first | omega | assumption | first | exact n10 | ((simp (disch := first | assumption | omega | exact ht _ (by omega)) only [lit, n_eq, n_le, kp_0, kp_1, kp_2, kp_3, kp_4, kp_5, kp_6, kp_7, kp_8, kp_9, kp_10, kp_11, kp_12, kp_13, kp_14, kp_15, kp_16, kp_17, kp_18, kp_19, kp_20, kp_21, kp_22, kp_23, kp_24, kp_25, kp_26, kp_27, kp_28, kp_29, kp_30, kp_31, kp_32, kp_33, kp_34]) <;> omega)) | (with_reducible exact q_takeb) | ((with_reducible apply q_deep_y rfl) <;> omega) | ((with_reducible apply q_deep_n R rfl) <;> first | omega | assumption) | ((with_reducible apply q_deepb' rfl) <;> omega) | (with_reducible exact q_needb) | (with_reducible exact r_need1) | ((with_reducible apply r_need0 R hn) <;> first | omega | assumption)); skip)
    | ((with_reducible apply BM_if); focus (first | exact rfl | (with_reducible exact n00) | exact kp_y (by assumption) (by decide)); skip)
    | ((with_reducible apply BM_nif); focus (first | exact n10 | ((simp (disch := first | assumption | omega | exact ht _ (by omega)) only [lit, n_eq, n_le, kp_0, kp_1, kp_2, kp_3, kp_4, kp_5, kp_6, kp_7, kp_8, kp_9, kp_10, kp_11, kp_12, kp_13, kp_14, kp_15, kp_16, kp_17, kp_18, kp_19, kp_20, kp_21, kp_22, kp_23, kp_24, kp_25, kp_26, kp_27, kp_28, kp_29, kp_30, kp_31, kp_32, kp_33, kp_34]) <;> omega)); skip)
    | (with_reducible refine bm_jn ?_ rfl)
    | ((with_reducible apply bm_join); (focus (first | assumption | exact BI_new (by assumption) | exact BI_new (BI_new (by assumption)) | exact BI_new (BI_new (BI_new (by assumption))))); (focus omega); (focus omega); (focus (first | assumption | exact Or.inr ⟨_, by omega, rfl⟩)); intro _ _)
    | exact ⟨_, _, _, (by with_reducible rfl), by omega, by omega, (by first | assumption | exact BI_new (by assumption) | exact BI_new (BI_new (by assumption)) | exact BI_new (BI_new (BI_new (by assumption)))), (by first | exact Or.inl rfl | assumption | exact Or.inr ⟨_, by omega, rfl⟩)⟩)
  · refine Out_y (q := q + 1) ?_ ?_ (New_of hb (by omega) q1 g1 (by omega) (by simp only [siz]; omega) hw1 (by simp only [hgt]; omega))
    · unfold f_PA_factor
      repeat (first
    | ((with_reducible apply X_bndE); focus (first | ((with_reducible apply pz_pp h') <;> omega) | ((with_reducible apply pz_kk h') <;> omega) | (with_reducible exact pz_14)); skip)
    | with_reducible refine X_bnd ?_
    | ((with_reducible apply X_chk); focus (first | exact a1 | exact a2 | exact a3 | exact a4 | exact a5 | ((with_reducible apply pz_i1 h') <;> omega) | ((with_reducible apply pz_i2 h') <;> omega)); skip)
    | ((with_reducible apply X_rfO); focus (first | exact c1 | exact c2 | exact c5); skip)
    | ((with_reducible apply X_I); focus (first | ((with_reducible apply p_kaC h') <;> omega) | ((with_reducible apply p_paC h') <;> omega) | ((with_reducible apply p_skip_y h') <;> first | omega | ((simp (disch := omega) only [lit, n_eq]) <;> omega)) | ((with_reducible apply p_skip_n h') <;> first | omega | ((simp (disch := first | omega | exact Nat.lt_trans (ht _ (by omega)) (by omega)) only [lit, n_eq]) <;> omega))); skip)
    | ((with_reducible apply X_if); focus (first | (with_reducible exact rfl) | (with_reducible exact n00) | ((simp (disch := omega) only [lit, n_eq]) <;> omega)); skip)
    | ((with_reducible apply X_nif); focus (first | exact n10 | ((with_reducible apply p_cnt h') <;> omega) | ((simp (disch := first | omega | exact Nat.lt_trans (ht _ (by omega)) (by omega)) only [lit, n_eq]) <;> omega)); skip)
    | ((with_reducible apply X_T); focus (first | ((with_reducible apply p_take_y h') <;> first | omega | ((simp (disch := omega) only [lit, n_eq]) <;> omega)) | ((with_reducible apply p_limit_y h' rfl) <;> omega)); skip)
    | ((with_reducible apply X_Tt); focus (first | ((with_reducible apply p_take_n h') <;> first | omega | ((simp (disch := first | omega | exact Nat.lt_trans (ht _ (by omega)) (by omega)) only [lit, n_eq]) <;> omega)) | ((with_reducible apply p_limit_n h' rfl) <;> omega)); skip))
      refine X_T hnC ?_
      repeat (first
    | ((with_reducible apply X_bndE); focus (first | ((with_reducible apply pz_pp h') <;> omega) | ((with_reducible apply pz_kk h') <;> omega) | (with_reducible exact pz_14)); skip)
    | with_reducible refine X_bnd ?_
    | ((with_reducible apply X_chk); focus (first | exact a1 | exact a2 | exact a3 | exact a4 | exact a5 | ((with_reducible apply pz_i1 h') <;> omega) | ((with_reducible apply pz_i2 h') <;> omega)); skip)
    | ((with_reducible apply X_rfO); focus (first | exact c1 | exact c2 | exact c5); skip)
    | ((with_reducible apply X_I); focus (first | ((with_reducible apply p_kaC h') <;> omega) | ((with_reducible apply p_paC h') <;> omega) | ((with_reducible apply p_skip_y h') <;> first | omega | ((simp (disch := omega) only [lit, n_eq]) <;> omega)) | ((with_reducible apply p_skip_n h') <;> first | omega | ((simp (disch := first | omega | exact Nat.lt_trans (ht _ (by omega)) (by omega)) only [lit, n_eq]) <;> omega))); skip)
    | ((with_reducible apply X_if); focus (first | (with_reducible exact rfl) | (with_reducible exact n00) | ((simp (disch := omega) only [lit, n_eq]) <;> omega)); skip)
    | ((with_reducible apply X_nif); focus (first | exact n10 | ((with_reducible apply p_cnt h') <;> omega) | ((simp (disch := first | omega | exact Nat.lt_trans (ht _ (by omega)) (by omega)) only [lit, n_eq]) <;> omega)); skip)
    | ((with_reducible apply X_T); focus (first | ((with_reducible apply p_take_y h') <;> first | omega | ((simp (disch := omega) only [lit, n_eq]) <;> omega)) | ((with_reducible apply p_limit_y h' rfl) <;> omega)); skip)
    | ((with_reducible apply X_Tt); focus (first | ((with_reducible apply p_take_n h') <;> first | omega | ((simp (disch := first | omega | exact Nat.lt_trans (ht _ (by omega)) (by omega)) only [lit, n_eq]) <;> omega)) | ((with_reducible apply p_limit_n h' rfl) <;> omega)); skip))
      rfl
    · unfold f_RM_factor
      repeat (first
    | with_reducible refine A_VI ?_
    | with_reducible refine A_VV ?_
    | with_reducible refine A_Vif ?_
    | with_reducible refine A_Vs ?_
    | with_reducible refine A_II ?_
    | with_reducible refine A_IV ?_
    | with_reducible refine A_Iif ?_
    | with_reducible refine A_Is ?_
    | with_reducible refine A_Ichk ?_
    | ((with_reducible apply X_bndE); focus (first | ((with_reducible apply r_p R hn) <;> first | omega | assumption)); skip)
    | with_reducible refine X_bnd ?_
    | ((with_reducible apply X_chk); focus (((with_reducible apply r_i hn)) <;> omega); skip)
    | ((with_reducible apply X_I); focus (first | ((with_reducible apply r_look R hn) <;> first | omega | assumption) | (with_reducible exact q_look1) | ((with_reducible apply r_draft) <;> first | omega | exact rfl | exact r_p R hn (by omega) (by assumption)) | ((with_reducible apply r_name_y R hn) <;> first | omega | assumption)); skip)
    | ((with_reducible apply X_V); focus (first | ((with_reducible apply r_take_y R hn) <;> first | omega | assumption | first | exact rfl | (with_reducible exact n00) | exact kp_y (by assumption) (by decide)) | ((with_reducible apply r_take_n R hn) <;> first | omega | assumption | first | exact n10 | ((simp (disch := first | assumption | omega | exact ht _ (by omega)) only [lit, n_eq, n_le, kp_0, kp_1, kp_2, kp_3, kp_4, kp_5, kp_6, kp_7, kp_8, kp_9, kp_10, kp_11, kp_12, kp_13, kp_14, kp_15, kp_16, kp_17, kp_18, kp_19, kp_20, kp_21, kp_22, kp_23, kp_24, kp_25, kp_26, kp_27, kp_28, kp_29, kp_30, kp_31, kp_32, kp_33, kp_34]) <;> omega)) | (with_reducible exact q_takeb) | ((with_reducible apply q_deep_y rfl) <;> omega) | ((with_reducible apply q_deep_n R rfl) <;> first | omega | assumption) | (with_reducible exact q_needb) | (with_reducible exact r_need1) | ((with_reducible apply r_need0 R hn) <;> first | omega | assumption)); skip)
    | ((with_reducible apply X_if); focus (first | exact rfl | (with_reducible exact n00) | exact kp_y (by assumption) (by decide)); skip)
    | ((with_reducible apply X_nif); focus (first | exact n10 | ((simp (disch := first | assumption | omega | exact ht _ (by omega)) only [lit, n_eq, n_le, kp_0, kp_1, kp_2, kp_3, kp_4, kp_5, kp_6, kp_7, kp_8, kp_9, kp_10, kp_11, kp_12, kp_13, kp_14, kp_15, kp_16, kp_17, kp_18, kp_19, kp_20, kp_21, kp_22, kp_23, kp_24, kp_25, kp_26, kp_27, kp_28, kp_29, kp_30, kp_31, kp_32, kp_33, kp_34]) <;> omega)); skip))
      rfl
theorem fac_no {d lim hm : Nat} {pf ps : Nat → Int32 → mh_H → Option (Bool × Int32 × mh_H)} {rf rs : Int32 → rm_S → Option (Int32 × rm_S)} (E : EN σ ap dd tt bk bp bv dk dp dv dz n room tk tp tv S N) (hS : Sim σ ap dd dk dp dv dz n tk tp S (d + 1) lim hm ps rs) (hF : d + 1 ≤ 60 → Sim σ ap dd dk dp dv dz n tk tp S (d + 1) lim hm pf rf) (hX : ¬ d + 1 ≤ 60 → ∀ q ds, pf ap (nI (d + 1)) (pz σ ap dd dk dp dv dz q ds) = some (true, 0, mh_new (pz σ ap dd dk dp dv dz q ds) 9)) (hl : 16010 ≤ lim ∧ lim < 25990 ∧ 1 ≤ hm) (hd : d ≤ 60) {flt : Int32} {q : Nat} {ds : List Ent} {dr : Nat} {B : Nat → Nat → Int32} (hI : Inp n tk q ds dr B) (t3 : ¬ tk q = 3) (t23 : ¬ tk q = 23) (t12 : ¬ tk q = 12) (t11 : ¬ tk q = 11) (t2 : ¬ tk q = 2) : Out σ ap dd dk dp dv dz n tk tp S flt q ds dr B (lim + 2) (hm + 1) (f_PA_factor N pf ps ap (nI d) (pz σ ap dd dk dp dv dz q ds)) (f_RM_factor N rs rf (nI d) (qz S q 0 flt dr B)) := by
  have hI' := hI
  obtain ⟨⟨i1, i2⟩, i3, i4, i5⟩ := hI
  obtain ⟨h, R, hn, hNN⟩ := E
  have h' := h
  obtain ⟨⟨a1, a2, a3⟩, ⟨a4, a5, a6, a7, a8, a9, a10⟩, ⟨c1, c2⟩, ⟨c4, c5, c6⟩, ⟨c7, c8, c9, c10⟩, -, ⟨e5, e6, e7⟩, e8, -, -, -, -, e9, e10, e11, e12, e13⟩ := h
  have ht : ∀ j, j < n → tk j < 35 := fun j hj => (e9 j hj).2.2.2
  have hb1 : ∀ j, j < n → j < hN σ bk := fun j hj => by omega
  have hb2 : ∀ j, j < n → j < hN σ bp := fun j hj => by omega
  have htq := ht q i1
  have hp := R_3 R i1 i2
  have hd1 : nI d + 1 = nI (d + 1) := n_add d 1
  refine Out_b0 (q := q) ?_ rfl ?_ i1 i2
  · unfold f_PA_factor
    repeat (first
    | ((with_reducible apply X_bndE); focus (first | ((with_reducible apply pz_pp h') <;> omega) | ((with_reducible apply pz_kk h') <;> omega) | (with_reducible exact pz_14)); skip)
    | with_reducible refine X_bnd ?_
    | ((with_reducible apply X_chk); focus (first | exact a1 | exact a2 | exact a3 | exact a4 | exact a5 | ((with_reducible apply pz_i1 h') <;> omega) | ((with_reducible apply pz_i2 h') <;> omega)); skip)
    | ((with_reducible apply X_rfO); focus (first | exact c1 | exact c2 | exact c5); skip)
    | ((with_reducible apply X_I); focus (first | ((with_reducible apply p_kaC h') <;> omega) | ((with_reducible apply p_paC h') <;> omega) | ((with_reducible apply p_skip_y h') <;> first | omega | ((simp (disch := omega) only [lit, n_eq]) <;> omega)) | ((with_reducible apply p_skip_n h') <;> first | omega | ((simp (disch := first | omega | exact Nat.lt_trans (ht _ (by omega)) (by omega)) only [lit, n_eq]) <;> omega))); skip)
    | ((with_reducible apply X_if); focus (first | (with_reducible exact rfl) | (with_reducible exact n00) | ((simp (disch := omega) only [lit, n_eq]) <;> omega)); skip)
    | ((with_reducible apply X_nif); focus (first | exact n10 | ((with_reducible apply p_cnt h') <;> omega) | ((simp (disch := first | omega | exact Nat.lt_trans (ht _ (by omega)) (by omega)) only [lit, n_eq]) <;> omega)); skip)
    | ((with_reducible apply X_T); focus (first | ((with_reducible apply p_take_y h') <;> first | omega | ((simp (disch := omega) only [lit, n_eq]) <;> omega)) | ((with_reducible apply p_limit_y h' rfl) <;> omega)); skip)
    | ((with_reducible apply X_Tt); focus (first | ((with_reducible apply p_take_n h') <;> first | omega | ((simp (disch := first | omega | exact Nat.lt_trans (ht _ (by omega)) (by omega)) only [lit, n_eq]) <;> omega)) | ((with_reducible apply p_limit_n h' rfl) <;> omega)); skip))
    exact X_Tt (p_name_n h' i1 (by omega) t2) rfl
  · unfold f_RM_factor
    repeat (first
    | with_reducible refine M_VI ?_
    | with_reducible refine M_VV ?_
    | with_reducible refine M_Vif ?_
    | with_reducible refine M_Vs ?_
    | with_reducible refine M_II ?_
    | with_reducible refine M_IV ?_
    | with_reducible refine M_Iif ?_
    | with_reducible refine M_Is ?_
    | with_reducible refine M_Ichk ?_
    | ((with_reducible apply BM_bndE); focus (first | ((with_reducible apply r_p R hn) <;> first | omega | assumption)); skip)
    | with_reducible refine BM_bnd ?_
    | ((with_reducible apply BM_chk); focus (((with_reducible apply r_i hn)) <;> omega); skip)
    | ((with_reducible apply BM_I); focus (first | ((with_reducible apply r_look R hn) <;> first | omega | assumption) | (with_reducible exact q_look1) | ((with_reducible apply r_draft) <;> first | omega | exact rfl | exact r_p R hn (by omega) (by assumption)) | ((with_reducible apply r_db) <;> omega) | ((with_reducible apply r_nb) <;> omega) | ((with_reducible apply r_nameb) <;> omega) | ((with_reducible apply r_name_y R hn) <;> first | omega | assumption) | ((with_reducible apply r_name_n R hn) <;> first | omega | assumption | exact ht _ (by omega))); skip)
    | ((with_reducible apply BM_V); focus (first | ((with_reducible apply r_take_y R hn) <;> first | omega | assumption | first | exact rfl | (with_reducible exact n00) | exact kp_y (by assumption) (by decide)) | ((with_reducible apply r_take_n R hn) <;> first | omega | assumption | first | exact n10 | ((simp (disch := first | assumption | omega | exact ht _ (by omega)) only [lit, n_eq, n_le, kp_0, kp_1, kp_2, kp_3, kp_4, kp_5, kp_6, kp_7, kp_8, kp_9, kp_10, kp_11, kp_12, kp_13, kp_14, kp_15, kp_16, kp_17, kp_18, kp_19, kp_20, kp_21, kp_22, kp_23, kp_24, kp_25, kp_26, kp_27, kp_28, kp_29, kp_30, kp_31, kp_32, kp_33, kp_34]) <;> omega)) | (with_reducible exact q_takeb) | ((with_reducible apply q_deep_y rfl) <;> omega) | ((with_reducible apply q_deep_n R rfl) <;> first | omega | assumption) | ((with_reducible apply q_deepb' rfl) <;> omega) | (with_reducible exact q_needb) | (with_reducible exact r_need1) | ((with_reducible apply r_need0 R hn) <;> first | omega | assumption)); skip)
    | ((with_reducible apply BM_if); focus (first | exact rfl | (with_reducible exact n00) | exact kp_y (by assumption) (by decide)); skip)
    | ((with_reducible apply BM_nif); focus (first | exact n10 | ((simp (disch := first | assumption | omega | exact ht _ (by omega)) only [lit, n_eq, n_le, kp_0, kp_1, kp_2, kp_3, kp_4, kp_5, kp_6, kp_7, kp_8, kp_9, kp_10, kp_11, kp_12, kp_13, kp_14, kp_15, kp_16, kp_17, kp_18, kp_19, kp_20, kp_21, kp_22, kp_23, kp_24, kp_25, kp_26, kp_27, kp_28, kp_29, kp_30, kp_31, kp_32, kp_33, kp_34]) <;> omega)); skip)
    | (with_reducible refine bm_jn ?_ rfl)
    | ((with_reducible apply bm_join); (focus (first | assumption | exact BI_new (by assumption) | exact BI_new (BI_new (by assumption)) | exact BI_new (BI_new (BI_new (by assumption))))); (focus omega); (focus omega); (focus (first | assumption | exact Or.inr ⟨_, by omega, rfl⟩)); intro _ _)
    | exact ⟨_, _, _, (by with_reducible rfl), by omega, by omega, (by first | assumption | exact BI_new (by assumption) | exact BI_new (BI_new (by assumption)) | exact BI_new (BI_new (BI_new (by assumption)))), (by first | exact Or.inl rfl | assumption | exact Or.inr ⟨_, by omega, rfl⟩)⟩)

theorem sim_factor {d lim hm : Nat} {pf ps : Nat → Int32 → mh_H → Option (Bool × Int32 × mh_H)} {rf rs : Int32 → rm_S → Option (Int32 × rm_S)} (E : EN σ ap dd tt bk bp bv dk dp dv dz n room tk tp tv S N) (hS : Sim σ ap dd dk dp dv dz n tk tp S (d + 1) lim hm ps rs) (hF : d + 1 ≤ 60 → Sim σ ap dd dk dp dv dz n tk tp S (d + 1) lim hm pf rf) (hX : ¬ d + 1 ≤ 60 → ∀ q ds, pf ap (nI (d + 1)) (pz σ ap dd dk dp dv dz q ds) = some (true, 0, mh_new (pz σ ap dd dk dp dv dz q ds) 9)) (hl : 16010 ≤ lim ∧ lim < 25990 ∧ 1 ≤ hm) (hd : d ≤ 60) : Sim σ ap dd dk dp dv dz n tk tp S d (lim + 2) (hm + 1) (f_PA_factor N pf ps) (f_RM_factor N rs rf) := by
  intro flt q ds dr B hI
  by_cases t3 : tk q = 3
  · exact fac_3 E hS hF hX hl hd hI  t3
  by_cases t23 : tk q = 23
  · exact fac_23 E hS hF hX hl hd hI t3 t23
  by_cases t12 : tk q = 12
  · exact fac_12 E hS hF hX hl hd hI t3 t23 t12
  by_cases t11 : tk q = 11
  · exact fac_11 E hS hF hX hl hd hI t3 t23 t12 t11
  by_cases t2 : tk q = 2
  · exact fac_2 E hS hF hX hl hd hI t3 t23 t12 t11 t2
  exact fac_no E hS hF hX hl hd hI t3 t23 t12 t11 t2
end SIMFACTOR
