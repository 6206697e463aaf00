/-! calls and settings -/
section SIMNAMED2
variable {σ : mh_H} {ap dd tt bk bp bv dk dp dv dz n room : Nat} {tk tp : Nat → Nat} {tv : Nat → Int32} {S : rm_S} {N : Nat}
theorem k38_bad {fu : Nat} {rs : (Int32 → rm_S → Option (Int32 × rm_S))} {x y flt : Int32} {q dr : Nat} {B : Nat → Nat → Int32} (hf : 0 < fu) : k_RM_sums_38 N rs fu x y (qz S q 1 flt dr B) = some (qz S q 1 flt dr B) := by
  obtain ⟨fu, rfl⟩ : ∃ x, fu = x + 1 := ⟨fu - 1, by omega⟩
  unfold k_RM_sums_38
  refine X_I q_look1 (X_nif (by decide) (X_V q_takeb rfl))
theorem st_call0 {d lim hm : Nat} {ps : (Nat → Int32 → mh_H → Option (Bool × Int32 × mh_H))} {rs rc rb rs0 rs1 : (Int32 → rm_S → Option (Int32 × rm_S))} (E : EN σ ap dd tt bk bp bv dk dp dv dz n room tk tp tv S N) (hS0 : Sim σ ap dd dk dp dv dz n tk tp S (d + 1) lim hm ps rs0) (hS1 : Sim σ ap dd dk dp dv dz n tk tp S (d + 1) lim hm ps rs1) (hl : 16010 ≤ lim ∧ lim < 25900 ∧ 1 ≤ hm) (hd : d ≤ 60) {flt : Int32} {q : Nat} {ds : List Ent} {dr : Nat} {B : Nat → Nat → Int32} (hI : Inp n tk q ds dr B) (t2 : tk q = 2) (u1 : tk (q + 1) = 12) : OutK σ ap dd dk dp dv dz n tk tp S flt q ds dr B (lim + 10) (hm + 1) (f_PA_call N ps ap (nI d) (pz σ ap dd dk dp dv dz q ds)) (f_RM_statement N rs (f_RM_named N (f_RM_sums N rs0) rs1) rc rb (nI d) (qz S q 0 flt dr B)) := by
  have hI' := hI
  have E' := E
  obtain ⟨⟨i1, i2⟩, i3, i4, i5⟩ := hI
  obtain ⟨h, R, hn, hNN⟩ := E
  have h' := h
  obtain ⟨⟨a1, a2, a3⟩, ⟨a4, a5, a6, a7, a8, a9, a10⟩, ⟨c1, c2⟩, ⟨c4, c5, c6⟩, ⟨c7, c8, c9, c10⟩, -, ⟨e5, e6, e7⟩, e8, -, -, -, -, e9, e10, e11, e12, e13⟩ := h
  have ht : ∀ j, j < n → tk j < 35 := fun j hj => (e9 j hj).2.2.2
  have hb1 : ∀ j, j < n → j < hN σ bk := fun j hj => by omega
  have hb2 : ∀ j, j < n → j < hN σ bp := fun j hj => by omega
  have hd1 : nI d + 1 = nI (d + 1) := n_add d 1
  have q1 := e13 q i1 (by omega)
  have g1 := gd_s i2 (by omega) (by omega)
  have hp := R_3 R i1 i2
  have htq1 := ht (q + 1) q1
  have qa := e13 (q + 1) q1 (by omega)
  have ga := gd_s g1 (by omega) (by omega)
  have htqa := ht (q + 1 + 1) qa
  obtain ⟨B4, B5, j1, j2, hb⟩ := nb_call (S := S) (N := N) (q := q) (flt := flt) (p := tp q) (pn := tp q) (vn := nI q) (show dr + 1 + 1 < 26000 by omega) i5
  have hl1 : (ds ++ post (one (dr + 1 + 1) 33 (tp q) 0 .leaf)).length = ds.length + 1 := by simp [post]
  have hpa : ds ++ post (one (dr + 1 + 1) 33 (tp q) 0 .leaf) ++ post (one dr 13 (tp q) (nI q) .leaf) = ds ++ post (app (one (dr + 1 + 1) 33 (tp q) 0 .leaf) (one dr 13 (tp q) (nI q) .leaf)) := by rw [post_app, ← List.append_assoc]
  have hll : (ds ++ post (app (one (dr + 1 + 1) 33 (tp q) 0 .leaf) (one dr 13 (tp q) (nI q) .leaf))).length = ds.length + 2 := by simp [post, app]
  have hlk : 2 ≤ (kls (app (one (dr + 1 + 1) 33 (tp q) 0 .leaf) (one dr 13 (tp q) (nI q) .leaf))).length := by simp [kls, app]
  have hwf : wf n tk tp (app (one (dr + 1 + 1) 33 (tp q) 0 .leaf) (one dr 13 (tp q) (nI q) .leaf)) := wf_app ⟨by simp [okk, kls], by simp, ⟨hp, by simp [siz]⟩, trivial, trivial⟩ (s_first i1 i2 t2 hp _)
  have hhg : hgt (app (one (dr + 1 + 1) 33 (tp q) 0 .leaf) (one dr 13 (tp q) (nI q) .leaf)) ≤ hm := by simp only [hgt, app]; omega
  by_cases u13 : tk (q + 1 + 1) = 13
  · have qb := e13 (q + 1 + 1) qa (by omega)
    have gb := gd_s ga (by omega) (by omega)
    have htqb := ht (q + 1 + 1 + 1) qb
    by_cases u19 : tk (q + 1 + 1 + 1) = 19
    · have qc := e13 (q + 1 + 1 + 1) qb (by omega)
      have gc := gd_s gb (by omega) (by omega)
      refine OutK_y (q := q + 1 + 1 + 1 + 1) (k := 7) ?_ ?_ (New_of hb (by omega) qc gc (by omega) (by simp only [app, siz] at *; omega) ⟨by simp [okk, app, kls], by simp, ⟨hp, by simp only [app, siz] at *; omega⟩, hwf, trivial⟩ (by simp only [app, hgt] at *; omega))
      · unfold f_PA_call
        repeat (first
    | ((with_reducible apply X_bndE); focus (first | ((with_reducible apply pz_pp h') <;> omega) | ((with_reducible apply pz_kk h') <;> omega) | (with_reducible exact pz_14)); skip)
    | with_reducible refine X_bnd ?_
    | ((with_reducible apply X_chk); focus (first | exact a1 | exact a2 | exact a3 | exact a4 | exact a5 | ((with_reducible apply pz_i1 h') <;> omega) | ((with_reducible apply pz_i2 h') <;> omega)); skip)
    | ((with_reducible apply X_rfO); focus (first | exact c1 | exact c2 | exact c5); skip)
    | ((with_reducible apply X_I); focus (first | ((with_reducible apply p_kaC h') <;> omega) | ((with_reducible apply p_paC h') <;> omega) | ((with_reducible apply p_skip_y h') <;> first | omega | ((simp (disch := omega) only [lit, n_eq]) <;> omega)) | ((with_reducible apply p_skip_n h') <;> first | omega | ((simp (disch := first | omega | exact Nat.lt_trans (ht _ (by omega)) (by omega)) only [lit, n_eq]) <;> omega))); skip)
    | ((with_reducible apply X_if); focus (first | (with_reducible exact rfl) | (with_reducible exact n00) | ((simp (disch := omega) only [lit, n_eq]) <;> omega)); skip)
    | ((with_reducible apply X_nif); focus (first | exact n10 | ((with_reducible apply p_cnt h') <;> omega) | ((simp (disch := first | omega | exact Nat.lt_trans (ht _ (by omega)) (by omega)) only [lit, n_eq]) <;> omega)); skip)
    | ((with_reducible apply X_T); focus (first | ((with_reducible apply p_take_y h') <;> first | omega | ((simp (disch := omega) only [lit, n_eq]) <;> omega)) | ((with_reducible apply p_limit_y h' rfl) <;> omega)); skip)
    | ((with_reducible apply X_Tt); focus (first | ((with_reducible apply p_take_n h') <;> first | omega | ((simp (disch := first | omega | exact Nat.lt_trans (ht _ (by omega)) (by omega)) only [lit, n_eq]) <;> omega)) | ((with_reducible apply p_limit_n h' rfl) <;> omega)); skip))
        refine X_I (p_kat1 h' q1) ?_
        repeat (first
    | ((with_reducible apply X_bndE); focus (first | ((with_reducible apply pz_pp h') <;> omega) | ((with_reducible apply pz_kk h') <;> omega) | (with_reducible exact pz_14)); skip)
    | with_reducible refine X_bnd ?_
    | ((with_reducible apply X_chk); focus (first | exact a1 | exact a2 | exact a3 | exact a4 | exact a5 | ((with_reducible apply pz_i1 h') <;> omega) | ((with_reducible apply pz_i2 h') <;> omega)); skip)
    | ((with_reducible apply X_rfO); focus (first | exact c1 | exact c2 | exact c5); skip)
    | ((with_reducible apply X_I); focus (first | ((with_reducible apply p_kaC h') <;> omega) | ((with_reducible apply p_paC h') <;> omega) | ((with_reducible apply p_skip_y h') <;> first | omega | ((simp (disch := omega) only [lit, n_eq]) <;> omega)) | ((with_reducible apply p_skip_n h') <;> first | omega | ((simp (disch := first | omega | exact Nat.lt_trans (ht _ (by omega)) (by omega)) only [lit, n_eq]) <;> omega))); skip)
    | ((with_reducible apply X_if); focus (first | (with_reducible exact rfl) | (with_reducible exact n00) | ((simp (disch := omega) only [lit, n_eq]) <;> omega)); skip)
    | ((with_reducible apply X_nif); focus (first | exact n10 | ((with_reducible apply p_cnt h') <;> omega) | ((simp (disch := first | omega | exact Nat.lt_trans (ht _ (by omega)) (by omega)) only [lit, n_eq]) <;> omega)); skip)
    | ((with_reducible apply X_T); focus (first | ((with_reducible apply p_take_y h') <;> first | omega | ((simp (disch := omega) only [lit, n_eq]) <;> omega)) | ((with_reducible apply p_limit_y h' rfl) <;> omega)); skip)
    | ((with_reducible apply X_Tt); focus (first | ((with_reducible apply p_take_n h') <;> first | omega | ((simp (disch := first | omega | exact Nat.lt_trans (ht _ (by omega)) (by omega)) only [lit, n_eq]) <;> omega)) | ((with_reducible apply p_limit_n h' rfl) <;> omega)); skip))
        refine X_V (p_add33 h' i1 (by omega) (dr + 1 + 1)) ?_
        unfold k_PA_call_53
        repeat (first
    | ((with_reducible apply X_bndE); focus (first | ((with_reducible apply pz_pp h') <;> omega) | ((with_reducible apply pz_kk h') <;> omega) | (with_reducible exact pz_14)); skip)
    | with_reducible refine X_bnd ?_
    | ((with_reducible apply X_chk); focus (first | exact a1 | exact a2 | exact a3 | exact a4 | exact a5 | ((with_reducible apply pz_i1 h') <;> omega) | ((with_reducible apply pz_i2 h') <;> omega)); skip)
    | ((with_reducible apply X_rfO); focus (first | exact c1 | exact c2 | exact c5); skip)
    | ((with_reducible apply X_I); focus (first | ((with_reducible apply p_kaC h') <;> omega) | ((with_reducible apply p_paC h') <;> omega) | ((with_reducible apply p_skip_y h') <;> first | omega | ((simp (disch := omega) only [lit, n_eq]) <;> omega)) | ((with_reducible apply p_skip_n h') <;> first | omega | ((simp (disch := first | omega | exact Nat.lt_trans (ht _ (by omega)) (by omega)) only [lit, n_eq]) <;> omega))); skip)
    | ((with_reducible apply X_if); focus (first | (with_reducible exact rfl) | (with_reducible exact n00) | ((simp (disch := omega) only [lit, n_eq]) <;> omega)); skip)
    | ((with_reducible apply X_nif); focus (first | exact n10 | ((with_reducible apply p_cnt h') <;> omega) | ((simp (disch := first | omega | exact Nat.lt_trans (ht _ (by omega)) (by omega)) only [lit, n_eq]) <;> omega)); skip)
    | ((with_reducible apply X_T); focus (first | ((with_reducible apply p_take_y h') <;> first | omega | ((simp (disch := omega) only [lit, n_eq]) <;> omega)) | ((with_reducible apply p_limit_y h' rfl) <;> omega)); skip)
    | ((with_reducible apply X_Tt); focus (first | ((with_reducible apply p_take_n h') <;> first | omega | ((simp (disch := first | omega | exact Nat.lt_trans (ht _ (by omega)) (by omega)) only [lit, n_eq]) <;> omega)) | ((with_reducible apply p_limit_n h' rfl) <;> omega)); skip))
        refine X_T (p_name_y h' i1 (by omega) t2 dr) ?_
        repeat (first
    | ((with_reducible apply X_bndE); focus (first | ((with_reducible apply pz_pp h') <;> omega) | ((with_reducible apply pz_kk h') <;> omega) | (with_reducible exact pz_14)); skip)
    | with_reducible refine X_bnd ?_
    | ((with_reducible apply X_chk); focus (first | exact a1 | exact a2 | exact a3 | exact a4 | exact a5 | ((with_reducible apply pz_i1 h') <;> omega) | ((with_reducible apply pz_i2 h') <;> omega)); skip)
    | ((with_reducible apply X_rfO); focus (first | exact c1 | exact c2 | exact c5); skip)
    | ((with_reducible apply X_I); focus (first | ((with_reducible apply p_kaC h') <;> omega) | ((with_reducible apply p_paC h') <;> omega) | ((with_reducible apply p_skip_y h') <;> first | omega | ((simp (disch := omega) only [lit, n_eq]) <;> omega)) | ((with_reducible apply p_skip_n h') <;> first | omega | ((simp (disch := first | omega | exact Nat.lt_trans (ht _ (by omega)) (by omega)) only [lit, n_eq]) <;> omega))); skip)
    | ((with_reducible apply X_if); focus (first | (with_reducible exact rfl) | (with_reducible exact n00) | ((simp (disch := omega) only [lit, n_eq]) <;> omega)); skip)
    | ((with_reducible apply X_nif); focus (first | exact n10 | ((with_reducible apply p_cnt h') <;> omega) | ((simp (disch := first | omega | exact Nat.lt_trans (ht _ (by omega)) (by omega)) only [lit, n_eq]) <;> omega)); skip)
    | ((with_reducible apply X_T); focus (first | ((with_reducible apply p_take_y h') <;> first | omega | ((simp (disch := omega) only [lit, n_eq]) <;> omega)) | ((with_reducible apply p_limit_y h' rfl) <;> omega)); skip)
    | ((with_reducible apply X_Tt); focus (first | ((with_reducible apply p_take_n h') <;> first | omega | ((simp (disch := first | omega | exact Nat.lt_trans (ht _ (by omega)) (by omega)) only [lit, n_eq]) <;> omega)) | ((with_reducible apply p_limit_n h' rfl) <;> omega)); skip))
        rw [hpa]
        try rw [hd1]
        repeat (first
    | ((with_reducible apply X_bndE); focus (first | ((with_reducible apply pz_pp h') <;> omega) | ((with_reducible apply pz_kk h') <;> omega) | (with_reducible exact pz_14)); skip)
    | with_reducible refine X_bnd ?_
    | ((with_reducible apply X_chk); focus (first | exact a1 | exact a2 | exact a3 | exact a4 | exact a5 | ((with_reducible apply pz_i1 h') <;> omega) | ((with_reducible apply pz_i2 h') <;> omega)); skip)
    | ((with_reducible apply X_rfO); focus (first | exact c1 | exact c2 | exact c5); skip)
    | ((with_reducible apply X_I); focus (first | ((with_reducible apply p_kaC h') <;> omega) | ((with_reducible apply p_paC h') <;> omega) | ((with_reducible apply p_skip_y h') <;> first | omega | ((simp (disch := omega) only [lit, n_eq]) <;> omega)) | ((with_reducible apply p_skip_n h') <;> first | omega | ((simp (disch := first | omega | exact Nat.lt_trans (ht _ (by omega)) (by omega)) only [lit, n_eq]) <;> omega))); skip)
    | ((with_reducible apply X_if); focus (first | (with_reducible exact rfl) | (with_reducible exact n00) | ((simp (disch := omega) only [lit, n_eq]) <;> omega)); skip)
    | ((with_reducible apply X_nif); focus (first | exact n10 | ((with_reducible apply p_cnt h') <;> omega) | ((simp (disch := first | omega | exact Nat.lt_trans (ht _ (by omega)) (by omega)) only [lit, n_eq]) <;> omega)); skip)
    | ((with_reducible apply X_T); focus (first | ((with_reducible apply p_take_y h') <;> first | omega | ((simp (disch := omega) only [lit, n_eq]) <;> omega)) | ((with_reducible apply p_limit_y h' rfl) <;> omega)); skip)
    | ((with_reducible apply X_Tt); focus (first | ((with_reducible apply p_take_n h') <;> first | omega | ((simp (disch := first | omega | exact Nat.lt_trans (ht _ (by omega)) (by omega)) only [lit, n_eq]) <;> omega)) | ((with_reducible apply p_limit_n h' rfl) <;> omega)); skip))
        unfold k_PA_call_121
        repeat (first
    | ((with_reducible apply X_bndE); focus (first | ((with_reducible apply pz_pp h') <;> omega) | ((with_reducible apply pz_kk h') <;> omega) | (with_reducible exact pz_14)); skip)
    | with_reducible refine X_bnd ?_
    | ((with_reducible apply X_chk); focus (first | exact a1 | exact a2 | exact a3 | exact a4 | exact a5 | ((with_reducible apply pz_i1 h') <;> omega) | ((with_reducible apply pz_i2 h') <;> omega)); skip)
    | ((with_reducible apply X_rfO); focus (first | exact c1 | exact c2 | exact c5); skip)
    | ((with_reducible apply X_I); focus (first | ((with_reducible apply p_kaC h') <;> omega) | ((with_reducible apply p_paC h') <;> omega) | ((with_reducible apply p_skip_y h') <;> first | omega | ((simp (disch := omega) only [lit, n_eq]) <;> omega)) | ((with_reducible apply p_skip_n h') <;> first | omega | ((simp (disch := first | omega | exact Nat.lt_trans (ht _ (by omega)) (by omega)) only [lit, n_eq]) <;> omega))); skip)
    | ((with_reducible apply X_if); focus (first | (with_reducible exact rfl) | (with_reducible exact n00) | ((simp (disch := omega) only [lit, n_eq]) <;> omega)); skip)
    | ((with_reducible apply X_nif); focus (first | exact n10 | ((with_reducible apply p_cnt h') <;> omega) | ((simp (disch := first | omega | exact Nat.lt_trans (ht _ (by omega)) (by omega)) only [lit, n_eq]) <;> omega)); skip)
    | ((with_reducible apply X_T); focus (first | ((with_reducible apply p_take_y h') <;> first | omega | ((simp (disch := omega) only [lit, n_eq]) <;> omega)) | ((with_reducible apply p_limit_y h' rfl) <;> omega)); skip)
    | ((with_reducible apply X_Tt); focus (first | ((with_reducible apply p_take_n h') <;> first | omega | ((simp (disch := first | omega | exact Nat.lt_trans (ht _ (by omega)) (by omega)) only [lit, n_eq]) <;> omega)) | ((with_reducible apply p_limit_n h' rfl) <;> omega)); skip))
        rfl
      · unfold f_RM_statement f_RM_named f_RM_sums k_RM_named_217 k_RM_named_108
        simp only [hd1]
        repeat (first
    | with_reducible refine A_VI ?_
    | with_reducible refine A_VV ?_
    | with_reducible refine A_Vif ?_
    | with_reducible refine A_Vs ?_
    | with_reducible refine A_II ?_
    | with_reducible refine A_IV ?_
    | with_reducible refine A_Iif ?_
    | with_reducible refine A_Is ?_
    | with_reducible refine A_Ichk ?_
    | ((with_reducible apply X_bndE); focus (first | ((with_reducible apply r_p R hn) <;> first | omega | assumption)); skip)
    | with_reducible refine X_bnd ?_
    | ((with_reducible apply X_chk); focus (((with_reducible apply r_i hn)) <;> omega); skip)
    | ((with_reducible apply X_I); focus (first | ((with_reducible apply r_look R hn) <;> first | omega | assumption) | (with_reducible exact q_look1) | ((with_reducible apply r_draft) <;> first | omega | exact rfl | exact r_p R hn (by omega) (by assumption)) | ((with_reducible apply r_name_y R hn) <;> first | omega | assumption)); skip)
    | ((with_reducible apply X_V); focus (first | ((with_reducible apply r_take_y R hn) <;> first | omega | assumption | first | exact rfl | (with_reducible exact n00) | exact kp_y (by assumption) (by decide)) | ((with_reducible apply r_take_n R hn) <;> first | omega | assumption | first | exact n10 | ((simp (disch := first | assumption | omega | exact ht _ (by omega)) only [lit, n_eq, n_le, kp_0, kp_1, kp_2, kp_3, kp_4, kp_5, kp_6, kp_7, kp_8, kp_9, kp_10, kp_11, kp_12, kp_13, kp_14, kp_15, kp_16, kp_17, kp_18, kp_19, kp_20, kp_21, kp_22, kp_23, kp_24, kp_25, kp_26, kp_27, kp_28, kp_29, kp_30, kp_31, kp_32, kp_33, kp_34]) <;> omega)) | (with_reducible exact q_takeb) | ((with_reducible apply q_deep_y rfl) <;> omega) | ((with_reducible apply q_deep_n R rfl) <;> first | omega | assumption) | (with_reducible exact q_needb) | (with_reducible exact r_need1) | ((with_reducible apply r_need0 R hn) <;> first | omega | assumption)); skip)
    | ((with_reducible apply X_if); focus (first | exact rfl | (with_reducible exact n00) | exact kp_y (by assumption) (by decide)); skip)
    | ((with_reducible apply X_nif); focus (first | exact n10 | ((simp (disch := first | assumption | omega | exact ht _ (by omega)) only [lit, n_eq, n_le, kp_0, kp_1, kp_2, kp_3, kp_4, kp_5, kp_6, kp_7, kp_8, kp_9, kp_10, kp_11, kp_12, kp_13, kp_14, kp_15, kp_16, kp_17, kp_18, kp_19, kp_20, kp_21, kp_22, kp_23, kp_24, kp_25, kp_26, kp_27, kp_28, kp_29, kp_30, kp_31, kp_32, kp_33, kp_34]) <;> omega)); skip))
        refine X_V (j1 _) ?_
        repeat (first
    | with_reducible refine A_VI ?_
    | with_reducible refine A_VV ?_
    | with_reducible refine A_Vif ?_
    | with_reducible refine A_Vs ?_
    | with_reducible refine A_II ?_
    | with_reducible refine A_IV ?_
    | with_reducible refine A_Iif ?_
    | with_reducible refine A_Is ?_
    | with_reducible refine A_Ichk ?_
    | ((with_reducible apply X_bndE); focus (first | ((with_reducible apply r_p R hn) <;> first | omega | assumption)); skip)
    | with_reducible refine X_bnd ?_
    | ((with_reducible apply X_chk); focus (((with_reducible apply r_i hn)) <;> omega); skip)
    | ((with_reducible apply X_I); focus (first | ((with_reducible apply r_look R hn) <;> first | omega | assumption) | (with_reducible exact q_look1) | ((with_reducible apply r_draft) <;> first | omega | exact rfl | exact r_p R hn (by omega) (by assumption)) | ((with_reducible apply r_name_y R hn) <;> first | omega | assumption)); skip)
    | ((with_reducible apply X_V); focus (first | ((with_reducible apply r_take_y R hn) <;> first | omega | assumption | first | exact rfl | (with_reducible exact n00) | exact kp_y (by assumption) (by decide)) | ((with_reducible apply r_take_n R hn) <;> first | omega | assumption | first | exact n10 | ((simp (disch := first | assumption | omega | exact ht _ (by omega)) only [lit, n_eq, n_le, kp_0, kp_1, kp_2, kp_3, kp_4, kp_5, kp_6, kp_7, kp_8, kp_9, kp_10, kp_11, kp_12, kp_13, kp_14, kp_15, kp_16, kp_17, kp_18, kp_19, kp_20, kp_21, kp_22, kp_23, kp_24, kp_25, kp_26, kp_27, kp_28, kp_29, kp_30, kp_31, kp_32, kp_33, kp_34]) <;> omega)) | (with_reducible exact q_takeb) | ((with_reducible apply q_deep_y rfl) <;> omega) | ((with_reducible apply q_deep_n R rfl) <;> first | omega | assumption) | (with_reducible exact q_needb) | (with_reducible exact r_need1) | ((with_reducible apply r_need0 R hn) <;> first | omega | assumption)); skip)
    | ((with_reducible apply X_if); focus (first | exact rfl | (with_reducible exact n00) | exact kp_y (by assumption) (by decide)); skip)
    | ((with_reducible apply X_nif); focus (first | exact n10 | ((simp (disch := first | assumption | omega | exact ht _ (by omega)) only [lit, n_eq, n_le, kp_0, kp_1, kp_2, kp_3, kp_4, kp_5, kp_6, kp_7, kp_8, kp_9, kp_10, kp_11, kp_12, kp_13, kp_14, kp_15, kp_16, kp_17, kp_18, kp_19, kp_20, kp_21, kp_22, kp_23, kp_24, kp_25, kp_26, kp_27, kp_28, kp_29, kp_30, kp_31, kp_32, kp_33, kp_34]) <;> omega)); skip))
        refine X_V (j2 _) ?_
        repeat (first
    | with_reducible refine A_VI ?_
    | with_reducible refine A_VV ?_
    | with_reducible refine A_Vif ?_
    | with_reducible refine A_Vs ?_
    | with_reducible refine A_II ?_
    | with_reducible refine A_IV ?_
    | with_reducible refine A_Iif ?_
    | with_reducible refine A_Is ?_
    | with_reducible refine A_Ichk ?_
    | ((with_reducible apply X_bndE); focus (first | ((with_reducible apply r_p R hn) <;> first | omega | assumption)); skip)
    | with_reducible refine X_bnd ?_
    | ((with_reducible apply X_chk); focus (((with_reducible apply r_i hn)) <;> omega); skip)
    | ((with_reducible apply X_I); focus (first | ((with_reducible apply r_look R hn) <;> first | omega | assumption) | (with_reducible exact q_look1) | ((with_reducible apply r_draft) <;> first | omega | exact rfl | exact r_p R hn (by omega) (by assumption)) | ((with_reducible apply r_name_y R hn) <;> first | omega | assumption)); skip)
    | ((with_reducible apply X_V); focus (first | ((with_reducible apply r_take_y R hn) <;> first | omega | assumption | first | exact rfl | (with_reducible exact n00) | exact kp_y (by assumption) (by decide)) | ((with_reducible apply r_take_n R hn) <;> first | omega | assumption | first | exact n10 | ((simp (disch := first | assumption | omega | exact ht _ (by omega)) only [lit, n_eq, n_le, kp_0, kp_1, kp_2, kp_3, kp_4, kp_5, kp_6, kp_7, kp_8, kp_9, kp_10, kp_11, kp_12, kp_13, kp_14, kp_15, kp_16, kp_17, kp_18, kp_19, kp_20, kp_21, kp_22, kp_23, kp_24, kp_25, kp_26, kp_27, kp_28, kp_29, kp_30, kp_31, kp_32, kp_33, kp_34]) <;> omega)) | (with_reducible exact q_takeb) | ((with_reducible apply q_deep_y rfl) <;> omega) | ((with_reducible apply q_deep_n R rfl) <;> first | omega | assumption) | (with_reducible exact q_needb) | (with_reducible exact r_need1) | ((with_reducible apply r_need0 R hn) <;> first | omega | assumption)); skip)
    | ((with_reducible apply X_if); focus (first | exact rfl | (with_reducible exact n00) | exact kp_y (by assumption) (by decide)); skip)
    | ((with_reducible apply X_nif); focus (first | exact n10 | ((simp (disch := first | assumption | omega | exact ht _ (by omega)) only [lit, n_eq, n_le, kp_0, kp_1, kp_2, kp_3, kp_4, kp_5, kp_6, kp_7, kp_8, kp_9, kp_10, kp_11, kp_12, kp_13, kp_14, kp_15, kp_16, kp_17, kp_18, kp_19, kp_20, kp_21, kp_22, kp_23, kp_24, kp_25, kp_26, kp_27, kp_28, kp_29, kp_30, kp_31, kp_32, kp_33, kp_34]) <;> omega)); skip))
        rfl
    · refine OutK_b (q := q + 1 + 1 + 1) (x := post (app (one (dr + 1 + 1) 33 (tp q) 0 .leaf) (one dr 13 (tp q) (nI q) .leaf))) ?_ rfl ?_ qb gb
      · unfold f_PA_call
        repeat (first
    | ((with_reducible apply X_bndE); focus (first | ((with_reducible apply pz_pp h') <;> omega) | ((with_reducible apply pz_kk h') <;> omega) | (with_reducible exact pz_14)); skip)
    | with_reducible refine X_bnd ?_
    | ((with_reducible apply X_chk); focus (first | exact a1 | exact a2 | exact a3 | exact a4 | exact a5 | ((with_reducible apply pz_i1 h') <;> omega) | ((with_reducible apply pz_i2 h') <;> omega)); skip)
    | ((with_reducible apply X_rfO); focus (first | exact c1 | exact c2 | exact c5); skip)
    | ((with_reducible apply X_I); focus (first | ((with_reducible apply p_kaC h') <;> omega) | ((with_reducible apply p_paC h') <;> omega) | ((with_reducible apply p_skip_y h') <;> first | omega | ((simp (disch := omega) only [lit, n_eq]) <;> omega)) | ((with_reducible apply p_skip_n h') <;> first | omega | ((simp (disch := first | omega | exact Nat.lt_trans (ht _ (by omega)) (by omega)) only [lit, n_eq]) <;> omega))); skip)
    | ((with_reducible apply X_if); focus (first | (with_reducible exact rfl) | (with_reducible exact n00) | ((simp (disch := omega) only [lit, n_eq]) <;> omega)); skip)
    | ((with_reducible apply X_nif); focus (first | exact n10 | ((with_reducible apply p_cnt h') <;> omega) | ((simp (disch := first | omega | exact Nat.lt_trans (ht _ (by omega)) (by omega)) only [lit, n_eq]) <;> omega)); skip)
    | ((with_reducible apply X_T); focus (first | ((with_reducible apply p_take_y h') <;> first | omega | ((simp (disch := omega) only [lit, n_eq]) <;> omega)) | ((with_reducible apply p_limit_y h' rfl) <;> omega)); skip)
    | ((with_reducible apply X_Tt); focus (first | ((with_reducible apply p_take_n h') <;> first | omega | ((simp (disch := first | omega | exact Nat.lt_trans (ht _ (by omega)) (by omega)) only [lit, n_eq]) <;> omega)) | ((with_reducible apply p_limit_n h' rfl) <;> omega)); skip))
        refine X_I (p_kat1 h' q1) ?_
        repeat (first
    | ((with_reducible apply X_bndE); focus (first | ((with_reducible apply pz_pp h') <;> omega) | ((with_reducible apply pz_kk h') <;> omega) | (with_reducible exact pz_14)); skip)
    | with_reducible refine X_bnd ?_
    | ((with_reducible apply X_chk); focus (first | exact a1 | exact a2 | exact a3 | exact a4 | exact a5 | ((with_reducible apply pz_i1 h') <;> omega) | ((with_reducible apply pz_i2 h') <;> omega)); skip)
    | ((with_reducible apply X_rfO); focus (first | exact c1 | exact c2 | exact c5); skip)
    | ((with_reducible apply X_I); focus (first | ((with_reducible apply p_kaC h') <;> omega) | ((with_reducible apply p_paC h') <;> omega) | ((with_reducible apply p_skip_y h') <;> first | omega | ((simp (disch := omega) only [lit, n_eq]) <;> omega)) | ((with_reducible apply p_skip_n h') <;> first | omega | ((simp (disch := first | omega | exact Nat.lt_trans (ht _ (by omega)) (by omega)) only [lit, n_eq]) <;> omega))); skip)
    | ((with_reducible apply X_if); focus (first | (with_reducible exact rfl) | (with_reducible exact n00) | ((simp (disch := omega) only [lit, n_eq]) <;> omega)); skip)
    | ((with_reducible apply X_nif); focus (first | exact n10 | ((with_reducible apply p_cnt h') <;> omega) | ((simp (disch := first | omega | exact Nat.lt_trans (ht _ (by omega)) (by omega)) only [lit, n_eq]) <;> omega)); skip)
    | ((with_reducible apply X_T); focus (first | ((with_reducible apply p_take_y h') <;> first | omega | ((simp (disch := omega) only [lit, n_eq]) <;> omega)) | ((with_reducible apply p_limit_y h' rfl) <;> omega)); skip)
    | ((with_reducible apply X_Tt); focus (first | ((with_reducible apply p_take_n h') <;> first | omega | ((simp (disch := first | omega | exact Nat.lt_trans (ht _ (by omega)) (by omega)) only [lit, n_eq]) <;> omega)) | ((with_reducible apply p_limit_n h' rfl) <;> omega)); skip))
        refine X_V (p_add33 h' i1 (by omega) (dr + 1 + 1)) ?_
        unfold k_PA_call_53
        repeat (first
    | ((with_reducible apply X_bndE); focus (first | ((with_reducible apply pz_pp h') <;> omega) | ((with_reducible apply pz_kk h') <;> omega) | (with_reducible exact pz_14)); skip)
    | with_reducible refine X_bnd ?_
    | ((with_reducible apply X_chk); focus (first | exact a1 | exact a2 | exact a3 | exact a4 | exact a5 | ((with_reducible apply pz_i1 h') <;> omega) | ((with_reducible apply pz_i2 h') <;> omega)); skip)
    | ((with_reducible apply X_rfO); focus (first | exact c1 | exact c2 | exact c5); skip)
    | ((with_reducible apply X_I); focus (first | ((with_reducible apply p_kaC h') <;> omega) | ((with_reducible apply p_paC h') <;> omega) | ((with_reducible apply p_skip_y h') <;> first | omega | ((simp (disch := omega) only [lit, n_eq]) <;> omega)) | ((with_reducible apply p_skip_n h') <;> first | omega | ((simp (disch := first | omega | exact Nat.lt_trans (ht _ (by omega)) (by omega)) only [lit, n_eq]) <;> omega))); skip)
    | ((with_reducible apply X_if); focus (first | (with_reducible exact rfl) | (with_reducible exact n00) | ((simp (disch := omega) only [lit, n_eq]) <;> omega)); skip)
    | ((with_reducible apply X_nif); focus (first | exact n10 | ((with_reducible apply p_cnt h') <;> omega) | ((simp (disch := first | omega | exact Nat.lt_trans (ht _ (by omega)) (by omega)) only [lit, n_eq]) <;> omega)); skip)
    | ((with_reducible apply X_T); focus (first | ((with_reducible apply p_take_y h') <;> first | omega | ((simp (disch := omega) only [lit, n_eq]) <;> omega)) | ((with_reducible apply p_limit_y h' rfl) <;> omega)); skip)
    | ((with_reducible apply X_Tt); focus (first | ((with_reducible apply p_take_n h') <;> first | omega | ((simp (disch := first | omega | exact Nat.lt_trans (ht _ (by omega)) (by omega)) only [lit, n_eq]) <;> omega)) | ((with_reducible apply p_limit_n h' rfl) <;> omega)); skip))
        refine X_T (p_name_y h' i1 (by omega) t2 dr) ?_
        repeat (first
    | ((with_reducible apply X_bndE); focus (first | ((with_reducible apply pz_pp h') <;> omega) | ((with_reducible apply pz_kk h') <;> omega) | (with_reducible exact pz_14)); skip)
    | with_reducible refine X_bnd ?_
    | ((with_reducible apply X_chk); focus (first | exact a1 | exact a2 | exact a3 | exact a4 | exact a5 | ((with_reducible apply pz_i1 h') <;> omega) | ((with_reducible apply pz_i2 h') <;> omega)); skip)
    | ((with_reducible apply X_rfO); focus (first | exact c1 | exact c2 | exact c5); skip)
    | ((with_reducible apply X_I); focus (first | ((with_reducible apply p_kaC h') <;> omega) | ((with_reducible apply p_paC h') <;> omega) | ((with_reducible apply p_skip_y h') <;> first | omega | ((simp (disch := omega) only [lit, n_eq]) <;> omega)) | ((with_reducible apply p_skip_n h') <;> first | omega | ((simp (disch := first | omega | exact Nat.lt_trans (ht _ (by omega)) (by omega)) only [lit, n_eq]) <;> omega))); skip)
    | ((with_reducible apply X_if); focus (first | (with_reducible exact rfl) | (with_reducible exact n00) | ((simp (disch := omega) only [lit, n_eq]) <;> omega)); skip)
    | ((with_reducible apply X_nif); focus (first | exact n10 | ((with_reducible apply p_cnt h') <;> omega) | ((simp (disch := first | omega | exact Nat.lt_trans (ht _ (by omega)) (by omega)) only [lit, n_eq]) <;> omega)); skip)
    | ((with_reducible apply X_T); focus (first | ((with_reducible apply p_take_y h') <;> first | omega | ((simp (disch := omega) only [lit, n_eq]) <;> omega)) | ((with_reducible apply p_limit_y h' rfl) <;> omega)); skip)
    | ((with_reducible apply X_Tt); focus (first | ((with_reducible apply p_take_n h') <;> first | omega | ((simp (disch := first | omega | exact Nat.lt_trans (ht _ (by omega)) (by omega)) only [lit, n_eq]) <;> omega)) | ((with_reducible apply p_limit_n h' rfl) <;> omega)); skip))
        rw [hpa]
        try rw [hd1]
        repeat (first
    | ((with_reducible apply X_bndE); focus (first | ((with_reducible apply pz_pp h') <;> omega) | ((with_reducible apply pz_kk h') <;> omega) | (with_reducible exact pz_14)); skip)
    | with_reducible refine X_bnd ?_
    | ((with_reducible apply X_chk); focus (first | exact a1 | exact a2 | exact a3 | exact a4 | exact a5 | ((with_reducible apply pz_i1 h') <;> omega) | ((with_reducible apply pz_i2 h') <;> omega)); skip)
    | ((with_reducible apply X_rfO); focus (first | exact c1 | exact c2 | exact c5); skip)
    | ((with_reducible apply X_I); focus (first | ((with_reducible apply p_kaC h') <;> omega) | ((with_reducible apply p_paC h') <;> omega) | ((with_reducible apply p_skip_y h') <;> first | omega | ((simp (disch := omega) only [lit, n_eq]) <;> omega)) | ((with_reducible apply p_skip_n h') <;> first | omega | ((simp (disch := first | omega | exact Nat.lt_trans (ht _ (by omega)) (by omega)) only [lit, n_eq]) <;> omega))); skip)
    | ((with_reducible apply X_if); focus (first | (with_reducible exact rfl) | (with_reducible exact n00) | ((simp (disch := omega) only [lit, n_eq]) <;> omega)); skip)
    | ((with_reducible apply X_nif); focus (first | exact n10 | ((with_reducible apply p_cnt h') <;> omega) | ((simp (disch := first | omega | exact Nat.lt_trans (ht _ (by omega)) (by omega)) only [lit, n_eq]) <;> omega)); skip)
    | ((with_reducible apply X_T); focus (first | ((with_reducible apply p_take_y h') <;> first | omega | ((simp (disch := omega) only [lit, n_eq]) <;> omega)) | ((with_reducible apply p_limit_y h' rfl) <;> omega)); skip)
    | ((with_reducible apply X_Tt); focus (first | ((with_reducible apply p_take_n h') <;> first | omega | ((simp (disch := first | omega | exact Nat.lt_trans (ht _ (by omega)) (by omega)) only [lit, n_eq]) <;> omega)) | ((with_reducible apply p_limit_n h' rfl) <;> omega)); skip))
        unfold k_PA_call_121
        repeat (first
    | ((with_reducible apply X_bndE); focus (first | ((with_reducible apply pz_pp h') <;> omega) | ((with_reducible apply pz_kk h') <;> omega) | (with_reducible exact pz_14)); skip)
    | with_reducible refine X_bnd ?_
    | ((with_reducible apply X_chk); focus (first | exact a1 | exact a2 | exact a3 | exact a4 | exact a5 | ((with_reducible apply pz_i1 h') <;> omega) | ((with_reducible apply pz_i2 h') <;> omega)); skip)
    | ((with_reducible apply X_rfO); focus (first | exact c1 | exact c2 | exact c5); skip)
    | ((with_reducible apply X_I); focus (first | ((with_reducible apply p_kaC h') <;> omega) | ((with_reducible apply p_paC h') <;> omega) | ((with_reducible apply p_skip_y h') <;> first | omega | ((simp (disch := omega) only [lit, n_eq]) <;> omega)) | ((with_reducible apply p_skip_n h') <;> first | omega | ((simp (disch := first | omega | exact Nat.lt_trans (ht _ (by omega)) (by omega)) only [lit, n_eq]) <;> omega))); skip)
    | ((with_reducible apply X_if); focus (first | (with_reducible exact rfl) | (with_reducible exact n00) | ((simp (disch := omega) only [lit, n_eq]) <;> omega)); skip)
    | ((with_reducible apply X_nif); focus (first | exact n10 | ((with_reducible apply p_cnt h') <;> omega) | ((simp (disch := first | omega | exact Nat.lt_trans (ht _ (by omega)) (by omega)) only [lit, n_eq]) <;> omega)); skip)
    | ((with_reducible apply X_T); focus (first | ((with_reducible apply p_take_y h') <;> first | omega | ((simp (disch := omega) only [lit, n_eq]) <;> omega)) | ((with_reducible apply p_limit_y h' rfl) <;> omega)); skip)
    | ((with_reducible apply X_Tt); focus (first | ((with_reducible apply p_take_n h') <;> first | omega | ((simp (disch := first | omega | exact Nat.lt_trans (ht _ (by omega)) (by omega)) only [lit, n_eq]) <;> omega)) | ((with_reducible apply p_limit_n h' rfl) <;> omega)); skip))
        rfl
      · unfold f_RM_statement f_RM_named f_RM_sums k_RM_named_217 k_RM_named_108
        simp only [hd1]
        repeat (first
    | with_reducible refine M_VI ?_
    | with_reducible refine M_VV ?_
    | with_reducible refine M_Vif ?_
    | with_reducible refine M_Vs ?_
    | with_reducible refine M_II ?_
    | with_reducible refine M_IV ?_
    | with_reducible refine M_Iif ?_
    | with_reducible refine M_Is ?_
    | with_reducible refine M_Ichk ?_
    | ((with_reducible apply BM_bndE); focus (first | ((with_reducible apply r_p R hn) <;> first | omega | assumption)); skip)
    | with_reducible refine BM_bnd ?_
    | ((with_reducible apply BM_chk); focus (((with_reducible apply r_i hn)) <;> omega); skip)
    | ((with_reducible apply BM_I); focus (first | ((with_reducible apply r_look R hn) <;> first | omega | assumption) | (with_reducible exact q_look1) | ((with_reducible apply r_draft) <;> first | omega | exact rfl | exact r_p R hn (by omega) (by assumption)) | ((with_reducible apply r_db) <;> omega) | ((with_reducible apply r_nb) <;> omega) | ((with_reducible apply r_nameb) <;> omega) | ((with_reducible apply r_name_y R hn) <;> first | omega | assumption) | ((with_reducible apply r_name_n R hn) <;> first | omega | assumption | exact ht _ (by omega))); skip)
    | ((with_reducible apply BM_V); focus (first | ((with_reducible apply r_take_y R hn) <;> first | omega | assumption | first | exact rfl | (with_reducible exact n00) | exact kp_y (by assumption) (by decide)) | ((with_reducible apply r_take_n R hn) <;> first | omega | assumption | first | exact n10 | ((simp (disch := first | assumption | omega | exact ht _ (by omega)) only [lit, n_eq, n_le, kp_0, kp_1, kp_2, kp_3, kp_4, kp_5, kp_6, kp_7, kp_8, kp_9, kp_10, kp_11, kp_12, kp_13, kp_14, kp_15, kp_16, kp_17, kp_18, kp_19, kp_20, kp_21, kp_22, kp_23, kp_24, kp_25, kp_26, kp_27, kp_28, kp_29, kp_30, kp_31, kp_32, kp_33, kp_34]) <;> omega)) | (with_reducible exact q_takeb) | ((with_reducible apply q_deep_y rfl) <;> omega) | ((with_reducible apply q_deep_n R rfl) <;> first | omega | assumption) | ((with_reducible apply q_deepb' rfl) <;> omega) | (with_reducible exact q_needb) | (with_reducible exact r_need1) | ((with_reducible apply r_need0 R hn) <;> first | omega | assumption)); skip)
    | ((with_reducible apply BM_if); focus (first | exact rfl | (with_reducible exact n00) | exact kp_y (by assumption) (by decide)); skip)
    | ((with_reducible apply BM_nif); focus (first | exact n10 | ((simp (disch := first | assumption | omega | exact ht _ (by omega)) only [lit, n_eq, n_le, kp_0, kp_1, kp_2, kp_3, kp_4, kp_5, kp_6, kp_7, kp_8, kp_9, kp_10, kp_11, kp_12, kp_13, kp_14, kp_15, kp_16, kp_17, kp_18, kp_19, kp_20, kp_21, kp_22, kp_23, kp_24, kp_25, kp_26, kp_27, kp_28, kp_29, kp_30, kp_31, kp_32, kp_33, kp_34]) <;> omega)); skip)
    | (with_reducible refine bm_jn ?_ rfl)
    | ((with_reducible apply bm_join); (focus (first | assumption | exact BI_new (by assumption) | exact BI_new (BI_new (by assumption)) | exact BI_new (BI_new (BI_new (by assumption))))); (focus omega); (focus omega); (focus (first | assumption | exact Or.inr ⟨_, by omega, rfl⟩)); intro _ _)
    | exact ⟨_, _, _, (by with_reducible rfl), by omega, by omega, (by first | assumption | exact BI_new (by assumption) | exact BI_new (BI_new (by assumption)) | exact BI_new (BI_new (BI_new (by assumption)))), (by first | exact Or.inl rfl | assumption | exact Or.inr ⟨_, by omega, rfl⟩)⟩)
        refine BM_V (j1 _) ?_
        repeat (first
    | with_reducible refine M_VI ?_
    | with_reducible refine M_VV ?_
    | with_reducible refine M_Vif ?_
    | with_reducible refine M_Vs ?_
    | with_reducible refine M_II ?_
    | with_reducible refine M_IV ?_
    | with_reducible refine M_Iif ?_
    | with_reducible refine M_Is ?_
    | with_reducible refine M_Ichk ?_
    | ((with_reducible apply BM_bndE); focus (first | ((with_reducible apply r_p R hn) <;> first | omega | assumption)); skip)
    | with_reducible refine BM_bnd ?_
    | ((with_reducible apply BM_chk); focus (((with_reducible apply r_i hn)) <;> omega); skip)
    | ((with_reducible apply BM_I); focus (first | ((with_reducible apply r_look R hn) <;> first | omega | assumption) | (with_reducible exact q_look1) | ((with_reducible apply r_draft) <;> first | omega | exact rfl | exact r_p R hn (by omega) (by assumption)) | ((with_reducible apply r_db) <;> omega) | ((with_reducible apply r_nb) <;> omega) | ((with_reducible apply r_nameb) <;> omega) | ((with_reducible apply r_name_y R hn) <;> first | omega | assumption) | ((with_reducible apply r_name_n R hn) <;> first | omega | assumption | exact ht _ (by omega))); skip)
    | ((with_reducible apply BM_V); focus (first | ((with_reducible apply r_take_y R hn) <;> first | omega | assumption | first | exact rfl | (with_reducible exact n00) | exact kp_y (by assumption) (by decide)) | ((with_reducible apply r_take_n R hn) <;> first | omega | assumption | first | exact n10 | ((simp (disch := first | assumption | omega | exact ht _ (by omega)) only [lit, n_eq, n_le, kp_0, kp_1, kp_2, kp_3, kp_4, kp_5, kp_6, kp_7, kp_8, kp_9, kp_10, kp_11, kp_12, kp_13, kp_14, kp_15, kp_16, kp_17, kp_18, kp_19, kp_20, kp_21, kp_22, kp_23, kp_24, kp_25, kp_26, kp_27, kp_28, kp_29, kp_30, kp_31, kp_32, kp_33, kp_34]) <;> omega)) | (with_reducible exact q_takeb) | ((with_reducible apply q_deep_y rfl) <;> omega) | ((with_reducible apply q_deep_n R rfl) <;> first | omega | assumption) | ((with_reducible apply q_deepb' rfl) <;> omega) | (with_reducible exact q_needb) | (with_reducible exact r_need1) | ((with_reducible apply r_need0 R hn) <;> first | omega | assumption)); skip)
    | ((with_reducible apply BM_if); focus (first | exact rfl | (with_reducible exact n00) | exact kp_y (by assumption) (by decide)); skip)
    | ((with_reducible apply BM_nif); focus (first | exact n10 | ((simp (disch := first | assumption | omega | exact ht _ (by omega)) only [lit, n_eq, n_le, kp_0, kp_1, kp_2, kp_3, kp_4, kp_5, kp_6, kp_7, kp_8, kp_9, kp_10, kp_11, kp_12, kp_13, kp_14, kp_15, kp_16, kp_17, kp_18, kp_19, kp_20, kp_21, kp_22, kp_23, kp_24, kp_25, kp_26, kp_27, kp_28, kp_29, kp_30, kp_31, kp_32, kp_33, kp_34]) <;> omega)); skip)
    | (with_reducible refine bm_jn ?_ rfl)
    | ((with_reducible apply bm_join); (focus (first | assumption | exact BI_new (by assumption) | exact BI_new (BI_new (by assumption)) | exact BI_new (BI_new (BI_new (by assumption))))); (focus omega); (focus omega); (focus (first | assumption | exact Or.inr ⟨_, by omega, rfl⟩)); intro _ _)
    | exact ⟨_, _, _, (by with_reducible rfl), by omega, by omega, (by first | assumption | exact BI_new (by assumption) | exact BI_new (BI_new (by assumption)) | exact BI_new (BI_new (BI_new (by assumption)))), (by first | exact Or.inl rfl | assumption | exact Or.inr ⟨_, by omega, rfl⟩)⟩)
        refine BM_V (j2 _) ?_
        repeat (first
    | with_reducible refine M_VI ?_
    | with_reducible refine M_VV ?_
    | with_reducible refine M_Vif ?_
    | with_reducible refine M_Vs ?_
    | with_reducible refine M_II ?_
    | with_reducible refine M_IV ?_
    | with_reducible refine M_Iif ?_
    | with_reducible refine M_Is ?_
    | with_reducible refine M_Ichk ?_
    | ((with_reducible apply BM_bndE); focus (first | ((with_reducible apply r_p R hn) <;> first | omega | assumption)); skip)
    | with_reducible refine BM_bnd ?_
    | ((with_reducible apply BM_chk); focus (((with_reducible apply r_i hn)) <;> omega); skip)
    | ((with_reducible apply BM_I); focus (first | ((with_reducible apply r_look R hn) <;> first | omega | assumption) | (with_reducible exact q_look1) | ((with_reducible apply r_draft) <;> first | omega | exact rfl | exact r_p R hn (by omega) (by assumption)) | ((with_reducible apply r_db) <;> omega) | ((with_reducible apply r_nb) <;> omega) | ((with_reducible apply r_nameb) <;> omega) | ((with_reducible apply r_name_y R hn) <;> first | omega | assumption) | ((with_reducible apply r_name_n R hn) <;> first | omega | assumption | exact ht _ (by omega))); skip)
    | ((with_reducible apply BM_V); focus (first | ((with_reducible apply r_take_y R hn) <;> first | omega | assumption | first | exact rfl | (with_reducible exact n00) | exact kp_y (by assumption) (by decide)) | ((with_reducible apply r_take_n R hn) <;> first | omega | assumption | first | exact n10 | ((simp (disch := first | assumption | omega | exact ht _ (by omega)) only [lit, n_eq, n_le, kp_0, kp_1, kp_2, kp_3, kp_4, kp_5, kp_6, kp_7, kp_8, kp_9, kp_10, kp_11, kp_12, kp_13, kp_14, kp_15, kp_16, kp_17, kp_18, kp_19, kp_20, kp_21, kp_22, kp_23, kp_24, kp_25, kp_26, kp_27, kp_28, kp_29, kp_30, kp_31, kp_32, kp_33, kp_34]) <;> omega)) | (with_reducible exact q_takeb) | ((with_reducible apply q_deep_y rfl) <;> omega) | ((with_reducible apply q_deep_n R rfl) <;> first | omega | assumption) | ((with_reducible apply q_deepb' rfl) <;> omega) | (with_reducible exact q_needb) | (with_reducible exact r_need1) | ((with_reducible apply r_need0 R hn) <;> first | omega | assumption)); skip)
    | ((with_reducible apply BM_if); focus (first | exact rfl | (with_reducible exact n00) | exact kp_y (by assumption) (by decide)); skip)
    | ((with_reducible apply BM_nif); focus (first | exact n10 | ((simp (disch := first | assumption | omega | exact ht _ (by omega)) only [lit, n_eq, n_le, kp_0, kp_1, kp_2, kp_3, kp_4, kp_5, kp_6, kp_7, kp_8, kp_9, kp_10, kp_11, kp_12, kp_13, kp_14, kp_15, kp_16, kp_17, kp_18, kp_19, kp_20, kp_21, kp_22, kp_23, kp_24, kp_25, kp_26, kp_27, kp_28, kp_29, kp_30, kp_31, kp_32, kp_33, kp_34]) <;> omega)); skip)
    | (with_reducible refine bm_jn ?_ rfl)
    | ((with_reducible apply bm_join); (focus (first | assumption | exact BI_new (by assumption) | exact BI_new (BI_new (by assumption)) | exact BI_new (BI_new (BI_new (by assumption))))); (focus omega); (focus omega); (focus (first | assumption | exact Or.inr ⟨_, by omega, rfl⟩)); intro _ _)
    | exact ⟨_, _, _, (by with_reducible rfl), by omega, by omega, (by first | assumption | exact BI_new (by assumption) | exact BI_new (BI_new (by assumption)) | exact BI_new (BI_new (BI_new (by assumption)))), (by first | exact Or.inl rfl | assumption | exact Or.inr ⟨_, by omega, rfl⟩)⟩)
        have hBI := hb.2.2.2
        repeat (first
    | with_reducible refine M_VI ?_
    | with_reducible refine M_VV ?_
    | with_reducible refine M_Vif ?_
    | with_reducible refine M_Vs ?_
    | with_reducible refine M_II ?_
    | with_reducible refine M_IV ?_
    | with_reducible refine M_Iif ?_
    | with_reducible refine M_Is ?_
    | with_reducible refine M_Ichk ?_
    | ((with_reducible apply BM_bndE); focus (first | ((with_reducible apply r_p R hn) <;> first | omega | assumption)); skip)
    | with_reducible refine BM_bnd ?_
    | ((with_reducible apply BM_chk); focus (((with_reducible apply r_i hn)) <;> omega); skip)
    | ((with_reducible apply BM_I); focus (first | ((with_reducible apply r_look R hn) <;> first | omega | assumption) | (with_reducible exact q_look1) | ((with_reducible apply r_draft) <;> first | omega | exact rfl | exact r_p R hn (by omega) (by assumption)) | ((with_reducible apply r_db) <;> omega) | ((with_reducible apply r_nb) <;> omega) | ((with_reducible apply r_nameb) <;> omega) | ((with_reducible apply r_name_y R hn) <;> first | omega | assumption) | ((with_reducible apply r_name_n R hn) <;> first | omega | assumption | exact ht _ (by omega))); skip)
    | ((with_reducible apply BM_V); focus (first | ((with_reducible apply r_take_y R hn) <;> first | omega | assumption | first | exact rfl | (with_reducible exact n00) | exact kp_y (by assumption) (by decide)) | ((with_reducible apply r_take_n R hn) <;> first | omega | assumption | first | exact n10 | ((simp (disch := first | assumption | omega | exact ht _ (by omega)) only [lit, n_eq, n_le, kp_0, kp_1, kp_2, kp_3, kp_4, kp_5, kp_6, kp_7, kp_8, kp_9, kp_10, kp_11, kp_12, kp_13, kp_14, kp_15, kp_16, kp_17, kp_18, kp_19, kp_20, kp_21, kp_22, kp_23, kp_24, kp_25, kp_26, kp_27, kp_28, kp_29, kp_30, kp_31, kp_32, kp_33, kp_34]) <;> omega)) | (with_reducible exact q_takeb) | ((with_reducible apply q_deep_y rfl) <;> omega) | ((with_reducible apply q_deep_n R rfl) <;> first | omega | assumption) | ((with_reducible apply q_deepb' rfl) <;> omega) | (with_reducible exact q_needb) | (with_reducible exact r_need1) | ((with_reducible apply r_need0 R hn) <;> first | omega | assumption)); skip)
    | ((with_reducible apply BM_if); focus (first | exact rfl | (with_reducible exact n00) | exact kp_y (by assumption) (by decide)); skip)
    | ((with_reducible apply BM_nif); focus (first | exact n10 | ((simp (disch := first | assumption | omega | exact ht _ (by omega)) only [lit, n_eq, n_le, kp_0, kp_1, kp_2, kp_3, kp_4, kp_5, kp_6, kp_7, kp_8, kp_9, kp_10, kp_11, kp_12, kp_13, kp_14, kp_15, kp_16, kp_17, kp_18, kp_19, kp_20, kp_21, kp_22, kp_23, kp_24, kp_25, kp_26, kp_27, kp_28, kp_29, kp_30, kp_31, kp_32, kp_33, kp_34]) <;> omega)); skip)
    | (with_reducible refine bm_jn ?_ rfl)
    | ((with_reducible apply bm_join); (focus (first | assumption | exact BI_new (by assumption) | exact BI_new (BI_new (by assumption)) | exact BI_new (BI_new (BI_new (by assumption))))); (focus omega); (focus omega); (focus (first | assumption | exact Or.inr ⟨_, by omega, rfl⟩)); intro _ _)
    | exact ⟨_, _, _, (by with_reducible rfl), by omega, by omega, (by first | assumption | exact BI_new (by assumption) | exact BI_new (BI_new (by assumption)) | exact BI_new (BI_new (BI_new (by assumption)))), (by first | exact Or.inl rfl | assumption | exact Or.inr ⟨_, by omega, rfl⟩)⟩)
  · rcases hS0 flt (q + 1 + 1) (ds ++ post (app (one (dr + 1 + 1) 33 (tp q) 0 .leaf) (one dr 13 (tp q) (nI q) .leaf))) (dr + 1 + 1 + 1) _ ⟨⟨qa, ga⟩, by omega, by omega, hb.2.2.2⟩ with ⟨q', i', k', p', v', c', dr', B', x1, x2, x3⟩ | ⟨q', y, x1, ⟨v, dr', B', x2, x3, x4, x5, x6⟩, x7, x8⟩
    · have hb' := nb_of x3
      obtain ⟨⟨y1, y2, y3⟩, -, -, -, y0, ⟨y4, y5, y6⟩, y7, y8⟩ := x3
      have hbz := nb_join hb hb'
      have hjz := fun q => nb_joinE (S := S) (N := N) (bad := 0) (flt := flt) (q := q) hb hb'
      refine OutK_c (rc' := k_PA_call_88 N ps N ap (nI d) (nI 0) (pz σ ap dd dk dp dv dz q' (ds ++ post (app (app (one (dr + 1 + 1) 33 (tp q) 0 .leaf) (one dr 13 (tp q) (nI q) .leaf)) (one i' k' p' v' c'))))) (rr' := calV (k_RM_sums_38 N rs0 N (nI (dr + 1)) (nI d) (qz S q' 0 flt dr' (bj B' (dr + 1) (app (one (dr + 1 + 1) 33 (tp q) 0 .leaf) (one dr 13 (tp q) (nI q) .leaf)) i'))) fun S' => calV (f_RM_take N 59 S') fun S'' => some (nI (dr + 1), S'')) ?_ ?_ ?_
      · unfold f_PA_call
        repeat (first
    | ((with_reducible apply X_bndE); focus (first | ((with_reducible apply pz_pp h') <;> omega) | ((with_reducible apply pz_kk h') <;> omega) | (with_reducible exact pz_14)); skip)
    | with_reducible refine X_bnd ?_
    | ((with_reducible apply X_chk); focus (first | exact a1 | exact a2 | exact a3 | exact a4 | exact a5 | ((with_reducible apply pz_i1 h') <;> omega) | ((with_reducible apply pz_i2 h') <;> omega)); skip)
    | ((with_reducible apply X_rfO); focus (first | exact c1 | exact c2 | exact c5); skip)
    | ((with_reducible apply X_I); focus (first | ((with_reducible apply p_kaC h') <;> omega) | ((with_reducible apply p_paC h') <;> omega) | ((with_reducible apply p_skip_y h') <;> first | omega | ((simp (disch := omega) only [lit, n_eq]) <;> omega)) | ((with_reducible apply p_skip_n h') <;> first | omega | ((simp (disch := first | omega | exact Nat.lt_trans (ht _ (by omega)) (by omega)) only [lit, n_eq]) <;> omega))); skip)
    | ((with_reducible apply X_if); focus (first | (with_reducible exact rfl) | (with_reducible exact n00) | ((simp (disch := omega) only [lit, n_eq]) <;> omega)); skip)
    | ((with_reducible apply X_nif); focus (first | exact n10 | ((with_reducible apply p_cnt h') <;> omega) | ((simp (disch := first | omega | exact Nat.lt_trans (ht _ (by omega)) (by omega)) only [lit, n_eq]) <;> omega)); skip)
    | ((with_reducible apply X_T); focus (first | ((with_reducible apply p_take_y h') <;> first | omega | ((simp (disch := omega) only [lit, n_eq]) <;> omega)) | ((with_reducible apply p_limit_y h' rfl) <;> omega)); skip)
    | ((with_reducible apply X_Tt); focus (first | ((with_reducible apply p_take_n h') <;> first | omega | ((simp (disch := first | omega | exact Nat.lt_trans (ht _ (by omega)) (by omega)) only [lit, n_eq]) <;> omega)) | ((with_reducible apply p_limit_n h' rfl) <;> omega)); skip))
        refine X_I (p_kat1 h' q1) ?_
        repeat (first
    | ((with_reducible apply X_bndE); focus (first | ((with_reducible apply pz_pp h') <;> omega) | ((with_reducible apply pz_kk h') <;> omega) | (with_reducible exact pz_14)); skip)
    | with_reducible refine X_bnd ?_
    | ((with_reducible apply X_chk); focus (first | exact a1 | exact a2 | exact a3 | exact a4 | exact a5 | ((with_reducible apply pz_i1 h') <;> omega) | ((with_reducible apply pz_i2 h') <;> omega)); skip)
    | ((with_reducible apply X_rfO); focus (first | exact c1 | exact c2 | exact c5); skip)
    | ((with_reducible apply X_I); focus (first | ((with_reducible apply p_kaC h') <;> omega) | ((with_reducible apply p_paC h') <;> omega) | ((with_reducible apply p_skip_y h') <;> first | omega | ((simp (disch := omega) only [lit, n_eq]) <;> omega)) | ((with_reducible apply p_skip_n h') <;> first | omega | ((simp (disch := first | omega | exact Nat.lt_trans (ht _ (by omega)) (by omega)) only [lit, n_eq]) <;> omega))); skip)
    | ((with_reducible apply X_if); focus (first | (with_reducible exact rfl) | (with_reducible exact n00) | ((simp (disch := omega) only [lit, n_eq]) <;> omega)); skip)
    | ((with_reducible apply X_nif); focus (first | exact n10 | ((with_reducible apply p_cnt h') <;> omega) | ((simp (disch := first | omega | exact Nat.lt_trans (ht _ (by omega)) (by omega)) only [lit, n_eq]) <;> omega)); skip)
    | ((with_reducible apply X_T); focus (first | ((with_reducible apply p_take_y h') <;> first | omega | ((simp (disch := omega) only [lit, n_eq]) <;> omega)) | ((with_reducible apply p_limit_y h' rfl) <;> omega)); skip)
    | ((with_reducible apply X_Tt); focus (first | ((with_reducible apply p_take_n h') <;> first | omega | ((simp (disch := first | omega | exact Nat.lt_trans (ht _ (by omega)) (by omega)) only [lit, n_eq]) <;> omega)) | ((with_reducible apply p_limit_n h' rfl) <;> omega)); skip))
        refine X_V (p_add33 h' i1 (by omega) (dr + 1 + 1)) ?_
        unfold k_PA_call_53
        repeat (first
    | ((with_reducible apply X_bndE); focus (first | ((with_reducible apply pz_pp h') <;> omega) | ((with_reducible apply pz_kk h') <;> omega) | (with_reducible exact pz_14)); skip)
    | with_reducible refine X_bnd ?_
    | ((with_reducible apply X_chk); focus (first | exact a1 | exact a2 | exact a3 | exact a4 | exact a5 | ((with_reducible apply pz_i1 h') <;> omega) | ((with_reducible apply pz_i2 h') <;> omega)); skip)
    | ((with_reducible apply X_rfO); focus (first | exact c1 | exact c2 | exact c5); skip)
    | ((with_reducible apply X_I); focus (first | ((with_reducible apply p_kaC h') <;> omega) | ((with_reducible apply p_paC h') <;> omega) | ((with_reducible apply p_skip_y h') <;> first | omega | ((simp (disch := omega) only [lit, n_eq]) <;> omega)) | ((with_reducible apply p_skip_n h') <;> first | omega | ((simp (disch := first | omega | exact Nat.lt_trans (ht _ (by omega)) (by omega)) only [lit, n_eq]) <;> omega))); skip)
    | ((with_reducible apply X_if); focus (first | (with_reducible exact rfl) | (with_reducible exact n00) | ((simp (disch := omega) only [lit, n_eq]) <;> omega)); skip)
    | ((with_reducible apply X_nif); focus (first | exact n10 | ((with_reducible apply p_cnt h') <;> omega) | ((simp (disch := first | omega | exact Nat.lt_trans (ht _ (by omega)) (by omega)) only [lit, n_eq]) <;> omega)); skip)
    | ((with_reducible apply X_T); focus (first | ((with_reducible apply p_take_y h') <;> first | omega | ((simp (disch := omega) only [lit, n_eq]) <;> omega)) | ((with_reducible apply p_limit_y h' rfl) <;> omega)); skip)
    | ((with_reducible apply X_Tt); focus (first | ((with_reducible apply p_take_n h') <;> first | omega | ((simp (disch := first | omega | exact Nat.lt_trans (ht _ (by omega)) (by omega)) only [lit, n_eq]) <;> omega)) | ((with_reducible apply p_limit_n h' rfl) <;> omega)); skip))
        refine X_T (p_name_y h' i1 (by omega) t2 dr) ?_
        repeat (first
    | ((with_reducible apply X_bndE); focus (first | ((with_reducible apply pz_pp h') <;> omega) | ((with_reducible apply pz_kk h') <;> omega) | (with_reducible exact pz_14)); skip)
    | with_reducible refine X_bnd ?_
    | ((with_reducible apply X_chk); focus (first | exact a1 | exact a2 | exact a3 | exact a4 | exact a5 | ((with_reducible apply pz_i1 h') <;> omega) | ((with_reducible apply pz_i2 h') <;> omega)); skip)
    | ((with_reducible apply X_rfO); focus (first | exact c1 | exact c2 | exact c5); skip)
    | ((with_reducible apply X_I); focus (first | ((with_reducible apply p_kaC h') <;> omega) | ((with_reducible apply p_paC h') <;> omega) | ((with_reducible apply p_skip_y h') <;> first | omega | ((simp (disch := omega) only [lit, n_eq]) <;> omega)) | ((with_reducible apply p_skip_n h') <;> first | omega | ((simp (disch := first | omega | exact Nat.lt_trans (ht _ (by omega)) (by omega)) only [lit, n_eq]) <;> omega))); skip)
    | ((with_reducible apply X_if); focus (first | (with_reducible exact rfl) | (with_reducible exact n00) | ((simp (disch := omega) only [lit, n_eq]) <;> omega)); skip)
    | ((with_reducible apply X_nif); focus (first | exact n10 | ((with_reducible apply p_cnt h') <;> omega) | ((simp (disch := first | omega | exact Nat.lt_trans (ht _ (by omega)) (by omega)) only [lit, n_eq]) <;> omega)); skip)
    | ((with_reducible apply X_T); focus (first | ((with_reducible apply p_take_y h') <;> first | omega | ((simp (disch := omega) only [lit, n_eq]) <;> omega)) | ((with_reducible apply p_limit_y h' rfl) <;> omega)); skip)
    | ((with_reducible apply X_Tt); focus (first | ((with_reducible apply p_take_n h') <;> first | omega | ((simp (disch := first | omega | exact Nat.lt_trans (ht _ (by omega)) (by omega)) only [lit, n_eq]) <;> omega)) | ((with_reducible apply p_limit_n h' rfl) <;> omega)); skip))
        rw [hpa]
        try rw [hd1]
        repeat (first
    | ((with_reducible apply X_bndE); focus (first | ((with_reducible apply pz_pp h') <;> omega) | ((with_reducible apply pz_kk h') <;> omega) | (with_reducible exact pz_14)); skip)
    | with_reducible refine X_bnd ?_
    | ((with_reducible apply X_chk); focus (first | exact a1 | exact a2 | exact a3 | exact a4 | exact a5 | ((with_reducible apply pz_i1 h') <;> omega) | ((with_reducible apply pz_i2 h') <;> omega)); skip)
    | ((with_reducible apply X_rfO); focus (first | exact c1 | exact c2 | exact c5); skip)
    | ((with_reducible apply X_I); focus (first | ((with_reducible apply p_kaC h') <;> omega) | ((with_reducible apply p_paC h') <;> omega) | ((with_reducible apply p_skip_y h') <;> first | omega | ((simp (disch := omega) only [lit, n_eq]) <;> omega)) | ((with_reducible apply p_skip_n h') <;> first | omega | ((simp (disch := first | omega | exact Nat.lt_trans (ht _ (by omega)) (by omega)) only [lit, n_eq]) <;> omega))); skip)
    | ((with_reducible apply X_if); focus (first | (with_reducible exact rfl) | (with_reducible exact n00) | ((simp (disch := omega) only [lit, n_eq]) <;> omega)); skip)
    | ((with_reducible apply X_nif); focus (first | exact n10 | ((with_reducible apply p_cnt h') <;> omega) | ((simp (disch := first | omega | exact Nat.lt_trans (ht _ (by omega)) (by omega)) only [lit, n_eq]) <;> omega)); skip)
    | ((with_reducible apply X_T); focus (first | ((with_reducible apply p_take_y h') <;> first | omega | ((simp (disch := omega) only [lit, n_eq]) <;> omega)) | ((with_reducible apply p_limit_y h' rfl) <;> omega)); skip)
    | ((with_reducible apply X_Tt); focus (first | ((with_reducible apply p_take_n h') <;> first | omega | ((simp (disch := first | omega | exact Nat.lt_trans (ht _ (by omega)) (by omega)) only [lit, n_eq]) <;> omega)) | ((with_reducible apply p_limit_n h' rfl) <;> omega)); skip))
        refine X_T x1 ?_
        rw [List.append_assoc, ← post_app]; rfl
      · unfold f_RM_statement f_RM_named f_RM_sums k_RM_named_217 k_RM_named_108
        simp only [hd1]
        repeat (first
    | with_reducible refine A_VI ?_
    | with_reducible refine A_VV ?_
    | with_reducible refine A_Vif ?_
    | with_reducible refine A_Vs ?_
    | with_reducible refine A_II ?_
    | with_reducible refine A_IV ?_
    | with_reducible refine A_Iif ?_
    | with_reducible refine A_Is ?_
    | with_reducible refine A_Ichk ?_
    | ((with_reducible apply X_bndE); focus (first | ((with_reducible apply r_p R hn) <;> first | omega | assumption)); skip)
    | with_reducible refine X_bnd ?_
    | ((with_reducible apply X_chk); focus (((with_reducible apply r_i hn)) <;> omega); skip)
    | ((with_reducible apply X_I); focus (first | ((with_reducible apply r_look R hn) <;> first | omega | assumption) | (with_reducible exact q_look1) | ((with_reducible apply r_draft) <;> first | omega | exact rfl | exact r_p R hn (by omega) (by assumption)) | ((with_reducible apply r_name_y R hn) <;> first | omega | assumption)); skip)
    | ((with_reducible apply X_V); focus (first | ((with_reducible apply r_take_y R hn) <;> first | omega | assumption | first | exact rfl | (with_reducible exact n00) | exact kp_y (by assumption) (by decide)) | ((with_reducible apply r_take_n R hn) <;> first | omega | assumption | first | exact n10 | ((simp (disch := first | assumption | omega | exact ht _ (by omega)) only [lit, n_eq, n_le, kp_0, kp_1, kp_2, kp_3, kp_4, kp_5, kp_6, kp_7, kp_8, kp_9, kp_10, kp_11, kp_12, kp_13, kp_14, kp_15, kp_16, kp_17, kp_18, kp_19, kp_20, kp_21, kp_22, kp_23, kp_24, kp_25, kp_26, kp_27, kp_28, kp_29, kp_30, kp_31, kp_32, kp_33, kp_34]) <;> omega)) | (with_reducible exact q_takeb) | ((with_reducible apply q_deep_y rfl) <;> omega) | ((with_reducible apply q_deep_n R rfl) <;> first | omega | assumption) | (with_reducible exact q_needb) | (with_reducible exact r_need1) | ((with_reducible apply r_need0 R hn) <;> first | omega | assumption)); skip)
    | ((with_reducible apply X_if); focus (first | exact rfl | (with_reducible exact n00) | exact kp_y (by assumption) (by decide)); skip)
    | ((with_reducible apply X_nif); focus (first | exact n10 | ((simp (disch := first | assumption | omega | exact ht _ (by omega)) only [lit, n_eq, n_le, kp_0, kp_1, kp_2, kp_3, kp_4, kp_5, kp_6, kp_7, kp_8, kp_9, kp_10, kp_11, kp_12, kp_13, kp_14, kp_15, kp_16, kp_17, kp_18, kp_19, kp_20, kp_21, kp_22, kp_23, kp_24, kp_25, kp_26, kp_27, kp_28, kp_29, kp_30, kp_31, kp_32, kp_33, kp_34]) <;> omega)); skip))
        refine X_V (j1 _) ?_
        repeat (first
    | with_reducible refine A_VI ?_
    | with_reducible refine A_VV ?_
    | with_reducible refine A_Vif ?_
    | with_reducible refine A_Vs ?_
    | with_reducible refine A_II ?_
    | with_reducible refine A_IV ?_
    | with_reducible refine A_Iif ?_
    | with_reducible refine A_Is ?_
    | with_reducible refine A_Ichk ?_
    | ((with_reducible apply X_bndE); focus (first | ((with_reducible apply r_p R hn) <;> first | omega | assumption)); skip)
    | with_reducible refine X_bnd ?_
    | ((with_reducible apply X_chk); focus (((with_reducible apply r_i hn)) <;> omega); skip)
    | ((with_reducible apply X_I); focus (first | ((with_reducible apply r_look R hn) <;> first | omega | assumption) | (with_reducible exact q_look1) | ((with_reducible apply r_draft) <;> first | omega | exact rfl | exact r_p R hn (by omega) (by assumption)) | ((with_reducible apply r_name_y R hn) <;> first | omega | assumption)); skip)
    | ((with_reducible apply X_V); focus (first | ((with_reducible apply r_take_y R hn) <;> first | omega | assumption | first | exact rfl | (with_reducible exact n00) | exact kp_y (by assumption) (by decide)) | ((with_reducible apply r_take_n R hn) <;> first | omega | assumption | first | exact n10 | ((simp (disch := first | assumption | omega | exact ht _ (by omega)) only [lit, n_eq, n_le, kp_0, kp_1, kp_2, kp_3, kp_4, kp_5, kp_6, kp_7, kp_8, kp_9, kp_10, kp_11, kp_12, kp_13, kp_14, kp_15, kp_16, kp_17, kp_18, kp_19, kp_20, kp_21, kp_22, kp_23, kp_24, kp_25, kp_26, kp_27, kp_28, kp_29, kp_30, kp_31, kp_32, kp_33, kp_34]) <;> omega)) | (with_reducible exact q_takeb) | ((with_reducible apply q_deep_y rfl) <;> omega) | ((with_reducible apply q_deep_n R rfl) <;> first | omega | assumption) | (with_reducible exact q_needb) | (with_reducible exact r_need1) | ((with_reducible apply r_need0 R hn) <;> first | omega | assumption)); skip)
    | ((with_reducible apply X_if); focus (first | exact rfl | (with_reducible exact n00) | exact kp_y (by assumption) (by decide)); skip)
    | ((with_reducible apply X_nif); focus (first | exact n10 | ((simp (disch := first | assumption | omega | exact ht _ (by omega)) only [lit, n_eq, n_le, kp_0, kp_1, kp_2, kp_3, kp_4, kp_5, kp_6, kp_7, kp_8, kp_9, kp_10, kp_11, kp_12, kp_13, kp_14, kp_15, kp_16, kp_17, kp_18, kp_19, kp_20, kp_21, kp_22, kp_23, kp_24, kp_25, kp_26, kp_27, kp_28, kp_29, kp_30, kp_31, kp_32, kp_33, kp_34]) <;> omega)); skip))
        refine X_V (j2 _) ?_
        repeat (first
    | with_reducible refine A_VI ?_
    | with_reducible refine A_VV ?_
    | with_reducible refine A_Vif ?_
    | with_reducible refine A_Vs ?_
    | with_reducible refine A_II ?_
    | with_reducible refine A_IV ?_
    | with_reducible refine A_Iif ?_
    | with_reducible refine A_Is ?_
    | with_reducible refine A_Ichk ?_
    | ((with_reducible apply X_bndE); focus (first | ((with_reducible apply r_p R hn) <;> first | omega | assumption)); skip)
    | with_reducible refine X_bnd ?_
    | ((with_reducible apply X_chk); focus (((with_reducible apply r_i hn)) <;> omega); skip)
    | ((with_reducible apply X_I); focus (first | ((with_reducible apply r_look R hn) <;> first | omega | assumption) | (with_reducible exact q_look1) | ((with_reducible apply r_draft) <;> first | omega | exact rfl | exact r_p R hn (by omega) (by assumption)) | ((with_reducible apply r_name_y R hn) <;> first | omega | assumption)); skip)
    | ((with_reducible apply X_V); focus (first | ((with_reducible apply r_take_y R hn) <;> first | omega | assumption | first | exact rfl | (with_reducible exact n00) | exact kp_y (by assumption) (by decide)) | ((with_reducible apply r_take_n R hn) <;> first | omega | assumption | first | exact n10 | ((simp (disch := first | assumption | omega | exact ht _ (by omega)) only [lit, n_eq, n_le, kp_0, kp_1, kp_2, kp_3, kp_4, kp_5, kp_6, kp_7, kp_8, kp_9, kp_10, kp_11, kp_12, kp_13, kp_14, kp_15, kp_16, kp_17, kp_18, kp_19, kp_20, kp_21, kp_22, kp_23, kp_24, kp_25, kp_26, kp_27, kp_28, kp_29, kp_30, kp_31, kp_32, kp_33, kp_34]) <;> omega)) | (with_reducible exact q_takeb) | ((with_reducible apply q_deep_y rfl) <;> omega) | ((with_reducible apply q_deep_n R rfl) <;> first | omega | assumption) | (with_reducible exact q_needb) | (with_reducible exact r_need1) | ((with_reducible apply r_need0 R hn) <;> first | omega | assumption)); skip)
    | ((with_reducible apply X_if); focus (first | exact rfl | (with_reducible exact n00) | exact kp_y (by assumption) (by decide)); skip)
    | ((with_reducible apply X_nif); focus (first | exact n10 | ((simp (disch := first | assumption | omega | exact ht _ (by omega)) only [lit, n_eq, n_le, kp_0, kp_1, kp_2, kp_3, kp_4, kp_5, kp_6, kp_7, kp_8, kp_9, kp_10, kp_11, kp_12, kp_13, kp_14, kp_15, kp_16, kp_17, kp_18, kp_19, kp_20, kp_21, kp_22, kp_23, kp_24, kp_25, kp_26, kp_27, kp_28, kp_29, kp_30, kp_31, kp_32, kp_33, kp_34]) <;> omega)); skip))
        refine X_I x2 ?_
        repeat (first
    | with_reducible refine A_VI ?_
    | with_reducible refine A_VV ?_
    | with_reducible refine A_Vif ?_
    | with_reducible refine A_Vs ?_
    | with_reducible refine A_II ?_
    | with_reducible refine A_IV ?_
    | with_reducible refine A_Iif ?_
    | with_reducible refine A_Is ?_
    | with_reducible refine A_Ichk ?_
    | ((with_reducible apply X_bndE); focus (first | ((with_reducible apply r_p R hn) <;> first | omega | assumption)); skip)
    | with_reducible refine X_bnd ?_
    | ((with_reducible apply X_chk); focus (((with_reducible apply r_i hn)) <;> omega); skip)
    | ((with_reducible apply X_I); focus (first | ((with_reducible apply r_look R hn) <;> first | omega | assumption) | (with_reducible exact q_look1) | ((with_reducible apply r_draft) <;> first | omega | exact rfl | exact r_p R hn (by omega) (by assumption)) | ((with_reducible apply r_name_y R hn) <;> first | omega | assumption)); skip)
    | ((with_reducible apply X_V); focus (first | ((with_reducible apply r_take_y R hn) <;> first | omega | assumption | first | exact rfl | (with_reducible exact n00) | exact kp_y (by assumption) (by decide)) | ((with_reducible apply r_take_n R hn) <;> first | omega | assumption | first | exact n10 | ((simp (disch := first | assumption | omega | exact ht _ (by omega)) only [lit, n_eq, n_le, kp_0, kp_1, kp_2, kp_3, kp_4, kp_5, kp_6, kp_7, kp_8, kp_9, kp_10, kp_11, kp_12, kp_13, kp_14, kp_15, kp_16, kp_17, kp_18, kp_19, kp_20, kp_21, kp_22, kp_23, kp_24, kp_25, kp_26, kp_27, kp_28, kp_29, kp_30, kp_31, kp_32, kp_33, kp_34]) <;> omega)) | (with_reducible exact q_takeb) | ((with_reducible apply q_deep_y rfl) <;> omega) | ((with_reducible apply q_deep_n R rfl) <;> first | omega | assumption) | (with_reducible exact q_needb) | (with_reducible exact r_need1) | ((with_reducible apply r_need0 R hn) <;> first | omega | assumption)); skip)
    | ((with_reducible apply X_if); focus (first | exact rfl | (with_reducible exact n00) | exact kp_y (by assumption) (by decide)); skip)
    | ((with_reducible apply X_nif); focus (first | exact n10 | ((simp (disch := first | assumption | omega | exact ht _ (by omega)) only [lit, n_eq, n_le, kp_0, kp_1, kp_2, kp_3, kp_4, kp_5, kp_6, kp_7, kp_8, kp_9, kp_10, kp_11, kp_12, kp_13, kp_14, kp_15, kp_16, kp_17, kp_18, kp_19, kp_20, kp_21, kp_22, kp_23, kp_24, kp_25, kp_26, kp_27, kp_28, kp_29, kp_30, kp_31, kp_32, kp_33, kp_34]) <;> omega)); skip))
        refine X_V (hjz _) ?_
        repeat (first
    | with_reducible refine A_VI ?_
    | with_reducible refine A_VV ?_
    | with_reducible refine A_Vif ?_
    | with_reducible refine A_Vs ?_
    | with_reducible refine A_II ?_
    | with_reducible refine A_IV ?_
    | with_reducible refine A_Iif ?_
    | with_reducible refine A_Is ?_
    | with_reducible refine A_Ichk ?_
    | ((with_reducible apply X_bndE); focus (first | ((with_reducible apply r_p R hn) <;> first | omega | assumption)); skip)
    | with_reducible refine X_bnd ?_
    | ((with_reducible apply X_chk); focus (((with_reducible apply r_i hn)) <;> omega); skip)
    | ((with_reducible apply X_I); focus (first | ((with_reducible apply r_look R hn) <;> first | omega | assumption) | (with_reducible exact q_look1) | ((with_reducible apply r_draft) <;> first | omega | exact rfl | exact r_p R hn (by omega) (by assumption)) | ((with_reducible apply r_name_y R hn) <;> first | omega | assumption)); skip)
    | ((with_reducible apply X_V); focus (first | ((with_reducible apply r_take_y R hn) <;> first | omega | assumption | first | exact rfl | (with_reducible exact n00) | exact kp_y (by assumption) (by decide)) | ((with_reducible apply r_take_n R hn) <;> first | omega | assumption | first | exact n10 | ((simp (disch := first | assumption | omega | exact ht _ (by omega)) only [lit, n_eq, n_le, kp_0, kp_1, kp_2, kp_3, kp_4, kp_5, kp_6, kp_7, kp_8, kp_9, kp_10, kp_11, kp_12, kp_13, kp_14, kp_15, kp_16, kp_17, kp_18, kp_19, kp_20, kp_21, kp_22, kp_23, kp_24, kp_25, kp_26, kp_27, kp_28, kp_29, kp_30, kp_31, kp_32, kp_33, kp_34]) <;> omega)) | (with_reducible exact q_takeb) | ((with_reducible apply q_deep_y rfl) <;> omega) | ((with_reducible apply q_deep_n R rfl) <;> first | omega | assumption) | (with_reducible exact q_needb) | (with_reducible exact r_need1) | ((with_reducible apply r_need0 R hn) <;> first | omega | assumption)); skip)
    | ((with_reducible apply X_if); focus (first | exact rfl | (with_reducible exact n00) | exact kp_y (by assumption) (by decide)); skip)
    | ((with_reducible apply X_nif); focus (first | exact n10 | ((simp (disch := first | assumption | omega | exact ht _ (by omega)) only [lit, n_eq, n_le, kp_0, kp_1, kp_2, kp_3, kp_4, kp_5, kp_6, kp_7, kp_8, kp_9, kp_10, kp_11, kp_12, kp_13, kp_14, kp_15, kp_16, kp_17, kp_18, kp_19, kp_20, kp_21, kp_22, kp_23, kp_24, kp_25, kp_26, kp_27, kp_28, kp_29, kp_30, kp_31, kp_32, kp_33, kp_34]) <;> omega)); skip))
        rfl
      · exact loop_args E' hS0 hl ⟨i1, i3, i4⟩ hp n q' _ 0 dr' _ N N (by omega) (by omega) (by omega) (by omega) y2 y3 hbz ⟨by omega, by simp only [app, siz] at *; omega, by omega⟩ (wf_app hwf y7) (by rw [hgt_app]; simp only [hgt] at *; omega) (by rw [kls_app]; simp [kls]; omega)
    · refine OutK_b (q := q') (x := post (app (one (dr + 1 + 1) 33 (tp q) 0 .leaf) (one dr 13 (tp q) (nI q) .leaf)) ++ y) ?_ rfl ?_ x7 x8
      · rw [← List.append_assoc]
        unfold f_PA_call
        repeat (first
    | ((with_reducible apply X_bndE); focus (first | ((with_reducible apply pz_pp h') <;> omega) | ((with_reducible apply pz_kk h') <;> omega) | (with_reducible exact pz_14)); skip)
    | with_reducible refine X_bnd ?_
    | ((with_reducible apply X_chk); focus (first | exact a1 | exact a2 | exact a3 | exact a4 | exact a5 | ((with_reducible apply pz_i1 h') <;> omega) | ((with_reducible apply pz_i2 h') <;> omega)); skip)
    | ((with_reducible apply X_rfO); focus (first | exact c1 | exact c2 | exact c5); skip)
    | ((with_reducible apply X_I); focus (first | ((with_reducible apply p_kaC h') <;> omega) | ((with_reducible apply p_paC h') <;> omega) | ((with_reducible apply p_skip_y h') <;> first | omega | ((simp (disch := omega) only [lit, n_eq]) <;> omega)) | ((with_reducible apply p_skip_n h') <;> first | omega | ((simp (disch := first | omega | exact Nat.lt_trans (ht _ (by omega)) (by omega)) only [lit, n_eq]) <;> omega))); skip)
    | ((with_reducible apply X_if); focus (first | (with_reducible exact rfl) | (with_reducible exact n00) | ((simp (disch := omega) only [lit, n_eq]) <;> omega)); skip)
    | ((with_reducible apply X_nif); focus (first | exact n10 | ((with_reducible apply p_cnt h') <;> omega) | ((simp (disch := first | omega | exact Nat.lt_trans (ht _ (by omega)) (by omega)) only [lit, n_eq]) <;> omega)); skip)
    | ((with_reducible apply X_T); focus (first | ((with_reducible apply p_take_y h') <;> first | omega | ((simp (disch := omega) only [lit, n_eq]) <;> omega)) | ((with_reducible apply p_limit_y h' rfl) <;> omega)); skip)
    | ((with_reducible apply X_Tt); focus (first | ((with_reducible apply p_take_n h') <;> first | omega | ((simp (disch := first | omega | exact Nat.lt_trans (ht _ (by omega)) (by omega)) only [lit, n_eq]) <;> omega)) | ((with_reducible apply p_limit_n h' rfl) <;> omega)); skip))
        refine X_I (p_kat1 h' q1) ?_
        repeat (first
    | ((with_reducible apply X_bndE); focus (first | ((with_reducible apply pz_pp h') <;> omega) | ((with_reducible apply pz_kk h') <;> omega) | (with_reducible exact pz_14)); skip)
    | with_reducible refine X_bnd ?_
    | ((with_reducible apply X_chk); focus (first | exact a1 | exact a2 | exact a3 | exact a4 | exact a5 | ((with_reducible apply pz_i1 h') <;> omega) | ((with_reducible apply pz_i2 h') <;> omega)); skip)
    | ((with_reducible apply X_rfO); focus (first | exact c1 | exact c2 | exact c5); skip)
    | ((with_reducible apply X_I); focus (first | ((with_reducible apply p_kaC h') <;> omega) | ((with_reducible apply p_paC h') <;> omega) | ((with_reducible apply p_skip_y h') <;> first | omega | ((simp (disch := omega) only [lit, n_eq]) <;> omega)) | ((with_reducible apply p_skip_n h') <;> first | omega | ((simp (disch := first | omega | exact Nat.lt_trans (ht _ (by omega)) (by omega)) only [lit, n_eq]) <;> omega))); skip)
    | ((with_reducible apply X_if); focus (first | (with_reducible exact rfl) | (with_reducible exact n00) | ((simp (disch := omega) only [lit, n_eq]) <;> omega)); skip)
    | ((with_reducible apply X_nif); focus (first | exact n10 | ((with_reducible apply p_cnt h') <;> omega) | ((simp (disch := first | omega | exact Nat.lt_trans (ht _ (by omega)) (by omega)) only [lit, n_eq]) <;> omega)); skip)
    | ((with_reducible apply X_T); focus (first | ((with_reducible apply p_take_y h') <;> first | omega | ((simp (disch := omega) only [lit, n_eq]) <;> omega)) | ((with_reducible apply p_limit_y h' rfl) <;> omega)); skip)
    | ((with_reducible apply X_Tt); focus (first | ((with_reducible apply p_take_n h') <;> first | omega | ((simp (disch := first | omega | exact Nat.lt_trans (ht _ (by omega)) (by omega)) only [lit, n_eq]) <;> omega)) | ((with_reducible apply p_limit_n h' rfl) <;> omega)); skip))
        refine X_V (p_add33 h' i1 (by omega) (dr + 1 + 1)) ?_
        unfold k_PA_call_53
        repeat (first
    | ((with_reducible apply X_bndE); focus (first | ((with_reducible apply pz_pp h') <;> omega) | ((with_reducible apply pz_kk h') <;> omega) | (with_reducible exact pz_14)); skip)
    | with_reducible refine X_bnd ?_
    | ((with_reducible apply X_chk); focus (first | exact a1 | exact a2 | exact a3 | exact a4 | exact a5 | ((with_reducible apply pz_i1 h') <;> omega) | ((with_reducible apply pz_i2 h') <;> omega)); skip)
    | ((with_reducible apply X_rfO); focus (first | exact c1 | exact c2 | exact c5); skip)
    | ((with_reducible apply X_I); focus (first | ((with_reducible apply p_kaC h') <;> omega) | ((with_reducible apply p_paC h') <;> omega) | ((with_reducible apply p_skip_y h') <;> first | omega | ((simp (disch := omega) only [lit, n_eq]) <;> omega)) | ((with_reducible apply p_skip_n h') <;> first | omega | ((simp (disch := first | omega | exact Nat.lt_trans (ht _ (by omega)) (by omega)) only [lit, n_eq]) <;> omega))); skip)
    | ((with_reducible apply X_if); focus (first | (with_reducible exact rfl) | (with_reducible exact n00) | ((simp (disch := omega) only [lit, n_eq]) <;> omega)); skip)
    | ((with_reducible apply X_nif); focus (first | exact n10 | ((with_reducible apply p_cnt h') <;> omega) | ((simp (disch := first | omega | exact Nat.lt_trans (ht _ (by omega)) (by omega)) only [lit, n_eq]) <;> omega)); skip)
    | ((with_reducible apply X_T); focus (first | ((with_reducible apply p_take_y h') <;> first | omega | ((simp (disch := omega) only [lit, n_eq]) <;> omega)) | ((with_reducible apply p_limit_y h' rfl) <;> omega)); skip)
    | ((with_reducible apply X_Tt); focus (first | ((with_reducible apply p_take_n h') <;> first | omega | ((simp (disch := first | omega | exact Nat.lt_trans (ht _ (by omega)) (by omega)) only [lit, n_eq]) <;> omega)) | ((with_reducible apply p_limit_n h' rfl) <;> omega)); skip))
        refine X_T (p_name_y h' i1 (by omega) t2 dr) ?_
        repeat (first
    | ((with_reducible apply X_bndE); focus (first | ((with_reducible apply pz_pp h') <;> omega) | ((with_reducible apply pz_kk h') <;> omega) | (with_reducible exact pz_14)); skip)
    | with_reducible refine X_bnd ?_
    | ((with_reducible apply X_chk); focus (first | exact a1 | exact a2 | exact a3 | exact a4 | exact a5 | ((with_reducible apply pz_i1 h') <;> omega) | ((with_reducible apply pz_i2 h') <;> omega)); skip)
    | ((with_reducible apply X_rfO); focus (first | exact c1 | exact c2 | exact c5); skip)
    | ((with_reducible apply X_I); focus (first | ((with_reducible apply p_kaC h') <;> omega) | ((with_reducible apply p_paC h') <;> omega) | ((with_reducible apply p_skip_y h') <;> first | omega | ((simp (disch := omega) only [lit, n_eq]) <;> omega)) | ((with_reducible apply p_skip_n h') <;> first | omega | ((simp (disch := first | omega | exact Nat.lt_trans (ht _ (by omega)) (by omega)) only [lit, n_eq]) <;> omega))); skip)
    | ((with_reducible apply X_if); focus (first | (with_reducible exact rfl) | (with_reducible exact n00) | ((simp (disch := omega) only [lit, n_eq]) <;> omega)); skip)
    | ((with_reducible apply X_nif); focus (first | exact n10 | ((with_reducible apply p_cnt h') <;> omega) | ((simp (disch := first | omega | exact Nat.lt_trans (ht _ (by omega)) (by omega)) only [lit, n_eq]) <;> omega)); skip)
    | ((with_reducible apply X_T); focus (first | ((with_reducible apply p_take_y h') <;> first | omega | ((simp (disch := omega) only [lit, n_eq]) <;> omega)) | ((with_reducible apply p_limit_y h' rfl) <;> omega)); skip)
    | ((with_reducible apply X_Tt); focus (first | ((with_reducible apply p_take_n h') <;> first | omega | ((simp (disch := first | omega | exact Nat.lt_trans (ht _ (by omega)) (by omega)) only [lit, n_eq]) <;> omega)) | ((with_reducible apply p_limit_n h' rfl) <;> omega)); skip))
        rw [hpa]
        try rw [hd1]
        repeat (first
    | ((with_reducible apply X_bndE); focus (first | ((with_reducible apply pz_pp h') <;> omega) | ((with_reducible apply pz_kk h') <;> omega) | (with_reducible exact pz_14)); skip)
    | with_reducible refine X_bnd ?_
    | ((with_reducible apply X_chk); focus (first | exact a1 | exact a2 | exact a3 | exact a4 | exact a5 | ((with_reducible apply pz_i1 h') <;> omega) | ((with_reducible apply pz_i2 h') <;> omega)); skip)
    | ((with_reducible apply X_rfO); focus (first | exact c1 | exact c2 | exact c5); skip)
    | ((with_reducible apply X_I); focus (first | ((with_reducible apply p_kaC h') <;> omega) | ((with_reducible apply p_paC h') <;> omega) | ((with_reducible apply p_skip_y h') <;> first | omega | ((simp (disch := omega) only [lit, n_eq]) <;> omega)) | ((with_reducible apply p_skip_n h') <;> first | omega | ((simp (disch := first | omega | exact Nat.lt_trans (ht _ (by omega)) (by omega)) only [lit, n_eq]) <;> omega))); skip)
    | ((with_reducible apply X_if); focus (first | (with_reducible exact rfl) | (with_reducible exact n00) | ((simp (disch := omega) only [lit, n_eq]) <;> omega)); skip)
    | ((with_reducible apply X_nif); focus (first | exact n10 | ((with_reducible apply p_cnt h') <;> omega) | ((simp (disch := first | omega | exact Nat.lt_trans (ht _ (by omega)) (by omega)) only [lit, n_eq]) <;> omega)); skip)
    | ((with_reducible apply X_T); focus (first | ((with_reducible apply p_take_y h') <;> first | omega | ((simp (disch := omega) only [lit, n_eq]) <;> omega)) | ((with_reducible apply p_limit_y h' rfl) <;> omega)); skip)
    | ((with_reducible apply X_Tt); focus (first | ((with_reducible apply p_take_n h') <;> first | omega | ((simp (disch := first | omega | exact Nat.lt_trans (ht _ (by omega)) (by omega)) only [lit, n_eq]) <;> omega)) | ((with_reducible apply p_limit_n h' rfl) <;> omega)); skip))
        exact X_Tt x1 rfl
      · unfold f_RM_statement f_RM_named f_RM_sums k_RM_named_217 k_RM_named_108
        simp only [hd1]
        repeat (first
    | with_reducible refine M_VI ?_
    | with_reducible refine M_VV ?_
    | with_reducible refine M_Vif ?_
    | with_reducible refine M_Vs ?_
    | with_reducible refine M_II ?_
    | with_reducible refine M_IV ?_
    | with_reducible refine M_Iif ?_
    | with_reducible refine M_Is ?_
    | with_reducible refine M_Ichk ?_
    | ((with_reducible apply BM_bndE); focus (first | ((with_reducible apply r_p R hn) <;> first | omega | assumption)); skip)
    | with_reducible refine BM_bnd ?_
    | ((with_reducible apply BM_chk); focus (((with_reducible apply r_i hn)) <;> omega); skip)
    | ((with_reducible apply BM_I); focus (first | ((with_reducible apply r_look R hn) <;> first | omega | assumption) | (with_reducible exact q_look1) | ((with_reducible apply r_draft) <;> first | omega | exact rfl | exact r_p R hn (by omega) (by assumption)) | ((with_reducible apply r_db) <;> omega) | ((with_reducible apply r_nb) <;> omega) | ((with_reducible apply r_nameb) <;> omega) | ((with_reducible apply r_name_y R hn) <;> first | omega | assumption) | ((with_reducible apply r_name_n R hn) <;> first | omega | assumption | exact ht _ (by omega))); skip)
    | ((with_reducible apply BM_V); focus (first | ((with_reducible apply r_take_y R hn) <;> first | omega | assumption | first | exact rfl | (with_reducible exact n00) | exact kp_y (by assumption) (by decide)) | ((with_reducible apply r_take_n R hn) <;> first | omega | assumption | first | exact n10 | ((simp (disch := first | assumption | omega | exact ht _ (by omega)) only [lit, n_eq, n_le, kp_0, kp_1, kp_2, kp_3, kp_4, kp_5, kp_6, kp_7, kp_8, kp_9, kp_10, kp_11, kp_12, kp_13, kp_14, kp_15, kp_16, kp_17, kp_18, kp_19, kp_20, kp_21, kp_22, kp_23, kp_24, kp_25, kp_26, kp_27, kp_28, kp_29, kp_30, kp_31, kp_32, kp_33, kp_34]) <;> omega)) | (with_reducible exact q_takeb) | ((with_reducible apply q_deep_y rfl) <;> omega) | ((with_reducible apply q_deep_n R rfl) <;> first | omega | assumption) | ((with_reducible apply q_deepb' rfl) <;> omega) | (with_reducible exact q_needb) | (with_reducible exact r_need1) | ((with_reducible apply r_need0 R hn) <;> first | omega | assumption)); skip)
    | ((with_reducible apply BM_if); focus (first | exact rfl | (with_reducible exact n00) | exact kp_y (by assumption) (by decide)); skip)
    | ((with_reducible apply BM_nif); focus (first | exact n10 | ((simp (disch := first | assumption | omega | exact ht _ (by omega)) only [lit, n_eq, n_le, kp_0, kp_1, kp_2, kp_3, kp_4, kp_5, kp_6, kp_7, kp_8, kp_9, kp_10, kp_11, kp_12, kp_13, kp_14, kp_15, kp_16, kp_17, kp_18, kp_19, kp_20, kp_21, kp_22, kp_23, kp_24, kp_25, kp_26, kp_27, kp_28, kp_29, kp_30, kp_31, kp_32, kp_33, kp_34]) <;> omega)); skip)
    | (with_reducible refine bm_jn ?_ rfl)
    | ((with_reducible apply bm_join); (focus (first | assumption | exact BI_new (by assumption) | exact BI_new (BI_new (by assumption)) | exact BI_new (BI_new (BI_new (by assumption))))); (focus omega); (focus omega); (focus (first | assumption | exact Or.inr ⟨_, by omega, rfl⟩)); intro _ _)
    | exact ⟨_, _, _, (by with_reducible rfl), by omega, by omega, (by first | assumption | exact BI_new (by assumption) | exact BI_new (BI_new (by assumption)) | exact BI_new (BI_new (BI_new (by assumption)))), (by first | exact Or.inl rfl | assumption | exact Or.inr ⟨_, by omega, rfl⟩)⟩)
        refine BM_V (j1 _) ?_
        repeat (first
    | with_reducible refine M_VI ?_
    | with_reducible refine M_VV ?_
    | with_reducible refine M_Vif ?_
    | with_reducible refine M_Vs ?_
    | with_reducible refine M_II ?_
    | with_reducible refine M_IV ?_
    | with_reducible refine M_Iif ?_
    | with_reducible refine M_Is ?_
    | with_reducible refine M_Ichk ?_
    | ((with_reducible apply BM_bndE); focus (first | ((with_reducible apply r_p R hn) <;> first | omega | assumption)); skip)
    | with_reducible refine BM_bnd ?_
    | ((with_reducible apply BM_chk); focus (((with_reducible apply r_i hn)) <;> omega); skip)
    | ((with_reducible apply BM_I); focus (first | ((with_reducible apply r_look R hn) <;> first | omega | assumption) | (with_reducible exact q_look1) | ((with_reducible apply r_draft) <;> first | omega | exact rfl | exact r_p R hn (by omega) (by assumption)) | ((with_reducible apply r_db) <;> omega) | ((with_reducible apply r_nb) <;> omega) | ((with_reducible apply r_nameb) <;> omega) | ((with_reducible apply r_name_y R hn) <;> first | omega | assumption) | ((with_reducible apply r_name_n R hn) <;> first | omega | assumption | exact ht _ (by omega))); skip)
    | ((with_reducible apply BM_V); focus (first | ((with_reducible apply r_take_y R hn) <;> first | omega | assumption | first | exact rfl | (with_reducible exact n00) | exact kp_y (by assumption) (by decide)) | ((with_reducible apply r_take_n R hn) <;> first | omega | assumption | first | exact n10 | ((simp (disch := first | assumption | omega | exact ht _ (by omega)) only [lit, n_eq, n_le, kp_0, kp_1, kp_2, kp_3, kp_4, kp_5, kp_6, kp_7, kp_8, kp_9, kp_10, kp_11, kp_12, kp_13, kp_14, kp_15, kp_16, kp_17, kp_18, kp_19, kp_20, kp_21, kp_22, kp_23, kp_24, kp_25, kp_26, kp_27, kp_28, kp_29, kp_30, kp_31, kp_32, kp_33, kp_34]) <;> omega)) | (with_reducible exact q_takeb) | ((with_reducible apply q_deep_y rfl) <;> omega) | ((with_reducible apply q_deep_n R rfl) <;> first | omega | assumption) | ((with_reducible apply q_deepb' rfl) <;> omega) | (with_reducible exact q_needb) | (with_reducible exact r_need1) | ((with_reducible apply r_need0 R hn) <;> first | omega | assumption)); skip)
    | ((with_reducible apply BM_if); focus (first | exact rfl | (with_reducible exact n00) | exact kp_y (by assumption) (by decide)); skip)
    | ((with_reducible apply BM_nif); focus (first | exact n10 | ((simp (disch := first | assumption | omega | exact ht _ (by omega)) only [lit, n_eq, n_le, kp_0, kp_1, kp_2, kp_3, kp_4, kp_5, kp_6, kp_7, kp_8, kp_9, kp_10, kp_11, kp_12, kp_13, kp_14, kp_15, kp_16, kp_17, kp_18, kp_19, kp_20, kp_21, kp_22, kp_23, kp_24, kp_25, kp_26, kp_27, kp_28, kp_29, kp_30, kp_31, kp_32, kp_33, kp_34]) <;> omega)); skip)
    | (with_reducible refine bm_jn ?_ rfl)
    | ((with_reducible apply bm_join); (focus (first | assumption | exact BI_new (by assumption) | exact BI_new (BI_new (by assumption)) | exact BI_new (BI_new (BI_new (by assumption))))); (focus omega); (focus omega); (focus (first | assumption | exact Or.inr ⟨_, by omega, rfl⟩)); intro _ _)
    | exact ⟨_, _, _, (by with_reducible rfl), by omega, by omega, (by first | assumption | exact BI_new (by assumption) | exact BI_new (BI_new (by assumption)) | exact BI_new (BI_new (BI_new (by assumption)))), (by first | exact Or.inl rfl | assumption | exact Or.inr ⟨_, by omega, rfl⟩)⟩)
        refine BM_V (j2 _) ?_
        repeat (first
    | with_reducible refine M_VI ?_
    | with_reducible refine M_VV ?_
    | with_reducible refine M_Vif ?_
    | with_reducible refine M_Vs ?_
    | with_reducible refine M_II ?_
    | with_reducible refine M_IV ?_
    | with_reducible refine M_Iif ?_
    | with_reducible refine M_Is ?_
    | with_reducible refine M_Ichk ?_
    | ((with_reducible apply BM_bndE); focus (first | ((with_reducible apply r_p R hn) <;> first | omega | assumption)); skip)
    | with_reducible refine BM_bnd ?_
    | ((with_reducible apply BM_chk); focus (((with_reducible apply r_i hn)) <;> omega); skip)
    | ((with_reducible apply BM_I); focus (first | ((with_reducible apply r_look R hn) <;> first | omega | assumption) | (with_reducible exact q_look1) | ((with_reducible apply r_draft) <;> first | omega | exact rfl | exact r_p R hn (by omega) (by assumption)) | ((with_reducible apply r_db) <;> omega) | ((with_reducible apply r_nb) <;> omega) | ((with_reducible apply r_nameb) <;> omega) | ((with_reducible apply r_name_y R hn) <;> first | omega | assumption) | ((with_reducible apply r_name_n R hn) <;> first | omega | assumption | exact ht _ (by omega))); skip)
    | ((with_reducible apply BM_V); focus (first | ((with_reducible apply r_take_y R hn) <;> first | omega | assumption | first | exact rfl | (with_reducible exact n00) | exact kp_y (by assumption) (by decide)) | ((with_reducible apply r_take_n R hn) <;> first | omega | assumption | first | exact n10 | ((simp (disch := first | assumption | omega | exact ht _ (by omega)) only [lit, n_eq, n_le, kp_0, kp_1, kp_2, kp_3, kp_4, kp_5, kp_6, kp_7, kp_8, kp_9, kp_10, kp_11, kp_12, kp_13, kp_14, kp_15, kp_16, kp_17, kp_18, kp_19, kp_20, kp_21, kp_22, kp_23, kp_24, kp_25, kp_26, kp_27, kp_28, kp_29, kp_30, kp_31, kp_32, kp_33, kp_34]) <;> omega)) | (with_reducible exact q_takeb) | ((with_reducible apply q_deep_y rfl) <;> omega) | ((with_reducible apply q_deep_n R rfl) <;> first | omega | assumption) | ((with_reducible apply q_deepb' rfl) <;> omega) | (with_reducible exact q_needb) | (with_reducible exact r_need1) | ((with_reducible apply r_need0 R hn) <;> first | omega | assumption)); skip)
    | ((with_reducible apply BM_if); focus (first | exact rfl | (with_reducible exact n00) | exact kp_y (by assumption) (by decide)); skip)
    | ((with_reducible apply BM_nif); focus (first | exact n10 | ((simp (disch := first | assumption | omega | exact ht _ (by omega)) only [lit, n_eq, n_le, kp_0, kp_1, kp_2, kp_3, kp_4, kp_5, kp_6, kp_7, kp_8, kp_9, kp_10, kp_11, kp_12, kp_13, kp_14, kp_15, kp_16, kp_17, kp_18, kp_19, kp_20, kp_21, kp_22, kp_23, kp_24, kp_25, kp_26, kp_27, kp_28, kp_29, kp_30, kp_31, kp_32, kp_33, kp_34]) <;> omega)); skip)
    | (with_reducible refine bm_jn ?_ rfl)
    | ((with_reducible apply bm_join); (focus (first | assumption | exact BI_new (by assumption) | exact BI_new (BI_new (by assumption)) | exact BI_new (BI_new (BI_new (by assumption))))); (focus omega); (focus omega); (focus (first | assumption | exact Or.inr ⟨_, by omega, rfl⟩)); intro _ _)
    | exact ⟨_, _, _, (by with_reducible rfl), by omega, by omega, (by first | assumption | exact BI_new (by assumption) | exact BI_new (BI_new (by assumption)) | exact BI_new (BI_new (BI_new (by assumption)))), (by first | exact Or.inl rfl | assumption | exact Or.inr ⟨_, by omega, rfl⟩)⟩)
        refine BM_I x2 ?_
        repeat (first
    | with_reducible refine M_VI ?_
    | with_reducible refine M_VV ?_
    | with_reducible refine M_Vif ?_
    | with_reducible refine M_Vs ?_
    | with_reducible refine M_II ?_
    | with_reducible refine M_IV ?_
    | with_reducible refine M_Iif ?_
    | with_reducible refine M_Is ?_
    | with_reducible refine M_Ichk ?_
    | ((with_reducible apply BM_bndE); focus (first | ((with_reducible apply r_p R hn) <;> first | omega | assumption)); skip)
    | with_reducible refine BM_bnd ?_
    | ((with_reducible apply BM_chk); focus (((with_reducible apply r_i hn)) <;> omega); skip)
    | ((with_reducible apply BM_I); focus (first | ((with_reducible apply r_look R hn) <;> first | omega | assumption) | (with_reducible exact q_look1) | ((with_reducible apply r_draft) <;> first | omega | exact rfl | exact r_p R hn (by omega) (by assumption)) | ((with_reducible apply r_db) <;> omega) | ((with_reducible apply r_nb) <;> omega) | ((with_reducible apply r_nameb) <;> omega) | ((with_reducible apply r_name_y R hn) <;> first | omega | assumption) | ((with_reducible apply r_name_n R hn) <;> first | omega | assumption | exact ht _ (by omega))); skip)
    | ((with_reducible apply BM_V); focus (first | ((with_reducible apply r_take_y R hn) <;> first | omega | assumption | first | exact rfl | (with_reducible exact n00) | exact kp_y (by assumption) (by decide)) | ((with_reducible apply r_take_n R hn) <;> first | omega | assumption | first | exact n10 | ((simp (disch := first | assumption | omega | exact ht _ (by omega)) only [lit, n_eq, n_le, kp_0, kp_1, kp_2, kp_3, kp_4, kp_5, kp_6, kp_7, kp_8, kp_9, kp_10, kp_11, kp_12, kp_13, kp_14, kp_15, kp_16, kp_17, kp_18, kp_19, kp_20, kp_21, kp_22, kp_23, kp_24, kp_25, kp_26, kp_27, kp_28, kp_29, kp_30, kp_31, kp_32, kp_33, kp_34]) <;> omega)) | (with_reducible exact q_takeb) | ((with_reducible apply q_deep_y rfl) <;> omega) | ((with_reducible apply q_deep_n R rfl) <;> first | omega | assumption) | ((with_reducible apply q_deepb' rfl) <;> omega) | (with_reducible exact q_needb) | (with_reducible exact r_need1) | ((with_reducible apply r_need0 R hn) <;> first | omega | assumption)); skip)
    | ((with_reducible apply BM_if); focus (first | exact rfl | (with_reducible exact n00) | exact kp_y (by assumption) (by decide)); skip)
    | ((with_reducible apply BM_nif); focus (first | exact n10 | ((simp (disch := first | assumption | omega | exact ht _ (by omega)) only [lit, n_eq, n_le, kp_0, kp_1, kp_2, kp_3, kp_4, kp_5, kp_6, kp_7, kp_8, kp_9, kp_10, kp_11, kp_12, kp_13, kp_14, kp_15, kp_16, kp_17, kp_18, kp_19, kp_20, kp_21, kp_22, kp_23, kp_24, kp_25, kp_26, kp_27, kp_28, kp_29, kp_30, kp_31, kp_32, kp_33, kp_34]) <;> omega)); skip)
    | (with_reducible refine bm_jn ?_ rfl)
    | ((with_reducible apply bm_join); (focus (first | assumption | exact BI_new (by assumption) | exact BI_new (BI_new (by assumption)) | exact BI_new (BI_new (BI_new (by assumption))))); (focus omega); (focus omega); (focus (first | assumption | exact Or.inr ⟨_, by omega, rfl⟩)); intro _ _)
    | exact ⟨_, _, _, (by with_reducible rfl), by omega, by omega, (by first | assumption | exact BI_new (by assumption) | exact BI_new (BI_new (by assumption)) | exact BI_new (BI_new (BI_new (by assumption)))), (by first | exact Or.inl rfl | assumption | exact Or.inr ⟨_, by omega, rfl⟩)⟩)
        refine BM_V (k38_bad (by omega)) ?_
        repeat (first
    | with_reducible refine M_VI ?_
    | with_reducible refine M_VV ?_
    | with_reducible refine M_Vif ?_
    | with_reducible refine M_Vs ?_
    | with_reducible refine M_II ?_
    | with_reducible refine M_IV ?_
    | with_reducible refine M_Iif ?_
    | with_reducible refine M_Is ?_
    | with_reducible refine M_Ichk ?_
    | ((with_reducible apply BM_bndE); focus (first | ((with_reducible apply r_p R hn) <;> first | omega | assumption)); skip)
    | with_reducible refine BM_bnd ?_
    | ((with_reducible apply BM_chk); focus (((with_reducible apply r_i hn)) <;> omega); skip)
    | ((with_reducible apply BM_I); focus (first | ((with_reducible apply r_look R hn) <;> first | omega | assumption) | (with_reducible exact q_look1) | ((with_reducible apply r_draft) <;> first | omega | exact rfl | exact r_p R hn (by omega) (by assumption)) | ((with_reducible apply r_db) <;> omega) | ((with_reducible apply r_nb) <;> omega) | ((with_reducible apply r_nameb) <;> omega) | ((with_reducible apply r_name_y R hn) <;> first | omega | assumption) | ((with_reducible apply r_name_n R hn) <;> first | omega | assumption | exact ht _ (by omega))); skip)
    | ((with_reducible apply BM_V); focus (first | ((with_reducible apply r_take_y R hn) <;> first | omega | assumption | first | exact rfl | (with_reducible exact n00) | exact kp_y (by assumption) (by decide)) | ((with_reducible apply r_take_n R hn) <;> first | omega | assumption | first | exact n10 | ((simp (disch := first | assumption | omega | exact ht _ (by omega)) only [lit, n_eq, n_le, kp_0, kp_1, kp_2, kp_3, kp_4, kp_5, kp_6, kp_7, kp_8, kp_9, kp_10, kp_11, kp_12, kp_13, kp_14, kp_15, kp_16, kp_17, kp_18, kp_19, kp_20, kp_21, kp_22, kp_23, kp_24, kp_25, kp_26, kp_27, kp_28, kp_29, kp_30, kp_31, kp_32, kp_33, kp_34]) <;> omega)) | (with_reducible exact q_takeb) | ((with_reducible apply q_deep_y rfl) <;> omega) | ((with_reducible apply q_deep_n R rfl) <;> first | omega | assumption) | ((with_reducible apply q_deepb' rfl) <;> omega) | (with_reducible exact q_needb) | (with_reducible exact r_need1) | ((with_reducible apply r_need0 R hn) <;> first | omega | assumption)); skip)
    | ((with_reducible apply BM_if); focus (first | exact rfl | (with_reducible exact n00) | exact kp_y (by assumption) (by decide)); skip)
    | ((with_reducible apply BM_nif); focus (first | exact n10 | ((simp (disch := first | assumption | omega | exact ht _ (by omega)) only [lit, n_eq, n_le, kp_0, kp_1, kp_2, kp_3, kp_4, kp_5, kp_6, kp_7, kp_8, kp_9, kp_10, kp_11, kp_12, kp_13, kp_14, kp_15, kp_16, kp_17, kp_18, kp_19, kp_20, kp_21, kp_22, kp_23, kp_24, kp_25, kp_26, kp_27, kp_28, kp_29, kp_30, kp_31, kp_32, kp_33, kp_34]) <;> omega)); skip)
    | (with_reducible refine bm_jn ?_ rfl)
    | ((with_reducible apply bm_join); (focus (first | assumption | exact BI_new (by assumption) | exact BI_new (BI_new (by assumption)) | exact BI_new (BI_new (BI_new (by assumption))))); (focus omega); (focus omega); (focus (first | assumption | exact Or.inr ⟨_, by omega, rfl⟩)); intro _ _)
    | exact ⟨_, _, _, (by with_reducible rfl), by omega, by omega, (by first | assumption | exact BI_new (by assumption) | exact BI_new (BI_new (by assumption)) | exact BI_new (BI_new (BI_new (by assumption)))), (by first | exact Or.inl rfl | assumption | exact Or.inr ⟨_, by omega, rfl⟩)⟩)
theorem st_call1 {d lim hm : Nat} {ps : (Nat → Int32 → mh_H → Option (Bool × Int32 × mh_H))} {rs rc rb rs0 rs1 : (Int32 → rm_S → Option (Int32 × rm_S))} (E : EN σ ap dd tt bk bp bv dk dp dv dz n room tk tp tv S N) (hS0 : Sim σ ap dd dk dp dv dz n tk tp S (d + 1) lim hm ps rs0) (hS1 : Sim σ ap dd dk dp dv dz n tk tp S (d + 1) lim hm ps rs1) (hl : 16010 ≤ lim ∧ lim < 25900 ∧ 1 ≤ hm) (hd : d ≤ 60) {flt : Int32} {q : Nat} {ds : List Ent} {dr : Nat} {B : Nat → Nat → Int32} (hI : Inp n tk q ds dr B) (t2 : tk q = 2) (u1 : tk (q + 1) = 20) (u2 : tk (q + 1 + 1) = 2) (u3 : tk (q + 1 + 1 + 1) = 12) : OutK σ ap dd dk dp dv dz n tk tp S flt q ds dr B (lim + 10) (hm + 1) (f_PA_call N ps ap (nI d) (pz σ ap dd dk dp dv dz q ds)) (f_RM_statement N rs (f_RM_named N (f_RM_sums N rs0) rs1) rc rb (nI d) (qz S q 0 flt dr B)) := by
  have hI' := hI
  have E' := E
  obtain ⟨⟨i1, i2⟩, i3, i4, i5⟩ := hI
  obtain ⟨h, R, hn, hNN⟩ := E
  have h' := h
  obtain ⟨⟨a1, a2, a3⟩, ⟨a4, a5, a6, a7, a8, a9, a10⟩, ⟨c1, c2⟩, ⟨c4, c5, c6⟩, ⟨c7, c8, c9, c10⟩, -, ⟨e5, e6, e7⟩, e8, -, -, -, -, e9, e10, e11, e12, e13⟩ := h
  have ht : ∀ j, j < n → tk j < 35 := fun j hj => (e9 j hj).2.2.2
  have hb1 : ∀ j, j < n → j < hN σ bk := fun j hj => by omega
  have hb2 : ∀ j, j < n → j < hN σ bp := fun j hj => by omega
  have hd1 : nI d + 1 = nI (d + 1) := n_add d 1
  have q1 := e13 q i1 (by omega)
  have g1 := gd_s i2 (by omega) (by omega)
  have hp := R_3 R i1 i2
  have htq1 := ht (q + 1) q1
  have q2 := e13 (q + 1) q1 (by omega)
  have g2 := gd_s g1 (by omega) (by omega)
  have q3 := e13 (q + 1 + 1) q2 (by omega)
  have g3 := gd_s g2 (by omega) (by omega)
  have qa := e13 (q + 1 + 1 + 1) q3 (by omega)
  have ga := gd_s g3 (by omega) (by omega)
  have htqa := ht (q + 1 + 1 + 1 + 1) qa
  have hb0 := nb_new (k := 13) (p := tp q) (v := nI q) (show dr < 26000 by omega) i5
  have hb1 := nb_wrap (k := 7) (p := tp q) (v := 0) hb0 (by omega)
  have j1 := fun q' => nb_wrapE (S := S) (N := N) (bad := 0) (flt := flt) (q := q') (k := 7) (p := tp q) (v := 0) hb0 (by omega)
  have hb2 := nb_new (k := 13) (p := tp (q + 1 + 1)) (v := nI (q + 1 + 1)) (show dr + 1 + 1 < 26000 by omega) hb1.2.2.2
  have hb := nb_join hb1 hb2
  have j2 := fun q' => nb_joinE (S := S) (N := N) (bad := 0) (flt := flt) (q := q') hb1 hb2
  have hl1 : (ds ++ post (one dr 13 (tp q) (nI q) .leaf)).length = ds.length + 1 := by simp [post]
  have hib : ib ((qz S (q + 1 + 1) 0 flt (dr + 1) (bd B dr (nI 13) (nI (tp q)) (nI q))).1 12 + 1) 8002 := by
    rw [qz_12, show nI (q + 1 + 1) + 1 = nI (q + 1 + 1 + 1) from n_add _ 1, n_ib (by omega)]; omega
  have h40 : (qz S (q + 1 + 1) 0 flt (dr + 1) (bd B dr (nI 13) (nI (tp q)) (nI q))).2 4 (Int32.toNatClampNeg ((qz S (q + 1 + 1) 0 flt (dr + 1) (bd B dr (nI 13) (nI (tp q)) (nI q))).1 12 + 1)) = 40 := by
    rw [qz_12, show nI (q + 1 + 1) + 1 = nI (q + 1 + 1 + 1) from n_add _ 1, n_nat (by omega), qz_a (by omega), R_1 R q3 g3, u3]; rfl
  have hpa : ds ++ post (one dr 13 (tp q) (nI q) .leaf) ++ post (one (dr + 1 + 1) 13 (tp (q + 1 + 1)) (nI (q + 1 + 1)) .leaf) = ds ++ post (app (one dr 13 (tp q) (nI q) .leaf) (one (dr + 1 + 1) 13 (tp (q + 1 + 1)) (nI (q + 1 + 1)) .leaf)) := by rw [post_app, ← List.append_assoc]
  have hll : (ds ++ post (app (one dr 13 (tp q) (nI q) .leaf) (one (dr + 1 + 1) 13 (tp (q + 1 + 1)) (nI (q + 1 + 1)) .leaf))).length = ds.length + 2 := by simp [post, app]
  have hlk : 2 ≤ (kls (app (one dr 13 (tp q) (nI q) .leaf) (one (dr + 1 + 1) 13 (tp (q + 1 + 1)) (nI (q + 1 + 1)) .leaf))).length := by simp [kls, app]
  have hwf : wf n tk tp (app (one dr 13 (tp q) (nI q) .leaf) (one (dr + 1 + 1) 13 (tp (q + 1 + 1)) (nI (q + 1 + 1)) .leaf)) := wf_app (s_first i1 i2 t2 hp _) (s_first q2 g2 u2 (R_3 R q2 g2) _)
  have hhg : hgt (app (one dr 13 (tp q) (nI q) .leaf) (one (dr + 1 + 1) 13 (tp (q + 1 + 1)) (nI (q + 1 + 1)) .leaf)) ≤ hm := by simp only [hgt, app]; omega
  by_cases u13 : tk (q + 1 + 1 + 1 + 1) = 13
  · have qb := e13 (q + 1 + 1 + 1 + 1) qa (by omega)
    have gb := gd_s ga (by omega) (by omega)
    have htqb := ht (q + 1 + 1 + 1 + 1 + 1) qb
    by_cases u19 : tk (q + 1 + 1 + 1 + 1 + 1) = 19
    · have qc := e13 (q + 1 + 1 + 1 + 1 + 1) qb (by omega)
      have gc := gd_s gb (by omega) (by omega)
      refine OutK_y (q := q + 1 + 1 + 1 + 1 + 1 + 1) (k := 7) ?_ ?_ (New_of hb (by omega) qc gc (by omega) (by simp only [app, siz] at *; omega) ⟨by simp [okk, app, kls], by simp, ⟨hp, by simp only [app, siz] at *; omega⟩, hwf, trivial⟩ (by simp only [app, hgt] at *; omega))
      · unfold f_PA_call
        repeat (first
    | ((with_reducible apply X_bndE); focus (first | ((with_reducible apply pz_pp h') <;> omega) | ((with_reducible apply pz_kk h') <;> omega) | (with_reducible exact pz_14)); skip)
    | with_reducible refine X_bnd ?_
    | ((with_reducible apply X_chk); focus (first | exact a1 | exact a2 | exact a3 | exact a4 | exact a5 | ((with_reducible apply pz_i1 h') <;> omega) | ((with_reducible apply pz_i2 h') <;> omega)); skip)
    | ((with_reducible apply X_rfO); focus (first | exact c1 | exact c2 | exact c5); skip)
    | ((with_reducible apply X_I); focus (first | ((with_reducible apply p_kaC h') <;> omega) | ((with_reducible apply p_paC h') <;> omega) | ((with_reducible apply p_skip_y h') <;> first | omega | ((simp (disch := omega) only [lit, n_eq]) <;> omega)) | ((with_reducible apply p_skip_n h') <;> first | omega | ((simp (disch := first | omega | exact Nat.lt_trans (ht _ (by omega)) (by omega)) only [lit, n_eq]) <;> omega))); skip)
    | ((with_reducible apply X_if); focus (first | (with_reducible exact rfl) | (with_reducible exact n00) | ((simp (disch := omega) only [lit, n_eq]) <;> omega)); skip)
    | ((with_reducible apply X_nif); focus (first | exact n10 | ((with_reducible apply p_cnt h') <;> omega) | ((simp (disch := first | omega | exact Nat.lt_trans (ht _ (by omega)) (by omega)) only [lit, n_eq]) <;> omega)); skip)
    | ((with_reducible apply X_T); focus (first | ((with_reducible apply p_take_y h') <;> first | omega | ((simp (disch := omega) only [lit, n_eq]) <;> omega)) | ((with_reducible apply p_limit_y h' rfl) <;> omega)); skip)
    | ((with_reducible apply X_Tt); focus (first | ((with_reducible apply p_take_n h') <;> first | omega | ((simp (disch := first | omega | exact Nat.lt_trans (ht _ (by omega)) (by omega)) only [lit, n_eq]) <;> omega)) | ((with_reducible apply p_limit_n h' rfl) <;> omega)); skip))
        refine X_I (p_kat1 h' q1) ?_
        repeat (first
    | ((with_reducible apply X_bndE); focus (first | ((with_reducible apply pz_pp h') <;> omega) | ((with_reducible apply pz_kk h') <;> omega) | (with_reducible exact pz_14)); skip)
    | with_reducible refine X_bnd ?_
    | ((with_reducible apply X_chk); focus (first | exact a1 | exact a2 | exact a3 | exact a4 | exact a5 | ((with_reducible apply pz_i1 h') <;> omega) | ((with_reducible apply pz_i2 h') <;> omega)); skip)
    | ((with_reducible apply X_rfO); focus (first | exact c1 | exact c2 | exact c5); skip)
    | ((with_reducible apply X_I); focus (first | ((with_reducible apply p_kaC h') <;> omega) | ((with_reducible apply p_paC h') <;> omega) | ((with_reducible apply p_skip_y h') <;> first | omega | ((simp (disch := omega) only [lit, n_eq]) <;> omega)) | ((with_reducible apply p_skip_n h') <;> first | omega | ((simp (disch := first | omega | exact Nat.lt_trans (ht _ (by omega)) (by omega)) only [lit, n_eq]) <;> omega))); skip)
    | ((with_reducible apply X_if); focus (first | (with_reducible exact rfl) | (with_reducible exact n00) | ((simp (disch := omega) only [lit, n_eq]) <;> omega)); skip)
    | ((with_reducible apply X_nif); focus (first | exact n10 | ((with_reducible apply p_cnt h') <;> omega) | ((simp (disch := first | omega | exact Nat.lt_trans (ht _ (by omega)) (by omega)) only [lit, n_eq]) <;> omega)); skip)
    | ((with_reducible apply X_T); focus (first | ((with_reducible apply p_take_y h') <;> first | omega | ((simp (disch := omega) only [lit, n_eq]) <;> omega)) | ((with_reducible apply p_limit_y h' rfl) <;> omega)); skip)
    | ((with_reducible apply X_Tt); focus (first | ((with_reducible apply p_take_n h') <;> first | omega | ((simp (disch := first | omega | exact Nat.lt_trans (ht _ (by omega)) (by omega)) only [lit, n_eq]) <;> omega)) | ((with_reducible apply p_limit_n h' rfl) <;> omega)); skip))
        refine X_T (p_name_y h' i1 (by omega) t2 dr) ?_
        repeat (first
    | ((with_reducible apply X_bndE); focus (first | ((with_reducible apply pz_pp h') <;> omega) | ((with_reducible apply pz_kk h') <;> omega) | (with_reducible exact pz_14)); skip)
    | with_reducible refine X_bnd ?_
    | ((with_reducible apply X_chk); focus (first | exact a1 | exact a2 | exact a3 | exact a4 | exact a5 | ((with_reducible apply pz_i1 h') <;> omega) | ((with_reducible apply pz_i2 h') <;> omega)); skip)
    | ((with_reducible apply X_rfO); focus (first | exact c1 | exact c2 | exact c5); skip)
    | ((with_reducible apply X_I); focus (first | ((with_reducible apply p_kaC h') <;> omega) | ((with_reducible apply p_paC h') <;> omega) | ((with_reducible apply p_skip_y h') <;> first | omega | ((simp (disch := omega) only [lit, n_eq]) <;> omega)) | ((with_reducible apply p_skip_n h') <;> first | omega | ((simp (disch := first | omega | exact Nat.lt_trans (ht _ (by omega)) (by omega)) only [lit, n_eq]) <;> omega))); skip)
    | ((with_reducible apply X_if); focus (first | (with_reducible exact rfl) | (with_reducible exact n00) | ((simp (disch := omega) only [lit, n_eq]) <;> omega)); skip)
    | ((with_reducible apply X_nif); focus (first | exact n10 | ((with_reducible apply p_cnt h') <;> omega) | ((simp (disch := first | omega | exact Nat.lt_trans (ht _ (by omega)) (by omega)) only [lit, n_eq]) <;> omega)); skip)
    | ((with_reducible apply X_T); focus (first | ((with_reducible apply p_take_y h') <;> first | omega | ((simp (disch := omega) only [lit, n_eq]) <;> omega)) | ((with_reducible apply p_limit_y h' rfl) <;> omega)); skip)
    | ((with_reducible apply X_Tt); focus (first | ((with_reducible apply p_take_n h') <;> first | omega | ((simp (disch := first | omega | exact Nat.lt_trans (ht _ (by omega)) (by omega)) only [lit, n_eq]) <;> omega)) | ((with_reducible apply p_limit_n h' rfl) <;> omega)); skip))
        unfold k_PA_call_53
        repeat (first
    | ((with_reducible apply X_bndE); focus (first | ((with_reducible apply pz_pp h') <;> omega) | ((with_reducible apply pz_kk h') <;> omega) | (with_reducible exact pz_14)); skip)
    | with_reducible refine X_bnd ?_
    | ((with_reducible apply X_chk); focus (first | exact a1 | exact a2 | exact a3 | exact a4 | exact a5 | ((with_reducible apply pz_i1 h') <;> omega) | ((with_reducible apply pz_i2 h') <;> omega)); skip)
    | ((with_reducible apply X_rfO); focus (first | exact c1 | exact c2 | exact c5); skip)
    | ((with_reducible apply X_I); focus (first | ((with_reducible apply p_kaC h') <;> omega) | ((with_reducible apply p_paC h') <;> omega) | ((with_reducible apply p_skip_y h') <;> first | omega | ((simp (disch := omega) only [lit, n_eq]) <;> omega)) | ((with_reducible apply p_skip_n h') <;> first | omega | ((simp (disch := first | omega | exact Nat.lt_trans (ht _ (by omega)) (by omega)) only [lit, n_eq]) <;> omega))); skip)
    | ((with_reducible apply X_if); focus (first | (with_reducible exact rfl) | (with_reducible exact n00) | ((simp (disch := omega) only [lit, n_eq]) <;> omega)); skip)
    | ((with_reducible apply X_nif); focus (first | exact n10 | ((with_reducible apply p_cnt h') <;> omega) | ((simp (disch := first | omega | exact Nat.lt_trans (ht _ (by omega)) (by omega)) only [lit, n_eq]) <;> omega)); skip)
    | ((with_reducible apply X_T); focus (first | ((with_reducible apply p_take_y h') <;> first | omega | ((simp (disch := omega) only [lit, n_eq]) <;> omega)) | ((with_reducible apply p_limit_y h' rfl) <;> omega)); skip)
    | ((with_reducible apply X_Tt); focus (first | ((with_reducible apply p_take_n h') <;> first | omega | ((simp (disch := first | omega | exact Nat.lt_trans (ht _ (by omega)) (by omega)) only [lit, n_eq]) <;> omega)) | ((with_reducible apply p_limit_n h' rfl) <;> omega)); skip))
        refine X_T (p_name_y h' q2 (by omega) u2 (dr + 1 + 1)) ?_
        repeat (first
    | ((with_reducible apply X_bndE); focus (first | ((with_reducible apply pz_pp h') <;> omega) | ((with_reducible apply pz_kk h') <;> omega) | (with_reducible exact pz_14)); skip)
    | with_reducible refine X_bnd ?_
    | ((with_reducible apply X_chk); focus (first | exact a1 | exact a2 | exact a3 | exact a4 | exact a5 | ((with_reducible apply pz_i1 h') <;> omega) | ((with_reducible apply pz_i2 h') <;> omega)); skip)
    | ((with_reducible apply X_rfO); focus (first | exact c1 | exact c2 | exact c5); skip)
    | ((with_reducible apply X_I); focus (first | ((with_reducible apply p_kaC h') <;> omega) | ((with_reducible apply p_paC h') <;> omega) | ((with_reducible apply p_skip_y h') <;> first | omega | ((simp (disch := omega) only [lit, n_eq]) <;> omega)) | ((with_reducible apply p_skip_n h') <;> first | omega | ((simp (disch := first | omega | exact Nat.lt_trans (ht _ (by omega)) (by omega)) only [lit, n_eq]) <;> omega))); skip)
    | ((with_reducible apply X_if); focus (first | (with_reducible exact rfl) | (with_reducible exact n00) | ((simp (disch := omega) only [lit, n_eq]) <;> omega)); skip)
    | ((with_reducible apply X_nif); focus (first | exact n10 | ((with_reducible apply p_cnt h') <;> omega) | ((simp (disch := first | omega | exact Nat.lt_trans (ht _ (by omega)) (by omega)) only [lit, n_eq]) <;> omega)); skip)
    | ((with_reducible apply X_T); focus (first | ((with_reducible apply p_take_y h') <;> first | omega | ((simp (disch := omega) only [lit, n_eq]) <;> omega)) | ((with_reducible apply p_limit_y h' rfl) <;> omega)); skip)
    | ((with_reducible apply X_Tt); focus (first | ((with_reducible apply p_take_n h') <;> first | omega | ((simp (disch := first | omega | exact Nat.lt_trans (ht _ (by omega)) (by omega)) only [lit, n_eq]) <;> omega)) | ((with_reducible apply p_limit_n h' rfl) <;> omega)); skip))
        rw [hpa]
        try rw [hd1]
        repeat (first
    | ((with_reducible apply X_bndE); focus (first | ((with_reducible apply pz_pp h') <;> omega) | ((with_reducible apply pz_kk h') <;> omega) | (with_reducible exact pz_14)); skip)
    | with_reducible refine X_bnd ?_
    | ((with_reducible apply X_chk); focus (first | exact a1 | exact a2 | exact a3 | exact a4 | exact a5 | ((with_reducible apply pz_i1 h') <;> omega) | ((with_reducible apply pz_i2 h') <;> omega)); skip)
    | ((with_reducible apply X_rfO); focus (first | exact c1 | exact c2 | exact c5); skip)
    | ((with_reducible apply X_I); focus (first | ((with_reducible apply p_kaC h') <;> omega) | ((with_reducible apply p_paC h') <;> omega) | ((with_reducible apply p_skip_y h') <;> first | omega | ((simp (disch := omega) only [lit, n_eq]) <;> omega)) | ((with_reducible apply p_skip_n h') <;> first | omega | ((simp (disch := first | omega | exact Nat.lt_trans (ht _ (by omega)) (by omega)) only [lit, n_eq]) <;> omega))); skip)
    | ((with_reducible apply X_if); focus (first | (with_reducible exact rfl) | (with_reducible exact n00) | ((simp (disch := omega) only [lit, n_eq]) <;> omega)); skip)
    | ((with_reducible apply X_nif); focus (first | exact n10 | ((with_reducible apply p_cnt h') <;> omega) | ((simp (disch := first | omega | exact Nat.lt_trans (ht _ (by omega)) (by omega)) only [lit, n_eq]) <;> omega)); skip)
    | ((with_reducible apply X_T); focus (first | ((with_reducible apply p_take_y h') <;> first | omega | ((simp (disch := omega) only [lit, n_eq]) <;> omega)) | ((with_reducible apply p_limit_y h' rfl) <;> omega)); skip)
    | ((with_reducible apply X_Tt); focus (first | ((with_reducible apply p_take_n h') <;> first | omega | ((simp (disch := first | omega | exact Nat.lt_trans (ht _ (by omega)) (by omega)) only [lit, n_eq]) <;> omega)) | ((with_reducible apply p_limit_n h' rfl) <;> omega)); skip))
        unfold k_PA_call_121
        repeat (first
    | ((with_reducible apply X_bndE); focus (first | ((with_reducible apply pz_pp h') <;> omega) | ((with_reducible apply pz_kk h') <;> omega) | (with_reducible exact pz_14)); skip)
    | with_reducible refine X_bnd ?_
    | ((with_reducible apply X_chk); focus (first | exact a1 | exact a2 | exact a3 | exact a4 | exact a5 | ((with_reducible apply pz_i1 h') <;> omega) | ((with_reducible apply pz_i2 h') <;> omega)); skip)
    | ((with_reducible apply X_rfO); focus (first | exact c1 | exact c2 | exact c5); skip)
    | ((with_reducible apply X_I); focus (first | ((with_reducible apply p_kaC h') <;> omega) | ((with_reducible apply p_paC h') <;> omega) | ((with_reducible apply p_skip_y h') <;> first | omega | ((simp (disch := omega) only [lit, n_eq]) <;> omega)) | ((with_reducible apply p_skip_n h') <;> first | omega | ((simp (disch := first | omega | exact Nat.lt_trans (ht _ (by omega)) (by omega)) only [lit, n_eq]) <;> omega))); skip)
    | ((with_reducible apply X_if); focus (first | (with_reducible exact rfl) | (with_reducible exact n00) | ((simp (disch := omega) only [lit, n_eq]) <;> omega)); skip)
    | ((with_reducible apply X_nif); focus (first | exact n10 | ((with_reducible apply p_cnt h') <;> omega) | ((simp (disch := first | omega | exact Nat.lt_trans (ht _ (by omega)) (by omega)) only [lit, n_eq]) <;> omega)); skip)
    | ((with_reducible apply X_T); focus (first | ((with_reducible apply p_take_y h') <;> first | omega | ((simp (disch := omega) only [lit, n_eq]) <;> omega)) | ((with_reducible apply p_limit_y h' rfl) <;> omega)); skip)
    | ((with_reducible apply X_Tt); focus (first | ((with_reducible apply p_take_n h') <;> first | omega | ((simp (disch := first | omega | exact Nat.lt_trans (ht _ (by omega)) (by omega)) only [lit, n_eq]) <;> omega)) | ((with_reducible apply p_limit_n h' rfl) <;> omega)); skip))
        rfl
      · unfold f_RM_statement f_RM_named f_RM_sums k_RM_named_217 k_RM_named_108
        simp only [hd1]
        repeat (first
    | with_reducible refine A_VI ?_
    | with_reducible refine A_VV ?_
    | with_reducible refine A_Vif ?_
    | with_reducible refine A_Vs ?_
    | with_reducible refine A_II ?_
    | with_reducible refine A_IV ?_
    | with_reducible refine A_Iif ?_
    | with_reducible refine A_Is ?_
    | with_reducible refine A_Ichk ?_
    | ((with_reducible apply X_bndE); focus (first | ((with_reducible apply r_p R hn) <;> first | omega | assumption)); skip)
    | with_reducible refine X_bnd ?_
    | ((with_reducible apply X_chk); focus (((with_reducible apply r_i hn)) <;> omega); skip)
    | ((with_reducible apply X_I); focus (first | ((with_reducible apply r_look R hn) <;> first | omega | assumption) | (with_reducible exact q_look1) | ((with_reducible apply r_draft) <;> first | omega | exact rfl | exact r_p R hn (by omega) (by assumption)) | ((with_reducible apply r_name_y R hn) <;> first | omega | assumption)); skip)
    | ((with_reducible apply X_V); focus (first | ((with_reducible apply r_take_y R hn) <;> first | omega | assumption | first | exact rfl | (with_reducible exact n00) | exact kp_y (by assumption) (by decide)) | ((with_reducible apply r_take_n R hn) <;> first | omega | assumption | first | exact n10 | ((simp (disch := first | assumption | omega | exact ht _ (by omega)) only [lit, n_eq, n_le, kp_0, kp_1, kp_2, kp_3, kp_4, kp_5, kp_6, kp_7, kp_8, kp_9, kp_10, kp_11, kp_12, kp_13, kp_14, kp_15, kp_16, kp_17, kp_18, kp_19, kp_20, kp_21, kp_22, kp_23, kp_24, kp_25, kp_26, kp_27, kp_28, kp_29, kp_30, kp_31, kp_32, kp_33, kp_34]) <;> omega)) | (with_reducible exact q_takeb) | ((with_reducible apply q_deep_y rfl) <;> omega) | ((with_reducible apply q_deep_n R rfl) <;> first | omega | assumption) | (with_reducible exact q_needb) | (with_reducible exact r_need1) | ((with_reducible apply r_need0 R hn) <;> first | omega | assumption)); skip)
    | ((with_reducible apply X_if); focus (first | exact rfl | (with_reducible exact n00) | exact kp_y (by assumption) (by decide)); skip)
    | ((with_reducible apply X_nif); focus (first | exact n10 | ((simp (disch := first | assumption | omega | exact ht _ (by omega)) only [lit, n_eq, n_le, kp_0, kp_1, kp_2, kp_3, kp_4, kp_5, kp_6, kp_7, kp_8, kp_9, kp_10, kp_11, kp_12, kp_13, kp_14, kp_15, kp_16, kp_17, kp_18, kp_19, kp_20, kp_21, kp_22, kp_23, kp_24, kp_25, kp_26, kp_27, kp_28, kp_29, kp_30, kp_31, kp_32, kp_33, kp_34]) <;> omega)); skip))
        refine X_chk hib ?_
        repeat (first
    | with_reducible refine A_VI ?_
    | with_reducible refine A_VV ?_
    | with_reducible refine A_Vif ?_
    | with_reducible refine A_Vs ?_
    | with_reducible refine A_II ?_
    | with_reducible refine A_IV ?_
    | with_reducible refine A_Iif ?_
    | with_reducible refine A_Is ?_
    | with_reducible refine A_Ichk ?_
    | ((with_reducible apply X_bndE); focus (first | ((with_reducible apply r_p R hn) <;> first | omega | assumption)); skip)
    | with_reducible refine X_bnd ?_
    | ((with_reducible apply X_chk); focus (((with_reducible apply r_i hn)) <;> omega); skip)
    | ((with_reducible apply X_I); focus (first | ((with_reducible apply r_look R hn) <;> first | omega | assumption) | (with_reducible exact q_look1) | ((with_reducible apply r_draft) <;> first | omega | exact rfl | exact r_p R hn (by omega) (by assumption)) | ((with_reducible apply r_name_y R hn) <;> first | omega | assumption)); skip)
    | ((with_reducible apply X_V); focus (first | ((with_reducible apply r_take_y R hn) <;> first | omega | assumption | first | exact rfl | (with_reducible exact n00) | exact kp_y (by assumption) (by decide)) | ((with_reducible apply r_take_n R hn) <;> first | omega | assumption | first | exact n10 | ((simp (disch := first | assumption | omega | exact ht _ (by omega)) only [lit, n_eq, n_le, kp_0, kp_1, kp_2, kp_3, kp_4, kp_5, kp_6, kp_7, kp_8, kp_9, kp_10, kp_11, kp_12, kp_13, kp_14, kp_15, kp_16, kp_17, kp_18, kp_19, kp_20, kp_21, kp_22, kp_23, kp_24, kp_25, kp_26, kp_27, kp_28, kp_29, kp_30, kp_31, kp_32, kp_33, kp_34]) <;> omega)) | (with_reducible exact q_takeb) | ((with_reducible apply q_deep_y rfl) <;> omega) | ((with_reducible apply q_deep_n R rfl) <;> first | omega | assumption) | (with_reducible exact q_needb) | (with_reducible exact r_need1) | ((with_reducible apply r_need0 R hn) <;> first | omega | assumption)); skip)
    | ((with_reducible apply X_if); focus (first | exact rfl | (with_reducible exact n00) | exact kp_y (by assumption) (by decide)); skip)
    | ((with_reducible apply X_nif); focus (first | exact n10 | ((simp (disch := first | assumption | omega | exact ht _ (by omega)) only [lit, n_eq, n_le, kp_0, kp_1, kp_2, kp_3, kp_4, kp_5, kp_6, kp_7, kp_8, kp_9, kp_10, kp_11, kp_12, kp_13, kp_14, kp_15, kp_16, kp_17, kp_18, kp_19, kp_20, kp_21, kp_22, kp_23, kp_24, kp_25, kp_26, kp_27, kp_28, kp_29, kp_30, kp_31, kp_32, kp_33, kp_34]) <;> omega)); skip))
        refine X_if h40 ?_
        repeat (first
    | with_reducible refine A_VI ?_
    | with_reducible refine A_VV ?_
    | with_reducible refine A_Vif ?_
    | with_reducible refine A_Vs ?_
    | with_reducible refine A_II ?_
    | with_reducible refine A_IV ?_
    | with_reducible refine A_Iif ?_
    | with_reducible refine A_Is ?_
    | with_reducible refine A_Ichk ?_
    | ((with_reducible apply X_bndE); focus (first | ((with_reducible apply r_p R hn) <;> first | omega | assumption)); skip)
    | with_reducible refine X_bnd ?_
    | ((with_reducible apply X_chk); focus (((with_reducible apply r_i hn)) <;> omega); skip)
    | ((with_reducible apply X_I); focus (first | ((with_reducible apply r_look R hn) <;> first | omega | assumption) | (with_reducible exact q_look1) | ((with_reducible apply r_draft) <;> first | omega | exact rfl | exact r_p R hn (by omega) (by assumption)) | ((with_reducible apply r_name_y R hn) <;> first | omega | assumption)); skip)
    | ((with_reducible apply X_V); focus (first | ((with_reducible apply r_take_y R hn) <;> first | omega | assumption | first | exact rfl | (with_reducible exact n00) | exact kp_y (by assumption) (by decide)) | ((with_reducible apply r_take_n R hn) <;> first | omega | assumption | first | exact n10 | ((simp (disch := first | assumption | omega | exact ht _ (by omega)) only [lit, n_eq, n_le, kp_0, kp_1, kp_2, kp_3, kp_4, kp_5, kp_6, kp_7, kp_8, kp_9, kp_10, kp_11, kp_12, kp_13, kp_14, kp_15, kp_16, kp_17, kp_18, kp_19, kp_20, kp_21, kp_22, kp_23, kp_24, kp_25, kp_26, kp_27, kp_28, kp_29, kp_30, kp_31, kp_32, kp_33, kp_34]) <;> omega)) | (with_reducible exact q_takeb) | ((with_reducible apply q_deep_y rfl) <;> omega) | ((with_reducible apply q_deep_n R rfl) <;> first | omega | assumption) | (with_reducible exact q_needb) | (with_reducible exact r_need1) | ((with_reducible apply r_need0 R hn) <;> first | omega | assumption)); skip)
    | ((with_reducible apply X_if); focus (first | exact rfl | (with_reducible exact n00) | exact kp_y (by assumption) (by decide)); skip)
    | ((with_reducible apply X_nif); focus (first | exact n10 | ((simp (disch := first | assumption | omega | exact ht _ (by omega)) only [lit, n_eq, n_le, kp_0, kp_1, kp_2, kp_3, kp_4, kp_5, kp_6, kp_7, kp_8, kp_9, kp_10, kp_11, kp_12, kp_13, kp_14, kp_15, kp_16, kp_17, kp_18, kp_19, kp_20, kp_21, kp_22, kp_23, kp_24, kp_25, kp_26, kp_27, kp_28, kp_29, kp_30, kp_31, kp_32, kp_33, kp_34]) <;> omega)); skip))
        refine X_V (j1 _) ?_
        repeat (first
    | with_reducible refine A_VI ?_
    | with_reducible refine A_VV ?_
    | with_reducible refine A_Vif ?_
    | with_reducible refine A_Vs ?_
    | with_reducible refine A_II ?_
    | with_reducible refine A_IV ?_
    | with_reducible refine A_Iif ?_
    | with_reducible refine A_Is ?_
    | with_reducible refine A_Ichk ?_
    | ((with_reducible apply X_bndE); focus (first | ((with_reducible apply r_p R hn) <;> first | omega | assumption)); skip)
    | with_reducible refine X_bnd ?_
    | ((with_reducible apply X_chk); focus (((with_reducible apply r_i hn)) <;> omega); skip)
    | ((with_reducible apply X_I); focus (first | ((with_reducible apply r_look R hn) <;> first | omega | assumption) | (with_reducible exact q_look1) | ((with_reducible apply r_draft) <;> first | omega | exact rfl | exact r_p R hn (by omega) (by assumption)) | ((with_reducible apply r_name_y R hn) <;> first | omega | assumption)); skip)
    | ((with_reducible apply X_V); focus (first | ((with_reducible apply r_take_y R hn) <;> first | omega | assumption | first | exact rfl | (with_reducible exact n00) | exact kp_y (by assumption) (by decide)) | ((with_reducible apply r_take_n R hn) <;> first | omega | assumption | first | exact n10 | ((simp (disch := first | assumption | omega | exact ht _ (by omega)) only [lit, n_eq, n_le, kp_0, kp_1, kp_2, kp_3, kp_4, kp_5, kp_6, kp_7, kp_8, kp_9, kp_10, kp_11, kp_12, kp_13, kp_14, kp_15, kp_16, kp_17, kp_18, kp_19, kp_20, kp_21, kp_22, kp_23, kp_24, kp_25, kp_26, kp_27, kp_28, kp_29, kp_30, kp_31, kp_32, kp_33, kp_34]) <;> omega)) | (with_reducible exact q_takeb) | ((with_reducible apply q_deep_y rfl) <;> omega) | ((with_reducible apply q_deep_n R rfl) <;> first | omega | assumption) | (with_reducible exact q_needb) | (with_reducible exact r_need1) | ((with_reducible apply r_need0 R hn) <;> first | omega | assumption)); skip)
    | ((with_reducible apply X_if); focus (first | exact rfl | (with_reducible exact n00) | exact kp_y (by assumption) (by decide)); skip)
    | ((with_reducible apply X_nif); focus (first | exact n10 | ((simp (disch := first | assumption | omega | exact ht _ (by omega)) only [lit, n_eq, n_le, kp_0, kp_1, kp_2, kp_3, kp_4, kp_5, kp_6, kp_7, kp_8, kp_9, kp_10, kp_11, kp_12, kp_13, kp_14, kp_15, kp_16, kp_17, kp_18, kp_19, kp_20, kp_21, kp_22, kp_23, kp_24, kp_25, kp_26, kp_27, kp_28, kp_29, kp_30, kp_31, kp_32, kp_33, kp_34]) <;> omega)); skip))
        refine X_V (j2 _) ?_
        repeat (first
    | with_reducible refine A_VI ?_
    | with_reducible refine A_VV ?_
    | with_reducible refine A_Vif ?_
    | with_reducible refine A_Vs ?_
    | with_reducible refine A_II ?_
    | with_reducible refine A_IV ?_
    | with_reducible refine A_Iif ?_
    | with_reducible refine A_Is ?_
    | with_reducible refine A_Ichk ?_
    | ((with_reducible apply X_bndE); focus (first | ((with_reducible apply r_p R hn) <;> first | omega | assumption)); skip)
    | with_reducible refine X_bnd ?_
    | ((with_reducible apply X_chk); focus (((with_reducible apply r_i hn)) <;> omega); skip)
    | ((with_reducible apply X_I); focus (first | ((with_reducible apply r_look R hn) <;> first | omega | assumption) | (with_reducible exact q_look1) | ((with_reducible apply r_draft) <;> first | omega | exact rfl | exact r_p R hn (by omega) (by assumption)) | ((with_reducible apply r_name_y R hn) <;> first | omega | assumption)); skip)
    | ((with_reducible apply X_V); focus (first | ((with_reducible apply r_take_y R hn) <;> first | omega | assumption | first | exact rfl | (with_reducible exact n00) | exact kp_y (by assumption) (by decide)) | ((with_reducible apply r_take_n R hn) <;> first | omega | assumption | first | exact n10 | ((simp (disch := first | assumption | omega | exact ht _ (by omega)) only [lit, n_eq, n_le, kp_0, kp_1, kp_2, kp_3, kp_4, kp_5, kp_6, kp_7, kp_8, kp_9, kp_10, kp_11, kp_12, kp_13, kp_14, kp_15, kp_16, kp_17, kp_18, kp_19, kp_20, kp_21, kp_22, kp_23, kp_24, kp_25, kp_26, kp_27, kp_28, kp_29, kp_30, kp_31, kp_32, kp_33, kp_34]) <;> omega)) | (with_reducible exact q_takeb) | ((with_reducible apply q_deep_y rfl) <;> omega) | ((with_reducible apply q_deep_n R rfl) <;> first | omega | assumption) | (with_reducible exact q_needb) | (with_reducible exact r_need1) | ((with_reducible apply r_need0 R hn) <;> first | omega | assumption)); skip)
    | ((with_reducible apply X_if); focus (first | exact rfl | (with_reducible exact n00) | exact kp_y (by assumption) (by decide)); skip)
    | ((with_reducible apply X_nif); focus (first | exact n10 | ((simp (disch := first | assumption | omega | exact ht _ (by omega)) only [lit, n_eq, n_le, kp_0, kp_1, kp_2, kp_3, kp_4, kp_5, kp_6, kp_7, kp_8, kp_9, kp_10, kp_11, kp_12, kp_13, kp_14, kp_15, kp_16, kp_17, kp_18, kp_19, kp_20, kp_21, kp_22, kp_23, kp_24, kp_25, kp_26, kp_27, kp_28, kp_29, kp_30, kp_31, kp_32, kp_33, kp_34]) <;> omega)); skip))
        rfl
    · refine OutK_b (q := q + 1 + 1 + 1 + 1 + 1) (x := post (app (one dr 13 (tp q) (nI q) .leaf) (one (dr + 1 + 1) 13 (tp (q + 1 + 1)) (nI (q + 1 + 1)) .leaf))) ?_ rfl ?_ qb gb
      · unfold f_PA_call
        repeat (first
    | ((with_reducible apply X_bndE); focus (first | ((with_reducible apply pz_pp h') <;> omega) | ((with_reducible apply pz_kk h') <;> omega) | (with_reducible exact pz_14)); skip)
    | with_reducible refine X_bnd ?_
    | ((with_reducible apply X_chk); focus (first | exact a1 | exact a2 | exact a3 | exact a4 | exact a5 | ((with_reducible apply pz_i1 h') <;> omega) | ((with_reducible apply pz_i2 h') <;> omega)); skip)
    | ((with_reducible apply X_rfO); focus (first | exact c1 | exact c2 | exact c5); skip)
    | ((with_reducible apply X_I); focus (first | ((with_reducible apply p_kaC h') <;> omega) | ((with_reducible apply p_paC h') <;> omega) | ((with_reducible apply p_skip_y h') <;> first | omega | ((simp (disch := omega) only [lit, n_eq]) <;> omega)) | ((with_reducible apply p_skip_n h') <;> first | omega | ((simp (disch := first | omega | exact Nat.lt_trans (ht _ (by omega)) (by omega)) only [lit, n_eq]) <;> omega))); skip)
    | ((with_reducible apply X_if); focus (first | (with_reducible exact rfl) | (with_reducible exact n00) | ((simp (disch := omega) only [lit, n_eq]) <;> omega)); skip)
    | ((with_reducible apply X_nif); focus (first | exact n10 | ((with_reducible apply p_cnt h') <;> omega) | ((simp (disch := first | omega | exact Nat.lt_trans (ht _ (by omega)) (by omega)) only [lit, n_eq]) <;> omega)); skip)
    | ((with_reducible apply X_T); focus (first | ((with_reducible apply p_take_y h') <;> first | omega | ((simp (disch := omega) only [lit, n_eq]) <;> omega)) | ((with_reducible apply p_limit_y h' rfl) <;> omega)); skip)
    | ((with_reducible apply X_Tt); focus (first | ((with_reducible apply p_take_n h') <;> first | omega | ((simp (disch := first | omega | exact Nat.lt_trans (ht _ (by omega)) (by omega)) only [lit, n_eq]) <;> omega)) | ((with_reducible apply p_limit_n h' rfl) <;> omega)); skip))
        refine X_I (p_kat1 h' q1) ?_
        repeat (first
    | ((with_reducible apply X_bndE); focus (first | ((with_reducible apply pz_pp h') <;> omega) | ((with_reducible apply pz_kk h') <;> omega) | (with_reducible exact pz_14)); skip)
    | with_reducible refine X_bnd ?_
    | ((with_reducible apply X_chk); focus (first | exact a1 | exact a2 | exact a3 | exact a4 | exact a5 | ((with_reducible apply pz_i1 h') <;> omega) | ((with_reducible apply pz_i2 h') <;> omega)); skip)
    | ((with_reducible apply X_rfO); focus (first | exact c1 | exact c2 | exact c5); skip)
    | ((with_reducible apply X_I); focus (first | ((with_reducible apply p_kaC h') <;> omega) | ((with_reducible apply p_paC h') <;> omega) | ((with_reducible apply p_skip_y h') <;> first | omega | ((simp (disch := omega) only [lit, n_eq]) <;> omega)) | ((with_reducible apply p_skip_n h') <;> first | omega | ((simp (disch := first | omega | exact Nat.lt_trans (ht _ (by omega)) (by omega)) only [lit, n_eq]) <;> omega))); skip)
    | ((with_reducible apply X_if); focus (first | (with_reducible exact rfl) | (with_reducible exact n00) | ((simp (disch := omega) only [lit, n_eq]) <;> omega)); skip)
    | ((with_reducible apply X_nif); focus (first | exact n10 | ((with_reducible apply p_cnt h') <;> omega) | ((simp (disch := first | omega | exact Nat.lt_trans (ht _ (by omega)) (by omega)) only [lit, n_eq]) <;> omega)); skip)
    | ((with_reducible apply X_T); focus (first | ((with_reducible apply p_take_y h') <;> first | omega | ((simp (disch := omega) only [lit, n_eq]) <;> omega)) | ((with_reducible apply p_limit_y h' rfl) <;> omega)); skip)
    | ((with_reducible apply X_Tt); focus (first | ((with_reducible apply p_take_n h') <;> first | omega | ((simp (disch := first | omega | exact Nat.lt_trans (ht _ (by omega)) (by omega)) only [lit, n_eq]) <;> omega)) | ((with_reducible apply p_limit_n h' rfl) <;> omega)); skip))
        refine X_T (p_name_y h' i1 (by omega) t2 dr) ?_
        repeat (first
    | ((with_reducible apply X_bndE); focus (first | ((with_reducible apply pz_pp h') <;> omega) | ((with_reducible apply pz_kk h') <;> omega) | (with_reducible exact pz_14)); skip)
    | with_reducible refine X_bnd ?_
    | ((with_reducible apply X_chk); focus (first | exact a1 | exact a2 | exact a3 | exact a4 | exact a5 | ((with_reducible apply pz_i1 h') <;> omega) | ((with_reducible apply pz_i2 h') <;> omega)); skip)
    | ((with_reducible apply X_rfO); focus (first | exact c1 | exact c2 | exact c5); skip)
    | ((with_reducible apply X_I); focus (first | ((with_reducible apply p_kaC h') <;> omega) | ((with_reducible apply p_paC h') <;> omega) | ((with_reducible apply p_skip_y h') <;> first | omega | ((simp (disch := omega) only [lit, n_eq]) <;> omega)) | ((with_reducible apply p_skip_n h') <;> first | omega | ((simp (disch := first | omega | exact Nat.lt_trans (ht _ (by omega)) (by omega)) only [lit, n_eq]) <;> omega))); skip)
    | ((with_reducible apply X_if); focus (first | (with_reducible exact rfl) | (with_reducible exact n00) | ((simp (disch := omega) only [lit, n_eq]) <;> omega)); skip)
    | ((with_reducible apply X_nif); focus (first | exact n10 | ((with_reducible apply p_cnt h') <;> omega) | ((simp (disch := first | omega | exact Nat.lt_trans (ht _ (by omega)) (by omega)) only [lit, n_eq]) <;> omega)); skip)
    | ((with_reducible apply X_T); focus (first | ((with_reducible apply p_take_y h') <;> first | omega | ((simp (disch := omega) only [lit, n_eq]) <;> omega)) | ((with_reducible apply p_limit_y h' rfl) <;> omega)); skip)
    | ((with_reducible apply X_Tt); focus (first | ((with_reducible apply p_take_n h') <;> first | omega | ((simp (disch := first | omega | exact Nat.lt_trans (ht _ (by omega)) (by omega)) only [lit, n_eq]) <;> omega)) | ((with_reducible apply p_limit_n h' rfl) <;> omega)); skip))
        unfold k_PA_call_53
        repeat (first
    | ((with_reducible apply X_bndE); focus (first | ((with_reducible apply pz_pp h') <;> omega) | ((with_reducible apply pz_kk h') <;> omega) | (with_reducible exact pz_14)); skip)
    | with_reducible refine X_bnd ?_
    | ((with_reducible apply X_chk); focus (first | exact a1 | exact a2 | exact a3 | exact a4 | exact a5 | ((with_reducible apply pz_i1 h') <;> omega) | ((with_reducible apply pz_i2 h') <;> omega)); skip)
    | ((with_reducible apply X_rfO); focus (first | exact c1 | exact c2 | exact c5); skip)
    | ((with_reducible apply X_I); focus (first | ((with_reducible apply p_kaC h') <;> omega) | ((with_reducible apply p_paC h') <;> omega) | ((with_reducible apply p_skip_y h') <;> first | omega | ((simp (disch := omega) only [lit, n_eq]) <;> omega)) | ((with_reducible apply p_skip_n h') <;> first | omega | ((simp (disch := first | omega | exact Nat.lt_trans (ht _ (by omega)) (by omega)) only [lit, n_eq]) <;> omega))); skip)
    | ((with_reducible apply X_if); focus (first | (with_reducible exact rfl) | (with_reducible exact n00) | ((simp (disch := omega) only [lit, n_eq]) <;> omega)); skip)
    | ((with_reducible apply X_nif); focus (first | exact n10 | ((with_reducible apply p_cnt h') <;> omega) | ((simp (disch := first | omega | exact Nat.lt_trans (ht _ (by omega)) (by omega)) only [lit, n_eq]) <;> omega)); skip)
    | ((with_reducible apply X_T); focus (first | ((with_reducible apply p_take_y h') <;> first | omega | ((simp (disch := omega) only [lit, n_eq]) <;> omega)) | ((with_reducible apply p_limit_y h' rfl) <;> omega)); skip)
    | ((with_reducible apply X_Tt); focus (first | ((with_reducible apply p_take_n h') <;> first | omega | ((simp (disch := first | omega | exact Nat.lt_trans (ht _ (by omega)) (by omega)) only [lit, n_eq]) <;> omega)) | ((with_reducible apply p_limit_n h' rfl) <;> omega)); skip))
        refine X_T (p_name_y h' q2 (by omega) u2 (dr + 1 + 1)) ?_
        repeat (first
    | ((with_reducible apply X_bndE); focus (first | ((with_reducible apply pz_pp h') <;> omega) | ((with_reducible apply pz_kk h') <;> omega) | (with_reducible exact pz_14)); skip)
    | with_reducible refine X_bnd ?_
    | ((with_reducible apply X_chk); focus (first | exact a1 | exact a2 | exact a3 | exact a4 | exact a5 | ((with_reducible apply pz_i1 h') <;> omega) | ((with_reducible apply pz_i2 h') <;> omega)); skip)
    | ((with_reducible apply X_rfO); focus (first | exact c1 | exact c2 | exact c5); skip)
    | ((with_reducible apply X_I); focus (first | ((with_reducible apply p_kaC h') <;> omega) | ((with_reducible apply p_paC h') <;> omega) | ((with_reducible apply p_skip_y h') <;> first | omega | ((simp (disch := omega) only [lit, n_eq]) <;> omega)) | ((with_reducible apply p_skip_n h') <;> first | omega | ((simp (disch := first | omega | exact Nat.lt_trans (ht _ (by omega)) (by omega)) only [lit, n_eq]) <;> omega))); skip)
    | ((with_reducible apply X_if); focus (first | (with_reducible exact rfl) | (with_reducible exact n00) | ((simp (disch := omega) only [lit, n_eq]) <;> omega)); skip)
    | ((with_reducible apply X_nif); focus (first | exact n10 | ((with_reducible apply p_cnt h') <;> omega) | ((simp (disch := first | omega | exact Nat.lt_trans (ht _ (by omega)) (by omega)) only [lit, n_eq]) <;> omega)); skip)
    | ((with_reducible apply X_T); focus (first | ((with_reducible apply p_take_y h') <;> first | omega | ((simp (disch := omega) only [lit, n_eq]) <;> omega)) | ((with_reducible apply p_limit_y h' rfl) <;> omega)); skip)
    | ((with_reducible apply X_Tt); focus (first | ((with_reducible apply p_take_n h') <;> first | omega | ((simp (disch := first | omega | exact Nat.lt_trans (ht _ (by omega)) (by omega)) only [lit, n_eq]) <;> omega)) | ((with_reducible apply p_limit_n h' rfl) <;> omega)); skip))
        rw [hpa]
        try rw [hd1]
        repeat (first
    | ((with_reducible apply X_bndE); focus (first | ((with_reducible apply pz_pp h') <;> omega) | ((with_reducible apply pz_kk h') <;> omega) | (with_reducible exact pz_14)); skip)
    | with_reducible refine X_bnd ?_
    | ((with_reducible apply X_chk); focus (first | exact a1 | exact a2 | exact a3 | exact a4 | exact a5 | ((with_reducible apply pz_i1 h') <;> omega) | ((with_reducible apply pz_i2 h') <;> omega)); skip)
    | ((with_reducible apply X_rfO); focus (first | exact c1 | exact c2 | exact c5); skip)
    | ((with_reducible apply X_I); focus (first | ((with_reducible apply p_kaC h') <;> omega) | ((with_reducible apply p_paC h') <;> omega) | ((with_reducible apply p_skip_y h') <;> first | omega | ((simp (disch := omega) only [lit, n_eq]) <;> omega)) | ((with_reducible apply p_skip_n h') <;> first | omega | ((simp (disch := first | omega | exact Nat.lt_trans (ht _ (by omega)) (by omega)) only [lit, n_eq]) <;> omega))); skip)
    | ((with_reducible apply X_if); focus (first | (with_reducible exact rfl) | (with_reducible exact n00) | ((simp (disch := omega) only [lit, n_eq]) <;> omega)); skip)
    | ((with_reducible apply X_nif); focus (first | exact n10 | ((with_reducible apply p_cnt h') <;> omega) | ((simp (disch := first | omega | exact Nat.lt_trans (ht _ (by omega)) (by omega)) only [lit, n_eq]) <;> omega)); skip)
    | ((with_reducible apply X_T); focus (first | ((with_reducible apply p_take_y h') <;> first | omega | ((simp (disch := omega) only [lit, n_eq]) <;> omega)) | ((with_reducible apply p_limit_y h' rfl) <;> omega)); skip)
    | ((with_reducible apply X_Tt); focus (first | ((with_reducible apply p_take_n h') <;> first | omega | ((simp (disch := first | omega | exact Nat.lt_trans (ht _ (by omega)) (by omega)) only [lit, n_eq]) <;> omega)) | ((with_reducible apply p_limit_n h' rfl) <;> omega)); skip))
        unfold k_PA_call_121
        repeat (first
    | ((with_reducible apply X_bndE); focus (first | ((with_reducible apply pz_pp h') <;> omega) | ((with_reducible apply pz_kk h') <;> omega) | (with_reducible exact pz_14)); skip)
    | with_reducible refine X_bnd ?_
    | ((with_reducible apply X_chk); focus (first | exact a1 | exact a2 | exact a3 | exact a4 | exact a5 | ((with_reducible apply pz_i1 h') <;> omega) | ((with_reducible apply pz_i2 h') <;> omega)); skip)
    | ((with_reducible apply X_rfO); focus (first | exact c1 | exact c2 | exact c5); skip)
    | ((with_reducible apply X_I); focus (first | ((with_reducible apply p_kaC h') <;> omega) | ((with_reducible apply p_paC h') <;> omega) | ((with_reducible apply p_skip_y h') <;> first | omega | ((simp (disch := omega) only [lit, n_eq]) <;> omega)) | ((with_reducible apply p_skip_n h') <;> first | omega | ((simp (disch := first | omega | exact Nat.lt_trans (ht _ (by omega)) (by omega)) only [lit, n_eq]) <;> omega))); skip)
    | ((with_reducible apply X_if); focus (first | (with_reducible exact rfl) | (with_reducible exact n00) | ((simp (disch := omega) only [lit, n_eq]) <;> omega)); skip)
    | ((with_reducible apply X_nif); focus (first | exact n10 | ((with_reducible apply p_cnt h') <;> omega) | ((simp (disch := first | omega | exact Nat.lt_trans (ht _ (by omega)) (by omega)) only [lit, n_eq]) <;> omega)); skip)
    | ((with_reducible apply X_T); focus (first | ((with_reducible apply p_take_y h') <;> first | omega | ((simp (disch := omega) only [lit, n_eq]) <;> omega)) | ((with_reducible apply p_limit_y h' rfl) <;> omega)); skip)
    | ((with_reducible apply X_Tt); focus (first | ((with_reducible apply p_take_n h') <;> first | omega | ((simp (disch := first | omega | exact Nat.lt_trans (ht _ (by omega)) (by omega)) only [lit, n_eq]) <;> omega)) | ((with_reducible apply p_limit_n h' rfl) <;> omega)); skip))
        rfl
      · unfold f_RM_statement f_RM_named f_RM_sums k_RM_named_217 k_RM_named_108
        simp only [hd1]
        repeat (first
    | with_reducible refine M_VI ?_
    | with_reducible refine M_VV ?_
    | with_reducible refine M_Vif ?_
    | with_reducible refine M_Vs ?_
    | with_reducible refine M_II ?_
    | with_reducible refine M_IV ?_
    | with_reducible refine M_Iif ?_
    | with_reducible refine M_Is ?_
    | with_reducible refine M_Ichk ?_
    | ((with_reducible apply BM_bndE); focus (first | ((with_reducible apply r_p R hn) <;> first | omega | assumption)); skip)
    | with_reducible refine BM_bnd ?_
    | ((with_reducible apply BM_chk); focus (((with_reducible apply r_i hn)) <;> omega); skip)
    | ((with_reducible apply BM_I); focus (first | ((with_reducible apply r_look R hn) <;> first | omega | assumption) | (with_reducible exact q_look1) | ((with_reducible apply r_draft) <;> first | omega | exact rfl | exact r_p R hn (by omega) (by assumption)) | ((with_reducible apply r_db) <;> omega) | ((with_reducible apply r_nb) <;> omega) | ((with_reducible apply r_nameb) <;> omega) | ((with_reducible apply r_name_y R hn) <;> first | omega | assumption) | ((with_reducible apply r_name_n R hn) <;> first | omega | assumption | exact ht _ (by omega))); skip)
    | ((with_reducible apply BM_V); focus (first | ((with_reducible apply r_take_y R hn) <;> first | omega | assumption | first | exact rfl | (with_reducible exact n00) | exact kp_y (by assumption) (by decide)) | ((with_reducible apply r_take_n R hn) <;> first | omega | assumption | first | exact n10 | ((simp (disch := first | assumption | omega | exact ht _ (by omega)) only [lit, n_eq, n_le, kp_0, kp_1, kp_2, kp_3, kp_4, kp_5, kp_6, kp_7, kp_8, kp_9, kp_10, kp_11, kp_12, kp_13, kp_14, kp_15, kp_16, kp_17, kp_18, kp_19, kp_20, kp_21, kp_22, kp_23, kp_24, kp_25, kp_26, kp_27, kp_28, kp_29, kp_30, kp_31, kp_32, kp_33, kp_34]) <;> omega)) | (with_reducible exact q_takeb) | ((with_reducible apply q_deep_y rfl) <;> omega) | ((with_reducible apply q_deep_n R rfl) <;> first | omega | assumption) | ((with_reducible apply q_deepb' rfl) <;> omega) | (with_reducible exact q_needb) | (with_reducible exact r_need1) | ((with_reducible apply r_need0 R hn) <;> first | omega | assumption)); skip)
    | ((with_reducible apply BM_if); focus (first | exact rfl | (with_reducible exact n00) | exact kp_y (by assumption) (by decide)); skip)
    | ((with_reducible apply BM_nif); focus (first | exact n10 | ((simp (disch := first | assumption | omega | exact ht _ (by omega)) only [lit, n_eq, n_le, kp_0, kp_1, kp_2, kp_3, kp_4, kp_5, kp_6, kp_7, kp_8, kp_9, kp_10, kp_11, kp_12, kp_13, kp_14, kp_15, kp_16, kp_17, kp_18, kp_19, kp_20, kp_21, kp_22, kp_23, kp_24, kp_25, kp_26, kp_27, kp_28, kp_29, kp_30, kp_31, kp_32, kp_33, kp_34]) <;> omega)); skip)
    | (with_reducible refine bm_jn ?_ rfl)
    | ((with_reducible apply bm_join); (focus (first | assumption | exact BI_new (by assumption) | exact BI_new (BI_new (by assumption)) | exact BI_new (BI_new (BI_new (by assumption))))); (focus omega); (focus omega); (focus (first | assumption | exact Or.inr ⟨_, by omega, rfl⟩)); intro _ _)
    | exact ⟨_, _, _, (by with_reducible rfl), by omega, by omega, (by first | assumption | exact BI_new (by assumption) | exact BI_new (BI_new (by assumption)) | exact BI_new (BI_new (BI_new (by assumption)))), (by first | exact Or.inl rfl | assumption | exact Or.inr ⟨_, by omega, rfl⟩)⟩)
        refine BM_chk hib ?_
        repeat (first
    | with_reducible refine M_VI ?_
    | with_reducible refine M_VV ?_
    | with_reducible refine M_Vif ?_
    | with_reducible refine M_Vs ?_
    | with_reducible refine M_II ?_
    | with_reducible refine M_IV ?_
    | with_reducible refine M_Iif ?_
    | with_reducible refine M_Is ?_
    | with_reducible refine M_Ichk ?_
    | ((with_reducible apply BM_bndE); focus (first | ((with_reducible apply r_p R hn) <;> first | omega | assumption)); skip)
    | with_reducible refine BM_bnd ?_
    | ((with_reducible apply BM_chk); focus (((with_reducible apply r_i hn)) <;> omega); skip)
    | ((with_reducible apply BM_I); focus (first | ((with_reducible apply r_look R hn) <;> first | omega | assumption) | (with_reducible exact q_look1) | ((with_reducible apply r_draft) <;> first | omega | exact rfl | exact r_p R hn (by omega) (by assumption)) | ((with_reducible apply r_db) <;> omega) | ((with_reducible apply r_nb) <;> omega) | ((with_reducible apply r_nameb) <;> omega) | ((with_reducible apply r_name_y R hn) <;> first | omega | assumption) | ((with_reducible apply r_name_n R hn) <;> first | omega | assumption | exact ht _ (by omega))); skip)
    | ((with_reducible apply BM_V); focus (first | ((with_reducible apply r_take_y R hn) <;> first | omega | assumption | first | exact rfl | (with_reducible exact n00) | exact kp_y (by assumption) (by decide)) | ((with_reducible apply r_take_n R hn) <;> first | omega | assumption | first | exact n10 | ((simp (disch := first | assumption | omega | exact ht _ (by omega)) only [lit, n_eq, n_le, kp_0, kp_1, kp_2, kp_3, kp_4, kp_5, kp_6, kp_7, kp_8, kp_9, kp_10, kp_11, kp_12, kp_13, kp_14, kp_15, kp_16, kp_17, kp_18, kp_19, kp_20, kp_21, kp_22, kp_23, kp_24, kp_25, kp_26, kp_27, kp_28, kp_29, kp_30, kp_31, kp_32, kp_33, kp_34]) <;> omega)) | (with_reducible exact q_takeb) | ((with_reducible apply q_deep_y rfl) <;> omega) | ((with_reducible apply q_deep_n R rfl) <;> first | omega | assumption) | ((with_reducible apply q_deepb' rfl) <;> omega) | (with_reducible exact q_needb) | (with_reducible exact r_need1) | ((with_reducible apply r_need0 R hn) <;> first | omega | assumption)); skip)
    | ((with_reducible apply BM_if); focus (first | exact rfl | (with_reducible exact n00) | exact kp_y (by assumption) (by decide)); skip)
    | ((with_reducible apply BM_nif); focus (first | exact n10 | ((simp (disch := first | assumption | omega | exact ht _ (by omega)) only [lit, n_eq, n_le, kp_0, kp_1, kp_2, kp_3, kp_4, kp_5, kp_6, kp_7, kp_8, kp_9, kp_10, kp_11, kp_12, kp_13, kp_14, kp_15, kp_16, kp_17, kp_18, kp_19, kp_20, kp_21, kp_22, kp_23, kp_24, kp_25, kp_26, kp_27, kp_28, kp_29, kp_30, kp_31, kp_32, kp_33, kp_34]) <;> omega)); skip)
    | (with_reducible refine bm_jn ?_ rfl)
    | ((with_reducible apply bm_join); (focus (first | assumption | exact BI_new (by assumption) | exact BI_new (BI_new (by assumption)) | exact BI_new (BI_new (BI_new (by assumption))))); (focus omega); (focus omega); (focus (first | assumption | exact Or.inr ⟨_, by omega, rfl⟩)); intro _ _)
    | exact ⟨_, _, _, (by with_reducible rfl), by omega, by omega, (by first | assumption | exact BI_new (by assumption) | exact BI_new (BI_new (by assumption)) | exact BI_new (BI_new (BI_new (by assumption)))), (by first | exact Or.inl rfl | assumption | exact Or.inr ⟨_, by omega, rfl⟩)⟩)
        refine BM_if h40 ?_
        repeat (first
    | with_reducible refine M_VI ?_
    | with_reducible refine M_VV ?_
    | with_reducible refine M_Vif ?_
    | with_reducible refine M_Vs ?_
    | with_reducible refine M_II ?_
    | with_reducible refine M_IV ?_
    | with_reducible refine M_Iif ?_
    | with_reducible refine M_Is ?_
    | with_reducible refine M_Ichk ?_
    | ((with_reducible apply BM_bndE); focus (first | ((with_reducible apply r_p R hn) <;> first | omega | assumption)); skip)
    | with_reducible refine BM_bnd ?_
    | ((with_reducible apply BM_chk); focus (((with_reducible apply r_i hn)) <;> omega); skip)
    | ((with_reducible apply BM_I); focus (first | ((with_reducible apply r_look R hn) <;> first | omega | assumption) | (with_reducible exact q_look1) | ((with_reducible apply r_draft) <;> first | omega | exact rfl | exact r_p R hn (by omega) (by assumption)) | ((with_reducible apply r_db) <;> omega) | ((with_reducible apply r_nb) <;> omega) | ((with_reducible apply r_nameb) <;> omega) | ((with_reducible apply r_name_y R hn) <;> first | omega | assumption) | ((with_reducible apply r_name_n R hn) <;> first | omega | assumption | exact ht _ (by omega))); skip)
    | ((with_reducible apply BM_V); focus (first | ((with_reducible apply r_take_y R hn) <;> first | omega | assumption | first | exact rfl | (with_reducible exact n00) | exact kp_y (by assumption) (by decide)) | ((with_reducible apply r_take_n R hn) <;> first | omega | assumption | first | exact n10 | ((simp (disch := first | assumption | omega | exact ht _ (by omega)) only [lit, n_eq, n_le, kp_0, kp_1, kp_2, kp_3, kp_4, kp_5, kp_6, kp_7, kp_8, kp_9, kp_10, kp_11, kp_12, kp_13, kp_14, kp_15, kp_16, kp_17, kp_18, kp_19, kp_20, kp_21, kp_22, kp_23, kp_24, kp_25, kp_26, kp_27, kp_28, kp_29, kp_30, kp_31, kp_32, kp_33, kp_34]) <;> omega)) | (with_reducible exact q_takeb) | ((with_reducible apply q_deep_y rfl) <;> omega) | ((with_reducible apply q_deep_n R rfl) <;> first | omega | assumption) | ((with_reducible apply q_deepb' rfl) <;> omega) | (with_reducible exact q_needb) | (with_reducible exact r_need1) | ((with_reducible apply r_need0 R hn) <;> first | omega | assumption)); skip)
    | ((with_reducible apply BM_if); focus (first | exact rfl | (with_reducible exact n00) | exact kp_y (by assumption) (by decide)); skip)
    | ((with_reducible apply BM_nif); focus (first | exact n10 | ((simp (disch := first | assumption | omega | exact ht _ (by omega)) only [lit, n_eq, n_le, kp_0, kp_1, kp_2, kp_3, kp_4, kp_5, kp_6, kp_7, kp_8, kp_9, kp_10, kp_11, kp_12, kp_13, kp_14, kp_15, kp_16, kp_17, kp_18, kp_19, kp_20, kp_21, kp_22, kp_23, kp_24, kp_25, kp_26, kp_27, kp_28, kp_29, kp_30, kp_31, kp_32, kp_33, kp_34]) <;> omega)); skip)
    | (with_reducible refine bm_jn ?_ rfl)
    | ((with_reducible apply bm_join); (focus (first | assumption | exact BI_new (by assumption) | exact BI_new (BI_new (by assumption)) | exact BI_new (BI_new (BI_new (by assumption))))); (focus omega); (focus omega); (focus (first | assumption | exact Or.inr ⟨_, by omega, rfl⟩)); intro _ _)
    | exact ⟨_, _, _, (by with_reducible rfl), by omega, by omega, (by first | assumption | exact BI_new (by assumption) | exact BI_new (BI_new (by assumption)) | exact BI_new (BI_new (BI_new (by assumption)))), (by first | exact Or.inl rfl | assumption | exact Or.inr ⟨_, by omega, rfl⟩)⟩)
        refine BM_V (j1 _) ?_
        repeat (first
    | with_reducible refine M_VI ?_
    | with_reducible refine M_VV ?_
    | with_reducible refine M_Vif ?_
    | with_reducible refine M_Vs ?_
    | with_reducible refine M_II ?_
    | with_reducible refine M_IV ?_
    | with_reducible refine M_Iif ?_
    | with_reducible refine M_Is ?_
    | with_reducible refine M_Ichk ?_
    | ((with_reducible apply BM_bndE); focus (first | ((with_reducible apply r_p R hn) <;> first | omega | assumption)); skip)
    | with_reducible refine BM_bnd ?_
    | ((with_reducible apply BM_chk); focus (((with_reducible apply r_i hn)) <;> omega); skip)
    | ((with_reducible apply BM_I); focus (first | ((with_reducible apply r_look R hn) <;> first | omega | assumption) | (with_reducible exact q_look1) | ((with_reducible apply r_draft) <;> first | omega | exact rfl | exact r_p R hn (by omega) (by assumption)) | ((with_reducible apply r_db) <;> omega) | ((with_reducible apply r_nb) <;> omega) | ((with_reducible apply r_nameb) <;> omega) | ((with_reducible apply r_name_y R hn) <;> first | omega | assumption) | ((with_reducible apply r_name_n R hn) <;> first | omega | assumption | exact ht _ (by omega))); skip)
    | ((with_reducible apply BM_V); focus (first | ((with_reducible apply r_take_y R hn) <;> first | omega | assumption | first | exact rfl | (with_reducible exact n00) | exact kp_y (by assumption) (by decide)) | ((with_reducible apply r_take_n R hn) <;> first | omega | assumption | first | exact n10 | ((simp (disch := first | assumption | omega | exact ht _ (by omega)) only [lit, n_eq, n_le, kp_0, kp_1, kp_2, kp_3, kp_4, kp_5, kp_6, kp_7, kp_8, kp_9, kp_10, kp_11, kp_12, kp_13, kp_14, kp_15, kp_16, kp_17, kp_18, kp_19, kp_20, kp_21, kp_22, kp_23, kp_24, kp_25, kp_26, kp_27, kp_28, kp_29, kp_30, kp_31, kp_32, kp_33, kp_34]) <;> omega)) | (with_reducible exact q_takeb) | ((with_reducible apply q_deep_y rfl) <;> omega) | ((with_reducible apply q_deep_n R rfl) <;> first | omega | assumption) | ((with_reducible apply q_deepb' rfl) <;> omega) | (with_reducible exact q_needb) | (with_reducible exact r_need1) | ((with_reducible apply r_need0 R hn) <;> first | omega | assumption)); skip)
    | ((with_reducible apply BM_if); focus (first | exact rfl | (with_reducible exact n00) | exact kp_y (by assumption) (by decide)); skip)
    | ((with_reducible apply BM_nif); focus (first | exact n10 | ((simp (disch := first | assumption | omega | exact ht _ (by omega)) only [lit, n_eq, n_le, kp_0, kp_1, kp_2, kp_3, kp_4, kp_5, kp_6, kp_7, kp_8, kp_9, kp_10, kp_11, kp_12, kp_13, kp_14, kp_15, kp_16, kp_17, kp_18, kp_19, kp_20, kp_21, kp_22, kp_23, kp_24, kp_25, kp_26, kp_27, kp_28, kp_29, kp_30, kp_31, kp_32, kp_33, kp_34]) <;> omega)); skip)
    | (with_reducible refine bm_jn ?_ rfl)
    | ((with_reducible apply bm_join); (focus (first | assumption | exact BI_new (by assumption) | exact BI_new (BI_new (by assumption)) | exact BI_new (BI_new (BI_new (by assumption))))); (focus omega); (focus omega); (focus (first | assumption | exact Or.inr ⟨_, by omega, rfl⟩)); intro _ _)
    | exact ⟨_, _, _, (by with_reducible rfl), by omega, by omega, (by first | assumption | exact BI_new (by assumption) | exact BI_new (BI_new (by assumption)) | exact BI_new (BI_new (BI_new (by assumption)))), (by first | exact Or.inl rfl | assumption | exact Or.inr ⟨_, by omega, rfl⟩)⟩)
        refine BM_V (j2 _) ?_
        repeat (first
    | with_reducible refine M_VI ?_
    | with_reducible refine M_VV ?_
    | with_reducible refine M_Vif ?_
    | with_reducible refine M_Vs ?_
    | with_reducible refine M_II ?_
    | with_reducible refine M_IV ?_
    | with_reducible refine M_Iif ?_
    | with_reducible refine M_Is ?_
    | with_reducible refine M_Ichk ?_
    | ((with_reducible apply BM_bndE); focus (first | ((with_reducible apply r_p R hn) <;> first | omega | assumption)); skip)
    | with_reducible refine BM_bnd ?_
    | ((with_reducible apply BM_chk); focus (((with_reducible apply r_i hn)) <;> omega); skip)
    | ((with_reducible apply BM_I); focus (first | ((with_reducible apply r_look R hn) <;> first | omega | assumption) | (with_reducible exact q_look1) | ((with_reducible apply r_draft) <;> first | omega | exact rfl | exact r_p R hn (by omega) (by assumption)) | ((with_reducible apply r_db) <;> omega) | ((with_reducible apply r_nb) <;> omega) | ((with_reducible apply r_nameb) <;> omega) | ((with_reducible apply r_name_y R hn) <;> first | omega | assumption) | ((with_reducible apply r_name_n R hn) <;> first | omega | assumption | exact ht _ (by omega))); skip)
    | ((with_reducible apply BM_V); focus (first | ((with_reducible apply r_take_y R hn) <;> first | omega | assumption | first | exact rfl | (with_reducible exact n00) | exact kp_y (by assumption) (by decide)) | ((with_reducible apply r_take_n R hn) <;> first | omega | assumption | first | exact n10 | ((simp (disch := first | assumption | omega | exact ht _ (by omega)) only [lit, n_eq, n_le, kp_0, kp_1, kp_2, kp_3, kp_4, kp_5, kp_6, kp_7, kp_8, kp_9, kp_10, kp_11, kp_12, kp_13, kp_14, kp_15, kp_16, kp_17, kp_18, kp_19, kp_20, kp_21, kp_22, kp_23, kp_24, kp_25, kp_26, kp_27, kp_28, kp_29, kp_30, kp_31, kp_32, kp_33, kp_34]) <;> omega)) | (with_reducible exact q_takeb) | ((with_reducible apply q_deep_y rfl) <;> omega) | ((with_reducible apply q_deep_n R rfl) <;> first | omega | assumption) | ((with_reducible apply q_deepb' rfl) <;> omega) | (with_reducible exact q_needb) | (with_reducible exact r_need1) | ((with_reducible apply r_need0 R hn) <;> first | omega | assumption)); skip)
    | ((with_reducible apply BM_if); focus (first | exact rfl | (with_reducible exact n00) | exact kp_y (by assumption) (by decide)); skip)
    | ((with_reducible apply BM_nif); focus (first | exact n10 | ((simp (disch := first | assumption | omega | exact ht _ (by omega)) only [lit, n_eq, n_le, kp_0, kp_1, kp_2, kp_3, kp_4, kp_5, kp_6, kp_7, kp_8, kp_9, kp_10, kp_11, kp_12, kp_13, kp_14, kp_15, kp_16, kp_17, kp_18, kp_19, kp_20, kp_21, kp_22, kp_23, kp_24, kp_25, kp_26, kp_27, kp_28, kp_29, kp_30, kp_31, kp_32, kp_33, kp_34]) <;> omega)); skip)
    | (with_reducible refine bm_jn ?_ rfl)
    | ((with_reducible apply bm_join); (focus (first | assumption | exact BI_new (by assumption) | exact BI_new (BI_new (by assumption)) | exact BI_new (BI_new (BI_new (by assumption))))); (focus omega); (focus omega); (focus (first | assumption | exact Or.inr ⟨_, by omega, rfl⟩)); intro _ _)
    | exact ⟨_, _, _, (by with_reducible rfl), by omega, by omega, (by first | assumption | exact BI_new (by assumption) | exact BI_new (BI_new (by assumption)) | exact BI_new (BI_new (BI_new (by assumption)))), (by first | exact Or.inl rfl | assumption | exact Or.inr ⟨_, by omega, rfl⟩)⟩)
        have hBI := hb.2.2.2
        repeat (first
    | with_reducible refine M_VI ?_
    | with_reducible refine M_VV ?_
    | with_reducible refine M_Vif ?_
    | with_reducible refine M_Vs ?_
    | with_reducible refine M_II ?_
    | with_reducible refine M_IV ?_
    | with_reducible refine M_Iif ?_
    | with_reducible refine M_Is ?_
    | with_reducible refine M_Ichk ?_
    | ((with_reducible apply BM_bndE); focus (first | ((with_reducible apply r_p R hn) <;> first | omega | assumption)); skip)
    | with_reducible refine BM_bnd ?_
    | ((with_reducible apply BM_chk); focus (((with_reducible apply r_i hn)) <;> omega); skip)
    | ((with_reducible apply BM_I); focus (first | ((with_reducible apply r_look R hn) <;> first | omega | assumption) | (with_reducible exact q_look1) | ((with_reducible apply r_draft) <;> first | omega | exact rfl | exact r_p R hn (by omega) (by assumption)) | ((with_reducible apply r_db) <;> omega) | ((with_reducible apply r_nb) <;> omega) | ((with_reducible apply r_nameb) <;> omega) | ((with_reducible apply r_name_y R hn) <;> first | omega | assumption) | ((with_reducible apply r_name_n R hn) <;> first | omega | assumption | exact ht _ (by omega))); skip)
    | ((with_reducible apply BM_V); focus (first | ((with_reducible apply r_take_y R hn) <;> first | omega | assumption | first | exact rfl | (with_reducible exact n00) | exact kp_y (by assumption) (by decide)) | ((with_reducible apply r_take_n R hn) <;> first | omega | assumption | first | exact n10 | ((simp (disch := first | assumption | omega | exact ht _ (by omega)) only [lit, n_eq, n_le, kp_0, kp_1, kp_2, kp_3, kp_4, kp_5, kp_6, kp_7, kp_8, kp_9, kp_10, kp_11, kp_12, kp_13, kp_14, kp_15, kp_16, kp_17, kp_18, kp_19, kp_20, kp_21, kp_22, kp_23, kp_24, kp_25, kp_26, kp_27, kp_28, kp_29, kp_30, kp_31, kp_32, kp_33, kp_34]) <;> omega)) | (with_reducible exact q_takeb) | ((with_reducible apply q_deep_y rfl) <;> omega) | ((with_reducible apply q_deep_n R rfl) <;> first | omega | assumption) | ((with_reducible apply q_deepb' rfl) <;> omega) | (with_reducible exact q_needb) | (with_reducible exact r_need1) | ((with_reducible apply r_need0 R hn) <;> first | omega | assumption)); skip)
    | ((with_reducible apply BM_if); focus (first | exact rfl | (with_reducible exact n00) | exact kp_y (by assumption) (by decide)); skip)
    | ((with_reducible apply BM_nif); focus (first | exact n10 | ((simp (disch := first | assumption | omega | exact ht _ (by omega)) only [lit, n_eq, n_le, kp_0, kp_1, kp_2, kp_3, kp_4, kp_5, kp_6, kp_7, kp_8, kp_9, kp_10, kp_11, kp_12, kp_13, kp_14, kp_15, kp_16, kp_17, kp_18, kp_19, kp_20, kp_21, kp_22, kp_23, kp_24, kp_25, kp_26, kp_27, kp_28, kp_29, kp_30, kp_31, kp_32, kp_33, kp_34]) <;> omega)); skip)
    | (with_reducible refine bm_jn ?_ rfl)
    | ((with_reducible apply bm_join); (focus (first | assumption | exact BI_new (by assumption) | exact BI_new (BI_new (by assumption)) | exact BI_new (BI_new (BI_new (by assumption))))); (focus omega); (focus omega); (focus (first | assumption | exact Or.inr ⟨_, by omega, rfl⟩)); intro _ _)
    | exact ⟨_, _, _, (by with_reducible rfl), by omega, by omega, (by first | assumption | exact BI_new (by assumption) | exact BI_new (BI_new (by assumption)) | exact BI_new (BI_new (BI_new (by assumption)))), (by first | exact Or.inl rfl | assumption | exact Or.inr ⟨_, by omega, rfl⟩)⟩)
  · rcases hS0 flt (q + 1 + 1 + 1 + 1) (ds ++ post (app (one dr 13 (tp q) (nI q) .leaf) (one (dr + 1 + 1) 13 (tp (q + 1 + 1)) (nI (q + 1 + 1)) .leaf))) (dr + 1 + 1 + 1) _ ⟨⟨qa, ga⟩, by omega, by omega, hb.2.2.2⟩ with ⟨q', i', k', p', v', c', dr', B', x1, x2, x3⟩ | ⟨q', y, x1, ⟨v, dr', B', x2, x3, x4, x5, x6⟩, x7, x8⟩
    · have hb' := nb_of x3
      obtain ⟨⟨y1, y2, y3⟩, -, -, -, y0, ⟨y4, y5, y6⟩, y7, y8⟩ := x3
      have hbz := nb_join hb hb'
      have hjz := fun q => nb_joinE (S := S) (N := N) (bad := 0) (flt := flt) (q := q) hb hb'
      refine OutK_c (rc' := k_PA_call_88 N ps N ap (nI d) (nI 0) (pz σ ap dd dk dp dv dz q' (ds ++ post (app (app (one dr 13 (tp q) (nI q) .leaf) (one (dr + 1 + 1) 13 (tp (q + 1 + 1)) (nI (q + 1 + 1)) .leaf)) (one i' k' p' v' c'))))) (rr' := calV (k_RM_sums_38 N rs0 N (nI (dr + 1)) (nI d) (qz S q' 0 flt dr' (bj B' (dr + 1) (app (one dr 13 (tp q) (nI q) .leaf) (one (dr + 1 + 1) 13 (tp (q + 1 + 1)) (nI (q + 1 + 1)) .leaf)) i'))) fun S' => calV (f_RM_take N 59 S') fun S'' => some (nI (dr + 1), S'')) ?_ ?_ ?_
      · unfold f_PA_call
        repeat (first
    | ((with_reducible apply X_bndE); focus (first | ((with_reducible apply pz_pp h') <;> omega) | ((with_reducible apply pz_kk h') <;> omega) | (with_reducible exact pz_14)); skip)
    | with_reducible refine X_bnd ?_
    | ((with_reducible apply X_chk); focus (first | exact a1 | exact a2 | exact a3 | exact a4 | exact a5 | ((with_reducible apply pz_i1 h') <;> omega) | ((with_reducible apply pz_i2 h') <;> omega)); skip)
    | ((with_reducible apply X_rfO); focus (first | exact c1 | exact c2 | exact c5); skip)
    | ((with_reducible apply X_I); focus (first | ((with_reducible apply p_kaC h') <;> omega) | ((with_reducible apply p_paC h') <;> omega) | ((with_reducible apply p_skip_y h') <;> first | omega | ((simp (disch := omega) only [lit, n_eq]) <;> omega)) | ((with_reducible apply p_skip_n h') <;> first | omega | ((simp (disch := first | omega | exact Nat.lt_trans (ht _ (by omega)) (by omega)) only [lit, n_eq]) <;> omega))); skip)
    | ((with_reducible apply X_if); focus (first | (with_reducible exact rfl) | (with_reducible exact n00) | ((simp (disch := omega) only [lit, n_eq]) <;> omega)); skip)
    | ((with_reducible apply X_nif); focus (first | exact n10 | ((with_reducible apply p_cnt h') <;> omega) | ((simp (disch := first | omega | exact Nat.lt_trans (ht _ (by omega)) (by omega)) only [lit, n_eq]) <;> omega)); skip)
    | ((with_reducible apply X_T); focus (first | ((with_reducible apply p_take_y h') <;> first | omega | ((simp (disch := omega) only [lit, n_eq]) <;> omega)) | ((with_reducible apply p_limit_y h' rfl) <;> omega)); skip)
    | ((with_reducible apply X_Tt); focus (first | ((with_reducible apply p_take_n h') <;> first | omega | ((simp (disch := first | omega | exact Nat.lt_trans (ht _ (by omega)) (by omega)) only [lit, n_eq]) <;> omega)) | ((with_reducible apply p_limit_n h' rfl) <;> omega)); skip))
        refine X_I (p_kat1 h' q1) ?_
        repeat (first
    | ((with_reducible apply X_bndE); focus (first | ((with_reducible apply pz_pp h') <;> omega) | ((with_reducible apply pz_kk h') <;> omega) | (with_reducible exact pz_14)); skip)
    | with_reducible refine X_bnd ?_
    | ((with_reducible apply X_chk); focus (first | exact a1 | exact a2 | exact a3 | exact a4 | exact a5 | ((with_reducible apply pz_i1 h') <;> omega) | ((with_reducible apply pz_i2 h') <;> omega)); skip)
    | ((with_reducible apply X_rfO); focus (first | exact c1 | exact c2 | exact c5); skip)
    | ((with_reducible apply X_I); focus (first | ((with_reducible apply p_kaC h') <;> omega) | ((with_reducible apply p_paC h') <;> omega) | ((with_reducible apply p_skip_y h') <;> first | omega | ((simp (disch := omega) only [lit, n_eq]) <;> omega)) | ((with_reducible apply p_skip_n h') <;> first | omega | ((simp (disch := first | omega | exact Nat.lt_trans (ht _ (by omega)) (by omega)) only [lit, n_eq]) <;> omega))); skip)
    | ((with_reducible apply X_if); focus (first | (with_reducible exact rfl) | (with_reducible exact n00) | ((simp (disch := omega) only [lit, n_eq]) <;> omega)); skip)
    | ((with_reducible apply X_nif); focus (first | exact n10 | ((with_reducible apply p_cnt h') <;> omega) | ((simp (disch := first | omega | exact Nat.lt_trans (ht _ (by omega)) (by omega)) only [lit, n_eq]) <;> omega)); skip)
    | ((with_reducible apply X_T); focus (first | ((with_reducible apply p_take_y h') <;> first | omega | ((simp (disch := omega) only [lit, n_eq]) <;> omega)) | ((with_reducible apply p_limit_y h' rfl) <;> omega)); skip)
    | ((with_reducible apply X_Tt); focus (first | ((with_reducible apply p_take_n h') <;> first | omega | ((simp (disch := first | omega | exact Nat.lt_trans (ht _ (by omega)) (by omega)) only [lit, n_eq]) <;> omega)) | ((with_reducible apply p_limit_n h' rfl) <;> omega)); skip))
        refine X_T (p_name_y h' i1 (by omega) t2 dr) ?_
        repeat (first
    | ((with_reducible apply X_bndE); focus (first | ((with_reducible apply pz_pp h') <;> omega) | ((with_reducible apply pz_kk h') <;> omega) | (with_reducible exact pz_14)); skip)
    | with_reducible refine X_bnd ?_
    | ((with_reducible apply X_chk); focus (first | exact a1 | exact a2 | exact a3 | exact a4 | exact a5 | ((with_reducible apply pz_i1 h') <;> omega) | ((with_reducible apply pz_i2 h') <;> omega)); skip)
    | ((with_reducible apply X_rfO); focus (first | exact c1 | exact c2 | exact c5); skip)
    | ((with_reducible apply X_I); focus (first | ((with_reducible apply p_kaC h') <;> omega) | ((with_reducible apply p_paC h') <;> omega) | ((with_reducible apply p_skip_y h') <;> first | omega | ((simp (disch := omega) only [lit, n_eq]) <;> omega)) | ((with_reducible apply p_skip_n h') <;> first | omega | ((simp (disch := first | omega | exact Nat.lt_trans (ht _ (by omega)) (by omega)) only [lit, n_eq]) <;> omega))); skip)
    | ((with_reducible apply X_if); focus (first | (with_reducible exact rfl) | (with_reducible exact n00) | ((simp (disch := omega) only [lit, n_eq]) <;> omega)); skip)
    | ((with_reducible apply X_nif); focus (first | exact n10 | ((with_reducible apply p_cnt h') <;> omega) | ((simp (disch := first | omega | exact Nat.lt_trans (ht _ (by omega)) (by omega)) only [lit, n_eq]) <;> omega)); skip)
    | ((with_reducible apply X_T); focus (first | ((with_reducible apply p_take_y h') <;> first | omega | ((simp (disch := omega) only [lit, n_eq]) <;> omega)) | ((with_reducible apply p_limit_y h' rfl) <;> omega)); skip)
    | ((with_reducible apply X_Tt); focus (first | ((with_reducible apply p_take_n h') <;> first | omega | ((simp (disch := first | omega | exact Nat.lt_trans (ht _ (by omega)) (by omega)) only [lit, n_eq]) <;> omega)) | ((with_reducible apply p_limit_n h' rfl) <;> omega)); skip))
        unfold k_PA_call_53
        repeat (first
    | ((with_reducible apply X_bndE); focus (first | ((with_reducible apply pz_pp h') <;> omega) | ((with_reducible apply pz_kk h') <;> omega) | (with_reducible exact pz_14)); skip)
    | with_reducible refine X_bnd ?_
    | ((with_reducible apply X_chk); focus (first | exact a1 | exact a2 | exact a3 | exact a4 | exact a5 | ((with_reducible apply pz_i1 h') <;> omega) | ((with_reducible apply pz_i2 h') <;> omega)); skip)
    | ((with_reducible apply X_rfO); focus (first | exact c1 | exact c2 | exact c5); skip)
    | ((with_reducible apply X_I); focus (first | ((with_reducible apply p_kaC h') <;> omega) | ((with_reducible apply p_paC h') <;> omega) | ((with_reducible apply p_skip_y h') <;> first | omega | ((simp (disch := omega) only [lit, n_eq]) <;> omega)) | ((with_reducible apply p_skip_n h') <;> first | omega | ((simp (disch := first | omega | exact Nat.lt_trans (ht _ (by omega)) (by omega)) only [lit, n_eq]) <;> omega))); skip)
    | ((with_reducible apply X_if); focus (first | (with_reducible exact rfl) | (with_reducible exact n00) | ((simp (disch := omega) only [lit, n_eq]) <;> omega)); skip)
    | ((with_reducible apply X_nif); focus (first | exact n10 | ((with_reducible apply p_cnt h') <;> omega) | ((simp (disch := first | omega | exact Nat.lt_trans (ht _ (by omega)) (by omega)) only [lit, n_eq]) <;> omega)); skip)
    | ((with_reducible apply X_T); focus (first | ((with_reducible apply p_take_y h') <;> first | omega | ((simp (disch := omega) only [lit, n_eq]) <;> omega)) | ((with_reducible apply p_limit_y h' rfl) <;> omega)); skip)
    | ((with_reducible apply X_Tt); focus (first | ((with_reducible apply p_take_n h') <;> first | omega | ((simp (disch := first | omega | exact Nat.lt_trans (ht _ (by omega)) (by omega)) only [lit, n_eq]) <;> omega)) | ((with_reducible apply p_limit_n h' rfl) <;> omega)); skip))
        refine X_T (p_name_y h' q2 (by omega) u2 (dr + 1 + 1)) ?_
        repeat (first
    | ((with_reducible apply X_bndE); focus (first | ((with_reducible apply pz_pp h') <;> omega) | ((with_reducible apply pz_kk h') <;> omega) | (with_reducible exact pz_14)); skip)
    | with_reducible refine X_bnd ?_
    | ((with_reducible apply X_chk); focus (first | exact a1 | exact a2 | exact a3 | exact a4 | exact a5 | ((with_reducible apply pz_i1 h') <;> omega) | ((with_reducible apply pz_i2 h') <;> omega)); skip)
    | ((with_reducible apply X_rfO); focus (first | exact c1 | exact c2 | exact c5); skip)
    | ((with_reducible apply X_I); focus (first | ((with_reducible apply p_kaC h') <;> omega) | ((with_reducible apply p_paC h') <;> omega) | ((with_reducible apply p_skip_y h') <;> first | omega | ((simp (disch := omega) only [lit, n_eq]) <;> omega)) | ((with_reducible apply p_skip_n h') <;> first | omega | ((simp (disch := first | omega | exact Nat.lt_trans (ht _ (by omega)) (by omega)) only [lit, n_eq]) <;> omega))); skip)
    | ((with_reducible apply X_if); focus (first | (with_reducible exact rfl) | (with_reducible exact n00) | ((simp (disch := omega) only [lit, n_eq]) <;> omega)); skip)
    | ((with_reducible apply X_nif); focus (first | exact n10 | ((with_reducible apply p_cnt h') <;> omega) | ((simp (disch := first | omega | exact Nat.lt_trans (ht _ (by omega)) (by omega)) only [lit, n_eq]) <;> omega)); skip)
    | ((with_reducible apply X_T); focus (first | ((with_reducible apply p_take_y h') <;> first | omega | ((simp (disch := omega) only [lit, n_eq]) <;> omega)) | ((with_reducible apply p_limit_y h' rfl) <;> omega)); skip)
    | ((with_reducible apply X_Tt); focus (first | ((with_reducible apply p_take_n h') <;> first | omega | ((simp (disch := first | omega | exact Nat.lt_trans (ht _ (by omega)) (by omega)) only [lit, n_eq]) <;> omega)) | ((with_reducible apply p_limit_n h' rfl) <;> omega)); skip))
        rw [hpa]
        try rw [hd1]
        repeat (first
    | ((with_reducible apply X_bndE); focus (first | ((with_reducible apply pz_pp h') <;> omega) | ((with_reducible apply pz_kk h') <;> omega) | (with_reducible exact pz_14)); skip)
    | with_reducible refine X_bnd ?_
    | ((with_reducible apply X_chk); focus (first | exact a1 | exact a2 | exact a3 | exact a4 | exact a5 | ((with_reducible apply pz_i1 h') <;> omega) | ((with_reducible apply pz_i2 h') <;> omega)); skip)
    | ((with_reducible apply X_rfO); focus (first | exact c1 | exact c2 | exact c5); skip)
    | ((with_reducible apply X_I); focus (first | ((with_reducible apply p_kaC h') <;> omega) | ((with_reducible apply p_paC h') <;> omega) | ((with_reducible apply p_skip_y h') <;> first | omega | ((simp (disch := omega) only [lit, n_eq]) <;> omega)) | ((with_reducible apply p_skip_n h') <;> first | omega | ((simp (disch := first | omega | exact Nat.lt_trans (ht _ (by omega)) (by omega)) only [lit, n_eq]) <;> omega))); skip)
    | ((with_reducible apply X_if); focus (first | (with_reducible exact rfl) | (with_reducible exact n00) | ((simp (disch := omega) only [lit, n_eq]) <;> omega)); skip)
    | ((with_reducible apply X_nif); focus (first | exact n10 | ((with_reducible apply p_cnt h') <;> omega) | ((simp (disch := first | omega | exact Nat.lt_trans (ht _ (by omega)) (by omega)) only [lit, n_eq]) <;> omega)); skip)
    | ((with_reducible apply X_T); focus (first | ((with_reducible apply p_take_y h') <;> first | omega | ((simp (disch := omega) only [lit, n_eq]) <;> omega)) | ((with_reducible apply p_limit_y h' rfl) <;> omega)); skip)
    | ((with_reducible apply X_Tt); focus (first | ((with_reducible apply p_take_n h') <;> first | omega | ((simp (disch := first | omega | exact Nat.lt_trans (ht _ (by omega)) (by omega)) only [lit, n_eq]) <;> omega)) | ((with_reducible apply p_limit_n h' rfl) <;> omega)); skip))
        refine X_T x1 ?_
        rw [List.append_assoc, ← post_app]; rfl
      · unfold f_RM_statement f_RM_named f_RM_sums k_RM_named_217 k_RM_named_108
        simp only [hd1]
        repeat (first
    | with_reducible refine A_VI ?_
    | with_reducible refine A_VV ?_
    | with_reducible refine A_Vif ?_
    | with_reducible refine A_Vs ?_
    | with_reducible refine A_II ?_
    | with_reducible refine A_IV ?_
    | with_reducible refine A_Iif ?_
    | with_reducible refine A_Is ?_
    | with_reducible refine A_Ichk ?_
    | ((with_reducible apply X_bndE); focus (first | ((with_reducible apply r_p R hn) <;> first | omega | assumption)); skip)
    | with_reducible refine X_bnd ?_
    | ((with_reducible apply X_chk); focus (((with_reducible apply r_i hn)) <;> omega); skip)
    | ((with_reducible apply X_I); focus (first | ((with_reducible apply r_look R hn) <;> first | omega | assumption) | (with_reducible exact q_look1) | ((with_reducible apply r_draft) <;> first | omega | exact rfl | exact r_p R hn (by omega) (by assumption)) | ((with_reducible apply r_name_y R hn) <;> first | omega | assumption)); skip)
    | ((with_reducible apply X_V); focus (first | ((with_reducible apply r_take_y R hn) <;> first | omega | assumption | first | exact rfl | (with_reducible exact n00) | exact kp_y (by assumption) (by decide)) | ((with_reducible apply r_take_n R hn) <;> first | omega | assumption | first | exact n10 | ((simp (disch := first | assumption | omega | exact ht _ (by omega)) only [lit, n_eq, n_le, kp_0, kp_1, kp_2, kp_3, kp_4, kp_5, kp_6, kp_7, kp_8, kp_9, kp_10, kp_11, kp_12, kp_13, kp_14, kp_15, kp_16, kp_17, kp_18, kp_19, kp_20, kp_21, kp_22, kp_23, kp_24, kp_25, kp_26, kp_27, kp_28, kp_29, kp_30, kp_31, kp_32, kp_33, kp_34]) <;> omega)) | (with_reducible exact q_takeb) | ((with_reducible apply q_deep_y rfl) <;> omega) | ((with_reducible apply q_deep_n R rfl) <;> first | omega | assumption) | (with_reducible exact q_needb) | (with_reducible exact r_need1) | ((with_reducible apply r_need0 R hn) <;> first | omega | assumption)); skip)
    | ((with_reducible apply X_if); focus (first | exact rfl | (with_reducible exact n00) | exact kp_y (by assumption) (by decide)); skip)
    | ((with_reducible apply X_nif); focus (first | exact n10 | ((simp (disch := first | assumption | omega | exact ht _ (by omega)) only [lit, n_eq, n_le, kp_0, kp_1, kp_2, kp_3, kp_4, kp_5, kp_6, kp_7, kp_8, kp_9, kp_10, kp_11, kp_12, kp_13, kp_14, kp_15, kp_16, kp_17, kp_18, kp_19, kp_20, kp_21, kp_22, kp_23, kp_24, kp_25, kp_26, kp_27, kp_28, kp_29, kp_30, kp_31, kp_32, kp_33, kp_34]) <;> omega)); skip))
        refine X_chk hib ?_
        repeat (first
    | with_reducible refine A_VI ?_
    | with_reducible refine A_VV ?_
    | with_reducible refine A_Vif ?_
    | with_reducible refine A_Vs ?_
    | with_reducible refine A_II ?_
    | with_reducible refine A_IV ?_
    | with_reducible refine A_Iif ?_
    | with_reducible refine A_Is ?_
    | with_reducible refine A_Ichk ?_
    | ((with_reducible apply X_bndE); focus (first | ((with_reducible apply r_p R hn) <;> first | omega | assumption)); skip)
    | with_reducible refine X_bnd ?_
    | ((with_reducible apply X_chk); focus (((with_reducible apply r_i hn)) <;> omega); skip)
    | ((with_reducible apply X_I); focus (first | ((with_reducible apply r_look R hn) <;> first | omega | assumption) | (with_reducible exact q_look1) | ((with_reducible apply r_draft) <;> first | omega | exact rfl | exact r_p R hn (by omega) (by assumption)) | ((with_reducible apply r_name_y R hn) <;> first | omega | assumption)); skip)
    | ((with_reducible apply X_V); focus (first | ((with_reducible apply r_take_y R hn) <;> first | omega | assumption | first | exact rfl | (with_reducible exact n00) | exact kp_y (by assumption) (by decide)) | ((with_reducible apply r_take_n R hn) <;> first | omega | assumption | first | exact n10 | ((simp (disch := first | assumption | omega | exact ht _ (by omega)) only [lit, n_eq, n_le, kp_0, kp_1, kp_2, kp_3, kp_4, kp_5, kp_6, kp_7, kp_8, kp_9, kp_10, kp_11, kp_12, kp_13, kp_14, kp_15, kp_16, kp_17, kp_18, kp_19, kp_20, kp_21, kp_22, kp_23, kp_24, kp_25, kp_26, kp_27, kp_28, kp_29, kp_30, kp_31, kp_32, kp_33, kp_34]) <;> omega)) | (with_reducible exact q_takeb) | ((with_reducible apply q_deep_y rfl) <;> omega) | ((with_reducible apply q_deep_n R rfl) <;> first | omega | assumption) | (with_reducible exact q_needb) | (with_reducible exact r_need1) | ((with_reducible apply r_need0 R hn) <;> first | omega | assumption)); skip)
    | ((with_reducible apply X_if); focus (first | exact rfl | (with_reducible exact n00) | exact kp_y (by assumption) (by decide)); skip)
    | ((with_reducible apply X_nif); focus (first | exact n10 | ((simp (disch := first | assumption | omega | exact ht _ (by omega)) only [lit, n_eq, n_le, kp_0, kp_1, kp_2, kp_3, kp_4, kp_5, kp_6, kp_7, kp_8, kp_9, kp_10, kp_11, kp_12, kp_13, kp_14, kp_15, kp_16, kp_17, kp_18, kp_19, kp_20, kp_21, kp_22, kp_23, kp_24, kp_25, kp_26, kp_27, kp_28, kp_29, kp_30, kp_31, kp_32, kp_33, kp_34]) <;> omega)); skip))
        refine X_if h40 ?_
        repeat (first
    | with_reducible refine A_VI ?_
    | with_reducible refine A_VV ?_
    | with_reducible refine A_Vif ?_
    | with_reducible refine A_Vs ?_
    | with_reducible refine A_II ?_
    | with_reducible refine A_IV ?_
    | with_reducible refine A_Iif ?_
    | with_reducible refine A_Is ?_
    | with_reducible refine A_Ichk ?_
    | ((with_reducible apply X_bndE); focus (first | ((with_reducible apply r_p R hn) <;> first | omega | assumption)); skip)
    | with_reducible refine X_bnd ?_
    | ((with_reducible apply X_chk); focus (((with_reducible apply r_i hn)) <;> omega); skip)
    | ((with_reducible apply X_I); focus (first | ((with_reducible apply r_look R hn) <;> first | omega | assumption) | (with_reducible exact q_look1) | ((with_reducible apply r_draft) <;> first | omega | exact rfl | exact r_p R hn (by omega) (by assumption)) | ((with_reducible apply r_name_y R hn) <;> first | omega | assumption)); skip)
    | ((with_reducible apply X_V); focus (first | ((with_reducible apply r_take_y R hn) <;> first | omega | assumption | first | exact rfl | (with_reducible exact n00) | exact kp_y (by assumption) (by decide)) | ((with_reducible apply r_take_n R hn) <;> first | omega | assumption | first | exact n10 | ((simp (disch := first | assumption | omega | exact ht _ (by omega)) only [lit, n_eq, n_le, kp_0, kp_1, kp_2, kp_3, kp_4, kp_5, kp_6, kp_7, kp_8, kp_9, kp_10, kp_11, kp_12, kp_13, kp_14, kp_15, kp_16, kp_17, kp_18, kp_19, kp_20, kp_21, kp_22, kp_23, kp_24, kp_25, kp_26, kp_27, kp_28, kp_29, kp_30, kp_31, kp_32, kp_33, kp_34]) <;> omega)) | (with_reducible exact q_takeb) | ((with_reducible apply q_deep_y rfl) <;> omega) | ((with_reducible apply q_deep_n R rfl) <;> first | omega | assumption) | (with_reducible exact q_needb) | (with_reducible exact r_need1) | ((with_reducible apply r_need0 R hn) <;> first | omega | assumption)); skip)
    | ((with_reducible apply X_if); focus (first | exact rfl | (with_reducible exact n00) | exact kp_y (by assumption) (by decide)); skip)
    | ((with_reducible apply X_nif); focus (first | exact n10 | ((simp (disch := first | assumption | omega | exact ht _ (by omega)) only [lit, n_eq, n_le, kp_0, kp_1, kp_2, kp_3, kp_4, kp_5, kp_6, kp_7, kp_8, kp_9, kp_10, kp_11, kp_12, kp_13, kp_14, kp_15, kp_16, kp_17, kp_18, kp_19, kp_20, kp_21, kp_22, kp_23, kp_24, kp_25, kp_26, kp_27, kp_28, kp_29, kp_30, kp_31, kp_32, kp_33, kp_34]) <;> omega)); skip))
        refine X_V (j1 _) ?_
        repeat (first
    | with_reducible refine A_VI ?_
    | with_reducible refine A_VV ?_
    | with_reducible refine A_Vif ?_
    | with_reducible refine A_Vs ?_
    | with_reducible refine A_II ?_
    | with_reducible refine A_IV ?_
    | with_reducible refine A_Iif ?_
    | with_reducible refine A_Is ?_
    | with_reducible refine A_Ichk ?_
    | ((with_reducible apply X_bndE); focus (first | ((with_reducible apply r_p R hn) <;> first | omega | assumption)); skip)
    | with_reducible refine X_bnd ?_
    | ((with_reducible apply X_chk); focus (((with_reducible apply r_i hn)) <;> omega); skip)
    | ((with_reducible apply X_I); focus (first | ((with_reducible apply r_look R hn) <;> first | omega | assumption) | (with_reducible exact q_look1) | ((with_reducible apply r_draft) <;> first | omega | exact rfl | exact r_p R hn (by omega) (by assumption)) | ((with_reducible apply r_name_y R hn) <;> first | omega | assumption)); skip)
    | ((with_reducible apply X_V); focus (first | ((with_reducible apply r_take_y R hn) <;> first | omega | assumption | first | exact rfl | (with_reducible exact n00) | exact kp_y (by assumption) (by decide)) | ((with_reducible apply r_take_n R hn) <;> first | omega | assumption | first | exact n10 | ((simp (disch := first | assumption | omega | exact ht _ (by omega)) only [lit, n_eq, n_le, kp_0, kp_1, kp_2, kp_3, kp_4, kp_5, kp_6, kp_7, kp_8, kp_9, kp_10, kp_11, kp_12, kp_13, kp_14, kp_15, kp_16, kp_17, kp_18, kp_19, kp_20, kp_21, kp_22, kp_23, kp_24, kp_25, kp_26, kp_27, kp_28, kp_29, kp_30, kp_31, kp_32, kp_33, kp_34]) <;> omega)) | (with_reducible exact q_takeb) | ((with_reducible apply q_deep_y rfl) <;> omega) | ((with_reducible apply q_deep_n R rfl) <;> first | omega | assumption) | (with_reducible exact q_needb) | (with_reducible exact r_need1) | ((with_reducible apply r_need0 R hn) <;> first | omega | assumption)); skip)
    | ((with_reducible apply X_if); focus (first | exact rfl | (with_reducible exact n00) | exact kp_y (by assumption) (by decide)); skip)
    | ((with_reducible apply X_nif); focus (first | exact n10 | ((simp (disch := first | assumption | omega | exact ht _ (by omega)) only [lit, n_eq, n_le, kp_0, kp_1, kp_2, kp_3, kp_4, kp_5, kp_6, kp_7, kp_8, kp_9, kp_10, kp_11, kp_12, kp_13, kp_14, kp_15, kp_16, kp_17, kp_18, kp_19, kp_20, kp_21, kp_22, kp_23, kp_24, kp_25, kp_26, kp_27, kp_28, kp_29, kp_30, kp_31, kp_32, kp_33, kp_34]) <;> omega)); skip))
        refine X_V (j2 _) ?_
        repeat (first
    | with_reducible refine A_VI ?_
    | with_reducible refine A_VV ?_
    | with_reducible refine A_Vif ?_
    | with_reducible refine A_Vs ?_
    | with_reducible refine A_II ?_
    | with_reducible refine A_IV ?_
    | with_reducible refine A_Iif ?_
    | with_reducible refine A_Is ?_
    | with_reducible refine A_Ichk ?_
    | ((with_reducible apply X_bndE); focus (first | ((with_reducible apply r_p R hn) <;> first | omega | assumption)); skip)
    | with_reducible refine X_bnd ?_
    | ((with_reducible apply X_chk); focus (((with_reducible apply r_i hn)) <;> omega); skip)
    | ((with_reducible apply X_I); focus (first | ((with_reducible apply r_look R hn) <;> first | omega | assumption) | (with_reducible exact q_look1) | ((with_reducible apply r_draft) <;> first | omega | exact rfl | exact r_p R hn (by omega) (by assumption)) | ((with_reducible apply r_name_y R hn) <;> first | omega | assumption)); skip)
    | ((with_reducible apply X_V); focus (first | ((with_reducible apply r_take_y R hn) <;> first | omega | assumption | first | exact rfl | (with_reducible exact n00) | exact kp_y (by assumption) (by decide)) | ((with_reducible apply r_take_n R hn) <;> first | omega | assumption | first | exact n10 | ((simp (disch := first | assumption | omega | exact ht _ (by omega)) only [lit, n_eq, n_le, kp_0, kp_1, kp_2, kp_3, kp_4, kp_5, kp_6, kp_7, kp_8, kp_9, kp_10, kp_11, kp_12, kp_13, kp_14, kp_15, kp_16, kp_17, kp_18, kp_19, kp_20, kp_21, kp_22, kp_23, kp_24, kp_25, kp_26, kp_27, kp_28, kp_29, kp_30, kp_31, kp_32, kp_33, kp_34]) <;> omega)) | (with_reducible exact q_takeb) | ((with_reducible apply q_deep_y rfl) <;> omega) | ((with_reducible apply q_deep_n R rfl) <;> first | omega | assumption) | (with_reducible exact q_needb) | (with_reducible exact r_need1) | ((with_reducible apply r_need0 R hn) <;> first | omega | assumption)); skip)
    | ((with_reducible apply X_if); focus (first | exact rfl | (with_reducible exact n00) | exact kp_y (by assumption) (by decide)); skip)
    | ((with_reducible apply X_nif); focus (first | exact n10 | ((simp (disch := first | assumption | omega | exact ht _ (by omega)) only [lit, n_eq, n_le, kp_0, kp_1, kp_2, kp_3, kp_4, kp_5, kp_6, kp_7, kp_8, kp_9, kp_10, kp_11, kp_12, kp_13, kp_14, kp_15, kp_16, kp_17, kp_18, kp_19, kp_20, kp_21, kp_22, kp_23, kp_24, kp_25, kp_26, kp_27, kp_28, kp_29, kp_30, kp_31, kp_32, kp_33, kp_34]) <;> omega)); skip))
        refine X_I x2 ?_
        repeat (first
    | with_reducible refine A_VI ?_
    | with_reducible refine A_VV ?_
    | with_reducible refine A_Vif ?_
    | with_reducible refine A_Vs ?_
    | with_reducible refine A_II ?_
    | with_reducible refine A_IV ?_
    | with_reducible refine A_Iif ?_
    | with_reducible refine A_Is ?_
    | with_reducible refine A_Ichk ?_
    | ((with_reducible apply X_bndE); focus (first | ((with_reducible apply r_p R hn) <;> first | omega | assumption)); skip)
    | with_reducible refine X_bnd ?_
    | ((with_reducible apply X_chk); focus (((with_reducible apply r_i hn)) <;> omega); skip)
    | ((with_reducible apply X_I); focus (first | ((with_reducible apply r_look R hn) <;> first | omega | assumption) | (with_reducible exact q_look1) | ((with_reducible apply r_draft) <;> first | omega | exact rfl | exact r_p R hn (by omega) (by assumption)) | ((with_reducible apply r_name_y R hn) <;> first | omega | assumption)); skip)
    | ((with_reducible apply X_V); focus (first | ((with_reducible apply r_take_y R hn) <;> first | omega | assumption | first | exact rfl | (with_reducible exact n00) | exact kp_y (by assumption) (by decide)) | ((with_reducible apply r_take_n R hn) <;> first | omega | assumption | first | exact n10 | ((simp (disch := first | assumption | omega | exact ht _ (by omega)) only [lit, n_eq, n_le, kp_0, kp_1, kp_2, kp_3, kp_4, kp_5, kp_6, kp_7, kp_8, kp_9, kp_10, kp_11, kp_12, kp_13, kp_14, kp_15, kp_16, kp_17, kp_18, kp_19, kp_20, kp_21, kp_22, kp_23, kp_24, kp_25, kp_26, kp_27, kp_28, kp_29, kp_30, kp_31, kp_32, kp_33, kp_34]) <;> omega)) | (with_reducible exact q_takeb) | ((with_reducible apply q_deep_y rfl) <;> omega) | ((with_reducible apply q_deep_n R rfl) <;> first | omega | assumption) | (with_reducible exact q_needb) | (with_reducible exact r_need1) | ((with_reducible apply r_need0 R hn) <;> first | omega | assumption)); skip)
    | ((with_reducible apply X_if); focus (first | exact rfl | (with_reducible exact n00) | exact kp_y (by assumption) (by decide)); skip)
    | ((with_reducible apply X_nif); focus (first | exact n10 | ((simp (disch := first | assumption | omega | exact ht _ (by omega)) only [lit, n_eq, n_le, kp_0, kp_1, kp_2, kp_3, kp_4, kp_5, kp_6, kp_7, kp_8, kp_9, kp_10, kp_11, kp_12, kp_13, kp_14, kp_15, kp_16, kp_17, kp_18, kp_19, kp_20, kp_21, kp_22, kp_23, kp_24, kp_25, kp_26, kp_27, kp_28, kp_29, kp_30, kp_31, kp_32, kp_33, kp_34]) <;> omega)); skip))
        refine X_V (hjz _) ?_
        repeat (first
    | with_reducible refine A_VI ?_
    | with_reducible refine A_VV ?_
    | with_reducible refine A_Vif ?_
    | with_reducible refine A_Vs ?_
    | with_reducible refine A_II ?_
    | with_reducible refine A_IV ?_
    | with_reducible refine A_Iif ?_
    | with_reducible refine A_Is ?_
    | with_reducible refine A_Ichk ?_
    | ((with_reducible apply X_bndE); focus (first | ((with_reducible apply r_p R hn) <;> first | omega | assumption)); skip)
    | with_reducible refine X_bnd ?_
    | ((with_reducible apply X_chk); focus (((with_reducible apply r_i hn)) <;> omega); skip)
    | ((with_reducible apply X_I); focus (first | ((with_reducible apply r_look R hn) <;> first | omega | assumption) | (with_reducible exact q_look1) | ((with_reducible apply r_draft) <;> first | omega | exact rfl | exact r_p R hn (by omega) (by assumption)) | ((with_reducible apply r_name_y R hn) <;> first | omega | assumption)); skip)
    | ((with_reducible apply X_V); focus (first | ((with_reducible apply r_take_y R hn) <;> first | omega | assumption | first | exact rfl | (with_reducible exact n00) | exact kp_y (by assumption) (by decide)) | ((with_reducible apply r_take_n R hn) <;> first | omega | assumption | first | exact n10 | ((simp (disch := first | assumption | omega | exact ht _ (by omega)) only [lit, n_eq, n_le, kp_0, kp_1, kp_2, kp_3, kp_4, kp_5, kp_6, kp_7, kp_8, kp_9, kp_10, kp_11, kp_12, kp_13, kp_14, kp_15, kp_16, kp_17, kp_18, kp_19, kp_20, kp_21, kp_22, kp_23, kp_24, kp_25, kp_26, kp_27, kp_28, kp_29, kp_30, kp_31, kp_32, kp_33, kp_34]) <;> omega)) | (with_reducible exact q_takeb) | ((with_reducible apply q_deep_y rfl) <;> omega) | ((with_reducible apply q_deep_n R rfl) <;> first | omega | assumption) | (with_reducible exact q_needb) | (with_reducible exact r_need1) | ((with_reducible apply r_need0 R hn) <;> first | omega | assumption)); skip)
    | ((with_reducible apply X_if); focus (first | exact rfl | (with_reducible exact n00) | exact kp_y (by assumption) (by decide)); skip)
    | ((with_reducible apply X_nif); focus (first | exact n10 | ((simp (disch := first | assumption | omega | exact ht _ (by omega)) only [lit, n_eq, n_le, kp_0, kp_1, kp_2, kp_3, kp_4, kp_5, kp_6, kp_7, kp_8, kp_9, kp_10, kp_11, kp_12, kp_13, kp_14, kp_15, kp_16, kp_17, kp_18, kp_19, kp_20, kp_21, kp_22, kp_23, kp_24, kp_25, kp_26, kp_27, kp_28, kp_29, kp_30, kp_31, kp_32, kp_33, kp_34]) <;> omega)); skip))
        rfl
      · exact loop_args E' hS0 hl ⟨i1, i3, i4⟩ hp n q' _ 0 dr' _ N N (by omega) (by omega) (by omega) (by omega) y2 y3 hbz ⟨by omega, by simp only [app, siz] at *; omega, by omega⟩ (wf_app hwf y7) (by rw [hgt_app]; simp only [hgt] at *; omega) (by rw [kls_app]; simp [kls]; omega)
    · refine OutK_b (q := q') (x := post (app (one dr 13 (tp q) (nI q) .leaf) (one (dr + 1 + 1) 13 (tp (q + 1 + 1)) (nI (q + 1 + 1)) .leaf)) ++ y) ?_ rfl ?_ x7 x8
      · rw [← List.append_assoc]
        unfold f_PA_call
        repeat (first
    | ((with_reducible apply X_bndE); focus (first | ((with_reducible apply pz_pp h') <;> omega) | ((with_reducible apply pz_kk h') <;> omega) | (with_reducible exact pz_14)); skip)
    | with_reducible refine X_bnd ?_
    | ((with_reducible apply X_chk); focus (first | exact a1 | exact a2 | exact a3 | exact a4 | exact a5 | ((with_reducible apply pz_i1 h') <;> omega) | ((with_reducible apply pz_i2 h') <;> omega)); skip)
    | ((with_reducible apply X_rfO); focus (first | exact c1 | exact c2 | exact c5); skip)
    | ((with_reducible apply X_I); focus (first | ((with_reducible apply p_kaC h') <;> omega) | ((with_reducible apply p_paC h') <;> omega) | ((with_reducible apply p_skip_y h') <;> first | omega | ((simp (disch := omega) only [lit, n_eq]) <;> omega)) | ((with_reducible apply p_skip_n h') <;> first | omega | ((simp (disch := first | omega | exact Nat.lt_trans (ht _ (by omega)) (by omega)) only [lit, n_eq]) <;> omega))); skip)
    | ((with_reducible apply X_if); focus (first | (with_reducible exact rfl) | (with_reducible exact n00) | ((simp (disch := omega) only [lit, n_eq]) <;> omega)); skip)
    | ((with_reducible apply X_nif); focus (first | exact n10 | ((with_reducible apply p_cnt h') <;> omega) | ((simp (disch := first | omega | exact Nat.lt_trans (ht _ (by omega)) (by omega)) only [lit, n_eq]) <;> omega)); skip)
    | ((with_reducible apply X_T); focus (first | ((with_reducible apply p_take_y h') <;> first | omega | ((simp (disch := omega) only [lit, n_eq]) <;> omega)) | ((with_reducible apply p_limit_y h' rfl) <;> omega)); skip)
    | ((with_reducible apply X_Tt); focus (first | ((with_reducible apply p_take_n h') <;> first | omega | ((simp (disch := first | omega | exact Nat.lt_trans (ht _ (by omega)) (by omega)) only [lit, n_eq]) <;> omega)) | ((with_reducible apply p_limit_n h' rfl) <;> omega)); skip))
        refine X_I (p_kat1 h' q1) ?_
        repeat (first
    | ((with_reducible apply X_bndE); focus (first | ((with_reducible apply pz_pp h') <;> omega) | ((with_reducible apply pz_kk h') <;> omega) | (with_reducible exact pz_14)); skip)
    | with_reducible refine X_bnd ?_
    | ((with_reducible apply X_chk); focus (first | exact a1 | exact a2 | exact a3 | exact a4 | exact a5 | ((with_reducible apply pz_i1 h') <;> omega) | ((with_reducible apply pz_i2 h') <;> omega)); skip)
    | ((with_reducible apply X_rfO); focus (first | exact c1 | exact c2 | exact c5); skip)
    | ((with_reducible apply X_I); focus (first | ((with_reducible apply p_kaC h') <;> omega) | ((with_reducible apply p_paC h') <;> omega) | ((with_reducible apply p_skip_y h') <;> first | omega | ((simp (disch := omega) only [lit, n_eq]) <;> omega)) | ((with_reducible apply p_skip_n h') <;> first | omega | ((simp (disch := first | omega | exact Nat.lt_trans (ht _ (by omega)) (by omega)) only [lit, n_eq]) <;> omega))); skip)
    | ((with_reducible apply X_if); focus (first | (with_reducible exact rfl) | (with_reducible exact n00) | ((simp (disch := omega) only [lit, n_eq]) <;> omega)); skip)
    | ((with_reducible apply X_nif); focus (first | exact n10 | ((with_reducible apply p_cnt h') <;> omega) | ((simp (disch := first | omega | exact Nat.lt_trans (ht _ (by omega)) (by omega)) only [lit, n_eq]) <;> omega)); skip)
    | ((with_reducible apply X_T); focus (first | ((with_reducible apply p_take_y h') <;> first | omega | ((simp (disch := omega) only [lit, n_eq]) <;> omega)) | ((with_reducible apply p_limit_y h' rfl) <;> omega)); skip)
    | ((with_reducible apply X_Tt); focus (first | ((with_reducible apply p_take_n h') <;> first | omega | ((simp (disch := first | omega | exact Nat.lt_trans (ht _ (by omega)) (by omega)) only [lit, n_eq]) <;> omega)) | ((with_reducible apply p_limit_n h' rfl) <;> omega)); skip))
        refine X_T (p_name_y h' i1 (by omega) t2 dr) ?_
        repeat (first
    | ((with_reducible apply X_bndE); focus (first | ((with_reducible apply pz_pp h') <;> omega) | ((with_reducible apply pz_kk h') <;> omega) | (with_reducible exact pz_14)); skip)
    | with_reducible refine X_bnd ?_
    | ((with_reducible apply X_chk); focus (first | exact a1 | exact a2 | exact a3 | exact a4 | exact a5 | ((with_reducible apply pz_i1 h') <;> omega) | ((with_reducible apply pz_i2 h') <;> omega)); skip)
    | ((with_reducible apply X_rfO); focus (first | exact c1 | exact c2 | exact c5); skip)
    | ((with_reducible apply X_I); focus (first | ((with_reducible apply p_kaC h') <;> omega) | ((with_reducible apply p_paC h') <;> omega) | ((with_reducible apply p_skip_y h') <;> first | omega | ((simp (disch := omega) only [lit, n_eq]) <;> omega)) | ((with_reducible apply p_skip_n h') <;> first | omega | ((simp (disch := first | omega | exact Nat.lt_trans (ht _ (by omega)) (by omega)) only [lit, n_eq]) <;> omega))); skip)
    | ((with_reducible apply X_if); focus (first | (with_reducible exact rfl) | (with_reducible exact n00) | ((simp (disch := omega) only [lit, n_eq]) <;> omega)); skip)
    | ((with_reducible apply X_nif); focus (first | exact n10 | ((with_reducible apply p_cnt h') <;> omega) | ((simp (disch := first | omega | exact Nat.lt_trans (ht _ (by omega)) (by omega)) only [lit, n_eq]) <;> omega)); skip)
    | ((with_reducible apply X_T); focus (first | ((with_reducible apply p_take_y h') <;> first | omega | ((simp (disch := omega) only [lit, n_eq]) <;> omega)) | ((with_reducible apply p_limit_y h' rfl) <;> omega)); skip)
    | ((with_reducible apply X_Tt); focus (first | ((with_reducible apply p_take_n h') <;> first | omega | ((simp (disch := first | omega | exact Nat.lt_trans (ht _ (by omega)) (by omega)) only [lit, n_eq]) <;> omega)) | ((with_reducible apply p_limit_n h' rfl) <;> omega)); skip))
        unfold k_PA_call_53
        repeat (first
    | ((with_reducible apply X_bndE); focus (first | ((with_reducible apply pz_pp h') <;> omega) | ((with_reducible apply pz_kk h') <;> omega) | (with_reducible exact pz_14)); skip)
    | with_reducible refine X_bnd ?_
    | ((with_reducible apply X_chk); focus (first | exact a1 | exact a2 | exact a3 | exact a4 | exact a5 | ((with_reducible apply pz_i1 h') <;> omega) | ((with_reducible apply pz_i2 h') <;> omega)); skip)
    | ((with_reducible apply X_rfO); focus (first | exact c1 | exact c2 | exact c5); skip)
    | ((with_reducible apply X_I); focus (first | ((with_reducible apply p_kaC h') <;> omega) | ((with_reducible apply p_paC h') <;> omega) | ((with_reducible apply p_skip_y h') <;> first | omega | ((simp (disch := omega) only [lit, n_eq]) <;> omega)) | ((with_reducible apply p_skip_n h') <;> first | omega | ((simp (disch := first | omega | exact Nat.lt_trans (ht _ (by omega)) (by omega)) only [lit, n_eq]) <;> omega))); skip)
    | ((with_reducible apply X_if); focus (first | (with_reducible exact rfl) | (with_reducible exact n00) | ((simp (disch := omega) only [lit, n_eq]) <;> omega)); skip)
    | ((with_reducible apply X_nif); focus (first | exact n10 | ((with_reducible apply p_cnt h') <;> omega) | ((simp (disch := first | omega | exact Nat.lt_trans (ht _ (by omega)) (by omega)) only [lit, n_eq]) <;> omega)); skip)
    | ((with_reducible apply X_T); focus (first | ((with_reducible apply p_take_y h') <;> first | omega | ((simp (disch := omega) only [lit, n_eq]) <;> omega)) | ((with_reducible apply p_limit_y h' rfl) <;> omega)); skip)
    | ((with_reducible apply X_Tt); focus (first | ((with_reducible apply p_take_n h') <;> first | omega | ((simp (disch := first | omega | exact Nat.lt_trans (ht _ (by omega)) (by omega)) only [lit, n_eq]) <;> omega)) | ((with_reducible apply p_limit_n h' rfl) <;> omega)); skip))
        refine X_T (p_name_y h' q2 (by omega) u2 (dr + 1 + 1)) ?_
        repeat (first
    | ((with_reducible apply X_bndE); focus (first | ((with_reducible apply pz_pp h') <;> omega) | ((with_reducible apply pz_kk h') <;> omega) | (with_reducible exact pz_14)); skip)
    | with_reducible refine X_bnd ?_
    | ((with_reducible apply X_chk); focus (first | exact a1 | exact a2 | exact a3 | exact a4 | exact a5 | ((with_reducible apply pz_i1 h') <;> omega) | ((with_reducible apply pz_i2 h') <;> omega)); skip)
    | ((with_reducible apply X_rfO); focus (first | exact c1 | exact c2 | exact c5); skip)
    | ((with_reducible apply X_I); focus (first | ((with_reducible apply p_kaC h') <;> omega) | ((with_reducible apply p_paC h') <;> omega) | ((with_reducible apply p_skip_y h') <;> first | omega | ((simp (disch := omega) only [lit, n_eq]) <;> omega)) | ((with_reducible apply p_skip_n h') <;> first | omega | ((simp (disch := first | omega | exact Nat.lt_trans (ht _ (by omega)) (by omega)) only [lit, n_eq]) <;> omega))); skip)
    | ((with_reducible apply X_if); focus (first | (with_reducible exact rfl) | (with_reducible exact n00) | ((simp (disch := omega) only [lit, n_eq]) <;> omega)); skip)
    | ((with_reducible apply X_nif); focus (first | exact n10 | ((with_reducible apply p_cnt h') <;> omega) | ((simp (disch := first | omega | exact Nat.lt_trans (ht _ (by omega)) (by omega)) only [lit, n_eq]) <;> omega)); skip)
    | ((with_reducible apply X_T); focus (first | ((with_reducible apply p_take_y h') <;> first | omega | ((simp (disch := omega) only [lit, n_eq]) <;> omega)) | ((with_reducible apply p_limit_y h' rfl) <;> omega)); skip)
    | ((with_reducible apply X_Tt); focus (first | ((with_reducible apply p_take_n h') <;> first | omega | ((simp (disch := first | omega | exact Nat.lt_trans (ht _ (by omega)) (by omega)) only [lit, n_eq]) <;> omega)) | ((with_reducible apply p_limit_n h' rfl) <;> omega)); skip))
        rw [hpa]
        try rw [hd1]
        repeat (first
    | ((with_reducible apply X_bndE); focus (first | ((with_reducible apply pz_pp h') <;> omega) | ((with_reducible apply pz_kk h') <;> omega) | (with_reducible exact pz_14)); skip)
    | with_reducible refine X_bnd ?_
    | ((with_reducible apply X_chk); focus (first | exact a1 | exact a2 | exact a3 | exact a4 | exact a5 | ((with_reducible apply pz_i1 h') <;> omega) | ((with_reducible apply pz_i2 h') <;> omega)); skip)
    | ((with_reducible apply X_rfO); focus (first | exact c1 | exact c2 | exact c5); skip)
    | ((with_reducible apply X_I); focus (first | ((with_reducible apply p_kaC h') <;> omega) | ((with_reducible apply p_paC h') <;> omega) | ((with_reducible apply p_skip_y h') <;> first | omega | ((simp (disch := omega) only [lit, n_eq]) <;> omega)) | ((with_reducible apply p_skip_n h') <;> first | omega | ((simp (disch := first | omega | exact Nat.lt_trans (ht _ (by omega)) (by omega)) only [lit, n_eq]) <;> omega))); skip)
    | ((with_reducible apply X_if); focus (first | (with_reducible exact rfl) | (with_reducible exact n00) | ((simp (disch := omega) only [lit, n_eq]) <;> omega)); skip)
    | ((with_reducible apply X_nif); focus (first | exact n10 | ((with_reducible apply p_cnt h') <;> omega) | ((simp (disch := first | omega | exact Nat.lt_trans (ht _ (by omega)) (by omega)) only [lit, n_eq]) <;> omega)); skip)
    | ((with_reducible apply X_T); focus (first | ((with_reducible apply p_take_y h') <;> first | omega | ((simp (disch := omega) only [lit, n_eq]) <;> omega)) | ((with_reducible apply p_limit_y h' rfl) <;> omega)); skip)
    | ((with_reducible apply X_Tt); focus (first | ((with_reducible apply p_take_n h') <;> first | omega | ((simp (disch := first | omega | exact Nat.lt_trans (ht _ (by omega)) (by omega)) only [lit, n_eq]) <;> omega)) | ((with_reducible apply p_limit_n h' rfl) <;> omega)); skip))
        exact X_Tt x1 rfl
      · unfold f_RM_statement f_RM_named f_RM_sums k_RM_named_217 k_RM_named_108
        simp only [hd1]
        repeat (first
    | with_reducible refine M_VI ?_
    | with_reducible refine M_VV ?_
    | with_reducible refine M_Vif ?_
    | with_reducible refine M_Vs ?_
    | with_reducible refine M_II ?_
    | with_reducible refine M_IV ?_
    | with_reducible refine M_Iif ?_
    | with_reducible refine M_Is ?_
    | with_reducible refine M_Ichk ?_
    | ((with_reducible apply BM_bndE); focus (first | ((with_reducible apply r_p R hn) <;> first | omega | assumption)); skip)
    | with_reducible refine BM_bnd ?_
    | ((with_reducible apply BM_chk); focus (((with_reducible apply r_i hn)) <;> omega); skip)
    | ((with_reducible apply BM_I); focus (first | ((with_reducible apply r_look R hn) <;> first | omega | assumption) | (with_reducible exact q_look1) | ((with_reducible apply r_draft) <;> first | omega | exact rfl | exact r_p R hn (by omega) (by assumption)) | ((with_reducible apply r_db) <;> omega) | ((with_reducible apply r_nb) <;> omega) | ((with_reducible apply r_nameb) <;> omega) | ((with_reducible apply r_name_y R hn) <;> first | omega | assumption) | ((with_reducible apply r_name_n R hn) <;> first | omega | assumption | exact ht _ (by omega))); skip)
    | ((with_reducible apply BM_V); focus (first | ((with_reducible apply r_take_y R hn) <;> first | omega | assumption | first | exact rfl | (with_reducible exact n00) | exact kp_y (by assumption) (by decide)) | ((with_reducible apply r_take_n R hn) <;> first | omega | assumption | first | exact n10 | ((simp (disch := first | assumption | omega | exact ht _ (by omega)) only [lit, n_eq, n_le, kp_0, kp_1, kp_2, kp_3, kp_4, kp_5, kp_6, kp_7, kp_8, kp_9, kp_10, kp_11, kp_12, kp_13, kp_14, kp_15, kp_16, kp_17, kp_18, kp_19, kp_20, kp_21, kp_22, kp_23, kp_24, kp_25, kp_26, kp_27, kp_28, kp_29, kp_30, kp_31, kp_32, kp_33, kp_34]) <;> omega)) | (with_reducible exact q_takeb) | ((with_reducible apply q_deep_y rfl) <;> omega) | ((with_reducible apply q_deep_n R rfl) <;> first | omega | assumption) | ((with_reducible apply q_deepb' rfl) <;> omega) | (with_reducible exact q_needb) | (with_reducible exact r_need1) | ((with_reducible apply r_need0 R hn) <;> first | omega | assumption)); skip)
    | ((with_reducible apply BM_if); focus (first | exact rfl | (with_reducible exact n00) | exact kp_y (by assumption) (by decide)); skip)
    | ((with_reducible apply BM_nif); focus (first | exact n10 | ((simp (disch := first | assumption | omega | exact ht _ (by omega)) only [lit, n_eq, n_le, kp_0, kp_1, kp_2, kp_3, kp_4, kp_5, kp_6, kp_7, kp_8, kp_9, kp_10, kp_11, kp_12, kp_13, kp_14, kp_15, kp_16, kp_17, kp_18, kp_19, kp_20, kp_21, kp_22, kp_23, kp_24, kp_25, kp_26, kp_27, kp_28, kp_29, kp_30, kp_31, kp_32, kp_33, kp_34]) <;> omega)); skip)
    | (with_reducible refine bm_jn ?_ rfl)
    | ((with_reducible apply bm_join); (focus (first | assumption | exact BI_new (by assumption) | exact BI_new (BI_new (by assumption)) | exact BI_new (BI_new (BI_new (by assumption))))); (focus omega); (focus omega); (focus (first | assumption | exact Or.inr ⟨_, by omega, rfl⟩)); intro _ _)
    | exact ⟨_, _, _, (by with_reducible rfl), by omega, by omega, (by first | assumption | exact BI_new (by assumption) | exact BI_new (BI_new (by assumption)) | exact BI_new (BI_new (BI_new (by assumption)))), (by first | exact Or.inl rfl | assumption | exact Or.inr ⟨_, by omega, rfl⟩)⟩)
        refine BM_chk hib ?_
        repeat (first
    | with_reducible refine M_VI ?_
    | with_reducible refine M_VV ?_
    | with_reducible refine M_Vif ?_
    | with_reducible refine M_Vs ?_
    | with_reducible refine M_II ?_
    | with_reducible refine M_IV ?_
    | with_reducible refine M_Iif ?_
    | with_reducible refine M_Is ?_
    | with_reducible refine M_Ichk ?_
    | ((with_reducible apply BM_bndE); focus (first | ((with_reducible apply r_p R hn) <;> first | omega | assumption)); skip)
    | with_reducible refine BM_bnd ?_
    | ((with_reducible apply BM_chk); focus (((with_reducible apply r_i hn)) <;> omega); skip)
    | ((with_reducible apply BM_I); focus (first | ((with_reducible apply r_look R hn) <;> first | omega | assumption) | (with_reducible exact q_look1) | ((with_reducible apply r_draft) <;> first | omega | exact rfl | exact r_p R hn (by omega) (by assumption)) | ((with_reducible apply r_db) <;> omega) | ((with_reducible apply r_nb) <;> omega) | ((with_reducible apply r_nameb) <;> omega) | ((with_reducible apply r_name_y R hn) <;> first | omega | assumption) | ((with_reducible apply r_name_n R hn) <;> first | omega | assumption | exact ht _ (by omega))); skip)
    | ((with_reducible apply BM_V); focus (first | ((with_reducible apply r_take_y R hn) <;> first | omega | assumption | first | exact rfl | (with_reducible exact n00) | exact kp_y (by assumption) (by decide)) | ((with_reducible apply r_take_n R hn) <;> first | omega | assumption | first | exact n10 | ((simp (disch := first | assumption | omega | exact ht _ (by omega)) only [lit, n_eq, n_le, kp_0, kp_1, kp_2, kp_3, kp_4, kp_5, kp_6, kp_7, kp_8, kp_9, kp_10, kp_11, kp_12, kp_13, kp_14, kp_15, kp_16, kp_17, kp_18, kp_19, kp_20, kp_21, kp_22, kp_23, kp_24, kp_25, kp_26, kp_27, kp_28, kp_29, kp_30, kp_31, kp_32, kp_33, kp_34]) <;> omega)) | (with_reducible exact q_takeb) | ((with_reducible apply q_deep_y rfl) <;> omega) | ((with_reducible apply q_deep_n R rfl) <;> first | omega | assumption) | ((with_reducible apply q_deepb' rfl) <;> omega) | (with_reducible exact q_needb) | (with_reducible exact r_need1) | ((with_reducible apply r_need0 R hn) <;> first | omega | assumption)); skip)
    | ((with_reducible apply BM_if); focus (first | exact rfl | (with_reducible exact n00) | exact kp_y (by assumption) (by decide)); skip)
    | ((with_reducible apply BM_nif); focus (first | exact n10 | ((simp (disch := first | assumption | omega | exact ht _ (by omega)) only [lit, n_eq, n_le, kp_0, kp_1, kp_2, kp_3, kp_4, kp_5, kp_6, kp_7, kp_8, kp_9, kp_10, kp_11, kp_12, kp_13, kp_14, kp_15, kp_16, kp_17, kp_18, kp_19, kp_20, kp_21, kp_22, kp_23, kp_24, kp_25, kp_26, kp_27, kp_28, kp_29, kp_30, kp_31, kp_32, kp_33, kp_34]) <;> omega)); skip)
    | (with_reducible refine bm_jn ?_ rfl)
    | ((with_reducible apply bm_join); (focus (first | assumption | exact BI_new (by assumption) | exact BI_new (BI_new (by assumption)) | exact BI_new (BI_new (BI_new (by assumption))))); (focus omega); (focus omega); (focus (first | assumption | exact Or.inr ⟨_, by omega, rfl⟩)); intro _ _)
    | exact ⟨_, _, _, (by with_reducible rfl), by omega, by omega, (by first | assumption | exact BI_new (by assumption) | exact BI_new (BI_new (by assumption)) | exact BI_new (BI_new (BI_new (by assumption)))), (by first | exact Or.inl rfl | assumption | exact Or.inr ⟨_, by omega, rfl⟩)⟩)
        refine BM_if h40 ?_
        repeat (first
    | with_reducible refine M_VI ?_
    | with_reducible refine M_VV ?_
    | with_reducible refine M_Vif ?_
    | with_reducible refine M_Vs ?_
    | with_reducible refine M_II ?_
    | with_reducible refine M_IV ?_
    | with_reducible refine M_Iif ?_
    | with_reducible refine M_Is ?_
    | with_reducible refine M_Ichk ?_
    | ((with_reducible apply BM_bndE); focus (first | ((with_reducible apply r_p R hn) <;> first | omega | assumption)); skip)
    | with_reducible refine BM_bnd ?_
    | ((with_reducible apply BM_chk); focus (((with_reducible apply r_i hn)) <;> omega); skip)
    | ((with_reducible apply BM_I); focus (first | ((with_reducible apply r_look R hn) <;> first | omega | assumption) | (with_reducible exact q_look1) | ((with_reducible apply r_draft) <;> first | omega | exact rfl | exact r_p R hn (by omega) (by assumption)) | ((with_reducible apply r_db) <;> omega) | ((with_reducible apply r_nb) <;> omega) | ((with_reducible apply r_nameb) <;> omega) | ((with_reducible apply r_name_y R hn) <;> first | omega | assumption) | ((with_reducible apply r_name_n R hn) <;> first | omega | assumption | exact ht _ (by omega))); skip)
    | ((with_reducible apply BM_V); focus (first | ((with_reducible apply r_take_y R hn) <;> first | omega | assumption | first | exact rfl | (with_reducible exact n00) | exact kp_y (by assumption) (by decide)) | ((with_reducible apply r_take_n R hn) <;> first | omega | assumption | first | exact n10 | ((simp (disch := first | assumption | omega | exact ht _ (by omega)) only [lit, n_eq, n_le, kp_0, kp_1, kp_2, kp_3, kp_4, kp_5, kp_6, kp_7, kp_8, kp_9, kp_10, kp_11, kp_12, kp_13, kp_14, kp_15, kp_16, kp_17, kp_18, kp_19, kp_20, kp_21, kp_22, kp_23, kp_24, kp_25, kp_26, kp_27, kp_28, kp_29, kp_30, kp_31, kp_32, kp_33, kp_34]) <;> omega)) | (with_reducible exact q_takeb) | ((with_reducible apply q_deep_y rfl) <;> omega) | ((with_reducible apply q_deep_n R rfl) <;> first | omega | assumption) | ((with_reducible apply q_deepb' rfl) <;> omega) | (with_reducible exact q_needb) | (with_reducible exact r_need1) | ((with_reducible apply r_need0 R hn) <;> first | omega | assumption)); skip)
    | ((with_reducible apply BM_if); focus (first | exact rfl | (with_reducible exact n00) | exact kp_y (by assumption) (by decide)); skip)
    | ((with_reducible apply BM_nif); focus (first | exact n10 | ((simp (disch := first | assumption | omega | exact ht _ (by omega)) only [lit, n_eq, n_le, kp_0, kp_1, kp_2, kp_3, kp_4, kp_5, kp_6, kp_7, kp_8, kp_9, kp_10, kp_11, kp_12, kp_13, kp_14, kp_15, kp_16, kp_17, kp_18, kp_19, kp_20, kp_21, kp_22, kp_23, kp_24, kp_25, kp_26, kp_27, kp_28, kp_29, kp_30, kp_31, kp_32, kp_33, kp_34]) <;> omega)); skip)
    | (with_reducible refine bm_jn ?_ rfl)
    | ((with_reducible apply bm_join); (focus (first | assumption | exact BI_new (by assumption) | exact BI_new (BI_new (by assumption)) | exact BI_new (BI_new (BI_new (by assumption))))); (focus omega); (focus omega); (focus (first | assumption | exact Or.inr ⟨_, by omega, rfl⟩)); intro _ _)
    | exact ⟨_, _, _, (by with_reducible rfl), by omega, by omega, (by first | assumption | exact BI_new (by assumption) | exact BI_new (BI_new (by assumption)) | exact BI_new (BI_new (BI_new (by assumption)))), (by first | exact Or.inl rfl | assumption | exact Or.inr ⟨_, by omega, rfl⟩)⟩)
        refine BM_V (j1 _) ?_
        repeat (first
    | with_reducible refine M_VI ?_
    | with_reducible refine M_VV ?_
    | with_reducible refine M_Vif ?_
    | with_reducible refine M_Vs ?_
    | with_reducible refine M_II ?_
    | with_reducible refine M_IV ?_
    | with_reducible refine M_Iif ?_
    | with_reducible refine M_Is ?_
    | with_reducible refine M_Ichk ?_
    | ((with_reducible apply BM_bndE); focus (first | ((with_reducible apply r_p R hn) <;> first | omega | assumption)); skip)
    | with_reducible refine BM_bnd ?_
    | ((with_reducible apply BM_chk); focus (((with_reducible apply r_i hn)) <;> omega); skip)
    | ((with_reducible apply BM_I); focus (first | ((with_reducible apply r_look R hn) <;> first | omega | assumption) | (with_reducible exact q_look1) | ((with_reducible apply r_draft) <;> first | omega | exact rfl | exact r_p R hn (by omega) (by assumption)) | ((with_reducible apply r_db) <;> omega) | ((with_reducible apply r_nb) <;> omega) | ((with_reducible apply r_nameb) <;> omega) | ((with_reducible apply r_name_y R hn) <;> first | omega | assumption) | ((with_reducible apply r_name_n R hn) <;> first | omega | assumption | exact ht _ (by omega))); skip)
    | ((with_reducible apply BM_V); focus (first | ((with_reducible apply r_take_y R hn) <;> first | omega | assumption | first | exact rfl | (with_reducible exact n00) | exact kp_y (by assumption) (by decide)) | ((with_reducible apply r_take_n R hn) <;> first | omega | assumption | first | exact n10 | ((simp (disch := first | assumption | omega | exact ht _ (by omega)) only [lit, n_eq, n_le, kp_0, kp_1, kp_2, kp_3, kp_4, kp_5, kp_6, kp_7, kp_8, kp_9, kp_10, kp_11, kp_12, kp_13, kp_14, kp_15, kp_16, kp_17, kp_18, kp_19, kp_20, kp_21, kp_22, kp_23, kp_24, kp_25, kp_26, kp_27, kp_28, kp_29, kp_30, kp_31, kp_32, kp_33, kp_34]) <;> omega)) | (with_reducible exact q_takeb) | ((with_reducible apply q_deep_y rfl) <;> omega) | ((with_reducible apply q_deep_n R rfl) <;> first | omega | assumption) | ((with_reducible apply q_deepb' rfl) <;> omega) | (with_reducible exact q_needb) | (with_reducible exact r_need1) | ((with_reducible apply r_need0 R hn) <;> first | omega | assumption)); skip)
    | ((with_reducible apply BM_if); focus (first | exact rfl | (with_reducible exact n00) | exact kp_y (by assumption) (by decide)); skip)
    | ((with_reducible apply BM_nif); focus (first | exact n10 | ((simp (disch := first | assumption | omega | exact ht _ (by omega)) only [lit, n_eq, n_le, kp_0, kp_1, kp_2, kp_3, kp_4, kp_5, kp_6, kp_7, kp_8, kp_9, kp_10, kp_11, kp_12, kp_13, kp_14, kp_15, kp_16, kp_17, kp_18, kp_19, kp_20, kp_21, kp_22, kp_23, kp_24, kp_25, kp_26, kp_27, kp_28, kp_29, kp_30, kp_31, kp_32, kp_33, kp_34]) <;> omega)); skip)
    | (with_reducible refine bm_jn ?_ rfl)
    | ((with_reducible apply bm_join); (focus (first | assumption | exact BI_new (by assumption) | exact BI_new (BI_new (by assumption)) | exact BI_new (BI_new (BI_new (by assumption))))); (focus omega); (focus omega); (focus (first | assumption | exact Or.inr ⟨_, by omega, rfl⟩)); intro _ _)
    | exact ⟨_, _, _, (by with_reducible rfl), by omega, by omega, (by first | assumption | exact BI_new (by assumption) | exact BI_new (BI_new (by assumption)) | exact BI_new (BI_new (BI_new (by assumption)))), (by first | exact Or.inl rfl | assumption | exact Or.inr ⟨_, by omega, rfl⟩)⟩)
        refine BM_V (j2 _) ?_
        repeat (first
    | with_reducible refine M_VI ?_
    | with_reducible refine M_VV ?_
    | with_reducible refine M_Vif ?_
    | with_reducible refine M_Vs ?_
    | with_reducible refine M_II ?_
    | with_reducible refine M_IV ?_
    | with_reducible refine M_Iif ?_
    | with_reducible refine M_Is ?_
    | with_reducible refine M_Ichk ?_
    | ((with_reducible apply BM_bndE); focus (first | ((with_reducible apply r_p R hn) <;> first | omega | assumption)); skip)
    | with_reducible refine BM_bnd ?_
    | ((with_reducible apply BM_chk); focus (((with_reducible apply r_i hn)) <;> omega); skip)
    | ((with_reducible apply BM_I); focus (first | ((with_reducible apply r_look R hn) <;> first | omega | assumption) | (with_reducible exact q_look1) | ((with_reducible apply r_draft) <;> first | omega | exact rfl | exact r_p R hn (by omega) (by assumption)) | ((with_reducible apply r_db) <;> omega) | ((with_reducible apply r_nb) <;> omega) | ((with_reducible apply r_nameb) <;> omega) | ((with_reducible apply r_name_y R hn) <;> first | omega | assumption) | ((with_reducible apply r_name_n R hn) <;> first | omega | assumption | exact ht _ (by omega))); skip)
    | ((with_reducible apply BM_V); focus (first | ((with_reducible apply r_take_y R hn) <;> first | omega | assumption | first | exact rfl | (with_reducible exact n00) | exact kp_y (by assumption) (by decide)) | ((with_reducible apply r_take_n R hn) <;> first | omega | assumption | first | exact n10 | ((simp (disch := first | assumption | omega | exact ht _ (by omega)) only [lit, n_eq, n_le, kp_0, kp_1, kp_2, kp_3, kp_4, kp_5, kp_6, kp_7, kp_8, kp_9, kp_10, kp_11, kp_12, kp_13, kp_14, kp_15, kp_16, kp_17, kp_18, kp_19, kp_20, kp_21, kp_22, kp_23, kp_24, kp_25, kp_26, kp_27, kp_28, kp_29, kp_30, kp_31, kp_32, kp_33, kp_34]) <;> omega)) | (with_reducible exact q_takeb) | ((with_reducible apply q_deep_y rfl) <;> omega) | ((with_reducible apply q_deep_n R rfl) <;> first | omega | assumption) | ((with_reducible apply q_deepb' rfl) <;> omega) | (with_reducible exact q_needb) | (with_reducible exact r_need1) | ((with_reducible apply r_need0 R hn) <;> first | omega | assumption)); skip)
    | ((with_reducible apply BM_if); focus (first | exact rfl | (with_reducible exact n00) | exact kp_y (by assumption) (by decide)); skip)
    | ((with_reducible apply BM_nif); focus (first | exact n10 | ((simp (disch := first | assumption | omega | exact ht _ (by omega)) only [lit, n_eq, n_le, kp_0, kp_1, kp_2, kp_3, kp_4, kp_5, kp_6, kp_7, kp_8, kp_9, kp_10, kp_11, kp_12, kp_13, kp_14, kp_15, kp_16, kp_17, kp_18, kp_19, kp_20, kp_21, kp_22, kp_23, kp_24, kp_25, kp_26, kp_27, kp_28, kp_29, kp_30, kp_31, kp_32, kp_33, kp_34]) <;> omega)); skip)
    | (with_reducible refine bm_jn ?_ rfl)
    | ((with_reducible apply bm_join); (focus (first | assumption | exact BI_new (by assumption) | exact BI_new (BI_new (by assumption)) | exact BI_new (BI_new (BI_new (by assumption))))); (focus omega); (focus omega); (focus (first | assumption | exact Or.inr ⟨_, by omega, rfl⟩)); intro _ _)
    | exact ⟨_, _, _, (by with_reducible rfl), by omega, by omega, (by first | assumption | exact BI_new (by assumption) | exact BI_new (BI_new (by assumption)) | exact BI_new (BI_new (BI_new (by assumption)))), (by first | exact Or.inl rfl | assumption | exact Or.inr ⟨_, by omega, rfl⟩)⟩)
        refine BM_I x2 ?_
        repeat (first
    | with_reducible refine M_VI ?_
    | with_reducible refine M_VV ?_
    | with_reducible refine M_Vif ?_
    | with_reducible refine M_Vs ?_
    | with_reducible refine M_II ?_
    | with_reducible refine M_IV ?_
    | with_reducible refine M_Iif ?_
    | with_reducible refine M_Is ?_
    | with_reducible refine M_Ichk ?_
    | ((with_reducible apply BM_bndE); focus (first | ((with_reducible apply r_p R hn) <;> first | omega | assumption)); skip)
    | with_reducible refine BM_bnd ?_
    | ((with_reducible apply BM_chk); focus (((with_reducible apply r_i hn)) <;> omega); skip)
    | ((with_reducible apply BM_I); focus (first | ((with_reducible apply r_look R hn) <;> first | omega | assumption) | (with_reducible exact q_look1) | ((with_reducible apply r_draft) <;> first | omega | exact rfl | exact r_p R hn (by omega) (by assumption)) | ((with_reducible apply r_db) <;> omega) | ((with_reducible apply r_nb) <;> omega) | ((with_reducible apply r_nameb) <;> omega) | ((with_reducible apply r_name_y R hn) <;> first | omega | assumption) | ((with_reducible apply r_name_n R hn) <;> first | omega | assumption | exact ht _ (by omega))); skip)
    | ((with_reducible apply BM_V); focus (first | ((with_reducible apply r_take_y R hn) <;> first | omega | assumption | first | exact rfl | (with_reducible exact n00) | exact kp_y (by assumption) (by decide)) | ((with_reducible apply r_take_n R hn) <;> first | omega | assumption | first | exact n10 | ((simp (disch := first | assumption | omega | exact ht _ (by omega)) only [lit, n_eq, n_le, kp_0, kp_1, kp_2, kp_3, kp_4, kp_5, kp_6, kp_7, kp_8, kp_9, kp_10, kp_11, kp_12, kp_13, kp_14, kp_15, kp_16, kp_17, kp_18, kp_19, kp_20, kp_21, kp_22, kp_23, kp_24, kp_25, kp_26, kp_27, kp_28, kp_29, kp_30, kp_31, kp_32, kp_33, kp_34]) <;> omega)) | (with_reducible exact q_takeb) | ((with_reducible apply q_deep_y rfl) <;> omega) | ((with_reducible apply q_deep_n R rfl) <;> first | omega | assumption) | ((with_reducible apply q_deepb' rfl) <;> omega) | (with_reducible exact q_needb) | (with_reducible exact r_need1) | ((with_reducible apply r_need0 R hn) <;> first | omega | assumption)); skip)
    | ((with_reducible apply BM_if); focus (first | exact rfl | (with_reducible exact n00) | exact kp_y (by assumption) (by decide)); skip)
    | ((with_reducible apply BM_nif); focus (first | exact n10 | ((simp (disch := first | assumption | omega | exact ht _ (by omega)) only [lit, n_eq, n_le, kp_0, kp_1, kp_2, kp_3, kp_4, kp_5, kp_6, kp_7, kp_8, kp_9, kp_10, kp_11, kp_12, kp_13, kp_14, kp_15, kp_16, kp_17, kp_18, kp_19, kp_20, kp_21, kp_22, kp_23, kp_24, kp_25, kp_26, kp_27, kp_28, kp_29, kp_30, kp_31, kp_32, kp_33, kp_34]) <;> omega)); skip)
    | (with_reducible refine bm_jn ?_ rfl)
    | ((with_reducible apply bm_join); (focus (first | assumption | exact BI_new (by assumption) | exact BI_new (BI_new (by assumption)) | exact BI_new (BI_new (BI_new (by assumption))))); (focus omega); (focus omega); (focus (first | assumption | exact Or.inr ⟨_, by omega, rfl⟩)); intro _ _)
    | exact ⟨_, _, _, (by with_reducible rfl), by omega, by omega, (by first | assumption | exact BI_new (by assumption) | exact BI_new (BI_new (by assumption)) | exact BI_new (BI_new (BI_new (by assumption)))), (by first | exact Or.inl rfl | assumption | exact Or.inr ⟨_, by omega, rfl⟩)⟩)
        refine BM_V (k38_bad (by omega)) ?_
        repeat (first
    | with_reducible refine M_VI ?_
    | with_reducible refine M_VV ?_
    | with_reducible refine M_Vif ?_
    | with_reducible refine M_Vs ?_
    | with_reducible refine M_II ?_
    | with_reducible refine M_IV ?_
    | with_reducible refine M_Iif ?_
    | with_reducible refine M_Is ?_
    | with_reducible refine M_Ichk ?_
    | ((with_reducible apply BM_bndE); focus (first | ((with_reducible apply r_p R hn) <;> first | omega | assumption)); skip)
    | with_reducible refine BM_bnd ?_
    | ((with_reducible apply BM_chk); focus (((with_reducible apply r_i hn)) <;> omega); skip)
    | ((with_reducible apply BM_I); focus (first | ((with_reducible apply r_look R hn) <;> first | omega | assumption) | (with_reducible exact q_look1) | ((with_reducible apply r_draft) <;> first | omega | exact rfl | exact r_p R hn (by omega) (by assumption)) | ((with_reducible apply r_db) <;> omega) | ((with_reducible apply r_nb) <;> omega) | ((with_reducible apply r_nameb) <;> omega) | ((with_reducible apply r_name_y R hn) <;> first | omega | assumption) | ((with_reducible apply r_name_n R hn) <;> first | omega | assumption | exact ht _ (by omega))); skip)
    | ((with_reducible apply BM_V); focus (first | ((with_reducible apply r_take_y R hn) <;> first | omega | assumption | first | exact rfl | (with_reducible exact n00) | exact kp_y (by assumption) (by decide)) | ((with_reducible apply r_take_n R hn) <;> first | omega | assumption | first | exact n10 | ((simp (disch := first | assumption | omega | exact ht _ (by omega)) only [lit, n_eq, n_le, kp_0, kp_1, kp_2, kp_3, kp_4, kp_5, kp_6, kp_7, kp_8, kp_9, kp_10, kp_11, kp_12, kp_13, kp_14, kp_15, kp_16, kp_17, kp_18, kp_19, kp_20, kp_21, kp_22, kp_23, kp_24, kp_25, kp_26, kp_27, kp_28, kp_29, kp_30, kp_31, kp_32, kp_33, kp_34]) <;> omega)) | (with_reducible exact q_takeb) | ((with_reducible apply q_deep_y rfl) <;> omega) | ((with_reducible apply q_deep_n R rfl) <;> first | omega | assumption) | ((with_reducible apply q_deepb' rfl) <;> omega) | (with_reducible exact q_needb) | (with_reducible exact r_need1) | ((with_reducible apply r_need0 R hn) <;> first | omega | assumption)); skip)
    | ((with_reducible apply BM_if); focus (first | exact rfl | (with_reducible exact n00) | exact kp_y (by assumption) (by decide)); skip)
    | ((with_reducible apply BM_nif); focus (first | exact n10 | ((simp (disch := first | assumption | omega | exact ht _ (by omega)) only [lit, n_eq, n_le, kp_0, kp_1, kp_2, kp_3, kp_4, kp_5, kp_6, kp_7, kp_8, kp_9, kp_10, kp_11, kp_12, kp_13, kp_14, kp_15, kp_16, kp_17, kp_18, kp_19, kp_20, kp_21, kp_22, kp_23, kp_24, kp_25, kp_26, kp_27, kp_28, kp_29, kp_30, kp_31, kp_32, kp_33, kp_34]) <;> omega)); skip)
    | (with_reducible refine bm_jn ?_ rfl)
    | ((with_reducible apply bm_join); (focus (first | assumption | exact BI_new (by assumption) | exact BI_new (BI_new (by assumption)) | exact BI_new (BI_new (BI_new (by assumption))))); (focus omega); (focus omega); (focus (first | assumption | exact Or.inr ⟨_, by omega, rfl⟩)); intro _ _)
    | exact ⟨_, _, _, (by with_reducible rfl), by omega, by omega, (by first | assumption | exact BI_new (by assumption) | exact BI_new (BI_new (by assumption)) | exact BI_new (BI_new (BI_new (by assumption)))), (by first | exact Or.inl rfl | assumption | exact Or.inr ⟨_, by omega, rfl⟩)⟩)
theorem st_set_a {d lim hm : Nat} {ps : (Nat → Int32 → mh_H → Option (Bool × Int32 × mh_H))} {rs rc rb rs0 rs1 : (Int32 → rm_S → Option (Int32 × rm_S))} (E : EN σ ap dd tt bk bp bv dk dp dv dz n room tk tp tv S N) (hS0 : Sim σ ap dd dk dp dv dz n tk tp S (d + 1) lim hm ps rs0) (hS1 : Sim σ ap dd dk dp dv dz n tk tp S (d + 1) lim hm ps rs1) (hl : 16010 ≤ lim ∧ lim < 25900 ∧ 1 ≤ hm) (hd : d ≤ 60) {flt : Int32} {q : Nat} {ds : List Ent} {dr : Nat} {B : Nat → Nat → Int32} (hI : Inp n tk q ds dr B) (t2 : tk q = 2) (u1 : tk (q + 1) = 20) (u2 : tk (q + 1 + 1) = 2) (u3 : ¬ tk (q + 1 + 1 + 1) = 12) : OutK σ ap dd dk dp dv dz n tk tp S flt q ds dr B (lim + 10) (hm + 1) (f_PA_assignment N ps ap (nI d) (pz σ ap dd dk dp dv dz q ds)) (f_RM_statement N rs (f_RM_named N (f_RM_sums N rs0) rs1) rc rb (nI d) (qz S q 0 flt dr B)) := by
  have hI' := hI
  have E' := E
  obtain ⟨⟨i1, i2⟩, i3, i4, i5⟩ := hI
  obtain ⟨h, R, hn, hNN⟩ := E
  have h' := h
  obtain ⟨⟨a1, a2, a3⟩, ⟨a4, a5, a6, a7, a8, a9, a10⟩, ⟨c1, c2⟩, ⟨c4, c5, c6⟩, ⟨c7, c8, c9, c10⟩, -, ⟨e5, e6, e7⟩, e8, -, -, -, -, e9, e10, e11, e12, e13⟩ := h
  have ht : ∀ j, j < n → tk j < 35 := fun j hj => (e9 j hj).2.2.2
  have hb1 : ∀ j, j < n → j < hN σ bk := fun j hj => by omega
  have hb2 : ∀ j, j < n → j < hN σ bp := fun j hj => by omega
  have hd1 : nI d + 1 = nI (d + 1) := n_add d 1
  have q1 := e13 q i1 (by omega)
  have g1 := gd_s i2 (by omega) (by omega)
  have hp := R_3 R i1 i2
  have htq1 := ht (q + 1) q1
  have hb := nb_new (k := 13) (p := tp q) (v := nI q) (show dr < 26000 by omega) i5
  have hw1 : wf n tk tp (one dr 13 (tp q) (nI q) .leaf) := s_first i1 i2 t2 hp _
  have hnC := p_name_y (N := N) (ds := ds) h' i1 (by omega) t2 dr
  have hll : (ds ++ post (one dr 13 (tp q) (nI q) .leaf)).length = ds.length + 1 := by simp [post]
  have hb1 := nb_wrap (k := 5) (p := tp q) (v := 0) hb (by omega)
  have hj1 := fun q' => nb_wrapE (S := S) (N := N) (bad := 0) (flt := flt) (q := q') (k := 5) (p := tp q) (v := 0) hb (by omega)
  have q2 := e13 (q + 1) q1 (by omega)
  have g2 := gd_s g1 (by omega) (by omega)
  have htq2 := ht (q + 1 + 1) q2
  have q3 := e13 (q + 1 + 1) q2 (by omega)
  have g3 := gd_s g2 (by omega) (by omega)
  have htq3 := ht (q + 1 + 1 + 1) q3
  have hib : ib ((qz S (q + 1 + 1) 0 flt (dr + 1) (bd B dr (nI 13) (nI (tp q)) (nI q))).1 12 + 1) 8002 := by
    rw [qz_12, show nI (q + 1 + 1) + 1 = nI (q + 1 + 1 + 1) from n_add _ 1, n_ib (by omega)]; omega
  have h40 : ¬ (qz S (q + 1 + 1) 0 flt (dr + 1) (bd B dr (nI 13) (nI (tp q)) (nI q))).2 4 (Int32.toNatClampNeg ((qz S (q + 1 + 1) 0 flt (dr + 1) (bd B dr (nI 13) (nI (tp q)) (nI q))).1 12 + 1)) = 40 := by
    rw [qz_12, show nI (q + 1 + 1) + 1 = nI (q + 1 + 1 + 1) from n_add _ 1, n_nat (by omega), qz_a (by omega), R_1 R q3 g3]
    simp (disch := omega) only [lit, kp_12]; omega
  rcases hS1 flt (q + 1 + 1) (ds ++ post (one dr 13 (tp q) (nI q) .leaf)) (dr + 1 + 1) _ ⟨⟨q2, g2⟩, by omega, by omega, hb1.2.2.2⟩ with ⟨q', i', k', p', v', c', dr', B', x1, x2, x3⟩ | ⟨q', y, x1, ⟨v, dr', B', x2, x3, x4, x5, x6⟩, x7, x8⟩
  · have hb' := nb_of x3
    obtain ⟨⟨y1, y2, y3⟩, -, -, -, y0, ⟨y4, y5, y6⟩, y7, y8⟩ := x3
    have hj2 := fun q => nb_joinE (S := S) (N := N) (bad := 0) (flt := flt) (q := q) hb1 hb'
    have hb2 := nb_join hb1 hb'
    have htq' := ht q' y2
    by_cases u4 : tk q' = 19
    · have q4 := e13 q' y2 (by omega)
      have g4 := gd_s y3 (by omega) (by omega)
      refine OutK_y (q := q' + 1) (k := 5) ?_ ?_ (New_of hb2 (by omega) q4 g4 (by omega) (by simp only [app, siz] at *; omega) ⟨by simp [okk, app, kls], by simp, ⟨hp, by simp only [app, siz] at *; omega⟩, wf_app hw1 y7, trivial⟩ (by simp only [app, hgt] at *; omega))
      · unfold f_PA_assignment k_PA_assignment_31
        rw [hd1]
        repeat (first
    | ((with_reducible apply X_bndE); focus (first | ((with_reducible apply pz_pp h') <;> omega) | ((with_reducible apply pz_kk h') <;> omega) | (with_reducible exact pz_14)); skip)
    | with_reducible refine X_bnd ?_
    | ((with_reducible apply X_chk); focus (first | exact a1 | exact a2 | exact a3 | exact a4 | exact a5 | ((with_reducible apply pz_i1 h') <;> omega) | ((with_reducible apply pz_i2 h') <;> omega)); skip)
    | ((with_reducible apply X_rfO); focus (first | exact c1 | exact c2 | exact c5); skip)
    | ((with_reducible apply X_I); focus (first | ((with_reducible apply p_kaC h') <;> omega) | ((with_reducible apply p_paC h') <;> omega) | ((with_reducible apply p_skip_y h') <;> first | omega | ((simp (disch := omega) only [lit, n_eq]) <;> omega)) | ((with_reducible apply p_skip_n h') <;> first | omega | ((simp (disch := first | omega | exact Nat.lt_trans (ht _ (by omega)) (by omega)) only [lit, n_eq]) <;> omega))); skip)
    | ((with_reducible apply X_if); focus (first | (with_reducible exact rfl) | (with_reducible exact n00) | ((simp (disch := omega) only [lit, n_eq]) <;> omega)); skip)
    | ((with_reducible apply X_nif); focus (first | exact n10 | ((with_reducible apply p_cnt h') <;> omega) | ((simp (disch := first | omega | exact Nat.lt_trans (ht _ (by omega)) (by omega)) only [lit, n_eq]) <;> omega)); skip)
    | ((with_reducible apply X_T); focus (first | ((with_reducible apply p_take_y h') <;> first | omega | ((simp (disch := omega) only [lit, n_eq]) <;> omega)) | ((with_reducible apply p_limit_y h' rfl) <;> omega)); skip)
    | ((with_reducible apply X_Tt); focus (first | ((with_reducible apply p_take_n h') <;> first | omega | ((simp (disch := first | omega | exact Nat.lt_trans (ht _ (by omega)) (by omega)) only [lit, n_eq]) <;> omega)) | ((with_reducible apply p_limit_n h' rfl) <;> omega)); skip))
        refine X_T hnC ?_
        repeat (first
    | ((with_reducible apply X_bndE); focus (first | ((with_reducible apply pz_pp h') <;> omega) | ((with_reducible apply pz_kk h') <;> omega) | (with_reducible exact pz_14)); skip)
    | with_reducible refine X_bnd ?_
    | ((with_reducible apply X_chk); focus (first | exact a1 | exact a2 | exact a3 | exact a4 | exact a5 | ((with_reducible apply pz_i1 h') <;> omega) | ((with_reducible apply pz_i2 h') <;> omega)); skip)
    | ((with_reducible apply X_rfO); focus (first | exact c1 | exact c2 | exact c5); skip)
    | ((with_reducible apply X_I); focus (first | ((with_reducible apply p_kaC h') <;> omega) | ((with_reducible apply p_paC h') <;> omega) | ((with_reducible apply p_skip_y h') <;> first | omega | ((simp (disch := omega) only [lit, n_eq]) <;> omega)) | ((with_reducible apply p_skip_n h') <;> first | omega | ((simp (disch := first | omega | exact Nat.lt_trans (ht _ (by omega)) (by omega)) only [lit, n_eq]) <;> omega))); skip)
    | ((with_reducible apply X_if); focus (first | (with_reducible exact rfl) | (with_reducible exact n00) | ((simp (disch := omega) only [lit, n_eq]) <;> omega)); skip)
    | ((with_reducible apply X_nif); focus (first | exact n10 | ((with_reducible apply p_cnt h') <;> omega) | ((simp (disch := first | omega | exact Nat.lt_trans (ht _ (by omega)) (by omega)) only [lit, n_eq]) <;> omega)); skip)
    | ((with_reducible apply X_T); focus (first | ((with_reducible apply p_take_y h') <;> first | omega | ((simp (disch := omega) only [lit, n_eq]) <;> omega)) | ((with_reducible apply p_limit_y h' rfl) <;> omega)); skip)
    | ((with_reducible apply X_Tt); focus (first | ((with_reducible apply p_take_n h') <;> first | omega | ((simp (disch := first | omega | exact Nat.lt_trans (ht _ (by omega)) (by omega)) only [lit, n_eq]) <;> omega)) | ((with_reducible apply p_limit_n h' rfl) <;> omega)); skip))
        refine X_T x1 ?_
        repeat (first
    | ((with_reducible apply X_bndE); focus (first | ((with_reducible apply pz_pp h') <;> omega) | ((with_reducible apply pz_kk h') <;> omega) | (with_reducible exact pz_14)); skip)
    | with_reducible refine X_bnd ?_
    | ((with_reducible apply X_chk); focus (first | exact a1 | exact a2 | exact a3 | exact a4 | exact a5 | ((with_reducible apply pz_i1 h') <;> omega) | ((with_reducible apply pz_i2 h') <;> omega)); skip)
    | ((with_reducible apply X_rfO); focus (first | exact c1 | exact c2 | exact c5); skip)
    | ((with_reducible apply X_I); focus (first | ((with_reducible apply p_kaC h') <;> omega) | ((with_reducible apply p_paC h') <;> omega) | ((with_reducible apply p_skip_y h') <;> first | omega | ((simp (disch := omega) only [lit, n_eq]) <;> omega)) | ((with_reducible apply p_skip_n h') <;> first | omega | ((simp (disch := first | omega | exact Nat.lt_trans (ht _ (by omega)) (by omega)) only [lit, n_eq]) <;> omega))); skip)
    | ((with_reducible apply X_if); focus (first | (with_reducible exact rfl) | (with_reducible exact n00) | ((simp (disch := omega) only [lit, n_eq]) <;> omega)); skip)
    | ((with_reducible apply X_nif); focus (first | exact n10 | ((with_reducible apply p_cnt h') <;> omega) | ((simp (disch := first | omega | exact Nat.lt_trans (ht _ (by omega)) (by omega)) only [lit, n_eq]) <;> omega)); skip)
    | ((with_reducible apply X_T); focus (first | ((with_reducible apply p_take_y h') <;> first | omega | ((simp (disch := omega) only [lit, n_eq]) <;> omega)) | ((with_reducible apply p_limit_y h' rfl) <;> omega)); skip)
    | ((with_reducible apply X_Tt); focus (first | ((with_reducible apply p_take_n h') <;> first | omega | ((simp (disch := first | omega | exact Nat.lt_trans (ht _ (by omega)) (by omega)) only [lit, n_eq]) <;> omega)) | ((with_reducible apply p_limit_n h' rfl) <;> omega)); skip))
        rw [List.append_assoc, ← post_app]; rfl
      · unfold f_RM_statement f_RM_named f_RM_sums k_RM_named_217 k_RM_named_108
        simp only [hd1]
        repeat (first
    | with_reducible refine A_VI ?_
    | with_reducible refine A_VV ?_
    | with_reducible refine A_Vif ?_
    | with_reducible refine A_Vs ?_
    | with_reducible refine A_II ?_
    | with_reducible refine A_IV ?_
    | with_reducible refine A_Iif ?_
    | with_reducible refine A_Is ?_
    | with_reducible refine A_Ichk ?_
    | ((with_reducible apply X_bndE); focus (first | ((with_reducible apply r_p R hn) <;> first | omega | assumption)); skip)
    | with_reducible refine X_bnd ?_
    | ((with_reducible apply X_chk); focus (((with_reducible apply r_i hn)) <;> omega); skip)
    | ((with_reducible apply X_I); focus (first | ((with_reducible apply r_look R hn) <;> first | omega | assumption) | (with_reducible exact q_look1) | ((with_reducible apply r_draft) <;> first | omega | exact rfl | exact r_p R hn (by omega) (by assumption)) | ((with_reducible apply r_name_y R hn) <;> first | omega | assumption)); skip)
    | ((with_reducible apply X_V); focus (first | ((with_reducible apply r_take_y R hn) <;> first | omega | assumption | first | exact rfl | (with_reducible exact n00) | exact kp_y (by assumption) (by decide)) | ((with_reducible apply r_take_n R hn) <;> first | omega | assumption | first | exact n10 | ((simp (disch := first | assumption | omega | exact ht _ (by omega)) only [lit, n_eq, n_le, kp_0, kp_1, kp_2, kp_3, kp_4, kp_5, kp_6, kp_7, kp_8, kp_9, kp_10, kp_11, kp_12, kp_13, kp_14, kp_15, kp_16, kp_17, kp_18, kp_19, kp_20, kp_21, kp_22, kp_23, kp_24, kp_25, kp_26, kp_27, kp_28, kp_29, kp_30, kp_31, kp_32, kp_33, kp_34]) <;> omega)) | (with_reducible exact q_takeb) | ((with_reducible apply q_deep_y rfl) <;> omega) | ((with_reducible apply q_deep_n R rfl) <;> first | omega | assumption) | (with_reducible exact q_needb) | (with_reducible exact r_need1) | ((with_reducible apply r_need0 R hn) <;> first | omega | assumption)); skip)
    | ((with_reducible apply X_if); focus (first | exact rfl | (with_reducible exact n00) | exact kp_y (by assumption) (by decide)); skip)
    | ((with_reducible apply X_nif); focus (first | exact n10 | ((simp (disch := first | assumption | omega | exact ht _ (by omega)) only [lit, n_eq, n_le, kp_0, kp_1, kp_2, kp_3, kp_4, kp_5, kp_6, kp_7, kp_8, kp_9, kp_10, kp_11, kp_12, kp_13, kp_14, kp_15, kp_16, kp_17, kp_18, kp_19, kp_20, kp_21, kp_22, kp_23, kp_24, kp_25, kp_26, kp_27, kp_28, kp_29, kp_30, kp_31, kp_32, kp_33, kp_34]) <;> omega)); skip))
        refine X_chk hib ?_
        repeat (first
    | with_reducible refine A_VI ?_
    | with_reducible refine A_VV ?_
    | with_reducible refine A_Vif ?_
    | with_reducible refine A_Vs ?_
    | with_reducible refine A_II ?_
    | with_reducible refine A_IV ?_
    | with_reducible refine A_Iif ?_
    | with_reducible refine A_Is ?_
    | with_reducible refine A_Ichk ?_
    | ((with_reducible apply X_bndE); focus (first | ((with_reducible apply r_p R hn) <;> first | omega | assumption)); skip)
    | with_reducible refine X_bnd ?_
    | ((with_reducible apply X_chk); focus (((with_reducible apply r_i hn)) <;> omega); skip)
    | ((with_reducible apply X_I); focus (first | ((with_reducible apply r_look R hn) <;> first | omega | assumption) | (with_reducible exact q_look1) | ((with_reducible apply r_draft) <;> first | omega | exact rfl | exact r_p R hn (by omega) (by assumption)) | ((with_reducible apply r_name_y R hn) <;> first | omega | assumption)); skip)
    | ((with_reducible apply X_V); focus (first | ((with_reducible apply r_take_y R hn) <;> first | omega | assumption | first | exact rfl | (with_reducible exact n00) | exact kp_y (by assumption) (by decide)) | ((with_reducible apply r_take_n R hn) <;> first | omega | assumption | first | exact n10 | ((simp (disch := first | assumption | omega | exact ht _ (by omega)) only [lit, n_eq, n_le, kp_0, kp_1, kp_2, kp_3, kp_4, kp_5, kp_6, kp_7, kp_8, kp_9, kp_10, kp_11, kp_12, kp_13, kp_14, kp_15, kp_16, kp_17, kp_18, kp_19, kp_20, kp_21, kp_22, kp_23, kp_24, kp_25, kp_26, kp_27, kp_28, kp_29, kp_30, kp_31, kp_32, kp_33, kp_34]) <;> omega)) | (with_reducible exact q_takeb) | ((with_reducible apply q_deep_y rfl) <;> omega) | ((with_reducible apply q_deep_n R rfl) <;> first | omega | assumption) | (with_reducible exact q_needb) | (with_reducible exact r_need1) | ((with_reducible apply r_need0 R hn) <;> first | omega | assumption)); skip)
    | ((with_reducible apply X_if); focus (first | exact rfl | (with_reducible exact n00) | exact kp_y (by assumption) (by decide)); skip)
    | ((with_reducible apply X_nif); focus (first | exact n10 | ((simp (disch := first | assumption | omega | exact ht _ (by omega)) only [lit, n_eq, n_le, kp_0, kp_1, kp_2, kp_3, kp_4, kp_5, kp_6, kp_7, kp_8, kp_9, kp_10, kp_11, kp_12, kp_13, kp_14, kp_15, kp_16, kp_17, kp_18, kp_19, kp_20, kp_21, kp_22, kp_23, kp_24, kp_25, kp_26, kp_27, kp_28, kp_29, kp_30, kp_31, kp_32, kp_33, kp_34]) <;> omega)); skip))
        refine X_nif h40 ?_
        repeat (first
    | with_reducible refine A_VI ?_
    | with_reducible refine A_VV ?_
    | with_reducible refine A_Vif ?_
    | with_reducible refine A_Vs ?_
    | with_reducible refine A_II ?_
    | with_reducible refine A_IV ?_
    | with_reducible refine A_Iif ?_
    | with_reducible refine A_Is ?_
    | with_reducible refine A_Ichk ?_
    | ((with_reducible apply X_bndE); focus (first | ((with_reducible apply r_p R hn) <;> first | omega | assumption)); skip)
    | with_reducible refine X_bnd ?_
    | ((with_reducible apply X_chk); focus (((with_reducible apply r_i hn)) <;> omega); skip)
    | ((with_reducible apply X_I); focus (first | ((with_reducible apply r_look R hn) <;> first | omega | assumption) | (with_reducible exact q_look1) | ((with_reducible apply r_draft) <;> first | omega | exact rfl | exact r_p R hn (by omega) (by assumption)) | ((with_reducible apply r_name_y R hn) <;> first | omega | assumption)); skip)
    | ((with_reducible apply X_V); focus (first | ((with_reducible apply r_take_y R hn) <;> first | omega | assumption | first | exact rfl | (with_reducible exact n00) | exact kp_y (by assumption) (by decide)) | ((with_reducible apply r_take_n R hn) <;> first | omega | assumption | first | exact n10 | ((simp (disch := first | assumption | omega | exact ht _ (by omega)) only [lit, n_eq, n_le, kp_0, kp_1, kp_2, kp_3, kp_4, kp_5, kp_6, kp_7, kp_8, kp_9, kp_10, kp_11, kp_12, kp_13, kp_14, kp_15, kp_16, kp_17, kp_18, kp_19, kp_20, kp_21, kp_22, kp_23, kp_24, kp_25, kp_26, kp_27, kp_28, kp_29, kp_30, kp_31, kp_32, kp_33, kp_34]) <;> omega)) | (with_reducible exact q_takeb) | ((with_reducible apply q_deep_y rfl) <;> omega) | ((with_reducible apply q_deep_n R rfl) <;> first | omega | assumption) | (with_reducible exact q_needb) | (with_reducible exact r_need1) | ((with_reducible apply r_need0 R hn) <;> first | omega | assumption)); skip)
    | ((with_reducible apply X_if); focus (first | exact rfl | (with_reducible exact n00) | exact kp_y (by assumption) (by decide)); skip)
    | ((with_reducible apply X_nif); focus (first | exact n10 | ((simp (disch := first | assumption | omega | exact ht _ (by omega)) only [lit, n_eq, n_le, kp_0, kp_1, kp_2, kp_3, kp_4, kp_5, kp_6, kp_7, kp_8, kp_9, kp_10, kp_11, kp_12, kp_13, kp_14, kp_15, kp_16, kp_17, kp_18, kp_19, kp_20, kp_21, kp_22, kp_23, kp_24, kp_25, kp_26, kp_27, kp_28, kp_29, kp_30, kp_31, kp_32, kp_33, kp_34]) <;> omega)); skip))
        refine X_V (hj1 _) ?_
        repeat (first
    | with_reducible refine A_VI ?_
    | with_reducible refine A_VV ?_
    | with_reducible refine A_Vif ?_
    | with_reducible refine A_Vs ?_
    | with_reducible refine A_II ?_
    | with_reducible refine A_IV ?_
    | with_reducible refine A_Iif ?_
    | with_reducible refine A_Is ?_
    | with_reducible refine A_Ichk ?_
    | ((with_reducible apply X_bndE); focus (first | ((with_reducible apply r_p R hn) <;> first | omega | assumption)); skip)
    | with_reducible refine X_bnd ?_
    | ((with_reducible apply X_chk); focus (((with_reducible apply r_i hn)) <;> omega); skip)
    | ((with_reducible apply X_I); focus (first | ((with_reducible apply r_look R hn) <;> first | omega | assumption) | (with_reducible exact q_look1) | ((with_reducible apply r_draft) <;> first | omega | exact rfl | exact r_p R hn (by omega) (by assumption)) | ((with_reducible apply r_name_y R hn) <;> first | omega | assumption)); skip)
    | ((with_reducible apply X_V); focus (first | ((with_reducible apply r_take_y R hn) <;> first | omega | assumption | first | exact rfl | (with_reducible exact n00) | exact kp_y (by assumption) (by decide)) | ((with_reducible apply r_take_n R hn) <;> first | omega | assumption | first | exact n10 | ((simp (disch := first | assumption | omega | exact ht _ (by omega)) only [lit, n_eq, n_le, kp_0, kp_1, kp_2, kp_3, kp_4, kp_5, kp_6, kp_7, kp_8, kp_9, kp_10, kp_11, kp_12, kp_13, kp_14, kp_15, kp_16, kp_17, kp_18, kp_19, kp_20, kp_21, kp_22, kp_23, kp_24, kp_25, kp_26, kp_27, kp_28, kp_29, kp_30, kp_31, kp_32, kp_33, kp_34]) <;> omega)) | (with_reducible exact q_takeb) | ((with_reducible apply q_deep_y rfl) <;> omega) | ((with_reducible apply q_deep_n R rfl) <;> first | omega | assumption) | (with_reducible exact q_needb) | (with_reducible exact r_need1) | ((with_reducible apply r_need0 R hn) <;> first | omega | assumption)); skip)
    | ((with_reducible apply X_if); focus (first | exact rfl | (with_reducible exact n00) | exact kp_y (by assumption) (by decide)); skip)
    | ((with_reducible apply X_nif); focus (first | exact n10 | ((simp (disch := first | assumption | omega | exact ht _ (by omega)) only [lit, n_eq, n_le, kp_0, kp_1, kp_2, kp_3, kp_4, kp_5, kp_6, kp_7, kp_8, kp_9, kp_10, kp_11, kp_12, kp_13, kp_14, kp_15, kp_16, kp_17, kp_18, kp_19, kp_20, kp_21, kp_22, kp_23, kp_24, kp_25, kp_26, kp_27, kp_28, kp_29, kp_30, kp_31, kp_32, kp_33, kp_34]) <;> omega)); skip))
        refine X_I x2 ?_
        repeat (first
    | with_reducible refine A_VI ?_
    | with_reducible refine A_VV ?_
    | with_reducible refine A_Vif ?_
    | with_reducible refine A_Vs ?_
    | with_reducible refine A_II ?_
    | with_reducible refine A_IV ?_
    | with_reducible refine A_Iif ?_
    | with_reducible refine A_Is ?_
    | with_reducible refine A_Ichk ?_
    | ((with_reducible apply X_bndE); focus (first | ((with_reducible apply r_p R hn) <;> first | omega | assumption)); skip)
    | with_reducible refine X_bnd ?_
    | ((with_reducible apply X_chk); focus (((with_reducible apply r_i hn)) <;> omega); skip)
    | ((with_reducible apply X_I); focus (first | ((with_reducible apply r_look R hn) <;> first | omega | assumption) | (with_reducible exact q_look1) | ((with_reducible apply r_draft) <;> first | omega | exact rfl | exact r_p R hn (by omega) (by assumption)) | ((with_reducible apply r_name_y R hn) <;> first | omega | assumption)); skip)
    | ((with_reducible apply X_V); focus (first | ((with_reducible apply r_take_y R hn) <;> first | omega | assumption | first | exact rfl | (with_reducible exact n00) | exact kp_y (by assumption) (by decide)) | ((with_reducible apply r_take_n R hn) <;> first | omega | assumption | first | exact n10 | ((simp (disch := first | assumption | omega | exact ht _ (by omega)) only [lit, n_eq, n_le, kp_0, kp_1, kp_2, kp_3, kp_4, kp_5, kp_6, kp_7, kp_8, kp_9, kp_10, kp_11, kp_12, kp_13, kp_14, kp_15, kp_16, kp_17, kp_18, kp_19, kp_20, kp_21, kp_22, kp_23, kp_24, kp_25, kp_26, kp_27, kp_28, kp_29, kp_30, kp_31, kp_32, kp_33, kp_34]) <;> omega)) | (with_reducible exact q_takeb) | ((with_reducible apply q_deep_y rfl) <;> omega) | ((with_reducible apply q_deep_n R rfl) <;> first | omega | assumption) | (with_reducible exact q_needb) | (with_reducible exact r_need1) | ((with_reducible apply r_need0 R hn) <;> first | omega | assumption)); skip)
    | ((with_reducible apply X_if); focus (first | exact rfl | (with_reducible exact n00) | exact kp_y (by assumption) (by decide)); skip)
    | ((with_reducible apply X_nif); focus (first | exact n10 | ((simp (disch := first | assumption | omega | exact ht _ (by omega)) only [lit, n_eq, n_le, kp_0, kp_1, kp_2, kp_3, kp_4, kp_5, kp_6, kp_7, kp_8, kp_9, kp_10, kp_11, kp_12, kp_13, kp_14, kp_15, kp_16, kp_17, kp_18, kp_19, kp_20, kp_21, kp_22, kp_23, kp_24, kp_25, kp_26, kp_27, kp_28, kp_29, kp_30, kp_31, kp_32, kp_33, kp_34]) <;> omega)); skip))
        refine X_V (hj2 _) ?_
        repeat (first
    | with_reducible refine A_VI ?_
    | with_reducible refine A_VV ?_
    | with_reducible refine A_Vif ?_
    | with_reducible refine A_Vs ?_
    | with_reducible refine A_II ?_
    | with_reducible refine A_IV ?_
    | with_reducible refine A_Iif ?_
    | with_reducible refine A_Is ?_
    | with_reducible refine A_Ichk ?_
    | ((with_reducible apply X_bndE); focus (first | ((with_reducible apply r_p R hn) <;> first | omega | assumption)); skip)
    | with_reducible refine X_bnd ?_
    | ((with_reducible apply X_chk); focus (((with_reducible apply r_i hn)) <;> omega); skip)
    | ((with_reducible apply X_I); focus (first | ((with_reducible apply r_look R hn) <;> first | omega | assumption) | (with_reducible exact q_look1) | ((with_reducible apply r_draft) <;> first | omega | exact rfl | exact r_p R hn (by omega) (by assumption)) | ((with_reducible apply r_name_y R hn) <;> first | omega | assumption)); skip)
    | ((with_reducible apply X_V); focus (first | ((with_reducible apply r_take_y R hn) <;> first | omega | assumption | first | exact rfl | (with_reducible exact n00) | exact kp_y (by assumption) (by decide)) | ((with_reducible apply r_take_n R hn) <;> first | omega | assumption | first | exact n10 | ((simp (disch := first | assumption | omega | exact ht _ (by omega)) only [lit, n_eq, n_le, kp_0, kp_1, kp_2, kp_3, kp_4, kp_5, kp_6, kp_7, kp_8, kp_9, kp_10, kp_11, kp_12, kp_13, kp_14, kp_15, kp_16, kp_17, kp_18, kp_19, kp_20, kp_21, kp_22, kp_23, kp_24, kp_25, kp_26, kp_27, kp_28, kp_29, kp_30, kp_31, kp_32, kp_33, kp_34]) <;> omega)) | (with_reducible exact q_takeb) | ((with_reducible apply q_deep_y rfl) <;> omega) | ((with_reducible apply q_deep_n R rfl) <;> first | omega | assumption) | (with_reducible exact q_needb) | (with_reducible exact r_need1) | ((with_reducible apply r_need0 R hn) <;> first | omega | assumption)); skip)
    | ((with_reducible apply X_if); focus (first | exact rfl | (with_reducible exact n00) | exact kp_y (by assumption) (by decide)); skip)
    | ((with_reducible apply X_nif); focus (first | exact n10 | ((simp (disch := first | assumption | omega | exact ht _ (by omega)) only [lit, n_eq, n_le, kp_0, kp_1, kp_2, kp_3, kp_4, kp_5, kp_6, kp_7, kp_8, kp_9, kp_10, kp_11, kp_12, kp_13, kp_14, kp_15, kp_16, kp_17, kp_18, kp_19, kp_20, kp_21, kp_22, kp_23, kp_24, kp_25, kp_26, kp_27, kp_28, kp_29, kp_30, kp_31, kp_32, kp_33, kp_34]) <;> omega)); skip))
        rfl
    · refine OutK_b (q := q') (x := post (one dr 13 (tp q) (nI q) .leaf) ++ post (one i' k' p' v' c')) ?_ rfl ?_ y2 y3
      · rw [← List.append_assoc]
        unfold f_PA_assignment k_PA_assignment_31
        rw [hd1]
        repeat (first
    | ((with_reducible apply X_bndE); focus (first | ((with_reducible apply pz_pp h') <;> omega) | ((with_reducible apply pz_kk h') <;> omega) | (with_reducible exact pz_14)); skip)
    | with_reducible refine X_bnd ?_
    | ((with_reducible apply X_chk); focus (first | exact a1 | exact a2 | exact a3 | exact a4 | exact a5 | ((with_reducible apply pz_i1 h') <;> omega) | ((with_reducible apply pz_i2 h') <;> omega)); skip)
    | ((with_reducible apply X_rfO); focus (first | exact c1 | exact c2 | exact c5); skip)
    | ((with_reducible apply X_I); focus (first | ((with_reducible apply p_kaC h') <;> omega) | ((with_reducible apply p_paC h') <;> omega) | ((with_reducible apply p_skip_y h') <;> first | omega | ((simp (disch := omega) only [lit, n_eq]) <;> omega)) | ((with_reducible apply p_skip_n h') <;> first | omega | ((simp (disch := first | omega | exact Nat.lt_trans (ht _ (by omega)) (by omega)) only [lit, n_eq]) <;> omega))); skip)
    | ((with_reducible apply X_if); focus (first | (with_reducible exact rfl) | (with_reducible exact n00) | ((simp (disch := omega) only [lit, n_eq]) <;> omega)); skip)
    | ((with_reducible apply X_nif); focus (first | exact n10 | ((with_reducible apply p_cnt h') <;> omega) | ((simp (disch := first | omega | exact Nat.lt_trans (ht _ (by omega)) (by omega)) only [lit, n_eq]) <;> omega)); skip)
    | ((with_reducible apply X_T); focus (first | ((with_reducible apply p_take_y h') <;> first | omega | ((simp (disch := omega) only [lit, n_eq]) <;> omega)) | ((with_reducible apply p_limit_y h' rfl) <;> omega)); skip)
    | ((with_reducible apply X_Tt); focus (first | ((with_reducible apply p_take_n h') <;> first | omega | ((simp (disch := first | omega | exact Nat.lt_trans (ht _ (by omega)) (by omega)) only [lit, n_eq]) <;> omega)) | ((with_reducible apply p_limit_n h' rfl) <;> omega)); skip))
        refine X_T hnC ?_
        repeat (first
    | ((with_reducible apply X_bndE); focus (first | ((with_reducible apply pz_pp h') <;> omega) | ((with_reducible apply pz_kk h') <;> omega) | (with_reducible exact pz_14)); skip)
    | with_reducible refine X_bnd ?_
    | ((with_reducible apply X_chk); focus (first | exact a1 | exact a2 | exact a3 | exact a4 | exact a5 | ((with_reducible apply pz_i1 h') <;> omega) | ((with_reducible apply pz_i2 h') <;> omega)); skip)
    | ((with_reducible apply X_rfO); focus (first | exact c1 | exact c2 | exact c5); skip)
    | ((with_reducible apply X_I); focus (first | ((with_reducible apply p_kaC h') <;> omega) | ((with_reducible apply p_paC h') <;> omega) | ((with_reducible apply p_skip_y h') <;> first | omega | ((simp (disch := omega) only [lit, n_eq]) <;> omega)) | ((with_reducible apply p_skip_n h') <;> first | omega | ((simp (disch := first | omega | exact Nat.lt_trans (ht _ (by omega)) (by omega)) only [lit, n_eq]) <;> omega))); skip)
    | ((with_reducible apply X_if); focus (first | (with_reducible exact rfl) | (with_reducible exact n00) | ((simp (disch := omega) only [lit, n_eq]) <;> omega)); skip)
    | ((with_reducible apply X_nif); focus (first | exact n10 | ((with_reducible apply p_cnt h') <;> omega) | ((simp (disch := first | omega | exact Nat.lt_trans (ht _ (by omega)) (by omega)) only [lit, n_eq]) <;> omega)); skip)
    | ((with_reducible apply X_T); focus (first | ((with_reducible apply p_take_y h') <;> first | omega | ((simp (disch := omega) only [lit, n_eq]) <;> omega)) | ((with_reducible apply p_limit_y h' rfl) <;> omega)); skip)
    | ((with_reducible apply X_Tt); focus (first | ((with_reducible apply p_take_n h') <;> first | omega | ((simp (disch := first | omega | exact Nat.lt_trans (ht _ (by omega)) (by omega)) only [lit, n_eq]) <;> omega)) | ((with_reducible apply p_limit_n h' rfl) <;> omega)); skip))
        refine X_T x1 ?_
        repeat (first
    | ((with_reducible apply X_bndE); focus (first | ((with_reducible apply pz_pp h') <;> omega) | ((with_reducible apply pz_kk h') <;> omega) | (with_reducible exact pz_14)); skip)
    | with_reducible refine X_bnd ?_
    | ((with_reducible apply X_chk); focus (first | exact a1 | exact a2 | exact a3 | exact a4 | exact a5 | ((with_reducible apply pz_i1 h') <;> omega) | ((with_reducible apply pz_i2 h') <;> omega)); skip)
    | ((with_reducible apply X_rfO); focus (first | exact c1 | exact c2 | exact c5); skip)
    | ((with_reducible apply X_I); focus (first | ((with_reducible apply p_kaC h') <;> omega) | ((with_reducible apply p_paC h') <;> omega) | ((with_reducible apply p_skip_y h') <;> first | omega | ((simp (disch := omega) only [lit, n_eq]) <;> omega)) | ((with_reducible apply p_skip_n h') <;> first | omega | ((simp (disch := first | omega | exact Nat.lt_trans (ht _ (by omega)) (by omega)) only [lit, n_eq]) <;> omega))); skip)
    | ((with_reducible apply X_if); focus (first | (with_reducible exact rfl) | (with_reducible exact n00) | ((simp (disch := omega) only [lit, n_eq]) <;> omega)); skip)
    | ((with_reducible apply X_nif); focus (first | exact n10 | ((with_reducible apply p_cnt h') <;> omega) | ((simp (disch := first | omega | exact Nat.lt_trans (ht _ (by omega)) (by omega)) only [lit, n_eq]) <;> omega)); skip)
    | ((with_reducible apply X_T); focus (first | ((with_reducible apply p_take_y h') <;> first | omega | ((simp (disch := omega) only [lit, n_eq]) <;> omega)) | ((with_reducible apply p_limit_y h' rfl) <;> omega)); skip)
    | ((with_reducible apply X_Tt); focus (first | ((with_reducible apply p_take_n h') <;> first | omega | ((simp (disch := first | omega | exact Nat.lt_trans (ht _ (by omega)) (by omega)) only [lit, n_eq]) <;> omega)) | ((with_reducible apply p_limit_n h' rfl) <;> omega)); skip))
        rfl
      · unfold f_RM_statement f_RM_named f_RM_sums k_RM_named_217 k_RM_named_108
        simp only [hd1]
        repeat (first
    | with_reducible refine M_VI ?_
    | with_reducible refine M_VV ?_
    | with_reducible refine M_Vif ?_
    | with_reducible refine M_Vs ?_
    | with_reducible refine M_II ?_
    | with_reducible refine M_IV ?_
    | with_reducible refine M_Iif ?_
    | with_reducible refine M_Is ?_
    | with_reducible refine M_Ichk ?_
    | ((with_reducible apply BM_bndE); focus (first | ((with_reducible apply r_p R hn) <;> first | omega | assumption)); skip)
    | with_reducible refine BM_bnd ?_
    | ((with_reducible apply BM_chk); focus (((with_reducible apply r_i hn)) <;> omega); skip)
    | ((with_reducible apply BM_I); focus (first | ((with_reducible apply r_look R hn) <;> first | omega | assumption) | (with_reducible exact q_look1) | ((with_reducible apply r_draft) <;> first | omega | exact rfl | exact r_p R hn (by omega) (by assumption)) | ((with_reducible apply r_db) <;> omega) | ((with_reducible apply r_nb) <;> omega) | ((with_reducible apply r_nameb) <;> omega) | ((with_reducible apply r_name_y R hn) <;> first | omega | assumption) | ((with_reducible apply r_name_n R hn) <;> first | omega | assumption | exact ht _ (by omega))); skip)
    | ((with_reducible apply BM_V); focus (first | ((with_reducible apply r_take_y R hn) <;> first | omega | assumption | first | exact rfl | (with_reducible exact n00) | exact kp_y (by assumption) (by decide)) | ((with_reducible apply r_take_n R hn) <;> first | omega | assumption | first | exact n10 | ((simp (disch := first | assumption | omega | exact ht _ (by omega)) only [lit, n_eq, n_le, kp_0, kp_1, kp_2, kp_3, kp_4, kp_5, kp_6, kp_7, kp_8, kp_9, kp_10, kp_11, kp_12, kp_13, kp_14, kp_15, kp_16, kp_17, kp_18, kp_19, kp_20, kp_21, kp_22, kp_23, kp_24, kp_25, kp_26, kp_27, kp_28, kp_29, kp_30, kp_31, kp_32, kp_33, kp_34]) <;> omega)) | (with_reducible exact q_takeb) | ((with_reducible apply q_deep_y rfl) <;> omega) | ((with_reducible apply q_deep_n R rfl) <;> first | omega | assumption) | ((with_reducible apply q_deepb' rfl) <;> omega) | (with_reducible exact q_needb) | (with_reducible exact r_need1) | ((with_reducible apply r_need0 R hn) <;> first | omega | assumption)); skip)
    | ((with_reducible apply BM_if); focus (first | exact rfl | (with_reducible exact n00) | exact kp_y (by assumption) (by decide)); skip)
    | ((with_reducible apply BM_nif); focus (first | exact n10 | ((simp (disch := first | assumption | omega | exact ht _ (by omega)) only [lit, n_eq, n_le, kp_0, kp_1, kp_2, kp_3, kp_4, kp_5, kp_6, kp_7, kp_8, kp_9, kp_10, kp_11, kp_12, kp_13, kp_14, kp_15, kp_16, kp_17, kp_18, kp_19, kp_20, kp_21, kp_22, kp_23, kp_24, kp_25, kp_26, kp_27, kp_28, kp_29, kp_30, kp_31, kp_32, kp_33, kp_34]) <;> omega)); skip)
    | (with_reducible refine bm_jn ?_ rfl)
    | ((with_reducible apply bm_join); (focus (first | assumption | exact BI_new (by assumption) | exact BI_new (BI_new (by assumption)) | exact BI_new (BI_new (BI_new (by assumption))))); (focus omega); (focus omega); (focus (first | assumption | exact Or.inr ⟨_, by omega, rfl⟩)); intro _ _)
    | exact ⟨_, _, _, (by with_reducible rfl), by omega, by omega, (by first | assumption | exact BI_new (by assumption) | exact BI_new (BI_new (by assumption)) | exact BI_new (BI_new (BI_new (by assumption)))), (by first | exact Or.inl rfl | assumption | exact Or.inr ⟨_, by omega, rfl⟩)⟩)
        refine BM_chk hib ?_
        repeat (first
    | with_reducible refine M_VI ?_
    | with_reducible refine M_VV ?_
    | with_reducible refine M_Vif ?_
    | with_reducible refine M_Vs ?_
    | with_reducible refine M_II ?_
    | with_reducible refine M_IV ?_
    | with_reducible refine M_Iif ?_
    | with_reducible refine M_Is ?_
    | with_reducible refine M_Ichk ?_
    | ((with_reducible apply BM_bndE); focus (first | ((with_reducible apply r_p R hn) <;> first | omega | assumption)); skip)
    | with_reducible refine BM_bnd ?_
    | ((with_reducible apply BM_chk); focus (((with_reducible apply r_i hn)) <;> omega); skip)
    | ((with_reducible apply BM_I); focus (first | ((with_reducible apply r_look R hn) <;> first | omega | assumption) | (with_reducible exact q_look1) | ((with_reducible apply r_draft) <;> first | omega | exact rfl | exact r_p R hn (by omega) (by assumption)) | ((with_reducible apply r_db) <;> omega) | ((with_reducible apply r_nb) <;> omega) | ((with_reducible apply r_nameb) <;> omega) | ((with_reducible apply r_name_y R hn) <;> first | omega | assumption) | ((with_reducible apply r_name_n R hn) <;> first | omega | assumption | exact ht _ (by omega))); skip)
    | ((with_reducible apply BM_V); focus (first | ((with_reducible apply r_take_y R hn) <;> first | omega | assumption | first | exact rfl | (with_reducible exact n00) | exact kp_y (by assumption) (by decide)) | ((with_reducible apply r_take_n R hn) <;> first | omega | assumption | first | exact n10 | ((simp (disch := first | assumption | omega | exact ht _ (by omega)) only [lit, n_eq, n_le, kp_0, kp_1, kp_2, kp_3, kp_4, kp_5, kp_6, kp_7, kp_8, kp_9, kp_10, kp_11, kp_12, kp_13, kp_14, kp_15, kp_16, kp_17, kp_18, kp_19, kp_20, kp_21, kp_22, kp_23, kp_24, kp_25, kp_26, kp_27, kp_28, kp_29, kp_30, kp_31, kp_32, kp_33, kp_34]) <;> omega)) | (with_reducible exact q_takeb) | ((with_reducible apply q_deep_y rfl) <;> omega) | ((with_reducible apply q_deep_n R rfl) <;> first | omega | assumption) | ((with_reducible apply q_deepb' rfl) <;> omega) | (with_reducible exact q_needb) | (with_reducible exact r_need1) | ((with_reducible apply r_need0 R hn) <;> first | omega | assumption)); skip)
    | ((with_reducible apply BM_if); focus (first | exact rfl | (with_reducible exact n00) | exact kp_y (by assumption) (by decide)); skip)
    | ((with_reducible apply BM_nif); focus (first | exact n10 | ((simp (disch := first | assumption | omega | exact ht _ (by omega)) only [lit, n_eq, n_le, kp_0, kp_1, kp_2, kp_3, kp_4, kp_5, kp_6, kp_7, kp_8, kp_9, kp_10, kp_11, kp_12, kp_13, kp_14, kp_15, kp_16, kp_17, kp_18, kp_19, kp_20, kp_21, kp_22, kp_23, kp_24, kp_25, kp_26, kp_27, kp_28, kp_29, kp_30, kp_31, kp_32, kp_33, kp_34]) <;> omega)); skip)
    | (with_reducible refine bm_jn ?_ rfl)
    | ((with_reducible apply bm_join); (focus (first | assumption | exact BI_new (by assumption) | exact BI_new (BI_new (by assumption)) | exact BI_new (BI_new (BI_new (by assumption))))); (focus omega); (focus omega); (focus (first | assumption | exact Or.inr ⟨_, by omega, rfl⟩)); intro _ _)
    | exact ⟨_, _, _, (by with_reducible rfl), by omega, by omega, (by first | assumption | exact BI_new (by assumption) | exact BI_new (BI_new (by assumption)) | exact BI_new (BI_new (BI_new (by assumption)))), (by first | exact Or.inl rfl | assumption | exact Or.inr ⟨_, by omega, rfl⟩)⟩)
        refine BM_nif h40 ?_
        repeat (first
    | with_reducible refine M_VI ?_
    | with_reducible refine M_VV ?_
    | with_reducible refine M_Vif ?_
    | with_reducible refine M_Vs ?_
    | with_reducible refine M_II ?_
    | with_reducible refine M_IV ?_
    | with_reducible refine M_Iif ?_
    | with_reducible refine M_Is ?_
    | with_reducible refine M_Ichk ?_
    | ((with_reducible apply BM_bndE); focus (first | ((with_reducible apply r_p R hn) <;> first | omega | assumption)); skip)
    | with_reducible refine BM_bnd ?_
    | ((with_reducible apply BM_chk); focus (((with_reducible apply r_i hn)) <;> omega); skip)
    | ((with_reducible apply BM_I); focus (first | ((with_reducible apply r_look R hn) <;> first | omega | assumption) | (with_reducible exact q_look1) | ((with_reducible apply r_draft) <;> first | omega | exact rfl | exact r_p R hn (by omega) (by assumption)) | ((with_reducible apply r_db) <;> omega) | ((with_reducible apply r_nb) <;> omega) | ((with_reducible apply r_nameb) <;> omega) | ((with_reducible apply r_name_y R hn) <;> first | omega | assumption) | ((with_reducible apply r_name_n R hn) <;> first | omega | assumption | exact ht _ (by omega))); skip)
    | ((with_reducible apply BM_V); focus (first | ((with_reducible apply r_take_y R hn) <;> first | omega | assumption | first | exact rfl | (with_reducible exact n00) | exact kp_y (by assumption) (by decide)) | ((with_reducible apply r_take_n R hn) <;> first | omega | assumption | first | exact n10 | ((simp (disch := first | assumption | omega | exact ht _ (by omega)) only [lit, n_eq, n_le, kp_0, kp_1, kp_2, kp_3, kp_4, kp_5, kp_6, kp_7, kp_8, kp_9, kp_10, kp_11, kp_12, kp_13, kp_14, kp_15, kp_16, kp_17, kp_18, kp_19, kp_20, kp_21, kp_22, kp_23, kp_24, kp_25, kp_26, kp_27, kp_28, kp_29, kp_30, kp_31, kp_32, kp_33, kp_34]) <;> omega)) | (with_reducible exact q_takeb) | ((with_reducible apply q_deep_y rfl) <;> omega) | ((with_reducible apply q_deep_n R rfl) <;> first | omega | assumption) | ((with_reducible apply q_deepb' rfl) <;> omega) | (with_reducible exact q_needb) | (with_reducible exact r_need1) | ((with_reducible apply r_need0 R hn) <;> first | omega | assumption)); skip)
    | ((with_reducible apply BM_if); focus (first | exact rfl | (with_reducible exact n00) | exact kp_y (by assumption) (by decide)); skip)
    | ((with_reducible apply BM_nif); focus (first | exact n10 | ((simp (disch := first | assumption | omega | exact ht _ (by omega)) only [lit, n_eq, n_le, kp_0, kp_1, kp_2, kp_3, kp_4, kp_5, kp_6, kp_7, kp_8, kp_9, kp_10, kp_11, kp_12, kp_13, kp_14, kp_15, kp_16, kp_17, kp_18, kp_19, kp_20, kp_21, kp_22, kp_23, kp_24, kp_25, kp_26, kp_27, kp_28, kp_29, kp_30, kp_31, kp_32, kp_33, kp_34]) <;> omega)); skip)
    | (with_reducible refine bm_jn ?_ rfl)
    | ((with_reducible apply bm_join); (focus (first | assumption | exact BI_new (by assumption) | exact BI_new (BI_new (by assumption)) | exact BI_new (BI_new (BI_new (by assumption))))); (focus omega); (focus omega); (focus (first | assumption | exact Or.inr ⟨_, by omega, rfl⟩)); intro _ _)
    | exact ⟨_, _, _, (by with_reducible rfl), by omega, by omega, (by first | assumption | exact BI_new (by assumption) | exact BI_new (BI_new (by assumption)) | exact BI_new (BI_new (BI_new (by assumption)))), (by first | exact Or.inl rfl | assumption | exact Or.inr ⟨_, by omega, rfl⟩)⟩)
        refine BM_V (hj1 _) ?_
        repeat (first
    | with_reducible refine M_VI ?_
    | with_reducible refine M_VV ?_
    | with_reducible refine M_Vif ?_
    | with_reducible refine M_Vs ?_
    | with_reducible refine M_II ?_
    | with_reducible refine M_IV ?_
    | with_reducible refine M_Iif ?_
    | with_reducible refine M_Is ?_
    | with_reducible refine M_Ichk ?_
    | ((with_reducible apply BM_bndE); focus (first | ((with_reducible apply r_p R hn) <;> first | omega | assumption)); skip)
    | with_reducible refine BM_bnd ?_
    | ((with_reducible apply BM_chk); focus (((with_reducible apply r_i hn)) <;> omega); skip)
    | ((with_reducible apply BM_I); focus (first | ((with_reducible apply r_look R hn) <;> first | omega | assumption) | (with_reducible exact q_look1) | ((with_reducible apply r_draft) <;> first | omega | exact rfl | exact r_p R hn (by omega) (by assumption)) | ((with_reducible apply r_db) <;> omega) | ((with_reducible apply r_nb) <;> omega) | ((with_reducible apply r_nameb) <;> omega) | ((with_reducible apply r_name_y R hn) <;> first | omega | assumption) | ((with_reducible apply r_name_n R hn) <;> first | omega | assumption | exact ht _ (by omega))); skip)
    | ((with_reducible apply BM_V); focus (first | ((with_reducible apply r_take_y R hn) <;> first | omega | assumption | first | exact rfl | (with_reducible exact n00) | exact kp_y (by assumption) (by decide)) | ((with_reducible apply r_take_n R hn) <;> first | omega | assumption | first | exact n10 | ((simp (disch := first | assumption | omega | exact ht _ (by omega)) only [lit, n_eq, n_le, kp_0, kp_1, kp_2, kp_3, kp_4, kp_5, kp_6, kp_7, kp_8, kp_9, kp_10, kp_11, kp_12, kp_13, kp_14, kp_15, kp_16, kp_17, kp_18, kp_19, kp_20, kp_21, kp_22, kp_23, kp_24, kp_25, kp_26, kp_27, kp_28, kp_29, kp_30, kp_31, kp_32, kp_33, kp_34]) <;> omega)) | (with_reducible exact q_takeb) | ((with_reducible apply q_deep_y rfl) <;> omega) | ((with_reducible apply q_deep_n R rfl) <;> first | omega | assumption) | ((with_reducible apply q_deepb' rfl) <;> omega) | (with_reducible exact q_needb) | (with_reducible exact r_need1) | ((with_reducible apply r_need0 R hn) <;> first | omega | assumption)); skip)
    | ((with_reducible apply BM_if); focus (first | exact rfl | (with_reducible exact n00) | exact kp_y (by assumption) (by decide)); skip)
    | ((with_reducible apply BM_nif); focus (first | exact n10 | ((simp (disch := first | assumption | omega | exact ht _ (by omega)) only [lit, n_eq, n_le, kp_0, kp_1, kp_2, kp_3, kp_4, kp_5, kp_6, kp_7, kp_8, kp_9, kp_10, kp_11, kp_12, kp_13, kp_14, kp_15, kp_16, kp_17, kp_18, kp_19, kp_20, kp_21, kp_22, kp_23, kp_24, kp_25, kp_26, kp_27, kp_28, kp_29, kp_30, kp_31, kp_32, kp_33, kp_34]) <;> omega)); skip)
    | (with_reducible refine bm_jn ?_ rfl)
    | ((with_reducible apply bm_join); (focus (first | assumption | exact BI_new (by assumption) | exact BI_new (BI_new (by assumption)) | exact BI_new (BI_new (BI_new (by assumption))))); (focus omega); (focus omega); (focus (first | assumption | exact Or.inr ⟨_, by omega, rfl⟩)); intro _ _)
    | exact ⟨_, _, _, (by with_reducible rfl), by omega, by omega, (by first | assumption | exact BI_new (by assumption) | exact BI_new (BI_new (by assumption)) | exact BI_new (BI_new (BI_new (by assumption)))), (by first | exact Or.inl rfl | assumption | exact Or.inr ⟨_, by omega, rfl⟩)⟩)
        refine BM_I x2 ?_
        repeat (first
    | with_reducible refine M_VI ?_
    | with_reducible refine M_VV ?_
    | with_reducible refine M_Vif ?_
    | with_reducible refine M_Vs ?_
    | with_reducible refine M_II ?_
    | with_reducible refine M_IV ?_
    | with_reducible refine M_Iif ?_
    | with_reducible refine M_Is ?_
    | with_reducible refine M_Ichk ?_
    | ((with_reducible apply BM_bndE); focus (first | ((with_reducible apply r_p R hn) <;> first | omega | assumption)); skip)
    | with_reducible refine BM_bnd ?_
    | ((with_reducible apply BM_chk); focus (((with_reducible apply r_i hn)) <;> omega); skip)
    | ((with_reducible apply BM_I); focus (first | ((with_reducible apply r_look R hn) <;> first | omega | assumption) | (with_reducible exact q_look1) | ((with_reducible apply r_draft) <;> first | omega | exact rfl | exact r_p R hn (by omega) (by assumption)) | ((with_reducible apply r_db) <;> omega) | ((with_reducible apply r_nb) <;> omega) | ((with_reducible apply r_nameb) <;> omega) | ((with_reducible apply r_name_y R hn) <;> first | omega | assumption) | ((with_reducible apply r_name_n R hn) <;> first | omega | assumption | exact ht _ (by omega))); skip)
    | ((with_reducible apply BM_V); focus (first | ((with_reducible apply r_take_y R hn) <;> first | omega | assumption | first | exact rfl | (with_reducible exact n00) | exact kp_y (by assumption) (by decide)) | ((with_reducible apply r_take_n R hn) <;> first | omega | assumption | first | exact n10 | ((simp (disch := first | assumption | omega | exact ht _ (by omega)) only [lit, n_eq, n_le, kp_0, kp_1, kp_2, kp_3, kp_4, kp_5, kp_6, kp_7, kp_8, kp_9, kp_10, kp_11, kp_12, kp_13, kp_14, kp_15, kp_16, kp_17, kp_18, kp_19, kp_20, kp_21, kp_22, kp_23, kp_24, kp_25, kp_26, kp_27, kp_28, kp_29, kp_30, kp_31, kp_32, kp_33, kp_34]) <;> omega)) | (with_reducible exact q_takeb) | ((with_reducible apply q_deep_y rfl) <;> omega) | ((with_reducible apply q_deep_n R rfl) <;> first | omega | assumption) | ((with_reducible apply q_deepb' rfl) <;> omega) | (with_reducible exact q_needb) | (with_reducible exact r_need1) | ((with_reducible apply r_need0 R hn) <;> first | omega | assumption)); skip)
    | ((with_reducible apply BM_if); focus (first | exact rfl | (with_reducible exact n00) | exact kp_y (by assumption) (by decide)); skip)
    | ((with_reducible apply BM_nif); focus (first | exact n10 | ((simp (disch := first | assumption | omega | exact ht _ (by omega)) only [lit, n_eq, n_le, kp_0, kp_1, kp_2, kp_3, kp_4, kp_5, kp_6, kp_7, kp_8, kp_9, kp_10, kp_11, kp_12, kp_13, kp_14, kp_15, kp_16, kp_17, kp_18, kp_19, kp_20, kp_21, kp_22, kp_23, kp_24, kp_25, kp_26, kp_27, kp_28, kp_29, kp_30, kp_31, kp_32, kp_33, kp_34]) <;> omega)); skip)
    | (with_reducible refine bm_jn ?_ rfl)
    | ((with_reducible apply bm_join); (focus (first | assumption | exact BI_new (by assumption) | exact BI_new (BI_new (by assumption)) | exact BI_new (BI_new (BI_new (by assumption))))); (focus omega); (focus omega); (focus (first | assumption | exact Or.inr ⟨_, by omega, rfl⟩)); intro _ _)
    | exact ⟨_, _, _, (by with_reducible rfl), by omega, by omega, (by first | assumption | exact BI_new (by assumption) | exact BI_new (BI_new (by assumption)) | exact BI_new (BI_new (BI_new (by assumption)))), (by first | exact Or.inl rfl | assumption | exact Or.inr ⟨_, by omega, rfl⟩)⟩)
        refine BM_V (hj2 _) ?_
        have hBI := hb2.2.2.2
        repeat (first
    | with_reducible refine M_VI ?_
    | with_reducible refine M_VV ?_
    | with_reducible refine M_Vif ?_
    | with_reducible refine M_Vs ?_
    | with_reducible refine M_II ?_
    | with_reducible refine M_IV ?_
    | with_reducible refine M_Iif ?_
    | with_reducible refine M_Is ?_
    | with_reducible refine M_Ichk ?_
    | ((with_reducible apply BM_bndE); focus (first | ((with_reducible apply r_p R hn) <;> first | omega | assumption)); skip)
    | with_reducible refine BM_bnd ?_
    | ((with_reducible apply BM_chk); focus (((with_reducible apply r_i hn)) <;> omega); skip)
    | ((with_reducible apply BM_I); focus (first | ((with_reducible apply r_look R hn) <;> first | omega | assumption) | (with_reducible exact q_look1) | ((with_reducible apply r_draft) <;> first | omega | exact rfl | exact r_p R hn (by omega) (by assumption)) | ((with_reducible apply r_db) <;> omega) | ((with_reducible apply r_nb) <;> omega) | ((with_reducible apply r_nameb) <;> omega) | ((with_reducible apply r_name_y R hn) <;> first | omega | assumption) | ((with_reducible apply r_name_n R hn) <;> first | omega | assumption | exact ht _ (by omega))); skip)
    | ((with_reducible apply BM_V); focus (first | ((with_reducible apply r_take_y R hn) <;> first | omega | assumption | first | exact rfl | (with_reducible exact n00) | exact kp_y (by assumption) (by decide)) | ((with_reducible apply r_take_n R hn) <;> first | omega | assumption | first | exact n10 | ((simp (disch := first | assumption | omega | exact ht _ (by omega)) only [lit, n_eq, n_le, kp_0, kp_1, kp_2, kp_3, kp_4, kp_5, kp_6, kp_7, kp_8, kp_9, kp_10, kp_11, kp_12, kp_13, kp_14, kp_15, kp_16, kp_17, kp_18, kp_19, kp_20, kp_21, kp_22, kp_23, kp_24, kp_25, kp_26, kp_27, kp_28, kp_29, kp_30, kp_31, kp_32, kp_33, kp_34]) <;> omega)) | (with_reducible exact q_takeb) | ((with_reducible apply q_deep_y rfl) <;> omega) | ((with_reducible apply q_deep_n R rfl) <;> first | omega | assumption) | ((with_reducible apply q_deepb' rfl) <;> omega) | (with_reducible exact q_needb) | (with_reducible exact r_need1) | ((with_reducible apply r_need0 R hn) <;> first | omega | assumption)); skip)
    | ((with_reducible apply BM_if); focus (first | exact rfl | (with_reducible exact n00) | exact kp_y (by assumption) (by decide)); skip)
    | ((with_reducible apply BM_nif); focus (first | exact n10 | ((simp (disch := first | assumption | omega | exact ht _ (by omega)) only [lit, n_eq, n_le, kp_0, kp_1, kp_2, kp_3, kp_4, kp_5, kp_6, kp_7, kp_8, kp_9, kp_10, kp_11, kp_12, kp_13, kp_14, kp_15, kp_16, kp_17, kp_18, kp_19, kp_20, kp_21, kp_22, kp_23, kp_24, kp_25, kp_26, kp_27, kp_28, kp_29, kp_30, kp_31, kp_32, kp_33, kp_34]) <;> omega)); skip)
    | (with_reducible refine bm_jn ?_ rfl)
    | ((with_reducible apply bm_join); (focus (first | assumption | exact BI_new (by assumption) | exact BI_new (BI_new (by assumption)) | exact BI_new (BI_new (BI_new (by assumption))))); (focus omega); (focus omega); (focus (first | assumption | exact Or.inr ⟨_, by omega, rfl⟩)); intro _ _)
    | exact ⟨_, _, _, (by with_reducible rfl), by omega, by omega, (by first | assumption | exact BI_new (by assumption) | exact BI_new (BI_new (by assumption)) | exact BI_new (BI_new (BI_new (by assumption)))), (by first | exact Or.inl rfl | assumption | exact Or.inr ⟨_, by omega, rfl⟩)⟩)
  · refine OutK_b (q := q') (x := post (one dr 13 (tp q) (nI q) .leaf) ++ y) ?_ rfl ?_ x7 x8
    · rw [← List.append_assoc]
      unfold f_PA_assignment k_PA_assignment_31
      rw [hd1]
      repeat (first
    | ((with_reducible apply X_bndE); focus (first | ((with_reducible apply pz_pp h') <;> omega) | ((with_reducible apply pz_kk h') <;> omega) | (with_reducible exact pz_14)); skip)
    | with_reducible refine X_bnd ?_
    | ((with_reducible apply X_chk); focus (first | exact a1 | exact a2 | exact a3 | exact a4 | exact a5 | ((with_reducible apply pz_i1 h') <;> omega) | ((with_reducible apply pz_i2 h') <;> omega)); skip)
    | ((with_reducible apply X_rfO); focus (first | exact c1 | exact c2 | exact c5); skip)
    | ((with_reducible apply X_I); focus (first | ((with_reducible apply p_kaC h') <;> omega) | ((with_reducible apply p_paC h') <;> omega) | ((with_reducible apply p_skip_y h') <;> first | omega | ((simp (disch := omega) only [lit, n_eq]) <;> omega)) | ((with_reducible apply p_skip_n h') <;> first | omega | ((simp (disch := first | omega | exact Nat.lt_trans (ht _ (by omega)) (by omega)) only [lit, n_eq]) <;> omega))); skip)
    | ((with_reducible apply X_if); focus (first | (with_reducible exact rfl) | (with_reducible exact n00) | ((simp (disch := omega) only [lit, n_eq]) <;> omega)); skip)
    | ((with_reducible apply X_nif); focus (first | exact n10 | ((with_reducible apply p_cnt h') <;> omega) | ((simp (disch := first | omega | exact Nat.lt_trans (ht _ (by omega)) (by omega)) only [lit, n_eq]) <;> omega)); skip)
    | ((with_reducible apply X_T); focus (first | ((with_reducible apply p_take_y h') <;> first | omega | ((simp (disch := omega) only [lit, n_eq]) <;> omega)) | ((with_reducible apply p_limit_y h' rfl) <;> omega)); skip)
    | ((with_reducible apply X_Tt); focus (first | ((with_reducible apply p_take_n h') <;> first | omega | ((simp (disch := first | omega | exact Nat.lt_trans (ht _ (by omega)) (by omega)) only [lit, n_eq]) <;> omega)) | ((with_reducible apply p_limit_n h' rfl) <;> omega)); skip))
      refine X_T hnC ?_
      repeat (first
    | ((with_reducible apply X_bndE); focus (first | ((with_reducible apply pz_pp h') <;> omega) | ((with_reducible apply pz_kk h') <;> omega) | (with_reducible exact pz_14)); skip)
    | with_reducible refine X_bnd ?_
    | ((with_reducible apply X_chk); focus (first | exact a1 | exact a2 | exact a3 | exact a4 | exact a5 | ((with_reducible apply pz_i1 h') <;> omega) | ((with_reducible apply pz_i2 h') <;> omega)); skip)
    | ((with_reducible apply X_rfO); focus (first | exact c1 | exact c2 | exact c5); skip)
    | ((with_reducible apply X_I); focus (first | ((with_reducible apply p_kaC h') <;> omega) | ((with_reducible apply p_paC h') <;> omega) | ((with_reducible apply p_skip_y h') <;> first | omega | ((simp (disch := omega) only [lit, n_eq]) <;> omega)) | ((with_reducible apply p_skip_n h') <;> first | omega | ((simp (disch := first | omega | exact Nat.lt_trans (ht _ (by omega)) (by omega)) only [lit, n_eq]) <;> omega))); skip)
    | ((with_reducible apply X_if); focus (first | (with_reducible exact rfl) | (with_reducible exact n00) | ((simp (disch := omega) only [lit, n_eq]) <;> omega)); skip)
    | ((with_reducible apply X_nif); focus (first | exact n10 | ((with_reducible apply p_cnt h') <;> omega) | ((simp (disch := first | omega | exact Nat.lt_trans (ht _ (by omega)) (by omega)) only [lit, n_eq]) <;> omega)); skip)
    | ((with_reducible apply X_T); focus (first | ((with_reducible apply p_take_y h') <;> first | omega | ((simp (disch := omega) only [lit, n_eq]) <;> omega)) | ((with_reducible apply p_limit_y h' rfl) <;> omega)); skip)
    | ((with_reducible apply X_Tt); focus (first | ((with_reducible apply p_take_n h') <;> first | omega | ((simp (disch := first | omega | exact Nat.lt_trans (ht _ (by omega)) (by omega)) only [lit, n_eq]) <;> omega)) | ((with_reducible apply p_limit_n h' rfl) <;> omega)); skip))
      exact X_Tt x1 rfl
    · unfold f_RM_statement f_RM_named f_RM_sums k_RM_named_217 k_RM_named_108
      simp only [hd1]
      repeat (first
    | with_reducible refine M_VI ?_
    | with_reducible refine M_VV ?_
    | with_reducible refine M_Vif ?_
    | with_reducible refine M_Vs ?_
    | with_reducible refine M_II ?_
    | with_reducible refine M_IV ?_
    | with_reducible refine M_Iif ?_
    | with_reducible refine M_Is ?_
    | with_reducible refine M_Ichk ?_
    | ((with_reducible apply BM_bndE); focus (first | ((with_reducible apply r_p R hn) <;> first | omega | assumption)); skip)
    | with_reducible refine BM_bnd ?_
    | ((with_reducible apply BM_chk); focus (((with_reducible apply r_i hn)) <;> omega); skip)
    | ((with_reducible apply BM_I); focus (first | ((with_reducible apply r_look R hn) <;> first | omega | assumption) | (with_reducible exact q_look1) | ((with_reducible apply r_draft) <;> first | omega | exact rfl | exact r_p R hn (by omega) (by assumption)) | ((with_reducible apply r_db) <;> omega) | ((with_reducible apply r_nb) <;> omega) | ((with_reducible apply r_nameb) <;> omega) | ((with_reducible apply r_name_y R hn) <;> first | omega | assumption) | ((with_reducible apply r_name_n R hn) <;> first | omega | assumption | exact ht _ (by omega))); skip)
    | ((with_reducible apply BM_V); focus (first | ((with_reducible apply r_take_y R hn) <;> first | omega | assumption | first | exact rfl | (with_reducible exact n00) | exact kp_y (by assumption) (by decide)) | ((with_reducible apply r_take_n R hn) <;> first | omega | assumption | first | exact n10 | ((simp (disch := first | assumption | omega | exact ht _ (by omega)) only [lit, n_eq, n_le, kp_0, kp_1, kp_2, kp_3, kp_4, kp_5, kp_6, kp_7, kp_8, kp_9, kp_10, kp_11, kp_12, kp_13, kp_14, kp_15, kp_16, kp_17, kp_18, kp_19, kp_20, kp_21, kp_22, kp_23, kp_24, kp_25, kp_26, kp_27, kp_28, kp_29, kp_30, kp_31, kp_32, kp_33, kp_34]) <;> omega)) | (with_reducible exact q_takeb) | ((with_reducible apply q_deep_y rfl) <;> omega) | ((with_reducible apply q_deep_n R rfl) <;> first | omega | assumption) | ((with_reducible apply q_deepb' rfl) <;> omega) | (with_reducible exact q_needb) | (with_reducible exact r_need1) | ((with_reducible apply r_need0 R hn) <;> first | omega | assumption)); skip)
    | ((with_reducible apply BM_if); focus (first | exact rfl | (with_reducible exact n00) | exact kp_y (by assumption) (by decide)); skip)
    | ((with_reducible apply BM_nif); focus (first | exact n10 | ((simp (disch := first | assumption | omega | exact ht _ (by omega)) only [lit, n_eq, n_le, kp_0, kp_1, kp_2, kp_3, kp_4, kp_5, kp_6, kp_7, kp_8, kp_9, kp_10, kp_11, kp_12, kp_13, kp_14, kp_15, kp_16, kp_17, kp_18, kp_19, kp_20, kp_21, kp_22, kp_23, kp_24, kp_25, kp_26, kp_27, kp_28, kp_29, kp_30, kp_31, kp_32, kp_33, kp_34]) <;> omega)); skip)
    | (with_reducible refine bm_jn ?_ rfl)
    | ((with_reducible apply bm_join); (focus (first | assumption | exact BI_new (by assumption) | exact BI_new (BI_new (by assumption)) | exact BI_new (BI_new (BI_new (by assumption))))); (focus omega); (focus omega); (focus (first | assumption | exact Or.inr ⟨_, by omega, rfl⟩)); intro _ _)
    | exact ⟨_, _, _, (by with_reducible rfl), by omega, by omega, (by first | assumption | exact BI_new (by assumption) | exact BI_new (BI_new (by assumption)) | exact BI_new (BI_new (BI_new (by assumption)))), (by first | exact Or.inl rfl | assumption | exact Or.inr ⟨_, by omega, rfl⟩)⟩)
      refine BM_chk hib ?_
      repeat (first
    | with_reducible refine M_VI ?_
    | with_reducible refine M_VV ?_
    | with_reducible refine M_Vif ?_
    | with_reducible refine M_Vs ?_
    | with_reducible refine M_II ?_
    | with_reducible refine M_IV ?_
    | with_reducible refine M_Iif ?_
    | with_reducible refine M_Is ?_
    | with_reducible refine M_Ichk ?_
    | ((with_reducible apply BM_bndE); focus (first | ((with_reducible apply r_p R hn) <;> first | omega | assumption)); skip)
    | with_reducible refine BM_bnd ?_
    | ((with_reducible apply BM_chk); focus (((with_reducible apply r_i hn)) <;> omega); skip)
    | ((with_reducible apply BM_I); focus (first | ((with_reducible apply r_look R hn) <;> first | omega | assumption) | (with_reducible exact q_look1) | ((with_reducible apply r_draft) <;> first | omega | exact rfl | exact r_p R hn (by omega) (by assumption)) | ((with_reducible apply r_db) <;> omega) | ((with_reducible apply r_nb) <;> omega) | ((with_reducible apply r_nameb) <;> omega) | ((with_reducible apply r_name_y R hn) <;> first | omega | assumption) | ((with_reducible apply r_name_n R hn) <;> first | omega | assumption | exact ht _ (by omega))); skip)
    | ((with_reducible apply BM_V); focus (first | ((with_reducible apply r_take_y R hn) <;> first | omega | assumption | first | exact rfl | (with_reducible exact n00) | exact kp_y (by assumption) (by decide)) | ((with_reducible apply r_take_n R hn) <;> first | omega | assumption | first | exact n10 | ((simp (disch := first | assumption | omega | exact ht _ (by omega)) only [lit, n_eq, n_le, kp_0, kp_1, kp_2, kp_3, kp_4, kp_5, kp_6, kp_7, kp_8, kp_9, kp_10, kp_11, kp_12, kp_13, kp_14, kp_15, kp_16, kp_17, kp_18, kp_19, kp_20, kp_21, kp_22, kp_23, kp_24, kp_25, kp_26, kp_27, kp_28, kp_29, kp_30, kp_31, kp_32, kp_33, kp_34]) <;> omega)) | (with_reducible exact q_takeb) | ((with_reducible apply q_deep_y rfl) <;> omega) | ((with_reducible apply q_deep_n R rfl) <;> first | omega | assumption) | ((with_reducible apply q_deepb' rfl) <;> omega) | (with_reducible exact q_needb) | (with_reducible exact r_need1) | ((with_reducible apply r_need0 R hn) <;> first | omega | assumption)); skip)
    | ((with_reducible apply BM_if); focus (first | exact rfl | (with_reducible exact n00) | exact kp_y (by assumption) (by decide)); skip)
    | ((with_reducible apply BM_nif); focus (first | exact n10 | ((simp (disch := first | assumption | omega | exact ht _ (by omega)) only [lit, n_eq, n_le, kp_0, kp_1, kp_2, kp_3, kp_4, kp_5, kp_6, kp_7, kp_8, kp_9, kp_10, kp_11, kp_12, kp_13, kp_14, kp_15, kp_16, kp_17, kp_18, kp_19, kp_20, kp_21, kp_22, kp_23, kp_24, kp_25, kp_26, kp_27, kp_28, kp_29, kp_30, kp_31, kp_32, kp_33, kp_34]) <;> omega)); skip)
    | (with_reducible refine bm_jn ?_ rfl)
    | ((with_reducible apply bm_join); (focus (first | assumption | exact BI_new (by assumption) | exact BI_new (BI_new (by assumption)) | exact BI_new (BI_new (BI_new (by assumption))))); (focus omega); (focus omega); (focus (first | assumption | exact Or.inr ⟨_, by omega, rfl⟩)); intro _ _)
    | exact ⟨_, _, _, (by with_reducible rfl), by omega, by omega, (by first | assumption | exact BI_new (by assumption) | exact BI_new (BI_new (by assumption)) | exact BI_new (BI_new (BI_new (by assumption)))), (by first | exact Or.inl rfl | assumption | exact Or.inr ⟨_, by omega, rfl⟩)⟩)
      refine BM_nif h40 ?_
      repeat (first
    | with_reducible refine M_VI ?_
    | with_reducible refine M_VV ?_
    | with_reducible refine M_Vif ?_
    | with_reducible refine M_Vs ?_
    | with_reducible refine M_II ?_
    | with_reducible refine M_IV ?_
    | with_reducible refine M_Iif ?_
    | with_reducible refine M_Is ?_
    | with_reducible refine M_Ichk ?_
    | ((with_reducible apply BM_bndE); focus (first | ((with_reducible apply r_p R hn) <;> first | omega | assumption)); skip)
    | with_reducible refine BM_bnd ?_
    | ((with_reducible apply BM_chk); focus (((with_reducible apply r_i hn)) <;> omega); skip)
    | ((with_reducible apply BM_I); focus (first | ((with_reducible apply r_look R hn) <;> first | omega | assumption) | (with_reducible exact q_look1) | ((with_reducible apply r_draft) <;> first | omega | exact rfl | exact r_p R hn (by omega) (by assumption)) | ((with_reducible apply r_db) <;> omega) | ((with_reducible apply r_nb) <;> omega) | ((with_reducible apply r_nameb) <;> omega) | ((with_reducible apply r_name_y R hn) <;> first | omega | assumption) | ((with_reducible apply r_name_n R hn) <;> first | omega | assumption | exact ht _ (by omega))); skip)
    | ((with_reducible apply BM_V); focus (first | ((with_reducible apply r_take_y R hn) <;> first | omega | assumption | first | exact rfl | (with_reducible exact n00) | exact kp_y (by assumption) (by decide)) | ((with_reducible apply r_take_n R hn) <;> first | omega | assumption | first | exact n10 | ((simp (disch := first | assumption | omega | exact ht _ (by omega)) only [lit, n_eq, n_le, kp_0, kp_1, kp_2, kp_3, kp_4, kp_5, kp_6, kp_7, kp_8, kp_9, kp_10, kp_11, kp_12, kp_13, kp_14, kp_15, kp_16, kp_17, kp_18, kp_19, kp_20, kp_21, kp_22, kp_23, kp_24, kp_25, kp_26, kp_27, kp_28, kp_29, kp_30, kp_31, kp_32, kp_33, kp_34]) <;> omega)) | (with_reducible exact q_takeb) | ((with_reducible apply q_deep_y rfl) <;> omega) | ((with_reducible apply q_deep_n R rfl) <;> first | omega | assumption) | ((with_reducible apply q_deepb' rfl) <;> omega) | (with_reducible exact q_needb) | (with_reducible exact r_need1) | ((with_reducible apply r_need0 R hn) <;> first | omega | assumption)); skip)
    | ((with_reducible apply BM_if); focus (first | exact rfl | (with_reducible exact n00) | exact kp_y (by assumption) (by decide)); skip)
    | ((with_reducible apply BM_nif); focus (first | exact n10 | ((simp (disch := first | assumption | omega | exact ht _ (by omega)) only [lit, n_eq, n_le, kp_0, kp_1, kp_2, kp_3, kp_4, kp_5, kp_6, kp_7, kp_8, kp_9, kp_10, kp_11, kp_12, kp_13, kp_14, kp_15, kp_16, kp_17, kp_18, kp_19, kp_20, kp_21, kp_22, kp_23, kp_24, kp_25, kp_26, kp_27, kp_28, kp_29, kp_30, kp_31, kp_32, kp_33, kp_34]) <;> omega)); skip)
    | (with_reducible refine bm_jn ?_ rfl)
    | ((with_reducible apply bm_join); (focus (first | assumption | exact BI_new (by assumption) | exact BI_new (BI_new (by assumption)) | exact BI_new (BI_new (BI_new (by assumption))))); (focus omega); (focus omega); (focus (first | assumption | exact Or.inr ⟨_, by omega, rfl⟩)); intro _ _)
    | exact ⟨_, _, _, (by with_reducible rfl), by omega, by omega, (by first | assumption | exact BI_new (by assumption) | exact BI_new (BI_new (by assumption)) | exact BI_new (BI_new (BI_new (by assumption)))), (by first | exact Or.inl rfl | assumption | exact Or.inr ⟨_, by omega, rfl⟩)⟩)
      refine BM_V (hj1 _) ?_
      repeat (first
    | with_reducible refine M_VI ?_
    | with_reducible refine M_VV ?_
    | with_reducible refine M_Vif ?_
    | with_reducible refine M_Vs ?_
    | with_reducible refine M_II ?_
    | with_reducible refine M_IV ?_
    | with_reducible refine M_Iif ?_
    | with_reducible refine M_Is ?_
    | with_reducible refine M_Ichk ?_
    | ((with_reducible apply BM_bndE); focus (first | ((with_reducible apply r_p R hn) <;> first | omega | assumption)); skip)
    | with_reducible refine BM_bnd ?_
    | ((with_reducible apply BM_chk); focus (((with_reducible apply r_i hn)) <;> omega); skip)
    | ((with_reducible apply BM_I); focus (first | ((with_reducible apply r_look R hn) <;> first | omega | assumption) | (with_reducible exact q_look1) | ((with_reducible apply r_draft) <;> first | omega | exact rfl | exact r_p R hn (by omega) (by assumption)) | ((with_reducible apply r_db) <;> omega) | ((with_reducible apply r_nb) <;> omega) | ((with_reducible apply r_nameb) <;> omega) | ((with_reducible apply r_name_y R hn) <;> first | omega | assumption) | ((with_reducible apply r_name_n R hn) <;> first | omega | assumption | exact ht _ (by omega))); skip)
    | ((with_reducible apply BM_V); focus (first | ((with_reducible apply r_take_y R hn) <;> first | omega | assumption | first | exact rfl | (with_reducible exact n00) | exact kp_y (by assumption) (by decide)) | ((with_reducible apply r_take_n R hn) <;> first | omega | assumption | first | exact n10 | ((simp (disch := first | assumption | omega | exact ht _ (by omega)) only [lit, n_eq, n_le, kp_0, kp_1, kp_2, kp_3, kp_4, kp_5, kp_6, kp_7, kp_8, kp_9, kp_10, kp_11, kp_12, kp_13, kp_14, kp_15, kp_16, kp_17, kp_18, kp_19, kp_20, kp_21, kp_22, kp_23, kp_24, kp_25, kp_26, kp_27, kp_28, kp_29, kp_30, kp_31, kp_32, kp_33, kp_34]) <;> omega)) | (with_reducible exact q_takeb) | ((with_reducible apply q_deep_y rfl) <;> omega) | ((with_reducible apply q_deep_n R rfl) <;> first | omega | assumption) | ((with_reducible apply q_deepb' rfl) <;> omega) | (with_reducible exact q_needb) | (with_reducible exact r_need1) | ((with_reducible apply r_need0 R hn) <;> first | omega | assumption)); skip)
    | ((with_reducible apply BM_if); focus (first | exact rfl | (with_reducible exact n00) | exact kp_y (by assumption) (by decide)); skip)
    | ((with_reducible apply BM_nif); focus (first | exact n10 | ((simp (disch := first | assumption | omega | exact ht _ (by omega)) only [lit, n_eq, n_le, kp_0, kp_1, kp_2, kp_3, kp_4, kp_5, kp_6, kp_7, kp_8, kp_9, kp_10, kp_11, kp_12, kp_13, kp_14, kp_15, kp_16, kp_17, kp_18, kp_19, kp_20, kp_21, kp_22, kp_23, kp_24, kp_25, kp_26, kp_27, kp_28, kp_29, kp_30, kp_31, kp_32, kp_33, kp_34]) <;> omega)); skip)
    | (with_reducible refine bm_jn ?_ rfl)
    | ((with_reducible apply bm_join); (focus (first | assumption | exact BI_new (by assumption) | exact BI_new (BI_new (by assumption)) | exact BI_new (BI_new (BI_new (by assumption))))); (focus omega); (focus omega); (focus (first | assumption | exact Or.inr ⟨_, by omega, rfl⟩)); intro _ _)
    | exact ⟨_, _, _, (by with_reducible rfl), by omega, by omega, (by first | assumption | exact BI_new (by assumption) | exact BI_new (BI_new (by assumption)) | exact BI_new (BI_new (BI_new (by assumption)))), (by first | exact Or.inl rfl | assumption | exact Or.inr ⟨_, by omega, rfl⟩)⟩)
      refine BM_I x2 ?_
      repeat (first
    | with_reducible refine M_VI ?_
    | with_reducible refine M_VV ?_
    | with_reducible refine M_Vif ?_
    | with_reducible refine M_Vs ?_
    | with_reducible refine M_II ?_
    | with_reducible refine M_IV ?_
    | with_reducible refine M_Iif ?_
    | with_reducible refine M_Is ?_
    | with_reducible refine M_Ichk ?_
    | ((with_reducible apply BM_bndE); focus (first | ((with_reducible apply r_p R hn) <;> first | omega | assumption)); skip)
    | with_reducible refine BM_bnd ?_
    | ((with_reducible apply BM_chk); focus (((with_reducible apply r_i hn)) <;> omega); skip)
    | ((with_reducible apply BM_I); focus (first | ((with_reducible apply r_look R hn) <;> first | omega | assumption) | (with_reducible exact q_look1) | ((with_reducible apply r_draft) <;> first | omega | exact rfl | exact r_p R hn (by omega) (by assumption)) | ((with_reducible apply r_db) <;> omega) | ((with_reducible apply r_nb) <;> omega) | ((with_reducible apply r_nameb) <;> omega) | ((with_reducible apply r_name_y R hn) <;> first | omega | assumption) | ((with_reducible apply r_name_n R hn) <;> first | omega | assumption | exact ht _ (by omega))); skip)
    | ((with_reducible apply BM_V); focus (first | ((with_reducible apply r_take_y R hn) <;> first | omega | assumption | first | exact rfl | (with_reducible exact n00) | exact kp_y (by assumption) (by decide)) | ((with_reducible apply r_take_n R hn) <;> first | omega | assumption | first | exact n10 | ((simp (disch := first | assumption | omega | exact ht _ (by omega)) only [lit, n_eq, n_le, kp_0, kp_1, kp_2, kp_3, kp_4, kp_5, kp_6, kp_7, kp_8, kp_9, kp_10, kp_11, kp_12, kp_13, kp_14, kp_15, kp_16, kp_17, kp_18, kp_19, kp_20, kp_21, kp_22, kp_23, kp_24, kp_25, kp_26, kp_27, kp_28, kp_29, kp_30, kp_31, kp_32, kp_33, kp_34]) <;> omega)) | (with_reducible exact q_takeb) | ((with_reducible apply q_deep_y rfl) <;> omega) | ((with_reducible apply q_deep_n R rfl) <;> first | omega | assumption) | ((with_reducible apply q_deepb' rfl) <;> omega) | (with_reducible exact q_needb) | (with_reducible exact r_need1) | ((with_reducible apply r_need0 R hn) <;> first | omega | assumption)); skip)
    | ((with_reducible apply BM_if); focus (first | exact rfl | (with_reducible exact n00) | exact kp_y (by assumption) (by decide)); skip)
    | ((with_reducible apply BM_nif); focus (first | exact n10 | ((simp (disch := first | assumption | omega | exact ht _ (by omega)) only [lit, n_eq, n_le, kp_0, kp_1, kp_2, kp_3, kp_4, kp_5, kp_6, kp_7, kp_8, kp_9, kp_10, kp_11, kp_12, kp_13, kp_14, kp_15, kp_16, kp_17, kp_18, kp_19, kp_20, kp_21, kp_22, kp_23, kp_24, kp_25, kp_26, kp_27, kp_28, kp_29, kp_30, kp_31, kp_32, kp_33, kp_34]) <;> omega)); skip)
    | (with_reducible refine bm_jn ?_ rfl)
    | ((with_reducible apply bm_join); (focus (first | assumption | exact BI_new (by assumption) | exact BI_new (BI_new (by assumption)) | exact BI_new (BI_new (BI_new (by assumption))))); (focus omega); (focus omega); (focus (first | assumption | exact Or.inr ⟨_, by omega, rfl⟩)); intro _ _)
    | exact ⟨_, _, _, (by with_reducible rfl), by omega, by omega, (by first | assumption | exact BI_new (by assumption) | exact BI_new (BI_new (by assumption)) | exact BI_new (BI_new (BI_new (by assumption)))), (by first | exact Or.inl rfl | assumption | exact Or.inr ⟨_, by omega, rfl⟩)⟩)
theorem st_set_b {d lim hm : Nat} {ps : (Nat → Int32 → mh_H → Option (Bool × Int32 × mh_H))} {rs rc rb rs0 rs1 : (Int32 → rm_S → Option (Int32 × rm_S))} (E : EN σ ap dd tt bk bp bv dk dp dv dz n room tk tp tv S N) (hS0 : Sim σ ap dd dk dp dv dz n tk tp S (d + 1) lim hm ps rs0) (hS1 : Sim σ ap dd dk dp dv dz n tk tp S (d + 1) lim hm ps rs1) (hl : 16010 ≤ lim ∧ lim < 25900 ∧ 1 ≤ hm) (hd : d ≤ 60) {flt : Int32} {q : Nat} {ds : List Ent} {dr : Nat} {B : Nat → Nat → Int32} (hI : Inp n tk q ds dr B) (t2 : tk q = 2) (u1 : tk (q + 1) = 20) (u2 : ¬ tk (q + 1 + 1) = 2) : OutK σ ap dd dk dp dv dz n tk tp S flt q ds dr B (lim + 10) (hm + 1) (f_PA_assignment N ps ap (nI d) (pz σ ap dd dk dp dv dz q ds)) (f_RM_statement N rs (f_RM_named N (f_RM_sums N rs0) rs1) rc rb (nI d) (qz S q 0 flt dr B)) := by
  have hI' := hI
  have E' := E
  obtain ⟨⟨i1, i2⟩, i3, i4, i5⟩ := hI
  obtain ⟨h, R, hn, hNN⟩ := E
  have h' := h
  obtain ⟨⟨a1, a2, a3⟩, ⟨a4, a5, a6, a7, a8, a9, a10⟩, ⟨c1, c2⟩, ⟨c4, c5, c6⟩, ⟨c7, c8, c9, c10⟩, -, ⟨e5, e6, e7⟩, e8, -, -, -, -, e9, e10, e11, e12, e13⟩ := h
  have ht : ∀ j, j < n → tk j < 35 := fun j hj => (e9 j hj).2.2.2
  have hb1 : ∀ j, j < n → j < hN σ bk := fun j hj => by omega
  have hb2 : ∀ j, j < n → j < hN σ bp := fun j hj => by omega
  have hd1 : nI d + 1 = nI (d + 1) := n_add d 1
  have q1 := e13 q i1 (by omega)
  have g1 := gd_s i2 (by omega) (by omega)
  have hp := R_3 R i1 i2
  have htq1 := ht (q + 1) q1
  have hb := nb_new (k := 13) (p := tp q) (v := nI q) (show dr < 26000 by omega) i5
  have hw1 : wf n tk tp (one dr 13 (tp q) (nI q) .leaf) := s_first i1 i2 t2 hp _
  have hnC := p_name_y (N := N) (ds := ds) h' i1 (by omega) t2 dr
  have hll : (ds ++ post (one dr 13 (tp q) (nI q) .leaf)).length = ds.length + 1 := by simp [post]
  have hb1 := nb_wrap (k := 5) (p := tp q) (v := 0) hb (by omega)
  have hj1 := fun q' => nb_wrapE (S := S) (N := N) (bad := 0) (flt := flt) (q := q') (k := 5) (p := tp q) (v := 0) hb (by omega)
  have q2 := e13 (q + 1) q1 (by omega)
  have g2 := gd_s g1 (by omega) (by omega)
  have htq2 := ht (q + 1 + 1) q2
  rcases hS1 flt (q + 1 + 1) (ds ++ post (one dr 13 (tp q) (nI q) .leaf)) (dr + 1 + 1) _ ⟨⟨q2, g2⟩, by omega, by omega, hb1.2.2.2⟩ with ⟨q', i', k', p', v', c', dr', B', x1, x2, x3⟩ | ⟨q', y, x1, ⟨v, dr', B', x2, x3, x4, x5, x6⟩, x7, x8⟩
  · have hb' := nb_of x3
    obtain ⟨⟨y1, y2, y3⟩, -, -, -, y0, ⟨y4, y5, y6⟩, y7, y8⟩ := x3
    have hj2 := fun q => nb_joinE (S := S) (N := N) (bad := 0) (flt := flt) (q := q) hb1 hb'
    have hb2 := nb_join hb1 hb'
    have htq' := ht q' y2
    by_cases u4 : tk q' = 19
    · have q4 := e13 q' y2 (by omega)
      have g4 := gd_s y3 (by omega) (by omega)
      refine OutK_y (q := q' + 1) (k := 5) ?_ ?_ (New_of hb2 (by omega) q4 g4 (by omega) (by simp only [app, siz] at *; omega) ⟨by simp [okk, app, kls], by simp, ⟨hp, by simp only [app, siz] at *; omega⟩, wf_app hw1 y7, trivial⟩ (by simp only [app, hgt] at *; omega))
      · unfold f_PA_assignment k_PA_assignment_31
        rw [hd1]
        repeat (first
    | ((with_reducible apply X_bndE); focus (first | ((with_reducible apply pz_pp h') <;> omega) | ((with_reducible apply pz_kk h') <;> omega) | (with_reducible exact pz_14)); skip)
    | with_reducible refine X_bnd ?_
    | ((with_reducible apply X_chk); focus (first | exact a1 | exact a2 | exact a3 | exact a4 | exact a5 | ((with_reducible apply pz_i1 h') <;> omega) | ((with_reducible apply pz_i2 h') <;> omega)); skip)
    | ((with_reducible apply X_rfO); focus (first | exact c1 | exact c2 | exact c5); skip)
    | ((with_reducible apply X_I); focus (first | ((with_reducible apply p_kaC h') <;> omega) | ((with_reducible apply p_paC h') <;> omega) | ((with_reducible apply p_skip_y h') <;> first | omega | ((simp (disch := omega) only [lit, n_eq]) <;> omega)) | ((with_reducible apply p_skip_n h') <;> first | omega | ((simp (disch := first | omega | exact Nat.lt_trans (ht _ (by omega)) (by omega)) only [lit, n_eq]) <;> omega))); skip)
    | ((with_reducible apply X_if); focus (first | (with_reducible exact rfl) | (with_reducible exact n00) | ((simp (disch := omega) only [lit, n_eq]) <;> omega)); skip)
    | ((with_reducible apply X_nif); focus (first | exact n10 | ((with_reducible apply p_cnt h') <;> omega) | ((simp (disch := first | omega | exact Nat.lt_trans (ht _ (by omega)) (by omega)) only [lit, n_eq]) <;> omega)); skip)
    | ((with_reducible apply X_T); focus (first | ((with_reducible apply p_take_y h') <;> first | omega | ((simp (disch := omega) only [lit, n_eq]) <;> omega)) | ((with_reducible apply p_limit_y h' rfl) <;> omega)); skip)
    | ((with_reducible apply X_Tt); focus (first | ((with_reducible apply p_take_n h') <;> first | omega | ((simp (disch := first | omega | exact Nat.lt_trans (ht _ (by omega)) (by omega)) only [lit, n_eq]) <;> omega)) | ((with_reducible apply p_limit_n h' rfl) <;> omega)); skip))
        refine X_T hnC ?_
        repeat (first
    | ((with_reducible apply X_bndE); focus (first | ((with_reducible apply pz_pp h') <;> omega) | ((with_reducible apply pz_kk h') <;> omega) | (with_reducible exact pz_14)); skip)
    | with_reducible refine X_bnd ?_
    | ((with_reducible apply X_chk); focus (first | exact a1 | exact a2 | exact a3 | exact a4 | exact a5 | ((with_reducible apply pz_i1 h') <;> omega) | ((with_reducible apply pz_i2 h') <;> omega)); skip)
    | ((with_reducible apply X_rfO); focus (first | exact c1 | exact c2 | exact c5); skip)
    | ((with_reducible apply X_I); focus (first | ((with_reducible apply p_kaC h') <;> omega) | ((with_reducible apply p_paC h') <;> omega) | ((with_reducible apply p_skip_y h') <;> first | omega | ((simp (disch := omega) only [lit, n_eq]) <;> omega)) | ((with_reducible apply p_skip_n h') <;> first | omega | ((simp (disch := first | omega | exact Nat.lt_trans (ht _ (by omega)) (by omega)) only [lit, n_eq]) <;> omega))); skip)
    | ((with_reducible apply X_if); focus (first | (with_reducible exact rfl) | (with_reducible exact n00) | ((simp (disch := omega) only [lit, n_eq]) <;> omega)); skip)
    | ((with_reducible apply X_nif); focus (first | exact n10 | ((with_reducible apply p_cnt h') <;> omega) | ((simp (disch := first | omega | exact Nat.lt_trans (ht _ (by omega)) (by omega)) only [lit, n_eq]) <;> omega)); skip)
    | ((with_reducible apply X_T); focus (first | ((with_reducible apply p_take_y h') <;> first | omega | ((simp (disch := omega) only [lit, n_eq]) <;> omega)) | ((with_reducible apply p_limit_y h' rfl) <;> omega)); skip)
    | ((with_reducible apply X_Tt); focus (first | ((with_reducible apply p_take_n h') <;> first | omega | ((simp (disch := first | omega | exact Nat.lt_trans (ht _ (by omega)) (by omega)) only [lit, n_eq]) <;> omega)) | ((with_reducible apply p_limit_n h' rfl) <;> omega)); skip))
        refine X_T x1 ?_
        repeat (first
    | ((with_reducible apply X_bndE); focus (first | ((with_reducible apply pz_pp h') <;> omega) | ((with_reducible apply pz_kk h') <;> omega) | (with_reducible exact pz_14)); skip)
    | with_reducible refine X_bnd ?_
    | ((with_reducible apply X_chk); focus (first | exact a1 | exact a2 | exact a3 | exact a4 | exact a5 | ((with_reducible apply pz_i1 h') <;> omega) | ((with_reducible apply pz_i2 h') <;> omega)); skip)
    | ((with_reducible apply X_rfO); focus (first | exact c1 | exact c2 | exact c5); skip)
    | ((with_reducible apply X_I); focus (first | ((with_reducible apply p_kaC h') <;> omega) | ((with_reducible apply p_paC h') <;> omega) | ((with_reducible apply p_skip_y h') <;> first | omega | ((simp (disch := omega) only [lit, n_eq]) <;> omega)) | ((with_reducible apply p_skip_n h') <;> first | omega | ((simp (disch := first | omega | exact Nat.lt_trans (ht _ (by omega)) (by omega)) only [lit, n_eq]) <;> omega))); skip)
    | ((with_reducible apply X_if); focus (first | (with_reducible exact rfl) | (with_reducible exact n00) | ((simp (disch := omega) only [lit, n_eq]) <;> omega)); skip)
    | ((with_reducible apply X_nif); focus (first | exact n10 | ((with_reducible apply p_cnt h') <;> omega) | ((simp (disch := first | omega | exact Nat.lt_trans (ht _ (by omega)) (by omega)) only [lit, n_eq]) <;> omega)); skip)
    | ((with_reducible apply X_T); focus (first | ((with_reducible apply p_take_y h') <;> first | omega | ((simp (disch := omega) only [lit, n_eq]) <;> omega)) | ((with_reducible apply p_limit_y h' rfl) <;> omega)); skip)
    | ((with_reducible apply X_Tt); focus (first | ((with_reducible apply p_take_n h') <;> first | omega | ((simp (disch := first | omega | exact Nat.lt_trans (ht _ (by omega)) (by omega)) only [lit, n_eq]) <;> omega)) | ((with_reducible apply p_limit_n h' rfl) <;> omega)); skip))
        rw [List.append_assoc, ← post_app]; rfl
      · unfold f_RM_statement f_RM_named f_RM_sums k_RM_named_217 k_RM_named_108
        simp only [hd1]
        repeat (first
    | with_reducible refine A_VI ?_
    | with_reducible refine A_VV ?_
    | with_reducible refine A_Vif ?_
    | with_reducible refine A_Vs ?_
    | with_reducible refine A_II ?_
    | with_reducible refine A_IV ?_
    | with_reducible refine A_Iif ?_
    | with_reducible refine A_Is ?_
    | with_reducible refine A_Ichk ?_
    | ((with_reducible apply X_bndE); focus (first | ((with_reducible apply r_p R hn) <;> first | omega | assumption)); skip)
    | with_reducible refine X_bnd ?_
    | ((with_reducible apply X_chk); focus (((with_reducible apply r_i hn)) <;> omega); skip)
    | ((with_reducible apply X_I); focus (first | ((with_reducible apply r_look R hn) <;> first | omega | assumption) | (with_reducible exact q_look1) | ((with_reducible apply r_draft) <;> first | omega | exact rfl | exact r_p R hn (by omega) (by assumption)) | ((with_reducible apply r_name_y R hn) <;> first | omega | assumption)); skip)
    | ((with_reducible apply X_V); focus (first | ((with_reducible apply r_take_y R hn) <;> first | omega | assumption | first | exact rfl | (with_reducible exact n00) | exact kp_y (by assumption) (by decide)) | ((with_reducible apply r_take_n R hn) <;> first | omega | assumption | first | exact n10 | ((simp (disch := first | assumption | omega | exact ht _ (by omega)) only [lit, n_eq, n_le, kp_0, kp_1, kp_2, kp_3, kp_4, kp_5, kp_6, kp_7, kp_8, kp_9, kp_10, kp_11, kp_12, kp_13, kp_14, kp_15, kp_16, kp_17, kp_18, kp_19, kp_20, kp_21, kp_22, kp_23, kp_24, kp_25, kp_26, kp_27, kp_28, kp_29, kp_30, kp_31, kp_32, kp_33, kp_34]) <;> omega)) | (with_reducible exact q_takeb) | ((with_reducible apply q_deep_y rfl) <;> omega) | ((with_reducible apply q_deep_n R rfl) <;> first | omega | assumption) | (with_reducible exact q_needb) | (with_reducible exact r_need1) | ((with_reducible apply r_need0 R hn) <;> first | omega | assumption)); skip)
    | ((with_reducible apply X_if); focus (first | exact rfl | (with_reducible exact n00) | exact kp_y (by assumption) (by decide)); skip)
    | ((with_reducible apply X_nif); focus (first | exact n10 | ((simp (disch := first | assumption | omega | exact ht _ (by omega)) only [lit, n_eq, n_le, kp_0, kp_1, kp_2, kp_3, kp_4, kp_5, kp_6, kp_7, kp_8, kp_9, kp_10, kp_11, kp_12, kp_13, kp_14, kp_15, kp_16, kp_17, kp_18, kp_19, kp_20, kp_21, kp_22, kp_23, kp_24, kp_25, kp_26, kp_27, kp_28, kp_29, kp_30, kp_31, kp_32, kp_33, kp_34]) <;> omega)); skip))
        refine X_V (hj1 _) ?_
        repeat (first
    | with_reducible refine A_VI ?_
    | with_reducible refine A_VV ?_
    | with_reducible refine A_Vif ?_
    | with_reducible refine A_Vs ?_
    | with_reducible refine A_II ?_
    | with_reducible refine A_IV ?_
    | with_reducible refine A_Iif ?_
    | with_reducible refine A_Is ?_
    | with_reducible refine A_Ichk ?_
    | ((with_reducible apply X_bndE); focus (first | ((with_reducible apply r_p R hn) <;> first | omega | assumption)); skip)
    | with_reducible refine X_bnd ?_
    | ((with_reducible apply X_chk); focus (((with_reducible apply r_i hn)) <;> omega); skip)
    | ((with_reducible apply X_I); focus (first | ((with_reducible apply r_look R hn) <;> first | omega | assumption) | (with_reducible exact q_look1) | ((with_reducible apply r_draft) <;> first | omega | exact rfl | exact r_p R hn (by omega) (by assumption)) | ((with_reducible apply r_name_y R hn) <;> first | omega | assumption)); skip)
    | ((with_reducible apply X_V); focus (first | ((with_reducible apply r_take_y R hn) <;> first | omega | assumption | first | exact rfl | (with_reducible exact n00) | exact kp_y (by assumption) (by decide)) | ((with_reducible apply r_take_n R hn) <;> first | omega | assumption | first | exact n10 | ((simp (disch := first | assumption | omega | exact ht _ (by omega)) only [lit, n_eq, n_le, kp_0, kp_1, kp_2, kp_3, kp_4, kp_5, kp_6, kp_7, kp_8, kp_9, kp_10, kp_11, kp_12, kp_13, kp_14, kp_15, kp_16, kp_17, kp_18, kp_19, kp_20, kp_21, kp_22, kp_23, kp_24, kp_25, kp_26, kp_27, kp_28, kp_29, kp_30, kp_31, kp_32, kp_33, kp_34]) <;> omega)) | (with_reducible exact q_takeb) | ((with_reducible apply q_deep_y rfl) <;> omega) | ((with_reducible apply q_deep_n R rfl) <;> first | omega | assumption) | (with_reducible exact q_needb) | (with_reducible exact r_need1) | ((with_reducible apply r_need0 R hn) <;> first | omega | assumption)); skip)
    | ((with_reducible apply X_if); focus (first | exact rfl | (with_reducible exact n00) | exact kp_y (by assumption) (by decide)); skip)
    | ((with_reducible apply X_nif); focus (first | exact n10 | ((simp (disch := first | assumption | omega | exact ht _ (by omega)) only [lit, n_eq, n_le, kp_0, kp_1, kp_2, kp_3, kp_4, kp_5, kp_6, kp_7, kp_8, kp_9, kp_10, kp_11, kp_12, kp_13, kp_14, kp_15, kp_16, kp_17, kp_18, kp_19, kp_20, kp_21, kp_22, kp_23, kp_24, kp_25, kp_26, kp_27, kp_28, kp_29, kp_30, kp_31, kp_32, kp_33, kp_34]) <;> omega)); skip))
        refine X_I x2 ?_
        repeat (first
    | with_reducible refine A_VI ?_
    | with_reducible refine A_VV ?_
    | with_reducible refine A_Vif ?_
    | with_reducible refine A_Vs ?_
    | with_reducible refine A_II ?_
    | with_reducible refine A_IV ?_
    | with_reducible refine A_Iif ?_
    | with_reducible refine A_Is ?_
    | with_reducible refine A_Ichk ?_
    | ((with_reducible apply X_bndE); focus (first | ((with_reducible apply r_p R hn) <;> first | omega | assumption)); skip)
    | with_reducible refine X_bnd ?_
    | ((with_reducible apply X_chk); focus (((with_reducible apply r_i hn)) <;> omega); skip)
    | ((with_reducible apply X_I); focus (first | ((with_reducible apply r_look R hn) <;> first | omega | assumption) | (with_reducible exact q_look1) | ((with_reducible apply r_draft) <;> first | omega | exact rfl | exact r_p R hn (by omega) (by assumption)) | ((with_reducible apply r_name_y R hn) <;> first | omega | assumption)); skip)
    | ((with_reducible apply X_V); focus (first | ((with_reducible apply r_take_y R hn) <;> first | omega | assumption | first | exact rfl | (with_reducible exact n00) | exact kp_y (by assumption) (by decide)) | ((with_reducible apply r_take_n R hn) <;> first | omega | assumption | first | exact n10 | ((simp (disch := first | assumption | omega | exact ht _ (by omega)) only [lit, n_eq, n_le, kp_0, kp_1, kp_2, kp_3, kp_4, kp_5, kp_6, kp_7, kp_8, kp_9, kp_10, kp_11, kp_12, kp_13, kp_14, kp_15, kp_16, kp_17, kp_18, kp_19, kp_20, kp_21, kp_22, kp_23, kp_24, kp_25, kp_26, kp_27, kp_28, kp_29, kp_30, kp_31, kp_32, kp_33, kp_34]) <;> omega)) | (with_reducible exact q_takeb) | ((with_reducible apply q_deep_y rfl) <;> omega) | ((with_reducible apply q_deep_n R rfl) <;> first | omega | assumption) | (with_reducible exact q_needb) | (with_reducible exact r_need1) | ((with_reducible apply r_need0 R hn) <;> first | omega | assumption)); skip)
    | ((with_reducible apply X_if); focus (first | exact rfl | (with_reducible exact n00) | exact kp_y (by assumption) (by decide)); skip)
    | ((with_reducible apply X_nif); focus (first | exact n10 | ((simp (disch := first | assumption | omega | exact ht _ (by omega)) only [lit, n_eq, n_le, kp_0, kp_1, kp_2, kp_3, kp_4, kp_5, kp_6, kp_7, kp_8, kp_9, kp_10, kp_11, kp_12, kp_13, kp_14, kp_15, kp_16, kp_17, kp_18, kp_19, kp_20, kp_21, kp_22, kp_23, kp_24, kp_25, kp_26, kp_27, kp_28, kp_29, kp_30, kp_31, kp_32, kp_33, kp_34]) <;> omega)); skip))
        refine X_V (hj2 _) ?_
        repeat (first
    | with_reducible refine A_VI ?_
    | with_reducible refine A_VV ?_
    | with_reducible refine A_Vif ?_
    | with_reducible refine A_Vs ?_
    | with_reducible refine A_II ?_
    | with_reducible refine A_IV ?_
    | with_reducible refine A_Iif ?_
    | with_reducible refine A_Is ?_
    | with_reducible refine A_Ichk ?_
    | ((with_reducible apply X_bndE); focus (first | ((with_reducible apply r_p R hn) <;> first | omega | assumption)); skip)
    | with_reducible refine X_bnd ?_
    | ((with_reducible apply X_chk); focus (((with_reducible apply r_i hn)) <;> omega); skip)
    | ((with_reducible apply X_I); focus (first | ((with_reducible apply r_look R hn) <;> first | omega | assumption) | (with_reducible exact q_look1) | ((with_reducible apply r_draft) <;> first | omega | exact rfl | exact r_p R hn (by omega) (by assumption)) | ((with_reducible apply r_name_y R hn) <;> first | omega | assumption)); skip)
    | ((with_reducible apply X_V); focus (first | ((with_reducible apply r_take_y R hn) <;> first | omega | assumption | first | exact rfl | (with_reducible exact n00) | exact kp_y (by assumption) (by decide)) | ((with_reducible apply r_take_n R hn) <;> first | omega | assumption | first | exact n10 | ((simp (disch := first | assumption | omega | exact ht _ (by omega)) only [lit, n_eq, n_le, kp_0, kp_1, kp_2, kp_3, kp_4, kp_5, kp_6, kp_7, kp_8, kp_9, kp_10, kp_11, kp_12, kp_13, kp_14, kp_15, kp_16, kp_17, kp_18, kp_19, kp_20, kp_21, kp_22, kp_23, kp_24, kp_25, kp_26, kp_27, kp_28, kp_29, kp_30, kp_31, kp_32, kp_33, kp_34]) <;> omega)) | (with_reducible exact q_takeb) | ((with_reducible apply q_deep_y rfl) <;> omega) | ((with_reducible apply q_deep_n R rfl) <;> first | omega | assumption) | (with_reducible exact q_needb) | (with_reducible exact r_need1) | ((with_reducible apply r_need0 R hn) <;> first | omega | assumption)); skip)
    | ((with_reducible apply X_if); focus (first | exact rfl | (with_reducible exact n00) | exact kp_y (by assumption) (by decide)); skip)
    | ((with_reducible apply X_nif); focus (first | exact n10 | ((simp (disch := first | assumption | omega | exact ht _ (by omega)) only [lit, n_eq, n_le, kp_0, kp_1, kp_2, kp_3, kp_4, kp_5, kp_6, kp_7, kp_8, kp_9, kp_10, kp_11, kp_12, kp_13, kp_14, kp_15, kp_16, kp_17, kp_18, kp_19, kp_20, kp_21, kp_22, kp_23, kp_24, kp_25, kp_26, kp_27, kp_28, kp_29, kp_30, kp_31, kp_32, kp_33, kp_34]) <;> omega)); skip))
        rfl
    · refine OutK_b (q := q') (x := post (one dr 13 (tp q) (nI q) .leaf) ++ post (one i' k' p' v' c')) ?_ rfl ?_ y2 y3
      · rw [← List.append_assoc]
        unfold f_PA_assignment k_PA_assignment_31
        rw [hd1]
        repeat (first
    | ((with_reducible apply X_bndE); focus (first | ((with_reducible apply pz_pp h') <;> omega) | ((with_reducible apply pz_kk h') <;> omega) | (with_reducible exact pz_14)); skip)
    | with_reducible refine X_bnd ?_
    | ((with_reducible apply X_chk); focus (first | exact a1 | exact a2 | exact a3 | exact a4 | exact a5 | ((with_reducible apply pz_i1 h') <;> omega) | ((with_reducible apply pz_i2 h') <;> omega)); skip)
    | ((with_reducible apply X_rfO); focus (first | exact c1 | exact c2 | exact c5); skip)
    | ((with_reducible apply X_I); focus (first | ((with_reducible apply p_kaC h') <;> omega) | ((with_reducible apply p_paC h') <;> omega) | ((with_reducible apply p_skip_y h') <;> first | omega | ((simp (disch := omega) only [lit, n_eq]) <;> omega)) | ((with_reducible apply p_skip_n h') <;> first | omega | ((simp (disch := first | omega | exact Nat.lt_trans (ht _ (by omega)) (by omega)) only [lit, n_eq]) <;> omega))); skip)
    | ((with_reducible apply X_if); focus (first | (with_reducible exact rfl) | (with_reducible exact n00) | ((simp (disch := omega) only [lit, n_eq]) <;> omega)); skip)
    | ((with_reducible apply X_nif); focus (first | exact n10 | ((with_reducible apply p_cnt h') <;> omega) | ((simp (disch := first | omega | exact Nat.lt_trans (ht _ (by omega)) (by omega)) only [lit, n_eq]) <;> omega)); skip)
    | ((with_reducible apply X_T); focus (first | ((with_reducible apply p_take_y h') <;> first | omega | ((simp (disch := omega) only [lit, n_eq]) <;> omega)) | ((with_reducible apply p_limit_y h' rfl) <;> omega)); skip)
    | ((with_reducible apply X_Tt); focus (first | ((with_reducible apply p_take_n h') <;> first | omega | ((simp (disch := first | omega | exact Nat.lt_trans (ht _ (by omega)) (by omega)) only [lit, n_eq]) <;> omega)) | ((with_reducible apply p_limit_n h' rfl) <;> omega)); skip))
        refine X_T hnC ?_
        repeat (first
    | ((with_reducible apply X_bndE); focus (first | ((with_reducible apply pz_pp h') <;> omega) | ((with_reducible apply pz_kk h') <;> omega) | (with_reducible exact pz_14)); skip)
    | with_reducible refine X_bnd ?_
    | ((with_reducible apply X_chk); focus (first | exact a1 | exact a2 | exact a3 | exact a4 | exact a5 | ((with_reducible apply pz_i1 h') <;> omega) | ((with_reducible apply pz_i2 h') <;> omega)); skip)
    | ((with_reducible apply X_rfO); focus (first | exact c1 | exact c2 | exact c5); skip)
    | ((with_reducible apply X_I); focus (first | ((with_reducible apply p_kaC h') <;> omega) | ((with_reducible apply p_paC h') <;> omega) | ((with_reducible apply p_skip_y h') <;> first | omega | ((simp (disch := omega) only [lit, n_eq]) <;> omega)) | ((with_reducible apply p_skip_n h') <;> first | omega | ((simp (disch := first | omega | exact Nat.lt_trans (ht _ (by omega)) (by omega)) only [lit, n_eq]) <;> omega))); skip)
    | ((with_reducible apply X_if); focus (first | (with_reducible exact rfl) | (with_reducible exact n00) | ((simp (disch := omega) only [lit, n_eq]) <;> omega)); skip)
    | ((with_reducible apply X_nif); focus (first | exact n10 | ((with_reducible apply p_cnt h') <;> omega) | ((simp (disch := first | omega | exact Nat.lt_trans (ht _ (by omega)) (by omega)) only [lit, n_eq]) <;> omega)); skip)
    | ((with_reducible apply X_T); focus (first | ((with_reducible apply p_take_y h') <;> first | omega | ((simp (disch := omega) only [lit, n_eq]) <;> omega)) | ((with_reducible apply p_limit_y h' rfl) <;> omega)); skip)
    | ((with_reducible apply X_Tt); focus (first | ((with_reducible apply p_take_n h') <;> first | omega | ((simp (disch := first | omega | exact Nat.lt_trans (ht _ (by omega)) (by omega)) only [lit, n_eq]) <;> omega)) | ((with_reducible apply p_limit_n h' rfl) <;> omega)); skip))
        refine X_T x1 ?_
        repeat (first
    | ((with_reducible apply X_bndE); focus (first | ((with_reducible apply pz_pp h') <;> omega) | ((with_reducible apply pz_kk h') <;> omega) | (with_reducible exact pz_14)); skip)
    | with_reducible refine X_bnd ?_
    | ((with_reducible apply X_chk); focus (first | exact a1 | exact a2 | exact a3 | exact a4 | exact a5 | ((with_reducible apply pz_i1 h') <;> omega) | ((with_reducible apply pz_i2 h') <;> omega)); skip)
    | ((with_reducible apply X_rfO); focus (first | exact c1 | exact c2 | exact c5); skip)
    | ((with_reducible apply X_I); focus (first | ((with_reducible apply p_kaC h') <;> omega) | ((with_reducible apply p_paC h') <;> omega) | ((with_reducible apply p_skip_y h') <;> first | omega | ((simp (disch := omega) only [lit, n_eq]) <;> omega)) | ((with_reducible apply p_skip_n h') <;> first | omega | ((simp (disch := first | omega | exact Nat.lt_trans (ht _ (by omega)) (by omega)) only [lit, n_eq]) <;> omega))); skip)
    | ((with_reducible apply X_if); focus (first | (with_reducible exact rfl) | (with_reducible exact n00) | ((simp (disch := omega) only [lit, n_eq]) <;> omega)); skip)
    | ((with_reducible apply X_nif); focus (first | exact n10 | ((with_reducible apply p_cnt h') <;> omega) | ((simp (disch := first | omega | exact Nat.lt_trans (ht _ (by omega)) (by omega)) only [lit, n_eq]) <;> omega)); skip)
    | ((with_reducible apply X_T); focus (first | ((with_reducible apply p_take_y h') <;> first | omega | ((simp (disch := omega) only [lit, n_eq]) <;> omega)) | ((with_reducible apply p_limit_y h' rfl) <;> omega)); skip)
    | ((with_reducible apply X_Tt); focus (first | ((with_reducible apply p_take_n h') <;> first | omega | ((simp (disch := first | omega | exact Nat.lt_trans (ht _ (by omega)) (by omega)) only [lit, n_eq]) <;> omega)) | ((with_reducible apply p_limit_n h' rfl) <;> omega)); skip))
        rfl
      · unfold f_RM_statement f_RM_named f_RM_sums k_RM_named_217 k_RM_named_108
        simp only [hd1]
        repeat (first
    | with_reducible refine M_VI ?_
    | with_reducible refine M_VV ?_
    | with_reducible refine M_Vif ?_
    | with_reducible refine M_Vs ?_
    | with_reducible refine M_II ?_
    | with_reducible refine M_IV ?_
    | with_reducible refine M_Iif ?_
    | with_reducible refine M_Is ?_
    | with_reducible refine M_Ichk ?_
    | ((with_reducible apply BM_bndE); focus (first | ((with_reducible apply r_p R hn) <;> first | omega | assumption)); skip)
    | with_reducible refine BM_bnd ?_
    | ((with_reducible apply BM_chk); focus (((with_reducible apply r_i hn)) <;> omega); skip)
    | ((with_reducible apply BM_I); focus (first | ((with_reducible apply r_look R hn) <;> first | omega | assumption) | (with_reducible exact q_look1) | ((with_reducible apply r_draft) <;> first | omega | exact rfl | exact r_p R hn (by omega) (by assumption)) | ((with_reducible apply r_db) <;> omega) | ((with_reducible apply r_nb) <;> omega) | ((with_reducible apply r_nameb) <;> omega) | ((with_reducible apply r_name_y R hn) <;> first | omega | assumption) | ((with_reducible apply r_name_n R hn) <;> first | omega | assumption | exact ht _ (by omega))); skip)
    | ((with_reducible apply BM_V); focus (first | ((with_reducible apply r_take_y R hn) <;> first | omega | assumption | first | exact rfl | (with_reducible exact n00) | exact kp_y (by assumption) (by decide)) | ((with_reducible apply r_take_n R hn) <;> first | omega | assumption | first | exact n10 | ((simp (disch := first | assumption | omega | exact ht _ (by omega)) only [lit, n_eq, n_le, kp_0, kp_1, kp_2, kp_3, kp_4, kp_5, kp_6, kp_7, kp_8, kp_9, kp_10, kp_11, kp_12, kp_13, kp_14, kp_15, kp_16, kp_17, kp_18, kp_19, kp_20, kp_21, kp_22, kp_23, kp_24, kp_25, kp_26, kp_27, kp_28, kp_29, kp_30, kp_31, kp_32, kp_33, kp_34]) <;> omega)) | (with_reducible exact q_takeb) | ((with_reducible apply q_deep_y rfl) <;> omega) | ((with_reducible apply q_deep_n R rfl) <;> first | omega | assumption) | ((with_reducible apply q_deepb' rfl) <;> omega) | (with_reducible exact q_needb) | (with_reducible exact r_need1) | ((with_reducible apply r_need0 R hn) <;> first | omega | assumption)); skip)
    | ((with_reducible apply BM_if); focus (first | exact rfl | (with_reducible exact n00) | exact kp_y (by assumption) (by decide)); skip)
    | ((with_reducible apply BM_nif); focus (first | exact n10 | ((simp (disch := first | assumption | omega | exact ht _ (by omega)) only [lit, n_eq, n_le, kp_0, kp_1, kp_2, kp_3, kp_4, kp_5, kp_6, kp_7, kp_8, kp_9, kp_10, kp_11, kp_12, kp_13, kp_14, kp_15, kp_16, kp_17, kp_18, kp_19, kp_20, kp_21, kp_22, kp_23, kp_24, kp_25, kp_26, kp_27, kp_28, kp_29, kp_30, kp_31, kp_32, kp_33, kp_34]) <;> omega)); skip)
    | (with_reducible refine bm_jn ?_ rfl)
    | ((with_reducible apply bm_join); (focus (first | assumption | exact BI_new (by assumption) | exact BI_new (BI_new (by assumption)) | exact BI_new (BI_new (BI_new (by assumption))))); (focus omega); (focus omega); (focus (first | assumption | exact Or.inr ⟨_, by omega, rfl⟩)); intro _ _)
    | exact ⟨_, _, _, (by with_reducible rfl), by omega, by omega, (by first | assumption | exact BI_new (by assumption) | exact BI_new (BI_new (by assumption)) | exact BI_new (BI_new (BI_new (by assumption)))), (by first | exact Or.inl rfl | assumption | exact Or.inr ⟨_, by omega, rfl⟩)⟩)
        refine BM_V (hj1 _) ?_
        repeat (first
    | with_reducible refine M_VI ?_
    | with_reducible refine M_VV ?_
    | with_reducible refine M_Vif ?_
    | with_reducible refine M_Vs ?_
    | with_reducible refine M_II ?_
    | with_reducible refine M_IV ?_
    | with_reducible refine M_Iif ?_
    | with_reducible refine M_Is ?_
    | with_reducible refine M_Ichk ?_
    | ((with_reducible apply BM_bndE); focus (first | ((with_reducible apply r_p R hn) <;> first | omega | assumption)); skip)
    | with_reducible refine BM_bnd ?_
    | ((with_reducible apply BM_chk); focus (((with_reducible apply r_i hn)) <;> omega); skip)
    | ((with_reducible apply BM_I); focus (first | ((with_reducible apply r_look R hn) <;> first | omega | assumption) | (with_reducible exact q_look1) | ((with_reducible apply r_draft) <;> first | omega | exact rfl | exact r_p R hn (by omega) (by assumption)) | ((with_reducible apply r_db) <;> omega) | ((with_reducible apply r_nb) <;> omega) | ((with_reducible apply r_nameb) <;> omega) | ((with_reducible apply r_name_y R hn) <;> first | omega | assumption) | ((with_reducible apply r_name_n R hn) <;> first | omega | assumption | exact ht _ (by omega))); skip)
    | ((with_reducible apply BM_V); focus (first | ((with_reducible apply r_take_y R hn) <;> first | omega | assumption | first | exact rfl | (with_reducible exact n00) | exact kp_y (by assumption) (by decide)) | ((with_reducible apply r_take_n R hn) <;> first | omega | assumption | first | exact n10 | ((simp (disch := first | assumption | omega | exact ht _ (by omega)) only [lit, n_eq, n_le, kp_0, kp_1, kp_2, kp_3, kp_4, kp_5, kp_6, kp_7, kp_8, kp_9, kp_10, kp_11, kp_12, kp_13, kp_14, kp_15, kp_16, kp_17, kp_18, kp_19, kp_20, kp_21, kp_22, kp_23, kp_24, kp_25, kp_26, kp_27, kp_28, kp_29, kp_30, kp_31, kp_32, kp_33, kp_34]) <;> omega)) | (with_reducible exact q_takeb) | ((with_reducible apply q_deep_y rfl) <;> omega) | ((with_reducible apply q_deep_n R rfl) <;> first | omega | assumption) | ((with_reducible apply q_deepb' rfl) <;> omega) | (with_reducible exact q_needb) | (with_reducible exact r_need1) | ((with_reducible apply r_need0 R hn) <;> first | omega | assumption)); skip)
    | ((with_reducible apply BM_if); focus (first | exact rfl | (with_reducible exact n00) | exact kp_y (by assumption) (by decide)); skip)
    | ((with_reducible apply BM_nif); focus (first | exact n10 | ((simp (disch := first | assumption | omega | exact ht _ (by omega)) only [lit, n_eq, n_le, kp_0, kp_1, kp_2, kp_3, kp_4, kp_5, kp_6, kp_7, kp_8, kp_9, kp_10, kp_11, kp_12, kp_13, kp_14, kp_15, kp_16, kp_17, kp_18, kp_19, kp_20, kp_21, kp_22, kp_23, kp_24, kp_25, kp_26, kp_27, kp_28, kp_29, kp_30, kp_31, kp_32, kp_33, kp_34]) <;> omega)); skip)
    | (with_reducible refine bm_jn ?_ rfl)
    | ((with_reducible apply bm_join); (focus (first | assumption | exact BI_new (by assumption) | exact BI_new (BI_new (by assumption)) | exact BI_new (BI_new (BI_new (by assumption))))); (focus omega); (focus omega); (focus (first | assumption | exact Or.inr ⟨_, by omega, rfl⟩)); intro _ _)
    | exact ⟨_, _, _, (by with_reducible rfl), by omega, by omega, (by first | assumption | exact BI_new (by assumption) | exact BI_new (BI_new (by assumption)) | exact BI_new (BI_new (BI_new (by assumption)))), (by first | exact Or.inl rfl | assumption | exact Or.inr ⟨_, by omega, rfl⟩)⟩)
        refine BM_I x2 ?_
        repeat (first
    | with_reducible refine M_VI ?_
    | with_reducible refine M_VV ?_
    | with_reducible refine M_Vif ?_
    | with_reducible refine M_Vs ?_
    | with_reducible refine M_II ?_
    | with_reducible refine M_IV ?_
    | with_reducible refine M_Iif ?_
    | with_reducible refine M_Is ?_
    | with_reducible refine M_Ichk ?_
    | ((with_reducible apply BM_bndE); focus (first | ((with_reducible apply r_p R hn) <;> first | omega | assumption)); skip)
    | with_reducible refine BM_bnd ?_
    | ((with_reducible apply BM_chk); focus (((with_reducible apply r_i hn)) <;> omega); skip)
    | ((with_reducible apply BM_I); focus (first | ((with_reducible apply r_look R hn) <;> first | omega | assumption) | (with_reducible exact q_look1) | ((with_reducible apply r_draft) <;> first | omega | exact rfl | exact r_p R hn (by omega) (by assumption)) | ((with_reducible apply r_db) <;> omega) | ((with_reducible apply r_nb) <;> omega) | ((with_reducible apply r_nameb) <;> omega) | ((with_reducible apply r_name_y R hn) <;> first | omega | assumption) | ((with_reducible apply r_name_n R hn) <;> first | omega | assumption | exact ht _ (by omega))); skip)
    | ((with_reducible apply BM_V); focus (first | ((with_reducible apply r_take_y R hn) <;> first | omega | assumption | first | exact rfl | (with_reducible exact n00) | exact kp_y (by assumption) (by decide)) | ((with_reducible apply r_take_n R hn) <;> first | omega | assumption | first | exact n10 | ((simp (disch := first | assumption | omega | exact ht _ (by omega)) only [lit, n_eq, n_le, kp_0, kp_1, kp_2, kp_3, kp_4, kp_5, kp_6, kp_7, kp_8, kp_9, kp_10, kp_11, kp_12, kp_13, kp_14, kp_15, kp_16, kp_17, kp_18, kp_19, kp_20, kp_21, kp_22, kp_23, kp_24, kp_25, kp_26, kp_27, kp_28, kp_29, kp_30, kp_31, kp_32, kp_33, kp_34]) <;> omega)) | (with_reducible exact q_takeb) | ((with_reducible apply q_deep_y rfl) <;> omega) | ((with_reducible apply q_deep_n R rfl) <;> first | omega | assumption) | ((with_reducible apply q_deepb' rfl) <;> omega) | (with_reducible exact q_needb) | (with_reducible exact r_need1) | ((with_reducible apply r_need0 R hn) <;> first | omega | assumption)); skip)
    | ((with_reducible apply BM_if); focus (first | exact rfl | (with_reducible exact n00) | exact kp_y (by assumption) (by decide)); skip)
    | ((with_reducible apply BM_nif); focus (first | exact n10 | ((simp (disch := first | assumption | omega | exact ht _ (by omega)) only [lit, n_eq, n_le, kp_0, kp_1, kp_2, kp_3, kp_4, kp_5, kp_6, kp_7, kp_8, kp_9, kp_10, kp_11, kp_12, kp_13, kp_14, kp_15, kp_16, kp_17, kp_18, kp_19, kp_20, kp_21, kp_22, kp_23, kp_24, kp_25, kp_26, kp_27, kp_28, kp_29, kp_30, kp_31, kp_32, kp_33, kp_34]) <;> omega)); skip)
    | (with_reducible refine bm_jn ?_ rfl)
    | ((with_reducible apply bm_join); (focus (first | assumption | exact BI_new (by assumption) | exact BI_new (BI_new (by assumption)) | exact BI_new (BI_new (BI_new (by assumption))))); (focus omega); (focus omega); (focus (first | assumption | exact Or.inr ⟨_, by omega, rfl⟩)); intro _ _)
    | exact ⟨_, _, _, (by with_reducible rfl), by omega, by omega, (by first | assumption | exact BI_new (by assumption) | exact BI_new (BI_new (by assumption)) | exact BI_new (BI_new (BI_new (by assumption)))), (by first | exact Or.inl rfl | assumption | exact Or.inr ⟨_, by omega, rfl⟩)⟩)
        refine BM_V (hj2 _) ?_
        have hBI := hb2.2.2.2
        repeat (first
    | with_reducible refine M_VI ?_
    | with_reducible refine M_VV ?_
    | with_reducible refine M_Vif ?_
    | with_reducible refine M_Vs ?_
    | with_reducible refine M_II ?_
    | with_reducible refine M_IV ?_
    | with_reducible refine M_Iif ?_
    | with_reducible refine M_Is ?_
    | with_reducible refine M_Ichk ?_
    | ((with_reducible apply BM_bndE); focus (first | ((with_reducible apply r_p R hn) <;> first | omega | assumption)); skip)
    | with_reducible refine BM_bnd ?_
    | ((with_reducible apply BM_chk); focus (((with_reducible apply r_i hn)) <;> omega); skip)
    | ((with_reducible apply BM_I); focus (first | ((with_reducible apply r_look R hn) <;> first | omega | assumption) | (with_reducible exact q_look1) | ((with_reducible apply r_draft) <;> first | omega | exact rfl | exact r_p R hn (by omega) (by assumption)) | ((with_reducible apply r_db) <;> omega) | ((with_reducible apply r_nb) <;> omega) | ((with_reducible apply r_nameb) <;> omega) | ((with_reducible apply r_name_y R hn) <;> first | omega | assumption) | ((with_reducible apply r_name_n R hn) <;> first | omega | assumption | exact ht _ (by omega))); skip)
    | ((with_reducible apply BM_V); focus (first | ((with_reducible apply r_take_y R hn) <;> first | omega | assumption | first | exact rfl | (with_reducible exact n00) | exact kp_y (by assumption) (by decide)) | ((with_reducible apply r_take_n R hn) <;> first | omega | assumption | first | exact n10 | ((simp (disch := first | assumption | omega | exact ht _ (by omega)) only [lit, n_eq, n_le, kp_0, kp_1, kp_2, kp_3, kp_4, kp_5, kp_6, kp_7, kp_8, kp_9, kp_10, kp_11, kp_12, kp_13, kp_14, kp_15, kp_16, kp_17, kp_18, kp_19, kp_20, kp_21, kp_22, kp_23, kp_24, kp_25, kp_26, kp_27, kp_28, kp_29, kp_30, kp_31, kp_32, kp_33, kp_34]) <;> omega)) | (with_reducible exact q_takeb) | ((with_reducible apply q_deep_y rfl) <;> omega) | ((with_reducible apply q_deep_n R rfl) <;> first | omega | assumption) | ((with_reducible apply q_deepb' rfl) <;> omega) | (with_reducible exact q_needb) | (with_reducible exact r_need1) | ((with_reducible apply r_need0 R hn) <;> first | omega | assumption)); skip)
    | ((with_reducible apply BM_if); focus (first | exact rfl | (with_reducible exact n00) | exact kp_y (by assumption) (by decide)); skip)
    | ((with_reducible apply BM_nif); focus (first | exact n10 | ((simp (disch := first | assumption | omega | exact ht _ (by omega)) only [lit, n_eq, n_le, kp_0, kp_1, kp_2, kp_3, kp_4, kp_5, kp_6, kp_7, kp_8, kp_9, kp_10, kp_11, kp_12, kp_13, kp_14, kp_15, kp_16, kp_17, kp_18, kp_19, kp_20, kp_21, kp_22, kp_23, kp_24, kp_25, kp_26, kp_27, kp_28, kp_29, kp_30, kp_31, kp_32, kp_33, kp_34]) <;> omega)); skip)
    | (with_reducible refine bm_jn ?_ rfl)
    | ((with_reducible apply bm_join); (focus (first | assumption | exact BI_new (by assumption) | exact BI_new (BI_new (by assumption)) | exact BI_new (BI_new (BI_new (by assumption))))); (focus omega); (focus omega); (focus (first | assumption | exact Or.inr ⟨_, by omega, rfl⟩)); intro _ _)
    | exact ⟨_, _, _, (by with_reducible rfl), by omega, by omega, (by first | assumption | exact BI_new (by assumption) | exact BI_new (BI_new (by assumption)) | exact BI_new (BI_new (BI_new (by assumption)))), (by first | exact Or.inl rfl | assumption | exact Or.inr ⟨_, by omega, rfl⟩)⟩)
  · refine OutK_b (q := q') (x := post (one dr 13 (tp q) (nI q) .leaf) ++ y) ?_ rfl ?_ x7 x8
    · rw [← List.append_assoc]
      unfold f_PA_assignment k_PA_assignment_31
      rw [hd1]
      repeat (first
    | ((with_reducible apply X_bndE); focus (first | ((with_reducible apply pz_pp h') <;> omega) | ((with_reducible apply pz_kk h') <;> omega) | (with_reducible exact pz_14)); skip)
    | with_reducible refine X_bnd ?_
    | ((with_reducible apply X_chk); focus (first | exact a1 | exact a2 | exact a3 | exact a4 | exact a5 | ((with_reducible apply pz_i1 h') <;> omega) | ((with_reducible apply pz_i2 h') <;> omega)); skip)
    | ((with_reducible apply X_rfO); focus (first | exact c1 | exact c2 | exact c5); skip)
    | ((with_reducible apply X_I); focus (first | ((with_reducible apply p_kaC h') <;> omega) | ((with_reducible apply p_paC h') <;> omega) | ((with_reducible apply p_skip_y h') <;> first | omega | ((simp (disch := omega) only [lit, n_eq]) <;> omega)) | ((with_reducible apply p_skip_n h') <;> first | omega | ((simp (disch := first | omega | exact Nat.lt_trans (ht _ (by omega)) (by omega)) only [lit, n_eq]) <;> omega))); skip)
    | ((with_reducible apply X_if); focus (first | (with_reducible exact rfl) | (with_reducible exact n00) | ((simp (disch := omega) only [lit, n_eq]) <;> omega)); skip)
    | ((with_reducible apply X_nif); focus (first | exact n10 | ((with_reducible apply p_cnt h') <;> omega) | ((simp (disch := first | omega | exact Nat.lt_trans (ht _ (by omega)) (by omega)) only [lit, n_eq]) <;> omega)); skip)
    | ((with_reducible apply X_T); focus (first | ((with_reducible apply p_take_y h') <;> first | omega | ((simp (disch := omega) only [lit, n_eq]) <;> omega)) | ((with_reducible apply p_limit_y h' rfl) <;> omega)); skip)
    | ((with_reducible apply X_Tt); focus (first | ((with_reducible apply p_take_n h') <;> first | omega | ((simp (disch := first | omega | exact Nat.lt_trans (ht _ (by omega)) (by omega)) only [lit, n_eq]) <;> omega)) | ((with_reducible apply p_limit_n h' rfl) <;> omega)); skip))
      refine X_T hnC ?_
      repeat (first
    | ((with_reducible apply X_bndE); focus (first | ((with_reducible apply pz_pp h') <;> omega) | ((with_reducible apply pz_kk h') <;> omega) | (with_reducible exact pz_14)); skip)
    | with_reducible refine X_bnd ?_
    | ((with_reducible apply X_chk); focus (first | exact a1 | exact a2 | exact a3 | exact a4 | exact a5 | ((with_reducible apply pz_i1 h') <;> omega) | ((with_reducible apply pz_i2 h') <;> omega)); skip)
    | ((with_reducible apply X_rfO); focus (first | exact c1 | exact c2 | exact c5); skip)
    | ((with_reducible apply X_I); focus (first | ((with_reducible apply p_kaC h') <;> omega) | ((with_reducible apply p_paC h') <;> omega) | ((with_reducible apply p_skip_y h') <;> first | omega | ((simp (disch := omega) only [lit, n_eq]) <;> omega)) | ((with_reducible apply p_skip_n h') <;> first | omega | ((simp (disch := first | omega | exact Nat.lt_trans (ht _ (by omega)) (by omega)) only [lit, n_eq]) <;> omega))); skip)
    | ((with_reducible apply X_if); focus (first | (with_reducible exact rfl) | (with_reducible exact n00) | ((simp (disch := omega) only [lit, n_eq]) <;> omega)); skip)
    | ((with_reducible apply X_nif); focus (first | exact n10 | ((with_reducible apply p_cnt h') <;> omega) | ((simp (disch := first | omega | exact Nat.lt_trans (ht _ (by omega)) (by omega)) only [lit, n_eq]) <;> omega)); skip)
    | ((with_reducible apply X_T); focus (first | ((with_reducible apply p_take_y h') <;> first | omega | ((simp (disch := omega) only [lit, n_eq]) <;> omega)) | ((with_reducible apply p_limit_y h' rfl) <;> omega)); skip)
    | ((with_reducible apply X_Tt); focus (first | ((with_reducible apply p_take_n h') <;> first | omega | ((simp (disch := first | omega | exact Nat.lt_trans (ht _ (by omega)) (by omega)) only [lit, n_eq]) <;> omega)) | ((with_reducible apply p_limit_n h' rfl) <;> omega)); skip))
      exact X_Tt x1 rfl
    · unfold f_RM_statement f_RM_named f_RM_sums k_RM_named_217 k_RM_named_108
      simp only [hd1]
      repeat (first
    | with_reducible refine M_VI ?_
    | with_reducible refine M_VV ?_
    | with_reducible refine M_Vif ?_
    | with_reducible refine M_Vs ?_
    | with_reducible refine M_II ?_
    | with_reducible refine M_IV ?_
    | with_reducible refine M_Iif ?_
    | with_reducible refine M_Is ?_
    | with_reducible refine M_Ichk ?_
    | ((with_reducible apply BM_bndE); focus (first | ((with_reducible apply r_p R hn) <;> first | omega | assumption)); skip)
    | with_reducible refine BM_bnd ?_
    | ((with_reducible apply BM_chk); focus (((with_reducible apply r_i hn)) <;> omega); skip)
    | ((with_reducible apply BM_I); focus (first | ((with_reducible apply r_look R hn) <;> first | omega | assumption) | (with_reducible exact q_look1) | ((with_reducible apply r_draft) <;> first | omega | exact rfl | exact r_p R hn (by omega) (by assumption)) | ((with_reducible apply r_db) <;> omega) | ((with_reducible apply r_nb) <;> omega) | ((with_reducible apply r_nameb) <;> omega) | ((with_reducible apply r_name_y R hn) <;> first | omega | assumption) | ((with_reducible apply r_name_n R hn) <;> first | omega | assumption | exact ht _ (by omega))); skip)
    | ((with_reducible apply BM_V); focus (first | ((with_reducible apply r_take_y R hn) <;> first | omega | assumption | first | exact rfl | (with_reducible exact n00) | exact kp_y (by assumption) (by decide)) | ((with_reducible apply r_take_n R hn) <;> first | omega | assumption | first | exact n10 | ((simp (disch := first | assumption | omega | exact ht _ (by omega)) only [lit, n_eq, n_le, kp_0, kp_1, kp_2, kp_3, kp_4, kp_5, kp_6, kp_7, kp_8, kp_9, kp_10, kp_11, kp_12, kp_13, kp_14, kp_15, kp_16, kp_17, kp_18, kp_19, kp_20, kp_21, kp_22, kp_23, kp_24, kp_25, kp_26, kp_27, kp_28, kp_29, kp_30, kp_31, kp_32, kp_33, kp_34]) <;> omega)) | (with_reducible exact q_takeb) | ((with_reducible apply q_deep_y rfl) <;> omega) | ((with_reducible apply q_deep_n R rfl) <;> first | omega | assumption) | ((with_reducible apply q_deepb' rfl) <;> omega) | (with_reducible exact q_needb) | (with_reducible exact r_need1) | ((with_reducible apply r_need0 R hn) <;> first | omega | assumption)); skip)
    | ((with_reducible apply BM_if); focus (first | exact rfl | (with_reducible exact n00) | exact kp_y (by assumption) (by decide)); skip)
    | ((with_reducible apply BM_nif); focus (first | exact n10 | ((simp (disch := first | assumption | omega | exact ht _ (by omega)) only [lit, n_eq, n_le, kp_0, kp_1, kp_2, kp_3, kp_4, kp_5, kp_6, kp_7, kp_8, kp_9, kp_10, kp_11, kp_12, kp_13, kp_14, kp_15, kp_16, kp_17, kp_18, kp_19, kp_20, kp_21, kp_22, kp_23, kp_24, kp_25, kp_26, kp_27, kp_28, kp_29, kp_30, kp_31, kp_32, kp_33, kp_34]) <;> omega)); skip)
    | (with_reducible refine bm_jn ?_ rfl)
    | ((with_reducible apply bm_join); (focus (first | assumption | exact BI_new (by assumption) | exact BI_new (BI_new (by assumption)) | exact BI_new (BI_new (BI_new (by assumption))))); (focus omega); (focus omega); (focus (first | assumption | exact Or.inr ⟨_, by omega, rfl⟩)); intro _ _)
    | exact ⟨_, _, _, (by with_reducible rfl), by omega, by omega, (by first | assumption | exact BI_new (by assumption) | exact BI_new (BI_new (by assumption)) | exact BI_new (BI_new (BI_new (by assumption)))), (by first | exact Or.inl rfl | assumption | exact Or.inr ⟨_, by omega, rfl⟩)⟩)
      refine BM_V (hj1 _) ?_
      repeat (first
    | with_reducible refine M_VI ?_
    | with_reducible refine M_VV ?_
    | with_reducible refine M_Vif ?_
    | with_reducible refine M_Vs ?_
    | with_reducible refine M_II ?_
    | with_reducible refine M_IV ?_
    | with_reducible refine M_Iif ?_
    | with_reducible refine M_Is ?_
    | with_reducible refine M_Ichk ?_
    | ((with_reducible apply BM_bndE); focus (first | ((with_reducible apply r_p R hn) <;> first | omega | assumption)); skip)
    | with_reducible refine BM_bnd ?_
    | ((with_reducible apply BM_chk); focus (((with_reducible apply r_i hn)) <;> omega); skip)
    | ((with_reducible apply BM_I); focus (first | ((with_reducible apply r_look R hn) <;> first | omega | assumption) | (with_reducible exact q_look1) | ((with_reducible apply r_draft) <;> first | omega | exact rfl | exact r_p R hn (by omega) (by assumption)) | ((with_reducible apply r_db) <;> omega) | ((with_reducible apply r_nb) <;> omega) | ((with_reducible apply r_nameb) <;> omega) | ((with_reducible apply r_name_y R hn) <;> first | omega | assumption) | ((with_reducible apply r_name_n R hn) <;> first | omega | assumption | exact ht _ (by omega))); skip)
    | ((with_reducible apply BM_V); focus (first | ((with_reducible apply r_take_y R hn) <;> first | omega | assumption | first | exact rfl | (with_reducible exact n00) | exact kp_y (by assumption) (by decide)) | ((with_reducible apply r_take_n R hn) <;> first | omega | assumption | first | exact n10 | ((simp (disch := first | assumption | omega | exact ht _ (by omega)) only [lit, n_eq, n_le, kp_0, kp_1, kp_2, kp_3, kp_4, kp_5, kp_6, kp_7, kp_8, kp_9, kp_10, kp_11, kp_12, kp_13, kp_14, kp_15, kp_16, kp_17, kp_18, kp_19, kp_20, kp_21, kp_22, kp_23, kp_24, kp_25, kp_26, kp_27, kp_28, kp_29, kp_30, kp_31, kp_32, kp_33, kp_34]) <;> omega)) | (with_reducible exact q_takeb) | ((with_reducible apply q_deep_y rfl) <;> omega) | ((with_reducible apply q_deep_n R rfl) <;> first | omega | assumption) | ((with_reducible apply q_deepb' rfl) <;> omega) | (with_reducible exact q_needb) | (with_reducible exact r_need1) | ((with_reducible apply r_need0 R hn) <;> first | omega | assumption)); skip)
    | ((with_reducible apply BM_if); focus (first | exact rfl | (with_reducible exact n00) | exact kp_y (by assumption) (by decide)); skip)
    | ((with_reducible apply BM_nif); focus (first | exact n10 | ((simp (disch := first | assumption | omega | exact ht _ (by omega)) only [lit, n_eq, n_le, kp_0, kp_1, kp_2, kp_3, kp_4, kp_5, kp_6, kp_7, kp_8, kp_9, kp_10, kp_11, kp_12, kp_13, kp_14, kp_15, kp_16, kp_17, kp_18, kp_19, kp_20, kp_21, kp_22, kp_23, kp_24, kp_25, kp_26, kp_27, kp_28, kp_29, kp_30, kp_31, kp_32, kp_33, kp_34]) <;> omega)); skip)
    | (with_reducible refine bm_jn ?_ rfl)
    | ((with_reducible apply bm_join); (focus (first | assumption | exact BI_new (by assumption) | exact BI_new (BI_new (by assumption)) | exact BI_new (BI_new (BI_new (by assumption))))); (focus omega); (focus omega); (focus (first | assumption | exact Or.inr ⟨_, by omega, rfl⟩)); intro _ _)
    | exact ⟨_, _, _, (by with_reducible rfl), by omega, by omega, (by first | assumption | exact BI_new (by assumption) | exact BI_new (BI_new (by assumption)) | exact BI_new (BI_new (BI_new (by assumption)))), (by first | exact Or.inl rfl | assumption | exact Or.inr ⟨_, by omega, rfl⟩)⟩)
      refine BM_I x2 ?_
      repeat (first
    | with_reducible refine M_VI ?_
    | with_reducible refine M_VV ?_
    | with_reducible refine M_Vif ?_
    | with_reducible refine M_Vs ?_
    | with_reducible refine M_II ?_
    | with_reducible refine M_IV ?_
    | with_reducible refine M_Iif ?_
    | with_reducible refine M_Is ?_
    | with_reducible refine M_Ichk ?_
    | ((with_reducible apply BM_bndE); focus (first | ((with_reducible apply r_p R hn) <;> first | omega | assumption)); skip)
    | with_reducible refine BM_bnd ?_
    | ((with_reducible apply BM_chk); focus (((with_reducible apply r_i hn)) <;> omega); skip)
    | ((with_reducible apply BM_I); focus (first | ((with_reducible apply r_look R hn) <;> first | omega | assumption) | (with_reducible exact q_look1) | ((with_reducible apply r_draft) <;> first | omega | exact rfl | exact r_p R hn (by omega) (by assumption)) | ((with_reducible apply r_db) <;> omega) | ((with_reducible apply r_nb) <;> omega) | ((with_reducible apply r_nameb) <;> omega) | ((with_reducible apply r_name_y R hn) <;> first | omega | assumption) | ((with_reducible apply r_name_n R hn) <;> first | omega | assumption | exact ht _ (by omega))); skip)
    | ((with_reducible apply BM_V); focus (first | ((with_reducible apply r_take_y R hn) <;> first | omega | assumption | first | exact rfl | (with_reducible exact n00) | exact kp_y (by assumption) (by decide)) | ((with_reducible apply r_take_n R hn) <;> first | omega | assumption | first | exact n10 | ((simp (disch := first | assumption | omega | exact ht _ (by omega)) only [lit, n_eq, n_le, kp_0, kp_1, kp_2, kp_3, kp_4, kp_5, kp_6, kp_7, kp_8, kp_9, kp_10, kp_11, kp_12, kp_13, kp_14, kp_15, kp_16, kp_17, kp_18, kp_19, kp_20, kp_21, kp_22, kp_23, kp_24, kp_25, kp_26, kp_27, kp_28, kp_29, kp_30, kp_31, kp_32, kp_33, kp_34]) <;> omega)) | (with_reducible exact q_takeb) | ((with_reducible apply q_deep_y rfl) <;> omega) | ((with_reducible apply q_deep_n R rfl) <;> first | omega | assumption) | ((with_reducible apply q_deepb' rfl) <;> omega) | (with_reducible exact q_needb) | (with_reducible exact r_need1) | ((with_reducible apply r_need0 R hn) <;> first | omega | assumption)); skip)
    | ((with_reducible apply BM_if); focus (first | exact rfl | (with_reducible exact n00) | exact kp_y (by assumption) (by decide)); skip)
    | ((with_reducible apply BM_nif); focus (first | exact n10 | ((simp (disch := first | assumption | omega | exact ht _ (by omega)) only [lit, n_eq, n_le, kp_0, kp_1, kp_2, kp_3, kp_4, kp_5, kp_6, kp_7, kp_8, kp_9, kp_10, kp_11, kp_12, kp_13, kp_14, kp_15, kp_16, kp_17, kp_18, kp_19, kp_20, kp_21, kp_22, kp_23, kp_24, kp_25, kp_26, kp_27, kp_28, kp_29, kp_30, kp_31, kp_32, kp_33, kp_34]) <;> omega)); skip)
    | (with_reducible refine bm_jn ?_ rfl)
    | ((with_reducible apply bm_join); (focus (first | assumption | exact BI_new (by assumption) | exact BI_new (BI_new (by assumption)) | exact BI_new (BI_new (BI_new (by assumption))))); (focus omega); (focus omega); (focus (first | assumption | exact Or.inr ⟨_, by omega, rfl⟩)); intro _ _)
    | exact ⟨_, _, _, (by with_reducible rfl), by omega, by omega, (by first | assumption | exact BI_new (by assumption) | exact BI_new (BI_new (by assumption)) | exact BI_new (BI_new (BI_new (by assumption)))), (by first | exact Or.inl rfl | assumption | exact Or.inr ⟨_, by omega, rfl⟩)⟩)
theorem st_elem {d lim hm : Nat} {ps : (Nat → Int32 → mh_H → Option (Bool × Int32 × mh_H))} {rs rc rb rs0 rs1 : (Int32 → rm_S → Option (Int32 × rm_S))} (E : EN σ ap dd tt bk bp bv dk dp dv dz n room tk tp tv S N) (hS0 : Sim σ ap dd dk dp dv dz n tk tp S (d + 1) lim hm ps rs0) (hS1 : Sim σ ap dd dk dp dv dz n tk tp S (d + 1) lim hm ps rs1) (hl : 16010 ≤ lim ∧ lim < 25900 ∧ 1 ≤ hm) (hd : d ≤ 60) {flt : Int32} {q : Nat} {ds : List Ent} {dr : Nat} {B : Nat → Nat → Int32} (hI : Inp n tk q ds dr B) (t2 : tk q = 2) (u1 : tk (q + 1) = 16) : OutK σ ap dd dk dp dv dz n tk tp S flt q ds dr B (lim + 10) (hm + 1) (f_PA_assignment N ps ap (nI d) (pz σ ap dd dk dp dv dz q ds)) (f_RM_statement N rs (f_RM_named N (f_RM_sums N rs0) rs1) rc rb (nI d) (qz S q 0 flt dr B)) := by
  have hI' := hI
  have E' := E
  obtain ⟨⟨i1, i2⟩, i3, i4, i5⟩ := hI
  obtain ⟨h, R, hn, hNN⟩ := E
  have h' := h
  obtain ⟨⟨a1, a2, a3⟩, ⟨a4, a5, a6, a7, a8, a9, a10⟩, ⟨c1, c2⟩, ⟨c4, c5, c6⟩, ⟨c7, c8, c9, c10⟩, -, ⟨e5, e6, e7⟩, e8, -, -, -, -, e9, e10, e11, e12, e13⟩ := h
  have ht : ∀ j, j < n → tk j < 35 := fun j hj => (e9 j hj).2.2.2
  have hb1 : ∀ j, j < n → j < hN σ bk := fun j hj => by omega
  have hb2 : ∀ j, j < n → j < hN σ bp := fun j hj => by omega
  have hd1 : nI d + 1 = nI (d + 1) := n_add d 1
  have q1 := e13 q i1 (by omega)
  have g1 := gd_s i2 (by omega) (by omega)
  have hp := R_3 R i1 i2
  have htq1 := ht (q + 1) q1
  have hb := nb_new (k := 13) (p := tp q) (v := nI q) (show dr < 26000 by omega) i5
  have hw1 : wf n tk tp (one dr 13 (tp q) (nI q) .leaf) := s_first i1 i2 t2 hp _
  have hnC := p_name_y (N := N) (ds := ds) h' i1 (by omega) t2 dr
  have hll : (ds ++ post (one dr 13 (tp q) (nI q) .leaf)).length = ds.length + 1 := by simp [post]
  have hb1 := nb_wrap (k := 6) (p := tp q) (v := 0) hb (by omega)
  have hj1 := fun q' => nb_wrapE (S := S) (N := N) (bad := 0) (flt := flt) (q := q') (k := 6) (p := tp q) (v := 0) hb (by omega)
  have q2 := e13 (q + 1) q1 (by omega)
  have g2 := gd_s g1 (by omega) (by omega)
  have htq2 := ht (q + 1 + 1) q2
  rcases hS1 flt (q + 1 + 1) (ds ++ post (one dr 13 (tp q) (nI q) .leaf)) (dr + 1 + 1) _ ⟨⟨q2, g2⟩, by omega, by omega, hb1.2.2.2⟩ with ⟨q', i', k', p', v', c', dr', B', x1, x2, x3⟩ | ⟨q', y, x1, ⟨v, dr', B', x2, x3, x4, x5, x6⟩, x7, x8⟩
  · have hb' := nb_of x3
    obtain ⟨⟨y1, y2, y3⟩, -, -, -, y0, ⟨y4, y5, y6⟩, y7, y8⟩ := x3
    have hj2 := fun q => nb_joinE (S := S) (N := N) (bad := 0) (flt := flt) (q := q) hb1 hb'
    have hb2 := nb_join hb1 hb'
    have htq' := ht q' y2
    by_cases u4 : tk q' = 17
    · have q4 := e13 q' y2 (by omega)
      have g4 := gd_s y3 (by omega) (by omega)
      have htq4 := ht (q' + 1) q4
      by_cases u5 : tk (q' + 1) = 20
      · have q5 := e13 (q' + 1) q4 (by omega)
        have g5 := gd_s g4 (by omega) (by omega)
        have hll2 : (ds ++ post (one dr 13 (tp q) (nI q) .leaf) ++ post (one i' k' p' v' c')).length = ds.length + 1 + (siz c' + 1) := by rw [List.length_append, post_len, hll]; simp [siz]
        rcases hS1 flt (q' + 1 + 1) (ds ++ post (one dr 13 (tp q) (nI q) .leaf) ++ post (one i' k' p' v' c')) dr' _ ⟨⟨q5, g5⟩, by omega, by omega, hb2.2.2.2⟩ with ⟨qe, ie, ke, pe, ve, ce, dre, Be, s1, s2, s3⟩ | ⟨qe, ye, s1, ⟨ve, dre, Be, s2, s3, s4, s5, s6⟩, s7, s8⟩
        · have hbe := nb_of s3
          obtain ⟨⟨v1, v2, v3⟩, -, -, -, v0, ⟨v4, v5, v6⟩, v7, v8⟩ := s3
          have hj3 := fun q => nb_joinE (S := S) (N := N) (bad := 0) (flt := flt) (q := q) hb2 hbe
          have hb3 := nb_join hb2 hbe
          have htqe := ht qe v2
          by_cases u6 : tk qe = 19
          · have q6 := e13 qe v2 (by omega)
            have g6 := gd_s v3 (by omega) (by omega)
            refine OutK_y (q := qe + 1) (k := 6) ?_ ?_ (New_of hb3 (by omega) q6 g6 (by omega) (by simp only [app, siz] at *; omega) ⟨by simp [okk, app, kls], by simp, ⟨hp, by simp only [app, siz] at *; omega⟩, wf_app (wf_app hw1 y7) v7, trivial⟩ (by simp only [app, hgt] at *; omega))
            · unfold f_PA_assignment k_PA_assignment_31
              rw [hd1]
              repeat (first
    | ((with_reducible apply X_bndE); focus (first | ((with_reducible apply pz_pp h') <;> omega) | ((with_reducible apply pz_kk h') <;> omega) | (with_reducible exact pz_14)); skip)
    | with_reducible refine X_bnd ?_
    | ((with_reducible apply X_chk); focus (first | exact a1 | exact a2 | exact a3 | exact a4 | exact a5 | ((with_reducible apply pz_i1 h') <;> omega) | ((with_reducible apply pz_i2 h') <;> omega)); skip)
    | ((with_reducible apply X_rfO); focus (first | exact c1 | exact c2 | exact c5); skip)
    | ((with_reducible apply X_I); focus (first | ((with_reducible apply p_kaC h') <;> omega) | ((with_reducible apply p_paC h') <;> omega) | ((with_reducible apply p_skip_y h') <;> first | omega | ((simp (disch := omega) only [lit, n_eq]) <;> omega)) | ((with_reducible apply p_skip_n h') <;> first | omega | ((simp (disch := first | omega | exact Nat.lt_trans (ht _ (by omega)) (by omega)) only [lit, n_eq]) <;> omega))); skip)
    | ((with_reducible apply X_if); focus (first | (with_reducible exact rfl) | (with_reducible exact n00) | ((simp (disch := omega) only [lit, n_eq]) <;> omega)); skip)
    | ((with_reducible apply X_nif); focus (first | exact n10 | ((with_reducible apply p_cnt h') <;> omega) | ((simp (disch := first | omega | exact Nat.lt_trans (ht _ (by omega)) (by omega)) only [lit, n_eq]) <;> omega)); skip)
    | ((with_reducible apply X_T); focus (first | ((with_reducible apply p_take_y h') <;> first | omega | ((simp (disch := omega) only [lit, n_eq]) <;> omega)) | ((with_reducible apply p_limit_y h' rfl) <;> omega)); skip)
    | ((with_reducible apply X_Tt); focus (first | ((with_reducible apply p_take_n h') <;> first | omega | ((simp (disch := first | omega | exact Nat.lt_trans (ht _ (by omega)) (by omega)) only [lit, n_eq]) <;> omega)) | ((with_reducible apply p_limit_n h' rfl) <;> omega)); skip))
              refine X_T hnC ?_
              repeat (first
    | ((with_reducible apply X_bndE); focus (first | ((with_reducible apply pz_pp h') <;> omega) | ((with_reducible apply pz_kk h') <;> omega) | (with_reducible exact pz_14)); skip)
    | with_reducible refine X_bnd ?_
    | ((with_reducible apply X_chk); focus (first | exact a1 | exact a2 | exact a3 | exact a4 | exact a5 | ((with_reducible apply pz_i1 h') <;> omega) | ((with_reducible apply pz_i2 h') <;> omega)); skip)
    | ((with_reducible apply X_rfO); focus (first | exact c1 | exact c2 | exact c5); skip)
    | ((with_reducible apply X_I); focus (first | ((with_reducible apply p_kaC h') <;> omega) | ((with_reducible apply p_paC h') <;> omega) | ((with_reducible apply p_skip_y h') <;> first | omega | ((simp (disch := omega) only [lit, n_eq]) <;> omega)) | ((with_reducible apply p_skip_n h') <;> first | omega | ((simp (disch := first | omega | exact Nat.lt_trans (ht _ (by omega)) (by omega)) only [lit, n_eq]) <;> omega))); skip)
    | ((with_reducible apply X_if); focus (first | (with_reducible exact rfl) | (with_reducible exact n00) | ((simp (disch := omega) only [lit, n_eq]) <;> omega)); skip)
    | ((with_reducible apply X_nif); focus (first | exact n10 | ((with_reducible apply p_cnt h') <;> omega) | ((simp (disch := first | omega | exact Nat.lt_trans (ht _ (by omega)) (by omega)) only [lit, n_eq]) <;> omega)); skip)
    | ((with_reducible apply X_T); focus (first | ((with_reducible apply p_take_y h') <;> first | omega | ((simp (disch := omega) only [lit, n_eq]) <;> omega)) | ((with_reducible apply p_limit_y h' rfl) <;> omega)); skip)
    | ((with_reducible apply X_Tt); focus (first | ((with_reducible apply p_take_n h') <;> first | omega | ((simp (disch := first | omega | exact Nat.lt_trans (ht _ (by omega)) (by omega)) only [lit, n_eq]) <;> omega)) | ((with_reducible apply p_limit_n h' rfl) <;> omega)); skip))
              refine X_T x1 ?_
              repeat (first
    | ((with_reducible apply X_bndE); focus (first | ((with_reducible apply pz_pp h') <;> omega) | ((with_reducible apply pz_kk h') <;> omega) | (with_reducible exact pz_14)); skip)
    | with_reducible refine X_bnd ?_
    | ((with_reducible apply X_chk); focus (first | exact a1 | exact a2 | exact a3 | exact a4 | exact a5 | ((with_reducible apply pz_i1 h') <;> omega) | ((with_reducible apply pz_i2 h') <;> omega)); skip)
    | ((with_reducible apply X_rfO); focus (first | exact c1 | exact c2 | exact c5); skip)
    | ((with_reducible apply X_I); focus (first | ((with_reducible apply p_kaC h') <;> omega) | ((with_reducible apply p_paC h') <;> omega) | ((with_reducible apply p_skip_y h') <;> first | omega | ((simp (disch := omega) only [lit, n_eq]) <;> omega)) | ((with_reducible apply p_skip_n h') <;> first | omega | ((simp (disch := first | omega | exact Nat.lt_trans (ht _ (by omega)) (by omega)) only [lit, n_eq]) <;> omega))); skip)
    | ((with_reducible apply X_if); focus (first | (with_reducible exact rfl) | (with_reducible exact n00) | ((simp (disch := omega) only [lit, n_eq]) <;> omega)); skip)
    | ((with_reducible apply X_nif); focus (first | exact n10 | ((with_reducible apply p_cnt h') <;> omega) | ((simp (disch := first | omega | exact Nat.lt_trans (ht _ (by omega)) (by omega)) only [lit, n_eq]) <;> omega)); skip)
    | ((with_reducible apply X_T); focus (first | ((with_reducible apply p_take_y h') <;> first | omega | ((simp (disch := omega) only [lit, n_eq]) <;> omega)) | ((with_reducible apply p_limit_y h' rfl) <;> omega)); skip)
    | ((with_reducible apply X_Tt); focus (first | ((with_reducible apply p_take_n h') <;> first | omega | ((simp (disch := first | omega | exact Nat.lt_trans (ht _ (by omega)) (by omega)) only [lit, n_eq]) <;> omega)) | ((with_reducible apply p_limit_n h' rfl) <;> omega)); skip))
              refine X_T s1 ?_
              repeat (first
    | ((with_reducible apply X_bndE); focus (first | ((with_reducible apply pz_pp h') <;> omega) | ((with_reducible apply pz_kk h') <;> omega) | (with_reducible exact pz_14)); skip)
    | with_reducible refine X_bnd ?_
    | ((with_reducible apply X_chk); focus (first | exact a1 | exact a2 | exact a3 | exact a4 | exact a5 | ((with_reducible apply pz_i1 h') <;> omega) | ((with_reducible apply pz_i2 h') <;> omega)); skip)
    | ((with_reducible apply X_rfO); focus (first | exact c1 | exact c2 | exact c5); skip)
    | ((with_reducible apply X_I); focus (first | ((with_reducible apply p_kaC h') <;> omega) | ((with_reducible apply p_paC h') <;> omega) | ((with_reducible apply p_skip_y h') <;> first | omega | ((simp (disch := omega) only [lit, n_eq]) <;> omega)) | ((with_reducible apply p_skip_n h') <;> first | omega | ((simp (disch := first | omega | exact Nat.lt_trans (ht _ (by omega)) (by omega)) only [lit, n_eq]) <;> omega))); skip)
    | ((with_reducible apply X_if); focus (first | (with_reducible exact rfl) | (with_reducible exact n00) | ((simp (disch := omega) only [lit, n_eq]) <;> omega)); skip)
    | ((with_reducible apply X_nif); focus (first | exact n10 | ((with_reducible apply p_cnt h') <;> omega) | ((simp (disch := first | omega | exact Nat.lt_trans (ht _ (by omega)) (by omega)) only [lit, n_eq]) <;> omega)); skip)
    | ((with_reducible apply X_T); focus (first | ((with_reducible apply p_take_y h') <;> first | omega | ((simp (disch := omega) only [lit, n_eq]) <;> omega)) | ((with_reducible apply p_limit_y h' rfl) <;> omega)); skip)
    | ((with_reducible apply X_Tt); focus (first | ((with_reducible apply p_take_n h') <;> first | omega | ((simp (disch := first | omega | exact Nat.lt_trans (ht _ (by omega)) (by omega)) only [lit, n_eq]) <;> omega)) | ((with_reducible apply p_limit_n h' rfl) <;> omega)); skip))
              rw [show ds ++ post (one dr 13 (tp q) (nI q) .leaf) ++ post (one i' k' p' v' c') ++ post (one ie ke pe ve ce) = ds ++ post (app (app (one dr 13 (tp q) (nI q) .leaf) (one i' k' p' v' c')) (one ie ke pe ve ce)) from by rw [post_app, post_app, List.append_assoc, List.append_assoc, List.append_assoc]]
              rfl
            · unfold f_RM_statement f_RM_named f_RM_sums k_RM_named_217 k_RM_named_108
              simp only [hd1]
              repeat (first
    | with_reducible refine A_VI ?_
    | with_reducible refine A_VV ?_
    | with_reducible refine A_Vif ?_
    | with_reducible refine A_Vs ?_
    | with_reducible refine A_II ?_
    | with_reducible refine A_IV ?_
    | with_reducible refine A_Iif ?_
    | with_reducible refine A_Is ?_
    | with_reducible refine A_Ichk ?_
    | ((with_reducible apply X_bndE); focus (first | ((with_reducible apply r_p R hn) <;> first | omega | assumption)); skip)
    | with_reducible refine X_bnd ?_
    | ((with_reducible apply X_chk); focus (((with_reducible apply r_i hn)) <;> omega); skip)
    | ((with_reducible apply X_I); focus (first | ((with_reducible apply r_look R hn) <;> first | omega | assumption) | (with_reducible exact q_look1) | ((with_reducible apply r_draft) <;> first | omega | exact rfl | exact r_p R hn (by omega) (by assumption)) | ((with_reducible apply r_name_y R hn) <;> first | omega | assumption)); skip)
    | ((with_reducible apply X_V); focus (first | ((with_reducible apply r_take_y R hn) <;> first | omega | assumption | first | exact rfl | (with_reducible exact n00) | exact kp_y (by assumption) (by decide)) | ((with_reducible apply r_take_n R hn) <;> first | omega | assumption | first | exact n10 | ((simp (disch := first | assumption | omega | exact ht _ (by omega)) only [lit, n_eq, n_le, kp_0, kp_1, kp_2, kp_3, kp_4, kp_5, kp_6, kp_7, kp_8, kp_9, kp_10, kp_11, kp_12, kp_13, kp_14, kp_15, kp_16, kp_17, kp_18, kp_19, kp_20, kp_21, kp_22, kp_23, kp_24, kp_25, kp_26, kp_27, kp_28, kp_29, kp_30, kp_31, kp_32, kp_33, kp_34]) <;> omega)) | (with_reducible exact q_takeb) | ((with_reducible apply q_deep_y rfl) <;> omega) | ((with_reducible apply q_deep_n R rfl) <;> first | omega | assumption) | (with_reducible exact q_needb) | (with_reducible exact r_need1) | ((with_reducible apply r_need0 R hn) <;> first | omega | assumption)); skip)
    | ((with_reducible apply X_if); focus (first | exact rfl | (with_reducible exact n00) | exact kp_y (by assumption) (by decide)); skip)
    | ((with_reducible apply X_nif); focus (first | exact n10 | ((simp (disch := first | assumption | omega | exact ht _ (by omega)) only [lit, n_eq, n_le, kp_0, kp_1, kp_2, kp_3, kp_4, kp_5, kp_6, kp_7, kp_8, kp_9, kp_10, kp_11, kp_12, kp_13, kp_14, kp_15, kp_16, kp_17, kp_18, kp_19, kp_20, kp_21, kp_22, kp_23, kp_24, kp_25, kp_26, kp_27, kp_28, kp_29, kp_30, kp_31, kp_32, kp_33, kp_34]) <;> omega)); skip))
              refine X_V (hj1 _) ?_
              repeat (first
    | with_reducible refine A_VI ?_
    | with_reducible refine A_VV ?_
    | with_reducible refine A_Vif ?_
    | with_reducible refine A_Vs ?_
    | with_reducible refine A_II ?_
    | with_reducible refine A_IV ?_
    | with_reducible refine A_Iif ?_
    | with_reducible refine A_Is ?_
    | with_reducible refine A_Ichk ?_
    | ((with_reducible apply X_bndE); focus (first | ((with_reducible apply r_p R hn) <;> first | omega | assumption)); skip)
    | with_reducible refine X_bnd ?_
    | ((with_reducible apply X_chk); focus (((with_reducible apply r_i hn)) <;> omega); skip)
    | ((with_reducible apply X_I); focus (first | ((with_reducible apply r_look R hn) <;> first | omega | assumption) | (with_reducible exact q_look1) | ((with_reducible apply r_draft) <;> first | omega | exact rfl | exact r_p R hn (by omega) (by assumption)) | ((with_reducible apply r_name_y R hn) <;> first | omega | assumption)); skip)
    | ((with_reducible apply X_V); focus (first | ((with_reducible apply r_take_y R hn) <;> first | omega | assumption | first | exact rfl | (with_reducible exact n00) | exact kp_y (by assumption) (by decide)) | ((with_reducible apply r_take_n R hn) <;> first | omega | assumption | first | exact n10 | ((simp (disch := first | assumption | omega | exact ht _ (by omega)) only [lit, n_eq, n_le, kp_0, kp_1, kp_2, kp_3, kp_4, kp_5, kp_6, kp_7, kp_8, kp_9, kp_10, kp_11, kp_12, kp_13, kp_14, kp_15, kp_16, kp_17, kp_18, kp_19, kp_20, kp_21, kp_22, kp_23, kp_24, kp_25, kp_26, kp_27, kp_28, kp_29, kp_30, kp_31, kp_32, kp_33, kp_34]) <;> omega)) | (with_reducible exact q_takeb) | ((with_reducible apply q_deep_y rfl) <;> omega) | ((with_reducible apply q_deep_n R rfl) <;> first | omega | assumption) | (with_reducible exact q_needb) | (with_reducible exact r_need1) | ((with_reducible apply r_need0 R hn) <;> first | omega | assumption)); skip)
    | ((with_reducible apply X_if); focus (first | exact rfl | (with_reducible exact n00) | exact kp_y (by assumption) (by decide)); skip)
    | ((with_reducible apply X_nif); focus (first | exact n10 | ((simp (disch := first | assumption | omega | exact ht _ (by omega)) only [lit, n_eq, n_le, kp_0, kp_1, kp_2, kp_3, kp_4, kp_5, kp_6, kp_7, kp_8, kp_9, kp_10, kp_11, kp_12, kp_13, kp_14, kp_15, kp_16, kp_17, kp_18, kp_19, kp_20, kp_21, kp_22, kp_23, kp_24, kp_25, kp_26, kp_27, kp_28, kp_29, kp_30, kp_31, kp_32, kp_33, kp_34]) <;> omega)); skip))
              refine X_I x2 ?_
              repeat (first
    | with_reducible refine A_VI ?_
    | with_reducible refine A_VV ?_
    | with_reducible refine A_Vif ?_
    | with_reducible refine A_Vs ?_
    | with_reducible refine A_II ?_
    | with_reducible refine A_IV ?_
    | with_reducible refine A_Iif ?_
    | with_reducible refine A_Is ?_
    | with_reducible refine A_Ichk ?_
    | ((with_reducible apply X_bndE); focus (first | ((with_reducible apply r_p R hn) <;> first | omega | assumption)); skip)
    | with_reducible refine X_bnd ?_
    | ((with_reducible apply X_chk); focus (((with_reducible apply r_i hn)) <;> omega); skip)
    | ((with_reducible apply X_I); focus (first | ((with_reducible apply r_look R hn) <;> first | omega | assumption) | (with_reducible exact q_look1) | ((with_reducible apply r_draft) <;> first | omega | exact rfl | exact r_p R hn (by omega) (by assumption)) | ((with_reducible apply r_name_y R hn) <;> first | omega | assumption)); skip)
    | ((with_reducible apply X_V); focus (first | ((with_reducible apply r_take_y R hn) <;> first | omega | assumption | first | exact rfl | (with_reducible exact n00) | exact kp_y (by assumption) (by decide)) | ((with_reducible apply r_take_n R hn) <;> first | omega | assumption | first | exact n10 | ((simp (disch := first | assumption | omega | exact ht _ (by omega)) only [lit, n_eq, n_le, kp_0, kp_1, kp_2, kp_3, kp_4, kp_5, kp_6, kp_7, kp_8, kp_9, kp_10, kp_11, kp_12, kp_13, kp_14, kp_15, kp_16, kp_17, kp_18, kp_19, kp_20, kp_21, kp_22, kp_23, kp_24, kp_25, kp_26, kp_27, kp_28, kp_29, kp_30, kp_31, kp_32, kp_33, kp_34]) <;> omega)) | (with_reducible exact q_takeb) | ((with_reducible apply q_deep_y rfl) <;> omega) | ((with_reducible apply q_deep_n R rfl) <;> first | omega | assumption) | (with_reducible exact q_needb) | (with_reducible exact r_need1) | ((with_reducible apply r_need0 R hn) <;> first | omega | assumption)); skip)
    | ((with_reducible apply X_if); focus (first | exact rfl | (with_reducible exact n00) | exact kp_y (by assumption) (by decide)); skip)
    | ((with_reducible apply X_nif); focus (first | exact n10 | ((simp (disch := first | assumption | omega | exact ht _ (by omega)) only [lit, n_eq, n_le, kp_0, kp_1, kp_2, kp_3, kp_4, kp_5, kp_6, kp_7, kp_8, kp_9, kp_10, kp_11, kp_12, kp_13, kp_14, kp_15, kp_16, kp_17, kp_18, kp_19, kp_20, kp_21, kp_22, kp_23, kp_24, kp_25, kp_26, kp_27, kp_28, kp_29, kp_30, kp_31, kp_32, kp_33, kp_34]) <;> omega)); skip))
              refine X_V (hj2 _) ?_
              repeat (first
    | with_reducible refine A_VI ?_
    | with_reducible refine A_VV ?_
    | with_reducible refine A_Vif ?_
    | with_reducible refine A_Vs ?_
    | with_reducible refine A_II ?_
    | with_reducible refine A_IV ?_
    | with_reducible refine A_Iif ?_
    | with_reducible refine A_Is ?_
    | with_reducible refine A_Ichk ?_
    | ((with_reducible apply X_bndE); focus (first | ((with_reducible apply r_p R hn) <;> first | omega | assumption)); skip)
    | with_reducible refine X_bnd ?_
    | ((with_reducible apply X_chk); focus (((with_reducible apply r_i hn)) <;> omega); skip)
    | ((with_reducible apply X_I); focus (first | ((with_reducible apply r_look R hn) <;> first | omega | assumption) | (with_reducible exact q_look1) | ((with_reducible apply r_draft) <;> first | omega | exact rfl | exact r_p R hn (by omega) (by assumption)) | ((with_reducible apply r_name_y R hn) <;> first | omega | assumption)); skip)
    | ((with_reducible apply X_V); focus (first | ((with_reducible apply r_take_y R hn) <;> first | omega | assumption | first | exact rfl | (with_reducible exact n00) | exact kp_y (by assumption) (by decide)) | ((with_reducible apply r_take_n R hn) <;> first | omega | assumption | first | exact n10 | ((simp (disch := first | assumption | omega | exact ht _ (by omega)) only [lit, n_eq, n_le, kp_0, kp_1, kp_2, kp_3, kp_4, kp_5, kp_6, kp_7, kp_8, kp_9, kp_10, kp_11, kp_12, kp_13, kp_14, kp_15, kp_16, kp_17, kp_18, kp_19, kp_20, kp_21, kp_22, kp_23, kp_24, kp_25, kp_26, kp_27, kp_28, kp_29, kp_30, kp_31, kp_32, kp_33, kp_34]) <;> omega)) | (with_reducible exact q_takeb) | ((with_reducible apply q_deep_y rfl) <;> omega) | ((with_reducible apply q_deep_n R rfl) <;> first | omega | assumption) | (with_reducible exact q_needb) | (with_reducible exact r_need1) | ((with_reducible apply r_need0 R hn) <;> first | omega | assumption)); skip)
    | ((with_reducible apply X_if); focus (first | exact rfl | (with_reducible exact n00) | exact kp_y (by assumption) (by decide)); skip)
    | ((with_reducible apply X_nif); focus (first | exact n10 | ((simp (disch := first | assumption | omega | exact ht _ (by omega)) only [lit, n_eq, n_le, kp_0, kp_1, kp_2, kp_3, kp_4, kp_5, kp_6, kp_7, kp_8, kp_9, kp_10, kp_11, kp_12, kp_13, kp_14, kp_15, kp_16, kp_17, kp_18, kp_19, kp_20, kp_21, kp_22, kp_23, kp_24, kp_25, kp_26, kp_27, kp_28, kp_29, kp_30, kp_31, kp_32, kp_33, kp_34]) <;> omega)); skip))
              refine X_I s2 ?_
              repeat (first
    | with_reducible refine A_VI ?_
    | with_reducible refine A_VV ?_
    | with_reducible refine A_Vif ?_
    | with_reducible refine A_Vs ?_
    | with_reducible refine A_II ?_
    | with_reducible refine A_IV ?_
    | with_reducible refine A_Iif ?_
    | with_reducible refine A_Is ?_
    | with_reducible refine A_Ichk ?_
    | ((with_reducible apply X_bndE); focus (first | ((with_reducible apply r_p R hn) <;> first | omega | assumption)); skip)
    | with_reducible refine X_bnd ?_
    | ((with_reducible apply X_chk); focus (((with_reducible apply r_i hn)) <;> omega); skip)
    | ((with_reducible apply X_I); focus (first | ((with_reducible apply r_look R hn) <;> first | omega | assumption) | (with_reducible exact q_look1) | ((with_reducible apply r_draft) <;> first | omega | exact rfl | exact r_p R hn (by omega) (by assumption)) | ((with_reducible apply r_name_y R hn) <;> first | omega | assumption)); skip)
    | ((with_reducible apply X_V); focus (first | ((with_reducible apply r_take_y R hn) <;> first | omega | assumption | first | exact rfl | (with_reducible exact n00) | exact kp_y (by assumption) (by decide)) | ((with_reducible apply r_take_n R hn) <;> first | omega | assumption | first | exact n10 | ((simp (disch := first | assumption | omega | exact ht _ (by omega)) only [lit, n_eq, n_le, kp_0, kp_1, kp_2, kp_3, kp_4, kp_5, kp_6, kp_7, kp_8, kp_9, kp_10, kp_11, kp_12, kp_13, kp_14, kp_15, kp_16, kp_17, kp_18, kp_19, kp_20, kp_21, kp_22, kp_23, kp_24, kp_25, kp_26, kp_27, kp_28, kp_29, kp_30, kp_31, kp_32, kp_33, kp_34]) <;> omega)) | (with_reducible exact q_takeb) | ((with_reducible apply q_deep_y rfl) <;> omega) | ((with_reducible apply q_deep_n R rfl) <;> first | omega | assumption) | (with_reducible exact q_needb) | (with_reducible exact r_need1) | ((with_reducible apply r_need0 R hn) <;> first | omega | assumption)); skip)
    | ((with_reducible apply X_if); focus (first | exact rfl | (with_reducible exact n00) | exact kp_y (by assumption) (by decide)); skip)
    | ((with_reducible apply X_nif); focus (first | exact n10 | ((simp (disch := first | assumption | omega | exact ht _ (by omega)) only [lit, n_eq, n_le, kp_0, kp_1, kp_2, kp_3, kp_4, kp_5, kp_6, kp_7, kp_8, kp_9, kp_10, kp_11, kp_12, kp_13, kp_14, kp_15, kp_16, kp_17, kp_18, kp_19, kp_20, kp_21, kp_22, kp_23, kp_24, kp_25, kp_26, kp_27, kp_28, kp_29, kp_30, kp_31, kp_32, kp_33, kp_34]) <;> omega)); skip))
              refine X_V (hj3 _) ?_
              repeat (first
    | with_reducible refine A_VI ?_
    | with_reducible refine A_VV ?_
    | with_reducible refine A_Vif ?_
    | with_reducible refine A_Vs ?_
    | with_reducible refine A_II ?_
    | with_reducible refine A_IV ?_
    | with_reducible refine A_Iif ?_
    | with_reducible refine A_Is ?_
    | with_reducible refine A_Ichk ?_
    | ((with_reducible apply X_bndE); focus (first | ((with_reducible apply r_p R hn) <;> first | omega | assumption)); skip)
    | with_reducible refine X_bnd ?_
    | ((with_reducible apply X_chk); focus (((with_reducible apply r_i hn)) <;> omega); skip)
    | ((with_reducible apply X_I); focus (first | ((with_reducible apply r_look R hn) <;> first | omega | assumption) | (with_reducible exact q_look1) | ((with_reducible apply r_draft) <;> first | omega | exact rfl | exact r_p R hn (by omega) (by assumption)) | ((with_reducible apply r_name_y R hn) <;> first | omega | assumption)); skip)
    | ((with_reducible apply X_V); focus (first | ((with_reducible apply r_take_y R hn) <;> first | omega | assumption | first | exact rfl | (with_reducible exact n00) | exact kp_y (by assumption) (by decide)) | ((with_reducible apply r_take_n R hn) <;> first | omega | assumption | first | exact n10 | ((simp (disch := first | assumption | omega | exact ht _ (by omega)) only [lit, n_eq, n_le, kp_0, kp_1, kp_2, kp_3, kp_4, kp_5, kp_6, kp_7, kp_8, kp_9, kp_10, kp_11, kp_12, kp_13, kp_14, kp_15, kp_16, kp_17, kp_18, kp_19, kp_20, kp_21, kp_22, kp_23, kp_24, kp_25, kp_26, kp_27, kp_28, kp_29, kp_30, kp_31, kp_32, kp_33, kp_34]) <;> omega)) | (with_reducible exact q_takeb) | ((with_reducible apply q_deep_y rfl) <;> omega) | ((with_reducible apply q_deep_n R rfl) <;> first | omega | assumption) | (with_reducible exact q_needb) | (with_reducible exact r_need1) | ((with_reducible apply r_need0 R hn) <;> first | omega | assumption)); skip)
    | ((with_reducible apply X_if); focus (first | exact rfl | (with_reducible exact n00) | exact kp_y (by assumption) (by decide)); skip)
    | ((with_reducible apply X_nif); focus (first | exact n10 | ((simp (disch := first | assumption | omega | exact ht _ (by omega)) only [lit, n_eq, n_le, kp_0, kp_1, kp_2, kp_3, kp_4, kp_5, kp_6, kp_7, kp_8, kp_9, kp_10, kp_11, kp_12, kp_13, kp_14, kp_15, kp_16, kp_17, kp_18, kp_19, kp_20, kp_21, kp_22, kp_23, kp_24, kp_25, kp_26, kp_27, kp_28, kp_29, kp_30, kp_31, kp_32, kp_33, kp_34]) <;> omega)); skip))
              rfl
          · refine OutK_b (q := qe) (x := post (one dr 13 (tp q) (nI q) .leaf) ++ post (one i' k' p' v' c') ++ post (one ie ke pe ve ce)) ?_ rfl ?_ v2 v3
            · rw [← List.append_assoc, ← List.append_assoc]
              unfold f_PA_assignment k_PA_assignment_31
              rw [hd1]
              repeat (first
    | ((with_reducible apply X_bndE); focus (first | ((with_reducible apply pz_pp h') <;> omega) | ((with_reducible apply pz_kk h') <;> omega) | (with_reducible exact pz_14)); skip)
    | with_reducible refine X_bnd ?_
    | ((with_reducible apply X_chk); focus (first | exact a1 | exact a2 | exact a3 | exact a4 | exact a5 | ((with_reducible apply pz_i1 h') <;> omega) | ((with_reducible apply pz_i2 h') <;> omega)); skip)
    | ((with_reducible apply X_rfO); focus (first | exact c1 | exact c2 | exact c5); skip)
    | ((with_reducible apply X_I); focus (first | ((with_reducible apply p_kaC h') <;> omega) | ((with_reducible apply p_paC h') <;> omega) | ((with_reducible apply p_skip_y h') <;> first | omega | ((simp (disch := omega) only [lit, n_eq]) <;> omega)) | ((with_reducible apply p_skip_n h') <;> first | omega | ((simp (disch := first | omega | exact Nat.lt_trans (ht _ (by omega)) (by omega)) only [lit, n_eq]) <;> omega))); skip)
    | ((with_reducible apply X_if); focus (first | (with_reducible exact rfl) | (with_reducible exact n00) | ((simp (disch := omega) only [lit, n_eq]) <;> omega)); skip)
    | ((with_reducible apply X_nif); focus (first | exact n10 | ((with_reducible apply p_cnt h') <;> omega) | ((simp (disch := first | omega | exact Nat.lt_trans (ht _ (by omega)) (by omega)) only [lit, n_eq]) <;> omega)); skip)
    | ((with_reducible apply X_T); focus (first | ((with_reducible apply p_take_y h') <;> first | omega | ((simp (disch := omega) only [lit, n_eq]) <;> omega)) | ((with_reducible apply p_limit_y h' rfl) <;> omega)); skip)
    | ((with_reducible apply X_Tt); focus (first | ((with_reducible apply p_take_n h') <;> first | omega | ((simp (disch := first | omega | exact Nat.lt_trans (ht _ (by omega)) (by omega)) only [lit, n_eq]) <;> omega)) | ((with_reducible apply p_limit_n h' rfl) <;> omega)); skip))
              refine X_T hnC ?_
              repeat (first
    | ((with_reducible apply X_bndE); focus (first | ((with_reducible apply pz_pp h') <;> omega) | ((with_reducible apply pz_kk h') <;> omega) | (with_reducible exact pz_14)); skip)
    | with_reducible refine X_bnd ?_
    | ((with_reducible apply X_chk); focus (first | exact a1 | exact a2 | exact a3 | exact a4 | exact a5 | ((with_reducible apply pz_i1 h') <;> omega) | ((with_reducible apply pz_i2 h') <;> omega)); skip)
    | ((with_reducible apply X_rfO); focus (first | exact c1 | exact c2 | exact c5); skip)
    | ((with_reducible apply X_I); focus (first | ((with_reducible apply p_kaC h') <;> omega) | ((with_reducible apply p_paC h') <;> omega) | ((with_reducible apply p_skip_y h') <;> first | omega | ((simp (disch := omega) only [lit, n_eq]) <;> omega)) | ((with_reducible apply p_skip_n h') <;> first | omega | ((simp (disch := first | omega | exact Nat.lt_trans (ht _ (by omega)) (by omega)) only [lit, n_eq]) <;> omega))); skip)
    | ((with_reducible apply X_if); focus (first | (with_reducible exact rfl) | (with_reducible exact n00) | ((simp (disch := omega) only [lit, n_eq]) <;> omega)); skip)
    | ((with_reducible apply X_nif); focus (first | exact n10 | ((with_reducible apply p_cnt h') <;> omega) | ((simp (disch := first | omega | exact Nat.lt_trans (ht _ (by omega)) (by omega)) only [lit, n_eq]) <;> omega)); skip)
    | ((with_reducible apply X_T); focus (first | ((with_reducible apply p_take_y h') <;> first | omega | ((simp (disch := omega) only [lit, n_eq]) <;> omega)) | ((with_reducible apply p_limit_y h' rfl) <;> omega)); skip)
    | ((with_reducible apply X_Tt); focus (first | ((with_reducible apply p_take_n h') <;> first | omega | ((simp (disch := first | omega | exact Nat.lt_trans (ht _ (by omega)) (by omega)) only [lit, n_eq]) <;> omega)) | ((with_reducible apply p_limit_n h' rfl) <;> omega)); skip))
              refine X_T x1 ?_
              repeat (first
    | ((with_reducible apply X_bndE); focus (first | ((with_reducible apply pz_pp h') <;> omega) | ((with_reducible apply pz_kk h') <;> omega) | (with_reducible exact pz_14)); skip)
    | with_reducible refine X_bnd ?_
    | ((with_reducible apply X_chk); focus (first | exact a1 | exact a2 | exact a3 | exact a4 | exact a5 | ((with_reducible apply pz_i1 h') <;> omega) | ((with_reducible apply pz_i2 h') <;> omega)); skip)
    | ((with_reducible apply X_rfO); focus (first | exact c1 | exact c2 | exact c5); skip)
    | ((with_reducible apply X_I); focus (first | ((with_reducible apply p_kaC h') <;> omega) | ((with_reducible apply p_paC h') <;> omega) | ((with_reducible apply p_skip_y h') <;> first | omega | ((simp (disch := omega) only [lit, n_eq]) <;> omega)) | ((with_reducible apply p_skip_n h') <;> first | omega | ((simp (disch := first | omega | exact Nat.lt_trans (ht _ (by omega)) (by omega)) only [lit, n_eq]) <;> omega))); skip)
    | ((with_reducible apply X_if); focus (first | (with_reducible exact rfl) | (with_reducible exact n00) | ((simp (disch := omega) only [lit, n_eq]) <;> omega)); skip)
    | ((with_reducible apply X_nif); focus (first | exact n10 | ((with_reducible apply p_cnt h') <;> omega) | ((simp (disch := first | omega | exact Nat.lt_trans (ht _ (by omega)) (by omega)) only [lit, n_eq]) <;> omega)); skip)
    | ((with_reducible apply X_T); focus (first | ((with_reducible apply p_take_y h') <;> first | omega | ((simp (disch := omega) only [lit, n_eq]) <;> omega)) | ((with_reducible apply p_limit_y h' rfl) <;> omega)); skip)
    | ((with_reducible apply X_Tt); focus (first | ((with_reducible apply p_take_n h') <;> first | omega | ((simp (disch := first | omega | exact Nat.lt_trans (ht _ (by omega)) (by omega)) only [lit, n_eq]) <;> omega)) | ((with_reducible apply p_limit_n h' rfl) <;> omega)); skip))
              refine X_T s1 ?_
              repeat (first
    | ((with_reducible apply X_bndE); focus (first | ((with_reducible apply pz_pp h') <;> omega) | ((with_reducible apply pz_kk h') <;> omega) | (with_reducible exact pz_14)); skip)
    | with_reducible refine X_bnd ?_
    | ((with_reducible apply X_chk); focus (first | exact a1 | exact a2 | exact a3 | exact a4 | exact a5 | ((with_reducible apply pz_i1 h') <;> omega) | ((with_reducible apply pz_i2 h') <;> omega)); skip)
    | ((with_reducible apply X_rfO); focus (first | exact c1 | exact c2 | exact c5); skip)
    | ((with_reducible apply X_I); focus (first | ((with_reducible apply p_kaC h') <;> omega) | ((with_reducible apply p_paC h') <;> omega) | ((with_reducible apply p_skip_y h') <;> first | omega | ((simp (disch := omega) only [lit, n_eq]) <;> omega)) | ((with_reducible apply p_skip_n h') <;> first | omega | ((simp (disch := first | omega | exact Nat.lt_trans (ht _ (by omega)) (by omega)) only [lit, n_eq]) <;> omega))); skip)
    | ((with_reducible apply X_if); focus (first | (with_reducible exact rfl) | (with_reducible exact n00) | ((simp (disch := omega) only [lit, n_eq]) <;> omega)); skip)
    | ((with_reducible apply X_nif); focus (first | exact n10 | ((with_reducible apply p_cnt h') <;> omega) | ((simp (disch := first | omega | exact Nat.lt_trans (ht _ (by omega)) (by omega)) only [lit, n_eq]) <;> omega)); skip)
    | ((with_reducible apply X_T); focus (first | ((with_reducible apply p_take_y h') <;> first | omega | ((simp (disch := omega) only [lit, n_eq]) <;> omega)) | ((with_reducible apply p_limit_y h' rfl) <;> omega)); skip)
    | ((with_reducible apply X_Tt); focus (first | ((with_reducible apply p_take_n h') <;> first | omega | ((simp (disch := first | omega | exact Nat.lt_trans (ht _ (by omega)) (by omega)) only [lit, n_eq]) <;> omega)) | ((with_reducible apply p_limit_n h' rfl) <;> omega)); skip))
              rfl
            · unfold f_RM_statement f_RM_named f_RM_sums k_RM_named_217 k_RM_named_108
              simp only [hd1]
              repeat (first
    | with_reducible refine M_VI ?_
    | with_reducible refine M_VV ?_
    | with_reducible refine M_Vif ?_
    | with_reducible refine M_Vs ?_
    | with_reducible refine M_II ?_
    | with_reducible refine M_IV ?_
    | with_reducible refine M_Iif ?_
    | with_reducible refine M_Is ?_
    | with_reducible refine M_Ichk ?_
    | ((with_reducible apply BM_bndE); focus (first | ((with_reducible apply r_p R hn) <;> first | omega | assumption)); skip)
    | with_reducible refine BM_bnd ?_
    | ((with_reducible apply BM_chk); focus (((with_reducible apply r_i hn)) <;> omega); skip)
    | ((with_reducible apply BM_I); focus (first | ((with_reducible apply r_look R hn) <;> first | omega | assumption) | (with_reducible exact q_look1) | ((with_reducible apply r_draft) <;> first | omega | exact rfl | exact r_p R hn (by omega) (by assumption)) | ((with_reducible apply r_db) <;> omega) | ((with_reducible apply r_nb) <;> omega) | ((with_reducible apply r_nameb) <;> omega) | ((with_reducible apply r_name_y R hn) <;> first | omega | assumption) | ((with_reducible apply r_name_n R hn) <;> first | omega | assumption | exact ht _ (by omega))); skip)
    | ((with_reducible apply BM_V); focus (first | ((with_reducible apply r_take_y R hn) <;> first | omega | assumption | first | exact rfl | (with_reducible exact n00) | exact kp_y (by assumption) (by decide)) | ((with_reducible apply r_take_n R hn) <;> first | omega | assumption | first | exact n10 | ((simp (disch := first | assumption | omega | exact ht _ (by omega)) only [lit, n_eq, n_le, kp_0, kp_1, kp_2, kp_3, kp_4, kp_5, kp_6, kp_7, kp_8, kp_9, kp_10, kp_11, kp_12, kp_13, kp_14, kp_15, kp_16, kp_17, kp_18, kp_19, kp_20, kp_21, kp_22, kp_23, kp_24, kp_25, kp_26, kp_27, kp_28, kp_29, kp_30, kp_31, kp_32, kp_33, kp_34]) <;> omega)) | (with_reducible exact q_takeb) | ((with_reducible apply q_deep_y rfl) <;> omega) | ((with_reducible apply q_deep_n R rfl) <;> first | omega | assumption) | ((with_reducible apply q_deepb' rfl) <;> omega) | (with_reducible exact q_needb) | (with_reducible exact r_need1) | ((with_reducible apply r_need0 R hn) <;> first | omega | assumption)); skip)
    | ((with_reducible apply BM_if); focus (first | exact rfl | (with_reducible exact n00) | exact kp_y (by assumption) (by decide)); skip)
    | ((with_reducible apply BM_nif); focus (first | exact n10 | ((simp (disch := first | assumption | omega | exact ht _ (by omega)) only [lit, n_eq, n_le, kp_0, kp_1, kp_2, kp_3, kp_4, kp_5, kp_6, kp_7, kp_8, kp_9, kp_10, kp_11, kp_12, kp_13, kp_14, kp_15, kp_16, kp_17, kp_18, kp_19, kp_20, kp_21, kp_22, kp_23, kp_24, kp_25, kp_26, kp_27, kp_28, kp_29, kp_30, kp_31, kp_32, kp_33, kp_34]) <;> omega)); skip)
    | (with_reducible refine bm_jn ?_ rfl)
    | ((with_reducible apply bm_join); (focus (first | assumption | exact BI_new (by assumption) | exact BI_new (BI_new (by assumption)) | exact BI_new (BI_new (BI_new (by assumption))))); (focus omega); (focus omega); (focus (first | assumption | exact Or.inr ⟨_, by omega, rfl⟩)); intro _ _)
    | exact ⟨_, _, _, (by with_reducible rfl), by omega, by omega, (by first | assumption | exact BI_new (by assumption) | exact BI_new (BI_new (by assumption)) | exact BI_new (BI_new (BI_new (by assumption)))), (by first | exact Or.inl rfl | assumption | exact Or.inr ⟨_, by omega, rfl⟩)⟩)
              refine BM_V (hj1 _) ?_
              repeat (first
    | with_reducible refine M_VI ?_
    | with_reducible refine M_VV ?_
    | with_reducible refine M_Vif ?_
    | with_reducible refine M_Vs ?_
    | with_reducible refine M_II ?_
    | with_reducible refine M_IV ?_
    | with_reducible refine M_Iif ?_
    | with_reducible refine M_Is ?_
    | with_reducible refine M_Ichk ?_
    | ((with_reducible apply BM_bndE); focus (first | ((with_reducible apply r_p R hn) <;> first | omega | assumption)); skip)
    | with_reducible refine BM_bnd ?_
    | ((with_reducible apply BM_chk); focus (((with_reducible apply r_i hn)) <;> omega); skip)
    | ((with_reducible apply BM_I); focus (first | ((with_reducible apply r_look R hn) <;> first | omega | assumption) | (with_reducible exact q_look1) | ((with_reducible apply r_draft) <;> first | omega | exact rfl | exact r_p R hn (by omega) (by assumption)) | ((with_reducible apply r_db) <;> omega) | ((with_reducible apply r_nb) <;> omega) | ((with_reducible apply r_nameb) <;> omega) | ((with_reducible apply r_name_y R hn) <;> first | omega | assumption) | ((with_reducible apply r_name_n R hn) <;> first | omega | assumption | exact ht _ (by omega))); skip)
    | ((with_reducible apply BM_V); focus (first | ((with_reducible apply r_take_y R hn) <;> first | omega | assumption | first | exact rfl | (with_reducible exact n00) | exact kp_y (by assumption) (by decide)) | ((with_reducible apply r_take_n R hn) <;> first | omega | assumption | first | exact n10 | ((simp (disch := first | assumption | omega | exact ht _ (by omega)) only [lit, n_eq, n_le, kp_0, kp_1, kp_2, kp_3, kp_4, kp_5, kp_6, kp_7, kp_8, kp_9, kp_10, kp_11, kp_12, kp_13, kp_14, kp_15, kp_16, kp_17, kp_18, kp_19, kp_20, kp_21, kp_22, kp_23, kp_24, kp_25, kp_26, kp_27, kp_28, kp_29, kp_30, kp_31, kp_32, kp_33, kp_34]) <;> omega)) | (with_reducible exact q_takeb) | ((with_reducible apply q_deep_y rfl) <;> omega) | ((with_reducible apply q_deep_n R rfl) <;> first | omega | assumption) | ((with_reducible apply q_deepb' rfl) <;> omega) | (with_reducible exact q_needb) | (with_reducible exact r_need1) | ((with_reducible apply r_need0 R hn) <;> first | omega | assumption)); skip)
    | ((with_reducible apply BM_if); focus (first | exact rfl | (with_reducible exact n00) | exact kp_y (by assumption) (by decide)); skip)
    | ((with_reducible apply BM_nif); focus (first | exact n10 | ((simp (disch := first | assumption | omega | exact ht _ (by omega)) only [lit, n_eq, n_le, kp_0, kp_1, kp_2, kp_3, kp_4, kp_5, kp_6, kp_7, kp_8, kp_9, kp_10, kp_11, kp_12, kp_13, kp_14, kp_15, kp_16, kp_17, kp_18, kp_19, kp_20, kp_21, kp_22, kp_23, kp_24, kp_25, kp_26, kp_27, kp_28, kp_29, kp_30, kp_31, kp_32, kp_33, kp_34]) <;> omega)); skip)
    | (with_reducible refine bm_jn ?_ rfl)
    | ((with_reducible apply bm_join); (focus (first | assumption | exact BI_new (by assumption) | exact BI_new (BI_new (by assumption)) | exact BI_new (BI_new (BI_new (by assumption))))); (focus omega); (focus omega); (focus (first | assumption | exact Or.inr ⟨_, by omega, rfl⟩)); intro _ _)
    | exact ⟨_, _, _, (by with_reducible rfl), by omega, by omega, (by first | assumption | exact BI_new (by assumption) | exact BI_new (BI_new (by assumption)) | exact BI_new (BI_new (BI_new (by assumption)))), (by first | exact Or.inl rfl | assumption | exact Or.inr ⟨_, by omega, rfl⟩)⟩)
              refine BM_I x2 ?_
              repeat (first
    | with_reducible refine M_VI ?_
    | with_reducible refine M_VV ?_
    | with_reducible refine M_Vif ?_
    | with_reducible refine M_Vs ?_
    | with_reducible refine M_II ?_
    | with_reducible refine M_IV ?_
    | with_reducible refine M_Iif ?_
    | with_reducible refine M_Is ?_
    | with_reducible refine M_Ichk ?_
    | ((with_reducible apply BM_bndE); focus (first | ((with_reducible apply r_p R hn) <;> first | omega | assumption)); skip)
    | with_reducible refine BM_bnd ?_
    | ((with_reducible apply BM_chk); focus (((with_reducible apply r_i hn)) <;> omega); skip)
    | ((with_reducible apply BM_I); focus (first | ((with_reducible apply r_look R hn) <;> first | omega | assumption) | (with_reducible exact q_look1) | ((with_reducible apply r_draft) <;> first | omega | exact rfl | exact r_p R hn (by omega) (by assumption)) | ((with_reducible apply r_db) <;> omega) | ((with_reducible apply r_nb) <;> omega) | ((with_reducible apply r_nameb) <;> omega) | ((with_reducible apply r_name_y R hn) <;> first | omega | assumption) | ((with_reducible apply r_name_n R hn) <;> first | omega | assumption | exact ht _ (by omega))); skip)
    | ((with_reducible apply BM_V); focus (first | ((with_reducible apply r_take_y R hn) <;> first | omega | assumption | first | exact rfl | (with_reducible exact n00) | exact kp_y (by assumption) (by decide)) | ((with_reducible apply r_take_n R hn) <;> first | omega | assumption | first | exact n10 | ((simp (disch := first | assumption | omega | exact ht _ (by omega)) only [lit, n_eq, n_le, kp_0, kp_1, kp_2, kp_3, kp_4, kp_5, kp_6, kp_7, kp_8, kp_9, kp_10, kp_11, kp_12, kp_13, kp_14, kp_15, kp_16, kp_17, kp_18, kp_19, kp_20, kp_21, kp_22, kp_23, kp_24, kp_25, kp_26, kp_27, kp_28, kp_29, kp_30, kp_31, kp_32, kp_33, kp_34]) <;> omega)) | (with_reducible exact q_takeb) | ((with_reducible apply q_deep_y rfl) <;> omega) | ((with_reducible apply q_deep_n R rfl) <;> first | omega | assumption) | ((with_reducible apply q_deepb' rfl) <;> omega) | (with_reducible exact q_needb) | (with_reducible exact r_need1) | ((with_reducible apply r_need0 R hn) <;> first | omega | assumption)); skip)
    | ((with_reducible apply BM_if); focus (first | exact rfl | (with_reducible exact n00) | exact kp_y (by assumption) (by decide)); skip)
    | ((with_reducible apply BM_nif); focus (first | exact n10 | ((simp (disch := first | assumption | omega | exact ht _ (by omega)) only [lit, n_eq, n_le, kp_0, kp_1, kp_2, kp_3, kp_4, kp_5, kp_6, kp_7, kp_8, kp_9, kp_10, kp_11, kp_12, kp_13, kp_14, kp_15, kp_16, kp_17, kp_18, kp_19, kp_20, kp_21, kp_22, kp_23, kp_24, kp_25, kp_26, kp_27, kp_28, kp_29, kp_30, kp_31, kp_32, kp_33, kp_34]) <;> omega)); skip)
    | (with_reducible refine bm_jn ?_ rfl)
    | ((with_reducible apply bm_join); (focus (first | assumption | exact BI_new (by assumption) | exact BI_new (BI_new (by assumption)) | exact BI_new (BI_new (BI_new (by assumption))))); (focus omega); (focus omega); (focus (first | assumption | exact Or.inr ⟨_, by omega, rfl⟩)); intro _ _)
    | exact ⟨_, _, _, (by with_reducible rfl), by omega, by omega, (by first | assumption | exact BI_new (by assumption) | exact BI_new (BI_new (by assumption)) | exact BI_new (BI_new (BI_new (by assumption)))), (by first | exact Or.inl rfl | assumption | exact Or.inr ⟨_, by omega, rfl⟩)⟩)
              refine BM_V (hj2 _) ?_
              repeat (first
    | with_reducible refine M_VI ?_
    | with_reducible refine M_VV ?_
    | with_reducible refine M_Vif ?_
    | with_reducible refine M_Vs ?_
    | with_reducible refine M_II ?_
    | with_reducible refine M_IV ?_
    | with_reducible refine M_Iif ?_
    | with_reducible refine M_Is ?_
    | with_reducible refine M_Ichk ?_
    | ((with_reducible apply BM_bndE); focus (first | ((with_reducible apply r_p R hn) <;> first | omega | assumption)); skip)
    | with_reducible refine BM_bnd ?_
    | ((with_reducible apply BM_chk); focus (((with_reducible apply r_i hn)) <;> omega); skip)
    | ((with_reducible apply BM_I); focus (first | ((with_reducible apply r_look R hn) <;> first | omega | assumption) | (with_reducible exact q_look1) | ((with_reducible apply r_draft) <;> first | omega | exact rfl | exact r_p R hn (by omega) (by assumption)) | ((with_reducible apply r_db) <;> omega) | ((with_reducible apply r_nb) <;> omega) | ((with_reducible apply r_nameb) <;> omega) | ((with_reducible apply r_name_y R hn) <;> first | omega | assumption) | ((with_reducible apply r_name_n R hn) <;> first | omega | assumption | exact ht _ (by omega))); skip)
    | ((with_reducible apply BM_V); focus (first | ((with_reducible apply r_take_y R hn) <;> first | omega | assumption | first | exact rfl | (with_reducible exact n00) | exact kp_y (by assumption) (by decide)) | ((with_reducible apply r_take_n R hn) <;> first | omega | assumption | first | exact n10 | ((simp (disch := first | assumption | omega | exact ht _ (by omega)) only [lit, n_eq, n_le, kp_0, kp_1, kp_2, kp_3, kp_4, kp_5, kp_6, kp_7, kp_8, kp_9, kp_10, kp_11, kp_12, kp_13, kp_14, kp_15, kp_16, kp_17, kp_18, kp_19, kp_20, kp_21, kp_22, kp_23, kp_24, kp_25, kp_26, kp_27, kp_28, kp_29, kp_30, kp_31, kp_32, kp_33, kp_34]) <;> omega)) | (with_reducible exact q_takeb) | ((with_reducible apply q_deep_y rfl) <;> omega) | ((with_reducible apply q_deep_n R rfl) <;> first | omega | assumption) | ((with_reducible apply q_deepb' rfl) <;> omega) | (with_reducible exact q_needb) | (with_reducible exact r_need1) | ((with_reducible apply r_need0 R hn) <;> first | omega | assumption)); skip)
    | ((with_reducible apply BM_if); focus (first | exact rfl | (with_reducible exact n00) | exact kp_y (by assumption) (by decide)); skip)
    | ((with_reducible apply BM_nif); focus (first | exact n10 | ((simp (disch := first | assumption | omega | exact ht _ (by omega)) only [lit, n_eq, n_le, kp_0, kp_1, kp_2, kp_3, kp_4, kp_5, kp_6, kp_7, kp_8, kp_9, kp_10, kp_11, kp_12, kp_13, kp_14, kp_15, kp_16, kp_17, kp_18, kp_19, kp_20, kp_21, kp_22, kp_23, kp_24, kp_25, kp_26, kp_27, kp_28, kp_29, kp_30, kp_31, kp_32, kp_33, kp_34]) <;> omega)); skip)
    | (with_reducible refine bm_jn ?_ rfl)
    | ((with_reducible apply bm_join); (focus (first | assumption | exact BI_new (by assumption) | exact BI_new (BI_new (by assumption)) | exact BI_new (BI_new (BI_new (by assumption))))); (focus omega); (focus omega); (focus (first | assumption | exact Or.inr ⟨_, by omega, rfl⟩)); intro _ _)
    | exact ⟨_, _, _, (by with_reducible rfl), by omega, by omega, (by first | assumption | exact BI_new (by assumption) | exact BI_new (BI_new (by assumption)) | exact BI_new (BI_new (BI_new (by assumption)))), (by first | exact Or.inl rfl | assumption | exact Or.inr ⟨_, by omega, rfl⟩)⟩)
              refine BM_I s2 ?_
              repeat (first
    | with_reducible refine M_VI ?_
    | with_reducible refine M_VV ?_
    | with_reducible refine M_Vif ?_
    | with_reducible refine M_Vs ?_
    | with_reducible refine M_II ?_
    | with_reducible refine M_IV ?_
    | with_reducible refine M_Iif ?_
    | with_reducible refine M_Is ?_
    | with_reducible refine M_Ichk ?_
    | ((with_reducible apply BM_bndE); focus (first | ((with_reducible apply r_p R hn) <;> first | omega | assumption)); skip)
    | with_reducible refine BM_bnd ?_
    | ((with_reducible apply BM_chk); focus (((with_reducible apply r_i hn)) <;> omega); skip)
    | ((with_reducible apply BM_I); focus (first | ((with_reducible apply r_look R hn) <;> first | omega | assumption) | (with_reducible exact q_look1) | ((with_reducible apply r_draft) <;> first | omega | exact rfl | exact r_p R hn (by omega) (by assumption)) | ((with_reducible apply r_db) <;> omega) | ((with_reducible apply r_nb) <;> omega) | ((with_reducible apply r_nameb) <;> omega) | ((with_reducible apply r_name_y R hn) <;> first | omega | assumption) | ((with_reducible apply r_name_n R hn) <;> first | omega | assumption | exact ht _ (by omega))); skip)
    | ((with_reducible apply BM_V); focus (first | ((with_reducible apply r_take_y R hn) <;> first | omega | assumption | first | exact rfl | (with_reducible exact n00) | exact kp_y (by assumption) (by decide)) | ((with_reducible apply r_take_n R hn) <;> first | omega | assumption | first | exact n10 | ((simp (disch := first | assumption | omega | exact ht _ (by omega)) only [lit, n_eq, n_le, kp_0, kp_1, kp_2, kp_3, kp_4, kp_5, kp_6, kp_7, kp_8, kp_9, kp_10, kp_11, kp_12, kp_13, kp_14, kp_15, kp_16, kp_17, kp_18, kp_19, kp_20, kp_21, kp_22, kp_23, kp_24, kp_25, kp_26, kp_27, kp_28, kp_29, kp_30, kp_31, kp_32, kp_33, kp_34]) <;> omega)) | (with_reducible exact q_takeb) | ((with_reducible apply q_deep_y rfl) <;> omega) | ((with_reducible apply q_deep_n R rfl) <;> first | omega | assumption) | ((with_reducible apply q_deepb' rfl) <;> omega) | (with_reducible exact q_needb) | (with_reducible exact r_need1) | ((with_reducible apply r_need0 R hn) <;> first | omega | assumption)); skip)
    | ((with_reducible apply BM_if); focus (first | exact rfl | (with_reducible exact n00) | exact kp_y (by assumption) (by decide)); skip)
    | ((with_reducible apply BM_nif); focus (first | exact n10 | ((simp (disch := first | assumption | omega | exact ht _ (by omega)) only [lit, n_eq, n_le, kp_0, kp_1, kp_2, kp_3, kp_4, kp_5, kp_6, kp_7, kp_8, kp_9, kp_10, kp_11, kp_12, kp_13, kp_14, kp_15, kp_16, kp_17, kp_18, kp_19, kp_20, kp_21, kp_22, kp_23, kp_24, kp_25, kp_26, kp_27, kp_28, kp_29, kp_30, kp_31, kp_32, kp_33, kp_34]) <;> omega)); skip)
    | (with_reducible refine bm_jn ?_ rfl)
    | ((with_reducible apply bm_join); (focus (first | assumption | exact BI_new (by assumption) | exact BI_new (BI_new (by assumption)) | exact BI_new (BI_new (BI_new (by assumption))))); (focus omega); (focus omega); (focus (first | assumption | exact Or.inr ⟨_, by omega, rfl⟩)); intro _ _)
    | exact ⟨_, _, _, (by with_reducible rfl), by omega, by omega, (by first | assumption | exact BI_new (by assumption) | exact BI_new (BI_new (by assumption)) | exact BI_new (BI_new (BI_new (by assumption)))), (by first | exact Or.inl rfl | assumption | exact Or.inr ⟨_, by omega, rfl⟩)⟩)
              refine BM_V (hj3 _) ?_
              have hBI := hb3.2.2.2
              repeat (first
    | with_reducible refine M_VI ?_
    | with_reducible refine M_VV ?_
    | with_reducible refine M_Vif ?_
    | with_reducible refine M_Vs ?_
    | with_reducible refine M_II ?_
    | with_reducible refine M_IV ?_
    | with_reducible refine M_Iif ?_
    | with_reducible refine M_Is ?_
    | with_reducible refine M_Ichk ?_
    | ((with_reducible apply BM_bndE); focus (first | ((with_reducible apply r_p R hn) <;> first | omega | assumption)); skip)
    | with_reducible refine BM_bnd ?_
    | ((with_reducible apply BM_chk); focus (((with_reducible apply r_i hn)) <;> omega); skip)
    | ((with_reducible apply BM_I); focus (first | ((with_reducible apply r_look R hn) <;> first | omega | assumption) | (with_reducible exact q_look1) | ((with_reducible apply r_draft) <;> first | omega | exact rfl | exact r_p R hn (by omega) (by assumption)) | ((with_reducible apply r_db) <;> omega) | ((with_reducible apply r_nb) <;> omega) | ((with_reducible apply r_nameb) <;> omega) | ((with_reducible apply r_name_y R hn) <;> first | omega | assumption) | ((with_reducible apply r_name_n R hn) <;> first | omega | assumption | exact ht _ (by omega))); skip)
    | ((with_reducible apply BM_V); focus (first | ((with_reducible apply r_take_y R hn) <;> first | omega | assumption | first | exact rfl | (with_reducible exact n00) | exact kp_y (by assumption) (by decide)) | ((with_reducible apply r_take_n R hn) <;> first | omega | assumption | first | exact n10 | ((simp (disch := first | assumption | omega | exact ht _ (by omega)) only [lit, n_eq, n_le, kp_0, kp_1, kp_2, kp_3, kp_4, kp_5, kp_6, kp_7, kp_8, kp_9, kp_10, kp_11, kp_12, kp_13, kp_14, kp_15, kp_16, kp_17, kp_18, kp_19, kp_20, kp_21, kp_22, kp_23, kp_24, kp_25, kp_26, kp_27, kp_28, kp_29, kp_30, kp_31, kp_32, kp_33, kp_34]) <;> omega)) | (with_reducible exact q_takeb) | ((with_reducible apply q_deep_y rfl) <;> omega) | ((with_reducible apply q_deep_n R rfl) <;> first | omega | assumption) | ((with_reducible apply q_deepb' rfl) <;> omega) | (with_reducible exact q_needb) | (with_reducible exact r_need1) | ((with_reducible apply r_need0 R hn) <;> first | omega | assumption)); skip)
    | ((with_reducible apply BM_if); focus (first | exact rfl | (with_reducible exact n00) | exact kp_y (by assumption) (by decide)); skip)
    | ((with_reducible apply BM_nif); focus (first | exact n10 | ((simp (disch := first | assumption | omega | exact ht _ (by omega)) only [lit, n_eq, n_le, kp_0, kp_1, kp_2, kp_3, kp_4, kp_5, kp_6, kp_7, kp_8, kp_9, kp_10, kp_11, kp_12, kp_13, kp_14, kp_15, kp_16, kp_17, kp_18, kp_19, kp_20, kp_21, kp_22, kp_23, kp_24, kp_25, kp_26, kp_27, kp_28, kp_29, kp_30, kp_31, kp_32, kp_33, kp_34]) <;> omega)); skip)
    | (with_reducible refine bm_jn ?_ rfl)
    | ((with_reducible apply bm_join); (focus (first | assumption | exact BI_new (by assumption) | exact BI_new (BI_new (by assumption)) | exact BI_new (BI_new (BI_new (by assumption))))); (focus omega); (focus omega); (focus (first | assumption | exact Or.inr ⟨_, by omega, rfl⟩)); intro _ _)
    | exact ⟨_, _, _, (by with_reducible rfl), by omega, by omega, (by first | assumption | exact BI_new (by assumption) | exact BI_new (BI_new (by assumption)) | exact BI_new (BI_new (BI_new (by assumption)))), (by first | exact Or.inl rfl | assumption | exact Or.inr ⟨_, by omega, rfl⟩)⟩)
        · refine OutK_b (q := qe) (x := post (one dr 13 (tp q) (nI q) .leaf) ++ post (one i' k' p' v' c') ++ ye) ?_ rfl ?_ s7 s8
          · rw [← List.append_assoc, ← List.append_assoc]
            unfold f_PA_assignment k_PA_assignment_31
            rw [hd1]
            repeat (first
    | ((with_reducible apply X_bndE); focus (first | ((with_reducible apply pz_pp h') <;> omega) | ((with_reducible apply pz_kk h') <;> omega) | (with_reducible exact pz_14)); skip)
    | with_reducible refine X_bnd ?_
    | ((with_reducible apply X_chk); focus (first | exact a1 | exact a2 | exact a3 | exact a4 | exact a5 | ((with_reducible apply pz_i1 h') <;> omega) | ((with_reducible apply pz_i2 h') <;> omega)); skip)
    | ((with_reducible apply X_rfO); focus (first | exact c1 | exact c2 | exact c5); skip)
    | ((with_reducible apply X_I); focus (first | ((with_reducible apply p_kaC h') <;> omega) | ((with_reducible apply p_paC h') <;> omega) | ((with_reducible apply p_skip_y h') <;> first | omega | ((simp (disch := omega) only [lit, n_eq]) <;> omega)) | ((with_reducible apply p_skip_n h') <;> first | omega | ((simp (disch := first | omega | exact Nat.lt_trans (ht _ (by omega)) (by omega)) only [lit, n_eq]) <;> omega))); skip)
    | ((with_reducible apply X_if); focus (first | (with_reducible exact rfl) | (with_reducible exact n00) | ((simp (disch := omega) only [lit, n_eq]) <;> omega)); skip)
    | ((with_reducible apply X_nif); focus (first | exact n10 | ((with_reducible apply p_cnt h') <;> omega) | ((simp (disch := first | omega | exact Nat.lt_trans (ht _ (by omega)) (by omega)) only [lit, n_eq]) <;> omega)); skip)
    | ((with_reducible apply X_T); focus (first | ((with_reducible apply p_take_y h') <;> first | omega | ((simp (disch := omega) only [lit, n_eq]) <;> omega)) | ((with_reducible apply p_limit_y h' rfl) <;> omega)); skip)
    | ((with_reducible apply X_Tt); focus (first | ((with_reducible apply p_take_n h') <;> first | omega | ((simp (disch := first | omega | exact Nat.lt_trans (ht _ (by omega)) (by omega)) only [lit, n_eq]) <;> omega)) | ((with_reducible apply p_limit_n h' rfl) <;> omega)); skip))
            refine X_T hnC ?_
            repeat (first
    | ((with_reducible apply X_bndE); focus (first | ((with_reducible apply pz_pp h') <;> omega) | ((with_reducible apply pz_kk h') <;> omega) | (with_reducible exact pz_14)); skip)
    | with_reducible refine X_bnd ?_
    | ((with_reducible apply X_chk); focus (first | exact a1 | exact a2 | exact a3 | exact a4 | exact a5 | ((with_reducible apply pz_i1 h') <;> omega) | ((with_reducible apply pz_i2 h') <;> omega)); skip)
    | ((with_reducible apply X_rfO); focus (first | exact c1 | exact c2 | exact c5); skip)
    | ((with_reducible apply X_I); focus (first | ((with_reducible apply p_kaC h') <;> omega) | ((with_reducible apply p_paC h') <;> omega) | ((with_reducible apply p_skip_y h') <;> first | omega | ((simp (disch := omega) only [lit, n_eq]) <;> omega)) | ((with_reducible apply p_skip_n h') <;> first | omega | ((simp (disch := first | omega | exact Nat.lt_trans (ht _ (by omega)) (by omega)) only [lit, n_eq]) <;> omega))); skip)
    | ((with_reducible apply X_if); focus (first | (with_reducible exact rfl) | (with_reducible exact n00) | ((simp (disch := omega) only [lit, n_eq]) <;> omega)); skip)
    | ((with_reducible apply X_nif); focus (first | exact n10 | ((with_reducible apply p_cnt h') <;> omega) | ((simp (disch := first | omega | exact Nat.lt_trans (ht _ (by omega)) (by omega)) only [lit, n_eq]) <;> omega)); skip)
    | ((with_reducible apply X_T); focus (first | ((with_reducible apply p_take_y h') <;> first | omega | ((simp (disch := omega) only [lit, n_eq]) <;> omega)) | ((with_reducible apply p_limit_y h' rfl) <;> omega)); skip)
    | ((with_reducible apply X_Tt); focus (first | ((with_reducible apply p_take_n h') <;> first | omega | ((simp (disch := first | omega | exact Nat.lt_trans (ht _ (by omega)) (by omega)) only [lit, n_eq]) <;> omega)) | ((with_reducible apply p_limit_n h' rfl) <;> omega)); skip))
            refine X_T x1 ?_
            repeat (first
    | ((with_reducible apply X_bndE); focus (first | ((with_reducible apply pz_pp h') <;> omega) | ((with_reducible apply pz_kk h') <;> omega) | (with_reducible exact pz_14)); skip)
    | with_reducible refine X_bnd ?_
    | ((with_reducible apply X_chk); focus (first | exact a1 | exact a2 | exact a3 | exact a4 | exact a5 | ((with_reducible apply pz_i1 h') <;> omega) | ((with_reducible apply pz_i2 h') <;> omega)); skip)
    | ((with_reducible apply X_rfO); focus (first | exact c1 | exact c2 | exact c5); skip)
    | ((with_reducible apply X_I); focus (first | ((with_reducible apply p_kaC h') <;> omega) | ((with_reducible apply p_paC h') <;> omega) | ((with_reducible apply p_skip_y h') <;> first | omega | ((simp (disch := omega) only [lit, n_eq]) <;> omega)) | ((with_reducible apply p_skip_n h') <;> first | omega | ((simp (disch := first | omega | exact Nat.lt_trans (ht _ (by omega)) (by omega)) only [lit, n_eq]) <;> omega))); skip)
    | ((with_reducible apply X_if); focus (first | (with_reducible exact rfl) | (with_reducible exact n00) | ((simp (disch := omega) only [lit, n_eq]) <;> omega)); skip)
    | ((with_reducible apply X_nif); focus (first | exact n10 | ((with_reducible apply p_cnt h') <;> omega) | ((simp (disch := first | omega | exact Nat.lt_trans (ht _ (by omega)) (by omega)) only [lit, n_eq]) <;> omega)); skip)
    | ((with_reducible apply X_T); focus (first | ((with_reducible apply p_take_y h') <;> first | omega | ((simp (disch := omega) only [lit, n_eq]) <;> omega)) | ((with_reducible apply p_limit_y h' rfl) <;> omega)); skip)
    | ((with_reducible apply X_Tt); focus (first | ((with_reducible apply p_take_n h') <;> first | omega | ((simp (disch := first | omega | exact Nat.lt_trans (ht _ (by omega)) (by omega)) only [lit, n_eq]) <;> omega)) | ((with_reducible apply p_limit_n h' rfl) <;> omega)); skip))
            exact X_Tt s1 rfl
          · unfold f_RM_statement f_RM_named f_RM_sums k_RM_named_217 k_RM_named_108
            simp only [hd1]
            repeat (first
    | with_reducible refine M_VI ?_
    | with_reducible refine M_VV ?_
    | with_reducible refine M_Vif ?_
    | with_reducible refine M_Vs ?_
    | with_reducible refine M_II ?_
    | with_reducible refine M_IV ?_
    | with_reducible refine M_Iif ?_
    | with_reducible refine M_Is ?_
    | with_reducible refine M_Ichk ?_
    | ((with_reducible apply BM_bndE); focus (first | ((with_reducible apply r_p R hn) <;> first | omega | assumption)); skip)
    | with_reducible refine BM_bnd ?_
    | ((with_reducible apply BM_chk); focus (((with_reducible apply r_i hn)) <;> omega); skip)
    | ((with_reducible apply BM_I); focus (first | ((with_reducible apply r_look R hn) <;> first | omega | assumption) | (with_reducible exact q_look1) | ((with_reducible apply r_draft) <;> first | omega | exact rfl | exact r_p R hn (by omega) (by assumption)) | ((with_reducible apply r_db) <;> omega) | ((with_reducible apply r_nb) <;> omega) | ((with_reducible apply r_nameb) <;> omega) | ((with_reducible apply r_name_y R hn) <;> first | omega | assumption) | ((with_reducible apply r_name_n R hn) <;> first | omega | assumption | exact ht _ (by omega))); skip)
    | ((with_reducible apply BM_V); focus (first | ((with_reducible apply r_take_y R hn) <;> first | omega | assumption | first | exact rfl | (with_reducible exact n00) | exact kp_y (by assumption) (by decide)) | ((with_reducible apply r_take_n R hn) <;> first | omega | assumption | first | exact n10 | ((simp (disch := first | assumption | omega | exact ht _ (by omega)) only [lit, n_eq, n_le, kp_0, kp_1, kp_2, kp_3, kp_4, kp_5, kp_6, kp_7, kp_8, kp_9, kp_10, kp_11, kp_12, kp_13, kp_14, kp_15, kp_16, kp_17, kp_18, kp_19, kp_20, kp_21, kp_22, kp_23, kp_24, kp_25, kp_26, kp_27, kp_28, kp_29, kp_30, kp_31, kp_32, kp_33, kp_34]) <;> omega)) | (with_reducible exact q_takeb) | ((with_reducible apply q_deep_y rfl) <;> omega) | ((with_reducible apply q_deep_n R rfl) <;> first | omega | assumption) | ((with_reducible apply q_deepb' rfl) <;> omega) | (with_reducible exact q_needb) | (with_reducible exact r_need1) | ((with_reducible apply r_need0 R hn) <;> first | omega | assumption)); skip)
    | ((with_reducible apply BM_if); focus (first | exact rfl | (with_reducible exact n00) | exact kp_y (by assumption) (by decide)); skip)
    | ((with_reducible apply BM_nif); focus (first | exact n10 | ((simp (disch := first | assumption | omega | exact ht _ (by omega)) only [lit, n_eq, n_le, kp_0, kp_1, kp_2, kp_3, kp_4, kp_5, kp_6, kp_7, kp_8, kp_9, kp_10, kp_11, kp_12, kp_13, kp_14, kp_15, kp_16, kp_17, kp_18, kp_19, kp_20, kp_21, kp_22, kp_23, kp_24, kp_25, kp_26, kp_27, kp_28, kp_29, kp_30, kp_31, kp_32, kp_33, kp_34]) <;> omega)); skip)
    | (with_reducible refine bm_jn ?_ rfl)
    | ((with_reducible apply bm_join); (focus (first | assumption | exact BI_new (by assumption) | exact BI_new (BI_new (by assumption)) | exact BI_new (BI_new (BI_new (by assumption))))); (focus omega); (focus omega); (focus (first | assumption | exact Or.inr ⟨_, by omega, rfl⟩)); intro _ _)
    | exact ⟨_, _, _, (by with_reducible rfl), by omega, by omega, (by first | assumption | exact BI_new (by assumption) | exact BI_new (BI_new (by assumption)) | exact BI_new (BI_new (BI_new (by assumption)))), (by first | exact Or.inl rfl | assumption | exact Or.inr ⟨_, by omega, rfl⟩)⟩)
            refine BM_V (hj1 _) ?_
            repeat (first
    | with_reducible refine M_VI ?_
    | with_reducible refine M_VV ?_
    | with_reducible refine M_Vif ?_
    | with_reducible refine M_Vs ?_
    | with_reducible refine M_II ?_
    | with_reducible refine M_IV ?_
    | with_reducible refine M_Iif ?_
    | with_reducible refine M_Is ?_
    | with_reducible refine M_Ichk ?_
    | ((with_reducible apply BM_bndE); focus (first | ((with_reducible apply r_p R hn) <;> first | omega | assumption)); skip)
    | with_reducible refine BM_bnd ?_
    | ((with_reducible apply BM_chk); focus (((with_reducible apply r_i hn)) <;> omega); skip)
    | ((with_reducible apply BM_I); focus (first | ((with_reducible apply r_look R hn) <;> first | omega | assumption) | (with_reducible exact q_look1) | ((with_reducible apply r_draft) <;> first | omega | exact rfl | exact r_p R hn (by omega) (by assumption)) | ((with_reducible apply r_db) <;> omega) | ((with_reducible apply r_nb) <;> omega) | ((with_reducible apply r_nameb) <;> omega) | ((with_reducible apply r_name_y R hn) <;> first | omega | assumption) | ((with_reducible apply r_name_n R hn) <;> first | omega | assumption | exact ht _ (by omega))); skip)
    | ((with_reducible apply BM_V); focus (first | ((with_reducible apply r_take_y R hn) <;> first | omega | assumption | first | exact rfl | (with_reducible exact n00) | exact kp_y (by assumption) (by decide)) | ((with_reducible apply r_take_n R hn) <;> first | omega | assumption | first | exact n10 | ((simp (disch := first | assumption | omega | exact ht _ (by omega)) only [lit, n_eq, n_le, kp_0, kp_1, kp_2, kp_3, kp_4, kp_5, kp_6, kp_7, kp_8, kp_9, kp_10, kp_11, kp_12, kp_13, kp_14, kp_15, kp_16, kp_17, kp_18, kp_19, kp_20, kp_21, kp_22, kp_23, kp_24, kp_25, kp_26, kp_27, kp_28, kp_29, kp_30, kp_31, kp_32, kp_33, kp_34]) <;> omega)) | (with_reducible exact q_takeb) | ((with_reducible apply q_deep_y rfl) <;> omega) | ((with_reducible apply q_deep_n R rfl) <;> first | omega | assumption) | ((with_reducible apply q_deepb' rfl) <;> omega) | (with_reducible exact q_needb) | (with_reducible exact r_need1) | ((with_reducible apply r_need0 R hn) <;> first | omega | assumption)); skip)
    | ((with_reducible apply BM_if); focus (first | exact rfl | (with_reducible exact n00) | exact kp_y (by assumption) (by decide)); skip)
    | ((with_reducible apply BM_nif); focus (first | exact n10 | ((simp (disch := first | assumption | omega | exact ht _ (by omega)) only [lit, n_eq, n_le, kp_0, kp_1, kp_2, kp_3, kp_4, kp_5, kp_6, kp_7, kp_8, kp_9, kp_10, kp_11, kp_12, kp_13, kp_14, kp_15, kp_16, kp_17, kp_18, kp_19, kp_20, kp_21, kp_22, kp_23, kp_24, kp_25, kp_26, kp_27, kp_28, kp_29, kp_30, kp_31, kp_32, kp_33, kp_34]) <;> omega)); skip)
    | (with_reducible refine bm_jn ?_ rfl)
    | ((with_reducible apply bm_join); (focus (first | assumption | exact BI_new (by assumption) | exact BI_new (BI_new (by assumption)) | exact BI_new (BI_new (BI_new (by assumption))))); (focus omega); (focus omega); (focus (first | assumption | exact Or.inr ⟨_, by omega, rfl⟩)); intro _ _)
    | exact ⟨_, _, _, (by with_reducible rfl), by omega, by omega, (by first | assumption | exact BI_new (by assumption) | exact BI_new (BI_new (by assumption)) | exact BI_new (BI_new (BI_new (by assumption)))), (by first | exact Or.inl rfl | assumption | exact Or.inr ⟨_, by omega, rfl⟩)⟩)
            refine BM_I x2 ?_
            repeat (first
    | with_reducible refine M_VI ?_
    | with_reducible refine M_VV ?_
    | with_reducible refine M_Vif ?_
    | with_reducible refine M_Vs ?_
    | with_reducible refine M_II ?_
    | with_reducible refine M_IV ?_
    | with_reducible refine M_Iif ?_
    | with_reducible refine M_Is ?_
    | with_reducible refine M_Ichk ?_
    | ((with_reducible apply BM_bndE); focus (first | ((with_reducible apply r_p R hn) <;> first | omega | assumption)); skip)
    | with_reducible refine BM_bnd ?_
    | ((with_reducible apply BM_chk); focus (((with_reducible apply r_i hn)) <;> omega); skip)
    | ((with_reducible apply BM_I); focus (first | ((with_reducible apply r_look R hn) <;> first | omega | assumption) | (with_reducible exact q_look1) | ((with_reducible apply r_draft) <;> first | omega | exact rfl | exact r_p R hn (by omega) (by assumption)) | ((with_reducible apply r_db) <;> omega) | ((with_reducible apply r_nb) <;> omega) | ((with_reducible apply r_nameb) <;> omega) | ((with_reducible apply r_name_y R hn) <;> first | omega | assumption) | ((with_reducible apply r_name_n R hn) <;> first | omega | assumption | exact ht _ (by omega))); skip)
    | ((with_reducible apply BM_V); focus (first | ((with_reducible apply r_take_y R hn) <;> first | omega | assumption | first | exact rfl | (with_reducible exact n00) | exact kp_y (by assumption) (by decide)) | ((with_reducible apply r_take_n R hn) <;> first | omega | assumption | first | exact n10 | ((simp (disch := first | assumption | omega | exact ht _ (by omega)) only [lit, n_eq, n_le, kp_0, kp_1, kp_2, kp_3, kp_4, kp_5, kp_6, kp_7, kp_8, kp_9, kp_10, kp_11, kp_12, kp_13, kp_14, kp_15, kp_16, kp_17, kp_18, kp_19, kp_20, kp_21, kp_22, kp_23, kp_24, kp_25, kp_26, kp_27, kp_28, kp_29, kp_30, kp_31, kp_32, kp_33, kp_34]) <;> omega)) | (with_reducible exact q_takeb) | ((with_reducible apply q_deep_y rfl) <;> omega) | ((with_reducible apply q_deep_n R rfl) <;> first | omega | assumption) | ((with_reducible apply q_deepb' rfl) <;> omega) | (with_reducible exact q_needb) | (with_reducible exact r_need1) | ((with_reducible apply r_need0 R hn) <;> first | omega | assumption)); skip)
    | ((with_reducible apply BM_if); focus (first | exact rfl | (with_reducible exact n00) | exact kp_y (by assumption) (by decide)); skip)
    | ((with_reducible apply BM_nif); focus (first | exact n10 | ((simp (disch := first | assumption | omega | exact ht _ (by omega)) only [lit, n_eq, n_le, kp_0, kp_1, kp_2, kp_3, kp_4, kp_5, kp_6, kp_7, kp_8, kp_9, kp_10, kp_11, kp_12, kp_13, kp_14, kp_15, kp_16, kp_17, kp_18, kp_19, kp_20, kp_21, kp_22, kp_23, kp_24, kp_25, kp_26, kp_27, kp_28, kp_29, kp_30, kp_31, kp_32, kp_33, kp_34]) <;> omega)); skip)
    | (with_reducible refine bm_jn ?_ rfl)
    | ((with_reducible apply bm_join); (focus (first | assumption | exact BI_new (by assumption) | exact BI_new (BI_new (by assumption)) | exact BI_new (BI_new (BI_new (by assumption))))); (focus omega); (focus omega); (focus (first | assumption | exact Or.inr ⟨_, by omega, rfl⟩)); intro _ _)
    | exact ⟨_, _, _, (by with_reducible rfl), by omega, by omega, (by first | assumption | exact BI_new (by assumption) | exact BI_new (BI_new (by assumption)) | exact BI_new (BI_new (BI_new (by assumption)))), (by first | exact Or.inl rfl | assumption | exact Or.inr ⟨_, by omega, rfl⟩)⟩)
            refine BM_V (hj2 _) ?_
            repeat (first
    | with_reducible refine M_VI ?_
    | with_reducible refine M_VV ?_
    | with_reducible refine M_Vif ?_
    | with_reducible refine M_Vs ?_
    | with_reducible refine M_II ?_
    | with_reducible refine M_IV ?_
    | with_reducible refine M_Iif ?_
    | with_reducible refine M_Is ?_
    | with_reducible refine M_Ichk ?_
    | ((with_reducible apply BM_bndE); focus (first | ((with_reducible apply r_p R hn) <;> first | omega | assumption)); skip)
    | with_reducible refine BM_bnd ?_
    | ((with_reducible apply BM_chk); focus (((with_reducible apply r_i hn)) <;> omega); skip)
    | ((with_reducible apply BM_I); focus (first | ((with_reducible apply r_look R hn) <;> first | omega | assumption) | (with_reducible exact q_look1) | ((with_reducible apply r_draft) <;> first | omega | exact rfl | exact r_p R hn (by omega) (by assumption)) | ((with_reducible apply r_db) <;> omega) | ((with_reducible apply r_nb) <;> omega) | ((with_reducible apply r_nameb) <;> omega) | ((with_reducible apply r_name_y R hn) <;> first | omega | assumption) | ((with_reducible apply r_name_n R hn) <;> first | omega | assumption | exact ht _ (by omega))); skip)
    | ((with_reducible apply BM_V); focus (first | ((with_reducible apply r_take_y R hn) <;> first | omega | assumption | first | exact rfl | (with_reducible exact n00) | exact kp_y (by assumption) (by decide)) | ((with_reducible apply r_take_n R hn) <;> first | omega | assumption | first | exact n10 | ((simp (disch := first | assumption | omega | exact ht _ (by omega)) only [lit, n_eq, n_le, kp_0, kp_1, kp_2, kp_3, kp_4, kp_5, kp_6, kp_7, kp_8, kp_9, kp_10, kp_11, kp_12, kp_13, kp_14, kp_15, kp_16, kp_17, kp_18, kp_19, kp_20, kp_21, kp_22, kp_23, kp_24, kp_25, kp_26, kp_27, kp_28, kp_29, kp_30, kp_31, kp_32, kp_33, kp_34]) <;> omega)) | (with_reducible exact q_takeb) | ((with_reducible apply q_deep_y rfl) <;> omega) | ((with_reducible apply q_deep_n R rfl) <;> first | omega | assumption) | ((with_reducible apply q_deepb' rfl) <;> omega) | (with_reducible exact q_needb) | (with_reducible exact r_need1) | ((with_reducible apply r_need0 R hn) <;> first | omega | assumption)); skip)
    | ((with_reducible apply BM_if); focus (first | exact rfl | (with_reducible exact n00) | exact kp_y (by assumption) (by decide)); skip)
    | ((with_reducible apply BM_nif); focus (first | exact n10 | ((simp (disch := first | assumption | omega | exact ht _ (by omega)) only [lit, n_eq, n_le, kp_0, kp_1, kp_2, kp_3, kp_4, kp_5, kp_6, kp_7, kp_8, kp_9, kp_10, kp_11, kp_12, kp_13, kp_14, kp_15, kp_16, kp_17, kp_18, kp_19, kp_20, kp_21, kp_22, kp_23, kp_24, kp_25, kp_26, kp_27, kp_28, kp_29, kp_30, kp_31, kp_32, kp_33, kp_34]) <;> omega)); skip)
    | (with_reducible refine bm_jn ?_ rfl)
    | ((with_reducible apply bm_join); (focus (first | assumption | exact BI_new (by assumption) | exact BI_new (BI_new (by assumption)) | exact BI_new (BI_new (BI_new (by assumption))))); (focus omega); (focus omega); (focus (first | assumption | exact Or.inr ⟨_, by omega, rfl⟩)); intro _ _)
    | exact ⟨_, _, _, (by with_reducible rfl), by omega, by omega, (by first | assumption | exact BI_new (by assumption) | exact BI_new (BI_new (by assumption)) | exact BI_new (BI_new (BI_new (by assumption)))), (by first | exact Or.inl rfl | assumption | exact Or.inr ⟨_, by omega, rfl⟩)⟩)
            refine BM_I s2 ?_
            repeat (first
    | with_reducible refine M_VI ?_
    | with_reducible refine M_VV ?_
    | with_reducible refine M_Vif ?_
    | with_reducible refine M_Vs ?_
    | with_reducible refine M_II ?_
    | with_reducible refine M_IV ?_
    | with_reducible refine M_Iif ?_
    | with_reducible refine M_Is ?_
    | with_reducible refine M_Ichk ?_
    | ((with_reducible apply BM_bndE); focus (first | ((with_reducible apply r_p R hn) <;> first | omega | assumption)); skip)
    | with_reducible refine BM_bnd ?_
    | ((with_reducible apply BM_chk); focus (((with_reducible apply r_i hn)) <;> omega); skip)
    | ((with_reducible apply BM_I); focus (first | ((with_reducible apply r_look R hn) <;> first | omega | assumption) | (with_reducible exact q_look1) | ((with_reducible apply r_draft) <;> first | omega | exact rfl | exact r_p R hn (by omega) (by assumption)) | ((with_reducible apply r_db) <;> omega) | ((with_reducible apply r_nb) <;> omega) | ((with_reducible apply r_nameb) <;> omega) | ((with_reducible apply r_name_y R hn) <;> first | omega | assumption) | ((with_reducible apply r_name_n R hn) <;> first | omega | assumption | exact ht _ (by omega))); skip)
    | ((with_reducible apply BM_V); focus (first | ((with_reducible apply r_take_y R hn) <;> first | omega | assumption | first | exact rfl | (with_reducible exact n00) | exact kp_y (by assumption) (by decide)) | ((with_reducible apply r_take_n R hn) <;> first | omega | assumption | first | exact n10 | ((simp (disch := first | assumption | omega | exact ht _ (by omega)) only [lit, n_eq, n_le, kp_0, kp_1, kp_2, kp_3, kp_4, kp_5, kp_6, kp_7, kp_8, kp_9, kp_10, kp_11, kp_12, kp_13, kp_14, kp_15, kp_16, kp_17, kp_18, kp_19, kp_20, kp_21, kp_22, kp_23, kp_24, kp_25, kp_26, kp_27, kp_28, kp_29, kp_30, kp_31, kp_32, kp_33, kp_34]) <;> omega)) | (with_reducible exact q_takeb) | ((with_reducible apply q_deep_y rfl) <;> omega) | ((with_reducible apply q_deep_n R rfl) <;> first | omega | assumption) | ((with_reducible apply q_deepb' rfl) <;> omega) | (with_reducible exact q_needb) | (with_reducible exact r_need1) | ((with_reducible apply r_need0 R hn) <;> first | omega | assumption)); skip)
    | ((with_reducible apply BM_if); focus (first | exact rfl | (with_reducible exact n00) | exact kp_y (by assumption) (by decide)); skip)
    | ((with_reducible apply BM_nif); focus (first | exact n10 | ((simp (disch := first | assumption | omega | exact ht _ (by omega)) only [lit, n_eq, n_le, kp_0, kp_1, kp_2, kp_3, kp_4, kp_5, kp_6, kp_7, kp_8, kp_9, kp_10, kp_11, kp_12, kp_13, kp_14, kp_15, kp_16, kp_17, kp_18, kp_19, kp_20, kp_21, kp_22, kp_23, kp_24, kp_25, kp_26, kp_27, kp_28, kp_29, kp_30, kp_31, kp_32, kp_33, kp_34]) <;> omega)); skip)
    | (with_reducible refine bm_jn ?_ rfl)
    | ((with_reducible apply bm_join); (focus (first | assumption | exact BI_new (by assumption) | exact BI_new (BI_new (by assumption)) | exact BI_new (BI_new (BI_new (by assumption))))); (focus omega); (focus omega); (focus (first | assumption | exact Or.inr ⟨_, by omega, rfl⟩)); intro _ _)
    | exact ⟨_, _, _, (by with_reducible rfl), by omega, by omega, (by first | assumption | exact BI_new (by assumption) | exact BI_new (BI_new (by assumption)) | exact BI_new (BI_new (BI_new (by assumption)))), (by first | exact Or.inl rfl | assumption | exact Or.inr ⟨_, by omega, rfl⟩)⟩)
      · refine OutK_b (q := q' + 1) (x := post (one dr 13 (tp q) (nI q) .leaf) ++ post (one i' k' p' v' c')) ?_ rfl ?_ q4 g4
        · rw [← List.append_assoc]
          unfold f_PA_assignment k_PA_assignment_31
          rw [hd1]
          repeat (first
    | ((with_reducible apply X_bndE); focus (first | ((with_reducible apply pz_pp h') <;> omega) | ((with_reducible apply pz_kk h') <;> omega) | (with_reducible exact pz_14)); skip)
    | with_reducible refine X_bnd ?_
    | ((with_reducible apply X_chk); focus (first | exact a1 | exact a2 | exact a3 | exact a4 | exact a5 | ((with_reducible apply pz_i1 h') <;> omega) | ((with_reducible apply pz_i2 h') <;> omega)); skip)
    | ((with_reducible apply X_rfO); focus (first | exact c1 | exact c2 | exact c5); skip)
    | ((with_reducible apply X_I); focus (first | ((with_reducible apply p_kaC h') <;> omega) | ((with_reducible apply p_paC h') <;> omega) | ((with_reducible apply p_skip_y h') <;> first | omega | ((simp (disch := omega) only [lit, n_eq]) <;> omega)) | ((with_reducible apply p_skip_n h') <;> first | omega | ((simp (disch := first | omega | exact Nat.lt_trans (ht _ (by omega)) (by omega)) only [lit, n_eq]) <;> omega))); skip)
    | ((with_reducible apply X_if); focus (first | (with_reducible exact rfl) | (with_reducible exact n00) | ((simp (disch := omega) only [lit, n_eq]) <;> omega)); skip)
    | ((with_reducible apply X_nif); focus (first | exact n10 | ((with_reducible apply p_cnt h') <;> omega) | ((simp (disch := first | omega | exact Nat.lt_trans (ht _ (by omega)) (by omega)) only [lit, n_eq]) <;> omega)); skip)
    | ((with_reducible apply X_T); focus (first | ((with_reducible apply p_take_y h') <;> first | omega | ((simp (disch := omega) only [lit, n_eq]) <;> omega)) | ((with_reducible apply p_limit_y h' rfl) <;> omega)); skip)
    | ((with_reducible apply X_Tt); focus (first | ((with_reducible apply p_take_n h') <;> first | omega | ((simp (disch := first | omega | exact Nat.lt_trans (ht _ (by omega)) (by omega)) only [lit, n_eq]) <;> omega)) | ((with_reducible apply p_limit_n h' rfl) <;> omega)); skip))
          refine X_T hnC ?_
          repeat (first
    | ((with_reducible apply X_bndE); focus (first | ((with_reducible apply pz_pp h') <;> omega) | ((with_reducible apply pz_kk h') <;> omega) | (with_reducible exact pz_14)); skip)
    | with_reducible refine X_bnd ?_
    | ((with_reducible apply X_chk); focus (first | exact a1 | exact a2 | exact a3 | exact a4 | exact a5 | ((with_reducible apply pz_i1 h') <;> omega) | ((with_reducible apply pz_i2 h') <;> omega)); skip)
    | ((with_reducible apply X_rfO); focus (first | exact c1 | exact c2 | exact c5); skip)
    | ((with_reducible apply X_I); focus (first | ((with_reducible apply p_kaC h') <;> omega) | ((with_reducible apply p_paC h') <;> omega) | ((with_reducible apply p_skip_y h') <;> first | omega | ((simp (disch := omega) only [lit, n_eq]) <;> omega)) | ((with_reducible apply p_skip_n h') <;> first | omega | ((simp (disch := first | omega | exact Nat.lt_trans (ht _ (by omega)) (by omega)) only [lit, n_eq]) <;> omega))); skip)
    | ((with_reducible apply X_if); focus (first | (with_reducible exact rfl) | (with_reducible exact n00) | ((simp (disch := omega) only [lit, n_eq]) <;> omega)); skip)
    | ((with_reducible apply X_nif); focus (first | exact n10 | ((with_reducible apply p_cnt h') <;> omega) | ((simp (disch := first | omega | exact Nat.lt_trans (ht _ (by omega)) (by omega)) only [lit, n_eq]) <;> omega)); skip)
    | ((with_reducible apply X_T); focus (first | ((with_reducible apply p_take_y h') <;> first | omega | ((simp (disch := omega) only [lit, n_eq]) <;> omega)) | ((with_reducible apply p_limit_y h' rfl) <;> omega)); skip)
    | ((with_reducible apply X_Tt); focus (first | ((with_reducible apply p_take_n h') <;> first | omega | ((simp (disch := first | omega | exact Nat.lt_trans (ht _ (by omega)) (by omega)) only [lit, n_eq]) <;> omega)) | ((with_reducible apply p_limit_n h' rfl) <;> omega)); skip))
          refine X_T x1 ?_
          repeat (first
    | ((with_reducible apply X_bndE); focus (first | ((with_reducible apply pz_pp h') <;> omega) | ((with_reducible apply pz_kk h') <;> omega) | (with_reducible exact pz_14)); skip)
    | with_reducible refine X_bnd ?_
    | ((with_reducible apply X_chk); focus (first | exact a1 | exact a2 | exact a3 | exact a4 | exact a5 | ((with_reducible apply pz_i1 h') <;> omega) | ((with_reducible apply pz_i2 h') <;> omega)); skip)
    | ((with_reducible apply X_rfO); focus (first | exact c1 | exact c2 | exact c5); skip)
    | ((with_reducible apply X_I); focus (first | ((with_reducible apply p_kaC h') <;> omega) | ((with_reducible apply p_paC h') <;> omega) | ((with_reducible apply p_skip_y h') <;> first | omega | ((simp (disch := omega) only [lit, n_eq]) <;> omega)) | ((with_reducible apply p_skip_n h') <;> first | omega | ((simp (disch := first | omega | exact Nat.lt_trans (ht _ (by omega)) (by omega)) only [lit, n_eq]) <;> omega))); skip)
    | ((with_reducible apply X_if); focus (first | (with_reducible exact rfl) | (with_reducible exact n00) | ((simp (disch := omega) only [lit, n_eq]) <;> omega)); skip)
    | ((with_reducible apply X_nif); focus (first | exact n10 | ((with_reducible apply p_cnt h') <;> omega) | ((simp (disch := first | omega | exact Nat.lt_trans (ht _ (by omega)) (by omega)) only [lit, n_eq]) <;> omega)); skip)
    | ((with_reducible apply X_T); focus (first | ((with_reducible apply p_take_y h') <;> first | omega | ((simp (disch := omega) only [lit, n_eq]) <;> omega)) | ((with_reducible apply p_limit_y h' rfl) <;> omega)); skip)
    | ((with_reducible apply X_Tt); focus (first | ((with_reducible apply p_take_n h') <;> first | omega | ((simp (disch := first | omega | exact Nat.lt_trans (ht _ (by omega)) (by omega)) only [lit, n_eq]) <;> omega)) | ((with_reducible apply p_limit_n h' rfl) <;> omega)); skip))
          rfl
        · unfold f_RM_statement f_RM_named f_RM_sums k_RM_named_217 k_RM_named_108
          simp only [hd1]
          repeat (first
    | with_reducible refine M_VI ?_
    | with_reducible refine M_VV ?_
    | with_reducible refine M_Vif ?_
    | with_reducible refine M_Vs ?_
    | with_reducible refine M_II ?_
    | with_reducible refine M_IV ?_
    | with_reducible refine M_Iif ?_
    | with_reducible refine M_Is ?_
    | with_reducible refine M_Ichk ?_
    | ((with_reducible apply BM_bndE); focus (first | ((with_reducible apply r_p R hn) <;> first | omega | assumption)); skip)
    | with_reducible refine BM_bnd ?_
    | ((with_reducible apply BM_chk); focus (((with_reducible apply r_i hn)) <;> omega); skip)
    | ((with_reducible apply BM_I); focus (first | ((with_reducible apply r_look R hn) <;> first | omega | assumption) | (with_reducible exact q_look1) | ((with_reducible apply r_draft) <;> first | omega | exact rfl | exact r_p R hn (by omega) (by assumption)) | ((with_reducible apply r_db) <;> omega) | ((with_reducible apply r_nb) <;> omega) | ((with_reducible apply r_nameb) <;> omega) | ((with_reducible apply r_name_y R hn) <;> first | omega | assumption) | ((with_reducible apply r_name_n R hn) <;> first | omega | assumption | exact ht _ (by omega))); skip)
    | ((with_reducible apply BM_V); focus (first | ((with_reducible apply r_take_y R hn) <;> first | omega | assumption | first | exact rfl | (with_reducible exact n00) | exact kp_y (by assumption) (by decide)) | ((with_reducible apply r_take_n R hn) <;> first | omega | assumption | first | exact n10 | ((simp (disch := first | assumption | omega | exact ht _ (by omega)) only [lit, n_eq, n_le, kp_0, kp_1, kp_2, kp_3, kp_4, kp_5, kp_6, kp_7, kp_8, kp_9, kp_10, kp_11, kp_12, kp_13, kp_14, kp_15, kp_16, kp_17, kp_18, kp_19, kp_20, kp_21, kp_22, kp_23, kp_24, kp_25, kp_26, kp_27, kp_28, kp_29, kp_30, kp_31, kp_32, kp_33, kp_34]) <;> omega)) | (with_reducible exact q_takeb) | ((with_reducible apply q_deep_y rfl) <;> omega) | ((with_reducible apply q_deep_n R rfl) <;> first | omega | assumption) | ((with_reducible apply q_deepb' rfl) <;> omega) | (with_reducible exact q_needb) | (with_reducible exact r_need1) | ((with_reducible apply r_need0 R hn) <;> first | omega | assumption)); skip)
    | ((with_reducible apply BM_if); focus (first | exact rfl | (with_reducible exact n00) | exact kp_y (by assumption) (by decide)); skip)
    | ((with_reducible apply BM_nif); focus (first | exact n10 | ((simp (disch := first | assumption | omega | exact ht _ (by omega)) only [lit, n_eq, n_le, kp_0, kp_1, kp_2, kp_3, kp_4, kp_5, kp_6, kp_7, kp_8, kp_9, kp_10, kp_11, kp_12, kp_13, kp_14, kp_15, kp_16, kp_17, kp_18, kp_19, kp_20, kp_21, kp_22, kp_23, kp_24, kp_25, kp_26, kp_27, kp_28, kp_29, kp_30, kp_31, kp_32, kp_33, kp_34]) <;> omega)); skip)
    | (with_reducible refine bm_jn ?_ rfl)
    | ((with_reducible apply bm_join); (focus (first | assumption | exact BI_new (by assumption) | exact BI_new (BI_new (by assumption)) | exact BI_new (BI_new (BI_new (by assumption))))); (focus omega); (focus omega); (focus (first | assumption | exact Or.inr ⟨_, by omega, rfl⟩)); intro _ _)
    | exact ⟨_, _, _, (by with_reducible rfl), by omega, by omega, (by first | assumption | exact BI_new (by assumption) | exact BI_new (BI_new (by assumption)) | exact BI_new (BI_new (BI_new (by assumption)))), (by first | exact Or.inl rfl | assumption | exact Or.inr ⟨_, by omega, rfl⟩)⟩)
          refine BM_V (hj1 _) ?_
          repeat (first
    | with_reducible refine M_VI ?_
    | with_reducible refine M_VV ?_
    | with_reducible refine M_Vif ?_
    | with_reducible refine M_Vs ?_
    | with_reducible refine M_II ?_
    | with_reducible refine M_IV ?_
    | with_reducible refine M_Iif ?_
    | with_reducible refine M_Is ?_
    | with_reducible refine M_Ichk ?_
    | ((with_reducible apply BM_bndE); focus (first | ((with_reducible apply r_p R hn) <;> first | omega | assumption)); skip)
    | with_reducible refine BM_bnd ?_
    | ((with_reducible apply BM_chk); focus (((with_reducible apply r_i hn)) <;> omega); skip)
    | ((with_reducible apply BM_I); focus (first | ((with_reducible apply r_look R hn) <;> first | omega | assumption) | (with_reducible exact q_look1) | ((with_reducible apply r_draft) <;> first | omega | exact rfl | exact r_p R hn (by omega) (by assumption)) | ((with_reducible apply r_db) <;> omega) | ((with_reducible apply r_nb) <;> omega) | ((with_reducible apply r_nameb) <;> omega) | ((with_reducible apply r_name_y R hn) <;> first | omega | assumption) | ((with_reducible apply r_name_n R hn) <;> first | omega | assumption | exact ht _ (by omega))); skip)
    | ((with_reducible apply BM_V); focus (first | ((with_reducible apply r_take_y R hn) <;> first | omega | assumption | first | exact rfl | (with_reducible exact n00) | exact kp_y (by assumption) (by decide)) | ((with_reducible apply r_take_n R hn) <;> first | omega | assumption | first | exact n10 | ((simp (disch := first | assumption | omega | exact ht _ (by omega)) only [lit, n_eq, n_le, kp_0, kp_1, kp_2, kp_3, kp_4, kp_5, kp_6, kp_7, kp_8, kp_9, kp_10, kp_11, kp_12, kp_13, kp_14, kp_15, kp_16, kp_17, kp_18, kp_19, kp_20, kp_21, kp_22, kp_23, kp_24, kp_25, kp_26, kp_27, kp_28, kp_29, kp_30, kp_31, kp_32, kp_33, kp_34]) <;> omega)) | (with_reducible exact q_takeb) | ((with_reducible apply q_deep_y rfl) <;> omega) | ((with_reducible apply q_deep_n R rfl) <;> first | omega | assumption) | ((with_reducible apply q_deepb' rfl) <;> omega) | (with_reducible exact q_needb) | (with_reducible exact r_need1) | ((with_reducible apply r_need0 R hn) <;> first | omega | assumption)); skip)
    | ((with_reducible apply BM_if); focus (first | exact rfl | (with_reducible exact n00) | exact kp_y (by assumption) (by decide)); skip)
    | ((with_reducible apply BM_nif); focus (first | exact n10 | ((simp (disch := first | assumption | omega | exact ht _ (by omega)) only [lit, n_eq, n_le, kp_0, kp_1, kp_2, kp_3, kp_4, kp_5, kp_6, kp_7, kp_8, kp_9, kp_10, kp_11, kp_12, kp_13, kp_14, kp_15, kp_16, kp_17, kp_18, kp_19, kp_20, kp_21, kp_22, kp_23, kp_24, kp_25, kp_26, kp_27, kp_28, kp_29, kp_30, kp_31, kp_32, kp_33, kp_34]) <;> omega)); skip)
    | (with_reducible refine bm_jn ?_ rfl)
    | ((with_reducible apply bm_join); (focus (first | assumption | exact BI_new (by assumption) | exact BI_new (BI_new (by assumption)) | exact BI_new (BI_new (BI_new (by assumption))))); (focus omega); (focus omega); (focus (first | assumption | exact Or.inr ⟨_, by omega, rfl⟩)); intro _ _)
    | exact ⟨_, _, _, (by with_reducible rfl), by omega, by omega, (by first | assumption | exact BI_new (by assumption) | exact BI_new (BI_new (by assumption)) | exact BI_new (BI_new (BI_new (by assumption)))), (by first | exact Or.inl rfl | assumption | exact Or.inr ⟨_, by omega, rfl⟩)⟩)
          refine BM_I x2 ?_
          repeat (first
    | with_reducible refine M_VI ?_
    | with_reducible refine M_VV ?_
    | with_reducible refine M_Vif ?_
    | with_reducible refine M_Vs ?_
    | with_reducible refine M_II ?_
    | with_reducible refine M_IV ?_
    | with_reducible refine M_Iif ?_
    | with_reducible refine M_Is ?_
    | with_reducible refine M_Ichk ?_
    | ((with_reducible apply BM_bndE); focus (first | ((with_reducible apply r_p R hn) <;> first | omega | assumption)); skip)
    | with_reducible refine BM_bnd ?_
    | ((with_reducible apply BM_chk); focus (((with_reducible apply r_i hn)) <;> omega); skip)
    | ((with_reducible apply BM_I); focus (first | ((with_reducible apply r_look R hn) <;> first | omega | assumption) | (with_reducible exact q_look1) | ((with_reducible apply r_draft) <;> first | omega | exact rfl | exact r_p R hn (by omega) (by assumption)) | ((with_reducible apply r_db) <;> omega) | ((with_reducible apply r_nb) <;> omega) | ((with_reducible apply r_nameb) <;> omega) | ((with_reducible apply r_name_y R hn) <;> first | omega | assumption) | ((with_reducible apply r_name_n R hn) <;> first | omega | assumption | exact ht _ (by omega))); skip)
    | ((with_reducible apply BM_V); focus (first | ((with_reducible apply r_take_y R hn) <;> first | omega | assumption | first | exact rfl | (with_reducible exact n00) | exact kp_y (by assumption) (by decide)) | ((with_reducible apply r_take_n R hn) <;> first | omega | assumption | first | exact n10 | ((simp (disch := first | assumption | omega | exact ht _ (by omega)) only [lit, n_eq, n_le, kp_0, kp_1, kp_2, kp_3, kp_4, kp_5, kp_6, kp_7, kp_8, kp_9, kp_10, kp_11, kp_12, kp_13, kp_14, kp_15, kp_16, kp_17, kp_18, kp_19, kp_20, kp_21, kp_22, kp_23, kp_24, kp_25, kp_26, kp_27, kp_28, kp_29, kp_30, kp_31, kp_32, kp_33, kp_34]) <;> omega)) | (with_reducible exact q_takeb) | ((with_reducible apply q_deep_y rfl) <;> omega) | ((with_reducible apply q_deep_n R rfl) <;> first | omega | assumption) | ((with_reducible apply q_deepb' rfl) <;> omega) | (with_reducible exact q_needb) | (with_reducible exact r_need1) | ((with_reducible apply r_need0 R hn) <;> first | omega | assumption)); skip)
    | ((with_reducible apply BM_if); focus (first | exact rfl | (with_reducible exact n00) | exact kp_y (by assumption) (by decide)); skip)
    | ((with_reducible apply BM_nif); focus (first | exact n10 | ((simp (disch := first | assumption | omega | exact ht _ (by omega)) only [lit, n_eq, n_le, kp_0, kp_1, kp_2, kp_3, kp_4, kp_5, kp_6, kp_7, kp_8, kp_9, kp_10, kp_11, kp_12, kp_13, kp_14, kp_15, kp_16, kp_17, kp_18, kp_19, kp_20, kp_21, kp_22, kp_23, kp_24, kp_25, kp_26, kp_27, kp_28, kp_29, kp_30, kp_31, kp_32, kp_33, kp_34]) <;> omega)); skip)
    | (with_reducible refine bm_jn ?_ rfl)
    | ((with_reducible apply bm_join); (focus (first | assumption | exact BI_new (by assumption) | exact BI_new (BI_new (by assumption)) | exact BI_new (BI_new (BI_new (by assumption))))); (focus omega); (focus omega); (focus (first | assumption | exact Or.inr ⟨_, by omega, rfl⟩)); intro _ _)
    | exact ⟨_, _, _, (by with_reducible rfl), by omega, by omega, (by first | assumption | exact BI_new (by assumption) | exact BI_new (BI_new (by assumption)) | exact BI_new (BI_new (BI_new (by assumption)))), (by first | exact Or.inl rfl | assumption | exact Or.inr ⟨_, by omega, rfl⟩)⟩)
          refine BM_V (hj2 _) ?_
          have hBI := hb2.2.2.2
          repeat (first
    | with_reducible refine M_VI ?_
    | with_reducible refine M_VV ?_
    | with_reducible refine M_Vif ?_
    | with_reducible refine M_Vs ?_
    | with_reducible refine M_II ?_
    | with_reducible refine M_IV ?_
    | with_reducible refine M_Iif ?_
    | with_reducible refine M_Is ?_
    | with_reducible refine M_Ichk ?_
    | ((with_reducible apply BM_bndE); focus (first | ((with_reducible apply r_p R hn) <;> first | omega | assumption)); skip)
    | with_reducible refine BM_bnd ?_
    | ((with_reducible apply BM_chk); focus (((with_reducible apply r_i hn)) <;> omega); skip)
    | ((with_reducible apply BM_I); focus (first | ((with_reducible apply r_look R hn) <;> first | omega | assumption) | (with_reducible exact q_look1) | ((with_reducible apply r_draft) <;> first | omega | exact rfl | exact r_p R hn (by omega) (by assumption)) | ((with_reducible apply r_db) <;> omega) | ((with_reducible apply r_nb) <;> omega) | ((with_reducible apply r_nameb) <;> omega) | ((with_reducible apply r_name_y R hn) <;> first | omega | assumption) | ((with_reducible apply r_name_n R hn) <;> first | omega | assumption | exact ht _ (by omega))); skip)
    | ((with_reducible apply BM_V); focus (first | ((with_reducible apply r_take_y R hn) <;> first | omega | assumption | first | exact rfl | (with_reducible exact n00) | exact kp_y (by assumption) (by decide)) | ((with_reducible apply r_take_n R hn) <;> first | omega | assumption | first | exact n10 | ((simp (disch := first | assumption | omega | exact ht _ (by omega)) only [lit, n_eq, n_le, kp_0, kp_1, kp_2, kp_3, kp_4, kp_5, kp_6, kp_7, kp_8, kp_9, kp_10, kp_11, kp_12, kp_13, kp_14, kp_15, kp_16, kp_17, kp_18, kp_19, kp_20, kp_21, kp_22, kp_23, kp_24, kp_25, kp_26, kp_27, kp_28, kp_29, kp_30, kp_31, kp_32, kp_33, kp_34]) <;> omega)) | (with_reducible exact q_takeb) | ((with_reducible apply q_deep_y rfl) <;> omega) | ((with_reducible apply q_deep_n R rfl) <;> first | omega | assumption) | ((with_reducible apply q_deepb' rfl) <;> omega) | (with_reducible exact q_needb) | (with_reducible exact r_need1) | ((with_reducible apply r_need0 R hn) <;> first | omega | assumption)); skip)
    | ((with_reducible apply BM_if); focus (first | exact rfl | (with_reducible exact n00) | exact kp_y (by assumption) (by decide)); skip)
    | ((with_reducible apply BM_nif); focus (first | exact n10 | ((simp (disch := first | assumption | omega | exact ht _ (by omega)) only [lit, n_eq, n_le, kp_0, kp_1, kp_2, kp_3, kp_4, kp_5, kp_6, kp_7, kp_8, kp_9, kp_10, kp_11, kp_12, kp_13, kp_14, kp_15, kp_16, kp_17, kp_18, kp_19, kp_20, kp_21, kp_22, kp_23, kp_24, kp_25, kp_26, kp_27, kp_28, kp_29, kp_30, kp_31, kp_32, kp_33, kp_34]) <;> omega)); skip)
    | (with_reducible refine bm_jn ?_ rfl)
    | ((with_reducible apply bm_join); (focus (first | assumption | exact BI_new (by assumption) | exact BI_new (BI_new (by assumption)) | exact BI_new (BI_new (BI_new (by assumption))))); (focus omega); (focus omega); (focus (first | assumption | exact Or.inr ⟨_, by omega, rfl⟩)); intro _ _)
    | exact ⟨_, _, _, (by with_reducible rfl), by omega, by omega, (by first | assumption | exact BI_new (by assumption) | exact BI_new (BI_new (by assumption)) | exact BI_new (BI_new (BI_new (by assumption)))), (by first | exact Or.inl rfl | assumption | exact Or.inr ⟨_, by omega, rfl⟩)⟩)
    · refine OutK_b (q := q') (x := post (one dr 13 (tp q) (nI q) .leaf) ++ post (one i' k' p' v' c')) ?_ rfl ?_ y2 y3
      · rw [← List.append_assoc]
        unfold f_PA_assignment k_PA_assignment_31
        rw [hd1]
        repeat (first
    | ((with_reducible apply X_bndE); focus (first | ((with_reducible apply pz_pp h') <;> omega) | ((with_reducible apply pz_kk h') <;> omega) | (with_reducible exact pz_14)); skip)
    | with_reducible refine X_bnd ?_
    | ((with_reducible apply X_chk); focus (first | exact a1 | exact a2 | exact a3 | exact a4 | exact a5 | ((with_reducible apply pz_i1 h') <;> omega) | ((with_reducible apply pz_i2 h') <;> omega)); skip)
    | ((with_reducible apply X_rfO); focus (first | exact c1 | exact c2 | exact c5); skip)
    | ((with_reducible apply X_I); focus (first | ((with_reducible apply p_kaC h') <;> omega) | ((with_reducible apply p_paC h') <;> omega) | ((with_reducible apply p_skip_y h') <;> first | omega | ((simp (disch := omega) only [lit, n_eq]) <;> omega)) | ((with_reducible apply p_skip_n h') <;> first | omega | ((simp (disch := first | omega | exact Nat.lt_trans (ht _ (by omega)) (by omega)) only [lit, n_eq]) <;> omega))); skip)
    | ((with_reducible apply X_if); focus (first | (with_reducible exact rfl) | (with_reducible exact n00) | ((simp (disch := omega) only [lit, n_eq]) <;> omega)); skip)
    | ((with_reducible apply X_nif); focus (first | exact n10 | ((with_reducible apply p_cnt h') <;> omega) | ((simp (disch := first | omega | exact Nat.lt_trans (ht _ (by omega)) (by omega)) only [lit, n_eq]) <;> omega)); skip)
    | ((with_reducible apply X_T); focus (first | ((with_reducible apply p_take_y h') <;> first | omega | ((simp (disch := omega) only [lit, n_eq]) <;> omega)) | ((with_reducible apply p_limit_y h' rfl) <;> omega)); skip)
    | ((with_reducible apply X_Tt); focus (first | ((with_reducible apply p_take_n h') <;> first | omega | ((simp (disch := first | omega | exact Nat.lt_trans (ht _ (by omega)) (by omega)) only [lit, n_eq]) <;> omega)) | ((with_reducible apply p_limit_n h' rfl) <;> omega)); skip))
        refine X_T hnC ?_
        repeat (first
    | ((with_reducible apply X_bndE); focus (first | ((with_reducible apply pz_pp h') <;> omega) | ((with_reducible apply pz_kk h') <;> omega) | (with_reducible exact pz_14)); skip)
    | with_reducible refine X_bnd ?_
    | ((with_reducible apply X_chk); focus (first | exact a1 | exact a2 | exact a3 | exact a4 | exact a5 | ((with_reducible apply pz_i1 h') <;> omega) | ((with_reducible apply pz_i2 h') <;> omega)); skip)
    | ((with_reducible apply X_rfO); focus (first | exact c1 | exact c2 | exact c5); skip)
    | ((with_reducible apply X_I); focus (first | ((with_reducible apply p_kaC h') <;> omega) | ((with_reducible apply p_paC h') <;> omega) | ((with_reducible apply p_skip_y h') <;> first | omega | ((simp (disch := omega) only [lit, n_eq]) <;> omega)) | ((with_reducible apply p_skip_n h') <;> first | omega | ((simp (disch := first | omega | exact Nat.lt_trans (ht _ (by omega)) (by omega)) only [lit, n_eq]) <;> omega))); skip)
    | ((with_reducible apply X_if); focus (first | (with_reducible exact rfl) | (with_reducible exact n00) | ((simp (disch := omega) only [lit, n_eq]) <;> omega)); skip)
    | ((with_reducible apply X_nif); focus (first | exact n10 | ((with_reducible apply p_cnt h') <;> omega) | ((simp (disch := first | omega | exact Nat.lt_trans (ht _ (by omega)) (by omega)) only [lit, n_eq]) <;> omega)); skip)
    | ((with_reducible apply X_T); focus (first | ((with_reducible apply p_take_y h') <;> first | omega | ((simp (disch := omega) only [lit, n_eq]) <;> omega)) | ((with_reducible apply p_limit_y h' rfl) <;> omega)); skip)
    | ((with_reducible apply X_Tt); focus (first | ((with_reducible apply p_take_n h') <;> first | omega | ((simp (disch := first | omega | exact Nat.lt_trans (ht _ (by omega)) (by omega)) only [lit, n_eq]) <;> omega)) | ((with_reducible apply p_limit_n h' rfl) <;> omega)); skip))
        refine X_T x1 ?_
        repeat (first
    | ((with_reducible apply X_bndE); focus (first | ((with_reducible apply pz_pp h') <;> omega) | ((with_reducible apply pz_kk h') <;> omega) | (with_reducible exact pz_14)); skip)
    | with_reducible refine X_bnd ?_
    | ((with_reducible apply X_chk); focus (first | exact a1 | exact a2 | exact a3 | exact a4 | exact a5 | ((with_reducible apply pz_i1 h') <;> omega) | ((with_reducible apply pz_i2 h') <;> omega)); skip)
    | ((with_reducible apply X_rfO); focus (first | exact c1 | exact c2 | exact c5); skip)
    | ((with_reducible apply X_I); focus (first | ((with_reducible apply p_kaC h') <;> omega) | ((with_reducible apply p_paC h') <;> omega) | ((with_reducible apply p_skip_y h') <;> first | omega | ((simp (disch := omega) only [lit, n_eq]) <;> omega)) | ((with_reducible apply p_skip_n h') <;> first | omega | ((simp (disch := first | omega | exact Nat.lt_trans (ht _ (by omega)) (by omega)) only [lit, n_eq]) <;> omega))); skip)
    | ((with_reducible apply X_if); focus (first | (with_reducible exact rfl) | (with_reducible exact n00) | ((simp (disch := omega) only [lit, n_eq]) <;> omega)); skip)
    | ((with_reducible apply X_nif); focus (first | exact n10 | ((with_reducible apply p_cnt h') <;> omega) | ((simp (disch := first | omega | exact Nat.lt_trans (ht _ (by omega)) (by omega)) only [lit, n_eq]) <;> omega)); skip)
    | ((with_reducible apply X_T); focus (first | ((with_reducible apply p_take_y h') <;> first | omega | ((simp (disch := omega) only [lit, n_eq]) <;> omega)) | ((with_reducible apply p_limit_y h' rfl) <;> omega)); skip)
    | ((with_reducible apply X_Tt); focus (first | ((with_reducible apply p_take_n h') <;> first | omega | ((simp (disch := first | omega | exact Nat.lt_trans (ht _ (by omega)) (by omega)) only [lit, n_eq]) <;> omega)) | ((with_reducible apply p_limit_n h' rfl) <;> omega)); skip))
        rfl
      · unfold f_RM_statement f_RM_named f_RM_sums k_RM_named_217 k_RM_named_108
        simp only [hd1]
        repeat (first
    | with_reducible refine M_VI ?_
    | with_reducible refine M_VV ?_
    | with_reducible refine M_Vif ?_
    | with_reducible refine M_Vs ?_
    | with_reducible refine M_II ?_
    | with_reducible refine M_IV ?_
    | with_reducible refine M_Iif ?_
    | with_reducible refine M_Is ?_
    | with_reducible refine M_Ichk ?_
    | ((with_reducible apply BM_bndE); focus (first | ((with_reducible apply r_p R hn) <;> first | omega | assumption)); skip)
    | with_reducible refine BM_bnd ?_
    | ((with_reducible apply BM_chk); focus (((with_reducible apply r_i hn)) <;> omega); skip)
    | ((with_reducible apply BM_I); focus (first | ((with_reducible apply r_look R hn) <;> first | omega | assumption) | (with_reducible exact q_look1) | ((with_reducible apply r_draft) <;> first | omega | exact rfl | exact r_p R hn (by omega) (by assumption)) | ((with_reducible apply r_db) <;> omega) | ((with_reducible apply r_nb) <;> omega) | ((with_reducible apply r_nameb) <;> omega) | ((with_reducible apply r_name_y R hn) <;> first | omega | assumption) | ((with_reducible apply r_name_n R hn) <;> first | omega | assumption | exact ht _ (by omega))); skip)
    | ((with_reducible apply BM_V); focus (first | ((with_reducible apply r_take_y R hn) <;> first | omega | assumption | first | exact rfl | (with_reducible exact n00) | exact kp_y (by assumption) (by decide)) | ((with_reducible apply r_take_n R hn) <;> first | omega | assumption | first | exact n10 | ((simp (disch := first | assumption | omega | exact ht _ (by omega)) only [lit, n_eq, n_le, kp_0, kp_1, kp_2, kp_3, kp_4, kp_5, kp_6, kp_7, kp_8, kp_9, kp_10, kp_11, kp_12, kp_13, kp_14, kp_15, kp_16, kp_17, kp_18, kp_19, kp_20, kp_21, kp_22, kp_23, kp_24, kp_25, kp_26, kp_27, kp_28, kp_29, kp_30, kp_31, kp_32, kp_33, kp_34]) <;> omega)) | (with_reducible exact q_takeb) | ((with_reducible apply q_deep_y rfl) <;> omega) | ((with_reducible apply q_deep_n R rfl) <;> first | omega | assumption) | ((with_reducible apply q_deepb' rfl) <;> omega) | (with_reducible exact q_needb) | (with_reducible exact r_need1) | ((with_reducible apply r_need0 R hn) <;> first | omega | assumption)); skip)
    | ((with_reducible apply BM_if); focus (first | exact rfl | (with_reducible exact n00) | exact kp_y (by assumption) (by decide)); skip)
    | ((with_reducible apply BM_nif); focus (first | exact n10 | ((simp (disch := first | assumption | omega | exact ht _ (by omega)) only [lit, n_eq, n_le, kp_0, kp_1, kp_2, kp_3, kp_4, kp_5, kp_6, kp_7, kp_8, kp_9, kp_10, kp_11, kp_12, kp_13, kp_14, kp_15, kp_16, kp_17, kp_18, kp_19, kp_20, kp_21, kp_22, kp_23, kp_24, kp_25, kp_26, kp_27, kp_28, kp_29, kp_30, kp_31, kp_32, kp_33, kp_34]) <;> omega)); skip)
    | (with_reducible refine bm_jn ?_ rfl)
    | ((with_reducible apply bm_join); (focus (first | assumption | exact BI_new (by assumption) | exact BI_new (BI_new (by assumption)) | exact BI_new (BI_new (BI_new (by assumption))))); (focus omega); (focus omega); (focus (first | assumption | exact Or.inr ⟨_, by omega, rfl⟩)); intro _ _)
    | exact ⟨_, _, _, (by with_reducible rfl), by omega, by omega, (by first | assumption | exact BI_new (by assumption) | exact BI_new (BI_new (by assumption)) | exact BI_new (BI_new (BI_new (by assumption)))), (by first | exact Or.inl rfl | assumption | exact Or.inr ⟨_, by omega, rfl⟩)⟩)
        refine BM_V (hj1 _) ?_
        repeat (first
    | with_reducible refine M_VI ?_
    | with_reducible refine M_VV ?_
    | with_reducible refine M_Vif ?_
    | with_reducible refine M_Vs ?_
    | with_reducible refine M_II ?_
    | with_reducible refine M_IV ?_
    | with_reducible refine M_Iif ?_
    | with_reducible refine M_Is ?_
    | with_reducible refine M_Ichk ?_
    | ((with_reducible apply BM_bndE); focus (first | ((with_reducible apply r_p R hn) <;> first | omega | assumption)); skip)
    | with_reducible refine BM_bnd ?_
    | ((with_reducible apply BM_chk); focus (((with_reducible apply r_i hn)) <;> omega); skip)
    | ((with_reducible apply BM_I); focus (first | ((with_reducible apply r_look R hn) <;> first | omega | assumption) | (with_reducible exact q_look1) | ((with_reducible apply r_draft) <;> first | omega | exact rfl | exact r_p R hn (by omega) (by assumption)) | ((with_reducible apply r_db) <;> omega) | ((with_reducible apply r_nb) <;> omega) | ((with_reducible apply r_nameb) <;> omega) | ((with_reducible apply r_name_y R hn) <;> first | omega | assumption) | ((with_reducible apply r_name_n R hn) <;> first | omega | assumption | exact ht _ (by omega))); skip)
    | ((with_reducible apply BM_V); focus (first | ((with_reducible apply r_take_y R hn) <;> first | omega | assumption | first | exact rfl | (with_reducible exact n00) | exact kp_y (by assumption) (by decide)) | ((with_reducible apply r_take_n R hn) <;> first | omega | assumption | first | exact n10 | ((simp (disch := first | assumption | omega | exact ht _ (by omega)) only [lit, n_eq, n_le, kp_0, kp_1, kp_2, kp_3, kp_4, kp_5, kp_6, kp_7, kp_8, kp_9, kp_10, kp_11, kp_12, kp_13, kp_14, kp_15, kp_16, kp_17, kp_18, kp_19, kp_20, kp_21, kp_22, kp_23, kp_24, kp_25, kp_26, kp_27, kp_28, kp_29, kp_30, kp_31, kp_32, kp_33, kp_34]) <;> omega)) | (with_reducible exact q_takeb) | ((with_reducible apply q_deep_y rfl) <;> omega) | ((with_reducible apply q_deep_n R rfl) <;> first | omega | assumption) | ((with_reducible apply q_deepb' rfl) <;> omega) | (with_reducible exact q_needb) | (with_reducible exact r_need1) | ((with_reducible apply r_need0 R hn) <;> first | omega | assumption)); skip)
    | ((with_reducible apply BM_if); focus (first | exact rfl | (with_reducible exact n00) | exact kp_y (by assumption) (by decide)); skip)
    | ((with_reducible apply BM_nif); focus (first | exact n10 | ((simp (disch := first | assumption | omega | exact ht _ (by omega)) only [lit, n_eq, n_le, kp_0, kp_1, kp_2, kp_3, kp_4, kp_5, kp_6, kp_7, kp_8, kp_9, kp_10, kp_11, kp_12, kp_13, kp_14, kp_15, kp_16, kp_17, kp_18, kp_19, kp_20, kp_21, kp_22, kp_23, kp_24, kp_25, kp_26, kp_27, kp_28, kp_29, kp_30, kp_31, kp_32, kp_33, kp_34]) <;> omega)); skip)
    | (with_reducible refine bm_jn ?_ rfl)
    | ((with_reducible apply bm_join); (focus (first | assumption | exact BI_new (by assumption) | exact BI_new (BI_new (by assumption)) | exact BI_new (BI_new (BI_new (by assumption))))); (focus omega); (focus omega); (focus (first | assumption | exact Or.inr ⟨_, by omega, rfl⟩)); intro _ _)
    | exact ⟨_, _, _, (by with_reducible rfl), by omega, by omega, (by first | assumption | exact BI_new (by assumption) | exact BI_new (BI_new (by assumption)) | exact BI_new (BI_new (BI_new (by assumption)))), (by first | exact Or.inl rfl | assumption | exact Or.inr ⟨_, by omega, rfl⟩)⟩)
        refine BM_I x2 ?_
        repeat (first
    | with_reducible refine M_VI ?_
    | with_reducible refine M_VV ?_
    | with_reducible refine M_Vif ?_
    | with_reducible refine M_Vs ?_
    | with_reducible refine M_II ?_
    | with_reducible refine M_IV ?_
    | with_reducible refine M_Iif ?_
    | with_reducible refine M_Is ?_
    | with_reducible refine M_Ichk ?_
    | ((with_reducible apply BM_bndE); focus (first | ((with_reducible apply r_p R hn) <;> first | omega | assumption)); skip)
    | with_reducible refine BM_bnd ?_
    | ((with_reducible apply BM_chk); focus (((with_reducible apply r_i hn)) <;> omega); skip)
    | ((with_reducible apply BM_I); focus (first | ((with_reducible apply r_look R hn) <;> first | omega | assumption) | (with_reducible exact q_look1) | ((with_reducible apply r_draft) <;> first | omega | exact rfl | exact r_p R hn (by omega) (by assumption)) | ((with_reducible apply r_db) <;> omega) | ((with_reducible apply r_nb) <;> omega) | ((with_reducible apply r_nameb) <;> omega) | ((with_reducible apply r_name_y R hn) <;> first | omega | assumption) | ((with_reducible apply r_name_n R hn) <;> first | omega | assumption | exact ht _ (by omega))); skip)
    | ((with_reducible apply BM_V); focus (first | ((with_reducible apply r_take_y R hn) <;> first | omega | assumption | first | exact rfl | (with_reducible exact n00) | exact kp_y (by assumption) (by decide)) | ((with_reducible apply r_take_n R hn) <;> first | omega | assumption | first | exact n10 | ((simp (disch := first | assumption | omega | exact ht _ (by omega)) only [lit, n_eq, n_le, kp_0, kp_1, kp_2, kp_3, kp_4, kp_5, kp_6, kp_7, kp_8, kp_9, kp_10, kp_11, kp_12, kp_13, kp_14, kp_15, kp_16, kp_17, kp_18, kp_19, kp_20, kp_21, kp_22, kp_23, kp_24, kp_25, kp_26, kp_27, kp_28, kp_29, kp_30, kp_31, kp_32, kp_33, kp_34]) <;> omega)) | (with_reducible exact q_takeb) | ((with_reducible apply q_deep_y rfl) <;> omega) | ((with_reducible apply q_deep_n R rfl) <;> first | omega | assumption) | ((with_reducible apply q_deepb' rfl) <;> omega) | (with_reducible exact q_needb) | (with_reducible exact r_need1) | ((with_reducible apply r_need0 R hn) <;> first | omega | assumption)); skip)
    | ((with_reducible apply BM_if); focus (first | exact rfl | (with_reducible exact n00) | exact kp_y (by assumption) (by decide)); skip)
    | ((with_reducible apply BM_nif); focus (first | exact n10 | ((simp (disch := first | assumption | omega | exact ht _ (by omega)) only [lit, n_eq, n_le, kp_0, kp_1, kp_2, kp_3, kp_4, kp_5, kp_6, kp_7, kp_8, kp_9, kp_10, kp_11, kp_12, kp_13, kp_14, kp_15, kp_16, kp_17, kp_18, kp_19, kp_20, kp_21, kp_22, kp_23, kp_24, kp_25, kp_26, kp_27, kp_28, kp_29, kp_30, kp_31, kp_32, kp_33, kp_34]) <;> omega)); skip)
    | (with_reducible refine bm_jn ?_ rfl)
    | ((with_reducible apply bm_join); (focus (first | assumption | exact BI_new (by assumption) | exact BI_new (BI_new (by assumption)) | exact BI_new (BI_new (BI_new (by assumption))))); (focus omega); (focus omega); (focus (first | assumption | exact Or.inr ⟨_, by omega, rfl⟩)); intro _ _)
    | exact ⟨_, _, _, (by with_reducible rfl), by omega, by omega, (by first | assumption | exact BI_new (by assumption) | exact BI_new (BI_new (by assumption)) | exact BI_new (BI_new (BI_new (by assumption)))), (by first | exact Or.inl rfl | assumption | exact Or.inr ⟨_, by omega, rfl⟩)⟩)
        refine BM_V (hj2 _) ?_
        have hBI := hb2.2.2.2
        repeat (first
    | with_reducible refine M_VI ?_
    | with_reducible refine M_VV ?_
    | with_reducible refine M_Vif ?_
    | with_reducible refine M_Vs ?_
    | with_reducible refine M_II ?_
    | with_reducible refine M_IV ?_
    | with_reducible refine M_Iif ?_
    | with_reducible refine M_Is ?_
    | with_reducible refine M_Ichk ?_
    | ((with_reducible apply BM_bndE); focus (first | ((with_reducible apply r_p R hn) <;> first | omega | assumption)); skip)
    | with_reducible refine BM_bnd ?_
    | ((with_reducible apply BM_chk); focus (((with_reducible apply r_i hn)) <;> omega); skip)
    | ((with_reducible apply BM_I); focus (first | ((with_reducible apply r_look R hn) <;> first | omega | assumption) | (with_reducible exact q_look1) | ((with_reducible apply r_draft) <;> first | omega | exact rfl | exact r_p R hn (by omega) (by assumption)) | ((with_reducible apply r_db) <;> omega) | ((with_reducible apply r_nb) <;> omega) | ((with_reducible apply r_nameb) <;> omega) | ((with_reducible apply r_name_y R hn) <;> first | omega | assumption) | ((with_reducible apply r_name_n R hn) <;> first | omega | assumption | exact ht _ (by omega))); skip)
    | ((with_reducible apply BM_V); focus (first | ((with_reducible apply r_take_y R hn) <;> first | omega | assumption | first | exact rfl | (with_reducible exact n00) | exact kp_y (by assumption) (by decide)) | ((with_reducible apply r_take_n R hn) <;> first | omega | assumption | first | exact n10 | ((simp (disch := first | assumption | omega | exact ht _ (by omega)) only [lit, n_eq, n_le, kp_0, kp_1, kp_2, kp_3, kp_4, kp_5, kp_6, kp_7, kp_8, kp_9, kp_10, kp_11, kp_12, kp_13, kp_14, kp_15, kp_16, kp_17, kp_18, kp_19, kp_20, kp_21, kp_22, kp_23, kp_24, kp_25, kp_26, kp_27, kp_28, kp_29, kp_30, kp_31, kp_32, kp_33, kp_34]) <;> omega)) | (with_reducible exact q_takeb) | ((with_reducible apply q_deep_y rfl) <;> omega) | ((with_reducible apply q_deep_n R rfl) <;> first | omega | assumption) | ((with_reducible apply q_deepb' rfl) <;> omega) | (with_reducible exact q_needb) | (with_reducible exact r_need1) | ((with_reducible apply r_need0 R hn) <;> first | omega | assumption)); skip)
    | ((with_reducible apply BM_if); focus (first | exact rfl | (with_reducible exact n00) | exact kp_y (by assumption) (by decide)); skip)
    | ((with_reducible apply BM_nif); focus (first | exact n10 | ((simp (disch := first | assumption | omega | exact ht _ (by omega)) only [lit, n_eq, n_le, kp_0, kp_1, kp_2, kp_3, kp_4, kp_5, kp_6, kp_7, kp_8, kp_9, kp_10, kp_11, kp_12, kp_13, kp_14, kp_15, kp_16, kp_17, kp_18, kp_19, kp_20, kp_21, kp_22, kp_23, kp_24, kp_25, kp_26, kp_27, kp_28, kp_29, kp_30, kp_31, kp_32, kp_33, kp_34]) <;> omega)); skip)
    | (with_reducible refine bm_jn ?_ rfl)
    | ((with_reducible apply bm_join); (focus (first | assumption | exact BI_new (by assumption) | exact BI_new (BI_new (by assumption)) | exact BI_new (BI_new (BI_new (by assumption))))); (focus omega); (focus omega); (focus (first | assumption | exact Or.inr ⟨_, by omega, rfl⟩)); intro _ _)
    | exact ⟨_, _, _, (by with_reducible rfl), by omega, by omega, (by first | assumption | exact BI_new (by assumption) | exact BI_new (BI_new (by assumption)) | exact BI_new (BI_new (BI_new (by assumption)))), (by first | exact Or.inl rfl | assumption | exact Or.inr ⟨_, by omega, rfl⟩)⟩)
  · refine OutK_b (q := q') (x := post (one dr 13 (tp q) (nI q) .leaf) ++ y) ?_ rfl ?_ x7 x8
    · rw [← List.append_assoc]
      unfold f_PA_assignment k_PA_assignment_31
      rw [hd1]
      repeat (first
    | ((with_reducible apply X_bndE); focus (first | ((with_reducible apply pz_pp h') <;> omega) | ((with_reducible apply pz_kk h') <;> omega) | (with_reducible exact pz_14)); skip)
    | with_reducible refine X_bnd ?_
    | ((with_reducible apply X_chk); focus (first | exact a1 | exact a2 | exact a3 | exact a4 | exact a5 | ((with_reducible apply pz_i1 h') <;> omega) | ((with_reducible apply pz_i2 h') <;> omega)); skip)
    | ((with_reducible apply X_rfO); focus (first | exact c1 | exact c2 | exact c5); skip)
    | ((with_reducible apply X_I); focus (first | ((with_reducible apply p_kaC h') <;> omega) | ((with_reducible apply p_paC h') <;> omega) | ((with_reducible apply p_skip_y h') <;> first | omega | ((simp (disch := omega) only [lit, n_eq]) <;> omega)) | ((with_reducible apply p_skip_n h') <;> first | omega | ((simp (disch := first | omega | exact Nat.lt_trans (ht _ (by omega)) (by omega)) only [lit, n_eq]) <;> omega))); skip)
    | ((with_reducible apply X_if); focus (first | (with_reducible exact rfl) | (with_reducible exact n00) | ((simp (disch := omega) only [lit, n_eq]) <;> omega)); skip)
    | ((with_reducible apply X_nif); focus (first | exact n10 | ((with_reducible apply p_cnt h') <;> omega) | ((simp (disch := first | omega | exact Nat.lt_trans (ht _ (by omega)) (by omega)) only [lit, n_eq]) <;> omega)); skip)
    | ((with_reducible apply X_T); focus (first | ((with_reducible apply p_take_y h') <;> first | omega | ((simp (disch := omega) only [lit, n_eq]) <;> omega)) | ((with_reducible apply p_limit_y h' rfl) <;> omega)); skip)
    | ((with_reducible apply X_Tt); focus (first | ((with_reducible apply p_take_n h') <;> first | omega | ((simp (disch := first | omega | exact Nat.lt_trans (ht _ (by omega)) (by omega)) only [lit, n_eq]) <;> omega)) | ((with_reducible apply p_limit_n h' rfl) <;> omega)); skip))
      refine X_T hnC ?_
      repeat (first
    | ((with_reducible apply X_bndE); focus (first | ((with_reducible apply pz_pp h') <;> omega) | ((with_reducible apply pz_kk h') <;> omega) | (with_reducible exact pz_14)); skip)
    | with_reducible refine X_bnd ?_
    | ((with_reducible apply X_chk); focus (first | exact a1 | exact a2 | exact a3 | exact a4 | exact a5 | ((with_reducible apply pz_i1 h') <;> omega) | ((with_reducible apply pz_i2 h') <;> omega)); skip)
    | ((with_reducible apply X_rfO); focus (first | exact c1 | exact c2 | exact c5); skip)
    | ((with_reducible apply X_I); focus (first | ((with_reducible apply p_kaC h') <;> omega) | ((with_reducible apply p_paC h') <;> omega) | ((with_reducible apply p_skip_y h') <;> first | omega | ((simp (disch := omega) only [lit, n_eq]) <;> omega)) | ((with_reducible apply p_skip_n h') <;> first | omega | ((simp (disch := first | omega | exact Nat.lt_trans (ht _ (by omega)) (by omega)) only [lit, n_eq]) <;> omega))); skip)
    | ((with_reducible apply X_if); focus (first | (with_reducible exact rfl) | (with_reducible exact n00) | ((simp (disch := omega) only [lit, n_eq]) <;> omega)); skip)
    | ((with_reducible apply X_nif); focus (first | exact n10 | ((with_reducible apply p_cnt h') <;> omega) | ((simp (disch := first | omega | exact Nat.lt_trans (ht _ (by omega)) (by omega)) only [lit, n_eq]) <;> omega)); skip)
    | ((with_reducible apply X_T); focus (first | ((with_reducible apply p_take_y h') <;> first | omega | ((simp (disch := omega) only [lit, n_eq]) <;> omega)) | ((with_reducible apply p_limit_y h' rfl) <;> omega)); skip)
    | ((with_reducible apply X_Tt); focus (first | ((with_reducible apply p_take_n h') <;> first | omega | ((simp (disch := first | omega | exact Nat.lt_trans (ht _ (by omega)) (by omega)) only [lit, n_eq]) <;> omega)) | ((with_reducible apply p_limit_n h' rfl) <;> omega)); skip))
      exact X_Tt x1 rfl
    · unfold f_RM_statement f_RM_named f_RM_sums k_RM_named_217 k_RM_named_108
      simp only [hd1]
      repeat (first
    | with_reducible refine M_VI ?_
    | with_reducible refine M_VV ?_
    | with_reducible refine M_Vif ?_
    | with_reducible refine M_Vs ?_
    | with_reducible refine M_II ?_
    | with_reducible refine M_IV ?_
    | with_reducible refine M_Iif ?_
    | with_reducible refine M_Is ?_
    | with_reducible refine M_Ichk ?_
    | ((with_reducible apply BM_bndE); focus (first | ((with_reducible apply r_p R hn) <;> first | omega | assumption)); skip)
    | with_reducible refine BM_bnd ?_
    | ((with_reducible apply BM_chk); focus (((with_reducible apply r_i hn)) <;> omega); skip)
    | ((with_reducible apply BM_I); focus (first | ((with_reducible apply r_look R hn) <;> first | omega | assumption) | (with_reducible exact q_look1) | ((with_reducible apply r_draft) <;> first | omega | exact rfl | exact r_p R hn (by omega) (by assumption)) | ((with_reducible apply r_db) <;> omega) | ((with_reducible apply r_nb) <;> omega) | ((with_reducible apply r_nameb) <;> omega) | ((with_reducible apply r_name_y R hn) <;> first | omega | assumption) | ((with_reducible apply r_name_n R hn) <;> first | omega | assumption | exact ht _ (by omega))); skip)
    | ((with_reducible apply BM_V); focus (first | ((with_reducible apply r_take_y R hn) <;> first | omega | assumption | first | exact rfl | (with_reducible exact n00) | exact kp_y (by assumption) (by decide)) | ((with_reducible apply r_take_n R hn) <;> first | omega | assumption | first | exact n10 | ((simp (disch := first | assumption | omega | exact ht _ (by omega)) only [lit, n_eq, n_le, kp_0, kp_1, kp_2, kp_3, kp_4, kp_5, kp_6, kp_7, kp_8, kp_9, kp_10, kp_11, kp_12, kp_13, kp_14, kp_15, kp_16, kp_17, kp_18, kp_19, kp_20, kp_21, kp_22, kp_23, kp_24, kp_25, kp_26, kp_27, kp_28, kp_29, kp_30, kp_31, kp_32, kp_33, kp_34]) <;> omega)) | (with_reducible exact q_takeb) | ((with_reducible apply q_deep_y rfl) <;> omega) | ((with_reducible apply q_deep_n R rfl) <;> first | omega | assumption) | ((with_reducible apply q_deepb' rfl) <;> omega) | (with_reducible exact q_needb) | (with_reducible exact r_need1) | ((with_reducible apply r_need0 R hn) <;> first | omega | assumption)); skip)
    | ((with_reducible apply BM_if); focus (first | exact rfl | (with_reducible exact n00) | exact kp_y (by assumption) (by decide)); skip)
    | ((with_reducible apply BM_nif); focus (first | exact n10 | ((simp (disch := first | assumption | omega | exact ht _ (by omega)) only [lit, n_eq, n_le, kp_0, kp_1, kp_2, kp_3, kp_4, kp_5, kp_6, kp_7, kp_8, kp_9, kp_10, kp_11, kp_12, kp_13, kp_14, kp_15, kp_16, kp_17, kp_18, kp_19, kp_20, kp_21, kp_22, kp_23, kp_24, kp_25, kp_26, kp_27, kp_28, kp_29, kp_30, kp_31, kp_32, kp_33, kp_34]) <;> omega)); skip)
    | (with_reducible refine bm_jn ?_ rfl)
    | ((with_reducible apply bm_join); (focus (first | assumption | exact BI_new (by assumption) | exact BI_new (BI_new (by assumption)) | exact BI_new (BI_new (BI_new (by assumption))))); (focus omega); (focus omega); (focus (first | assumption | exact Or.inr ⟨_, by omega, rfl⟩)); intro _ _)
    | exact ⟨_, _, _, (by with_reducible rfl), by omega, by omega, (by first | assumption | exact BI_new (by assumption) | exact BI_new (BI_new (by assumption)) | exact BI_new (BI_new (BI_new (by assumption)))), (by first | exact Or.inl rfl | assumption | exact Or.inr ⟨_, by omega, rfl⟩)⟩)
      refine BM_V (hj1 _) ?_
      repeat (first
    | with_reducible refine M_VI ?_
    | with_reducible refine M_VV ?_
    | with_reducible refine M_Vif ?_
    | with_reducible refine M_Vs ?_
    | with_reducible refine M_II ?_
    | with_reducible refine M_IV ?_
    | with_reducible refine M_Iif ?_
    | with_reducible refine M_Is ?_
    | with_reducible refine M_Ichk ?_
    | ((with_reducible apply BM_bndE); focus (first | ((with_reducible apply r_p R hn) <;> first | omega | assumption)); skip)
    | with_reducible refine BM_bnd ?_
    | ((with_reducible apply BM_chk); focus (((with_reducible apply r_i hn)) <;> omega); skip)
    | ((with_reducible apply BM_I); focus (first | ((with_reducible apply r_look R hn) <;> first | omega | assumption) | (with_reducible exact q_look1) | ((with_reducible apply r_draft) <;> first | omega | exact rfl | exact r_p R hn (by omega) (by assumption)) | ((with_reducible apply r_db) <;> omega) | ((with_reducible apply r_nb) <;> omega) | ((with_reducible apply r_nameb) <;> omega) | ((with_reducible apply r_name_y R hn) <;> first | omega | assumption) | ((with_reducible apply r_name_n R hn) <;> first | omega | assumption | exact ht _ (by omega))); skip)
    | ((with_reducible apply BM_V); focus (first | ((with_reducible apply r_take_y R hn) <;> first | omega | assumption | first | exact rfl | (with_reducible exact n00) | exact kp_y (by assumption) (by decide)) | ((with_reducible apply r_take_n R hn) <;> first | omega | assumption | first | exact n10 | ((simp (disch := first | assumption | omega | exact ht _ (by omega)) only [lit, n_eq, n_le, kp_0, kp_1, kp_2, kp_3, kp_4, kp_5, kp_6, kp_7, kp_8, kp_9, kp_10, kp_11, kp_12, kp_13, kp_14, kp_15, kp_16, kp_17, kp_18, kp_19, kp_20, kp_21, kp_22, kp_23, kp_24, kp_25, kp_26, kp_27, kp_28, kp_29, kp_30, kp_31, kp_32, kp_33, kp_34]) <;> omega)) | (with_reducible exact q_takeb) | ((with_reducible apply q_deep_y rfl) <;> omega) | ((with_reducible apply q_deep_n R rfl) <;> first | omega | assumption) | ((with_reducible apply q_deepb' rfl) <;> omega) | (with_reducible exact q_needb) | (with_reducible exact r_need1) | ((with_reducible apply r_need0 R hn) <;> first | omega | assumption)); skip)
    | ((with_reducible apply BM_if); focus (first | exact rfl | (with_reducible exact n00) | exact kp_y (by assumption) (by decide)); skip)
    | ((with_reducible apply BM_nif); focus (first | exact n10 | ((simp (disch := first | assumption | omega | exact ht _ (by omega)) only [lit, n_eq, n_le, kp_0, kp_1, kp_2, kp_3, kp_4, kp_5, kp_6, kp_7, kp_8, kp_9, kp_10, kp_11, kp_12, kp_13, kp_14, kp_15, kp_16, kp_17, kp_18, kp_19, kp_20, kp_21, kp_22, kp_23, kp_24, kp_25, kp_26, kp_27, kp_28, kp_29, kp_30, kp_31, kp_32, kp_33, kp_34]) <;> omega)); skip)
    | (with_reducible refine bm_jn ?_ rfl)
    | ((with_reducible apply bm_join); (focus (first | assumption | exact BI_new (by assumption) | exact BI_new (BI_new (by assumption)) | exact BI_new (BI_new (BI_new (by assumption))))); (focus omega); (focus omega); (focus (first | assumption | exact Or.inr ⟨_, by omega, rfl⟩)); intro _ _)
    | exact ⟨_, _, _, (by with_reducible rfl), by omega, by omega, (by first | assumption | exact BI_new (by assumption) | exact BI_new (BI_new (by assumption)) | exact BI_new (BI_new (BI_new (by assumption)))), (by first | exact Or.inl rfl | assumption | exact Or.inr ⟨_, by omega, rfl⟩)⟩)
      refine BM_I x2 ?_
      repeat (first
    | with_reducible refine M_VI ?_
    | with_reducible refine M_VV ?_
    | with_reducible refine M_Vif ?_
    | with_reducible refine M_Vs ?_
    | with_reducible refine M_II ?_
    | with_reducible refine M_IV ?_
    | with_reducible refine M_Iif ?_
    | with_reducible refine M_Is ?_
    | with_reducible refine M_Ichk ?_
    | ((with_reducible apply BM_bndE); focus (first | ((with_reducible apply r_p R hn) <;> first | omega | assumption)); skip)
    | with_reducible refine BM_bnd ?_
    | ((with_reducible apply BM_chk); focus (((with_reducible apply r_i hn)) <;> omega); skip)
    | ((with_reducible apply BM_I); focus (first | ((with_reducible apply r_look R hn) <;> first | omega | assumption) | (with_reducible exact q_look1) | ((with_reducible apply r_draft) <;> first | omega | exact rfl | exact r_p R hn (by omega) (by assumption)) | ((with_reducible apply r_db) <;> omega) | ((with_reducible apply r_nb) <;> omega) | ((with_reducible apply r_nameb) <;> omega) | ((with_reducible apply r_name_y R hn) <;> first | omega | assumption) | ((with_reducible apply r_name_n R hn) <;> first | omega | assumption | exact ht _ (by omega))); skip)
    | ((with_reducible apply BM_V); focus (first | ((with_reducible apply r_take_y R hn) <;> first | omega | assumption | first | exact rfl | (with_reducible exact n00) | exact kp_y (by assumption) (by decide)) | ((with_reducible apply r_take_n R hn) <;> first | omega | assumption | first | exact n10 | ((simp (disch := first | assumption | omega | exact ht _ (by omega)) only [lit, n_eq, n_le, kp_0, kp_1, kp_2, kp_3, kp_4, kp_5, kp_6, kp_7, kp_8, kp_9, kp_10, kp_11, kp_12, kp_13, kp_14, kp_15, kp_16, kp_17, kp_18, kp_19, kp_20, kp_21, kp_22, kp_23, kp_24, kp_25, kp_26, kp_27, kp_28, kp_29, kp_30, kp_31, kp_32, kp_33, kp_34]) <;> omega)) | (with_reducible exact q_takeb) | ((with_reducible apply q_deep_y rfl) <;> omega) | ((with_reducible apply q_deep_n R rfl) <;> first | omega | assumption) | ((with_reducible apply q_deepb' rfl) <;> omega) | (with_reducible exact q_needb) | (with_reducible exact r_need1) | ((with_reducible apply r_need0 R hn) <;> first | omega | assumption)); skip)
    | ((with_reducible apply BM_if); focus (first | exact rfl | (with_reducible exact n00) | exact kp_y (by assumption) (by decide)); skip)
    | ((with_reducible apply BM_nif); focus (first | exact n10 | ((simp (disch := first | assumption | omega | exact ht _ (by omega)) only [lit, n_eq, n_le, kp_0, kp_1, kp_2, kp_3, kp_4, kp_5, kp_6, kp_7, kp_8, kp_9, kp_10, kp_11, kp_12, kp_13, kp_14, kp_15, kp_16, kp_17, kp_18, kp_19, kp_20, kp_21, kp_22, kp_23, kp_24, kp_25, kp_26, kp_27, kp_28, kp_29, kp_30, kp_31, kp_32, kp_33, kp_34]) <;> omega)); skip)
    | (with_reducible refine bm_jn ?_ rfl)
    | ((with_reducible apply bm_join); (focus (first | assumption | exact BI_new (by assumption) | exact BI_new (BI_new (by assumption)) | exact BI_new (BI_new (BI_new (by assumption))))); (focus omega); (focus omega); (focus (first | assumption | exact Or.inr ⟨_, by omega, rfl⟩)); intro _ _)
    | exact ⟨_, _, _, (by with_reducible rfl), by omega, by omega, (by first | assumption | exact BI_new (by assumption) | exact BI_new (BI_new (by assumption)) | exact BI_new (BI_new (BI_new (by assumption)))), (by first | exact Or.inl rfl | assumption | exact Or.inr ⟨_, by omega, rfl⟩)⟩)
theorem st_none {d lim hm : Nat} {ps : (Nat → Int32 → mh_H → Option (Bool × Int32 × mh_H))} {rs rc rb rs0 rs1 : (Int32 → rm_S → Option (Int32 × rm_S))} (E : EN σ ap dd tt bk bp bv dk dp dv dz n room tk tp tv S N) (hS0 : Sim σ ap dd dk dp dv dz n tk tp S (d + 1) lim hm ps rs0) (hS1 : Sim σ ap dd dk dp dv dz n tk tp S (d + 1) lim hm ps rs1) (hl : 16010 ≤ lim ∧ lim < 25900 ∧ 1 ≤ hm) (hd : d ≤ 60) {flt : Int32} {q : Nat} {ds : List Ent} {dr : Nat} {B : Nat → Nat → Int32} (hI : Inp n tk q ds dr B) (t2 : tk q = 2) (u1 : ¬ tk (q + 1) = 16) (u2 : ¬ tk (q + 1) = 20) (u3 : ¬ tk (q + 1) = 12) : OutK σ ap dd dk dp dv dz n tk tp S flt q ds dr B (lim + 10) (hm + 1) (f_PA_assignment N ps ap (nI d) (pz σ ap dd dk dp dv dz q ds)) (f_RM_statement N rs (f_RM_named N (f_RM_sums N rs0) rs1) rc rb (nI d) (qz S q 0 flt dr B)) := by
  have hI' := hI
  have E' := E
  obtain ⟨⟨i1, i2⟩, i3, i4, i5⟩ := hI
  obtain ⟨h, R, hn, hNN⟩ := E
  have h' := h
  obtain ⟨⟨a1, a2, a3⟩, ⟨a4, a5, a6, a7, a8, a9, a10⟩, ⟨c1, c2⟩, ⟨c4, c5, c6⟩, ⟨c7, c8, c9, c10⟩, -, ⟨e5, e6, e7⟩, e8, -, -, -, -, e9, e10, e11, e12, e13⟩ := h
  have ht : ∀ j, j < n → tk j < 35 := fun j hj => (e9 j hj).2.2.2
  have hb1 : ∀ j, j < n → j < hN σ bk := fun j hj => by omega
  have hb2 : ∀ j, j < n → j < hN σ bp := fun j hj => by omega
  have hd1 : nI d + 1 = nI (d + 1) := n_add d 1
  have q1 := e13 q i1 (by omega)
  have g1 := gd_s i2 (by omega) (by omega)
  have hp := R_3 R i1 i2
  have htq1 := ht (q + 1) q1
  have hb := nb_new (k := 13) (p := tp q) (v := nI q) (show dr < 26000 by omega) i5
  have hw1 : wf n tk tp (one dr 13 (tp q) (nI q) .leaf) := s_first i1 i2 t2 hp _
  have hnC := p_name_y (N := N) (ds := ds) h' i1 (by omega) t2 dr
  have hll : (ds ++ post (one dr 13 (tp q) (nI q) .leaf)).length = ds.length + 1 := by simp [post]
  refine OutK_b (q := q + 1) (x := post (one dr 13 (tp q) (nI q) .leaf)) ?_ rfl ?_ q1 g1
  · unfold f_PA_assignment k_PA_assignment_31
    rw [hd1]
    repeat (first
    | ((with_reducible apply X_bndE); focus (first | ((with_reducible apply pz_pp h') <;> omega) | ((with_reducible apply pz_kk h') <;> omega) | (with_reducible exact pz_14)); skip)
    | with_reducible refine X_bnd ?_
    | ((with_reducible apply X_chk); focus (first | exact a1 | exact a2 | exact a3 | exact a4 | exact a5 | ((with_reducible apply pz_i1 h') <;> omega) | ((with_reducible apply pz_i2 h') <;> omega)); skip)
    | ((with_reducible apply X_rfO); focus (first | exact c1 | exact c2 | exact c5); skip)
    | ((with_reducible apply X_I); focus (first | ((with_reducible apply p_kaC h') <;> omega) | ((with_reducible apply p_paC h') <;> omega) | ((with_reducible apply p_skip_y h') <;> first | omega | ((simp (disch := omega) only [lit, n_eq]) <;> omega)) | ((with_reducible apply p_skip_n h') <;> first | omega | ((simp (disch := first | omega | exact Nat.lt_trans (ht _ (by omega)) (by omega)) only [lit, n_eq]) <;> omega))); skip)
    | ((with_reducible apply X_if); focus (first | (with_reducible exact rfl) | (with_reducible exact n00) | ((simp (disch := omega) only [lit, n_eq]) <;> omega)); skip)
    | ((with_reducible apply X_nif); focus (first | exact n10 | ((with_reducible apply p_cnt h') <;> omega) | ((simp (disch := first | omega | exact Nat.lt_trans (ht _ (by omega)) (by omega)) only [lit, n_eq]) <;> omega)); skip)
    | ((with_reducible apply X_T); focus (first | ((with_reducible apply p_take_y h') <;> first | omega | ((simp (disch := omega) only [lit, n_eq]) <;> omega)) | ((with_reducible apply p_limit_y h' rfl) <;> omega)); skip)
    | ((with_reducible apply X_Tt); focus (first | ((with_reducible apply p_take_n h') <;> first | omega | ((simp (disch := first | omega | exact Nat.lt_trans (ht _ (by omega)) (by omega)) only [lit, n_eq]) <;> omega)) | ((with_reducible apply p_limit_n h' rfl) <;> omega)); skip))
    refine X_T hnC ?_
    repeat (first
    | ((with_reducible apply X_bndE); focus (first | ((with_reducible apply pz_pp h') <;> omega) | ((with_reducible apply pz_kk h') <;> omega) | (with_reducible exact pz_14)); skip)
    | with_reducible refine X_bnd ?_
    | ((with_reducible apply X_chk); focus (first | exact a1 | exact a2 | exact a3 | exact a4 | exact a5 | ((with_reducible apply pz_i1 h') <;> omega) | ((with_reducible apply pz_i2 h') <;> omega)); skip)
    | ((with_reducible apply X_rfO); focus (first | exact c1 | exact c2 | exact c5); skip)
    | ((with_reducible apply X_I); focus (first | ((with_reducible apply p_kaC h') <;> omega) | ((with_reducible apply p_paC h') <;> omega) | ((with_reducible apply p_skip_y h') <;> first | omega | ((simp (disch := omega) only [lit, n_eq]) <;> omega)) | ((with_reducible apply p_skip_n h') <;> first | omega | ((simp (disch := first | omega | exact Nat.lt_trans (ht _ (by omega)) (by omega)) only [lit, n_eq]) <;> omega))); skip)
    | ((with_reducible apply X_if); focus (first | (with_reducible exact rfl) | (with_reducible exact n00) | ((simp (disch := omega) only [lit, n_eq]) <;> omega)); skip)
    | ((with_reducible apply X_nif); focus (first | exact n10 | ((with_reducible apply p_cnt h') <;> omega) | ((simp (disch := first | omega | exact Nat.lt_trans (ht _ (by omega)) (by omega)) only [lit, n_eq]) <;> omega)); skip)
    | ((with_reducible apply X_T); focus (first | ((with_reducible apply p_take_y h') <;> first | omega | ((simp (disch := omega) only [lit, n_eq]) <;> omega)) | ((with_reducible apply p_limit_y h' rfl) <;> omega)); skip)
    | ((with_reducible apply X_Tt); focus (first | ((with_reducible apply p_take_n h') <;> first | omega | ((simp (disch := first | omega | exact Nat.lt_trans (ht _ (by omega)) (by omega)) only [lit, n_eq]) <;> omega)) | ((with_reducible apply p_limit_n h' rfl) <;> omega)); skip))
    rfl
  · unfold f_RM_statement f_RM_named f_RM_sums k_RM_named_217 k_RM_named_108
    simp only [hd1]
    repeat (first
    | with_reducible refine M_VI ?_
    | with_reducible refine M_VV ?_
    | with_reducible refine M_Vif ?_
    | with_reducible refine M_Vs ?_
    | with_reducible refine M_II ?_
    | with_reducible refine M_IV ?_
    | with_reducible refine M_Iif ?_
    | with_reducible refine M_Is ?_
    | with_reducible refine M_Ichk ?_
    | ((with_reducible apply BM_bndE); focus (first | ((with_reducible apply r_p R hn) <;> first | omega | assumption)); skip)
    | with_reducible refine BM_bnd ?_
    | ((with_reducible apply BM_chk); focus (((with_reducible apply r_i hn)) <;> omega); skip)
    | ((with_reducible apply BM_I); focus (first | ((with_reducible apply r_look R hn) <;> first | omega | assumption) | (with_reducible exact q_look1) | ((with_reducible apply r_draft) <;> first | omega | exact rfl | exact r_p R hn (by omega) (by assumption)) | ((with_reducible apply r_db) <;> omega) | ((with_reducible apply r_nb) <;> omega) | ((with_reducible apply r_nameb) <;> omega) | ((with_reducible apply r_name_y R hn) <;> first | omega | assumption) | ((with_reducible apply r_name_n R hn) <;> first | omega | assumption | exact ht _ (by omega))); skip)
    | ((with_reducible apply BM_V); focus (first | ((with_reducible apply r_take_y R hn) <;> first | omega | assumption | first | exact rfl | (with_reducible exact n00) | exact kp_y (by assumption) (by decide)) | ((with_reducible apply r_take_n R hn) <;> first | omega | assumption | first | exact n10 | ((simp (disch := first | assumption | omega | exact ht _ (by omega)) only [lit, n_eq, n_le, kp_0, kp_1, kp_2, kp_3, kp_4, kp_5, kp_6, kp_7, kp_8, kp_9, kp_10, kp_11, kp_12, kp_13, kp_14, kp_15, kp_16, kp_17, kp_18, kp_19, kp_20, kp_21, kp_22, kp_23, kp_24, kp_25, kp_26, kp_27, kp_28, kp_29, kp_30, kp_31, kp_32, kp_33, kp_34]) <;> omega)) | (with_reducible exact q_takeb) | ((with_reducible apply q_deep_y rfl) <;> omega) | ((with_reducible apply q_deep_n R rfl) <;> first | omega | assumption) | ((with_reducible apply q_deepb' rfl) <;> omega) | (with_reducible exact q_needb) | (with_reducible exact r_need1) | ((with_reducible apply r_need0 R hn) <;> first | omega | assumption)); skip)
    | ((with_reducible apply BM_if); focus (first | exact rfl | (with_reducible exact n00) | exact kp_y (by assumption) (by decide)); skip)
    | ((with_reducible apply BM_nif); focus (first | exact n10 | ((simp (disch := first | assumption | omega | exact ht _ (by omega)) only [lit, n_eq, n_le, kp_0, kp_1, kp_2, kp_3, kp_4, kp_5, kp_6, kp_7, kp_8, kp_9, kp_10, kp_11, kp_12, kp_13, kp_14, kp_15, kp_16, kp_17, kp_18, kp_19, kp_20, kp_21, kp_22, kp_23, kp_24, kp_25, kp_26, kp_27, kp_28, kp_29, kp_30, kp_31, kp_32, kp_33, kp_34]) <;> omega)); skip)
    | (with_reducible refine bm_jn ?_ rfl)
    | ((with_reducible apply bm_join); (focus (first | assumption | exact BI_new (by assumption) | exact BI_new (BI_new (by assumption)) | exact BI_new (BI_new (BI_new (by assumption))))); (focus omega); (focus omega); (focus (first | assumption | exact Or.inr ⟨_, by omega, rfl⟩)); intro _ _)
    | exact ⟨_, _, _, (by with_reducible rfl), by omega, by omega, (by first | assumption | exact BI_new (by assumption) | exact BI_new (BI_new (by assumption)) | exact BI_new (BI_new (BI_new (by assumption)))), (by first | exact Or.inl rfl | assumption | exact Or.inr ⟨_, by omega, rfl⟩)⟩)
end SIMNAMED2
