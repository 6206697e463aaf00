/-! statements that begin with a name -/
section SIMNAMED
variable {σ : mh_H} {ap dd tt bk bp bv dk dp dv dz n room : Nat} {tk tp : Nat → Nat} {tv : Nat → Int32} {S : rm_S} {N : Nat}
theorem OutK_c {flt : Int32} {q0 : Nat} {ds : List Ent} {dr0 : Nat} {B0 : Nat → Nat → Int32} {lim hm : Nat} {rc rc' : Option (Bool × Int32 × mh_H)} {rr rr' : Option (Int32 × rm_S)} (h1 : rc = rc') (h2 : rr = rr') (h : OutK σ ap dd dk dp dv dz n tk tp S flt q0 ds dr0 B0 lim hm rc' rr') : OutK σ ap dd dk dp dv dz n tk tp S flt q0 ds dr0 B0 lim hm rc rr := by rw [h1, h2]; exact h
theorem nb_call {q dr p pn : Nat} {flt : Int32} {vn : Int32} {B : Nat → Nat → Int32} (hd : dr + 1 + 1 < 26000) (hI : BI dr B) :
    ∃ B4 B5, (∀ x, f_RM_join N (nI (dr + 1)) (nI (dr + 1 + 1)) (qz S x 0 flt (dr + 1 + 1 + 1) (bd (bd (bd B dr (nI 13) (nI pn) vn) (dr + 1) (nI 7) (nI p) 0) (dr + 1 + 1) (nI 33) (nI p) 0)) = some (qz S x 0 flt (dr + 1 + 1 + 1) B4)) ∧ (∀ x, f_RM_join N (nI (dr + 1)) (nI dr) (qz S x 0 flt (dr + 1 + 1 + 1) B4) = some (qz S x 0 flt (dr + 1 + 1 + 1) B5)) ∧ NB dr B (dr + 1) 7 p 0 (app (one (dr + 1 + 1) 33 p 0 .leaf) (one dr 13 pn vn .leaf)) (dr + 1 + 1 + 1) B5 := by
  have h1 := nb_new (k := 13) (p := pn) (v := vn) (show dr < 26000 by omega) hI
  have h2 := nb_new (k := 7) (p := p) (v := 0) (show dr + 1 < 26000 by omega) h1.2.2.2
  have h3 := nb_new (k := 33) (p := p) (v := 0) (show dr + 1 + 1 < 26000 by omega) h2.2.2.2
  have h4 := nb_join h2 h3
  have hK1 : KS (bj (bd (bd (bd B dr (nI 13) (nI pn) vn) (dr + 1) (nI 7) (nI p) 0) (dr + 1 + 1) (nI 33) (nI p) 0) (dr + 1) .leaf (dr + 1 + 1)) dr 13 pn vn .leaf := KS_old (dr := dr + 1) (by simp [nds]) h4.2.2.1 h1.1
  have hdj : ∀ j ∈ dr :: nds .leaf, j ∉ (dr + 1) :: nds (app .leaf (one (dr + 1 + 1) 33 p 0 .leaf)) := by
    intro j hj hj'
    simp only [nds, app, List.append_nil, List.mem_cons, List.not_mem_nil, or_false] at hj hj'
    omega
  have hK2 := KS_join h4.1 hK1 hdj
  refine ⟨_, _, fun x => nb_joinE h2 h3, fun x => q_join h4.1 hK1, hK2, ?_, ?_, BI_join h4.2.2.2 (by omega)⟩
  · intro j hj
    simp only [nds, app, List.append_nil, List.nil_append, List.mem_cons, List.not_mem_nil, or_false] at hj
    omega
  · intro o j hj
    rw [bj_o o j (by simp only [nds, app, List.append_nil, List.mem_cons, List.not_mem_nil, or_false]; omega), h4.2.2.1 o j (by omega), h1.2.2.1 o j hj]
theorem p_kat1 {q : Nat} {ds : List Ent} (h : PE σ ap dd tt bk bp bv dk dp dv dz n room tk tp tv) (hq : q + 1 < n) : f_TO_kindAt N tt ((hI (pz σ ap dd dk dp dv dz q ds) 3 2 ap) + 1) (pz σ ap dd dk dp dv dz q ds) = some (nI (tk (q + 1)), pz σ ap dd dk dp dv dz q ds) := by
  have : n < 10000 := by obtain ⟨⟨a1, a2, a3⟩, ⟨a4, a5, a6, a7, a8, a9, a10⟩, ⟨c1, c2⟩, ⟨c4, c5, c6⟩, ⟨c7, c8, c9, c10⟩, -, ⟨e5, e6, e7⟩, e8, -, -, -, -, e9, e10, e11, e12, e13⟩ := h; exact e10
  rw [pz_33, show nI q + 1 = nI (q + 1) from n_add q 1, p_kindAt h (by omega), if_pos hq]
theorem p_add33 {q : Nat} {ds : List Ent} (h : PE σ ap dd tt bk bp bv dk dp dv dz n room tk tp tv) (hq : q < n) (hd : ds.length < room) (i : Nat) : f_DR_add N dd 33 (nI (tp q)) 0 1 (pz σ ap dd dk dp dv dz q ds) = some (pz σ ap dd dk dp dv dz q (ds ++ post (one i 33 (tp q) 0 .leaf))) := by
  rw [p_add h hd]; rfl
theorem loop_args {d lim hm : Nat} {ps : (Nat → Int32 → mh_H → Option (Bool × Int32 × mh_H))} {rs : (Int32 → rm_S → Option (Int32 × rm_S))} (E : EN σ ap dd tt bk bp bv dk dp dv dz n room tk tp tv S N) (hS : Sim σ ap dd dk dp dv dz n tk tp S (d + 1) lim hm ps rs) (hl : 16010 ≤ lim ∧ lim < 25900 ∧ 1 ≤ hm) {flt : Int32} {q0 dr0 s : Nat} {ds0 : List Ent} {B0 : Nat → Nat → Int32} (h0 : q0 < n ∧ ds0.length ≤ 2 * q0 ∧ dr0 ≤ 2 * q0) (hp : tp q0 < 10000) :
    ∀ m q f o dr B fu fu', n - q ≤ m → m < fu → m < fu' → q0 < q → q < n → gd tk q → NB dr0 B0 s 7 (tp q0) 0 f dr B → (dr ≤ dr0 + 2 * (q - q0) ∧ 2 * siz f ≤ 3 * (q - q0) ∧ o + q0 ≤ q) → wf n tk tp f → hgt f ≤ hm → 2 ≤ (kls f).length →
    OutK σ ap dd dk dp dv dz n tk tp S flt q0 ds0 dr0 B0 (lim + 10) (hm + 1) (k_PA_call_88 N ps fu ap (nI d) (nI o) (pz σ ap dd dk dp dv dz q (ds0 ++ post f))) (calV (k_RM_sums_38 N rs fu' (nI s) (nI d) (qz S q 0 flt dr B)) fun S' => calV (f_RM_take N 59 S') fun S'' => some (nI s, S'')) := by
  have hd1 : nI d + 1 = nI (d + 1) := n_add d 1
  obtain ⟨h, R, hn, hNN⟩ := E
  have h' := h
  obtain ⟨⟨a1, a2, a3⟩, ⟨a4, a5, a6, a7, a8, a9, a10⟩, ⟨c1, c2⟩, ⟨c4, c5, c6⟩, ⟨c7, c8, c9, c10⟩, -, ⟨e5, e6, e7⟩, e8, -, -, -, -, e9, e10, e11, e12, e13⟩ := h
  have ht : ∀ j, j < n → tk j < 35 := fun j hj => (e9 j hj).2.2.2
  intro m
  induction m with
  | zero => intro q f o dr B fu fu' h1 _ _ _ h2; omega
  | succ m ih =>
    intro q f o dr B fu fu' h1 hfu hfu' hq0 hq hg hb ⟨hdr, hsz, hoq⟩ hw hh hk
    obtain ⟨fu, rfl⟩ : ∃ x, fu = x + 1 := ⟨fu - 1, by omega⟩
    obtain ⟨fu', rfl⟩ : ∃ x, fu' = x + 1 := ⟨fu' - 1, by omega⟩
    have hlen : (ds0 ++ post f).length = ds0.length + siz f := by rw [List.length_append, post_len]
    have hs := nb_lt hb
    have htq := ht q hq
    by_cases u18 : tk q = 18
    · have q1 := e13 q hq (by omega)
      have g1 := gd_s hg (by omega) (by omega)
      rcases hS flt (q + 1) (ds0 ++ post f) dr B ⟨⟨q1, g1⟩, by omega, by omega, hb.2.2.2⟩ with ⟨q', i', k', p', v', c', dr', B', x1, x2, x3⟩ | ⟨q', y, x1, ⟨v, dr', B', x2, x3, x4, x5, x6⟩, x7, x8⟩
      · have hb' := nb_of x3
        obtain ⟨⟨y1, y2, y3⟩, -, -, -, y0, ⟨y4, y5, y6⟩, y7, y8⟩ := x3
        have hb2 := nb_join hb hb'
        have hj := nb_joinE (S := S) (N := N) (bad := 0) (flt := flt) (q := q') hb hb'
        refine OutK_c (rc' := k_PA_call_88 N ps fu ap (nI d) (nI (o + 1)) (pz σ ap dd dk dp dv dz q' (ds0 ++ post (app f (one i' k' p' v' c'))))) (rr' := calV (k_RM_sums_38 N rs fu' (nI s) (nI d) (qz S q' 0 flt dr' (bj B' s f i'))) fun S' => calV (f_RM_take N 59 S') fun S'' => some (nI s, S'')) ?_ ?_ ?_
        · conv => lhs; unfold k_PA_call_88
          rw [hd1]
          repeat (first
    | ((with_reducible apply X_bndE); focus (first | ((with_reducible apply pz_pp h') <;> omega) | ((with_reducible apply pz_kk h') <;> omega) | (with_reducible exact pz_14)); skip)
    | with_reducible refine X_bnd ?_
    | ((with_reducible apply X_chk); focus (first | exact a1 | exact a2 | exact a3 | exact a4 | exact a5 | ((with_reducible apply pz_i1 h') <;> omega) | ((with_reducible apply pz_i2 h') <;> omega)); skip)
    | ((with_reducible apply X_rfO); focus (first | exact c1 | exact c2 | exact c5); skip)
    | ((with_reducible apply X_I); focus (first | ((with_reducible apply p_kaC h') <;> omega) | ((with_reducible apply p_paC h') <;> omega) | ((with_reducible apply p_skip_y h') <;> first | omega | ((simp (disch := omega) only [lit, n_eq]) <;> omega)) | ((with_reducible apply p_skip_n h') <;> first | omega | ((simp (disch := first | omega | exact Nat.lt_trans (ht _ (by omega)) (by omega)) only [lit, n_eq]) <;> omega))); skip)
    | ((with_reducible apply X_if); focus (first | (with_reducible exact rfl) | (with_reducible exact n00) | ((simp (disch := omega) only [lit, n_eq]) <;> omega)); skip)
    | ((with_reducible apply X_nif); focus (first | exact n10 | ((with_reducible apply p_cnt h') <;> omega) | ((simp (disch := first | omega | exact Nat.lt_trans (ht _ (by omega)) (by omega)) only [lit, n_eq]) <;> omega)); skip)
    | ((with_reducible apply X_T); focus (first | ((with_reducible apply p_take_y h') <;> first | omega | ((simp (disch := omega) only [lit, n_eq]) <;> omega)) | ((with_reducible apply p_limit_y h' rfl) <;> omega)); skip)
    | ((with_reducible apply X_Tt); focus (first | ((with_reducible apply p_take_n h') <;> first | omega | ((simp (disch := first | omega | exact Nat.lt_trans (ht _ (by omega)) (by omega)) only [lit, n_eq]) <;> omega)) | ((with_reducible apply p_limit_n h' rfl) <;> omega)); skip))
          refine X_T x1 ?_
          rw [List.append_assoc, ← post_app, ← n_add o 1]; rfl
        · conv => lhs; unfold k_RM_sums_38
          simp only [hd1]
          repeat (first
    | with_reducible refine A_VI ?_
    | with_reducible refine A_VV ?_
    | with_reducible refine A_Vif ?_
    | with_reducible refine A_Vs ?_
    | with_reducible refine A_II ?_
    | with_reducible refine A_IV ?_
    | with_reducible refine A_Iif ?_
    | with_reducible refine A_Is ?_
    | with_reducible refine A_Ichk ?_
    | ((with_reducible apply X_bndE); focus (first | ((with_reducible apply r_p R hn) <;> first | omega | assumption)); skip)
    | with_reducible refine X_bnd ?_
    | ((with_reducible apply X_chk); focus (((with_reducible apply r_i hn)) <;> omega); skip)
    | ((with_reducible apply X_I); focus (first | ((with_reducible apply r_look R hn) <;> first | omega | assumption) | (with_reducible exact q_look1) | ((with_reducible apply r_draft) <;> first | omega | exact rfl | exact r_p R hn (by omega) (by assumption)) | ((with_reducible apply r_name_y R hn) <;> first | omega | assumption)); skip)
    | ((with_reducible apply X_V); focus (first | ((with_reducible apply r_take_y R hn) <;> first | omega | assumption | first | exact rfl | (with_reducible exact n00) | exact kp_y (by assumption) (by decide)) | ((with_reducible apply r_take_n R hn) <;> first | omega | assumption | first | exact n10 | ((simp (disch := first | assumption | omega | exact ht _ (by omega)) only [lit, n_eq, n_le, kp_0, kp_1, kp_2, kp_3, kp_4, kp_5, kp_6, kp_7, kp_8, kp_9, kp_10, kp_11, kp_12, kp_13, kp_14, kp_15, kp_16, kp_17, kp_18, kp_19, kp_20, kp_21, kp_22, kp_23, kp_24, kp_25, kp_26, kp_27, kp_28, kp_29, kp_30, kp_31, kp_32, kp_33, kp_34]) <;> omega)) | (with_reducible exact q_takeb) | ((with_reducible apply q_deep_y rfl) <;> omega) | ((with_reducible apply q_deep_n R rfl) <;> first | omega | assumption) | (with_reducible exact q_needb) | (with_reducible exact r_need1) | ((with_reducible apply r_need0 R hn) <;> first | omega | assumption)); skip)
    | ((with_reducible apply X_if); focus (first | exact rfl | (with_reducible exact n00) | exact kp_y (by assumption) (by decide)); skip)
    | ((with_reducible apply X_nif); focus (first | exact n10 | ((simp (disch := first | assumption | omega | exact ht _ (by omega)) only [lit, n_eq, n_le, kp_0, kp_1, kp_2, kp_3, kp_4, kp_5, kp_6, kp_7, kp_8, kp_9, kp_10, kp_11, kp_12, kp_13, kp_14, kp_15, kp_16, kp_17, kp_18, kp_19, kp_20, kp_21, kp_22, kp_23, kp_24, kp_25, kp_26, kp_27, kp_28, kp_29, kp_30, kp_31, kp_32, kp_33, kp_34]) <;> omega)); skip))
          refine X_I x2 ?_
          exact A_VV (X_V hj rfl)
        · refine ih q' _ (o + 1) dr' _ fu fu' (by omega) (by omega) (by omega) (by omega) y2 y3 hb2 ⟨by omega, ?_, by omega⟩ (wf_app hw y7) ?_ ?_
          · rw [siz_app]; simp only [siz] at *; omega
          · rw [hgt_app]; simp only [hgt] at *; omega
          · rw [kls_app]; simp [kls]; omega
      · refine OutK_b (q := q') (x := post f ++ y) ?_ rfl ?_ x7 x8
        · rw [← List.append_assoc]
          unfold k_PA_call_88
          rw [hd1]
          repeat (first
    | ((with_reducible apply X_bndE); focus (first | ((with_reducible apply pz_pp h') <;> omega) | ((with_reducible apply pz_kk h') <;> omega) | (with_reducible exact pz_14)); skip)
    | with_reducible refine X_bnd ?_
    | ((with_reducible apply X_chk); focus (first | exact a1 | exact a2 | exact a3 | exact a4 | exact a5 | ((with_reducible apply pz_i1 h') <;> omega) | ((with_reducible apply pz_i2 h') <;> omega)); skip)
    | ((with_reducible apply X_rfO); focus (first | exact c1 | exact c2 | exact c5); skip)
    | ((with_reducible apply X_I); focus (first | ((with_reducible apply p_kaC h') <;> omega) | ((with_reducible apply p_paC h') <;> omega) | ((with_reducible apply p_skip_y h') <;> first | omega | ((simp (disch := omega) only [lit, n_eq]) <;> omega)) | ((with_reducible apply p_skip_n h') <;> first | omega | ((simp (disch := first | omega | exact Nat.lt_trans (ht _ (by omega)) (by omega)) only [lit, n_eq]) <;> omega))); skip)
    | ((with_reducible apply X_if); focus (first | (with_reducible exact rfl) | (with_reducible exact n00) | ((simp (disch := omega) only [lit, n_eq]) <;> omega)); skip)
    | ((with_reducible apply X_nif); focus (first | exact n10 | ((with_reducible apply p_cnt h') <;> omega) | ((simp (disch := first | omega | exact Nat.lt_trans (ht _ (by omega)) (by omega)) only [lit, n_eq]) <;> omega)); skip)
    | ((with_reducible apply X_T); focus (first | ((with_reducible apply p_take_y h') <;> first | omega | ((simp (disch := omega) only [lit, n_eq]) <;> omega)) | ((with_reducible apply p_limit_y h' rfl) <;> omega)); skip)
    | ((with_reducible apply X_Tt); focus (first | ((with_reducible apply p_take_n h') <;> first | omega | ((simp (disch := first | omega | exact Nat.lt_trans (ht _ (by omega)) (by omega)) only [lit, n_eq]) <;> omega)) | ((with_reducible apply p_limit_n h' rfl) <;> omega)); skip))
          exact X_Tt x1 rfl
        · obtain ⟨fu', rfl⟩ : ∃ x, fu' = x + 1 := ⟨fu' - 1, by omega⟩
          unfold k_RM_sums_38
          simp only [hd1]
          repeat (first
    | with_reducible refine M_VI ?_
    | with_reducible refine M_VV ?_
    | with_reducible refine M_Vif ?_
    | with_reducible refine M_Vs ?_
    | with_reducible refine M_II ?_
    | with_reducible refine M_IV ?_
    | with_reducible refine M_Iif ?_
    | with_reducible refine M_Is ?_
    | with_reducible refine M_Ichk ?_
    | ((with_reducible apply BM_bndE); focus (first | ((with_reducible apply r_p R hn) <;> first | omega | assumption)); skip)
    | with_reducible refine BM_bnd ?_
    | ((with_reducible apply BM_chk); focus (((with_reducible apply r_i hn)) <;> omega); skip)
    | ((with_reducible apply BM_I); focus (first | ((with_reducible apply r_look R hn) <;> first | omega | assumption) | (with_reducible exact q_look1) | ((with_reducible apply r_draft) <;> first | omega | exact rfl | exact r_p R hn (by omega) (by assumption)) | ((with_reducible apply r_db) <;> omega) | ((with_reducible apply r_nb) <;> omega) | ((with_reducible apply r_nameb) <;> omega) | ((with_reducible apply r_name_y R hn) <;> first | omega | assumption) | ((with_reducible apply r_name_n R hn) <;> first | omega | assumption | exact ht _ (by omega))); skip)
    | ((with_reducible apply BM_V); focus (first | ((with_reducible apply r_take_y R hn) <;> first | omega | assumption | first | exact rfl | (with_reducible exact n00) | exact kp_y (by assumption) (by decide)) | ((with_reducible apply r_take_n R hn) <;> first | omega | assumption | first | exact n10 | ((simp (disch := first | assumption | omega | exact ht _ (by omega)) only [lit, n_eq, n_le, kp_0, kp_1, kp_2, kp_3, kp_4, kp_5, kp_6, kp_7, kp_8, kp_9, kp_10, kp_11, kp_12, kp_13, kp_14, kp_15, kp_16, kp_17, kp_18, kp_19, kp_20, kp_21, kp_22, kp_23, kp_24, kp_25, kp_26, kp_27, kp_28, kp_29, kp_30, kp_31, kp_32, kp_33, kp_34]) <;> omega)) | (with_reducible exact q_takeb) | ((with_reducible apply q_deep_y rfl) <;> omega) | ((with_reducible apply q_deep_n R rfl) <;> first | omega | assumption) | ((with_reducible apply q_deepb' rfl) <;> omega) | (with_reducible exact q_needb) | (with_reducible exact r_need1) | ((with_reducible apply r_need0 R hn) <;> first | omega | assumption)); skip)
    | ((with_reducible apply BM_if); focus (first | exact rfl | (with_reducible exact n00) | exact kp_y (by assumption) (by decide)); skip)
    | ((with_reducible apply BM_nif); focus (first | exact n10 | ((simp (disch := first | assumption | omega | exact ht _ (by omega)) only [lit, n_eq, n_le, kp_0, kp_1, kp_2, kp_3, kp_4, kp_5, kp_6, kp_7, kp_8, kp_9, kp_10, kp_11, kp_12, kp_13, kp_14, kp_15, kp_16, kp_17, kp_18, kp_19, kp_20, kp_21, kp_22, kp_23, kp_24, kp_25, kp_26, kp_27, kp_28, kp_29, kp_30, kp_31, kp_32, kp_33, kp_34]) <;> omega)); skip)
    | (with_reducible refine bm_jn ?_ rfl)
    | ((with_reducible apply bm_join); (focus (first | assumption | exact BI_new (by assumption) | exact BI_new (BI_new (by assumption)) | exact BI_new (BI_new (BI_new (by assumption))))); (focus omega); (focus omega); (focus (first | assumption | exact Or.inr ⟨_, by omega, rfl⟩)); intro _ _)
    | exact ⟨_, _, _, (by with_reducible rfl), by omega, by omega, (by first | assumption | exact BI_new (by assumption) | exact BI_new (BI_new (by assumption)) | exact BI_new (BI_new (BI_new (by assumption)))), (by first | exact Or.inl rfl | assumption | exact Or.inr ⟨_, by omega, rfl⟩)⟩)
          refine BM_I x2 ?_
          repeat (first
    | with_reducible refine M_VI ?_
    | with_reducible refine M_VV ?_
    | with_reducible refine M_Vif ?_
    | with_reducible refine M_Vs ?_
    | with_reducible refine M_II ?_
    | with_reducible refine M_IV ?_
    | with_reducible refine M_Iif ?_
    | with_reducible refine M_Is ?_
    | with_reducible refine M_Ichk ?_
    | ((with_reducible apply BM_bndE); focus (first | ((with_reducible apply r_p R hn) <;> first | omega | assumption)); skip)
    | with_reducible refine BM_bnd ?_
    | ((with_reducible apply BM_chk); focus (((with_reducible apply r_i hn)) <;> omega); skip)
    | ((with_reducible apply BM_I); focus (first | ((with_reducible apply r_look R hn) <;> first | omega | assumption) | (with_reducible exact q_look1) | ((with_reducible apply r_draft) <;> first | omega | exact rfl | exact r_p R hn (by omega) (by assumption)) | ((with_reducible apply r_db) <;> omega) | ((with_reducible apply r_nb) <;> omega) | ((with_reducible apply r_nameb) <;> omega) | ((with_reducible apply r_name_y R hn) <;> first | omega | assumption) | ((with_reducible apply r_name_n R hn) <;> first | omega | assumption | exact ht _ (by omega))); skip)
    | ((with_reducible apply BM_V); focus (first | ((with_reducible apply r_take_y R hn) <;> first | omega | assumption | first | exact rfl | (with_reducible exact n00) | exact kp_y (by assumption) (by decide)) | ((with_reducible apply r_take_n R hn) <;> first | omega | assumption | first | exact n10 | ((simp (disch := first | assumption | omega | exact ht _ (by omega)) only [lit, n_eq, n_le, kp_0, kp_1, kp_2, kp_3, kp_4, kp_5, kp_6, kp_7, kp_8, kp_9, kp_10, kp_11, kp_12, kp_13, kp_14, kp_15, kp_16, kp_17, kp_18, kp_19, kp_20, kp_21, kp_22, kp_23, kp_24, kp_25, kp_26, kp_27, kp_28, kp_29, kp_30, kp_31, kp_32, kp_33, kp_34]) <;> omega)) | (with_reducible exact q_takeb) | ((with_reducible apply q_deep_y rfl) <;> omega) | ((with_reducible apply q_deep_n R rfl) <;> first | omega | assumption) | ((with_reducible apply q_deepb' rfl) <;> omega) | (with_reducible exact q_needb) | (with_reducible exact r_need1) | ((with_reducible apply r_need0 R hn) <;> first | omega | assumption)); skip)
    | ((with_reducible apply BM_if); focus (first | exact rfl | (with_reducible exact n00) | exact kp_y (by assumption) (by decide)); skip)
    | ((with_reducible apply BM_nif); focus (first | exact n10 | ((simp (disch := first | assumption | omega | exact ht _ (by omega)) only [lit, n_eq, n_le, kp_0, kp_1, kp_2, kp_3, kp_4, kp_5, kp_6, kp_7, kp_8, kp_9, kp_10, kp_11, kp_12, kp_13, kp_14, kp_15, kp_16, kp_17, kp_18, kp_19, kp_20, kp_21, kp_22, kp_23, kp_24, kp_25, kp_26, kp_27, kp_28, kp_29, kp_30, kp_31, kp_32, kp_33, kp_34]) <;> omega)); skip)
    | (with_reducible refine bm_jn ?_ rfl)
    | ((with_reducible apply bm_join); (focus (first | assumption | exact BI_new (by assumption) | exact BI_new (BI_new (by assumption)) | exact BI_new (BI_new (BI_new (by assumption))))); (focus omega); (focus omega); (focus (first | assumption | exact Or.inr ⟨_, by omega, rfl⟩)); intro _ _)
    | exact ⟨_, _, _, (by with_reducible rfl), by omega, by omega, (by first | assumption | exact BI_new (by assumption) | exact BI_new (BI_new (by assumption)) | exact BI_new (BI_new (BI_new (by assumption)))), (by first | exact Or.inl rfl | assumption | exact Or.inr ⟨_, by omega, rfl⟩)⟩)
          unfold k_RM_sums_38
          repeat (first
    | with_reducible refine M_VI ?_
    | with_reducible refine M_VV ?_
    | with_reducible refine M_Vif ?_
    | with_reducible refine M_Vs ?_
    | with_reducible refine M_II ?_
    | with_reducible refine M_IV ?_
    | with_reducible refine M_Iif ?_
    | with_reducible refine M_Is ?_
    | with_reducible refine M_Ichk ?_
    | ((with_reducible apply BM_bndE); focus (first | ((with_reducible apply r_p R hn) <;> first | omega | assumption)); skip)
    | with_reducible refine BM_bnd ?_
    | ((with_reducible apply BM_chk); focus (((with_reducible apply r_i hn)) <;> omega); skip)
    | ((with_reducible apply BM_I); focus (first | ((with_reducible apply r_look R hn) <;> first | omega | assumption) | (with_reducible exact q_look1) | ((with_reducible apply r_draft) <;> first | omega | exact rfl | exact r_p R hn (by omega) (by assumption)) | ((with_reducible apply r_db) <;> omega) | ((with_reducible apply r_nb) <;> omega) | ((with_reducible apply r_nameb) <;> omega) | ((with_reducible apply r_name_y R hn) <;> first | omega | assumption) | ((with_reducible apply r_name_n R hn) <;> first | omega | assumption | exact ht _ (by omega))); skip)
    | ((with_reducible apply BM_V); focus (first | ((with_reducible apply r_take_y R hn) <;> first | omega | assumption | first | exact rfl | (with_reducible exact n00) | exact kp_y (by assumption) (by decide)) | ((with_reducible apply r_take_n R hn) <;> first | omega | assumption | first | exact n10 | ((simp (disch := first | assumption | omega | exact ht _ (by omega)) only [lit, n_eq, n_le, kp_0, kp_1, kp_2, kp_3, kp_4, kp_5, kp_6, kp_7, kp_8, kp_9, kp_10, kp_11, kp_12, kp_13, kp_14, kp_15, kp_16, kp_17, kp_18, kp_19, kp_20, kp_21, kp_22, kp_23, kp_24, kp_25, kp_26, kp_27, kp_28, kp_29, kp_30, kp_31, kp_32, kp_33, kp_34]) <;> omega)) | (with_reducible exact q_takeb) | ((with_reducible apply q_deep_y rfl) <;> omega) | ((with_reducible apply q_deep_n R rfl) <;> first | omega | assumption) | ((with_reducible apply q_deepb' rfl) <;> omega) | (with_reducible exact q_needb) | (with_reducible exact r_need1) | ((with_reducible apply r_need0 R hn) <;> first | omega | assumption)); skip)
    | ((with_reducible apply BM_if); focus (first | exact rfl | (with_reducible exact n00) | exact kp_y (by assumption) (by decide)); skip)
    | ((with_reducible apply BM_nif); focus (first | exact n10 | ((simp (disch := first | assumption | omega | exact ht _ (by omega)) only [lit, n_eq, n_le, kp_0, kp_1, kp_2, kp_3, kp_4, kp_5, kp_6, kp_7, kp_8, kp_9, kp_10, kp_11, kp_12, kp_13, kp_14, kp_15, kp_16, kp_17, kp_18, kp_19, kp_20, kp_21, kp_22, kp_23, kp_24, kp_25, kp_26, kp_27, kp_28, kp_29, kp_30, kp_31, kp_32, kp_33, kp_34]) <;> omega)); skip)
    | (with_reducible refine bm_jn ?_ rfl)
    | ((with_reducible apply bm_join); (focus (first | assumption | exact BI_new (by assumption) | exact BI_new (BI_new (by assumption)) | exact BI_new (BI_new (BI_new (by assumption))))); (focus omega); (focus omega); (focus (first | assumption | exact Or.inr ⟨_, by omega, rfl⟩)); intro _ _)
    | exact ⟨_, _, _, (by with_reducible rfl), by omega, by omega, (by first | assumption | exact BI_new (by assumption) | exact BI_new (BI_new (by assumption)) | exact BI_new (BI_new (BI_new (by assumption)))), (by first | exact Or.inl rfl | assumption | exact Or.inr ⟨_, by omega, rfl⟩)⟩)
    · by_cases u13 : tk q = 13
      · have q1 := e13 q hq (by omega)
        have g1 := gd_s hg (by omega) (by omega)
        have htq1 := ht (q + 1) q1
        by_cases u19 : tk (q + 1) = 19
        · have q2 := e13 (q + 1) q1 (by omega)
          have g2 := gd_s g1 (by omega) (by omega)
          refine OutK_y (q := q + 1 + 1) (s := s) (k := 7) ?_ ?_ (New_of hb (by omega) q2 g2 (by omega) (by omega) ⟨by simp [okk]; omega, by simp, ⟨hp, by omega⟩, hw, trivial⟩ (by simp only [hgt]; omega))
          · unfold k_PA_call_88 k_PA_call_121
            repeat (first
    | ((with_reducible apply X_bndE); focus (first | ((with_reducible apply pz_pp h') <;> omega) | ((with_reducible apply pz_kk h') <;> omega) | (with_reducible exact pz_14)); skip)
    | with_reducible refine X_bnd ?_
    | ((with_reducible apply X_chk); focus (first | exact a1 | exact a2 | exact a3 | exact a4 | exact a5 | ((with_reducible apply pz_i1 h') <;> omega) | ((with_reducible apply pz_i2 h') <;> omega)); skip)
    | ((with_reducible apply X_rfO); focus (first | exact c1 | exact c2 | exact c5); skip)
    | ((with_reducible apply X_I); focus (first | ((with_reducible apply p_kaC h') <;> omega) | ((with_reducible apply p_paC h') <;> omega) | ((with_reducible apply p_skip_y h') <;> first | omega | ((simp (disch := omega) only [lit, n_eq]) <;> omega)) | ((with_reducible apply p_skip_n h') <;> first | omega | ((simp (disch := first | omega | exact Nat.lt_trans (ht _ (by omega)) (by omega)) only [lit, n_eq]) <;> omega))); skip)
    | ((with_reducible apply X_if); focus (first | (with_reducible exact rfl) | (with_reducible exact n00) | ((simp (disch := omega) only [lit, n_eq]) <;> omega)); skip)
    | ((with_reducible apply X_nif); focus (first | exact n10 | ((with_reducible apply p_cnt h') <;> omega) | ((simp (disch := first | omega | exact Nat.lt_trans (ht _ (by omega)) (by omega)) only [lit, n_eq]) <;> omega)); skip)
    | ((with_reducible apply X_T); focus (first | ((with_reducible apply p_take_y h') <;> first | omega | ((simp (disch := omega) only [lit, n_eq]) <;> omega)) | ((with_reducible apply p_limit_y h' rfl) <;> omega)); skip)
    | ((with_reducible apply X_Tt); focus (first | ((with_reducible apply p_take_n h') <;> first | omega | ((simp (disch := first | omega | exact Nat.lt_trans (ht _ (by omega)) (by omega)) only [lit, n_eq]) <;> omega)) | ((with_reducible apply p_limit_n h' rfl) <;> omega)); skip))
            rfl
          · unfold k_RM_sums_38
            repeat (first
    | with_reducible refine A_VI ?_
    | with_reducible refine A_VV ?_
    | with_reducible refine A_Vif ?_
    | with_reducible refine A_Vs ?_
    | with_reducible refine A_II ?_
    | with_reducible refine A_IV ?_
    | with_reducible refine A_Iif ?_
    | with_reducible refine A_Is ?_
    | with_reducible refine A_Ichk ?_
    | ((with_reducible apply X_bndE); focus (first | ((with_reducible apply r_p R hn) <;> first | omega | assumption)); skip)
    | with_reducible refine X_bnd ?_
    | ((with_reducible apply X_chk); focus (((with_reducible apply r_i hn)) <;> omega); skip)
    | ((with_reducible apply X_I); focus (first | ((with_reducible apply r_look R hn) <;> first | omega | assumption) | (with_reducible exact q_look1) | ((with_reducible apply r_draft) <;> first | omega | exact rfl | exact r_p R hn (by omega) (by assumption)) | ((with_reducible apply r_name_y R hn) <;> first | omega | assumption)); skip)
    | ((with_reducible apply X_V); focus (first | ((with_reducible apply r_take_y R hn) <;> first | omega | assumption | first | exact rfl | (with_reducible exact n00) | exact kp_y (by assumption) (by decide)) | ((with_reducible apply r_take_n R hn) <;> first | omega | assumption | first | exact n10 | ((simp (disch := first | assumption | omega | exact ht _ (by omega)) only [lit, n_eq, n_le, kp_0, kp_1, kp_2, kp_3, kp_4, kp_5, kp_6, kp_7, kp_8, kp_9, kp_10, kp_11, kp_12, kp_13, kp_14, kp_15, kp_16, kp_17, kp_18, kp_19, kp_20, kp_21, kp_22, kp_23, kp_24, kp_25, kp_26, kp_27, kp_28, kp_29, kp_30, kp_31, kp_32, kp_33, kp_34]) <;> omega)) | (with_reducible exact q_takeb) | ((with_reducible apply q_deep_y rfl) <;> omega) | ((with_reducible apply q_deep_n R rfl) <;> first | omega | assumption) | (with_reducible exact q_needb) | (with_reducible exact r_need1) | ((with_reducible apply r_need0 R hn) <;> first | omega | assumption)); skip)
    | ((with_reducible apply X_if); focus (first | exact rfl | (with_reducible exact n00) | exact kp_y (by assumption) (by decide)); skip)
    | ((with_reducible apply X_nif); focus (first | exact n10 | ((simp (disch := first | assumption | omega | exact ht _ (by omega)) only [lit, n_eq, n_le, kp_0, kp_1, kp_2, kp_3, kp_4, kp_5, kp_6, kp_7, kp_8, kp_9, kp_10, kp_11, kp_12, kp_13, kp_14, kp_15, kp_16, kp_17, kp_18, kp_19, kp_20, kp_21, kp_22, kp_23, kp_24, kp_25, kp_26, kp_27, kp_28, kp_29, kp_30, kp_31, kp_32, kp_33, kp_34]) <;> omega)); skip))
            rfl
        · refine OutK_b (q := q + 1) (x := post f) ?_ rfl ?_ q1 g1
          · unfold k_PA_call_88 k_PA_call_121
            repeat (first
    | ((with_reducible apply X_bndE); focus (first | ((with_reducible apply pz_pp h') <;> omega) | ((with_reducible apply pz_kk h') <;> omega) | (with_reducible exact pz_14)); skip)
    | with_reducible refine X_bnd ?_
    | ((with_reducible apply X_chk); focus (first | exact a1 | exact a2 | exact a3 | exact a4 | exact a5 | ((with_reducible apply pz_i1 h') <;> omega) | ((with_reducible apply pz_i2 h') <;> omega)); skip)
    | ((with_reducible apply X_rfO); focus (first | exact c1 | exact c2 | exact c5); skip)
    | ((with_reducible apply X_I); focus (first | ((with_reducible apply p_kaC h') <;> omega) | ((with_reducible apply p_paC h') <;> omega) | ((with_reducible apply p_skip_y h') <;> first | omega | ((simp (disch := omega) only [lit, n_eq]) <;> omega)) | ((with_reducible apply p_skip_n h') <;> first | omega | ((simp (disch := first | omega | exact Nat.lt_trans (ht _ (by omega)) (by omega)) only [lit, n_eq]) <;> omega))); skip)
    | ((with_reducible apply X_if); focus (first | (with_reducible exact rfl) | (with_reducible exact n00) | ((simp (disch := omega) only [lit, n_eq]) <;> omega)); skip)
    | ((with_reducible apply X_nif); focus (first | exact n10 | ((with_reducible apply p_cnt h') <;> omega) | ((simp (disch := first | omega | exact Nat.lt_trans (ht _ (by omega)) (by omega)) only [lit, n_eq]) <;> omega)); skip)
    | ((with_reducible apply X_T); focus (first | ((with_reducible apply p_take_y h') <;> first | omega | ((simp (disch := omega) only [lit, n_eq]) <;> omega)) | ((with_reducible apply p_limit_y h' rfl) <;> omega)); skip)
    | ((with_reducible apply X_Tt); focus (first | ((with_reducible apply p_take_n h') <;> first | omega | ((simp (disch := first | omega | exact Nat.lt_trans (ht _ (by omega)) (by omega)) only [lit, n_eq]) <;> omega)) | ((with_reducible apply p_limit_n h' rfl) <;> omega)); skip))
            rfl
          · unfold k_RM_sums_38
            have hBI := hb.2.2.2
            repeat (first
    | with_reducible refine M_VI ?_
    | with_reducible refine M_VV ?_
    | with_reducible refine M_Vif ?_
    | with_reducible refine M_Vs ?_
    | with_reducible refine M_II ?_
    | with_reducible refine M_IV ?_
    | with_reducible refine M_Iif ?_
    | with_reducible refine M_Is ?_
    | with_reducible refine M_Ichk ?_
    | ((with_reducible apply BM_bndE); focus (first | ((with_reducible apply r_p R hn) <;> first | omega | assumption)); skip)
    | with_reducible refine BM_bnd ?_
    | ((with_reducible apply BM_chk); focus (((with_reducible apply r_i hn)) <;> omega); skip)
    | ((with_reducible apply BM_I); focus (first | ((with_reducible apply r_look R hn) <;> first | omega | assumption) | (with_reducible exact q_look1) | ((with_reducible apply r_draft) <;> first | omega | exact rfl | exact r_p R hn (by omega) (by assumption)) | ((with_reducible apply r_db) <;> omega) | ((with_reducible apply r_nb) <;> omega) | ((with_reducible apply r_nameb) <;> omega) | ((with_reducible apply r_name_y R hn) <;> first | omega | assumption) | ((with_reducible apply r_name_n R hn) <;> first | omega | assumption | exact ht _ (by omega))); skip)
    | ((with_reducible apply BM_V); focus (first | ((with_reducible apply r_take_y R hn) <;> first | omega | assumption | first | exact rfl | (with_reducible exact n00) | exact kp_y (by assumption) (by decide)) | ((with_reducible apply r_take_n R hn) <;> first | omega | assumption | first | exact n10 | ((simp (disch := first | assumption | omega | exact ht _ (by omega)) only [lit, n_eq, n_le, kp_0, kp_1, kp_2, kp_3, kp_4, kp_5, kp_6, kp_7, kp_8, kp_9, kp_10, kp_11, kp_12, kp_13, kp_14, kp_15, kp_16, kp_17, kp_18, kp_19, kp_20, kp_21, kp_22, kp_23, kp_24, kp_25, kp_26, kp_27, kp_28, kp_29, kp_30, kp_31, kp_32, kp_33, kp_34]) <;> omega)) | (with_reducible exact q_takeb) | ((with_reducible apply q_deep_y rfl) <;> omega) | ((with_reducible apply q_deep_n R rfl) <;> first | omega | assumption) | ((with_reducible apply q_deepb' rfl) <;> omega) | (with_reducible exact q_needb) | (with_reducible exact r_need1) | ((with_reducible apply r_need0 R hn) <;> first | omega | assumption)); skip)
    | ((with_reducible apply BM_if); focus (first | exact rfl | (with_reducible exact n00) | exact kp_y (by assumption) (by decide)); skip)
    | ((with_reducible apply BM_nif); focus (first | exact n10 | ((simp (disch := first | assumption | omega | exact ht _ (by omega)) only [lit, n_eq, n_le, kp_0, kp_1, kp_2, kp_3, kp_4, kp_5, kp_6, kp_7, kp_8, kp_9, kp_10, kp_11, kp_12, kp_13, kp_14, kp_15, kp_16, kp_17, kp_18, kp_19, kp_20, kp_21, kp_22, kp_23, kp_24, kp_25, kp_26, kp_27, kp_28, kp_29, kp_30, kp_31, kp_32, kp_33, kp_34]) <;> omega)); skip)
    | (with_reducible refine bm_jn ?_ rfl)
    | ((with_reducible apply bm_join); (focus (first | assumption | exact BI_new (by assumption) | exact BI_new (BI_new (by assumption)) | exact BI_new (BI_new (BI_new (by assumption))))); (focus omega); (focus omega); (focus (first | assumption | exact Or.inr ⟨_, by omega, rfl⟩)); intro _ _)
    | exact ⟨_, _, _, (by with_reducible rfl), by omega, by omega, (by first | assumption | exact BI_new (by assumption) | exact BI_new (BI_new (by assumption)) | exact BI_new (BI_new (BI_new (by assumption)))), (by first | exact Or.inl rfl | assumption | exact Or.inr ⟨_, by omega, rfl⟩)⟩)
      · refine OutK_b (q := q) (x := post f) ?_ rfl ?_ hq hg
        · unfold k_PA_call_88 k_PA_call_121
          repeat (first
    | ((with_reducible apply X_bndE); focus (first | ((with_reducible apply pz_pp h') <;> omega) | ((with_reducible apply pz_kk h') <;> omega) | (with_reducible exact pz_14)); skip)
    | with_reducible refine X_bnd ?_
    | ((with_reducible apply X_chk); focus (first | exact a1 | exact a2 | exact a3 | exact a4 | exact a5 | ((with_reducible apply pz_i1 h') <;> omega) | ((with_reducible apply pz_i2 h') <;> omega)); skip)
    | ((with_reducible apply X_rfO); focus (first | exact c1 | exact c2 | exact c5); skip)
    | ((with_reducible apply X_I); focus (first | ((with_reducible apply p_kaC h') <;> omega) | ((with_reducible apply p_paC h') <;> omega) | ((with_reducible apply p_skip_y h') <;> first | omega | ((simp (disch := omega) only [lit, n_eq]) <;> omega)) | ((with_reducible apply p_skip_n h') <;> first | omega | ((simp (disch := first | omega | exact Nat.lt_trans (ht _ (by omega)) (by omega)) only [lit, n_eq]) <;> omega))); skip)
    | ((with_reducible apply X_if); focus (first | (with_reducible exact rfl) | (with_reducible exact n00) | ((simp (disch := omega) only [lit, n_eq]) <;> omega)); skip)
    | ((with_reducible apply X_nif); focus (first | exact n10 | ((with_reducible apply p_cnt h') <;> omega) | ((simp (disch := first | omega | exact Nat.lt_trans (ht _ (by omega)) (by omega)) only [lit, n_eq]) <;> omega)); skip)
    | ((with_reducible apply X_T); focus (first | ((with_reducible apply p_take_y h') <;> first | omega | ((simp (disch := omega) only [lit, n_eq]) <;> omega)) | ((with_reducible apply p_limit_y h' rfl) <;> omega)); skip)
    | ((with_reducible apply X_Tt); focus (first | ((with_reducible apply p_take_n h') <;> first | omega | ((simp (disch := first | omega | exact Nat.lt_trans (ht _ (by omega)) (by omega)) only [lit, n_eq]) <;> omega)) | ((with_reducible apply p_limit_n h' rfl) <;> omega)); skip))
          rfl
        · unfold k_RM_sums_38
          have hBI := hb.2.2.2
          repeat (first
    | with_reducible refine M_VI ?_
    | with_reducible refine M_VV ?_
    | with_reducible refine M_Vif ?_
    | with_reducible refine M_Vs ?_
    | with_reducible refine M_II ?_
    | with_reducible refine M_IV ?_
    | with_reducible refine M_Iif ?_
    | with_reducible refine M_Is ?_
    | with_reducible refine M_Ichk ?_
    | ((with_reducible apply BM_bndE); focus (first | ((with_reducible apply r_p R hn) <;> first | omega | assumption)); skip)
    | with_reducible refine BM_bnd ?_
    | ((with_reducible apply BM_chk); focus (((with_reducible apply r_i hn)) <;> omega); skip)
    | ((with_reducible apply BM_I); focus (first | ((with_reducible apply r_look R hn) <;> first | omega | assumption) | (with_reducible exact q_look1) | ((with_reducible apply r_draft) <;> first | omega | exact rfl | exact r_p R hn (by omega) (by assumption)) | ((with_reducible apply r_db) <;> omega) | ((with_reducible apply r_nb) <;> omega) | ((with_reducible apply r_nameb) <;> omega) | ((with_reducible apply r_name_y R hn) <;> first | omega | assumption) | ((with_reducible apply r_name_n R hn) <;> first | omega | assumption | exact ht _ (by omega))); skip)
    | ((with_reducible apply BM_V); focus (first | ((with_reducible apply r_take_y R hn) <;> first | omega | assumption | first | exact rfl | (with_reducible exact n00) | exact kp_y (by assumption) (by decide)) | ((with_reducible apply r_take_n R hn) <;> first | omega | assumption | first | exact n10 | ((simp (disch := first | assumption | omega | exact ht _ (by omega)) only [lit, n_eq, n_le, kp_0, kp_1, kp_2, kp_3, kp_4, kp_5, kp_6, kp_7, kp_8, kp_9, kp_10, kp_11, kp_12, kp_13, kp_14, kp_15, kp_16, kp_17, kp_18, kp_19, kp_20, kp_21, kp_22, kp_23, kp_24, kp_25, kp_26, kp_27, kp_28, kp_29, kp_30, kp_31, kp_32, kp_33, kp_34]) <;> omega)) | (with_reducible exact q_takeb) | ((with_reducible apply q_deep_y rfl) <;> omega) | ((with_reducible apply q_deep_n R rfl) <;> first | omega | assumption) | ((with_reducible apply q_deepb' rfl) <;> omega) | (with_reducible exact q_needb) | (with_reducible exact r_need1) | ((with_reducible apply r_need0 R hn) <;> first | omega | assumption)); skip)
    | ((with_reducible apply BM_if); focus (first | exact rfl | (with_reducible exact n00) | exact kp_y (by assumption) (by decide)); skip)
    | ((with_reducible apply BM_nif); focus (first | exact n10 | ((simp (disch := first | assumption | omega | exact ht _ (by omega)) only [lit, n_eq, n_le, kp_0, kp_1, kp_2, kp_3, kp_4, kp_5, kp_6, kp_7, kp_8, kp_9, kp_10, kp_11, kp_12, kp_13, kp_14, kp_15, kp_16, kp_17, kp_18, kp_19, kp_20, kp_21, kp_22, kp_23, kp_24, kp_25, kp_26, kp_27, kp_28, kp_29, kp_30, kp_31, kp_32, kp_33, kp_34]) <;> omega)); skip)
    | (with_reducible refine bm_jn ?_ rfl)
    | ((with_reducible apply bm_join); (focus (first | assumption | exact BI_new (by assumption) | exact BI_new (BI_new (by assumption)) | exact BI_new (BI_new (BI_new (by assumption))))); (focus omega); (focus omega); (focus (first | assumption | exact Or.inr ⟨_, by omega, rfl⟩)); intro _ _)
    | exact ⟨_, _, _, (by with_reducible rfl), by omega, by omega, (by first | assumption | exact BI_new (by assumption) | exact BI_new (BI_new (by assumption)) | exact BI_new (BI_new (BI_new (by assumption)))), (by first | exact Or.inl rfl | assumption | exact Or.inr ⟨_, by omega, rfl⟩)⟩)
end SIMNAMED
