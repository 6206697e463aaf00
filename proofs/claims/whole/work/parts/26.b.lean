/-! sums: as products -/
section SIMSUM
variable {σ : mh_H} {ap dd tt bk bp bv dk dp dv dz n room : Nat} {tk tp : Nat → Nat} {tv : Nat → Int32} {S : rm_S} {N : Nat}
theorem loop_sum {d lim hm : Nat} {pf : Nat → Int32 → mh_H → Option (Bool × Int32 × mh_H)} {rf : Int32 → rm_S → Option (Int32 × rm_S)} (E : EN σ ap dd tt bk bp bv dk dp dv dz n room tk tp tv S N) (hS : Sim σ ap dd dk dp dv dz n tk tp S d lim hm pf rf) (hl : lim < 26000) {flt : Int32} {q0 dr0 s p : Nat} {ds0 : List Ent} {B0 : Nat → Nat → Int32} (h0 : q0 < n ∧ ds0.length ≤ 2 * q0 ∧ dr0 ≤ 2 * q0) (hp : p < 10000) :
    ∀ m q f o dr B fu fu', n - q ≤ m → m < fu → m < fu' → q0 < q → q < n → gd tk q → KS B s 17 p 0 f → f ≠ .leaf → (∀ j ∈ s :: nds f, dr0 ≤ j ∧ j < dr) → (∀ o j, j < dr0 → B o j = B0 o j) → BI dr B → (dr + o ≤ dr0 + 2 * (q - q0) + 1 ∧ 2 * siz f + 2 * o + 1 ≤ 3 * (q - q0) ∧ o + q0 ≤ q) → wf n tk tp f → hgt f ≤ hm + 1 → (∃ a l, kls f = a :: l ∧ l.length = o ∧ ∀ x ∈ l, x = 18 ∨ x = 19) → (0 < o ∨ (22 ≤ tk q ∧ tk q ≤ 23)) →
    Out σ ap dd dk dp dv dz n tk tp S flt q0 ds0 dr0 B0 lim (hm + 2) (k_PA_sum_29 N pf fu ap (nI d) (nI ds0.length) (nI p) (nI o) (pz σ ap dd dk dp dv dz q (ds0 ++ post f))) (k_RM_sum_62 N rf fu' (nI d) (nI s) (qz S q 0 flt dr B)) := by
  obtain ⟨h, R, hn, hNN⟩ := E
  intro m
  induction m with
  | zero => intro q f o dr B fu fu' h1 _ _ _ h2; omega
  | succ m ih =>
    intro q f o dr B fu fu' h1 hfu hfu' hq0 hq hg hK hf hnd hB hI ⟨hdr, hsz, hoq⟩ hw hh hk ho
    obtain ⟨r1, r2, r3, r4⟩ := R q hq hg
    have hq2 : q < 8002 := by omega
    obtain ⟨fu, rfl⟩ : ∃ x, fu = x + 1 := ⟨fu - 1, by omega⟩
    obtain ⟨fu', rfl⟩ : ∃ x, fu' = x + 1 := ⟨fu' - 1, by omega⟩
    have hlen : (ds0 ++ post f).length = ds0.length + siz f := by rw [List.length_append, post_len]
    have h0' := h
    have hka := p_ka (N := N) (q := q) (ds := ds0 ++ post f) h hq
    have hpa := p_pa (N := N) (q := q) (ds := ds0 ++ post f) h hq
    have htake := p_take (N := N) (j := tk q) (ds := ds0 ++ post f) h hq
    have hfin := fun (k p : Int32) (b q' : Nat) (ds : List Ent) => p_finish (N := N) (k := k) (p := p) (b := b) (q := q') (ds := ds) h
    have hlook := q_look0 (S := S) (N := N) (flt := flt) (dr := dr) (B := B) hq2
    have he13 : ∀ i, i < n → tk i ≠ 0 → i + 1 < n := by obtain ⟨⟨a1, a2, a3⟩, ⟨a4, a5, a6, a7, a8, a9, a10⟩, ⟨c1, c2⟩, ⟨c4, c5, c6⟩, ⟨c7, c8, c9, c10⟩, -, ⟨e5, e6, e7⟩, e8, -, -, -, -, e9, e10, e11, e12, e13⟩ := h; exact e13
    obtain ⟨⟨a1, a2, a3⟩, ⟨a4, a5, a6, a7, a8, a9, a10⟩, ⟨c1, c2⟩, ⟨c4, c5, c6⟩, ⟨c7, c8, c9, c10⟩, -, ⟨e5, e6, e7⟩, e8, -, -, -, -, e9, e10, e11, e12, e13⟩ := h
    have ht := (e9 q hq).2.2.2
    have hb1 : q < hN σ bk := by omega
    have hb2 : q < hN σ bp := by omega
    by_cases hs : 22 ≤ tk q ∧ tk q ≤ 23
    · have hq1 := he13 q hq (by omega)
      have hg1 := gd_s hg (by omega) (by omega)
      have e1 : k_RM_sum_62 N rf (fu' + 1) (nI d) (nI s) (qz S q 0 flt dr B) = k_RM_sum_97 N rf (k_RM_sum_62 N rf fu') (nI d) (nI s) (nI (tk q - 4)) (qz S q 0 flt dr B) := by
        have hc : tk q = 22 ∨ tk q = 23 := by omega
        simp (disch := omega) only [k_RM_sum_62, k_RM_sum_80, e_chkT,e_bnd,e_calI,e_calV,e_calP,e_rfO,e_calT,e_calTt, hlook, r1, lit, kp_22, kp_23]
        rcases hc with hc | hc <;> simp [hc]
      have e2 : k_RM_sum_97 N rf (k_RM_sum_62 N rf fu') (nI d) (nI s) (nI (tk q - 4)) (qz S q 0 flt dr B) = calI (rf (nI d) (qz S (q + 1) 0 flt (dr + 1) (bd B dr (nI (tk q - 4)) (nI (tp q)) 0))) fun v17 S17 => k_RM_sum_139 N rf (k_RM_sum_62 N rf fu') (nI d) (nI s) (nI dr) v17 (nI dr) S17 := by
        have hdf := q_draft (S := S) (N := N) (q := q) (bad := 0) (flt := flt) (B := B) (dr := dr) (k := nI (tk q - 4)) (p := nI (tp q)) (v := 0) (by omega)
        have hlook' := fun B => q_look0 (S := S) (N := N) (flt := flt) (dr := dr + 1) (B := B) hq2
        have htk := fun B k => q_take0 (S := S) (N := N) (k := k) (flt := flt) (dr := dr + 1) (B := B) hq2
        simp only [lit] at hdf
        simp (disch := omega) only [k_RM_sum_97, e_chkT,e_bnd,e_calI,e_calV,e_calP,e_rfO,e_calT,e_calTt, lit,n_add,n_le,n_lt,n_eq,n_nat,n_ib, qz_12, qz_13, qz_a, hdf, hlook', htk, r1, r2, hq2, if_true]
      have e3 : k_PA_sum_29 N pf (fu + 1) ap (nI d) (nI ds0.length) (nI p) (nI o) (pz σ ap dd dk dp dv dz q (ds0 ++ post f)) = calT (pf ap (nI d) (pz σ ap dd dk dp dv dz (q + 1) (ds0 ++ post f))) fun v28 s28 => chk (hT s28 ap = 7) <| calV (f_PA_finish N ap (nI (tk q - 4)) (nI (tp q)) (nI (ds0 ++ post f).length) s28) fun s30 => k_PA_sum_29 N pf fu ap (nI d) (nI ds0.length) (nI p) (nI (o + 1)) s30 := by
        have hin := p_isAt (N := N) (q := q) (b := 22) (c := 23) (ds := ds0 ++ post f) h0' hq (by omega) (by omega)
        rw [if_pos hs] at hin
        rw [if_pos rfl] at htake
        have htake := htake (by omega)
        have e21 : nI (18 + tk q) - nI 22 = nI (tk q - 4) := by rw [n_sub (by omega)]; congr 1; omega
        simp only [lit] at hin htake
        simp (disch := omega) only [k_PA_sum_29, e_chkT,e_bnd,e_calI,e_calV,e_calP,e_rfO,e_calT,e_calTt, lit,n_add,n_le,n_lt,n_eq,n_nat,n_ib, pz_T, pz_R, pz_N, pz_33, pz_14, pz_45, a1, a2, a3, c1, c2, e8, hka, hpa, hin, htake, e21]
        rw [if_neg (by omega)]
        simp
      rw [e1, e2, e3]
      have hI1 : Inp n tk (q + 1) (ds0 ++ post f) (dr + 1) (bd B dr (nI (tk q - 4)) (nI (tp q)) 0) := ⟨⟨hq1, hg1⟩, by omega, by omega, BI_new hI⟩
      rcases hS flt (q + 1) (ds0 ++ post f) (dr + 1) (bd B dr (nI (tk q - 4)) (nI (tp q)) 0) hI1 with ⟨q', i', k', p', v', c', dr', B', x1, x2, ⟨x3, x3', x3''⟩, x4, x5, x6, x7, ⟨x8, x9, x10⟩, x11, x12⟩ | ⟨q', y, x1, ⟨v, dr', B', x2, x3, x4, x5, x6⟩, x7, x8⟩
      · rw [x1, x2, e_calI, e_calT, pz_T, e_chk a1, hfin _ _ _ _ _ (by simp only [List.length_append, post_len, siz] at *; omega) (by simp), e_calV, fin_eq _ dr, List.append_assoc, ← post_app]
        have hK1 : KS B' dr (tk q - 4) (tp q) 0 .leaf := KS_old (dr := dr + 1) (by simp [nds]) x6 (KS_new B dr _ _ _ (by omega))
        have hj1 := q_join (S := S) (N := N) (q := q') (bad := 0) (dr := dr') (flt := flt) hK1 x4
        have hK2 := KS_join hK1 x4 (by intro j hj; have := x5 j hj; simp only [nds, List.mem_cons, List.not_mem_nil, or_false]; omega)
        have hKs : KS (bj B' dr .leaf i') s 17 p 0 f := KS_old (dr := dr) (fun j hj => (hnd j hj).2) (fun o j hj => by
          rw [bj_o o j (by simp only [nds, List.mem_cons, List.not_mem_nil, or_false]; omega), x6 o j (by omega), bd_o o j hj]) hK
        have hj2 := q_join (S := S) (N := N) (q := q') (bad := 0) (dr := dr') (flt := flt) hKs hK2
        have hdj : ∀ j ∈ dr :: nds (app .leaf (one i' k' p' v' c')), j ∉ s :: nds f := by
          intro j hj hj'
          have h2 := (hnd j hj').2
          simp only [app, nds, List.append_nil, List.mem_cons] at hj
          rcases hj with rfl | hj
          · omega
          · have := x5 j (by simpa using hj); omega
        have hK3 := KS_join hKs hK2 hdj
        simp only [k_RM_sum_139, hj1, hj2, e_calV]
        refine ih q' _ (o + 1) dr' _ fu fu' (by omega) (by omega) (by omega) (by omega) x3' x3'' hK3 ?_ ?_ ?_ ?_ ⟨by omega, ?_, by omega⟩ ?_ ?_ ?_ (Or.inl (by omega))
        · intro e
          have := congrArg siz e
          rw [siz_app] at this; simp [siz] at this
        · intro j hj
          rw [nds_app] at hj
          simp only [app, nds, List.append_nil, List.mem_cons, List.mem_append] at hj
          rcases hj with rfl | hj | rfl | hj
          · have := hnd j (by simp); omega
          · have := hnd j (by simp [hj]); omega
          · have := hnd s (by simp); omega
          · have := x5 j (by simpa using hj); have := hnd s (by simp); omega
        · intro o j hj
          rw [bj_o o j (by intro hj'; have := (hnd j hj').1; omega), bj_o o j (by have := hnd s (by simp); simp only [nds, List.mem_cons, List.not_mem_nil, or_false]; omega), x6 o j (by have := hnd s (by simp); omega), bd_o o j (by have := hnd s (by simp); omega), hB o j hj]
        · exact BI_join (BI_join x7 (x4.2.2.2.2.2.2.2 _ (by simp))) (by omega)
        · rw [siz_app]; simp only [app, siz] at *; omega
        · refine wf_app hw ⟨?_, ?_, ⟨r3, ?_⟩, x11, trivial⟩
          · have hc : tk q = 22 ∨ tk q = 23 := by omega
            rcases hc with hc | hc <;> simp [hc, okk, kls, app]
          · refine ⟨?_, ?_⟩ <;> (intro e; simp only at e; omega)
          · simp only [app, siz] at *; omega
        · rw [hgt_app]; simp only [app, hgt] at *; omega
        · obtain ⟨a, l, hk1, hk2, hk3⟩ := hk
          refine ⟨a, l ++ [tk q - 4], by rw [kls_app, hk1]; rfl, by simp [hk2], ?_⟩
          intro x hx
          rcases List.mem_append.mp hx with hx | hx
          · exact hk3 x hx
          · simp at hx; omega
      · rw [x1, x2, e_calI, e_calTt]
        have hsd := hnd s (by simp)
        obtain ⟨B2, y1, y2⟩ := q_joinb (S := S) (N := N) (q := q') (bad := 1) (flt := nI (tp q')) (s := dr) (r := v) x5 (by omega) (by omega) x6
        obtain ⟨B3, y3, y4⟩ := q_joinb (S := S) (N := N) (q := q') (bad := 1) (flt := nI (tp q')) (s := s) (r := nI dr) y2 (by omega) (by omega) (Or.inr ⟨dr, by omega, rfl⟩)
        obtain ⟨fu', rfl⟩ : ∃ x, fu' = x + 1 := ⟨fu' - 1, by omega⟩
        have e4 : k_RM_sum_62 N rf (fu' + 1) (nI d) (nI s) (qz S q' 1 (nI (tp q')) dr' B3) = some (nI s, qz S q' 1 (nI (tp q')) dr' B3) := by
          simp [k_RM_sum_62, q_look1, e_calI]
        simp only [k_RM_sum_139, y1, y3, e_calV, e4]
        exact Or.inr ⟨q', post f ++ y, by rw [List.append_assoc], ⟨nI s, dr', B3, rfl, by omega, x4, y4, Or.inr ⟨s, by omega, rfl⟩⟩, x7, x8⟩
    · have ho' : 0 < o := by omega
      have e1 : k_RM_sum_62 N rf (fu' + 1) (nI d) (nI s) (qz S q 0 flt dr B) = some (nI s, qz S q 0 flt dr B) := by
        simp (disch := omega) only [k_RM_sum_62, e_chkT,e_bnd,e_calI,e_calV,e_calP,e_rfO,e_calT,e_calTt, hlook, r1, lit, kp_22, kp_23]
        rw [if_neg (by omega), if_neg (by omega)]
      have e3 : k_PA_sum_29 N pf (fu + 1) ap (nI d) (nI ds0.length) (nI p) (nI o) (pz σ ap dd dk dp dv dz q (ds0 ++ post f)) = some (false, 0, pz σ ap dd dk dp dv dz q (ds0 ++ post (one s 17 p 0 f))) := by
        have hin := p_isAt (N := N) (q := q) (b := 22) (c := 23) (ds := ds0 ++ post f) h0' hq (by omega) (by omega)
        rw [if_neg hs] at hin
        have hf2 := hfin (nI 17) (nI p) ds0.length q (ds0 ++ post f) (by omega) (by omega)
        rw [fin_eq _ s] at hf2
        simp only [lit] at hin hf2
        simp (disch := omega) only [k_PA_sum_29, k_PA_sum_120, e_chkT,e_bnd,e_calI,e_calV,e_calP,e_rfO,e_calT,e_calTt, lit,n_add,n_le,n_lt,n_eq,n_nat,n_ib, pz_T, pz_R, pz_N, pz_33, pz_14, pz_45, a1, a2, a3, c1, c2, e8, hin, hf2]
        rw [if_neg (by omega)]
        simp
        omega
      rw [e1, e3]
      obtain ⟨a, l, hk1, hk2, hk3⟩ := hk
      refine Or.inl ⟨q, s, 17, p, 0, f, dr, B, rfl, rfl, ⟨hq0, hq, hg⟩, hK, hnd, hB, hI, ⟨by omega, by omega, by have := hnd s (by simp); omega⟩, ⟨?_, by simp, ⟨hp, by omega⟩, hw, trivial⟩, ?_⟩
      · simp only [okk]
        refine ⟨a, l, hk1, ?_, hk3⟩
        rintro rfl; simp at hk2; omega
      · simp only [hgt]; omega
theorem sim_sum {d lim hm : Nat} {pf : Nat → Int32 → mh_H → Option (Bool × Int32 × mh_H)} {rf : Int32 → rm_S → Option (Int32 × rm_S)} (E : EN σ ap dd tt bk bp bv dk dp dv dz n room tk tp tv S N) (hS : Sim σ ap dd dk dp dv dz n tk tp S d lim hm pf rf) (hl : lim < 26000) (hd : d ≤ 60) : Sim σ ap dd dk dp dv dz n tk tp S d lim (hm + 2) (f_PA_sum N pf) (f_RM_sum N rf) := by
  intro flt q ds dr B hI
  have E' := E
  obtain ⟨h, R, hn, hNN⟩ := E
  have h' := h
  have hlast := fun (e : Ent) (q' : Nat) (ds : List Ent) => p_last (N := N) (e := e) (q := q') (ds := ds) h
  have h0' := h
  obtain ⟨⟨a1, a2, a3⟩, ⟨a4, a5, a6, a7, a8, a9, a10⟩, ⟨c1, c2⟩, ⟨c4, c5, c6⟩, ⟨c7, c8, c9, c10⟩, -, ⟨e5, e6, e7⟩, e8, -, -, -, -, e9, e10, e11, e12, e13⟩ := h
  have hlim := p_limit (N := N) (d := d) (q := q) (ds := ds) h' (by omega)
  have hdeep := q_deep (S := S) (N := N) (d := d) (flt := flt) (dr := dr) (B := B) (q := q) (by omega) (by have := hI.1.1; omega)
  rw [if_pos hd] at hlim hdeep
  have e1 : f_PA_sum N pf ap (nI d) (pz σ ap dd dk dp dv dz q ds) = calT (pf ap (nI d) (pz σ ap dd dk dp dv dz q ds)) fun v5 s5 => chk (hT s5 ap = 7) <| rfO (hR s5 3 1 ap) fun b7 => chk (hT s5 b7 = 3) <| calI (f_DR_lastPlace N b7 s5) fun v9 s9 => k_PA_sum_29 N pf N ap (nI d) (nI ds.length) v9 0 s9 := by
    simp only [f_PA_sum, hlim, e_chkT,e_bnd,e_calI,e_calV,e_calP,e_rfO,e_calT,e_calTt, pz_T, pz_R, pz_14, a1, a2, c2]
  rcases hS flt q ds dr B hI with ⟨q', i', k', p', v', c', dr', B', x1, x2, ⟨x3, x3', x3''⟩, x4, x5, x6, x7, ⟨x8, x9, x10⟩, x11, x12⟩ | ⟨q', y, x1, ⟨v, dr', B', x2, x3, x4, x5, x6⟩, x7, x8⟩
  · obtain ⟨r1, r2, r3, r4⟩ := R q' x3' x3''
    obtain ⟨⟨i1, i2⟩, i3, i4, i5⟩ := hI
    have ht := (e9 q' x3').2.2.2
    have hq2 : q' < 8002 := by omega
    have hlook := fun B dr => q_look0 (S := S) (N := N) (flt := flt) (dr := dr) (B := B) hq2
    have hl2 : f_DR_lastPlace N dd (pz σ ap dd dk dp dv dz q' (ds ++ post (one i' k' p' v' c'))) = some (nI p', pz σ ap dd dk dp dv dz q' (ds ++ post (one i' k' p' v' c'))) := by
      have := hlast (nI k', nI p', if k' = 13 then 0 else v', nI (siz c' + 1)) q' (ds ++ post c') (by rw [List.length_append, post_len]; omega)
      rw [post_one, ← List.append_assoc]; exact this
    rw [e1, x1, e_calT, pz_T, e_chk a1, pz_R, c2, e_rfO, e_chk a2, hl2, e_calI]
    by_cases hs : 22 ≤ tk q' ∧ tk q' ≤ 23
    · have e2 : f_RM_sum N rf (nI d) (qz S q 0 flt dr B) = k_RM_sum_42 N rf (nI d) (nI i') (qz S q' 0 flt dr' B') := by
        have hc : tk q' = 22 ∨ tk q' = 23 := by omega
        simp (disch := omega) only [f_RM_sum, k_RM_sum_21, hdeep, qz_13, x2, e_chkT,e_bnd,e_calI,e_calV,e_calP,e_rfO,e_calT,e_calTt, hlook, r1, lit, if_true, kp_22, kp_23]
        rcases hc with hc | hc <;> simp [hc]
      have hi' := x4.2.2.2.2.2.2.2 i' (by simp)
      have hK1 : KS (bd B' dr' (nI 17) (nI p') 0) dr' 17 p' 0 .leaf := KS_new B' dr' 17 p' 0 (by omega)
      have hK2 : KS (bd B' dr' (nI 17) (nI p') 0) i' k' p' v' c' := KS_old (fun j hj => (x5 j hj).2) bd_o x4
      have hj := q_join (S := S) (N := N) (q := q') (bad := 0) (dr := dr' + 1) (flt := flt) hK1 hK2
      have hK3 := KS_join hK1 hK2 (by intro j hj; have := x5 j hj; simp only [nds, List.mem_cons, List.not_mem_nil, or_false]; omega)
      have e3 : k_RM_sum_42 N rf (nI d) (nI i') (qz S q' 0 flt dr' B') = k_RM_sum_62 N rf N (nI d) (nI dr') (qz S q' 0 flt (dr' + 1) (bj (bd B' dr' (nI 17) (nI p') 0) dr' .leaf i')) := by
        have hdf := q_draft (S := S) (N := N) (q := q') (bad := 0) (flt := flt) (B := B') (dr := dr') (k := 17) (p := nI p') (v := 0) (by omega)
        have h8 : B' 8 i' = nI p' := x4.2.1
        simp only [lit] at hdf hj
        simp (disch := omega) only [k_RM_sum_42, e_chkT,e_bnd,e_calI,e_calV,e_calP,e_rfO,e_calT,e_calTt, lit,n_add,n_le,n_lt,n_eq,n_nat,n_ib, qz_b, h8, hdf, hj, hi']
      rw [e2, e3]
      have := loop_sum (flt := flt) (q0 := q) (dr0 := dr) (s := dr') (p := p') (ds0 := ds) (B0 := B) E' hS hl ⟨i1, i3, i4⟩ x11.2.2.1.1 n q' (one i' k' p' v' c') 0 (dr' + 1) (bj (bd B' dr' (nI 17) (nI p') 0) dr' .leaf i') N N (by omega) (by omega) (by omega) x3 x3' x3'' hK3 (by simp) ?_ ?_ (BI_join (BI_new x7) hi') ⟨by omega, by simp only [siz]; omega, by omega⟩ x11 (by simp only [hgt] at *; omega) ⟨k', [], rfl, rfl, by simp⟩ (Or.inr hs)
      · exact this
      · intro j hj
        simp only [app, nds, List.append_nil, List.mem_cons] at hj
        rcases hj with rfl | hj
        · omega
        · have := x5 j (by simpa using hj); omega
      · intro o j hj
        rw [bj_o o j (by simp only [nds, List.mem_cons, List.not_mem_nil, or_false]; omega), bd_o o j (by omega), x6 o j hj]
    · have e2 : f_RM_sum N rf (nI d) (qz S q 0 flt dr B) = some (nI i', qz S q' 0 flt dr' B') := by
        simp (disch := omega) only [f_RM_sum, k_RM_sum_21, hdeep, qz_13, x2, e_chkT,e_bnd,e_calI,e_calV,e_calP,e_rfO,e_calT,e_calTt, hlook, r1, lit, if_true, kp_22, kp_23]
        rw [if_neg (by omega), if_neg (by omega)]
      have e3 : k_PA_sum_29 N pf N ap (nI d) (nI ds.length) (nI p') 0 (pz σ ap dd dk dp dv dz q' (ds ++ post (one i' k' p' v' c'))) = some (false, 0, pz σ ap dd dk dp dv dz q' (ds ++ post (one i' k' p' v' c'))) := by
        obtain ⟨N', hN'⟩ : ∃ x, N = x + 1 := ⟨N - 1, by omega⟩
        have hin := p_isAt (N := N) (q := q') (b := 22) (c := 23) (ds := ds ++ post (one i' k' p' v' c')) h0' x3' (by omega) (by omega)
        rw [if_neg hs] at hin
        have hb1 : q' < hN σ bk := by omega
        simp only [lit] at hin
        generalize hM : N = M at hin ⊢
        rw [hM] at hN'
        rw [hN']
        rw [hN'] at hin
        simp (disch := omega) only [k_PA_sum_29, k_PA_sum_120, e_chkT,e_bnd,e_calI,e_calV,e_calP,e_rfO,e_calT,e_calTt, lit,n_add,n_le,n_lt,n_eq,n_nat,n_ib, pz_T, pz_R, pz_N, pz_33, pz_14, pz_45, a1, a2, a3, c1, c2, e8, hin]
        simp
      rw [e2, e3]
      exact Or.inl ⟨q', i', k', p', v', c', dr', B', rfl, rfl, ⟨x3, x3', x3''⟩, x4, x5, x6, x7, ⟨x8, x9, x10⟩, x11, by omega⟩
  · have e2 : f_RM_sum N rf (nI d) (qz S q 0 flt dr B) = some (v, qz S q' 1 (nI (tp q')) dr' B') := by
      have z0 : nI 0 = 0 := rfl
      simp [f_RM_sum, k_RM_sum_21, hdeep, qz_13, x2, e_calI, e_calV, q_look1, z0]
    rw [e1, x1, e_calTt, e2]
    exact Or.inr ⟨q', y, rfl, ⟨v, dr', B', rfl, x3, x4, x5, x6⟩, x7, x8⟩
end SIMSUM

