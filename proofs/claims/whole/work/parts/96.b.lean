/-! THE CLASS WRITES: what stands between and behind -/
section WRITE3
variable {wr tr br b L na sp sb nb R N : Nat} {F : Fo} {nt : List (List Int32)} {τ : mh_H} {bb : Nat}
theorem q_end {a k n : Nat} (X : WX wr tr br b L na sp sb nb R F nt τ bb) (ha : a < siz F + 1) (hK : hA τ b a = nI k) (hP : hA τ (b + 4) a = nI n) (hk : k < 34) (hn : n < 30000) : f_WR_ending N wr (nI a) τ = some (edi k n, τ) := by
  obtain ⟨t1, t2, t3, t4, t5, t6, t7, t8⟩ := X.2.1
  have htl := txt_len F
  have hna : (nI a).toNatClampNeg = a := n_nat (by omega)
  have iba : ib (nI a) L := by rw [n_ib (by omega)]; omega
  have u0 := t2 0 (by omega)
  have u4 := t2 4 (by omega)
  rw [Nat.add_zero] at u0
  have hko : f_TR_kindOf N tr (nI a) τ = some (nI k, τ) := by rw [t_kindOf t1 t3 (by omega) (by omega) u0.2.2 u0.1 (by rw [u0.2.1]; omega), hK]
  have hpo : f_TR_partsOf N tr (nI a) τ = some (nI n, τ) := by rw [t_partsOf t1 t3 (by omega) (by omega) u4.2.2 u4.1 (by rw [u4.2.1]; omega), hP]
  have c2 : (nI n = 2) = (n = 2) := n_eq (b := 2) (by omega) (by omega)
  have c0 : (nI n = 0) = (n = 0) := n_eq (b := 0) (by omega) (by omega)
  unfold f_WR_ending
  refine X_chk X.1.1 (X_rfO X.1.2.2.1 (X_chk t1 (X_I hko ?_)))
  have hcases : k = 0 ∨ k = 1 ∨ k = 2 ∨ k = 3 ∨ k = 4 ∨ k = 5 ∨ k = 6 ∨ k = 7 ∨ k = 8 ∨ k = 9 ∨ k = 10 ∨ k = 11 ∨ k = 12 ∨ k = 13 ∨ k = 14 ∨ k = 15 ∨ k = 16 ∨ k = 17 ∨ k = 18 ∨ k = 19 ∨ k = 20 ∨ k = 21 ∨ k = 22 ∨ k = 23 ∨ k = 24 ∨ k = 25 ∨ k = 26 ∨ k = 27 ∨ k = 28 ∨ k = 29 ∨ k = 30 ∨ k = 31 ∨ k = 32 ∨ k = 33 := by omega
  rcases hcases with rfl | rfl | rfl | rfl | rfl | rfl | rfl | rfl | rfl | rfl | rfl | rfl | rfl | rfl | rfl | rfl | rfl | rfl | rfl | rfl | rfl | rfl | rfl | rfl | rfl | rfl | rfl | rfl | rfl | rfl | rfl | rfl | rfl | rfl
  all_goals (repeat (first | (refine X_if (by decide) ?_) | (refine X_nif (by decide) ?_)))
  all_goals first
    | rfl
    | (refine X_chk X.1.1 (X_rfO X.1.2.2.1 (X_chk t1 (X_I hpo ?_)))
       by_cases h2 : n = 2
       · exact X_if (by rw [c2]; exact h2) (by rw [h2]; rfl)
       · refine X_nif (by rw [c2]; exact h2) ?_
         show some (28, τ) = some (if n = 2 then 27 else 28, τ)
         rw [if_neg h2])
    | (refine X_chk X.1.1 (X_rfO X.1.2.2.1 (X_chk t1 (X_I hpo ?_)))
       by_cases h2 : n = 0
       · exact X_if (by rw [c0]; exact h2) (by rw [h2]; rfl)
       · refine X_nif (by rw [c0]; exact h2) ?_
         show some (30, τ) = some (if n = 0 then 23 else 30, τ)
         rw [if_neg h2])
theorem q_brk {a k w kw : Nat} (X : WX wr tr br b L na sp sb nb R F nt τ bb) (ha : a < siz F + 1) (hK : hA τ b a = nI k) (hW : hA τ (b + 5) a = nI w) (hw : w < siz F + 1) (hKw : hA τ b w = nI kw) (hk : k < 34) (hkw : kw < 34) : f_WR_isBracketed N wr (nI a) τ = some (b01 (brk k kw), τ) := by
  obtain ⟨t1, t2, t3, t4, t5, t6, t7, t8⟩ := X.2.1
  have htl := txt_len F
  have hna : (nI a).toNatClampNeg = a := n_nat (by omega)
  have hnw : (nI w).toNatClampNeg = w := n_nat (by omega)
  have iba : ib (nI a) L := by rw [n_ib (by omega)]; omega
  have u0 := t2 0 (by omega)
  have u5 := t2 5 (by omega)
  rw [Nat.add_zero] at u0
  have hko : f_TR_kindOf N tr (nI a) τ = some (nI k, τ) := by rw [t_kindOf t1 t3 (by omega) (by omega) u0.2.2 u0.1 (by rw [u0.2.1]; omega), hK]
  have hwo : f_TR_wholeOf N tr (nI a) τ = some (nI w, τ) := by rw [t_wholeOf t1 t3 (by omega) (by omega) u5.2.2 u5.1 (by rw [u5.2.1]; omega), hW]
  have hkv : f_TR_kindOf N tr (nI w) τ = some (nI kw, τ) := by rw [t_kindOf t1 t3 (by omega) (by omega) u0.2.2 u0.1 (by rw [u0.2.1]; omega), hKw]
  have lt : ∀ x y, x < 100 → y < 100 → ((nI x < nI y) = (x < y)) := fun x y h1 h2 => n_lt (by omega) (by omega)
  have eq : ∀ x y, x < 100 → y < 100 → ((nI x = nI y) = (x = y)) := fun x y h1 h2 => n_eq (by omega) (by omega)
  unfold f_WR_isBracketed
  refine X_chk X.1.1 (X_rfO X.1.2.2.1 (X_chk t1 (X_I hwo (X_chk t1 (X_I hkv (X_chk X.1.1 (X_rfO X.1.2.2.1 (X_chk t1 (X_I hko ?_)))))))))
  have hcases : k = 0 ∨ k = 1 ∨ k = 2 ∨ k = 3 ∨ k = 4 ∨ k = 5 ∨ k = 6 ∨ k = 7 ∨ k = 8 ∨ k = 9 ∨ k = 10 ∨ k = 11 ∨ k = 12 ∨ k = 13 ∨ k = 14 ∨ k = 15 ∨ k = 16 ∨ k = 18 ∨ k = 19 ∨ k = 21 ∨ k = 22 ∨ k = 23 ∨ k = 26 ∨ k = 27 ∨ k = 28 ∨ k = 29 ∨ k = 30 ∨ k = 31 ∨ k = 32 ∨ k = 33 ∨ k = 17 ∨ k = 20 ∨ k = 24 ∨ k = 25 := by omega
  rcases hcases with rfl | rfl | rfl | rfl | rfl | rfl | rfl | rfl | rfl | rfl | rfl | rfl | rfl | rfl | rfl | rfl | rfl | rfl | rfl | rfl | rfl | rfl | rfl | rfl | rfl | rfl | rfl | rfl | rfl | rfl | rfl | rfl | rfl | rfl
  all_goals (repeat (first | (refine X_if (by decide) ?_) | (refine X_nif (by decide) ?_)))
  all_goals try rfl
  · by_cases c1 : kw < 15
    · refine X_if (by show nI kw < nI 15; rw [lt _ _ (by omega) (by omega)]; exact c1) ?_
      rw [show brk 17 kw = false by simp [brk]; omega]; rfl
    · refine X_nif (by show ¬ nI kw < nI 15; rw [lt _ _ (by omega) (by omega)]; exact c1) ?_
      by_cases c2 : 23 < kw
      · refine X_if (by show nI 23 < nI kw; rw [lt _ _ (by omega) (by omega)]; exact c2) ?_
        rw [show brk 17 kw = false by simp [brk]; omega]; rfl
      · refine X_nif (by show ¬ nI 23 < nI kw; rw [lt _ _ (by omega) (by omega)]; exact c2) ?_
        rw [show brk 17 kw = true by simp [brk]; omega]; rfl
  · by_cases c0 : kw = 15
    · refine X_if (by show nI kw = nI 15; rw [eq _ _ (by omega) (by omega)]; exact c0) ?_
      rw [show brk 20 kw = true by simp [brk]; omega]; rfl
    · refine X_nif (by show ¬ nI kw = nI 15; rw [eq _ _ (by omega) (by omega)]; exact c0) ?_
      by_cases c1 : kw < 20
      · refine X_if (by show nI kw < nI 20; rw [lt _ _ (by omega) (by omega)]; exact c1) ?_
        rw [show brk 20 kw = false by simp [brk]; omega]; rfl
      · refine X_nif (by show ¬ nI kw < nI 20; rw [lt _ _ (by omega) (by omega)]; exact c1) ?_
        by_cases c2 : 23 < kw
        · refine X_if (by show nI 23 < nI kw; rw [lt _ _ (by omega) (by omega)]; exact c2) ?_
          rw [show brk 20 kw = false by simp [brk]; omega]; rfl
        · refine X_nif (by show ¬ nI 23 < nI kw; rw [lt _ _ (by omega) (by omega)]; exact c2) ?_
          rw [show brk 20 kw = true by simp [brk]; omega]; rfl
  · by_cases c1 : kw < 24
    · refine X_if (by show nI kw < nI 24; rw [lt _ _ (by omega) (by omega)]; exact c1) ?_
      rw [show brk 24 kw = false by simp [brk]; omega]; rfl
    · refine X_nif (by show ¬ nI kw < nI 24; rw [lt _ _ (by omega) (by omega)]; exact c1) ?_
      by_cases c2 : 26 < kw
      · refine X_if (by show nI 26 < nI kw; rw [lt _ _ (by omega) (by omega)]; exact c2) ?_
        rw [show brk 24 kw = false by simp [brk]; omega]; rfl
      · refine X_nif (by show ¬ nI 26 < nI kw; rw [lt _ _ (by omega) (by omega)]; exact c2) ?_
        rw [show brk 24 kw = true by simp [brk]; omega]; rfl
  · by_cases c0 : kw = 25
    · refine X_if (by show nI kw = nI 25; rw [eq _ _ (by omega) (by omega)]; exact c0) ?_
      rw [show brk 25 kw = true by simp [brk]; omega]; rfl
    · refine X_nif (by show ¬ nI kw = nI 25; rw [eq _ _ (by omega) (by omega)]; exact c0) ?_
      by_cases c1 : kw = 26
      · refine X_if (by show nI kw = nI 26; rw [eq _ _ (by omega) (by omega)]; exact c1) ?_
        rw [show brk 25 kw = true by simp [brk]; omega]; rfl
      · refine X_nif (by show ¬ nI kw = nI 26; rw [eq _ _ (by omega) (by omega)]; exact c1) ?_
        rw [show brk 25 kw = false by simp [brk]; omega]; rfl
theorem q_cond {a k : Nat} (X : WX wr tr br b L na sp sb nb R F nt τ bb) (ha : a < siz F + 1) (hK : hA τ b a = nI k) (hk : k < 34) : f_WR_isCondition N wr (nI a) τ = some (if k = 24 ∨ k = 25 then 1 else 0, τ) := by
  obtain ⟨t1, t2, t3, t4, t5, t6, t7, t8⟩ := X.2.1
  have htl := txt_len F
  have hna : (nI a).toNatClampNeg = a := n_nat (by omega)
  have iba : ib (nI a) L := by rw [n_ib (by omega)]; omega
  have u0 := t2 0 (by omega)
  rw [Nat.add_zero] at u0
  have e24 : (nI k = 24) = (k = 24) := n_eq (b := 24) (by omega) (by omega)
  have e25 : (nI k = 25) = (k = 25) := n_eq (b := 25) (by omega) (by omega)
  have hko : f_TR_kindOf N tr (nI a) τ = some (nI k, τ) := by rw [t_kindOf t1 t3 (by omega) (by omega) u0.2.2 u0.1 (by rw [u0.2.1]; omega), hK]
  unfold f_WR_isCondition
  refine X_chk X.1.1 (X_rfO X.1.2.2.1 (X_chk t1 (X_I hko ?_)))
  by_cases c1 : k = 24
  · exact X_if (by rw [e24]; exact c1) (by rw [if_pos (Or.inl c1)])
  · refine X_nif (by rw [e24]; exact c1) (X_chk X.1.1 (X_rfO X.1.2.2.1 (X_chk t1 (X_I hko ?_))))
    by_cases c2 : k = 25
    · exact X_if (by rw [e25]; exact c2) (by rw [if_pos (Or.inr c2)])
    · exact X_nif (by rw [e25]; exact c2) (by rw [if_neg (by omega)])
theorem q_open {a k : Nat} (X : WX wr tr br b L na sp sb nb R F nt τ bb) (ha : a < siz F + 1) (hK : hA τ b a = nI k) (hk : k < 34) : f_WR_opening N wr (nI a) τ = some (opi k, τ) := by
  have h := q_cond (N := N) X ha hK hk
  unfold f_WR_opening opi
  refine X_chk X.1.1 (X_I h ?_)
  by_cases c : k = 24 ∨ k = 25
  · rw [if_pos c, if_pos c]; rfl
  · rw [if_neg c, if_neg c]; rfl
theorem q_close {a k : Nat} (X : WX wr tr br b L na sp sb nb R F nt τ bb) (ha : a < siz F + 1) (hK : hA τ b a = nI k) (hk : k < 34) : f_WR_closing N wr (nI a) τ = some (cli k, τ) := by
  have h := q_cond (N := N) X ha hK hk
  unfold f_WR_closing cli
  refine X_chk X.1.1 (X_I h ?_)
  by_cases c : k = 24 ∨ k = 25
  · rw [if_pos c, if_pos c]; rfl
  · rw [if_neg c, if_neg c]; rfl
theorem q_joint {w kw pw fk j : Nat} (X : WX wr tr br b L na sp sb nb R F nt τ bb) (hw : w + 1 < siz F + 1) (hK : hA τ b w = nI kw) (hP : hA τ (b + 4) w = nI pw) (hF : hA τ b (w + 1) = nI fk) (hkw : kw < 34) (hpw : pw < 30000) (hpw0 : 0 < pw) (hfk : fk < 34) (hj : j < pw) (hN1 : 100 ≤ N) : f_WR_joint N wr (nI w) (nI j) τ = some (jnt kw pw fk j, τ) := by
  obtain ⟨t1, t2, t3, t4, t5, t6, t7, t8⟩ := X.2.1
  have htl := txt_len F
  have hnw : (nI w).toNatClampNeg = w := n_nat (by omega)
  have hnw1 : (nI (w + 1)).toNatClampNeg = w + 1 := n_nat (by omega)
  have ibw : ib (nI w) L := by rw [n_ib (by omega)]; omega
  have u0 := t2 0 (by omega)
  have u4 := t2 4 (by omega)
  rw [Nat.add_zero] at u0
  have hko : f_TR_kindOf N tr (nI w) τ = some (nI kw, τ) := by rw [t_kindOf t1 t3 (by omega) (by omega) u0.2.2 u0.1 (by rw [u0.2.1]; omega), hK]
  have hpo : f_TR_partsOf N tr (nI w) τ = some (nI pw, τ) := by rw [t_partsOf t1 t3 (by omega) (by omega) u4.2.2 u4.1 (by rw [u4.2.1]; omega), hP]
  have hkf : f_TR_kindOf N tr (nI (w + 1)) τ = some (nI fk, τ) := by rw [t_kindOf t1 t3 (by omega) (by omega) u0.2.2 u0.1 (by rw [u0.2.1]; omega), hF]
  have ej : ∀ k, k < 100 → ((nI j = nI k) = (j = k)) := fun k h => n_eq (by omega) (by omega)
  have hj0 : (nI j = 0) = (j = 0) := ej 0 (by omega)
  have hj1 : (nI j = 1) = (j = 1) := ej 1 (by omega)
  have hj2 : (nI j = 2) = (j = 2) := ej 2 (by omega)
  have ek : ∀ k, k < 100 → ((nI kw = nI k) = (kw = k)) := fun k h => n_eq (by omega) (by omega)
  have k1 : (nI kw = 1) = (kw = 1) := ek 1 (by omega)
  have k6 : (nI kw = 6) = (kw = 6) := ek 6 (by omega)
  have k7 : (nI kw = 7) = (kw = 7) := ek 7 (by omega)
  have k8 : (nI kw = 8) = (kw = 8) := ek 8 (by omega)
  have k16 : (nI kw = 16) = (kw = 16) := ek 16 (by omega)
  unfold f_WR_joint jnt
  refine X_chk X.1.1 (X_rfO X.1.2.2.1 (X_chk t1 (X_I hko ?_)))
  by_cases c1 : kw = 1
  · rw [if_pos c1]
    refine X_if (by rw [k1]; exact c1) (X_chk X.1.1 (X_I (a := if j = 0 then 23 else if j + 1 = pw then (if j = 1 then 31 else 30) else if j = 1 then 32 else 33) (s := τ) ?_ rfl))
    unfold f_WR_functionJoint
    by_cases j0 : j = 0
    · rw [if_pos j0]
      exact X_if (by rw [hj0]; exact j0) rfl
    · rw [if_neg j0]
      have ep : nI pw - 1 = nI (pw - 1) := n_sub (b := 1) (by omega)
      refine X_nif (by rw [hj0]; exact j0) (X_chk X.1.1 (X_rfO X.1.2.2.1 (X_chk t1 (X_I hpo ?_))))
      by_cases jl : j + 1 = pw
      · rw [if_pos jl]
        refine X_if (by rw [ep, n_eq (by omega) (by omega)]; omega) ?_
        by_cases j1 : j = 1
        · rw [if_pos j1]; exact X_if (by rw [hj1]; exact j1) rfl
        · rw [if_neg j1]; exact X_nif (by rw [hj1]; exact j1) rfl
      · rw [if_neg jl]
        refine X_nif (by rw [ep, n_eq (by omega) (by omega)]; omega) ?_
        by_cases j1 : j = 1
        · rw [if_pos j1]; exact X_if (by rw [hj1]; exact j1) rfl
        · rw [if_neg j1]; exact X_nif (by rw [hj1]; exact j1) rfl
  · rw [if_neg c1]
    refine X_nif (by rw [k1]; exact c1) ?_
    by_cases c6 : kw = 6
    · rw [if_pos c6]
      refine X_if (by rw [k6]; exact c6) ?_
      by_cases j0 : j = 0
      · rw [if_pos j0]; exact X_if (by rw [hj0]; exact j0) rfl
      · rw [if_neg j0]
        refine X_nif (by rw [hj0]; exact j0) ?_
        by_cases j1 : j = 1
        · rw [if_pos j1]; exact X_if (by rw [hj1]; exact j1) rfl
        · rw [if_neg j1]; exact X_nif (by rw [hj1]; exact j1) rfl
    · rw [if_neg c6]
      refine X_nif (by rw [k6]; exact c6) ?_
      by_cases c7 : kw = 7
      · rw [if_pos c7]
        refine X_if (by rw [k7]; exact c7) (X_chk X.1.1 (X_I (a := if j = 0 then 23 else if j = 1 then (if fk = 33 then 23 else 34) else if j = 2 then 32 else 33) (s := τ) ?_ rfl))
        unfold f_WR_callJoint
        by_cases j0 : j = 0
        · rw [if_pos j0]; exact X_if (by rw [hj0]; exact j0) rfl
        · rw [if_neg j0]
          refine X_nif (by rw [hj0]; exact j0) ?_
          by_cases j1 : j = 1
          · rw [if_pos j1]
            have hpart : f_TR_partAt N tr (nI w) 0 τ = some (nI (w + 1), τ) := by
              unfold f_TR_partAt
              refine X_nif (by decide) (X_chk t1 (X_I hpo (X_if (by show nI 0 < nI pw; rw [n_lt (by omega) (by omega)]; exact hpw0) (X_bndE (x' := nI (w + 1)) (n_add w 1) ?_))))
              obtain ⟨M, hM⟩ : ∃ M, N = M + 1 := ⟨N - 1, by omega⟩
              have : ∀ M, k_TR_partAt_22 N (M + 1) tr 0 (nI (w + 1)) 0 τ = some (nI (w + 1), τ) := by
                intro M
                unfold k_TR_partAt_22
                exact X_if (by decide) rfl
              have h2 := this M
              rw [← hM] at h2
              exact h2
            have ef : (nI fk = 33) = (fk = 33) := n_eq (b := 33) (by omega) (by omega)
            refine X_if (by rw [hj1]; exact j1) (X_chk X.1.1 (X_rfO X.1.2.2.1 (X_chk t1 (X_I hpart (X_chk t1 (X_I hkf ?_))))))
            by_cases f33 : fk = 33
            · rw [if_pos f33]; exact X_if (by rw [ef]; exact f33) rfl
            · rw [if_neg f33]; exact X_nif (by rw [ef]; exact f33) rfl
          · rw [if_neg j1]
            refine X_nif (by rw [hj1]; exact j1) ?_
            by_cases j2 : j = 2
            · rw [if_pos j2]; exact X_if (by rw [hj2]; exact j2) rfl
            · rw [if_neg j2]; exact X_nif (by rw [hj2]; exact j2) rfl
      · rw [if_neg c7]
        refine X_nif (by rw [k7]; exact c7) ?_
        by_cases c8 : kw = 8
        · rw [if_pos c8]
          refine X_if (by rw [k8]; exact c8) ?_
          by_cases j0 : j = 0
          · rw [if_pos j0]; exact X_if (by rw [hj0]; exact j0) rfl
          · rw [if_neg j0]
            refine X_nif (by rw [hj0]; exact j0) ?_
            by_cases j1 : j = 1
            · rw [if_pos j1]; exact X_if (by rw [hj1]; exact j1) rfl
            · rw [if_neg j1]; exact X_nif (by rw [hj1]; exact j1) rfl
        · rw [if_neg c8]
          refine X_nif (by rw [k8]; exact c8) ?_
          by_cases c16 : kw = 16
          · rw [if_pos c16]
            refine X_if (by rw [k16]; exact c16) ?_
            by_cases j0 : j = 0
            · rw [if_pos j0]; exact X_if (by rw [hj0]; exact j0) rfl
            · rw [if_neg j0]; exact X_nif (by rw [hj0]; exact j0) rfl
          · rw [if_neg c16]
            refine X_nif (by rw [k16]; exact c16) ?_
            by_cases j0 : j = 0
            · rw [if_pos j0]; exact X_if (by rw [hj0]; exact j0) rfl
            · rw [if_neg j0]
              exact X_nif (by rw [hj0]; exact j0) (X_chk X.1.1 (X_rfO X.1.2.2.1 (X_chk t1 (X_I hko (X_P (a := lji kw) (lj_ok kw hkw).1 rfl)))))
theorem edi_lt (k n : Nat) : edi k n < 67 := by
  unfold edi
  repeat' (first | decide | split)
theorem opi_lt (k : Nat) : opi k < 67 := by
  unfold opi
  repeat' (first | decide | split)
theorem cli_lt (k : Nat) : cli k < 67 := by
  unfold cli
  repeat' (first | decide | split)
theorem jnt_lt {kw pw fk j : Nat} (h : kw < 34) : jnt kw pw fk j < 67 := by
  have := (lj_ok kw h).2
  unfold jnt
  repeat' (first | assumption | decide | split)
end WRITE3
