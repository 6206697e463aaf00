/-! the class lays a text; it counts the parts -/
section LAY3
variable {σ : mh_H} {tr dd dk dp dv dz kk pp vv zz ww cnt N : Nat}
theorem place_ok {F : Fo} (h : LaE σ tr dd dk dp dv dz kk pp vv zz ww (siz F + 1)) (hN : 40000 ≤ N) (hcnt : hI σ 1 4 dd = nI (siz F + 1)) (hD : Dr (hA σ) dk dp dv dz 0 (post F ++ [TXE F])) :
    ∃ A', f_TR_placeNodes N tr dd σ = some (az σ A') ∧ Tr A' kk pp vv zz ww 0 (txt (zv F)) ∧ (∀ x i, (x ≠ kk ∧ x ≠ pp ∧ x ≠ vv ∧ x ≠ zz ∧ x ≠ ww) → A' x i = hA σ x i) := by
  have h' := h
  have hlF := post_len F
  obtain ⟨⟨a1, a2⟩, -, -, -, -, -, -, ⟨g1, g2, g3, g4, g5, g6, g7, g8, g9, g10⟩, ⟨m1, m2, m3, m4⟩, ⟨m5, m6, m7, m8⟩, ⟨m9, m10, m11, m12⟩, ⟨m13, m14, m15, m16⟩, ⟨m17, m18, m19, m20⟩, hc, hc5⟩ := h
  have hl : (post F ++ [TXE F]).length = siz F + 1 := by simp [hlF]
  have ht := hD (siz F) (by omega)
  have et : (post F ++ [TXE F])[siz F]'(by omega) = TXE F := by
    rw [List.getElem_append_right (by omega)]; simp [hlF]
  rw [et] at ht
  simp only [Nat.zero_add] at ht
  obtain ⟨N', hN'⟩ : ∃ x, N = x + siz F + 1 := ⟨N - siz F - 1, by omega⟩
  have hstep := lay_step (N := N) (k12 := k_TR_placeNodes_12 N (N' + siz F)) (A := hA σ) (y2 := -1) (r := 0) (i := siz F) (s := siz F + 1) (k := 0) h' (by omega) ht.2.2.2 (by omega) (by omega) (by omega) (by omega)
  generalize hA2 : sP (hA σ) kk pp vv zz ww 0 (hA σ dk (siz F)) (hA σ dp (siz F)) (hA σ dv (siz F)) (hA σ dz (siz F)) (-1) = A2 at hstep
  have fr2 : ∀ y j, j ≠ 0 → A2 y j = hA σ y j := by intro y j hj; rw [← hA2]; simp [sP, hj]
  have fr2d : ∀ y j, (y ≠ kk ∧ y ≠ pp ∧ y ≠ vv ∧ y ≠ zz ∧ y ≠ ww) → A2 y j = hA σ y j := by
    intro y j hy
    rw [← hA2]; unfold sP; simp [hy.1, hy.2.1, hy.2.2.1, hy.2.2.2.1, hy.2.2.2.2]
  have nd2 : A2 kk 0 = 0 ∧ A2 pp 0 = -1 ∧ A2 vv 0 = 0 ∧ A2 ww 0 = -1 ∧ A2 zz 0 = nI (siz F + 1) := by
    rw [← hA2]; unfold sP
    rw [ht.1, ht.2.1, ht.2.2.1, ht.2.2.2]
    simp [g1.symm, g2.symm, g3.symm, g4.symm, g5.symm, g6.symm, g7.symm, g8.symm, g9.symm, g10.symm, TXE]
  have hDF : Dr A2 dk dp dv dz 0 (post F) := by
    intro j hj
    have := hD j (by omega)
    rw [List.getElem_append_left hj] at this
    rw [fr2d dk _ ⟨m1.symm, m5.symm, m9.symm, m13.symm, m17.symm⟩, fr2d dp _ ⟨m2.symm, m6.symm, m10.symm, m14.symm, m18.symm⟩, fr2d dv _ ⟨m3.symm, m7.symm, m11.symm, m15.symm, m19.symm⟩, fr2d dz _ ⟨m4.symm, m8.symm, m12.symm, m16.symm, m20.symm⟩]
    exact this
  obtain ⟨A3, v3, R3, ps3, z1, z2, z3, z4, z5, z6⟩ := lay_f (N := N) h' hN F 0 1 (nI 0) A2 (nI 0) 1 [] N' hDF (by omega) ⟨rfl, rfl⟩ (by simp) (Or.inr ⟨0, rfl, by omega, by omega⟩) (by simp; omega) (by omega)
  refine ⟨A3, ?_, ?_, ?_⟩
  · have e1 : hI σ 1 4 dd - 1 = nI (siz F) := by
      rw [hcnt]; exact n_sub (b := 1) (by omega)
    unfold f_TR_placeNodes
    refine X_chk a2 (X_bndE e1 ?_)
    have e2 : k_TR_placeNodes_12 N N tr dd (-1) 0 (nI (siz F)) σ = k_TR_placeNodes_12 N (N' + siz F) tr dd (nI 0) (nI 1) (nI (siz F) + (-1)) (az σ A2) := by
      rw [← hstep, az_self]
      conv => lhs; arg 2; rw [hN']
      conv => lhs; unfold k_TR_placeNodes_12
      refine X_nif ?_ ?_
      · show ¬ nI (siz F) < nI 0
        rw [n_lt (by omega) (by omega)]; omega
      · have e3 : k_TR_placeNodes_17 N (k_TR_placeNodes_12 N (N' + siz F)) N tr dd (-1) 0 (nI (siz F)) σ = k_TR_placeNodes_17 N (k_TR_placeNodes_12 N (N' + siz F)) (N' + siz F + 1) tr dd (-1) 0 (nI (siz F)) σ := by rw [← hN']
        rw [e3]
        unfold k_TR_placeNodes_17
        exact X_if (Int32.le_refl _) rfl
    rw [e2]
    have e4 : nI (siz F) + (-1) = nI (0 + siz F) + (-1) := by rw [Nat.zero_add]
    rw [e4, z1]
    have hf0 : 0 < N' := by omega
    obtain ⟨N2, rfl⟩ : ∃ x, N' = x + 1 := ⟨N' - 1, by omega⟩
    unfold k_TR_placeNodes_12
    exact X_if (by decide) rfl
  · intro j hj
    have hpl : (pre (zv F) 1 0).length = siz F := by rw [pre_len, zv_siz]
    simp only [txt, List.length_cons, hpl] at hj
    cases j with
    | zero =>
      simp only [txt, Nat.zero_add, List.getElem_cons_zero, zv_siz]
      rw [z5 kk _ (by omega), z5 pp _ (by omega), z5 vv _ (by omega), z5 ww _ (by omega), z5 zz _ (by omega)]
      exact nd2
    | succ j =>
      simp only [txt, List.getElem_cons_succ]
      have := z4 j (by rw [pre_len, zv_siz]; omega)
      rw [show 0 + (j + 1) = 0 + 1 + j by omega]
      exact this
  · intro y j hy
    rw [z5 y j (Or.inl hy)]; exact fr2d y j hy
/-- how many parts, and which part of its whole -/
def nro : Fo → Nat
  | .leaf => 0
  | .inner _ _ _ _ m => nro m + 1
def rks : Fo → Nat → List (Int32 × Int32)
  | .leaf, _ => []
  | .inner _ _ _ c m, j => (nI (nro c), nI j) :: (rks c 0 ++ rks m (j + 1))
theorem rks_len : ∀ (f : Fo) (j : Nat), (rks f j).length = siz f := by
  intro f
  induction f with
  | leaf => intro j; rfl
  | inner i x u c m ic im => intro j; simp only [rks, siz, List.length_cons, List.length_append, ic, im]; omega
theorem nro_le : ∀ f : Fo, nro f ≤ siz f := by
  intro f
  induction f with
  | leaf => exact Nat.le_refl _
  | inner i x u c m ic im => simp only [nro, siz]; omega
def CE (σ : mh_H) (tr ww pt rk cnt : Nat) : Prop := hT σ tr = 11 ∧ (hT σ ww = 2 ∧ hT σ pt = 2 ∧ hT σ rk = 2) ∧ (hR σ 5 6 tr = some ww ∧ hR σ 5 5 tr = some pt ∧ hR σ 5 7 tr = some rk) ∧ (cnt ≤ hN σ ww ∧ cnt ≤ hN σ pt ∧ cnt ≤ hN σ rk) ∧ (pt ≠ rk ∧ ww ≠ pt ∧ ww ≠ rk) ∧ hI σ 5 0 tr = nI cnt ∧ cnt < 30000
/-- one node of the count -/
theorem cp_step {pt rk : Nat} {A : Nat → Nat → Int32} {s w j fu : Nat} (h : CE σ tr ww pt rk cnt) (hs : s < cnt) (hw : A ww s = nI w) (hws : w < s) (hj : A pt w = nI j) (hj2 : j < 30000) : ∃ A', k_TR_countParts_2 N (fu + 1) tr (nI s) (az σ A) = k_TR_countParts_2 N fu tr (nI (s + 1)) (az σ A') ∧ A' pt s = 0 ∧ A' rk s = nI j ∧ A' pt w = nI (j + 1) ∧ (∀ x i, (x ≠ pt ∧ x ≠ rk) ∨ (i ≠ s ∧ i ≠ w) ∨ (x = rk ∧ i ≠ s) → A' x i = A x i) := by
  obtain ⟨a1, ⟨a2, a3, a4⟩, ⟨c1, c2, c3⟩, ⟨e1, e2, e3⟩, ⟨g1, g2, g3⟩, e4, hc⟩ := h
  have hnk : (nI s).toNatClampNeg = s := n_nat (by omega)
  have hnw : (nI w).toNatClampNeg = w := n_nat (by omega)
  have ib1 : ∀ m, ib (nI s) m = (s < m) := fun m => n_ib (by omega)
  have ib2 : ∀ m, ib (nI w) m = (w < m) := fun m => n_ib (by omega)
  have ess : nI s + 1 = nI (s + 1) := n_add s 1
  have ejj : nI j + 1 = nI (j + 1) := n_add j 1
  refine ⟨hA (mh_setA (mh_setA (mh_setA (mh_setA (az σ A) pt s 0) rk s 0) rk s (nI j)) pt w (nI (j + 1))), ?_, ?_, ?_, ?_, ?_⟩
  · have q1 : hA (mh_setA (mh_setA (az σ A) pt s 0) rk s 0) ww s = nI w := by rw [gA_setA, if_neg (by rintro ⟨h, _⟩; exact g3 h), gA_setA, if_neg (by rintro ⟨h, _⟩; exact g2 h), az_A]; exact hw
    have q2 : hA (mh_setA (mh_setA (az σ A) pt s 0) rk s 0) pt w = nI j := by rw [gA_setA, if_neg (by rintro ⟨h, _⟩; exact g1 h), gA_setA, if_neg (by rintro ⟨_, h⟩; omega), az_A]; exact hj
    have q3 : hA (mh_setA (mh_setA (mh_setA (az σ A) pt s 0) rk s 0) rk s (nI j)) pt w = nI j := by rw [gA_setA, if_neg (by rintro ⟨h, _⟩; exact g1 h)]; exact q2
    conv => lhs; unfold k_TR_countParts_2
    refine X_chk a1 (X_nif ?_ (X_rfO c2 (X_chk a3 (X_chk (by rw [ib1]; show s < hN σ pt; omega) (X_rfO c3 (X_chk a4 (X_chk (by rw [ib1]; show s < hN σ rk; omega) (X_rfO c1 (X_chk a2 (X_chk (by rw [ib1]; show s < hN σ ww; omega) (X_bndE (x' := nI w) (by rw [hnk]; exact q1) (X_I (t_has a1 e4 (show w < cnt by omega) (by omega)) (X_nif n10 ?_)))))))))))))
    · show ¬ hI σ 5 0 tr ≤ nI s
      rw [e4, n_le (by omega) (by omega)]; omega
    · refine X_chk a1 (X_rfO c3 (X_rfO c2 (X_chk a3 (X_chk (by rw [ib2]; show w < hN σ pt; omega) (X_bndE (x' := nI j) (by rw [hnk, hnw]; exact q2) (X_chk a4 (X_chk (by rw [ib1]; show s < hN σ rk; omega) (X_chk (by rw [ib2]; show w < hN σ pt; omega) (X_bndE (x' := nI j) (by rw [hnk, hnw]; exact q3) (X_bnd (X_chk (by rw [ib2]; show w < hN σ pt; omega) ?_)))))))))))
      rw [ess, ejj, hnk, hnw]; rfl
  · rw [gA_setA, if_neg (by rintro ⟨_, h⟩; omega), gA_setA, if_neg (by rintro ⟨h, _⟩; exact g1 h), gA_setA, if_neg (by rintro ⟨h, _⟩; exact g1 h), gA_setA, if_pos ⟨rfl, rfl⟩]
  · rw [gA_setA, if_neg (by rintro ⟨h, _⟩; exact g1 h.symm), gA_setA, if_pos ⟨rfl, rfl⟩]
  · rw [gA_setA, if_pos ⟨rfl, rfl⟩]
  · intro x i hx
    have n1 : ¬ (x = pt ∧ i = w) := by
      rintro ⟨h1, h2⟩
      rcases hx with hx | hx | hx
      · exact hx.1 h1
      · exact hx.2 h2
      · exact g1 (h1.symm.trans hx.1)
    have n2 : ¬ (x = rk ∧ i = s) := by
      rintro ⟨h1, h2⟩
      rcases hx with hx | hx | hx
      · exact hx.2 h1
      · exact hx.1 h2
      · exact hx.2 h2
    have n3 : ¬ (x = pt ∧ i = s) := by
      rintro ⟨h1, h2⟩
      rcases hx with hx | hx | hx
      · exact hx.1 h1
      · exact hx.1 h2
      · exact hx.2 h2
    rw [gA_setA, if_neg n1, gA_setA, if_neg n2, gA_setA, if_neg n2, gA_setA, if_neg n3]
    rfl
/-- the parts of a row of parts -/
theorem cp_f {pt rk : Nat} (h : CE σ tr ww pt rk cnt) : ∀ (f : Fo) (s w j : Nat) (A : Nat → Nat → Int32) (fu : Nat), s + siz f ≤ cnt → w < s → A pt w = nI j → j + siz f < 30000 → (∀ i (hi : i < (pre f s (nI w)).length), A ww (s + i) = (pre f s (nI w))[i].2.2.2.1) →
    ∃ A', k_TR_countParts_2 N (fu + siz f) tr (nI s) (az σ A) = k_TR_countParts_2 N fu tr (nI (s + siz f)) (az σ A') ∧ A' pt w = nI (j + nro f) ∧ (∀ i (hi : i < (rks f j).length), A' pt (s + i) = (rks f j)[i].1 ∧ A' rk (s + i) = (rks f j)[i].2) ∧ (∀ x i, ((x ≠ pt ∧ x ≠ rk) ∨ (i < s ∧ i ≠ w) ∨ s + siz f ≤ i ∨ (x = rk ∧ i < s)) → A' x i = A x i) := by
  have h' := h
  obtain ⟨a1, ⟨a2, a3, a4⟩, ⟨c1, c2, c3⟩, ⟨e1, e2, e3⟩, ⟨g1, g2, g3⟩, e4, hc⟩ := h
  intro f
  induction f with
  | leaf => intro s w j A fu h1 h2 h3 h4 h5; exact ⟨A, rfl, h3, fun i hi => by simp [rks] at hi, fun _ _ _ => rfl⟩
  | inner i0 x0 u0 c m ic im =>
    intro s w j A fu h1 h2 h3 h4 h5
    simp only [siz] at h1 h4 ⊢
    have hpl : (pre (.inner i0 x0 u0 c m) s (nI w)).length = siz c + 1 + siz m := by rw [pre_len]; rfl
    have hpc : (pre c (s + 1) (nI s)).length = siz c := pre_len _ _ _
    have hpm : (pre m (s + 1 + siz c) (nI w)).length = siz m := pre_len _ _ _
    have hw0 : A ww s = nI w := by
      have := h5 0 (by omega)
      simpa [pre] using this
    obtain ⟨A1, x1, x2, x3, x4, x5⟩ := cp_step (N := N) (fu := fu + siz m + siz c) h' (by omega) hw0 h2 h3 (by omega)
    have hwc : ∀ i (hi : i < (pre c (s + 1) (nI s)).length), A1 ww (s + 1 + i) = (pre c (s + 1) (nI s))[i].2.2.2.1 := by
      intro i hi
      have := h5 (i + 1) (by omega)
      simp only [pre, List.getElem_cons_succ] at this
      rw [List.getElem_append_left hi] at this
      rw [x5 ww _ (Or.inl ⟨g2, g3⟩), show s + 1 + i = s + (i + 1) by omega]; exact this
    obtain ⟨A2, y1, y2, y3, y4⟩ := ic (s + 1) s 0 A1 (fu + siz m) (by omega) (by omega) (by rw [x2]; rfl) (by omega) hwc
    have hwm : ∀ i (hi : i < (pre m (s + 1 + siz c) (nI w)).length), A2 ww (s + 1 + siz c + i) = (pre m (s + 1 + siz c) (nI w))[i].2.2.2.1 := by
      intro i hi
      have := h5 (siz c + 1 + i) (by omega)
      have e : siz c + 1 + i = (siz c + i) + 1 := by omega
      simp only [e, pre, List.getElem_cons_succ] at this
      rw [List.getElem_append_right (by omega)] at this
      simp only [hpc, Nat.add_sub_cancel_left] at this
      rw [y4 ww _ (Or.inl ⟨g2, g3⟩), x5 ww _ (Or.inl ⟨g2, g3⟩), show s + 1 + siz c + i = s + (siz c + i + 1) by omega]; exact this
    obtain ⟨A3, z1, z2, z3, z4⟩ := im (s + 1 + siz c) w (j + 1) A2 fu (by omega) (by omega) (by rw [y4 pt w (Or.inr (Or.inl ⟨by omega, by omega⟩))]; exact x4) (by omega) hwm
    refine ⟨A3, ?_, ?_, ?_, ?_⟩
    · rw [show fu + (siz c + 1 + siz m) = fu + siz m + siz c + 1 by omega, x1, y1, z1, show s + 1 + siz c + siz m = s + (siz c + 1 + siz m) by omega]
    · rw [z2]; simp only [nro]; congr 1; omega
    · intro i hi
      have hrc : (rks c 0).length = siz c := rks_len _ _
      have hrm : (rks m (j + 1)).length = siz m := rks_len _ _
      simp only [rks, List.length_cons, List.length_append, hrc, hrm] at hi
      cases i with
      | zero =>
        simp only [rks, Nat.add_zero, List.getElem_cons_zero]
        rw [z4 pt s (Or.inr (Or.inl ⟨by omega, by omega⟩)), z4 rk s (Or.inr (Or.inl ⟨by omega, by omega⟩)), y2, y4 rk s (Or.inr (Or.inr (Or.inr ⟨rfl, by omega⟩)))]
        exact ⟨by rw [Nat.zero_add], x3⟩
      | succ i =>
        simp only [rks, List.getElem_cons_succ]
        by_cases hic : i < siz c
        · rw [List.getElem_append_left (by omega), z4 pt _ (Or.inr (Or.inl ⟨by omega, by omega⟩)), z4 rk _ (Or.inr (Or.inl ⟨by omega, by omega⟩)), show s + (i + 1) = s + 1 + i by omega]
          exact y3 i (by omega)
        · rw [List.getElem_append_right (by omega)]
          simp only [hrc]
          rw [show s + (i + 1) = s + 1 + siz c + (i - siz c) by omega]
          exact z3 (i - siz c) (by omega)
    · intro x i hx
      rw [z4 x i (by omega), y4 x i (by omega), x5 x i (by omega)]
end LAY3
