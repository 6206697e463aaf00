/-! what the scans give the parsers -/
def tkF (T : List T4) (j : Nat) : Nat := (T.getD j (0, 0, 0, 0)).1
def tpF (T : List T4) (j : Nat) : Nat := (T.getD j (0, 0, 0, 0)).2.1
def lnF (T : List T4) (j : Nat) : Nat := (T.getD j (0, 0, 0, 0)).2.2.1
def tvF (T : List T4) (j : Nat) : Int32 := nI (T.getD j (0, 0, 0, 0)).2.2.2
theorem getD_in {T : List T4} {j : Nat} (h : j < T.length) : T.getD j (0, 0, 0, 0) = T[j] := by simp [List.getD, h]
theorem n_one {a : Nat} (ha : a < 2147483648) : 1 * nI a ≠ -2147483648 := by
  rw [Int32.one_mul]
  intro h
  have h2 := congrArg Int32.toInt h
  rw [n_toInt ha] at h2
  have : (-2147483648 : Int32).toInt = -2147483648 := by decide
  omega
theorem n_mone {a : Nat} (ha : a < 2147483648) : -1 * nI a ≠ -2147483648 := by
  intro h
  have h2 := congrArg Int32.toInt h
  rw [Int32.neg_mul, Int32.one_mul, Int32.toInt_neg, n_toInt ha, Int.bmod_eq_of_le (by omega) (by omega)] at h2
  have : (-2147483648 : Int32).toInt = -2147483648 := by decide
  omega
theorem RP_of {S : rm_S} {e n j : Nat} {g : Nat → Nat} {T : List T4} {U : List T4} (G : GE S e g) (hU : rT S U) (hj : j < U.length) (hjT : j < T.length) (hTU : T[j] = U[j]) (hok : tokOK g e U[j] ∨ (U[j].1 ≠ 3 ∧ U[j].2.1 + U[j].2.2.1 ≤ e)) : S.2 4 j = kap (tkF T j) ∧ S.2 5 j = nI (tpF T j) ∧ S.2 6 j = nI (lnF T j) ∧ tpF T j + lnF T j ≤ 8000 ∧ (tkF T j = 3 → numv (S.2 1) (tpF T j) (lnF T j) = tvF T j ∧ 1 * tvF T j ≠ -2147483648 ∧ -1 * tvF T j ≠ -2147483648) := by
  have hA := hU.2 j hj
  have he : e ≤ 8000 := G.2.2
  simp only [tkF, tpF, lnF, tvF, getD_in hjT, hTU]
  refine ⟨hA.1, hA.2.1, hA.2.2, ?_, fun h3 => ?_⟩
  · rcases hok with h | h
    · have := h.2.1; omega
    · omega
  · rcases hok with h | h
    · obtain ⟨q1, q2, q3⟩ := h.2.2.1 h3
      have hle := h.2.1
      refine ⟨?_, n_one q2, n_mone q2⟩
      rw [q1]
      exact numv_dg _ (fun x hx => ⟨(G.2.1 _ (by omega)).1, q3 x hx⟩)
    · exact absurd h3 h.1
theorem fin_RP {J : Nat → List T4 → Prop} {g : Nat → Nat} {e : Nat} {T' : List T4} {S' : rm_S} (h : finT J g e T' S') (G : GE S' e g) : RP S' T'.length (tkF T') (tpF T') (lnF T') (tvF T') ∧ T'.length ≤ e + 1 ∧ 0 < T'.length ∧ (∀ i, i < T'.length → tkF T' i < 35) ∧ (∀ i, i < T'.length → tkF T' i ≠ 0 → i + 1 < T'.length) ∧ (∀ i, i < T'.length → gd (tkF T') i → tkF T' i = 2 → we g e (e - tpF T' i) (tpF T' i) = tpF T' i + lnF T' i ∧ lnF T' i ≤ 30 ∧ tpF T' i < e) := by
  obtain ⟨T0, -, hall, hcase⟩ := h
  have hal : ∀ j (hj : j < T0.length), T0[j].1 ≠ 0 ∧ T0[j].1 ≠ 1 ∧ tokOK g e T0[j] := fun j hj => hall _ (List.getElem_mem hj)
  rcases hcase with ⟨rfl, hr, hlen⟩ | ⟨i0, l0, rfl, hil, hlen, hr⟩
  · have hn : (T0 ++ [(0, e, 0, 0)]).length = T0.length + 1 := by simp
    have hg1 : ∀ j (hj : j < T0.length), (T0 ++ [((0, e, 0, 0) : T4)])[j]'(by rw [hn]; omega) = T0[j] := fun j hj => List.getElem_append_left hj
    have hg2 : (T0 ++ [((0, e, 0, 0) : T4)])[T0.length]'(by rw [hn]; omega) = (0, e, 0, 0) := by simp
    refine ⟨fun j hj _ => ?_, by omega, by omega, fun j hj => ?_, fun j hj h0 => ?_, fun j hj _ h2 => ?_⟩
    · refine RP_of (n := 0) G hr hj hj rfl ?_
      by_cases e1 : j < T0.length
      · left; rw [hg1 j e1]; exact (hal j e1).2.2
      · have : j = T0.length := by omega
        subst this
        right; rw [hg2]; exact ⟨by simp, by simp⟩
    · simp only [tkF, getD_in hj]
      by_cases e1 : j < T0.length
      · rw [hg1 j e1]; exact (hal j e1).2.2.1
      · have : j = T0.length := by omega
        subst this
        rw [hg2]; simp
    · by_cases e1 : j < T0.length
      · omega
      · have : j = T0.length := by omega
        subst this
        simp only [tkF, getD_in hj, hg2] at h0
        exact absurd rfl h0
    · by_cases e1 : j < T0.length
      · simp only [tkF, tpF, lnF, getD_in hj, hg1 j e1] at h2 ⊢
        have := (hal j e1).2.2.2.2.2 h2
        exact ⟨this.1, this.2.2.2, this.2.2.1⟩
      · have : j = T0.length := by omega
        subst this
        simp only [tkF, getD_in hj, hg2] at h2
        cases h2
  · have hn : (T0 ++ [((1, i0, l0, 0) : T4), (0, e, 0, 0)]).length = T0.length + 2 := by simp
    have hg1 : ∀ j (hj : j < T0.length), (T0 ++ [((1, i0, l0, 0) : T4), (0, e, 0, 0)])[j]'(by rw [hn]; omega) = T0[j] := fun j hj => List.getElem_append_left hj
    have hg2 : (T0 ++ [((1, i0, l0, 0) : T4), (0, e, 0, 0)])[T0.length]'(by rw [hn]; omega) = (1, i0, l0, 0) := by simp
    have hg3 : (T0 ++ [((1, i0, l0, 0) : T4), (0, e, 0, 0)])[T0.length + 1]'(by rw [hn]; omega) = (0, e, 0, 0) := by simp
    have hu : (T0 ++ [((1, i0, l0, 0) : T4)]).length = T0.length + 1 := by simp
    have hu1 : ∀ j (hj : j < T0.length), (T0 ++ [((1, i0, l0, 0) : T4)])[j]'(by rw [hu]; omega) = T0[j] := fun j hj => List.getElem_append_left hj
    have hu2 : (T0 ++ [((1, i0, l0, 0) : T4)])[T0.length]'(by rw [hu]; omega) = (1, i0, l0, 0) := by simp
    have hbad : tkF (T0 ++ [((1, i0, l0, 0) : T4), (0, e, 0, 0)]) T0.length = 1 := by
      simp only [tkF, getD_in (show T0.length < (T0 ++ [((1, i0, l0, 0) : T4), (0, e, 0, 0)]).length by omega), hg2]
    refine ⟨fun j hj hgd => ?_, by omega, by omega, fun j hj => ?_, fun j hj h0 => ?_, fun j hj hgd h2 => ?_⟩
    · have hjl : j < T0.length + 1 := by
        by_cases e1 : j < T0.length + 1
        · exact e1
        · exact absurd hbad (hgd T0.length (by omega)).2
      by_cases e1 : j < T0.length
      · refine RP_of (n := 0) G hr (by omega) hj (by rw [hg1 j e1, hu1 j e1]) ?_
        left; rw [hu1 j e1]; exact (hal j e1).2.2
      · have : j = T0.length := by omega
        subst this
        refine RP_of (n := 0) G hr (by omega) hj (by rw [hg2, hu2]) ?_
        right; rw [hu2]; exact ⟨by simp, hil⟩
    · simp only [tkF, getD_in hj]
      by_cases e1 : j < T0.length
      · rw [hg1 j e1]; exact (hal j e1).2.2.1
      · by_cases e2 : j = T0.length
        · subst e2; rw [hg2]; simp
        · have : j = T0.length + 1 := by omega
          subst this
          rw [hg3]; simp
    · by_cases e1 : j < T0.length + 1
      · omega
      · have : j = T0.length + 1 := by omega
        subst this
        simp only [tkF, getD_in hj, hg3] at h0
        exact absurd rfl h0
    · by_cases e1 : j < T0.length
      · simp only [tkF, tpF, lnF, getD_in hj, hg1 j e1] at h2 ⊢
        have := (hal j e1).2.2.2.2.2 h2
        exact ⟨this.1, this.2.2.2, this.2.2.1⟩
      · by_cases e2 : j = T0.length
        · subst e2; rw [hbad] at h2; cases h2
        · have : j = T0.length + 1 := by omega
          subst this
          simp only [tkF, getD_in hj, hg3] at h2
          cases h2
