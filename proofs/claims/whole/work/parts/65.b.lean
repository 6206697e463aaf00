/-! the class's names: looking one up -/
def NE (τ : mh_H) (na sp sb stp nxt hd R : Nat) (nt : List (List Int32)) : Prop :=
  (hT τ na = 5 ∧ hT τ sp = 1 ∧ hT τ sb = 4) ∧ (hT τ stp = 2 ∧ hT τ nxt = 2 ∧ hT τ hd = 2) ∧ (hR τ 2 1 na = some sp ∧ hR τ 2 2 na = some stp ∧ hR τ 2 3 na = some nxt ∧ hR τ 2 4 na = some hd ∧ hR τ 0 0 sp = some sb) ∧ (hN τ stp = R ∧ hN τ nxt = R ∧ hN τ hd = R) ∧ (hI τ 2 0 na = nI nt.length ∧ hI τ 0 1 sp = nI (st nt nt.length)) ∧ (nt.length ≤ R ∧ 0 < R ∧ R < 20000 ∧ st nt nt.length ≤ hN τ sb ∧ st nt nt.length ≤ 12000) ∧ (∀ k, k < nt.length → hA τ stp k = nI (st nt (k + 1))) ∧ (∀ k (hk : k < nt.length), ∀ i (hi : i < nt[k].length), hA τ sb (st nt k + i) = nt[k][i])
def ChL (X : Nat → Int32) : List Nat → Int32 → Prop
  | [], v => v = -1
  | a :: r, v => v = nI a ∧ ChL X r (X a)
section NAMES2
variable {τ : mh_H} {na sp sb stp nxt hd R tb N : Nat} {nt : List (List Int32)}
theorem n_start {k : Nat} (E : NE τ na sp sb stp nxt hd R nt) (hk : k ≤ nt.length) : f_NA_start N na (nI k) τ = some (nI (st nt k), τ) := by
  obtain ⟨⟨a1, a2, a3⟩, ⟨a4, a5, a6⟩, ⟨c1, c2, c3, c4, c5⟩, ⟨e1, e2, e3⟩, ⟨f1, f2⟩, ⟨g1, g2, g3, g4, g5⟩, hs, hl⟩ := E
  unfold f_NA_start
  by_cases h0 : k = 0
  · subst h0
    rw [st_zero]
    exact X_if rfl rfl
  · have e0 : nI k - 1 = nI (k - 1) := n_sub (b := 1) (by omega)
    refine X_nif (by show ¬ nI k = nI 0; rw [n_eq (by omega) (by omega)]; exact h0) (X_chk a1 (X_rfO c2 (X_chk a4 (X_chk (by rw [e0, n_ib (by omega)]; omega) ?_))))
    rw [e0, n_nat (by omega), hs (k - 1) (by omega), show k - 1 + 1 = k by omega]
theorem n_spelt {k p l : Nat} (E : NE τ na sp sb stp nxt hd R nt) (hk : k < nt.length) (hl : nt[k].length = l) (at4 : hT τ tb = 4) (hpl : p + l ≤ hN τ tb) (hpl2 : p + l < 20000) : ∀ m j fu, l - j ≤ m → m < fu → j ≤ l → (∀ x (hx : x < nt[k].length), x < j → nt[k][x] = hA τ tb (p + x)) → k_NA_isSpelt_28 N fu na tb (nI p) (nI (p + l)) (nI (st nt k)) (nI j) τ = some (b01 (decide (nt[k] = wd (hA τ tb) p l)), τ) := by
  obtain ⟨⟨a1, a2, a3⟩, ⟨a4, a5, a6⟩, ⟨c1, c2, c3, c4, c5⟩, ⟨e1, e2, e3⟩, ⟨f1, f2⟩, ⟨g1, g2, g3, g4, g5⟩, hs, hlt⟩ := E
  have hst : st nt k + l ≤ st nt nt.length := by
    have h1 := st_succ nt k hk
    have h2 := st_mono nt (show k + 1 ≤ nt.length by omega) (Nat.le_refl _)
    omega
  have el : nI (p + l) - nI p = nI l := by rw [n_sub (by omega)]; congr 1; omega
  have fin : ∀ fu, (∀ x (hx : x < nt[k].length), nt[k][x] = hA τ tb (p + x)) → k_NA_isSpelt_28 N (fu + 1) na tb (nI p) (nI (p + l)) (nI (st nt k)) (nI l) τ = some (b01 (decide (nt[k] = wd (hA τ tb) p l)), τ) := by
    intro fu hx
    rw [decide_eq_true (wd_eq hl hx)]
    unfold k_NA_isSpelt_28
    exact X_if (by rw [el, n_le (by omega) (by omega)]; exact Nat.le_refl _) rfl
  intro m
  induction m with
  | zero =>
    intro j fu h1 hfu hj hx
    obtain ⟨fu, rfl⟩ : ∃ x, fu = x + 1 := ⟨fu - 1, by omega⟩
    have ej : j = l := by omega
    rw [ej]
    exact fin fu (fun x hx' => hx x hx' (by omega))
  | succ m ih =>
    intro j fu h1 hfu hj hx
    obtain ⟨fu, rfl⟩ : ∃ x, fu = x + 1 := ⟨fu - 1, by omega⟩
    by_cases ej : j = l
    · rw [ej]
      exact fin fu (fun x hx' => hx x hx' (by omega))
    · have hjl : j < nt[k].length := by omega
      have q1 := hlt k hk j hjl
      have e4 : nI (st nt k) + nI j = nI (st nt k + j) := n_add _ _
      have e5 : nI p + nI j = nI (p + j) := n_add _ _
      unfold k_NA_isSpelt_28
      refine X_nif (by rw [el, n_le (by omega) (by omega)]; omega) (X_chk a1 (X_rfO c1 (X_chk a2 (X_rfO c5 (X_chk a3 (X_chk (by rw [e4, n_ib (by omega)]; omega) (X_chk at4 (X_chk (by rw [e5, n_ib (by omega)]; omega) ?_))))))))
      by_cases hc : nt[k][j] = hA τ tb (p + j)
      · refine X_if (by rw [e4, e5, n_nat (by omega), n_nat (by omega), q1]; exact hc) ?_
        rw [show nI j + 1 = nI (j + 1) from n_add j 1]
        exact ih (j + 1) fu (by omega) (by omega) (by omega) (fun x hx' hx'' => by
          by_cases ex : x = j
          · subst ex; exact hc
          · exact hx x hx' (by omega))
      · refine X_nif (by rw [e4, e5, n_nat (by omega), n_nat (by omega), q1]; exact hc) ?_
        have hne : ¬ nt[k] = wd (hA τ tb) p l := by
          intro e'
          apply hc
          have hx2 : j < (wd (hA τ tb) p l).length := by rw [wd_len]; omega
          have : nt[k][j] = (wd (hA τ tb) p l)[j]'hx2 := by simp only [e']
          rw [this, wd_get]
        rw [decide_eq_false hne]; rfl
theorem n_isSpelt {k p l : Nat} (E : NE τ na sp sb stp nxt hd R nt) (hNN : 40000 ≤ N) (hk : k < nt.length) (at4 : hT τ tb = 4) (hpl : p + l ≤ hN τ tb) (hpl2 : p + l < 20000) : f_NA_isSpelt N na (nI k) tb (nI p) (nI (p + l)) τ = some (b01 (decide (nt[k] = wd (hA τ tb) p l)), τ) := by
  have E' := E
  have hs0 := n_start (N := N) (k := k) E' (by omega)
  obtain ⟨⟨a1, a2, a3⟩, ⟨a4, a5, a6⟩, ⟨c1, c2, c3, c4, c5⟩, ⟨e1, e2, e3⟩, ⟨f1, f2⟩, ⟨g1, g2, g3, g4, g5⟩, hs, hlt⟩ := E
  have h1 := st_succ nt k hk
  have h2 := st_mono nt (show k + 1 ≤ nt.length by omega) (Nat.le_refl _)
  have el : nI (p + l) - nI p = nI l := by rw [n_sub (by omega)]; congr 1; omega
  have ek : nI (st nt (k + 1)) - nI (st nt k) = nI nt[k].length := by rw [h1, n_sub (by omega)]; congr 1; omega
  unfold f_NA_isSpelt
  refine X_chk a1 (X_I hs0 (X_chk a1 (X_rfO c2 (X_chk a4 (X_chk (by rw [n_ib (by omega)]; omega) ?_)))))
  by_cases hl : nt[k].length = l
  · refine X_if (by rw [n_nat (by omega), hs k hk, ek, el, hl]) ?_
    exact n_spelt E' hk hl at4 hpl hpl2 l 0 N (by omega) (by omega) (by omega) (fun x _ hx => by omega)
  · refine X_nif (by rw [n_nat (by omega), hs k hk, ek, el, n_eq (by omega) (by omega)]; exact hl) ?_
    rw [decide_eq_false (fun h => hl (by rw [h, wd_len]))]; rfl
theorem n_search {p l : Nat} (E : NE τ na sp sb stp nxt hd R nt) (hNN : 40000 ≤ N) (at4 : hT τ tb = 4) (hpl : p + l ≤ hN τ tb) (hpl2 : p + l < 20000) : ∀ (cl : List Nat) v fu j, ChL (hA τ nxt) cl v → (∀ a ∈ cl, a < nt.length) → cl.length < fu → cl.length + j ≤ nt.length →
    (∃ a, ∃ (ha : a < nt.length), a ∈ cl ∧ nt[a] = wd (hA τ tb) p l ∧ k_NA_numberOf_17 N fu na tb (nI p) (nI (p + l)) v (nI j) τ = some ((nI a, τ), 0, 0)) ∨
    ((∀ a (ha : a < nt.length), a ∈ cl → ¬ nt[a] = wd (hA τ tb) p l) ∧ k_NA_numberOf_17 N fu na tb (nI p) (nI (p + l)) v (nI j) τ = calAI (f_NA_add N na tb (nI p) (nI (p + l)) τ) fun v8 s8 => some ((v8, s8), 0, 0)) := by
  have E' := E
  obtain ⟨⟨a1, a2, a3⟩, ⟨a4, a5, a6⟩, ⟨c1, c2, c3, c4, c5⟩, ⟨e1, e2, e3⟩, ⟨f1, f2⟩, ⟨g1, g2, g3, g4, g5⟩, hs, hlt⟩ := E
  have hcnt : ∀ j, j ≤ nt.length → (hI τ 2 0 na ≤ nI j) = (nt.length ≤ j) := fun j hj => by rw [f1, n_le (by omega) (by omega)]
  intro cl
  induction cl with
  | nil =>
    intro v fu j hC _ hfu hj
    obtain ⟨fu, rfl⟩ : ∃ x, fu = x + 1 := ⟨fu - 1, by omega⟩
    have hv : v = -1 := hC
    subst hv
    right
    refine ⟨fun a _ ha => absurd ha (by simp), ?_⟩
    unfold k_NA_numberOf_17
    have hj' : j ≤ nt.length := by simpa using hj
    by_cases hjn : nt.length ≤ j
    · exact X_chk a1 (X_if (by rw [hcnt j hj']; exact hjn) rfl)
    · exact X_chk a1 (X_nif (by rw [hcnt j hj']; exact hjn) (X_if rfl rfl))
  | cons a r ih =>
    intro v fu j hC hall hfu hj
    obtain ⟨fu, rfl⟩ : ∃ x, fu = x + 1 := ⟨fu - 1, by omega⟩
    obtain ⟨rfl, hC'⟩ := hC
    simp only [List.length_cons] at hfu hj
    have ha := hall a (by simp)
    have hsp := n_isSpelt (N := N) (p := p) (l := l) E' hNN ha at4 hpl hpl2
    have hjn : ¬ hI τ 2 0 na ≤ nI j := by rw [hcnt j (by omega)]; omega
    have hne : ¬ nI a = -1 := by
      intro e
      have : (nI a = -nI 1) = False := n_m1 (by omega)
      exact this.mp e
    by_cases hc : nt[a] = wd (hA τ tb) p l
    · left
      refine ⟨a, ha, by simp, hc, ?_⟩
      rw [decide_eq_true hc] at hsp
      unfold k_NA_numberOf_17
      exact X_chk a1 (X_nif hjn (X_nif hne (X_I hsp (X_nif n10 rfl))))
    · rw [decide_eq_false hc] at hsp
      have step : k_NA_numberOf_17 N (fu + 1) na tb (nI p) (nI (p + l)) (nI a) (nI j) τ = k_NA_numberOf_17 N fu na tb (nI p) (nI (p + l)) (hA τ nxt a) (nI (j + 1)) τ := by
        conv => lhs; unfold k_NA_numberOf_17
        refine X_chk a1 (X_nif hjn (X_nif hne (X_I hsp (X_if rfl (X_chk a1 (X_rfO c3 (X_chk a5 (X_chk (by rw [n_ib (by omega)]; omega) (X_bnd ?_)))))))))
        rw [n_nat (by omega), show nI j + 1 = nI (j + 1) from n_add j 1]
      rw [step]
      rcases ih (hA τ nxt a) fu (j + 1) hC' (fun b hb => hall b (by simp [hb])) (by omega) (by omega) with ⟨b, hb, h1, h2, h3⟩ | ⟨h1, h2⟩
      · exact Or.inl ⟨b, hb, by simp [h1], h2, h3⟩
      · refine Or.inr ⟨fun b hb hm => ?_, h2⟩
        rcases List.mem_cons.mp hm with rfl | hm
        · exact hc
        · exact h1 b hb hm
end NAMES2
