/-! one token of the reference -/
theorem de_end {g : Nat → Nat} {e : Nat} : ∀ n i, e - i ≤ n → i ≤ e → de g e n i < e → cD (g (de g e n i)) = false := by
  intro n
  induction n with
  | zero => intro i h1 h2 h3; simp [de] at h3; omega
  | succ n ih =>
    intro i h1 h2 h3
    by_cases h : i < e ∧ cD (g i) = true
    · rw [de_y h.1 h.2] at h3 ⊢; exact ih (i + 1) (by omega) (by omega) h3
    · rw [de_n h] at h3 ⊢
      cases hc : cD (g i) with
      | true => exact absurd ⟨h3, hc⟩ h
      | false => rfl
section GTOKEN
variable {e N : Nat} {g : Nat → Nat} {S : rm_S}
theorem g_wlen {k13 : Int32 → Int32 → rm_S → Option rm_S} {i : Nat} (G : GE S e g) : ∀ n j fu, e - (i + j) ≤ n → n < fu → i + j ≤ e → k_RM_scan_66 N k13 fu (nI i) (nI j) S = calI (f_RM_wordOf N (nI i) (nI (we g e n (i + j) - i)) S) fun v21 S21 => k_RM_scan_420 N k13 (nI i) (nI (we g e n (i + j) - i)) v21 S21 := by
  have he : e ≤ 8000 := G.2.2
  intro n
  induction n with
  | zero =>
    intro j fu h1 hfu hi
    obtain ⟨fu, rfl⟩ : ∃ x, fu = x + 1 := ⟨fu - 1, by omega⟩
    have hw := g_word (N := N) (i := i + j) G (by omega)
    rw [show we g e 0 (i + j) - i = j by simp [we]]
    have hf : decide (i + j < e) = false := by simp; omega
    rw [hf] at hw
    conv => lhs; unfold k_RM_scan_66
    rw [n_add]
    exact X_I hw (X_if rfl rfl)
  | succ n ih =>
    intro j fu h1 hfu hi
    obtain ⟨fu, rfl⟩ : ∃ x, fu = x + 1 := ⟨fu - 1, by omega⟩
    have hw := g_word (N := N) (i := i + j) G (by omega)
    by_cases h : i + j < e ∧ (cL (g (i + j)) || cD (g (i + j))) = true
    · rw [we_y h.1 h.2]
      have hf : (decide (i + j < e) && (cL (g (i + j)) || cD (g (i + j)))) = true := by simp [h.1]; simpa using h.2
      rw [hf] at hw
      conv => lhs; unfold k_RM_scan_66
      rw [n_add]
      refine X_I hw (X_nif n10 ?_)
      rw [show nI j + 1 = nI (j + 1) from n_add j 1, show i + j + 1 = i + (j + 1) by omega]
      exact ih (j + 1) fu (by omega) (by omega) (by omega)
    · rw [we_n h, show i + j - i = j by omega]
      have hf : (decide (i + j < e) && (cL (g (i + j)) || cD (g (i + j)))) = false := by
        cases hx : (decide (i + j < e) && (cL (g (i + j)) || cD (g (i + j)))) with
        | false => rfl
        | true =>
          rw [Bool.and_eq_true, decide_eq_true_eq] at hx
          exact absurd hx h
      rw [hf] at hw
      conv => lhs; unfold k_RM_scan_66
      rw [n_add]
      exact X_I hw (X_if rfl rfl)
theorem g_dlen {k13 : Int32 → Int32 → rm_S → Option rm_S} {i : Nat} (G : GE S e g) : ∀ n j fu, e - (i + j) ≤ n → n < fu → i + j ≤ e → k_RM_scan_101 N k13 fu (nI i) (nI j) S = k_RM_scan_131 N k13 (nI i) (nI (de g e n (i + j) - i)) S := by
  obtain ⟨k1, k2, k3⟩ := G
  intro n
  induction n with
  | zero =>
    intro j fu h1 hfu hi
    obtain ⟨fu, rfl⟩ : ∃ x, fu = x + 1 := ⟨fu - 1, by omega⟩
    rw [show de g e 0 (i + j) - i = j by simp [de]]
    conv => lhs; unfold k_RM_scan_101
    rw [n_add]
    exact X_if (by rw [k1, n_le (by omega) (by omega)]; omega) rfl
  | succ n ih =>
    intro j fu h1 hfu hi
    obtain ⟨fu, rfl⟩ : ∃ x, fu = x + 1 := ⟨fu - 1, by omega⟩
    by_cases hie : i + j < e
    · obtain ⟨q1, q2⟩ := k2 (i + j) hie
      conv => lhs; unfold k_RM_scan_101
      rw [n_add]
      refine X_nif (by rw [k1, n_le (by omega) (by omega)]; omega) (X_chk (by rw [n_ib (by omega)]; omega) (X_P (a := b01 (cD (g (i + j)))) (by rw [n_nat (by omega), q1]; exact rhD q2) ?_))
      by_cases hd : cD (g (i + j)) = true
      · rw [de_y hie hd]
        refine X_nif (by rw [b01_0, hd]; simp) ?_
        rw [show nI j + 1 = nI (j + 1) from n_add j 1, show i + j + 1 = i + (j + 1) by omega]
        exact ih (j + 1) fu (by omega) (by omega) (by omega)
      · rw [de_n (fun h => hd h.2), show i + j - i = j by omega]
        exact X_if (by rw [b01_0]; simpa using hd) rfl
    · rw [de_n (fun h => hie h.1), show i + j - i = j by omega]
      conv => lhs; unfold k_RM_scan_101
      rw [n_add]
      exact X_if (by rw [k1, n_le (by omega) (by omega)]; omega) rfl
theorem g_isNum {i l : Nat} (G : GE S e g) (hN : 20000 ≤ N) (hi : i < e) (hd : cD (g i) = true) (el : l = de g e (e - i) i - i) : (nbad g e i (i + l) → f_RM_isNumber N (nI i) (nI l) S = some (0, S)) ∧ (¬ nbad g e i (i + l) → f_RM_isNumber N (nI i) (nI l) S = some (1, S)) := by
  have G' := G
  obtain ⟨k1, k2, k3⟩ := G
  have hr := de_range g e (e - i) i (by omega)
  have hl0 : 0 < l := by
    have : de g e (e - i) i = de g e (e - (i + 1)) (i + 1) := by
      rw [show e - i = (e - (i + 1)) + 1 by omega, de_y hi hd]
    have h2 := de_range g e (e - (i + 1)) (i + 1) (by omega)
    omega
  have hend : i + l < e → cD (g (i + l)) = false := by
    intro h
    have := de_end (g := g) (e - i) i (Nat.le_refl _) (by omega) (by omega)
    rw [show de g e (e - i) i = i + l by omega] at this; exact this
  obtain ⟨v, v1, v2, v3⟩ := g_num (N := N) (i := i) (l := l) G' (by omega) (fun x hx => de_in (g := g) (e := e) (e - i) i (i + x) (by omega) (by omega)) l 0 N (by omega) (by omega) (by omega) (Or.inl rfl)
  have e0 : f_RM_isNumber N (nI i) (nI l) S = k_RM_isNumber_46 N (nI i) (nI l) (nL v) S := v3
  rw [e0]
  have hgt : (0 < lg_cmp (nL v) (2147483647 : Int64)) = (2147483647 < v) := lg_gt (b := 2147483647) (by omega) (by omega)
  have hw := g_word (N := N) (i := i + l) G' (by omega)
  have hwv : (decide (i + l < e) && (cL (g (i + l)) || cD (g (i + l)))) = decide (i + l < e ∧ cL (g (i + l)) = true) := by
    by_cases h : i + l < e
    · rw [hend h]; cases hc : cL (g (i + l)) <;> simp [h]
    · simp [h]
  rw [hwv] at hw
  obtain ⟨q1, q2⟩ := k2 i hi
  have hbig : (2147483648 ≤ dg g i l) ↔ ¬ v ≤ 2147483647 := by rw [v1]; omega
  have h70 : ∀ y, (if decide (i + l < e ∧ cL (g (i + l)) = true) = true then some ((0 : Int32), S) else some (1, S)) = y → k_RM_isNumber_70 N (nI i) (nI l) S = y := by
    intro y hy
    unfold k_RM_isNumber_70
    rw [n_add]
    refine X_I hw ?_
    cases hx : decide (i + l < e ∧ cL (g (i + l)) = true) with
    | true => rw [hx] at hy; exact X_nif n10 hy
    | false => rw [hx] at hy; exact X_if rfl hy
  unfold k_RM_isNumber_46
  refine ⟨fun hb => ?_, fun hb => ?_⟩
  · by_cases hg : 2147483648 ≤ dg g i l
    · exact X_if (by rw [hgt]; have := hbig.mp hg; omega) rfl
    · have hv : v ≤ 2147483647 := by
        rcases Nat.lt_or_ge 2147483647 v with h | h
        · exact absurd (hbig.mpr (by omega)) hg
        · exact h
      refine X_nif (by rw [hgt]; omega) ?_
      rcases hb with hb | hb | hb
      · rw [show i + l - i = l by omega] at hb; exact absurd hb hg
      · refine X_nif (by show ¬ nI l = nI 1; rw [n_eq (by omega) (by omega)]; omega) (X_chk (by rw [n_ib (by omega)]; omega) (X_if (by rw [n_nat (by omega), q1, hb.1]; rfl) rfl))
      · have hx : decide (i + l < e ∧ cL (g (i + l)) = true) = true := by simp [hb.1, hb.2]
        by_cases h1 : l = 1
        · exact X_if (by rw [h1]; rfl) (h70 _ (by rw [if_pos hx]))
        · refine X_nif (by show ¬ nI l = nI 1; rw [n_eq (by omega) (by omega)]; exact h1) (X_chk (by rw [n_ib (by omega)]; omega) ?_)
          by_cases h48 : g i = 48
          · exact X_if (by rw [n_nat (by omega), q1, h48]; rfl) rfl
          · exact X_nif (by rw [n_nat (by omega), q1]; show ¬ nI (g i) = nI 48; rw [n_eq (by omega) (by omega)]; exact h48) (h70 _ (by rw [if_pos hx]))
  · have hg : ¬ 2147483648 ≤ dg g i l := fun h => hb (Or.inl (by rw [show i + l - i = l by omega]; exact h))
    have hv : v ≤ 2147483647 := by
      rcases Nat.lt_or_ge 2147483647 v with h | h
      · exact absurd (hbig.mpr (by omega)) hg
      · exact h
    have hx : ¬ decide (i + l < e ∧ cL (g (i + l)) = true) = true := by
      rw [decide_eq_true_eq]; exact fun h => hb (Or.inr (Or.inr h))
    refine X_nif (by rw [hgt]; omega) ?_
    by_cases h1 : l = 1
    · exact X_if (by rw [h1]; rfl) (h70 _ (by rw [if_neg hx]))
    · have h48 : ¬ g i = 48 := fun h => hb (Or.inr (Or.inl ⟨h, by omega⟩))
      exact X_nif (by show ¬ nI l = nI 1; rw [n_eq (by omega) (by omega)]; exact h1) (X_chk (by rw [n_ib (by omega)]; omega) (X_nif (by rw [n_nat (by omega), q1]; show ¬ nI (g i) = nI 48; rw [n_eq (by omega) (by omega)]; exact h48) (h70 _ (by rw [if_neg hx]))))
end GTOKEN
