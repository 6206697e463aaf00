/-! numbers of both -/
def nL (n : Nat) : Int64 := Int64.ofNat n
theorem l_lit (k : Nat) : (OfNat.ofNat k : Int64) = nL k := rfl
theorem l_add (a b : Nat) : nL a + nL b = nL (a + b) := by simp [nL, Int64.ofNat_add]
theorem l_mul (a b : Nat) : nL a * nL b = nL (a * b) := by simp [nL, Int64.ofNat_mul]
theorem l_toInt {a : Nat} (ha : a < 9223372036854775808) : (nL a).toInt = a := Int64.toInt_ofNat_of_lt ha
theorem l_lt {a b : Nat} (ha : a < 9223372036854775808) (hb : b < 9223372036854775808) : (nL a < nL b) = (a < b) := by
  rw [Int64.lt_iff_toInt_lt, l_toInt ha, l_toInt hb]; simp
theorem l_eq {a b : Nat} (ha : a < 9223372036854775808) (hb : b < 9223372036854775808) : (nL a = nL b) = (a = b) := by
  rw [← Int64.toInt_inj, l_toInt ha, l_toInt hb]; apply propext; omega
theorem l_sub {a b : Nat} (h : b ≤ a) : nL a - nL b = nL (a - b) := by
  have e : nL a = nL (a - b) + nL b := by rw [l_add]; congr 1; omega
  rw [e]; exact Int64.add_sub_cancel _ _
theorem l_of {a : Nat} (ha : a < 2147483648) : Int32.toInt64 (nI a) = nL a := by
  rw [← Int64.toInt_inj, Int32.toInt_toInt64, n_toInt ha, l_toInt (by omega)]
theorem l_to {a : Nat} (ha : a < 2147483648) : Int64.toInt32 (nL a) = nI a := by
  rw [← l_of ha]; exact Int32.toInt32_toInt64 _
theorem lg_val {a b : Nat} (ha : a < 9223372036854775808) (hb : b < 9223372036854775808) : lg_cmp (nL a) (nL b) = if b < a then 1 else if a = b then 0 else -1 := by
  have h1 : (nL a > nL b) = (b < a) := l_lt hb ha
  have h2 : (nL a = nL b) = (a = b) := l_eq ha hb
  unfold lg_cmp
  simp only [h1, h2]
theorem lg_gt {a b : Nat} (ha : a < 9223372036854775808) (hb : b < 9223372036854775808) : (0 < lg_cmp (nL a) (nL b)) = (b < a) := by
  rw [lg_val ha hb]
  by_cases h1 : b < a
  · simp only [h1, if_true]; decide
  · by_cases h2 : a = b
    · simp only [h1, h2, if_true, if_false]; simp
    · simp only [h1, h2, if_false]; decide
theorem lg_ge {a b : Nat} (ha : a < 9223372036854775808) (hb : b < 9223372036854775808) : (0 ≤ lg_cmp (nL a) (nL b)) = (b ≤ a) := by
  rw [lg_val ha hb]
  by_cases h1 : b < a
  · have : b ≤ a := by omega
    simp only [h1, this, if_true]; decide
  · by_cases h2 : a = b
    · have : b ≤ a := by omega
      simp only [h1, this, if_false]; rw [if_pos h2]; decide
    · have : ¬ b ≤ a := by omega
      simp only [h1, h2, this, if_false]; decide
/-- what the digits say -/
def dg (g : Nat → Nat) (i : Nat) : Nat → Nat
  | 0 => 0
  | j + 1 => 10 * dg g i j + (g (i + j) - 48)
theorem dg_mono {g : Nat → Nat} {i j k : Nat} (h : j ≤ k) : dg g i j ≤ dg g i k := by
  induction k with
  | zero => have : j = 0 := by omega
            subst this; exact Nat.le_refl _
  | succ k ih =>
    by_cases e : j = k + 1
    · subst e; exact Nat.le_refl _
    · have := ih (by omega); simp only [dg]; omega
theorem cD_rng {c : Nat} (h : cD c = true) : 48 ≤ c ∧ c ≤ 57 := by
  simp only [cD, Bool.and_eq_true, decide_eq_true_eq] at h; exact h
theorem numv_dg {S : rm_S} {g : Nat → Nat} {i : Nat} : ∀ l, (∀ j, j < l → S.2 1 (i + j) = nI (g (i + j)) ∧ cD (g (i + j)) = true) → numv (S.2 1) i l = nI (dg g i l) := by
  intro l
  induction l with
  | zero => intro _; rfl
  | succ l ih =>
    intro h
    have ih' := ih (fun j hj => h j (by omega))
    obtain ⟨h1, h2⟩ := h l (by omega)
    have hr := cD_rng h2
    have e : numv (S.2 1) i (l + 1) = 10 * numv (S.2 1) i l + S.2 1 (i + l) - 48 := by
      simp only [numv, List.range_succ, List.foldl_append, List.foldl_cons, List.foldl_nil]
    rw [e, ih', h1]
    show nI 10 * nI (dg g i l) + nI (g (i + l)) - nI 48 = _
    rw [n_mul, n_add, n_sub (by omega)]
    simp only [dg]; congr 1; omega
section NUMS
variable {τ : mh_H} {tt bt e N : Nat} {g : Nat → Nat} {S : rm_S}
/-- the class's digits; its number stops growing at 2147483648 -/
theorem k_digits {i : Nat} (K : KE τ tt bt e g) : ∀ n j fu, e - (i + j) ≤ n → n < fu → i + j ≤ e → (∀ x, x < j → cD (g (i + x)) = true) → k_TO_takeNumber_5 N fu tt (nI i) (nL (min 2147483648 (dg g i j))) (nI (i + j)) τ = k_TO_takeNumber_58 N tt (nI i) (nL (min 2147483648 (dg g i (de g e n (i + j) - i)))) (nI (de g e n (i + j))) τ := by
  obtain ⟨k1, k2, k3, k4, k5, k6, k7⟩ := K
  intro n
  induction n with
  | zero =>
    intro j fu h1 hfu hi hx
    obtain ⟨fu, rfl⟩ : ∃ x, fu = x + 1 := ⟨fu - 1, by omega⟩
    have e1 : de g e 0 (i + j) = i + j := rfl
    rw [e1, show i + j - i = j by omega]
    unfold k_TO_takeNumber_5
    exact X_chk k1 (X_if (by rw [k4, n_le (by omega) (by omega)]; omega) rfl)
  | succ n ih =>
    intro j fu h1 hfu hi hx
    obtain ⟨fu, rfl⟩ : ∃ x, fu = x + 1 := ⟨fu - 1, by omega⟩
    by_cases hie : i + j < e
    · obtain ⟨q1, q2⟩ := k6 (i + j) hie
      have hni : (nI (i + j)).toNatClampNeg = i + j := n_nat (by omega)
      have hib : ib (nI (i + j)) (hN τ bt) := by rw [n_ib (by omega)]; omega
      unfold k_TO_takeNumber_5
      refine X_chk k1 (X_nif (by rw [k4, n_le (by omega) (by omega)]; omega) (X_rfO k2 (X_chk k3 (X_chk hib (X_P (a := b01 (cD (g (i + j)))) (by rw [hni, q1]; exact chD q2) ?_)))))
      by_cases hd : cD (g (i + j)) = true
      · have hr := cD_rng hd
        rw [de_y hie hd]
        have hsx : sx (g (i + j)) = nI (g (i + j)) := by rw [sx, if_pos (by omega)]
        have hmin : f_MA_minJ N 2147483648 (10 * nL (min 2147483648 (dg g i j)) + Int32.toInt64 (hA τ bt (nI (i + j)).toNatClampNeg) - 48) = some (nL (min 2147483648 (dg g i (j + 1)))) := by
          rw [hni, q1, hsx, l_of (by omega)]
          have e2 : (10 : Int64) * nL (min 2147483648 (dg g i j)) + nL (g (i + j)) - 48 = nL (10 * min 2147483648 (dg g i j) + (g (i + j) - 48)) := by
            show nL 10 * nL (min 2147483648 (dg g i j)) + nL (g (i + j)) - nL 48 = _
            rw [l_mul, l_add, l_sub (by omega)]; congr 1; omega
          rw [e2]
          unfold f_MA_minJ
          have hb : 10 * min 2147483648 (dg g i j) + (g (i + j) - 48) < 9223372036854775808 := by omega
          have hcmp : (0 < lg_cmp (2147483648 : Int64) (nL (10 * min 2147483648 (dg g i j) + (g (i + j) - 48)))) = (10 * min 2147483648 (dg g i j) + (g (i + j) - 48) < 2147483648) := lg_gt (a := 2147483648) (by omega) hb
          simp only [dg]
          by_cases hc : 10 * min 2147483648 (dg g i j) + (g (i + j) - 48) < 2147483648
          · refine X_if (by rw [hcmp]; exact hc) ?_
            congr 2; omega
          · refine X_nif (by rw [hcmp]; exact hc) ?_
            show some (nL 2147483648) = _
            congr 2; omega
        refine X_nif (by rw [b01_0, hd]; simp) (X_chk hib (X_P hmin ?_))
        rw [show nI (i + j) + 1 = nI (i + (j + 1)) from n_add (i + j) 1, show i + j + 1 = i + (j + 1) by omega]
        exact ih (j + 1) fu (by omega) (by omega) (by omega) (fun x hx' => by
          by_cases ex : x = j
          · subst ex; exact hd
          · exact hx x (by omega))
      · rw [de_n (fun h => hd h.2), show i + j - i = j by omega]
        exact X_if (by rw [b01_0]; simpa using hd) rfl
    · rw [de_n (fun h => hie h.1), show i + j - i = j by omega]
      unfold k_TO_takeNumber_5
      exact X_chk k1 (X_if (by rw [k4, n_le (by omega) (by omega)]; omega) rfl)
/-- the reference's number: too great, or not -/
theorem g_num {i l : Nat} (G : GE S e g) (hie : i + l ≤ e) (hd : ∀ x, x < l → cD (g (i + x)) = true) : ∀ m j fu, l - j ≤ m → m < fu → j ≤ l → (j = 0 ∨ dg g i (j - 1) ≤ 2147483647) → ∃ v, ((v ≤ 2147483647) = (dg g i l ≤ 2147483647)) ∧ v < 100000000000 ∧ k_RM_isNumber_5 N fu (nI i) (nI l) (nL (dg g i j)) (nI j) S = k_RM_isNumber_46 N (nI i) (nI l) (nL v) S := by
  obtain ⟨k1, k2, k3⟩ := G
  have hbd : ∀ j, j ≤ l → (j = 0 ∨ dg g i (j - 1) ≤ 2147483647) → dg g i j < 100000000000 := by
    intro j hj h
    cases j with
    | zero => simp [dg]
    | succ j =>
      have hr := cD_rng (hd j (by omega))
      rcases h with h | h
      · omega
      · simp only [Nat.add_sub_cancel] at h; simp only [dg]; omega
  intro m
  induction m with
  | zero =>
    intro j fu h1 hfu hj hb
    obtain ⟨fu, rfl⟩ : ∃ x, fu = x + 1 := ⟨fu - 1, by omega⟩
    have ej : j = l := by omega
    subst ej
    refine ⟨dg g i j, rfl, hbd j (Nat.le_refl _) hb, ?_⟩
    unfold k_RM_isNumber_5
    exact X_if (by rw [n_le (by omega) (by omega)]; omega) rfl
  | succ m ih =>
    intro j fu h1 hfu hj hb
    obtain ⟨fu, rfl⟩ : ∃ x, fu = x + 1 := ⟨fu - 1, by omega⟩
    have hbj := hbd j hj hb
    by_cases ej : j = l
    · subst ej
      refine ⟨dg g i j, rfl, hbj, ?_⟩
      unfold k_RM_isNumber_5
      exact X_if (by rw [n_le (by omega) (by omega)]; omega) rfl
    · have hgt : (0 < lg_cmp (nL (dg g i j)) (2147483647 : Int64)) = (2147483647 < dg g i j) := lg_gt (b := 2147483647) (by omega) (by omega)
      by_cases hv : dg g i j ≤ 2147483647
      · obtain ⟨q1, q2⟩ := k2 (i + j) (by omega)
        have hr := cD_rng (hd j (by omega))
        obtain ⟨v, v1, v2, v3⟩ := ih (j + 1) fu (by omega) (by omega) (by omega) (Or.inr (by simpa using hv))
        refine ⟨v, v1, v2, ?_⟩
        rw [← v3]
        have e1 : nI i + nI j = nI (i + j) := n_add i j
        have e2 : (10 : Int64) * nL (dg g i j) + Int32.toInt64 (S.2 1 (nI i + nI j).toNatClampNeg) - 48 = nL (dg g i (j + 1)) := by
          rw [e1, n_nat (by omega), q1, l_of (by omega)]
          show nL 10 * nL (dg g i j) + nL (g (i + j)) - nL 48 = _
          rw [l_mul, l_add, l_sub (by omega)]; simp only [dg]; congr 1; omega
        conv => lhs; unfold k_RM_isNumber_5
        refine X_nif (by rw [n_le (by omega) (by omega)]; omega) (X_nif (by rw [hgt]; omega) (X_chk (by rw [e1, n_ib (by omega)]; omega) (X_bndE e2 ?_)))
        rw [show nI j + 1 = nI (j + 1) from n_add j 1]
      · refine ⟨dg g i j, ?_, hbj, ?_⟩
        · have := dg_mono (g := g) (i := i) (show j ≤ l by omega)
          apply propext; omega
        · unfold k_RM_isNumber_5
          exact X_nif (by rw [n_le (by omega) (by omega)]; omega) (X_if (by rw [hgt]; omega) rfl)
end NUMS
