/-! blanks and remarks of the reference -/
theorem bl_fuel {g : Nat → Nat} {e : Nat} : ∀ n m r i, e - i ≤ n → e - i ≤ m → bl g e n r i = bl g e m r i := by
  intro n
  induction n with
  | zero =>
    intro m r i h1 h2
    have hie : ¬ i < e := by omega
    cases m with
    | zero => rfl
    | succ m => rw [bl_e hie]; rfl
  | succ n ih =>
    intro m r i h1 h2
    by_cases hie : i < e
    · obtain ⟨m, rfl⟩ : ∃ x, m = x + 1 := ⟨m - 1, by omega⟩
      cases r with
      | true => rw [bl_t hie, bl_t hie]; exact ih m _ _ (by omega) (by omega)
      | false =>
        by_cases h2 : i + 1 < e ∧ g i = 47 ∧ g (i + 1) = 47
        · rw [bl_r hie h2, bl_r hie h2]; exact ih m _ _ (by omega) (by omega)
        · by_cases h3 : cB (g i) = true
          · rw [bl_b hie h2 h3, bl_b hie h2 h3]; exact ih m _ _ (by omega) (by omega)
          · rw [bl_n hie h2 h3, bl_n hie h2 h3]
    · rw [bl_e hie]
      cases m with
      | zero => rfl
      | succ m => rw [bl_e hie]
def ne (g : Nat → Nat) (e : Nat) : Nat → Nat → Nat
  | 0, i => i
  | n + 1, i => if i < e ∧ g i ≠ 10 then ne g e n (i + 1) else i
theorem ne_spec {g : Nat → Nat} {e : Nat} : ∀ n i, e - i ≤ n → i ≤ e → (i ≤ ne g e n i ∧ ne g e n i ≤ e) ∧ (ne g e n i < e → g (ne g e n i) = 10) ∧ (∀ m, e - i ≤ m → bl g e m true i = if ne g e n i < e then bl g e (e - (ne g e n i + 1)) false (ne g e n i + 1) else e) := by
  intro n
  induction n with
  | zero =>
    intro i h1 h2
    have e1 : i = e := by omega
    subst e1
    refine ⟨⟨Nat.le_refl _, Nat.le_refl _⟩, fun h => by simp [ne] at h, fun m _ => ?_⟩
    have : ¬ ne g i 0 i < i := by simp [ne]
    rw [if_neg this]
    cases m with
    | zero => rfl
    | succ m => rw [bl_e (by omega)]
  | succ n ih =>
    intro i h1 h2
    by_cases hie : i < e
    · by_cases h10 : g i = 10
      · have en : ne g e (n + 1) i = i := by rw [ne, if_neg (fun h => h.2 h10)]
        rw [en]
        refine ⟨⟨Nat.le_refl _, h2⟩, fun _ => h10, fun m hm => ?_⟩
        obtain ⟨m, rfl⟩ : ∃ x, m = x + 1 := ⟨m - 1, by omega⟩
        rw [if_pos hie, bl_t hie, show (g i != 10) = false by simp [h10]]
        exact bl_fuel _ _ _ _ (by omega) (by omega)
      · have en : ne g e (n + 1) i = ne g e n (i + 1) := by rw [ne, if_pos ⟨hie, h10⟩]
        rw [en]
        obtain ⟨q1, q2, q3⟩ := ih (i + 1) (by omega) (by omega)
        refine ⟨⟨by omega, q1.2⟩, q2, fun m hm => ?_⟩
        obtain ⟨m, rfl⟩ : ∃ x, m = x + 1 := ⟨m - 1, by omega⟩
        rw [bl_t hie, show (g i != 10) = true by simp [h10]]
        exact q3 m (by omega)
    · have en : ne g e (n + 1) i = i := by rw [ne, if_neg (fun h => hie h.1)]
      rw [en]
      refine ⟨⟨Nat.le_refl _, h2⟩, fun h => absurd h hie, fun m _ => ?_⟩
      rw [if_neg hie]
      cases m with
      | zero => show i = e; omega
      | succ m => rw [bl_e hie]; omega
section TEXT2
variable {e N : Nat} {g : Nat → Nat} {S : rm_S}
theorem g_line {k4 : Int32 → Int32 → rm_S → Option (Int32 × rm_S)} {y : Int32} (G : GE S e g) : ∀ n i fu, e - i ≤ n → n < fu → i ≤ e → k_RM_behindBlanks_70 N k4 fu (nI i) y S = k4 (nI (ne g e n i)) y S := by
  obtain ⟨k1, k2, k3⟩ := G
  intro n
  induction n with
  | zero =>
    intro i fu h1 hfu hi
    obtain ⟨fu, rfl⟩ : ∃ x, fu = x + 1 := ⟨fu - 1, by omega⟩
    unfold k_RM_behindBlanks_70
    exact X_if (by rw [k1, n_le (by omega) (by omega)]; omega) rfl
  | succ n ih =>
    intro i fu h1 hfu hi
    obtain ⟨fu, rfl⟩ : ∃ x, fu = x + 1 := ⟨fu - 1, by omega⟩
    unfold k_RM_behindBlanks_70
    by_cases hie : i < e
    · obtain ⟨q1, q2⟩ := k2 i hie
      refine X_nif (by rw [k1, n_le (by omega) (by omega)]; omega) (X_chk (by rw [n_ib (by omega)]; omega) ?_)
      by_cases h10 : g i = 10
      · have en : ne g e (n + 1) i = i := by rw [ne, if_neg (fun h => h.2 h10)]
        rw [en]
        exact X_if (by rw [n_nat (by omega), q1, h10]; rfl) rfl
      · have en : ne g e (n + 1) i = ne g e n (i + 1) := by rw [ne, if_pos ⟨hie, h10⟩]
        rw [en]
        refine X_nif ?_ ?_
        · rw [n_nat (by omega), q1]
          show ¬ nI (g i) = nI 10
          rw [n_eq (by omega) (by omega)]; exact h10
        · rw [show nI i + 1 = nI (i + 1) from n_add i 1]
          exact ih (i + 1) fu (by omega) (by omega) (by omega)
    · have en : ne g e (n + 1) i = i := by rw [ne, if_neg (fun h => hie h.1)]
      rw [en]
      exact X_if (by rw [k1, n_le (by omega) (by omega)]; omega) rfl
theorem g_blank1 {i fu : Nat} (G : GE S e g) (hie : i < e) (hb : cB (g i) = true) : k_RM_behindBlanks_4 N (fu + 1) (nI i) 1 S = k_RM_behindBlanks_4 N fu (nI (i + 1)) 1 S := by
  obtain ⟨k1, k2, k3⟩ := G
  obtain ⟨q1, q2⟩ := k2 i hie
  have ei : nI i + 1 = nI (i + 1) := n_add i 1
  conv => lhs; unfold k_RM_behindBlanks_4
  refine X_nif n10 (X_nif (by rw [k1, n_le (by omega) (by omega)]; omega) (X_chk (by rw [n_ib (by omega)]; omega) (X_bndE (x' := nI (g i)) (by rw [n_nat (by omega), q1]) ?_)))
  rw [ei]
  simp only [cB, Bool.or_eq_true, beq_iff_eq] at hb
  have c : ∀ k, k < 256 → (nI (g i) = nI k ↔ g i = k) := fun k hk => by rw [n_eq (by omega) (by omega)]
  rcases hb with ((h | h) | h) | h
  · exact X_if ((c 9 (by omega)).mpr h) rfl
  · exact X_nif (fun x => by have := (c 9 (by omega)).mp x; omega) (X_if ((c 10 (by omega)).mpr h) rfl)
  · exact X_nif (fun x => by have := (c 9 (by omega)).mp x; omega) (X_nif (fun x => by have := (c 10 (by omega)).mp x; omega) (X_if ((c 13 (by omega)).mpr h) rfl))
  · exact X_nif (fun x => by have := (c 9 (by omega)).mp x; omega) (X_nif (fun x => by have := (c 10 (by omega)).mp x; omega) (X_nif (fun x => by have := (c 13 (by omega)).mp x; omega) (X_if ((c 32 (by omega)).mpr h) rfl)))
theorem g_blank (G : GE S e g) (hN : 20000 ≤ N) : ∀ m i fu, e - i ≤ m → 2 * m + 2 ≤ fu → i ≤ e → k_RM_behindBlanks_4 N fu (nI i) 1 S = some (nI (bl g e (e - i) false i), S) := by
  have G' := G
  obtain ⟨k1, k2, k3⟩ := G
  intro m
  induction m with
  | zero =>
    intro i fu h1 hfu hi
    obtain ⟨fu, rfl⟩ : ∃ x, fu = x + 1 := ⟨fu - 1, by omega⟩
    have : e - i = 0 := by omega
    rw [this]
    unfold k_RM_behindBlanks_4
    exact X_nif n10 (X_if (by rw [k1, n_le (by omega) (by omega)]; omega) rfl)
  | succ m ih =>
    intro i fu h1 hfu hi
    obtain ⟨fu, rfl⟩ : ∃ x, fu = x + 1 := ⟨fu - 1, by omega⟩
    by_cases hie : i < e
    · obtain ⟨q1, q2⟩ := k2 i hie
      have hei : e - i = (e - (i + 1)) + 1 := by omega
      by_cases h3 : cB (g i) = true
      · have h2 : ¬ (i + 1 < e ∧ g i = 47 ∧ g (i + 1) = 47) := by
          rintro ⟨_, h, _⟩; rw [h] at h3; revert h3; decide
        rw [g_blank1 G' hie h3, hei, bl_b hie h2 h3]
        exact ih (i + 1) fu (by omega) (by omega) (by omega)
      · have hnb : ¬ g i = 9 ∧ ¬ g i = 10 ∧ ¬ g i = 13 ∧ ¬ g i = 32 := by
          simp only [cB, Bool.or_eq_true, beq_iff_eq] at h3; omega
        have c : ∀ k, k < 256 → (nI (g i) = nI k ↔ g i = k) := fun k hk => by rw [n_eq (by omega) (by omega)]
        have hat := g_at (N := N) (i := i) (a := 47) (b := 47) G' (by omega) (by omega) (by omega)
        conv => lhs; unfold k_RM_behindBlanks_4
        refine X_nif n10 (X_nif (by rw [k1, n_le (by omega) (by omega)]; omega) (X_chk (by rw [n_ib (by omega)]; omega) (X_bndE (x' := nI (g i)) (by rw [n_nat (by omega), q1]) ?_)))
        refine X_nif (fun x => hnb.1 ((c 9 (by omega)).mp x)) (X_nif (fun x => hnb.2.1 ((c 10 (by omega)).mp x)) (X_nif (fun x => hnb.2.2.1 ((c 13 (by omega)).mp x)) (X_nif (fun x => hnb.2.2.2 ((c 32 (by omega)).mp x)) (X_I hat ?_))))
        by_cases h2 : i + 1 < e ∧ g i = 47 ∧ g (i + 1) = 47
        · rw [if_pos h2, hei, bl_r hie h2]
          refine X_nif n10 ?_
          rw [g_line G' (e - i) i N (Nat.le_refl _) (by omega) (by omega)]
          have hne1 : ne g e (e - i) i = ne g e (e - (i + 1)) (i + 1) := by
            rw [hei, ne, if_pos ⟨hie, by omega⟩]
          rw [hne1]
          obtain ⟨r1, r2, r3⟩ := ne_spec (g := g) (e := e) (e - (i + 1)) (i + 1) (Nat.le_refl _) (by omega)
          rw [r3 (e - (i + 1)) (Nat.le_refl _)]
          generalize ne g e (e - (i + 1)) (i + 1) = j at r1 r2
          by_cases hj : j < e
          · rw [if_pos hj]
            obtain ⟨fu, rfl⟩ : ∃ x, fu = x + 1 := ⟨fu - 1, by omega⟩
            rw [g_blank1 G' hj (by rw [r2 hj]; decide)]
            exact ih (j + 1) fu (by omega) (by omega) (by omega)
          · rw [if_neg hj]
            have := ih j fu (by omega) (by omega) (by omega)
            rw [this, show e - j = 0 by omega]
            show some (nI j, S) = _
            rw [show j = e by omega]
        · rw [if_neg h2, hei, bl_n hie h2 h3]
          refine X_if rfl ?_
          obtain ⟨fu, rfl⟩ : ∃ x, fu = x + 1 := ⟨fu - 1, by omega⟩
          unfold k_RM_behindBlanks_4
          exact X_if rfl rfl
    · have : e - i = 0 := by omega
      rw [this]
      unfold k_RM_behindBlanks_4
      exact X_nif n10 (X_if (by rw [k1, n_le (by omega) (by omega)]; omega) rfl)
end TEXT2
