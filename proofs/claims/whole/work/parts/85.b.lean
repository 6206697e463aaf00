/-! same: both walk -/
section SAME2
variable {τ : mh_H} {own P V : Nat → Nat} {lf lo : List Nat} {nt : List (List Int32)} {F : Nat → Fo} {S : rm_S} {N : Nat}
theorem c_same {t0 t1 b0 b1 L0 L1 n : Nat} (h0 : hT τ t0 = 11) (h1 : hT τ t1 = 11) (a0 : ∀ i, i < 7 → hT τ (b0 + i) = 2 ∧ hN τ (b0 + i) = L0 ∧ hR τ 5 (1 + i) t0 = some (b0 + i)) (a1 : ∀ i, i < 7 → hT τ (b1 + i) = 2 ∧ hN τ (b1 + i) = L1 ∧ hR τ 5 (1 + i) t1 = some (b1 + i)) (hn : hI τ 5 0 t0 = nI n) (hL0 : n ≤ L0) (hL1 : n ≤ L1) (hn2 : n < 30000) : ∀ m i fu, n - i ≤ m → m < fu → i ≤ n →
    ((∀ j, i ≤ j → j < n → hA τ b0 j = hA τ b1 j ∧ hA τ (b0 + 2) j = hA τ (b1 + 2) j ∧ hA τ (b0 + 3) j = hA τ (b1 + 3) j) → k_TR_matches_15 N fu t0 t1 (nI i) τ = some (1, τ)) ∧ ((¬ ∀ j, i ≤ j → j < n → hA τ b0 j = hA τ b1 j ∧ hA τ (b0 + 2) j = hA τ (b1 + 2) j ∧ hA τ (b0 + 3) j = hA τ (b1 + 3) j) → k_TR_matches_15 N fu t0 t1 (nI i) τ = some (0, τ)) := by
  have u0 := a0 0 (by omega)
  have u2 := a0 2 (by omega)
  have u3 := a0 3 (by omega)
  have v0 := a1 0 (by omega)
  have v2 := a1 2 (by omega)
  have v3 := a1 3 (by omega)
  rw [Nat.add_zero] at u0 v0
  have atEnd : ∀ fu, k_TR_matches_15 N (fu + 1) t0 t1 (nI n) τ = some (1, τ) := by
    intro fu
    unfold k_TR_matches_15
    exact X_chk h0 (X_if (by rw [hn, n_le (by omega) (by omega)]; omega) rfl)
  intro m
  induction m with
  | zero =>
    intro i fu h hfu hi
    obtain ⟨fu, rfl⟩ : ∃ x, fu = x + 1 := ⟨fu - 1, by omega⟩
    have e : i = n := by omega
    subst e
    exact ⟨fun _ => atEnd fu, fun hne => absurd (fun j h1 h2 => by omega) hne⟩
  | succ m ih =>
    intro i fu h hfu hi
    obtain ⟨fu, rfl⟩ : ∃ x, fu = x + 1 := ⟨fu - 1, by omega⟩
    by_cases e : i = n
    · subst e
      exact ⟨fun _ => atEnd fu, fun hne => absurd (fun j h1 h2 => by omega) hne⟩
    · have hlt : i < n := by omega
      have ib0 : ib (nI i) L0 := by rw [n_ib (by omega)]; omega
      have ib1 : ib (nI i) L1 := by rw [n_ib (by omega)]; omega
      have hni : (nI i).toNatClampNeg = i := n_nat (by omega)
      have hst : ∀ y, (if hA τ b0 i = hA τ b1 i then (if hA τ (b0 + 2) i = hA τ (b1 + 2) i then (if hA τ (b0 + 3) i = hA τ (b1 + 3) i then k_TR_matches_15 N fu t0 t1 (nI (i + 1)) τ else some (0, τ)) else some (0, τ)) else some (0, τ)) = y → k_TR_matches_15 N (fu + 1) t0 t1 (nI i) τ = y := by
        intro y hy
        unfold k_TR_matches_15
        refine X_chk h0 (X_nif (by rw [hn, n_le (by omega) (by omega)]; omega) (X_rfO u0.2.2 (X_chk u0.1 (X_chk (by rw [u0.2.1]; exact ib0) (X_chk h1 (X_rfO v0.2.2 (X_chk v0.1 (X_chk (by rw [v0.2.1]; exact ib1) ?_))))))))
        by_cases c1 : hA τ b0 i = hA τ b1 i
        · rw [if_pos c1] at hy
          refine X_if (by rw [hni]; exact c1) (X_rfO u2.2.2 (X_chk u2.1 (X_chk (by rw [u2.2.1]; exact ib0) (X_rfO v2.2.2 (X_chk v2.1 (X_chk (by rw [v2.2.1]; exact ib1) ?_))))))
          by_cases c2 : hA τ (b0 + 2) i = hA τ (b1 + 2) i
          · rw [if_pos c2] at hy
            refine X_if (by rw [hni]; exact c2) (X_rfO u3.2.2 (X_chk u3.1 (X_chk (by rw [u3.2.1]; exact ib0) (X_rfO v3.2.2 (X_chk v3.1 (X_chk (by rw [v3.2.1]; exact ib1) ?_))))))
            by_cases c3 : hA τ (b0 + 3) i = hA τ (b1 + 3) i
            · rw [if_pos c3] at hy
              refine X_if (by rw [hni]; exact c3) ?_
              rw [show nI i + 1 = nI (i + 1) from n_add i 1]
              exact hy
            · rw [if_neg c3] at hy
              exact X_nif (by rw [hni]; exact c3) hy
          · rw [if_neg c2] at hy
            exact X_nif (by rw [hni]; exact c2) hy
        · rw [if_neg c1] at hy
          exact X_nif (by rw [hni]; exact c1) hy
      obtain ⟨i1, i2⟩ := ih (i + 1) fu (by omega) (by omega) (by omega)
      refine ⟨fun hall => hst _ ?_, fun hne => hst _ ?_⟩
      · have := hall i (Nat.le_refl _) hlt
        rw [if_pos this.1, if_pos this.2.1, if_pos this.2.2]
        exact i1 (fun j h1 h2 => hall j (by omega) h2)
      · by_cases c1 : hA τ b0 i = hA τ b1 i
        · rw [if_pos c1]
          by_cases c2 : hA τ (b0 + 2) i = hA τ (b1 + 2) i
          · rw [if_pos c2]
            by_cases c3 : hA τ (b0 + 3) i = hA τ (b1 + 3) i
            · rw [if_pos c3]
              refine i2 (fun hall => hne (fun j h1 h2 => ?_))
              by_cases ej : j = i
              · subst ej; exact ⟨c1, c2, c3⟩
              · exact hall j (by omega) h2
            · rw [if_neg c3]
          · rw [if_neg c2]
        · rw [if_neg c1]
theorem r_same {n : Nat} (hn : S.2 19 0 = nI n) (hn2 : n ≤ 13000) (hn0 : 0 < n) : ∀ m i fu, n - i ≤ m → m + 1 < fu → i ≤ n →
    ((∀ j, i ≤ j → j < n → S.2 14 j = S.2 14 (13000 + j) ∧ S.2 16 j = S.2 16 (13000 + j) ∧ S.2 17 j = S.2 17 (13000 + j)) → k_RM_same_23 N fu 1 (nI i) S = some (1, S)) ∧ ((¬ ∀ j, i ≤ j → j < n → S.2 14 j = S.2 14 (13000 + j) ∧ S.2 16 j = S.2 16 (13000 + j) ∧ S.2 17 j = S.2 17 (13000 + j)) → k_RM_same_23 N fu 1 (nI i) S = some (0, S)) := by
  have z0 : (0 : Int32).toNatClampNeg = 0 := rfl
  have ib00 : ib 0 2 := by decide
  have atEnd : ∀ fu, k_RM_same_23 N (fu + 1) 1 (nI n) S = some (1, S) := by
    intro fu
    unfold k_RM_same_23
    exact X_chk ib00 (X_if (by rw [z0, hn, n_le (by omega) (by omega)]; omega) (X_chk (Or.inr rfl) rfl))
  have bad : ∀ fu i, i ≤ n → k_RM_same_23 N (fu + 1) 0 (nI i) S = some (0, S) := by
    intro fu i hi
    unfold k_RM_same_23
    refine X_chk ib00 ?_
    by_cases c : S.2 19 (0 : Int32).toNatClampNeg ≤ nI i
    · exact X_if c (X_chk (Or.inl rfl) rfl)
    · exact X_nif c (X_if rfl (X_chk (Or.inl rfl) rfl))
  intro m
  induction m with
  | zero =>
    intro i fu h hfu hi
    obtain ⟨fu, rfl⟩ : ∃ x, fu = x + 1 := ⟨fu - 1, by omega⟩
    have e : i = n := by omega
    subst e
    exact ⟨fun _ => atEnd fu, fun hne => absurd (fun j h1 h2 => by omega) hne⟩
  | succ m ih =>
    intro i fu h hfu hi
    obtain ⟨fu, rfl⟩ : ∃ x, fu = x + 1 := ⟨fu - 1, by omega⟩
    by_cases e : i = n
    · subst e
      exact ⟨fun _ => atEnd fu, fun hne => absurd (fun j h1 h2 => by omega) hne⟩
    · have hlt : i < n := by omega
      have e3 : (13000 : Int32) + nI i = nI (13000 + i) := n_add 13000 i
      have ib0 : ib (nI i) 26000 := by rw [n_ib (by omega)]; omega
      have ib1 : ib (13000 + nI i) 26000 := by rw [e3, n_ib (by omega)]; omega
      have hni : (nI i).toNatClampNeg = i := n_nat (by omega)
      have hni2 : (13000 + nI i).toNatClampNeg = 13000 + i := by rw [e3]; exact n_nat (by omega)
      have es : nI i + 1 = nI (i + 1) := n_add i 1
      have hst : ∀ y, (if S.2 14 i = S.2 14 (13000 + i) then (if S.2 16 i = S.2 16 (13000 + i) then (if S.2 17 i = S.2 17 (13000 + i) then k_RM_same_23 N fu 1 (nI (i + 1)) S else k_RM_same_23 N fu 0 (nI (i + 1)) S) else k_RM_same_23 N fu 0 (nI (i + 1)) S) else k_RM_same_23 N fu 0 (nI (i + 1)) S) = y → k_RM_same_23 N (fu + 1) 1 (nI i) S = y := by
        intro y hy
        unfold k_RM_same_23
        refine X_chk ib00 (X_nif (by rw [z0, hn, n_le (by omega) (by omega)]; omega) (X_nif (by decide) (X_chk ib0 (X_chk ib1 ?_))))
        by_cases c1 : S.2 14 i = S.2 14 (13000 + i)
        · rw [if_pos c1] at hy
          refine X_if (by rw [hni, hni2]; exact c1) (X_chk ib0 (X_chk ib1 ?_))
          by_cases c2 : S.2 16 i = S.2 16 (13000 + i)
          · rw [if_pos c2] at hy
            refine X_if (by rw [hni, hni2]; exact c2) (X_chk ib0 (X_chk ib1 ?_))
            by_cases c3 : S.2 17 i = S.2 17 (13000 + i)
            · rw [if_pos c3] at hy
              exact X_if (by rw [hni, hni2]; exact c3) (by rw [es]; exact hy)
            · rw [if_neg c3] at hy
              exact X_nif (by rw [hni, hni2]; exact c3) (by rw [es]; exact hy)
          · rw [if_neg c2] at hy
            exact X_nif (by rw [hni, hni2]; exact c2) (by rw [es]; exact hy)
        · rw [if_neg c1] at hy
          exact X_nif (by rw [hni, hni2]; exact c1) (by rw [es]; exact hy)
      obtain ⟨i1, i2⟩ := ih (i + 1) fu (by omega) (by omega) (by omega)
      obtain ⟨fu', rfl⟩ : ∃ x, fu = x + 1 := ⟨fu - 1, by omega⟩
      refine ⟨fun hall => hst _ ?_, fun hne => hst _ ?_⟩
      · have := hall i (Nat.le_refl _) hlt
        rw [if_pos this.1, if_pos this.2.1, if_pos this.2.2]
        exact i1 (fun j h1 h2 => hall j (by omega) h2)
      · by_cases c1 : S.2 14 i = S.2 14 (13000 + i)
        · rw [if_pos c1]
          by_cases c2 : S.2 16 i = S.2 16 (13000 + i)
          · rw [if_pos c2]
            by_cases c3 : S.2 17 i = S.2 17 (13000 + i)
            · rw [if_pos c3]
              refine i2 (fun hall => hne (fun j h1 h2 => ?_))
              by_cases ej : j = i
              · subst ej; exact ⟨c1, c2, c3⟩
              · exact hall j (by omega) h2
            · rw [if_neg c3]; exact bad fu' (i + 1) (by omega)
          · rw [if_neg c2]; exact bad fu' (i + 1) (by omega)
        · rw [if_neg c1]; exact bad fu' (i + 1) (by omega)
theorem ask_same (H : CS τ own P V lf lo nt F) (I : RI S lf lo nt F) (hsz : ∀ t, t < 2 → siz (F t) ≤ 12001) (hNN : 40000 ≤ N) : ∃ v, f_PR_same N (P 0) τ = some (v, τ) ∧ f_RM_same N S = some (v, S) := by
  obtain ⟨HC0, HCW, HF, HO, HS, H4, H6, H7⟩ := H
  obtain ⟨⟨x1', x2', x3'⟩, ⟨y0, y1, y2, y3, y4, y5, y6, y7, y8⟩, yQ, ⟨x4, x5⟩, ox0, ox1⟩ := HC0
  obtain ⟨T0, _⟩ := H7 0 (by omega)
  obtain ⟨T1, _⟩ := H7 1 (by omega)
  have R0 := I.2.2.2.2 0 (by omega)
  have R1 := I.2.2.2.2 1 (by omega)
  have f0 := TL_Fa T0
  have f1 := TL_Fa T1
  have r0 := TR_Fa R0
  have r1 := TR_Fa R1
  have s0 := hsz 0 (by omega)
  have s1 := hsz 1 (by omega)
  have l0 := txt_len (F 0)
  have l1 := txt_len (F 1)
  obtain ⟨a1, a2, a3, a4, a5, a6, a7, a8⟩ := T0
  obtain ⟨b1, b2, b3, b4, b5, b6, b7, b8⟩ := T1
  have z0 : (0 : Int32).toNatClampNeg = 0 := rfl
  have z1 : (1 : Int32).toNatClampNeg = 1 := rfl
  have hd : ∀ v, (v = 0 ∨ v = 1) → f_TR_matches N (P (8 + 0)) (P (8 + 1)) τ = some (v, τ) → f_PR_same N (P 0) τ = some (v, τ) := by
    intro v hv hm
    unfold f_PR_same
    exact X_chk x1' (X_rfO y8 (X_chk x2' (X_chk (by rw [x3']; decide) (X_rfO (by rw [z0]; exact yQ 0 (by omega)) (X_chk (by rw [x3']; decide) (X_rfO (by rw [z1]; exact yQ 1 (by omega)) (X_chk a1 (X_I hm (X_chk hv rfl)))))))))
  by_cases hlen : siz (F 0) = siz (F 1)
  · have hcs := c_same (N := N) (n := siz (F 0) + 1) a1 b1 a2 b2 (by rw [a3, l0]) (by omega) (by omega) (by omega) (siz (F 0) + 1) 0 N (by omega) (by omega) (by omega)
    have hrs := r_same (N := N) (n := siz (F 0) + 1) (by rw [R0.1, l0]) (by omega) (by omega) (siz (F 0) + 1) 0 N (by omega) (by omega) (by omega)
    have hroot0 : siz (root (F 0)) = siz (F 0) + 1 := by simp [root, siz]
    have hroot1 : siz (root (F 1)) = siz (F 1) + 1 := by simp [root, siz]
    -- what the class compares and what the reference compares
    have hc : ∀ j, j < siz (F 0) + 1 → ∀ b : Nat, True := fun _ _ _ => trivial
    have e14 : ∀ j, j < siz (F 0) + 1 → hA τ (V (12 + 2 * 0)) j = S.2 14 j ∧ hA τ (V (12 + 2 * 0) + 2) j = S.2 16 j ∧ hA τ (V (12 + 2 * 0) + 5) j = S.2 17 j ∧ hA τ (V (12 + 2 * 0) + 3) j = S.2 18 j := by
      intro j hj
      have p := a5 j (by omega)
      have q := R0.2 j (by omega)
      rw [Nat.zero_add] at p
      rw [Nat.mul_zero, Nat.zero_add] at q
      exact ⟨by rw [p.1, q.1], by rw [p.2.2.1, q.2.2.1], by rw [p.2.2.2.1, q.2.2.2.1], by rw [p.2.2.2.2, q.2.2.2.2]⟩
    have e15 : ∀ j, j < siz (F 0) + 1 → hA τ (V (12 + 2 * 1)) j = S.2 14 (13000 + j) ∧ hA τ (V (12 + 2 * 1) + 2) j = S.2 16 (13000 + j) ∧ hA τ (V (12 + 2 * 1) + 5) j = S.2 17 (13000 + j) ∧ hA τ (V (12 + 2 * 1) + 3) j = S.2 18 (13000 + j) := by
      intro j hj
      have p := b5 j (by omega)
      have q := R1.2 j (by omega)
      rw [Nat.zero_add] at p
      rw [Nat.mul_one] at q
      exact ⟨by rw [p.1, q.1], by rw [p.2.2.1, q.2.2.1], by rw [p.2.2.2.1, q.2.2.2.1], by rw [p.2.2.2.2, q.2.2.2.2]⟩
    have iff : (∀ j, 0 ≤ j → j < siz (F 0) + 1 → hA τ (V (12 + 2 * 0)) j = hA τ (V (12 + 2 * 1)) j ∧ hA τ (V (12 + 2 * 0) + 2) j = hA τ (V (12 + 2 * 1) + 2) j ∧ hA τ (V (12 + 2 * 0) + 3) j = hA τ (V (12 + 2 * 1) + 3) j) ↔ (∀ j, 0 ≤ j → j < siz (F 0) + 1 → S.2 14 j = S.2 14 (13000 + j) ∧ S.2 16 j = S.2 16 (13000 + j) ∧ S.2 17 j = S.2 17 (13000 + j)) := by
      constructor
      · intro h j _ hj
        have hw := z2w (root (F 0)) (root (F 1)) 0 (-1) f0.1 f1.1 (by omega) (by omega) (fun i hi => by rw [Nat.zero_add]; exact (h i (by omega) (by omega)).2.2) j (by omega)
        rw [Nat.zero_add] at hw
        have := h j (by omega) hj
        rw [(e14 j hj).1, (e15 j hj).1, (e14 j hj).2.1, (e15 j hj).2.1] at this
        rw [(e14 j hj).2.2.1, (e15 j hj).2.2.1] at hw
        exact ⟨this.1, this.2.1, hw⟩
      · intro h j _ hj
        have hz := w2z (root (F 0)) (root (F 1)) 0 (-1) f0.1 f1.1 (by omega) (by omega) (Or.inl rfl) (fun i hi => by
          rw [Nat.zero_add, (e14 i (by omega)).2.2.1, (e15 i (by omega)).2.2.1]; exact (h i (by omega) (by omega)).2.2) j (by omega)
        rw [Nat.zero_add] at hz
        have := h j (by omega) hj
        rw [← (e14 j hj).1, ← (e15 j hj).1, ← (e14 j hj).2.1, ← (e15 j hj).2.1] at this
        exact ⟨this.1, this.2.1, hz⟩
    have c0 : hI τ 5 0 (P (8 + 0)) = hI τ 5 0 (P (8 + 1)) := by rw [a3, b3, l0, l1, hlen]
    have c1 : S.2 19 (0 : Int32).toNatClampNeg = S.2 19 (1 : Int32).toNatClampNeg := by rw [z0, z1, R0.1, R1.1, l0, l1, hlen]
    by_cases hall : ∀ j, 0 ≤ j → j < siz (F 0) + 1 → S.2 14 j = S.2 14 (13000 + j) ∧ S.2 16 j = S.2 16 (13000 + j) ∧ S.2 17 j = S.2 17 (13000 + j)
    · refine ⟨1, hd _ (Or.inr rfl) ?_, ?_⟩
      · unfold f_TR_matches
        exact X_chk a1 (X_chk b1 (X_if c0 (hcs.1 (iff.mpr hall))))
      · unfold f_RM_same
        exact X_chk (by decide) (X_chk (by decide) (X_if c1 (hrs.1 hall)))
    · refine ⟨0, hd _ (Or.inl rfl) ?_, ?_⟩
      · unfold f_TR_matches
        exact X_chk a1 (X_chk b1 (X_if c0 (hcs.2 (fun h => hall (iff.mp h)))))
      · unfold f_RM_same
        exact X_chk (by decide) (X_chk (by decide) (X_if c1 (hrs.2 hall)))
  · refine ⟨0, hd _ (Or.inl rfl) ?_, ?_⟩
    · unfold f_TR_matches
      exact X_chk a1 (X_chk b1 (X_nif (by rw [a3, b3, l0, l1, n_eq (by omega) (by omega)]; omega) rfl))
    · unfold f_RM_same
      refine X_chk (by decide) (X_chk (by decide) (X_nif (by rw [z0, z1, R0.1, R1.1, l0, l1, n_eq (by omega) (by omega)]; omega) ?_))
      obtain ⟨M, hM⟩ : ∃ M, N = M + 1 := ⟨N - 1, by omega⟩
      have : ∀ M, k_RM_same_23 N (M + 1) 0 0 S = some (0, S) := by
        intro M
        unfold k_RM_same_23
        exact X_chk (by decide) (X_nif (by rw [z0, R0.1, l0]; show ¬ nI _ ≤ nI 0; rw [n_le (by omega) (by omega)]; omega) (X_if rfl (X_chk (Or.inl rfl) rfl)))
      have h2 := this M
      rw [← hM] at h2
      exact h2
end SAME2
