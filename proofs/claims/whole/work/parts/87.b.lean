/-! feed and again -/
def b20 (x1 x2 x3 x4 x5 : Int32) : List Nat := bq x1 ++ bq x2 ++ bq x3 ++ bq x4 ++ bq x5
def xs (x1 x2 x3 x4 x5 : Int32) (i : Nat) : Int32 := if 4 ≤ i then (if 8 ≤ i then (if 12 ≤ i then (if 16 ≤ i then x5 else x4) else x3) else x2) else x1
theorem b20_at (x1 x2 x3 x4 x5 : Int32) (i : Nat) (hi : i < (b20 x1 x2 x3 x4 x5).length) : (b20 x1 x2 x3 x4 x5)[i] = bx (xs x1 x2 x3 x4 x5 i) (24 - 8 * (i % 4)) := by
  have h : i < 20 := hi
  have : i = 0 ∨ i = 1 ∨ i = 2 ∨ i = 3 ∨ i = 4 ∨ i = 5 ∨ i = 6 ∨ i = 7 ∨ i = 8 ∨ i = 9 ∨ i = 10 ∨ i = 11 ∨ i = 12 ∨ i = 13 ∨ i = 14 ∨ i = 15 ∨ i = 16 ∨ i = 17 ∨ i = 18 ∨ i = 19 := by omega
  rcases this with rfl | rfl | rfl | rfl | rfl | rfl | rfl | rfl | rfl | rfl | rfl | rfl | rfl | rfl | rfl | rfl | rfl | rfl | rfl | rfl <;> rfl
theorem b20_lt (x1 x2 x3 x4 x5 : Int32) : ∀ c ∈ b20 x1 x2 x3 x4 x5, c < 256 := by
  intro c hc
  simp only [b20, bq, List.cons_append, List.nil_append, List.mem_cons, List.not_mem_nil, or_false] at hc
  rcases hc with h | h | h | h | h | h | h | h | h | h | h | h | h | h | h | h | h | h | h | h <;> (rw [h]; exact bx_lt _ _)
section FEED
variable {x1 x2 x3 x4 x5 : Int32} {N n : Nat}
theorem rf_loop (hn : n + 20 ≤ 8000) : ∀ m j (S : rm_S) fu, 20 - j ≤ m → m < fu → j ≤ 20 → S.1 2 = nI (n + j) → ∃ S', k_RM_feed_18 N fu x1 x2 x3 x4 x5 (nI j) S = some (nI (n + 20), S') ∧ S'.1 2 = nI (n + 20) ∧ (∀ x, x ≠ 2 → S'.1 x = S.1 x) ∧ (∀ o, o ≠ 1 → S'.2 o = S.2 o) ∧ (∀ i, i < n + j → S'.2 1 i = S.2 1 i) ∧ (∀ i, j ≤ i → i < 20 → S'.2 1 (n + i) = nI (bx (xs x1 x2 x3 x4 x5 i) (24 - 8 * (i % 4)))) := by
  have fin : ∀ (S : rm_S) fu, S.1 2 = nI (n + 20) → k_RM_feed_18 N (fu + 1) x1 x2 x3 x4 x5 (nI 20) S = some (nI (n + 20), S) := by
    intro S fu h
    unfold k_RM_feed_18
    exact X_if (by show nI 20 ≤ nI 20; exact Int32.le_refl _) (by rw [h])
  intro m
  induction m with
  | zero =>
    intro j S fu h1 hfu hj h2
    obtain ⟨fu, rfl⟩ : ∃ x, fu = x + 1 := ⟨fu - 1, by omega⟩
    have e : j = 20 := by omega
    subst e
    exact ⟨S, fin S fu h2, h2, fun _ _ => rfl, fun _ _ => rfl, fun _ _ => rfl, fun i h1 h2 => by omega⟩
  | succ m ih =>
    intro j S fu h1 hfu hj h2
    obtain ⟨fu, rfl⟩ : ∃ x, fu = x + 1 := ⟨fu - 1, by omega⟩
    by_cases e : j = 20
    · subst e
      exact ⟨S, fin S fu h2, h2, fun _ _ => rfl, fun _ _ => rfl, fun _ _ => rfl, fun i h1 h2 => by omega⟩
    · have hj' : j < 20 := by omega
      have hnn : (nI (n + j)).toNatClampNeg = n + j := n_nat (by omega)
      let v := nI (bx (xs x1 x2 x3 x4 x5 j) (24 - 8 * (j % 4)))
      obtain ⟨S', q1, q2, q3, q4, q5, q6⟩ := ih (j + 1) (rs_i (rs_a S 1 (n + j) v) 2 (nI (n + j + 1))) fu (by omega) (by omega) (by omega) (by rw [rs_i1, if_pos rfl]; rfl)
      have step : ∀ z0, z0 = xs x1 x2 x3 x4 x5 j → k_RM_feed_71 N (k_RM_feed_18 N fu) x1 x2 x3 x4 x5 (nI j) z0 S = some (nI (n + 20), S') := by
        intro z0 hz
        unfold k_RM_feed_71
        refine X_chk (by rw [h2, n_ib (by omega)]; omega) (X_bndE (x' := v) ?_ ?_)
        · rw [hz]; exact r_byte _ _ (by omega) _ (sh20 j hj')
        · rw [h2, hnn]
          refine X_bndE (x' := nI (n + j)) h2 (X_bndE (x' := nI (n + j + 1)) (n_add _ 1) ?_)
          rw [show nI j + 1 = nI (j + 1) from n_add j 1]
          exact q1
      refine ⟨S', ?_, q2, fun x hx => by rw [q3 x hx, rs_i1, if_neg hx, rs_a1], fun o ho => by rw [q4 o ho, rs_i2]; funext i; rw [rs_a2, if_neg (fun h => ho h.1)], fun i hi => by rw [q5 i (by omega), rs_i2, rs_a2, if_neg (by omega)], fun i hi1 hi2 => ?_⟩
      · unfold k_RM_feed_18
        refine X_nif (by show ¬ nI 20 ≤ nI j; rw [n_le (by omega) (by omega)]; omega) ?_
        have cmp : ∀ k, k < 100 → ((nI k ≤ nI j) = (k ≤ j)) := fun k hk => n_le (by omega) (by omega)
        by_cases c4 : 4 ≤ j
        · refine X_if (by show nI 4 ≤ nI j; rw [cmp 4 (by omega)]; exact c4) ?_
          by_cases c8 : 8 ≤ j
          · refine X_if (by show nI 8 ≤ nI j; rw [cmp 8 (by omega)]; exact c8) ?_
            by_cases c12 : 12 ≤ j
            · refine X_if (by show nI 12 ≤ nI j; rw [cmp 12 (by omega)]; exact c12) ?_
              by_cases c16 : 16 ≤ j
              · exact X_if (by show nI 16 ≤ nI j; rw [cmp 16 (by omega)]; exact c16) (step _ (by simp only [xs, c4, c8, c12, c16, if_true]))
              · exact X_nif (by show ¬ nI 16 ≤ nI j; rw [cmp 16 (by omega)]; exact c16) (step _ (by simp only [xs, c4, c8, c12, c16, if_true, if_false]))
            · exact X_nif (by show ¬ nI 12 ≤ nI j; rw [cmp 12 (by omega)]; exact c12) (step _ (by simp only [xs, c4, c8, c12, if_true, if_false]))
          · exact X_nif (by show ¬ nI 8 ≤ nI j; rw [cmp 8 (by omega)]; exact c8) (step _ (by simp only [xs, c4, c8, if_true, if_false]))
        · exact X_nif (by show ¬ nI 4 ≤ nI j; rw [cmp 4 (by omega)]; exact c4) (step _ (by simp only [xs, c4, if_false]))
      · by_cases ei : i = j
        · subst ei
          rw [q5 (n + i) (by omega), rs_i2, rs_a2, if_pos ⟨rfl, rfl⟩]
        · exact q6 i (by omega) hi2
theorem r_feed {S : rm_S} (hn : n + 20 ≤ 8000) (hNN : 100 ≤ N) (h2 : S.1 2 = nI n) : ∃ S', f_RM_feed N x1 x2 x3 x4 x5 S = some (nI (n + 20), S') ∧ S'.1 2 = nI (n + 20) ∧ (∀ x, x ≠ 2 → S'.1 x = S.1 x) ∧ (∀ o, o ≠ 1 → S'.2 o = S.2 o) ∧ (∀ i, i < n → S'.2 1 i = S.2 1 i) ∧ (∀ i (hi : i < (b20 x1 x2 x3 x4 x5).length), S'.2 1 (n + i) = nI (b20 x1 x2 x3 x4 x5)[i]) := by
  obtain ⟨S', q1, q2, q3, q4, q5, q6⟩ := rf_loop (x1 := x1) (x2 := x2) (x3 := x3) (x4 := x4) (x5 := x5) (N := N) hn 20 0 S N (by omega) (by omega) (by omega) (by rw [h2]; rfl)
  refine ⟨S', ?_, q2, q3, q4, fun i hi => q5 i (by omega), fun i hi => ?_⟩
  · unfold f_RM_feed
    refine X_if ?_ q1
    rw [h2]
    show nI n + nI 20 ≤ nI 8000
    rw [n_add, n_le (by omega) (by omega)]; exact hn
  · rw [b20_at, q6 i (by omega) hi]
theorem c_feed {τ : mh_H} {pr br bb : Nat} {l : List Int32} (h15 : hT τ pr = 15) (hpr : pr < hX τ) (h70 : hR τ 7 0 pr = some br) (H : Rw τ br bb 8000 l) (hl : l.length + 20 ≤ 8000) : ∃ τ' bb' c m, f_PR_feed N pr x1 x2 x3 x4 x5 τ = some ((nI (l.length + 20), τ'), c, m) ∧ Rw τ' br bb' 8000 (l ++ (b20 x1 x2 x3 x4 x5).map sx) ∧ Fr br bb τ τ' ∧ Gw τ τ' bb bb' c m := by
  obtain ⟨τ1, b1, c1, m1, r1, R1, F1, G1, _⟩ := b_addFour (N := N) (x := x1) H (by omega)
  have l1 : (l ++ by4 x1).length = l.length + 4 := by simp [by4]
  obtain ⟨τ2, b2, c2, m2, r2, R2, F2, G2, _⟩ := b_addFour (N := N) (x := x2) R1 (by omega)
  have l2 : (l ++ by4 x1 ++ by4 x2).length = l.length + 8 := by simp [by4]
  obtain ⟨τ3, b3, c3, m3, r3, R3, F3, G3, _⟩ := b_addFour (N := N) (x := x3) R2 (by omega)
  have l3 : (l ++ by4 x1 ++ by4 x2 ++ by4 x3).length = l.length + 12 := by simp [by4]
  obtain ⟨τ4, b4, c4, m4, r4, R4, F4, G4, _⟩ := b_addFour (N := N) (x := x4) R3 (by omega)
  have l4 : (l ++ by4 x1 ++ by4 x2 ++ by4 x3 ++ by4 x4).length = l.length + 16 := by simp [by4]
  obtain ⟨τ5, b5, c5, m5, r5, R5, F5, G5, _⟩ := b_addFour (N := N) (x := x5) R4 (by omega)
  have l5 : (l ++ by4 x1 ++ by4 x2 ++ by4 x3 ++ by4 x4 ++ by4 x5).length = l.length + 20 := by simp [by4]
  have F12 := Fr_trans F1 F2 G1.2.2.1
  have G12 := Gw_trans G1 G2
  have F13 := Fr_trans F12 F3 G12.2.2.1
  have G13 := Gw_trans G12 G3
  have F14 := Fr_trans F13 F4 G13.2.2.1
  have G14 := Gw_trans G13 G4
  have F15 := Fr_trans F14 F5 G14.2.2.1
  have G15 := Gw_trans G14 G5
  have k : ∀ τ', Fr br bb τ τ' → hT τ' pr = 15 ∧ hR τ' 7 0 pr = some br := fun τ' F => ⟨by rw [(F.2.1 pr hpr).1]; exact h15, by rw [F.2.2.2.1 7 0 pr hpr (by omega)]; exact h70⟩
  refine ⟨τ5, b5, _, _, ?_, ?_, F15, G15⟩
  · have hlen : l.length ≤ 8000 := by omega
    unfold f_PR_feed
    refine X_chk h15 (X_rfO h70 (X_chk H.1.1 (X_if (by rw [H.2.1.1]; show nI _ + nI 20 ≤ nI 8000; rw [n_add, n_le (by omega) (by omega)]; exact hl) (X_A r1 (X_tk (a := (nI (l.length + 20), τ5)) (c' := c5 + (c4 + (c3 + c2))) (m' := m5 + (m4 + (m3 + m2))) ?_ (by congr 3 <;> omega))))))
    refine X_chk (k _ F1).1 (X_rfO (k _ F1).2 (X_chk R1.1.1 (X_A r2 (X_tk (a := (nI (l.length + 20), τ5)) (c' := c5 + (c4 + c3)) (m' := m5 + (m4 + m3)) ?_ (by congr 3 <;> omega)))))
    refine X_chk (k _ F12).1 (X_rfO (k _ F12).2 (X_chk R2.1.1 (X_A r3 (X_tk (a := (nI (l.length + 20), τ5)) (c' := c5 + c4) (m' := m5 + m4) ?_ (by congr 3 <;> omega)))))
    refine X_chk (k _ F13).1 (X_rfO (k _ F13).2 (X_chk R3.1.1 (X_A r4 (X_tk (a := (nI (l.length + 20), τ5)) (c' := c5) (m' := m5) ?_ (by congr 3 <;> omega)))))
    refine X_chk (k _ F14).1 (X_rfO (k _ F14).2 (X_chk R4.1.1 (X_A r5 (X_tk (a := (nI (l.length + 20), τ5)) (c' := 0) (m' := 0) ?_ (by congr 3 <;> omega)))))
    refine X_chk (k _ F15).1 (X_rfO (k _ F15).2 (X_chk R5.1.1 ?_))
    rw [R5.2.1.1, l5]
  · have e : l ++ (b20 x1 x2 x3 x4 x5).map sx = l ++ by4 x1 ++ by4 x2 ++ by4 x3 ++ by4 x4 ++ by4 x5 := by
      simp only [b20, List.map_append, by4_sx, List.append_assoc]
    rw [e]; exact R5
/-- again: the reference -/
theorem ra_loop {lo : List Nat} (hl : lo.length ≤ 8000) : ∀ m j (S : rm_S) fu, lo.length - j ≤ m → m < fu → j ≤ lo.length → S.1 2 = nI lo.length → (∀ i (hi : i < lo.length), S.2 2 i = nI lo[i]) → ∃ S', k_RM_again_10 N fu (nI j) S = some (nI lo.length, S') ∧ S'.1 = S.1 ∧ (∀ o, o ≠ 1 → S'.2 o = S.2 o) ∧ (∀ i, i < j → S'.2 1 i = S.2 1 i) ∧ (∀ i (hi : i < lo.length), j ≤ i → S'.2 1 i = nI lo[i]) := by
  have fin : ∀ (S : rm_S) fu, S.1 2 = nI lo.length → k_RM_again_10 N (fu + 1) (nI lo.length) S = some (nI lo.length, S) := by
    intro S fu h
    unfold k_RM_again_10
    exact X_if (by rw [h]; exact Int32.le_refl _) (by rw [h])
  intro m
  induction m with
  | zero =>
    intro j S fu h1 hfu hj h2 h3
    obtain ⟨fu, rfl⟩ : ∃ x, fu = x + 1 := ⟨fu - 1, by omega⟩
    have e : j = lo.length := by omega
    subst e
    exact ⟨S, fin S fu h2, rfl, fun _ _ => rfl, fun _ _ => rfl, fun i hi h => by omega⟩
  | succ m ih =>
    intro j S fu h1 hfu hj h2 h3
    obtain ⟨fu, rfl⟩ : ∃ x, fu = x + 1 := ⟨fu - 1, by omega⟩
    by_cases e : j = lo.length
    · subst e
      exact ⟨S, fin S fu h2, rfl, fun _ _ => rfl, fun _ _ => rfl, fun i hi h => by omega⟩
    · have hj' : j < lo.length := by omega
      have hnn : (nI j).toNatClampNeg = j := n_nat (by omega)
      obtain ⟨S', q1, q2, q3, q4, q5⟩ := ih (j + 1) (rs_a S 1 j (nI lo[j])) fu (by omega) (by omega) (by omega) (by rw [rs_a1]; exact h2) (fun i hi => by rw [rs_a2, if_neg (by omega)]; exact h3 i hi)
      refine ⟨S', ?_, q2, fun o ho => by rw [q3 o ho]; funext i; rw [rs_a2, if_neg (fun h => ho h.1)], fun i hi => by rw [q4 i (by omega), rs_a2, if_neg (by omega)], fun i hi hji => ?_⟩
      · unfold k_RM_again_10
        refine X_nif (by rw [h2, n_le (by omega) (by omega)]; omega) (X_chk (by rw [n_ib (by omega)]; omega) (X_chk (by rw [n_ib (by omega)]; omega) (X_bndE (x' := nI lo[j]) (by rw [hnn]; exact h3 j hj') ?_)))
        rw [hnn, show nI j + 1 = nI (j + 1) from n_add j 1]
        exact q1
      · by_cases ei : i = j
        · subst ei
          rw [q4 i (by omega), rs_a2, if_pos ⟨rfl, rfl⟩]
        · exact q5 i hi (by omega)
end FEED
