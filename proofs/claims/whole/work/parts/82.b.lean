/-! the questions: nodes, node, part, whole -/
def root (F : Fo) : Fo := .inner 0 (0, 4294967295, 0) () F .leaf
theorem txt_root (F : Fo) : txt F = pre (root F) 0 (-1) := by
  show ((0, -1, 0, -1, nI (siz F + 1)) :: pre F 1 0) = (nI 0, nI 4294967295, 0, -1, nI (siz F + 1)) :: (pre F (0 + 1) (nI 0) ++ [])
  rw [List.append_nil]; rfl
theorem rkT_root (F : Fo) : rkT F = rks (root F) 0 := by
  show ((nI (nro F), 0) :: rks F 0) = (nI (nro F), nI 0) :: (rks F 0 ++ [])
  rw [List.append_nil]; rfl
/-- the node at a place, with its parts -/
theorem pre_at : ∀ (F : Fo) (s : Nat) (w : Int32) (i j : Nat), i < siz F → ∃ x c w' r a b, pre F s w = a ++ ((nI x.1, nI x.2.1, x.2.2, w', nI (siz c + 1)) :: (pre c (s + i + 1) (nI (s + i)) ++ b)) ∧ a.length = i ∧ (rks F j)[i]? = some (nI (nro c), r) ∧ (∀ n, wt n F → wt n (.inner 0 x () c .leaf)) ∧ hgt c + 1 ≤ hgt F := by
  intro F
  induction F with
  | leaf => intro s w i j h; simp [siz] at h
  | inner n x u c m ic im =>
    intro s w i j h
    simp only [siz] at h
    by_cases h0 : i = 0
    · subst h0
      refine ⟨x, c, w, nI j, [], pre m (s + 1 + siz c) w, ?_, rfl, by simp [rks], fun n' hw => ?_, by simp only [hgt]; omega⟩
      · simp only [pre, List.nil_append, Nat.add_zero]
      · obtain ⟨h1, h2, h3, h4, h5⟩ := hw
        exact ⟨h1, h2, h3, h4, trivial⟩
    · by_cases h1 : i - 1 < siz c
      · obtain ⟨x', c', w', r, a, b, e1, e2, e3, e4, e5⟩ := ic (s + 1) (nI s) (i - 1) 0 h1
        refine ⟨x', c', w', r, (nI x.1, nI x.2.1, x.2.2, w, nI (siz c + 1)) :: a, b ++ pre m (s + 1 + siz c) w, ?_, by simp; omega, ?_, fun n' hw => e4 n' hw.2.2.2.1, by simp only [hgt]; omega⟩
        · rw [show s + 1 + (i - 1) = s + i by omega] at e1
          simp only [pre, e1, List.cons_append, List.append_assoc]
        · have hl : (rks c 0).length = siz c := rks_len c 0
          simp only [rks]
          rw [List.getElem?_cons, if_neg h0, List.getElem?_append_left (by omega)]
          exact e3
      · obtain ⟨x', c', w', r, a, b, e1, e2, e3, e4, e5⟩ := im (s + 1 + siz c) w (i - 1 - siz c) (j + 1) (by omega)
        refine ⟨x', c', w', r, ((nI x.1, nI x.2.1, x.2.2, w, nI (siz c + 1)) :: pre c (s + 1) (nI s)) ++ a, b, ?_, by simp [pre_len]; omega, ?_, fun n' hw => e4 n' hw.2.2.2.2, by simp only [hgt]; omega⟩
        · rw [show s + 1 + siz c + (i - 1 - siz c) = s + i by omega] at e1
          simp only [pre, e1, List.cons_append, List.append_assoc]
        · have hl : (rks c 0).length = siz c := rks_len c 0
          simp only [rks]
          rw [List.getElem?_cons, if_neg h0, List.getElem?_append_right (by omega), hl]
          exact e3
section ASK
variable {τ : mh_H} {own P V : Nat → Nat} {lf lo : List Nat} {nt : List (List Int32)} {F : Nat → Fo} {S : rm_S} {N : Nat}
theorem neg_or (x : Int32) : x < 0 ∨ ∃ n, n < 2147483648 ∧ x = nI n := by
  by_cases h : x < 0
  · exact Or.inl h
  · exact Or.inr (n_pos x h)
theorem has_no_tree {pr : Nat} {x : Int32} (h : ¬ ∃ t, t < 2 ∧ x = nI t) : f_PR_hasTree N pr x τ = some (0, τ) ∧ (x < 0 ∨ (¬ x < 0 ∧ 2 ≤ x)) := by
  rcases neg_or x with hx | ⟨n, hn, hx⟩
  · exact ⟨by unfold f_PR_hasTree; exact X_if hx rfl, Or.inl hx⟩
  · subst hx
    have h2 : 2 ≤ n := by
      apply Nat.le_of_not_lt
      intro hlt; exact h ⟨n, hlt, rfl⟩
    have n0 : ¬ nI n < 0 := by show ¬ nI n < nI 0; rw [n_lt (by omega) (by omega)]; omega
    have n2 : 2 ≤ nI n := by show nI 2 ≤ nI n; rw [n_le (by omega) (by omega)]; exact h2
    exact ⟨by unfold f_PR_hasTree; exact X_nif n0 (X_if n2 rfl), Or.inr ⟨n0, n2⟩⟩
theorem has_cases (H : CS τ own P V lf lo nt F) (I : RI S lf lo nt F) (x1 x2 : Int32) : (∃ t n, t < 2 ∧ n < siz (F t) + 1 ∧ x1 = nI t ∧ x2 = nI n ∧ f_PR_hasTree N (P 0) x1 τ = some (1, τ) ∧ f_TR_has N (P (8 + t)) x2 τ = some (1, τ) ∧ f_RM_has N x1 x2 S = some (1, S)) ∨ ((f_PR_hasTree N (P 0) x1 τ = some (0, τ) ∨ ∃ t, t < 2 ∧ x1 = nI t ∧ f_PR_hasTree N (P 0) x1 τ = some (1, τ) ∧ f_TR_has N (P (8 + t)) x2 τ = some (0, τ)) ∧ f_RM_has N x1 x2 S = some (0, S)) := by
  obtain ⟨HC0, HCW, HF, HO, HS, H4, H6, H7⟩ := H
  obtain ⟨⟨x1', x2', x3'⟩, ⟨y0, y1, y2, y3, y4, y5, y6, y7, y8⟩, yQ, ⟨x4, x5⟩, ox0, ox1⟩ := HC0
  by_cases ht : ∃ t, t < 2 ∧ x1 = nI t
  · obtain ⟨t, ht, rfl⟩ := ht
    obtain ⟨TLt, _⟩ := H7 t ht
    have hTR := I.2.2.2.2 t ht
    have hnt : (nI t).toNatClampNeg = t := n_nat (by omega)
    have htl := txt_len (F t)
    have hsz : (txt (F t)).length ≤ 30000 := by have := TLt.2.2.2.1; omega
    have c1 : ¬ nI t < 0 := by show ¬ nI t < nI 0; rw [n_lt (by omega) (by omega)]; omega
    have c2 : ¬ 2 ≤ nI t := by show ¬ nI 2 ≤ nI t; rw [n_le (by omega) (by omega)]; omega
    have ibt : ib (nI t) 2 := by rw [n_ib (by omega)]; exact ht
    rcases neg_or x2 with hx | ⟨n, hn, rfl⟩
    · right
      refine ⟨Or.inr ⟨t, ht, rfl, has_tree ht, t_hasx hx⟩, ?_⟩
      unfold f_RM_has
      exact X_nif c1 (X_nif c2 (X_if hx rfl))
    · have c3 : ¬ nI n < 0 := by show ¬ nI n < nI 0; rw [n_lt (by omega) (by omega)]; omega
      by_cases hlt : n < siz (F t) + 1
      · left
        refine ⟨t, n, ht, hlt, rfl, rfl, has_tree ht, t_has TLt.1 TLt.2.2.1 (by omega) (by omega), ?_⟩
        unfold f_RM_has
        exact X_nif c1 (X_nif c2 (X_nif c3 (X_chk ibt (X_nif (by rw [hnt, hTR.1, n_le (by omega) (by omega)]; omega) rfl))))
      · right
        refine ⟨Or.inr ⟨t, ht, rfl, has_tree ht, t_hasn TLt.1 TLt.2.2.1 (by omega) (by omega) hn⟩, ?_⟩
        unfold f_RM_has
        exact X_nif c1 (X_nif c2 (X_nif c3 (X_chk ibt (X_if (by rw [hnt, hTR.1, n_le (by omega) (by omega)]; omega) rfl))))
  · right
    obtain ⟨h1, h2⟩ := has_no_tree (τ := τ) (N := N) (pr := P 0) ht
    refine ⟨Or.inl h1, ?_⟩
    unfold f_RM_has
    rcases h2 with h | h
    · exact X_if h rfl
    · exact X_nif h.1 (X_if h.2 rfl)
theorem ask_nodes (H : CS τ own P V lf lo nt F) (I : RI S lf lo nt F) (x1 : Int32) : ∃ v, f_PR_nodes N (P 0) x1 τ = some (v, τ) ∧ f_RM_nodes N x1 S = some (v, S) := by
  obtain ⟨HC0, HCW, HF, HO, HS, H4, H6, H7⟩ := H
  obtain ⟨⟨x1', x2', x3'⟩, ⟨y0, y1, y2, y3, y4, y5, y6, y7, y8⟩, yQ, ⟨x4, x5⟩, ox0, ox1⟩ := HC0
  by_cases ht : ∃ t, t < 2 ∧ x1 = nI t
  · obtain ⟨t, ht, rfl⟩ := ht
    obtain ⟨TLt, _⟩ := H7 t ht
    have hTR := I.2.2.2.2 t ht
    have hnt : (nI t).toNatClampNeg = t := n_nat (by omega)
    have ibt : ib (nI t) 2 := by rw [n_ib (by omega)]; exact ht
    refine ⟨nI (txt (F t)).length, ?_, ?_⟩
    · unfold f_PR_nodes
      refine X_chk x1' (X_I (has_tree ht) (X_nif n10 (X_chk x1' (X_rfO y8 (X_chk x2' (X_chk (by rw [x3']; exact ibt) (X_rfO (by rw [hnt]; exact yQ t ht) (X_chk TLt.1 ?_))))))))
      rw [TLt.2.2.1]
    · unfold f_RM_nodes
      refine X_nif (by show ¬ nI t < nI 0; rw [n_lt (by omega) (by omega)]; omega) (X_if (by show nI t ≤ nI 1; rw [n_le (by omega) (by omega)]; omega) (X_chk ibt ?_))
      rw [hnt, hTR.1]
  · obtain ⟨h1, h2⟩ := has_no_tree (τ := τ) (N := N) (pr := P 0) ht
    refine ⟨0, by unfold f_PR_nodes; exact X_chk x1' (X_I h1 (X_if rfl rfl)), ?_⟩
    unfold f_RM_nodes
    rcases h2 with h | h
    · exact X_if h rfl
    · refine X_nif h.1 (X_nif ?_ rfl)
      rcases neg_or x1 with hx | ⟨n, hn, rfl⟩
      · exact absurd hx h.1
      · show ¬ nI n ≤ nI 1
        rw [n_le (by omega) (by omega)]
        intro hle
        exact ht ⟨n, by omega, rfl⟩
end ASK
