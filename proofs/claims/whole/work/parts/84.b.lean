/-! the questions: names, spelt, written, same -/
theorem b255 : ∀ c, c < 128 → nI c &&& 255 = nI c := by decide +kernel
theorem sx255 : ∀ c, c < 256 → sx c &&& 255 = nI c := by decide +kernel
section ASK4
variable {τ : mh_H} {own P V : Nat → Nat} {lf lo : List Nat} {nt : List (List Int32)} {F : Nat → Fo} {S : rm_S} {N : Nat}
theorem ask_names (H : CS τ own P V lf lo nt F) (I : RI S lf lo nt F) : ∃ v, f_PR_names N (P 0) τ = some (v, τ) ∧ f_RM_names N S = some (v, S) := by
  obtain ⟨HC0, HCW, HF, HO, HS, H4, H6, H7⟩ := H
  refine ⟨nI nt.length, ?_, ?_⟩
  · unfold f_PR_names
    refine X_chk HC0.1.1 (X_rfO HC0.2.1.2.2.2.2.2.2.1 (X_chk H6.1.1.1 ?_))
    rw [H6.1.1.2.2.2.2.1]
  · unfold f_RM_names
    rw [I.2.2.2.1]
theorem flat_wb (hok : ∀ w ∈ nt, okw w) {k i : Nat} (hk : k < nt.length) (hi : i < nt[k].length) : nt[k][i] &&& 255 = nt[k][i] := by
  obtain ⟨l, h1, h2, h3, h4, h5⟩ := hok nt[k] (List.getElem_mem hk)
  have hl : i < l.length := by rw [h1] at hi; simpa using hi
  have e : nt[k][i] = nI l[i] := by simp only [h1, List.getElem_map]
  rw [e]
  exact b255 _ (wb_lt (h4 l[i] (List.getElem_mem hl)))
theorem ask_spelt (H : CS τ own P V lf lo nt F) (I : RI S lf lo nt F) (hok : ∀ w ∈ nt, okw w) (x1 x2 : Int32) : ∃ v, f_PR_spelt N (P 0) x1 x2 τ = some (v, τ) ∧ f_RM_spelt N x1 x2 S = some (v, S) := by
  obtain ⟨HC0, HCW, HF, HO, HS, H4, H6, H7⟩ := H
  obtain ⟨i1, i2, ⟨t1, t2, t3, t4⟩, i6, i7⟩ := I
  have E := NV_NE H6.1.1
  have hRw : Rw τ (P 7) (V 9) 16384 nt.flatten := H6.1.1.2.2.2.2.2.2.2.1
  have hd : ∀ v, f_NA_byteOf N (P 6) x1 x2 τ = some (v, τ) → f_PR_spelt N (P 0) x1 x2 τ = some (v, τ) := by
    intro v hv
    unfold f_PR_spelt
    exact X_chk HC0.1.1 (X_rfO HC0.2.1.2.2.2.2.2.2.1 (X_chk H6.1.1.1 (X_I hv rfl)))
  have E' := E
  obtain ⟨⟨a1, a2, a3⟩, ⟨a4, a5, a6⟩, ⟨c1, c2, c3, c4, c5⟩, ⟨e1, e2, e3⟩, ⟨f1, f2⟩, ⟨g1, g2, g3, g4, g5⟩, hs, hl⟩ := E
  rcases neg_or x1 with hx | ⟨k, hk, rfl⟩
  · exact ⟨-1, hd _ (by unfold f_NA_byteOf; exact X_if hx rfl), by unfold f_RM_spelt; exact X_if hx rfl⟩
  · have n1 : ¬ nI k < 0 := by show ¬ nI k < nI 0; rw [n_lt (by omega) (by omega)]; omega
    by_cases hkl : nt.length ≤ k
    · have cc : nI nt.length ≤ nI k := by rw [n_le (by omega) (by omega)]; exact hkl
      exact ⟨-1, hd _ (by unfold f_NA_byteOf; exact X_nif n1 (X_chk a1 (X_if (by rw [f1]; exact cc) rfl))), by unfold f_RM_spelt; exact X_nif n1 (X_if (by rw [i6]; exact cc) rfl)⟩
    · have cc : ¬ nI nt.length ≤ nI k := by rw [n_le (by omega) (by omega)]; exact hkl
      have hkl' : k < nt.length := by omega
      rcases neg_or x2 with hx | ⟨j, hj, rfl⟩
      · exact ⟨-1, hd _ (by unfold f_NA_byteOf; exact X_nif n1 (X_chk a1 (X_nif (by rw [f1]; exact cc) (X_if hx rfl)))), by unfold f_RM_spelt; exact X_nif n1 (X_nif (by rw [i6]; exact cc) (X_if hx rfl))⟩
      · have n2 : ¬ nI j < 0 := by show ¬ nI j < nI 0; rw [n_lt (by omega) (by omega)]; omega
        have h1 := st_succ nt k hkl'
        have h2 := st_mono nt (show k + 1 ≤ nt.length by omega) (Nat.le_refl _)
        have hst := n_start (N := N) (k := k) E' (by omega)
        have ek : nI (st nt (k + 1)) - nI (st nt k) = nI nt[k].length := by rw [h1, n_sub (by omega)]; congr 1; omega
        have hnk : (nI k).toNatClampNeg = k := n_nat (by omega)
        have hnk1 : nI k + 1 = nI (k + 1) := n_add k 1
        have hnk2 : (nI (k + 1)).toNatClampNeg = k + 1 := n_nat (by omega)
        by_cases hjl : j < nt[k].length
        · have ea : nI (st nt k) + nI j = nI (st nt k + j) := n_add _ _
          obtain ⟨y1, y2⟩ := flat_get nt k hkl' j hjl
          have hb := b_at (N := N) (x := nI (st nt k + j)) hRw
          rw [n_nat (by omega), if_pos ⟨by show ¬ nI _ < nI 0; rw [n_lt (by omega) (by omega)]; omega, y1⟩] at hb
          have eg : nt.flatten.getD (st nt k + j) 0 = nt[k][j] := by rw [List.getD_eq_getElem?_getD, List.getElem?_eq_getElem y1, Option.getD_some, y2]
          rw [eg, flat_wb hok hkl' hjl] at hb
          refine ⟨nt[k][j], hd _ ?_, ?_⟩
          · unfold f_NA_byteOf
            refine X_nif n1 (X_chk a1 (X_nif (by rw [f1]; exact cc) (X_nif n2 (X_rfO c2 (X_chk a4 (X_chk (by rw [n_ib (by omega)]; omega) (X_I hst (X_if ?_ (X_chk a1 (X_rfO c1 (X_I hst (X_chk a2 (X_I (a := nt[k][j]) (s := τ) ?_ rfl)))))))))))))
            · rw [hnk, hs k hkl', ek, n_lt (by omega) (by omega)]; exact hjl
            · rw [ea]; exact hb
          · unfold f_RM_spelt
            refine X_nif n1 (X_nif (by rw [i6]; exact cc) (X_nif n2 (X_chk (by rw [hnk1, n_ib (by omega)]; omega) (X_chk (by rw [n_ib (by omega)]; omega) (X_if ?_ (X_chk (by rw [n_ib (by omega)]; omega) (X_chk ?_ ?_)))))))
            · rw [hnk1, hnk2, hnk, t1 (k + 1) (by omega), t1 k (by omega), ek, n_lt (by omega) (by omega)]; exact hjl
            · rw [hnk, t1 k (by omega), ea, n_ib (by omega)]; omega
            · rw [hnk, t1 k (by omega), ea, n_nat (by omega), t2 k hkl' j hjl]
        · refine ⟨-1, hd _ ?_, ?_⟩
          · unfold f_NA_byteOf
            refine X_nif n1 (X_chk a1 (X_nif (by rw [f1]; exact cc) (X_nif n2 (X_rfO c2 (X_chk a4 (X_chk (by rw [n_ib (by omega)]; omega) (X_I hst (X_nif ?_ rfl))))))))
            rw [hnk, hs k hkl', ek, n_lt (by omega) (by omega)]; exact hjl
          · unfold f_RM_spelt
            refine X_nif n1 (X_nif (by rw [i6]; exact cc) (X_nif n2 (X_chk (by rw [hnk1, n_ib (by omega)]; omega) (X_chk (by rw [n_ib (by omega)]; omega) (X_nif ?_ rfl)))))
            rw [hnk1, hnk2, hnk, t1 (k + 1) (by omega), t1 k (by omega), ek, n_lt (by omega) (by omega)]; exact hjl
theorem ask_written (H : CS τ own P V lf lo nt F) (I : RI S lf lo nt F) (hby : ∀ x ∈ lo, x < 256) (x1 : Int32) : ∃ v, f_PR_written N (P 0) x1 τ = some (v, τ) ∧ f_RM_written N x1 S = some (v, S) := by
  obtain ⟨HC0, HCW, HF, HO, HS, H4, H6, H7⟩ := H
  obtain ⟨i1, ⟨i3, i4⟩, i5, i6, i7⟩ := I
  have hb := b_at (N := N) (x := x1) HO.1
  have hd : ∀ v, f_BR_byteAt N (V 1) x1 τ = some (v, τ) → f_PR_written N (P 0) x1 τ = some (v, τ) := by
    intro v hv
    unfold f_PR_written
    exact X_chk HC0.1.1 (X_rfO HC0.2.1.2.1 (X_chk HO.1.1.1 (X_I hv rfl)))
  have hl8 : lo.length ≤ 8000 := by have := HO.1.2.2.1.2.2.1; simpa using this
  rcases neg_or x1 with hx | ⟨k, hk, rfl⟩
  · rw [if_neg (fun h => h.1 hx)] at hb
    exact ⟨-1, hd _ hb, by unfold f_RM_written; exact X_if hx rfl⟩
  · have n1 : ¬ nI k < 0 := by show ¬ nI k < nI 0; rw [n_lt (by omega) (by omega)]; omega
    rw [n_nat hk] at hb
    by_cases hkl : k < lo.length
    · rw [if_pos ⟨n1, by simpa using hkl⟩] at hb
      have eg : (lo.map sx).getD k 0 = sx lo[k] := by simp [List.getD, hkl]
      rw [eg, sx255 _ (hby _ (List.getElem_mem hkl))] at hb
      refine ⟨nI lo[k], hd _ hb, ?_⟩
      unfold f_RM_written
      refine X_nif n1 (X_if (by rw [i3, n_lt (by omega) (by omega)]; exact hkl) (X_chk (by rw [n_ib (by omega)]; omega) ?_))
      rw [n_nat hk, i4 k hkl]
    · rw [if_neg (fun h => hkl (by simpa using h.2))] at hb
      refine ⟨-1, hd _ hb, ?_⟩
      unfold f_RM_written
      exact X_nif n1 (X_nif (by rw [i3, n_lt (by omega) (by omega)]; exact hkl) rfl)
end ASK4
/-! same -/
section SAME
variable {K W0 W Z K' W0' W' Z' : Nat → Int32}
theorem z2w : ∀ (F G : Fo) (s : Nat) (w : Int32), Fa K W0 W Z F s w → Fa K' W0' W' Z' G s w → siz F = siz G → s + siz F < 40000 → (∀ i, i < siz F → Z (s + i) = Z' (s + i)) → ∀ i, i < siz F → W (s + i) = W' (s + i) := by
  intro F
  induction F with
  | leaf => intro G s w _ _ _ _ _ i hi; simp [siz] at hi
  | inner n x u c m ic im =>
    intro G s w hF hG hs hb hz i hi
    cases G with
    | leaf => simp only [siz] at hs; omega
    | inner n' x' u' c' m' =>
      obtain ⟨⟨f1, f2, f3, f4⟩, f5, f6⟩ := hF
      obtain ⟨⟨g1, g2, g3, g4⟩, g5, g6⟩ := hG
      simp only [siz] at hs hb hz hi
      have hc : siz c = siz c' := by
        have := hz 0 (by omega)
        rw [Nat.add_zero, f4, g4, n_eq (by omega) (by omega)] at this
        omega
      rw [← hc] at g6
      by_cases h0 : i = 0
      · subst h0; rw [Nat.add_zero, f3, g3]
      · by_cases h1 : i - 1 < siz c
        · have := ic c' (s + 1) (nI s) f5 g5 hc (by omega) (fun k hk => by have := hz (k + 1) (by omega); rw [show s + (k + 1) = s + 1 + k by omega] at this; exact this) (i - 1) h1
          rw [show s + 1 + (i - 1) = s + i by omega] at this; exact this
        · have := im m' (s + 1 + siz c) w f6 g6 (by omega) (by omega) (fun k hk => by have := hz (k + 1 + siz c) (by omega); rw [show s + (k + 1 + siz c) = s + 1 + siz c + k by omega] at this; exact this) (i - 1 - siz c) (by omega)
          rw [show s + 1 + siz c + (i - 1 - siz c) = s + i by omega] at this; exact this
theorem w_in : ∀ (F : Fo) (s k : Nat), Fa K W0 W Z F s (nI k) → k < s → ∀ i, i < siz F → ∃ j, k ≤ j ∧ j < s + siz F ∧ W (s + i) = nI j := by
  intro F
  induction F with
  | leaf => intro s k _ _ i hi; simp [siz] at hi
  | inner n x u c m ic im =>
    intro s k hF hk i hi
    obtain ⟨⟨f1, f2, f3, f4⟩, f5, f6⟩ := hF
    simp only [siz] at hi ⊢
    by_cases h0 : i = 0
    · subst h0; exact ⟨k, by omega, by omega, by rw [Nat.add_zero]; exact f3⟩
    · by_cases h1 : i - 1 < siz c
      · obtain ⟨j, q1, q2, q3⟩ := ic (s + 1) s f5 (by omega) (i - 1) h1
        rw [show s + 1 + (i - 1) = s + i by omega] at q3
        exact ⟨j, by omega, by omega, q3⟩
      · obtain ⟨j, q1, q2, q3⟩ := im (s + 1 + siz c) k f6 (by omega) (i - 1 - siz c) (by omega)
        rw [show s + 1 + siz c + (i - 1 - siz c) = s + i by omega] at q3
        exact ⟨j, by omega, by omega, q3⟩
theorem w2z : ∀ (F G : Fo) (s : Nat) (w : Int32), Fa K W0 W Z F s w → Fa K' W0' W' Z' G s w → siz F = siz G → s + siz F < 40000 → (w = -1 ∨ ∃ k, k < s ∧ w = nI k) → (∀ i, i < siz F → W (s + i) = W' (s + i)) → ∀ i, i < siz F → Z (s + i) = Z' (s + i) := by
  intro F
  induction F with
  | leaf => intro G s w _ _ _ _ _ _ i hi; simp [siz] at hi
  | inner n x u c m ic im =>
    intro G s w hF hG hs hb hw0 hw i hi
    cases G with
    | leaf => simp only [siz] at hs; omega
    | inner n' x' u' c' m' =>
      obtain ⟨⟨f1, f2, f3, f4⟩, f5, f6⟩ := hF
      obtain ⟨⟨g1, g2, g3, g4⟩, g5, g6⟩ := hG
      simp only [siz] at hs hb hw hi
      have notw : ∀ j, s ≤ j → j < 40000 → w ≠ nI j := by
        intro j h1 h2 e
        rcases hw0 with h | ⟨k, hk, h⟩
        · rw [h] at e
          have : (nI j = -nI 1) = False := n_m1 (by omega)
          exact this.mp e.symm
        · rw [h, n_eq (by omega) (by omega)] at e; omega
      have hc : siz c = siz c' := by
        apply Nat.le_antisymm
        · apply Nat.le_of_not_lt
          intro hlt
          -- the first of the second row's rest stands within c
          have hm' : 0 < siz m' := by omega
          have e1 : W' (s + 1 + siz c') = w := by
            cases m' with
            | leaf => simp [siz] at hm'
            | inner a b d e f => exact g6.1.2.2.1
          obtain ⟨j, q1, q2, q3⟩ := w_in c (s + 1) s f5 (by omega) (siz c') hlt
          have := hw (1 + siz c') (by omega)
          rw [show s + (1 + siz c') = s + 1 + siz c' by omega, q3, e1] at this
          exact notw j (by omega) (by omega) this.symm
        · apply Nat.le_of_not_lt
          intro hlt
          have hm' : 0 < siz m := by omega
          have e1 : W (s + 1 + siz c) = w := by
            cases m with
            | leaf => simp [siz] at hm'
            | inner a b d e f => exact f6.1.2.2.1
          obtain ⟨j, q1, q2, q3⟩ := w_in c' (s + 1) s g5 (by omega) (siz c) hlt
          have := hw (1 + siz c) (by omega)
          rw [show s + (1 + siz c) = s + 1 + siz c by omega, q3, e1] at this
          exact notw j (by omega) (by omega) this
      rw [← hc] at g6 g4
      by_cases h0 : i = 0
      · subst h0; rw [Nat.add_zero, f4, g4]
      · by_cases h1 : i - 1 < siz c
        · have := ic c' (s + 1) (nI s) f5 g5 hc (by omega) (Or.inr ⟨s, by omega, rfl⟩) (fun k hk => by have := hw (k + 1) (by omega); rw [show s + (k + 1) = s + 1 + k by omega] at this; exact this) (i - 1) h1
          rw [show s + 1 + (i - 1) = s + i by omega] at this; exact this
        · have := im m' (s + 1 + siz c) w f6 g6 (by omega) (by omega) (by
            rcases hw0 with h | ⟨k, hk, h⟩
            · exact Or.inl h
            · exact Or.inr ⟨k, by omega, h⟩) (fun k hk => by have := hw (k + 1 + siz c) (by omega); rw [show s + (k + 1 + siz c) = s + 1 + siz c + k by omega] at this; exact this) (i - 1 - siz c) (by omega)
          rw [show s + 1 + siz c + (i - 1 - siz c) = s + i by omega] at this; exact this
end SAME
