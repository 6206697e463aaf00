/-! words of both -/
def wl (g : Nat → Nat) (i l : Nat) : List Int32 := (List.range l).map fun j => nI (g (i + j))
theorem wl_len (g : Nat → Nat) (i l : Nat) : (wl g i l).length = l := by simp [wl]
theorem wl_get (g : Nat → Nat) (i l j : Nat) (h : j < (wl g i l).length) : (wl g i l)[j] = nI (g (i + j)) := by simp [wl]
theorem sb_len : ∀ s, s < 67 → (s_b s).length < 100 := by decide +kernel
/-- a word against a text: how far they agree -/
theorem wl_eq {g : Nat → Nat} {i l : Nat} {w : List Int32} (hl : w.length = l) (h : ∀ x (hx : x < w.length), w[x] = nI (g (i + x))) : w = wl g i l := by
  apply List.ext_getElem
  · rw [wl_len, hl]
  · intro j h1 h2; rw [wl_get, h j h1]
theorem wl_ne {g : Nat → Nat} {i l x : Nat} {w : List Int32} (hx : x < w.length) (h : ¬ w[x] = nI (g (i + x))) : ¬ w = wl g i l := by
  intro e
  apply h
  have hx2 : x < (wl g i l).length := by rw [← e]; exact hx
  have : w[x] = (wl g i l)[x]'hx2 := by simp only [e]
  rw [this, wl_get]
section WORDS
variable {τ : mh_H} {tt bt e N : Nat} {g : Nat → Nat} {S : rm_S}
theorem s_atn {s j : Nat} (hj : j < (s_b s).length) (h2 : j < 1000) : s_at s (nI j) = (s_b s)[j] := by
  rw [s_at, n_nat (by omega)]
  simp [List.getD, hj]
theorem k_spelt {s i l : Nat} (K : KE τ tt bt e g) (hs : s < 67) (hie : i + l ≤ e) (hl : (s_b s).length = l) (hw : ∀ j, j < l → g (i + j) < 128) : ∀ m j fu, l - j ≤ m → m < fu → j ≤ l → (∀ x (hx : x < (s_b s).length), x < j → (s_b s)[x] = nI (g (i + x))) → k_TO_isSpelt_15 N fu tt s (nI i) (nI j) τ = some (b01 (decide (s_b s = wl g i l)), τ) := by
  obtain ⟨k1, k2, k3, k4, k5, k6, k7⟩ := K
  have hsl := sb_len s hs
  intro m
  induction m with
  | zero =>
    intro j fu h1 hfu hj hx
    obtain ⟨fu, rfl⟩ : ∃ x, fu = x + 1 := ⟨fu - 1, by omega⟩
    have ej : j = l := by omega
    have : s_b s = wl g i l := wl_eq hl (fun x hx' => hx x hx' (by omega))
    rw [decide_eq_true this]
    unfold k_TO_isSpelt_15
    exact X_chk hs (X_if (by rw [s_len, n_le (by omega) (by omega)]; omega) rfl)
  | succ m ih =>
    intro j fu h1 hfu hj hx
    obtain ⟨fu, rfl⟩ : ∃ x, fu = x + 1 := ⟨fu - 1, by omega⟩
    by_cases ej : j = l
    · have : s_b s = wl g i l := wl_eq hl (fun x hx' => hx x hx' (by omega))
      rw [decide_eq_true this]
      unfold k_TO_isSpelt_15
      exact X_chk hs (X_if (by rw [s_len, n_le (by omega) (by omega)]; omega) rfl)
    · have hjl : j < (s_b s).length := by omega
      obtain ⟨q1, q2⟩ := k6 (i + j) (by omega)
      have e1 : nI i + nI j = nI (i + j) := n_add i j
      have hsx : sx (g (i + j)) = nI (g (i + j)) := by rw [sx, if_pos (hw j (by omega))]
      have hA1 : hA τ bt (Int32.toNatClampNeg (nI i + nI j)) = nI (g (i + j)) := by rw [e1, n_nat (by omega), q1, hsx]
      unfold k_TO_isSpelt_15
      refine X_chk hs (X_nif (by rw [s_len, n_le (by omega) (by omega)]; omega) (X_chk k1 (X_rfO k2 (X_chk k3 (X_chk (by rw [e1, n_ib (by omega)]; omega) (X_chk hs (X_chk (by rw [n_ib (by omega)]; exact hjl) ?_)))))))
      by_cases hc : (s_b s)[j] = nI (g (i + j))
      · refine X_if (by rw [hA1, s_atn hjl (by omega), hc]) ?_
        rw [show nI j + 1 = nI (j + 1) from n_add j 1]
        exact ih (j + 1) fu (by omega) (by omega) (by omega) (fun x hx' hx'' => by
          by_cases ex : x = j
          · subst ex; exact hc
          · exact hx x hx' (by omega))
      · refine X_nif (by rw [hA1, s_atn hjl (by omega)]; exact fun h => hc h.symm) ?_
        rw [decide_eq_false (wl_ne hjl hc)]; rfl
theorem k_isSpelt {s i l : Nat} (K : KE τ tt bt e g) (hN : 20000 ≤ N) (hs : s < 67) (hie : i + l ≤ e) (hw : ∀ j, j < l → g (i + j) < 128) : f_TO_isSpelt N tt s (nI i) (nI (i + l)) τ = some (b01 (decide (s_b s = wl g i l)), τ) := by
  have hsl := sb_len s hs
  have he : e ≤ 8000 := K.2.2.2.2.2.2
  have e1 : nI (i + l) - nI i = nI l := by rw [n_sub (by omega)]; congr 1; omega
  unfold f_TO_isSpelt
  refine X_chk hs ?_
  by_cases hl : (s_b s).length = l
  · refine X_if (by rw [e1, s_len, hl]) ?_
    exact k_spelt K hs hie hl hw l 0 N (by omega) (by omega) (by omega) (fun x _ hx => by omega)
  · refine X_nif (by rw [e1, s_len, n_eq (by omega) (by omega)]; exact hl) ?_
    rw [decide_eq_false (fun h => hl (by rw [h, wl_len]))]; rfl
/-- which of the eight words, 8 if none -/
def kwi (w : List Int32) : Nat := if s_b 0 = w then 0 else if s_b 1 = w then 1 else if s_b 2 = w then 2 else if s_b 3 = w then 3 else if s_b 4 = w then 4 else if s_b 5 = w then 5 else if s_b 6 = w then 6 else if s_b 7 = w then 7 else 8
theorem kwi_at (w : List Int32) (k : Nat) (hk : k < 8) (h : ∀ x, x < k → ¬ s_b x = w) (he : s_b k = w) : kwi w = k := by
  have hh : ∀ x, x < 8 → x < k → ¬ s_b x = w := fun x _ hx => h x hx
  unfold kwi
  have c : k = 0 ∨ k = 1 ∨ k = 2 ∨ k = 3 ∨ k = 4 ∨ k = 5 ∨ k = 6 ∨ k = 7 := by omega
  rcases c with rfl | rfl | rfl | rfl | rfl | rfl | rfl | rfl
  · rw [if_pos he]
  · rw [if_neg (h 0 (by omega)), if_pos he]
  · rw [if_neg (h 0 (by omega)), if_neg (h 1 (by omega)), if_pos he]
  · rw [if_neg (h 0 (by omega)), if_neg (h 1 (by omega)), if_neg (h 2 (by omega)), if_pos he]
  · rw [if_neg (h 0 (by omega)), if_neg (h 1 (by omega)), if_neg (h 2 (by omega)), if_neg (h 3 (by omega)), if_pos he]
  · rw [if_neg (h 0 (by omega)), if_neg (h 1 (by omega)), if_neg (h 2 (by omega)), if_neg (h 3 (by omega)), if_neg (h 4 (by omega)), if_pos he]
  · rw [if_neg (h 0 (by omega)), if_neg (h 1 (by omega)), if_neg (h 2 (by omega)), if_neg (h 3 (by omega)), if_neg (h 4 (by omega)), if_neg (h 5 (by omega)), if_pos he]
  · rw [if_neg (h 0 (by omega)), if_neg (h 1 (by omega)), if_neg (h 2 (by omega)), if_neg (h 3 (by omega)), if_neg (h 4 (by omega)), if_neg (h 5 (by omega)), if_neg (h 6 (by omega)), if_pos he]
theorem kwi_no (w : List Int32) (h : ∀ x, x < 8 → ¬ s_b x = w) : kwi w = 8 := by
  unfold kwi
  rw [if_neg (h 0 (by omega)), if_neg (h 1 (by omega)), if_neg (h 2 (by omega)), if_neg (h 3 (by omega)), if_neg (h 4 (by omega)), if_neg (h 5 (by omega)), if_neg (h 6 (by omega)), if_neg (h 7 (by omega))]
theorem wt_txt : ∀ k, k < 8 → f_TO_wordText 0 (nI (4 + k)) = some k := by decide +kernel
theorem k_wordAt {i l : Nat} (K : KE τ tt bt e g) (hN : 20000 ≤ N) (hie : i + l ≤ e) (hw : ∀ j, j < l → g (i + j) < 128) : ∀ m k fu, 8 - k ≤ m → m < fu → k ≤ 8 → (∀ x, x < k → ¬ s_b x = wl g i l) → k_TO_wordAt_2 N fu tt (nI i) (nI (i + l)) (nI (4 + k)) τ = some (nI (if kwi (wl g i l) = 8 then 2 else 4 + kwi (wl g i l)), τ) := by
  have k1 := K.1
  intro m
  induction m with
  | zero =>
    intro k fu h1 hfu hk hx
    obtain ⟨fu, rfl⟩ : ∃ x, fu = x + 1 := ⟨fu - 1, by omega⟩
    have e8 : kwi (wl g i l) = 8 := kwi_no _ (fun x hx8 => hx x (by omega))
    rw [e8, if_pos rfl]
    unfold k_TO_wordAt_2
    refine X_if ?_ rfl
    show nI 11 < nI (4 + k)
    rw [n_lt (by omega) (by omega)]; omega
  | succ m ih =>
    intro k fu h1 hfu hk hx
    obtain ⟨fu, rfl⟩ : ∃ x, fu = x + 1 := ⟨fu - 1, by omega⟩
    by_cases h8 : k = 8
    · have e8 : kwi (wl g i l) = 8 := kwi_no _ (fun x hx8 => hx x (by omega))
      rw [e8, if_pos rfl]
      unfold k_TO_wordAt_2
      refine X_if ?_ rfl
      show nI 11 < nI (4 + k)
      rw [n_lt (by omega) (by omega)]; omega
    · have hsp := k_isSpelt (N := N) (s := k) (i := i) (l := l) K hN (by omega) hie hw
      unfold k_TO_wordAt_2
      refine X_nif ?_ (X_P (wt_txt k (by omega)) (X_chk k1 (X_I hsp ?_)))
      · show ¬ nI 11 < nI (4 + k)
        rw [n_lt (by omega) (by omega)]; omega
      · by_cases hc : s_b k = wl g i l
        · rw [decide_eq_true hc]
          have ek : kwi (wl g i l) = k := kwi_at _ k (by omega) hx hc
          have er : (if k = 8 then 2 else 4 + k) = 4 + k := if_neg h8
          rw [ek, er]
          exact X_nif n10 rfl
        · rw [decide_eq_false hc]
          refine X_if rfl ?_
          rw [show nI (4 + k) + 1 = nI (4 + (k + 1)) from n_add (4 + k) 1]
          exact ih (k + 1) fu (by omega) (by omega) (by omega) (fun x hx' => by
            by_cases ex : x = k
            · subst ex; exact hc
            · exact hx x (by omega))
/-! the reference's -/
theorem sb46 : ∀ k, k < 8 → s_b (46 + k) = s_b k := by decide +kernel
theorem g_cmp {k2 : Int32 → Int32 → Int32 → rm_S → Option (Int32 × rm_S)} {k i l : Nat} (G : GE S e g) (hk : k < 8) (hie : i + l ≤ e) (hl : (s_b k).length = l) : ∀ m j fu, l - j ≤ m → m < fu → j ≤ l → (∀ x (hx : x < (s_b k).length), x < j → (s_b k)[x] = nI (g (i + x))) → k_RM_wordOf_34 N k2 fu (nI i) (nI l) (nI k) 1 (nI j) S = if s_b k = wl g i l then some (nI (300 + k), S) else k2 (nI i) (nI l) (nI (k + 1)) S := by
  obtain ⟨k1, kk2, k3⟩ := G
  have hsl := sb_len k (by omega)
  have e300 : (300 : Int32) + nI k = nI (300 + k) := n_add 300 k
  have ek1 : nI k + 1 = nI (k + 1) := n_add k 1
  have hnk : (nI k).toNatClampNeg = k := n_nat (by omega)
  intro m
  induction m with
  | zero =>
    intro j fu h1 hfu hj hx
    obtain ⟨fu, rfl⟩ : ∃ x, fu = x + 1 := ⟨fu - 1, by omega⟩
    have ej : j = l := by omega
    have : s_b k = wl g i l := wl_eq hl (fun x hx' => hx x hx' (by omega))
    rw [if_pos this, ← e300]
    unfold k_RM_wordOf_34 k_RM_wordOf_81
    exact X_if (by rw [n_le (by omega) (by omega)]; omega) (X_nif n10 rfl)
  | succ m ih =>
    intro j fu h1 hfu hj hx
    obtain ⟨fu, rfl⟩ : ∃ x, fu = x + 1 := ⟨fu - 1, by omega⟩
    by_cases ej : j = l
    · have : s_b k = wl g i l := wl_eq hl (fun x hx' => hx x hx' (by omega))
      rw [if_pos this, ← e300]
      unfold k_RM_wordOf_34 k_RM_wordOf_81
      exact X_if (by rw [n_le (by omega) (by omega)]; omega) (X_nif n10 rfl)
    · have hjl : j < (s_b k).length := by omega
      obtain ⟨q1, q2⟩ := kk2 (i + j) (by omega)
      have e1 : nI i + nI j = nI (i + j) := n_add i j
      have hA1 : S.2 1 (Int32.toNatClampNeg (nI i + nI j)) = nI (g (i + j)) := by rw [e1, n_nat (by omega), q1]
      have hs1 : s_at (46 + (nI k).toNatClampNeg) (nI j) = (s_b k)[j] := by
        rw [hnk, s_at, sb46 k hk, n_nat (by omega)]; simp [List.getD, hjl]
      have ej1 : nI j + 1 = nI (j + 1) := n_add j 1
      have run : ∀ y, (if S.2 1 (Int32.toNatClampNeg (nI i + nI j)) = s_at (46 + (nI k).toNatClampNeg) (nI j) then k_RM_wordOf_34 N k2 fu (nI i) (nI l) (nI k) 1 (nI j + 1) S else k_RM_wordOf_34 N k2 fu (nI i) (nI l) (nI k) 0 (nI j + 1) S) = y → k_RM_wordOf_34 N k2 (fu + 1) (nI i) (nI l) (nI k) 1 (nI j) S = y := by
        intro y hy
        conv => lhs; unfold k_RM_wordOf_34
        exact X_nif (by rw [n_le (by omega) (by omega)]; omega) (X_nif n10 (X_chk (by rw [e1, n_ib (by omega)]; omega) (X_chk (by rw [n_ib (by omega)]; omega) (X_chk (by rw [hnk]; omega) (X_chk (by rw [hnk, sb46 k hk, n_ib (by omega)]; exact hjl) hy)))))
      apply run
      by_cases hc : (s_b k)[j] = nI (g (i + j))
      · refine X_if (by rw [hA1, hs1, hc]) ?_
        rw [ej1]
        exact ih (j + 1) fu (by omega) (by omega) (by omega) (fun x hx' hx'' => by
          by_cases ex : x = j
          · subst ex; exact hc
          · exact hx x hx' (by omega))
      · refine X_nif (by rw [hA1, hs1]; exact fun h => hc h.symm) ?_
        have hne := wl_ne (l := l) hjl hc
        rw [if_neg hne, ej1, ← ek1]
        obtain ⟨fu, rfl⟩ : ∃ x, fu = x + 1 := ⟨fu - 1, by omega⟩
        unfold k_RM_wordOf_34 k_RM_wordOf_81
        by_cases h9 : l ≤ j + 1
        · exact X_if (by rw [n_le (by omega) (by omega)]; exact h9) (X_if rfl rfl)
        · exact X_nif (by rw [n_le (by omega) (by omega)]; exact h9) (X_if rfl (X_if rfl rfl))
theorem g_wordOf {i l : Nat} (G : GE S e g) (hN : 20000 ≤ N) (hie : i + l ≤ e) : ∀ m k fu, 8 - k ≤ m → m < fu → k ≤ 8 → (∀ x, x < k → ¬ s_b x = wl g i l) → k_RM_wordOf_2 N fu (nI i) (nI l) (nI k) S = some (if kwi (wl g i l) = 8 then (if l ≤ 30 then 2 else 1) else nI (300 + kwi (wl g i l)), S) := by
  have he : e ≤ 8000 := G.2.2
  intro m
  induction m with
  | zero =>
    intro k fu h1 hfu hk hx
    obtain ⟨fu, rfl⟩ : ∃ x, fu = x + 1 := ⟨fu - 1, by omega⟩
    have e8 : kwi (wl g i l) = 8 := kwi_no _ (fun x hx8 => hx x (by omega))
    have er : (if kwi (wl g i l) = 8 then (if l ≤ 30 then (2 : Int32) else 1) else nI (300 + kwi (wl g i l))) = if l ≤ 30 then 2 else 1 := if_pos e8
    rw [er]
    unfold k_RM_wordOf_2
    refine X_if (by show nI 8 ≤ nI k; rw [n_le (by omega) (by omega)]; omega) ?_
    by_cases h30 : l ≤ 30
    · have er2 : (if l ≤ 30 then (2 : Int32) else 1) = 2 := if_pos h30
      rw [er2]
      exact X_if (by show nI l ≤ nI 30; rw [n_le (by omega) (by omega)]; exact h30) rfl
    · have er2 : (if l ≤ 30 then (2 : Int32) else 1) = 1 := if_neg h30
      rw [er2]
      exact X_nif (by show ¬ nI l ≤ nI 30; rw [n_le (by omega) (by omega)]; exact h30) rfl
  | succ m ih =>
    intro k fu h1 hfu hk hx
    by_cases h8 : k = 8
    · obtain ⟨fu, rfl⟩ : ∃ x, fu = x + 1 := ⟨fu - 1, by omega⟩
      have e8 : kwi (wl g i l) = 8 := kwi_no _ (fun x hx8 => hx x (by omega))
      have er : (if kwi (wl g i l) = 8 then (if l ≤ 30 then (2 : Int32) else 1) else nI (300 + kwi (wl g i l))) = if l ≤ 30 then 2 else 1 := if_pos e8
      rw [er]
      unfold k_RM_wordOf_2
      refine X_if (by show nI 8 ≤ nI k; rw [n_le (by omega) (by omega)]; omega) ?_
      by_cases h30 : l ≤ 30
      · have er2 : (if l ≤ 30 then (2 : Int32) else 1) = 2 := if_pos h30
        rw [er2]
        exact X_if (by show nI l ≤ nI 30; rw [n_le (by omega) (by omega)]; exact h30) rfl
      · have er2 : (if l ≤ 30 then (2 : Int32) else 1) = 1 := if_neg h30
        rw [er2]
        exact X_nif (by show ¬ nI l ≤ nI 30; rw [n_le (by omega) (by omega)]; exact h30) rfl
    · obtain ⟨fu, rfl⟩ : ∃ x, fu = x + 1 := ⟨fu - 1, by omega⟩
      have hnk : (nI k).toNatClampNeg = k := n_nat (by omega)
      have hsl := sb_len k (by omega)
      have hsl2 : s_len (46 + (nI k).toNatClampNeg) = nI (s_b k).length := by rw [hnk, s_len, sb46 k (by omega)]
      conv => lhs; unfold k_RM_wordOf_2
      refine X_nif (by show ¬ nI 8 ≤ nI k; rw [n_le (by omega) (by omega)]; omega) (X_chk (by rw [n_ib (by omega)]; omega) (X_chk (by rw [hnk]; omega) ?_))
      by_cases hl : (s_b k).length = l
      · have hc := g_cmp (N := N) (k2 := k_RM_wordOf_2 N fu) (k := k) (i := i) (l := l) G (by omega) hie hl l 0 N (by omega) (by omega) (by omega) (fun x _ hx => by omega)
        refine X_if (by rw [hsl2, hl]) (hc.trans ?_)
        by_cases hw : s_b k = wl g i l
        · have ek : kwi (wl g i l) = k := kwi_at _ k (by omega) hx hw
          rw [if_pos hw, ek, if_neg (by omega)]
        · rw [if_neg hw]
          exact ih (k + 1) fu (by omega) (by omega) (by omega) (fun x hx' => by
            by_cases ex : x = k
            · subst ex; exact hw
            · exact hx x (by omega))
      · have hw : ¬ s_b k = wl g i l := fun h => hl (by rw [h, wl_len])
        refine X_nif (by rw [hsl2, n_eq (by omega) (by omega)]; exact fun h => hl h.symm) ?_
        have e0 : ∀ k2, k_RM_wordOf_34 N k2 N (nI i) (nI l) (nI k) 0 0 S = k2 (nI i) (nI l) (nI (k + 1)) S := by
          intro k2
          obtain ⟨N', hN'⟩ : ∃ x, N = x + 1 := ⟨N - 1, by omega⟩
          conv => lhs; arg 3; rw [hN']
          rw [show nI (k + 1) = nI k + 1 from (n_add k 1).symm]
          unfold k_RM_wordOf_34 k_RM_wordOf_81
          by_cases h9 : nI l ≤ 0
          · exact X_if h9 (X_if rfl rfl)
          · exact X_nif h9 (X_if rfl (X_if rfl rfl))
        rw [e0]
        exact ih (k + 1) fu (by omega) (by omega) (by omega) (fun x hx' => by
          by_cases ex : x = k
          · subst ex; exact hw
          · exact hx x (by omega))
end WORDS
