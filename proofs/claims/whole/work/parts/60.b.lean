/-! one token of the reference, whatever it is -/
theorem kwi_spec (w : List Int32) (h : kwi w < 8) : s_b (kwi w) = w := by
  unfold kwi at h ⊢
  by_cases h0 : s_b 0 = w
  · simp only [if_pos h0]; exact h0
  by_cases h1 : s_b 1 = w
  · simp only [if_pos h1, if_neg h0]; exact h1
  by_cases h2 : s_b 2 = w
  · simp only [if_pos h2, if_neg h0, if_neg h1]; exact h2
  by_cases h3 : s_b 3 = w
  · simp only [if_pos h3, if_neg h0, if_neg h1, if_neg h2]; exact h3
  by_cases h4 : s_b 4 = w
  · simp only [if_pos h4, if_neg h0, if_neg h1, if_neg h2, if_neg h3]; exact h4
  by_cases h5 : s_b 5 = w
  · simp only [if_pos h5, if_neg h0, if_neg h1, if_neg h2, if_neg h3, if_neg h4]; exact h5
  by_cases h6 : s_b 6 = w
  · simp only [if_pos h6, if_neg h0, if_neg h1, if_neg h2, if_neg h3, if_neg h4, if_neg h5]; exact h6
  by_cases h7 : s_b 7 = w
  · simp only [if_pos h7, if_neg h0, if_neg h1, if_neg h2, if_neg h3, if_neg h4, if_neg h5, if_neg h6]; exact h7
  simp only [if_neg h0, if_neg h1, if_neg h2, if_neg h3, if_neg h4, if_neg h5, if_neg h6, if_neg h7] at h
  omega
theorem sb6 : ∀ k, k < 8 → (s_b k).length ≤ 6 := by decide +kernel
theorem kap_kw : ∀ k, k < 8 → kap (4 + k) = nI (300 + k) := by decide +kernel
theorem kap_wk {g : Nat → Nat} {i l : Nat} : (if kwi (wl g i l) = 8 then (if l ≤ 30 then (2 : Int32) else 1) else nI (300 + kwi (wl g i l))) = kap (wk g i l) := by
  have hle := kwi_le (wl g i l)
  unfold wk
  by_cases h8 : kwi (wl g i l) = 8
  · by_cases h30 : l ≤ 30
    · simp only [h8, h30, if_true]; rfl
    · simp only [h8, h30, if_true, if_false]; rfl
  · have h6 := sb6 (kwi (wl g i l)) (by omega)
    rw [kwi_spec _ (by omega), wl_len] at h6
    have h30 : l ≤ 30 := by omega
    simp only [h8, h30, if_true, if_false]
    exact (kap_kw _ (by omega)).symm
section GTOKEN2
variable {e N : Nat} {g : Nat → Nat} {S : rm_S}
theorem g_sign {k13 : Int32 → Int32 → rm_S → Option rm_S} {i k l : Nat} (G : GE S e g) (hi : i < e) (hc : cL (g i) = false) (hd : cD (g i) = false) (ek : k = sg (g i) (if i + 1 < e then g (i + 1) else 0)) (el : l = (if k ≤ 27 ∨ k = 29 then 1 else 2)) : k_RM_scan_40 N k13 (nI i) 1 1 (nI (g i)) S = k_RM_scan_420 N k13 (nI i) (nI l) (kap k) S := by
  have hat := fun a b (ha : a < 256) (hb : b < 256) => g_at (N := N) (i := i) (a := a) (b := b) G (by have := G.2.2; omega) ha hb
  obtain ⟨k1, k2, k3⟩ := G
  obtain ⟨q1, q2⟩ := k2 i hi
  have c : ∀ k, k < 256 → (nI (g i) = nI k ↔ g i = k) := fun k hk => by rw [n_eq (by omega) (by omega)]
  have aty : ∀ a b, a < 256 → b < 256 → (i + 1 < e ∧ g i = a ∧ g (i + 1) = b) → f_RM_isAt N (nI i) (nI a) (nI b) S = some (1, S) := fun a b ha hb h => by rw [hat a b ha hb, if_pos h]
  have atn : ∀ a b, a < 256 → b < 256 → ¬ (i + 1 < e ∧ g i = a ∧ g (i + 1) = b) → f_RM_isAt N (nI i) (nI a) (nI b) S = some (0, S) := fun a b ha hb h => by rw [hat a b ha hb, if_neg h]
  unfold k_RM_scan_40
  refine X_if (by rw [k1, n_lt (by omega) (by omega)]; exact hi) (X_P (a := b01 (cL (g i))) (rhL q2) ?_)
  rw [hc]
  refine X_if rfl (X_P (a := b01 (cD (g i))) (rhD q2) ?_)
  rw [hd]
  refine X_if rfl ?_
  by_cases p0 : i + 1 < e ∧ g i = 60 ∧ g (i + 1) = 61
  · have hk : k = 28 := by rw [ek, if_pos p0.1, p0.2.1, p0.2.2]; rfl
    have hl2 : l = 2 := by rw [el, hk]; rfl
    rw [hk, hl2]
    refine X_I (aty 60 61 (by omega) (by omega) p0) (X_nif n10 ?_)
    unfold k_RM_scan_222
    exact X_if ((c 60 (by omega)).mpr p0.2.1) rfl
  refine X_I (atn 60 61 (by omega) (by omega) p0) (X_if rfl ?_)
  by_cases p1 : i + 1 < e ∧ g i = 62 ∧ g (i + 1) = 61
  · have hk : k = 30 := by rw [ek, if_pos p1.1, p1.2.1, p1.2.2]; rfl
    have hl2 : l = 2 := by rw [el, hk]; rfl
    rw [hk, hl2]
    refine X_I (aty 62 61 (by omega) (by omega) p1) (X_nif n10 ?_)
    unfold k_RM_scan_222
    exact X_nif (fun x => by have := (c 60 (by omega)).mp x; omega) (X_if ((c 62 (by omega)).mpr p1.2.1) rfl)
  refine X_I (atn 62 61 (by omega) (by omega) p1) (X_if rfl ?_)
  by_cases p2 : i + 1 < e ∧ g i = 61 ∧ g (i + 1) = 61
  · have hk : k = 31 := by rw [ek, if_pos p2.1, p2.2.1, p2.2.2]; rfl
    have hl2 : l = 2 := by rw [el, hk]; rfl
    rw [hk, hl2]
    refine X_I (aty 61 61 (by omega) (by omega) p2) (X_nif n10 ?_)
    unfold k_RM_scan_222
    exact X_nif (fun x => by have := (c 60 (by omega)).mp x; omega) (X_nif (fun x => by have := (c 62 (by omega)).mp x; omega) (X_if ((c 61 (by omega)).mpr p2.2.1) rfl))
  refine X_I (atn 61 61 (by omega) (by omega) p2) (X_if rfl ?_)
  by_cases p3 : i + 1 < e ∧ g i = 33 ∧ g (i + 1) = 61
  · have hk : k = 32 := by rw [ek, if_pos p3.1, p3.2.1, p3.2.2]; rfl
    have hl2 : l = 2 := by rw [el, hk]; rfl
    rw [hk, hl2]
    refine X_I (aty 33 61 (by omega) (by omega) p3) (X_nif n10 ?_)
    unfold k_RM_scan_222
    exact X_nif (fun x => by have := (c 60 (by omega)).mp x; omega) (X_nif (fun x => by have := (c 62 (by omega)).mp x; omega) (X_nif (fun x => by have := (c 61 (by omega)).mp x; omega) (X_if ((c 33 (by omega)).mpr p3.2.1) rfl)))
  refine X_I (atn 33 61 (by omega) (by omega) p3) (X_if rfl ?_)
  by_cases p4 : i + 1 < e ∧ g i = 38 ∧ g (i + 1) = 38
  · have hk : k = 33 := by rw [ek, if_pos p4.1, p4.2.1, p4.2.2]; rfl
    have hl2 : l = 2 := by rw [el, hk]; rfl
    rw [hk, hl2]
    refine X_I (aty 38 38 (by omega) (by omega) p4) (X_nif n10 ?_)
    unfold k_RM_scan_222
    exact X_nif (fun x => by have := (c 60 (by omega)).mp x; omega) (X_nif (fun x => by have := (c 62 (by omega)).mp x; omega) (X_nif (fun x => by have := (c 61 (by omega)).mp x; omega) (X_nif (fun x => by have := (c 33 (by omega)).mp x; omega) (X_if ((c 38 (by omega)).mpr p4.2.1) rfl))))
  refine X_I (atn 38 38 (by omega) (by omega) p4) (X_if rfl ?_)
  by_cases p5 : i + 1 < e ∧ g i = 124 ∧ g (i + 1) = 124
  · have hk : k = 34 := by rw [ek, if_pos p5.1, p5.2.1, p5.2.2]; rfl
    have hl2 : l = 2 := by rw [el, hk]; rfl
    rw [hk, hl2]
    refine X_I (aty 124 124 (by omega) (by omega) p5) (X_nif n10 ?_)
    unfold k_RM_scan_222
    exact X_nif (fun x => by have := (c 60 (by omega)).mp x; omega) (X_nif (fun x => by have := (c 62 (by omega)).mp x; omega) (X_nif (fun x => by have := (c 61 (by omega)).mp x; omega) (X_nif (fun x => by have := (c 33 (by omega)).mp x; omega) (X_nif (fun x => by have := (c 38 (by omega)).mp x; omega) (rfl)))))
  refine X_I (atn 124 124 (by omega) (by omega) p5) (X_if rfl ?_)
  have hd0 : ∀ b, b ≠ 0 → ¬ (i + 1 < e ∧ g (i + 1) = b) → (if i + 1 < e then g (i + 1) else 0) ≠ b := by
    intro b hb h
    by_cases h1 : i + 1 < e
    · rw [if_pos h1]; exact fun hx => h ⟨h1, hx⟩
    · rw [if_neg h1]; exact fun hx => hb hx.symm
  generalize hdd : (if i + 1 < e then g (i + 1) else 0) = d at ek hd0
  by_cases h40 : g i = 40
  · have hk : k = 12 := by rw [ek, h40]; rfl
    have hl1 : l = 1 := by rw [el, hk]; rfl
    rw [hk, hl1]
    refine X_if ((c 40 (by omega)).mpr h40) ?_
    rw [h40]; rfl
  refine X_nif (fun x => h40 ((c 40 (by omega)).mp x)) ?_
  by_cases h41 : g i = 41
  · have hk : k = 13 := by rw [ek, h41]; rfl
    have hl1 : l = 1 := by rw [el, hk]; rfl
    rw [hk, hl1]
    refine X_if ((c 41 (by omega)).mpr h41) ?_
    rw [h41]; rfl
  refine X_nif (fun x => h41 ((c 41 (by omega)).mp x)) ?_
  by_cases h123 : g i = 123
  · have hk : k = 14 := by rw [ek, h123]; rfl
    have hl1 : l = 1 := by rw [el, hk]; rfl
    rw [hk, hl1]
    refine X_if ((c 123 (by omega)).mpr h123) ?_
    rw [h123]; rfl
  refine X_nif (fun x => h123 ((c 123 (by omega)).mp x)) ?_
  by_cases h125 : g i = 125
  · have hk : k = 15 := by rw [ek, h125]; rfl
    have hl1 : l = 1 := by rw [el, hk]; rfl
    rw [hk, hl1]
    refine X_if ((c 125 (by omega)).mpr h125) ?_
    rw [h125]; rfl
  refine X_nif (fun x => h125 ((c 125 (by omega)).mp x)) ?_
  by_cases h91 : g i = 91
  · have hk : k = 16 := by rw [ek, h91]; rfl
    have hl1 : l = 1 := by rw [el, hk]; rfl
    rw [hk, hl1]
    refine X_if ((c 91 (by omega)).mpr h91) ?_
    rw [h91]; rfl
  refine X_nif (fun x => h91 ((c 91 (by omega)).mp x)) ?_
  by_cases h93 : g i = 93
  · have hk : k = 17 := by rw [ek, h93]; rfl
    have hl1 : l = 1 := by rw [el, hk]; rfl
    rw [hk, hl1]
    refine X_if ((c 93 (by omega)).mpr h93) ?_
    rw [h93]; rfl
  refine X_nif (fun x => h93 ((c 93 (by omega)).mp x)) ?_
  by_cases h44 : g i = 44
  · have hk : k = 18 := by rw [ek, h44]; rfl
    have hl1 : l = 1 := by rw [el, hk]; rfl
    rw [hk, hl1]
    refine X_if ((c 44 (by omega)).mpr h44) ?_
    rw [h44]; rfl
  refine X_nif (fun x => h44 ((c 44 (by omega)).mp x)) ?_
  by_cases h59 : g i = 59
  · have hk : k = 19 := by rw [ek, h59]; rfl
    have hl1 : l = 1 := by rw [el, hk]; rfl
    rw [hk, hl1]
    refine X_if ((c 59 (by omega)).mpr h59) ?_
    rw [h59]; rfl
  refine X_nif (fun x => h59 ((c 59 (by omega)).mp x)) ?_
  by_cases h61 : g i = 61
  · have hne : d ≠ 61 := hd0 61 (by omega) (fun h => p2 ⟨h.1, h61, h.2⟩)
    have hk : k = 20 := by rw [ek, h61]; simp [sg, hne]
    have hl1 : l = 1 := by rw [el, hk]; rfl
    rw [hk, hl1]
    refine X_if ((c 61 (by omega)).mpr h61) ?_
    rw [h61]; rfl
  refine X_nif (fun x => h61 ((c 61 (by omega)).mp x)) ?_
  by_cases h43 : g i = 43
  · have hk : k = 22 := by rw [ek, h43]; rfl
    have hl1 : l = 1 := by rw [el, hk]; rfl
    rw [hk, hl1]
    refine X_if ((c 43 (by omega)).mpr h43) ?_
    rw [h43]; rfl
  refine X_nif (fun x => h43 ((c 43 (by omega)).mp x)) ?_
  by_cases h45 : g i = 45
  · have hk : k = 23 := by rw [ek, h45]; rfl
    have hl1 : l = 1 := by rw [el, hk]; rfl
    rw [hk, hl1]
    refine X_if ((c 45 (by omega)).mpr h45) ?_
    rw [h45]; rfl
  refine X_nif (fun x => h45 ((c 45 (by omega)).mp x)) ?_
  by_cases h42 : g i = 42
  · have hk : k = 24 := by rw [ek, h42]; rfl
    have hl1 : l = 1 := by rw [el, hk]; rfl
    rw [hk, hl1]
    refine X_if ((c 42 (by omega)).mpr h42) ?_
    rw [h42]; rfl
  refine X_nif (fun x => h42 ((c 42 (by omega)).mp x)) ?_
  by_cases h47 : g i = 47
  · have hk : k = 25 := by rw [ek, h47]; rfl
    have hl1 : l = 1 := by rw [el, hk]; rfl
    rw [hk, hl1]
    refine X_if ((c 47 (by omega)).mpr h47) ?_
    rw [h47]; rfl
  refine X_nif (fun x => h47 ((c 47 (by omega)).mp x)) ?_
  by_cases h37 : g i = 37
  · have hk : k = 26 := by rw [ek, h37]; rfl
    have hl1 : l = 1 := by rw [el, hk]; rfl
    rw [hk, hl1]
    refine X_if ((c 37 (by omega)).mpr h37) ?_
    rw [h37]; rfl
  refine X_nif (fun x => h37 ((c 37 (by omega)).mp x)) ?_
  by_cases h60 : g i = 60
  · have hne : d ≠ 61 := hd0 61 (by omega) (fun h => p0 ⟨h.1, h60, h.2⟩)
    have hk : k = 27 := by rw [ek, h60]; simp [sg, hne]
    have hl1 : l = 1 := by rw [el, hk]; rfl
    rw [hk, hl1]
    refine X_if ((c 60 (by omega)).mpr h60) ?_
    rw [h60]; rfl
  refine X_nif (fun x => h60 ((c 60 (by omega)).mp x)) ?_
  by_cases h62 : g i = 62
  · have hne : d ≠ 61 := hd0 61 (by omega) (fun h => p1 ⟨h.1, h62, h.2⟩)
    have hk : k = 29 := by rw [ek, h62]; simp [sg, hne]
    have hl1 : l = 1 := by rw [el, hk]; rfl
    rw [hk, hl1]
    refine X_if ((c 62 (by omega)).mpr h62) ?_
    rw [h62]; rfl
  refine X_nif (fun x => h62 ((c 62 (by omega)).mp x)) ?_
  by_cases h33 : g i = 33
  · have hne : d ≠ 61 := hd0 61 (by omega) (fun h => p3 ⟨h.1, h33, h.2⟩)
    have hk : k = 21 := by rw [ek, h33]; simp [sg, hne]
    have hl1 : l = 1 := by rw [el, hk]; rfl
    rw [hk, hl1]
    refine X_if ((c 33 (by omega)).mpr h33) ?_
    rw [h33]; rfl
  refine X_nif (fun x => h33 ((c 33 (by omega)).mp x)) ?_
  have hk : k = 1 := by
    rw [ek]
    by_cases h38 : g i = 38
    · have hne : d ≠ 38 := hd0 38 (by omega) (fun h => p4 ⟨h.1, h38, h.2⟩)
      rw [h38]; simp [sg, hne]
    · by_cases h124 : g i = 124
      · have hne : d ≠ 124 := hd0 124 (by omega) (fun h => p5 ⟨h.1, h124, h.2⟩)
        rw [h124]; simp [sg, hne]
      · unfold sg
        rw [if_neg h33, if_neg h37, if_neg h38, if_neg h40, if_neg h41, if_neg h42, if_neg h43, if_neg h44, if_neg h45, if_neg h47, if_neg h59, if_neg h60, if_neg h61, if_neg h62, if_neg h91, if_neg h93, if_neg h123, if_neg h124, if_neg h125]
  have hl1 : l = 1 := by rw [el, hk]; rfl
  rw [hk, hl1]; rfl
theorem g_token {i k l v fu : Nat} (G : GE S e g) (hNN : 20000 ≤ N) (hi : i < e) (hT : Tok g e i k l v) : k_RM_scan_13 N (fu + 1) (nI i) 1 S = k_RM_scan_420 N (k_RM_scan_13 N fu) (nI i) (nI l) (kap k) S := by
  have G' := G
  obtain ⟨k1, k2, k3⟩ := G
  obtain ⟨q1, q2⟩ := k2 i hi
  conv => lhs; unfold k_RM_scan_13
  refine X_nif n10 (X_nif (by rw [k1, n_le (by omega) (by omega)]; omega) (X_chk (by rw [n_ib (by omega)]; omega) ?_))
  rw [n_nat (by omega), q1]
  rcases hT with ⟨hc, el, ek, _⟩ | ⟨hc, hd, el, hk⟩ | ⟨hc, hd, ek, el, _⟩
  · have hr := we_range g e (e - i) i (by omega)
    have hw1 : we g e (e - i) i = we g e (e - (i + 1)) (i + 1) := by
      rw [show e - i = (e - (i + 1)) + 1 by omega, we_y hi (by rw [hc]; rfl)]
    have hlen := g_wlen (N := N) (k13 := k_RM_scan_13 N fu) (i := i) G' (e - (i + 1)) 1 N (by omega) (by omega) (by omega)
    rw [← hw1, ← el] at hlen
    have hwo : f_RM_wordOf N (nI i) (nI l) S = some (kap k, S) := by
      have := g_wordOf (N := N) (i := i) (l := l) G' hNN (by omega) 8 0 N (by omega) (by omega) (by omega) (fun x hx => by omega)
      rw [kap_wk, ← ek] at this; exact this
    unfold k_RM_scan_40
    refine X_if (by rw [k1, n_lt (by omega) (by omega)]; exact hi) (X_P (a := b01 (cL (g i))) (rhL q2) ?_)
    rw [hc]
    refine X_nif n10 (hlen.trans ?_)
    exact X_I hwo rfl
  · have hr := de_range g e (e - i) i (by omega)
    have hw1 : de g e (e - i) i = de g e (e - (i + 1)) (i + 1) := by
      rw [show e - i = (e - (i + 1)) + 1 by omega, de_y hi hd]
    have hlen := g_dlen (N := N) (k13 := k_RM_scan_13 N fu) (i := i) G' (e - (i + 1)) 1 N (by omega) (by omega) (by omega)
    rw [← hw1, ← el] at hlen
    have hnum := g_isNum (N := N) (i := i) (l := l) G' hNN hi hd el
    unfold k_RM_scan_40
    refine X_if (by rw [k1, n_lt (by omega) (by omega)]; exact hi) (X_P (a := b01 (cL (g i))) (rhL q2) ?_)
    rw [hc]
    refine X_if rfl (X_P (a := b01 (cD (g i))) (rhD q2) ?_)
    rw [hd]
    refine X_nif n10 (hlen.trans ?_)
    unfold k_RM_scan_131
    rcases hk with ⟨hb, rfl, _⟩ | ⟨hb, rfl, _⟩
    · exact X_I (hnum.1 hb) (X_if rfl rfl)
    · exact X_I (hnum.2 hb) (X_nif n10 rfl)
  · exact g_sign G' hi hc hd ek el
end GTOKEN2
