/-! the reference shows every kind -/
theorem cw_app (nt : List (List Int32)) (kw pw fk : Nat) (g : Fo) : ∀ (f : Fo) (j : Nat) (O : Ob), cw nt (app f g) kw pw fk j O = cw nt g kw pw fk (j + nro f) (cw nt f kw pw fk j O) := by
  intro f
  induction f with
  | leaf => intro j O; rfl
  | inner i x u c m ic im =>
    intro j O
    show cw nt (.inner i x u c (app m g)) kw pw fk j O = _
    rw [cw_in, cw_in, im (j + 1)]
    congr 1
    simp only [nro]; omega
theorem ShF_app {S0 : rm_S} {N L t : Nat} {nt : List (List Int32)} {g : Fo} : ∀ (f : Fo) (s : Nat), ShF S0 N L t nt (app f g) s → ShF S0 N L t nt f s ∧ ShF S0 N L t nt g (s + siz f) := by
  intro f
  induction f with
  | leaf => intro s h; exact ⟨trivial, h⟩
  | inner i x u c m ic im =>
    intro s h
    obtain ⟨h1, h2⟩ := h
    obtain ⟨h3, h4⟩ := im _ h2
    refine ⟨⟨h1, h3⟩, ?_⟩
    rw [show s + siz (.inner i x u c m) = s + 1 + siz c + siz m by simp only [siz]; omega]
    exact h4
theorem Fa_app {K W0 W Z : Nat → Int32} {g : Fo} : ∀ (f : Fo) (s : Nat) (w : Int32), Fa K W0 W Z (app f g) s w → Fa K W0 W Z f s w ∧ Fa K W0 W Z g (s + siz f) w := by
  intro f
  induction f with
  | leaf => intro s w h; exact ⟨trivial, h⟩
  | inner i x u c m ic im =>
    intro s w h
    obtain ⟨h1, h2, h3⟩ := h
    obtain ⟨h4, h5⟩ := im _ _ h3
    refine ⟨⟨h1, h2, h4⟩, ?_⟩
    rw [show s + siz (.inner i x u c m) = s + 1 + siz c + siz m by simp only [siz]; omega]
    exact h5
/-- names, then a block -/
theorem fun_parts {n : Nat} : ∀ (m : Fo) (r : Nat), kls m = List.replicate r 13 ++ [2] → wt n m → ∃ f i b u cb, m = app f (.inner i b u cb .leaf) ∧ b.1 = 2 ∧ siz f = r ∧ nro f = r ∧ kls f = List.replicate r 13 := by
  intro m
  induction m with
  | leaf => intro r h _; simp [kls] at h
  | inner i x u c m ic im =>
    intro r h hw
    cases r with
    | zero =>
      simp [kls] at h
      cases m with
      | inner => simp [kls] at h
      | leaf => exact ⟨.leaf, i, x, u, c, rfl, h.1, rfl, rfl, rfl⟩
    | succ r =>
      simp only [kls, List.replicate_succ, List.cons_append, List.cons.injEq] at h
      obtain ⟨f, i', b, u', cb, e1, e2, e3, e4, e5⟩ := im r h.2 hw.2.2.2.2
      have hc : c = .leaf := by
        have hk := hw.1
        rw [h.1] at hk
        simp [okk] at hk
        cases c with
        | leaf => rfl
        | inner => simp [kls] at hk
      subst hc
      refine ⟨.inner i x u .leaf f, i', b, u', cb, by rw [e1]; rfl, e2, by simp only [siz, e3]; omega, by simp only [nro, e4], by simp only [kls, e5, h.1, List.replicate_succ]⟩
section SHOW2
variable {S0 : rm_S} {N t L s p : Nat} {nt : List (List Int32)} {c : Fo} {v : Int32}
theorem say_f {q z : Nat} {a : Nat × Nat × Int32} {ca : Fo} {O : Ob} {S : rm_S} (ht : t < 2) (hz : z = 0 ∨ z = 1) (ha : a.1 < 100) (hk : S0.2 14 (13000 * t + q) = nI a.1) (hq : q < 13000) (hs : Sh1 S0 N L t q nt a ca) (h : RW S0 O S) : Rs S0 (rw_sayFactor N (L + 2) (nI t) (nI q) (nI z) S) (if a.1 = 17 ∨ (z = 0 ∧ a.1 = 20) then emit (body nt a ca (emit O [40])) [41] else body nt a ca O) := by
  have h17 : (nI a.1 = 17) = (a.1 = 17) := n_eq (b := 17) (by omega) (by omega)
  have h20 : (nI a.1 = 20) = (a.1 = 20) := n_eq (b := 20) (by omega) (by omega)
  have hin1 : Rs S0 (rw_inside N (L + 1) (nI t) (nI q) 1 40 41 S) (emit (body nt a ca (emit O [40])) [41]) := by
    rw [rw_inside_s]
    unfold f_RM_inside
    refine Rs_nif (by decide) (Rs_V (r_begin (N := N) (c := 40) h (by omega)) (fun S1 h1 => ?_))
    unfold k_RM_inside_10
    exact Rs_V (hs _ _ h1) (fun S2 h2 => Rs_nif (by decide) (Rs_V (r_begin (N := N) (c := 41) h2 (by omega)) (fun S3 h3 => Rs_ret h3)))
  have hin0 : Rs S0 (rw_inside N (L + 1) (nI t) (nI q) 0 40 41 S) (body nt a ca O) := by
    rw [rw_inside_s]
    unfold f_RM_inside
    refine Rs_if rfl ?_
    unfold k_RM_inside_10
    exact Rs_V (hs _ _ h) (fun S2 h2 => Rs_if rfl (Rs_ret h2))
  rw [rw_sayFactor_s]
  unfold f_RM_sayFactor
  refine Rs_I (s_kind ht h hk hq) ?_
  by_cases c17 : a.1 = 17
  · rw [if_pos (Or.inl c17)]
    exact Rs_if (by rw [h17]; exact c17) (Rs_V hin1 (fun S' h' => Rs_ret h'))
  · refine Rs_nif (by rw [h17]; exact c17) ?_
    rcases hz with rfl | rfl
    · refine Rs_if rfl ?_
      by_cases c20 : a.1 = 20
      · rw [if_pos (Or.inr ⟨rfl, c20⟩)]
        exact Rs_if (by rw [h20]; exact c20) (Rs_V hin1 (fun S' h' => Rs_ret h'))
      · rw [if_neg (show ¬ (a.1 = 17 ∨ (0 = 0 ∧ a.1 = 20)) by omega)]
        exact Rs_nif (by rw [h20]; exact c20) (Rs_V hin0 (fun S' h' => Rs_ret h'))
    · rw [if_neg (show ¬ (a.1 = 17 ∨ (1 = 0 ∧ a.1 = 20)) by omega)]
      exact Rs_nif (by decide) (Rs_V hin0 (fun S' h' => Rs_ret h'))
theorem say_t {q z : Nat} {a : Nat × Nat × Int32} {ca : Fo} {O : Ob} {S : rm_S} (ht : t < 2) (hz : z = 0 ∨ z = 1) (ha : a.1 < 100) (hk : S0.2 14 (13000 * t + q) = nI a.1) (hq : q < 13000) (hs : Sh1 S0 N L t q nt a ca) (h : RW S0 O S) : Rs S0 (rw_sayTest N (L + 2) (nI t) (nI q) (nI z) S) (if a.1 = 24 ∨ (z = 0 ∧ a.1 = 25) then emit (body nt a ca (emit O [91])) [93] else body nt a ca O) := by
  have h17 : (nI a.1 = 24) = (a.1 = 24) := n_eq (b := 24) (by omega) (by omega)
  have h20 : (nI a.1 = 25) = (a.1 = 25) := n_eq (b := 25) (by omega) (by omega)
  have hin1 : Rs S0 (rw_inside N (L + 1) (nI t) (nI q) 1 91 93 S) (emit (body nt a ca (emit O [91])) [93]) := by
    rw [rw_inside_s]
    unfold f_RM_inside
    refine Rs_nif (by decide) (Rs_V (r_begin (N := N) (c := 91) h (by omega)) (fun S1 h1 => ?_))
    unfold k_RM_inside_10
    exact Rs_V (hs _ _ h1) (fun S2 h2 => Rs_nif (by decide) (Rs_V (r_begin (N := N) (c := 93) h2 (by omega)) (fun S3 h3 => Rs_ret h3)))
  have hin0 : Rs S0 (rw_inside N (L + 1) (nI t) (nI q) 0 91 93 S) (body nt a ca O) := by
    rw [rw_inside_s]
    unfold f_RM_inside
    refine Rs_if rfl ?_
    unfold k_RM_inside_10
    exact Rs_V (hs _ _ h) (fun S2 h2 => Rs_if rfl (Rs_ret h2))
  rw [rw_sayTest_s]
  unfold f_RM_sayTest
  refine Rs_I (s_kind ht h hk hq) ?_
  by_cases c17 : a.1 = 24
  · rw [if_pos (Or.inl c17)]
    exact Rs_if (by rw [h17]; exact c17) (Rs_V hin1 (fun S' h' => Rs_ret h'))
  · refine Rs_nif (by rw [h17]; exact c17) ?_
    rcases hz with rfl | rfl
    · refine Rs_if rfl ?_
      by_cases c20 : a.1 = 25
      · rw [if_pos (Or.inr ⟨rfl, c20⟩)]
        exact Rs_if (by rw [h20]; exact c20) (Rs_V hin1 (fun S' h' => Rs_ret h'))
      · rw [if_neg (show ¬ (a.1 = 24 ∨ (0 = 0 ∧ a.1 = 25)) by omega)]
        exact Rs_nif (by rw [h20]; exact c20) (Rs_V hin0 (fun S' h' => Rs_ret h'))
    · rw [if_neg (show ¬ (a.1 = 24 ∨ (1 = 0 ∧ a.1 = 25)) by omega)]
      exact Rs_nif (by decide) (Rs_V hin0 (fun S' h' => Rs_ret h'))
/-- a part in brackets or not, as sums do -/
theorem brk_f {k kw z : Nat} {X : Ob → Ob} {O : Ob} (hk : k < 100) (hz : (z = 0 ∧ (kw = 15 ∨ (20 ≤ kw ∧ kw ≤ 23))) ∨ (z = 1 ∧ 17 ≤ kw ∧ kw ≤ 19)) : clo k kw (X (opn k kw O)) = if k = 17 ∨ (z = 0 ∧ k = 20) then emit (X (emit O [40])) [41] else X O := by
  by_cases c17 : k = 17
  · subst c17
    have hb : brk 17 kw = true := by simp [brk]; omega
    rw [if_pos (Or.inl rfl)]
    unfold clo opn
    rw [hb]; rfl
  · by_cases c20 : k = 20
    · subst c20
      rcases hz with h | h
      · have hb : brk 20 kw = true := by simp [brk]; omega
        rw [if_pos (Or.inr ⟨h.1, rfl⟩)]
        unfold clo opn
        rw [hb]; rfl
      · have hb : brk 20 kw = false := by simp [brk]; omega
        rw [if_neg (by omega), opn_n hb, clo_n hb]
    · have hb : brk k kw = false := by
        unfold brk
        rw [if_neg c17, if_neg c20]
        split
        · simp; omega
        · split
          · simp; omega
          · rfl
      rw [if_neg (by omega), opn_n hb, clo_n hb]
theorem brk_t {k kw z : Nat} {X : Ob → Ob} {O : Ob} (hk : k < 100) (hz : (z = 0 ∧ (kw = 25 ∨ kw = 26)) ∨ (z = 1 ∧ kw = 24)) : clo k kw (X (opn k kw O)) = if k = 24 ∨ (z = 0 ∧ k = 25) then emit (X (emit O [91])) [93] else X O := by
  by_cases c17 : k = 24
  · subst c17
    have hb : brk 24 kw = true := by simp [brk]; omega
    rw [if_pos (Or.inl rfl)]
    unfold clo opn
    rw [hb]; rfl
  · by_cases c20 : k = 25
    · subst c20
      rcases hz with h | h
      · have hb : brk 25 kw = true := by simp [brk]; omega
        rw [if_pos (Or.inr ⟨h.1, rfl⟩)]
        unfold clo opn
        rw [hb]; rfl
      · have hb : brk 25 kw = false := by simp [brk]; omega
        rw [if_neg (by omega), opn_n hb, clo_n hb]
    · have hb : brk k kw = false := by
        unfold brk
        by_cases h17 : k = 17
        · rw [if_pos h17]; simp; omega
        · rw [if_neg h17]
          by_cases h20 : k = 20
          · rw [if_pos h20]; simp; omega
          · rw [if_neg h20, if_neg c17, if_neg c20]
      rw [if_neg (by omega), opn_n hb, clo_n hb]
/-- conditions -/
theorem s_438 {pc pst psf ps} {k a0 pw fk : Nat} (hk : k = 24 ∨ k = 25) (ht : t < 2) (hN1 : 100 ≤ N) : ∀ (m : Fo) (q e fu j : Nat) (w : Int32) {O : Ob} {S : rm_S}, RW S0 O S → ShF S0 N L t nt m q → FaS S0 t m q w → (∀ k ∈ kls m, k < 100) → q + siz m = e → e ≤ 13000 → nro m < fu → (j = 0 → q = a0) → (j ≠ 0 → a0 < q) → Rs S0 (k_RM_show_438 N ps pc pst psf (rw_sayTest N (L + 2)) fu (nI t) (nI k) (nI q) (nI e) (nI a0) S) (cw nt m k pw fk j O) := by
  intro m
  induction m with
  | leaf =>
    intro q e fu j w O S h _ _ _ he he2 hfu _ _
    obtain ⟨fu, rfl⟩ : ∃ x, fu = x + 1 := ⟨fu - 1, by simp [nro] at hfu; omega⟩
    simp only [siz] at he
    unfold k_RM_show_438
    exact Rs_if (by rw [n_le (by omega) (by omega)]; omega) (Rs_ret h)
  | inner i x u c m _ im =>
    intro q e fu j w O S h hs hf hkl he he2 hfu hj1 hj2
    obtain ⟨fu, rfl⟩ : ∃ x, fu = x + 1 := ⟨fu - 1, by simp [nro] at hfu; omega⟩
    simp only [siz] at he
    simp only [nro] at hfu
    obtain ⟨⟨f0, _, _, f1⟩, _, f2⟩ := hf
    have hx := hkl x.1 (by simp [kls])
    have go : ∀ {O' : Ob} {S' : rm_S}, RW S0 O' S' → a0 ≤ q → Rs S0 (k_RM_show_471 N ps pc pst psf (rw_sayTest N (L + 2)) (k_RM_show_438 N ps pc pst psf (rw_sayTest N (L + 2)) fu) (nI t) (nI k) (nI q) (nI e) (nI a0) S') (cw nt m k pw fk (j + 1) (clo x.1 k (body nt x c (opn x.1 k O')))) := by
      intro O' S' h' hqa
      have sub : ∀ z, ((z = 0 ∧ (k = 25 ∨ k = 26)) ∨ (z = 1 ∧ k = 24)) → Rs S0 (k_RM_show_486 N ps pc pst psf (rw_sayTest N (L + 2)) (k_RM_show_438 N ps pc pst psf (rw_sayTest N (L + 2)) fu) (nI t) (nI k) (nI q) (nI e) (nI a0) (nI z) (nI q) (nI t) S') (cw nt m k pw fk (j + 1) (clo x.1 k (body nt x c (opn x.1 k O')))) := by
        intro z hz
        unfold k_RM_show_486
        rw [brk_t (X := body nt x c) hx hz]
        refine Rs_V (say_t ht (by omega) hx f0 (by omega) hs.1 h') (fun S'' h'' => Rs_I (s_behind ht h'' f1 (by omega)) ?_)
        exact im (q + 1 + siz c) e fu (j + 1) w h'' hs.2 f2 (fun k hk => hkl k (by simp [kls, hk])) (by omega) he2 (by omega) (fun h => by omega) (fun _ => by omega)
      unfold k_RM_show_471
      rcases hk with rfl | rfl
      · exact Rs_if rfl (sub 1 (by omega))
      · exact Rs_nif (by decide) (sub 0 (by omega))
    rw [cw_in]
    unfold k_RM_show_438
    refine Rs_nif (by rw [n_le (by omega) (by omega)]; omega) ?_
    by_cases hj : j = 0
    · subst hj
      have := hj1 rfl
      rw [j0 (by omega), em23]
      exact Rs_if (by rw [n_le (by omega) (by omega)]; omega) (go h (by omega))
    · have := hj2 hj
      rw [jl (by omega) hj]
      refine Rs_nif (by rw [n_le (by omega) (by omega)]; omega) ?_
      rcases hk with rfl | rfl
      · exact Rs_if rfl (Rs_V (r_text (N := N) (y := 65) h (by omega) (by decide) hN1) (fun S' h' => go h' (by omega)))
      · exact Rs_nif (by decide) (Rs_V (r_text (N := N) (y := 66) h (by omega) (by decide) hN1) (fun S' h' => go h' (by omega)))
/-- the names of a function -/
theorem sh_104 {pc ps pst psf pt} {y4 : Nat} (ht : t < 2) {S : rm_S} {O : Ob} (h : RW S0 O S) : ∀ (f : Fo) (q fu : Nat) (w : Int32) (i : Nat) (b : Nat × Nat × Int32) (u : Unit) (cb : Fo), FaS S0 t (app f (.inner i b u cb .leaf)) q w → kls f = List.replicate (nro f) 13 → siz f = nro f → b.1 = 2 → q + siz f < 13000 → nro f < fu → k_RM_show_104 N ps pc pst psf pt fu (nI t) (nI y4) (nI q) S = calV (pc (nI t) (nI (y4 + 1)) (nI (q + nro f)) S) fun S34 => calV (ps (nI t) (nI (q + nro f)) S34) fun S35 => some S35 := by
  intro f
  induction f with
  | leaf =>
    intro q fu w i b u cb hf _ _ hb hq hfu
    obtain ⟨fu, rfl⟩ : ∃ x, fu = x + 1 := ⟨fu - 1, by omega⟩
    have f1 : S0.2 14 (13000 * t + q) = nI b.1 := hf.1.1
    rw [hb] at f1
    unfold k_RM_show_104
    refine X_I (s_kind ht h f1 (by omega)) (X_nif (by decide) ?_)
    rw [show nI y4 + 1 = nI (y4 + 1) from n_add y4 1]
    rfl
  | inner i' x u' c m _ im =>
    intro q fu w i b u cb hf hk hsz hb hq hfu
    obtain ⟨fu, rfl⟩ : ∃ x, fu = x + 1 := ⟨fu - 1, by omega⟩
    simp only [kls, nro, List.replicate_succ, List.cons.injEq] at hk
    simp only [siz, nro] at hsz hq hfu
    have hnl := nro_le m
    have hc0 : siz c = 0 := by omega
    have hf' : FaS S0 t (.inner i' x u' c (app m (.inner i b u cb .leaf))) q w := hf
    obtain ⟨⟨f1, _⟩, _, f2⟩ := hf'
    simp only [hk.1] at f1
    rw [hc0, Nat.add_zero] at f2
    unfold k_RM_show_104
    refine X_I (s_kind ht h f1 (by omega)) (X_if rfl ?_)
    rw [show nI q + 1 = nI (q + 1) from n_add q 1, im (q + 1) fu w i b u cb f2 hk.2 (by omega) hb (by omega) (by omega)]
    rw [show q + 1 + nro m = q + nro (.inner i' x u' c m) by simp only [nro]; omega]
end SHOW2
