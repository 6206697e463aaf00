section SHOW3
variable {S0 : rm_S} {N t L s p : Nat} {nt : List (List Int32)} {c : Fo} {v : Int32}
theorem b_0 {O : Ob} : body nt (0, p, v) c O = sq nt c O := by
  have := cw_sq (nt := nt) (kw := 0) (pw := nro c) (fk := fstk c) c 0 O (fun r _ => by
    by_cases h : r = 0
    · subst h; rfl
    · rw [jl (by omega) h]; rfl) (fun k _ => brk_no (by omega))
  exact this
theorem b_2 {O : Ob} : body nt (2, p, v) c O = emit (sq nt c (emit O [123])) [125] := by
  have := cw_sq (nt := nt) (kw := 2) (pw := nro c) (fk := fstk c) c 0 (emit O [123]) (fun r _ => by
    by_cases h : r = 0
    · subst h; rfl
    · rw [jl (by omega) h]; rfl) (fun k _ => brk_no (by omega))
  exact congrArg (fun X => emit X [125]) this
theorem b_1 {i i' : Nat} {a b : Nat × Nat × Int32} {u u' : Unit} {ca f cb : Fo} {O : Ob} : body nt (1, p, v) (.inner i a u ca (app f (.inner i' b u' cb .leaf))) O = body nt b cb (emit (cms nt f true (emit (body nt a ca (emit O (sN 46))) [40])) [41]) := by
  have hnr : ∀ f : Fo, nro (app f (.inner i' b u' cb .leaf)) = nro f + 1 := by
    intro f
    induction f with
    | leaf => rfl
    | inner j x w c m ic im => show nro (app m _) + 1 = nro m + 1 + 1; rw [im]
  generalize hX : body nt a ca (emit O (sN 46)) = X
  have h0 : body nt (1, p, v) (.inner i a u ca (app f (.inner i' b u' cb .leaf))) O = cw nt (.inner i a u ca (app f (.inner i' b u' cb .leaf))) 1 (nro f + 2) a.1 0 (emit O (sN 46)) := by
    have e : nro (.inner i a u ca (app f (.inner i' b u' cb .leaf))) = nro f + 2 := by show nro (app f _) + 1 = _; rw [hnr]
    show emit (cw nt (.inner i a u ca (app f (.inner i' b u' cb .leaf))) 1 (nro (.inner i a u ca (app f (.inner i' b u' cb .leaf)))) a.1 0 (emit O (sN 9))) (sN 23) = _
    rw [e]; rfl
  rw [h0, cw_in, o_lo (by omega), c_lo (by omega), j0 (by omega), em23, hX, cw_app, cw_in, cw_leaf, o_lo (by omega), c_lo (by omega)]
  congr 1
  have hj : jnt 1 (nro f + 2) a.1 (0 + 1 + nro f) = if nro f = 0 then 31 else 30 := by
    unfold jnt
    rw [if_pos rfl, if_neg (by omega), if_pos (by omega)]
    by_cases h : nro f = 0
    · rw [if_pos (by omega), if_pos h]
    · rw [if_neg (by omega), if_neg h]
  rw [hj]
  cases f with
  | leaf => exact em31 X
  | inner j d w cd f' =>
    rw [if_neg (show ¬ nro (.inner j d w cd f') = 0 by simp only [nro]; omega), cw_in, o_lo (by omega), c_lo (by omega)]
    have hj1 : jnt 1 (nro (.inner j d w cd f') + 2) a.1 (0 + 1) = 32 := by
      unfold jnt
      rw [if_pos rfl, if_neg (by omega), if_neg (by simp only [nro]; omega), if_pos rfl]
    rw [hj1, cw_cms f' (0 + 1 + 1) _ (fun r h1 h2 => by
      unfold jnt
      rw [if_pos rfl, if_neg (by omega), if_neg (by simp only [nro]; omega), if_neg (by omega)]) (fun k _ => brk_no (by omega))]
    rfl
theorem b_16 {i : Nat} {a : Nat × Nat × Int32} {u : Unit} {ca m : Fo} {O : Ob} (hb : ∀ k ∈ kls (.inner i a u ca m : Fo), k = 12) : body nt (16, p, v) (.inner i a u ca m) O = emit (cms nt (.inner i a u ca m) true (emit (emit O (sN 53)) [40])) [41] := by
  have hk : ∀ k, k = 12 → brk k 16 = false := fun k h => by subst h; rfl
  have h0 : body nt (16, p, v) (.inner i a u ca m) O = emit (cw nt (.inner i a u ca m) 16 (nro m + 1) a.1 0 (emit O (sN 53))) [41] := rfl
  rw [h0, cw_in, opn_n (hk _ (hb a.1 (by simp [kls]))), clo_n (hk _ (hb a.1 (by simp [kls]))), cw_cms m (0 + 1) _ (fun r h1 h2 => by
    unfold jnt
    rw [if_neg (by omega), if_neg (by omega), if_neg (by omega), if_neg (by omega), if_pos rfl, if_neg (by omega)]) (fun k h => hk _ (hb k (by simp [kls, h])))]
  rfl
/-- a sum or a product -/
theorem b_17 {k z i : Nat} {a : Nat × Nat × Int32} {u : Unit} {ca m : Fo} {O : Ob} (hk : (k = 17 ∧ z = 1 ∧ ∀ x ∈ kls m, x = 18 ∨ x = 19) ∨ (k = 20 ∧ z = 0 ∧ ∀ x ∈ kls m, x = 21 ∨ x = 22 ∨ x = 23)) (ha : a.1 < 100) : body nt (k, p, v) (.inner i a u ca m) O = sq nt m (if a.1 = 17 ∨ (z = 0 ∧ a.1 = 20) then emit (body nt a ca (emit O [40])) [41] else body nt a ca O) := by
  have h0 : body nt (k, p, v) (.inner i a u ca m) O = cw nt (.inner i a u ca m) k (nro m + 1) a.1 0 O := by
    rcases hk with h | h
    · obtain ⟨rfl, _⟩ := h; rfl
    · obtain ⟨rfl, _⟩ := h; rfl
  rw [h0, cw_in, j0 (by omega), em23, brk_f (X := body nt a ca) (z := z) ha (by omega)]
  apply cw_sq
  · intro r hr
    rw [jl (by omega) (by omega)]
    rcases hk with h | h
    · rw [h.1]; rfl
    · rw [h.1]; rfl
  · intro x hx
    apply brk_k
    rcases hk with h | h
    · have := h.2.2 x hx; omega
    · have := h.2.2 x hx; omega
/-- one part, perhaps in brackets -/
theorem b_18 {k z i : Nat} {a : Nat × Nat × Int32} {u : Unit} {ca : Fo} {O : Ob} (hk : (z = 0 ∧ (k = 15 ∨ k = 21 ∨ k = 22 ∨ k = 23)) ∨ (z = 1 ∧ (k = 18 ∨ k = 19))) (ha : a.1 < 100) : body nt (k, p, v) (.inner i a u ca .leaf) O = if a.1 = 17 ∨ (z = 0 ∧ a.1 = 20) then emit (body nt a ca (emit (emit O (sN (bgi k))) [40])) [41] else body nt a ca (emit O (sN (bgi k))) := by
  have h0 : body nt (k, p, v) (.inner i a u ca .leaf) O = cw nt (.inner i a u ca .leaf) k 1 a.1 0 (emit O (sN (bgi k))) := by
    have : k = 15 ∨ k = 21 ∨ k = 22 ∨ k = 23 ∨ k = 18 ∨ k = 19 := by omega
    rcases this with rfl | rfl | rfl | rfl | rfl | rfl <;> rfl
  rw [h0, cw_in, cw_leaf, j0 (by omega), em23, brk_f (X := body nt a ca) (z := z) ha (by omega)]
theorem b_26 {i : Nat} {a : Nat × Nat × Int32} {u : Unit} {ca : Fo} {O : Ob} (ha : a.1 < 100) : body nt (26, p, v) (.inner i a u ca .leaf) O = if a.1 = 24 ∨ (0 = 0 ∧ a.1 = 25) then emit (body nt a ca (emit (emit O [33]) [91])) [93] else body nt a ca (emit O [33]) := by
  have h0 : body nt (26, p, v) (.inner i a u ca .leaf) O = cw nt (.inner i a u ca .leaf) 26 1 a.1 0 (emit O [33]) := rfl
  rw [h0, cw_in, cw_leaf, j0 (by omega), em23, brk_t (X := body nt a ca) (z := 0) ha (by omega)]
theorem b_27 {k i j : Nat} {a b : Nat × Nat × Int32} {u u' : Unit} {ca cb : Fo} {O : Ob} (hk : 27 ≤ k ∧ k ≤ 32) : body nt (k, p, v) (.inner i a u ca (.inner j b u' cb .leaf)) O = body nt b cb (emit (body nt a ca O) (sN (lji k))) := by
  have h0 : body nt (k, p, v) (.inner i a u ca (.inner j b u' cb .leaf)) O = cw nt (.inner i a u ca (.inner j b u' cb .leaf)) k 2 a.1 0 O := by
    have : k = 27 ∨ k = 28 ∨ k = 29 ∨ k = 30 ∨ k = 31 ∨ k = 32 := by omega
    rcases this with rfl | rfl | rfl | rfl | rfl | rfl <;> rfl
  rw [h0, cw_in, cw_in, cw_leaf, o_lo (by omega), c_lo (by omega), o_lo (by omega), c_lo (by omega), j0 (by omega), em23, jl (by omega) (by omega)]
theorem b_14 {i j : Nat} {a b : Nat × Nat × Int32} {u u' : Unit} {ca cb : Fo} {O : Ob} : body nt (14, p, v) (.inner i a u ca (.inner j b u' cb .leaf)) O = emit (body nt b cb (emit (body nt a ca O) [91])) [93] := by
  unfold body
  rw [cw_in, cw_in, cw_leaf, o_lo (by omega), c_lo (by omega), o_lo (by omega), c_lo (by omega), j0 (by omega), em23, jl (by omega) (by omega)]; rfl
theorem okk_le {k : Nat} {l : List Nat} (h : okk k l) : 1 ≤ k ∧ k ≤ 33 := by
  apply Classical.byContradiction
  intro hn
  unfold okk at h
  rw [if_neg (by omega), if_neg (by omega), if_neg (by omega), if_neg (by omega), if_neg (by omega), if_neg (by omega), if_neg (by omega), if_neg (by omega), if_neg (by omega), if_neg (by omega), if_neg (by omega), if_neg (by omega), if_neg (by omega)] at h
  exact h
theorem kls_nil {f : Fo} (h : kls f = []) : f = .leaf := by
  cases f with
  | leaf => rfl
  | inner => simp [kls] at h
theorem kls_one {f : Fo} (h : (kls f).length = 1) : ∃ i a u ca, f = .inner i a u ca .leaf := by
  cases f with
  | leaf => simp [kls] at h
  | inner i a u ca m =>
    cases m with
    | leaf => exact ⟨i, a, u, ca, rfl⟩
    | inner => simp [kls] at h
theorem kls_two {f : Fo} (h : (kls f).length = 2) : ∃ i a u ca j b u' cb, f = .inner i a u ca (.inner j b u' cb .leaf) := by
  cases f with
  | leaf => simp [kls] at h
  | inner i a u ca m =>
    obtain ⟨j, b, u', cb, rfl⟩ := kls_one (f := m) (by simpa [kls] using h)
    exact ⟨i, a, u, ca, j, b, u', cb, rfl⟩
theorem wt_kls {n : Nat} : ∀ {f : Fo}, wt n f → ∀ k ∈ kls f, k < 100 := by
  intro f
  induction f with
  | leaf => intro _ k hk; simp [kls] at hk
  | inner i x u c m ic im =>
    intro h k hk
    simp only [kls, List.mem_cons] at hk
    rcases hk with h' | h'
    · rw [h']; exact okk_lt h.1
    · exact im h.2.2.2.2 k h'
theorem show_node {k : Nat} (ht : t < 2) (hNN : 40000 ≤ N) (hT : NT S0.2 nt) (hok : ∀ w ∈ nt, okw w) (hk : k = 0 ∨ okk k (kls c)) (h13 : k = 13 → ∃ n, n < nt.length ∧ v = nI n) (h12 : k = 12 → v ≠ -2147483648) (hw : wt nt.length c) (hs : s + 1 + siz c ≤ 13000) (hK : S0.2 14 (13000 * t + s) = nI k) (hV : S0.2 16 (13000 * t + s) = v) (hZ : S0.2 18 (13000 * t + s) = nI (siz c + 1)) (hc : FaS S0 t c (s + 1) (nI s)) (H0 : ShF S0 N L t nt c (s + 1)) (H1 : ShF S0 N (L + 1) t nt c (s + 1)) (H2 : ShF S0 N (L + 2) t nt c (s + 1)) : Sh1 S0 N (L + 3) t s nt (k, p, v) c := by
  intro O S h
  have hN1 : 100 ≤ N := by omega
  have e0 : (13000 : Int32) * nI t + nI s = nI (13000 * t + s) := by rw [show (13000 : Int32) * nI t = nI (13000 * t) from n_mul 13000 t, n_add]
  have ibz : ib ((13000 : Int32) * nI t + nI s) 26000 := by rw [e0, n_ib (by omega)]; omega
  have hval : S.2 16 ((13000 : Int32) * nI t + nI s).toNatClampNeg = v := by rw [e0, n_nat (by omega), h.1.2 16 (by omega)]; exact hV
  have hkl := wt_kls hw
  have hnr := nro_le c
  have hle : ∀ {x y : Nat}, x < 20000 → y < 20000 → ((nI x ≤ nI y) = (x ≤ y)) := fun h1 h2 => n_le (by omega) (by omega)
  rw [rw_show_s]
  unfold f_RM_show
  refine Rs_I (s_kind ht h hK (by omega)) (Rs_bnd (x' := nI (s + 1)) (n_add s 1) (Rs_I (s_behind ht h hZ (by omega)) ?_))
  by_cases k0 : k = 0
  · subst k0
    rw [b_0]
    refine Rs_if rfl ?_
    unfold k_RM_show_29
    exact Rs_nif (by decide) (sh_40 ht (Or.inl rfl) c (s + 1) (s + 1 + siz c) N (nI s) h H2 hc rfl hs (by omega))
  · have ok : okk k (kls c) := by rcases hk with h | h; exact absurd h k0; exact h
    have hr := okk_le ok
    by_cases kst : 3 ≤ k ∧ k ≤ 11
    · have n0 : ¬ nI k = 0 := by show ¬ nI k = nI 0; rw [n_eq (by omega) (by omega)]; omega
      have n2 : ¬ nI k = 2 := by show ¬ nI k = nI 2; rw [n_eq (by omega) (by omega)]; omega
      have n1 : ¬ nI k = 1 := by show ¬ nI k = nI 1; rw [n_eq (by omega) (by omega)]; omega
      have n12 : ¬ 12 ≤ nI k := by show ¬ nI 12 ≤ nI k; rw [n_le (by omega) (by omega)]; omega
      refine Rs_nif n0 (Rs_nif n2 (Rs_nif n1 (Rs_nif n12 (Rs_V (stm_all (p := p) (v := v) ht hNN kst.1 kst.2 ok hs hZ hc H0 H1 hkl (fun i a u ca m e h33 => ?_) h) (fun S' h' => Rs_ret h')))))
      subst e
      have := hw.1
      rw [h33] at this
      simp [okk] at this
      exact kls_nil this
    · have hcases : k = 1 ∨ k = 2 ∨ k = 12 ∨ k = 13 ∨ k = 14 ∨ k = 15 ∨ k = 16 ∨ k = 17 ∨ k = 18 ∨ k = 19 ∨ k = 20 ∨ k = 21 ∨ k = 22 ∨ k = 23 ∨ k = 24 ∨ k = 25 ∨ k = 26 ∨ k = 27 ∨ k = 28 ∨ k = 29 ∨ k = 30 ∨ k = 31 ∨ k = 32 ∨ k = 33 := by omega
      -- one part, with a sign in front
      have one : ∀ (k z idx : Nat) {O : Ob} {S : rm_S}, RW S0 O S → k = 18 ∨ k = 19 ∨ k = 21 ∨ k = 22 ∨ k = 23 → (kls c).length = 1 → f_RM_sign N (nI k) S = some (idx, S) → idx < 67 → sN idx ≠ [] → sN idx = sN (bgi k) → (20 ≤ k → z = 0) → (k < 20 → z = 1) → Rs S0 (k_RM_show_392 N (rw_show N (L + 2)) (rw_commas N (L + 2)) (rw_statements N (L + 2)) (rw_sayFactor N (L + 2)) (rw_sayTest N (L + 2)) (nI t) (nI k) (nI (s + 1)) S) (body nt (k, p, v) c O) := by
        intro k z idx O S h hk hl hsg hi hne hse hz1 hz2
        obtain ⟨i, a, u, ca, rfl⟩ := kls_one hl
        have z1 : siz (.inner i a u ca .leaf) = siz ca + 1 + 0 := rfl
        have ha := hkl a.1 (by simp [kls])
        rw [b_18 (z := z) (by omega) ha]
        unfold k_RM_show_392
        refine Rs_Is hsg (Rs_V (r_text (N := N) h hi hne hN1) (fun S1 h1 => ?_))
        rw [hse] at h1
        by_cases h20 : 20 ≤ k
        · have := hz1 h20
          subst this
          exact Rs_if (by show nI 20 ≤ nI k; rw [hle (by omega) (by omega)]; exact h20) (Rs_V (say_f ht (Or.inl rfl) ha hc.1.1 (by omega) H0.1 h1) (fun S2 h2 => Rs_ret h2))
        · have := hz2 (by omega)
          subst this
          exact Rs_nif (by show ¬ nI 20 ≤ nI k; rw [hle (by omega) (by omega)]; exact h20) (Rs_V (say_f ht (Or.inr rfl) ha hc.1.1 (by omega) H0.1 h1) (fun S2 h2 => Rs_ret h2))
      -- comparisons
      have cmp : ∀ (k idx : Nat) {O : Ob} {S : rm_S}, RW S0 O S → 27 ≤ k → k ≤ 32 → (kls c).length = 2 → (∀ S', f_RM_sign N (nI k) S' = some (idx, S')) → idx < 67 → sN idx ≠ [] → sN idx = sN (lji k) → Rs S0 (k_RM_show_422 N (rw_show N (L + 2)) (rw_commas N (L + 2)) (rw_statements N (L + 2)) (rw_sayFactor N (L + 2)) (rw_sayTest N (L + 2)) (nI t) (nI k) (nI (s + 1)) (nI (s + 1 + siz c)) S) (body nt (k, p, v) c O) := by
        intro k idx O S h hk1 hk2 hl hsg hi hne hse
        obtain ⟨i, a, u, ca, j, b, u', cb, rfl⟩ := kls_two hl
        have z1 : siz (.inner i a u ca (.inner j b u' cb .leaf)) = siz ca + 1 + (siz cb + 1 + 0) := rfl
        rw [b_27 ⟨hk1, hk2⟩]
        unfold k_RM_show_422
        have q24 : ¬ nI k = 24 := by show ¬ nI k = nI 24; rw [n_eq (by omega) (by omega)]; omega
        have q25 : ¬ nI k = 25 := by show ¬ nI k = nI 25; rw [n_eq (by omega) (by omega)]; omega
        have q26 : ¬ nI k = 26 := by show ¬ nI k = nI 26; rw [n_eq (by omega) (by omega)]; omega
        have q33 : ¬ 33 ≤ nI k := by show ¬ nI 33 ≤ nI k; rw [n_le (by omega) (by omega)]; omega
        refine Rs_nif q24 (Rs_nif q25 (Rs_nif q26 (Rs_nif q33 (Rs_V (H2.1 _ _ h) (fun S1 h1 => Rs_Is (hsg S1) (Rs_V (r_text (N := N) h1 hi hne hN1) (fun S2 h2 => Rs_I (s_behind ht h2 hc.1.2.2.2 (by omega)) (Rs_V (H2.2.1 _ _ h2) (fun S3 h3 => ?_)))))))))
        rw [hse] at h3
        exact Rs_ret h3
      have sm : ∀ (k z : Nat) {O : Ob} {S : rm_S}, RW S0 O S → (∃ i a u ca m, c = .inner i a u ca m ∧ ((k = 17 ∧ z = 1 ∧ ∀ x ∈ kls m, x = 18 ∨ x = 19) ∨ (k = 20 ∧ z = 0 ∧ ∀ x ∈ kls m, x = 21 ∨ x = 22 ∨ x = 23))) → Rs S0 (k_RM_show_315 N (rw_show N (L + 2)) (rw_commas N (L + 2)) (rw_statements N (L + 2)) (rw_sayFactor N (L + 2)) (rw_sayTest N (L + 2)) (nI t) (nI k) (nI (s + 1)) (nI (s + 1 + siz c)) S) (body nt (k, p, v) c O) := by
        rintro k z O S h ⟨i, a, u, ca, m, rfl, hkm⟩
        have ha := hkl a.1 (by simp [kls])
        have z1 : siz (.inner i a u ca m) = siz ca + 1 + siz m := rfl
        have zn : nro (.inner i a u ca m) = nro m + 1 := rfl
        rw [b_17 (z := z) hkm ha]
        unfold k_RM_show_315
        have sub : Rs S0 (k_RM_show_330 N (rw_show N (L + 2)) (rw_commas N (L + 2)) (rw_statements N (L + 2)) (rw_sayFactor N (L + 2)) (rw_sayTest N (L + 2)) (nI t) (nI (s + 1)) (nI (s + 1 + siz (.inner i a u ca m))) (nI z) (nI (s + 1)) (nI t) S) (sq nt m (if a.1 = 17 ∨ (z = 0 ∧ a.1 = 20) then emit (body nt a ca (emit O [40])) [41] else body nt a ca O)) := by
          unfold k_RM_show_330
          refine Rs_V (say_f ht (by omega) ha hc.1.1 (by omega) H0.1 h) (fun S1 h1 => Rs_I (s_behind ht h1 hc.1.2.2.2 (by omega)) ?_)
          exact s_342 ht m (s + 1 + 1 + siz ca) _ N (nI s) h1 H2.2 hc.2.2 (by omega) hs (by omega)
        rcases hkm with hh | hh
        · obtain ⟨rfl, rfl, _⟩ := hh
          exact Rs_if rfl sub
        · obtain ⟨rfl, rfl, _⟩ := hh
          exact Rs_nif (by decide) sub
      rcases hcases with rfl | rfl | rfl | rfl | rfl | rfl | rfl | rfl | rfl | rfl | rfl | rfl | rfl | rfl | rfl | rfl | rfl | rfl | rfl | rfl | rfl | rfl | rfl | rfl
      · -- function
        obtain ⟨r, hkr⟩ : ∃ r, kls c = 13 :: (List.replicate r 13 ++ [2]) := by simpa [okk] using ok
        obtain ⟨i, a, u, ca, m, rfl⟩ : ∃ i a u ca m, c = .inner i a u ca m := by
          cases c with
          | leaf => simp [kls] at hkr
          | inner i a u ca m => exact ⟨i, a, u, ca, m, rfl⟩
        simp only [kls, List.cons.injEq] at hkr
        obtain ⟨f, i', b, u', cb, rfl, e2, e3, e4, e5⟩ := fun_parts m r hkr.2 hw.2.2.2.2
        have hca : ca = .leaf := by
          have hk := hw.1
          rw [hkr.1] at hk
          simp [okk] at hk
          exact kls_nil hk
        subst hca
        have z1 : siz (.inner i a u .leaf (app f (.inner i' b u' cb .leaf))) = 0 + 1 + siz (app f (.inner i' b u' cb .leaf)) := rfl
        have z2 := siz_app f (.inner i' b u' cb .leaf)
        have z3 : siz (.inner i' b u' cb .leaf : Fo) = siz cb + 1 + 0 := rfl
        rw [b_1]
        refine Rs_nif (by decide) (Rs_nif (by decide) (Rs_if rfl (Rs_V (r_text (N := N) (y := 46) h (by omega) (by decide) hN1) (fun S1 h1 => Rs_V (H2.1 _ _ h1) (fun S2 h2 => Rs_bnd (x' := nI (s + 2)) (n_add (s + 1) 1) ?_)))))
        have hf2 : FaS S0 t (app f (.inner i' b u' cb .leaf)) (s + 2) (nI s) := by
          have := hc.2.2
          rw [show s + 1 + 1 + siz (.leaf : Fo) = s + 2 from rfl] at this; exact this
        have h104 := sh_104 (N := N) (ps := rw_show N (L + 2)) (pc := rw_commas N (L + 2)) (pst := rw_statements N (L + 2)) (psf := rw_sayFactor N (L + 2)) (pt := rw_sayTest N (L + 2)) (y4 := s + 1) ht h2 f (s + 2) N (nI s) i' b u' cb hf2 (by rw [e4]; exact e5) (by omega) e2 (by omega) (by omega)
        rw [h104]
        have hF := Fa_app f _ _ hf2
        have hS1 : ShF S0 N (L + 1) t nt f (s + 2) ∧ ShF S0 N (L + 1) t nt (.inner i' b u' cb .leaf) (s + 2 + siz f) := ShF_app f (s + 2) H1.2
        have hS2 : ShF S0 N (L + 2) t nt f (s + 2) ∧ ShF S0 N (L + 2) t nt (.inner i' b u' cb .leaf) (s + 2 + siz f) := ShF_app f (s + 2) H2.2
        refine Rs_V (s_commas ht hNN h2 hS1.1 hF.1 (by omega) (by omega)) (fun S3 h3 => ?_)
        rw [show s + 2 + nro f = s + 2 + siz f by omega]
        exact Rs_V (hS2.2.1 _ _ h3) (fun S4 h4 => Rs_ret h4)
      · -- block
        rw [b_2]
        refine Rs_nif (by decide) (Rs_if rfl ?_)
        unfold k_RM_show_29
        exact Rs_if rfl (Rs_V (r_begin (N := N) (c := 123) h (by omega)) (fun S1 h1 => sh_40 (k := 2) ht (Or.inr rfl) c (s + 1) (s + 1 + siz c) N (nI s) h1 H2 hc rfl hs (by omega)))
      · -- number
        have hcl : c = .leaf := kls_nil (by simpa [okk] using ok)
        subst hcl
        refine Rs_nif (by decide) (Rs_nif (by decide) (Rs_nif (by decide) (Rs_if (by decide) (Rs_if rfl (Rs_chk ibz ?_)))))
        rw [hval]
        exact Rs_V (r_number (N := N) h v (h12 rfl) hN1) (fun S1 h1 => Rs_ret h1)
      · -- name
        have hcl : c = .leaf := kls_nil (by simpa [okk] using ok)
        subst hcl
        obtain ⟨n, hn, rfl⟩ := h13 rfl
        refine Rs_nif (by decide) (Rs_nif (by decide) (Rs_nif (by decide) (Rs_if (by decide) (Rs_nif (by decide) (Rs_if rfl (Rs_chk ibz ?_))))))
        rw [hval]
        refine Rs_V (r_sayName (N := N) h hT hn (hok _ (List.getElem_mem hn)) hN1) (fun S1 h1 => ?_)
        have hlt := hT.2.2.1
        have eb : body nt (13, p, nI n) .leaf O = emit O (nw nt[n]) := by
          show emit O (nw (nt.getD (nI n).toNatClampNeg [])) = _
          rw [n_nat (by omega)]
          simp [List.getD, hn]
        rw [eb]
        exact Rs_ret h1
      · -- element
        obtain ⟨i, a, u, ca, j, b, u', cb, rfl⟩ := kls_two (f := c) (by simpa [okk] using ok)
        have z1 : siz (.inner i a u ca (.inner j b u' cb .leaf)) = siz ca + 1 + (siz cb + 1 + 0) := rfl
        rw [b_14]
        exact Rs_nif (by decide) (Rs_nif (by decide) (Rs_nif (by decide) (Rs_if (by decide) (Rs_nif (by decide) (Rs_nif (by decide) (Rs_if rfl (Rs_V (H2.1 _ _ h) (fun S1 h1 => Rs_V (r_begin (N := N) (c := 91) h1 (by omega)) (fun S2 h2 => Rs_I (s_behind ht h2 hc.1.2.2.2 (by omega)) (Rs_V (H2.2.1 _ _ h2) (fun S3 h3 => Rs_V (r_begin (N := N) (c := 93) h3 (by omega)) (fun S4 h4 => Rs_ret h4))))))))))))
      · -- negative
        obtain ⟨i, a, u, ca, rfl⟩ := kls_one (f := c) (by simpa [okk] using ok)
        have z1 : siz (.inner i a u ca .leaf) = siz ca + 1 + 0 := rfl
        have ha := hkl a.1 (by simp [kls])
        rw [b_18 (z := 0) (by omega) ha]
        exact Rs_nif (by decide) (Rs_nif (by decide) (Rs_nif (by decide) (Rs_if (by decide) (Rs_nif (by decide) (Rs_nif (by decide) (Rs_nif (by decide) (Rs_if rfl (Rs_V (r_begin (N := N) (c := 45) h (by omega)) (fun S1 h1 => Rs_V (say_f (z := 0) ht (Or.inl rfl) ha hc.1.1 (by omega) H0.1 h1) (fun S2 h2 => Rs_ret h2))))))))))
      · -- any
        have hkc : kls c = [] ∨ kls c = [12, 12] := by simpa [okk] using ok
        refine Rs_nif (by decide) (Rs_nif (by decide) (Rs_nif (by decide) (Rs_if (by decide) (Rs_nif (by decide) (Rs_nif (by decide) (Rs_nif (by decide) (Rs_nif (by decide) (Rs_if rfl (Rs_V (r_text (N := N) (y := 53) h (by omega) (by decide) hN1) (fun S1 h1 => ?_))))))))))
        rcases hkc with hkc | hkc
        · have hcl := kls_nil hkc
          subst hcl
          exact Rs_if (by rw [hle (by omega) (by omega)]; simp [siz]) (Rs_ret h1)
        · obtain ⟨i, a, u, ca, j, b, u', cb, rfl⟩ := kls_two (f := c) (by rw [hkc]; rfl)
          have z1 : siz (.inner i a u ca (.inner j b u' cb .leaf)) = siz ca + 1 + (siz cb + 1 + 0) := rfl
          rw [b_16 (by rw [hkc]; simp)]
          exact Rs_nif (by rw [hle (by omega) (by omega)]; omega) (Rs_V (s_commas ht hNN h1 H1 hc rfl (by omega)) (fun S2 h2 => Rs_ret h2))
      · -- sum
        obtain ⟨a', m', hkm, _, hall⟩ : ∃ a m, kls c = a :: m ∧ m ≠ [] ∧ ∀ x ∈ m, x = 18 ∨ x = 19 := by simpa [okk] using ok
        refine Rs_nif (by decide) (Rs_nif (by decide) (Rs_nif (by decide) (Rs_if (by decide) (Rs_nif (by decide) (Rs_nif (by decide) (Rs_nif (by decide) (Rs_nif (by decide) (Rs_nif (by decide) (Rs_if rfl (sm 17 1 h ?_))))))))))
        cases c with
        | leaf => simp [kls] at hkm
        | inner i a u ca m =>
          simp only [kls, List.cons.injEq] at hkm
          exact ⟨i, a, u, ca, m, rfl, Or.inl ⟨rfl, rfl, by rw [hkm.2]; exact hall⟩⟩
      · refine Rs_nif (by decide) (Rs_nif (by decide) (Rs_nif (by decide) (Rs_if (by decide) (Rs_nif (by decide) (Rs_nif (by decide) (Rs_nif (by decide) (Rs_nif (by decide) (Rs_nif (by decide) (Rs_nif (by decide) (Rs_nif (by decide) (Rs_if rfl ?_)))))))))))
        exact one 18 1 54 h (by omega) (by simpa [okk] using ok) rfl (by omega) (by decide) (by decide) (by omega) (by omega)
      · refine Rs_nif (by decide) (Rs_nif (by decide) (Rs_nif (by decide) (Rs_if (by decide) (Rs_nif (by decide) (Rs_nif (by decide) (Rs_nif (by decide) (Rs_nif (by decide) (Rs_nif (by decide) (Rs_nif (by decide) (Rs_nif (by decide) (Rs_nif (by decide) (Rs_if rfl ?_))))))))))))
        exact one 19 1 55 h (by omega) (by simpa [okk] using ok) rfl (by omega) (by decide) (by decide) (by omega) (by omega)
      · -- product
        obtain ⟨a', m', hkm, _, hall⟩ : ∃ a m, kls c = a :: m ∧ m ≠ [] ∧ ∀ x ∈ m, x = 21 ∨ x = 22 ∨ x = 23 := by simpa [okk] using ok
        refine Rs_nif (by decide) (Rs_nif (by decide) (Rs_nif (by decide) (Rs_if (by decide) (Rs_nif (by decide) (Rs_nif (by decide) (Rs_nif (by decide) (Rs_nif (by decide) (Rs_nif (by decide) (Rs_nif (by decide) (Rs_if rfl (sm 20 0 h ?_)))))))))))
        cases c with
        | leaf => simp [kls] at hkm
        | inner i a u ca m =>
          simp only [kls, List.cons.injEq] at hkm
          exact ⟨i, a, u, ca, m, rfl, Or.inr ⟨rfl, rfl, by rw [hkm.2]; exact hall⟩⟩
      · refine Rs_nif (by decide) (Rs_nif (by decide) (Rs_nif (by decide) (Rs_if (by decide) (Rs_nif (by decide) (Rs_nif (by decide) (Rs_nif (by decide) (Rs_nif (by decide) (Rs_nif (by decide) (Rs_nif (by decide) (Rs_nif (by decide) (Rs_nif (by decide) (Rs_nif (by decide) (Rs_nif (by decide) (Rs_nif (by decide) ?_))))))))))))))
        exact one 21 0 56 h (by omega) (by simpa [okk] using ok) rfl (by omega) (by decide) (by decide) (by omega) (by omega)
      · refine Rs_nif (by decide) (Rs_nif (by decide) (Rs_nif (by decide) (Rs_if (by decide) (Rs_nif (by decide) (Rs_nif (by decide) (Rs_nif (by decide) (Rs_nif (by decide) (Rs_nif (by decide) (Rs_nif (by decide) (Rs_nif (by decide) (Rs_nif (by decide) (Rs_nif (by decide) (Rs_nif (by decide) (Rs_nif (by decide) ?_))))))))))))))
        exact one 22 0 57 h (by omega) (by simpa [okk] using ok) rfl (by omega) (by decide) (by decide) (by omega) (by omega)
      · refine Rs_nif (by decide) (Rs_nif (by decide) (Rs_nif (by decide) (Rs_if (by decide) (Rs_nif (by decide) (Rs_nif (by decide) (Rs_nif (by decide) (Rs_nif (by decide) (Rs_nif (by decide) (Rs_nif (by decide) (Rs_nif (by decide) (Rs_nif (by decide) (Rs_nif (by decide) (Rs_nif (by decide) (Rs_nif (by decide) ?_))))))))))))))
        exact one 23 0 58 h (by omega) (by simpa [okk] using ok) rfl (by omega) (by decide) (by decide) (by omega) (by omega)
      · -- or
        have eb : body nt (24, p, v) c O = cw nt c 24 (nro c) (fstk c) 0 O := rfl
        rw [eb]
        refine Rs_nif (by decide) (Rs_nif (by decide) (Rs_nif (by decide) (Rs_if (by decide) (Rs_nif (by decide) (Rs_nif (by decide) (Rs_nif (by decide) (Rs_nif (by decide) (Rs_nif (by decide) (Rs_nif (by decide) (Rs_nif (by decide) (Rs_nif (by decide) (Rs_nif (by decide) (Rs_nif (by decide) (Rs_if (by decide) ?_))))))))))))))
        unfold k_RM_show_422
        exact Rs_if rfl (s_438 (Or.inl rfl) ht hN1 c (s + 1) (s + 1 + siz c) N 0 (nI s) h H0 hc hkl rfl hs (by omega) (fun _ => rfl) (fun h => absurd rfl h))
      · -- and
        have eb : body nt (25, p, v) c O = cw nt c 25 (nro c) (fstk c) 0 O := rfl
        rw [eb]
        refine Rs_nif (by decide) (Rs_nif (by decide) (Rs_nif (by decide) (Rs_if (by decide) (Rs_nif (by decide) (Rs_nif (by decide) (Rs_nif (by decide) (Rs_nif (by decide) (Rs_nif (by decide) (Rs_nif (by decide) (Rs_nif (by decide) (Rs_nif (by decide) (Rs_nif (by decide) (Rs_nif (by decide) (Rs_if (by decide) ?_))))))))))))))
        unfold k_RM_show_422
        exact Rs_nif (by decide) (Rs_if rfl (s_438 (Or.inr rfl) ht hN1 c (s + 1) (s + 1 + siz c) N 0 (nI s) h H0 hc hkl rfl hs (by omega) (fun _ => rfl) (fun h => absurd rfl h)))
      · -- not
        obtain ⟨i, a, u, ca, rfl⟩ := kls_one (f := c) (by simpa [okk] using ok)
        have z1 : siz (.inner i a u ca .leaf) = siz ca + 1 + 0 := rfl
        have ha := hkl a.1 (by simp [kls])
        rw [b_26 ha]
        refine Rs_nif (by decide) (Rs_nif (by decide) (Rs_nif (by decide) (Rs_if (by decide) (Rs_nif (by decide) (Rs_nif (by decide) (Rs_nif (by decide) (Rs_nif (by decide) (Rs_nif (by decide) (Rs_nif (by decide) (Rs_nif (by decide) (Rs_nif (by decide) (Rs_nif (by decide) (Rs_nif (by decide) (Rs_if (by decide) ?_))))))))))))))
        unfold k_RM_show_422
        exact Rs_nif (by decide) (Rs_nif (by decide) (Rs_if rfl (Rs_V (r_begin (N := N) (c := 33) h (by omega)) (fun S1 h1 => Rs_V (say_t (z := 0) ht (Or.inl rfl) ha hc.1.1 (by omega) H0.1 h1) (fun S2 h2 => Rs_ret h2)))))
      · refine Rs_nif (by decide) (Rs_nif (by decide) (Rs_nif (by decide) (Rs_if (by decide) (Rs_nif (by decide) (Rs_nif (by decide) (Rs_nif (by decide) (Rs_nif (by decide) (Rs_nif (by decide) (Rs_nif (by decide) (Rs_nif (by decide) (Rs_nif (by decide) (Rs_nif (by decide) (Rs_nif (by decide) (Rs_if (by decide) ?_))))))))))))))
        exact cmp 27 59 h (by omega) (by omega) (by simpa [okk] using ok) (fun _ => rfl) (by omega) (by decide) (by decide)
      · refine Rs_nif (by decide) (Rs_nif (by decide) (Rs_nif (by decide) (Rs_if (by decide) (Rs_nif (by decide) (Rs_nif (by decide) (Rs_nif (by decide) (Rs_nif (by decide) (Rs_nif (by decide) (Rs_nif (by decide) (Rs_nif (by decide) (Rs_nif (by decide) (Rs_nif (by decide) (Rs_nif (by decide) (Rs_if (by decide) ?_))))))))))))))
        exact cmp 28 60 h (by omega) (by omega) (by simpa [okk] using ok) (fun _ => rfl) (by omega) (by decide) (by decide)
      · refine Rs_nif (by decide) (Rs_nif (by decide) (Rs_nif (by decide) (Rs_if (by decide) (Rs_nif (by decide) (Rs_nif (by decide) (Rs_nif (by decide) (Rs_nif (by decide) (Rs_nif (by decide) (Rs_nif (by decide) (Rs_nif (by decide) (Rs_nif (by decide) (Rs_nif (by decide) (Rs_nif (by decide) (Rs_if (by decide) ?_))))))))))))))
        exact cmp 29 61 h (by omega) (by omega) (by simpa [okk] using ok) (fun _ => rfl) (by omega) (by decide) (by decide)
      · refine Rs_nif (by decide) (Rs_nif (by decide) (Rs_nif (by decide) (Rs_if (by decide) (Rs_nif (by decide) (Rs_nif (by decide) (Rs_nif (by decide) (Rs_nif (by decide) (Rs_nif (by decide) (Rs_nif (by decide) (Rs_nif (by decide) (Rs_nif (by decide) (Rs_nif (by decide) (Rs_nif (by decide) (Rs_if (by decide) ?_))))))))))))))
        exact cmp 30 62 h (by omega) (by omega) (by simpa [okk] using ok) (fun _ => rfl) (by omega) (by decide) (by decide)
      · refine Rs_nif (by decide) (Rs_nif (by decide) (Rs_nif (by decide) (Rs_if (by decide) (Rs_nif (by decide) (Rs_nif (by decide) (Rs_nif (by decide) (Rs_nif (by decide) (Rs_nif (by decide) (Rs_nif (by decide) (Rs_nif (by decide) (Rs_nif (by decide) (Rs_nif (by decide) (Rs_nif (by decide) (Rs_if (by decide) ?_))))))))))))))
        exact cmp 31 63 h (by omega) (by omega) (by simpa [okk] using ok) (fun _ => rfl) (by omega) (by decide) (by decide)
      · refine Rs_nif (by decide) (Rs_nif (by decide) (Rs_nif (by decide) (Rs_if (by decide) (Rs_nif (by decide) (Rs_nif (by decide) (Rs_nif (by decide) (Rs_nif (by decide) (Rs_nif (by decide) (Rs_nif (by decide) (Rs_nif (by decide) (Rs_nif (by decide) (Rs_nif (by decide) (Rs_nif (by decide) (Rs_if (by decide) ?_))))))))))))))
        exact cmp 32 64 h (by omega) (by omega) (by simpa [okk] using ok) (fun _ => rfl) (by omega) (by decide) (by decide)
      · -- nothing
        have hcl : c = .leaf := kls_nil (by simpa [okk] using ok)
        subst hcl
        refine Rs_nif (by decide) (Rs_nif (by decide) (Rs_nif (by decide) (Rs_if (by decide) (Rs_nif (by decide) (Rs_nif (by decide) (Rs_nif (by decide) (Rs_nif (by decide) (Rs_nif (by decide) (Rs_nif (by decide) (Rs_nif (by decide) (Rs_nif (by decide) (Rs_nif (by decide) (Rs_nif (by decide) (Rs_if (by decide) ?_))))))))))))))
        unfold k_RM_show_422
        exact Rs_nif (by decide) (Rs_nif (by decide) (Rs_nif (by decide) (Rs_if (by decide) (Rs_ret h))))
theorem show_all (ht : t < 2) (hNN : 40000 ≤ N) (hT : NT S0.2 nt) (hok : ∀ w ∈ nt, okw w) : ∀ (F : Fo) (s : Nat) (w : Int32) (L : Nat), FaS S0 t F s w → wt nt.length F → 3 * hgt F ≤ L → s + siz F ≤ 13000 → ShF S0 N L t nt F s := by
  intro F
  induction F with
  | leaf => intro s w L _ _ _ _; trivial
  | inner i x u c m ic im =>
    intro s w L hf hw hL hs
    simp only [hgt] at hL
    simp only [siz] at hs
    have b1 : 3 * hgt c + 3 ≤ L := by omega
    have b2 : 3 * hgt m ≤ L := by omega
    have b3 : s + 1 + siz c ≤ 13000 := by omega
    have b4 : s + 1 + siz c + siz m ≤ 13000 := by omega
    obtain ⟨⟨f1, f2, f3, f4⟩, f5, f6⟩ := hf
    have hS : ∀ L', 3 * hgt c ≤ L' → ShF S0 N L' t nt c (s + 1) := fun L' h => ic _ _ L' f5 hw.2.2.2.1 h b3
    refine ⟨?_, im _ _ _ f6 hw.2.2.2.2 b2 b4⟩
    have e3 : L = (L - 3) + 3 := by omega
    rw [e3]
    have h0 := hS (L - 3) (by omega)
    have h1 := hS (L - 3 + 1) (by omega)
    have h2 := hS (L - 3 + 2) (by omega)
    have := show_node (S0 := S0) (N := N) (t := t) (L := L - 3) (s := s) (p := x.2.1) (nt := nt) (c := c) (v := x.2.2) (k := x.1) ht hNN hT hok (Or.inr hw.1) hw.2.1 hw.2.2.1 hw.2.2.2.1 b3 f1 f2 f4 f5 h0 h1 h2
    exact this
end SHOW3
