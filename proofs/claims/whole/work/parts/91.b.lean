/-! the reference shows statements -/
theorem o_lo {kw : Nat} (h : kw ≤ 14 ∨ 27 ≤ kw) (k : Nat) (O : Ob) : opn k kw O = O := opn_n (brk_no h)
theorem c_lo {kw : Nat} (h : kw ≤ 14 ∨ 27 ≤ kw) (k : Nat) (O : Ob) : clo k kw O = O := clo_n (brk_no h)
theorem em12 (O : Ob) : emit O (sN 12) = emit (emit O (sN 48)) [40] := emit_app (a := [105, 102]) (b := [40]) (by simp) (by simp; decide)
theorem em13 (O : Ob) : emit O (sN 13) = emit (emit O (sN 50)) [40] := emit_app (a := [119, 104, 105, 108, 101]) (b := [40]) (by simp) (by simp; decide)
theorem em14 (O : Ob) : emit O (sN 14) = emit (emit O (sN 51)) [40] := emit_app (a := [97, 115, 115, 101, 114, 116]) (b := [40]) (by simp) (by simp; decide)
theorem em26 (O : Ob) : emit O (sN 26) = emit (emit O [93]) [59] := emit_app (a := [93]) (b := [59]) (by simp) (by simp; decide)
theorem em28 (O : Ob) : emit O (sN 28) = emit (emit O [41]) [59] := emit_app (a := [41]) (b := [59]) (by simp) (by simp; decide)
theorem em31 (O : Ob) : emit O (sN 31) = emit (emit O [40]) [41] := emit_app (a := [40]) (b := [41]) (by simp) (by simp; decide)
theorem em27 (O : Ob) : emit O (sN 27) = emit (emit (emit O [40]) [41]) [59] := (emit_app (a := [40, 41]) (b := [59]) (by simp) (by simp; decide)).trans (congrArg (fun X => emit X [59]) (em31 O))
theorem em36 (O : Ob) : emit O (sN 36) = emit (emit O [93]) [61] := emit_app (a := [93]) (b := [61]) (by simp) (by simp; decide)
theorem j0 {kw pw fk : Nat} (h : kw ≠ 16) : jnt kw pw fk 0 = 23 := by
  unfold jnt
  repeat' (first | rfl | (exact absurd ‹kw = 16› h) | split)
theorem jl {kw pw fk j : Nat} (h : kw ≠ 1 ∧ kw ≠ 6 ∧ kw ≠ 7 ∧ kw ≠ 8 ∧ kw ≠ 16) (hj : j ≠ 0) : jnt kw pw fk j = lji kw := by
  unfold jnt
  rw [if_neg h.1, if_neg h.2.1, if_neg h.2.2.1, if_neg h.2.2.2.1, if_neg h.2.2.2.2, if_neg hj]
section STAT
variable {S0 : rm_S} {N t L s p : Nat} {nt : List (List Int32)} {c : Fo} {v : Int32}
theorem b_3a {i : Nat} {a : Nat × Nat × Int32} {u : Unit} {ca : Fo} {O : Ob} : body nt (3, p, v) (.inner i a u ca .leaf) O = emit (body nt a ca (emit O (sN 47))) [59] := by
  unfold body
  rw [cw_in, cw_leaf, o_lo (by omega), c_lo (by omega), j0 (by omega), em23]; rfl
theorem b_3b {i j : Nat} {a b : Nat × Nat × Int32} {u u' : Unit} {ca cb : Fo} {O : Ob} : body nt (3, p, v) (.inner i a u ca (.inner j b u' cb .leaf)) O = emit (body nt b cb (emit (body nt a ca (emit O (sN 47))) [61])) [59] := by
  unfold body
  rw [cw_in, cw_in, cw_leaf, o_lo (by omega), c_lo (by omega), o_lo (by omega), c_lo (by omega), j0 (by omega), em23, jl (by omega) (by omega)]; rfl
theorem b_4 {i j : Nat} {a b : Nat × Nat × Int32} {u u' : Unit} {ca cb : Fo} {O : Ob} : body nt (4, p, v) (.inner i a u ca (.inner j b u' cb .leaf)) O = emit (emit (body nt b cb (emit (body nt a ca (emit O (sN 47))) [91])) [93]) [59] := by
  rw [← em26]
  unfold body
  rw [cw_in, cw_in, cw_leaf, o_lo (by omega), c_lo (by omega), o_lo (by omega), c_lo (by omega), j0 (by omega), em23, jl (by omega) (by omega)]; rfl
theorem b_5 {i j : Nat} {a b : Nat × Nat × Int32} {u u' : Unit} {ca cb : Fo} {O : Ob} : body nt (5, p, v) (.inner i a u ca (.inner j b u' cb .leaf)) O = emit (body nt b cb (emit (body nt a ca O) [61])) [59] := by
  unfold body
  rw [cw_in, cw_in, cw_leaf, o_lo (by omega), c_lo (by omega), o_lo (by omega), c_lo (by omega), j0 (by omega), em23, jl (by omega) (by omega)]; rfl
theorem b_6 {i j k : Nat} {a b d : Nat × Nat × Int32} {u u' u'' : Unit} {ca cb cd : Fo} {O : Ob} : body nt (6, p, v) (.inner i a u ca (.inner j b u' cb (.inner k d u'' cd .leaf))) O = emit (body nt d cd (emit (emit (body nt b cb (emit (body nt a ca O) [91])) [93]) [61])) [59] := by
  rw [← em36]
  unfold body
  rw [cw_in, cw_in, cw_in, cw_leaf, o_lo (by omega), c_lo (by omega), o_lo (by omega), c_lo (by omega), o_lo (by omega), c_lo (by omega), j0 (by omega), em23]; rfl
theorem b_8a {i j : Nat} {a b : Nat × Nat × Int32} {u u' : Unit} {ca cb : Fo} {O : Ob} : body nt (8, p, v) (.inner i a u ca (.inner j b u' cb .leaf)) O = body nt b cb (emit (body nt a ca (emit (emit O (sN 48)) [40])) [41]) := by
  rw [← em12]
  unfold body
  rw [cw_in, cw_in, cw_leaf, o_lo (by omega), c_lo (by omega), o_lo (by omega), c_lo (by omega), j0 (by omega), em23]; rfl
theorem b_8b {i j k : Nat} {a b d : Nat × Nat × Int32} {u u' u'' : Unit} {ca cb cd : Fo} {O : Ob} : body nt (8, p, v) (.inner i a u ca (.inner j b u' cb (.inner k d u'' cd .leaf))) O = body nt d cd (emit (body nt b cb (emit (body nt a ca (emit (emit O (sN 48)) [40])) [41])) (sN 49)) := by
  rw [← em12]
  unfold body
  rw [cw_in, cw_in, cw_in, cw_leaf, o_lo (by omega), c_lo (by omega), o_lo (by omega), c_lo (by omega), o_lo (by omega), c_lo (by omega), j0 (by omega), em23]; rfl
theorem b_9 {i j : Nat} {a b : Nat × Nat × Int32} {u u' : Unit} {ca cb : Fo} {O : Ob} : body nt (9, p, v) (.inner i a u ca (.inner j b u' cb .leaf)) O = body nt b cb (emit (body nt a ca (emit (emit O (sN 50)) [40])) [41]) := by
  rw [← em13]
  unfold body
  rw [cw_in, cw_in, cw_leaf, o_lo (by omega), c_lo (by omega), o_lo (by omega), c_lo (by omega), j0 (by omega), em23, jl (by omega) (by omega)]; rfl
theorem b_10 {i : Nat} {a : Nat × Nat × Int32} {u : Unit} {ca : Fo} {O : Ob} : body nt (10, p, v) (.inner i a u ca .leaf) O = emit (emit (body nt a ca (emit (emit O (sN 51)) [40])) [41]) [59] := by
  rw [← em14, ← em28]
  unfold body
  rw [cw_in, cw_leaf, o_lo (by omega), c_lo (by omega), j0 (by omega), em23]; rfl
theorem b_11 {i : Nat} {a : Nat × Nat × Int32} {u : Unit} {ca : Fo} {O : Ob} : body nt (11, p, v) (.inner i a u ca .leaf) O = emit (body nt a ca (emit O (sN 52))) [59] := by
  unfold body
  rw [cw_in, cw_leaf, o_lo (by omega), c_lo (by omega), j0 (by omega), em23]; rfl
theorem b_7 {i j : Nat} {a b : Nat × Nat × Int32} {u u' : Unit} {ca cb m : Fo} {O : Ob} : body nt (7, p, v) (.inner i a u ca (.inner j b u' cb m)) O = emit (emit (cms nt m true (emit (body nt b cb (if a.1 = 33 then body nt a ca O else emit (body nt a ca O) [61])) [40])) [41]) [59] := by
  have hb1 : ∀ m' j (O : Ob), 3 ≤ j → cw nt m' 7 (nro (.inner i a u ca (.inner j b u' cb m))) (fstk (.inner i a u ca (.inner j b u' cb m))) j O = cms nt m' false O := fun m' j O hj => cw_cms m' j O (fun r hr _ => by
    unfold jnt
    rw [if_neg (by omega), if_neg (by omega), if_pos rfl, if_neg (by omega), if_neg (by omega), if_neg (by omega)]) (fun k _ => brk_no (by omega))
  have hj1 : ∀ X : Ob, emit X (sN (jnt 7 (nro (.inner i a u ca (.inner j b u' cb m))) a.1 1)) = if a.1 = 33 then X else emit X [61] := by
    intro X
    unfold jnt
    rw [if_neg (by omega), if_neg (by omega), if_pos rfl, if_neg (by omega), if_pos rfl]
    by_cases h : a.1 = 33
    · rw [if_pos h, if_pos h]; rfl
    · rw [if_neg h, if_neg h]; rfl
  have hbeg : beg nt (7, p, v) O = O := rfl
  rw [show body nt (7, p, v) (.inner i a u ca (.inner j b u' cb m)) O = emit (cw nt (.inner i a u ca (.inner j b u' cb m)) 7 (nro (.inner i a u ca (.inner j b u' cb m))) a.1 0 (beg nt (7, p, v) O)) (sN (edi 7 (nro (.inner i a u ca (.inner j b u' cb m))))) from rfl]
  rw [cw_in, cw_in, o_lo (by omega), c_lo (by omega), o_lo (by omega), c_lo (by omega), j0 (by omega), em23]
  show emit (cw nt m 7 (nro (.inner i a u ca (.inner j b u' cb m))) a.1 2 (body nt b cb (emit (body nt a ca (beg nt (7, p, v) O)) (sN (jnt 7 (nro (.inner i a u ca (.inner j b u' cb m))) a.1 1))))) (sN (edi 7 (nro (.inner i a u ca (.inner j b u' cb m))))) = _
  rw [hj1, hbeg]
  generalize hX : (if a.1 = 33 then body nt a ca O else emit (body nt a ca O) [61]) = X
  show _ = emit (emit (cms nt m true (emit (body nt b cb X) [40])) [41]) [59]
  cases m with
  | leaf => exact em27 _
  | inner k d u'' cd m' =>
    have hed : edi 7 (nro (.inner i a u ca (.inner j b u' cb (.inner k d u'' cd m')))) = 28 := by
      show (if nro m' + 1 + 1 + 1 = 2 then 27 else 28) = 28
      rw [if_neg (by omega)]
    rw [hed, ← em28, cw_in, o_lo (by omega), c_lo (by omega)]
    have := cw_cms (nt := nt) (kw := 7) (pw := nro (.inner i a u ca (.inner j b u' cb (.inner k d u'' cd m')))) (fk := a.1) m' 3 (body nt d cd (emit (body nt b cb X) (sN (jnt 7 (nro (.inner i a u ca (.inner j b u' cb (.inner k d u'' cd m')))) a.1 2)))) (fun r hr _ => by
      unfold jnt
      rw [if_neg (by omega), if_neg (by omega), if_pos rfl, if_neg (by omega), if_neg (by omega), if_neg (by omega)]) (fun k _ => brk_no (by omega))
    rw [this]; rfl
theorem stm_all {k : Nat} (ht : t < 2) (hNN : 40000 ≤ N) (hk1 : 3 ≤ k) (hk2 : k ≤ 11) (ok : okk k (kls c)) (hs : s + 1 + siz c ≤ 13000) (hZ : S0.2 18 (13000 * t + s) = nI (siz c + 1)) (hc : FaS S0 t c (s + 1) (nI s)) (H0 : ShF S0 N L t nt c (s + 1)) (H1 : ShF S0 N (L + 1) t nt c (s + 1)) (hkl : ∀ k ∈ kls c, k < 100) (h33 : ∀ i a u ca m, c = .inner i a u ca m → a.1 = 33 → ca = .leaf) {O : Ob} {S : rm_S} (h : RW S0 O S) : Rs S0 (rw_statements N (L + 2) (nI t) (nI s) (nI k) S) (body nt (k, p, v) c O) := by
  have hN1 : 100 ≤ N := by omega
  have hne : c ≠ .leaf := by
    rintro rfl
    have : k = 3 ∨ k = 4 ∨ k = 5 ∨ k = 6 ∨ k = 7 ∨ k = 8 ∨ k = 9 ∨ k = 10 ∨ k = 11 := by omega
    rcases this with rfl | rfl | rfl | rfl | rfl | rfl | rfl | rfl | rfl <;> simp [okk, kls] at ok
  obtain ⟨i, a, u, ca, m, rfl⟩ : ∃ i a u ca m, c = .inner i a u ca m := by
    cases c with
    | leaf => exact absurd rfl hne
    | inner i a u ca m => exact ⟨i, a, u, ca, m, rfl⟩
  obtain ⟨⟨fa1, fa2, fa3, fa4⟩, fa5, fa6⟩ := hc
  obtain ⟨A1, A2⟩ := H1
  obtain ⟨A01, A02⟩ := H0
  have hsz : siz (.inner i a u ca m) = siz ca + 1 + siz m := by simp only [siz]
  rw [rw_statements_s]
  unfold f_RM_statements
  refine Rs_bnd (x' := nI (s + 1)) (n_add s 1) (Rs_I (s_behind ht h fa4 (by omega)) ?_)
  have hle : ∀ {x y : Nat}, x < 20000 → y < 20000 → ((nI x ≤ nI y) = (x ≤ y)) := fun h1 h2 => n_le (by omega) (by omega)
  have hcases : k = 3 ∨ k = 4 ∨ k = 5 ∨ k = 6 ∨ k = 7 ∨ k = 8 ∨ k = 9 ∨ k = 10 ∨ k = 11 := by omega
  rcases hcases with rfl | rfl | rfl | rfl | rfl | rfl | rfl | rfl | rfl
  · -- var
    refine Rs_if (by decide) ?_
    unfold k_RM_statements_24
    refine Rs_V (r_text (N := N) (y := 47) h (by omega) (by decide) hN1) (fun S1 h1 => Rs_V (A1 _ _ h1) (fun S2 h2 => Rs_I (s_behind ht h2 hZ (by omega)) ?_))
    have ok' : (kls m).length = 0 ∨ (kls m).length = 1 := by simp [okk, kls] at ok; simp; omega
    cases m with
    | leaf =>
      have z0 : siz (.leaf : Fo) = 0 := rfl
      refine Rs_if (by rw [hle (by omega) (by omega)]; omega) ?_
      unfold k_RM_statements_71
      refine Rs_nif (by decide) (Rs_V (r_begin (N := N) (c := 59) h2 (by omega)) (fun S3 h3 => ?_))
      rw [b_3a]; exact Rs_ret h3
    | inner j b u' cb m' =>
      have z1 : siz (.inner j b u' cb m') = siz cb + 1 + siz m' := rfl
      cases m' with
      | inner => simp [kls] at ok'
      | leaf =>
        have z0 : siz (.leaf : Fo) = 0 := rfl
        refine Rs_nif (by rw [hle (by omega) (by omega)]; omega) (Rs_if (by decide) (Rs_V (r_begin (N := N) (c := 61) h2 (by omega)) (fun S3 h3 => Rs_V (A2.1 _ _ h3) (fun S4 h4 => ?_))))
        unfold k_RM_statements_71
        refine Rs_nif (by decide) (Rs_V (r_begin (N := N) (c := 59) h4 (by omega)) (fun S5 h5 => ?_))
        rw [b_3b]; exact Rs_ret h5
  · -- array
    refine Rs_nif (by decide) (Rs_if (by decide) ?_)
    have ok' : (kls m).length = 1 := by simp [okk, kls] at ok; simpa using ok
    unfold k_RM_statements_24
    refine Rs_V (r_text (N := N) (y := 47) h (by omega) (by decide) hN1) (fun S1 h1 => Rs_V (A1 _ _ h1) (fun S2 h2 => Rs_I (s_behind ht h2 hZ (by omega)) ?_))
    cases m with
    | leaf => simp [kls] at ok'
    | inner j b u' cb m' =>
      have z1 : siz (.inner j b u' cb m') = siz cb + 1 + siz m' := rfl
      cases m' with
      | inner => simp [kls] at ok'
      | leaf =>
        have z0 : siz (.leaf : Fo) = 0 := rfl
        refine Rs_nif (by rw [hle (by omega) (by omega)]; omega) (Rs_nif (by decide) (Rs_V (r_begin (N := N) (c := 91) h2 (by omega)) (fun S3 h3 => Rs_V (A2.1 _ _ h3) (fun S4 h4 => ?_))))
        unfold k_RM_statements_71
        refine Rs_if (by decide) (Rs_V (r_begin (N := N) (c := 93) h4 (by omega)) (fun S5 h5 => Rs_V (r_begin (N := N) (c := 59) h5 (by omega)) (fun S6 h6 => ?_)))
        rw [b_4]; exact Rs_ret h6
  · -- set
    have ok' : (kls m).length = 1 := by simp [okk, kls] at ok; simpa using ok
    cases m with
    | leaf => simp [kls] at ok'
    | inner j b u' cb m' =>
      have z1 : siz (.inner j b u' cb m') = siz cb + 1 + siz m' := rfl
      cases m' with
      | inner => simp [kls] at ok'
      | leaf =>
        have z0 : siz (.leaf : Fo) = 0 := rfl
        refine Rs_nif (by decide) (Rs_nif (by decide) (Rs_if (by decide) (Rs_V (A1 _ _ h) (fun S1 h1 => Rs_V (r_begin (N := N) (c := 61) h1 (by omega)) (fun S2 h2 => Rs_V (A2.1 _ _ h2) (fun S3 h3 => Rs_V (r_begin (N := N) (c := 59) h3 (by omega)) (fun S4 h4 => ?_)))))))
        rw [b_5]; exact Rs_ret h4
  · -- set an element
    have ok' : (kls m).length = 2 := by simp [okk, kls] at ok; simpa using ok
    cases m with
    | leaf => simp [kls] at ok'
    | inner j b u' cb m' =>
      have z1 : siz (.inner j b u' cb m') = siz cb + 1 + siz m' := rfl
      cases m' with
      | leaf => simp [kls] at ok'
      | inner k d u'' cd m'' =>
        have z2 : siz (.inner k d u'' cd m'') = siz cd + 1 + siz m'' := rfl
        cases m'' with
        | inner => simp [kls] at ok'
        | leaf =>
          have z0 : siz (.leaf : Fo) = 0 := rfl
          obtain ⟨⟨_, _, _, fb4⟩, _, fb6⟩ := fa6
          refine Rs_nif (by decide) (Rs_nif (by decide) (Rs_nif (by decide) (Rs_if (by decide) (Rs_V (A1 _ _ h) (fun S1 h1 => Rs_V (r_begin (N := N) (c := 91) h1 (by omega)) (fun S2 h2 => Rs_V (A2.1 _ _ h2) (fun S3 h3 => Rs_V (r_begin (N := N) (c := 93) h3 (by omega)) (fun S4 h4 => Rs_V (r_begin (N := N) (c := 61) h4 (by omega)) (fun S5 h5 => Rs_I (s_behind ht h5 fb4 (by omega)) (Rs_V (A2.2.1 _ _ h5) (fun S6 h6 => Rs_V (r_begin (N := N) (c := 59) h6 (by omega)) (fun S7 h7 => ?_))))))))))))
          rw [b_6]; exact Rs_ret h7
  · -- call
    have ok' : 1 ≤ (kls m).length := by simp [okk, kls] at ok; omega
    cases m with
    | leaf => simp [kls] at ok'
    | inner j b u' cb m' =>
      have z1 : siz (.inner j b u' cb m') = siz cb + 1 + siz m' := rfl
      obtain ⟨⟨_, _, _, fb4⟩, _, fb6⟩ := fa6
      have tail : ∀ {X : Ob} {S1 : rm_S}, RW S0 X S1 → Rs S0 (k_RM_statements_197 N (rw_show N (L + 1)) (rw_commas N (L + 1)) (nI t) (nI s) (nI (s + 1 + 1 + siz ca)) S1) (emit (emit (cms nt m' true (emit (body nt b cb X) [40])) [41]) [59]) := by
        intro X S1 h1
        unfold k_RM_statements_197
        refine Rs_V (A2.1 _ _ h1) (fun S2 h2 => Rs_I (s_behind ht h2 fb4 (by omega)) (Rs_I (s_behind ht h2 hZ (by omega)) (Rs_V (s_commas ht hNN h2 A02.2 fb6 (by omega) (by omega)) (fun S3 h3 => Rs_V (r_begin (N := N) (c := 59) h3 (by omega)) (fun S4 h4 => Rs_ret h4)))))
      refine Rs_nif (by decide) (Rs_nif (by decide) (Rs_nif (by decide) (Rs_nif (by decide) (Rs_if (by decide) (Rs_I (s_kind ht h fa1 (by omega)) ?_)))))
      rw [b_7]
      by_cases h33' : a.1 = 33
      · have eca := h33 i a u ca _ rfl h33'
        subst eca
        rw [if_pos h33']
        have eb : body nt a .leaf O = O := by
          unfold body
          rw [cw_leaf]
          have : beg nt a O = O := by
            unfold beg
            rw [if_neg (by omega), if_neg (by omega), h33']; rfl
          rw [this, h33']; rfl
        rw [eb]
        refine Rs_if (by rw [h33']; rfl) ?_
        exact tail h
      · rw [if_neg h33']
        have h33n : ¬ nI a.1 = 33 := by
          intro e
          have hb := hkl a.1 (by simp [kls])
          have : (nI a.1 = nI 33) = (a.1 = 33) := n_eq (by omega) (by omega)
          exact h33' (this.mp e)
        exact Rs_nif h33n (Rs_V (A1 _ _ h) (fun S1 h1 => Rs_V (r_begin (N := N) (c := 61) h1 (by omega)) (fun S2 h2 => tail h2)))
  · -- if
    have ok' : (kls m).length = 1 ∨ (kls m).length = 2 := by simp [okk, kls] at ok; omega
    cases m with
    | leaf => simp [kls] at ok'
    | inner j b u' cb m' =>
      have z1 : siz (.inner j b u' cb m') = siz cb + 1 + siz m' := rfl
      obtain ⟨⟨_, _, _, fb4⟩, _, fb6⟩ := fa6
      refine Rs_nif (by decide) (Rs_nif (by decide) (Rs_nif (by decide) (Rs_nif (by decide) (Rs_nif (by decide) (Rs_nif (by decide) (Rs_if (by decide) ?_))))))
      unfold k_RM_statements_272
      refine Rs_V (r_text (N := N) (y := 48) h (by omega) (by decide) hN1) (fun S1 h1 => Rs_V (r_begin (N := N) (c := 40) h1 (by omega)) (fun S2 h2 => Rs_V (A1 _ _ h2) (fun S3 h3 => Rs_V (r_begin (N := N) (c := 41) h3 (by omega)) (fun S4 h4 => Rs_nif (by decide) (Rs_V (A2.1 _ _ h4) (fun S5 h5 => Rs_if (by decide) (Rs_I (s_behind ht h5 fb4 (by omega)) (Rs_I (s_behind ht h5 hZ (by omega)) ?_))))))))
      cases m' with
      | leaf =>
        have z0 : siz (.leaf : Fo) = 0 := rfl
        refine Rs_if (by rw [hle (by omega) (by omega)]; omega) ?_
        rw [b_8a]; exact Rs_ret h5
      | inner k d u'' cd m'' =>
        have z2 : siz (.inner k d u'' cd m'') = siz cd + 1 + siz m'' := rfl
        cases m'' with
        | inner => simp [kls] at ok'
        | leaf =>
          have z0 : siz (.leaf : Fo) = 0 := rfl
          refine Rs_nif (by rw [hle (by omega) (by omega)]; omega) (Rs_V (r_text (N := N) (y := 49) h5 (by omega) (by decide) hN1) (fun S6 h6 => Rs_I (s_behind ht h6 fb4 (by omega)) (Rs_V (A2.2.1 _ _ h6) (fun S7 h7 => ?_))))
          rw [b_8b]; exact Rs_ret h7
  · -- while
    have ok' : (kls m).length = 1 := by simp [okk, kls] at ok; simpa using ok
    cases m with
    | leaf => simp [kls] at ok'
    | inner j b u' cb m' =>
      have z1 : siz (.inner j b u' cb m') = siz cb + 1 + siz m' := rfl
      cases m' with
      | inner => simp [kls] at ok'
      | leaf =>
        have z0 : siz (.leaf : Fo) = 0 := rfl
        refine Rs_nif (by decide) (Rs_nif (by decide) (Rs_nif (by decide) (Rs_nif (by decide) (Rs_nif (by decide) (Rs_nif (by decide) (Rs_nif (by decide) (Rs_if (by decide) ?_)))))))
        unfold k_RM_statements_272
        refine Rs_V (r_text (N := N) (y := 50) h (by omega) (by decide) hN1) (fun S1 h1 => Rs_V (r_begin (N := N) (c := 40) h1 (by omega)) (fun S2 h2 => Rs_V (A1 _ _ h2) (fun S3 h3 => Rs_V (r_begin (N := N) (c := 41) h3 (by omega)) (fun S4 h4 => Rs_nif (by decide) (Rs_V (A2.1 _ _ h4) (fun S5 h5 => Rs_nif (by decide) ?_))))))
        rw [b_9]; exact Rs_ret h5
  · -- assert
    have ok' : (kls m).length = 0 := by simp [okk, kls] at ok; simpa using ok
    cases m with
    | inner => simp [kls] at ok'
    | leaf =>
      refine Rs_nif (by decide) (Rs_nif (by decide) (Rs_nif (by decide) (Rs_nif (by decide) (Rs_nif (by decide) (Rs_nif (by decide) (Rs_nif (by decide) (Rs_nif (by decide) ?_)))))))
      unfold k_RM_statements_272
      refine Rs_V (r_text (N := N) (y := 51) h (by omega) (by decide) hN1) (fun S1 h1 => Rs_V (r_begin (N := N) (c := 40) h1 (by omega)) (fun S2 h2 => Rs_V (A1 _ _ h2) (fun S3 h3 => Rs_V (r_begin (N := N) (c := 41) h3 (by omega)) (fun S4 h4 => Rs_if (by decide) (Rs_V (r_begin (N := N) (c := 59) h4 (by omega)) (fun S5 h5 => ?_))))))
      rw [b_10]; exact Rs_ret h5
  · -- return
    have ok' : (kls m).length = 0 := by simp [okk, kls] at ok; simpa using ok
    cases m with
    | inner => simp [kls] at ok'
    | leaf =>
      refine Rs_nif (by decide) (Rs_nif (by decide) (Rs_nif (by decide) (Rs_nif (by decide) (Rs_nif (by decide) (Rs_if (by decide) (Rs_V (r_text (N := N) (y := 52) h (by omega) (by decide) hN1) (fun S1 h1 => Rs_V (A1 _ _ h1) (fun S2 h2 => Rs_V (r_begin (N := N) (c := 59) h2 (by omega)) (fun S3 h3 => ?_)))))))))
      rw [b_11]; exact Rs_ret h3
end STAT
