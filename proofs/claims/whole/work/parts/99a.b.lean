/-! both write: the whole of it -/
section WCORE
variable {τ : mh_H} {own P V : Nat → Nat} {lf lo : List Nat} {nt : List (List Int32)} {F : Nat → Fo} {S : rm_S} {N : Nat}
theorem rw_loop {T : List Nat} {ps : Int32 → Int32 → rm_S → Option rm_S} (hl : T.length ≤ 8000) : ∀ m j (S : rm_S) fu, T.length - j ≤ m → m < fu → j ≤ T.length → S.1 7 = nI T.length → S.1 5 = nI T.length → (∀ i (hi : i < T.length), S.2 3 i = nI T[i]) → ∃ S', k_RM_write_44 N ps fu (nI j) S = some (nI T.length, S') ∧ S'.1 = S.1 ∧ (∀ o, o ≠ 2 → S'.2 o = S.2 o) ∧ (∀ i, i < j → S'.2 2 i = S.2 2 i) ∧ (∀ i (hi : i < T.length), j ≤ i → S'.2 2 i = nI T[i]) := by
  have fin : ∀ (S : rm_S) fu, S.1 7 = nI T.length → S.1 5 = nI T.length → k_RM_write_44 N ps (fu + 1) (nI T.length) S = some (nI T.length, S) := by
    intro S fu h h5
    unfold k_RM_write_44
    exact X_if (by rw [h]; exact Int32.le_refl _) (by rw [h5])
  intro m
  induction m with
  | zero =>
    intro j S fu h1 hfu hj h2 h5 h3
    obtain ⟨fu, rfl⟩ : ∃ x, fu = x + 1 := ⟨fu - 1, by omega⟩
    have e : j = T.length := by omega
    subst e
    exact ⟨S, fin S fu h2 h5, rfl, fun _ _ => rfl, fun _ _ => rfl, fun i hi h => by omega⟩
  | succ m ih =>
    intro j S fu h1 hfu hj h2 h5 h3
    obtain ⟨fu, rfl⟩ : ∃ x, fu = x + 1 := ⟨fu - 1, by omega⟩
    by_cases e : j = T.length
    · subst e
      exact ⟨S, fin S fu h2 h5, rfl, fun _ _ => rfl, fun _ _ => rfl, fun i hi h => by omega⟩
    · have hj' : j < T.length := by omega
      have hnn : (nI j).toNatClampNeg = j := n_nat (by omega)
      obtain ⟨S', q1, q2, q3, q4, q5⟩ := ih (j + 1) (rs_a S 2 j (nI T[j])) fu (by omega) (by omega) (by omega) (by rw [rs_a1]; exact h2) (by rw [rs_a1]; exact h5) (fun i hi => by rw [rs_a2, if_neg (by omega)]; exact h3 i hi)
      refine ⟨S', ?_, q2, fun o ho => by rw [q3 o ho]; funext i; rw [rs_a2, if_neg (fun h => ho h.1)], fun i hi => by rw [q4 i (by omega), rs_a2, if_neg (by omega)], fun i hi hji => ?_⟩
      · unfold k_RM_write_44
        refine X_nif (by rw [h2, n_le (by omega) (by omega)]; omega) (X_chk (by rw [n_ib (by omega)]; omega) (X_chk (by rw [n_ib (by omega)]; omega) (X_bndE (x' := nI T[j]) (by rw [hnn]; exact h3 j hj') ?_)))
        rw [hnn, show nI j + 1 = nI (j + 1) from n_add j 1]
        exact q1
      · by_cases ei : i = j
        · subst ei
          rw [q4 i (by omega), rs_a2, if_pos ⟨rfl, rfl⟩]
        · exact q5 i hi (by omega)
theorem RI_frame {S' : rm_S} (I : RI S lf lo nt F) (h1 : ∀ x, x ≠ 7 → S'.1 x = S.1 x) (h2 : ∀ o, o ≠ 3 → S'.2 o = S.2 o) : RI S' lf lo nt F := by
  obtain ⟨⟨i1, i2⟩, ⟨i3, i4⟩, i5, i6, i7⟩ := I
  refine ⟨⟨by rw [h1 2 (by omega)]; exact i1, fun i hi => by rw [h2 1 (by omega)]; exact i2 i hi⟩, ⟨by rw [h1 5 (by omega)]; exact i3, fun i hi => by rw [h2 2 (by omega)]; exact i4 i hi⟩, NT_ext i5 (h2 20 (by omega)) (h2 21 (by omega)), by rw [h1 31 (by omega)]; exact i6, fun t ht => TR_ext (i7 t ht) (fun o _ _ => h2 o (by omega))⟩
theorem write_core (H : CS τ own P V lf lo nt F) (I : RI S lf lo nt F) (hok : ∀ w ∈ nt, okw w) (hF : ∀ t, t < 2 → wt nt.length (F t) ∧ hgt (F t) ≤ 307 ∧ siz (F t) ≤ 12001) (hNN : 40000 ≤ N) (x1 x2 : Int32) :
    ∃ v τ' own' V' c m S' lo', f_PR_write N (P 0) x1 x2 τ = some ((v, τ'), c, m) ∧ f_RM_write N (rw_show N 1000) x1 x2 S = some (v, S') ∧ CS τ' own' P V' lf lo' nt F ∧ RI S' lf lo' nt F ∧ (∀ a, a < hX τ → own a = 9 → own' a = 9) ∧ Chg (fun a => own a = 0 ∨ own a = 3 ∨ own a = 10) τ τ' ∧ Bud τ V τ' V' c m ∧ (lo' = lo ∨ (GW nt lo' ∧ ∀ x ∈ lo', x < 256)) := by
  have hc := has_cases (N := N) H I x1 x2
  have H0 := H
  obtain ⟨HC0, HCW, HFe, HO, ⟨lsp, HS⟩, H4, H6, H7⟩ := H
  have HC := HC0
  obtain ⟨⟨y1', y2', y3'⟩, ⟨y0, y1, y2, y3, y4, y5, y6, y7, y8⟩, yQ, ⟨x4, x5⟩, ox0, ox1⟩ := HC0
  rcases hc with ⟨t, n, ht, hn, rfl, rfl, h1, h3, h2⟩ | ⟨h1, h2⟩
  · obtain ⟨TLt, hLt, ot1, ot2⟩ := H7 t ht
    obtain ⟨wF0, hF0, sF0⟩ := hF t ht
    have hnt : (nI t).toNatClampNeg = t := n_nat (by omega)
    have ibt : ib (nI t) 2 := by rw [n_ib (by omega)]; exact ht
    obtain ⟨x, c, w', r, n1, n2, n3, n4, n5, n6, n7, n8, n9⟩ := node_at nt.length (F t) n hn wF0
    have hHS := HS
    obtain ⟨HR, os1, os2⟩ := HS
    have hH6 := H6
    obtain ⟨HN, ⟨on1, on2, on3⟩, on4⟩ := H6
    obtain ⟨τ1, bb', cc, m, r1, X1, C1, Cg, G1⟩ := w_compose (N := N) (wr := P 2) (tr := P (8 + t)) (br := V 3) (b := V (12 + 2 * t)) (L := V (13 + 2 * t)) (na := P 6) (sp := P 7) (sb := V 9) (nb := V 10) (R := V 11) (F := F t) (nt := nt) (top := n) hNN sF0 hok HCW.1 HCW.2.1 HCW.2.2.1 TLt HN HR (by rintro e; rw [e] at on2; omega) (by rintro e; rw [e] at on3; omega) hn n1 n2 n4 n5 n6 n8 n9
    have hX1 := Cg.1
    have C01 : Chg (fun a => own a = 3 ∨ own a = 10) τ τ1 := Chg_mono Cg (fun a _ h => by
      rcases h with h | h | h
      · right; rw [h]; exact HCW.2.2.2
      · left; rw [h]; exact os1
      · left; rw [h]; exact os2)
    have E1 : Ex (hX τ) own (own1 (hX τ) 3 own) := own1_Ex
    have u3 : ∀ d, d ≠ 3 → d ≠ 10 → ∀ a, (own a = 3 ∨ own a = 10) → own a ≠ d := fun d hd hd' a h h' => by rcases h with h | h <;> omega
    have A0 := C0_Chg C01 E1 (u3 0 (by omega) (by omega)) HC
    have AF := CR_Chg C01 E1 (u3 1 (by omega) (by omega)) HFe
    have AO := CR_Chg C01 E1 (u3 2 (by omega) (by omega)) HO
    have A4 := C4_Chg C01 E1 (u3 4 (by omega) (by omega)) H4
    have A6 := C6_Chg C01 E1 (u3 6 (by omega) (by omega)) hH6
    have A7 : ∀ t', t' < 2 → C7 τ1 (own1 (hX τ) 3 own) P V t' (txt (F t')) (rkT (F t')) := fun t' h' => C7_Chg C01 E1 (u3 (7 + t') (by omega) (by omega)) (H7 t' h')
    have AW : CW τ1 (own1 (hX τ) 3 own) P := ⟨X1.1.1, X1.1.2.1, X1.1.2.2.2.2, by rw [own1_old HCW.2.2.1]; exact HCW.2.2.2⟩
    have obr : own1 (hX τ) 3 own (V 3) = 3 := by rw [own1_old HR.2.2.2.1.1]; exact os1
    have obb : own1 (hX τ) 3 own bb' = 3 := by
      rcases G1.2.2.1 with h | h
      · rw [h, own1_old HR.2.2.2.1.2]; exact os2
      · exact own1_new h
    -- the reference
    have hra := TR_Fa (I.2.2.2.2 t ht)
    have hIS := I
    have hfS : FaS (rs_i S 7 0) t (root (F t)) 0 (-1) := hra
    obtain ⟨⟨k1, k2, k3, k4⟩, k5⟩ := n1 _ _ _ _ hfS
    have hT0 : NT (rs_i S 7 0).2 nt := I.2.2.1
    have hS0 : RW (rs_i S 7 0) (some []) (rs_i S 7 0) := ⟨⟨fun _ _ => rfl, fun _ _ => rfl⟩, by rw [rs_i1, if_pos rfl]; rfl, by simp, fun i hi => by simp at hi⟩
    have sh : ∀ L', 921 ≤ L' → ShF (rs_i S 7 0) N L' t nt c (n + 1) := fun L' hL' => show_all ht hNN hT0 hok c (n + 1) (nI n) L' k5 n6 (by omega) (by omega)
    have hshow := show_node (S0 := rs_i S 7 0) (N := N) (t := t) (L := 997) (s := n) (p := x.2.1) (nt := nt) (c := c) (v := x.2.2) (k := x.1) ht hNN hT0 hok n3 n4 n5 n6 (by omega) k1 k2 k4 k5 (sh 997 (by omega)) (sh 998 (by omega)) (sh 999 (by omega))
    obtain ⟨S2, s1, ⟨w1, w2⟩, s3⟩ := hshow (some []) (rs_i S 7 0) hS0
    have s1' : rw_show N 1000 (nI t) (nI n) (rs_i S 7 0) = some S2 := s1
    have hbody : body nt (x.1, x.2.1, x.2.2) c (some []) = body nt x c (some []) := rfl
    rw [hbody] at s3
    have hgo := body_GO (nt := nt) (x := x) (c := c) hok (by have := I.2.2.1.2.2.1; omega) n9 n4 n6
    have run : ∀ y, (if b01 (body nt x c (some [])).isSome = 0 then some ((-1, τ1), 0, 0) else chk (hT τ1 (P 0) = 15) (rfO (hR τ1 7 2 (P 0)) fun b13 => rfO (hR τ1 7 1 (P 0)) fun b14 => rfO (hR (mh_setR (mh_setR τ1 7 2 (P 0) (some b14)) 7 1 (P 0) (some b13)) 7 1 (P 0)) fun b15 => chk (hT (mh_setR (mh_setR τ1 7 2 (P 0) (some b14)) 7 1 (P 0) (some b13)) b15 = 1) (bnd (hI (mh_setR (mh_setR τ1 7 2 (P 0) (some b14)) 7 1 (P 0) (some b13)) 0 1 b15) fun v17 => some ((v17, mh_setR (mh_setR τ1 7 2 (P 0) (some b14)) 7 1 (P 0) (some b13)), 0, 0)))) = some (y, 0, 0) → f_PR_write N (P 0) (nI t) (nI n) τ = some (y, cc, m) := by
      intro y hy
      unfold f_PR_write
      refine X_chk y1' (X_I h1 (X_nif n10 (X_chk y1' (X_rfO y7 (X_rfO y8 (X_chk y2' (X_chk (by rw [y3']; exact ibt) (X_rfO (by rw [hnt]; exact yQ t ht) (X_rfO y2 (X_chk HCW.1 (X_AI r1 (X_tk (a := y) (c' := 0) (m' := 0) hy (by simp)))))))))))))
    have costB : ∀ V' : Nat → Nat, V' 0 = V 0 → (hN τ1 (V' 2) + hN τ1 (V' 4) = hN τ (V 2) + hN τ1 bb') → (∀ i, 5 ≤ i → V' i = V i) → ∀ τ2 : mh_H, hN τ2 = hN τ1 → Bud τ V τ2 V' cc m := by
      intro V' v0 v24 vhi τ2 hN2
      obtain ⟨z1, z2, _⟩ := G1
      have q0 := AF.2.1
      have q9 := A6.2
      unfold Bud rA rB
      rw [hN2, v0, vhi 6 (by omega), vhi 8 (by omega), vhi 9 (by omega), vhi 11 (by omega), vhi 13 (by omega), vhi 15 (by omega), q0, q9]
      omega
    cases hO : body nt x c (some []) with
    | none =>
      rw [hO] at C1 s3 run
      have s7 : S2.1 7 = nI 8001 := s3
      let V' : Nat → Nat := fun i => if i = 4 then bb' else V i
      refine ⟨-1, τ1, own1 (hX τ) 3 own, V', cc, m, S2, lo, run _ (X_if rfl rfl), ?_, ⟨?_, AW, AF.1, AO.1, ?_, ?_, ?_, ?_⟩, ?_, ?_, ?_, ?_, Or.inl rfl⟩
      · unfold f_RM_write
        refine X_I h2 (X_nif n10 (X_V s1' (X_nif ?_ rfl)))
        rw [s7]; show ¬ nI 8001 ≤ nI 8000; rw [n_le (by omega) (by omega)]; omega
      · exact A0
      · obtain ⟨⟨l, hl⟩, hf⟩ := C1
        exact ⟨l, hl, obr, obb⟩
      · exact A4
      · exact A6.1
      · intro t' h'
        obtain ⟨q1, q2, q3, q4⟩ := A7 t' h'
        have e1 : V' (12 + 2 * t') = V (12 + 2 * t') := if_neg (by omega)
        have e2 : V' (13 + 2 * t') = V (13 + 2 * t') := if_neg (by omega)
        exact ⟨by rw [e1, e2]; exact q1, by rw [e2]; exact q2, q3, by rw [e1]; exact q4⟩
      · exact RI_frame hIS (fun z hz => by rw [w1 z hz, rs_i1, if_neg hz]) (fun o ho => by rw [w2 o ho, rs_i2])
      · intro a ha h9; rw [own1_old ha]; exact h9
      · exact Chg_mono C01 (fun a _ h => Or.inr h)
      · refine costB V' rfl ?_ (fun i hi => if_neg (by omega)) τ1 rfl
        show hN τ1 (V 2) + hN τ1 bb' = _
        rw [AO.2.1]
    | some T =>
      rw [hO] at C1 s3 run hgo
      obtain ⟨s7, s8, s9⟩ := s3
      obtain ⟨gT, lT⟩ := hgo T rfl
      obtain ⟨cR, cf, cT⟩ := C1
      -- the reference copies
      obtain ⟨S3, p1, p2, p3, p4, p5⟩ := rw_loop (N := N) (T := T) (ps := rw_show N 1000) s8 T.length 0 (rs_i S2 5 (nI T.length)) N (by omega) (by omega) (by omega) (by rw [rs_i1, if_neg (by omega)]; exact s7) (by rw [rs_i1, if_pos rfl]) (fun i hi => (s9 i hi).1)
      let V' : Nat → Nat := fun i => if i = 1 then V 3 else if i = 2 then bb' else if i = 3 then V 1 else if i = 4 then V 2 else V i
      let ow : Nat → Nat := fun a => if own1 (hX τ) 3 own a = 2 then 3 else if own1 (hX τ) 3 own a = 3 then 2 else own1 (hX τ) 3 own a
      have ow_k : ∀ a d, d ≠ 2 → d ≠ 3 → own1 (hX τ) 3 own a = d → ow a = d := by
        intro a d h1 h2 h3
        show (if own1 (hX τ) 3 own a = 2 then 3 else if own1 (hX τ) 3 own a = 3 then 2 else own1 (hX τ) 3 own a) = d
        rw [if_neg (by omega), if_neg (by omega)]; exact h3
      have ow_2 : ∀ a, own1 (hX τ) 3 own a = 2 → ow a = 3 := fun a h => if_pos h
      have ow_3 : ∀ a, own1 (hX τ) 3 own a = 3 → ow a = 2 := fun a h => by
        show (if own1 (hX τ) 3 own a = 2 then 3 else if own1 (hX τ) 3 own a = 3 then 2 else own1 (hX τ) 3 own a) = 2
        rw [if_neg (by omega), if_pos h]
      generalize hτ2 : mh_setR (mh_setR τ1 7 2 (P 0) (some (V 1))) 7 1 (P 0) (some (V 3)) = τ2
      have C12 : Chg (fun a => a = P 0) τ1 τ2 := by rw [← hτ2]; exact Chg_trans' (Chg_setR rfl) (Chg_setR rfl)
      have hN2 : hN τ2 = hN τ1 := by rw [← hτ2]; rfl
      have ne0 : ∀ a, own1 (hX τ) 3 own a ≠ 0 → ¬ a = P 0 := fun a h e => by rw [e] at h; exact h A0.2.2.2.2.1
      have hR2 : ∀ j, hR τ2 7 j (P 0) = if j = 1 then some (V 3) else if j = 2 then some (V 1) else hR τ1 7 j (P 0) := by
        intro j
        rw [← hτ2, gR_setR, gR_setR]
        by_cases e1 : j = 1
        · rw [if_pos ⟨rfl, e1, rfl⟩, if_pos e1]
        · rw [if_neg (fun h => e1 h.2.1), if_neg e1]
          by_cases e2 : j = 2
          · rw [if_pos ⟨rfl, e2, rfl⟩, if_pos e2]
          · rw [if_neg (fun h => e2 h.2.1), if_neg e2]
      have hX2 := C12.1
      obtain ⟨⟨b1, b2, b3⟩, ⟨z0, z1, z2, z3, z4, z5, z6, z7, z8⟩, bQ, ⟨b4, b5⟩, bo0, bo1⟩ := A0
      have ne01 : P 1 ≠ P 0 := by intro e; rw [e, b1] at b2; omega
      have kR := Rw_Chg C12 cR (ne0 _ (by rw [obr]; omega)) (ne0 _ (by rw [obb]; omega))
      refine ⟨nI T.length, τ2, ow, V', cc, m, S3, T, run _ ?_, ?_, ⟨?_, ?_, ?_, ?_, ?_, ?_, ?_, ?_⟩, ?_, ?_, ?_, ?_, Or.inr ⟨gT, fun z hz => by have := cT z hz; omega⟩⟩
      · refine X_nif (show ¬ b01 true = 0 by decide) (X_chk b1 (X_rfO z2 (X_rfO z1 ?_)))
        rw [hτ2]
        refine X_rfO (show hR τ2 7 1 (P 0) = some (V 3) by rw [hR2]; rfl) (X_chk kR.1.1.1 (X_bndE (x' := nI T.length) ?_ rfl))
        rw [kR.1.2.1.1]; simp
      · unfold f_RM_write
        refine X_I h2 (X_nif n10 (X_V s1' (X_if (by rw [s7]; show nI _ ≤ nI 8000; rw [n_le (by omega) (by omega)]; exact s8) (X_bndE s7 p1))))
      · refine ⟨⟨by rw [(C12.2.1 _ b4).1]; exact b1, by rw [(C12.2.1 _ b5).1]; exact b2, by rw [hN2]; exact b3⟩, ?_, fun t' h' => by rw [(C12.2.2 _ b5 ne01).2.2.2]; exact bQ t' h', ⟨by omega, by omega⟩, ow_k _ 0 (by omega) (by omega) bo0, ow_k _ 0 (by omega) (by omega) bo1⟩
        simp only [hR2]
        exact ⟨z0, rfl, rfl, z3, z4, z5, z6, z7, z8⟩
      · have k := C12.2.2 (P 2) AW.2.2.1 (ne0 _ (by rw [AW.2.2.2]; omega))
        exact ⟨by rw [(C12.2.1 _ AW.2.2.1).1]; exact AW.1, by rw [k.2.1]; exact AW.2.1, by have := AW.2.2.1; omega, ow_k _ 10 (by omega) (by omega) AW.2.2.2⟩
      · have k := Rw_Chg C12 AF.1.1 (ne0 _ (by rw [AF.1.2.1]; omega)) (ne0 _ (by rw [AF.1.2.2]; omega))
        exact ⟨k.1, ow_k _ 1 (by omega) (by omega) AF.1.2.1, ow_k _ 1 (by omega) (by omega) AF.1.2.2⟩
      · exact ⟨kR.1, ow_3 _ obr, ow_3 _ obb⟩
      · have k := Rw_Chg C12 AO.1.1 (ne0 _ (by rw [AO.1.2.1]; omega)) (ne0 _ (by rw [AO.1.2.2]; omega))
        exact ⟨_, k.1, ow_2 _ AO.1.2.1, ow_2 _ AO.1.2.2⟩
      · have k := C4_Chg (own' := own1 (hX τ) 3 own) C12 (fun _ _ => rfl) (fun a h h' => by rw [h] at h'; omega) A4
        obtain ⟨q1, q2, q3, q4, ⟨q5, q6, q7⟩, q8, q9⟩ := k
        exact ⟨q1, q2, q3, q4, ⟨ow_k _ 4 (by omega) (by omega) q5, ow_k _ 4 (by omega) (by omega) q6, ow_k _ 4 (by omega) (by omega) q7⟩, fun i hi => ow_k _ 4 (by omega) (by omega) (q8 i hi), fun i hi => ow_k _ 4 (by omega) (by omega) (q9 i hi)⟩
      · have k := C6_Chg (own' := own1 (hX τ) 3 own) C12 (fun _ _ => rfl) (fun a h h' => by rw [h] at h'; omega) A6.1
        obtain ⟨⟨q1, ⟨q2, q3, q4⟩, q5⟩, _⟩ := k
        exact ⟨q1, ⟨ow_k _ 6 (by omega) (by omega) q2, ow_k _ 6 (by omega) (by omega) q3, ow_k _ 6 (by omega) (by omega) q4⟩, fun i hi => ow_k _ 6 (by omega) (by omega) (q5 i hi)⟩
      · intro t' h'
        have k := C7_Chg (own' := own1 (hX τ) 3 own) C12 (fun _ _ => rfl) (fun a h h' => by rw [h] at h'; omega) (A7 t' h')
        obtain ⟨q1, q2, q3, q4⟩ := k
        have e1 : V' (12 + 2 * t') = V (12 + 2 * t') := by
          show (if 12 + 2 * t' = 1 then V 3 else if 12 + 2 * t' = 2 then bb' else if 12 + 2 * t' = 3 then V 1 else if 12 + 2 * t' = 4 then V 2 else V (12 + 2 * t')) = _
          rw [if_neg (by omega), if_neg (by omega), if_neg (by omega), if_neg (by omega)]
        have e2 : V' (13 + 2 * t') = V (13 + 2 * t') := by
          show (if 13 + 2 * t' = 1 then V 3 else if 13 + 2 * t' = 2 then bb' else if 13 + 2 * t' = 3 then V 1 else if 13 + 2 * t' = 4 then V 2 else V (13 + 2 * t')) = _
          rw [if_neg (by omega), if_neg (by omega), if_neg (by omega), if_neg (by omega)]
        refine ⟨by rw [e1, e2]; exact q1, by rw [e2]; exact q2, ow_k _ (7 + t') (by omega) (by omega) q3, fun i hi => ?_⟩
        rw [e1]; exact ow_k _ (7 + t') (by omega) (by omega) (q4 i hi)
      · -- the reference's state
        obtain ⟨⟨i1, i2⟩, ⟨i3, i4⟩, i5, i6, i7⟩ := hIS
        have g1 : ∀ z, z ≠ 7 → z ≠ 5 → S3.1 z = S.1 z := fun z hz hz' => by rw [p2, rs_i1, if_neg hz', w1 z hz, rs_i1, if_neg hz]
        have g2 : ∀ o, o ≠ 3 → o ≠ 2 → S3.2 o = S.2 o := fun o ho ho' => by rw [p3 o ho', rs_i2, w2 o ho, rs_i2]
        exact ⟨⟨by rw [g1 2 (by omega) (by omega)]; exact i1, fun i hi => by rw [g2 1 (by omega) (by omega)]; exact i2 i hi⟩, ⟨by rw [p2, rs_i1, if_pos rfl], fun i hi => p5 i hi (by omega)⟩, NT_ext i5 (g2 20 (by omega) (by omega)) (g2 21 (by omega) (by omega)), by rw [g1 31 (by omega) (by omega)]; exact i6, fun t' h' => TR_ext (i7 t' h') (fun o _ _ => g2 o (by omega) (by omega))⟩
      · intro a ha h9
        exact ow_k a 9 (by omega) (by omega) (by rw [own1_old ha]; exact h9)
      · refine Chg_trans (Chg_mono C01 (fun a _ h => Or.inr h)) (Chg_mono C12 (fun a _ h _ => Or.inl ?_))
        rw [h]; exact ox0
      · refine costB V' rfl ?_ (fun i hi => ?_) τ2 hN2
        · show hN τ1 bb' + hN τ1 (V 2) = _
          rw [AO.2.1]; omega
        · show (if i = 1 then V 3 else if i = 2 then bb' else if i = 3 then V 1 else if i = 4 then V 2 else V i) = _
          rw [if_neg (by omega), if_neg (by omega), if_neg (by omega), if_neg (by omega)]
  · refine ⟨-1, τ, own, V, 0, 0, S, lo, ?_, ?_, H0, I, fun a _ h => h, Chg_refl, ⟨by omega, by omega⟩, Or.inl rfl⟩
    · unfold f_PR_write
      rcases h1 with h1 | ⟨t, ht, rfl, h1, h3⟩
      · exact X_chk y1' (X_I h1 (X_if rfl rfl))
      · obtain ⟨TLt, _⟩ := H7 t ht
        have hcm : f_WR_compose N (P 2) (P (8 + t)) x2 (V 3) τ = some ((0, τ), 0, 0) := by
          unfold f_WR_compose
          exact X_chk TLt.1 (X_I h3 (X_if rfl rfl))
        exact X_chk y1' (X_I h1 (X_nif n10 (X_chk y1' (X_rfO y7 (X_rfO y8 (X_chk y2' (X_chk (by rw [y3', n_ib (by omega)]; exact ht) (X_rfO (by rw [n_nat (by omega)]; exact yQ t ht) (X_rfO y2 (X_chk HCW.1 (X_AI hcm (X_tk (a := ((-1 : Int32), τ)) (c' := 0) (m' := 0) (X_if rfl rfl) rfl))))))))))))
    · unfold f_RM_write
      exact X_I h2 (X_if rfl rfl)
end WCORE
