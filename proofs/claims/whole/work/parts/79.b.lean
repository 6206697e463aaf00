section READ
variable {τ : mh_H} {own P V : Nat → Nat} {lf lo : List Nat} {nt : List (List Int32)} {F : Nat → Fo} {S : rm_S} {N t e : Nat}
theorem has_tree {pr : Nat} (ht : t < 2) : f_PR_hasTree N pr (nI t) τ = some (1, τ) := by
  unfold f_PR_hasTree
  exact X_nif (by show ¬ nI t < nI 0; rw [n_lt (by omega) (by omega)]; omega) (X_nif (by show ¬ nI 2 ≤ nI t; rw [n_le (by omega) (by omega)]; omega) rfl)
theorem TR_frame {S' : rm_S} {t' : Nat} {L : List TE} (h : TR S t' (13000 * t') L) (hL : L.length ≤ 13000) (hne : t' ≠ t) (ht : t < 2) (ht' : t' < 2) (h1 : ∀ o x, 14 ≤ o → o ≤ 18 → (x < 13000 * t ∨ 13000 * t + 13000 ≤ x) → S'.2 o x = S.2 o x) (h2 : ∀ x, x ≠ t → S'.2 19 x = S.2 19 x) : TR S' t' (13000 * t') L := by
  refine ⟨by rw [h2 t' hne]; exact h.1, fun j hj => ?_⟩
  have hr : 13000 * t' + j < 13000 * t ∨ 13000 * t + 13000 ≤ 13000 * t' + j := by omega
  rw [h1 14 _ (by omega) (by omega) hr, h1 15 _ (by omega) (by omega) hr, h1 16 _ (by omega) (by omega) hr, h1 17 _ (by omega) (by omega) hr, h1 18 _ (by omega) (by omega) hr]
  exact h.2 j hj
theorem read_core {J : Nat → List T4 → Prop} (H : CS τ own P V lf lo nt F) (I : RI S lf lo nt F) (ht : t < 2) (he : e ≤ lf.length) (hby : ∀ x ∈ lf, x < 256) (hsz : ∀ t, t < 2 → siz (F t) ≤ 12001)
    (hJ : ∀ i T k l v, J i T → i < e → Tok (fun i => lf.getD i 0) e i k l v → k ≠ 1 → J (bl (fun i => lf.getD i 0) e (e - (i + l)) false (i + l)) (T ++ [(k, i, l, v)])) (hJ0 : J (bl (fun i => lf.getD i 0) e e false 0) [])
    (hcap : ∀ T' S', finT J (fun i => lf.getD i 0) e T' S' → ∀ bt : Nat → Int32, (∀ i, i < e → bt i = nI (lf.getD i 0)) → Cap T'.length (tkF T') (tpF T') (fun j => wd bt (tpF T' j) (lnF T' j)) nt) (hNN : 40000 ≤ N) :
    ∃ flt τ' own' V' c m S' f T' S2 bt, k_PR_read_16 N (pa_function N 1000) (P 0) (nI t) (nI e) τ = some ((flt, τ'), c, m) ∧ k_RM_read_39 N (rp_function N 1000) (nI t) (nI e) S = some (flt, S') ∧ finT J (fun i => lf.getD i 0) e T' S2 ∧ (∀ i, i < e → bt i = nI (lf.getD i 0)) ∧ wf T'.length (tkF T') (tpF T') f ∧ hgt f ≤ 307 ∧ 2 * siz f ≤ 3 * T'.length ∧ T'.length ≤ 8001 ∧ CS τ' own' P V' [] lo (res (fun j => wd bt (tpF T' j) (lnF T' j)) f nt).2 (setF F t (res (fun j => wd bt (tpF T' j) (lnF T' j)) f nt).1) ∧ RI S' [] lo (res (fun j => wd bt (tpF T' j) (lnF T' j)) f nt).2 (setF F t (res (fun j => wd bt (tpF T' j) (lnF T' j)) f nt).1) ∧ Ex (hX τ) own own' ∧ Chg (fun a => own a = 1 ∨ own a = 4 ∨ own a = 6 ∨ own a = 7 + t) τ τ' ∧ Bud τ V τ' V' c m := by
  obtain ⟨HC0, HCW, HF, HO, ⟨lsp, HS⟩, H4, H6, H7⟩ := H
  obtain ⟨⟨i1, i2⟩, ⟨i3, i4⟩, i5, i6, i7⟩ := I
  have HF' := HF
  have H4' := H4
  have H6' := H6
  obtain ⟨HR, of1, of2⟩ := HF
  obtain ⟨⟨h1, h2, h3⟩, ⟨h4, h5⟩, ⟨h6, h7, h8, h9, h64⟩, ⟨h10, h11⟩, h12⟩ := HR
  obtain ⟨kT, kD, kP, kdis, ⟨o3, o4, o5⟩, oT, oD⟩ := H4
  have HC := HC0
  obtain ⟨⟨x1, x2, x3⟩, ⟨y0, y1, y2, y3, y4, y5, y6, y7, y8⟩, yQ, ⟨x4, x5⟩, ox0, ox1⟩ := HC0
  have hl8 : lf.length ≤ 8000 := by simpa using h8
  have hmap : (lf.map sx).length = lf.length := by simp
  rw [hmap] at h4 h6
  -- the reference's head
  obtain ⟨S1, c1, c2, c3, c4, c5, c6⟩ := clear_ok (S := rs_i S 3 (nI e)) (N := N) (t := t) (z := 13000 * t) (by omega) rfl (by omega)
  have hg : ∀ i, i < e → lf.getD i 0 = lf[i]! := fun i hi => by simp [List.getD, List.getElem!_eq_getElem?_getD]
  have hgi : ∀ i (hi : i < lf.length), lf.getD i 0 = lf[i] := fun i hi => by simp [List.getD, hi]
  have G1 : GE S1 e (fun i => lf.getD i 0) := by
    refine ⟨by rw [c3, rs_i1, if_pos rfl], fun i hi => ⟨?_, ?_⟩, by omega⟩
    · rw [c4 1 (Or.inl (by omega)), rs_i2, i2 i (by omega)]; show _ = nI (lf.getD i 0); rw [hgi i (by omega)]
    · show lf.getD i 0 < 256; rw [hgi i (by omega)]; exact hby _ (List.getElem_mem _)
  -- the scans
  obtain ⟨τ1, tb', tL', cs, ms, T', S2, s1, s2, s3, s4, s5, s6, s7, s8, s9, s10, s11⟩ := scan_ok (N := N) hJ hJ0 kT h3 h11 (by omega) (by omega) (fun i hi => by rw [h12 i (by rw [hmap]; omega), List.getElem_map]; show _ = sx (lf.getD i 0); rw [hgi i (by omega)]) G1 hNN
  have G2 := fT_GE s10 G1
  obtain ⟨r1, r2, r3, r4, r5, r6⟩ := fin_RP s11 G2
  have hT1 : T'.length ≤ 8001 := by omega
  have hb2 : ∀ i, i < e → S2.2 1 i = nI (lf.getD i 0) := fun i hi => (G2.2.1 i hi).1
  have hcp := hcap T' S2 s11 (S2.2 1) hb2
  have hX1 := s8.1
  have D1 := Dv_Chg s8 kD (by rintro (h | h); exact absurd (h ▸ kT.1) (by rw [kD.1]; decide); exact absurd (kT.2.1 (P 5 - V 5) (by omega)).1 (by rw [show V 5 + (P 5 - V 5) = P 5 by omega, kD.1]; decide))
  have c3' : P 3 ≠ P 4 := by intro h; have := kP.1; rw [h, kT.1] at this; omega
  have n3T : ¬ (P 3 = P 4 ∨ (V 5 ≤ P 3 ∧ P 3 ≤ V 5 + 2)) := by
    rintro (h | h)
    · exact c3' h
    · have := (kT.2.1 (P 3 - V 5) (by omega)).1
      rw [show V 5 + (P 3 - V 5) = P 3 by omega, kP.1] at this; omega
  have kp1 := s8.2.2 (P 3) kP.2.2.2 n3T
  have P1 : hT τ1 (P 3) = 7 ∧ hR τ1 3 0 (P 3) = some (P 4) ∧ hR τ1 3 1 (P 3) = some (P 5) ∧ P 3 < hX τ1 := ⟨by rw [(s8.2.1 _ kP.2.2.2).1]; exact kP.1, by rw [kp1.2.1]; exact kP.2.1, by rw [kp1.2.1]; exact kP.2.2.1, by have := kP.2.2.2; omega⟩
  have dis1 : tb' + 2 < V 7 ∨ V 7 + 3 < tb' := by
    rcases s9 with h | h
    · rw [h.1]; exact kdis
    · right; rw [h.1]; exact kD.2.2.2.2
  -- the parsers
  have hqs : ∀ o, (rs_i (rs_i (rs_i S2 12 0) 13 0) 14 (-1)).2 o = S2.2 o := fun o => rfl
  have hTR1 : TR (rs_i (rs_i (rs_i S2 12 0) 13 0) 14 (-1)) t (13000 * t) (txt .leaf) := TR_ext c2 (fun o q1 q2 => by rw [hqs]; exact s10.2 o (by omega) (by omega) (by omega))
  have hS20 : S2.2 20 = S.2 20 := by rw [s10.2 20 (by omega) (by omega) (by omega), c4 20 (Or.inr (by omega)), rs_i2]
  have hS21 : S2.2 21 = S.2 21 := by rw [s10.2 21 (by omega) (by omega) (by omega), c4 21 (Or.inr (by omega)), rs_i2]
  have hNT1 : NT (rs_i (rs_i (rs_i S2 12 0) 13 0) 14 (-1)).2 nt := NT_ext i5 (by rw [hqs]; exact hS20) (by rw [hqs]; exact hS21)
  have h311 : (rs_i (rs_i (rs_i S2 12 0) 13 0) 14 (-1)).1 31 = nI nt.length := by
    rw [rs_i1, if_neg (by omega), rs_i1, if_neg (by omega), rs_i1, if_neg (by omega), s10.1 31 (by omega), c3, rs_i1, if_neg (by omega)]; exact i6
  obtain ⟨f, flt, cq, mq, cd, md, τ2, db', dL', S3, p1, p2, ⟨p3, p4, p5, p6⟩, p7, p8, p9, p10, p11, p12, p13, p14⟩ := parse_ok (N := N) (n := T'.length) (tk := tkF T') (tp := tpF T') (ln := lnF T') (tv := tvF T') (S := rs_i (rs_i (rs_i S2 12 0) 13 0) 14 (-1)) (bt := S2.2 1) (nt := nt) (t := t) (z := 13000 * t) (lc := 1000) (lr := 1000) s3 D1 P1 dis1 s5 s6 s4 hT1 r3 r4 r5 (RP_set r1 (fun o _ => hqs o)) (hqs 1) hTR1 hNT1 h311 (by rw [rs_i1, if_neg (by omega), rs_i1, if_neg (by omega), rs_i1, if_pos rfl]) (by rw [rs_i1, if_neg (by omega), rs_i1, if_pos rfl]) (by rw [rs_i1, if_pos rfl]) hcp hNN (by omega) rfl (by omega) (by omega)
  generalize htx : (fun j => wd (S2.2 1) (tpF T' j) (lnF T' j)) = tx at *
  -- own so far
  have C02 : Chg (fun a => own a = 4) τ τ2 := by
    refine Chg_trans (Chg_mono s8 (fun a _ h => ?_)) (Chg_mono p8 (fun a _ h ha => ?_))
    · rcases h with h | h
      · rw [h]; exact o4
      · have := oT (a - V 5) (by omega); rw [show V 5 + (a - V 5) = a by omega] at this; exact this
    · rcases h with h | h | h
      · rw [h]; exact o3
      · rw [h]; exact o5
      · have := oD (a - V 7) (by omega); rw [show V 7 + (a - V 7) = a by omega] at this; exact this
  have hX2 := C02.1
  have X12 := p8.1
  have E2 : Ex (hX τ) own (own1 (hX τ) 4 own) := own1_Ex
  have u4 : ∀ d, d ≠ 4 → ∀ a, own a = 4 → own a ≠ d := fun d hd a h h' => hd (by omega)
  have A0 := C0_Chg C02 E2 (u4 0 (by omega)) HC
  have AW := CW_Chg C02 E2 (u4 10 (by omega)) HCW
  have AF := CR_Chg C02 E2 (u4 1 (by omega)) HF'
  have AO := CR_Chg C02 E2 (u4 2 (by omega)) HO
  have AS := CR_Chg C02 E2 (u4 3 (by omega)) HS
  have A6 := C6_Chg C02 E2 (u4 6 (by omega)) H6'
  have A7 : ∀ t', t' < 2 → C7 τ2 (own1 (hX τ) 4 own) P V t' (txt (F t')) (rkT (F t')) := fun t' h' => C7_Chg C02 E2 (u4 (7 + t') (by omega)) (H7 t' h')
  have T2 := Tv_Chg p8 s3 (by
    rintro (h | h | h)
    · exact c3' h.symm
    · have := kT.1; rw [h, kD.1] at this; omega
    · have := (kD.2.1 (P 4 - V 7) (by omega)).1
      rw [show V 7 + (P 4 - V 7) = P 4 by omega, kT.1] at this; omega)
  have otb : ∀ i, i < 3 → own1 (hX τ) 4 own (tb' + i) = 4 := by
    intro i hi
    rcases s9 with h | h
    · rw [h.1, own1_old (by have := kT.2.2.2.2; omega)]; exact oT i hi
    · rw [h.1, own1_new (by omega)]
  have odb : ∀ i, i < 4 → own1 (hX τ) 4 own (db' + i) = 4 := by
    intro i hi
    rcases p9 with h | h
    · rw [h.1, own1_old (by have := kD.2.2.2.2; omega)]; exact oD i hi
    · rw [own1_new (by omega)]
  have dis2 : tb' + 2 < db' ∨ db' + 3 < tb' := by
    rcases p9 with h | h
    · rw [h.1]; exact dis1
    · left; have := s3.2.2.2.2; omega
  -- the tree is laid
  have h7t := A7 t ht
  obtain ⟨TLt, hLt, ot1, ot2⟩ := h7t
  have hsf : siz f + 1 ≤ 12002 := by omega
  have disL : V (12 + 2 * t) + 6 < db' ∨ db' + 3 < V (12 + 2 * t) := by
    apply Classical.byContradiction
    intro hcon
    have : ∃ a i j, i < 7 ∧ j < 4 ∧ a = V (12 + 2 * t) + i ∧ a = db' + j := by
      by_cases hle : db' ≤ V (12 + 2 * t)
      · exact ⟨V (12 + 2 * t), 0, V (12 + 2 * t) - db', by omega, by omega, by omega, by omega⟩
      · exact ⟨db', db' - V (12 + 2 * t), 0, by omega, by omega, by omega, by omega⟩
    obtain ⟨a, i, j, hi, hj, e1, e2⟩ := this
    have q1 := ot2 i hi
    have q2 := odb j hj
    rw [← e1] at q1; rw [← e2] at q2; omega
  obtain ⟨τ3, b', L', cl, ml, l1, l2, l3, l4, l5⟩ := lay_ok (N := N) TLt hLt p3 hsf p4 p5 p6 disL hNN
  have C23 : Chg (fun a => own1 (hX τ) 4 own a = 7 + t) τ2 τ3 := Chg_mono l4 (fun a _ h => by
    rcases h with h | h
    · rw [h]; exact ot1
    · have := ot2 (a - V (12 + 2 * t)) (by omega); rw [show V (12 + 2 * t) + (a - V (12 + 2 * t)) = a by omega] at this; exact this)
  generalize ho2 : own1 (hX τ) 4 own = o2 at *
  have hX3 := C23.1
  have E3 : Ex (hX τ2) o2 (own1 (hX τ2) (7 + t) o2) := own1_Ex
  have u7 : ∀ d, d ≠ 7 + t → ∀ a, o2 a = 7 + t → o2 a ≠ d := fun d hd a h h' => hd (by omega)
  have B0 := C0_Chg C23 E3 (u7 0 (by omega)) A0
  have BW := CW_Chg C23 E3 (u7 10 (by omega)) AW
  have BF := CR_Chg C23 E3 (u7 1 (by omega)) AF.1
  have BO := CR_Chg C23 E3 (u7 2 (by omega)) AO.1
  have BS := CR_Chg C23 E3 (u7 3 (by omega)) AS.1
  have B6 := C6_Chg C23 E3 (u7 6 (by omega)) A6.1
  have B7 : ∀ t', t' < 2 → t' ≠ t → C7 τ3 (own1 (hX τ2) (7 + t) o2) P V t' (txt (F t')) (rkT (F t')) := fun t' h' hne => C7_Chg C23 E3 (u7 (7 + t') (by omega)) (A7 t' h')
  have o2P : o2 (P 3) = 4 ∧ o2 (P 4) = 4 ∧ o2 (P 5) = 4 := by
    rw [← ho2, own1_old kP.2.2.2, own1_old kT.2.2.2.1, own1_old kD.2.2.2.1]; exact ⟨o3, o4, o5⟩
  have n7 : ∀ a, o2 a = 4 → ¬ o2 a = 7 + t := fun a h h' => by omega
  have B4T := Tv_Chg C23 T2 (n7 _ o2P.2.1)
  have B4D := Dv_Chg C23 p3 (n7 _ o2P.2.2)
  have kp3 := C23.2.2 (P 3) p7.2.2.2 (n7 _ o2P.1)
  have K1 : KE τ2 (P 4) (V 0) e (fun i => lf.getD i 0) := by
    refine KE_Chg p8 s7 (by
      rintro (h | h | h)
      · exact c3' h.symm
      · have := kT.1; rw [h, kD.1] at this; omega
      · have := (kD.2.1 (P 4 - V 7) (by omega)).1
        rw [show V 7 + (P 4 - V 7) = P 4 by omega, kT.1] at this; omega) (by
      rintro (h | h | h)
      · have := kP.1; rw [← h, h3] at this; omega
      · have := kD.1; rw [← h, h3] at this; omega
      · have := (kD.2.1 (V 0 - V 7) (by omega)).1
        rw [show V 7 + (V 0 - V 7) = V 0 by omega, h3] at this; omega) (by have := kT.2.2.2.1; omega) (by omega)
  have o2F : o2 (V 0) = 1 := by rw [← ho2, own1_old h11]; exact of2
  have K2 : KE τ3 (P 4) (V 0) e (fun i => lf.getD i 0) := KE_Chg C23 K1 (n7 _ o2P.2.1) (fun h => by omega) (by have := T2.2.2.2.1; omega) (by omega)
  have ob' : ∀ i, i < 7 → own1 (hX τ2) (7 + t) o2 (b' + i) = 7 + t := by
    intro i hi
    rcases l5 with h | h
    · rw [h.1, own1_old (by have := TLt.2.2.2.2.2.2.2; omega)]; exact ot2 i hi
    · rw [h.1, own1_new (by omega)]
  have otr : own1 (hX τ2) (7 + t) o2 (P (8 + t)) = 7 + t := by rw [own1_old TLt.2.2.2.2.2.2.1]; exact ot1
  generalize ho3 : own1 (hX τ2) (7 + t) o2 = o3' at *
  -- the names are numbered
  obtain ⟨NM3, ⟨on1, on2, on3⟩, on4⟩ := B6.1
  have hwz : ∀ x ∈ txt (zv f), x.1 = 13 → ∃ p l, x.2.1 = nI p ∧ p < e ∧ we (fun i => lf.getD i 0) e (e - p) p = p + l := by
    have gen : ∀ (f : Fo) s w, wf T'.length (tkF T') (tpF T') f → ∀ x ∈ pre (zv f) s w, x.1 = 13 → ∃ p l, x.2.1 = nI p ∧ p < e ∧ we (fun i => lf.getD i 0) e (e - p) p = p + l := by
      intro f
      induction f with
      | leaf => intro s w _ x hx; simp [zv, pre] at hx
      | inner i y u c m ic im =>
        intro s w hwf x hx h13
        obtain ⟨g1, ⟨g2, _⟩, _, g4, g5⟩ := hwf
        simp only [zv, pre, List.mem_cons, List.mem_append] at hx
        rcases hx with hx | hx | hx
        · subst hx
          have hk : y.1 = 13 := by
            have hlt := okk_lt g1
            have : (nI y.1 = nI 13) = (y.1 = 13) := n_eq (by omega) (by omega)
            exact this.mp h13
          obtain ⟨j, hj, hgd, hj2, hv, hp⟩ := g2 hk
          obtain ⟨w1, w2, w3⟩ := r6 j hj hgd hj2
          exact ⟨tpF T' j, lnF T' j, by rw [hp], w3, w1⟩
        · exact ic _ _ g4 x hx h13
        · exact im _ _ g5 x hx h13
    intro x hx h13
    unfold txt at hx
    rcases List.mem_cons.mp hx with h | h
    · subst h; exact absurd h13 (show ¬ (0 : Int32) = 13 by decide)
    · exact gen f 1 0 p12 x h h13
  have htwf : twf tx (wlp (fun i => lf.getD i 0) e) f := by
    rw [← htx]
    exact twf_of (by omega) hb2 (fun j hj hgd h2' => by obtain ⟨w1, w2, w3⟩ := r6 j hj hgd h2'; exact ⟨w1, w3⟩) p12 hT1
  have hnb := nmb_txt (W := wlp (fun i => lf.getD i 0) e) f nt htwf
  have hcpf := hcp f p12
  obtain ⟨τ4, sb', nb', R', cn, mn, n1, n2, n3, n4, n5, n6, n8⟩ := nn_loop (N := N) (na := P 6) (sp := P 7) (tr := P (8 + t)) (b := b') (L := L') (tt := P 4) (bt := V 0) (e := e) (pr := P 0) (X0 := hX τ3) (g := fun i => lf.getD i 0) (Q := fun a => hX τ3 ≤ a ∨ o3' a = 6) (ps := rkT f) hNN (fun a h => Or.inl h) (Or.inr on1) (Or.inr on2) (by
      rintro (h | h)
      · have := l2.2.2.2.2.2.2.1; omega
      · omega) (fun i hi => by
      rintro (h | h)
      · have := l2.2.2.2.2.2.2.2; omega
      · have := ob' i hi; omega) ⟨by
      rintro (h | h)
      · have := B4T.2.2.2.1; omega
      · rw [← ho3, own1_old T2.2.2.2.1] at h; omega, by
      rintro (h | h)
      · omega
      · rw [← ho3, own1_old (by omega)] at h; omega, by
      rintro (h | h)
      · have := B0.2.2.2.1.1; omega
      · have := B0.2.2.2.2.1; omega⟩ ⟨B4T.2.2.2.1, by omega, B0.2.2.2.1.1⟩ (txt (zv f)) [] τ3 nt (V 9) (V 10) (V 11) N (Nat.le_refl _) NM3 (Or.inr on3) ⟨Or.inr (on4 0 (by omega)), Or.inr (on4 1 (by omega)), Or.inr (on4 2 (by omega))⟩ l2 K2 ⟨B0.1.1, B0.2.1.2.2.2.2.2.2.1, B0.2.1.2.2.2.1⟩ (by have := BF.1.1.2.2.1.2.1; omega) hwz (by rw [hnb]; exact hcpf.1) (by rw [hnb, ← st_flat]; exact hcpf.2) (by rw [txt_len, zv_siz]; omega)
  rw [hnb] at n2 n5
  rw [List.nil_append] at n5
  have C34 : Chg (fun a => o3' a = 6 ∨ o3' a = 7 + t) τ3 τ4 := Chg_mono n6 (fun a ha h => by
    rcases h with (h | h) | h
    · omega
    · exact Or.inl h
    · right; rw [h]; exact ob' 2 (by omega))
  have hX4 := C34.1
  have E4 : Ex (hX τ3) o3' (own1 (hX τ3) 6 o3') := own1_Ex
  have u67 : ∀ d, d ≠ 6 → d ≠ 7 + t → ∀ a, (o3' a = 6 ∨ o3' a = 7 + t) → o3' a ≠ d := fun d hd hd' a h h' => by rcases h with h | h <;> omega
  have D0 := C0_Chg C34 E4 (u67 0 (by omega) (by omega)) B0
  have DW := CW_Chg C34 E4 (u67 10 (by omega) (by omega)) BW
  have DF := CR_Chg C34 E4 (u67 1 (by omega) (by omega)) BF.1
  have DO := CR_Chg C34 E4 (u67 2 (by omega) (by omega)) BO.1
  have DS := CR_Chg C34 E4 (u67 3 (by omega) (by omega)) BS.1
  have D7 : ∀ t', t' < 2 → t' ≠ t → C7 τ4 (own1 (hX τ3) 6 o3') P V t' (txt (F t')) (rkT (F t')) := fun t' h' hne => C7_Chg C34 E4 (u67 (7 + t') (by omega) (by omega)) (B7 t' h' hne)
  have o3P : o3' (P 3) = 4 ∧ o3' (P 4) = 4 ∧ o3' (P 5) = 4 := by
    rw [← ho3, own1_old p7.2.2.2, own1_old T2.2.2.2.1, own1_old p3.2.2.2.1]; exact o2P
  have n67 : ∀ a, o3' a = 4 → ¬ (o3' a = 6 ∨ o3' a = 7 + t) := fun a h h' => by rcases h' with h' | h' <;> omega
  have D4T := Tv_Chg C34 B4T (n67 _ o3P.2.1)
  have D4D := Dv_Chg C34 B4D (n67 _ o3P.2.2)
  have B3 : hT τ3 (P 3) = 7 ∧ hR τ3 3 0 (P 3) = some (P 4) ∧ hR τ3 3 1 (P 3) = some (P 5) ∧ P 3 < hX τ3 := ⟨by rw [(C23.2.1 _ p7.2.2.2).1]; exact p7.1, by rw [kp3.2.1]; exact p7.2.1, by rw [kp3.2.1]; exact p7.2.2.1, by have := p7.2.2.2; omega⟩
  have kp4 := C34.2.2 (P 3) B3.2.2.2 (n67 _ o3P.1)
  -- the fed row is cleared
  obtain ⟨τ5, z1, z2, z3, z4, z5, z6⟩ := b_clear (N := N) DF.1.1
  have C45 : Chg (fun a => own1 (hX τ3) 6 o3' a = 1) τ4 τ5 := Fr_Chg z3 DF.1.2.1 DF.1.2.2
  generalize ho4 : own1 (hX τ3) 6 o3' = o4' at *
  have E5 : Ex (hX τ4) o4' o4' := fun _ _ => rfl
  have u1 : ∀ d, d ≠ 1 → ∀ a, o4' a = 1 → o4' a ≠ d := fun d hd a h h' => hd (by omega)
  have F0 := C0_Chg C45 E5 (u1 0 (by omega)) D0
  have FW := CW_Chg C45 E5 (u1 10 (by omega)) DW
  have FO := CR_Chg C45 E5 (u1 2 (by omega)) DO.1
  have FS := CR_Chg C45 E5 (u1 3 (by omega)) DS.1
  have F7 : ∀ t', t' < 2 → t' ≠ t → C7 τ5 o4' P V t' (txt (F t')) (rkT (F t')) := fun t' h' hne => C7_Chg C45 E5 (u1 (7 + t') (by omega)) (D7 t' h' hne)
  have o4P : o4' (P 3) = 4 ∧ o4' (P 4) = 4 ∧ o4' (P 5) = 4 := by
    rw [← ho4, own1_old B3.2.2.2, own1_old B4T.2.2.2.1, own1_old B4D.2.2.2.1]; exact o3P
  have F4T := Tv_Chg C45 D4T (fun h => by omega)
  have F4D := Dv_Chg C45 D4D (fun h => by omega)
  have D3 : hT τ4 (P 3) = 7 ∧ hR τ4 3 0 (P 3) = some (P 4) ∧ hR τ4 3 1 (P 3) = some (P 5) ∧ P 3 < hX τ4 := ⟨by rw [(C34.2.1 _ B3.2.2.2).1]; exact B3.1, by rw [kp4.2.1]; exact B3.2.1, by rw [kp4.2.1]; exact B3.2.2.1, by have := B3.2.2.2; omega⟩
  have kp5 := C45.2.2 (P 3) D3.2.2.2 (fun h => by omega)
  have o4n : o4' (P 6) = 6 ∧ o4' (P 7) = 6 ∧ o4' sb' = 6 ∧ ∀ i, i < 3 → o4' (nb' + i) = 6 := by
    have q0 : ∀ a, (hX τ3 ≤ a ∨ o3' a = 6) → o4' a = 6 := by
      intro a h
      rw [← ho4]
      by_cases hlt : a < hX τ3
      · rw [own1_old hlt]; rcases h with h | h
        · omega
        · exact h
      · exact own1_new (by omega)
    refine ⟨q0 _ (Or.inr on1), q0 _ (Or.inr on2), q0 _ n3, fun i hi => ?_⟩
    have : i = 0 ∨ i = 1 ∨ i = 2 := by omega
    rcases this with h | h | h
    · subst h; exact q0 _ n4.1
    · subst h; exact q0 _ n4.2.1
    · subst h; exact q0 _ n4.2.2
  have F6 := NM_Chg C45 n2 (fun h => by omega) (fun h => by omega) (fun h => by omega) (fun i hi h => by have := o4n.2.2.2 i hi; omega)
  have o4t : o4' (P (8 + t)) = 7 + t ∧ ∀ i, i < 7 → o4' (b' + i) = 7 + t := by
    refine ⟨by rw [← ho4, own1_old l2.2.2.2.2.2.2.1]; exact otr, fun i hi => ?_⟩
    rw [← ho4, own1_old (by have := l2.2.2.2.2.2.2.2; omega)]; exact ob' i hi
  have F7t := TL_Chg C45 n5 (fun h => by omega) (fun i hi h => by have := o4t.2 i hi; omega)
  -- the new table of places
  obtain ⟨V', v5, v6, v7, v8, v9, v10, v11, v12, v13, vlo, vhi⟩ : ∃ V' : Nat → Nat, V' 5 = tb' ∧ V' 6 = tL' ∧ V' 7 = db' ∧ V' 8 = dL' ∧ V' 9 = sb' ∧ V' 10 = nb' ∧ V' 11 = R' ∧ V' (12 + 2 * t) = b' ∧ V' (13 + 2 * t) = L' ∧ (∀ i, i < 5 → V' i = V i) ∧ (∀ t', t' < 2 → t' ≠ t → V' (12 + 2 * t') = V (12 + 2 * t') ∧ V' (13 + 2 * t') = V (13 + 2 * t')) := by
    refine ⟨fun i => if i = 5 then tb' else if i = 6 then tL' else if i = 7 then db' else if i = 8 then dL' else if i = 9 then sb' else if i = 10 then nb' else if i = 11 then R' else if i = 12 + 2 * t then b' else if i = 13 + 2 * t then L' else V i, rfl, rfl, rfl, rfl, rfl, rfl, rfl, ?_, ?_, fun i hi => ?_, fun t' h' hne => ⟨?_, ?_⟩⟩
    · simp only; rw [if_neg (by omega), if_neg (by omega), if_neg (by omega), if_neg (by omega), if_neg (by omega), if_neg (by omega), if_neg (by omega), if_pos trivial]
    · simp only; rw [if_neg (by omega), if_neg (by omega), if_neg (by omega), if_neg (by omega), if_neg (by omega), if_neg (by omega), if_neg (by omega), if_neg (by omega), if_pos trivial]
    · simp only; rw [if_neg (by omega), if_neg (by omega), if_neg (by omega), if_neg (by omega), if_neg (by omega), if_neg (by omega), if_neg (by omega), if_neg (by omega), if_neg (by omega)]
    · simp only; rw [if_neg (by omega), if_neg (by omega), if_neg (by omega), if_neg (by omega), if_neg (by omega), if_neg (by omega), if_neg (by omega), if_neg (by omega), if_neg (by omega)]
    · simp only; rw [if_neg (by omega), if_neg (by omega), if_neg (by omega), if_neg (by omega), if_neg (by omega), if_neg (by omega), if_neg (by omega), if_neg (by omega), if_neg (by omega)]
  refine ⟨flt, τ5, o4', V', 0 + cn + cl + cq + cs, 0 + mn + ml + mq + ms, S3, f, T', S2, S2.2 1, ?_, ?_, s11, hb2, p12, p13, p14, hT1, ?_, ?_, ?_, ?_, ?_⟩
  · -- the class's run
    have P1' := s8.2.2 (P 0) x4 (by
      rintro (h | h)
      · rw [h, kT.1] at x1; omega
      · have := (kT.2.1 (P 0 - V 5) (by omega)).1
        rw [show V 5 + (P 0 - V 5) = P 0 by omega, x1] at this; omega)
    unfold k_PR_read_16
    refine X_chk x1 (X_I (has_tree ht) (X_nif n10 (X_nif (by show ¬ nI e < nI 0; rw [n_lt (by omega) (by omega)]; omega) (X_chk x1 (X_rfO y0 (X_chk h1 (X_if (by rw [h4, n_le (by omega) (by omega)]; exact he) (X_rfO y3 (X_rfO h2 (X_chk kT.1 (X_A s1 (X_tk (a := (flt, τ5)) (c' := 0 + cn + cl + cq) (m' := 0 + mn + ml + mq) ?_ rfl))))))))))))
    refine X_chk (by rw [(s8.2.1 _ x4).1]; exact x1) (X_rfO (by rw [P1'.2.1]; exact y5) (X_chk P1.1 (X_AI p1 (X_tk (a := (flt, τ5)) (c' := 0 + cn + cl) (m' := 0 + mn + ml) ?_ rfl))))
    have hnt : (nI t).toNatClampNeg = t := n_nat (by omega)
    refine X_chk A0.1.1 (X_rfO A0.2.1.2.2.2.2.2.2.2.2 (X_chk A0.1.2.1 (X_chk (by rw [A0.1.2.2, n_ib (by omega)]; exact ht) (X_rfO (by rw [hnt]; exact A0.2.2.1 t ht) (X_rfO A0.2.1.2.2.2.2.1 (X_chk TLt.1 (X_A l1 (X_tk (a := (flt, τ5)) (c' := 0 + cn) (m' := 0 + mn) ?_ rfl))))))))
    refine X_chk B0.1.1 (X_rfO B0.2.1.2.2.2.2.2.2.2.2 (X_chk B0.1.2.1 (X_chk (by rw [B0.1.2.2, n_ib (by omega)]; exact ht) (X_rfO (by rw [hnt]; exact B0.2.2.1 t ht) (X_A n1 (X_tk (a := (flt, τ5)) (c' := 0) (m' := 0) ?_ rfl))))))
    exact X_chk D0.1.1 (X_rfO D0.2.1.1 (X_chk DF.1.1.1.1 (X_V z1 rfl)))
  · unfold k_RM_read_39
    exact X_V c1 (X_V s2 p2)
  · -- the class's state
    rw [htx]
    refine ⟨?_, FW, ?_, ?_, ⟨lsp, ?_⟩, ?_, ?_, fun t' h' => ?_⟩
    · obtain ⟨q1, q2, q3, q4, q5⟩ := F0
      refine ⟨q1, ?_, q3, q4, q5⟩
      rw [vlo 1 (by omega), vlo 3 (by omega)]; exact q2
    · rw [vlo 0 (by omega)]
      exact ⟨z2, DF.1.2.1, DF.1.2.2⟩
    · rw [vlo 1 (by omega), vlo 2 (by omega)]; exact FO.1
    · rw [vlo 3 (by omega), vlo 4 (by omega)]; exact FS.1
    · refine ⟨by rw [v5, v6]; exact F4T, by rw [v7, v8]; exact F4D, ⟨by rw [(C45.2.1 _ D3.2.2.2).1]; exact D3.1, by rw [kp5.2.1]; exact D3.2.1, by rw [kp5.2.1]; exact D3.2.2.1, by have := C45.1; have := D3.2.2.2; omega⟩, by rw [v5, v7]; exact dis2, o4P, fun i hi => ?_, fun i hi => ?_⟩
      · have hlt := T2.2.2.2.2
        rw [v5, ← ho4, own1_old (by omega), ← ho3, own1_old (by omega)]; exact otb i hi
      · have hlt := p3.2.2.2.2
        rw [v7, ← ho4, own1_old (by omega), ← ho3, own1_old (by omega)]; exact odb i hi
    · refine ⟨by rw [v9, v10, v11]; exact F6.1, ⟨o4n.1, o4n.2.1, by rw [v9]; exact o4n.2.2.1⟩, by rw [v10]; exact o4n.2.2.2⟩
    · by_cases hne : t' = t
      · subst hne
        refine ⟨?_, by rw [v13]; exact l3, o4t.1, by rw [v12]; exact o4t.2⟩
        rw [v12, v13]
        simp only [setF, if_true]
        have er : rkT (res tx f nt).1 = rkT f := by simp only [rkT, nro_res, rks_res]
        rw [er]; exact F7t
      · simp only [setF, if_neg hne]
        obtain ⟨q1, q2, q3, q4⟩ := F7 t' h' hne
        refine ⟨by rw [(vhi t' h' hne).1, (vhi t' h' hne).2]; exact q1, by rw [(vhi t' h' hne).2]; exact q2, q3, by rw [(vhi t' h' hne).1]; exact q4⟩
  · -- the reference's state
    rw [htx]
    obtain ⟨g1, g2, g3, g4, g5, g6, g7, g8⟩ := p11
    have sx5 : S3.1 5 = S.1 5 := by
      rw [g5 5 (by omega) (by omega) (by omega) (by omega) (by omega) (by omega), rs_i1, if_neg (by omega), rs_i1, if_neg (by omega), rs_i1, if_neg (by omega), s10.1 5 (by omega), c3, rs_i1, if_neg (by omega)]
    have sx2 : S3.2 2 = S.2 2 := by
      rw [g6 2 (by omega), hqs, s10.2 2 (by omega) (by omega) (by omega), c4 2 (Or.inl (by omega)), rs_i2]
    refine ⟨⟨by rw [g4]; rfl, fun i hi => by simp at hi⟩, ⟨by rw [sx5]; exact i3, fun i hi => by rw [sx2]; exact i4 i hi⟩, g2, g3, fun t' h' => ?_⟩
    by_cases hne : t' = t
    · subst hne
      simp only [setF, if_true]; exact g1
    · simp only [setF, if_neg hne]
      refine TR_frame (t := t) (i7 t' h') (by rw [txt_len]; have := hsz t' h'; omega) hne ht h' (fun o x h1 h2 hx => ?_) (fun x hx => ?_)
      · rw [g7 o x h1 h2 hx, hqs, s10.2 o (by omega) (by omega) (by omega), c5 o x hx (by omega), rs_i2]
      · rw [g8 x hx, hqs, s10.2 19 (by omega) (by omega) (by omega), c6 x hx, rs_i2]
  · intro a ha
    rw [← ho4, own1_old (by omega), ← ho3, own1_old (by omega), ← ho2, own1_old ha]
  · have oo2 : ∀ a, a < hX τ → o2 a = own a := fun a ha => by rw [← ho2, own1_old ha]
    have oo3 : ∀ a, a < hX τ → o3' a = own a := fun a ha => by rw [← ho3, own1_old (by omega), oo2 a ha]
    have oo4 : ∀ a, a < hX τ → o4' a = own a := fun a ha => by rw [← ho4, own1_old (by omega), oo3 a ha]
    refine Chg_trans (Chg_mono C02 (fun a _ h => Or.inr (Or.inl h))) (Chg_trans' (Chg_mono C23 (fun a _ h ha => ?_)) (Chg_trans' (Chg_mono C34 (fun a _ h ha => ?_)) (Chg_mono C45 (fun a _ h ha => ?_))))
    · rw [oo2 a ha] at h; exact Or.inr (Or.inr (Or.inr h))
    · rw [oo3 a ha] at h
      rcases h with h | h
      · exact Or.inr (Or.inr (Or.inl h))
      · exact Or.inr (Or.inr (Or.inr h))
    · rw [oo4 a ha] at h; exact Or.inl h
  · -- the cost
    have q0 : hN τ5 (V' 0) = hN τ (V 0) := by rw [vlo 0 (by omega), z6, DF.2.1, BF.2.1, AF.2.1]
    have q2 : hN τ5 (V' 2) = hN τ (V 2) := by rw [vlo 2 (by omega), FO.2.1, DO.2.1, BO.2.1, AO.2.1]
    have q4 : hN τ5 (V' 4) = hN τ (V 4) := by rw [vlo 4 (by omega), FS.2.1, DS.2.1, BS.2.1, AS.2.1]
    have q9 : hN τ5 (V' 9) = hN τ4 sb' := by rw [v9]; exact F6.2
    have q9' : hN τ3 (V 9) = hN τ (V 9) := by rw [B6.2, A6.2]
    obtain ⟨w1, w2, _⟩ := n8
    rw [q9'] at w1 w2
    have eB : rB V' = 3 * tL' + 4 * dL' + 7 * V' 13 + 7 * V' 15 := by unfold rB; rw [v6, v8]
    have eA : rA τ5 V' = hN τ (V 0) + hN τ (V 2) + hN τ (V 4) + (3 * R' + hN τ4 sb') := by unfold rA; rw [q0, q2, q4, v11, q9]
    have eT : ml + 2 * (7 * V 13 + 7 * V 15) ≤ 2 * (7 * V' 13 + 7 * V' 15) ∧ cl ≤ 7 := by
      have ht' : t = 0 ∨ t = 1 := by omega
      rcases ht' with h | h
      · subst h
        have w := (vhi 1 (by omega) (by omega)).2
        rw [show 13 + 2 * 1 = 15 from rfl] at w
        rw [show 13 + 2 * 0 = 13 from rfl] at v13
        rw [w, v13]
        simp only [Nat.mul_zero, Nat.add_zero] at l5
        rcases l5 with h | h
        · rw [h.2.1]; omega
        · omega
      · subst h
        have w := (vhi 0 (by omega) (by omega)).2
        rw [show 13 + 2 * 0 = 13 from rfl] at w
        rw [show 13 + 2 * 1 = 15 from rfl] at v13
        rw [w, v13]
        rw [show 13 + 2 * 1 = 15 from rfl] at l5
        rcases l5 with h | h
        · rw [h.2.1]; omega
        · omega
    have eS : cs ≤ 3 ∧ ms + 2 * (3 * V 6) ≤ 2 * (3 * tL') := by
      rcases s9 with h | h
      · rw [h.2.1]; omega
      · omega
    have eD : cd ≤ 4 ∧ md + 2 * (4 * V 8) ≤ 2 * (4 * dL') := by
      rcases p9 with h | h
      · rw [h.2.1]; omega
      · omega
    refine ⟨?_, ?_⟩
    · rw [eA]; unfold rA; omega
    · rw [eA, eB]; unfold rA rB; omega
end READ
