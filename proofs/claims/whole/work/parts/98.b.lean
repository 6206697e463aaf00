/-! both write -/
theorem node_at (n : Nat) (F : Fo) (top : Nat) (h : top < siz F + 1) (hw : wt n F) : ∃ (x : Nat × Nat × Int32) (c : Fo) (w' : Int32) (r : Nat), (∀ K W0 W Z, Fa K W0 W Z (root F) 0 (-1) → (K top = nI x.1 ∧ W0 top = x.2.2 ∧ W top = w' ∧ Z top = nI (siz c + 1)) ∧ Fa K W0 W Z c (top + 1) (nI top)) ∧ (∀ Pt Rk, Fb Pt Rk (root F) 0 0 → (Pt top = nI (nro c) ∧ Rk top = nI r) ∧ Fb Pt Rk c (top + 1) 0) ∧ (x.1 = 0 ∨ okk x.1 (kls c)) ∧ (x.1 = 13 → ∃ k, k < n ∧ x.2.2 = nI k) ∧ (x.1 = 12 → x.2.2 ≠ -2147483648) ∧ wt n c ∧ hgt c ≤ hgt F ∧ top + siz c < siz F + 1 ∧ x.1 < 34 := by
  by_cases h0 : top = 0
  · subst h0
    refine ⟨(0, 4294967295, 0), F, -1, 0, fun K W0 W Z hf => ⟨hf.1, hf.2.1⟩, fun Pt Rk hf => ⟨hf.1, hf.2.1⟩, Or.inl rfl, fun h => by simp at h, fun h => by simp at h, hw, Nat.le_refl _, by omega, by decide⟩
  · obtain ⟨x, c, w', r, e1, e2, e3, e4, e5⟩ := at_node F 1 (nI 0) 0 (top - 1) (by omega)
    rw [show 1 + (top - 1) = top by omega] at e1 e2
    have hx := e3 n hw
    have hle := okk_le hx.1
    exact ⟨x, c, w', r, fun K W0 W Z hf => e1 K W0 W Z hf.2.1, fun Pt Rk hf => e2 Pt Rk hf.2.1, Or.inr hx.1, hx.2.1, hx.2.2.1, hx.2.2.2.1, by omega, by omega, by omega⟩
section WRITE5
variable {wr tr br b L na sp sb nb R N : Nat} {F : Fo} {nt : List (List Int32)}
theorem w_compose {τ : mh_H} {bb top : Nat} {l : List Int32} {x : Nat × Nat × Int32} {c : Fo} {w' : Int32} {r : Nat} (hNN : 40000 ≤ N) (hF : siz F ≤ 12001) (hok : ∀ w ∈ nt, okw w) (h13 : hT τ wr = 13) (h60 : hR τ 6 0 wr = some na) (hwx : wr < hX τ) (HT : TL τ tr b L (txt F) (rkT F)) (HN : NM τ na sp sb nb R nt) (HR : Rw τ br bb 8000 l) (hsp : sp ≠ br) (hsb : sb ≠ bb) (ht : top < siz F + 1)
    (n1 : ∀ K W0 W Z, Fa K W0 W Z (root F) 0 (-1) → (K top = nI x.1 ∧ W0 top = x.2.2 ∧ W top = w' ∧ Z top = nI (siz c + 1)) ∧ Fa K W0 W Z c (top + 1) (nI top)) (n2 : ∀ Pt Rk, Fb Pt Rk (root F) 0 0 → (Pt top = nI (nro c) ∧ Rk top = nI r) ∧ Fb Pt Rk c (top + 1) 0) (n4 : x.1 = 13 → ∃ k, k < nt.length ∧ x.2.2 = nI k) (n5 : x.1 = 12 → x.2.2 ≠ -2147483648) (n6 : wt nt.length c) (n8 : top + siz c < siz F + 1) (n9 : x.1 < 34) :
    ∃ τ' bb' cc m, f_WR_compose N wr tr (nI top) br τ = some ((b01 (body nt x c (some [])).isSome, τ'), cc, m) ∧ WX wr tr br b L na sp sb nb R F nt τ' bb' ∧ COb τ' br bb' (body nt x c (some [])) ∧ Chg (fun a => a = wr ∨ a = br ∨ a = bb) τ τ' ∧ Gw τ τ' bb bb' cc m := by
  obtain ⟨⟨h1, h2, h3⟩, ⟨h4, h5⟩, ⟨h6, h7, h8, h9, h64⟩, ⟨h10, h11⟩, h12⟩ := HR
  have hwb : wr ≠ br := by rintro rfl; omega
  have hwbb : wr ≠ bb := by rintro rfl; omega
  have hwsp := HN.1.2.2.2.2.2.2.2.1
  generalize hτ1 : mh_setR (mh_setR τ 6 1 wr (some tr)) 6 2 wr (some br) = τ1
  have C1 : Chg (fun a => a = wr) τ τ1 := by rw [← hτ1]; exact Chg_trans' (Chg_setR rfl) (Chg_setR rfl)
  have f1 : hT τ1 = hT τ ∧ hN τ1 = hN τ ∧ hX τ1 = hX τ := by subst hτ1; exact ⟨rfl, rfl, rfl⟩
  have hR1 : ∀ j, hR τ1 6 j wr = if j = 2 then some br else if j = 1 then some tr else hR τ 6 j wr := by
    intro j
    subst hτ1
    rw [gR_setR, gR_setR]
    by_cases e2 : j = 2
    · subst e2; rw [if_pos ⟨rfl, rfl, rfl⟩, if_pos rfl]
    · rw [if_neg (fun h => e2 h.2.1), if_neg e2]
      by_cases e1 : j = 1
      · subst e1; rw [if_pos ⟨rfl, rfl, rfl⟩, if_pos rfl]
      · rw [if_neg (fun h => e1 h.2.1), if_neg e1]
  have nwr : ∀ a, hT τ a ≠ 13 → ¬ (a = wr) := fun a ha h => ha (by rw [h]; exact h13)
  have R1 := Rw_Chg C1 ⟨⟨h1, h2, h3⟩, ⟨h4, h5⟩, ⟨h6, h7, h8, h9, h64⟩, ⟨h10, h11⟩, h12⟩ (fun h => hwb h.symm) (fun h => hwbb h.symm)
  obtain ⟨τ2, c1, c2, c3, c4, c5, c6⟩ := b_clear (N := N) R1.1
  have C2 : Chg (fun a => a = br ∨ a = bb) τ1 τ2 := Fr_Chg c3 (Or.inl rfl) (Or.inr rfl)
  have X2 : WX wr tr br b L na sp sb nb R F nt τ2 bb := by
    have X1 : WX wr tr br b L na sp sb nb R F nt τ1 bb := by
      refine ⟨⟨by rw [f1.1]; exact h13, by rw [hR1]; exact h60, by rw [hR1]; rfl, by rw [hR1]; rfl, by rw [f1.2.2]; exact hwx⟩, TL_Chg C1 HT (nwr _ (by rw [HT.1]; decide)) (fun i hi => nwr _ (by rw [(HT.2.1 i hi).1]; decide)), (NM_Chg C1 HN (nwr _ (by rw [HN.1.1]; decide)) (nwr _ (by rw [hwsp.1.1]; decide)) (nwr _ (by rw [hwsp.1.2.2]; decide)) (fun i hi => ?_)).1, hsp, hsb⟩
      have htg := HN.1.2.1
      have : i = 0 ∨ i = 1 ∨ i = 2 := by omega
      rcases this with h | h | h
      · subst h; exact nwr _ (by rw [Nat.add_zero, htg.1]; decide)
      · subst h; exact nwr _ (by rw [htg.2.1]; decide)
      · subst h; exact nwr _ (by rw [htg.2.2]; decide)
    exact WX_FrR X1 R1.1 c3 (Or.inl rfl)
  have H2 : COb τ2 br bb (some []) := ⟨c2, c4, fun c hc => by simp at hc⟩
  have A2 := WX_arr X2 ht
  have FF := F_Fa F
  obtain ⟨⟨k1, k2, k3, k4⟩, k5⟩ := n1 _ _ _ _ FF.1
  obtain ⟨⟨l1, l2⟩, l3⟩ := n2 _ _ FF.2
  have hnc := nro_le c
  obtain ⟨t1, t2, t3, t4, t5, t6, t7, t8⟩ := X2.2.1
  have htl := txt_len F
  have u3 := t2 3 (by omega)
  have hnt : (nI top).toNatClampNeg = top := n_nat (by omega)
  obtain ⟨Pe, hPe⟩ := Pc_ex (n := nt.length) (F := F) c (top + 1) top 0 x.1 k5 l3 n6 (by omega) (by omega) hF k1 n9 [] (by show top + 1 - 1 = top; omega)
  rw [show top + 1 + siz c - 1 = top + 1 + siz c - 1 from rfl] at hPe
  have main : Wz wr tr br b L na sp sb nb R F nt τ2 bb (calA (f_WR_begin N wr (nI top) τ2) fun s12 => bnd (nI top + 1) fun v13 => k_WR_compose_50 N N wr (nI top) (nI (top + 1 + siz c)) v13 s12) (body nt x c (some [])) := by
    refine Wz_go (w_begin (x := x) X2 H2 ht (by rw [A2.1]; exact k1) (by rw [A2.2.1]; exact k2) n9 n4 n5 hok (by omega)) (fun τ3 b3 X3 H3 => Wz_bnd (a' := nI (top + 1)) (n_add top 1) ?_)
    have hNs : N = (N - siz c) + siz c := by omega
    have fin := fun {τ' : mh_H} {bb' : Nat} {P' : List (Nat × Nat × Nat × Nat)} {O' : Ob} (X' : WX wr tr br b L na sp sb nb R F nt τ' bb') (H' : COb τ' br bb' O') (hP' : Pc F P' (top + 1 + siz c - 1) top) => wz_139 (N := N) (e := top + 1 + siz c) hNN hF ht k1 l1 n9 (by omega) (by omega) (by omega) hP' X' H'
    have at_end : ∀ (fu : Nat) {τ' : mh_H} {bb' : Nat} {Z : Ob}, Wz wr tr br b L na sp sb nb R F nt τ' bb' (k_WR_compose_143 N wr (nI top) (nI (top + 1 + siz c)) τ') Z → Wz wr tr br b L na sp sb nb R F nt τ' bb' (k_WR_compose_50 N (fu + 1) wr (nI top) (nI (top + 1 + siz c)) (nI (top + 1 + siz c)) τ') Z := by
      intro fu τ' bb' Z h
      unfold k_WR_compose_50
      exact Wz_if (Int32.le_refl _) h
    cases hc : c with
    | leaf =>
      subst hc
      obtain ⟨M, hM⟩ : ∃ M, N = M + 1 := ⟨N - 1, by omega⟩
      have h := fin (P' := []) X3 H3 (by show top + 1 + siz (.leaf : Fo) - 1 = top; simp [siz])
      have h2 := at_end M h
      rw [← hM] at h2
      exact h2
    | inner i2 x2 u2 c2 m2 =>
      have k5' := k5
      rw [hc] at k5'
      have hx2 : x2.1 < 34 := by
        have := n6
        rw [hc] at this
        have := okk_le this.1
        omega
      obtain ⟨M, hM⟩ : ∃ M, N - siz c = M + 1 := ⟨N - siz c - 1, by omega⟩
      have := w_loop (N := N) (top := top) (e := top + 1 + siz c) (ktop := x.1) (ntop := nro c) (Pe := Pe) hNN hF hok ht k1 l1 n9 (by omega) (by omega) (by omega) hPe c (top + 1) top 0 x.1 (nro c) (fstk c) [] (N - siz c) (fun Y => emit Y (sN (edi x.1 (nro c)))) k5 l3 n6 (by omega) (by omega) k1 n9 l1 (by omega) (by omega) (by rw [hc]; exact k5'.1.1) (by rw [hc]; exact hx2) (by show top + 1 - 1 = top; omega) (emit_none _) X3 H3 (fun τ' bb' P' O' X' H' hP' he' => by
        have h := fin X' H' hP'
        rw [he'] at h
        rw [hM]
        exact at_end M h)
      rw [← hNs] at this
      rw [← hc]
      exact this
  obtain ⟨τ', bb', cc, m, r1, X', H', F', G'⟩ := main
  refine ⟨τ', bb', cc, m, ?_, X', H', ?_, ?_⟩
  · unfold f_WR_compose
    refine X_chk HT.1 (X_I (t_has HT.1 HT.2.2.1 (by omega) (by omega)) (X_nif n10 (X_chk h13 ?_)))
    rw [hτ1]
    refine X_rfO (show hR τ1 6 2 wr = some br by rw [hR1]; rfl) (X_chk R1.1.1.1 (X_V c1 (X_chk X2.1.1 (X_rfO X2.1.2.2.1 (X_chk t1 (X_rfO u3.2.2 (X_chk u3.1 (X_chk (by rw [u3.2.1, n_ib (by omega)]; omega) (X_bndE (x' := nI (top + 1 + siz c)) ?_ r1)))))))))
    rw [hnt, A2.2.2.2.1, k4, n_add]; congr 1; omega
  · exact Chg_trans' (Chg_mono C1 (fun a _ h => Or.inl h)) (Chg_trans' (Chg_mono C2 (fun a _ h => Or.inr h)) (Chg_mono (Fr_Chg (U := fun a => a = br ∨ a = bb) F' (Or.inl rfl) (Or.inr rfl)) (fun a _ h => Or.inr h)))
  · obtain ⟨y1, y2, y3, y4⟩ := G'
    rw [c6, f1.2.1] at y1 y2
    rw [c5, f1.2.2] at y3 y4
    exact ⟨y1, y2, y3, y4⟩
end WRITE5
