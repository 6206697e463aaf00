/-! the class numbers the names of a tree -/
def TL (τ : mh_H) (tr b L : Nat) (l : List TE) (pr : List (Int32 × Int32)) : Prop :=
  hT τ tr = 11 ∧ (∀ i, i < 7 → hT τ (b + i) = 2 ∧ hN τ (b + i) = L ∧ hR τ 5 (1 + i) tr = some (b + i)) ∧ hI τ 5 0 tr = nI l.length ∧ (l.length ≤ L ∧ L ≤ 30000 ∧ pr.length ≤ l.length) ∧ Tr (hA τ) b (b + 1) (b + 2) (b + 3) (b + 5) 0 l ∧ (∀ i (hi : i < pr.length), hA τ (b + 4) i = pr[i].1 ∧ hA τ (b + 6) i = pr[i].2) ∧ (tr < hX τ ∧ b + 6 < hX τ)
theorem TL_Chg {U : Nat → Prop} {τ τ' : mh_H} {tr b L : Nat} {l : List TE} {pr : List (Int32 × Int32)} (C : Chg U τ τ') (H : TL τ tr b L l pr) (h1 : ¬ U tr) (h2 : ∀ i, i < 7 → ¬ U (b + i)) : TL τ' tr b L l pr := by
  obtain ⟨a1, a2, a3, a4, a5, a6, a7, a8⟩ := H
  have kt := C.2.2 tr a7 h1
  have kb : ∀ i, i < 7 → ∀ j, hA τ' (b + i) j = hA τ (b + i) j := fun i hi => (C.2.2 (b + i) (by omega) (h2 i hi)).2.2.1
  refine ⟨by rw [(C.2.1 tr a7).1]; exact a1, fun i hi => ?_, by rw [kt.1]; exact a3, a4, fun j hj => ?_, fun i hi => ?_, by have := C.1; omega, by have := C.1; omega⟩
  · rw [(C.2.1 (b + i) (by omega)).1, (C.2.1 (b + i) (by omega)).2, kt.2.1]; exact a2 i hi
  · have e0 := kb 0 (by omega) (0 + j)
    rw [Nat.add_zero] at e0
    rw [e0, kb 1 (by omega), kb 2 (by omega), kb 3 (by omega), kb 5 (by omega)]; exact a5 j hj
  · rw [kb 4 (by omega), kb 6 (by omega)]; exact a6 i hi
/-- the word at a place -/
def wlp (g : Nat → Nat) (e : Nat) (v : Int32) : List Int32 := (List.range (we g e (e - v.toNatClampNeg) v.toNatClampNeg - v.toNatClampNeg)).map fun i => sx (g (v.toNatClampNeg + i))
def nmb (w : Int32 → List Int32) : List TE → List (List Int32) → List TE × List (List Int32)
  | [], nt => ([], nt)
  | x :: r, nt => if x.1 = 13 then ((x.1, x.2.1, nI (fnd (addw nt (w x.2.1)) (w x.2.1)), x.2.2.2.1, x.2.2.2.2) :: (nmb w r (addw nt (w x.2.1))).1, (nmb w r (addw nt (w x.2.1))).2) else (x :: (nmb w r nt).1, (nmb w r nt).2)
theorem nmb_len (w : Int32 → List Int32) : ∀ (l : List TE) (nt : List (List Int32)), (nmb w l nt).1.length = l.length := by
  intro l
  induction l with
  | nil => intro nt; rfl
  | cons x r ih =>
    intro nt
    unfold nmb
    by_cases h : x.1 = 13
    · rw [if_pos h]; simp [ih]
    · rw [if_neg h]; simp [ih]
theorem nmb_ext (w : Int32 → List Int32) : ∀ (l : List TE) (nt : List (List Int32)), ∃ e, (nmb w l nt).2 = nt ++ e := by
  intro l
  induction l with
  | nil => intro nt; exact ⟨[], by simp [nmb]⟩
  | cons x r ih =>
    intro nt
    unfold nmb
    by_cases h : x.1 = 13
    · rw [if_pos h]
      obtain ⟨e1, h1⟩ := ih (addw nt (w x.2.1))
      obtain ⟨e2, h2⟩ := addw_ext nt (w x.2.1)
      exact ⟨e2 ++ e1, by rw [h1, h2, List.append_assoc]⟩
    · rw [if_neg h]; exact ih nt
theorem nmb_app (w : Int32 → List Int32) : ∀ (l l' : List TE) (nt : List (List Int32)), nmb w (l ++ l') nt = ((nmb w l nt).1 ++ (nmb w l' (nmb w l nt).2).1, (nmb w l' (nmb w l nt).2).2) := by
  intro l
  induction l with
  | nil => intro l' nt; rfl
  | cons x r ih =>
    intro l' nt
    rw [List.cons_append]
    by_cases h : x.1 = 13
    · simp only [nmb.eq_2, if_pos h, ih, List.cons_append]
    · simp only [nmb.eq_2, if_neg h, ih, List.cons_append]
theorem Tr_set {A A' : Nat → Nat → Int32} {kk pp vv zz ww : Nat} {l1 l2 : List TE} {x : TE} {v : Int32} (h : Tr A kk pp vv zz ww 0 (l1 ++ x :: l2)) (h1 : ∀ b i, ¬ (b = vv ∧ i = l1.length) → A' b i = A b i) (h2 : A' vv l1.length = v) (hd : kk ≠ vv ∧ pp ≠ vv ∧ zz ≠ vv ∧ ww ≠ vv) : Tr A' kk pp vv zz ww 0 (l1 ++ (x.1, x.2.1, v, x.2.2.2.1, x.2.2.2.2) :: l2) := by
  intro j hj
  have hj0 : j < (l1 ++ x :: l2).length := by simpa using hj
  have ht := h j hj0
  rw [h1 kk _ (fun e => hd.1 e.1), h1 pp _ (fun e => hd.2.1 e.1), h1 ww _ (fun e => hd.2.2.2 e.1), h1 zz _ (fun e => hd.2.2.1 e.1)]
  by_cases e : j = l1.length
  · subst e
    have e1 : (l1 ++ x :: l2)[l1.length]'hj0 = x := by simp
    have e2 : (l1 ++ (x.1, x.2.1, v, x.2.2.2.1, x.2.2.2.2) :: l2)[l1.length]'hj = (x.1, x.2.1, v, x.2.2.2.1, x.2.2.2.2) := by simp
    rw [e1] at ht
    rw [e2, Nat.zero_add]
    rw [Nat.zero_add] at ht
    exact ⟨ht.1, ht.2.1, h2, ht.2.2.2.1, ht.2.2.2.2⟩
  · have e1 : (l1 ++ (x.1, x.2.1, v, x.2.2.2.1, x.2.2.2.2) :: l2)[j]'hj = (l1 ++ x :: l2)[j]'hj0 := by
      by_cases hlt : j < l1.length
      · rw [List.getElem_append_left hlt, List.getElem_append_left hlt]
      · rw [List.getElem_append_right (by omega), List.getElem_append_right (by omega)]
        obtain ⟨m, hm⟩ : ∃ m, j - l1.length = m + 1 := ⟨j - l1.length - 1, by omega⟩
        simp only [hm, List.getElem_cons_succ]
    rw [e1, h1 vv _ (fun e' => e (by omega))]; exact ht
section NUMB
variable {na sp tr b L tt bt e pr N X0 : Nat} {g : Nat → Nat} {Q : Nat → Prop} {ps : List (Int32 × Int32)}
theorem KE_Chg {U : Nat → Prop} {τ τ' : mh_H} (C : Chg U τ τ') (K : KE τ tt bt e g) (h1 : ¬ U tt) (h2 : ¬ U bt) (x1 : tt < hX τ) (x2 : bt < hX τ) : KE τ' tt bt e g := by
  obtain ⟨k1, k2, k3, k4, k5, k6, k7⟩ := K
  have c1 := C.2.2 tt x1 h1
  have c2 := C.2.2 bt x2 h2
  exact ⟨by rw [(C.2.1 tt x1).1]; exact k1, by rw [c1.2.1]; exact k2, by rw [(C.2.1 bt x2).1]; exact k3, by rw [c1.1]; exact k4, by rw [(C.2.1 bt x2).2]; exact k5, fun i hi => by rw [c2.2.2.1]; exact k6 i hi, k7⟩
theorem wlp_eq {τ : mh_H} {p l : Nat} (K : KE τ tt bt e g) (hp : p < e) (hl : we g e (e - p) p = p + l) : wd (hA τ bt) p l = wlp g e (nI p) := by
  obtain ⟨k1, k2, k3, k4, k5, k6, k7⟩ := K
  have hr := we_range g e (e - p) p (by omega)
  unfold wlp wd
  rw [n_nat (by omega), hl, show p + l - p = l by omega]
  apply List.map_congr_left
  intro i hi
  rw [List.mem_range] at hi
  exact (k6 (p + i) (by omega)).1
theorem nn_loop (hNN : 40000 ≤ N) (hQ : ∀ a, X0 ≤ a → Q a) (q1 : Q na) (q2 : Q sp) (q3 : ¬ Q tr) (q4 : ∀ i, i < 7 → ¬ Q (b + i)) (q5 : ¬ Q tt ∧ ¬ Q bt ∧ ¬ Q pr) (x5 : tt < X0 ∧ bt < X0 ∧ pr < X0) : ∀ (l2 l1 : List TE) (τ : mh_H) (nt : List (List Int32)) (sb nb R fu : Nat), X0 ≤ hX τ → NM τ na sp sb nb R nt → Q sb → (Q nb ∧ Q (nb + 1) ∧ Q (nb + 2)) → TL τ tr b L (l1 ++ l2) ps → KE τ tt bt e g → (hT τ pr = 15 ∧ hR τ 7 6 pr = some na ∧ hR τ 7 3 pr = some tt) → hN τ bt < 1000000 → (∀ x ∈ l2, x.1 = 13 → ∃ p l, x.2.1 = nI p ∧ p < e ∧ we g e (e - p) p = p + l) → (nmb (wlp g e) l2 nt).2.length < 6000 → (nmb (wlp g e) l2 nt).2.flatten.length ≤ 12000 → l2.length < fu →
    ∃ τ' sb' nb' R' c m, k_PR_numberNames_2 N fu pr tr (nI l1.length) τ = some (τ', c, m) ∧ NM τ' na sp sb' nb' R' (nmb (wlp g e) l2 nt).2 ∧ Q sb' ∧ (Q nb' ∧ Q (nb' + 1) ∧ Q (nb' + 2)) ∧ TL τ' tr b L (l1 ++ (nmb (wlp g e) l2 nt).1) ps ∧ Chg (fun a => Q a ∨ a = b + 2) τ τ' ∧ Nw τ τ' sb nb R sb' nb' R' c m := by
  intro l2
  induction l2 with
  | nil =>
    intro l1 τ nt sb nb R fu hX0 HN qs qn HT K P HB hw hc1 hc2 hfu
    obtain ⟨fu, rfl⟩ : ∃ x, fu = x + 1 := ⟨fu - 1, by omega⟩
    refine ⟨τ, sb, nb, R, 0, 0, ?_, HN, qs, qn, HT, Chg_refl, Nw_refl (c := 0)⟩
    obtain ⟨a1, a2, a3, a4, a5, a6, a7, a8⟩ := HT
    rw [List.append_nil] at a3 a4
    unfold k_PR_numberNames_2
    exact X_chk a1 (X_if (by rw [a3, n_le (by omega) (by omega)]; omega) rfl)
  | cons x r ih =>
    intro l1 τ nt sb nb R fu hX0 HN qs qn HT K P HB hw hc1 hc2 hfu
    obtain ⟨fu, rfl⟩ : ∃ x, fu = x + 1 := ⟨fu - 1, by omega⟩
    have HT' := HT
    obtain ⟨a1, a2, a3, a4, a5, a6, a7, a8⟩ := HT
    have hlen : (l1 ++ x :: r).length = l1.length + (r.length + 1) := by simp
    have hi : l1.length < (l1 ++ x :: r).length := by omega
    have ex : (l1 ++ x :: r)[l1.length]'hi = x := by simp
    have ht := a5 l1.length hi
    rw [ex, Nat.zero_add] at ht
    obtain ⟨t1, t2, t3, t4, t5⟩ := ht
    have b0 := a2 0 (by omega)
    have b1 := a2 1 (by omega)
    have b2 := a2 2 (by omega)
    rw [Nat.add_zero] at b0
    have hnl : (nI l1.length).toNatClampNeg = l1.length := n_nat (by omega)
    have hib : ib (nI l1.length) L := by rw [n_ib (by omega)]; omega
    have es : nI l1.length + 1 = nI (l1.length + 1) := n_add _ 1
    by_cases h13 : x.1 = 13
    · obtain ⟨p, l, hp1, hp2, hp3⟩ := hw x (by simp) h13
      have ewl := wlp_eq K hp2 hp3
      have hr := we_range g e (e - p) p (by omega)
      have hnm : nmb (wlp g e) (x :: r) nt = ((x.1, x.2.1, nI (fnd (addw nt (wlp g e (nI p))) (wlp g e (nI p))), x.2.2.2.1, x.2.2.2.2) :: (nmb (wlp g e) r (addw nt (wlp g e (nI p)))).1, (nmb (wlp g e) r (addw nt (wlp g e (nI p)))).2) := by
        show (if x.1 = 13 then _ else _) = _
        rw [if_pos h13, hp1]
      rw [hnm] at hc1 hc2 ⊢
      simp only at hc1 hc2
      obtain ⟨ee, hee⟩ := nmb_ext (wlp g e) r (addw nt (wlp g e (nI p)))
      have hbt : bt ≠ sb := fun h => q5.2.1 (h ▸ qs)
      have K' := K
      obtain ⟨k1, k2, k3, k4, k5, k6, k7⟩ := K
      obtain ⟨τ1, s1, n1, R1, c, m, r1, r2, r3, r4⟩ := n_number (N := N) (src := bt) (p := p) (l := l) HN hNN k3 (by omega) hbt (by omega) (by omega) HB (by
        rw [ewl]; rw [hee] at hc1; simp only [List.length_append] at hc1; omega) (by
        rw [ewl]; rw [hee] at hc2; simp only [List.flatten_append, List.length_append] at hc2; omega)
      rw [ewl] at r1 r2
      have C1 : Chg Q τ τ1 := Chg_mono r3 (fun a _ h => by
        rcases h with rfl | rfl | rfl | rfl | rfl | rfl
        · exact q1
        · exact q2
        · exact qs
        · exact qn.1
        · exact qn.2.1
        · exact qn.2.2)
      have T1 := TL_Chg C1 HT' q3 q4
      have K1 := KE_Chg C1 K' q5.1 q5.2.1 (by omega) (by omega)
      have cp := C1.2.2 pr (by omega) q5.2.2
      have hX1 := C1.1
      have qs1 : Q s1 := by
        rcases r4.2.2.1 with h | h
        · rw [h]; exact qs
        · exact hQ _ (by omega)
      have qn1 : Q n1 ∧ Q (n1 + 1) ∧ Q (n1 + 2) := by
        rcases r4.2.2.2.1 with h | h
        · rw [h]; exact qn
        · exact ⟨hQ _ (by omega), hQ _ (by omega), hQ _ (by omega)⟩
      generalize hv : nI (fnd (addw nt (wlp g e (nI p))) (wlp g e (nI p))) = v at *
      have q2' := q4 2 (by omega)
      -- the state with the value set
      have C2 : Chg (fun a => a = b + 2) τ1 (mh_setA τ1 (b + 2) l1.length v) := Chg_setA rfl
      have N2 : NM (mh_setA τ1 (b + 2) l1.length v) na sp s1 n1 R1 (addw nt (wlp g e (nI p))) := by
        have d1 : s1 ≠ b + 2 := fun h => q2' (h ▸ qs1)
        have d2 : n1 ≠ b + 2 := fun h => q2' (h ▸ qn1.1)
        have d3 : n1 + 1 ≠ b + 2 := fun h => q2' (h ▸ qn1.2.1)
        have d4 : n1 + 2 ≠ b + 2 := fun h => q2' (h ▸ qn1.2.2)
        obtain ⟨⟨y1, y2, y3, y4, y5, y6, y7, ⟨y8, y9, y10, y11, y12⟩, y13⟩, y14, y15⟩ := r2
        have f : ∀ a, a ≠ b + 2 → hA (mh_setA τ1 (b + 2) l1.length v) a = hA τ1 a := fun a ha => funext fun i => by rw [gA_setA, if_neg (fun h => ha h.1)]
        refine ⟨⟨y1, y2, y3, y4, y5, y6, fun k hk => by rw [f n1 d2]; exact y7 k hk, ⟨y8, y9, y10, y11, fun i hi => by rw [f s1 d1]; exact y12 i hi⟩, y13⟩, by rw [f _ d3, f _ d4]; exact y14, y15⟩
      have T2 : TL (mh_setA τ1 (b + 2) l1.length v) tr b L ((l1 ++ [(x.1, x.2.1, v, x.2.2.2.1, x.2.2.2.2)]) ++ r) ps := by
        obtain ⟨y1, y2, y3, y4, y5, y6, y7, y8⟩ := T1
        refine ⟨y1, y2, by rw [gI_setA, y3]; simp, by simp at y4 ⊢; omega, ?_, fun i hi => ?_, y7, y8⟩
        · have := Tr_set (A' := hA (mh_setA τ1 (b + 2) l1.length v)) (v := v) y5 (fun a i h => by rw [gA_setA, if_neg h]) (by rw [gA_setA, if_pos ⟨rfl, rfl⟩]) ⟨by omega, by omega, by omega, by omega⟩
          simpa using this
        · rw [gA_setA, gA_setA, if_neg (by omega), if_neg (by omega)]; exact y6 i hi
      have K2 : KE (mh_setA τ1 (b + 2) l1.length v) tt bt e g := KE_Chg C2 K1 (fun h => by have := a8; have hh := K1.1; have := (T1.2.1 2 (by omega)).1; rw [← h] at this; omega) (fun h => by have hh := K1.2.2.1; have := (T1.2.1 2 (by omega)).1; rw [← h] at this; omega) (by omega) (by omega)
      obtain ⟨τ', s', n', R', c', m', w1, w2, w3, w4, w5, w6, w7⟩ := ih (l1 ++ [(x.1, x.2.1, v, x.2.2.2.1, x.2.2.2.2)]) (mh_setA τ1 (b + 2) l1.length v) (addw nt (wlp g e (nI p))) s1 n1 R1 fu (by show X0 ≤ hX τ1; omega) N2 qs1 qn1 T2 K2 ⟨by show hT τ1 pr = 15; rw [(C1.2.1 pr (by omega)).1]; exact P.1, by show hR τ1 7 6 pr = _; rw [cp.2.1]; exact P.2.1, by show hR τ1 7 3 pr = _; rw [cp.2.1]; exact P.2.2⟩ (by show hN τ1 bt < _; rw [(C1.2.1 bt (by omega)).2]; exact HB) (fun y hy => hw y (by simp [hy])) hc1 hc2 (by simp at hfu; omega)
      refine ⟨τ', s', n', R', c' + c, m' + m, ?_, w2, w3, w4, by simpa using w5, ?_, Nw_trans r4 w7⟩
      · have hbw := k_word (N := N) K' (e - p) p N (by omega) (by omega) (by omega)
        unfold k_PR_numberNames_2
        refine X_chk a1 (X_nif (by rw [a3, n_le (by omega) (by omega)]; omega) (X_rfO b0.2.2 (X_chk b0.1 (X_chk (by rw [b0.2.1]; exact hib) (X_if (by rw [hnl, t1]; exact h13) (X_rfO b1.2.2 (X_chk b1.1 (X_chk (by rw [b1.2.1]; exact hib) (X_bndE (x' := nI p) (by rw [hnl, t2]; exact hp1) (X_rfO b2.2.2 (X_chk P.1 (X_rfO P.2.1 (X_rfO P.2.2 (X_chk k1 (X_rfO k2 (X_I (a := nI (p + l)) (s := τ) (by rw [← hp3]; exact hbw) (X_chk HN.1.1 (X_AI r1 (X_tk (c' := c') (m' := m') (a := τ') ?_ rfl)))))))))))))))))))
        refine X_chk (T1.2.1 2 (by omega)).1 (X_chk (by rw [(T1.2.1 2 (by omega)).2.1]; exact hib) ?_)
        rw [hnl, es]
        have hl1 : (l1 ++ [(x.1, x.2.1, v, x.2.2.2.1, x.2.2.2.2)]).length = l1.length + 1 := by simp
        rw [hl1] at w1
        exact w1
      · exact Chg_trans' (Chg_mono C1 (fun a _ h => Or.inl h)) (Chg_trans' (Chg_mono C2 (fun a _ h => Or.inr h)) w6)
    · have hnm : nmb (wlp g e) (x :: r) nt = (x :: (nmb (wlp g e) r nt).1, (nmb (wlp g e) r nt).2) := by
        show (if x.1 = 13 then _ else _) = _
        rw [if_neg h13]
      rw [hnm] at hc1 hc2 ⊢
      obtain ⟨τ', s', n', R', c', m', w1, w2, w3, w4, w5, w6, w7⟩ := ih (l1 ++ [x]) τ nt sb nb R fu hX0 HN qs qn (by simpa using HT') K P HB (fun y hy => hw y (by simp [hy])) hc1 hc2 (by simp at hfu; omega)
      refine ⟨τ', s', n', R', c', m', ?_, w2, w3, w4, by simpa using w5, w6, w7⟩
      unfold k_PR_numberNames_2
      refine X_chk a1 (X_nif (by rw [a3, n_le (by omega) (by omega)]; omega) (X_rfO b0.2.2 (X_chk b0.1 (X_chk (by rw [b0.2.1]; exact hib) (X_nif (by rw [hnl, t1]; exact h13) ?_)))))
      rw [es]
      have hl1 : (l1 ++ [x]).length = l1.length + 1 := by simp
      rw [hl1] at w1
      exact w1
end NUMB
