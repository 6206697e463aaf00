/-! keeping, node by node -/
section KEEP
variable {N t z r : Nat} {tx : Nat → List Int32}
/-- what comes behind the last of a row of parts -/
def popk (N t r fu top : Nat) (S : rm_S) : Option rm_S := if top = 0 then some S else k_RM_keep_8 N fu (nI t) (nI r) (nI (top - 2)) (S.2 13 (top - 2)) (S.2 13 (top - 1)) S
def KeepF (N t z r : Nat) (tx : Nat → List Int32) (f : Fo) : Prop := ∀ (S : rm_S) (L : List TE) (ch : List Nat) (w : Int32) (top fu : Nat) (h : Int32) (nt : List (List Int32)),
  f ≠ .leaf → FR S.2 f h (-1) → sm f → nr r f → nmS S tx f → TR S t z L → L.length + siz f ≤ 13000 → Ch (S.2 17) z ch w → (∀ a ∈ ch, a < L.length) → ch.length ≤ L.length → NT S.2 nt → S.1 31 = nI nt.length → (res tx f nt).2.length < 6000 → st (res tx f nt).2 (res tx f nt).2.length ≤ 12000 → top + 2 * siz f ≤ 26000 → (top = 0 ∨ 2 ≤ top) → 1 ≤ fu →
  ∃ S', k_RM_keep_8 N (fu + siz f) (nI t) (nI r) (nI top) h w S = popk N t r fu top S' ∧ KV t z top S S' ∧ TR S' t z (inc L ch (siz f) ++ pre (res tx f nt).1 L.length w) ∧ NT S'.2 (res tx f nt).2 ∧ S'.1 31 = nI (res tx f nt).2.length
theorem NT_ext {A : Nat → Nat → Int32} {nt : List (List Int32)} {B : Nat → Nat → Int32} (h : NT A nt) (h20 : B 20 = A 20) (h21 : B 21 = A 21) : NT B nt := ⟨fun k hk => by rw [h21]; exact h.1 k hk, fun k hk i hi => by rw [h20]; exact h.2.1 k hk i hi, h.2.2⟩
theorem TR_ext {S S' : rm_S} {L : List TE} (h : TR S t z L) (h1 : ∀ o, 14 ≤ o → o ≤ 19 → S'.2 o = S.2 o) : TR S' t z L := ⟨by rw [h1 19 (by omega) (by omega)]; exact h.1, fun j hj => by rw [h1 14 (by omega) (by omega), h1 15 (by omega) (by omega), h1 16 (by omega) (by omega), h1 17 (by omega) (by omega), h1 18 (by omega) (by omega)]; exact h.2 j hj⟩
/-- the name's number, or the value -/
theorem keep_val {S : rm_S} {i k p top fu : Nat} {v : Int32} {w : Int32} {nt : List (List Int32)} (hN : NT S.2 nt) (h31 : S.1 31 = nI nt.length) (hNN : 20000 ≤ N) (hi : i < 26000) (h7 : S.2 7 i = nI k) (h8 : S.2 8 i = nI p) (h9 : S.2 9 i = v) (hk : k < 100) (hnm : k = 13 → ∃ j p l, v = nI j ∧ j < 8002 ∧ S.2 5 j = nI p ∧ S.2 6 j = nI l ∧ p + l ≤ 8000 ∧ tx j = wd (S.2 1) p l) (hc1 : (if k = 13 then addw nt (tx v.toNatClampNeg) else nt).length < 6000) (hc2 : st (if k = 13 then addw nt (tx v.toNatClampNeg) else nt) (if k = 13 then addw nt (tx v.toNatClampNeg) else nt).length ≤ 12000) :
    ∃ S1, k_RM_keep_8 N (fu + 1) (nI t) (nI r) (nI top) (nI i) w S = k_RM_keep_63 N (k_RM_keep_8 N fu) (nI t) (nI r) (nI top) (nI i) w (if k = 13 then nI (fnd (addw nt (tx v.toNatClampNeg)) (tx v.toNatClampNeg)) else v) (nI p) (nI k) (nI t) S1 ∧ NT S1.2 (if k = 13 then addw nt (tx v.toNatClampNeg) else nt) ∧ S1.1 31 = nI (if k = 13 then addw nt (tx v.toNatClampNeg) else nt).length ∧ (∀ x, x ≠ 31 → S1.1 x = S.1 x) ∧ (∀ o, o ≠ 20 → o ≠ 21 → S1.2 o = S.2 o) := by
  by_cases h13 : k = 13
  · obtain ⟨j, pj, l, q1, q2, q3, q4, q5, q6⟩ := hnm h13
    have hvj : v.toNatClampNeg = j := by rw [q1, n_nat (by omega)]
    simp only [if_pos h13, hvj, q6] at hc1 hc2 ⊢
    obtain ⟨S1, x1, x2, x3, x4, x5⟩ := nameOf_ok (N := N) hN h31 q2 q3 q4 q5 (by omega) hNN hc1 hc2
    refine ⟨S1, ?_, x2, x3, x4, x5⟩
    rw [← q1] at x1
    have e13 : nI k = 13 := by rw [h13]; rfl
    have hb : ib (nI i) 26000 := by rw [n_ib (by omega)]; omega
    have hni : (nI i).toNatClampNeg = i := n_nat (by omega)
    unfold k_RM_keep_8
    refine X_nif ?_ (X_chk hb (X_chk hb (X_chk hb ?_)))
    · intro e
      have : (nI i = -nI 1) = False := n_m1 (by omega)
      exact this.mp e
    refine X_if (by rw [hni, h7]; exact e13) (X_chk hb (X_I (by rw [hni, h9]; exact x1) ?_))
    rw [hni, h7, h8]
  · simp only [if_neg h13] at hc1 hc2 ⊢
    refine ⟨S, ?_, hN, h31, fun _ _ => rfl, fun _ _ _ => rfl⟩
    have e13 : ¬ nI k = 13 := by
      show ¬ nI k = nI 13
      rw [n_eq (by omega) (by omega)]; exact h13
    have hb : ib (nI i) 26000 := by rw [n_ib (by omega)]; omega
    have hni : (nI i).toNatClampNeg = i := n_nat (by omega)
    conv => lhs; unfold k_RM_keep_8
    refine X_nif ?_ (X_chk hb (X_chk hb (X_chk hb ?_)))
    · intro e
      have : (nI i = -nI 1) = False := n_m1 (by omega)
      exact this.mp e
    refine X_nif (by rw [hni, h7]; exact e13) (X_chk hb ?_)
    rw [hni, h7, h8, h9]
def psh : Fo → Nat → Nat
  | .leaf, top => top
  | .inner _ _ _ _ _, top => top + 2
/-- the next part is laid by -/
theorem keep_push {S1 S2 : rm_S} {i top s : Nat} {w v' p k : Int32} {m : Fo} {K : Int32 → Int32 → Int32 → Int32 → Int32 → rm_S → Option rm_S} (hadd : f_RM_add N (nI t) k p v' w S1 = some (nI s, S2)) (hi : i < 26000) (hr : r < 26000) (htop : top + 2 ≤ 26000) (hm : FR S2.2 m (S2.2 12 i) (-1)) (hsm : sm m) (hnr : m ≠ .leaf → i ≠ r) :
    ∃ S3, k_RM_keep_63 N K (nI t) (nI r) (nI top) (nI i) w v' p k (nI t) S1 = k_RM_keep_113 N K (nI t) (nI r) (nI (psh m top)) (nI i) w (nI s) S3 ∧ S3.1 = S2.1 ∧ (∀ o, o ≠ 13 → S3.2 o = S2.2 o) ∧ (∀ x, x < top → S3.2 13 x = S2.2 13 x) ∧ (m ≠ .leaf → S3.2 13 top = S2.2 12 i ∧ S3.2 13 (top + 1) = w) ∧ (m = .leaf → S3 = S2) := by
  have hb : ib (nI i) 26000 := by rw [n_ib (by omega)]; omega
  have hni : (nI i).toNatClampNeg = i := n_nat (by omega)
  cases m with
  | leaf =>
    refine ⟨S2, ?_, rfl, fun _ _ => rfl, fun _ _ => rfl, fun h => absurd rfl h, fun _ => rfl⟩
    have h12 : S2.2 12 i = -1 := hm
    unfold k_RM_keep_63
    refine X_I hadd (X_chk hb ?_)
    exact X_if (by rw [hni]; exact h12) rfl
  | inner i2 x2 u2 c2 m2 =>
    have h12 : S2.2 12 i = nI i2 := hm.1
    have hi2 : i2 < 26000 := hsm.1
    refine ⟨rs_a (rs_a S2 13 top (S2.2 12 i)) 13 (top + 1) w, ?_, rfl, fun o ho => ?_, fun x hx => ?_, fun _ => ⟨?_, ?_⟩, fun h => by cases h⟩
    · have hne : ¬ S2.2 12 i = -1 := by
        rw [h12]; intro e
        have : (nI i2 = -nI 1) = False := n_m1 (by omega)
        exact this.mp e
      have hir : ¬ nI i = nI r := by
        rw [n_eq (by omega) (by omega)]; exact hnr (by simp)
      have hbt : ib (nI top) 26000 := by rw [n_ib (by omega)]; omega
      have e1 : nI top + 1 = nI (top + 1) := n_add top 1
      have e2 : nI top + 2 = nI (top + 2) := n_add top 2
      have hbt1 : ib (nI top + 1) 26000 := by rw [e1, n_ib (by omega)]; omega
      unfold k_RM_keep_63
      refine X_I hadd (X_chk hb ?_)
      refine X_nif (by rw [hni]; exact hne) (X_nif hir (X_chk hb (X_chk hbt (X_bnd (X_chk hbt1 ?_)))))
      rw [hni, e1, e2, n_nat (show top < 2147483648 by omega), n_nat (show top + 1 < 2147483648 by omega)]; rfl
    · funext x; rw [rs_a2, if_neg (by rintro ⟨h, _⟩; exact ho h), rs_a2, if_neg (by rintro ⟨h, _⟩; exact ho h)]
    · rw [rs_a2, if_neg (by rintro ⟨_, h⟩; omega), rs_a2, if_neg (by rintro ⟨_, h⟩; omega)]
    · rw [rs_a2, if_neg (by rintro ⟨_, h⟩; omega), rs_a2, if_pos ⟨rfl, rfl⟩]
    · rw [rs_a2, if_pos ⟨rfl, rfl⟩]
theorem k8_end {fu : Nat} {a b c w : Int32} {S : rm_S} (hf : 1 ≤ fu) : k_RM_keep_8 N fu a b c (-1) w S = some S := by
  obtain ⟨fu, rfl⟩ : ∃ x, fu = x + 1 := ⟨fu - 1, by omega⟩
  unfold k_RM_keep_8
  exact X_if rfl rfl
theorem k113_leaf {fu i top s : Nat} {w : Int32} {S : rm_S} (hf : 1 ≤ fu) (hi : i < 26000) (htop : top ≤ 26000) (ht0 : top = 0 ∨ 2 ≤ top) (h10 : S.2 10 i = -1) : k_RM_keep_113 N (k_RM_keep_8 N fu) (nI t) (nI r) (nI top) (nI i) w (nI s) S = popk N t r fu top S := by
  have hb : ib (nI i) 26000 := by rw [n_ib (by omega)]; omega
  have hni : (nI i).toNatClampNeg = i := n_nat (by omega)
  unfold k_RM_keep_113
  refine X_chk hb ?_
  refine X_if (by rw [hni]; exact h10) ?_
  rcases ht0 with rfl | h2
  · refine X_if (by decide) ?_
    rw [k8_end hf]; rfl
  · have e1 : nI top + (-2) = nI (top - 2) := by
      have : nI top - nI 2 = nI (top - 2) := n_sub h2
      rw [← this, Int32.sub_eq_add_neg]; rfl
    have e2 : nI (top - 2) + 1 = nI (top - 1) := by
      have : nI (top - 2) + nI 1 = nI (top - 2 + 1) := n_add _ _
      rw [show top - 1 = top - 2 + 1 by omega, ← this]; rfl
    refine X_nif ?_ ?_
    · show ¬ nI top ≤ nI 0
      rw [n_le (by omega) (by omega)]; omega
    refine X_chk (by rw [e1, n_ib (by omega)]; omega) (X_bnd (X_chk (by rw [e1, e2, n_ib (by omega)]; omega) (X_bnd ?_)))
    rw [e1, e2, n_nat (show top - 2 < 2147483648 by omega), n_nat (show top - 1 < 2147483648 by omega), popk, if_neg (by omega)]
theorem k113_first {i i2 : Nat} {top w s : Int32} {S : rm_S} {K : Int32 → Int32 → Int32 → Int32 → Int32 → rm_S → Option rm_S} (hi : i < 26000) (hi2 : i2 < 26000) (h10 : S.2 10 i = nI i2) : k_RM_keep_113 N K (nI t) (nI r) top (nI i) w s S = K (nI t) (nI r) top (nI i2) s S := by
  have hb : ib (nI i) 26000 := by rw [n_ib (by omega)]; omega
  have hni : (nI i).toNatClampNeg = i := n_nat (by omega)
  unfold k_RM_keep_113
  refine X_chk hb ?_
  refine X_nif ?_ (X_chk hb (X_bnd ?_))
  · rw [hni, h10]; intro e
    have : (nI i2 = -nI 1) = False := n_m1 (by omega)
    exact this.mp e
  rw [hni, h10]
theorem KV_weak {a b : Nat} {S S' : rm_S} (h : KV t z a S S') (hl : b ≤ a) : KV t z b S S' := ⟨h.1, h.2.1, h.2.2.1, h.2.2.2.1, fun x hx => h.2.2.2.2 x (by omega)⟩
theorem FR_arr {B B' : Nat → Nat → Int32} (h : ∀ o, o < 13 → B' o = B o) : ∀ {f : Fo} {a e : Int32}, FR B f a e → FR B' f a e := by
  intro f
  induction f with
  | leaf => intro a e H; exact H
  | inner i x u c n ic ih =>
    intro a e H
    obtain ⟨h1, h2, h3, h4, h5, h6⟩ := H
    refine ⟨h1, by rw [h 7 (by omega)]; exact h2, by rw [h 8 (by omega)]; exact h3, by rw [h 9 (by omega)]; exact h4, ?_, ?_⟩
    · rw [h 10 (by omega)]; exact ic h5
    · rw [h 12 (by omega)]; exact ih h6
theorem keep_f (ht : t ≤ 1) (hz : z = 13000 * t) (hNN : 20000 ≤ N) (hr : r < 26000) : ∀ f : Fo, KeepF N t z r tx f := by
  intro f
  induction f with
  | leaf => intro S L ch w top fu h nt hn; exact absurd rfl hn
  | inner i x u c m ic im =>
    intro S L ch w top fu h nt _ hF hsm hnr hnm hT hLs hC hch hcl hN h31 hc1 hc2 htop ht0 hfu
    obtain ⟨k, p, v⟩ := x
    obtain ⟨f1, f2, f3, f4, f5, f6⟩ := hF
    obtain ⟨s1, s2, s3, s4⟩ := hsm
    obtain ⟨r1, r2, r3⟩ := hnr
    obtain ⟨m1, m2, m3⟩ := hnm
    subst f1
    simp only at f2 f3 f4 s2 m1
    simp only [res] at hc1 hc2 ⊢
    simp only [siz] at hLs htop ⊢
    generalize hnt1 : (if k = 13 then addw nt (tx v.toNatClampNeg) else nt) = nt1 at hc1 hc2 ⊢
    generalize hv1 : (if k = 13 then nI (fnd (addw nt (tx v.toNatClampNeg)) (tx v.toNatClampNeg)) else v) = v1
    obtain ⟨e2, hx2⟩ := res_ext tx c nt1
    obtain ⟨e3, hx3⟩ := res_ext tx m (res tx c nt1).2
    have hcc1 : (res tx c nt1).2.length < 6000 ∧ st (res tx c nt1).2 (res tx c nt1).2.length ≤ 12000 := by
      rw [hx3] at hc1 hc2
      have := st_ext (res tx c nt1).2 e3
      simp only [List.length_append] at hc1 hc2 this
      exact ⟨by omega, by omega⟩
    have hnn1 : nt1.length < 6000 ∧ st nt1 nt1.length ≤ 12000 := by
      have h1 := hcc1.1
      have h2 := hcc1.2
      rw [hx2] at h1 h2
      have := st_ext nt1 e2
      simp only [List.length_append] at h1 h2 this
      exact ⟨by omega, by omega⟩
    obtain ⟨S1, y1, y2, y3, y4, y5⟩ := keep_val (N := N) (t := t) (r := r) (tx := tx) (top := top) (fu := fu + siz m + siz c) (w := w) (p := p) (k := k) (v := v) hN h31 hNN s1 f2 f3 f4 s2 m1 (by rw [hnt1]; exact hnn1.1) (by rw [hnt1]; exact hnn1.2)
    rw [hnt1] at y2 y3
    rw [hv1] at y1
    have hT1 : TR S1 t z L := TR_ext hT (fun o h1 h2 => y5 o (by omega) (by omega))
    have hC1 : Ch (S1.2 17) z ch w := by rw [y5 17 (by omega) (by omega)]; exact hC
    obtain ⟨S2, a1, a2, a3, a4, a5, a6⟩ := add_ok (N := N) (k := nI k) (p := nI p) (v := v1) ht hz hNN hT1 (by omega) hC1 hch (by omega)
    have h12 : ∀ o, o < 13 → S2.2 o = S.2 o := fun o ho => by rw [a4 o (by omega), y5 o (by omega) (by omega)]
    have fm : FR S2.2 m (S2.2 12 i) (-1) := by
      rw [h12 12 (by omega)]
      exact FR_arr h12 f6
    obtain ⟨S3, p1, p2, p3, p4, p5, p6⟩ := keep_push (N := N) (t := t) (r := r) (top := top) (K := k_RM_keep_8 N (fu + siz m + siz c)) a1 s1 hr (by omega) fm s4 r1
    have hil : (inc L ch 1).length = L.length := inc_len L ch 1
    have hT3 : TR S3 t z (inc L ch 1 ++ [(nI k, nI p, v1, w, 1)]) := TR_ext a2 (fun o h1 h2 => p3 o (by omega))
    have hN3 : NT S3.2 nt1 := NT_ext y2 (by rw [p3 20 (by omega), a4 20 (by omega)]) (by rw [p3 21 (by omega), a4 21 (by omega)])
    have h313 : S3.1 31 = nI nt1.length := by rw [p2, a3]; exact y3
    have h3lt : ∀ o, o < 13 → S3.2 o = S.2 o := fun o ho => by rw [p3 o (by omega), h12 o ho]
    have h17 : ∀ a, a < L.length → S3.2 17 (z + a) = S.2 17 (z + a) := by
      intro a ha
      have q1 := (hT3.2 a (by simp [hil]; omega)).2.2.2.1
      have q2 := (hT.2 a ha).2.2.2.1
      rw [q1, q2, List.getElem_append_left (by rw [hil]; exact ha), inc_get]
      by_cases hm : a ∈ ch
      · rw [if_pos hm]
      · rw [if_neg hm]
    have h17s : S3.2 17 (z + L.length) = w := by
      have q1 := (hT3.2 L.length (by simp [hil])).2.2.2.1
      rw [q1, List.getElem_append_right (by rw [hil]; exact Nat.le_refl _)]
      simp [hil]
    have hC3 : Ch (S3.2 17) z (L.length :: ch) (nI L.length) := by
      refine ⟨rfl, by omega, hch, ?_⟩
      rw [h17s]
      exact Ch_set (fun a ha => h17 a (hch a ha)) hC
    have hps : psh m top + 2 * siz c ≤ 26000 ∧ (psh m top = 0 ∨ 2 ≤ psh m top) ∧ top ≤ psh m top := by
      cases m with
      | leaf => simp only [psh, siz] at *; exact ⟨by omega, ht0, by omega⟩
      | inner i2 x2 u2 c2 m2 => simp only [psh, siz] at *; exact ⟨by omega, by omega, by omega⟩
    have hKV3 : KV t z top S S3 := ⟨fun x hx => by rw [p2, a3, y4 x hx], h3lt, fun o x h1 h2 h3 => by rw [p3 o (by omega), a5 o x h3 (by omega), y5 o (by omega) (by omega)], fun x hx => by rw [p3 19 (by omega), a6 x hx, y5 19 (by omega) (by omega)], fun x hx => by rw [p4 x hx, a4 13 (by omega), y5 13 (by omega) (by omega)]⟩
    have claim : ∃ S4, k_RM_keep_113 N (k_RM_keep_8 N (fu + siz m + siz c)) (nI t) (nI r) (nI (psh m top)) (nI i) w (nI L.length) S3 = popk N t r (fu + siz m) (psh m top) S4 ∧ KV t z (psh m top) S3 S4 ∧ TR S4 t z (inc (inc L ch 1 ++ [(nI k, nI p, v1, w, 1)]) (L.length :: ch) (siz c) ++ pre (res tx c nt1).1 (L.length + 1) (nI L.length)) ∧ NT S4.2 (res tx c nt1).2 ∧ S4.1 31 = nI (res tx c nt1).2.length := by
      cases c with
      | leaf =>
        refine ⟨S3, ?_, KV_refl, ?_, hN3, h313⟩
        · have h10 : S3.2 10 i = -1 := by rw [h3lt 10 (by omega)]; exact f5
          exact k113_leaf (by omega) s1 (by omega) hps.2.1 h10
        · simp only [siz, res, pre, inc_zero, List.append_nil]; exact hT3
      | inner i2 x2 u2 c2 m2 =>
        have h10 : S3.2 10 i = nI i2 := by rw [h3lt 10 (by omega)]; exact f5.1
        have hch3 : ∀ a ∈ L.length :: ch, a < (inc L ch 1 ++ [(nI k, nI p, v1, w, (1 : Int32))]).length := by
          intro a ha
          simp only [List.length_append, hil, List.length_cons, List.length_nil]
          rcases List.mem_cons.mp ha with rfl | ha
          · omega
          · have := hch a ha; omega
        have := ic S3 (inc L ch 1 ++ [(nI k, nI p, v1, w, 1)]) (L.length :: ch) (nI L.length) (psh m top) (fu + siz m) (nI i2) nt1 (by simp) (FR_arr h3lt (by have := f5.1; rw [← this]; exact f5)) s3 r2 (nmS_set h3lt m2) hT3 (by simp [hil]; omega) hC3 hch3 (by simp [hil]; omega) hN3 h313 hcc1.1 hcc1.2 hps.1 hps.2.1 (by omega)
        obtain ⟨S4, w1, w2, w3, w4, w5⟩ := this
        refine ⟨S4, ?_, w2, ?_, w4, w5⟩
        · rw [k113_first s1 s3.1 h10]; exact w1
        · have e : (inc L ch 1 ++ [(nI k, nI p, v1, w, (1 : Int32))]).length = L.length + 1 := by simp [hil]
          rw [e] at w3; exact w3
    obtain ⟨S4, c1, c2, c3, c4, c5⟩ := claim
    have hinc : inc (inc L ch 1 ++ [(nI k, nI p, v1, w, (1 : Int32))]) (L.length :: ch) (siz c) = inc L ch (1 + siz c) ++ [(nI k, nI p, v1, w, nI (siz c + 1))] := by
      have := inc_cons (inc L ch 1) (nI k, nI p, v1, w, (1 : Int32)) ch (siz c) (by intro a ha; rw [hil]; exact hch a ha)
      rw [hil] at this
      rw [this, inc_inc]
      have e1 : (1 : Int32) + nI (siz c) = nI (siz c + 1) := by
        show nI 1 + nI (siz c) = _
        rw [n_add]; congr 1; omega
      rw [e1]
    rw [hinc] at c3
    have hsr : siz (res tx c nt1).1 = siz c := res_siz tx c nt1
    cases m with
    | leaf =>
      refine ⟨S4, ?_, KV_trans hKV3 c2 hps.2.2, ?_, c4, c5⟩
      · have : fu + (siz c + 1 + siz .leaf) = fu + siz .leaf + siz c + 1 := by simp [siz]; omega
        rw [this, y1, p1, c1]; rfl
      · simp only [res, pre, siz, List.append_nil, hsr]
        rw [List.append_assoc] at c3
        rw [show inc L ch (siz c + 1 + 0) = inc L ch (1 + siz c) from by congr 1; omega]; exact c3
    | inner i3 x3 u3 c3' m3' =>
      have hS4 : ∀ o, o < 13 → S4.2 o = S.2 o := fun o ho => by rw [c2.2.1 o ho, h3lt o ho]
      have hp5 := p5 (by simp)
      have hh : S4.2 13 top = nI i3 := by
        rw [c2.2.2.2.2 top (by simp [psh]), hp5.1, h12 12 (by omega)]; exact f6.1
      have hw : S4.2 13 (top + 1) = w := by
        rw [c2.2.2.2.2 (top + 1) (by simp [psh]), hp5.2]
      have hC4 : Ch (S4.2 17) z ch w := by
        refine Ch_set (fun a ha => ?_) hC
        have ha' := hch a ha
        have hil2 : (inc L ch (1 + siz c)).length = L.length := inc_len _ _ _
        have q1 := (c3.2 a (by simp [hil2]; omega)).2.2.2.1
        have q2 := (hT.2 a ha').2.2.2.1
        rw [q1, q2, List.getElem_append_left (by simp [hil2]; omega), List.getElem_append_left (by rw [hil2]; exact ha'), inc_get]
        by_cases hm : a ∈ ch
        · rw [if_pos hm]
        · rw [if_neg hm]
      have hil2 : (inc L ch (1 + siz c)).length = L.length := inc_len _ _ _
      have hlen4 : (inc L ch (1 + siz c) ++ [(nI k, nI p, v1, w, nI (siz c + 1))] ++ pre (res tx c nt1).1 (L.length + 1) (nI L.length)).length = L.length + 1 + siz c := by
        simp [hil2, pre_len, hsr]; omega
      have := im S4 (inc L ch (1 + siz c) ++ [(nI k, nI p, v1, w, nI (siz c + 1))] ++ pre (res tx c nt1).1 (L.length + 1) (nI L.length)) ch w top fu (nI i3) (res tx c nt1).2 (by simp) (FR_arr hS4 (by have := f6.1; rw [← this]; exact f6)) s4 r3 (nmS_set hS4 m3) c3 (by rw [hlen4]; omega) hC4 (by intro a ha; rw [hlen4]; have := hch a ha; omega) (by rw [hlen4]; omega) c4 c5 hc1 hc2 (by omega) ht0 hfu
      obtain ⟨S5, w1, w2, w3, w4, w5⟩ := this
      refine ⟨S5, ?_, KV_trans hKV3 (KV_trans (KV_weak c2 hps.2.2) w2 (Nat.le_refl _)) (Nat.le_refl _), ?_, w4, w5⟩
      · have e : fu + (siz c + 1 + siz (.inner i3 x3 u3 c3' m3')) = fu + siz (.inner i3 x3 u3 c3' m3') + siz c + 1 := by omega
        rw [e, y1, p1, c1, popk, if_neg (by simp [psh])]
        have e2 : psh (.inner i3 x3 u3 c3' m3') top - 2 = top := by simp [psh]
        have e3 : psh (.inner i3 x3 u3 c3' m3') top - 1 = top + 1 := by simp [psh]
        rw [e2, e3, hh, hw]; exact w1
      · rw [hlen4, inc_app _ _ _ _ (by intro a ha; simp [hil2]; have := hch a ha; omega), inc_app _ _ _ _ (by intro a ha; rw [hil2]; exact hch a ha), inc_inc] at w3
        have e : 1 + siz c + siz (.inner i3 x3 u3 c3' m3') = siz c + 1 + siz (.inner i3 x3 u3 c3' m3') := by omega
        rw [e] at w3
        have e4 : pre (.inner i (k, p, v1) u (res tx c nt1).1 (res tx (.inner i3 x3 u3 c3' m3') (res tx c nt1).2).1) L.length w = (nI k, nI p, v1, w, nI (siz (res tx c nt1).1 + 1)) :: (pre (res tx c nt1).1 (L.length + 1) (nI L.length) ++ pre (res tx (.inner i3 x3 u3 c3' m3') (res tx c nt1).2).1 (L.length + 1 + siz (res tx c nt1).1) w) := rfl
        rw [e4, hsr]
        simpa only [List.append_assoc, List.cons_append, List.nil_append] using w3
end KEEP
