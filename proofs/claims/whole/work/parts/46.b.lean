/-! the tokens of the reference, as its arrays hold them -/
def numv (b : Nat → Int32) (p l : Nat) : Int32 := (List.range l).foldl (fun a i => 10 * a + b (p + i) - 48) 0
def RP (S : rm_S) (n : Nat) (tk tp ln : Nat → Nat) (tv : Nat → Int32) : Prop :=
  ∀ i, i < n → gd tk i → S.2 4 i = kap (tk i) ∧ S.2 5 i = nI (tp i) ∧ S.2 6 i = nI (ln i) ∧ tp i + ln i ≤ 8000 ∧ (tk i = 3 → numv (S.2 1) (tp i) (ln i) = tv i ∧ 1 * tv i ≠ -2147483648 ∧ -1 * tv i ≠ -2147483648)
theorem RP_set {S S' : rm_S} {n : Nat} {tk tp ln : Nat → Nat} {tv : Nat → Int32} (h : RP S n tk tp ln tv) (h1 : ∀ o, o < 7 → S'.2 o = S.2 o) : RP S' n tk tp ln tv := by
  intro i hi hg
  rw [h1 4 (by omega), h1 5 (by omega), h1 6 (by omega), h1 1 (by omega)]
  exact h i hi hg
theorem num_loop {S : rm_S} {N q dr p l : Nat} {flt y2 y3 : Int32} {B : Nat → Nat → Int32} (hq : q < 8002) (h5 : S.2 5 q = nI p) (h6 : S.2 6 q = nI l) (hb : p + l ≤ 8000) :
    ∀ m i fu acc, l - i ≤ m → m < fu → i ≤ l → acc = (List.range i).foldl (fun a i => 10 * a + S.2 1 (p + i) - 48) 0 → k_RM_number_47 N fu y2 y3 acc (nI i) (qz S q 0 flt dr B) = k_RM_number_95 N y2 y3 (numv (S.2 1) p l) (qz S q 0 flt dr B) := by
  have hib : ib ((qz S q 0 flt dr B).1 12) 8002 := by rw [qz_12, n_ib (by omega)]; exact hq
  have hn : Int32.toNatClampNeg ((qz S q 0 flt dr B).1 12) = q := by rw [qz_12, n_nat (by omega)]
  intro m
  induction m with
  | zero =>
    intro i fu acc h1 hfu hi ha
    obtain ⟨fu, rfl⟩ : ∃ x, fu = x + 1 := ⟨fu - 1, by omega⟩
    have e : i = l := by omega
    subst e
    unfold k_RM_number_47
    refine X_chk hib (X_if ?_ ?_)
    · rw [hn, qz_a (by omega), h6, n_le (by omega) (by omega)]; exact Nat.le_refl _
    · rw [ha]; rfl
  | succ m ih =>
    intro i fu acc h1 hfu hi ha
    obtain ⟨fu, rfl⟩ : ∃ x, fu = x + 1 := ⟨fu - 1, by omega⟩
    by_cases e : i = l
    · subst e
      unfold k_RM_number_47
      refine X_chk hib (X_if ?_ ?_)
      · rw [hn, qz_a (by omega), h6, n_le (by omega) (by omega)]; exact Nat.le_refl _
      · rw [ha]; rfl
    · have e1 : (qz S q 0 flt dr B).2 5 (Int32.toNatClampNeg ((qz S q 0 flt dr B).1 12)) + nI i = nI (p + i) := by
        rw [hn, qz_a (by omega), h5, n_add]
      have e2 : nI i + 1 = nI (i + 1) := n_add i 1
      unfold k_RM_number_47
      refine X_chk hib (X_nif ?_ (X_chk hib (X_chk ?_ (X_bnd ?_))))
      · rw [hn, qz_a (by omega), h6, n_le (by omega) (by omega)]; omega
      · rw [e1, n_ib (by omega)]; omega
      · rw [e1, e2, n_nat (by omega), qz_a (by omega)]
        refine ih (i + 1) fu _ (by omega) (by omega) (by omega) ?_
        rw [List.range_succ, List.foldl_append, ← ha]; rfl
theorem RP_RE {S : rm_S} {n N : Nat} {tk tp ln : Nat → Nat} {tv : Nat → Int32} (h : RP S n tk tp ln tv) (hn : n ≤ 8001) (hN : 20000 ≤ N) : RE S N n tk tp tv := by
  intro i hi hg
  obtain ⟨h4, h5, h6, hb, hv⟩ := h i hi hg
  refine ⟨h4, h5, by omega, fun h3 flt dr B y2 y3 => ?_, fun h3 => (hv h3).2⟩
  have := num_loop (S := S) (N := N) (q := i) (dr := dr) (flt := flt) (y2 := y2) (y3 := y3) (B := B) (by omega) h5 h6 hb (ln i) 0 N 0 (by omega) (by omega) (by omega) (by simp)
  rw [(hv h3).1] at this
  exact this
/-- a text's nodes -/
def txt (F : Fo) : List TE := (0, -1, 0, -1, nI (siz F + 1)) :: pre F 1 0
theorem txt_app (F g : Fo) : inc (txt F) [0] (siz g) ++ pre g (txt F).length 0 = txt (app F g) := by
  have hl : (txt F).length = 1 + siz F := by simp [txt, pre_len]; omega
  have e : inc (txt F) [0] (siz g) = (0, -1, 0, -1, nI (siz F + 1) + nI (siz g)) :: pre F 1 0 := by
    apply List.ext_getElem
    · simp [inc_len, txt]
    · intro j h1 h2
      rw [inc_get]
      cases j with
      | zero => simp [txt]
      | succ j => simp [txt]
  rw [e, hl, txt, pre_app, siz_app, n_add]
  have e2 : siz F + 1 + siz g = siz F + siz g + 1 := by omega
  rw [e2]; rfl
/-- keeping a finished function -/
theorem keep_ok {S : rm_S} {N t z r k p : Nat} {v : Int32} {c F : Fo} {tx : Nat → List Int32} {nt : List (List Int32)} (ht : t ≤ 1) (hz : z = 13000 * t) (hNN : 20000 ≤ N) (hK : KS S.2 r k p v c) (hsm : sm (one r k p v c)) (hnm : nmS S tx (one r k p v c)) (hnr : nr r c) (hT : TR S t z (txt F)) (hs : siz F + siz c + 2 ≤ 13000) (hN : NT S.2 nt) (h31 : S.1 31 = nI nt.length) (hc1 : (res tx (one r k p v c) nt).2.length < 6000) (hc2 : st (res tx (one r k p v c) nt).2 (res tx (one r k p v c) nt).2.length ≤ 12000) :
    ∃ S', f_RM_keep N (nI t) (nI r) S = some S' ∧ KV t z 0 S S' ∧ TR S' t z (txt (app F (res tx (one r k p v c) nt).1)) ∧ NT S'.2 (res tx (one r k p v c) nt).2 ∧ S'.1 31 = nI (res tx (one r k p v c) nt).2.length := by
  have hr : r < 26000 := hK.2.2.2.2.2.2.2 r (by simp)
  have hF : FR S.2 (one r k p v c) (nI r) (-1) := ⟨rfl, hK.1, hK.2.1, hK.2.2.1, hK.2.2.2.1, hK.2.2.2.2.1⟩
  have hl : (txt F).length = 1 + siz F := by simp [txt, pre_len]; omega
  have hsz : siz (one r k p v c) = siz c + 1 := by simp [siz]
  have hC : Ch (S.2 17) z [0] 0 := by
    refine ⟨rfl, by omega, by simp, ?_⟩
    have := (hT.2 0 (by omega)).2.2.2.1
    rw [this]; rfl
  obtain ⟨S', x1, x2, x3, x4, x5⟩ := keep_f (N := N) (t := t) (z := z) (r := r) (tx := tx) ht hz hNN hr (one r k p v c) S (txt F) [0] 0 0 (N - siz (one r k p v c)) (nI r) nt (by simp) hF hsm ⟨fun h => absurd rfl h, hnr, trivial⟩ hnm hT (by rw [hl, hsz]; omega) hC (by intro a ha; rw [hl]; simp at ha; omega) (by simp [hl]) hN h31 hc1 hc2 (by rw [hsz]; omega) (Or.inl rfl) (by rw [hsz]; omega)
  refine ⟨S', ?_, x2, ?_, x4, x5⟩
  · have e : N - siz (one r k p v c) + siz (one r k p v c) = N := by rw [hsz]; omega
    rw [e] at x1
    exact x1
  · have e : siz (one r k p v c) = siz (res tx (one r k p v c) nt).1 := (res_siz tx _ _).symm
    rw [e, txt_app] at x3; exact x3
