/-! THE CLASS WRITES: pieces -/
def COb (τ : mh_H) (br bb : Nat) (O : Ob) : Prop := match O with
  | none => (∃ l, Rw τ br bb 8000 l) ∧ hI τ 0 2 br = 1
  | some T => Rw τ br bb 8000 (T.map sx) ∧ hI τ 0 2 br = 0 ∧ ∀ c ∈ T, c < 128
theorem CO_Rw {τ : mh_H} {br bb : Nat} {O : Ob} (h : COb τ br bb O) : ∃ l, Rw τ br bb 8000 l := by
  cases O with
  | none => exact h.1
  | some T => exact ⟨_, h.1⟩
/-- what else there is, and stays -/
def WX (wr tr br b L na sp sb nb R : Nat) (F : Fo) (nt : List (List Int32)) (τ : mh_H) (bb : Nat) : Prop := (hT τ wr = 13 ∧ hR τ 6 0 wr = some na ∧ hR τ 6 1 wr = some tr ∧ hR τ 6 2 wr = some br ∧ wr < hX τ) ∧ TL τ tr b L (txt F) (rkT F) ∧ NM τ na sp sb nb R nt ∧ (sp ≠ br ∧ sb ≠ bb)
section WRITE
variable {wr tr br b L na sp sb nb R N : Nat} {F : Fo} {nt : List (List Int32)}
theorem WX_FrR {τ τ' : mh_H} {bb bb' : Nat} {l : List Int32} (H : WX wr tr br b L na sp sb nb R F nt τ bb) (hr : Rw τ br bb 8000 l) (C : Fr br bb τ τ') (hb : bb' = bb ∨ hX τ ≤ bb') : WX wr tr br b L na sp sb nb R F nt τ' bb' := by
  obtain ⟨⟨h1, h2, h3, h4, h5⟩, HT, HN, h6, h7⟩ := H
  have C' : Chg (fun a => a = br ∨ a = bb) τ τ' := Fr_Chg C (Or.inl rfl) (Or.inr rfl)
  have t1 := hr.1.1
  have t4 := hr.1.2.2
  have nt1 : ∀ a, hT τ a ≠ 1 → hT τ a ≠ 4 → ¬ (a = br ∨ a = bb) := by
    intro a n1 n4 h
    rcases h with h | h
    · rw [h] at n1; exact n1 t1
    · rw [h] at n4; exact n4 t4
  have kw := C'.2.2 wr h5 (nt1 wr (by omega) (by omega))
  have hx := C'.1
  have hsb := HN.1.2.2.2.2.2.2.2.1
  refine ⟨⟨by rw [(C'.2.1 wr h5).1]; exact h1, by rw [kw.2.1]; exact h2, by rw [kw.2.1]; exact h3, by rw [kw.2.1]; exact h4, by omega⟩, TL_Chg C' HT (nt1 tr (by rw [HT.1]; decide) (by rw [HT.1]; decide)) (fun i hi => nt1 _ (by rw [(HT.2.1 i hi).1]; decide) (by rw [(HT.2.1 i hi).1]; decide)), ?_, h6, ?_⟩
  · refine (NM_Chg C' HN (nt1 na (by rw [HN.1.1]; decide) (by rw [HN.1.1]; decide)) ?_ ?_ (fun i hi => ?_)).1
    · rintro (h | h)
      · exact h6 h
      · have := hsb.1.1; rw [h, t4] at this; omega
    · rintro (h | h)
      · have := hsb.1.2.2; rw [h, t1] at this; omega
      · exact h7 h
    · have htg := HN.1.2.1
      have : i = 0 ∨ i = 1 ∨ i = 2 := by omega
      rcases this with h | h | h
      · subst h; exact nt1 _ (by rw [Nat.add_zero, htg.1]; decide) (by rw [Nat.add_zero, htg.1]; decide)
      · subst h; exact nt1 _ (by rw [htg.2.1]; decide) (by rw [htg.2.1]; decide)
      · subst h; exact nt1 _ (by rw [htg.2.2]; decide) (by rw [htg.2.2]; decide)
  · rcases hb with h | h
    · rw [h]; exact h7
    · have := hsb.2.2.2.1.2; omega
theorem WX_Fr {τ τ' : mh_H} {bb bb' : Nat} {O : Ob} (H : WX wr tr br b L na sp sb nb R F nt τ bb) (HO : COb τ br bb O) (C : Fr br bb τ τ') (hb : bb' = bb ∨ hX τ ≤ bb') : WX wr tr br b L na sp sb nb R F nt τ' bb' := by
  obtain ⟨l, hr⟩ := CO_Rw HO
  exact WX_FrR H hr C hb
/-- one step of writing -/
def Wst (wr tr br b L na sp sb nb R : Nat) (F : Fo) (nt : List (List Int32)) (τ : mh_H) (bb : Nat) (r : Option (mh_H × Nat × Nat)) (O' : Ob) : Prop := ∃ τ' bb' c m, r = some (τ', c, m) ∧ WX wr tr br b L na sp sb nb R F nt τ' bb' ∧ COb τ' br bb' O' ∧ Fr br bb τ τ' ∧ Gw τ τ' bb bb' c m
theorem Ws_go {τ : mh_H} {bb : Nat} {r : Option (mh_H × Nat × Nat)} {k : mh_H → Option (mh_H × Nat × Nat)} {O' O'' : Ob} (h : Wst wr tr br b L na sp sb nb R F nt τ bb r O') (hk : ∀ τ' bb', WX wr tr br b L na sp sb nb R F nt τ' bb' → COb τ' br bb' O' → Wst wr tr br b L na sp sb nb R F nt τ' bb' (k τ') O'') : Wst wr tr br b L na sp sb nb R F nt τ bb (calA r k) O'' := by
  obtain ⟨τ1, b1, c, m, r1, X1, R1, r2, r3⟩ := h
  obtain ⟨τ2, b2, c2, m2, s1, X2, S1, s2, s3⟩ := hk τ1 b1 X1 R1
  exact ⟨τ2, b2, c2 + c, m2 + m, X_A r1 (X_tk s1 rfl), X2, S1, Fr_trans r2 s2 r3.2.2.1, Gw_trans r3 s3⟩
theorem Ws_ret {τ : mh_H} {bb : Nat} {O : Ob} (X : WX wr tr br b L na sp sb nb R F nt τ bb) (H : COb τ br bb O) : Wst wr tr br b L na sp sb nb R F nt τ bb (some (τ, 0, 0)) O := ⟨τ, bb, 0, 0, rfl, X, H, Fr_refl, ⟨by omega, by omega, Or.inl rfl, Nat.le_refl _⟩⟩
theorem Ws_eq {τ : mh_H} {bb : Nat} {r r' : Option (mh_H × Nat × Nat)} {O : Ob} (h : Wst wr tr br b L na sp sb nb R F nt τ bb r O) (e : r' = r) : Wst wr tr br b L na sp sb nb R F nt τ bb r' O := by rw [e]; exact h
theorem Ws_O {τ : mh_H} {bb : Nat} {r : Option (mh_H × Nat × Nat)} {O O' : Ob} (h : Wst wr tr br b L na sp sb nb R F nt τ bb r O) (e : O = O') : Wst wr tr br b L na sp sb nb R F nt τ bb r O' := by rw [← e]; exact h
theorem Ws_chk {τ : mh_H} {bb : Nat} {c : Prop} [Decidable c] {r : Option (mh_H × Nat × Nat)} {O : Ob} (hc : c) (h : Wst wr tr br b L na sp sb nb R F nt τ bb r O) : Wst wr tr br b L na sp sb nb R F nt τ bb (chk c r) O := by rw [e_chk hc]; exact h
theorem Ws_rf {τ : mh_H} {bb a : Nat} {x : Option Nat} {k : Nat → Option (mh_H × Nat × Nat)} {O : Ob} (hx : x = some a) (h : Wst wr tr br b L na sp sb nb R F nt τ bb (k a) O) : Wst wr tr br b L na sp sb nb R F nt τ bb (rfO x k) O := by subst hx; exact h
theorem Ws_if {τ : mh_H} {bb : Nat} {c : Prop} [Decidable c] {r r' : Option (mh_H × Nat × Nat)} {O : Ob} (hc : c) (h : Wst wr tr br b L na sp sb nb R F nt τ bb r O) : Wst wr tr br b L na sp sb nb R F nt τ bb (if c then r else r') O := by rw [if_pos hc]; exact h
theorem Ws_nif {τ : mh_H} {bb : Nat} {c : Prop} [Decidable c] {r r' : Option (mh_H × Nat × Nat)} {O : Ob} (hc : ¬ c) (h : Wst wr tr br b L na sp sb nb R F nt τ bb r' O) : Wst wr tr br b L na sp sb nb R F nt τ bb (if c then r else r') O := by rw [if_neg hc]; exact h
theorem Ws_I {τ τ' : mh_H} {bb : Nat} {α : Type} {a : α} {x : Option (α × mh_H)} {k : α → mh_H → Option (mh_H × Nat × Nat)} {O : Ob} (hx : x = some (a, τ')) (h : Wst wr tr br b L na sp sb nb R F nt τ bb (k a τ') O) : Wst wr tr br b L na sp sb nb R F nt τ bb (calI x k) O := by subst hx; exact h
theorem Ws_P {τ : mh_H} {bb : Nat} {α : Type} {a : α} {x : Option α} {k : α → Option (mh_H × Nat × Nat)} {O : Ob} (hx : x = some a) (h : Wst wr tr br b L na sp sb nb R F nt τ bb (k a) O) : Wst wr tr br b L na sp sb nb R F nt τ bb (calP x k) O := by subst hx; exact h
theorem Ws_bnd {τ : mh_H} {bb : Nat} {α : Type} {a a' : α} {k : α → Option (mh_H × Nat × Nat)} {O : Ob} (hx : a = a') (h : Wst wr tr br b L na sp sb nb R F nt τ bb (k a') O) : Wst wr tr br b L na sp sb nb R F nt τ bb (bnd a k) O := by subst hx; exact h
variable {τ : mh_H} {bb c : Nat} {O : Ob}
theorem by8_c (h : c < 128) : by8 (nI c) = sx c := by rw [by8_n, Nat.mod_eq_of_lt (by omega)]
theorem sx_c (h : c < 128) : sx c = nI c := if_pos h
/-- one byte -/
theorem w_add (X : WX wr tr br b L na sp sb nb R F nt τ bb) (H : COb τ br bb O) (hc : c < 128) : Wst wr tr br b L na sp sb nb R F nt τ bb (f_BR_add N br (nI c) τ) (addc O c) := by
  have H' := H
  cases O with
  | none =>
    obtain ⟨⟨l, hr⟩, hf⟩ := H
    by_cases hl : l.length < 8000
    · obtain ⟨τ1, b1, cc, m, r1, R1, F1, G1, f1⟩ := b_add (N := N) (x := nI c) hr hl
      exact ⟨τ1, b1, cc, m, r1, WX_Fr X H' F1 G1.2.2.1, ⟨⟨_, R1⟩, by rw [f1]; exact hf⟩, F1, G1⟩
    · have hl8 := hr.2.2.1.2.2.1
      obtain ⟨s1, s2, s3⟩ := b_setf (x := 1) hr
      exact ⟨_, bb, 0, 0, b_addf hr (by omega), WX_Fr X H' s2 (Or.inl rfl), ⟨⟨_, s1⟩, s3⟩, s2, ⟨by show 64 * 0 + hN τ bb ≤ hN τ bb; omega, by show 0 + 2 * hN τ bb ≤ 2 * hN τ bb; omega, Or.inl rfl, Nat.le_refl _⟩⟩
  | some T =>
    obtain ⟨hr, hf, hT⟩ := H
    have hlen : (T.map sx).length = T.length := by simp
    by_cases hl : T.length < 8000
    · obtain ⟨τ1, b1, cc, m, r1, R1, F1, G1, f1⟩ := b_add (N := N) (x := nI c) hr (by omega)
      have e : addc (some T) c = some (T ++ [c]) := if_pos hl
      refine ⟨τ1, b1, cc, m, r1, WX_Fr X H' F1 G1.2.2.1, ?_, F1, G1⟩
      rw [e]
      refine ⟨?_, by rw [f1]; exact hf, fun x hx => ?_⟩
      · have : (T ++ [c]).map sx = T.map sx ++ [by8 (nI c)] := by rw [by8_c hc]; simp
        rw [this]; exact R1
      · simp only [List.mem_append, List.mem_cons, List.not_mem_nil, or_false] at hx
        rcases hx with h | h
        · exact hT x h
        · rw [h]; exact hc
    · have e : addc (some T) c = none := if_neg hl
      have hl8 := hr.2.2.1.2.2.1
      obtain ⟨s1, s2, s3⟩ := b_setf (x := 1) hr
      refine ⟨_, bb, 0, 0, b_addf hr (by omega), WX_Fr X H' s2 (Or.inl rfl), ?_, s2, ⟨by show 64 * 0 + hN τ bb ≤ hN τ bb; omega, by show 0 + 2 * hN τ bb ≤ 2 * hN τ bb; omega, Or.inl rfl, Nat.le_refl _⟩⟩
      rw [e]; exact ⟨⟨_, s1⟩, s3⟩
theorem isWc_tot (N : Nat) (x : Int32) : ∃ v, f_PR_isWordByte N x = some v := by
  unfold f_PR_isWordByte
  have hL : ∃ v, f_PR_isLetter N x = some v := by
    unfold f_PR_isLetter
    split
    · unfold k_PR_isLetter_12 k_PR_isLetter_24
      split
      · split <;> exact ⟨_, rfl⟩
      · split
        · exact ⟨_, rfl⟩
        · split <;> exact ⟨_, rfl⟩
    · split
      · exact ⟨_, rfl⟩
      · unfold k_PR_isLetter_12 k_PR_isLetter_24
        split
        · split <;> exact ⟨_, rfl⟩
        · split
          · exact ⟨_, rfl⟩
          · split <;> exact ⟨_, rfl⟩
  have hD : ∃ v, f_PR_isDigit N x = some v := by
    unfold f_PR_isDigit
    split
    · exact ⟨_, rfl⟩
    · split <;> exact ⟨_, rfl⟩
  obtain ⟨v, hv⟩ := hL
  obtain ⟨u, hu⟩ := hD
  rw [hv]
  show ∃ w, (if v = 0 then _ else _) = some w
  split
  · rw [hu]
    show ∃ w, (if u = 0 then _ else _) = some w
    split <;> exact ⟨_, rfl⟩
  · exact ⟨_, rfl⟩
theorem w_gap (X : WX wr tr br b L na sp sb nb R F nt τ bb) (H : COb τ br bb O) (hc : c < 128) : Wst wr tr br b L na sp sb nb R F nt τ bb (f_WR_putGap N wr (nI c) τ) (gapc O c) := by
  have hw : f_PR_isWordByte N (nI c) = some (b01 (wb c)) := by rw [← sx_c hc]; exact chW (by omega)
  unfold f_WR_putGap
  refine Ws_P hw ?_
  by_cases hwc : wb c = true
  · rw [hwc]
    refine Ws_nif (by decide) ?_
    obtain ⟨x1, x2, x3, x4, x5⟩ := X.1
    obtain ⟨l, hr⟩ := CO_Rw H
    have hb := b_at (N := N) (x := hI τ 0 1 br - 1) hr
    refine Ws_chk x1 (Ws_rf x4 (Ws_chk hr.1.1 (Ws_I hb ?_)))
    cases O with
    | none =>
      rw [gapc_none]
      obtain ⟨v, hv⟩ := isWc_tot N (if ¬ hI τ 0 1 br - 1 < 0 ∧ (hI τ 0 1 br - 1).toNatClampNeg < l.length then l.getD (hI τ 0 1 br - 1).toNatClampNeg 0 &&& 255 else -1)
      refine Ws_P hv ?_
      by_cases h0 : v = 0
      · exact Ws_if h0 (Ws_ret X H)
      · refine Ws_nif h0 (Ws_chk x1 (Ws_rf x4 (Ws_chk hr.1.1 (Ws_go (w_add (c := 32) X H (by omega)) (fun τ' bb' X' H' => Ws_ret X' H')))))
    | some T =>
      obtain ⟨hr', hf, hT⟩ := H
      have hlen : hI τ 0 1 br = nI T.length := by rw [hr'.2.1.1]; simp
      have hl8 : T.length ≤ 8000 := by have := hr'.2.2.1.2.2.1; simpa using this
      have hll : l.length = T.length := by
        have h1 := hr.2.1.1
        have h3 := hr.2.2.1.2.2.1
        rw [hlen, n_eq (by omega) (by omega)] at h1
        exact h1.symm
      by_cases h0 : T.length = 0
      · have e0 : T = [] := List.length_eq_zero_iff.mp h0
        subst e0
        have eg : gapc (some []) c = some [] := by
          unfold gapc; rw [if_neg (by simp [lstw])]
        rw [eg]
        rw [if_neg (by rw [hll]; simp)]
        exact Ws_P (a := 0) (show f_PR_isWordByte N (-1) = some 0 from rfl) (Ws_if rfl (Ws_ret X ⟨hr', hf, hT⟩))
      · have e1 : hI τ 0 1 br - 1 = nI (T.length - 1) := by rw [hlen]; exact n_sub (b := 1) (by omega)
        have hlast : T.getLast? = some (T[T.length - 1]'(by omega)) := by
          rw [List.getLast?_eq_getElem?]; exact List.getElem?_eq_getElem (by omega)
        have hcl := hT (T[T.length - 1]'(by omega)) (List.getElem_mem _)
        have ev : (if ¬ hI τ 0 1 br - 1 < 0 ∧ (hI τ 0 1 br - 1).toNatClampNeg < l.length then l.getD (hI τ 0 1 br - 1).toNatClampNeg 0 &&& 255 else -1) = nI (T[T.length - 1]'(by omega)) := by
          rw [e1, n_nat (by omega), if_pos ⟨by show ¬ nI _ < nI 0; rw [n_lt (by omega) (by omega)]; omega, by omega⟩]
          have h1 := hr.2.2.2.2 (T.length - 1) (by omega)
          have h2 := hr'.2.2.2.2 (T.length - 1) (by simp; omega)
          have h3 : l.getD (T.length - 1) 0 = l[T.length - 1]'(by omega) := by simp [List.getD, show T.length - 1 < l.length by omega]
          rw [h3, ← h1, h2, List.getElem_map]
          exact sx255 _ (by omega)
        rw [ev]
        have hwl : f_PR_isWordByte N (nI (T[T.length - 1]'(by omega))) = some (b01 (wb (T[T.length - 1]'(by omega)))) := by rw [← sx_c hcl]; exact chW (by omega)
        refine Ws_P hwl ?_
        by_cases hl : wb (T[T.length - 1]'(by omega)) = true
        · rw [hl]
          have eg : gapc (some T) c = addc (some T) 32 := by
            unfold gapc; rw [if_pos ⟨hwc, by simp only [lstw, hlast]; exact hl⟩]
          rw [eg]
          exact Ws_nif (by decide) (Ws_chk x1 (Ws_rf x4 (Ws_chk hr.1.1 (Ws_go (w_add (c := 32) (O := some T) X ⟨hr', hf, hT⟩ (by omega)) (fun τ' bb' X' H' => Ws_ret X' H')))))
        · have hl' : wb (T[T.length - 1]'(by omega)) = false := by simpa using hl
          rw [hl']
          have eg : gapc (some T) c = some T := by
            unfold gapc; rw [if_neg (by rintro ⟨_, h⟩; simp only [lstw, hlast] at h; rw [hl'] at h; simp at h)]
          rw [eg]
          exact Ws_if rfl (Ws_ret X ⟨hr', hf, hT⟩)
  · have hwc' : wb c = false := by simpa using hwc
    rw [hwc', gapc_n hwc']
    exact Ws_if rfl (Ws_ret X H)
theorem w_put_loop {y : Nat} (hy : y < 67) : ∀ m j fu {τ : mh_H} {bb : Nat} {O : Ob}, WX wr tr br b L na sp sb nb R F nt τ bb → COb τ br bb O → (sN y).length - j ≤ m → m < fu → j ≤ (sN y).length → Wst wr tr br b L na sp sb nb R F nt τ bb (k_WR_put_19 N fu wr y (nI j) τ) (puts O ((sN y).drop j)) := by
  obtain ⟨e1, e2, e3⟩ := sN_ok y hy
  have hl : (s_b y).length = (sN y).length := by rw [e1]; simp
  have fin : ∀ fu {τ : mh_H} {bb : Nat} {O : Ob}, WX wr tr br b L na sp sb nb R F nt τ bb → COb τ br bb O → Wst wr tr br b L na sp sb nb R F nt τ bb (k_WR_put_19 N (fu + 1) wr y (nI (sN y).length) τ) (puts O ((sN y).drop (sN y).length)) := by
    intro fu τ bb O X H
    rw [List.drop_length]
    unfold k_WR_put_19
    exact Ws_chk hy (Ws_if (by unfold s_len; rw [hl]; exact Int32.le_refl _) (Ws_ret X H))
  intro m
  induction m with
  | zero =>
    intro j fu τ bb O X H h1 hfu hj
    obtain ⟨fu, rfl⟩ : ∃ x, fu = x + 1 := ⟨fu - 1, by omega⟩
    have e : j = (sN y).length := by omega
    rw [e]; exact fin fu X H
  | succ m ih =>
    intro j fu τ bb O X H h1 hfu hj
    obtain ⟨fu, rfl⟩ : ∃ x, fu = x + 1 := ⟨fu - 1, by omega⟩
    by_cases e : j = (sN y).length
    · rw [e]; exact fin fu X H
    · have hj' : j < (sN y).length := by omega
      have hc : (sN y)[j] < 128 := e2 _ (List.getElem_mem hj')
      have hat : s_at y (nI j) = nI (sN y)[j] := by
        unfold s_at
        rw [n_nat (by omega), e1]
        simp [List.getD, hj']
      obtain ⟨l, hr⟩ := CO_Rw H
      unfold k_WR_put_19
      refine Ws_chk hy (Ws_nif (by unfold s_len; rw [hl, n_le (by omega) (by omega)]; omega) (Ws_chk X.1.1 (Ws_rf X.1.2.2.2.1 (Ws_chk hy (Ws_chk (by rw [n_ib (by omega), hl]; exact hj') (Ws_chk hr.1.1 ?_))))))
      rw [hat]
      refine Ws_go (w_add X H hc) (fun τ' bb' X' H' => ?_)
      rw [show nI j + 1 = nI (j + 1) from n_add j 1, List.drop_eq_getElem_cons hj']
      exact ih (j + 1) fu X' H' (by omega) (by omega) (by omega)
/-- a piece -/
theorem w_put {y : Nat} (X : WX wr tr br b L na sp sb nb R F nt τ bb) (H : COb τ br bb O) (hy : y < 67) (hN : 100 ≤ N) : Wst wr tr br b L na sp sb nb R F nt τ bb (f_WR_put N wr y τ) (emit O (sN y)) := by
  obtain ⟨e1, e2, e3⟩ := sN_ok y hy
  have hl : (s_b y).length = (sN y).length := by rw [e1]; simp
  unfold f_WR_put
  refine Ws_chk hy ?_
  cases hs : sN y with
  | nil =>
    have hb : s_b y = [] := by rw [e1, hs]; rfl
    exact Ws_nif (by unfold s_emp; rw [hb]; decide) (Ws_ret X H)
  | cons c r =>
    have hb : s_b y ≠ [] := by rw [e1, hs]; simp
    have hc : c < 128 := e2 c (by rw [hs]; simp)
    have hat : s_at y 0 = nI c := by
      unfold s_at
      rw [show (0 : Int32).toNatClampNeg = 0 from rfl, e1, hs]; rfl
    refine Ws_if (by unfold s_emp; rw [if_neg hb]) (Ws_chk hy (Ws_chk (by show ib (nI 0) _; rw [n_ib (by omega), hl, hs]; simp) (Ws_chk X.1.1 ?_)))
    rw [hat]
    refine Ws_go (w_gap X H hc) (fun τ' bb' X' H' => ?_)
    have := w_put_loop (N := N) hy (sN y).length 0 N X' H' (by omega) (by omega) (by omega)
    rw [hs] at this
    exact this
/-- a name -/
theorem w_name {k : Nat} (X : WX wr tr br b L na sp sb nb R F nt τ bb) (H : COb τ br bb O) (hk : k < nt.length) (hok : okw nt[k]) (hN1 : 100 ≤ N) : Wst wr tr br b L na sp sb nb R F nt τ bb (f_WR_putName N wr (nI k) τ) (emit O (nw nt[k])) := by
  obtain ⟨q1, q2, q3, q4, q5⟩ := nw_ok hok
  have hln : nt[k].length = (nw nt[k]).length := by unfold nw; simp
  obtain ⟨c, r, hcr⟩ : ∃ c r, nw nt[k] = c :: r := by
    cases hd : nw nt[k] with
    | nil => rw [hd] at q2; simp at q2
    | cons c r => exact ⟨c, r, rfl⟩
  have hc : c < 128 := wb_lt (q4 c (by rw [hcr]; simp))
  have h0l : 0 < nt[k].length := by omega
  have hc0 : nt[k][0]'h0l = nI c := by
    have e : nt[k][0]'h0l = ((nw nt[k]).map nI)[0]'(by simp; omega) := List.getElem_of_eq q1 _
    rw [e, List.getElem_map]
    simp [hcr]
  -- the first letter
  have bof : ∀ {τ : mh_H} {bb : Nat}, WX wr tr br b L na sp sb nb R F nt τ bb → f_NA_byteOf N na (nI k) 0 τ = some (nI c, τ) := by
    intro τ bb X
    have E := NV_NE X.2.2.1.1
    have hRw : Rw τ sp sb 16384 nt.flatten := X.2.2.1.1.2.2.2.2.2.2.2.1
    have E' := E
    obtain ⟨⟨a1, a2, a3⟩, ⟨a4, a5, a6⟩, ⟨c1, c2, c3, c4, c5⟩, ⟨e1, e2, e3⟩, ⟨f1, f2⟩, ⟨g1, g2, g3, g4, g5⟩, hs, hl⟩ := E
    have n1 : ¬ nI k < 0 := by show ¬ nI k < nI 0; rw [n_lt (by omega) (by omega)]; omega
    have h1 := st_succ nt k hk
    have h2 := st_mono nt (show k + 1 ≤ nt.length by omega) (Nat.le_refl _)
    have hst := n_start (N := N) (k := k) E' (by omega)
    have ek : nI (st nt (k + 1)) - nI (st nt k) = nI nt[k].length := by rw [h1, n_sub (by omega)]; congr 1; omega
    have hnk : (nI k).toNatClampNeg = k := n_nat (by omega)
    obtain ⟨y1, y2⟩ := flat_get nt k hk 0 h0l
    rw [Nat.add_zero] at y1
    have hb := b_at (N := N) (x := nI (st nt k)) hRw
    rw [n_nat (by omega), if_pos ⟨by show ¬ nI _ < nI 0; rw [n_lt (by omega) (by omega)]; omega, y1⟩] at hb
    have eg : nt.flatten.getD (st nt k) 0 = nI c := by
      rw [List.getD_eq_getElem?_getD, List.getElem?_eq_getElem y1, Option.getD_some, ← hc0]
      simpa using y2
    rw [eg, b255 c hc] at hb
    unfold f_NA_byteOf
    refine X_nif n1 (X_chk a1 (X_nif (by rw [f1, n_le (by omega) (by omega)]; omega) (X_nif (by decide) (X_rfO c2 (X_chk a4 (X_chk (by rw [n_ib (by omega)]; omega) (X_I hst (X_if ?_ (X_chk a1 (X_rfO c1 (X_I hst (X_chk a2 (X_I (a := nI c) (s := τ) ?_ rfl)))))))))))))
    · rw [hnk, hs k hk, ek]; show nI 0 < nI _; rw [n_lt (by omega) (by omega)]; exact h0l
    · rw [show nI (st nt k) + 0 = nI (st nt k) from by show nI (st nt k) + nI 0 = _; rw [n_add]; rfl]; exact hb
  unfold f_WR_putName
  refine Ws_chk X.1.1 (Ws_rf X.1.2.1 (Ws_chk X.2.2.1.1.1 (Ws_I (bof X) (Ws_chk X.1.1 (Ws_go (w_gap X H hc) (fun τ1 b1 X1 H1 => ?_))))))
  obtain ⟨l, hr⟩ := CO_Rw H1
  refine Ws_chk X1.1.1 (Ws_rf X1.1.2.1 (Ws_rf X1.1.2.2.2.1 (Ws_chk X1.2.2.1.1.1 ?_)))
  have E := NV_NE X1.2.2.1.1
  have E' := E
  have hsb := X1.2.2.1.1.2.2.2.2.2.2.2.1.2.2.2.1.2
  have hbn : hN τ1 sb < 1000000 := by have := X1.2.2.1.1.2.2.2.2.2.2.2.1.2.2.1.2.1; omega
  obtain ⟨⟨a1, a2, a3⟩, ⟨a4, a5, a6⟩, ⟨c1, c2, c3, c4, c5⟩, ⟨e1, e2, e3⟩, ⟨f1, f2⟩, ⟨g1, g2, g3, g4, g5⟩, hs, hl⟩ := E
  have n1 : ¬ nI k < 0 := by show ¬ nI k < nI 0; rw [n_lt (by omega) (by omega)]; omega
  have h1 := st_succ nt k hk
  have h2 := st_mono nt (show k + 1 ≤ nt.length by omega) (Nat.le_refl _)
  have hst := n_start (N := N) (k := k) E' (by omega)
  have hnk : (nI k).toNatClampNeg = k := n_nat (by omega)
  have hwd := n_wd E' hk
  have hmap : nt[k] = (nw nt[k]).map sx := by
    conv => lhs; rw [q1]
    apply List.map_congr_left
    intro x hx
    exact (sx_wb (q4 x hx)).symm
  -- the rest of the name
  have spell : Wst wr tr br b L na sp sb nb R F nt τ1 b1 (f_BR_addRange N br sb (nI (st nt k)) (nI (st nt k + nt[k].length)) τ1) (puts (gapc O c) (nw nt[k])) := by
    generalize gapc O c = O1 at H1
    cases O1 with
    | none =>
      rw [puts_none]
      obtain ⟨⟨l, hr⟩, hf⟩ := H1
      by_cases hfit : l.length + nt[k].length ≤ 8000
      · obtain ⟨τ2, b2, cc, m, r1, R1, F1, G1, f1'⟩ := b_range (N := N) (src := sb) (p := st nt k) (n := nt[k].length) hr hfit a3 hsb X1.2.2.2.2 (by omega) (by omega) hbn
        exact ⟨τ2, b2, cc, m, r1, WX_Fr X1 (O := none) ⟨⟨l, hr⟩, hf⟩ F1 G1.2.2.1, ⟨⟨_, R1⟩, by rw [f1']; exact hf⟩, F1, G1⟩
      · obtain ⟨s1, s2, s3⟩ := b_setf (x := 1) hr
        exact ⟨_, b1, 0, 0, b_rangef hr (by omega) a3 (by omega), WX_Fr X1 (O := none) ⟨⟨l, hr⟩, hf⟩ s2 (Or.inl rfl), ⟨⟨_, s1⟩, s3⟩, s2, ⟨by show 64 * 0 + hN τ1 b1 ≤ hN τ1 b1; omega, by show 0 + 2 * hN τ1 b1 ≤ 2 * hN τ1 b1; omega, Or.inl rfl, Nat.le_refl _⟩⟩
    | some T =>
      obtain ⟨hr, hf, hT⟩ := H1
      have hlen : (T.map sx).length = T.length := by simp
      have hl8 : T.length ≤ 8000 := by have := hr.2.2.1.2.2.1; simpa using this
      rw [puts_some _ _ hl8]
      by_cases hfit : T.length + (nw nt[k]).length ≤ 8000
      · obtain ⟨τ2, b2, cc, m, r1, R1, F1, G1, f1'⟩ := b_range (N := N) (src := sb) (p := st nt k) (n := nt[k].length) hr (by omega) a3 hsb X1.2.2.2.2 (by omega) (by omega) hbn
        refine ⟨τ2, b2, cc, m, r1, WX_Fr X1 (O := some T) ⟨hr, hf, hT⟩ F1 G1.2.2.1, ?_, F1, G1⟩
        rw [if_pos hfit]
        refine ⟨?_, by rw [f1']; exact hf, fun x hx => ?_⟩
        · rw [hwd] at R1
          rw [List.map_append, ← hmap]; exact R1
        · rcases List.mem_append.mp hx with h | h
          · exact hT x h
          · exact wb_lt (q4 x h)
      · obtain ⟨s1, s2, s3⟩ := b_setf (x := 1) hr
        refine ⟨_, b1, 0, 0, b_rangef hr (by omega) a3 (by omega), WX_Fr X1 (O := some T) ⟨hr, hf, hT⟩ s2 (Or.inl rfl), ?_, s2, ⟨by show 64 * 0 + hN τ1 b1 ≤ hN τ1 b1; omega, by show 0 + 2 * hN τ1 b1 ≤ 2 * hN τ1 b1; omega, Or.inl rfl, Nat.le_refl _⟩⟩
        rw [if_neg hfit]; exact ⟨⟨_, s1⟩, s3⟩
  have he : emit O (nw nt[k]) = puts (gapc O c) (nw nt[k]) := by rw [hcr]; rfl
  rw [he]
  refine Ws_go ?_ (fun τ' bb' X' H' => Ws_ret X' H')
  unfold f_NA_spell
  refine Ws_nif n1 (Ws_chk a1 (Ws_nif (by rw [f1, n_le (by omega) (by omega)]; omega) (Ws_rf c1 (Ws_chk a2 (Ws_rf c5 (Ws_I hst (Ws_chk a1 (Ws_rf c2 (Ws_chk a4 (Ws_chk (by rw [n_ib (by omega)]; omega) (Ws_chk hr.1.1 ?_)))))))))))
  rw [hnk, hs k hk, h1]
  exact Ws_go spell (fun τ' bb' X' H' => Ws_ret X' H')
end WRITE
