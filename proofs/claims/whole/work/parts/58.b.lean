/-! one token -/
def nbad (g : Nat → Nat) (e i d : Nat) : Prop := 2147483648 ≤ dg g i (d - i) ∨ (g i = 48 ∧ i + 1 < d) ∨ (d < e ∧ cL (g d) = true)
theorem nbad_dec (g : Nat → Nat) (e i d : Nat) : nbad g e i d ∨ ¬ nbad g e i d := Classical.em _
def wk (g : Nat → Nat) (i l : Nat) : Nat := if l ≤ 30 then (if kwi (wl g i l) = 8 then 2 else 4 + kwi (wl g i l)) else 1
/-- kind, length, value of the token at i -/
def Tok (g : Nat → Nat) (e i k l v : Nat) : Prop :=
  (cL (g i) = true ∧ l = we g e (e - i) i - i ∧ k = wk g i l ∧ v = 0) ∨
  (cL (g i) = false ∧ cD (g i) = true ∧ l = de g e (e - i) i - i ∧ ((nbad g e i (i + l) ∧ k = 1 ∧ v = 0) ∨ (¬ nbad g e i (i + l) ∧ k = 3 ∧ v = dg g i l))) ∨
  (cL (g i) = false ∧ cD (g i) = false ∧ k = sg (g i) (if i + 1 < e then g (i + 1) else 0) ∧ l = (if k ≤ 27 ∨ k = 29 then 1 else 2) ∧ v = 0)
theorem tok_ex (g : Nat → Nat) (e i : Nat) (hi : i < e) : ∃ k l v, Tok g e i k l v := by
  cases hl : cL (g i) with
  | true => exact ⟨_, _, _, Or.inl ⟨hl, rfl, rfl, rfl⟩⟩
  | false =>
    cases hd : cD (g i) with
    | true =>
      have hr := de_range g e (e - i) i (by omega)
      rcases nbad_dec g e i (i + (de g e (e - i) i - i)) with h | h
      · exact ⟨1, _, 0, Or.inr (Or.inl ⟨hl, hd, rfl, Or.inl ⟨h, rfl, rfl⟩⟩)⟩
      · exact ⟨3, _, _, Or.inr (Or.inl ⟨hl, hd, rfl, Or.inr ⟨h, rfl, rfl⟩⟩)⟩
    | false => exact ⟨_, _, 0, Or.inr (Or.inr ⟨hl, hd, rfl, rfl, rfl⟩)⟩
theorem we_in {g : Nat → Nat} {e : Nat} : ∀ n i j, i ≤ j → j < we g e n i → (cL (g j) || cD (g j)) = true := by
  intro n
  induction n with
  | zero => intro i j h1 h2; simp [we] at h2; omega
  | succ n ih =>
    intro i j h1 h2
    by_cases h : i < e ∧ (cL (g i) || cD (g i)) = true
    · rw [we_y h.1 h.2] at h2
      by_cases e1 : j = i
      · subst e1; exact h.2
      · exact ih (i + 1) j (by omega) h2
    · rw [we_n h] at h2; omega
theorem de_in {g : Nat → Nat} {e : Nat} : ∀ n i j, i ≤ j → j < de g e n i → cD (g j) = true := by
  intro n
  induction n with
  | zero => intro i j h1 h2; simp [de] at h2; omega
  | succ n ih =>
    intro i j h1 h2
    by_cases h : i < e ∧ cD (g i) = true
    · rw [de_y h.1 h.2] at h2
      by_cases e1 : j = i
      · subst e1; exact h.2
      · exact ih (i + 1) j (by omega) h2
    · rw [de_n h] at h2; omega
theorem cW_lt {c : Nat} (h : (cL c || cD c) = true) : c < 128 := by
  simp only [cL, cD, Bool.or_eq_true, Bool.and_eq_true, decide_eq_true_eq, beq_iff_eq] at h; omega
theorem kwi_le (w : List Int32) : kwi w ≤ 8 := by
  unfold kwi
  repeat' (first | omega | split)
theorem ite35 {c : Prop} [Decidable c] {a b m : Nat} (ha : a < m) (hb : b < m) : (if c then a else b) < m := by
  by_cases h : c
  · rw [if_pos h]; exact ha
  · rw [if_neg h]; exact hb
theorem sg_lt (c d : Nat) : sg c d < 35 := by
  unfold sg
  repeat' (with_reducible apply ite35)
  all_goals omega
section TOKEN
variable {σ : mh_H} {tt bk bp bv bt room e N : Nat} {g : Nat → Nat} {ts : List Tk}
theorem t_word {i k l v : Nat} (h : QE σ tt bk bp bv room) (K : KE σ tt bt e g) (hNN : 20000 ≤ N) (hi : i < e) (hl : ts.length < room) (hc : cL (g i) = true) (el : l = we g e (e - i) i - i) (ek : k = wk g i l) : f_TO_takeWord N tt (nI i) (tz σ tt bk bp bv ts) = some (nI (if k = 1 then e else i + l), tz σ tt bk bp bv (ts ++ [(nI k, nI i, nI 0)])) := by
  have K' := t_KE (ts := ts) h K
  have he : e ≤ 8000 := K.2.2.2.2.2.2
  have hr := we_range g e (e - i) i (by omega)
  have hb : f_TO_behindWord N tt (nI i) (tz σ tt bk bp bv ts) = some (nI (i + l), tz σ tt bk bp bv ts) := by
    have := k_word (N := N) K' (e - i) i N (Nat.le_refl _) (by omega) (by omega)
    rw [show i + l = we g e (e - i) i by omega]; exact this
  have hlt : nI (i + l) - nI i = nI l := by rw [n_sub (by omega)]; congr 1; omega
  have hkl : k < 100 := by
    rw [ek]; unfold wk
    have := kwi_le (wl g i l)
    repeat' (first | omega | split)
  have ht := fun k' (hk' : k' < 100) => t_take (N := N) (ts := ts) (k := k') (p := i) (v := 0) (b := i + l) h K hl hk'
  have hwd : f_TO_wordAt N tt (nI i) (nI (i + l)) (tz σ tt bk bp bv ts) = some (nI (if kwi (wl g i l) = 8 then 2 else 4 + kwi (wl g i l)), tz σ tt bk bp bv ts) := by
    have := k_wordAt (N := N) (i := i) (l := l) K' hNN (by omega) (fun j hj => cW_lt (we_in (g := g) (e := e) (e - i) i (i + j) (by omega) (by omega))) 8 0 N (by omega) (by omega) (by omega) (fun x hx => by omega)
    exact this
  have k1 := K.1
  unfold f_TO_takeWord
  refine X_chk k1 (X_I hb ?_)
  by_cases h30 : l ≤ 30
  · have e2 : k = if kwi (wl g i l) = 8 then 2 else 4 + kwi (wl g i l) := by rw [ek, wk, if_pos h30]
    refine X_if (by rw [hlt]; show nI l ≤ nI 30; rw [n_le (by omega) (by omega)]; exact h30) ?_
    unfold k_TO_takeWord_19
    rw [← e2] at hwd
    exact X_if rfl (X_chk k1 (X_I hwd (X_chk k1 (X_I (ht k hkl) rfl))))
  · have e2 : k = 1 := by rw [ek, wk, if_neg h30]
    refine X_nif (by rw [hlt]; show ¬ nI l ≤ nI 30; rw [n_le (by omega) (by omega)]; exact h30) ?_
    unfold k_TO_takeWord_19
    rw [e2]
    exact X_nif n10 (X_chk k1 (X_I (ht 1 (by omega)) rfl))
theorem t_num {i k l v : Nat} (h : QE σ tt bk bp bv room) (K : KE σ tt bt e g) (hNN : 20000 ≤ N) (hi : i < e) (hl : ts.length < room) (hd : cD (g i) = true) (el : l = de g e (e - i) i - i) (hk : (nbad g e i (i + l) ∧ k = 1 ∧ v = 0) ∨ (¬ nbad g e i (i + l) ∧ k = 3 ∧ v = dg g i l)) : f_TO_takeNumber N tt (nI i) (tz σ tt bk bp bv ts) = some (nI (if k = 1 then e else i + l), tz σ tt bk bp bv (ts ++ [(nI k, nI i, nI v)])) := by
  have K' := t_KE (ts := ts) h K
  have he : e ≤ 8000 := K.2.2.2.2.2.2
  have hr := de_range g e (e - i) i (by omega)
  have ed : de g e (e - i) i = i + l := by omega
  have hdig := k_digits (N := N) (i := i) K' (e - i) 0 N (by omega) (by omega) (by omega) (fun x hx => by omega)
  rw [Nat.add_zero, ed, show i + l - i = l by omega] at hdig
  have hm0 : min 2147483648 (dg g i 0) = 0 := by simp [dg]
  rw [hm0] at hdig
  have e0 : f_TO_takeNumber N tt (nI i) (tz σ tt bk bp bv ts) = k_TO_takeNumber_5 N N tt (nI i) (nL 0) (nI i) (tz σ tt bk bp bv ts) := rfl
  rw [e0, hdig]
  have ht := fun k' v' (hk' : k' < 100) => t_take (N := N) (ts := ts) (k := k') (p := i) (v := v') (b := i + l) h K hl hk'
  obtain ⟨k1, k2, k3, k4, k5, k6, k7⟩ := K'
  obtain ⟨q1, q2⟩ := k6 i hi
  have hni : (nI i).toNatClampNeg = i := n_nat (by omega)
  have hib : ib (nI i) (hN (tz σ tt bk bp bv ts) bt) := by rw [n_ib (by omega)]; omega
  have hlg : (0 ≤ lg_cmp (nL (min 2147483648 (dg g i l))) (2147483648 : Int64)) = (2147483648 ≤ min 2147483648 (dg g i l)) := lg_ge (b := 2147483648) (by omega) (by omega)
  -- the refusal
  have hbad : nbad g e i (i + l) → k_TO_takeNumber_131 N tt (nI i) (nI (i + l)) (tz σ tt bk bp bv ts) = some (nI (if k = 1 then e else i + l), tz σ tt bk bp bv (ts ++ [(nI k, nI i, nI v)])) := by
    intro hb
    rcases hk with ⟨_, rfl, rfl⟩ | ⟨hn, _, _⟩
    · unfold k_TO_takeNumber_131
      exact X_chk k1 (X_I (ht 1 0 (by omega)) rfl)
    · exact absurd hb hn
  have h111 : ∀ (zf lb : Bool), (zf = true ↔ (g i = 48 ∧ i + 1 < i + l)) → (lb = true ↔ (i + l < e ∧ cL (g (i + l)) = true)) → k_TO_takeNumber_111 N tt (nI i) (nL (min 2147483648 (dg g i l))) (nI (i + l)) (b01 zf) (b01 lb) (tz σ tt bk bp bv ts) = some (nI (if k = 1 then e else i + l), tz σ tt bk bp bv (ts ++ [(nI k, nI i, nI v)])) := by
    intro zf lb hz hb
    unfold k_TO_takeNumber_111
    by_cases hg : 2147483648 ≤ dg g i l
    · exact X_if (by rw [hlg]; omega) (hbad (Or.inl (by rw [show i + l - i = l by omega]; exact hg)))
    · refine X_nif (by rw [hlg]; omega) ?_
      cases zf with
      | true => exact X_nif n10 (hbad (Or.inr (Or.inl (hz.mp rfl))))
      | false =>
        refine X_if rfl ?_
        cases lb with
        | true => exact X_nif n10 (hbad (Or.inr (Or.inr (hb.mp rfl))))
        | false =>
          have hnb : ¬ nbad g e i (i + l) := by
            rintro (h | h | h)
            · rw [show i + l - i = l by omega] at h; exact hg h
            · exact absurd (hz.mpr h) (by simp)
            · exact absurd (hb.mpr h) (by simp)
          rcases hk with ⟨hb', _, _⟩ | ⟨_, rfl, rfl⟩
          · exact absurd hb' hnb
          · have em : min 2147483648 (dg g i l) = dg g i l := by omega
            refine X_if rfl (X_chk k1 (X_I ?_ rfl))
            rw [em, l_to (by omega)]
            exact ht 3 (dg g i l) (by omega)
  have h82 : ∀ (zf : Bool), (zf = true ↔ (g i = 48 ∧ i + 1 < i + l)) → k_TO_takeNumber_82 N tt (nI i) (nL (min 2147483648 (dg g i l))) (nI (i + l)) (b01 zf) (tz σ tt bk bp bv ts) = some (nI (if k = 1 then e else i + l), tz σ tt bk bp bv (ts ++ [(nI k, nI i, nI v)])) := by
    intro zf hz
    unfold k_TO_takeNumber_82
    refine X_chk k1 ?_
    by_cases hle : i + l < e
    · obtain ⟨p1, p2⟩ := k6 (i + l) hle
      refine X_nif (by rw [k4, n_le (by omega) (by omega)]; omega) (X_rfO k2 (X_chk k3 (X_chk (by rw [n_ib (by omega)]; omega) (X_P (a := b01 (cL (g (i + l)))) (by rw [n_nat (by omega), p1]; exact chL p2) ?_))))
      cases hcl : cL (g (i + l)) with
      | true => exact X_nif n10 (h111 zf true hz ⟨fun _ => ⟨hle, hcl⟩, fun _ => rfl⟩)
      | false => exact X_if rfl (h111 zf false hz ⟨fun h => (by cases h), fun h => absurd h.2 (by rw [hcl]; simp)⟩)
    · exact X_if (by rw [k4, n_le (by omega) (by omega)]; omega) (h111 zf false hz ⟨fun h => (by cases h), fun h => absurd h.1 hle⟩)
  unfold k_TO_takeNumber_58
  refine X_chk k1 (X_rfO k2 (X_chk k3 (X_chk hib ?_)))
  have ei : nI i + 1 = nI (i + 1) := n_add i 1
  by_cases h48 : g i = 48
  · refine X_if (by rw [hni, q1]; exact (sx_lt _ q2 48 (by omega)).mpr h48) ?_
    rw [ei]
    by_cases hl1 : i + l ≤ i + 1
    · exact X_if (by rw [n_le (by omega) (by omega)]; exact hl1) (h82 false ⟨fun h => (by cases h), fun h => (by omega)⟩)
    · exact X_nif (by rw [n_le (by omega) (by omega)]; exact hl1) (h82 true ⟨fun _ => ⟨h48, by omega⟩, fun _ => rfl⟩)
  · exact X_nif (by rw [hni, q1]; exact fun x => h48 ((sx_lt _ q2 48 (by omega)).mp x)) (h82 false ⟨fun h => (by cases h), fun h => absurd h.1 h48⟩)
theorem t_token {i k l v : Nat} (h : QE σ tt bk bp bv room) (K : KE σ tt bt e g) (hNN : 20000 ≤ N) (hi : i < e) (hl : ts.length < room) (hT : Tok g e i k l v) : f_TO_takeToken N tt (nI i) (tz σ tt bk bp bv ts) = some (nI (if k = 1 then e else i + l), tz σ tt bk bp bv (ts ++ [(nI k, nI i, nI v)])) := by
  have K' := t_KE (ts := ts) h K
  obtain ⟨k1, k2, k3, k4, k5, k6, k7⟩ := K'
  obtain ⟨q1, q2⟩ := k6 i hi
  have hni : (nI i).toNatClampNeg = i := n_nat (by omega)
  have hib : ib (nI i) (hN (tz σ tt bk bp bv ts) bt) := by rw [n_ib (by omega)]; omega
  unfold f_TO_takeToken
  refine X_chk k1 (X_rfO k2 (X_chk k3 (X_chk hib (X_P (a := b01 (cL (g i))) (by rw [hni, q1]; exact chL q2) ?_))))
  rcases hT with ⟨hc, el, ek, rfl⟩ | ⟨hc, hd, el, hk⟩ | ⟨hc, hd, ek, el, rfl⟩
  · rw [hc]
    exact X_nif n10 (X_I (t_word (v := 0) h K hNN hi hl hc el ek) rfl)
  · rw [hc]
    refine X_if rfl (X_chk hib (X_P (a := b01 (cD (g i))) (by rw [hni, q1]; exact chD q2) ?_))
    rw [hd]
    exact X_nif n10 (X_I (t_num h K hNN hi hl hd el hk) rfl)
  · rw [hc]
    refine X_if rfl (X_chk hib (X_P (a := b01 (cD (g i))) (by rw [hni, q1]; exact chD q2) ?_))
    rw [hd]
    have hs := k_sign (N := N) (i := i) (t_KE (ts := ts) h K) hi
    rw [← ek] at hs
    have hk35 : k < 35 := by rw [ek]; exact sg_lt _ _
    refine X_if rfl (X_I hs ?_)
    have ht := fun b => t_take (N := N) (ts := ts) (k := k) (p := i) (v := 0) (b := b) h K hl (by omega)
    by_cases hlong : k ≤ 27 ∨ k = 29
    · have e1 : l = 1 := by rw [el, if_pos hlong]
      have hp : f_TO_isLongSign N (nI k) = some 0 := by
        unfold f_TO_isLongSign
        rcases hlong with h1 | h1
        · exact X_if (by show nI k ≤ nI 27; rw [n_le (by omega) (by omega)]; exact h1) rfl
        · exact X_nif (by show ¬ nI k ≤ nI 27; rw [n_le (by omega) (by omega)]; omega) (X_if (by show nI k = nI 29; rw [h1]) rfl)
      refine X_P hp (X_if rfl (X_chk k1 (X_I ?_ rfl)))
      rw [show nI i + 1 = nI (i + l) by rw [e1]; exact n_add i 1]
      exact ht (i + l)
    · have e1 : l = 2 := by rw [el, if_neg hlong]
      have hp : f_TO_isLongSign N (nI k) = some 1 := by
        unfold f_TO_isLongSign
        exact X_nif (by show ¬ nI k ≤ nI 27; rw [n_le (by omega) (by omega)]; omega) (X_nif (by show ¬ nI k = nI 29; rw [n_eq (by omega) (by omega)]; omega) rfl)
      refine X_P hp (X_nif n10 (X_chk k1 (X_I ?_ rfl)))
      rw [show nI i + 2 = nI (i + l) by rw [e1]; exact n_add i 2]
      exact ht (i + l)
end TOKEN
