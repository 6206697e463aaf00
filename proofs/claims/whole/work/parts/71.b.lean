/-! the class's names: more room for them -/
theorem st_flat (nt : List (List Int32)) : st nt nt.length = nt.flatten.length := by
  rw [st, List.take_length, List.length_flatten]
theorem flat_get : ∀ (nt : List (List Int32)) (k : Nat) (hk : k < nt.length) (i : Nat) (hi : i < nt[k].length), ∃ h : st nt k + i < nt.flatten.length, nt.flatten[st nt k + i] = nt[k][i] := by
  intro nt
  induction nt with
  | nil => intro k hk; simp at hk
  | cons w r ih =>
    intro k hk i hi
    cases k with
    | zero =>
      simp only [List.getElem_cons_zero] at hi
      refine ⟨by simp [st]; omega, ?_⟩
      simp only [st_zero, Nat.zero_add, List.flatten_cons, List.getElem_cons_zero]
      rw [List.getElem_append_left hi]
    | succ k =>
      simp only [List.length_cons] at hk
      simp only [List.getElem_cons_succ] at hi
      obtain ⟨h1, h2⟩ := ih k (by omega) i hi
      have e : st (w :: r) (k + 1) = w.length + st r k := by simp [st]
      refine ⟨by rw [e, List.flatten_cons, List.length_append]; omega, ?_⟩
      simp only [e, List.flatten_cons, List.getElem_cons_succ]
      rw [List.getElem_append_right (by omega), ← h2]
      congr 1; omega
def NV (τ : mh_H) (na sp sb b R : Nat) (nt : List (List Int32)) : Prop :=
  hT τ na = 5 ∧ (hT τ b = 2 ∧ hT τ (b + 1) = 2 ∧ hT τ (b + 2) = 2) ∧ (hR τ 2 1 na = some sp ∧ hR τ 2 2 na = some b ∧ hR τ 2 3 na = some (b + 1) ∧ hR τ 2 4 na = some (b + 2)) ∧ (hN τ b = R ∧ hN τ (b + 1) = R ∧ hN τ (b + 2) = R) ∧ hI τ 2 0 na = nI nt.length ∧ (nt.length ≤ R ∧ 16 ≤ R ∧ R ≤ 12000 ∧ nt.flatten.length ≤ 12000) ∧ (∀ k, k < nt.length → hA τ b k = nI (st nt (k + 1))) ∧ Rw τ sp sb 16384 nt.flatten ∧ (na < hX τ ∧ b + 2 < hX τ)
section NAMES3
variable {τ : mh_H} {na sp sb b R N : Nat} {nt : List (List Int32)}
theorem NV_NE (H : NV τ na sp sb b R nt) : NE τ na sp sb b (b + 1) (b + 2) R nt := by
  obtain ⟨a1, ⟨a4, a5, a6⟩, ⟨c1, c2, c3, c4⟩, ⟨e1, e2, e3⟩, f1, ⟨g1, g2, g3, g4⟩, hs, ⟨⟨h1, h2, h3⟩, ⟨h4, h5⟩, ⟨h6, h7, h8, h9, h64⟩, ⟨h10, h11⟩, h12⟩, x1, x2⟩ := H
  have ef := st_flat nt
  refine ⟨⟨a1, h1, h3⟩, ⟨a4, a5, a6⟩, ⟨c1, c2, c3, c4, h2⟩, ⟨e1, e2, e3⟩, ⟨f1, by rw [ef]; exact h4⟩, ⟨g1, by omega, by omega, by omega, by omega⟩, hs, fun k hk i hi => ?_⟩
  obtain ⟨y1, y2⟩ := flat_get nt k hk i hi
  rw [h12 _ y1, y2]
/-- filling an array -/
theorem fill_loop {a n : Nat} {v : Int32} (ha : hT τ a = 2) (hn : hN τ a = n) (hn2 : n < 100000) : ∀ m j fu (A : Nat → Nat → Int32), n - j ≤ m → m < fu → j ≤ n → ∃ A', k_AR_fill_5 N fu a v (nI j) (nI n) (az τ A) = some (az τ A') ∧ (∀ b i, A' b i = if b = a ∧ j ≤ i ∧ i < n then v else A b i) := by
  intro m
  induction m with
  | zero =>
    intro j fu A h1 hfu hj
    obtain ⟨fu, rfl⟩ : ∃ x, fu = x + 1 := ⟨fu - 1, by omega⟩
    refine ⟨A, ?_, fun b i => by rw [if_neg (by omega)]⟩
    unfold k_AR_fill_5
    exact X_if (by rw [n_le (by omega) (by omega)]; omega) rfl
  | succ m ih =>
    intro j fu A h1 hfu hj
    obtain ⟨fu, rfl⟩ : ∃ x, fu = x + 1 := ⟨fu - 1, by omega⟩
    by_cases ej : j = n
    · refine ⟨A, ?_, fun b i => by rw [if_neg (by omega)]⟩
      unfold k_AR_fill_5
      exact X_if (by rw [n_le (by omega) (by omega)]; omega) rfl
    · obtain ⟨A', r1, r2⟩ := ih (j + 1) fu (fun b i => if b = a ∧ i = j then v else A b i) (by omega) (by omega) (by omega)
      refine ⟨A', ?_, fun b i => ?_⟩
      · unfold k_AR_fill_5
        refine X_nif (by rw [n_le (by omega) (by omega)]; omega) (X_chk ha (X_chk (by rw [n_ib (by omega)]; show j < hN τ a; omega) ?_))
        have e : mh_setA (az τ A) a (nI j).toNatClampNeg v = az τ (fun b i => if b = a ∧ i = j then v else A b i) := by
          rw [n_nat (by omega)]
          refine mh_ext rfl (fun _ _ _ => rfl) (fun _ _ _ => rfl) (fun b i => ?_) rfl rfl rfl
          rw [gA_setA]; rfl
        rw [e, show nI j + 1 = nI (j + 1) from n_add j 1]
        exact r1
      · rw [r2]
        by_cases h : b = a ∧ i = j
        · rw [if_neg (by omega), if_pos h, if_pos (by omega)]
        · rw [if_neg h]
          by_cases h2 : b = a ∧ j + 1 ≤ i ∧ i < n
          · rw [if_pos h2, if_pos (by omega)]
          · rw [if_neg h2, if_neg (by omega)]
theorem copyI {a n L : Nat} (ha : hT τ a = 2) (hn : hN τ a = n) (hL : n < L) (hL2 : L ≤ 100000) (hx : a < hX τ) : f_AR_copyOfI N a (nI L) τ = some ((hX τ, mh_cpy (mh_arr τ 0 L) a (hX τ) 0 0 n), 1, L) := by
  have hne : a ≠ hX τ := by omega
  have hN5 : hN (mh_arr τ 0 L) a = n := by rw [gN_arr, if_neg hne]; exact hn
  have hNX : hN (mh_arr τ 0 L) (hX τ) = L := by rw [gN_arr, if_pos rfl]
  have hmi := mi_val (N := N) (a := n) (b := L) (by omega) (by omega)
  rw [show min n L = n by omega] at hmi
  have z0 : (0 : Int32).toNatClampNeg = 0 := rfl
  have hnb : (nI n).toNatClampNeg = n := n_nat (by omega)
  have hnL : (nI L).toNatClampNeg = L := n_nat (by omega)
  have hnn : ¬ nI n < 0 := by show ¬ nI n < nI 0; rw [n_lt (by omega) (by omega)]; omega
  unfold f_AR_copyOfI
  refine X_chk ha (X_nif (by rw [hn, n_eq (by omega) (by omega)]; omega) (X_chk ⟨by show ¬ nI _ < nI 0; rw [n_lt (by omega) (by omega)]; omega, by rw [hnL]; exact hL2⟩ (X_tk (c' := 0) (m' := 0) ?_ (by rw [hnL]; simp; rfl))))
  refine X_bnd (X_bnd (X_chk ?_ (X_P (a := nI n) ?_ (X_chk ?_ (X_chk ?_ ?_)))))
  · rw [gT_arr, if_neg hne]; exact ha
  · rw [hnL, hN5]; exact hmi
  · rw [gT_arr, if_pos rfl]
  · rw [hnL, hN5, hNX, z0, hnb]
    exact ⟨by decide, by decide, hnn, by omega, by omega⟩
  · rw [hnL, hnb]; rfl
/-- only nexts and heads may change -/
theorem NV_az {A : Nat → Nat → Int32} (H : NV τ na sp sb b R nt) (h : ∀ x i, x ≠ b + 1 → x ≠ b + 2 → A x i = hA τ x i) : NV (az τ A) na sp sb b R nt := by
  obtain ⟨a1, ⟨a4, a5, a6⟩, ⟨c1, c2, c3, c4⟩, ⟨e1, e2, e3⟩, f1, ⟨g1, g2, g3, g4⟩, hs, ⟨⟨h1, h2, h3⟩, ⟨h4, h5⟩, ⟨h6, h7, h8, h9, h64⟩, ⟨h10, h11⟩, h12⟩, x1, x2⟩ := H
  refine ⟨a1, ⟨a4, a5, a6⟩, ⟨c1, c2, c3, c4⟩, ⟨e1, e2, e3⟩, f1, ⟨g1, g2, g3, g4⟩, fun k hk => ?_, ⟨⟨h1, h2, h3⟩, ⟨h4, h5⟩, ⟨h6, h7, h8, h9, h64⟩, ⟨h10, h11⟩, fun i hi => ?_⟩, x1, x2⟩
  · rw [az_A, h b k (by omega) (by omega)]; exact hs k hk
  · rw [az_A, h sb i (by rintro rfl; omega) (by rintro rfl; omega)]; exact h12 i hi
theorem n_link_az {A : Nat → Nat → Int32} {k : Nat} (H : NV (az τ A) na sp sb b R nt) (hNN : 40000 ≤ N) (hk : k < nt.length) (hL : LK (A (b + 1)) (A (b + 2)) nt R k) : ∃ A', f_NA_link N na (nI k) (az τ A) = some (az τ A') ∧ LK (A' (b + 1)) (A' (b + 2)) nt R (k + 1) ∧ ∀ x i, x ≠ b + 1 → x ≠ b + 2 → A' x i = A x i := by
  have hl := n_link (N := N) (NV_NE H) hNN hk (by omega)
  have e0 : nt.getD k [] = nt[k] := by simp [List.getD, hk]
  refine ⟨fun x i => if x = b + 2 ∧ i = hx nt[k] R then nI k else if x = b + 1 ∧ i = k then A (b + 2) (hx nt[k] R) else A x i, ?_, ?_, ?_⟩
  · rw [hl]
    congr 1
    refine mh_ext rfl (fun _ _ _ => rfl) (fun _ _ _ => rfl) (fun x i => ?_) rfl rfl rfl
    rw [gA_setA, gA_setA]; rfl
  · have := LK_link hL
    rw [e0] at this
    have f1 : (fun a => if a = k then A (b + 2) (hx nt[k] R) else A (b + 1) a) = (fun i => if b + 1 = b + 2 ∧ i = hx nt[k] R then nI k else if b + 1 = b + 1 ∧ i = k then A (b + 2) (hx nt[k] R) else A (b + 1) i) := by
      funext i; rw [if_neg (show ¬ (b + 1 = b + 2 ∧ i = hx nt[k] R) by omega)]; simp
    have f2 : (fun a => if a = hx nt[k] R then nI k else A (b + 2) a) = (fun i => if b + 2 = b + 2 ∧ i = hx nt[k] R then nI k else if b + 2 = b + 1 ∧ i = k then A (b + 2) (hx nt[k] R) else A (b + 2) i) := by
      funext i; rw [if_neg (show ¬ (b + 2 = b + 1 ∧ i = k) by omega)]; simp
    rw [f1, f2] at this
    exact this
  · intro x i h1 h2
    show (if _ then _ else if _ then _ else _) = _
    rw [if_neg (fun h => h2 h.1), if_neg (fun h => h1 h.1)]
theorem relink : ∀ m k fu (A : Nat → Nat → Int32), NV (az τ A) na sp sb b R nt → 40000 ≤ N → nt.length - k ≤ m → m < fu → k ≤ nt.length → LK (A (b + 1)) (A (b + 2)) nt R k → ∃ A', k_NA_grow_44 N fu na (nI k) (az τ A) = some (az τ A', 0, 0) ∧ LK (A' (b + 1)) (A' (b + 2)) nt R nt.length ∧ ∀ x i, x ≠ b + 1 → x ≠ b + 2 → A' x i = A x i := by
  intro m
  induction m with
  | zero =>
    intro k fu A H hNN h1 hfu hk hL
    obtain ⟨fu, rfl⟩ : ∃ x, fu = x + 1 := ⟨fu - 1, by omega⟩
    have ek : k = nt.length := by omega
    subst ek
    obtain ⟨a1, _, _, _, f1, ⟨g1, g2, g3, g4⟩, _⟩ := H
    refine ⟨A, ?_, hL, fun _ _ _ _ => rfl⟩
    unfold k_NA_grow_44
    exact X_chk a1 (X_if (by rw [f1, n_le (by omega) (by omega)]; omega) rfl)
  | succ m ih =>
    intro k fu A H hNN h1 hfu hk hL
    obtain ⟨fu, rfl⟩ : ∃ x, fu = x + 1 := ⟨fu - 1, by omega⟩
    have H' := H
    obtain ⟨a1, _, _, _, f1, ⟨g1, g2, g3, g4⟩, _⟩ := H
    by_cases ek : k = nt.length
    · subst ek
      refine ⟨A, ?_, hL, fun _ _ _ _ => rfl⟩
      unfold k_NA_grow_44
      exact X_chk a1 (X_if (by rw [f1, n_le (by omega) (by omega)]; omega) rfl)
    · obtain ⟨A1, r1, r2, r3⟩ := n_link_az H' hNN (show k < nt.length by omega) hL
      obtain ⟨A2, s1, s2, s3⟩ := ih (k + 1) fu A1 (NV_az (τ := az τ A) (A := A1) H' r3) hNN (by omega) (by omega) (by omega) r2
      refine ⟨A2, ?_, s2, fun x i h1 h2 => by rw [s3 x i h1 h2, r3 x i h1 h2]⟩
      unfold k_NA_grow_44
      refine X_chk a1 (X_nif (by rw [f1, n_le (by omega) (by omega)]; omega) (X_V r1 ?_))
      rw [show nI k + 1 = nI (k + 1) from n_add k 1]
      exact s1
end NAMES3
