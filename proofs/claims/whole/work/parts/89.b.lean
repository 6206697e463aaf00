/-! numbers and names, as they are written -/
theorem l_div {a b : Nat} (ha : a < 9223372036854775808) (hb : b < 9223372036854775808) : nL a / nL b = nL (a / b) := by
  rw [← Int64.toInt_inj, Int64.toInt_div, l_toInt ha, l_toInt hb, l_toInt (Nat.lt_of_le_of_lt (Nat.div_le_self a b) ha)]
  have e : (a : Int).tdiv (b : Int) = ((a / b : Nat) : Int) := by rw [Int.ofNat_tdiv]
  rw [e]
  have h1 := Nat.div_le_self a b
  clear e
  generalize a / b = q at h1 ⊢
  apply Int.bmod_eq_of_le <;> omega
theorem n_div {a b : Nat} (ha : a < 2147483648) (hb : b < 2147483648) : nI a / nI b = nI (a / b) := by
  rw [← Int32.toInt_inj, Int32.toInt_div, n_toInt ha, n_toInt hb, n_toInt (Nat.lt_of_le_of_lt (Nat.div_le_self a b) ha)]
  have e : (a : Int).tdiv (b : Int) = ((a / b : Nat) : Int) := by rw [Int.ofNat_tdiv]
  rw [e]
  have h1 := Nat.div_le_self a b
  clear e
  generalize a / b = q at h1 ⊢
  apply Int.bmod_eq_of_le <;> omega
def dgf (n : Nat) : Nat → List Nat
  | 0 => [48 + n % 10]
  | k + 1 => (48 + n / 10 ^ (k + 1) % 10) :: dgf n k
def tpd (n : Nat) : Nat → Nat
  | 0 => 0
  | k + 1 => if n / 10 ^ (k + 1) % 10 = 0 then tpd n k else k + 1
def dgs (n : Nat) : List Nat := dgf n (tpd n 9)
def num (v : Int32) (O : Ob) : Ob := if v < 0 then emit (emit O [45]) (dgs v.toInt.natAbs) else emit O (dgs v.toInt.natAbs)
theorem dgf_ne (n k : Nat) : dgf n k ≠ [] := by cases k <;> simp [dgf]
theorem dgf_rng (n : Nat) : ∀ k, ∀ c ∈ dgf n k, 48 ≤ c ∧ c ≤ 57 := by
  intro k
  induction k with
  | zero => intro c hc; simp [dgf] at hc; omega
  | succ k ih =>
    intro c hc
    simp only [dgf, List.mem_cons] at hc
    rcases hc with h | h
    · omega
    · exact ih c h
theorem tpd_eq {n j : Nat} (h1 : n / 10 ^ j ≤ 9) (h2 : j = 0 ∨ 1 ≤ n / 10 ^ j) : ∀ k, j ≤ k → tpd n k = j := by
  intro k
  induction k with
  | zero => intro h; have : j = 0 := by omega
            subst this; rfl
  | succ k ih =>
    intro h
    unfold tpd
    by_cases e : j = k + 1
    · subst e
      have : ¬ n / 10 ^ (k + 1) % 10 = 0 := by
        rw [Nat.mod_eq_of_lt (by omega)]
        rcases h2 with h | h <;> omega
      rw [if_neg this]
    · have hz : n / 10 ^ (k + 1) = 0 := by
        have e1 : 10 ^ (k + 1) = 10 ^ j * 10 ^ (k + 1 - j) := by rw [← Nat.pow_add]; congr 1; omega
        rw [e1, ← Nat.div_div_eq_div_mul]
        apply Nat.div_eq_of_lt
        have : 10 ^ 1 ≤ 10 ^ (k + 1 - j) := Nat.pow_le_pow_right (by omega) (by omega)
        omega
      rw [if_pos (by rw [hz]), ih (by omega)]
theorem p10 : ∀ m, m ≤ 10 → 1 ≤ 10 ^ m ∧ 10 ^ m ≤ 10000000000 := by decide
theorem lgc0 {a : Nat} (ha : a < 9223372036854775808) : (lg_cmp (nL a) 0 ≤ 0) = (a = 0) := by
  have h := lg_gt (a := a) (b := 0) ha (by omega)
  have e : (0 < lg_cmp (nL a) (0 : Int64)) = (0 < a) := h
  apply propext
  constructor
  · intro hle
    apply Nat.eq_zero_of_not_pos
    intro hp
    rw [← e] at hp
    rw [Int32.lt_iff_toInt_lt] at hp
    rw [Int32.le_iff_toInt_le] at hle
    omega
  · intro h0
    have : ¬ 0 < lg_cmp (nL a) (0 : Int64) := by rw [e]; omega
    rw [Int32.lt_iff_toInt_lt] at this
    rw [Int32.le_iff_toInt_le]
    omega
theorem lgc9 {a : Nat} (ha : a < 9223372036854775808) : (lg_cmp (nL a) 9 ≤ 0) = (a ≤ 9) := by
  have e : (0 < lg_cmp (nL a) (9 : Int64)) = (9 < a) := lg_gt (a := a) (b := 9) ha (by omega)
  apply propext
  constructor
  · intro hle
    apply Nat.le_of_not_lt
    intro hp
    rw [← e] at hp
    rw [Int32.lt_iff_toInt_lt] at hp
    rw [Int32.le_iff_toInt_le] at hle
    omega
  · intro h0
    have : ¬ 0 < lg_cmp (nL a) (9 : Int64) := by rw [e]; omega
    rw [Int32.lt_iff_toInt_lt] at this
    rw [Int32.le_iff_toInt_le]
    omega
section RNUM
variable {S0 : rm_S} {N n : Nat}
theorem r_digits (hn : n < 10000000000) : ∀ m (fu : Nat) {O : Ob} {S : rm_S} (b : Bool), RW S0 O S → m ≤ 9 → m + 1 < fu → Rs S0 (k_RM_sayNumber_59 N fu (nL n) (nL (10 ^ m)) (b01 b) S) (if b then emit O (dgf n m) else puts O (dgf n m)) := by
  intro m
  induction m with
  | zero =>
    intro fu O S b h hm hfu
    obtain ⟨fu, rfl⟩ : ∃ x, fu = x + 1 := ⟨fu - 1, by omega⟩
    obtain ⟨fu, rfl⟩ : ∃ x, fu = x + 1 := ⟨fu - 1, by omega⟩
    have ed : Int64.toInt32 (48 + (nL n / nL (10 ^ 0) - nL n / nL (10 ^ 0) / 10 * 10)) = nI (48 + n % 10) := by
      have e1 : nL n / nL (10 ^ 0) = nL n := by rw [l_div (by omega) (by omega)]; simp
      have e2 : nL n / (10 : Int64) * 10 = nL (n / 10 * 10) := by
        rw [show (10 : Int64) = nL 10 from rfl, l_div (by omega) (by omega), l_mul]
      rw [e1, e2, l_sub (by omega), show (48 : Int64) = nL 48 from rfl, l_add, l_to (by omega)]
      congr 1; omega
    have hz : (nL (10 ^ 0) / 10 : Int64) = nL 0 := by rw [show (10 : Int64) = nL 10 from rfl, l_div (by omega) (by omega)]
    have hend : ∀ {O' : Ob} {S' : rm_S}, RW S0 O' S' → Rs S0 (k_RM_sayNumber_101 N (k_RM_sayNumber_59 N (fu + 1)) (nL n) (nL (10 ^ 0)) S') O' := by
      intro O' S' h'
      refine ⟨S', ?_, h'⟩
      unfold k_RM_sayNumber_101
      refine X_bndE hz ?_
      unfold k_RM_sayNumber_59
      exact X_if (by rw [lgc0 (by omega)]) rfl
    unfold k_RM_sayNumber_59
    rw [if_neg (by rw [lgc0 (by omega)]; omega), show chk (¬ nL (10 ^ 0) = 0) _ = _ from X_chk (by show ¬ nL 1 = nL 0; rw [l_eq (by omega) (by omega)]; omega) rfl]
    show Rs S0 (bnd _ _) _
    rw [show ∀ f : Int32 → Option rm_S, bnd (Int64.toInt32 (48 + (nL n / nL (10 ^ 0) - nL n / nL (10 ^ 0) / 10 * 10))) f = f (nI (48 + n % 10)) from fun f => congrArg f ed]
    cases b with
    | false =>
      rw [if_pos (show b01 false = 0 from rfl)]
      exact Rs_V (r_put (N := N) h (by omega)) (fun S' h' => hend h')
    | true =>
      rw [if_neg (show ¬ b01 true = 0 by decide)]
      exact Rs_V (r_begin (N := N) h (by omega)) (fun S' h' => hend h')
  | succ m ih =>
    intro fu O S b h hm hfu
    obtain ⟨fu, rfl⟩ : ∃ x, fu = x + 1 := ⟨fu - 1, by omega⟩
    have hp := p10 (m + 1) (by omega)
    have hq : n / 10 ^ (m + 1) ≤ n := Nat.div_le_self _ _
    have ed : Int64.toInt32 (48 + (nL n / nL (10 ^ (m + 1)) - nL n / nL (10 ^ (m + 1)) / 10 * 10)) = nI (48 + n / 10 ^ (m + 1) % 10) := by
      have e1 : nL n / nL (10 ^ (m + 1)) = nL (n / 10 ^ (m + 1)) := l_div (by omega) (by omega)
      rw [e1]
      generalize n / 10 ^ (m + 1) = q at *
      have e2 : nL q / (10 : Int64) * 10 = nL (q / 10 * 10) := by
        rw [show (10 : Int64) = nL 10 from rfl, l_div (by omega) (by omega), l_mul]
      rw [e2, l_sub (by omega), show (48 : Int64) = nL 48 from rfl, l_add, l_to (by omega)]
      congr 1; omega
    have hz : (nL (10 ^ (m + 1)) / 10 : Int64) = nL (10 ^ m) := by
      rw [show (10 : Int64) = nL 10 from rfl, l_div (by omega) (by omega), Nat.pow_succ, Nat.mul_div_cancel _ (by omega)]
    have hend : ∀ {O' : Ob} {S' : rm_S}, RW S0 O' S' → Rs S0 (k_RM_sayNumber_101 N (k_RM_sayNumber_59 N fu) (nL n) (nL (10 ^ (m + 1))) S') (puts O' (dgf n m)) := by
      intro O' S' h'
      unfold k_RM_sayNumber_101
      show Rs S0 (bnd _ _) _
      rw [show ∀ f : Int64 → Option rm_S, bnd (nL (10 ^ (m + 1)) / 10) f = f (nL (10 ^ m)) from fun f => congrArg f hz]
      exact ih fu false h' (by omega) (by omega)
    unfold k_RM_sayNumber_59
    rw [if_neg (by rw [lgc0 (by omega)]; omega), show chk (¬ nL (10 ^ (m + 1)) = 0) _ = _ from X_chk (by show ¬ nL _ = nL 0; rw [l_eq (by omega) (by omega)]; omega) rfl]
    rw [show ∀ f : Int32 → Option rm_S, bnd (Int64.toInt32 (48 + (nL n / nL (10 ^ (m + 1)) - nL n / nL (10 ^ (m + 1)) / 10 * 10))) f = f (nI (48 + n / 10 ^ (m + 1) % 10)) from fun f => congrArg f ed]
    cases b with
    | false =>
      rw [if_pos (show b01 false = 0 from rfl)]
      exact Rs_V (r_put (N := N) h (by omega)) (fun S' h' => hend h')
    | true =>
      rw [if_neg (show ¬ b01 true = 0 by decide)]
      exact Rs_V (r_begin (N := N) h (by omega)) (fun S' h' => hend h')
theorem r_find {y1 : Int32} {b : Bool} (hn : n < 2147483649) (hb : b01 b = if y1 < 0 then 0 else 1) (hNN : 100 ≤ N) : ∀ k j (fu : Nat) {O : Ob} {S : rm_S}, RW S0 O S → j + k = 9 → k < fu → (j = 0 ∨ 1 ≤ n / 10 ^ j) → Rs S0 (k_RM_sayNumber_26 N fu y1 (nL n) (nL (10 ^ j)) S) (if b then emit O (dgs n) else puts O (dgs n)) := by
  have go : ∀ j {O : Ob} {S : rm_S}, RW S0 O S → j ≤ 9 → n / 10 ^ j ≤ 9 → (j = 0 ∨ 1 ≤ n / 10 ^ j) → ∀ fu, Rs S0 (k_RM_sayNumber_26 N (fu + 1) y1 (nL n) (nL (10 ^ j)) S) (if b then emit O (dgs n) else puts O (dgs n)) := by
    intro j O S h hj h9 h1 fu
    have hp := p10 j (by omega)
    have hq : n / 10 ^ j ≤ n := Nat.div_le_self _ _
    have ht := tpd_eq h9 h1 9 hj
    have hd := r_digits (N := N) (n := n) (by omega) j N b h hj (by omega)
    unfold dgs
    rw [ht]
    unfold k_RM_sayNumber_26
    rw [show chk (¬ nL (10 ^ j) = 0) _ = _ from X_chk (by show ¬ nL _ = nL 0; rw [l_eq (by omega) (by omega)]; omega) rfl, if_pos (by rw [l_div (by omega) (by omega), lgc9 (by omega)]; exact h9)]
    rw [hb] at hd
    by_cases hy : y1 < 0
    · rw [if_pos hy] at hd ⊢; exact hd
    · rw [if_neg hy] at hd ⊢; exact hd
  intro k
  induction k with
  | zero =>
    intro j fu O S h hjk hfu h1
    obtain ⟨fu, rfl⟩ : ∃ x, fu = x + 1 := ⟨fu - 1, by omega⟩
    have e : j = 9 := by omega
    subst e
    exact go 9 h (by omega) (by omega) h1 fu
  | succ k ih =>
    intro j fu O S h hjk hfu h1
    obtain ⟨fu, rfl⟩ : ∃ x, fu = x + 1 := ⟨fu - 1, by omega⟩
    by_cases h9 : n / 10 ^ j ≤ 9
    · exact go j h (by omega) h9 h1 fu
    · have hp := p10 j (by omega)
      have hq : n / 10 ^ j ≤ n := Nat.div_le_self _ _
      unfold k_RM_sayNumber_26
      rw [show chk (¬ nL (10 ^ j) = 0) _ = _ from X_chk (by show ¬ nL _ = nL 0; rw [l_eq (by omega) (by omega)]; omega) rfl, if_neg (by rw [l_div (by omega) (by omega), lgc9 (by omega)]; exact h9)]
      have e10 : (10 : Int64) * nL (10 ^ j) = nL (10 ^ (j + 1)) := by rw [show (10 : Int64) = nL 10 from rfl, l_mul, Nat.pow_succ, Nat.mul_comm]
      rw [show ∀ f : Int64 → Option rm_S, bnd ((10 : Int64) * nL (10 ^ j)) f = f (nL (10 ^ (j + 1))) from fun f => congrArg f e10]
      refine ih (j + 1) fu h (by omega) (by omega) (Or.inr ?_)
      rw [Nat.pow_succ, ← Nat.div_div_eq_div_mul]
      omega
theorem r_number {O : Ob} {S : rm_S} (h : RW S0 O S) (v : Int32) (hv : v ≠ -2147483648) (hNN : 100 ≤ N) : Rs S0 (f_RM_sayNumber N v S) (num v O) := by
  have hr := Int32.le_toInt v
  have hr2 := Int32.toInt_lt v
  have hmin : v.toInt ≠ -2147483648 := by
    intro e
    apply hv
    rw [← Int32.toInt_inj, e]; rfl
  have hz : (0 : Int32).toInt = 0 := rfl
  unfold f_RM_sayNumber num
  by_cases h0 : v < 0
  · have hneg : v.toInt < 0 := by rw [Int32.lt_iff_toInt_lt] at h0; omega
    have hnle : ¬ 0 ≤ v := by rw [Int32.le_iff_toInt_le]; omega
    rw [if_neg hnle, if_pos h0]
    refine Rs_V (r_begin (c := 45) (N := N) h (by omega)) (fun S' h' => ?_)
    have eL : -(Int32.toInt64 v) = nL v.toInt.natAbs := by
      rw [← Int64.toInt_inj, Int64.toInt_neg, Int32.toInt_toInt64, l_toInt (by omega)]
      rw [Int.bmod_eq_of_le] <;> omega
    unfold k_RM_sayNumber_10
    rw [if_neg hnle]
    rw [show ∀ f : Int64 → Option rm_S, bnd (-(Int32.toInt64 v)) f = f (nL v.toInt.natAbs) from fun f => congrArg f eL]
    have := r_find (N := N) (n := v.toInt.natAbs) (y1 := v) (b := false) (by omega) (by rw [if_pos h0]; rfl) hNN 9 0 N h' (by omega) (by omega) (Or.inl rfl)
    refine Rs_eq this ?_
    rw [if_neg (by decide)]
    -- no gap after the sign
    obtain ⟨c, r, hcr⟩ : ∃ c r, dgs v.toInt.natAbs = c :: r := by
      cases hd : dgs v.toInt.natAbs with
      | nil => exact absurd hd (dgf_ne _ _)
      | cons c r => exact ⟨c, r, rfl⟩
    rw [hcr]
    show puts _ (c :: r) = puts (gapc _ c) (c :: r)
    have hl : lstw (emit O [45]) = false := by
      show lstw (addc (gapc O 45) 45) = false
      cases gapc O 45 with
      | none => rfl
      | some T =>
        show lstw (if T.length < 8000 then some (T ++ [45]) else none) = false
        split
        · simp [lstw]; decide
        · rfl
    unfold gapc
    rw [if_neg (by rw [hl]; simp)]
  · have hpos : 0 ≤ v.toInt := by rw [Int32.lt_iff_toInt_lt] at h0; omega
    have hle : 0 ≤ v := by rw [Int32.le_iff_toInt_le]; omega
    rw [if_pos hle, if_neg h0]
    have eL : Int32.toInt64 v = nL v.toInt.natAbs := by
      rw [← Int64.toInt_inj, Int32.toInt_toInt64, l_toInt (by omega)]; omega
    unfold k_RM_sayNumber_10
    rw [if_pos hle]
    rw [show ∀ f : Int64 → Option rm_S, bnd (Int32.toInt64 v) f = f (nL v.toInt.natAbs) from fun f => congrArg f eL]
    have := r_find (N := N) (n := v.toInt.natAbs) (y1 := v) (b := true) (by omega) (by rw [if_neg h0]; rfl) hNN 9 0 N h (by omega) (by omega) (Or.inl rfl)
    refine Rs_eq this ?_
    rw [if_pos rfl]
end RNUM
/-! names -/
def nw (w : List Int32) : List Nat := w.map Int32.toNatClampNeg
theorem nw_ok {w : List Int32} (h : okw w) : w = (nw w).map nI ∧ 1 ≤ (nw w).length ∧ (nw w).length ≤ 30 ∧ (∀ c ∈ nw w, wb c = true) ∧ cL ((nw w).getD 0 0) = true := by
  obtain ⟨l, h1, h2, h3, h4, h5⟩ := h
  have e : nw w = l := by
    unfold nw
    rw [h1, List.map_map]
    conv => rhs; rw [← List.map_id l]
    apply List.map_congr_left
    intro c hc
    have := wb_lt (h4 c hc)
    show (nI c).toNatClampNeg = c
    exact n_nat (by omega)
  rw [e]
  exact ⟨h1, h2, h3, h4, h5⟩
section RNAME
variable {S0 : rm_S} {N : Nat} {nt : List (List Int32)}
theorem r_name_loop {k : Nat} (hT : NT S0.2 nt) (hk : k < nt.length) (hok : okw nt[k]) : ∀ m j (fu : Nat) {O : Ob} {S : rm_S}, RW S0 O S → (nw nt[k]).length - j ≤ m → m < fu → 1 ≤ j → j ≤ (nw nt[k]).length → Rs S0 (k_RM_sayName_7 N fu (nI k) (nI (st nt k + j)) S) (puts O ((nw nt[k]).drop j)) := by
  obtain ⟨t1, t2, t3, t4⟩ := hT
  obtain ⟨q1, q2, q3, q4, q5⟩ := nw_ok hok
  have hl : nt[k].length = (nw nt[k]).length := by unfold nw; simp
  have hs1 := st_succ nt k hk
  have hs2 := st_mono nt (show k + 1 ≤ nt.length by omega) (Nat.le_refl _)
  have e1 : nI k + 1 = nI (k + 1) := n_add k 1
  have hnk : (nI k).toNatClampNeg = k := n_nat (by omega)
  have hnk1 : (nI (k + 1)).toNatClampNeg = k + 1 := n_nat (by omega)
  have fin : ∀ fu {O : Ob} {S : rm_S}, RW S0 O S → Rs S0 (k_RM_sayName_7 N (fu + 1) (nI k) (nI (st nt k + (nw nt[k]).length)) S) (puts O ((nw nt[k]).drop (nw nt[k]).length)) := by
    intro fu O S h
    rw [List.drop_length]
    refine ⟨S, ?_, h⟩
    have w21 : S.2 21 = S0.2 21 := h.1.2 21 (by omega)
    unfold k_RM_sayName_7
    exact X_chk (by rw [e1, n_ib (by omega)]; omega) (X_if (by rw [e1, hnk1, w21, t1 (k + 1) (by omega), hs1, n_le (by omega) (by omega)]; omega) rfl)
  intro m
  induction m with
  | zero =>
    intro j fu O S h h1 hfu hj1 hj
    obtain ⟨fu, rfl⟩ : ∃ x, fu = x + 1 := ⟨fu - 1, by omega⟩
    have e : j = (nw nt[k]).length := by omega
    rw [e]; exact fin fu h
  | succ m ih =>
    intro j fu O S h h1 hfu hj1 hj
    obtain ⟨fu, rfl⟩ : ∃ x, fu = x + 1 := ⟨fu - 1, by omega⟩
    by_cases e : j = (nw nt[k]).length
    · rw [e]; exact fin fu h
    · have hj' : j < (nw nt[k]).length := by omega
      have w21 : S.2 21 = S0.2 21 := h.1.2 21 (by omega)
      have w20 : S.2 20 = S0.2 20 := h.1.2 20 (by omega)
      have hc : (nw nt[k])[j] < 128 := wb_lt (q4 _ (List.getElem_mem hj'))
      have hv : S.2 20 (st nt k + j) = nI (nw nt[k])[j] := by
        rw [w20, t2 k hk j (by omega)]
        have : nt[k][j]'(by omega) = ((nw nt[k]).map nI)[j]'(by simpa using hj') := List.getElem_of_eq q1 _
        rw [this, List.getElem_map]
      unfold k_RM_sayName_7
      rw [show chk (ib (nI k + 1) 6001) _ = _ from X_chk (by rw [e1, n_ib (by omega)]; omega) rfl, if_neg (by rw [e1, hnk1, w21, t1 (k + 1) (by omega), hs1, n_le (by omega) (by omega)]; omega), show chk (ib (nI k) 6001) _ = _ from X_chk (by rw [n_ib (by omega)]; omega) rfl, if_neg (by rw [hnk, w21, t1 k (by omega), n_eq (by omega) (by omega)]; omega), show chk (ib (nI (st nt k + j)) 12000) _ = _ from X_chk (by rw [n_ib (by omega)]; omega) rfl, n_nat (by omega), hv]
      refine Rs_V (r_put (N := N) h hc) (fun S' h' => ?_)
      rw [show nI (st nt k + j) + 1 = nI (st nt k + (j + 1)) from n_add _ 1, List.drop_eq_getElem_cons hj']
      exact ih (j + 1) fu h' (by omega) (by omega) (by omega) (by omega)
theorem r_sayName {k : Nat} {O : Ob} {S : rm_S} (h : RW S0 O S) (hT : NT S0.2 nt) (hk : k < nt.length) (hok : okw nt[k]) (hNN : 100 ≤ N) : Rs S0 (f_RM_sayName N (nI k) S) (emit O (nw nt[k])) := by
  have hT' := hT
  obtain ⟨t1, t2, t3, t4⟩ := hT
  obtain ⟨q1, q2, q3, q4, q5⟩ := nw_ok hok
  have hl : nt[k].length = (nw nt[k]).length := by unfold nw; simp
  have hs1 := st_succ nt k hk
  have hs2 := st_mono nt (show k + 1 ≤ nt.length by omega) (Nat.le_refl _)
  have e1 : nI k + 1 = nI (k + 1) := n_add k 1
  have hnk : (nI k).toNatClampNeg = k := n_nat (by omega)
  have hnk1 : (nI (k + 1)).toNatClampNeg = k + 1 := n_nat (by omega)
  have w21 : S.2 21 = S0.2 21 := h.1.2 21 (by omega)
  have w20 : S.2 20 = S0.2 20 := h.1.2 20 (by omega)
  obtain ⟨c, r, hcr⟩ : ∃ c r, nw nt[k] = c :: r := by
    cases hd : nw nt[k] with
    | nil => rw [hd] at q2; simp at q2
    | cons c r => exact ⟨c, r, rfl⟩
  have hc : c < 128 := wb_lt (q4 c (by rw [hcr]; simp))
  have hv : S.2 20 (st nt k) = nI c := by
    have := t2 k hk 0 (by omega)
    rw [Nat.add_zero] at this
    rw [w20, this]
    have e : nt[k][0]'(by omega) = ((nw nt[k]).map nI)[0]'(by simp; omega) := List.getElem_of_eq q1 _
    rw [e, List.getElem_map]
    simp [hcr]
  obtain ⟨M, hM⟩ : ∃ M, N = M + 1 := ⟨N - 1, by omega⟩
  have main : ∀ M', 40 < M' → Rs S0 (k_RM_sayName_7 N (M' + 1) (nI k) (nI (st nt k)) S) (emit O (nw nt[k])) := by
    intro M' hM'
    unfold k_RM_sayName_7
    rw [show chk (ib (nI k + 1) 6001) _ = _ from X_chk (by rw [e1, n_ib (by omega)]; omega) rfl, if_neg (by rw [e1, hnk1, w21, t1 (k + 1) (by omega), hs1, n_le (by omega) (by omega)]; omega), show chk (ib (nI k) 6001) _ = _ from X_chk (by rw [n_ib (by omega)]; omega) rfl, if_pos (by rw [hnk, w21, t1 k (by omega)]), show chk (ib (nI (st nt k)) 12000) _ = _ from X_chk (by rw [n_ib (by omega)]; omega) rfl, n_nat (by omega), hv]
    refine Rs_V (r_begin (N := N) h hc) (fun S' h' => ?_)
    rw [show nI (st nt k) + 1 = nI (st nt k + 1) from n_add _ 1]
    have := r_name_loop (N := N) hT' hk hok (nw nt[k]).length 1 M' h' (by omega) (by omega) (by omega) q2
    refine Rs_eq this ?_
    rw [hcr]; rfl
  unfold f_RM_sayName
  rw [show chk (ib (nI k) 6001) _ = _ from X_chk (by rw [n_ib (by omega)]; omega) rfl]
  rw [show ∀ f : Int32 → Option rm_S, bnd (S.2 21 (nI k).toNatClampNeg) f = f (nI (st nt k)) from fun f => congrArg f (by rw [hnk, w21, t1 k (by omega)])]
  have := main M (by omega)
  rw [← hM] at this
  exact this
end RNAME
