/-! THE CLASS WRITES: numbers, beginnings -/
theorem n_sub10 {q : Nat} : nI q - nI (q / 10) * 10 = nI (q % 10) := by
  rw [show nI (q / 10) * 10 = nI (q / 10 * 10) from n_mul _ 10, n_sub' (by omega)]; congr 1; omega
section WRITE2
variable {wr tr br b L na sp sb nb R N : Nat} {F : Fo} {nt : List (List Int32)}
theorem w_dig {n : Nat} (hn : n < 2147483648) : ∀ k fu {τ : mh_H} {bb : Nat} {O : Ob}, WX wr tr br b L na sp sb nb R F nt τ bb → COb τ br bb O → k ≤ 9 → k + 1 < fu → Wst wr tr br b L na sp sb nb R F nt τ bb (k_WR_putNumber_24 N fu wr (nI n) 1 (nI (10 ^ k)) τ) (puts O (dgf n k)) := by
  intro k
  induction k with
  | zero =>
    intro fu τ bb O X H hk hfu
    obtain ⟨fu, rfl⟩ : ∃ x, fu = x + 1 := ⟨fu - 1, by omega⟩
    obtain ⟨fu, rfl⟩ : ∃ x, fu = x + 1 := ⟨fu - 1, by omega⟩
    obtain ⟨l, hr⟩ := CO_Rw H
    have ed : 48 + (nI n / nI (10 ^ 0) - nI n / nI (10 ^ 0) / 10 * 10) = nI (48 + n % 10) := by
      have e1 : nI n / nI (10 ^ 0) = nI n := by rw [n_div (by omega) (by omega)]; simp
      have e2 : nI n / (10 : Int32) = nI (n / 10) := n_div (b := 10) (by omega) (by omega)
      rw [e1, e2, n_sub10]; exact n_add 48 _
    have hz : (nI (10 ^ 0) / 10 : Int32) = nI 0 := by rw [show (10 : Int32) = nI 10 from rfl, n_div (by omega) (by omega)]
    unfold k_WR_putNumber_24
    refine Ws_nif (by decide) (Ws_chk (by decide) (Ws_bnd ed (Ws_nif (by decide) ?_)))
    unfold k_WR_putNumber_66
    refine Ws_nif (by decide) (Ws_chk X.1.1 (Ws_rf X.1.2.2.2.1 (Ws_chk hr.1.1 (Ws_go (w_add X H (by omega)) (fun τ1 b1 X1 H1 => Ws_bnd hz ?_)))))
    unfold k_WR_putNumber_24
    exact Ws_if (by decide) (Ws_ret X1 H1)
  | succ k ih =>
    intro fu τ bb O X H hk hfu
    obtain ⟨fu, rfl⟩ : ∃ x, fu = x + 1 := ⟨fu - 1, by omega⟩
    obtain ⟨l, hr⟩ := CO_Rw H
    have hp := p10 (k + 1) (by omega)
    have hp9 : 10 ^ (k + 1) ≤ 1000000000 := by
      have : 10 ^ (k + 1) ≤ 10 ^ 9 := Nat.pow_le_pow_right (by omega) (by omega)
      omega
    have hq : n / 10 ^ (k + 1) ≤ n := Nat.div_le_self _ _
    have ed : 48 + (nI n / nI (10 ^ (k + 1)) - nI n / nI (10 ^ (k + 1)) / 10 * 10) = nI (48 + n / 10 ^ (k + 1) % 10) := by
      rw [n_div (by omega) (by omega)]
      generalize n / 10 ^ (k + 1) = q at *
      have e2 : nI q / (10 : Int32) = nI (q / 10) := n_div (b := 10) (by omega) (by omega)
      rw [e2, n_sub10]; exact n_add 48 _
    have hz : (nI (10 ^ (k + 1)) / 10 : Int32) = nI (10 ^ k) := by
      rw [show (10 : Int32) = nI 10 from rfl, n_div (by omega) (by omega), Nat.pow_succ, Nat.mul_div_cancel _ (by omega)]
    unfold k_WR_putNumber_24
    refine Ws_nif (by show ¬ nI _ ≤ nI 0; rw [n_le (by omega) (by omega)]; omega) (Ws_chk (by show ¬ nI _ = nI 0; rw [n_eq (by omega) (by omega)]; omega) (Ws_bnd ed (Ws_nif (by decide) ?_)))
    unfold k_WR_putNumber_66
    refine Ws_nif (by decide) (Ws_chk X.1.1 (Ws_rf X.1.2.2.2.1 (Ws_chk hr.1.1 (Ws_go (w_add X H (by omega)) (fun τ1 b1 X1 H1 => Ws_bnd hz ?_)))))
    exact ih fu X1 H1 (by omega) (by omega)
theorem w_skip {n : Nat} (hn : n < 2147483648) : ∀ k fu {τ : mh_H} {bb : Nat} {O : Ob}, WX wr tr br b L na sp sb nb R F nt τ bb → COb τ br bb O → k ≤ 9 → k + 1 < fu → Wst wr tr br b L na sp sb nb R F nt τ bb (k_WR_putNumber_24 N fu wr (nI n) 0 (nI (10 ^ k)) τ) (emit O (dgf n (tpd n k))) := by
  intro k
  induction k with
  | zero =>
    intro fu τ bb O X H hk hfu
    obtain ⟨fu, rfl⟩ : ∃ x, fu = x + 1 := ⟨fu - 1, by omega⟩
    obtain ⟨fu, rfl⟩ : ∃ x, fu = x + 1 := ⟨fu - 1, by omega⟩
    have ed : 48 + (nI n / nI (10 ^ 0) - nI n / nI (10 ^ 0) / 10 * 10) = nI (48 + n % 10) := by
      have e1 : nI n / nI (10 ^ 0) = nI n := by rw [n_div (by omega) (by omega)]; simp
      have e2 : nI n / (10 : Int32) = nI (n / 10) := n_div (b := 10) (by omega) (by omega)
      rw [e1, e2, n_sub10]; exact n_add 48 _
    have hz : (nI (10 ^ 0) / 10 : Int32) = nI 0 := by rw [show (10 : Int32) = nI 10 from rfl, n_div (by omega) (by omega)]
    have go : Wst wr tr br b L na sp sb nb R F nt τ bb (calA (f_WR_putGap N wr (nI (48 + n % 10)) τ) fun s => k_WR_putNumber_66 N (k_WR_putNumber_24 N (fu + 1)) wr (nI n) 1 (nI (10 ^ 0)) (nI (48 + n % 10)) s) (emit O (dgf n (tpd n 0))) := by
      refine Ws_go (w_gap X H (by omega)) (fun τ1 b1 X1 H1 => ?_)
      obtain ⟨l, hr⟩ := CO_Rw H1
      unfold k_WR_putNumber_66
      refine Ws_nif (by decide) (Ws_chk X1.1.1 (Ws_rf X1.1.2.2.2.1 (Ws_chk hr.1.1 (Ws_go (w_add X1 H1 (by omega)) (fun τ2 b2 X2 H2 => Ws_bnd hz ?_)))))
      unfold k_WR_putNumber_24
      exact Ws_if (by decide) (Ws_ret X2 H2)
    unfold k_WR_putNumber_24
    refine Ws_nif (by decide) (Ws_chk (by decide) (Ws_bnd ed (Ws_if rfl ?_)))
    by_cases h48 : nI (48 + n % 10) = 48
    · exact Ws_if h48 (Ws_if (by decide) (Ws_chk X.1.1 go))
    · exact Ws_nif h48 (Ws_chk X.1.1 go)
  | succ k ih =>
    intro fu τ bb O X H hk hfu
    obtain ⟨fu, rfl⟩ : ∃ x, fu = x + 1 := ⟨fu - 1, by omega⟩
    have hp := p10 (k + 1) (by omega)
    have hp1 := p10 k (by omega)
    have hp9 : 10 ^ (k + 1) ≤ 1000000000 := by
      have : 10 ^ (k + 1) ≤ 10 ^ 9 := Nat.pow_le_pow_right (by omega) (by omega)
      omega
    have hq : n / 10 ^ (k + 1) ≤ n := Nat.div_le_self _ _
    have ed : 48 + (nI n / nI (10 ^ (k + 1)) - nI n / nI (10 ^ (k + 1)) / 10 * 10) = nI (48 + n / 10 ^ (k + 1) % 10) := by
      rw [n_div (by omega) (by omega)]
      generalize n / 10 ^ (k + 1) = q at *
      have e2 : nI q / (10 : Int32) = nI (q / 10) := n_div (b := 10) (by omega) (by omega)
      rw [e2, n_sub10]; exact n_add 48 _
    have hz : (nI (10 ^ (k + 1)) / 10 : Int32) = nI (10 ^ k) := by
      rw [show (10 : Int32) = nI 10 from rfl, n_div (by omega) (by omega), Nat.pow_succ, Nat.mul_div_cancel _ (by omega)]
    have h1 : ¬ nI (10 ^ (k + 1)) = 1 := by
      show ¬ nI _ = nI 1
      rw [n_eq (by omega) (by omega), Nat.pow_succ]; omega
    have e48 : (nI (48 + n / 10 ^ (k + 1) % 10) = 48) = (n / 10 ^ (k + 1) % 10 = 0) := by
      show (nI _ = nI 48) = _
      rw [n_eq (by omega) (by omega)]; apply propext; omega
    unfold k_WR_putNumber_24
    refine Ws_nif (by show ¬ nI _ ≤ nI 0; rw [n_le (by omega) (by omega)]; omega) (Ws_chk (by show ¬ nI _ = nI 0; rw [n_eq (by omega) (by omega)]; omega) (Ws_bnd ed (Ws_if rfl ?_)))
    by_cases hd : n / 10 ^ (k + 1) % 10 = 0
    · have ht : tpd n (k + 1) = tpd n k := if_pos hd
      rw [ht]
      refine Ws_if (by rw [e48]; exact hd) (Ws_nif h1 ?_)
      unfold k_WR_putNumber_66
      exact Ws_if rfl (Ws_bnd hz (ih fu X H (by omega) (by omega)))
    · have ht : tpd n (k + 1) = k + 1 := if_neg hd
      rw [ht]
      refine Ws_nif (by rw [e48]; exact hd) (Ws_chk X.1.1 (Ws_go (w_gap X H (by omega)) (fun τ1 b1 X1 H1 => ?_)))
      obtain ⟨l, hr⟩ := CO_Rw H1
      unfold k_WR_putNumber_66
      refine Ws_nif (by decide) (Ws_chk X1.1.1 (Ws_rf X1.1.2.2.2.1 (Ws_chk hr.1.1 (Ws_go (w_add X1 H1 (by omega)) (fun τ2 b2 X2 H2 => Ws_bnd hz ?_)))))
      exact w_dig hn k fu X2 H2 (by omega) (by omega)
variable {τ : mh_H} {bb : Nat} {O : Ob}
theorem w_number (X : WX wr tr br b L na sp sb nb R F nt τ bb) (H : COb τ br bb O) (v : Int32) (hv : v ≠ -2147483648) (hN1 : 100 ≤ N) : Wst wr tr br b L na sp sb nb R F nt τ bb (f_WR_putNumber N wr v τ) (num v O) := by
  have hr := Int32.le_toInt v
  have hr2 := Int32.toInt_lt v
  have hmin : v.toInt ≠ -2147483648 := by
    intro e
    apply hv
    rw [← Int32.toInt_inj, e]; rfl
  have hz : (0 : Int32).toInt = 0 := rfl
  have habs : f_MA_abs N v = some (nI v.toInt.natAbs) := by
    unfold f_MA_abs
    by_cases h0 : v < 0
    · have hneg : v.toInt < 0 := by rw [Int32.lt_iff_toInt_lt] at h0; omega
      have e : -v = nI v.toInt.natAbs := by
        rw [← Int32.toInt_inj, Int32.toInt_neg, n_toInt (by omega), Int.bmod_eq_of_le] <;> omega
      first
        | exact X_if h0 (by rw [e])
        | exact X_nif (by rw [Int32.le_iff_toInt_le]; omega) (by rw [e])
    · have hpos : 0 ≤ v.toInt := by rw [Int32.lt_iff_toInt_lt] at h0; omega
      have e : v = nI v.toInt.natAbs := by
        rw [← Int32.toInt_inj, n_toInt (by omega)]; omega
      first
        | exact X_nif h0 (by rw [← e])
        | exact X_if (by rw [Int32.le_iff_toInt_le]; omega) (by rw [← e])
  have go : ∀ {τ : mh_H} {bb : Nat} {O : Ob}, WX wr tr br b L na sp sb nb R F nt τ bb → COb τ br bb O → Wst wr tr br b L na sp sb nb R F nt τ bb (k_WR_putNumber_13 N wr v τ) (emit O (dgs v.toInt.natAbs)) := by
    intro τ bb O X H
    unfold k_WR_putNumber_13
    refine Ws_P habs ?_
    exact w_skip (N := N) (n := v.toInt.natAbs) (by omega) 9 N X H (by omega) (by omega)
  unfold f_WR_putNumber num
  by_cases h0 : v < 0
  · have hnle : ¬ 0 ≤ v := by rw [Int32.le_iff_toInt_le]; rw [Int32.lt_iff_toInt_lt] at h0; omega
    obtain ⟨l, hr⟩ := CO_Rw H
    rw [if_pos h0]
    have e45 : emit O [45] = addc O 45 := by
      show addc (gapc O 45) 45 = _
      rw [gapc_n (by decide)]
    rw [e45]
    exact Ws_nif hnle (Ws_chk X.1.1 (Ws_rf X.1.2.2.2.1 (Ws_chk hr.1.1 (Ws_go (w_add (c := 45) X H (by omega)) (fun τ1 b1 X1 H1 => go X1 H1)))))
  · have hle : 0 ≤ v := by rw [Int32.le_iff_toInt_le]; rw [Int32.lt_iff_toInt_lt] at h0; omega
    rw [if_neg h0]
    exact Ws_if hle (go X H)
theorem bg_ok : ∀ k, k < 34 → f_WR_beginning 0 (nI k) = some (bgi k) ∧ bgi k < 67 := by decide +kernel
theorem lj_ok : ∀ k, k < 34 → f_WR_laterJoint 0 (nI k) = some (lji k) ∧ lji k < 67 := by decide +kernel
/-- what stands first of a node -/
theorem w_begin {a : Nat} {x : Nat × Nat × Int32} (X : WX wr tr br b L na sp sb nb R F nt τ bb) (H : COb τ br bb O) (ha : a < siz F + 1) (hK : hA τ b a = nI x.1) (hV : hA τ (b + 2) a = x.2.2) (hx : x.1 < 34) (h13 : x.1 = 13 → ∃ k, k < nt.length ∧ x.2.2 = nI k) (h12 : x.1 = 12 → x.2.2 ≠ -2147483648) (hok : ∀ w ∈ nt, okw w) (hN1 : 100 ≤ N) : Wst wr tr br b L na sp sb nb R F nt τ bb (f_WR_begin N wr (nI a) τ) (beg nt x O) := by
  obtain ⟨t1, t2, t3, t4, t5, t6, t7, t8⟩ := X.2.1
  have htl := txt_len F
  have hna : (nI a).toNatClampNeg = a := n_nat (by omega)
  have iba : ib (nI a) L := by rw [n_ib (by omega)]; omega
  have u0 := t2 0 (by omega)
  have u2 := t2 2 (by omega)
  rw [Nat.add_zero] at u0
  have e12 : (nI x.1 = 12) = (x.1 = 12) := n_eq (b := 12) (by omega) (by omega)
  have e13 : (nI x.1 = 13) = (x.1 = 13) := n_eq (b := 13) (by omega) (by omega)
  unfold f_WR_begin beg
  have hko : f_TR_kindOf N tr (nI a) τ = some (nI x.1, τ) := by rw [t_kindOf t1 t3 (by omega) (by omega) u0.2.2 u0.1 (by rw [u0.2.1]; omega), hK]
  have hvo : f_TR_valueOf N tr (nI a) τ = some (x.2.2, τ) := by rw [t_valueOf t1 t3 (by omega) (by omega) u2.2.2 u2.1 (by rw [u2.2.1]; omega), hV]
  refine Ws_chk X.1.1 (Ws_rf X.1.2.2.1 (Ws_chk t1 (Ws_I hko ?_)))
  by_cases c12 : x.1 = 12
  · rw [if_pos c12]
    refine Ws_if (by rw [e12]; exact c12) (Ws_chk X.1.1 (Ws_rf X.1.2.2.1 (Ws_chk t1 (Ws_I hvo (Ws_chk X.1.1 ?_)))))
    exact Ws_go (w_number X H x.2.2 (h12 c12) hN1) (fun τ' bb' X' H' => Ws_ret X' H')
  · rw [if_neg c12]
    refine Ws_nif (by rw [e12]; exact c12) ?_
    by_cases c13 : x.1 = 13
    · rw [if_pos c13]
      obtain ⟨k, hk, hv⟩ := h13 c13
      have hlt : nt.length ≤ 12000 := by have := X.2.2.1.1.2.2.2.2.2.1; omega
      refine Ws_if (by rw [e13]; exact c13) (Ws_chk X.1.1 (Ws_rf X.1.2.2.1 (Ws_chk t1 (Ws_I hvo (Ws_chk X.1.1 ?_)))))
      rw [hv]
      have eg : nt.getD (nI k).toNatClampNeg [] = nt[k] := by rw [n_nat (by omega)]; simp [List.getD, hk]
      rw [eg]
      exact Ws_go (w_name X H hk (hok _ (List.getElem_mem hk)) hN1) (fun τ' bb' X' H' => Ws_ret X' H')
    · rw [if_neg c13]
      obtain ⟨g1, g2⟩ := bg_ok x.1 hx
      refine Ws_nif (by rw [e13]; exact c13) (Ws_P (a := bgi x.1) g1 (Ws_chk X.1.1 ?_))
      exact Ws_go (w_put X H g2 hN1) (fun τ' bb' X' H' => Ws_ret X' H')
end WRITE2
