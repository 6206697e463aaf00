/-! rows of bytes: more room -/
theorem X_A {α β : Type} {r : Option (α × Nat × Nat)} {k : α → Option (β × Nat × Nat)} {a : α} {c m : Nat} {y : Option (β × Nat × Nat)} (hr : r = some (a, c, m)) (h : tkA c m (k a) = y) : calA r k = y := by subst hr; exact h
theorem X_AI {α σ β : Type} {r : Option ((α × σ) × Nat × Nat)} {k : α → σ → Option (β × Nat × Nat)} {a : α} {s : σ} {c m : Nat} {y : Option (β × Nat × Nat)} (hr : r = some ((a, s), c, m)) (h : tkA c m (k a s) = y) : calAI r k = y := by subst hr; exact h
section ROOM
variable {τ : mh_H} {br bb N : Nat}
theorem mx_val {a b : Nat} (ha : a < 1000000) (hb : b < 1000000) : f_MA_max N (nI a) (nI b) = some (nI (max a b)) := by
  unfold f_MA_max
  by_cases h : a < b
  · exact X_if (by rw [n_lt (by omega) (by omega)]; exact h) (by congr 2; omega)
  · exact X_nif (by rw [n_lt (by omega) (by omega)]; exact h) (by congr 2; omega)
theorem mi_val {a b : Nat} (ha : a < 1000000) (hb : b < 1000000) : f_MA_min N (nI a) (nI b) = some (nI (min a b)) := by
  unfold f_MA_min
  by_cases h : b < a
  · exact X_if (by rw [n_lt (by omega) (by omega)]; exact h) (by congr 2; omega)
  · exact X_nif (by rw [n_lt (by omega) (by omega)]; exact h) (by congr 2; omega)
theorem b_stay {need : Nat} (a1 : hT τ br = 1) (c1 : hR τ 0 0 br = some bb) (a2 : hT τ bb = 4) (hl : hN τ bb < 100000) (hn : need ≤ hN τ bb) : f_BR_makeRoom N br (nI need) τ = some (τ, 0, 0) := by
  unfold f_BR_makeRoom
  exact X_chk a1 (X_rfO c1 (X_chk a2 (X_if (by rw [n_le (by omega) (by omega)]; exact hn) rfl)))
theorem b_grow {need : Nat} (a1 : hT τ br = 1) (c1 : hR τ 0 0 br = some bb) (a2 : hT τ bb = 4) (hl : hN τ bb < 50000) (hn : hN τ bb < need) (hn2 : need ≤ 50000) (hbr : br < hX τ) (hbb : bb < hX τ) : f_BR_makeRoom N br (nI need) τ = some (mh_setR (mh_cpy (mh_arr τ 1 (max need (2 * hN τ bb))) bb (hX τ) 0 0 (hN τ bb)) 0 0 br (some (hX τ)), 1, max need (2 * hN τ bb)) := by
  have e2 : (2 : Int32) * nI (hN τ bb) = nI (2 * hN τ bb) := n_mul 2 _
  have hL : max need (2 * hN τ bb) ≤ 100000 := by omega
  have hnL : (nI (max need (2 * hN τ bb))).toNatClampNeg = max need (2 * hN τ bb) := n_nat (by omega)
  have hne : bb ≠ hX τ := by omega
  have hN5 : hN (mh_arr τ 1 (max need (2 * hN τ bb))) bb = hN τ bb := by rw [gN_arr, if_neg hne]
  have hNX : hN (mh_arr τ 1 (max need (2 * hN τ bb))) (hX τ) = max need (2 * hN τ bb) := by rw [gN_arr, if_pos rfl]
  have hcp : f_AR_copyOfB N bb (nI (max need (2 * hN τ bb))) τ = some ((hX τ, mh_cpy (mh_arr τ 1 (max need (2 * hN τ bb))) bb (hX τ) 0 0 (hN τ bb)), 1, max need (2 * hN τ bb)) := by
    have hmi := mi_val (N := N) (a := hN τ bb) (b := max need (2 * hN τ bb)) (by omega) (by omega)
    rw [show min (hN τ bb) (max need (2 * hN τ bb)) = hN τ bb by omega] at hmi
    have z0 : (0 : Int32).toNatClampNeg = 0 := rfl
    have hnb : (nI (hN τ bb)).toNatClampNeg = hN τ bb := n_nat (by omega)
    have hnn : ¬ nI (hN τ bb) < 0 := by show ¬ nI (hN τ bb) < nI 0; rw [n_lt (by omega) (by omega)]; omega
    unfold f_AR_copyOfB
    refine X_chk a2 (X_nif (by rw [n_eq (by omega) (by omega)]; omega) (X_chk ⟨by show ¬ nI _ < nI 0; rw [n_lt (by omega) (by omega)]; omega, by rw [hnL]; exact hL⟩ (X_tk (c' := 0) (m' := 0) ?_ (by rw [hnL]; simp; rfl))))
    refine X_bnd (X_bnd (X_chk ?_ (X_P (a := nI (hN τ bb)) ?_ (X_chk ?_ (X_chk ?_ ?_)))))
    · rw [gT_arr, if_neg hne]; exact a2
    · rw [hnL, hN5]; exact hmi
    · rw [gT_arr, if_pos rfl]
    · rw [hnL, hN5, hNX, z0, hnb]
      exact ⟨by decide, by decide, hnn, by omega, by omega⟩
    · rw [hnL, hnb]; rfl
  have hT5 : hT (mh_cpy (mh_arr τ 1 (max need (2 * hN τ bb))) bb (hX τ) 0 0 (hN τ bb)) br = 1 := by
    show hT (mh_arr τ 1 (max need (2 * hN τ bb))) br = 1
    rw [gT_arr, if_neg (by omega)]; exact a1
  unfold f_BR_makeRoom
  refine X_chk a1 (X_rfO c1 (X_chk a2 (X_nif (by rw [n_le (by omega) (by omega)]; omega) (X_P (a := nI (max need (2 * hN τ bb))) (by rw [e2]; exact mx_val (by omega) (by omega)) ?_))))
  exact X_AI hcp (X_tk (X_chk hT5 rfl) (by simp))
end ROOM
