/-! THE CLASS LAYS A TREE -/
def az (σ : mh_H) (A : Nat → Nat → Int32) : mh_H := (hT σ, hI σ, hR σ, A, hQ σ, hN σ, hX σ)
def sP (A : Nat → Nat → Int32) (kk pp vv zz ww k : Nat) (a b c d e : Int32) : Nat → Nat → Int32 := fun x i => if i = k then (if x = kk then a else if x = pp then b else if x = vv then c else if x = zz then d else if x = ww then e else A x i) else A x i
theorem az_T (σ : mh_H) (A : Nat → Nat → Int32) : hT (az σ A) = hT σ := rfl
theorem az_R (σ : mh_H) (A : Nat → Nat → Int32) : hR (az σ A) = hR σ := rfl
theorem az_I (σ : mh_H) (A : Nat → Nat → Int32) : hI (az σ A) = hI σ := rfl
theorem az_N (σ : mh_H) (A : Nat → Nat → Int32) : hN (az σ A) = hN σ := rfl
theorem az_A (σ : mh_H) (A : Nat → Nat → Int32) : hA (az σ A) = A := rfl
theorem az_self (σ : mh_H) : az σ (hA σ) = σ := rfl
def LaE (σ : mh_H) (tr dd dk dp dv dz kk pp vv zz ww cnt : Nat) : Prop :=
  (hT σ tr = 11 ∧ hT σ dd = 3) ∧ (hT σ dk = 2 ∧ hT σ dp = 2 ∧ hT σ dv = 2 ∧ hT σ dz = 2) ∧ (hT σ kk = 2 ∧ hT σ pp = 2 ∧ hT σ vv = 2 ∧ hT σ zz = 2 ∧ hT σ ww = 2) ∧
  (hR σ 1 0 dd = some dk ∧ hR σ 1 1 dd = some dp ∧ hR σ 1 2 dd = some dv ∧ hR σ 1 3 dd = some dz) ∧ (hR σ 5 1 tr = some kk ∧ hR σ 5 2 tr = some pp ∧ hR σ 5 3 tr = some vv ∧ hR σ 5 4 tr = some zz ∧ hR σ 5 6 tr = some ww) ∧
  (cnt ≤ hN σ dk ∧ cnt ≤ hN σ dp ∧ cnt ≤ hN σ dv ∧ cnt ≤ hN σ dz) ∧ (cnt ≤ hN σ kk ∧ cnt ≤ hN σ pp ∧ cnt ≤ hN σ vv ∧ cnt ≤ hN σ zz ∧ cnt ≤ hN σ ww) ∧
  (kk ≠ pp ∧ kk ≠ vv ∧ kk ≠ zz ∧ kk ≠ ww ∧ pp ≠ vv ∧ pp ≠ zz ∧ pp ≠ ww ∧ vv ≠ zz ∧ vv ≠ ww ∧ zz ≠ ww) ∧ (kk ≠ dk ∧ kk ≠ dp ∧ kk ≠ dv ∧ kk ≠ dz) ∧ (pp ≠ dk ∧ pp ≠ dp ∧ pp ≠ dv ∧ pp ≠ dz) ∧ (vv ≠ dk ∧ vv ≠ dp ∧ vv ≠ dv ∧ vv ≠ dz) ∧ (zz ≠ dk ∧ zz ≠ dp ∧ zz ≠ dv ∧ zz ≠ dz) ∧ (ww ≠ dk ∧ ww ≠ dp ∧ ww ≠ dv ∧ ww ≠ dz) ∧ cnt < 30000 ∧ hI σ 5 0 tr = nI cnt
section HAS
variable {σ : mh_H} {tr cnt k b N : Nat}
/-- a tree's node, by its number -/
theorem t_has (h1 : hT σ tr = 11) (h2 : hI σ 5 0 tr = nI cnt) (hk : k < cnt) (hc : cnt < 1000000) : f_TR_has N tr (nI k) σ = some (1, σ) := by
  unfold f_TR_has
  refine X_nif ?_ (X_chk h1 (X_nif ?_ rfl))
  · show ¬ nI k < nI 0
    rw [n_lt (by omega) (by omega)]; omega
  · rw [h2, n_le (by omega) (by omega)]; omega
theorem t_hasn (h1 : hT σ tr = 11) (h2 : hI σ 5 0 tr = nI cnt) (hk : cnt ≤ k) (hc : cnt < 1000000) (hk2 : k < 2147483648) : f_TR_has N tr (nI k) σ = some (0, σ) := by
  unfold f_TR_has
  refine X_nif ?_ (X_chk h1 (X_if ?_ rfl))
  · show ¬ nI k < nI 0
    rw [n_lt (by omega) (by omega)]; omega
  · rw [h2, n_le (by omega) (by omega)]; exact hk
theorem t_hasx {x : Int32} (hx : x < 0) : f_TR_has N tr x σ = some (0, σ) := by
  unfold f_TR_has
  exact X_if hx rfl
theorem t_hasm : f_TR_has N tr (-1) σ = some (0, σ) := t_hasx (by decide)
theorem t_at {b : Nat} (hk : k < 1000000) (ht : hT σ b = 2) (hn : k < hN σ b) : (chk (hT σ b = 2) <| chk (ib (nI k) (hN σ b)) <| some ((hA σ b (Int32.toNatClampNeg (nI k))), σ)) = some (hA σ b k, σ) := by
  refine X_chk ht (X_chk (by rw [n_ib (by omega)]; exact hn) ?_)
  rw [n_nat (by omega)]
theorem t_kindOf (h1 : hT σ tr = 11) (h2 : hI σ 5 0 tr = nI cnt) (hk : k < cnt) (hc : cnt < 1000000) (hr : hR σ 5 1 tr = some b) (ht : hT σ b = 2) (hn : k < hN σ b) : f_TR_kindOf N tr (nI k) σ = some (hA σ b k, σ) := by
  unfold f_TR_kindOf
  exact X_chk h1 (X_I (t_has h1 h2 hk hc) (X_nif n10 (X_chk h1 (X_rfO hr (t_at (by omega) ht hn)))))
theorem t_valueOf (h1 : hT σ tr = 11) (h2 : hI σ 5 0 tr = nI cnt) (hk : k < cnt) (hc : cnt < 1000000) (hr : hR σ 5 3 tr = some b) (ht : hT σ b = 2) (hn : k < hN σ b) : f_TR_valueOf N tr (nI k) σ = some (hA σ b k, σ) := by
  unfold f_TR_valueOf
  exact X_chk h1 (X_I (t_has h1 h2 hk hc) (X_nif n10 (X_chk h1 (X_rfO hr (t_at (by omega) ht hn)))))
theorem t_partsOf (h1 : hT σ tr = 11) (h2 : hI σ 5 0 tr = nI cnt) (hk : k < cnt) (hc : cnt < 1000000) (hr : hR σ 5 5 tr = some b) (ht : hT σ b = 2) (hn : k < hN σ b) : f_TR_partsOf N tr (nI k) σ = some (hA σ b k, σ) := by
  unfold f_TR_partsOf
  exact X_chk h1 (X_I (t_has h1 h2 hk hc) (X_nif n10 (X_chk h1 (X_rfO hr (t_at (by omega) ht hn)))))
theorem t_wholeOf (h1 : hT σ tr = 11) (h2 : hI σ 5 0 tr = nI cnt) (hk : k < cnt) (hc : cnt < 1000000) (hr : hR σ 5 6 tr = some b) (ht : hT σ b = 2) (hn : k < hN σ b) : f_TR_wholeOf N tr (nI k) σ = some (hA σ b k, σ) := by
  unfold f_TR_wholeOf
  exact X_chk h1 (X_I (t_has h1 h2 hk hc) (X_nif n10 (X_chk h1 (X_rfO hr (t_at (by omega) ht hn)))))
theorem t_rankOf (h1 : hT σ tr = 11) (h2 : hI σ 5 0 tr = nI cnt) (hk : k < cnt) (hc : cnt < 1000000) (hr : hR σ 5 7 tr = some b) (ht : hT σ b = 2) (hn : k < hN σ b) : f_TR_rankOf N tr (nI k) σ = some (hA σ b k, σ) := by
  unfold f_TR_rankOf
  exact X_chk h1 (X_I (t_has h1 h2 hk hc) (X_nif n10 (X_chk h1 (X_rfO hr (t_at (by omega) ht hn)))))
theorem t_kindm (h1 : hT σ tr = 11) : f_TR_kindOf N tr (-1) σ = some (33, σ) := by
  unfold f_TR_kindOf
  exact X_chk h1 (X_I t_hasm (X_if rfl rfl))
end HAS
section LAY
variable {σ : mh_H} {tr dd dk dp dv dz kk pp vv zz ww cnt N : Nat} {A : Nat → Nat → Int32}
theorem lay_step {k12 : Nat → Nat → Int32 → Int32 → Int32 → mh_H → Option mh_H} {y2 : Int32} {r i s k : Nat} (h : LaE σ tr dd dk dp dv dz kk pp vv zz ww cnt) (hi : i < cnt) (hz : A dz i = nI s) (hs : s ≤ i + 1) (hr : r < 30000) (hk : k + s = i + 1 + r) (hkc : k < cnt) :
    k_TR_placeNodes_41 N k12 tr dd y2 (nI r) (nI i) (az σ A) = k12 tr dd (nI k) (nI (r + 1)) (nI i + (-1)) (az σ (sP A kk pp vv zz ww k (A dk i) (A dp i) (A dv i) (A dz i) y2)) := by
  obtain ⟨⟨a1, a2⟩, ⟨a3, a4, a5, a6⟩, ⟨a7, a8, a9, a10, a11⟩, ⟨c1, c2, c3, c4⟩, ⟨c5, c6, c7, c8, c9⟩, ⟨e1, e2, e3, e4⟩, ⟨e5, e6, e7, e8, e9⟩, ⟨g1, g2, g3, g4, g5, g6, g7, g8, g9, g10⟩, ⟨m1, m2, m3, m4⟩, ⟨m5, m6, m7, m8⟩, ⟨m9, m10, m11, m12⟩, ⟨m13, m14, m15, m16⟩, ⟨m17, m18, m19, m20⟩, hc, hc5⟩ := h
  have ek : nI i - nI s + nI 1 + nI r = nI k := by
    by_cases hsi : s ≤ i
    · rw [n_sub hsi, n_add, n_add]; congr 1; omega
    · have : s = i + 1 := by omega
      subst this
      have e : nI i - nI (i + 1) + nI 1 = nI 0 := by
        rw [← n_add i 1]
        have q : nI i - (nI i + nI 1) = -nI 1 := by
          rw [Int32.sub_eq_add_neg, Int32.neg_add, Int32.sub_eq_add_neg, ← Int32.add_assoc, Int32.add_right_neg, Int32.zero_add]
        rw [q]; decide
      rw [e, n_add]; congr 1; omega
  have b1 : i < hN σ dk ∧ i < hN σ dp ∧ i < hN σ dv ∧ i < hN σ dz := ⟨by omega, by omega, by omega, by omega⟩
  have b2 : k < hN σ kk ∧ k < hN σ pp ∧ k < hN σ vv ∧ k < hN σ zz ∧ k < hN σ ww := ⟨by omega, by omega, by omega, by omega, by omega⟩
  have q1 : (dp = kk) = False := by simp [m2.symm]
  have q2 : (dv = kk) = False := by simp [m3.symm]
  have q3 : (dv = pp) = False := by simp [m7.symm]
  have q4 : (dz = kk) = False := by simp [m4.symm]
  have q5 : (dz = pp) = False := by simp [m8.symm]
  have q6 : (dz = vv) = False := by simp [m12.symm]
  have ei : nI i < 2147483648 → True := fun _ => trivial
  have hni : (nI i).toNatClampNeg = i := n_nat (by omega)
  have hnk : (nI k).toNatClampNeg = k := n_nat (by omega)
  have ib1 : ∀ m, ib (nI i) m = (i < m) := fun m => n_ib (by omega)
  have ib2 : ∀ m, ib (nI k) m = (k < m) := fun m => n_ib (by omega)
  have e31 : nI r + 1 = nI (r + 1) := n_add r 1
  have fin : mh_setA (mh_setA (mh_setA (mh_setA (mh_setA (az σ A) kk k (A dk i)) pp k (A dp i)) vv k (A dv i)) zz k (A dz i)) ww k y2 = az σ (sP A kk pp vv zz ww k (A dk i) (A dp i) (A dv i) (A dz i) y2) := by
    refine mh_ext rfl (fun _ _ _ => rfl) (fun _ _ _ => rfl) (fun b j => ?_) rfl rfl rfl
    rw [gA_setA, gA_setA, gA_setA, gA_setA, gA_setA, az_A, az_A]
    unfold sP
    by_cases hj : j = k
    · subst hj
      by_cases c1 : b = kk
      · subst c1; simp [g1, g2, g3, g4]
      · by_cases c2 : b = pp
        · subst c2; simp [c1, g5, g6, g7]
        · by_cases c3 : b = vv
          · subst c3; simp [c1, c2, g8, g9]
          · by_cases c4 : b = zz
            · subst c4; simp [c1, c2, c3, g10]
            · simp [c1, c2, c3, c4]
    · simp [hj]
  unfold k_TR_placeNodes_41
  have hk1 : nI i - hA (az σ A) dz i + 1 + nI r = nI k := by rw [az_A, hz]; exact ek
  refine X_chk a2 (X_rfO c4 (X_chk a6 (X_chk (by rw [ib1]; exact b1.2.2.2) (X_bndE (x' := nI k) (by rw [hni]; exact hk1) (X_chk a1 (X_V (s := az σ (sP A kk pp vv zz ww k (A dk i) (A dp i) (A dv i) (A dz i) y2)) ?_ ?_))))))
  · unfold f_TR_placeNode
    refine X_chk a1 (X_I (t_has a1 hc5 hkc (by omega)) (X_nif n10 (X_chk a1 ?_)))
    refine X_rfO c5 (X_chk a2 (X_rfO c1 (X_chk a3 (X_chk (by rw [ib1]; exact b1.1) (X_bndE (x' := A dk i) (by rw [hni]; rfl) (X_chk a7 (X_chk (by rw [ib2]; exact b2.1) ?_)))))))
    refine X_rfO c6 (X_rfO c2 (X_chk a4 (X_chk (by rw [ib1]; exact b1.2.1) (X_bndE (x' := A dp i) (by simp only [gA_setA, az_A, hni, q1, false_and, if_false]) (X_chk a8 (X_chk (by rw [ib2]; exact b2.2.1) ?_))))))
    refine X_rfO c7 (X_rfO c3 (X_chk a5 (X_chk (by rw [ib1]; exact b1.2.2.1) (X_bndE (x' := A dv i) (by simp only [gA_setA, az_A, hni, q2, q3, false_and, if_false]) (X_chk a9 (X_chk (by rw [ib2]; exact b2.2.2.1) ?_))))))
    refine X_rfO c8 (X_rfO c4 (X_chk a6 (X_chk (by rw [ib1]; exact b1.2.2.2) (X_bndE (x' := A dz i) (by simp only [gA_setA, az_A, hni, q4, q5, q6, false_and, if_false]) (X_chk a10 (X_chk (by rw [ib2]; exact b2.2.2.2.1) ?_))))))
    refine X_rfO c9 (X_chk a11 (X_chk (by rw [ib2]; exact b2.2.2.2.2) ?_))
    rw [hnk, fin]
  · rw [e31]
end LAY
