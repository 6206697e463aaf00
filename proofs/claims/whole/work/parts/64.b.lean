/-! the class's names: their chains -/
def hsh (w : List Int32) : Int32 := w.foldl (fun a c => 31 * a + c) 0
def hx (w : List Int32) (R : Nat) : Nat := (hsh w &&& nI (R - 1)).toBitVec.toNat
theorem hx_lt (w : List Int32) (R : Nat) (h0 : 0 < R) (h1 : R < 100000) : hx w R < R := by
  unfold hx
  rw [Int32.toBitVec_and, BitVec.toNat_and]
  have e : (nI (R - 1)).toBitVec.toNat = R - 1 := by
    show (Int32.ofNat (R - 1)).toBitVec.toNat = R - 1
    rw [Int32.toBitVec_ofNat', BitVec.toNat_ofNat]; omega
  rw [e]
  have := Nat.and_le_right (n := (hsh w).toBitVec.toNat) (m := R - 1)
  omega
theorem hx_eq (w : List Int32) (R : Nat) (h0 : 0 < R) (h1 : R < 100000) : hsh w &&& nI (R - 1) = nI (hx w R) := by
  apply Int32.toBitVec_inj.mp
  show _ = (Int32.ofNat (hx w R)).toBitVec
  rw [Int32.toBitVec_ofNat']
  apply BitVec.eq_of_toNat_eq
  rw [BitVec.toNat_ofNat]
  have := hx_lt w R h0 h1
  have e : (hsh w &&& nI (R - 1)).toBitVec.toNat = hx w R := rfl
  rw [e]; omega
/-- a stretch of a row of bytes -/
def sl (b : Nat → Int32) (p l : Nat) : List Int32 := wd b p l
section NAMES
variable {τ : mh_H} {na hd tb N : Nat}
theorem n_chain {R p l : Nat} (a1 : hT τ na = 5) (c4 : hR τ 2 4 na = some hd) (a4 : hT τ hd = 2) (hR : hN τ hd = R) (hR0 : 0 < R) (hR1 : R < 100000) (at4 : hT τ tb = 4) (hpl : p + l ≤ hN τ tb) (hpl2 : p + l < 100000) : ∀ m j fu acc, l - j ≤ m → m < fu → j ≤ l → acc = hsh ((wd (hA τ tb) p l).take j) → k_NA_chain_6 N fu na tb (nI (p + l)) acc (nI (p + j)) τ = some (nI (hx (wd (hA τ tb) p l) R), τ) := by
  have hend : nI R - 1 = nI (R - 1) := n_sub (b := 1) (by omega)
  have hfin : ∀ fu acc, acc = hsh (wd (hA τ tb) p l) → k_NA_chain_6 N (fu + 1) na tb (nI (p + l)) acc (nI (p + l)) τ = some (nI (hx (wd (hA τ tb) p l) R), τ) := by
    intro fu acc ha
    unfold k_NA_chain_6
    refine X_if (by rw [n_le (by omega) (by omega)]; exact Nat.le_refl _) (X_chk a1 (X_rfO c4 (X_chk a4 ?_)))
    rw [hR, hend, ha, hx_eq _ _ hR0 hR1]
  intro m
  induction m with
  | zero =>
    intro j fu acc h1 hfu hj ha
    obtain ⟨fu, rfl⟩ : ∃ x, fu = x + 1 := ⟨fu - 1, by omega⟩
    have ej : j = l := by omega
    subst ej
    refine hfin fu acc ?_
    rw [ha, List.take_of_length_le (by rw [wd_len]; exact Nat.le_refl _)]
  | succ m ih =>
    intro j fu acc h1 hfu hj ha
    obtain ⟨fu, rfl⟩ : ∃ x, fu = x + 1 := ⟨fu - 1, by omega⟩
    by_cases ej : j = l
    · subst ej
      refine hfin fu acc ?_
      rw [ha, List.take_of_length_le (by rw [wd_len]; exact Nat.le_refl _)]
    · have hjl : j < (wd (hA τ tb) p l).length := by rw [wd_len]; omega
      have hacc : 31 * acc + hA τ tb (nI (p + j)).toNatClampNeg = hsh ((wd (hA τ tb) p l).take (j + 1)) := by
        rw [n_nat (by omega), ha, List.take_add_one, List.getElem?_eq_getElem hjl, wd_get]
        simp only [hsh, Option.toList_some, List.foldl_append, List.foldl_cons, List.foldl_nil]
      unfold k_NA_chain_6
      refine X_nif (by rw [n_le (by omega) (by omega)]; omega) (X_chk at4 (X_chk (by rw [n_ib (by omega)]; omega) (X_bndE hacc ?_)))
      rw [show nI (p + j) + 1 = nI (p + (j + 1)) from n_add (p + j) 1]
      exact ih (j + 1) fu _ (by omega) (by omega) (by omega) rfl
theorem n_chainOf {R p l : Nat} (hNN : 40000 ≤ N) (a1 : hT τ na = 5) (c4 : hR τ 2 4 na = some hd) (a4 : hT τ hd = 2) (hR : hN τ hd = R) (hR0 : 0 < R) (hR1 : R < 100000) (at4 : hT τ tb = 4) (hpl : p + l ≤ hN τ tb) (hpl2 : p + l < 20000) : f_NA_chain N na tb (nI p) (nI (p + l)) τ = some (nI (hx (wd (hA τ tb) p l) R), τ) :=
  n_chain (N := N) a1 c4 a4 hR hR0 hR1 at4 hpl (by omega) l 0 N 0 (by omega) (by omega) (by omega) rfl
end NAMES
