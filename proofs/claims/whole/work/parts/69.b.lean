/-! rows of bytes: ranges, copies, single bytes -/
section ROWS2
variable {τ : mh_H} {br bb most N src p n : Nat} {l : List Int32}
theorem n_sub' {a b : Nat} (h : b ≤ a) : nI a - nI b = nI (a - b) := by
  have e : nI a = nI (a - b) + nI b := by rw [n_add]; congr 1; omega
  rw [e, Int32.add_sub_cancel]
/-- a range of another row more -/
theorem b_range (H : Rw τ br bb most l) (hl : l.length + n ≤ most) (hs : hT τ src = 4) (hs1 : src < hX τ) (hs2 : src ≠ bb) (hp : p + n ≤ hN τ src) (hp2 : p + n < 100000) (hbn : hN τ src < 1000000) : RS τ br bb most (f_BR_addRange N br src (nI p) (nI (p + n)) τ) (l ++ wd (hA τ src) p n) := by
  obtain ⟨τ1, b1, c, m, r1, R1, r2, r3, r4, r8⟩ := b_room (N := N) (need := l.length + n) H (by omega)
  obtain ⟨⟨h1, h2, h3⟩, ⟨h4, h5⟩, ⟨h6, h7, h8, h9, h64⟩, ⟨h10, h11⟩, h12⟩ := H
  obtain ⟨⟨i1, i2, i3⟩, ⟨i4, i5⟩, ⟨i6, i7, i8, i9, i64⟩, ⟨i10, i11⟩, i12⟩ := R1
  have hsb : src ≠ b1 := by
    rcases r4.2.2.1 with e | e
    · rw [e]; exact hs2
    · omega
  have es1 := (r3.2.1 src hs1).1
  have es2 := (r3.2.1 src hs1).2
  refine ⟨mh_setI (mh_cpy τ1 src b1 p l.length n) 0 1 br (nI (l.length + n)), b1, c, m, ?_, ⟨⟨i1, i2, i3⟩, ⟨?_, ?_⟩, ⟨?_, i7, ?_, i9, i64⟩, ⟨i10, i11⟩, ?_⟩, ?_, r4, ?_⟩
  · have e1 : nI (p + n) - nI p = nI n := by rw [n_sub' (by omega)]; congr 1; omega
    have hn1 : (nI l.length).toNatClampNeg = l.length := n_nat (by omega)
    have hn2 : (nI n).toNatClampNeg = n := n_nat (by omega)
    have hn3 : (nI p).toNatClampNeg = p := n_nat (by omega)
    unfold f_BR_addRange
    refine X_bndE (x' := nI n) e1 (X_nif (by show ¬ nI p < nI 0; rw [n_lt (by omega) (by omega)]; omega) (X_nif (by show ¬ nI n < nI 0; rw [n_lt (by omega) (by omega)]; omega) (X_chk hs (X_nif (by rw [n_lt (by omega) (by omega)]; omega) ?_))))
    unfold k_BR_addRange_25
    refine X_nif n10 (X_chk h1 (X_if (by rw [h4, h5, n_sub' (by omega), n_le (by omega) (by omega)]; omega) ?_))
    rw [h4, n_add]
    refine X_A r1 (X_tk (a := mh_setI (mh_cpy τ1 src b1 p l.length n) 0 1 br (nI (l.length + n))) (c' := 0) (m' := 0) ?_ (by simp))
    refine X_chk i1 (X_rfO i2 (X_chk (by rw [es1]; exact hs) (X_chk i3 (X_chk ?_ ?_))))
    · rw [i4, hn1, hn2, hn3, es2]
      refine ⟨?_, ?_, ?_, hp, r2⟩
      · show ¬ nI p < nI 0
        rw [n_lt (by omega) (by omega)]; omega
      · show ¬ nI l.length < nI 0
        rw [n_lt (by omega) (by omega)]; omega
      · show ¬ nI n < nI 0
        rw [n_lt (by omega) (by omega)]; omega
    · rw [i4, hn1, hn2, hn3]
      refine X_bndE (x' := nI l.length) (by rw [gI_cpy]; exact i4) (X_bndE (x' := nI (l.length + n)) (n_add _ n) rfl)
  · rw [gI_setI, if_pos ⟨rfl, rfl, rfl⟩, List.length_append, wd_len]
  · rw [gI_setI, if_neg (by rintro ⟨_, h, _⟩; omega), gI_cpy]; exact i5
  · rw [List.length_append, wd_len]; exact r2
  · rw [List.length_append, wd_len]; omega
  · intro i hi
    rw [List.length_append, wd_len] at hi
    rw [gA_setI, gA_cpy]
    by_cases e : i < l.length
    · rw [if_neg (by rintro ⟨_, h, _⟩; omega), List.getElem_append_left e]
      exact i12 i e
    · rw [if_pos ⟨rfl, by omega, by omega⟩, List.getElem_append_right (by omega), wd_get]
      exact r3.2.2.2.2.1 src _ hs1 hs2
  · refine Fr_trans r3 (bb' := b1) ⟨Nat.le_refl _, fun _ _ => ⟨rfl, rfl⟩, fun k j a ha hn => ?_, fun _ _ _ _ _ => rfl, fun b i hb hne => ?_, fun _ _ _ => rfl, ?_⟩ r4.2.2.1
    · rw [gI_setI, if_neg (by rintro ⟨h, _, h'⟩; exact hn ⟨h, h'⟩), gI_cpy]
    · rw [gA_setI, gA_cpy, if_neg (fun h => hne h.1)]
    · rw [gI_setI, if_neg (by rintro ⟨_, h, _⟩; omega), gI_cpy]
  · rw [gI_setI, if_neg (by rintro ⟨_, h, _⟩; omega), gI_cpy]; exact r8 2
theorem b_rangef (H : Rw τ br bb most l) (hl : most < l.length + n) (hs : hT τ src = 4) (hp2 : p + n < 100000) : f_BR_addRange N br src (nI p) (nI (p + n)) τ = some (mh_setI τ 0 2 br 1, 0, 0) := by
  obtain ⟨⟨h1, h2, h3⟩, ⟨h4, h5⟩, ⟨h6, h7, h8, h9, h64⟩, ⟨h10, h11⟩, h12⟩ := H
  have e1 : nI (p + n) - nI p = nI n := by rw [n_sub' (by omega)]; congr 1; omega
  unfold f_BR_addRange
  refine X_bndE (x' := nI n) e1 (X_nif (by show ¬ nI p < nI 0; rw [n_lt (by omega) (by omega)]; omega) (X_nif (by show ¬ nI n < nI 0; rw [n_lt (by omega) (by omega)]; omega) (X_chk hs ?_)))
  by_cases hin : nI (hN τ src) < nI (p + n)
  · refine X_if hin ?_
    unfold k_BR_addRange_25
    exact X_if rfl (X_chk h1 rfl)
  · refine X_nif hin ?_
    unfold k_BR_addRange_25
    exact X_nif n10 (X_chk h1 (X_nif (by rw [h4, h5, n_sub' (by omega), n_le (by omega) (by omega)]; omega) rfl))
theorem b_clear (H : Rw τ br bb most l) : ∃ τ', f_BR_clear N br τ = some τ' ∧ Rw τ' br bb most [] ∧ Fr br bb τ τ' ∧ hI τ' 0 2 br = 0 ∧ hX τ' = hX τ ∧ hN τ' = hN τ := by
  obtain ⟨⟨h1, h2, h3⟩, ⟨h4, h5⟩, ⟨h6, h7, h8, h9, h64⟩, ⟨h10, h11⟩, h12⟩ := H
  refine ⟨_, X_chk h1 rfl, ⟨⟨h1, h2, h3⟩, ⟨?_, ?_⟩, ⟨Nat.zero_le _, h7, Nat.zero_le _, h9, h64⟩, ⟨h10, h11⟩, fun i hi => absurd hi (by simp)⟩, ⟨Nat.le_refl _, fun _ _ => ⟨rfl, rfl⟩, fun k j a ha hn => ?_, fun _ _ _ _ _ => rfl, fun b i hb hne => rfl, fun _ _ _ => rfl, ?_⟩, ?_, rfl, rfl⟩
  · rw [gI_setI, if_neg (by rintro ⟨_, h, _⟩; omega), gI_setI, if_pos ⟨rfl, rfl, rfl⟩]; rfl
  · rw [gI_setI, if_neg (by rintro ⟨_, h, _⟩; omega), gI_setI, if_neg (by rintro ⟨_, h, _⟩; omega)]; exact h5
  · rw [gI_setI, if_neg (by rintro ⟨h, _, h'⟩; exact hn ⟨h, h'⟩), gI_setI, if_neg (by rintro ⟨h, _, h'⟩; exact hn ⟨h, h'⟩)]
  · rw [gI_setI, if_neg (by rintro ⟨_, h, _⟩; omega), gI_setI, if_neg (by rintro ⟨_, h, _⟩; omega)]
  · rw [gI_setI, if_pos ⟨rfl, rfl, rfl⟩]
/-- a row that is not the one changed -/
theorem Rw_fr {br' bb' most' : Nat} {l' : List Int32} {τ' : mh_H} (F : Fr br bb τ τ') (H : Rw τ br' bb' most' l') (h1 : br' ≠ br) (h2 : bb' ≠ bb) : Rw τ' br' bb' most' l' := by
  obtain ⟨x1, x2, x3, x4, x5, x6, x7⟩ := F
  obtain ⟨⟨i1, i2, i3⟩, ⟨i4, i5⟩, ⟨i6, i7, i8, i9, i64⟩, ⟨i10, i11⟩, i12⟩ := H
  have n1 : ¬ (0 = 0 ∧ br' = br) := fun h => h1 h.2
  have n2 : ¬ (0 = 0 ∧ 0 = 0 ∧ br' = br) := fun h => h1 h.2.2
  refine ⟨⟨by rw [(x2 _ i10).1]; exact i1, by rw [x4 _ _ _ i10 n2]; exact i2, by rw [(x2 _ i11).1]; exact i3⟩, ⟨by rw [x3 _ _ _ i10 n1]; exact i4, by rw [x3 _ _ _ i10 n1]; exact i5⟩, ?_, ⟨by omega, by omega⟩, fun i hi => by rw [x5 _ _ i11 h2]; exact i12 i hi⟩
  rw [(x2 _ i11).2]; exact ⟨i6, i7, i8, i9, i64⟩
/-- a copy of another row -/
theorem b_copy {os ob most' : Nat} {lo : List Int32} (H : Rw τ br bb most l) (O : Rw τ os ob most' lo) (h1 : os ≠ br) (h2 : ob ≠ bb) (hm : lo.length ≤ most) : ∃ τ' bb' c m, f_BR_copy N br os τ = some (τ', c, m) ∧ Rw τ' br bb' most lo ∧ Fr br bb τ τ' ∧ Gw τ τ' bb bb' c m ∧ hI τ' 0 2 br = 0 := by
  obtain ⟨τ1, r1, R1, f1, r2, r3, r4⟩ := b_clear (N := N) H
  have O1 := Rw_fr f1 O h1 h2
  obtain ⟨τ2, b2, c, m, s1, S1, s2, s3, s4⟩ := b_range (N := N) (p := 0) (n := lo.length) R1 (by simp; exact hm) O1.1.2.2 O1.2.2.2.1.2 h2 (by have := O1.2.2.1.1; omega) (by have := O1.2.2.1.2.2.1; have := O1.2.2.1.2.2.2.1; omega) (by have := O1.2.2.1.2.1; have := O1.2.2.1.2.2.2.1; omega)
  have ew : wd (hA τ1 ob) 0 lo.length = lo := (wd_eq rfl (fun i hi => by rw [Nat.zero_add]; exact (O1.2.2.2.2 i hi).symm)).symm
  rw [ew, List.nil_append] at S1
  refine ⟨τ2, b2, c, m, ?_, S1, Fr_trans f1 s2 (Or.inl rfl), ?_, by rw [s4, r2]⟩
  · unfold f_BR_copy
    refine X_chk H.1.1 (X_V r1 (X_chk O1.1.1 (X_rfO O1.1.2.1 (X_chk R1.1.1 ?_))))
    rw [O1.2.1.1]
    rw [show 0 + lo.length = lo.length by omega] at s1
    exact X_A s1 (X_tk rfl (by simp))
  · obtain ⟨g1, g2, g3, g4⟩ := s3
    rw [r4] at g1 g2; rw [r3] at g3 g4
    exact ⟨g1, g2, g3, g4⟩
/-- one byte of it -/
theorem b_at {x : Int32} (H : Rw τ br bb most l) : f_BR_byteAt N br x τ = some (if ¬ x < 0 ∧ x.toNatClampNeg < l.length then l.getD x.toNatClampNeg 0 &&& 255 else -1, τ) := by
  obtain ⟨⟨h1, h2, h3⟩, ⟨h4, h5⟩, ⟨h6, h7, h8, h9, h64⟩, ⟨h10, h11⟩, h12⟩ := H
  unfold f_BR_byteAt
  by_cases hx : x < 0
  · rw [if_pos hx, if_neg (fun h => h.1 hx)]
  · rw [if_neg hx]
    have hx' : 0 ≤ x.toInt := by
      rw [Int32.lt_iff_toInt_lt] at hx
      have : (0 : Int32).toInt = 0 := rfl
      omega
    have ht : (x.toNatClampNeg : Int) = x.toInt := by rw [← Int32.toNat_toInt]; exact Int.toNat_of_nonneg hx'
    have hcmp : (hI τ 0 1 br ≤ x) = (l.length ≤ x.toNatClampNeg) := by
      rw [h4, Int32.le_iff_toInt_le, nI, Int32.toInt_ofNat_of_lt (by omega)]
      apply propext; constructor <;> intro h <;> omega
    refine X_chk h1 ?_
    by_cases hc : l.length ≤ x.toNatClampNeg
    · rw [if_pos (by rw [hcmp]; exact hc), if_neg (by omega)]
    · rw [if_neg (by rw [hcmp]; exact hc), if_pos ⟨hx, by omega⟩]
      refine X_rfO h2 (X_chk h3 (X_chk ⟨hx, by omega⟩ ?_))
      rw [h12 _ (by omega)]
      congr 3
      simp [List.getD, show x.toNatClampNeg < l.length by omega]
end ROWS2
