/-! rows of bytes: what they hold -/
def Rw (τ : mh_H) (br bb most : Nat) (l : List Int32) : Prop := (hT τ br = 1 ∧ hR τ 0 0 br = some bb ∧ hT τ bb = 4) ∧ (hI τ 0 1 br = nI l.length ∧ hI τ 0 3 br = nI most) ∧ (l.length ≤ hN τ bb ∧ hN τ bb ≤ 2 * most ∧ l.length ≤ most ∧ most ≤ 16384 ∧ 64 ≤ hN τ bb) ∧ (br < hX τ ∧ bb < hX τ) ∧ (∀ i (hi : i < l.length), hA τ bb i = l[i])
/-- what an operation on the row br leaves as it was -/
def Fr (br bb : Nat) (τ τ' : mh_H) : Prop := hX τ ≤ hX τ' ∧ (∀ a, a < hX τ → hT τ' a = hT τ a ∧ hN τ' a = hN τ a) ∧ (∀ k j a, a < hX τ → ¬ (k = 0 ∧ a = br) → hI τ' k j a = hI τ k j a) ∧ (∀ k j a, a < hX τ → ¬ (k = 0 ∧ j = 0 ∧ a = br) → hR τ' k j a = hR τ k j a) ∧ (∀ b i, b < hX τ → b ≠ bb → hA τ' b i = hA τ b i) ∧ (∀ b i, b < hX τ → hQ τ' b i = hQ τ b i) ∧ hI τ' 0 3 br = hI τ 0 3 br
theorem Fr_refl {br bb : Nat} {τ : mh_H} : Fr br bb τ τ := ⟨Nat.le_refl _, fun _ _ => ⟨rfl, rfl⟩, fun _ _ _ _ _ => rfl, fun _ _ _ _ _ => rfl, fun _ _ _ _ => rfl, fun _ _ _ => rfl, rfl⟩
theorem Fr_trans {br bb bb' : Nat} {τ τ' τ'' : mh_H} (h : Fr br bb τ τ') (h' : Fr br bb' τ' τ'') (hb : bb' = bb ∨ hX τ ≤ bb') : Fr br bb τ τ'' := by
  obtain ⟨x1, x2, x3, x4, x5, x6, x7⟩ := h
  obtain ⟨y1, y2, y3, y4, y5, y6, y7⟩ := h'
  refine ⟨by omega, fun a ha => ?_, fun k j a ha hn => ?_, fun k j a ha hn => ?_, fun b i hb1 hb2 => ?_, fun b i hb1 => ?_, by rw [y7, x7]⟩
  · have := x2 a ha; have := y2 a (by omega); exact ⟨by rw [(y2 a (by omega)).1, (x2 a ha).1], by rw [(y2 a (by omega)).2, (x2 a ha).2]⟩
  · rw [y3 k j a (by omega) hn, x3 k j a ha hn]
  · rw [y4 k j a (by omega) hn, x4 k j a ha hn]
  · rw [y5 b i (by omega) (by rcases hb with rfl | hb; exact hb2; omega), x5 b i hb1 hb2]
  · rw [y6 b i (by omega), x6 b i hb1]
/-- what it costs -/
def Gw (τ τ' : mh_H) (bb bb' c m : Nat) : Prop := 64 * c + hN τ bb ≤ hN τ' bb' ∧ m + 2 * hN τ bb ≤ 2 * hN τ' bb' ∧ (bb' = bb ∨ hX τ ≤ bb') ∧ hX τ ≤ hX τ'
theorem Gw_trans {τ τ' τ'' : mh_H} {b b' b'' c m c' m' : Nat} (h : Gw τ τ' b b' c m) (h' : Gw τ' τ'' b' b'' c' m') : Gw τ τ'' b b'' (c' + c) (m' + m) := by
  obtain ⟨x1, x2, x3, x4⟩ := h
  obtain ⟨y1, y2, y3, y4⟩ := h'
  refine ⟨by omega, by omega, ?_, by omega⟩
  rcases y3 with rfl | y3
  · exact x3
  · right; omega
section ROWS
variable {τ : mh_H} {br bb most N : Nat} {l : List Int32}
theorem b_room {need : Nat} (H : Rw τ br bb most l) (hn : need ≤ most) : ∃ τ' bb' c m, f_BR_makeRoom N br (nI need) τ = some (τ', c, m) ∧ Rw τ' br bb' most l ∧ need ≤ hN τ' bb' ∧ Fr br bb τ τ' ∧ Gw τ τ' bb bb' c m ∧ (∀ j, hI τ' 0 j br = hI τ 0 j br) := by
  obtain ⟨⟨h1, h2, h3⟩, ⟨h4, h5⟩, ⟨h6, h7, h8, h9, h64⟩, ⟨h10, h11⟩, h12⟩ := H
  by_cases hs : need ≤ hN τ bb
  · exact ⟨τ, bb, 0, 0, b_stay h1 h2 h3 (by omega) hs, ⟨⟨h1, h2, h3⟩, ⟨h4, h5⟩, ⟨h6, h7, h8, h9, h64⟩, ⟨h10, h11⟩, h12⟩, hs, Fr_refl, ⟨by omega, by omega, Or.inl rfl, Nat.le_refl _⟩, fun _ => rfl⟩
  · have hg := b_grow (N := N) (need := need) h1 h2 h3 (by omega) (by omega) (by omega) h10 h11
    have hneb : bb ≠ hX τ := by omega
    have hner : br ≠ hX τ := by omega
    have hNX : hN (mh_setR (mh_cpy (mh_arr τ 1 (max need (2 * hN τ bb))) bb (hX τ) 0 0 (hN τ bb)) 0 0 br (some (hX τ))) (hX τ) = max need (2 * hN τ bb) := by
      show hN (mh_arr τ 1 (max need (2 * hN τ bb))) (hX τ) = _
      rw [gN_arr, if_pos rfl]
    refine ⟨_, hX τ, 1, max need (2 * hN τ bb), hg, ⟨⟨?_, ?_, ?_⟩, ⟨h4, h5⟩, ⟨?_, ?_, h8, h9, ?_⟩, ⟨?_, ?_⟩, ?_⟩, ?_, ⟨?_, ?_, ?_, ?_, ?_, ?_, rfl⟩, ⟨?_, ?_, Or.inr (Nat.le_refl _), ?_⟩, fun _ => rfl⟩
    · show hT (mh_arr τ 1 (max need (2 * hN τ bb))) br = 1
      rw [gT_arr, if_neg hner]; exact h1
    · rw [gR_setR, if_pos ⟨rfl, rfl, rfl⟩]
    · show hT (mh_arr τ 1 (max need (2 * hN τ bb))) (hX τ) = 4
      rw [gT_arr, if_pos rfl]
    · rw [hNX]; omega
    · rw [hNX]; omega
    · rw [hNX]; omega
    · show br < hX τ + 1; omega
    · show hX τ < hX τ + 1; omega
    · intro i hi
      rw [gA_setR, gA_cpy, if_pos ⟨rfl, by omega, by omega⟩, gA_arr, if_neg hneb]
      rw [show 0 + (i - 0) = i by omega]; exact h12 i hi
    · rw [hNX]; omega
    · show hX τ ≤ hX τ + 1; omega
    · intro a ha
      refine ⟨?_, ?_⟩
      · show hT (mh_arr τ 1 (max need (2 * hN τ bb))) a = hT τ a
        rw [gT_arr, if_neg (by omega)]
      · show hN (mh_arr τ 1 (max need (2 * hN τ bb))) a = hN τ a
        rw [gN_arr, if_neg (by omega)]
    · intro k j a ha hn'; rfl
    · intro k j a ha hn'
      rw [gR_setR, if_neg hn']; rfl
    · intro b i hb hb2
      rw [gA_setR, gA_cpy, if_neg (by rintro ⟨h, _⟩; omega), gA_arr, if_neg (by omega)]
    · intro b i hb
      show hQ (mh_arr τ 1 (max need (2 * hN τ bb))) b i = hQ τ b i
      rw [gQ_arr, if_neg (by omega)]
    · rw [hNX]; omega
    · rw [hNX]; omega
    · show hX τ ≤ hX τ + 1; omega
def by8 (x : Int32) : Int32 := Int8.toInt32 (Int32.toInt8 x)
theorem by8_by8 (x : Int32) : by8 (by8 x) = by8 x := by simp [by8]
/-- a step of the row br: from l to l' -/
def RS (τ : mh_H) (br bb most : Nat) (r : Option (mh_H × Nat × Nat)) (l' : List Int32) : Prop := ∃ τ' bb' c m, r = some (τ', c, m) ∧ Rw τ' br bb' most l' ∧ Fr br bb τ τ' ∧ Gw τ τ' bb bb' c m ∧ hI τ' 0 2 br = hI τ 0 2 br
/-- one byte more -/
theorem b_add {x : Int32} (H : Rw τ br bb most l) (hl : l.length < most) : RS τ br bb most (f_BR_add N br x τ) (l ++ [by8 x]) := by
  obtain ⟨τ1, b1, c, m, r1, R1, r2, r3, r4, r8⟩ := b_room (N := N) (need := l.length + 1) H (by omega)
  obtain ⟨⟨h1, h2, h3⟩, ⟨h4, h5⟩, ⟨h6, h7, h8, h9, h64⟩, ⟨h10, h11⟩, h12⟩ := H
  obtain ⟨⟨i1, i2, i3⟩, ⟨i4, i5⟩, ⟨i6, i7, i8, i9, i64⟩, ⟨i10, i11⟩, i12⟩ := R1
  refine ⟨mh_setI (mh_setA τ1 b1 l.length (by8 x)) 0 1 br (nI (l.length + 1)), b1, c, m, ?_, ⟨⟨i1, i2, i3⟩, ⟨?_, ?_⟩, ⟨by simp; exact r2, i7, by simp; omega, i9, i64⟩, ⟨i10, i11⟩, ?_⟩, ?_, r4, ?_⟩
  · have e1 : hI τ 0 1 br + 1 = nI (l.length + 1) := by rw [h4]; exact n_add _ 1
    have hn : (nI l.length).toNatClampNeg = l.length := n_nat (by omega)
    unfold f_BR_add
    refine X_chk h1 (X_if (by rw [h4, h5, n_lt (by omega) (by omega)]; exact hl) ?_)
    rw [e1]
    refine X_A r1 (X_tk (a := mh_setI (mh_setA τ1 b1 l.length (by8 x)) 0 1 br (nI (l.length + 1))) (c' := 0) (m' := 0) ?_ (by simp))
    refine X_chk i1 (X_rfO i2 (X_bnd (X_chk i3 (X_chk (by rw [i4, n_ib (by omega)]; omega) ?_))))
    refine X_bndE (x' := nI l.length) (by rw [gI_setA]; exact i4) (X_bndE (x' := nI (l.length + 1)) (n_add _ 1) ?_)
    rw [i4, hn]
    show some (mh_setI (mh_setA τ1 b1 l.length (by8 (by8 x))) 0 1 br (nI (l.length + 1)), 0, 0) = _
    rw [by8_by8]
  · rw [gI_setI, if_pos ⟨rfl, rfl, rfl⟩]; simp
  · rw [gI_setI, if_neg (by rintro ⟨_, h, _⟩; omega), gI_setA]; exact i5
  · intro i hi
    rw [gA_setI, gA_setA]
    by_cases e : i = l.length
    · subst e; simp
    · simp only [List.length_append, List.length_cons, List.length_nil] at hi
      rw [if_neg (fun h => e h.2), List.getElem_append_left (by omega)]
      exact i12 i (by omega)
  · refine Fr_trans r3 (bb' := b1) ⟨Nat.le_refl _, fun _ _ => ⟨rfl, rfl⟩, fun k j a ha hn => ?_, fun _ _ _ _ _ => rfl, fun b i hb hne => ?_, fun _ _ _ => rfl, ?_⟩ r4.2.2.1
    · rw [gI_setI, if_neg (by rintro ⟨h, _, h'⟩; exact hn ⟨h, h'⟩), gI_setA]
    · rw [gA_setI, gA_setA, if_neg (fun h => hne h.1)]
    · rw [gI_setI, if_neg (by rintro ⟨_, h, _⟩; omega), gI_setA]
  · rw [gI_setI, if_neg (by rintro ⟨_, h, _⟩; omega), gI_setA]; exact r8 2
/-- no room: full -/
theorem b_addf {x : Int32} (H : Rw τ br bb most l) (hl : l.length = most) : f_BR_add N br x τ = some (mh_setI τ 0 2 br 1, 0, 0) := by
  obtain ⟨⟨h1, h2, h3⟩, ⟨h4, h5⟩, ⟨h6, h7, h8, h9, h64⟩, ⟨h10, h11⟩, h12⟩ := H
  unfold f_BR_add
  exact X_chk h1 (X_nif (by rw [h4, h5, n_lt (by omega) (by omega)]; omega) rfl)
theorem b_setf {x : Int32} (H : Rw τ br bb most l) : Rw (mh_setI τ 0 2 br x) br bb most l ∧ Fr br bb τ (mh_setI τ 0 2 br x) ∧ hI (mh_setI τ 0 2 br x) 0 2 br = x := by
  obtain ⟨⟨h1, h2, h3⟩, ⟨h4, h5⟩, ⟨h6, h7, h8, h9, h64⟩, ⟨h10, h11⟩, h12⟩ := H
  refine ⟨⟨⟨h1, h2, h3⟩, ⟨?_, ?_⟩, ⟨h6, h7, h8, h9, h64⟩, ⟨h10, h11⟩, h12⟩, ⟨Nat.le_refl _, fun _ _ => ⟨rfl, rfl⟩, fun k j a ha hn => ?_, fun _ _ _ _ _ => rfl, fun b i hb hne => rfl, fun _ _ _ => rfl, ?_⟩, ?_⟩
  · rw [gI_setI, if_neg (by rintro ⟨_, h, _⟩; omega)]; exact h4
  · rw [gI_setI, if_neg (by rintro ⟨_, h, _⟩; omega)]; exact h5
  · rw [gI_setI, if_neg (by rintro ⟨h, _, h'⟩; exact hn ⟨h, h'⟩)]
  · rw [gI_setI, if_neg (by rintro ⟨_, h, _⟩; omega)]
  · rw [gI_setI, if_pos ⟨rfl, rfl, rfl⟩]
theorem RS_go {α : Type} {r : Option (mh_H × Nat × Nat)} {k : mh_H → Option (mh_H × Nat × Nat)} {l' l'' : List Int32} (h : RS τ br bb most r l') (hk : ∀ τ' bb', Rw τ' br bb' most l' → Fr br bb τ τ' → RS τ' br bb' most (k τ') l'') : RS τ br bb most (calA r k) l'' := by
  obtain ⟨τ1, b1, c, m, r1, R1, r2, r3, r4⟩ := h
  obtain ⟨τ2, b2, c2, m2, s1, S1, s2, s3, s4⟩ := hk τ1 b1 R1 r2
  exact ⟨τ2, b2, c2 + c, m2 + m, X_A r1 (X_tk s1 rfl), S1, Fr_trans r2 s2 r3.2.2.1, Gw_trans r3 s3, by rw [s4, r4]⟩
theorem RS_ret {l' : List Int32} (H : Rw τ br bb most l') : RS τ br bb most (some (τ, 0, 0)) l' := ⟨τ, bb, 0, 0, rfl, H, Fr_refl, ⟨by omega, by omega, Or.inl rfl, Nat.le_refl _⟩, rfl⟩
def by4 (x : Int32) : List Int32 := [by8 (((Int32.toUInt32 x >>> (Int32.toUInt32 24 &&& Int32.toUInt32 31)).toInt32)), by8 (((Int32.toUInt32 x >>> (Int32.toUInt32 16 &&& Int32.toUInt32 31)).toInt32)), by8 (((Int32.toUInt32 x >>> (Int32.toUInt32 8 &&& Int32.toUInt32 31)).toInt32)), by8 x]
theorem b_addFour {x : Int32} (H : Rw τ br bb most l) (hl : l.length + 4 ≤ most) : RS τ br bb most (f_BR_addFour N br x τ) (l ++ by4 x) := by
  unfold f_BR_addFour
  rw [show chk (hT τ br = 1) _ = _ from X_chk H.1.1 rfl]
  refine RS_go (α := Nat) (b_add H (by omega)) (fun τ1 b1 R1 f1 => ?_)
  rw [show chk (hT τ1 br = 1) _ = _ from X_chk R1.1.1 rfl]
  refine RS_go (α := Nat) (b_add R1 (by simp; omega)) (fun τ2 b2 R2 f2 => ?_)
  rw [show chk (hT τ2 br = 1) _ = _ from X_chk R2.1.1 rfl]
  refine RS_go (α := Nat) (b_add R2 (by simp; omega)) (fun τ3 b3 R3 f3 => ?_)
  rw [show chk (hT τ3 br = 1) _ = _ from X_chk R3.1.1 rfl]
  refine RS_go (α := Nat) (b_add R3 (by simp; omega)) (fun τ4 b4 R4 f4 => ?_)
  have e : l ++ by4 x = l ++ [by8 (((Int32.toUInt32 x >>> (Int32.toUInt32 24 &&& Int32.toUInt32 31)).toInt32))] ++ [by8 (((Int32.toUInt32 x >>> (Int32.toUInt32 16 &&& Int32.toUInt32 31)).toInt32))] ++ [by8 (((Int32.toUInt32 x >>> (Int32.toUInt32 8 &&& Int32.toUInt32 31)).toInt32))] ++ [by8 x] := by simp [by4]
  rw [e]
  exact RS_ret R4
end ROWS
