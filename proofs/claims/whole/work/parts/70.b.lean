/-! what is left as it was; arrays made anew -/
def Chg (U : Nat → Prop) (τ τ' : mh_H) : Prop := hX τ ≤ hX τ' ∧ (∀ a, a < hX τ → hT τ' a = hT τ a ∧ hN τ' a = hN τ a) ∧ (∀ a, a < hX τ → ¬ U a → (∀ k j, hI τ' k j a = hI τ k j a) ∧ (∀ k j, hR τ' k j a = hR τ k j a) ∧ (∀ i, hA τ' a i = hA τ a i) ∧ (∀ i, hQ τ' a i = hQ τ a i))
theorem Chg_refl {U : Nat → Prop} {τ : mh_H} : Chg U τ τ := ⟨Nat.le_refl _, fun _ _ => ⟨rfl, rfl⟩, fun _ _ _ => ⟨fun _ _ => rfl, fun _ _ => rfl, fun _ => rfl, fun _ => rfl⟩⟩
theorem Chg_mono {U V : Nat → Prop} {τ τ' : mh_H} (h : Chg U τ τ') (hU : ∀ a, a < hX τ → U a → V a) : Chg V τ τ' := ⟨h.1, h.2.1, fun a ha hn => h.2.2 a ha (fun hu => hn (hU a ha hu))⟩
theorem Chg_trans {U : Nat → Prop} {τ τ' τ'' : mh_H} (h : Chg U τ τ') (h' : Chg (fun a => a < hX τ → U a) τ' τ'') : Chg U τ τ'' := by
  obtain ⟨x1, x2, x3⟩ := h
  obtain ⟨y1, y2, y3⟩ := h'
  refine ⟨by omega, fun a ha => ?_, fun a ha hn => ?_⟩
  · rw [(y2 a (by omega)).1, (y2 a (by omega)).2]; exact x2 a ha
  · obtain ⟨z1, z2, z3, z4⟩ := x3 a ha hn
    obtain ⟨w1, w2, w3, w4⟩ := y3 a (by omega) (fun h => hn (h ha))
    exact ⟨fun k j => by rw [w1, z1], fun k j => by rw [w2, z2], fun i => by rw [w3, z3], fun i => by rw [w4, z4]⟩
theorem Chg_trans' {U : Nat → Prop} {τ τ' τ'' : mh_H} (h : Chg U τ τ') (h' : Chg U τ' τ'') : Chg U τ τ'' := Chg_trans h (Chg_mono h' (fun a _ hu _ => hu))
theorem Fr_Chg {br bb : Nat} {U : Nat → Prop} {τ τ' : mh_H} (h : Fr br bb τ τ') (h1 : U br) (h2 : U bb) : Chg U τ τ' := by
  obtain ⟨x1, x2, x3, x4, x5, x6, x7⟩ := h
  refine ⟨x1, x2, fun a ha hn => ⟨fun k j => x3 k j a ha (fun e => hn (e.2 ▸ h1)), fun k j => x4 k j a ha (fun e => hn (e.2.2 ▸ h1)), fun i => x5 a i ha (fun e => hn (e ▸ h2)), fun i => x6 a i ha⟩⟩
section CHG
variable {U : Nat → Prop} {τ τ' : mh_H}
theorem Chg_setI {k j a : Nat} {v : Int32} (h : U a) : Chg U τ (mh_setI τ k j a v) := ⟨Nat.le_refl _, fun _ _ => ⟨rfl, rfl⟩, fun b hb hn => ⟨fun k' j' => by rw [gI_setI, if_neg (by rintro ⟨_, _, rfl⟩; exact hn h)], fun _ _ => rfl, fun _ => rfl, fun _ => rfl⟩⟩
theorem Chg_setR {k j a : Nat} {v : Option Nat} (h : U a) : Chg U τ (mh_setR τ k j a v) := ⟨Nat.le_refl _, fun _ _ => ⟨rfl, rfl⟩, fun b hb hn => ⟨fun _ _ => rfl, fun k' j' => by rw [gR_setR, if_neg (by rintro ⟨_, _, rfl⟩; exact hn h)], fun _ => rfl, fun _ => rfl⟩⟩
theorem Chg_setA {a i : Nat} {v : Int32} (h : U a) : Chg U τ (mh_setA τ a i v) := ⟨Nat.le_refl _, fun _ _ => ⟨rfl, rfl⟩, fun b hb hn => ⟨fun _ _ => rfl, fun _ _ => rfl, fun i' => by rw [gA_setA, if_neg (by rintro ⟨rfl, _⟩; exact hn h)], fun _ => rfl⟩⟩
theorem Chg_az {A : Nat → Nat → Int32} (h : ∀ a, a < hX τ → ¬ U a → ∀ i, A a i = hA τ a i) : Chg U τ (az τ A) := ⟨Nat.le_refl _, fun _ _ => ⟨rfl, rfl⟩, fun b hb hn => ⟨fun _ _ => rfl, fun _ _ => rfl, fun i => h b hb hn i, fun _ => rfl⟩⟩
theorem Rw_Chg {br bb most : Nat} {l : List Int32} (C : Chg U τ τ') (H : Rw τ br bb most l) (h1 : ¬ U br) (h2 : ¬ U bb) : Rw τ' br bb most l ∧ hI τ' 0 2 br = hI τ 0 2 br ∧ hN τ' bb = hN τ bb := by
  obtain ⟨x1, x2, x3⟩ := C
  obtain ⟨⟨i1, i2, i3⟩, ⟨i4, i5⟩, ⟨i6, i7, i8, i9, i64⟩, ⟨i10, i11⟩, i12⟩ := H
  obtain ⟨y1, y2, y3, y4⟩ := x3 _ i10 h1
  obtain ⟨z1, z2, z3, z4⟩ := x3 _ i11 h2
  refine ⟨⟨⟨by rw [(x2 _ i10).1]; exact i1, by rw [y2]; exact i2, by rw [(x2 _ i11).1]; exact i3⟩, ⟨by rw [y1]; exact i4, by rw [y1]; exact i5⟩, ?_, ⟨by omega, by omega⟩, fun i hi => by rw [z3]; exact i12 i hi⟩, y1 _ _, (x2 _ i11).2⟩
  rw [(x2 _ i11).2]; exact ⟨i6, i7, i8, i9, i64⟩
end CHG
def al (τ : mh_H) (k j a L : Nat) : mh_H := mh_setR (mh_arr τ 0 L) k j a (some (hX τ))
def als (τ : mh_H) (k a L j0 : Nat) : Nat → mh_H
  | 0 => τ
  | n + 1 => al (als τ k a L j0 n) k (j0 + n) a L
section ALS
variable {τ : mh_H} {k a L j0 : Nat}
theorem als_X : ∀ n, hX (als τ k a L j0 n) = hX τ + n
  | 0 => rfl
  | n + 1 => by show hX (als τ k a L j0 n) + 1 = _; rw [als_X n]; omega
theorem als_I : ∀ n, hI (als τ k a L j0 n) = hI τ
  | 0 => rfl
  | n + 1 => by show hI (als τ k a L j0 n) = _; rw [als_I n]
theorem als_T (b : Nat) : ∀ n, hT (als τ k a L j0 n) b = if hX τ ≤ b ∧ b < hX τ + n then 2 else hT τ b
  | 0 => by rw [if_neg (by omega)]; rfl
  | n + 1 => by
    show hT (mh_arr (als τ k a L j0 n) 0 L) b = _
    rw [gT_arr, als_X, als_T b n]
    by_cases h : b = hX τ + n
    · rw [if_pos h, if_pos (by omega)]
    · rw [if_neg h]
      by_cases h2 : hX τ ≤ b ∧ b < hX τ + n
      · rw [if_pos h2, if_pos (by omega)]
      · rw [if_neg h2, if_neg (by omega)]
theorem als_N (b : Nat) : ∀ n, hN (als τ k a L j0 n) b = if hX τ ≤ b ∧ b < hX τ + n then L else hN τ b
  | 0 => by rw [if_neg (by omega)]; rfl
  | n + 1 => by
    show hN (mh_arr (als τ k a L j0 n) 0 L) b = _
    rw [gN_arr, als_X, als_N b n]
    by_cases h : b = hX τ + n
    · rw [if_pos h, if_pos (by omega)]
    · rw [if_neg h]
      by_cases h2 : hX τ ≤ b ∧ b < hX τ + n
      · rw [if_pos h2, if_pos (by omega)]
      · rw [if_neg h2, if_neg (by omega)]
theorem als_A (b : Nat) (hb : b < hX τ) : ∀ n, hA (als τ k a L j0 n) b = hA τ b
  | 0 => rfl
  | n + 1 => by
    show hA (mh_arr (als τ k a L j0 n) 0 L) b = _
    rw [gA_arr, als_X, als_A b hb n, if_neg (by omega)]
theorem als_Q (b : Nat) (hb : b < hX τ) : ∀ n, hQ (als τ k a L j0 n) b = hQ τ b
  | 0 => rfl
  | n + 1 => by
    show hQ (mh_arr (als τ k a L j0 n) 0 L) b = _
    rw [gQ_arr, als_X, als_Q b hb n, if_neg (by omega)]
theorem als_R (k' j' a' : Nat) : ∀ n, hR (als τ k a L j0 n) k' j' a' = if k' = k ∧ a' = a ∧ j0 ≤ j' ∧ j' < j0 + n then some (hX τ + (j' - j0)) else hR τ k' j' a'
  | 0 => by rw [if_neg (by omega)]; rfl
  | n + 1 => by
    show hR (mh_setR (mh_arr (als τ k a L j0 n) 0 L) k (j0 + n) a (some (hX (als τ k a L j0 n)))) k' j' a' = _
    rw [gR_setR, gR_arr, als_R k' j' a' n, als_X]
    by_cases h : k' = k ∧ j' = j0 + n ∧ a' = a
    · rw [if_pos h, if_pos (by omega)]; congr 1; omega
    · rw [if_neg h]
      by_cases h2 : k' = k ∧ a' = a ∧ j0 ≤ j' ∧ j' < j0 + n
      · rw [if_pos h2, if_pos (by omega)]
      · rw [if_neg h2, if_neg (by omega)]
theorem als_Chg {U : Nat → Prop} (n : Nat) (h : U a) : Chg U τ (als τ k a L j0 n) := by
  refine ⟨by rw [als_X]; omega, fun b hb => ⟨by rw [als_T, if_neg (by omega)], by rw [als_N, if_neg (by omega)]⟩, fun b hb hn => ⟨fun k' j' => by rw [als_I], fun k' j' => ?_, fun i => by rw [als_A b hb], fun i => by rw [als_Q b hb]⟩⟩
  rw [als_R, if_neg]
  rintro ⟨_, rfl, _⟩; exact hn h
theorem X_al {α : Type} {tag : Nat} {K : Nat → mh_H → Option (α × Nat × Nat)} {x : α} {c m : Nat} {y : Option (α × Nat × Nat)} (hL : L ≤ 100000) (ha : a < hX τ) (ht : hT τ a = tag) (hk : K (hX τ) (mh_arr τ 0 L) = some (x, c, m)) (hy : some (x, c + 1, m + L) = y) : chk (¬ nI L < 0 ∧ (nI L).toNatClampNeg ≤ 100000) (tkA 1 (nI L).toNatClampNeg (bnd (hX τ) fun a7 => bnd (mh_arr τ 0 (nI L).toNatClampNeg) fun s8 => chk (hT s8 a = tag) (K a7 s8))) = y := by
  have hn : (nI L).toNatClampNeg = L := n_nat (by omega)
  refine X_chk ⟨?_, by rw [hn]; exact hL⟩ ?_
  · show ¬ nI L < nI 0
    rw [n_lt (by omega) (by omega)]; omega
  · rw [hn]
    refine X_tk (X_bnd (X_bnd (X_chk ?_ hk))) hy
    rw [gT_arr, if_neg (by omega)]; exact ht
theorem room_val {N r need : Nat} (h1 : r < 100000) (h2 : need < 100000) : f_PR_roomier N (nI r) (nI need) = some (nI (max need (2 * r))) := by
  unfold f_PR_roomier
  have e : (2 : Int32) * nI r = nI (2 * r) := n_mul 2 r
  rw [e]
  exact X_P (mx_val (by omega) (by omega)) rfl
end ALS
section ROOMS
variable {τ : mh_H} {tr b L need N : Nat}
def roomL (r need : Nat) : Nat := if need ≤ r then r else max need (2 * r)
/-- more room for a tree -/
theorem tr_room (a1 : hT τ tr = 11) (c1 : hR τ 5 1 tr = some b) (a2 : hT τ b = 2) (hl : hN τ b < 50000) (hn : hN τ b < need) (hn2 : need ≤ 50000) (hx : tr < hX τ) : f_TR_makeRoom N tr (nI need) τ = some (als τ 5 tr (max need (2 * hN τ b)) 1 7, 7, 7 * max need (2 * hN τ b)) := by
  have hL : max need (2 * hN τ b) ≤ 100000 := by omega
  have hxx : ∀ n, tr < hX (als τ 5 tr (max need (2 * hN τ b)) 1 n) := fun n => by rw [als_X]; omega
  have htt : ∀ n, hT (als τ 5 tr (max need (2 * hN τ b)) 1 n) tr = 11 := fun n => by rw [als_T, if_neg (by omega)]; exact a1
  unfold f_TR_makeRoom
  refine X_chk a1 (X_rfO c1 (X_chk a2 (X_nif (by rw [n_le (by omega) (by omega)]; omega) (X_P (room_val (by omega) (by omega)) ?_))))
  generalize max need (2 * hN τ b) = M at *
  refine X_al (c := 6) (m := 6 * M) hL (hxx 0) (htt 0) ?_ (by congr 3; omega)
  refine X_al (c := 5) (m := 5 * M) hL (hxx 1) (htt 1) ?_ (by congr 3; omega)
  refine X_al (c := 4) (m := 4 * M) hL (hxx 2) (htt 2) ?_ (by congr 3; omega)
  refine X_al (c := 3) (m := 3 * M) hL (hxx 3) (htt 3) ?_ (by congr 3; omega)
  refine X_al (c := 2) (m := 2 * M) hL (hxx 4) (htt 4) ?_ (by congr 3; omega)
  refine X_al (c := 1) (m := 1 * M) hL (hxx 5) (htt 5) ?_ (by congr 3; omega)
  exact X_al (c := 0) (m := 0 * M) hL (hxx 6) (htt 6) (by rw [Nat.zero_mul]) (by first | (congr 3; omega) | (congr 3))
theorem tr_stay (a1 : hT τ tr = 11) (c1 : hR τ 5 1 tr = some b) (a2 : hT τ b = 2) (hl : hN τ b < 50000) (hn : need ≤ hN τ b) : f_TR_makeRoom N tr (nI need) τ = some (τ, 0, 0) := by
  unfold f_TR_makeRoom
  exact X_chk a1 (X_rfO c1 (X_chk a2 (X_if (by rw [n_le (by omega) (by omega)]; omega) rfl)))
/-- more room for tokens -/
theorem to_room (a1 : hT τ tr = 9) (c1 : hR τ 4 2 tr = some b) (a2 : hT τ b = 2) (hl : hN τ b < 50000) (hn : hN τ b < need) (hn2 : need ≤ 50000) (hx : tr < hX τ) : f_TO_makeRoom N tr (nI need) τ = some (als τ 4 tr (max need (2 * hN τ b)) 2 3, 3, 3 * max need (2 * hN τ b)) := by
  have hL : max need (2 * hN τ b) ≤ 100000 := by omega
  have hxx : ∀ n, tr < hX (als τ 4 tr (max need (2 * hN τ b)) 2 n) := fun n => by rw [als_X]; omega
  have htt : ∀ n, hT (als τ 4 tr (max need (2 * hN τ b)) 2 n) tr = 9 := fun n => by rw [als_T, if_neg (by omega)]; exact a1
  unfold f_TO_makeRoom
  refine X_chk a1 (X_rfO c1 (X_chk a2 (X_nif (by rw [n_le (by omega) (by omega)]; omega) (X_P (room_val (by omega) (by omega)) ?_))))
  generalize max need (2 * hN τ b) = M at *
  refine X_al (c := 2) (m := 2 * M) hL (hxx 0) (htt 0) ?_ (by congr 3; omega)
  refine X_al (c := 1) (m := 1 * M) hL (hxx 1) (htt 1) ?_ (by congr 3; omega)
  exact X_al (c := 0) (m := 0 * M) hL (hxx 2) (htt 2) (by rw [Nat.zero_mul]) (by first | (congr 3; omega) | (congr 3))
theorem to_stay (a1 : hT τ tr = 9) (c1 : hR τ 4 2 tr = some b) (a2 : hT τ b = 2) (hl : hN τ b < 50000) (hn : need ≤ hN τ b) : f_TO_makeRoom N tr (nI need) τ = some (τ, 0, 0) := by
  unfold f_TO_makeRoom
  exact X_chk a1 (X_rfO c1 (X_chk a2 (X_if (by rw [n_le (by omega) (by omega)]; omega) rfl)))
/-- more room for drafts -/
theorem dr_room (a1 : hT τ tr = 3) (c1 : hR τ 1 0 tr = some b) (a2 : hT τ b = 2) (hl : hN τ b < 50000) (hn : hN τ b < need) (hn2 : need ≤ 50000) (hx : tr < hX τ) : f_DR_begin N tr (nI need) τ = some (mh_setI (als τ 1 tr (max need (2 * hN τ b)) 0 4) 1 4 tr 0, 4, 4 * max need (2 * hN τ b)) := by
  have hL : max need (2 * hN τ b) ≤ 100000 := by omega
  have hxx : ∀ n, tr < hX (als τ 1 tr (max need (2 * hN τ b)) 0 n) := fun n => by rw [als_X]; omega
  have htt : ∀ n, hT (als τ 1 tr (max need (2 * hN τ b)) 0 n) tr = 3 := fun n => by rw [als_T, if_neg (by omega)]; exact a1
  unfold f_DR_begin
  refine X_chk a1 (X_rfO c1 (X_chk a2 (X_nif (by rw [n_le (by omega) (by omega)]; omega) (X_P (room_val (by omega) (by omega)) ?_))))
  generalize max need (2 * hN τ b) = M at *
  refine X_al (c := 3) (m := 3 * M) hL (hxx 0) (htt 0) ?_ (by congr 3; omega)
  refine X_al (c := 2) (m := 2 * M) hL (hxx 1) (htt 1) ?_ (by congr 3; omega)
  refine X_al (c := 1) (m := 1 * M) hL (hxx 2) (htt 2) ?_ (by congr 3; omega)
  exact X_al (c := 0) (m := 0 * M) hL (hxx 3) (htt 3) (by rw [Nat.zero_mul]) (by first | (congr 3; omega) | (congr 3))
theorem dr_stay (a1 : hT τ tr = 3) (c1 : hR τ 1 0 tr = some b) (a2 : hT τ b = 2) (hl : hN τ b < 50000) (hn : need ≤ hN τ b) : f_DR_begin N tr (nI need) τ = some (mh_setI τ 1 4 tr 0, 0, 0) := by
  unfold f_DR_begin
  exact X_chk a1 (X_rfO c1 (X_chk a2 (X_if (by rw [n_le (by omega) (by omega)]; omega) rfl)))
end ROOMS
