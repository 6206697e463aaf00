/-! the class's names: one more -/
theorem Chg_new {U : Nat → Prop} {τ : mh_H} {s n L : Nat} : Chg U τ (mh_cpy (mh_arr τ 0 L) s (hX τ) 0 0 n) := by
  refine ⟨by show hX τ ≤ hX τ + 1; omega, fun a ha => ⟨?_, ?_⟩, fun a ha _ => ⟨fun _ _ => rfl, fun _ _ => rfl, fun i => ?_, fun i => ?_⟩⟩
  · show hT (mh_arr τ 0 L) a = _
    rw [gT_arr, if_neg (by omega)]
  · show hN (mh_arr τ 0 L) a = _
    rw [gN_arr, if_neg (by omega)]
  · rw [gA_cpy, if_neg (by omega), gA_arr, if_neg (by omega)]
  · show hQ (mh_arr τ 0 L) a i = _
    rw [gQ_arr, if_neg (by omega)]
section NAMES4
variable {τ : mh_H} {na sp sb b R N : Nat} {nt : List (List Int32)}
theorem n_grow (H : NV τ na sp sb b R nt) (hNN : 40000 ≤ N) (hR6 : R ≤ 6000) : ∃ τ', f_NA_grow N na τ = some (τ', 3, 6 * R) ∧ NV τ' na sp sb (hX τ) (2 * R) nt ∧ LK (hA τ' (hX τ + 1)) (hA τ' (hX τ + 2)) nt (2 * R) nt.length ∧ Chg (fun a => a = na) τ τ' ∧ hX τ' = hX τ + 3 := by
  obtain ⟨a1, ⟨a4, a5, a6⟩, ⟨c1, c2, c3, c4⟩, ⟨e1, e2, e3⟩, f1, ⟨g1, g2, g3, g4⟩, hs, HR, x1, x2⟩ := H
  have HR' := HR
  obtain ⟨⟨h1, h2, h3⟩, ⟨h4, h5⟩, ⟨h6, h7, h8, h9, h64⟩, ⟨h10, h11⟩, h12⟩ := HR
  have hcp := copyI (τ := τ) (N := N) (a := b) (n := R) (L := 2 * R) a4 e1 (by omega) (by omega) (by omega)
  generalize hτ1 : mh_setR (mh_cpy (mh_arr τ 0 (2 * R)) b (hX τ) 0 0 R) 2 2 na (some (hX τ)) = τ1
  have X1 : hX τ1 = hX τ + 1 := by subst hτ1; rfl
  have C1 : Chg (fun a => a = na) τ τ1 := by
    subst hτ1
    exact Chg_trans' Chg_new (Chg_setR rfl)
  have X3 : hX (als τ1 2 na (2 * R) 3 2) = hX τ + 3 := by rw [als_X, X1]
  have C3 : Chg (fun a => a = na) τ (als τ1 2 na (2 * R) 3 2) := Chg_trans' C1 (als_Chg 2 rfl)
  have hR3 : ∀ j, hR (als τ1 2 na (2 * R) 3 2) 2 j na = if 3 ≤ j ∧ j < 5 then some (hX τ + 1 + (j - 3)) else if j = 2 then some (hX τ) else hR τ 2 j na := by
    intro j
    rw [als_R, X1]
    by_cases hj : 3 ≤ j ∧ j < 5
    · rw [if_pos ⟨rfl, rfl, hj.1, hj.2⟩, if_pos hj]
    · rw [if_neg (fun h => hj ⟨h.2.2.1, h.2.2.2⟩), if_neg hj]
      subst hτ1
      rw [gR_setR]
      by_cases h : j = 2
      · subst h; simp
      · rw [if_neg (fun h' => h h'.2.1), if_neg h]; rfl
  have hT1 : hT τ1 (hX τ) = 2 := by
    subst hτ1
    show hT (mh_arr τ 0 (2 * R)) (hX τ) = 2
    rw [gT_arr, if_pos rfl]
  have hN1 : hN τ1 (hX τ) = 2 * R := by
    subst hτ1
    show hN (mh_arr τ 0 (2 * R)) (hX τ) = _
    rw [gN_arr, if_pos rfl]
  have hA1 : ∀ k, k < R → hA τ1 (hX τ) k = hA τ b k := by
    intro k hk
    subst hτ1
    rw [gA_setR, gA_cpy, if_pos ⟨rfl, by omega, by omega⟩, gA_arr, if_neg (by omega)]
    congr 1; omega
  have V3 : NV (als τ1 2 na (2 * R) 3 2) na sp sb (hX τ) (2 * R) nt := by
    refine ⟨by rw [(C3.2.1 na x1).1]; exact a1, ⟨?_, ?_, ?_⟩, ⟨?_, ?_, ?_, ?_⟩, ⟨?_, ?_, ?_⟩, ?_, ⟨by omega, by omega, by omega, g4⟩, fun k hk => ?_, (Rw_Chg C3 HR' (by rintro rfl; omega) (by rintro rfl; omega)).1, by rw [X3]; omega, by rw [X3]; omega⟩
    · rw [als_T, if_neg (by omega)]; exact hT1
    · rw [als_T, if_pos (by omega)]
    · rw [als_T, if_pos (by omega)]
    · rw [hR3]; exact c1
    · rw [hR3]; rfl
    · rw [hR3]; rfl
    · rw [hR3]; rfl
    · rw [als_N, if_neg (by omega)]; exact hN1
    · rw [als_N, if_pos (by omega)]
    · rw [als_N, if_pos (by omega)]
    · rw [als_I]
      subst hτ1
      exact f1
    · rw [als_A _ (by omega), hA1 k (by omega)]; exact hs k hk
  obtain ⟨A0, r1, r2⟩ := fill_loop (τ := als τ1 2 na (2 * R) 3 2) (N := N) (a := hX τ + 2) (n := 2 * R) (v := -1) V3.2.1.2.2 V3.2.2.2.1.2.2 (by omega) (2 * R) 0 N (hA (als τ1 2 na (2 * R) 3 2)) (by omega) (by omega) (by omega)
  have V4 : NV (az (als τ1 2 na (2 * R) 3 2) A0) na sp sb (hX τ) (2 * R) nt := NV_az V3 (fun x i h1 h2 => by rw [r2, if_neg (fun h => h2 h.1)])
  obtain ⟨A1, s1, s2, s3⟩ := relink (τ := als τ1 2 na (2 * R) 3 2) nt.length 0 N A0 V4 hNN (by omega) (by omega) (by omega) (fun h hh => by
    show A0 (hX τ + 2) h = -1
    rw [r2, if_pos ⟨rfl, by omega, hh⟩])
  refine ⟨az (als τ1 2 na (2 * R) 3 2) A1, ?_, NV_az (τ := az (als τ1 2 na (2 * R) 3 2) A0) (A := A1) V4 s3, s2, ?_, X3⟩
  · have e2' : (2 : Int32) * nI (hN τ b) = nI (2 * R) := by rw [e1]; exact n_mul 2 _
    unfold f_NA_grow
    refine X_chk a1 (X_rfO c2 (X_chk a4 (X_bndE e2' (X_AI hcp (X_tk (c' := 2) (m' := 4 * R) ?_ (by congr 3; omega))))))
    refine X_chk ?_ ?_
    · show hT (mh_arr τ 0 (2 * R)) na = 5
      rw [gT_arr, if_neg (by omega)]; exact a1
    · rw [hτ1]
      refine X_al (c := 1) (m := 2 * R) (by omega) (by omega) (by rw [(C1.2.1 na x1).1]; exact a1) ?_ (by congr 3; omega)
      refine X_al (τ := als τ1 2 na (2 * R) 3 1) (c := 0) (m := 0) (by omega) (by rw [als_X]; omega) (by rw [als_T, if_neg (by omega), (C1.2.1 na x1).1]; exact a1) ?_ (by congr 3; omega)
      refine X_rfO (show hR (als τ1 2 na (2 * R) 3 2) 2 4 na = some (hX τ + 2) from by rw [hR3]; rfl) (X_V (s := az (als τ1 2 na (2 * R) 3 2) A0) ?_ s1)
      unfold f_AR_fill
      refine X_chk V3.2.1.2.2 (X_bndE (x' := nI (2 * R)) (congrArg nI V3.2.2.2.1.2.2) ?_)
      exact r1
  · refine Chg_trans C3 (Chg_az (fun a ha hn i => ?_))
    have ha' : a < hX τ := by
      apply Nat.lt_of_not_le
      intro h
      exact hn (fun h' => by omega)
    rw [s3 a i (by omega) (by omega), r2, if_neg (by omega)]
def NU (na sp sb b : Nat) : Nat → Prop := fun a => a = na ∨ a = sp ∨ a = sb ∨ a = b ∨ a = b + 1 ∨ a = b + 2
/-- what more names cost -/
def Nw (τ τ' : mh_H) (sb b R sb' b' R' c m : Nat) : Prop := 16 * c + (3 * R + hN τ sb) ≤ 3 * R' + hN τ' sb' ∧ m + 2 * (3 * R + hN τ sb) ≤ 2 * (3 * R' + hN τ' sb') ∧ (sb' = sb ∨ hX τ ≤ sb') ∧ (b' = b ∨ hX τ ≤ b') ∧ hX τ ≤ hX τ'
theorem n_add45 {src p l : Nat} (H : NV τ na sp sb b R nt) (hL : LK (hA τ (b + 1)) (hA τ (b + 2)) nt R nt.length) (hNN : 40000 ≤ N) (hs : hT τ src = 4) (hs1 : src < hX τ) (hs2 : src ≠ sb) (hp : p + l ≤ hN τ src) (hp2 : p + l < 20000) (hbn : hN τ src < 1000000) (hr : nt.length < R) (hc : nt.flatten.length + l ≤ 12000) : ∃ τ' sb' c m, k_NA_add_45 N na src (nI p) (nI (p + l)) τ = some ((nI nt.length, τ'), c, m) ∧ NV τ' na sp sb' b R (nt ++ [wd (hA τ src) p l]) ∧ LK (hA τ' (b + 1)) (hA τ' (b + 2)) (nt ++ [wd (hA τ src) p l]) R (nt.length + 1) ∧ Chg (NU na sp sb b) τ τ' ∧ Nw τ τ' sb b R sb' b R c m := by
  obtain ⟨a1, ⟨a4, a5, a6⟩, ⟨c1, c2, c3, c4⟩, ⟨e1, e2, e3⟩, f1, ⟨g1, g2, g3, g4⟩, hst, HR, x1, x2⟩ := H
  obtain ⟨τ1, sb', c, m, r1, R1, F1, G1, r2⟩ := b_range (N := N) (src := src) (p := p) (n := l) HR (by omega) hs hs1 hs2 hp (by omega) hbn
  have C1 : Chg (NU na sp sb b) τ τ1 := Fr_Chg F1 (Or.inr (Or.inl rfl)) (Or.inr (Or.inr (Or.inl rfl)))
  have Cs : Chg (fun a => a = sp ∨ a = sb) τ τ1 := Fr_Chg F1 (Or.inl rfl) (Or.inr rfl)
  obtain ⟨⟨h1, h2, h3⟩, ⟨h4, h5⟩, ⟨h6, h7, h8, h9, h64⟩, ⟨h10, h11⟩, h12⟩ := HR
  have nb : ∀ a, hT τ a = 5 ∨ hT τ a = 2 → ¬ (a = sp ∨ a = sb) := by
    intro a ha h
    rcases h with rfl | rfl <;> omega
  have kna := Cs.2.2 na x1 (nb na (Or.inl a1))
  have kb0 := Cs.2.2 b (by omega) (nb b (Or.inr a4))
  have kb1 := Cs.2.2 (b + 1) (by omega) (nb (b + 1) (Or.inr a5))
  have kb2 := Cs.2.2 (b + 2) (by omega) (nb (b + 2) (Or.inr a6))
  have x1' : hX τ ≤ hX τ1 := C1.1
  have hfl : (nt ++ [wd (hA τ src) p l]).flatten = nt.flatten ++ wd (hA τ src) p l := by simp
  have hse : sb' ≠ b ∧ sb' ≠ b + 1 ∧ sb' ≠ b + 2 := by
    rcases G1.2.2.1 with h | h
    · subst h; exact ⟨by rintro rfl; omega, by rintro rfl; omega, by rintro rfl; omega⟩
    · omega
  generalize hw : wd (hA τ src) p l = w at *
  have hwl : w.length = l := by rw [← hw, wd_len]
  have hflen : (nt.flatten ++ w).length = nt.flatten.length + l := by rw [List.length_append, hwl]
  -- the stop, the count
  have V2 : NV (mh_setI (mh_setA τ1 b nt.length (nI (nt.flatten.length + l))) 2 0 na (nI (nt.length + 1))) na sp sb' b R (nt ++ [w]) := by
    obtain ⟨⟨i1, i2, i3⟩, ⟨i4, i5⟩, ⟨i6, i7, i8, i9, i64⟩, ⟨i10, i11⟩, i12⟩ := R1
    refine ⟨?_, ⟨?_, ?_, ?_⟩, ⟨?_, ?_, ?_, ?_⟩, ⟨?_, ?_, ?_⟩, ?_, ⟨by simp; omega, g2, g3, by rw [hfl, hflen]; exact hc⟩, fun k hk => ?_, ?_, ?_, ?_⟩
    · show hT τ1 na = 5; rw [(C1.2.1 na x1).1]; exact a1
    · show hT τ1 b = 2; rw [(C1.2.1 b (by omega)).1]; exact a4
    · show hT τ1 (b + 1) = 2; rw [(C1.2.1 _ (by omega)).1]; exact a5
    · show hT τ1 (b + 2) = 2; rw [(C1.2.1 _ (by omega)).1]; exact a6
    · show hR τ1 2 1 na = _; rw [kna.2.1]; exact c1
    · show hR τ1 2 2 na = _; rw [kna.2.1]; exact c2
    · show hR τ1 2 3 na = _; rw [kna.2.1]; exact c3
    · show hR τ1 2 4 na = _; rw [kna.2.1]; exact c4
    · show hN τ1 b = R; rw [(C1.2.1 b (by omega)).2]; exact e1
    · show hN τ1 (b + 1) = R; rw [(C1.2.1 _ (by omega)).2]; exact e2
    · show hN τ1 (b + 2) = R; rw [(C1.2.1 _ (by omega)).2]; exact e3
    · rw [gI_setI, if_pos ⟨rfl, rfl, rfl⟩]; simp
    · rw [gA_setI, gA_setA]
      simp only [List.length_append, List.length_cons, List.length_nil] at hk
      by_cases e : k = nt.length
      · subst e
        rw [if_pos ⟨rfl, rfl⟩, st_all, hwl, st_flat]
      · rw [if_neg (fun h => e h.2), kb0.2.2.1, st_app _ _ _ (by omega)]
        exact hst k (by omega)
    · rw [hfl]
      refine ⟨⟨i1, i2, i3⟩, ⟨?_, ?_⟩, ⟨i6, i7, i8, i9, i64⟩, ⟨i10, i11⟩, fun i hi => ?_⟩
      · rw [gI_setI, if_neg (by omega)]; exact i4
      · rw [gI_setI, if_neg (by omega)]; exact i5
      · rw [gA_setI, gA_setA, if_neg (fun h => hse.1 h.1)]; exact i12 i hi
    · show na < hX τ1; omega
    · show b + 2 < hX τ1; omega
  have L2 : LK (hA τ1 (b + 1)) (hA τ1 (b + 2)) (nt ++ [w]) R nt.length := by
    intro h hh
    rw [chn_app _ (Nat.le_refl _)]
    have z1 : hA τ1 (b + 1) = hA τ (b + 1) := funext kb1.2.2.1
    have z2 : hA τ1 (b + 2) = hA τ (b + 2) := funext kb2.2.2.1
    rw [z1, z2]; exact hL h hh
  have zA1 : ∀ x, x ≠ b → hA (mh_setI (mh_setA τ1 b nt.length (nI (nt.flatten.length + l))) 2 0 na (nI (nt.length + 1))) x = hA τ1 x := by
    intro x hx
    funext i
    rw [gA_setI, gA_setA, if_neg (fun h => hx h.1)]
  obtain ⟨A', s1, s2, s3⟩ := n_link_az (τ := mh_setI (mh_setA τ1 b nt.length (nI (nt.flatten.length + l))) 2 0 na (nI (nt.length + 1))) (A := hA (mh_setI (mh_setA τ1 b nt.length (nI (nt.flatten.length + l))) 2 0 na (nI (nt.length + 1)))) (k := nt.length) V2 hNN (by simp) (by
    rw [zA1 (b + 1) (by omega), zA1 (b + 2) (by omega)]; exact L2)
  refine ⟨az (mh_setI (mh_setA τ1 b nt.length (nI (nt.flatten.length + l))) 2 0 na (nI (nt.length + 1))) A', sb', c, m, ?_, NV_az V2 s3, s2, ?_, ?_⟩
  · have t1 : hT τ1 na = 5 := V2.1
    have q0 : hI τ1 2 0 na = nI nt.length := by rw [kna.1]; exact f1
    have hnn : (nI nt.length).toNatClampNeg = nt.length := n_nat (by omega)
    have q1 : hI τ1 0 1 sp = nI (nt.flatten.length + l) := by rw [R1.2.1.1, hflen]
    unfold k_NA_add_45
    refine X_chk a1 (X_rfO c1 (X_chk h1 (X_A r1 (X_tk (c' := 0) (m' := 0) (a := (nI nt.length, az (mh_setI (mh_setA τ1 b nt.length (nI (nt.flatten.length + l))) 2 0 na (nI (nt.length + 1))) A')) ?_ (by simp)))))
    refine X_chk t1 (X_rfO V2.2.2.1.2.1 (X_rfO V2.2.2.1.1 (X_chk R1.1.1 (X_bndE q1 (X_chk V2.2.1.1 (X_chk (by rw [q0, n_ib (by omega)]; show nt.length < hN τ1 b; rw [(C1.2.1 b (by omega)).2]; omega) ?_))))))
    rw [q0, hnn]
    refine X_bndE (x' := nI nt.length) q0 (X_bndE (x' := nI (nt.length + 1)) (n_add _ 1) (X_bndE (x' := nI (nt.length + 1)) (by rw [gI_setI, if_pos ⟨rfl, rfl, rfl⟩]) ?_))
    rw [show nI (nt.length + 1) - 1 = nI nt.length from n_sub (b := 1) (by omega)]
    refine X_V s1 (X_chk V2.1 ?_)
    rw [az_I, gI_setI, if_pos ⟨rfl, rfl, rfl⟩, show nI (nt.length + 1) - 1 = nI nt.length from n_sub (b := 1) (by omega)]
  · refine Chg_trans' C1 (Chg_trans' (Chg_setA (Or.inr (Or.inr (Or.inr (Or.inl rfl))))) (Chg_trans' (Chg_setI (Or.inl rfl)) (Chg_az (fun a ha hn i => ?_))))
    exact s3 a i (fun h => hn (by subst h; simp [NU])) (fun h => hn (by subst h; simp [NU]))
  · obtain ⟨y1, y2, y3, y4⟩ := G1
    refine ⟨?_, ?_, y3, Or.inl rfl, y4⟩
    · show 16 * c + (3 * R + hN τ sb) ≤ 3 * R + hN τ1 sb'; omega
    · show m + 2 * (3 * R + hN τ sb) ≤ 2 * (3 * R + hN τ1 sb'); omega
theorem n_add1 {src p l : Nat} (H : NV τ na sp sb b R nt) (hL : LK (hA τ (b + 1)) (hA τ (b + 2)) nt R nt.length) (hNN : 40000 ≤ N) (hs : hT τ src = 4) (hs1 : src < hX τ) (hs2 : src ≠ sb) (hp : p + l ≤ hN τ src) (hp2 : p + l < 20000) (hbn : hN τ src < 1000000) (hr : nt.length < 6000) (hc : nt.flatten.length + l ≤ 12000) : ∃ τ' sb' b' R' c m, f_NA_add N na src (nI p) (nI (p + l)) τ = some ((nI nt.length, τ'), c, m) ∧ NV τ' na sp sb' b' R' (nt ++ [wd (hA τ src) p l]) ∧ LK (hA τ' (b' + 1)) (hA τ' (b' + 2)) (nt ++ [wd (hA τ src) p l]) R' (nt.length + 1) ∧ Chg (NU na sp sb b) τ τ' ∧ Nw τ τ' sb b R sb' b' R' c m := by
  have H' := H
  obtain ⟨a1, ⟨a4, a5, a6⟩, ⟨c1, c2, c3, c4⟩, ⟨e1, e2, e3⟩, f1, ⟨g1, g2, g3, g4⟩, hst, HR, x1, x2⟩ := H
  have q1 : hI τ 0 1 sp + nI (p + l) - nI p = nI (nt.flatten.length + l) := by rw [HR.2.1.1, n_add, n_sub' (by omega)]; congr 1; omega
  have head : ∀ y, (if nt.length < R then k_NA_add_45 N na src (nI p) (nI (p + l)) τ else calA (f_NA_grow N na τ) fun s6 => k_NA_add_45 N na src (nI p) (nI (p + l)) s6) = y → f_NA_add N na src (nI p) (nI (p + l)) τ = y := by
    intro y hy
    unfold f_NA_add
    refine X_chk a1 (X_nif (by rw [f1]; show ¬ nI 8192 ≤ nI nt.length; rw [n_le (by omega) (by omega)]; omega) (X_rfO c1 (X_chk HR.1.1 (X_if (by rw [q1]; show nI _ ≤ nI 16384; rw [n_le (by omega) (by omega)]; omega) (X_rfO c2 (X_chk a4 ?_))))))
    rw [← hy, f1, e1]
    by_cases h : nt.length < R
    · rw [if_pos (by rw [n_lt (by omega) (by omega)]; exact h), if_pos h]
    · rw [if_neg (by rw [n_lt (by omega) (by omega)]; exact h), if_neg h]
  by_cases hf : nt.length < R
  · obtain ⟨τ', sb', c, m, r1, r2, r3, r4, r5⟩ := n_add45 (N := N) H' hL hNN hs hs1 hs2 hp hp2 hbn hf hc
    refine ⟨τ', sb', b, R, c, m, head _ ?_, r2, r3, r4, r5⟩
    rw [if_pos hf]; exact r1
  · obtain ⟨τ1, q1, V1, L1, C1, X1⟩ := n_grow (N := N) H' hNN (by omega)
    have ks := C1.2.2 src hs1 (by rintro rfl; omega)
    have ew : wd (hA τ1 src) p l = wd (hA τ src) p l := by rw [show hA τ1 src = hA τ src from funext ks.2.2.1]
    have ksb := C1.2.1 sb HR.2.2.2.1.2
    obtain ⟨τ', sb', c, m, r1, r2, r3, r4, r5⟩ := n_add45 (N := N) V1 L1 hNN (by rw [(C1.2.1 src hs1).1]; exact hs) (by omega) hs2 (by rw [(C1.2.1 src hs1).2]; exact hp) hp2 (by rw [(C1.2.1 src hs1).2]; exact hbn) (by omega) hc
    rw [ew] at r2 r3
    refine ⟨τ', sb', hX τ, 2 * R, c + 3, m + 6 * R, head _ ?_, r2, r3, ?_, ?_⟩
    · rw [if_neg hf]
      exact X_A q1 (X_tk r1 rfl)
    · refine Chg_trans (Chg_mono C1 (fun a _ h => Or.inl h)) (Chg_mono r4 (fun a _ h h' => ?_))
      rcases h with h | h | h | h | h | h
      · exact Or.inl h
      · exact Or.inr (Or.inl h)
      · exact Or.inr (Or.inr (Or.inl h))
      · omega
      · omega
      · omega
    · obtain ⟨y1, y2, y3, y4, y5⟩ := r5
      rw [ksb.2] at y1 y2
      exact ⟨by omega, by omega, by omega, Or.inr (Nat.le_refl _), by omega⟩
def NM (τ : mh_H) (na sp sb b R : Nat) (nt : List (List Int32)) : Prop := NV τ na sp sb b R nt ∧ LK (hA τ (b + 1)) (hA τ (b + 2)) nt R nt.length ∧ nt.Nodup
theorem Nw_refl {c : Nat} : Nw τ τ sb b R sb b R 0 0 := ⟨by omega, by omega, Or.inl rfl, Or.inl rfl, Nat.le_refl _⟩
theorem Nw_trans {τ1 τ2 : mh_H} {s1 b1 R1 s2 b2 R2 c m c' m' : Nat} (h : Nw τ τ1 sb b R s1 b1 R1 c m) (h' : Nw τ1 τ2 s1 b1 R1 s2 b2 R2 c' m') : Nw τ τ2 sb b R s2 b2 R2 (c' + c) (m' + m) := by
  obtain ⟨x1, x2, x3, x4, x5⟩ := h
  obtain ⟨y1, y2, y3, y4, y5⟩ := h'
  exact ⟨by omega, by omega, by omega, by omega, by omega⟩
theorem n_number {src p l : Nat} (H : NM τ na sp sb b R nt) (hNN : 40000 ≤ N) (hs : hT τ src = 4) (hs1 : src < hX τ) (hs2 : src ≠ sb) (hp : p + l ≤ hN τ src) (hp2 : p + l < 20000) (hbn : hN τ src < 1000000) (hr : (addw nt (wd (hA τ src) p l)).length < 6000) (hc : (addw nt (wd (hA τ src) p l)).flatten.length ≤ 12000) : ∃ τ' sb' b' R' c m, f_NA_numberOf N na src (nI p) (nI (p + l)) τ = some ((nI (fnd (addw nt (wd (hA τ src) p l)) (wd (hA τ src) p l)), τ'), c, m) ∧ NM τ' na sp sb' b' R' (addw nt (wd (hA τ src) p l)) ∧ Chg (NU na sp sb b) τ τ' ∧ Nw τ τ' sb b R sb' b' R' c m := by
  obtain ⟨H, hL, hd⟩ := H
  have E := NV_NE H
  have H' := H
  obtain ⟨a1, ⟨a4, a5, a6⟩, ⟨c1, c2, c3, c4⟩, ⟨e1, e2, e3⟩, f1, ⟨g1, g2, g3, g4⟩, hst, HR, x1, x2⟩ := H
  have hch := n_chainOf (N := N) (na := na) (hd := b + 2) (tb := src) (p := p) (l := l) hNN a1 c4 a6 e3 (by omega) (by omega) hs hp hp2
  generalize hw : wd (hA τ src) p l = w at *
  have hxl := hx_lt w R (by omega) (by omega)
  have head : ∀ y, k_NA_numberOf_17 N N na src (nI p) (nI (p + l)) (hA τ (b + 2) (hx w R)) (nI 0) τ = y → f_NA_numberOf N na src (nI p) (nI (p + l)) τ = y := by
    intro y hy
    unfold f_NA_numberOf
    refine X_chk a1 (X_rfO c4 (X_I hch (X_chk a6 (X_chk (by rw [n_ib (by omega)]; omega) (X_bndE (x' := hA τ (b + 2) (hx w R)) (by rw [n_nat (by omega)]) hy)))))
  have hcl := chn_len (nt := nt) (R := R) (h := hx w R) nt.length
  rcases n_search (N := N) (p := p) (l := l) E hNN hs hp hp2 (chn nt R (hx w R) nt.length) _ N 0 (hL _ hxl) (fun a ha => chn_lt _ a ha) (by omega) (by omega) with ⟨a, ha, hm, h1, h2⟩ | ⟨h1, h2⟩
  · rw [hw] at h1
    have hmem : w ∈ nt := by rw [← h1]; exact List.getElem_mem ha
    have ea : addw nt w = nt := if_pos hmem
    have ef : fnd nt w = a := fnd_at ha h1 (fun x hx hxa e => by
      exact (List.pairwise_iff_getElem.mp hd x a hx ha hxa) (by rw [e, h1]))
    refine ⟨τ, sb, b, R, 0, 0, ?_, by rw [ea]; exact ⟨H', hL, hd⟩, Chg_refl, Nw_refl (c := 0)⟩
    rw [ea, ef]
    exact head _ h2
  · have hnm : w ∉ nt := by
      intro hm
      obtain ⟨a, ha, e⟩ := List.mem_iff_getElem.mp hm
      refine h1 a ha (chn_mem _ a ha ?_) (by rw [hw]; exact e)
      simp [List.getD, ha, e]
    have ea : addw nt w = nt ++ [w] := if_neg hnm
    rw [ea] at hr hc ⊢
    simp only [List.length_append, List.length_cons, List.length_nil, List.flatten_append, List.flatten_cons, List.flatten_nil, List.append_nil] at hr hc
    have hwl : w.length = l := by rw [← hw, wd_len]
    obtain ⟨τ', sb', b', R', c, m, r1, r2, r3, r4, r5⟩ := n_add1 (N := N) (src := src) (p := p) (l := l) H' hL hNN hs hs1 hs2 hp hp2 hbn (by omega) (by omega)
    rw [hw] at r2 r3
    have ef : fnd (nt ++ [w]) w = nt.length := by
      refine fnd_at (by simp) (by simp) (fun x hx hx2 e => hnm ?_)
      rw [List.getElem_append_left hx2] at e
      rw [← e]; exact List.getElem_mem hx2
    refine ⟨τ', sb', b', R', c, m, head _ ?_, ⟨r2, ?_, ?_⟩, r4, r5⟩
    · rw [h2, ef]
      exact X_AI r1 (X_tk rfl (by simp))
    · simp only [List.length_append, List.length_cons, List.length_nil]; exact r3
    · rw [List.nodup_append]
      refine ⟨hd, by simp, fun x hx y hy e => ?_⟩
      simp at hy
      subst hy; subst e; exact hnm hx
end NAMES4
