/-! THE BEGINNING: the class -/
theorem wr_init {τ : mh_H} {a N x1 : Nat} (ht : hT τ a = 13) (ha : a < hX τ) : ∃ τ', f_WR_init N a x1 τ = some (τ', 10, 83) ∧ (hT τ' a = 13 ∧ hR τ' 6 0 a = some x1) ∧ hX τ' = hX τ + 10 ∧ Chg (fun x => x = a) τ τ' := by
  have tn : hT (mh_new τ 5) (hX τ) = 11 := by rw [gT_new]; exact if_pos rfl
  obtain ⟨t1, r1, R1, X1, C1⟩ := tr_init (N := N) (τ := mh_new τ 5) (a := hX τ) tn (by show hX τ < hX τ + 1; omega)
  have X1' : hX t1 = hX τ + 8 := by rw [X1]; show hX τ + 1 + 7 = _; omega
  have C01 : Chg (fun x => x = a) τ t1 := Chg_trans new_Chg (Chg_mono C1 (fun x _ h h' => by omega))
  have ta1 : hT t1 a = 13 := by rw [(C01.2.1 a ha).1]; exact ht
  generalize hs1 : mh_setR t1 6 1 a (some (hX τ)) = s1
  have Xs1 : hX s1 = hX τ + 8 := by rw [← hs1]; exact X1'
  have Cs1 : Chg (fun x => x = a) t1 s1 := by rw [← hs1]; exact Chg_setR rfl
  have tn2 : hT (mh_new s1 0) (hX s1) = 1 := by rw [gT_new]; exact if_pos rfl
  obtain ⟨t2, r2, R2, f2, X2, C2, _⟩ := br_init (N := N) (τ := mh_new s1 0) (a := hX s1) (most := 8000) (by omega) (by omega) tn2 (by show hX s1 < hX s1 + 1; omega)
  have X2' : hX t2 = hX τ + 10 := by rw [X2]; show hX s1 + 1 + 1 = _; omega
  have C12 : Chg (fun x => x = a) s1 t2 := Chg_trans new_Chg (Chg_mono C2 (fun x _ h h' => by omega))
  have Ca : Chg (fun x => x = a) τ t2 := Chg_trans' C01 (Chg_trans' Cs1 C12)
  have ta2 : hT t2 a = 13 := by rw [(Ca.2.1 a ha).1]; exact ht
  refine ⟨mh_setR (mh_setR t2 6 2 a (some (hX s1))) 6 0 a (some x1), ?_, ⟨ta2, ?_⟩, X2', ?_⟩
  · unfold f_WR_init
    refine X_tk (c' := 9) (m' := 75) (X_bnd (X_bnd (X_A r1 (X_tk (c' := 2) (m' := 68) (X_chk ta1 ?_) rfl)))) rfl
    rw [hs1]
    exact X_tk (c' := 1) (m' := 64) (X_bnd (X_bnd (X_A r2 (X_tk (c' := 0) (m' := 0) (X_chk ta2 rfl) rfl)))) rfl
  · rw [gR_setR, if_pos ⟨rfl, rfl, rfl⟩]
  · exact Chg_trans' Ca (Chg_trans' (Chg_setR rfl) (Chg_setR rfl))
/-- one field of the class filled -/
theorem pr_step {s t : mh_H} {X c j v : Nat} (hx : X < hX s) (h15 : hT s X = 15) (C : Chg (fun x => x = hX s) (mh_new s c) t) : Chg (fun x => x = X) s (mh_setR t 7 j X (some v)) ∧ (∀ i, hR (mh_setR t 7 j X (some v)) 7 i X = if i = j then some v else hR s 7 i X) ∧ hT (mh_setR t 7 j X (some v)) X = 15 ∧ hT t X = 15 ∧ (∀ i, hR t 7 i X = hR s 7 i X) ∧ Chg (fun x => x = X) t (mh_setR t 7 j X (some v)) := by
  have C0' : Chg (fun x => x = X) s t := Chg_trans new_Chg (Chg_mono C (fun x _ h h' => by omega))
  have k := C.2.2 X (by show X < hX s + 1; omega) (by omega)
  have hr : ∀ i, hR t 7 i X = hR s 7 i X := fun i => by rw [k.2.1, gR_new, if_neg (by omega)]
  have ht : hT t X = 15 := by rw [(C0'.2.1 X hx).1]; exact h15
  refine ⟨Chg_trans' C0' (Chg_setR rfl), fun i => ?_, ht, ht, hr, Chg_setR rfl⟩
  rw [gR_setR]
  by_cases h : i = j
  · rw [if_pos ⟨rfl, h, rfl⟩, if_pos h]
  · rw [if_neg (fun h' => h h'.2.1), if_neg h, hr]
def qP (X : Nat) (i : Nat) : Nat := ([X, X + 35, X + 24, X + 17, X + 7, X + 12, X + 18, X + 19, X + 36, X + 44, X + 1] : List Nat).getD i 0
def qV (X : Nat) (i : Nat) : Nat := ([X + 2, X + 3, X + 4, X + 5, X + 6, X + 9, 0, X + 13, 0, X + 20, X + 21, 16, X + 37, 1, X + 45, 1] : List Nat).getD i 0
def qO (X : Nat) (a : Nat) : Nat := if a = X ∨ a = X + 35 then 0 else if a ≤ X + 2 then 1 else if a ≤ X + 4 then 2 else if a ≤ X + 6 then 3 else if a ≤ X + 17 then 4 else if a ≤ X + 23 then 6 else if a ≤ X + 34 then 10 else if a ≤ X + 43 then 7 else if a ≤ X + 51 then 8 else 9
theorem pO_v {X a d : Nat} (h : (a = X ∨ a = X + 35) ∧ d = 0 ∨ (X < a ∧ a ≤ X + 2) ∧ d = 1 ∨ (X + 2 < a ∧ a ≤ X + 4) ∧ d = 2 ∨ (X + 4 < a ∧ a ≤ X + 6) ∧ d = 3 ∨ (X + 6 < a ∧ a ≤ X + 17) ∧ d = 4 ∨ (X + 17 < a ∧ a ≤ X + 23) ∧ d = 6 ∨ (X + 23 < a ∧ a ≤ X + 34) ∧ d = 10 ∨ (X + 35 < a ∧ a ≤ X + 43) ∧ d = 7 ∨ (X + 43 < a ∧ a ≤ X + 51) ∧ d = 8 ∨ X + 51 < a ∧ d = 9) : qO X a = d := by
  unfold qO
  rcases h with h | h | h | h | h | h | h | h | h | h
  · rw [if_pos h.1, h.2]
  · rw [if_neg (by omega), if_pos (by omega), h.2]
  · rw [if_neg (by omega), if_neg (by omega), if_pos (by omega), h.2]
  · rw [if_neg (by omega), if_neg (by omega), if_neg (by omega), if_pos (by omega), h.2]
  · rw [if_neg (by omega), if_neg (by omega), if_neg (by omega), if_neg (by omega), if_pos (by omega), h.2]
  · rw [if_neg (by omega), if_neg (by omega), if_neg (by omega), if_neg (by omega), if_neg (by omega), if_pos (by omega), h.2]
  · rw [if_neg (by omega), if_neg (by omega), if_neg (by omega), if_neg (by omega), if_neg (by omega), if_neg (by omega), if_pos (by omega), h.2]
  · rw [if_neg (by omega), if_neg (by omega), if_neg (by omega), if_neg (by omega), if_neg (by omega), if_neg (by omega), if_neg (by omega), if_pos (by omega), h.2]
  · rw [if_neg (by omega), if_neg (by omega), if_neg (by omega), if_neg (by omega), if_neg (by omega), if_neg (by omega), if_neg (by omega), if_neg (by omega), if_pos (by omega), h.2]
  · rw [if_neg (by omega), if_neg (by omega), if_neg (by omega), if_neg (by omega), if_neg (by omega), if_neg (by omega), if_neg (by omega), if_neg (by omega), if_neg (by omega), h.2]
theorem qO_all (X : Nat) : (qO X X = 0 ∧ qO X (X + 35) = 0 ∧ qO X (X + 24) = 10) ∧ (qO X (X + 1) = 1 ∧ qO X (X + 2) = 1 ∧ qO X (X + 3) = 2 ∧ qO X (X + 4) = 2 ∧ qO X (X + 5) = 3 ∧ qO X (X + 6) = 3) ∧ (qO X (X + 17) = 4 ∧ qO X (X + 7) = 4 ∧ qO X (X + 12) = 4) ∧ (∀ i, i < 3 → qO X (X + 9 + i) = 4) ∧ (∀ i, i < 4 → qO X (X + 13 + i) = 4) ∧ (qO X (X + 18) = 6 ∧ qO X (X + 19) = 6 ∧ qO X (X + 20) = 6) ∧ (∀ i, i < 3 → qO X (X + 21 + i) = 6) ∧ (qO X (X + 36) = 7 ∧ ∀ i, i < 7 → qO X (X + 37 + i) = 7) ∧ (qO X (X + 44) = 8 ∧ ∀ i, i < 7 → qO X (X + 45 + i) = 8) := by
  refine ⟨⟨pO_v (by omega), pO_v (by omega), pO_v (by omega)⟩, ⟨pO_v (by omega), pO_v (by omega), pO_v (by omega), pO_v (by omega), pO_v (by omega), pO_v (by omega)⟩, ⟨pO_v (by omega), pO_v (by omega), pO_v (by omega)⟩, fun i hi => pO_v (by omega), fun i hi => pO_v (by omega), ⟨pO_v (by omega), pO_v (by omega), pO_v (by omega)⟩, fun i hi => pO_v (by omega), ⟨pO_v (by omega), fun i hi => pO_v (by omega)⟩, ⟨pO_v (by omega), fun i hi => pO_v (by omega)⟩⟩
theorem new_tag (s : mh_H) (c : Nat) : hT (mh_new s c) (hX s) = 2 * c + 1 := by rw [gT_new, if_pos rfl]
theorem new_lt (s : mh_H) (c : Nat) : hX s < hX (mh_new s c) := by show hX s < hX s + 1; omega
/-- a step: what stands after it -/
def SP (s s' : mh_H) (X j : Nat) : Prop := hT s' X = 15 ∧ Chg (fun x => x = X) s s' ∧ (∀ i, hR s' 7 i X = if i = j then some (hX s) else hR s 7 i X)
section STEPS
variable {s : mh_H} {X j N : Nat}
theorem st_br (hx : X < hX s) (h15 : hT s X = 15) : ∃ t s', f_BR_init N (hX s) 8000 (mh_new s 0) = some (t, 1, 64) ∧ hT t X = 15 ∧ mh_setR t 7 j X (some (hX s)) = s' ∧ SP s s' X j ∧ hX s' = hX s + 2 ∧ Rw s' (hX s) (hX s + 1) 8000 [] := by
  obtain ⟨t, r, R, _, hX1, C, _⟩ := br_init (N := N) (τ := mh_new s 0) (a := hX s) (most := 8000) (by omega) (by omega) (new_tag s 0) (new_lt s 0)
  obtain ⟨p, q, u, v, w, z⟩ := pr_step (j := j) (v := hX s) hx h15 C
  exact ⟨t, _, r, v, rfl, ⟨u, p, q⟩, by show hX t = _; rw [hX1]; rfl, (Rw_Chg z R (by omega) (by show ¬ hX s + 1 = X; omega)).1⟩
theorem st_to (hx : X < hX s) (h15 : hT s X = 15) : ∃ t s', f_TO_init N (hX s) (mh_new s 4) = some (t, 4, 0) ∧ hT t X = 15 ∧ mh_setR t 7 j X (some (hX s)) = s' ∧ SP s s' X j ∧ hX s' = hX s + 5 ∧ Tv s' (hX s) (hX s + 2) 0 := by
  obtain ⟨t, r, R, hX1, C⟩ := to_init (N := N) (τ := mh_new s 4) (a := hX s) (new_tag s 4) (new_lt s 4)
  obtain ⟨p, q, u, v, w, z⟩ := pr_step (j := j) (v := hX s) hx h15 C
  exact ⟨t, _, r, v, rfl, ⟨u, p, q⟩, by show hX t = _; rw [hX1]; rfl, Tv_Chg z R (by omega)⟩
theorem st_dr (hx : X < hX s) (h15 : hT s X = 15) : ∃ t s', f_DR_init N (hX s) (mh_new s 1) = some (t, 4, 0) ∧ hT t X = 15 ∧ mh_setR t 7 j X (some (hX s)) = s' ∧ SP s s' X j ∧ hX s' = hX s + 5 ∧ Dv s' (hX s) (hX s + 1) 0 := by
  obtain ⟨t, r, R, hX1, C⟩ := dr_init (N := N) (τ := mh_new s 1) (a := hX s) (new_tag s 1) (new_lt s 1)
  obtain ⟨p, q, u, v, w, z⟩ := pr_step (j := j) (v := hX s) hx h15 C
  exact ⟨t, _, r, v, rfl, ⟨u, p, q⟩, by show hX t = _; rw [hX1]; rfl, Dv_Chg z R (by omega)⟩
theorem st_pa {tt dd tb tL : Nat} (hx : X < hX s) (h15 : hT s X = 15) (HT : Tv s tt tb tL) : ∃ t s', f_PA_init N (hX s) tt dd (mh_new s 3) = some (t, 0, 0) ∧ hT t X = 15 ∧ mh_setR t 7 j X (some (hX s)) = s' ∧ SP s s' X j ∧ hX s' = hX s + 1 ∧ (hT s' (hX s) = 7 ∧ hR s' 3 0 (hX s) = some tt ∧ hR s' 3 1 (hX s) = some dd) := by
  obtain ⟨t, r, R, hX1, C⟩ := pa_init (N := N) (τ := mh_new s 3) (a := hX s) (tt := tt) (dd := dd) (new_tag s 3) (new_lt s 3)
  obtain ⟨p, q, u, v, w, z⟩ := pr_step (j := j) (v := hX s) hx h15 C
  have k := z.2.2 (hX s) (by rw [hX1]; exact new_lt s 3) (by omega)
  have b := z.2.1 (hX s) (by rw [hX1]; exact new_lt s 3)
  exact ⟨t, _, r, v, rfl, ⟨u, p, q⟩, by show hX t = _; rw [hX1]; rfl, by rw [b.1]; exact R.1, by rw [k.2.1]; exact R.2.1, by rw [k.2.1]; exact R.2.2⟩
theorem st_na (hNN : 40000 ≤ N) (hx : X < hX s) (h15 : hT s X = 15) : ∃ t s', f_NA_init N (hX s) (mh_new s 2) = some (t, 5, 116) ∧ hT t X = 15 ∧ mh_setR t 7 j X (some (hX s)) = s' ∧ SP s s' X j ∧ hX s' = hX s + 6 ∧ NM s' (hX s) (hX s + 1) (hX s + 2) (hX s + 3) 16 [] := by
  obtain ⟨t, r, R, hX1, C, _⟩ := na_init (N := N) (τ := mh_new s 2) (a := hX s) hNN (new_tag s 2) (new_lt s 2)
  obtain ⟨p, q, u, v, w, z⟩ := pr_step (j := j) (v := hX s) hx h15 C
  have xt : hX (mh_new s 2) = hX s + 1 := rfl
  rw [xt] at R
  exact ⟨t, _, r, v, rfl, ⟨u, p, q⟩, by show hX t = _; rw [hX1]; rfl, (NM_Chg z R (by omega) (by omega) (by omega) (fun i hi => by omega)).1⟩
theorem st_wr {x1 : Nat} (hx : X < hX s) (h15 : hT s X = 15) : ∃ t s', f_WR_init N (hX s) x1 (mh_new s 6) = some (t, 10, 83) ∧ hT t X = 15 ∧ mh_setR t 7 j X (some (hX s)) = s' ∧ SP s s' X j ∧ hX s' = hX s + 11 ∧ (hT s' (hX s) = 13 ∧ hR s' 6 0 (hX s) = some x1) := by
  obtain ⟨t, r, R, hX1, C⟩ := wr_init (N := N) (τ := mh_new s 6) (a := hX s) (x1 := x1) (new_tag s 6) (new_lt s 6)
  obtain ⟨p, q, u, v, w, z⟩ := pr_step (j := j) (v := hX s) hx h15 C
  have hlt : hX s < hX t := by rw [hX1]; show hX s < hX s + 1 + 10; omega
  have k := z.2.2 (hX s) hlt (by omega)
  have b := z.2.1 (hX s) hlt
  exact ⟨t, _, r, v, rfl, ⟨u, p, q⟩, by show hX t = _; rw [hX1]; show hX s + 1 + 10 = _; omega, by rw [b.1]; exact R.1, by rw [k.2.1]; exact R.2⟩
/-- a tree into the row of trees -/
theorem st_tr {ta i : Nat} (hta : ta < hX s) : ∃ t s', f_TR_init N (hX s) (mh_new s 5) = some (t, 7, 7) ∧ hT t (hX s) = 11 ∧ mh_setQ t ta i (some (hX s)) = s' ∧ Chg (fun x => x = ta) s s' ∧ hX s' = hX s + 8 ∧ TL s' (hX s) (hX s + 1) 1 (txt .leaf) (rkT .leaf) ∧ hQ s' ta i = some (hX s) ∧ (∀ i', i' ≠ i → hQ s' ta i' = hQ s ta i') ∧ (hT t ta = hT s ta ∧ hN t ta = hN s ta) := by
  obtain ⟨t, r, R, hX1, C⟩ := tr_init (N := N) (τ := mh_new s 5) (a := hX s) (new_tag s 5) (new_lt s 5)
  have C0' : Chg (fun _ => False) s t := Chg_trans new_Chg (Chg_mono C (fun x _ h h' => absurd h' (by omega)))
  have Q : Chg (fun x => x = ta) t (mh_setQ t ta i (some (hX s))) := by
    refine ⟨Nat.le_refl _, fun _ _ => ⟨rfl, rfl⟩, fun a ha hn => ⟨fun _ _ => rfl, fun _ _ => rfl, fun _ => rfl, fun i' => ?_⟩⟩
    show (if a = ta then va_up (hQ t a) i (some (hX s)) else hQ t a) i' = _
    rw [if_neg hn]
  refine ⟨t, _, r, R.1, rfl, Chg_trans' (Chg_mono C0' (fun _ _ h => h.elim)) Q, by show hX t = _; rw [hX1]; show hX s + 1 + 7 = _; omega, ?_, ?_, fun i' hi' => ?_, C0'.2.1 ta hta⟩
  · exact TL_Chg Q R (by omega) (fun i' hi' => by show ¬ hX s + 1 + i' = ta; omega)
  · show (if ta = ta then va_up (hQ t ta) i (some (hX s)) else hQ t ta) i = _
    rw [if_pos rfl]
    show (if i = i then some (hX s) else _) = _
    rw [if_pos rfl]
  · show (if ta = ta then va_up (hQ t ta) i (some (hX s)) else hQ t ta) i' = _
    rw [if_pos rfl]
    show (if i' = i then some (hX s) else hQ t ta i') = _
    rw [if_neg hi', (C0'.2.2 ta hta id).2.2.2]
end STEPS
theorem pr_init {σ : mh_H} {N : Nat} (hNN : 40000 ≤ N) : ∃ s1, f_PR_init N (hX σ) (mh_new σ 7) = some (s1, 51, 457) ∧ CS s1 (qO (hX σ)) (qP (hX σ)) (qV (hX σ)) [] [] [] (fun _ => .leaf) ∧ hX s1 = hX σ + 52 := by
  generalize hX0 : hX σ = X
  generalize hs0 : mh_new σ 7 = s0
  have x0 : hX s0 = X + 1 := by rw [← hs0, ← hX0]; rfl
  have u0 : hT s0 X = 15 := by rw [← hs0, gT_new, if_pos hX0.symm]
  obtain ⟨t1, s1, r1, v1, g1, ⟨u1, p1, q1⟩, x1, R1⟩ := st_br (N := N) (j := 0) (s := s0) (X := X) (by omega) u0
  rw [x0] at r1 g1 q1 x1 R1
  obtain ⟨t2, s2, r2, v2, g2, ⟨u2, p2, q2⟩, x2, R2⟩ := st_br (N := N) (j := 1) (s := s1) (X := X) (by omega) u1
  rw [x1] at r2 g2 q2 x2 R2
  obtain ⟨t3, s3, r3, v3, g3, ⟨u3, p3, q3⟩, x3, R3⟩ := st_br (N := N) (j := 2) (s := s2) (X := X) (by omega) u2
  rw [x2] at r3 g3 q3 x3 R3
  obtain ⟨t4, s4, r4, v4, g4, ⟨u4, p4, q4⟩, x4, R4⟩ := st_to (N := N) (j := 3) (s := s3) (X := X) (by omega) u3
  rw [x3] at r4 g4 q4 x4 R4
  obtain ⟨t5, s5, r5, v5, g5, ⟨u5, p5, q5⟩, x5, R5⟩ := st_dr (N := N) (j := 4) (s := s4) (X := X) (by omega) u4
  rw [x4] at r5 g5 q5 x5 R5
  have R4' := Tv_Chg p5 R4 (by omega)
  obtain ⟨t6, s6, r6, v6, g6, ⟨u6, p6, q6⟩, x6, R6⟩ := st_pa (N := N) (j := 5) (s := s5) (X := X) (tt := X + 7) (dd := X + 12) (by omega) u5 R4'
  rw [x5] at r6 g6 q6 x6 R6
  obtain ⟨t7, s7, r7, v7, g7, ⟨u7, p7, q7⟩, x7, R7⟩ := st_na (N := N) (j := 6) (s := s6) (X := X) hNN (by omega) u6
  rw [x6] at r7 g7 q7 x7 R7
  obtain ⟨t8, s8, r8, v8, g8, ⟨u8, p8, q8⟩, x8, R8⟩ := st_wr (N := N) (j := 7) (s := s7) (X := X) (x1 := X + 18) (by omega) u7
  rw [x7] at r8 g8 q8 x8 R8
  -- the row of trees
  generalize hs9 : mh_setR (mh_arr s8 2 2) 7 8 X (some (hX s8)) = s9
  have x9 : hX s9 = X + 36 := by rw [← hs9]; show hX s8 + 1 = _; rw [x8]
  have p9 : Chg (fun x => x = X) s8 s9 := by rw [← hs9]; exact Chg_trans' Chg_arr (Chg_setR rfl)
  have ta9 : hT (mh_arr s8 2 2) X = 15 := by rw [gT_arr, if_neg (by omega)]; exact u8
  have u9 : hT s9 X = 15 := by rw [← hs9]; exact ta9
  have T9 : hT s9 (X + 35) = 6 ∧ hN s9 (X + 35) = 2 := by
    rw [← hs9, ← show hX s8 = X + 35 from x8]
    exact ⟨by show hT (mh_arr s8 2 2) (hX s8) = 6; rw [gT_arr, if_pos rfl], by show hN (mh_arr s8 2 2) (hX s8) = 2; rw [gN_arr, if_pos rfl]⟩
  have q9 : ∀ i, hR s9 7 i X = if i = 8 then some (X + 35) else hR s8 7 i X := by
    intro i
    rw [← hs9, gR_setR, x8]
    by_cases h : i = 8
    · rw [if_pos ⟨rfl, h, rfl⟩, if_pos h]
    · rw [if_neg (fun h' => h h'.2.1), if_neg h]; rfl
  obtain ⟨t10, s10, r10, v10, g10, p10, x10, R10, Q10, Q10', b10⟩ := st_tr (N := N) (s := s9) (ta := X + 35) (i := 0) (by omega)
  rw [x9] at r10 v10 g10 x10 R10 Q10
  obtain ⟨t11, s11, r11, v11, g11, p11, x11, R11, Q11, Q11', b11⟩ := st_tr (N := N) (s := s10) (ta := X + 35) (i := 1) (by omega)
  rw [x10] at r11 v11 g11 x11 R11 Q11
  have k10 : Chg (fun x => x = X ∨ x = X + 35) s10 s11 := Chg_mono p11 (fun x _ h => Or.inr h)
  have k9 : Chg (fun x => x = X ∨ x = X + 35) s9 s11 := Chg_trans' (Chg_mono p10 (fun x _ h => Or.inr h)) k10
  have k8 : Chg (fun x => x = X ∨ x = X + 35) s8 s11 := Chg_trans' (Chg_mono p9 (fun x _ h => Or.inl h)) k9
  have k7 : Chg (fun x => x = X ∨ x = X + 35) s7 s11 := Chg_trans' (Chg_mono p8 (fun x _ h => Or.inl h)) k8
  have k6 : Chg (fun x => x = X ∨ x = X + 35) s6 s11 := Chg_trans' (Chg_mono p7 (fun x _ h => Or.inl h)) k7
  have k5 : Chg (fun x => x = X ∨ x = X + 35) s5 s11 := Chg_trans' (Chg_mono p6 (fun x _ h => Or.inl h)) k6
  have k3 : Chg (fun x => x = X ∨ x = X + 35) s3 s11 := Chg_trans' (Chg_mono p4 (fun x _ h => Or.inl h)) (Chg_trans' (Chg_mono p5 (fun x _ h => Or.inl h)) k5)
  have k2 : Chg (fun x => x = X ∨ x = X + 35) s2 s11 := Chg_trans' (Chg_mono p3 (fun x _ h => Or.inl h)) k3
  have k1 : Chg (fun x => x = X ∨ x = X + 35) s1 s11 := Chg_trans' (Chg_mono p2 (fun x _ h => Or.inl h)) k2
  have hlt : ∀ k, k < 52 → X + k < hX s11 := by intro k hk; rw [x11]; omega
  have hne : ∀ k, 0 < k → k ≠ 35 → ¬ (X + k = X ∨ X + k = X + 35) := by intro k h1 h2; omega
  have b8 : X + 18 < hX s7 ∧ X + 24 < hX s8 ∧ X + 17 < hX s6 ∧ X < hX s9 ∧ X + 35 < hX s9 ∧ X + 35 < hX s10 ∧ X < hX s10 := by omega
  have nX : ¬ X = X + 35 := by omega
  have F1 := (Rw_Chg k1 R1 (hne 1 (by decide) (by decide)) (hne 2 (by decide) (by decide))).1
  have F2 := (Rw_Chg k2 R2 (hne 3 (by decide) (by decide)) (hne 4 (by decide) (by decide))).1
  have F3 := (Rw_Chg k3 R3 (hne 5 (by decide) (by decide)) (hne 6 (by decide) (by decide))).1
  have F4 := Tv_Chg k5 R4' (hne 7 (by decide) (by decide))
  have F5 := Dv_Chg k5 R5 (hne 12 (by decide) (by decide))
  have F7 := (NM_Chg k7 R7 (hne 18 (by decide) (by decide)) (hne 19 (by decide) (by decide)) (hne 20 (by decide) (by decide)) (fun i hi => by omega)).1
  have F10 := TL_Chg k10 R10 (hne 36 (by decide) (by decide)) (fun i hi => by omega)
  have e6 := k6.2.2 (X + 17) b8.2.2.1 (hne 17 (by decide) (by decide))
  have e8 := k8.2.2 (X + 24) b8.2.1 (hne 24 (by decide) (by decide))
  have c6 := k6.2.1 (X + 17) b8.2.2.1
  have c8 := k8.2.1 (X + 24) b8.2.1
  have c9X := k9.2.1 X b8.2.2.2.1
  have c9T := k9.2.1 (X + 35) b8.2.2.2.2.1
  have fR : ∀ i, hR s11 7 i X = if i = 8 then some (X + 35) else if i = 7 then some (X + 24) else if i = 6 then some (X + 18) else if i = 5 then some (X + 17) else if i = 4 then some (X + 12) else if i = 3 then some (X + 7) else if i = 2 then some (X + 5) else if i = 1 then some (X + 3) else if i = 0 then some (X + 1) else hR s0 7 i X := by
    intro i
    rw [(p11.2.2 X b8.2.2.2.2.2.2 nX).2.1, (p10.2.2 X b8.2.2.2.1 nX).2.1, q9, q8, q7, q6, q5, q4, q3, q2, q1]
  have hQ0 : hQ s11 (X + 35) 0 = some (X + 36) := by rw [Q11' 0 (by decide)]; exact Q10
  have O := qO_all X
  refine ⟨s11, ?_, ⟨⟨⟨by rw [show qP X 0 = X from rfl, c9X.1]; exact u9, by rw [show qP X 1 = X + 35 from rfl, c9T.1]; exact T9.1, by rw [show qP X 1 = X + 35 from rfl, c9T.2]; exact T9.2⟩, ⟨fR 0, fR 1, fR 2, fR 3, fR 4, fR 5, fR 6, fR 7, fR 8⟩, ?_, ⟨hlt 0 (by decide), hlt 35 (by decide)⟩, O.1.1, O.1.2.1⟩, ⟨by rw [show qP X 2 = X + 24 from rfl, c8.1]; exact R8.1, by rw [show qP X 2 = X + 24 from rfl, e8.2.1]; exact R8.2, hlt 24 (by decide), O.1.2.2⟩, ⟨F1, O.2.1.1, O.2.1.2.1⟩, ⟨F2, O.2.1.2.2.1, O.2.1.2.2.2.1⟩, ⟨[], F3, O.2.1.2.2.2.2.1, O.2.1.2.2.2.2.2⟩, ⟨F4, F5, ⟨by rw [show qP X 3 = X + 17 from rfl, c6.1]; exact R6.1, by rw [show qP X 3 = X + 17 from rfl, e6.2.1]; exact R6.2.1, by rw [show qP X 3 = X + 17 from rfl, e6.2.1]; exact R6.2.2, hlt 17 (by decide)⟩, Or.inl (by show X + 9 + 2 < X + 13; exact Nat.lt_of_lt_of_eq (show X + 11 < X + 13 from Nat.add_lt_add_left (by decide) X) rfl), O.2.2.1, O.2.2.2.1, O.2.2.2.2.1⟩, ⟨F7, O.2.2.2.2.2.1, O.2.2.2.2.2.2.1⟩, ?_⟩, x11⟩
  · -- the run
    have l123 : k_PR_init_123 N N X 0 s9 = some (s11, 16, 30) := by
      obtain ⟨M, hM⟩ : ∃ M, N = M + 1 + 1 + 1 := ⟨N - 3, by omega⟩
      have main : k_PR_init_123 N (M + 1 + 1 + 1) X 0 s9 = some (s11, 16, 30) := by
        have h8 : hR s9 7 8 X = some (X + 35) := by rw [q9, if_pos rfl]
        have h8' : hR s10 7 8 X = some (X + 35) := by rw [(p10.2.2 X b8.2.2.2.1 nX).2.1]; exact h8
        have d10 := p10.2.1 (X + 35) b8.2.2.2.2.1
        have u10 : hT s10 X = 15 := by rw [(p10.2.1 X b8.2.2.2.1).1]; exact u9
        rw [← x9] at r10 v10 g10
        rw [← x10] at r11 v11 g11
        unfold k_PR_init_123
        refine X_nif (by decide) (X_chk u9 (X_rfO h8 (X_tk (c' := 15) (m' := 22) (X_bnd (X_bnd (X_A r10 (X_tk (c' := 8) (m' := 15) (X_chk (by rw [b10.1]; exact T9.1) (X_chk v10 (X_chk (by rw [b10.2, T9.2]; decide) ?_))) rfl)))) rfl)))
        show k_PR_init_123 N (M + 1 + 1) X 1 (mh_setQ t10 (X + 35) 0 (some (hX s9))) = _
        rw [g10]
        unfold k_PR_init_123
        refine X_nif (by decide) (X_chk u10 (X_rfO h8' (X_tk (c' := 7) (m' := 7) (X_bnd (X_bnd (X_A r11 (X_tk (c' := 0) (m' := 0) (X_chk (by rw [b11.1, d10.1]; exact T9.1) (X_chk v11 (X_chk (by rw [b11.2, d10.2, T9.2]; decide) ?_))) rfl)))) rfl)))
        show k_PR_init_123 N (M + 1) X 2 (mh_setQ t11 (X + 35) 1 (some (hX s10))) = _
        rw [g11]
        unfold k_PR_init_123
        exact X_if (by decide) rfl
      rw [← hM] at main
      exact main
    have x5' : hX s5 = X + 17 := x5
    have x7' : hX s7 = X + 24 := x7
    have n5 : ¬ X = hX s5 := by rw [x5']; omega
    have n7 : ¬ X = hX s7 := by rw [x7']; omega
    have b30 : hR (mh_new s5 3) 7 3 X = some (X + 7) := by rw [gR_new, if_neg n5, q5, if_neg (by decide), q4, if_pos rfl]
    have b31 : hR (mh_new s5 3) 7 4 X = some (X + 12) := by rw [gR_new, if_neg n5, q5, if_pos rfl]
    have b43 : hR (mh_new s7 6) 7 6 X = some (X + 18) := by rw [gR_new, if_neg n7, q7, if_pos rfl]
    have tn5 : hT (mh_new s5 3) X = 15 := by rw [gT_new, if_neg n5]; exact u5
    have tn7 : hT (mh_new s7 6) X = 15 := by rw [gT_new, if_neg n7]; exact u7
    rw [← x0] at r1 g1
    rw [← show hX s1 = X + 1 + 2 from x1] at r2 g2
    rw [← show hX s2 = X + 1 + 2 + 2 from x2] at r3 g3
    rw [← show hX s3 = X + 1 + 2 + 2 + 2 from x3] at r4 g4
    rw [← show hX s4 = X + 1 + 2 + 2 + 2 + 5 from x4] at r5 g5
    rw [← show hX s5 = X + 1 + 2 + 2 + 2 + 5 + 5 from x5] at r6 g6
    rw [← show hX s6 = X + 1 + 2 + 2 + 2 + 5 + 5 + 1 from x6] at r7 g7
    rw [← show hX s7 = X + 1 + 2 + 2 + 2 + 5 + 5 + 1 + 6 from x7] at r8 g8
    unfold f_PR_init
    refine X_tk (c' := 50) (m' := 453) (X_bnd (X_bnd (X_A r1 (X_tk (c' := 49) (m' := 389) (X_chk v1 ?_) rfl)))) rfl
    rw [g1]
    refine X_tk (c' := 48) (m' := 385) (X_bnd (X_bnd (X_A r2 (X_tk (c' := 47) (m' := 321) (X_chk v2 ?_) rfl)))) rfl
    rw [g2]
    refine X_tk (c' := 46) (m' := 317) (X_bnd (X_bnd (X_A r3 (X_tk (c' := 45) (m' := 253) (X_chk v3 ?_) rfl)))) rfl
    rw [g3]
    refine X_tk (c' := 44) (m' := 247) (X_bnd (X_bnd (X_A r4 (X_tk (c' := 40) (m' := 247) (X_chk v4 ?_) rfl)))) rfl
    rw [g4]
    refine X_tk (c' := 39) (m' := 242) (X_bnd (X_bnd (X_A r5 (X_tk (c' := 35) (m' := 242) (X_chk v5 ?_) rfl)))) rfl
    rw [g5]
    refine X_tk (c' := 34) (m' := 239) (X_bnd (X_bnd (X_chk tn5 (X_rfO b30 (X_rfO b31 (X_A r6 (X_tk (c' := 34) (m' := 239) (X_chk v6 ?_) rfl))))))) rfl
    rw [g6]
    refine X_tk (c' := 33) (m' := 234) (X_bnd (X_bnd (X_A r7 (X_tk (c' := 28) (m' := 118) (X_chk v7 ?_) rfl)))) rfl
    rw [g7]
    refine X_tk (c' := 27) (m' := 115) (X_bnd (X_bnd (X_chk tn7 (X_rfO b43 (X_A r8 (X_tk (c' := 17) (m' := 32) (X_chk v8 ?_) rfl)))))) rfl
    rw [g8]
    refine X_chk (by decide) (X_tk (c' := 16) (m' := 30) (X_bnd (X_bnd (X_chk ta9 ?_))) rfl)
    show k_PR_init_123 N N X 0 (mh_setR (mh_arr s8 2 2) 7 8 X (some (hX s8))) = _
    rw [hs9]
    exact l123
  · intro t ht
    have ht2 : t = 0 ∨ t = 1 := by omega
    rcases ht2 with h | h
    · subst h; exact hQ0
    · subst h; exact Q11
  · intro t ht
    have ht2 : t = 0 ∨ t = 1 := by omega
    rcases ht2 with h | h
    · subst h
      exact ⟨F10, (by decide : 1 ≤ 24004), O.2.2.2.2.2.2.2.1⟩
    · subst h
      exact ⟨R11, (by decide : 1 ≤ 24004), O.2.2.2.2.2.2.2.2⟩
