/-! THE BEGINNING: each part made anew -/
theorem Chg_arr {U : Nat → Prop} {τ : mh_H} {t n : Nat} : Chg U τ (mh_arr τ t n) := by
  refine ⟨by show hX τ ≤ hX τ + 1; omega, fun a ha => ⟨by rw [gT_arr, if_neg (by omega)], by rw [gN_arr, if_neg (by omega)]⟩, fun a ha _ => ⟨fun _ _ => rfl, fun _ _ => rfl, fun i => by rw [gA_arr, if_neg (by omega)], fun i => by rw [gQ_arr, if_neg (by omega)]⟩⟩
theorem al_Chg {U : Nat → Prop} {τ : mh_H} {k j a L : Nat} (h : U a) : Chg U τ (al τ k j a L) := Chg_trans' Chg_arr (Chg_setR h)
section INIT
variable {τ : mh_H} {a N : Nat}
theorem br_init {most : Nat} (hm : most ≤ 16384) (hm2 : 64 ≤ 2 * most) (ht : hT τ a = 1) (ha : a < hX τ) : ∃ τ', f_BR_init N a (nI most) τ = some (τ', 1, 64) ∧ Rw τ' a (hX τ) most [] ∧ hI τ' 0 2 a = 0 ∧ hX τ' = hX τ + 1 ∧ Chg (fun x => x = a) τ τ' ∧ hN τ' (hX τ) = 64 := by
  refine ⟨mh_setI (mh_setI (mh_setI (mh_setR (mh_arr τ 1 64) 0 0 a (some (hX τ))) 0 1 a 0) 0 2 a 0) 0 3 a (nI most), ?_, ⟨⟨?_, ?_, ?_⟩, ⟨?_, ?_⟩, ⟨by simp, ?_, by simp, hm, ?_⟩, ⟨?_, ?_⟩, fun i hi => by simp at hi⟩, ?_, rfl, ?_, ?_⟩
  · unfold f_BR_init
    refine X_chk (by decide) (X_tk (c' := 0) (m' := 0) (X_bnd (X_bnd (X_chk ?_ rfl))) rfl)
    show hT (mh_arr τ 1 64) a = 1
    rw [gT_arr, if_neg (by omega)]; exact ht
  · show hT (mh_arr τ 1 64) a = 1
    rw [gT_arr, if_neg (by omega)]; exact ht
  · show hR (mh_setR (mh_arr τ 1 64) 0 0 a (some (hX τ))) 0 0 a = _
    rw [gR_setR, if_pos ⟨rfl, rfl, rfl⟩]
  · show hT (mh_arr τ 1 64) (hX τ) = 4
    rw [gT_arr, if_pos rfl]
  · rw [gI_setI, if_neg (by omega), gI_setI, if_neg (by omega), gI_setI, if_pos ⟨rfl, rfl, rfl⟩]; rfl
  · rw [gI_setI, if_pos ⟨rfl, rfl, rfl⟩]
  · show hN (mh_arr τ 1 64) (hX τ) ≤ _
    rw [gN_arr, if_pos rfl]; exact hm2
  · show 64 ≤ hN (mh_arr τ 1 64) (hX τ)
    rw [gN_arr, if_pos rfl]; exact Nat.le_refl _
  · show a < hX τ + 1; omega
  · show hX τ < hX τ + 1; omega
  · rw [gI_setI, if_neg (by omega), gI_setI, if_pos ⟨rfl, rfl, rfl⟩]
  · exact Chg_trans' Chg_arr (Chg_trans' (Chg_setR rfl) (Chg_trans' (Chg_setI rfl) (Chg_trans' (Chg_setI rfl) (Chg_setI rfl))))
  · show hN (mh_arr τ 1 64) (hX τ) = 64
    rw [gN_arr, if_pos rfl]
theorem to_init (ht : hT τ a = 9) (ha : a < hX τ) : ∃ τ', f_TO_init N a τ = some (τ', 4, 0) ∧ Tv τ' a (hX τ + 1) 0 ∧ hX τ' = hX τ + 4 ∧ Chg (fun x => x = a) τ τ' := by
  generalize hτ1 : mh_setI (mh_setR (mh_arr τ 1 0) 4 0 a (some (hX τ))) 4 1 a 0 = τ1
  have X1 : hX τ1 = hX τ + 1 := by rw [← hτ1]; rfl
  have C1 : Chg (fun x => x = a) τ τ1 := by rw [← hτ1]; exact Chg_trans' Chg_arr (Chg_trans' (Chg_setR rfl) (Chg_setI rfl))
  have t1 : hT τ1 a = 9 := by rw [(C1.2.1 a ha).1]; exact ht
  have hxx : ∀ n, a < hX (als τ1 4 a 0 2 n) := fun n => by rw [als_X]; omega
  have htt : ∀ n, hT (als τ1 4 a 0 2 n) a = 9 := fun n => by rw [als_T, if_neg (by omega)]; exact t1
  refine ⟨mh_setI (als τ1 4 a 0 2 3) 4 5 a 0, ?_, ⟨htt 3, fun i hi => ⟨?_, ?_, ?_⟩, by omega, ?_, ?_⟩, ?_, ?_⟩
  · unfold f_TO_init
    refine X_chk (by decide) (X_tk (c' := 3) (m' := 0) (X_bnd (X_bnd (X_chk ?_ ?_))) rfl)
    · show hT (mh_arr τ 1 0) a = 9
      rw [gT_arr, if_neg (by omega)]; exact ht
    · rw [show Int32.toNatClampNeg 0 = 0 from rfl, hτ1]
      refine X_al (L := 0) (c := 2) (m := 0) (by omega) (hxx 0) (htt 0) ?_ rfl
      refine X_al (L := 0) (c := 1) (m := 0) (by omega) (hxx 1) (htt 1) ?_ rfl
      exact X_al (L := 0) (c := 0) (m := 0) (by omega) (hxx 2) (htt 2) rfl rfl
  · show hT (als τ1 4 a 0 2 3) (hX τ + 1 + i) = 2
    rw [als_T, if_pos (by omega)]
  · show hN (als τ1 4 a 0 2 3) (hX τ + 1 + i) = 0
    rw [als_N, if_pos (by omega)]
  · show hR (als τ1 4 a 0 2 3) 4 (2 + i) a = _
    rw [als_R, if_pos ⟨rfl, rfl, by omega, by omega⟩]; congr 1; omega
  · show a < hX (als τ1 4 a 0 2 3); exact hxx 3
  · show hX τ + 1 + 2 < hX (als τ1 4 a 0 2 3); rw [als_X]; omega
  · show hX (als τ1 4 a 0 2 3) = _; rw [als_X]; omega
  · exact Chg_trans' C1 (Chg_trans' (als_Chg 3 rfl) (Chg_setI rfl))
theorem dr_init (ht : hT τ a = 3) (ha : a < hX τ) : ∃ τ', f_DR_init N a τ = some (τ', 4, 0) ∧ Dv τ' a (hX τ) 0 ∧ hX τ' = hX τ + 4 ∧ Chg (fun x => x = a) τ τ' := by
  have hxx : ∀ n, a < hX (als τ 1 a 0 0 n) := fun n => by rw [als_X]; omega
  have htt : ∀ n, hT (als τ 1 a 0 0 n) a = 3 := fun n => by rw [als_T, if_neg (by omega)]; exact ht
  refine ⟨mh_setI (als τ 1 a 0 0 4) 1 4 a 0, ?_, ⟨htt 4, fun i hi => ⟨?_, ?_, ?_⟩, by omega, ?_, ?_⟩, ?_, ?_⟩
  · unfold f_DR_init
    refine X_al (L := 0) (c := 3) (m := 0) (by omega) (hxx 0) (htt 0) ?_ rfl
    refine X_al (L := 0) (c := 2) (m := 0) (by omega) (hxx 1) (htt 1) ?_ rfl
    refine X_al (L := 0) (c := 1) (m := 0) (by omega) (hxx 2) (htt 2) ?_ rfl
    exact X_al (L := 0) (c := 0) (m := 0) (by omega) (hxx 3) (htt 3) rfl rfl
  · show hT (als τ 1 a 0 0 4) (hX τ + i) = 2
    rw [als_T, if_pos (by omega)]
  · show hN (als τ 1 a 0 0 4) (hX τ + i) = 0
    rw [als_N, if_pos (by omega)]
  · show hR (als τ 1 a 0 0 4) 1 i a = _
    rw [als_R, if_pos ⟨rfl, rfl, by omega, by omega⟩]; congr 1
  · show a < hX (als τ 1 a 0 0 4); exact hxx 4
  · show hX τ + 3 < hX (als τ 1 a 0 0 4); rw [als_X]; omega
  · show hX (als τ 1 a 0 0 4) = _; rw [als_X]
  · exact Chg_trans' (als_Chg 4 rfl) (Chg_setI rfl)
theorem pa_init {tt dd : Nat} (ht : hT τ a = 7) (ha : a < hX τ) : ∃ τ', f_PA_init N a tt dd τ = some (τ', 0, 0) ∧ (hT τ' a = 7 ∧ hR τ' 3 0 a = some tt ∧ hR τ' 3 1 a = some dd) ∧ hX τ' = hX τ ∧ Chg (fun x => x = a) τ τ' := by
  refine ⟨mh_setR (mh_setR (mh_setI τ 3 2 a 0) 3 0 a (some tt)) 3 1 a (some dd), ?_, ⟨ht, ?_, ?_⟩, rfl, ?_⟩
  · unfold f_PA_init
    exact X_chk ht rfl
  · rw [gR_setR, if_neg (by omega), gR_setR, if_pos ⟨rfl, rfl, rfl⟩]
  · rw [gR_setR, if_pos ⟨rfl, rfl, rfl⟩]
  · exact Chg_trans' (Chg_setI rfl) (Chg_trans' (Chg_setR rfl) (Chg_setR rfl))
theorem na_init (hNN : 40000 ≤ N) (ht : hT τ a = 5) (ha : a < hX τ) : ∃ τ', f_NA_init N a τ = some (τ', 5, 116) ∧ NM τ' a (hX τ) (hX τ + 1) (hX τ + 2) 16 [] ∧ hX τ' = hX τ + 5 ∧ Chg (fun x => x = a) τ τ' ∧ hN τ' (hX τ + 1) = 64 := by
  generalize hτ0 : mh_new (mh_setI τ 2 0 a 0) 0 = τ0
  have X0 : hX τ0 = hX τ + 1 := by rw [← hτ0]; rfl
  have C0' : Chg (fun x => x = a) τ τ0 := by rw [← hτ0]; exact Chg_trans' (Chg_setI rfl) new_Chg
  have tn : hT τ0 (hX τ) = 1 := by rw [← hτ0, gT_new]; exact if_pos rfl
  obtain ⟨τ1, r1, R1, f1, X1, C1, n64⟩ := br_init (N := N) (τ := τ0) (a := hX τ) (most := 16384) (by omega) (by omega) tn (by omega)
  have t1 : hT τ1 a = 5 := by rw [(C1.2.1 a (by omega)).1, (C0'.2.1 a ha).1]; exact ht
  have k1 := C1.2.2 a (by omega) (by omega)
  have hI0 : hI τ0 2 0 a = 0 := by rw [← hτ0, gI_new, if_neg (by show ¬ a = hX τ; omega), gI_setI, if_pos ⟨rfl, rfl, rfl⟩]
  generalize hτ2 : mh_setR τ1 2 1 a (some (hX τ)) = τ2
  have X2 : hX τ2 = hX τ + 2 := by rw [← hτ2]; show hX τ1 = _; rw [X1, X0]
  have C2 : Chg (fun x => x = a) τ1 τ2 := by rw [← hτ2]; exact Chg_setR rfl
  have t2 : hT τ2 a = 5 := by rw [← hτ2]; exact t1
  have hxx : ∀ n, a < hX (als τ2 2 a 16 2 n) := fun n => by rw [als_X]; omega
  have htt : ∀ n, hT (als τ2 2 a 16 2 n) a = 5 := fun n => by rw [als_T, if_neg (by omega)]; exact t2
  have C3 : Chg (fun x => x = a) τ2 (als τ2 2 a 16 2 3) := als_Chg 3 rfl
  have hR3 : ∀ j, hR (als τ2 2 a 16 2 3) 2 j a = if 2 ≤ j ∧ j < 5 then some (hX τ + 2 + (j - 2)) else if j = 1 then some (hX τ) else hR τ1 2 j a := by
    intro j
    rw [als_R, X2]
    by_cases hj : 2 ≤ j ∧ j < 5
    · rw [if_pos ⟨rfl, rfl, hj.1, hj.2⟩, if_pos hj]
    · rw [if_neg (fun h => hj ⟨h.2.2.1, h.2.2.2⟩), if_neg hj, ← hτ2, gR_setR]
      by_cases h : j = 1
      · rw [if_pos ⟨rfl, h, rfl⟩, if_pos h]
      · rw [if_neg (fun h' => h h'.2.1), if_neg h]
  have T4 : hT (als τ2 2 a 16 2 3) (hX τ + 4) = 2 := by rw [als_T, if_pos (by omega)]
  have N4 : hN (als τ2 2 a 16 2 3) (hX τ + 4) = 16 := by rw [als_N, if_pos (by omega)]
  obtain ⟨A0, q1, q2⟩ := fill_loop (τ := als τ2 2 a 16 2 3) (N := N) (a := hX τ + 4) (n := 16) (v := -1) T4 N4 (by omega) 16 0 N (hA (als τ2 2 a 16 2 3)) (by omega) (by omega) (by omega)
  have X3 : hX (als τ2 2 a 16 2 3) = hX τ + 5 := by rw [als_X, X2]
  have Ca : Chg (fun x => x = a) τ1 (az (als τ2 2 a 16 2 3) A0) := Chg_trans C2 (Chg_trans' (Chg_mono C3 (fun x _ h _ => h)) (Chg_az (fun x hx hn i => by
    have hlt : x < hX τ1 := by
      apply Nat.lt_of_not_le
      intro h; exact hn (fun h' => by omega)
    rw [q2, if_neg (by omega)])))
  have Rr := Rw_Chg Ca R1 (by omega) (by omega)
  refine ⟨az (als τ2 2 a 16 2 3) A0, ?_, ⟨⟨htt 3, ⟨?_, ?_, T4⟩, ⟨?_, ?_, ?_, ?_⟩, ⟨?_, ?_, N4⟩, ?_, ⟨by simp, by omega, by omega, by simp⟩, fun k hk => by simp at hk, ?_, ?_, ?_⟩, ?_, List.nodup_nil⟩, X3, ?_, ?_⟩
  · unfold f_NA_init
    refine X_chk ht (X_tk (c' := 4) (m' := 112) (X_bnd (X_bnd ?_)) rfl)
    show calA (f_BR_init N (hX τ) 16384 (mh_new (mh_setI τ 2 0 a 0) 0)) _ = _
    rw [hτ0]
    refine X_A r1 (X_tk (c' := 3) (m' := 48) (X_chk t1 ?_) rfl)
    rw [show mh_setR τ1 2 1 a (some (hX (mh_setI τ 2 0 a 0))) = τ2 from hτ2]
    refine X_al (L := 16) (c := 2) (m := 32) (by omega) (hxx 0) (htt 0) ?_ rfl
    refine X_al (L := 16) (c := 1) (m := 16) (by omega) (hxx 1) (htt 1) ?_ rfl
    refine X_al (L := 16) (c := 0) (m := 0) (by omega) (hxx 2) (htt 2) ?_ rfl
    refine X_rfO (show hR (als τ2 2 a 16 2 3) 2 4 a = some (hX τ + 4) by rw [hR3]; rfl) (X_V (s := az (als τ2 2 a 16 2 3) A0) ?_ rfl)
    unfold f_AR_fill
    refine X_chk T4 (X_bndE (x' := nI 16) (congrArg nI N4) q1)
  · rw [az_T, als_T, if_pos (by omega)]
  · rw [az_T, als_T, if_pos (by omega)]
  · rw [az_R, hR3]; rfl
  · rw [az_R, hR3]; rfl
  · rw [az_R, hR3]; rfl
  · rw [az_R, hR3]; rfl
  · rw [az_N, als_N, if_pos (by omega)]
  · rw [az_N, als_N, if_pos (by omega)]
  · rw [az_I, als_I]
    have : hI τ2 = hI τ1 := by rw [← hτ2]; rfl
    rw [this, k1.1, hI0]; rfl
  · have e := Rr.1
    rw [X0] at e
    exact e
  · show a < hX (als τ2 2 a 16 2 3); exact hxx 3
  · show hX τ + 2 + 2 < hX (als τ2 2 a 16 2 3); rw [X3]; omega
  · intro h hh
    show A0 (hX τ + 2 + 2) h = -1
    rw [q2, if_pos ⟨by omega, by omega, hh⟩]
  · exact Chg_trans C0' (Chg_trans' (Chg_mono C1 (fun x _ h h' => by omega)) (Chg_mono Ca (fun x _ h _ => h)))
  · have := Rr.2.2
    rw [X0] at this n64
    rw [this]; exact n64
theorem tr_init (ht : hT τ a = 11) (ha : a < hX τ) : ∃ τ', f_TR_init N a τ = some (τ', 7, 7) ∧ TL τ' a (hX τ) 1 (txt .leaf) (rkT .leaf) ∧ hX τ' = hX τ + 7 ∧ Chg (fun x => x = a) τ τ' := by
  have z0 : Int32.toNatClampNeg 0 = 0 := rfl
  -- the states between
  generalize hs0 : mh_setI τ 5 0 a 1 = s0
  have y0 : hX s0 = hX τ := by rw [← hs0]; rfl
  have T0 : hT s0 a = 11 := by rw [← hs0]; exact ht
  have C0' : Chg (fun x => x = a) τ s0 := by rw [← hs0]; exact Chg_setI rfl
  generalize hs1 : al s0 5 1 a 1 = s1
  have y1 : hX s1 = hX τ + 1 := by rw [← hs1]; show hX s0 + 1 = _; omega
  have C1 : Chg (fun x => x = a) s0 s1 := by rw [← hs1]; exact al_Chg rfl
  generalize hs2 : mh_setR (mh_setA (mh_arr s1 0 1) (hX s1) 0 (-1)) 5 2 a (some (hX s1)) = s2
  have y2 : hX s2 = hX τ + 2 := by rw [← hs2]; show hX s1 + 1 = _; omega
  have C2 : Chg (fun x => x < hX s1 → x = a) s1 s2 := by rw [← hs2]; exact Chg_trans' Chg_arr (Chg_trans' (Chg_setA (fun h => absurd h (by omega))) (Chg_setR (fun _ => rfl)))
  generalize hs3 : al s2 5 3 a 1 = s3
  have y3 : hX s3 = hX τ + 3 := by rw [← hs3]; show hX s2 + 1 = _; omega
  have C3 : Chg (fun x => x = a) s2 s3 := by rw [← hs3]; exact al_Chg rfl
  generalize hs4 : mh_setR (mh_setA (mh_arr s3 0 1) (hX s3) 0 1) 5 4 a (some (hX s3)) = s4
  have y4 : hX s4 = hX τ + 4 := by rw [← hs4]; show hX s3 + 1 = _; omega
  have C4' : Chg (fun x => x < hX s3 → x = a) s3 s4 := by rw [← hs4]; exact Chg_trans' Chg_arr (Chg_trans' (Chg_setA (fun h => absurd h (by omega))) (Chg_setR (fun _ => rfl)))
  generalize hs5 : al s4 5 5 a 1 = s5
  have y5 : hX s5 = hX τ + 5 := by rw [← hs5]; show hX s4 + 1 = _; omega
  have C5 : Chg (fun x => x = a) s4 s5 := by rw [← hs5]; exact al_Chg rfl
  generalize hs6 : mh_setR (mh_setA (mh_arr s5 0 1) (hX s5) 0 (-1)) 5 6 a (some (hX s5)) = s6
  have y6 : hX s6 = hX τ + 6 := by rw [← hs6]; show hX s5 + 1 = _; omega
  have C6' : Chg (fun x => x < hX s5 → x = a) s5 s6 := by rw [← hs6]; exact Chg_trans' Chg_arr (Chg_trans' (Chg_setA (fun h => absurd h (by omega))) (Chg_setR (fun _ => rfl)))
  generalize hs7 : al s6 5 7 a 1 = s7
  have y7 : hX s7 = hX τ + 7 := by rw [← hs7]; show hX s6 + 1 = _; omega
  have C7' : Chg (fun x => x = a) s6 s7 := by rw [← hs7]; exact al_Chg rfl
  have t1 : hT s1 a = 11 := by rw [(C1.2.1 a (by omega)).1]; exact T0
  have t2 : hT s2 a = 11 := by rw [(C2.2.1 a (by omega)).1]; exact t1
  have t3 : hT s3 a = 11 := by rw [(C3.2.1 a (by omega)).1]; exact t2
  have t4 : hT s4 a = 11 := by rw [(C4'.2.1 a (by omega)).1]; exact t3
  have t5 : hT s5 a = 11 := by rw [(C5.2.1 a (by omega)).1]; exact t4
  have t6 : hT s6 a = 11 := by rw [(C6'.2.1 a (by omega)).1]; exact t5
  have t7 : hT s7 a = 11 := by rw [(C7'.2.1 a (by omega)).1]; exact t6
  -- from one state to the last: tags, lengths, arrays
  have K : ∀ {s s' : mh_H} {U : Nat → Prop}, Chg U s s' → ∀ x, x < hX s → hT s' x = hT s x ∧ hN s' x = hN s x := fun C x hx => C.2.1 x hx
  have nw1 : ∀ (s : mh_H) (j : Nat), hT (al s 5 j a 1) (hX s) = 2 ∧ hN (al s 5 j a 1) (hX s) = 1 ∧ hA (al s 5 j a 1) (hX s) 0 = 0 := fun s j => ⟨by show hT (mh_arr s 0 1) (hX s) = 2; rw [gT_arr, if_pos rfl], by show hN (mh_arr s 0 1) (hX s) = 1; rw [gN_arr, if_pos rfl], by show hA (mh_arr s 0 1) (hX s) 0 = 0; rw [gA_arr, if_pos rfl]⟩
  have nw2 : ∀ (s : mh_H) (j : Nat) (v : Int32), hT (mh_setR (mh_setA (mh_arr s 0 1) (hX s) 0 v) 5 j a (some (hX s))) (hX s) = 2 ∧ hN (mh_setR (mh_setA (mh_arr s 0 1) (hX s) 0 v) 5 j a (some (hX s))) (hX s) = 1 ∧ hA (mh_setR (mh_setA (mh_arr s 0 1) (hX s) 0 v) 5 j a (some (hX s))) (hX s) 0 = v := fun s j v => ⟨by show hT (mh_arr s 0 1) (hX s) = 2; rw [gT_arr, if_pos rfl], by show hN (mh_arr s 0 1) (hX s) = 1; rw [gN_arr, if_pos rfl], by rw [gA_setR, gA_setA, if_pos ⟨rfl, rfl⟩]⟩
  have C27 : Chg (fun x => x < hX s2 → x = a) s2 s7 := Chg_trans (Chg_mono C3 (fun x _ h _ => h)) (Chg_trans' (Chg_mono C4' (fun x _ h h' h'' => h (by omega))) (Chg_trans' (Chg_mono C5 (fun x _ h _ _ => h)) (Chg_trans' (Chg_mono C6' (fun x _ h h' h'' => h (by omega))) (Chg_mono C7' (fun x _ h _ _ => h)))))
  have C47 : Chg (fun x => x < hX s4 → x = a) s4 s7 := Chg_trans (Chg_mono C5 (fun x _ h _ => h)) (Chg_trans' (Chg_mono C6' (fun x _ h h' h'' => h (by omega))) (Chg_mono C7' (fun x _ h _ _ => h)))
  have C67 : Chg (fun x => x < hX s6 → x = a) s6 s7 := Chg_mono C7' (fun x _ h _ => h)
  have C17 : Chg (fun x => x < hX s1 → x = a) s1 s7 := Chg_trans C2 (Chg_mono C27 (fun x _ h h' h'' => h (by omega)))
  have C37 : Chg (fun x => x < hX s3 → x = a) s3 s7 := Chg_trans C4' (Chg_mono C47 (fun x _ h h' h'' => h (by omega)))
  have C57 : Chg (fun x => x < hX s5 → x = a) s5 s7 := Chg_trans C6' (Chg_mono C67 (fun x _ h h' h'' => h (by omega)))
  have A : ∀ {s : mh_H} {x : Nat}, Chg (fun x => x < hX s → x = a) s s7 → x < hX s → x ≠ a → hA s7 x 0 = hA s x 0 := fun C hx hn => (C.2.2 _ hx (fun h => hn (h hx))).2.2.1 0
  have e1 := nw1 s0 1
  have e2 := nw2 s1 2 (-1)
  have e3 := nw1 s2 3
  have e4 := nw2 s3 4 1
  have e5 := nw1 s4 5
  have e6 := nw2 s5 6 (-1)
  have e7 := nw1 s6 7
  rw [hs1, y0] at e1
  rw [hs2, y1] at e2
  rw [hs3, y2] at e3
  rw [hs4, y3] at e4
  rw [hs5, y4] at e5
  rw [hs6, y5] at e6
  rw [hs7, y6] at e7
  have hTN : ∀ i, i < 7 → hT s7 (hX τ + i) = 2 ∧ hN s7 (hX τ + i) = 1 := by
    intro i hi
    have : i = 0 ∨ i = 1 ∨ i = 2 ∨ i = 3 ∨ i = 4 ∨ i = 5 ∨ i = 6 := by omega
    rcases this with rfl | rfl | rfl | rfl | rfl | rfl | rfl
    · rw [Nat.add_zero, (K C17 _ (by omega)).1, (K C17 _ (by omega)).2]; exact ⟨e1.1, e1.2.1⟩
    · rw [(K C27 _ (by omega)).1, (K C27 _ (by omega)).2]; exact ⟨e2.1, e2.2.1⟩
    · rw [(K C37 _ (by omega)).1, (K C37 _ (by omega)).2]; exact ⟨e3.1, e3.2.1⟩
    · rw [(K C47 _ (by omega)).1, (K C47 _ (by omega)).2]; exact ⟨e4.1, e4.2.1⟩
    · rw [(K C57 _ (by omega)).1, (K C57 _ (by omega)).2]; exact ⟨e5.1, e5.2.1⟩
    · rw [(K C67 _ (by omega)).1, (K C67 _ (by omega)).2]; exact ⟨e6.1, e6.2.1⟩
    · exact ⟨e7.1, e7.2.1⟩
  -- its fields
  have hRf : ∀ i, i < 7 → hR s7 5 (1 + i) a = some (hX τ + i) := by
    have g1 : ∀ (s : mh_H) (j j' : Nat), hR (al s 5 j a 1) 5 j' a = if j' = j then some (hX s) else hR s 5 j' a := fun s j j' => by
      show hR (mh_setR (mh_arr s 0 1) 5 j a (some (hX s))) 5 j' a = _
      rw [gR_setR]
      by_cases h : j' = j
      · rw [if_pos ⟨rfl, h, rfl⟩, if_pos h]
      · rw [if_neg (fun h' => h h'.2.1), if_neg h]; rfl
    have g2 : ∀ (s : mh_H) (j j' : Nat) (v : Int32), hR (mh_setR (mh_setA (mh_arr s 0 1) (hX s) 0 v) 5 j a (some (hX s))) 5 j' a = if j' = j then some (hX s) else hR s 5 j' a := fun s j j' v => by
      rw [gR_setR]
      by_cases h : j' = j
      · rw [if_pos ⟨rfl, h, rfl⟩, if_pos h]
      · rw [if_neg (fun h' => h h'.2.1), if_neg h]; rfl
    intro i hi
    rw [← hs7, g1, ← hs6, g2, ← hs5, g1, ← hs4, g2, ← hs3, g1, ← hs2, g2, ← hs1, g1, hs1, hs2, hs3, hs4, hs5, hs6, y0, y1, y2, y3, y4, y5, y6]
    have : i = 0 ∨ i = 1 ∨ i = 2 ∨ i = 3 ∨ i = 4 ∨ i = 5 ∨ i = 6 := by omega
    rcases this with rfl | rfl | rfl | rfl | rfl | rfl | rfl <;> rfl
  have hI7 : hI s7 5 0 a = 1 := by
    have : hI s7 = hI s0 := by
      rw [← hs7]; show hI s6 = _
      rw [← hs6]; show hI s5 = _
      rw [← hs5]; show hI s4 = _
      rw [← hs4]; show hI s3 = _
      rw [← hs3]; show hI s2 = _
      rw [← hs2]; show hI s1 = _
      rw [← hs1]; rfl
    rw [this, ← hs0, gI_setI, if_pos ⟨rfl, rfl, rfl⟩]
  refine ⟨s7, ?_, ⟨t7, fun i hi => ⟨(hTN i hi).1, (hTN i hi).2, hRf i hi⟩, ?_, ⟨?_, by omega, ?_⟩, ?_, ?_, by omega, by omega⟩, y7, ?_⟩
  · have ck : ∀ (s : mh_H) (v : Int32), hT (mh_setA (mh_arr s 0 1) (hX s) 0 v) a = hT (mh_arr s 0 1) a := fun _ _ => rfl
    have ta : ∀ (s : mh_H), a < hX s → hT s a = 11 → hT (mh_arr s 0 1) a = 11 := fun s h1 h2 => by rw [gT_arr, if_neg (by omega)]; exact h2
    have tx : ∀ (s : mh_H), hT (mh_arr s 0 1) (hX s) = 2 := fun s => by rw [gT_arr, if_pos rfl]
    have nx : ∀ (s : mh_H), ib 0 (hN (mh_arr s 0 1) (hX s)) := fun s => by rw [gN_arr, if_pos rfl]; decide
    unfold f_TR_init
    refine X_chk ht ?_
    show chk _ (tkA 1 1 (bnd (hX (mh_setI τ 5 0 a 1)) fun a4 => bnd (mh_arr (mh_setI τ 5 0 a 1) 0 1) _)) = _
    rw [hs0]
    refine X_chk (by decide) (X_tk (c' := 6) (m' := 6) (X_bnd (X_bnd (X_chk (ta s0 (by omega) T0) ?_))) rfl)
    show chk _ (tkA 1 1 (bnd (hX (al s0 5 1 a 1)) fun a9 => bnd (mh_arr (al s0 5 1 a 1) 0 1) _)) = _
    rw [hs1]
    refine X_chk (by decide) (X_tk (c' := 5) (m' := 5) (X_bnd (X_bnd (X_chk (tx s1) (X_chk (nx s1) (X_chk (ta s1 (by omega) t1) ?_))))) rfl)
    show chk _ (tkA 1 1 (bnd (hX (mh_setR (mh_setA (mh_arr s1 0 1) (hX s1) 0 (-1)) 5 2 a (some (hX s1)))) fun a16 => bnd (mh_arr (mh_setR (mh_setA (mh_arr s1 0 1) (hX s1) 0 (-1)) 5 2 a (some (hX s1))) 0 1) _)) = _
    rw [hs2]
    refine X_chk (by decide) (X_tk (c' := 4) (m' := 4) (X_bnd (X_bnd (X_chk (ta s2 (by omega) t2) ?_))) rfl)
    show chk _ (tkA 1 1 (bnd (hX (al s2 5 3 a 1)) fun a21 => bnd (mh_arr (al s2 5 3 a 1) 0 1) _)) = _
    rw [hs3]
    refine X_chk (by decide) (X_tk (c' := 3) (m' := 3) (X_bnd (X_bnd (X_chk (tx s3) (X_chk (nx s3) (X_chk (ta s3 (by omega) t3) ?_))))) rfl)
    show chk _ (tkA 1 1 (bnd (hX (mh_setR (mh_setA (mh_arr s3 0 1) (hX s3) 0 1) 5 4 a (some (hX s3)))) fun a28 => bnd (mh_arr (mh_setR (mh_setA (mh_arr s3 0 1) (hX s3) 0 1) 5 4 a (some (hX s3))) 0 1) _)) = _
    rw [hs4]
    refine X_chk (by decide) (X_tk (c' := 2) (m' := 2) (X_bnd (X_bnd (X_chk (ta s4 (by omega) t4) ?_))) rfl)
    show chk _ (tkA 1 1 (bnd (hX (al s4 5 5 a 1)) fun a33 => bnd (mh_arr (al s4 5 5 a 1) 0 1) _)) = _
    rw [hs5]
    refine X_chk (by decide) (X_tk (c' := 1) (m' := 1) (X_bnd (X_bnd (X_chk (tx s5) (X_chk (nx s5) (X_chk (ta s5 (by omega) t5) ?_))))) rfl)
    show chk _ (tkA 1 1 (bnd (hX (mh_setR (mh_setA (mh_arr s5 0 1) (hX s5) 0 (-1)) 5 6 a (some (hX s5)))) fun a40 => bnd (mh_arr (mh_setR (mh_setA (mh_arr s5 0 1) (hX s5) 0 (-1)) 5 6 a (some (hX s5))) 0 1) _)) = _
    rw [hs6]
    refine X_chk (by decide) (X_tk (c' := 0) (m' := 0) (X_bnd (X_bnd (X_chk (ta s6 (by omega) t6) ?_))) rfl)
    show some (al s6 5 7 a 1, 0, 0) = _
    rw [hs7]
  · rw [hI7]; rfl
  · decide
  · decide
  · intro j hj
    have hj0 : j = 0 := by simp [txt, pre] at hj; omega
    subst hj0
    have a0 : hA s7 (hX τ) 0 = 0 := by rw [A C17 (by omega) (by omega)]; exact e1.2.2
    have a1 : hA s7 (hX τ + 1) 0 = -1 := by rw [A C27 (by omega) (by omega)]; exact e2.2.2
    have a2 : hA s7 (hX τ + 2) 0 = 0 := by rw [A C37 (by omega) (by omega)]; exact e3.2.2
    have a3 : hA s7 (hX τ + 3) 0 = 1 := by rw [A C47 (by omega) (by omega)]; exact e4.2.2
    have a5 : hA s7 (hX τ + 5) 0 = -1 := by rw [A C67 (by omega) (by omega)]; exact e6.2.2
    exact ⟨a0, a1, a2, a5, a3⟩
  · intro i hi
    have hi0 : i = 0 := by simp [rkT, rks] at hi; omega
    subst hi0
    have a4 : hA s7 (hX τ + 4) 0 = 0 := by rw [A C57 (by omega) (by omega)]; exact e5.2.2
    exact ⟨a4, e7.2.2⟩
  · exact Chg_trans C0' (Chg_trans' (Chg_mono C1 (fun x _ h _ => h)) (Chg_mono C17 (fun x _ h h' => h (by omega))))
end INIT
