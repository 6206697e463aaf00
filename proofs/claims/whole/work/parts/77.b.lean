/-! both parsers from their heads -/
theorem pA_in {A : Nat → Nat → Int32} {dk dp dv dz i : Nat} {ds : List Ent} (hi : i < ds.length) (h1 : dk ≠ dp) (h2 : dk ≠ dv) (h3 : dk ≠ dz) (h4 : dp ≠ dv) (h5 : dp ≠ dz) (h6 : dv ≠ dz) : pA A dk dp dv dz ds dk i = ds[i].1 ∧ pA A dk dp dv dz ds dp i = ds[i].2.1 ∧ pA A dk dp dv dz ds dv i = ds[i].2.2.1 ∧ pA A dk dp dv dz ds dz i = ds[i].2.2.2 := by
  have e : ds[i]? = some ds[i] := List.getElem?_eq_getElem hi
  unfold pA
  rw [e]
  have h1' : ¬ dp = dk := fun h => h1 h.symm
  have h2' : ¬ dv = dk := fun h => h2 h.symm
  have h3' : ¬ dz = dk := fun h => h3 h.symm
  have h4' : ¬ dv = dp := fun h => h4 h.symm
  have h5' : ¬ dz = dp := fun h => h5 h.symm
  have h6' : ¬ dz = dv := fun h => h6 h.symm
  simp only [h1', h2', h3', h4', h5', h6', if_true, if_false, and_self]
theorem pz_Chg {U : Nat → Prop} {τ : mh_H} {ap dd dk dp dv dz q : Nat} {ds : List Ent} (h0 : U ap) (h1 : U dd) (h2 : U dk) (h3 : U dp) (h4 : U dv) (h5 : U dz) : Chg U τ (pz τ ap dd dk dp dv dz q ds) := by
  refine ⟨Nat.le_refl _, fun _ _ => ⟨rfl, rfl⟩, fun a ha hn => ⟨fun k j => ?_, fun _ _ => rfl, fun i => ?_, fun _ => rfl⟩⟩
  · show (if k = 3 ∧ j = 2 ∧ a = ap then _ else if k = 1 ∧ j = 4 ∧ a = dd then _ else _) = _
    rw [if_neg (by rintro ⟨_, _, rfl⟩; exact hn h0), if_neg (by rintro ⟨_, _, rfl⟩; exact hn h1)]
  · exact pA_o (b := a) (by rintro rfl; exact hn h2) (by rintro rfl; exact hn h3) (by rintro rfl; exact hn h4) (by rintro rfl; exact hn h5) i
theorem new_Chg {U : Nat → Prop} {τ : mh_H} {k : Nat} : Chg U τ (mh_new τ k) := by
  refine ⟨by show hX τ ≤ hX τ + 1; omega, fun a ha => ⟨by rw [gT_new, if_neg (by omega)], rfl⟩, fun a ha hn => ⟨fun k j => by rw [gI_new, if_neg (by omega)], fun k j => by rw [gR_new, if_neg (by omega)], fun i => rfl, fun _ => rfl⟩⟩
section PARSEH
variable {τ : mh_H} {ap tt dd tb tL db dL n N lc lr t z : Nat} {tk tp ln : Nat → Nat} {tv : Nat → Int32} {S : rm_S} {bt : Nat → Int32} {nt : List (List Int32)}
theorem dr_ok {need : Nat} (H : Dv τ dd db dL) (hn : need ≤ 16003) : ∃ τ' db' dL' c m, f_DR_begin N dd (nI need) τ = some (mh_setI τ' 1 4 dd 0, c, m) ∧ Dv τ' dd db' dL' ∧ need ≤ dL' ∧ Chg (fun a => a = dd) τ τ' ∧ ((db' = db ∧ dL' = dL ∧ c = 0 ∧ m = 0) ∨ (db' = hX τ ∧ c = 4 ∧ m = 4 * dL' ∧ 2 * dL ≤ dL')) ∧ hI τ' = hI τ ∧ (∀ k j a, k ≠ 1 → hR τ' k j a = hR τ k j a) := by
  obtain ⟨a1, a2, a3, a4, a5⟩ := H
  have b0 := a2 0 (by omega)
  rw [Nat.add_zero] at b0
  by_cases hs : need ≤ dL
  · exact ⟨τ, db, dL, 0, 0, dr_stay a1 b0.2.2 b0.1 (by omega) (by omega), ⟨a1, a2, a3, a4, a5⟩, hs, Chg_refl, Or.inl ⟨rfl, rfl, rfl, rfl⟩, rfl, fun _ _ _ _ => rfl⟩
  · have hr := dr_room (N := N) (need := need) a1 b0.2.2 b0.1 (by omega) (by omega) (by omega) a4
    rw [b0.2.1] at hr
    refine ⟨_, hX τ, max need (2 * dL), 4, _, hr, ⟨?_, fun i hi => ⟨?_, ?_, ?_⟩, by omega, ?_, ?_⟩, by omega, als_Chg 4 rfl, Or.inr ⟨rfl, rfl, rfl, by omega⟩, als_I 4, fun k j a hk => ?_⟩
    · rw [als_T, if_neg (by omega)]; exact a1
    · rw [als_T, if_pos (by omega)]
    · rw [als_N, if_pos (by omega)]
    · rw [als_R, if_pos ⟨rfl, rfl, by omega, by omega⟩]; congr 1
    · rw [als_X]; omega
    · rw [als_X]; omega
    · rw [als_R, if_neg (fun h => hk h.1)]
theorem parse_ok (HT : Tv τ tt tb tL) (HD : Dv τ dd db dL) (HP : hT τ ap = 7 ∧ hR τ 3 0 ap = some tt ∧ hR τ 3 1 ap = some dd ∧ ap < hX τ) (hdis : tb + 2 < db ∨ db + 3 < tb) (h45 : hI τ 4 5 tt = nI n) (htok : ∀ i, i < n → hA τ tb i = nI (tk i) ∧ hA τ (tb + 1) i = nI (tp i) ∧ hA τ (tb + 2) i = tv i) (hnL : n ≤ tL) (hn : n ≤ 8001) (hn0 : 0 < n) (h35 : ∀ i, i < n → tk i < 35) (h13 : ∀ i, i < n → tk i ≠ 0 → i + 1 < n)
    (R : RP S n tk tp ln tv) (hbt : S.2 1 = bt) (hTR : TR S t z (txt .leaf)) (hNT : NT S.2 nt) (h31 : S.1 31 = nI nt.length) (s12 : S.1 12 = 0) (s13 : S.1 13 = 0) (s14 : S.1 14 = -1) (hcap : Cap n tk tp (fun j => wd bt (tp j) (ln j)) nt) (hNN : 40000 ≤ N) (ht : t ≤ 1) (hz : z = 13000 * t) (hlc : 249 ≤ lc) (hlr : 249 ≤ lr) :
    ∃ F flt c m cd md τ' db' dL' S', f_PA_parse N (pa_function N lc) ap τ = some ((flt, τ'), c, m) ∧ k_RM_read_66 N (rp_function N lr) N (nI t) S = some (flt, S') ∧ (Dv τ' dd db' dL' ∧ siz F + 1 ≤ dL' ∧ hI τ' 1 4 dd = nI (siz F + 1) ∧ Dr (hA τ') db' (db' + 1) (db' + 2) (db' + 3) 0 (post F ++ [TXE F])) ∧ (hT τ' ap = 7 ∧ hR τ' 3 0 ap = some tt ∧ hR τ' 3 1 ap = some dd ∧ ap < hX τ') ∧ Chg (fun a => a = ap ∨ a = dd ∨ (db ≤ a ∧ a ≤ db + 3)) τ τ' ∧ ((db' = db ∧ dL' = dL ∧ cd = 0 ∧ md = 0) ∨ (hX τ ≤ db' ∧ cd = 4 ∧ md = 4 * dL' ∧ 2 * dL ≤ dL')) ∧ (c ≤ cd + 1 ∧ m ≤ md + 6) ∧ RF S S' t z (res (fun j => wd bt (tp j) (ln j)) F nt).1 (res (fun j => wd bt (tp j) (ln j)) F nt).2 ∧ wf n tk tp F ∧ hgt F ≤ 307 ∧ 2 * siz F ≤ 3 * n := by
  obtain ⟨p1, p2, p3, p4⟩ := HP
  have htt := HT.1
  have hdd := HD.1
  have hta := HT.2.2.2.1
  have hda := HD.2.2.2.1
  have n1 : tt ≠ ap := by rintro rfl; omega
  have n2 : dd ≠ ap := by rintro rfl; omega
  have u0 := HT.2.1 0 (by omega)
  have u1 := HT.2.1 1 (by omega)
  have u2 := HT.2.1 2 (by omega)
  rw [Nat.add_zero] at u0
  generalize hτ1 : mh_setI τ 3 2 ap 0 = τ1
  have C1 : Chg (fun a => a = ap) τ τ1 := by rw [← hτ1]; exact Chg_setI rfl
  have hX1 : hX τ1 = hX τ := by rw [← hτ1]; rfl
  have D1 := Dv_Chg C1 HD (fun h => n2 h)
  have T1 := Tv_Chg C1 HT (fun h => n1 h)
  obtain ⟨τ2, db', dL', cd, md, r1, D2, r2, C2, r3, r4, r5⟩ := dr_ok (N := N) (need := 2 * n + 1) D1 (by omega)
  have n3 : tt ≠ dd := by rintro rfl; omega
  have T2 := Tv_Chg C2 T1 (fun h => n3 h)
  have C12 : Chg (fun a => a = ap ∨ a = dd) τ τ2 := Chg_trans' (Chg_mono C1 (fun a _ h => Or.inl h)) (Chg_mono C2 (fun a _ h => Or.inr h))
  have hX2 : hX τ ≤ hX τ2 := C12.1
  have ht2 : ∀ a, a < hX τ → hT τ2 a = hT τ a := fun a ha => (C12.2.1 a ha).1
  have v0 := D2.2.1 0 (by omega)
  have v1 := D2.2.1 1 (by omega)
  have v2 := D2.2.1 2 (by omega)
  have v3 := D2.2.1 3 (by omega)
  rw [Nat.add_zero] at v0
  have w0 := T2.2.1 0 (by omega)
  have w1 := T2.2.1 1 (by omega)
  have w2 := T2.2.1 2 (by omega)
  rw [Nat.add_zero] at w0
  have hta2 := T2.2.2.2
  have hda2 := D2.2.2.2
  have hdis' : tb + 2 < db' ∨ db' + 3 < tb := by
    have := HT.2.2.2.2
    rcases r3 with h | h
    · rw [h.1]; exact hdis
    · left; rw [h.1, hX1]; exact this
  have kA : ∀ a, a < hX τ → hT τ a = 2 → ∀ i, hA τ2 a i = hA τ a i := fun a ha h2 => (C12.2.2 a ha (by rintro (rfl | rfl) <;> omega)).2.2.1
  have hI33 : hI τ2 3 2 ap = 0 := by rw [r4, ← hτ1, gI_setI, if_pos ⟨rfl, rfl, rfl⟩]
  have hI45 : hI τ2 4 5 tt = nI n := by rw [r4, ← hτ1, gI_setI, if_neg (by omega)]; exact h45
  have hR3 : ∀ j, hR τ2 3 j ap = hR τ 3 j ap := fun j => by
    rw [r5 3 j ap (by omega), ← hτ1, gR_setI]
  have E : PE τ2 ap dd tt tb (tb + 1) (tb + 2) db' (db' + 1) (db' + 2) (db' + 3) n dL' tk tp tv := by
    have x3 := HT.2.2.2.2
    refine ⟨⟨by rw [ht2 ap p4]; exact p1, D2.1, T2.1⟩, ⟨w0.1, w1.1, w2.1, v0.1, v1.1, v2.1, v3.1⟩, ⟨by rw [hR3]; exact p2, by rw [hR3]; exact p3⟩, ⟨w0.2.2, w1.2.2, w2.2.2⟩, ⟨v0.2.2, v1.2.2, v2.2.2, v3.2.2⟩, ⟨v0.2.1, v1.2.1, v2.2.1, v3.2.1⟩, ⟨by rw [w0.2.1]; exact hnL, by rw [w1.2.1]; exact hnL, by rw [w2.2.1]; exact hnL⟩, hI45, ⟨by omega, by omega, by omega, by omega, by omega, by omega⟩, ⟨by omega, by omega, by omega, by omega⟩, ⟨by omega, by omega, by omega, by omega⟩, ⟨by omega, by omega, by omega, by omega⟩, fun i hi => ?_, by omega, by have := D2.2.2.1; omega, by omega, h13⟩
    rw [kA tb (by omega) u0.1, kA (tb + 1) (by omega) u1.1, kA (tb + 2) (by omega) u2.1]
    exact ⟨(htok i hi).1, (htok i hi).2.1, (htok i hi).2.2, h35 i hi⟩
  have AA : AD τ2 ap dd tt tb (tb + 1) (tb + 2) db' (db' + 1) (db' + 2) (db' + 3) := ⟨⟨by omega, hda2.1, hta2.1⟩, ⟨by omega, by omega, hta2.2⟩, ⟨by omega, by omega, by omega, hda2.2⟩⟩
  obtain ⟨dr, hdr⟩ := n_of (S.1 21)
  have hS := qz_self (S := S) (q := 0) (bad := 0) (flt := -1) (dr := dr) s12 s13 s14 hdr
  have es : mh_setI τ2 1 4 dd 0 = pz τ2 ap dd db' (db' + 1) (db' + 2) (db' + 3) 0 (post .leaf) := by
    refine mh_ext rfl (fun k j a => ?_) (fun _ _ _ => rfl) (fun b i => rfl) rfl rfl rfl
    rw [gI_setI]
    show _ = (if k = 3 ∧ j = 2 ∧ a = ap then nI 0 else if k = 1 ∧ j = 4 ∧ a = dd then nI 0 else hI τ2 k j a)
    by_cases h1 : k = 3 ∧ j = 2 ∧ a = ap
    · obtain ⟨rfl, rfl, rfl⟩ := h1
      rw [if_neg (by omega), if_pos ⟨rfl, rfl, rfl⟩]; exact hI33
    · rw [if_neg h1]; rfl
  obtain ⟨F, flt, c, k, τ', S', q1, q2, q3, q4, q5, q6, q7⟩ := read_loop (N := N) (t := t) (z := z) (lc := lc) (lr := lr) (bt := bt) (nt := nt) (ln := ln) E AA hn (by omega) ht hz hlc hlr hcap n 0 .leaf dr S.2 0 N N S (by omega) (by omega) (by omega) hn0 (fun j hj => by omega) R hbt hTR hNT h31 trivial (by simp [siz]) (by simp [hgt]) (by omega) (Or.inl rfl) (fun i hi => by omega)
  rw [← hS] at q2
  have hF : siz F + 1 ≤ dL' := by omega
  have hlen : (post F ++ [TXE F]).length = siz F + 1 := by simp [post_len]
  -- how the class stands at the end
  have fin : ∀ σ q, hT σ dd = 3 → σ = τ2 ∨ (∃ q x, σ = mh_new (pz τ2 ap dd db' (db' + 1) (db' + 2) (db' + 3) q x) 9) → τ' = pz σ ap dd db' (db' + 1) (db' + 2) (db' + 3) q (post F ++ [TXE F]) → (Dv τ' dd db' dL' ∧ siz F + 1 ≤ dL' ∧ hI τ' 1 4 dd = nI (siz F + 1) ∧ Dr (hA τ') db' (db' + 1) (db' + 2) (db' + 3) 0 (post F ++ [TXE F])) ∧ (hT τ' ap = 7 ∧ hR τ' 3 0 ap = some tt ∧ hR τ' 3 1 ap = some dd ∧ ap < hX τ') ∧ Chg (fun a => a = ap ∨ a = dd ∨ (db ≤ a ∧ a ≤ db + 3)) τ τ' := by
    intro σ q _ hσ hτ'
    have Cq : Chg (fun a => a = ap ∨ a = dd ∨ (db' ≤ a ∧ a ≤ db' + 3)) τ2 σ := by
      rcases hσ with h | ⟨q, x, h⟩
      · rw [h]; exact Chg_refl
      · rw [h]; exact Chg_trans' (pz_Chg (Or.inl rfl) (Or.inr (Or.inl rfl)) (Or.inr (Or.inr ⟨by omega, by omega⟩)) (Or.inr (Or.inr ⟨by omega, by omega⟩)) (Or.inr (Or.inr ⟨by omega, by omega⟩)) (Or.inr (Or.inr ⟨by omega, by omega⟩))) new_Chg
    have hRσ : ∀ k j a, a < hX τ2 → hR σ k j a = hR τ2 k j a := by
      intro k j a ha
      rcases hσ with h | ⟨q, x, h⟩
      · rw [h]
      · rw [h, gR_new, if_neg (by show ¬ a = hX τ2; omega)]; rfl
    have Cz : Chg (fun a => a = ap ∨ a = dd ∨ (db' ≤ a ∧ a ≤ db' + 3)) τ2 τ' := by
      rw [hτ']
      exact Chg_trans' Cq (pz_Chg (Or.inl rfl) (Or.inr (Or.inl rfl)) (Or.inr (Or.inr ⟨by omega, by omega⟩)) (Or.inr (Or.inr ⟨by omega, by omega⟩)) (Or.inr (Or.inr ⟨by omega, by omega⟩)) (Or.inr (Or.inr ⟨by omega, by omega⟩)))
    have hRτ : ∀ k j a, a < hX τ2 → hR τ' k j a = hR τ2 k j a := by
      intro k j a ha
      rw [hτ', pz_R]; exact hRσ k j a ha
    have hxz := Cz.1
    refine ⟨⟨⟨by rw [(Cz.2.1 dd hda2.1).1]; exact D2.1, fun i hi => ?_, D2.2.2.1, by omega, by omega⟩, hF, ?_, ?_⟩, ⟨by rw [(Cz.2.1 ap (by omega)).1, ht2 ap p4]; exact p1, by rw [hRτ 3 0 ap (by omega), hR3]; exact p2, by rw [hRτ 3 1 ap (by omega), hR3]; exact p3, by omega⟩, ?_⟩
    · rw [(Cz.2.1 (db' + i) (by omega)).1, (Cz.2.1 (db' + i) (by omega)).2, hRτ 1 i dd hda2.1]; exact D2.2.1 i hi
    · rw [hτ', pz_14, hlen]
    · rw [hτ', pz_A]
      intro j hj
      have := pA_in (A := hA σ) (dk := db') (dp := db' + 1) (dv := db' + 2) (dz := db' + 3) hj (by omega) (by omega) (by omega) (by omega) (by omega) (by omega)
      rw [Nat.zero_add]; exact this
    · refine Chg_trans (Chg_mono C12 (fun a _ h => ?_)) (Chg_mono Cz (fun a _ h ha => ?_))
      · rcases h with h | h
        · exact Or.inl h
        · exact Or.inr (Or.inl h)
      · rcases h with h | h | h
        · exact Or.inl h
        · exact Or.inr (Or.inl h)
        · rcases r3 with h3 | h3
          · rw [h3.1] at h; exact Or.inr (Or.inr h)
          · omega
  have r3' : (db' = db ∧ dL' = dL ∧ cd = 0 ∧ md = 0) ∨ (hX τ ≤ db' ∧ cd = 4 ∧ md = 4 * dL' ∧ 2 * dL ≤ dL') := by
    rcases r3 with h | h
    · exact Or.inl h
    · exact Or.inr ⟨by omega, h.2⟩
  have run : f_PA_parse N (pa_function N lc) ap τ = some ((flt, τ'), c + cd, k + md) := by
    have e2 : (2 : Int32) * nI n + 1 = nI (2 * n + 1) := by rw [show (2 : Int32) * nI n = nI (2 * n) from n_mul 2 n]; exact n_add _ 1
    unfold f_PA_parse
    refine X_chk p1 ?_
    rw [hτ1]
    refine X_rfO (a := dd) (by rw [← hτ1, gR_setI]; exact p3) (X_rfO (a := tt) (by rw [← hτ1, gR_setI]; exact p2) (X_chk T1.1 (X_bndE (x' := nI n) (by rw [← hτ1, gI_setI, if_neg (by omega)]; exact h45) (X_chk D1.1 ?_))))
    rw [e2]
    refine X_A r1 (X_tk (a := (flt, τ')) (c' := c) (m' := k) ?_ rfl)
    rw [es]; exact q1
  rcases q3 with ⟨hc, hk, q, hq⟩ | ⟨hc, hk, q, x, hq⟩
  · obtain ⟨f1, f2, f3⟩ := fin τ2 q D2.1 (Or.inl rfl) hq
    exact ⟨F, flt, c + cd, k + md, cd, md, τ', db', dL', S', run, q2, f1, f2, f3, r3', ⟨by omega, by omega⟩, q4, q5, q6, q7⟩
  · obtain ⟨f1, f2, f3⟩ := fin _ q (by
      rw [gT_new, if_neg (by show ¬ dd = hX τ2; omega)]; exact D2.1) (Or.inr ⟨_, _, rfl⟩) hq
    exact ⟨F, flt, c + cd, k + md, cd, md, τ', db', dL', S', run, q2, f1, f2, f3, r3', ⟨by omega, by omega⟩, q4, q5, q6, q7⟩
end PARSEH
