/-! both scans from their heads -/
def Tv (τ : mh_H) (tt tb tL : Nat) : Prop := hT τ tt = 9 ∧ (∀ i, i < 3 → hT τ (tb + i) = 2 ∧ hN τ (tb + i) = tL ∧ hR τ 4 (2 + i) tt = some (tb + i)) ∧ tL ≤ 16002 ∧ (tt < hX τ ∧ tb + 2 < hX τ)
theorem Tv_Chg {U : Nat → Prop} {τ τ' : mh_H} {tt tb tL : Nat} (C : Chg U τ τ') (H : Tv τ tt tb tL) (h1 : ¬ U tt) : Tv τ' tt tb tL := by
  obtain ⟨a1, a2, a3, a4, a5⟩ := H
  have kt := C.2.2 tt a4 h1
  refine ⟨by rw [(C.2.1 tt a4).1]; exact a1, fun i hi => ?_, a3, by have := C.1; omega, by have := C.1; omega⟩
  rw [(C.2.1 (tb + i) (by omega)).1, (C.2.1 (tb + i) (by omega)).2, kt.2.1]; exact a2 i hi
theorem tA_o {A : Nat → Nat → Int32} {bk bp bv b i : Nat} {ts : List Tk} (h1 : b ≠ bk) (h2 : b ≠ bp) (h3 : b ≠ bv) : tA A bk bp bv ts b i = A b i := by
  unfold tA
  cases ts[i]? with
  | none => rfl
  | some e => simp [h1, h2, h3]
theorem tA_in {A : Nat → Nat → Int32} {bk bp bv i : Nat} {ts : List Tk} (hi : i < ts.length) (h1 : bk ≠ bp) (h2 : bk ≠ bv) (h3 : bp ≠ bv) : tA A bk bp bv ts bk i = ts[i].1 ∧ tA A bk bp bv ts bp i = ts[i].2.1 ∧ tA A bk bp bv ts bv i = ts[i].2.2 := by
  have e : ts[i]? = some ts[i] := List.getElem?_eq_getElem hi
  unfold tA
  rw [e]
  have h1' : ¬ bp = bk := fun h => h1 h.symm
  have h2' : ¬ bv = bk := fun h => h2 h.symm
  have h3' : ¬ bv = bp := fun h => h3 h.symm
  simp only [h1', h2', h3', if_true, if_false, and_self]
theorem tz_Chg {U : Nat → Prop} {τ : mh_H} {tt bk bp bv : Nat} {ts : List Tk} (h0 : U tt) (h1 : U bk) (h2 : U bp) (h3 : U bv) : Chg U τ (tz τ tt bk bp bv ts) := by
  refine ⟨Nat.le_refl _, fun _ _ => ⟨rfl, rfl⟩, fun a ha hn => ⟨fun k j => ?_, fun _ _ => rfl, fun i => ?_, fun _ => rfl⟩⟩
  · show (if k = 4 ∧ j = 5 ∧ a = tt then _ else _) = _
    rw [if_neg (by rintro ⟨_, _, rfl⟩; exact hn h0)]
  · exact tA_o (fun h => hn (h ▸ h1)) (fun h => hn (h ▸ h2)) (fun h => hn (h ▸ h3))
theorem cT_in {T : List T4} {i : Nat} (hi : i < T.length) : (T.map cT)[i]'(by simpa using hi) = (nI (tkF T i), nI (tpF T i), tvF T i) := by
  rw [List.getElem_map]
  simp only [tkF, tpF, tvF, cT, getD_in hi]
section SCANH
variable {τ : mh_H} {tt tb tL bt e N : Nat} {g : Nat → Nat} {S : rm_S}
theorem to_ok {need : Nat} (H : Tv τ tt tb tL) (hn : need ≤ 8001) : ∃ τ' tb' tL' c m, f_TO_makeRoom N tt (nI need) τ = some (τ', c, m) ∧ Tv τ' tt tb' tL' ∧ need ≤ tL' ∧ Chg (fun a => a = tt) τ τ' ∧ ((tb' = tb ∧ tL' = tL ∧ c = 0 ∧ m = 0) ∨ (tb' = hX τ ∧ c = 3 ∧ m = 3 * tL' ∧ 2 * tL ≤ tL')) ∧ hI τ' = hI τ ∧ hR τ' 4 0 tt = hR τ 4 0 tt := by
  obtain ⟨a1, a2, a3, a4, a5⟩ := H
  have b0 := a2 0 (by omega)
  rw [Nat.add_zero] at b0
  by_cases hs : need ≤ tL
  · exact ⟨τ, tb, tL, 0, 0, to_stay a1 b0.2.2 b0.1 (by omega) (by omega), ⟨a1, a2, a3, a4, a5⟩, hs, Chg_refl, Or.inl ⟨rfl, rfl, rfl, rfl⟩, rfl, rfl⟩
  · have hr := to_room (N := N) (need := need) a1 b0.2.2 b0.1 (by omega) (by omega) (by omega) a4
    rw [b0.2.1] at hr
    refine ⟨_, hX τ, max need (2 * tL), 3, _, hr, ⟨?_, fun i hi => ⟨?_, ?_, ?_⟩, by omega, ?_, ?_⟩, by omega, als_Chg 3 rfl, Or.inr ⟨rfl, rfl, rfl, by omega⟩, als_I 3, ?_⟩
    · rw [als_T, if_neg (by omega)]; exact a1
    · rw [als_T, if_pos (by omega)]
    · rw [als_N, if_pos (by omega)]
    · rw [als_R, if_pos ⟨rfl, rfl, by omega, by omega⟩]; congr 1; omega
    · rw [als_X]; omega
    · rw [als_X]; omega
    · rw [als_R, if_neg (by omega)]
theorem scan_ok {J : Nat → List T4 → Prop} (hJ : ∀ i T k l v, J i T → i < e → Tok g e i k l v → k ≠ 1 → J (bl g e (e - (i + l)) false (i + l)) (T ++ [(k, i, l, v)])) (hJ0 : J (bl g e e false 0) []) (H : Tv τ tt tb tL) (hb : hT τ bt = 4) (hbx : bt < hX τ) (hbN : e ≤ hN τ bt) (hbN2 : hN τ bt < 100000) (hby : ∀ i, i < e → hA τ bt i = sx (g i)) (G : GE S e g) (hNN : 40000 ≤ N) :
    ∃ τ' tb' tL' c m T' S', f_TO_scan N tt bt (nI e) τ = some (τ', c, m) ∧ f_RM_scan N S = some S' ∧ Tv τ' tt tb' tL' ∧ T'.length ≤ tL' ∧ hI τ' 4 5 tt = nI T'.length ∧ (∀ i, i < T'.length → hA τ' tb' i = nI (tkF T' i) ∧ hA τ' (tb' + 1) i = nI (tpF T' i) ∧ hA τ' (tb' + 2) i = tvF T' i) ∧ KE τ' tt bt e g ∧ Chg (fun a => a = tt ∨ (tb ≤ a ∧ a ≤ tb + 2)) τ τ' ∧ ((tb' = tb ∧ tL' = tL ∧ c = 0 ∧ m = 0) ∨ (tb' = hX τ ∧ c = 3 ∧ m = 3 * tL' ∧ 2 * tL ≤ tL')) ∧ fT S S' ∧ finT J g e T' S' := by
  obtain ⟨G1, G2, G3⟩ := G
  have ht9 := H.1
  have htx := H.2.2.2.1
  generalize hτ1 : mh_setI (mh_setR τ 4 0 tt (some bt)) 4 1 tt (nI e) = τ1
  have C1 : Chg (fun a => a = tt) τ τ1 := by rw [← hτ1]; exact Chg_trans' (Chg_setR rfl) (Chg_setI rfl)
  have hX1 : hX τ1 = hX τ := by rw [← hτ1]; rfl
  have H1 : Tv τ1 tt tb tL := by
    obtain ⟨a1, a2, a3, a4, a5⟩ := H
    subst hτ1
    refine ⟨a1, fun i hi => ⟨(a2 i hi).1, (a2 i hi).2.1, ?_⟩, a3, a4, a5⟩
    rw [gR_setI, gR_setR, if_neg (by omega)]; exact (a2 i hi).2.2
  obtain ⟨τ2, tb', tL', c, m, r1, H2, r2, C2, r3, r4, r5⟩ := to_ok (N := N) (need := e + 1) H1 (by omega)
  have hnt : bt ≠ tt := by rintro rfl; omega
  have C12 : Chg (fun a => a = tt) τ τ2 := Chg_trans' C1 C2
  have kb := C12.2.2 bt hbx (fun h => hnt h)
  have i41 : hI τ2 4 1 tt = nI e := by rw [r4, ← hτ1, gI_setI, if_pos ⟨rfl, rfl, rfl⟩]
  have i40 : hR τ2 4 0 tt = some bt := by rw [r5, ← hτ1, gR_setI, gR_setR, if_pos ⟨rfl, rfl, rfl⟩]
  have K2 : KE τ2 tt bt e g := ⟨H2.1, i40, by rw [(C12.2.1 bt hbx).1]; exact hb, i41, by rw [(C12.2.1 bt hbx).2]; exact hbN, fun i hi => ⟨by rw [kb.2.2.1]; exact hby i hi, (G2 i hi).2⟩, G3⟩
  have Q2 : QE τ2 tt tb' (tb' + 1) (tb' + 2) tL' := by
    have u0 := H2.2.1 0 (by omega)
    have u1 := H2.2.1 1 (by omega)
    have u2 := H2.2.1 2 (by omega)
    rw [Nat.add_zero] at u0
    exact ⟨H2.1, ⟨u0.1, u1.1, u2.1⟩, ⟨u0.2.2, u1.2.2, u2.2.2⟩, ⟨u0.2.1, u1.2.1, u2.2.1⟩, ⟨by omega, by omega, by omega⟩, by have := H2.2.2.1; omega⟩
  have e0 : mh_setI τ2 4 5 tt 0 = tz τ2 tt tb' (tb' + 1) (tb' + 2) [] := by
    refine mh_ext rfl (fun k j a => ?_) (fun _ _ _ => rfl) (fun b i => ?_) rfl rfl rfl
    · rw [gI_setI]; rfl
    · rfl
  have K3 : KE (tz τ2 tt tb' (tb' + 1) (tb' + 2) []) tt bt e g := by
    rw [← e0]
    obtain ⟨k1, k2, k3, k4, k5, k6, k7⟩ := K2
    exact ⟨k1, k2, k3, by rw [gI_setI, if_neg (by omega)]; exact k4, k5, k6, k7⟩
  have GS : GE (rs_i S 11 0) e g := ⟨G1, G2, G3⟩
  have hbl := bl_range g e e false 0 (by omega)
  have hcb := k_blank (N := N) K3 e false 0 N (by omega) (by omega) (by omega)
  have hrb := g_blank (N := N) GS (by omega) e 0 N (by omega) (by omega) (by omega)
  rw [Nat.sub_zero] at hrb
  obtain ⟨T', S', w1, w2, w3, w4⟩ := scan_loop (N := N) hJ Q2 K2 hNN r2 e (bl g e e false 0) [] (rs_i S 11 0) N N (by omega) (by omega) (by omega) hbl.2 GS ⟨rfl, fun j hj => by simp at hj⟩ (by simp) (by simp) hJ0
  have hTl : T'.length ≤ e + 1 := by
    obtain ⟨T0, _, _, h | ⟨i, l, h1, h2, h3, h4⟩⟩ := w4
    · rw [h.1]; simp; exact h.2.2
    · rw [h1]; simp; omega
  have C3 : Chg (fun a => a = tt ∨ (tb' ≤ a ∧ a ≤ tb' + 2)) τ2 (tz τ2 tt tb' (tb' + 1) (tb' + 2) (T'.map cT)) := tz_Chg (Or.inl rfl) (Or.inr ⟨by omega, by omega⟩) (Or.inr ⟨by omega, by omega⟩) (Or.inr ⟨by omega, by omega⟩)
  refine ⟨tz τ2 tt tb' (tb' + 1) (tb' + 2) (T'.map cT), tb', tL', c, m, T', S', ?_, ?_, ⟨H2.1, H2.2.1, H2.2.2.1, H2.2.2.2⟩, by omega, by rw [tz_45]; simp, fun i hi => ?_, ?_, ?_, by rw [← hX1]; exact r3, ?_, w4⟩
  · unfold f_TO_scan
    have hmi := mi_val (N := N) (a := e) (b := hN τ bt) (by omega) (by omega)
    rw [show min e (hN τ bt) = e by omega] at hmi
    refine X_chk ht9 (X_chk hb (X_bndE (x' := nI (hN τ bt)) rfl (X_P hmi ?_)))
    rw [hτ1]
    refine X_bndE (x' := nI e) (by rw [← hτ1, gI_setI, if_pos ⟨rfl, rfl, rfl⟩]) ?_
    rw [show nI e + 1 = nI (e + 1) from n_add e 1]
    refine X_A r1 (X_tk (a := tz τ2 tt tb' (tb' + 1) (tb' + 2) (T'.map cT)) (c' := 0) (m' := 0) (X_chk H2.1 ?_) (by simp))
    rw [e0]
    exact X_I hcb w1
  · unfold f_RM_scan
    exact X_I hrb w2
  · have hi' : i < (T'.map cT).length := by simpa using hi
    have := tA_in (A := hA τ2) (bk := tb') (bp := tb' + 1) (bv := tb' + 2) hi' (by omega) (by omega) (by omega)
    rw [cT_in hi] at this
    exact this
  · obtain ⟨k1, k2, k3, k4, k5, k6, k7⟩ := K2
    refine ⟨k1, k2, k3, by rw [tz_41]; exact k4, k5, fun i hi => ⟨?_, (k6 i hi).2⟩, k7⟩
    have hbt2 := k3
    have u : ∀ i, i < 3 → bt ≠ tb' + i := fun i hi h => by have := (H2.2.1 i hi).1; rw [← h] at this; omega
    rw [tz_A, tA_o (by have := u 0 (by omega); rw [Nat.add_zero] at this; exact this) (u 1 (by omega)) (u 2 (by omega))]
    exact (k6 i hi).1
  · refine Chg_trans (Chg_mono C12 (fun a _ h => Or.inl h)) (Chg_mono C3 (fun a _ h ha => ?_))
    rcases h with h | h
    · exact Or.inl h
    · rcases r3 with h3 | h3
      · rw [h3.1] at h; exact Or.inr h
      · omega
  · exact ⟨fun x hx => by rw [w3.1 x hx, rs_i1, if_neg hx], fun o h1 h2 h3 => by rw [w3.2 o h1 h2 h3, rs_i2]⟩
end SCANH
