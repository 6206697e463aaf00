/-! the class lays a text -/
def twf (tx : Nat → List Int32) (W : Int32 → List Int32) : Fo → Prop
  | .leaf => True
  | .inner _ x _ c m => (x.1 = 13 → tx x.2.2.toNatClampNeg = W (nI x.2.1)) ∧ x.1 < 1000 ∧ twf tx W c ∧ twf tx W m
theorem nmb_pre {tx : Nat → List Int32} {W : Int32 → List Int32} : ∀ (F : Fo) (s : Nat) (w : Int32) (nt : List (List Int32)), twf tx W F → nmb W (pre (zv F) s w) nt = (pre (res tx F nt).1 s w, (res tx F nt).2) := by
  intro F
  induction F with
  | leaf => intro s w nt _; rfl
  | inner i x u c m ic im =>
    intro s w nt h
    obtain ⟨h1, h2, h3, h4⟩ := h
    simp only [zv, pre, res, nmb.eq_2, nmb_app]
    have e13 : (nI x.1 = 13) = (x.1 = 13) := n_eq (b := 13) (by omega) (by omega)
    by_cases hk : x.1 = 13
    · rw [if_pos (by rw [e13]; exact hk)]
      simp only [if_pos hk, zv_siz, res_siz, ic _ _ _ h3, im _ _ _ h4, h1 hk]
    · rw [if_neg (by rw [e13]; exact hk)]
      simp only [if_neg hk, zv_siz, res_siz, ic _ _ _ h3, im _ _ _ h4]
theorem nmb_txt {tx : Nat → List Int32} {W : Int32 → List Int32} (F : Fo) (nt : List (List Int32)) (h : twf tx W F) : nmb W (txt (zv F)) nt = (txt (res tx F nt).1, (res tx F nt).2) := by
  unfold txt
  simp only [nmb.eq_2, nmb_pre F 1 0 nt h, zv_siz, res_siz]
  rw [if_neg (by decide)]
theorem nro_zv : ∀ f : Fo, nro (zv f) = nro f := by
  intro f
  induction f with
  | leaf => rfl
  | inner i x u c m ic im => simp only [zv, nro, im]
theorem rks_zv : ∀ (f : Fo) (j : Nat), rks (zv f) j = rks f j := by
  intro f
  induction f with
  | leaf => intro j; rfl
  | inner i x u c m ic im => intro j; simp only [zv, rks, ic, im, nro_zv]
theorem nro_res (tx : Nat → List Int32) : ∀ (f : Fo) (nt : List (List Int32)), nro (res tx f nt).1 = nro f := by
  intro f
  induction f with
  | leaf => intro nt; rfl
  | inner i x u c m ic im => intro nt; simp only [res, nro, im]
theorem rks_res (tx : Nat → List Int32) : ∀ (f : Fo) (j : Nat) (nt : List (List Int32)), rks (res tx f nt).1 j = rks f j := by
  intro f
  induction f with
  | leaf => intro j nt; rfl
  | inner i x u c m ic im => intro j nt; simp only [res, rks, ic, im, nro_res]
def rkT (F : Fo) : List (Int32 × Int32) := (nI (nro F), 0) :: rks F 0
theorem txt_len (F : Fo) : (txt F).length = siz F + 1 := by simp [txt, pre_len]
theorem rkT_len (F : Fo) : (rkT F).length = siz F + 1 := by simp [rkT, rks_len]
section LAYT
variable {τ : mh_H} {tr b L dd db dL N : Nat} {l : List TE} {pr : List (Int32 × Int32)}
def Dv (τ : mh_H) (dd db dL : Nat) : Prop := hT τ dd = 3 ∧ (∀ i, i < 4 → hT τ (db + i) = 2 ∧ hN τ (db + i) = dL ∧ hR τ 1 i dd = some (db + i)) ∧ dL ≤ 40000 ∧ (dd < hX τ ∧ db + 3 < hX τ)
theorem Dv_Chg {U : Nat → Prop} {τ' : mh_H} (C : Chg U τ τ') (H : Dv τ dd db dL) (h1 : ¬ U dd) : Dv τ' dd db dL := by
  obtain ⟨a1, a2, a3, a4, a5⟩ := H
  have kt := C.2.2 dd a4 h1
  refine ⟨by rw [(C.2.1 dd a4).1]; exact a1, fun i hi => ?_, a3, by have := C.1; omega, by have := C.1; omega⟩
  rw [(C.2.1 (db + i) (by omega)).1, (C.2.1 (db + i) (by omega)).2, kt.2.1]; exact a2 i hi
/-- room for a text -/
theorem lay_room {need : Nat} (H : TL τ tr b L l pr) (hn : need ≤ 12002) (hL : L ≤ 24004) : ∃ τ' b' L' c m, f_TR_makeRoom N tr (nI need) τ = some (τ', c, m) ∧ (hT τ' tr = 11 ∧ (∀ i, i < 7 → hT τ' (b' + i) = 2 ∧ hN τ' (b' + i) = L' ∧ hR τ' 5 (1 + i) tr = some (b' + i)) ∧ tr < hX τ' ∧ b' + 6 < hX τ') ∧ need ≤ L' ∧ L' ≤ 24004 ∧ Chg (fun a => a = tr) τ τ' ∧ ((b' = b ∧ L' = L ∧ c = 0 ∧ m = 0) ∨ (b' = hX τ ∧ c = 7 ∧ m = 7 * L' ∧ 2 * L ≤ L')) := by
  obtain ⟨a1, a2, a3, ⟨a4, a4', a4''⟩, a5, a6, a7, a8⟩ := H
  have b0 := a2 0 (by omega)
  rw [Nat.add_zero] at b0
  by_cases hs : need ≤ L
  · exact ⟨τ, b, L, 0, 0, tr_stay a1 b0.2.2 b0.1 (by omega) (by omega), ⟨a1, a2, a7, a8⟩, hs, hL, Chg_refl, Or.inl ⟨rfl, rfl, rfl, rfl⟩⟩
  · have hr := tr_room (N := N) (need := need) a1 b0.2.2 b0.1 (by omega) (by omega) (by omega) a7
    rw [b0.2.1] at hr
    refine ⟨_, hX τ, max need (2 * L), 7, _, hr, ⟨?_, fun i hi => ⟨?_, ?_, ?_⟩, ?_, ?_⟩, by omega, by omega, als_Chg 7 rfl, Or.inr ⟨rfl, rfl, rfl, by omega⟩⟩
    · rw [als_T, if_neg (by omega)]; exact a1
    · rw [als_T, if_pos (by omega)]
    · rw [als_N, if_pos (by omega)]
    · rw [als_R, if_pos ⟨rfl, rfl, by omega, by omega⟩]; congr 1; omega
    · rw [als_X]; omega
    · rw [als_X]; omega
theorem lay_ok {F : Fo} (H : TL τ tr b L l pr) (hL : L ≤ 24004) (D : Dv τ dd db dL) (hF : siz F + 1 ≤ 12002) (hdL : siz F + 1 ≤ dL) (hcnt : hI τ 1 4 dd = nI (siz F + 1)) (hD : Dr (hA τ) db (db + 1) (db + 2) (db + 3) 0 (post F ++ [TXE F])) (hdis : b + 6 < db ∨ db + 3 < b) (hNN : 40000 ≤ N) :
    ∃ τ' b' L' c m, f_TR_lay N tr dd τ = some (τ', c, m) ∧ TL τ' tr b' L' (txt (zv F)) (rkT F) ∧ L' ≤ 24004 ∧ Chg (fun a => a = tr ∨ (b ≤ a ∧ a ≤ b + 6)) τ τ' ∧ ((b' = b ∧ L' = L ∧ c = 0 ∧ m = 0 ∧ hX τ' = hX τ) ∨ (b' = hX τ ∧ c = 7 ∧ m = 7 * L' ∧ 2 * L ≤ L')) := by
  obtain ⟨τ1, b', L', c, m, r1, ⟨t1, t2, t3, t4⟩, r2, r3, C1, r5⟩ := lay_room (N := N) (need := siz F + 1) H hF hL
  have htr : tr < hX τ := H.2.2.2.2.2.2.1
  have ht11 : hT τ tr = 11 := H.1
  have hb6 : b + 6 < hX τ := H.2.2.2.2.2.2.2
  have hned : dd ≠ tr := by rintro rfl; have := D.1; omega
  have D1 := Dv_Chg C1 D (fun h => hned h)
  have kd := C1.2.2 dd D.2.2.2.1 (fun h => hned h)
  have hdis' : b' + 6 < db ∨ db + 3 < b' := by
    rcases r5 with h | h
    · rw [h.1]; exact hdis
    · right; rw [h.1]; exact D.2.2.2.2
  have hX1 := C1.1
  generalize hτ2 : mh_setI τ1 5 0 tr (nI (siz F + 1)) = τ2
  have C2 : Chg (fun a => a = tr) τ1 τ2 := by rw [← hτ2]; exact Chg_setI rfl
  have D2 := Dv_Chg C2 D1 (fun h => hned h)
  have f2 : hT τ2 = hT τ1 ∧ hN τ2 = hN τ1 ∧ hR τ2 = hR τ1 ∧ hA τ2 = hA τ1 ∧ hX τ2 = hX τ1 := by subst hτ2; exact ⟨rfl, rfl, rfl, rfl, rfl⟩
  have hI2 : hI τ2 5 0 tr = nI (siz F + 1) := by subst hτ2; rw [gI_setI, if_pos ⟨rfl, rfl, rfl⟩]
  have hI14 : hI τ2 1 4 dd = nI (siz F + 1) := by subst hτ2; rw [gI_setI, if_neg (by omega), kd.1]; exact hcnt
  have u0 := t2 0 (by omega)
  have u1 := t2 1 (by omega)
  have u2 := t2 2 (by omega)
  have u3 := t2 3 (by omega)
  have u4 := t2 4 (by omega)
  have u5 := t2 5 (by omega)
  have u6 := t2 6 (by omega)
  rw [Nat.add_zero] at u0
  obtain ⟨d1, d2, d3, d4, d5⟩ := D2
  have v0 := d2 0 (by omega)
  have v1 := d2 1 (by omega)
  have v2 := d2 2 (by omega)
  have v3 := d2 3 (by omega)
  rw [Nat.add_zero] at v0
  have LA : LaE τ2 tr dd db (db + 1) (db + 2) (db + 3) b' (b' + 1) (b' + 2) (b' + 3) (b' + 5) (siz F + 1) := by
    refine ⟨⟨by rw [f2.1]; exact t1, d1⟩, ⟨v0.1, v1.1, v2.1, v3.1⟩, ⟨by rw [f2.1]; exact u0.1, by rw [f2.1]; exact u1.1, by rw [f2.1]; exact u2.1, by rw [f2.1]; exact u3.1, by rw [f2.1]; exact u5.1⟩, ⟨v0.2.2, v1.2.2, v2.2.2, v3.2.2⟩, ⟨by rw [f2.2.2.1]; exact u0.2.2, by rw [f2.2.2.1]; exact u1.2.2, by rw [f2.2.2.1]; exact u2.2.2, by rw [f2.2.2.1]; exact u3.2.2, by rw [f2.2.2.1]; exact u5.2.2⟩, ⟨by rw [v0.2.1]; omega, by rw [v1.2.1]; omega, by rw [v2.2.1]; omega, by rw [v3.2.1]; omega⟩, ⟨by rw [f2.2.1, u0.2.1]; omega, by rw [f2.2.1, u1.2.1]; omega, by rw [f2.2.1, u2.2.1]; omega, by rw [f2.2.1, u3.2.1]; omega, by rw [f2.2.1, u5.2.1]; omega⟩, ⟨by omega, by omega, by omega, by omega, by omega, by omega, by omega, by omega, by omega, by omega⟩, ⟨by omega, by omega, by omega, by omega⟩, ⟨by omega, by omega, by omega, by omega⟩, ⟨by omega, by omega, by omega, by omega⟩, ⟨by omega, by omega, by omega, by omega⟩, ⟨by omega, by omega, by omega, by omega⟩, by omega, hI2⟩
  have hD2 : Dr (hA τ2) db (db + 1) (db + 2) (db + 3) 0 (post F ++ [TXE F]) := by
    have ka : ∀ i, i < 4 → hA τ2 (db + i) = hA τ (db + i) := fun i hi => by
      rw [f2.2.2.2.1]
      have hdt := (D.2.1 i hi).1
      exact funext (C1.2.2 (db + i) (by have := D.2.2.2.2; omega) (fun h => by rw [h] at hdt; omega)).2.2.1
    have k0 := ka 0 (by omega)
    rw [Nat.add_zero] at k0
    intro j hj
    rw [k0, ka 1 (by omega), ka 2 (by omega), ka 3 (by omega)]
    exact hD j hj
  obtain ⟨A1, p1, p2, p3⟩ := place_ok (N := N) LA hNN hI14 hD2
  have CC : CE τ2 tr (b' + 5) (b' + 4) (b' + 6) (siz F + 1) := ⟨by rw [f2.1]; exact t1, ⟨by rw [f2.1]; exact u5.1, by rw [f2.1]; exact u4.1, by rw [f2.1]; exact u6.1⟩, ⟨by rw [f2.2.2.1]; exact u5.2.2, by rw [f2.2.2.1]; exact u4.2.2, by rw [f2.2.2.1]; exact u6.2.2⟩, ⟨by rw [f2.2.1, u5.2.1]; omega, by rw [f2.2.1, u4.2.1]; omega, by rw [f2.2.1, u6.2.1]; omega⟩, ⟨by omega, by omega, by omega⟩, hI2, by omega⟩
  have htl : (txt (zv F)).length = siz F + 1 := by rw [txt_len, zv_siz]
  -- the text's own node
  let A2 : Nat → Nat → Int32 := fun x i => if x = b' + 6 ∧ i = 0 then 0 else if x = b' + 4 ∧ i = 0 then 0 else A1 x i
  have hA2 : ∀ x i, x ≠ b' + 4 → x ≠ b' + 6 → A2 x i = A1 x i := fun x i h1 h2 => by
    show (if _ then _ else if _ then _ else _) = _
    rw [if_neg (fun h => h2 h.1), if_neg (fun h => h1 h.1)]
  have first : ∀ fu, k_TR_countParts_2 N (fu + 1) tr (nI 0) (az τ2 A1) = k_TR_countParts_2 N fu tr (nI 1) (az τ2 A2) := by
    intro fu
    obtain ⟨e1, ⟨e2, e3, e4⟩, ⟨e5, e6, e7⟩, ⟨e8, e9, e10⟩, ⟨e11, e12, e13⟩, e14, e15⟩ := CC
    have hw : A1 (b' + 5) 0 = -1 := (p2 0 (by omega)).2.2.2.1
    have z0 : (nI 0).toNatClampNeg = 0 := rfl
    conv => lhs; unfold k_TR_countParts_2
    refine X_chk e1 (X_nif (by rw [az_I, e14, n_le (by omega) (by omega)]; omega) (X_rfO e6 (X_chk e3 (X_chk (by rw [n_ib (by omega)]; show 0 < hN τ2 (b' + 4); omega) (X_rfO e7 (X_chk e4 (X_chk (by rw [n_ib (by omega)]; show 0 < hN τ2 (b' + 6); omega) (X_rfO e5 (X_chk e2 (X_chk (by rw [n_ib (by omega)]; show 0 < hN τ2 (b' + 5); omega) (X_bndE (x' := -1) ?_ (X_I t_hasm (X_if rfl ?_)))))))))))))
    · rw [gA_setA, if_neg (by omega), gA_setA, if_neg (by omega)]; exact hw
    · have : mh_setA (mh_setA (az τ2 A1) (b' + 4) (nI 0).toNatClampNeg 0) (b' + 6) (nI 0).toNatClampNeg 0 = az τ2 A2 := by
        rw [z0]
        refine mh_ext rfl (fun _ _ _ => rfl) (fun _ _ _ => rfl) (fun x i => ?_) rfl rfl rfl
        rw [gA_setA, gA_setA]; rfl
      rw [this]; rfl
  obtain ⟨A3, q1, q2, q3, q4⟩ := cp_f (N := N) CC (zv F) 1 0 0 A2 (N - 1 - siz F) (by rw [zv_siz]; omega) (by omega) (by show (if _ then _ else if _ then _ else _) = _; rw [if_neg (by omega), if_pos ⟨rfl, rfl⟩]; rfl) (by rw [zv_siz]; omega) (fun i hi => by
    rw [hA2 _ _ (by omega) (by omega)]
    have hi' : i + 1 < (txt (zv F)).length := by rw [pre_len, zv_siz] at hi; omega
    have := (p2 (i + 1) hi').2.2.2.1
    rw [show 0 + (i + 1) = 1 + i by omega] at this
    rw [this]; rfl)
  rw [zv_siz, show N - 1 - siz F + siz F = N - 1 by omega] at q1
  rw [nro_zv] at q2
  rw [rks_zv] at q3
  refine ⟨az τ2 A3, b', L', c, m, ?_, ?_, r3, ?_, ?_⟩
  · unfold f_TR_lay
    refine X_chk D.1 (X_chk ht11 ?_)
    rw [hcnt]
    refine X_A r1 (X_tk (a := az τ2 A3) (c' := 0) (m' := 0) ?_ (by simp))
    refine X_chk D1.1 (X_bndE (x' := nI (siz F + 1)) (by rw [kd.1]; exact hcnt) (X_chk t1 ?_))
    rw [hτ2]
    refine X_V p1 (X_chk (by rw [az_T, f2.1]; exact t1) (X_V (s := az τ2 A3) ?_ rfl))
    show k_TR_countParts_2 N N tr (nI 0) (az τ2 A1) = _
    obtain ⟨M, hM⟩ : ∃ M, N = M + 1 := ⟨N - 1, by omega⟩
    have e1 : k_TR_countParts_2 N N tr (nI 0) (az τ2 A1) = k_TR_countParts_2 N (N - 1 + 1) tr (nI 0) (az τ2 A1) := by rw [show N - 1 + 1 = N by omega]
    rw [e1, first, q1]
    obtain ⟨K, hK⟩ : ∃ K, N - 1 - siz F = K + 1 := ⟨N - 1 - siz F - 1, by omega⟩
    rw [hK]
    unfold k_TR_countParts_2
    exact X_chk CC.1 (X_if (by rw [az_I, hI2, n_le (by omega) (by omega)]; omega) rfl)
  · refine ⟨by rw [az_T, f2.1]; exact t1, fun i hi => by rw [az_T, az_N, az_R, f2.1, f2.2.1, f2.2.2.1]; exact t2 i hi, by rw [az_I, hI2, htl], ⟨by rw [htl]; exact r2, by omega, by rw [rkT_len, htl]; exact Nat.le_refl _⟩, ?_, ?_, by show tr < hX τ2; rw [f2.2.2.2.2]; exact t3, by show b' + 6 < hX τ2; rw [f2.2.2.2.2]; exact t4⟩
    · intro j hj
      have := p2 j hj
      have g1 : ∀ x i, x ≠ b' + 4 → x ≠ b' + 6 → A3 x i = A1 x i := fun x i h1 h2 => by rw [q4 x i (Or.inl ⟨h1, h2⟩), hA2 x i h1 h2]
      rw [az_A, g1 _ _ (by omega) (by omega), g1 _ _ (by omega) (by omega), g1 _ _ (by omega) (by omega), g1 _ _ (by omega) (by omega), g1 _ _ (by omega) (by omega)]
      exact this
    · intro i hi
      rw [az_A]
      cases i with
      | zero =>
        refine ⟨by rw [q2, Nat.zero_add]; rfl, ?_⟩
        rw [q4 _ _ (by right; right; right; exact ⟨rfl, by omega⟩)]
        show (if _ then _ else if _ then _ else _) = _
        rw [if_pos ⟨rfl, rfl⟩]; rfl
      | succ i =>
        have hi0 := hi
        rw [rkT_len] at hi0
        have := q3 i (by rw [rks_len]; omega)
        rw [show 1 + i = i + 1 by omega] at this
        have e : (rkT F)[i + 1]'hi = (rks F 0)[i]'(by rw [rks_len]; omega) := by
          simp only [rkT, List.getElem_cons_succ]
        rw [e]; exact this
  · refine Chg_trans (Chg_mono C1 (fun a _ h => Or.inl h)) (Chg_trans' (Chg_mono C2 (fun a _ h _ => Or.inl h)) (Chg_az (fun a ha hn i => ?_)))
    have hna : a < hX τ := by
      apply Nat.lt_of_not_le
      intro h; exact hn (fun h' => by omega)
    have hnb : ¬ (b' ≤ a ∧ a ≤ b' + 6) := by
      intro h
      rcases r5 with h5 | h5
      · exact hn (fun _ => Or.inr (by rw [← h5.1]; exact h))
      · omega
    rw [q4 a i (Or.inl ⟨by omega, by omega⟩), hA2 a i (by omega) (by omega), p3 a i ⟨by omega, by omega, by omega, by omega, by omega⟩]
  · rcases r5 with h | h
    · refine Or.inl ⟨h.1, h.2.1, h.2.2.1, h.2.2.2, ?_⟩
      show hX τ2 = hX τ
      rw [f2.2.2.2.2]
      have : L' = L := h.2.1
      -- nothing was made
      have hb0 := H.2.1 0 (by omega)
      rw [Nat.add_zero] at hb0
      have hst : f_TR_makeRoom N tr (nI (siz F + 1)) τ = some (τ, 0, 0) := tr_stay ht11 hb0.2.2 hb0.1 (by omega) (by rw [hb0.2.1]; omega)
      rw [hst] at r1
      have : τ = τ1 := by injection r1 with r1; exact (Prod.ext_iff.mp r1).1
      rw [← this]
    · exact Or.inr h
end LAYT
