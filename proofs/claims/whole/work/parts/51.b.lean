/-! the class lays a row of nodes -/
def zv : Fo → Fo
  | .leaf => .leaf
  | .inner i x u c m => .inner i (x.1, x.2.1, if x.1 = 13 then 0 else x.2.2) u (zv c) (zv m)
theorem zv_siz : ∀ f : Fo, siz (zv f) = siz f := by
  intro f
  induction f with
  | leaf => rfl
  | inner i x u c m ic im => simp only [zv, siz, ic, im]
/-- the wholes that a walk leaves, from the inmost, down to whole w with r round it -/
def PL (W : Nat → Int32) : List Nat → Int32 → Nat → Int32 → Nat → Nat → Prop
  | [], v, R, w, r, _ => v = w ∧ R = r
  | p :: ps, v, R, w, r, a => v = nI p ∧ p < 30000 ∧ R = r + ps.length + 1 ∧ a + R ≤ p + 1 ∧ PL W ps (W p) (R - 1) w r a
theorem PL_set {W W' : Nat → Int32} : ∀ {ps : List Nat} {v : Int32} {R : Nat} {w : Int32} {r a : Nat}, (∀ p ∈ ps, W' p = W p) → PL W ps v R w r a → PL W' ps v R w r a := by
  intro ps
  induction ps with
  | nil => intro v R w r a _ h; exact h
  | cons p ps ih =>
    intro v R w r a hs h
    refine ⟨h.1, h.2.1, h.2.2.1, h.2.2.2.1, ?_⟩
    rw [hs p (by simp)]
    exact ih (fun b hb => hs b (by simp [hb])) h.2.2.2.2
theorem PL_le {W : Nat → Int32} : ∀ {ps : List Nat} {v : Int32} {R : Nat} {w : Int32} {r a a' : Nat}, a' ≤ a → PL W ps v R w r a → PL W ps v R w r a' := by
  intro ps
  induction ps with
  | nil => intro v R w r a a' _ h; exact h
  | cons p ps ih => intro v R w r a a' hl h; exact ⟨h.1, h.2.1, h.2.2.1, by have := h.2.2.2.1; omega, ih hl h.2.2.2.2⟩
theorem PL_snoc {W : Nat → Int32} {k : Nat} : ∀ {ps : List Nat} {v : Int32} {R : Nat} {w : Int32} {r a : Nat}, PL W ps v R (nI k) (r + 1) a → W k = w → a + (r + 1) ≤ k + 1 → k < 30000 → PL W (ps ++ [k]) v R w r a := by
  intro ps
  induction ps with
  | nil =>
    intro v R w r a h hk ha hk2
    obtain ⟨h1, h2⟩ := h
    subst h2
    exact ⟨h1, hk2, rfl, ha, hk, rfl⟩
  | cons p ps ih =>
    intro v R w r a h hk ha hk2
    refine ⟨h.1, h.2.1, by have := h.2.2.1; simp; omega, h.2.2.2.1, ?_⟩
    exact ih h.2.2.2.2 hk ha hk2
theorem PL_R {W : Nat → Int32} {ps : List Nat} {v : Int32} {R : Nat} {w : Int32} {r a : Nat} (h : PL W ps v R w r a) : R = r + ps.length := by
  cases ps with
  | nil => exact h.2
  | cons p ps => have := h.2.2.1; simp; omega
theorem n_subI {a b : Nat} (ha : a < 1000000000) (hb : b < 1000000000) : (nI a - nI b).toInt = (a : Int) - b := by
  rw [Int32.toInt_sub, n_toInt (by omega), n_toInt (by omega)]
  apply Int.bmod_eq_of_le <;> omega
theorem n_sublt {a b c : Nat} (ha : a < 1000000000) (hb : b < 1000000000) (hc : c < 1000000000) : (nI a - nI b < nI c) = (a < c + b) := by
  rw [Int32.lt_iff_toInt_lt, n_subI ha hb, n_toInt (by omega)]
  apply propext; omega
theorem n_m1lt {r i : Nat} (hr : r < 1000000000) : (-1 : Int32) - nI r < nI i ∨ 1000000000 ≤ i := by
  by_cases hi : i < 1000000000
  · left
    rw [Int32.lt_iff_toInt_lt, Int32.toInt_sub, n_toInt (by omega), n_toInt (by omega)]
    have e : (-1 : Int32).toInt = -1 := by decide
    rw [e, Int.bmod_eq_of_le (by omega) (by omega)]; omega
  · right; omega
section LAY2
variable {σ : mh_H} {tr dd dk dp dv dz kk pp vv zz ww cnt N : Nat}
theorem lay_pop {k12 : Nat → Nat → Int32 → Int32 → Int32 → mh_H → Option mh_H} {A : Nat → Nat → Int32} {w : Int32} {r i a : Nat} (h : LaE σ tr dd dk dp dv dz kk pp vv zz ww cnt) (hi : i < a) (hi2 : i < cnt) (hr : r < 30000) (hw : w = -1 ∨ ∃ p0, w = nI p0 ∧ p0 < 30000 ∧ p0 < i + r) : ∀ (ps : List Nat) (v : Int32) (R fu : Nat), PL (A ww) ps v R w r a → (∀ p ∈ ps, p < cnt) → R < 100000 → ps.length < fu →
    k_TR_placeNodes_17 N k12 fu tr dd v (nI R) (nI i) (az σ A) = k_TR_placeNodes_41 N k12 tr dd w (nI r) (nI i) (az σ A) := by
  obtain ⟨⟨a1, a2⟩, ⟨a3, a4, a5, a6⟩, ⟨a7, a8, a9, a10, a11⟩, ⟨c1, c2, c3, c4⟩, ⟨c5, c6, c7, c8, c9⟩, ⟨e1, e2, e3, e4⟩, ⟨e5, e6, e7, e8, e9⟩, -, -, -, -, -, -, hc, hc5⟩ := h
  intro ps
  induction ps with
  | nil =>
    intro v R fu hP _ hR hfu
    obtain ⟨fu, rfl⟩ : ∃ x, fu = x + 1 := ⟨fu - 1, by omega⟩
    obtain ⟨rfl, rfl⟩ := hP
    unfold k_TR_placeNodes_17
    by_cases hR0 : R = 0
    · subst hR0
      exact X_if (Int32.le_refl _) rfl
    · refine X_nif (by show ¬ nI R ≤ nI 0; rw [n_le (by omega) (by omega)]; omega) (X_if ?_ rfl)
      rcases hw with rfl | ⟨p0, rfl, hp1, hp2⟩
      · exact (n_m1lt (by omega)).resolve_right (by omega)
      · rw [n_sublt (by omega) (by omega) (by omega)]; exact hp2
  | cons p ps ih =>
    intro v R fu hP hpc hR hfu
    obtain ⟨fu, rfl⟩ : ∃ x, fu = x + 1 := ⟨fu - 1, by omega⟩
    obtain ⟨rfl, h2, h3, h4, h5⟩ := hP
    have hp := hpc p (by simp)
    unfold k_TR_placeNodes_17
    refine X_nif ?_ (X_nif ?_ (X_chk a1 (X_I (a := A ww p) (s := az σ A) (t_wholeOf a1 hc5 hp (by omega) c9 a11 (by show p < hN σ ww; omega)) ?_)))
    · show ¬ nI R ≤ nI 0
      rw [n_le (by omega) (by omega)]; omega
    · rw [n_sublt (by omega) (by omega) (by omega)]; omega
    · have e1 : nI R + (-1) = nI (R - 1) := by
        have : nI R - nI 1 = nI (R - 1) := n_sub (by omega)
        rw [← this, Int32.sub_eq_add_neg]; rfl
      rw [e1]
      exact ih (A ww p) (R - 1) fu h5 (fun b hb => hpc b (by simp [hb])) (by omega) (by simp at hfu; omega)
/-- the draft of a row of parts stands from place a on -/
def Dr (A : Nat → Nat → Int32) (dk dp dv dz a : Nat) (l : List Ent) : Prop := ∀ j (hj : j < l.length), A dk (a + j) = l[j].1 ∧ A dp (a + j) = l[j].2.1 ∧ A dv (a + j) = l[j].2.2.1 ∧ A dz (a + j) = l[j].2.2.2
/-- the tree of it stands from place s on -/
def Tr (A : Nat → Nat → Int32) (kk pp vv zz ww s : Nat) (l : List TE) : Prop := ∀ j (hj : j < l.length), A kk (s + j) = l[j].1 ∧ A pp (s + j) = l[j].2.1 ∧ A vv (s + j) = l[j].2.2.1 ∧ A ww (s + j) = l[j].2.2.2.1 ∧ A zz (s + j) = l[j].2.2.2.2
theorem lay_f (h : LaE σ tr dd dk dp dv dz kk pp vv zz ww cnt) (hN : 40000 ≤ N) : ∀ (f : Fo) (a r : Nat) (w : Int32) (A : Nat → Nat → Int32) (v : Int32) (R : Nat) (ps : List Nat) (fu : Nat), Dr A dk dp dv dz a (post f) → a + r + siz f ≤ cnt → PL (A ww) ps v R w r (a + siz f) → (∀ p ∈ ps, a + r + siz f ≤ p ∧ p < cnt) → (w = -1 ∨ ∃ p0, w = nI p0 ∧ p0 < 30000 ∧ p0 < a + r) → ps.length + siz f ≤ 30000 → r ≤ 30000 →
    ∃ A' v' R' ps', k_TR_placeNodes_12 N (fu + siz f) tr dd v (nI R) (nI (a + siz f) + (-1)) (az σ A) = k_TR_placeNodes_12 N fu tr dd v' (nI R') (nI a + (-1)) (az σ A') ∧ PL (A' ww) ps' v' R' w r a ∧ (∀ p ∈ ps', a + r ≤ p ∧ p < cnt) ∧ Tr A' kk pp vv zz ww (a + r) (pre (zv f) (a + r) w) ∧ (∀ x i, ((x ≠ kk ∧ x ≠ pp ∧ x ≠ vv ∧ x ≠ zz ∧ x ≠ ww) ∨ i < a + r ∨ a + r + siz f ≤ i) → A' x i = A x i) ∧ ps'.length ≤ ps.length + siz f := by
  have hcnt : cnt < 30000 := by obtain ⟨-, -, -, -, -, -, -, -, -, -, -, -, -, hc, hc5⟩ := h; exact hc
  intro f
  induction f with
  | leaf =>
    intro a r w A v R ps fu hD hc hP hps hw hpl hR
    refine ⟨A, v, R, ps, rfl, hP, fun p hp => ?_, fun j hj => by simp [zv, pre] at hj, fun _ _ _ => rfl, by omega⟩
    have := hps p hp; simp [siz] at this; exact this
  | inner i x u c m ic im =>
    intro a r w A v R ps fu hD hc hP hps hw hpl hR
    have h' := h
    obtain ⟨-, -, -, -, -, -, -, ⟨g1, g2, g3, g4, g5, g6, g7, g8, g9, g10⟩, ⟨m1, m2, m3, m4⟩, ⟨m5, m6, m7, m8⟩, ⟨m9, m10, m11, m12⟩, ⟨m13, m14, m15, m16⟩, ⟨m17, m18, m19, m20⟩, -, -⟩ := h
    simp only [siz] at hc hP hps hpl ⊢
    have hpost : post (.inner i x u c m) = post c ++ (nI x.1, nI x.2.1, (if x.1 = 13 then 0 else x.2.2), nI (siz c + 1)) :: post m := rfl
    have hw' : ∀ b, a + r ≤ b → (w = -1 ∨ ∃ p0, w = nI p0 ∧ p0 < 30000 ∧ p0 < b) := fun b hb => by
      rcases hw with hw | ⟨p0, q1, q2, q3⟩
      · exact Or.inl hw
      · exact Or.inr ⟨p0, q1, q2, by omega⟩
    have hlc := post_len c
    have hlm := post_len m
    have hlen : (post (.inner i x u c m)).length = siz c + 1 + siz m := by rw [post_len]; rfl
    -- what is behind
    have hDm : Dr A dk dp dv dz (a + siz c + 1) (post m) := by
      intro j hj
      have := hD (siz c + 1 + j) (by rw [hlen]; omega)
      have e : (post (.inner i x u c m))[siz c + 1 + j]'(by rw [hlen]; omega) = (post m)[j] := by
        simp only [hpost]
        rw [List.getElem_append_right (by omega)]
        simp only [hlc]
        have : siz c + 1 + j - siz c = j + 1 := by omega
        simp only [this, List.getElem_cons_succ]
      rw [e] at this
      rw [show a + siz c + 1 + j = a + (siz c + 1 + j) by omega]; exact this
    have hPm : PL (A ww) ps v R w r (a + siz c + 1 + siz m) := by rw [show a + siz c + 1 + siz m = a + (siz c + 1 + siz m) by omega]; exact hP
    obtain ⟨A1, v1, R1, ps1, x1, x2, x3, x4, x5, x6⟩ := im (a + siz c + 1) r w A v R ps (fu + siz c + 1) hDm (by omega) hPm (fun p hp => by have := hps p hp; omega) (hw' _ (by omega)) (by omega) hR
    -- the node
    have hd0 := hD (siz c) (by rw [hlen]; omega)
    have e0 : (post (.inner i x u c m))[siz c]'(by rw [hlen]; omega) = (nI x.1, nI x.2.1, (if x.1 = 13 then 0 else x.2.2), nI (siz c + 1)) := by
      simp only [hpost]
      rw [List.getElem_append_right (by omega)]
      simp [hlc]
    rw [e0] at hd0
    have fr1 : ∀ y j, (y = dk ∨ y = dp ∨ y = dv ∨ y = dz) → A1 y j = A y j := by
      intro y j hy
      refine x5 y j (Or.inl ?_)
      rcases hy with rfl | rfl | rfl | rfl
      · exact ⟨m1.symm, m5.symm, m9.symm, m13.symm, m17.symm⟩
      · exact ⟨m2.symm, m6.symm, m10.symm, m14.symm, m18.symm⟩
      · exact ⟨m3.symm, m7.symm, m11.symm, m15.symm, m19.symm⟩
      · exact ⟨m4.symm, m8.symm, m12.symm, m16.symm, m20.symm⟩
    have hR1 := PL_R x2
    have ei : nI (a + siz c + 1) + (-1) = nI (a + siz c) := by
      have : nI (a + siz c + 1) - nI 1 = nI (a + siz c) := n_sub (by omega)
      rw [← this, Int32.sub_eq_add_neg]; rfl
    have hpop := lay_pop (N := N) (k12 := k_TR_placeNodes_12 N (fu + siz c)) (A := A1) (w := w) (r := r) (i := a + siz c) (a := a + siz c + 1) h' (by omega) (by omega) (by omega) (hw' _ (by omega)) ps1 v1 R1 N x2 (fun p hp => (x3 p hp).2) (by omega) (by omega)
    have hstep := lay_step (N := N) (k12 := k_TR_placeNodes_12 N (fu + siz c)) (A := A1) (y2 := w) (r := r) (i := a + siz c) (s := siz c + 1) (k := a + r) h' (by omega) (by rw [fr1 dz _ (by simp)]; exact hd0.2.2.2) (by omega) (by omega) (by omega) (by omega)
    have e12 : k_TR_placeNodes_12 N (fu + siz c + 1) tr dd v1 (nI R1) (nI (a + siz c + 1) + (-1)) (az σ A1) = k_TR_placeNodes_12 N (fu + siz c) tr dd (nI (a + r)) (nI (r + 1)) (nI (a + siz c) + (-1)) (az σ (sP A1 kk pp vv zz ww (a + r) (A1 dk (a + siz c)) (A1 dp (a + siz c)) (A1 dv (a + siz c)) (A1 dz (a + siz c)) w)) := by
      rw [ei, ← hstep, ← hpop]
      conv => lhs; unfold k_TR_placeNodes_12
      refine X_nif ?_ rfl
      show ¬ nI (a + siz c) < nI 0
      rw [n_lt (by omega) (by omega)]; omega
    generalize hA2 : sP A1 kk pp vv zz ww (a + r) (A1 dk (a + siz c)) (A1 dp (a + siz c)) (A1 dv (a + siz c)) (A1 dz (a + siz c)) w = A2 at e12
    have fr2 : ∀ y j, j ≠ a + r → A2 y j = A1 y j := by intro y j hj; rw [← hA2]; simp [sP, hj]
    have fr2d : ∀ y j, (y = dk ∨ y = dp ∨ y = dv ∨ y = dz) → A2 y j = A1 y j := by
      intro y j hy
      rw [← hA2]; unfold sP
      by_cases hj : j = a + r
      · rcases hy with rfl | rfl | rfl | rfl
        · simp [hj, m1.symm, m5.symm, m9.symm, m13.symm, m17.symm]
        · simp [hj, m2.symm, m6.symm, m10.symm, m14.symm, m18.symm]
        · simp [hj, m3.symm, m7.symm, m11.symm, m15.symm, m19.symm]
        · simp [hj, m4.symm, m8.symm, m12.symm, m16.symm, m20.symm]
      · simp [hj]
    have nd2 : A2 kk (a + r) = nI x.1 ∧ A2 pp (a + r) = nI x.2.1 ∧ A2 vv (a + r) = (if x.1 = 13 then 0 else x.2.2) ∧ A2 ww (a + r) = w ∧ A2 zz (a + r) = nI (siz c + 1) := by
      rw [← hA2]; unfold sP
      rw [fr1 dk _ (by simp), fr1 dp _ (by simp), fr1 dv _ (by simp), fr1 dz _ (by simp), hd0.1, hd0.2.1, hd0.2.2.1, hd0.2.2.2]
      simp [g1.symm, g2.symm, g3.symm, g4.symm, g5.symm, g6.symm, g7.symm, g8.symm, g9.symm, g10.symm]
    -- its parts
    have hDc : Dr A2 dk dp dv dz a (post c) := by
      intro j hj
      have := hD j (by rw [hlen]; omega)
      have e : (post (.inner i x u c m))[j]'(by rw [hlen]; omega) = (post c)[j] := by
        simp only [hpost]
        rw [List.getElem_append_left (by omega)]
      rw [e] at this
      rw [fr2d dk _ (by simp), fr2d dp _ (by simp), fr2d dv _ (by simp), fr2d dz _ (by simp), fr1 dk _ (by simp), fr1 dp _ (by simp), fr1 dv _ (by simp), fr1 dz _ (by simp)]
      exact this
    obtain ⟨A3, v3, R3, ps3, z1, z2, z3, z4, z5, z6⟩ := ic a (r + 1) (nI (a + r)) A2 (nI (a + r)) (r + 1) [] fu hDc (by omega) ⟨rfl, rfl⟩ (by simp) (Or.inr ⟨a + r, rfl, by omega, by omega⟩) (by simp; omega) (by omega)
    have fr3 : ∀ y j, j < a + r + 1 ∨ a + r + 1 + siz c ≤ j → A3 y j = A2 y j := fun y j hj => z5 y j (Or.inr (by omega))
    refine ⟨A3, v3, R3, ps3 ++ [a + r], ?_, ?_, ?_, ?_, ?_, ?_⟩
    · rw [show fu + (siz c + 1 + siz m) = fu + siz c + 1 + siz m by omega, show a + (siz c + 1 + siz m) = a + siz c + 1 + siz m by omega, x1, e12, z1]
    · exact PL_snoc z2 (by rw [fr3 ww _ (by omega)]; exact nd2.2.2.2.1) (by omega) (by omega)
    · intro p hp
      rcases List.mem_append.mp hp with hp | hp
      · have := z3 p hp; omega
      · simp at hp; subst hp; exact ⟨by omega, by omega⟩
    · have hpz : pre (zv (.inner i x u c m)) (a + r) w = (nI x.1, nI x.2.1, (if x.1 = 13 then 0 else x.2.2), w, nI (siz c + 1)) :: (pre (zv c) (a + r + 1) (nI (a + r)) ++ pre (zv m) (a + r + 1 + siz c) w) := by
        simp only [zv, pre, zv_siz]
      have hpc : (pre (zv c) (a + r + 1) (nI (a + r))).length = siz c := by rw [pre_len, zv_siz]
      have hpm : (pre (zv m) (a + r + 1 + siz c) w).length = siz m := by rw [pre_len, zv_siz]
      rw [hpz]
      intro j hj
      simp only [List.length_cons, List.length_append, hpc, hpm] at hj
      cases j with
      | zero =>
        simp only [Nat.add_zero, List.getElem_cons_zero]
        rw [fr3 kk _ (by omega), fr3 pp _ (by omega), fr3 vv _ (by omega), fr3 ww _ (by omega), fr3 zz _ (by omega)]
        exact nd2
      | succ j =>
        simp only [List.getElem_cons_succ]
        by_cases hjc : j < siz c
        · have := z4 j (by rw [show a + (r + 1) = a + r + 1 by omega, hpc]; exact hjc)
          rw [List.getElem_append_left (by omega), show a + r + (j + 1) = a + (r + 1) + j by omega]
          exact this
        · have := x4 (j - siz c) (by rw [pre_len, zv_siz]; omega)
          rw [List.getElem_append_right (by omega)]
          simp only [hpc]
          rw [show a + r + (j + 1) = a + siz c + 1 + r + (j - siz c) by omega]
          have e5 : pre (zv m) (a + siz c + 1 + r) w = pre (zv m) (a + r + 1 + siz c) w := by rw [show a + siz c + 1 + r = a + r + 1 + siz c by omega]
          simp only [e5] at this
          rw [fr3 kk _ (by omega), fr3 pp _ (by omega), fr3 vv _ (by omega), fr3 ww _ (by omega), fr3 zz _ (by omega), fr2 kk _ (by omega), fr2 pp _ (by omega), fr2 vv _ (by omega), fr2 ww _ (by omega), fr2 zz _ (by omega)]
          exact this
    · intro y j hy
      have q1 : A3 y j = A2 y j := z5 y j (by omega)
      have q2 : A2 y j = A1 y j := by
        by_cases hj : j = a + r
        · rcases hy with hy | hy
          · rw [← hA2]; unfold sP; simp [hy.1, hy.2.1, hy.2.2.1, hy.2.2.2.1, hy.2.2.2.2]
          · omega
        · exact fr2 y j hj
      rw [q1, q2]; exact x5 y j (by omega)
    · simp at z6 ⊢; omega
end LAY2
