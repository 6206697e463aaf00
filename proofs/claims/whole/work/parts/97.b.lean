/-! THE CLASS WRITES: a tree -/
def kF (F : Fo) (a : Nat) : Int32 := ((txt F).getD a (0, 0, 0, 0, 0)).1
def vF (F : Fo) (a : Nat) : Int32 := ((txt F).getD a (0, 0, 0, 0, 0)).2.2.1
def wF (F : Fo) (a : Nat) : Int32 := ((txt F).getD a (0, 0, 0, 0, 0)).2.2.2.1
def zF (F : Fo) (a : Nat) : Int32 := ((txt F).getD a (0, 0, 0, 0, 0)).2.2.2.2
def pF (F : Fo) (a : Nat) : Int32 := ((rkT F).getD a (0, 0)).1
def rF (F : Fo) (a : Nat) : Int32 := ((rkT F).getD a (0, 0)).2
theorem F_Fa (F : Fo) : Fa (kF F) (vF F) (wF F) (zF F) (root F) 0 (-1) ∧ Fb (pF F) (rF F) (root F) 0 0 := by
  refine ⟨Fa_of _ _ _ (fun k hk => ?_), Fb_of _ _ _ (fun k hk => ?_)⟩
  · rw [Nat.zero_add]
    have hk' : k < (txt F).length := by rw [txt_root]; exact hk
    have e : (txt F).getD k (0, 0, 0, 0, 0) = (pre (root F) 0 (-1))[k] := by
      simp only [List.getD, txt_root, List.getElem?_eq_getElem hk, Option.getD_some]
    simp only [kF, vF, wF, zF, e, and_self]
  · rw [Nat.zero_add]
    have e : (rkT F).getD k (0, 0) = (rks (root F) 0)[k] := by
      simp only [List.getD, rkT_root, List.getElem?_eq_getElem hk, Option.getD_some]
    simp only [pF, rF, e, and_self]
/-- the nodes still to be ended -/
def Pc (F : Fo) : List (Nat × Nat × Nat × Nat) → Nat → Nat → Prop
  | [], v, w => v = w
  | p :: r, v, w => p.1 = v ∧ w < v ∧ v < siz F + 1 ∧ (kF F v = nI p.2.1 ∧ pF F v = nI p.2.2.1) ∧ (p.2.1 < 34 ∧ p.2.2.1 < 30000 ∧ p.2.2.2 < 34) ∧ ∃ v', wF F v = nI v' ∧ v' < v ∧ kF F v' = nI p.2.2.2 ∧ Pc F r v' w
def pends (P : List (Nat × Nat × Nat × Nat)) (O : Ob) : Ob := P.foldl (fun O p => clo p.2.1 p.2.2.2 (emit O (sN (edi p.2.1 p.2.2.1)))) O
theorem Pc_len {F : Fo} : ∀ {P : List (Nat × Nat × Nat × Nat)} {v w : Nat}, Pc F P v w → P.length + w ≤ v := by
  intro P
  induction P with
  | nil => intro v w h; have : v = w := h; simp; omega
  | cons p r ih =>
    intro v w h
    obtain ⟨_, h1, _, _, _, v', _, h2, _, h3⟩ := h
    have := ih h3
    simp; omega
theorem Pc_app {F : Fo} {s k n kw w' : Nat} (hs : s < siz F + 1) (hk : kF F s = nI k) (hp : pF F s = nI n) (hb : k < 34 ∧ n < 30000 ∧ kw < 34) (hw : wF F s = nI w') (hw' : w' < s) (hkw : kF F w' = nI kw) : ∀ {P : List (Nat × Nat × Nat × Nat)} {v : Nat}, Pc F P v s → Pc F (P ++ [(s, k, n, kw)]) v w' := by
  intro P
  induction P with
  | nil =>
    intro v h
    have e : v = s := h
    subst e
    exact ⟨rfl, hw', hs, ⟨hk, hp⟩, hb, w', hw, hw', hkw, rfl⟩
  | cons p r ih =>
    intro v h
    obtain ⟨h1, h2, h3, h4, h5, v', h6, h7, h8, h9⟩ := h
    exact ⟨h1, by omega, h3, h4, h5, v', h6, h7, h8, ih h9⟩
theorem ends_app (P : List (Nat × Nat × Nat × Nat)) (p : Nat × Nat × Nat × Nat) (O : Ob) : pends (P ++ [p]) O = clo p.2.1 p.2.2.2 (emit (pends P O) (sN (edi p.2.1 p.2.2.1))) := by
  simp [pends]
theorem clo_none (k kw : Nat) : clo k kw none = none := by unfold clo; split <;> simp [emit_none]
theorem opn_none (k kw : Nat) : opn k kw none = none := by unfold opn; split <;> simp [emit_none]
theorem beg_none (nt : List (List Int32)) (x : Nat × Nat × Int32) : beg nt x none = none := by
  unfold beg num
  repeat' (first | rfl | exact emit_none _ | (rw [emit_none]) | split)
theorem ends_none (P : List (Nat × Nat × Nat × Nat)) : pends P none = none := by
  induction P with
  | nil => rfl
  | cons p r ih =>
    show pends r (clo p.2.1 p.2.2.2 (emit none (sN (edi p.2.1 p.2.2.1)))) = none
    rw [emit_none, clo_none, ih]
theorem cw_none (nt : List (List Int32)) : ∀ (f : Fo) (kw pw fk j : Nat), cw nt f kw pw fk j none = none := by
  intro f
  induction f with
  | leaf => intro kw pw fk j; rfl
  | inner i x u c m ic im =>
    intro kw pw fk j
    show cw nt m kw pw fk (j + 1) (clo x.1 kw (emit (cw nt c x.1 (nro c) (fstk c) 0 (beg nt x (opn x.1 kw (emit none (sN (jnt kw pw fk j)))))) (sN (edi x.1 (nro c))))) = none
    rw [emit_none, opn_none, beg_none, ic, emit_none, clo_none, im]
/-- there is a way down -/
theorem Pc_ex {n : Nat} {F : Fo} : ∀ (f : Fo) (s w j kw : Nat), Fa (kF F) (vF F) (wF F) (zF F) f s (nI w) → Fb (pF F) (rF F) f s j → wt n f → w < s → s + siz f ≤ siz F + 1 → siz F ≤ 12001 → kF F w = nI kw → kw < 34 → ∀ P, Pc F P (s - 1) w → ∃ P', Pc F P' (s + siz f - 1) w := by
  intro f
  induction f with
  | leaf => intro s w j kw _ _ _ _ _ _ _ _ P hP; exact ⟨P, by simpa [siz] using hP⟩
  | inner i x u c m ic im =>
    intro s w j kw hf hb hw hws hsz hF hkw hk34 P hP
    simp only [siz] at hsz
    obtain ⟨⟨f1, f2, f3, f4⟩, f5, f6⟩ := hf
    obtain ⟨⟨g1, g2⟩, g3, g4⟩ := hb
    have hx := okk_le hw.1
    have hnc := nro_le c
    obtain ⟨P3, hP3⟩ := ic (s + 1) s 0 x.1 f5 g3 hw.2.2.2.1 (by omega) (by omega) hF f1 (by omega) [] (by show s + 1 - 1 = s; omega)
    have hPa := Pc_app (F := F) (s := s) (k := x.1) (n := nro c) (kw := kw) (w' := w) (by omega) f1 g1 ⟨by omega, by omega, hk34⟩ f3 hws hkw hP3
    obtain ⟨P', hP'⟩ := im (s + 1 + siz c) w (j + 1) kw f6 g4 hw.2.2.2.2 (by omega) (by omega) hF hkw hk34 _ (by rw [show s + 1 + siz c - 1 = s + 1 + siz c - 1 from rfl]; exact hPa)
    exact ⟨P', by rw [show s + siz (.inner i x u c m) - 1 = s + 1 + siz c + siz m - 1 by simp only [siz]; omega]; exact hP'⟩
section WRITE4
variable {wr tr br b L na sp sb nb R N : Nat} {F : Fo} {nt : List (List Int32)}
theorem WX_arr {τ : mh_H} {bb a : Nat} (X : WX wr tr br b L na sp sb nb R F nt τ bb) (ha : a < siz F + 1) : hA τ b a = kF F a ∧ hA τ (b + 2) a = vF F a ∧ hA τ (b + 5) a = wF F a ∧ hA τ (b + 3) a = zF F a ∧ hA τ (b + 4) a = pF F a ∧ hA τ (b + 6) a = rF F a := by
  obtain ⟨t1, t2, t3, t4, t5, t6, t7, t8⟩ := X.2.1
  have h1 := t5 a (by rw [txt_len]; exact ha)
  have h2 := t6 a (by rw [rkT_len]; exact ha)
  rw [Nat.zero_add] at h1
  have e1 : (txt F).getD a (0, 0, 0, 0, 0) = (txt F)[a]'(by rw [txt_len]; exact ha) := by simp [List.getD, show a < (txt F).length by rw [txt_len]; exact ha]
  have e2 : (rkT F).getD a (0, 0) = (rkT F)[a]'(by rw [rkT_len]; exact ha) := by simp [List.getD, show a < (rkT F).length by rw [rkT_len]; exact ha]
  unfold kF vF wF zF pF rF
  rw [e1, e2]
  exact ⟨h1.1, h1.2.2.1, h1.2.2.2.1, h1.2.2.2.2, h2.1, h2.2⟩
theorem w_ends (hN1 : 100 ≤ N) (hF : siz F ≤ 12001) : ∀ (P : List (Nat × Nat × Nat × Nat)) (v w fu j : Nat) {τ : mh_H} {bb : Nat} {O : Ob}, WX wr tr br b L na sp sb nb R F nt τ bb → COb τ br bb O → Pc F P v w → v < siz F + 1 → P.length < fu → P.length + j ≤ siz F + 1 → Wst wr tr br b L na sp sb nb R F nt τ bb (k_WR_endDownTo_5 N fu wr (nI w) (nI v) (nI j) τ) (pends P O) := by
  intro P
  induction P with
  | nil =>
    intro v w fu j τ bb O X H hP hv hfu hj
    obtain ⟨fu, rfl⟩ : ∃ x, fu = x + 1 := ⟨fu - 1, by omega⟩
    have e : v = w := hP
    subst e
    unfold k_WR_endDownTo_5
    refine Ws_chk X.1.1 (Ws_rf X.1.2.2.1 (Ws_chk X.2.1.1 ?_))
    by_cases hc : hI τ 5 0 tr ≤ nI j
    · exact Ws_if hc (Ws_ret X H)
    · exact Ws_nif hc (Ws_if (Int32.le_refl _) (Ws_ret X H))
  | cons p r ih =>
    intro v w fu j τ bb O X H hP hv hfu hj
    obtain ⟨fu, rfl⟩ : ∃ x, fu = x + 1 := ⟨fu - 1, by omega⟩
    simp only [List.length_cons] at hfu hj
    have hjn : ¬ hI τ 5 0 tr ≤ nI j := by
      rw [X.2.1.2.2.1, txt_len, n_le (by omega) (by omega)]; omega
    obtain ⟨h1, h2, h3, ⟨h4, h4'⟩, ⟨h5, h5', h5''⟩, v', h6, h7, h8, h9⟩ := hP
    have A := WX_arr X h3
    have q1 := q_end (N := N) X h3 (by rw [A.1]; exact h4) (by rw [A.2.2.2.2.1]; exact h4') h5 h5'
    have hend : pends (p :: r) O = pends r (clo p.2.1 p.2.2.2 (emit O (sN (edi p.2.1 p.2.2.1)))) := rfl
    rw [hend]
    unfold k_WR_endDownTo_5
    refine Ws_chk X.1.1 (Ws_rf X.1.2.2.1 (Ws_chk X.2.1.1 (Ws_nif hjn (Ws_nif (by rw [n_le (by omega) (by omega)]; omega) (Ws_I q1 (Ws_chk X.1.1 (Ws_go (w_put X H (edi_lt _ _) hN1) (fun τ1 b1 X1 H1 => ?_))))))))
    have A1 := WX_arr X1 h3
    have A1' := WX_arr X1 (show v' < siz F + 1 by omega)
    have q2 := q_brk (N := N) X1 h3 (by rw [A1.1]; exact h4) (by rw [A1.2.2.1]; exact h6) (by omega) (by rw [A1'.1]; exact h8) h5 h5''
    have fin : ∀ {O' : Ob} (z : Nat), z < 67 → O' = emit (emit O (sN (edi p.2.1 p.2.2.1))) (sN z) → Wst wr tr br b L na sp sb nb R F nt τ1 b1 (k_WR_endDownTo_50 N (k_WR_endDownTo_5 N fu) wr (nI w) (nI v) (nI j) z wr τ1) (pends r O') := by
      intro O' z hz he
      unfold k_WR_endDownTo_50
      refine Ws_chk X1.1.1 (Ws_go (w_put X1 H1 hz hN1) (fun τ2 b2 X2 H2 => ?_))
      have A2 := WX_arr X2 h3
      obtain ⟨t1, t2, t3, t4, t5, t6, t7, t8⟩ := X2.2.1
      have htl := txt_len F
      have u5 := t2 5 (by omega)
      rw [← he] at H2
      refine Ws_chk X2.1.1 (Ws_rf X2.1.2.2.1 (Ws_chk t1 (Ws_I (a := nI v') (τ' := τ2) (by rw [t_wholeOf t1 t3 (by omega) (by omega) u5.2.2 u5.1 (by rw [u5.2.1]; omega), A2.2.2.1, h6]) ?_)))
      rw [show nI j + 1 = nI (j + 1) from n_add j 1]
      exact ih v' w fu (j + 1) X2 H2 h9 (by omega) (by omega) (by omega)
    refine Ws_chk X1.1.1 (Ws_I q2 ?_)
    by_cases hb : brk p.2.1 p.2.2.2 = true
    · rw [hb]
      have q3 := q_close (N := N) X1 h3 (by rw [A1.1]; exact h4) h5
      refine Ws_nif (by decide) (Ws_chk X1.1.1 (Ws_I q3 ?_))
      refine fin (cli p.2.1) (cli_lt _) ?_
      unfold clo; rw [hb]; rfl
    · have hb' : brk p.2.1 p.2.2.2 = false := by simpa using hb
      rw [hb']
      refine Ws_if rfl ?_
      refine fin 23 (by omega) ?_
      rw [clo_n hb']; rfl
/-- how composing pends -/
def Wz (wr tr br b L na sp sb nb R : Nat) (F : Fo) (nt : List (List Int32)) (τ : mh_H) (bb : Nat) (r : Option ((Int32 × mh_H) × Nat × Nat)) (O' : Ob) : Prop := ∃ τ' bb' c m, r = some ((b01 O'.isSome, τ'), c, m) ∧ WX wr tr br b L na sp sb nb R F nt τ' bb' ∧ COb τ' br bb' O' ∧ Fr br bb τ τ' ∧ Gw τ τ' bb bb' c m
theorem Wz_go {τ : mh_H} {bb : Nat} {r : Option (mh_H × Nat × Nat)} {k : mh_H → Option ((Int32 × mh_H) × Nat × Nat)} {O' O'' : Ob} (h : Wst wr tr br b L na sp sb nb R F nt τ bb r O') (hk : ∀ τ' bb', WX wr tr br b L na sp sb nb R F nt τ' bb' → COb τ' br bb' O' → Wz wr tr br b L na sp sb nb R F nt τ' bb' (k τ') O'') : Wz wr tr br b L na sp sb nb R F nt τ bb (calA r k) O'' := by
  obtain ⟨τ1, b1, c, m, r1, X1, R1, r2, r3⟩ := h
  obtain ⟨τ2, b2, c2, m2, s1, X2, S1, s2, s3⟩ := hk τ1 b1 X1 R1
  exact ⟨τ2, b2, c2 + c, m2 + m, X_A r1 (X_tk s1 rfl), X2, S1, Fr_trans r2 s2 r3.2.2.1, Gw_trans r3 s3⟩
theorem Wz_chk {τ : mh_H} {bb : Nat} {c : Prop} [Decidable c] {r : Option ((Int32 × mh_H) × Nat × Nat)} {O : Ob} (hc : c) (h : Wz wr tr br b L na sp sb nb R F nt τ bb r O) : Wz wr tr br b L na sp sb nb R F nt τ bb (chk c r) O := by rw [e_chk hc]; exact h
theorem Wz_rf {τ : mh_H} {bb a : Nat} {x : Option Nat} {k : Nat → Option ((Int32 × mh_H) × Nat × Nat)} {O : Ob} (hx : x = some a) (h : Wz wr tr br b L na sp sb nb R F nt τ bb (k a) O) : Wz wr tr br b L na sp sb nb R F nt τ bb (rfO x k) O := by subst hx; exact h
theorem Wz_if {τ : mh_H} {bb : Nat} {c : Prop} [Decidable c] {r r' : Option ((Int32 × mh_H) × Nat × Nat)} {O : Ob} (hc : c) (h : Wz wr tr br b L na sp sb nb R F nt τ bb r O) : Wz wr tr br b L na sp sb nb R F nt τ bb (if c then r else r') O := by rw [if_pos hc]; exact h
theorem Wz_nif {τ : mh_H} {bb : Nat} {c : Prop} [Decidable c] {r r' : Option ((Int32 × mh_H) × Nat × Nat)} {O : Ob} (hc : ¬ c) (h : Wz wr tr br b L na sp sb nb R F nt τ bb r' O) : Wz wr tr br b L na sp sb nb R F nt τ bb (if c then r else r') O := by rw [if_neg hc]; exact h
theorem Wz_I {τ τ' : mh_H} {bb : Nat} {α : Type} {a : α} {x : Option (α × mh_H)} {k : α → mh_H → Option ((Int32 × mh_H) × Nat × Nat)} {O : Ob} (hx : x = some (a, τ')) (h : Wz wr tr br b L na sp sb nb R F nt τ bb (k a τ') O) : Wz wr tr br b L na sp sb nb R F nt τ bb (calI x k) O := by subst hx; exact h
theorem Wz_bnd {τ : mh_H} {bb : Nat} {α : Type} {a a' : α} {k : α → Option ((Int32 × mh_H) × Nat × Nat)} {O : Ob} (hx : a = a') (h : Wz wr tr br b L na sp sb nb R F nt τ bb (k a') O) : Wz wr tr br b L na sp sb nb R F nt τ bb (bnd a k) O := by subst hx; exact h
/-- the end -/
theorem wz_139 {top e : Nat} {k n : Nat} {P : List (Nat × Nat × Nat × Nat)} (hNN : 40000 ≤ N) (hF : siz F ≤ 12001) (ht : top < siz F + 1) (hk : kF F top = nI k) (hp : pF F top = nI n) (hk2 : k < 34) (hn2 : n < 30000) (he : 0 < e) (he2 : e ≤ siz F + 1) (hP : Pc F P (e - 1) top) {τ : mh_H} {bb : Nat} {O : Ob} (X : WX wr tr br b L na sp sb nb R F nt τ bb) (H : COb τ br bb O) : Wz wr tr br b L na sp sb nb R F nt τ bb (k_WR_compose_143 N wr (nI top) (nI e) τ) (emit (pends P O) (sN (edi k n))) := by
  have hlen := Pc_len hP
  have e1 : nI e - 1 = nI (e - 1) := n_sub (b := 1) (by omega)
  unfold k_WR_compose_143
  refine Wz_chk X.1.1 ?_
  rw [e1]
  refine Wz_go (w_ends (by omega) hF P (e - 1) top N 0 X H hP (by omega) (by omega) (by omega)) (fun τ1 b1 X1 H1 => ?_)
  have A1 := WX_arr X1 ht
  have q1 := q_end (N := N) X1 ht (by rw [A1.1]; exact hk) (by rw [A1.2.2.2.2.1]; exact hp) hk2 hn2
  refine Wz_chk X1.1.1 (Wz_I q1 (Wz_chk X1.1.1 (Wz_go (w_put X1 H1 (edi_lt _ _) (by omega)) (fun τ2 b2 X2 H2 => ?_))))
  obtain ⟨l, hr⟩ := CO_Rw H2
  refine Wz_chk X2.1.1 (Wz_rf X2.1.2.2.2.1 (Wz_chk hr.1.1 ?_))
  generalize emit (pends P O) (sN (edi k n)) = Z at H2
  cases Z with
  | none => exact Wz_nif (by rw [H2.2]; decide) ⟨τ2, b2, 0, 0, rfl, X2, H2, Fr_refl, ⟨by omega, by omega, Or.inl rfl, Nat.le_refl _⟩⟩
  | some T => exact Wz_if (by rw [H2.2.1]) ⟨τ2, b2, 0, 0, rfl, X2, H2, Fr_refl, ⟨by omega, by omega, Or.inl rfl, Nat.le_refl _⟩⟩
theorem w_loop {top e ktop ntop : Nat} {Pe : List (Nat × Nat × Nat × Nat)} (hNN : 40000 ≤ N) (hF : siz F ≤ 12001) (hok : ∀ w ∈ nt, okw w) (ht : top < siz F + 1) (hk : kF F top = nI ktop) (hp : pF F top = nI ntop) (hk2 : ktop < 34) (hn2 : ntop < 30000) (he : 0 < e) (he2 : e ≤ siz F + 1) (hPe : Pc F Pe (e - 1) top) : ∀ (f : Fo) (s w j kw pw fk : Nat) (P : List (Nat × Nat × Nat × Nat)) (fu : Nat) (fin : Ob → Ob) {τ : mh_H} {bb : Nat} {O : Ob}, Fa (kF F) (vF F) (wF F) (zF F) f s (nI w) → Fb (pF F) (rF F) f s j → wt nt.length f → w < s → s + siz f ≤ e → kF F w = nI kw → kw < 34 → pF F w = nI pw → j + nro f ≤ pw → pw < 30000 → kF F (w + 1) = nI fk → fk < 34 → Pc F P (s - 1) w → fin none = none → WX wr tr br b L na sp sb nb R F nt τ bb → COb τ br bb O →
    (∀ τ' bb' P' O', WX wr tr br b L na sp sb nb R F nt τ' bb' → COb τ' br bb' O' → Pc F P' (s + siz f - 1) w → pends P' O' = cw nt f kw pw fk j (pends P O) → Wz wr tr br b L na sp sb nb R F nt τ' bb' (k_WR_compose_50 N fu wr (nI top) (nI e) (nI (s + siz f)) τ') (fin (cw nt f kw pw fk j (pends P O)))) →
    Wz wr tr br b L na sp sb nb R F nt τ bb (k_WR_compose_50 N (fu + siz f) wr (nI top) (nI e) (nI s) τ) (fin (cw nt f kw pw fk j (pends P O))) := by
  intro f
  induction f with
  | leaf =>
    intro s w j kw pw fk P fu fin τ bb O _ _ _ _ _ _ _ _ _ _ _ _ hP _ X H hcont
    have := hcont τ bb P O X H (by simpa [siz] using hP) rfl
    simpa [siz] using this
  | inner i x u c m ic im =>
    intro s w j kw pw fk P fu fin τ bb O hf hb hw hws hsz hkw hkw2 hpw hpj hpw2 hfk hfk2 hP hfin X H hcont
    simp only [siz] at hsz
    simp only [nro] at hpj
    obtain ⟨⟨f1, f2, f3, f4⟩, f5, f6⟩ := hf
    obtain ⟨⟨g1, g2⟩, g3, g4⟩ := hb
    have hx := okk_le hw.1
    have hnc := nro_le c
    have hsF : s < siz F + 1 := by omega
    have hlen := Pc_len hP
    rw [show fu + siz (.inner i x u c m) = (fu + siz m + siz c) + 1 by simp only [siz]; omega]
    obtain ⟨l, hr⟩ := CO_Rw H
    obtain ⟨t1, t2, t3, t4, t5, t6, t7, t8⟩ := X.2.1
    have htl := txt_len F
    have u5 := t2 5 (by omega)
    have hns : (nI s).toNatClampNeg = s := n_nat (by omega)
    have A := WX_arr X hsF
    unfold k_WR_compose_50
    refine Wz_nif (by rw [n_le (by omega) (by omega)]; omega) (Wz_chk X.1.1 (Wz_rf X.1.2.2.2.1 (Wz_chk hr.1.1 ?_)))
    cases O with
    | none =>
      -- no room: on to the end
      have := wz_139 (N := N) hNN hF ht hk hp hk2 hn2 he he2 hPe X H
      rw [ends_none, cw_none, hfin]
      rw [ends_none, emit_none] at this
      exact Wz_nif (by rw [H.2]; decide) this
    | some T =>
      have hwo : f_TR_wholeOf N tr (nI s) τ = some (nI w, τ) := by rw [t_wholeOf t1 t3 (by omega) (by omega) u5.2.2 u5.1 (by rw [u5.2.1]; omega), A.2.2.1, f3]
      refine Wz_if (by rw [H.2.1]) (Wz_rf X.1.2.2.1 (Wz_chk t1 (Wz_I hwo (Wz_chk X.1.1 ?_))))
      have es1 : nI s - 1 = nI (s - 1) := n_sub (b := 1) (by omega)
      refine Wz_go (Ws_eq (w_ends (N := N) (by omega) hF P (s - 1) w N 0 X H hP (by omega) (by omega) (by omega)) (by rw [es1]; rfl)) (fun τ1 b1 X1 H1 => ?_)
      have A1 := WX_arr X1 hsF
      have A1w := WX_arr X1 (show w < siz F + 1 by omega)
      have A1w1 := WX_arr X1 (show w + 1 < siz F + 1 by omega)
      obtain ⟨t1', t2', t3', t4', _⟩ := X1.2.1
      have u6' := t2' 6 (by omega)
      have qj := q_joint (N := N) (w := w) (kw := kw) (pw := pw) (fk := fk) (j := j) X1 (by omega) (by rw [A1w.1]; exact hkw) (by rw [A1w.2.2.2.2.1]; exact hpw) (by rw [A1w1.1]; exact hfk) hkw2 hpw2 (by omega) hfk2 (by omega) (by omega)
      have hro : f_TR_rankOf N tr (nI s) τ1 = some (nI j, τ1) := by rw [t_rankOf t1' t3' (by omega) (by omega) u6'.2.2 u6'.1 (by rw [u6'.2.1]; omega), A1.2.2.2.2.2, g2]
      refine Wz_chk X1.1.1 (Wz_rf X1.1.2.2.1 (Wz_chk t1' (Wz_I hro (Wz_chk X1.1.1 ?_))))
      refine Wz_I qj (Wz_chk X1.1.1 (Wz_go (w_put X1 H1 (jnt_lt hkw2) (by omega)) (fun τ2 b2 X2 H2 => ?_)))
      have A2 := WX_arr X2 hsF
      have A2w := WX_arr X2 (show w < siz F + 1 by omega)
      have qb := q_brk (N := N) X2 hsF (by rw [A2.1]; exact f1) (by rw [A2.2.2.1]; exact f3) (by omega) (by rw [A2w.1]; exact hkw) (by omega) hkw2
      -- from the beginning of s on
      have rest : ∀ (z : Nat), z < 67 → emit (emit (pends P (some T)) (sN (jnt kw pw fk j))) (sN z) = opn x.1 kw (emit (pends P (some T)) (sN (jnt kw pw fk j))) → Wz wr tr br b L na sp sb nb R F nt τ2 b2 (k_WR_compose_128 N (k_WR_compose_50 N (fu + siz m + siz c)) wr (nI top) (nI e) (nI s) z wr τ2) (fin (cw nt (.inner i x u c m) kw pw fk j (pends P (some T)))) := by
        intro z hz hze
        unfold k_WR_compose_128
        refine Wz_chk X2.1.1 (Wz_go (w_put X2 H2 hz (by omega)) (fun τ3 b3 X3 H3 => ?_))
        rw [hze] at H3
        have A3 := WX_arr X3 hsF
        refine Wz_chk X3.1.1 (Wz_go (w_begin (x := x) X3 H3 hsF (by rw [A3.1]; exact f1) (by rw [A3.2.1]; exact f2) (by omega) hw.2.1 hw.2.2.1 hok (by omega)) (fun τ4 b4 X4 H4 => ?_))
        rw [show nI s + 1 = nI (s + 1) from n_add s 1]
        -- its parts, then those behind it
        have hfin' : ∀ Y, Y = none → fin (cw nt m kw pw fk (j + 1) (clo x.1 kw (emit Y (sN (edi x.1 (nro c)))))) = none := by
          intro Y hY
          rw [hY, emit_none, clo_none, cw_none, hfin]
        cases hc : c with
        | leaf =>
          -- no parts
          subst hc
          have hPs := Pc_app (F := F) (s := s) (k := x.1) (n := nro .leaf) (kw := kw) (w' := w) hsF f1 g1 ⟨by omega, by omega, hkw2⟩ f3 hws hkw (P := []) (v := s) rfl
          have := im (s + 1 + siz .leaf) w (j + 1) kw pw fk ([] ++ [(s, x.1, nro .leaf, kw)]) fu fin f6 g4 hw.2.2.2.2 (by omega) (by omega) hkw hkw2 hpw (by omega) hpw2 hfk hfk2 (by rw [show s + 1 + siz (.leaf : Fo) - 1 = s from rfl]; exact hPs) hfin X4 H4 (fun τ' bb' P' O' X' H' hP' he' => by
            rw [show s + 1 + siz (.leaf : Fo) + siz m = s + siz (.inner i x u .leaf m) by simp only [siz]; omega] at hP' ⊢
            rw [ends_app] at he' ⊢
            exact hcont τ' bb' P' O' X' H' hP' he')
          rw [ends_app] at this
          exact this
        | inner i2 x2 u2 c2 m2 =>
          have f5' := f5
          rw [hc] at f5'
          have hx2 : x2.1 < 34 := by
            have := hw.2.2.2.1
            rw [hc] at this
            have := okk_le this.1
            omega
          have := ic (s + 1) s 0 x.1 (nro c) (fstk c) [] (fu + siz m) (fun Y => fin (cw nt m kw pw fk (j + 1) (clo x.1 kw (emit Y (sN (edi x.1 (nro c))))))) f5 g3 hw.2.2.2.1 (by omega) (by omega) f1 (by omega) g1 (by omega) (by omega) (by rw [hc]; exact f5'.1.1) (by rw [hc]; exact hx2) (by show s + 1 - 1 = s; omega) (hfin' none rfl) X4 H4 (fun τ' bb' P' O' X' H' hP' he' => by
            have hPs := Pc_app (F := F) (s := s) (k := x.1) (n := nro c) (kw := kw) (w' := w) hsF f1 g1 ⟨by omega, by omega, hkw2⟩ f3 hws hkw hP'
            have h2 := im (s + 1 + siz c) w (j + 1) kw pw fk (P' ++ [(s, x.1, nro c, kw)]) fu fin f6 g4 hw.2.2.2.2 (by omega) (by omega) hkw hkw2 hpw (by omega) hpw2 hfk hfk2 hPs hfin X' H' (fun τ'' bb'' P'' O'' X'' H'' hP'' he'' => by
              rw [show s + 1 + siz c + siz m = s + siz (.inner i x u c m) by simp only [siz]; omega] at hP'' ⊢
              rw [ends_app, he'] at he'' ⊢
              exact hcont τ'' bb'' P'' O'' X'' H'' hP'' he'')
            rw [ends_app, he'] at h2
            exact h2)
          subst hc
          exact this
      refine Wz_chk X2.1.1 (Wz_I qb ?_)
      by_cases hbk : brk x.1 kw = true
      · rw [hbk]
        have qo := q_open (N := N) X2 hsF (by rw [A2.1]; exact f1) (by omega)
        refine Wz_nif (by decide) (Wz_chk X2.1.1 (Wz_I qo ?_))
        exact rest (opi x.1) (opi_lt _) (by unfold opn; rw [hbk]; rfl)
      · have hbk' : brk x.1 kw = false := by simpa using hbk
        rw [hbk']
        refine Wz_if rfl ?_
        exact rest 23 (by omega) (by rw [opn_n hbk']; rfl)
end WRITE4
