/-! the questions: node, part, whole -/
def Fa (K W0 W Z : Nat → Int32) : Fo → Nat → Int32 → Prop
  | .leaf, _, _ => True
  | .inner _ x _ c m, s, w => (K s = nI x.1 ∧ W0 s = x.2.2 ∧ W s = w ∧ Z s = nI (siz c + 1)) ∧ Fa K W0 W Z c (s + 1) (nI s) ∧ Fa K W0 W Z m (s + 1 + siz c) w
def Fb (Pt Rk : Nat → Int32) : Fo → Nat → Nat → Prop
  | .leaf, _, _ => True
  | .inner _ _ _ c m, s, j => (Pt s = nI (nro c) ∧ Rk s = nI j) ∧ Fb Pt Rk c (s + 1) 0 ∧ Fb Pt Rk m (s + 1 + siz c) (j + 1)
theorem Fa_of {K W0 W Z : Nat → Int32} : ∀ (F : Fo) (s : Nat) (w : Int32), (∀ k (hk : k < (pre F s w).length), K (s + k) = (pre F s w)[k].1 ∧ W0 (s + k) = (pre F s w)[k].2.2.1 ∧ W (s + k) = (pre F s w)[k].2.2.2.1 ∧ Z (s + k) = (pre F s w)[k].2.2.2.2) → Fa K W0 W Z F s w := by
  intro F
  induction F with
  | leaf => intro s w _; trivial
  | inner n x u c m ic im =>
    intro s w h
    have hlc := pre_len c (s + 1) (nI s)
    have hlm := pre_len m (s + 1 + siz c) w
    have hl : (pre (.inner n x u c m) s w).length = 1 + siz c + siz m := by rw [pre_len]; simp only [siz]; omega
    refine ⟨?_, ic _ _ (fun k hk => ?_), im _ _ (fun k hk => ?_)⟩
    · exact h 0 (by omega)
    · have hk' : k < siz c := by omega
      have := h (k + 1) (by omega)
      have e : (pre (.inner n x u c m) s w)[k + 1]'(by omega) = (pre c (s + 1) (nI s))[k] := by
        simp only [pre, List.getElem_cons_succ]
        rw [List.getElem_append_left hk]
      rw [e, show s + (k + 1) = s + 1 + k by omega] at this
      exact this
    · have hk' : k < siz m := by omega
      have := h (k + 1 + siz c) (by omega)
      have e : (pre (.inner n x u c m) s w)[k + 1 + siz c]'(by omega) = (pre m (s + 1 + siz c) w)[k] := by
        simp only [pre, show k + 1 + siz c = (k + siz c) + 1 by omega, List.getElem_cons_succ]
        rw [List.getElem_append_right (by omega)]
        congr 1; omega
      rw [e, show s + (k + 1 + siz c) = s + 1 + siz c + k by omega] at this
      exact this
theorem Fb_of {Pt Rk : Nat → Int32} : ∀ (F : Fo) (s j : Nat), (∀ k (hk : k < (rks F j).length), Pt (s + k) = (rks F j)[k].1 ∧ Rk (s + k) = (rks F j)[k].2) → Fb Pt Rk F s j := by
  intro F
  induction F with
  | leaf => intro s j _; trivial
  | inner n x u c m ic im =>
    intro s j h
    have hlc := rks_len c 0
    have hlm := rks_len m (j + 1)
    have hl : (rks (.inner n x u c m) j).length = 1 + siz c + siz m := by rw [rks_len]; simp only [siz]; omega
    refine ⟨?_, ic _ _ (fun k hk => ?_), im _ _ (fun k hk => ?_)⟩
    · exact h 0 (by omega)
    · have := h (k + 1) (by omega)
      have e : (rks (.inner n x u c m) j)[k + 1]'(by omega) = (rks c 0)[k] := by
        simp only [rks, List.getElem_cons_succ]
        rw [List.getElem_append_left hk]
      rw [e, show s + (k + 1) = s + 1 + k by omega] at this
      exact this
    · have := h (k + 1 + siz c) (by omega)
      have e : (rks (.inner n x u c m) j)[k + 1 + siz c]'(by omega) = (rks m (j + 1))[k] := by
        simp only [rks, show k + 1 + siz c = (k + siz c) + 1 by omega, List.getElem_cons_succ]
        rw [List.getElem_append_right (by omega)]
        congr 1; omega
      rw [e, show s + (k + 1 + siz c) = s + 1 + siz c + k by omega] at this
      exact this
theorem at_node : ∀ (F : Fo) (s : Nat) (w : Int32) (j i : Nat), i < siz F → ∃ x c w' r, (∀ K W0 W Z, Fa K W0 W Z F s w → (K (s + i) = nI x.1 ∧ W0 (s + i) = x.2.2 ∧ W (s + i) = w' ∧ Z (s + i) = nI (siz c + 1)) ∧ Fa K W0 W Z c (s + i + 1) (nI (s + i))) ∧ (∀ Pt Rk, Fb Pt Rk F s j → (Pt (s + i) = nI (nro c) ∧ Rk (s + i) = nI r) ∧ Fb Pt Rk c (s + i + 1) 0) ∧ (∀ n, wt n F → wt n (.inner 0 x () c .leaf)) ∧ hgt c + 1 ≤ hgt F ∧ i + siz c < siz F := by
  intro F
  induction F with
  | leaf => intro s w j i h; simp [siz] at h
  | inner n x u c m ic im =>
    intro s w j i h
    simp only [siz] at h
    by_cases h0 : i = 0
    · subst h0
      refine ⟨x, c, w, j, fun K W0 W Z hf => ⟨hf.1, hf.2.1⟩, fun Pt Rk hf => ⟨hf.1, hf.2.1⟩, fun n' hw => ⟨hw.1, hw.2.1, hw.2.2.1, hw.2.2.2.1, trivial⟩, by simp only [hgt]; omega, by simp only [siz]; omega⟩
    · by_cases h1 : i - 1 < siz c
      · obtain ⟨x', c', w', r, e1, e2, e3, e4, e5⟩ := ic (s + 1) (nI s) 0 (i - 1) h1
        rw [show s + 1 + (i - 1) = s + i by omega] at e1 e2
        exact ⟨x', c', w', r, fun K W0 W Z hf => e1 K W0 W Z hf.2.1, fun Pt Rk hf => e2 Pt Rk hf.2.1, fun n' hw => e3 n' hw.2.2.2.1, by simp only [hgt]; omega, by simp only [siz]; omega⟩
      · obtain ⟨x', c', w', r, e1, e2, e3, e4, e5⟩ := im (s + 1 + siz c) w (j + 1) (i - 1 - siz c) (by omega)
        rw [show s + 1 + siz c + (i - 1 - siz c) = s + i by omega] at e1 e2
        exact ⟨x', c', w', r, fun K W0 W Z hf => e1 K W0 W Z hf.2.2, fun Pt Rk hf => e2 Pt Rk hf.2.2, fun n' hw => e3 n' hw.2.2.2.2, by simp only [hgt]; omega, by simp only [siz]; omega⟩
theorem TL_Fa {τ : mh_H} {tr b L : Nat} {F : Fo} (H : TL τ tr b L (txt F) (rkT F)) : Fa (hA τ b) (hA τ (b + 2)) (hA τ (b + 5)) (hA τ (b + 3)) (root F) 0 (-1) ∧ Fb (hA τ (b + 4)) (hA τ (b + 6)) (root F) 0 0 := by
  obtain ⟨a1, a2, a3, a4, a5, a6, a7, a8⟩ := H
  rw [txt_root] at a5
  rw [rkT_root] at a6
  refine ⟨Fa_of _ _ _ (fun k hk => ?_), Fb_of _ _ _ (fun k hk => ?_)⟩
  · have := a5 k hk
    exact ⟨this.1, this.2.2.1, this.2.2.2.1, this.2.2.2.2⟩
  · rw [Nat.zero_add]; exact a6 k hk
theorem TR_Fa {S : rm_S} {t z : Nat} {F : Fo} (H : TR S t z (txt F)) : Fa (fun j => S.2 14 (z + j)) (fun j => S.2 16 (z + j)) (fun j => S.2 17 (z + j)) (fun j => S.2 18 (z + j)) (root F) 0 (-1) := by
  obtain ⟨_, a5⟩ := H
  rw [txt_root] at a5
  refine Fa_of _ _ _ (fun k hk => ?_)
  have := a5 k hk
  simp only [Nat.zero_add]
  exact ⟨this.1, this.2.2.1, this.2.2.2.1, this.2.2.2.2⟩
/-- where the k-th part stands -/
def pth : Fo → Nat → Nat → Nat
  | .leaf, s, _ => s
  | .inner _ _ _ c m, s, k => if k = 0 then s else pth m (s + 1 + siz c) (k - 1)
section ASK2
variable {S : rm_S} {N t : Nat} {K W0 W : Nat → Int32}
theorem r_parts {n c : Nat} (ht : t < 2) (hz : S.2 18 (13000 * t + n) = nI (c + 1)) (hn : n + c < 13000) : ∀ (m : Fo) (s cnt fu : Nat) (w : Int32), Fa K W0 W (fun j => S.2 18 (13000 * t + j)) m s w → s + siz m = n + 1 + c → nro m < fu → cnt + nro m < 20000 → k_RM_parts_7 N fu (nI t) (nI n) (nI cnt) (nI s) S = some (nI (cnt + nro m), S) := by
  have e0 : ∀ k, (13000 : Int32) * nI t + nI k = nI (13000 * t + k) := fun k => by rw [show (13000 : Int32) * nI t = nI (13000 * t) from n_mul 13000 t, n_add]
  have hne : nI n + nI (c + 1) = nI (n + 1 + c) := by rw [n_add]; congr 1; omega
  intro m
  induction m with
  | leaf =>
    intro s cnt fu w _ hs hfu hc
    obtain ⟨fu, rfl⟩ : ∃ x, fu = x + 1 := ⟨fu - 1, by simp [nro] at hfu; omega⟩
    simp only [siz] at hs
    unfold k_RM_parts_7
    refine X_chk (by rw [e0, n_ib (by omega)]; omega) (X_if (by rw [e0, n_nat (by omega), hz, hne, n_le (by omega) (by omega)]; omega) rfl)
  | inner i x u d m _ im =>
    intro s cnt fu w hf hs hfu hc
    obtain ⟨fu, rfl⟩ : ∃ x, fu = x + 1 := ⟨fu - 1, by simp [nro] at hfu; omega⟩
    simp only [siz] at hs
    simp only [nro] at hfu hc
    obtain ⟨⟨_, _, _, f1⟩, _, f2⟩ := hf
    unfold k_RM_parts_7
    refine X_chk (by rw [e0, n_ib (by omega)]; omega) (X_nif (by rw [e0, n_nat (by omega), hz, hne, n_le (by omega) (by omega)]; omega) (X_chk (by rw [e0, n_ib (by omega)]; omega) (X_bndE (x' := nI (s + 1 + siz d)) ?_ ?_)))
    · rw [e0, n_nat (by omega)]
      simp only at f1
      rw [f1, n_add]; congr 1; omega
    · rw [show nI cnt + 1 = nI (cnt + 1) from n_add cnt 1, im (s + 1 + siz d) (cnt + 1) fu w f2 (by omega) (by omega) (by omega)]
      simp only [nro]; congr 3; omega
theorem r_part {n c j : Nat} (ht : t < 2) (hz : S.2 18 (13000 * t + n) = nI (c + 1)) (hn : n + c < 13000) (hj : j < 2147483648) : ∀ (m : Fo) (s cnt fu : Nat) (w : Int32), Fa K W0 W (fun j => S.2 18 (13000 * t + j)) m s w → s + siz m = n + 1 + c → nro m < fu → cnt ≤ j → cnt + nro m < 20000 → k_RM_part_23 N fu (nI t) (nI n) (nI j) (nI cnt) (nI s) S = some (if j - cnt < nro m then nI (pth m s (j - cnt)) else -1, S) := by
  have e0 : ∀ k, (13000 : Int32) * nI t + nI k = nI (13000 * t + k) := fun k => by rw [show (13000 : Int32) * nI t = nI (13000 * t) from n_mul 13000 t, n_add]
  have hne : nI n + nI (c + 1) = nI (n + 1 + c) := by rw [n_add]; congr 1; omega
  intro m
  induction m with
  | leaf =>
    intro s cnt fu w _ hs hfu hcj hc
    obtain ⟨fu, rfl⟩ : ∃ x, fu = x + 1 := ⟨fu - 1, by simp [nro] at hfu; omega⟩
    simp only [siz] at hs
    rw [if_neg (by simp [nro])]
    unfold k_RM_part_23
    refine X_chk (by rw [e0, n_ib (by omega)]; omega) (X_if (by rw [e0, n_nat (by omega), hz, hne, n_le (by omega) (by omega)]; omega) rfl)
  | inner i x u d m _ im =>
    intro s cnt fu w hf hs hfu hcj hc
    obtain ⟨fu, rfl⟩ : ∃ x, fu = x + 1 := ⟨fu - 1, by simp [nro] at hfu; omega⟩
    simp only [siz] at hs
    simp only [nro] at hfu hc
    obtain ⟨⟨_, _, _, f1⟩, _, f2⟩ := hf
    unfold k_RM_part_23
    refine X_chk (by rw [e0, n_ib (by omega)]; omega) (X_nif (by rw [e0, n_nat (by omega), hz, hne, n_le (by omega) (by omega)]; omega) ?_)
    by_cases hcj' : cnt = j
    · subst hcj'
      refine X_if rfl ?_
      rw [Nat.sub_self, if_pos (show 0 < nro (.inner i x u d m) by simp only [nro]; omega)]
      simp [pth]
    · refine X_nif (by rw [n_eq (by omega) (by omega)]; exact hcj') (X_chk (by rw [e0, n_ib (by omega)]; omega) (X_bndE (x' := nI (s + 1 + siz d)) ?_ ?_))
      · rw [e0, n_nat (by omega)]
        simp only at f1
        rw [f1, n_add]; congr 1; omega
      · rw [show nI cnt + 1 = nI (cnt + 1) from n_add cnt 1, im (s + 1 + siz d) (cnt + 1) fu w f2 (by omega) (by omega) (by omega) (by omega)]
        have hnro : nro (.inner i x u d m) = nro m + 1 := rfl
        have hp : pth (.inner i x u d m) s (j - cnt) = pth m (s + 1 + siz d) (j - (cnt + 1)) := by
          simp only [pth]
          rw [if_neg (show ¬ j - cnt = 0 by omega), show j - cnt - 1 = j - (cnt + 1) by omega]
        rw [hp]
        by_cases hlt : j - (cnt + 1) < nro m
        · rw [if_pos hlt, if_pos (show j - cnt < nro (.inner i x u d m) by rw [hnro]; omega)]
        · rw [if_neg hlt, if_neg (show ¬ j - cnt < nro (.inner i x u d m) by rw [hnro]; omega)]
theorem c_part {τ : mh_H} {tr b L j : Nat} (a1 : hT τ tr = 11) (a2 : hT τ (b + 3) = 2) (a3 : hN τ (b + 3) = L) (a4 : hR τ 5 4 tr = some (b + 3)) {C : Nat} (a5 : hI τ 5 0 tr = nI C) (hC : C ≤ L) (hj : j < 40000) : ∀ (m : Fo) (s cnt fu : Nat) (w : Int32), Fa K W0 W (hA τ (b + 3)) m s w → s + siz m ≤ C → L < 40000 → cnt ≤ j → j < cnt + nro m → j - cnt < fu → k_TR_partAt_22 N fu tr (nI j) (nI s) (nI cnt) τ = some (nI (pth m s (j - cnt)), τ) := by
  intro m
  induction m with
  | leaf => intro s cnt fu w _ _ _ _ h; simp [nro] at h; omega
  | inner i x u d m _ im =>
    intro s cnt fu w hf hs hL hc1 hc2 hfu
    obtain ⟨fu, rfl⟩ : ∃ x, fu = x + 1 := ⟨fu - 1, by omega⟩
    simp only [siz] at hs
    simp only [nro] at hc2
    have hnr := nro_le m
    obtain ⟨⟨_, _, _, f1⟩, _, f2⟩ := hf
    unfold k_TR_partAt_22
    by_cases e : cnt = j
    · subst e
      refine X_if (by rw [n_le (by omega) (by omega)]; omega) ?_
      simp [pth]
    · refine X_nif (by rw [n_le (by omega) (by omega)]; omega) (X_chk a1 (X_I (t_has a1 a5 (by omega) (by omega)) (X_nif n10 (X_chk a1 (X_rfO a4 (X_chk a2 (X_chk (by rw [a3, n_ib (by omega)]; omega) (X_bndE (x' := nI (s + 1 + siz d)) ?_ ?_))))))))
      · rw [n_nat (by omega), f1, n_add]; congr 1; omega
      · rw [show nI cnt + 1 = nI (cnt + 1) from n_add cnt 1, im (s + 1 + siz d) (cnt + 1) fu w f2 (by omega) hL (by omega) (by omega) (by omega)]
        simp only [pth]
        rw [if_neg (show ¬ j - cnt = 0 by omega), show j - cnt - 1 = j - (cnt + 1) by omega]
end ASK2
section ASK3
variable {τ : mh_H} {own P V : Nat → Nat} {lf lo : List Nat} {nt : List (List Int32)} {F : Nat → Fo} {S : rm_S} {N : Nat}
theorem ask_node (H : CS τ own P V lf lo nt F) (I : RI S lf lo nt F) (hsz : ∀ t, t < 2 → siz (F t) ≤ 12001) (hNN : 40000 ≤ N) (x1 x2 x3 : Int32) : ∃ v, f_PR_node N (P 0) x1 x2 x3 τ = some (v, τ) ∧ f_RM_node N x1 x2 x3 S = some (v, S) := by
  have hc := has_cases (N := N) H I x1 x2
  obtain ⟨HC0, HCW, HF, HO, HS, H4, H6, H7⟩ := H
  obtain ⟨⟨x1', x2', x3'⟩, ⟨y0, y1, y2, y3, y4, y5, y6, y7, y8⟩, yQ, ⟨x4, x5⟩, ox0, ox1⟩ := HC0
  rcases hc with ⟨t, n, ht, hn, rfl, rfl, h1, h3, h2⟩ | ⟨h1, h2⟩
  · obtain ⟨TLt, _⟩ := H7 t ht
    have hTR := I.2.2.2.2 t ht
    have hnt : (nI t).toNatClampNeg = t := n_nat (by omega)
    have hs := hsz t ht
    have hnn : (nI n).toNatClampNeg = n := n_nat (by omega)
    have ibt : ib (nI t) 2 := by rw [n_ib (by omega)]; exact ht
    have htl := txt_len (F t)
    have hfa := TL_Fa TLt
    have hra := TR_Fa hTR
    obtain ⟨a1, a2, a3, a4, a5, a6, a7, a8⟩ := TLt
    have e0 : (13000 : Int32) * nI t + nI n = nI (13000 * t + n) := by rw [show (13000 : Int32) * nI t = nI (13000 * t) from n_mul 13000 t, n_add]
    have hL : n < V (13 + 2 * t) := by omega
    have ibn : ib (nI n) (V (13 + 2 * t)) := by rw [n_ib (by omega)]; exact hL
    have ibz : ib (nI (13000 * t + n)) 26000 := by rw [n_ib (by omega)]; omega
    have hnz : (nI (13000 * t + n)).toNatClampNeg = 13000 * t + n := n_nat (by omega)
    have hL5 := a5 n (by omega)
    have hR5 := hTR.2 n (by omega)
    rw [Nat.zero_add] at hL5
    have hd : ∀ v y, f_TR_about N (P (8 + t)) (nI n) x3 τ = some (v, y) → f_PR_node N (P 0) (nI t) (nI n) x3 τ = some (v, y) := by
      intro v y hy
      unfold f_PR_node
      exact X_chk x1' (X_I h1 (X_nif n10 (X_chk x1' (X_rfO y8 (X_chk x2' (X_chk (by rw [x3']; exact ibt) (X_rfO (by rw [hnt]; exact yQ t ht) (X_chk a1 (X_I hy rfl)))))))))
    have b0 := a2 0 (by omega)
    have b1 := a2 1 (by omega)
    have b2 := a2 2 (by omega)
    have b3 := a2 3 (by omega)
    have b4 := a2 4 (by omega)
    rw [Nat.add_zero] at b0
    by_cases c0 : x3 = 0
    · subst c0
      refine ⟨(txt (F t))[n].1, hd _ _ ?_, ?_⟩
      · unfold f_TR_about
        refine X_chk a1 (X_I h3 (X_nif n10 (X_if rfl (X_chk a1 (X_rfO b0.2.2 (X_chk b0.1 (X_chk (by rw [b0.2.1]; exact ibn) ?_)))))))
        rw [hnn, hL5.1]
      · unfold f_RM_node
        refine X_I h2 (X_nif n10 (X_bndE e0 (X_if rfl (X_chk ibz ?_))))
        rw [hnz, hR5.1]
    · by_cases c1 : x3 = 1
      · subst c1
        refine ⟨(txt (F t))[n].2.1, hd _ _ ?_, ?_⟩
        · unfold f_TR_about
          refine X_chk a1 (X_I h3 (X_nif n10 (X_nif c0 (X_if rfl (X_chk a1 (X_rfO b1.2.2 (X_chk b1.1 (X_chk (by rw [b1.2.1]; exact ibn) ?_))))))))
          rw [hnn, hL5.2.1]
        · unfold f_RM_node
          refine X_I h2 (X_nif n10 (X_bndE e0 (X_nif c0 (X_if rfl (X_chk ibz ?_)))))
          rw [hnz, hR5.2.1]
      · by_cases c2 : x3 = 2
        · subst c2
          refine ⟨(txt (F t))[n].2.2.1, hd _ _ ?_, ?_⟩
          · unfold f_TR_about
            refine X_chk a1 (X_I h3 (X_nif n10 (X_nif c0 (X_nif c1 (X_if rfl (X_chk a1 (X_rfO b2.2.2 (X_chk b2.1 (X_chk (by rw [b2.2.1]; exact ibn) ?_)))))))))
            rw [hnn, hL5.2.2.1]
          · unfold f_RM_node
            refine X_I h2 (X_nif n10 (X_bndE e0 (X_nif c0 (X_nif c1 (X_if rfl (X_chk ibz ?_))))))
            rw [hnz, hR5.2.2.1]
        · by_cases c3 : x3 = 3
          · subst c3
            refine ⟨(txt (F t))[n].2.2.2.2, hd _ _ ?_, ?_⟩
            · unfold f_TR_about
              refine X_chk a1 (X_I h3 (X_nif n10 (X_nif c0 (X_nif c1 (X_nif c2 (X_if rfl (X_chk a1 (X_rfO b3.2.2 (X_chk b3.1 (X_chk (by rw [b3.2.1]; exact ibn) ?_))))))))))
              rw [hnn, hL5.2.2.2.2]
            · unfold f_RM_node
              refine X_I h2 (X_nif n10 (X_bndE e0 (X_nif c0 (X_nif c1 (X_nif c2 (X_if rfl (X_chk ibz ?_)))))))
              rw [hnz, hR5.2.2.2.2]
          · by_cases c4 : x3 = 4
            · subst c4
              obtain ⟨x, c, w', r, q1, q2, q3, q4, q5⟩ := at_node (root (F t)) 0 (-1) 0 n (by simp only [root, siz]; omega)
              obtain ⟨⟨k1, k2, k3, k4⟩, k5⟩ := q1 _ _ _ _ hra
              obtain ⟨⟨l1, l2⟩, l3⟩ := q2 _ _ hfa.2
              simp only [Nat.zero_add] at k4 k5 l1
              have hsr : siz (root (F t)) = siz (F t) + 1 := by simp [root, siz]
              have hnr := nro_le c
              have hrp := r_parts (N := N) ht k4 (by omega) c (n + 1) 0 N (nI n) k5 rfl (by omega) (by omega)
              rw [Nat.zero_add] at hrp
              refine ⟨nI (nro c), hd _ _ ?_, ?_⟩
              · unfold f_TR_about
                refine X_chk a1 (X_I h3 (X_nif n10 (X_nif c0 (X_nif c1 (X_nif c2 (X_nif c3 (X_if rfl (X_chk a1 (X_rfO b4.2.2 (X_chk b4.1 (X_chk (by rw [b4.2.1]; exact ibn) ?_)))))))))))
                rw [hnn, l1]
              · unfold f_RM_node
                refine X_I h2 (X_nif n10 (X_bndE e0 (X_nif c0 (X_nif c1 (X_nif c2 (X_nif c3 (X_if rfl (X_I (a := nI (nro c)) (s := S) ?_ rfl))))))))
                unfold f_RM_parts
                exact X_bndE (x' := nI (n + 1)) (n_add n 1) hrp
            · refine ⟨-2, hd _ _ ?_, ?_⟩
              · unfold f_TR_about
                exact X_chk a1 (X_I h3 (X_nif n10 (X_nif c0 (X_nif c1 (X_nif c2 (X_nif c3 (X_nif c4 rfl)))))))
              · unfold f_RM_node
                exact X_I h2 (X_nif n10 (X_bndE e0 (X_nif c0 (X_nif c1 (X_nif c2 (X_nif c3 (X_nif c4 rfl)))))))
  · refine ⟨-2, ?_, ?_⟩
    · unfold f_PR_node
      rcases h1 with h1 | ⟨t, ht, rfl, h1, h3⟩
      · exact X_chk x1' (X_I h1 (X_if rfl rfl))
      · obtain ⟨TLt, _⟩ := H7 t ht
        refine X_chk x1' (X_I h1 (X_nif n10 (X_chk x1' (X_rfO y8 (X_chk x2' (X_chk (by rw [x3', n_ib (by omega)]; exact ht) (X_rfO (by rw [n_nat (by omega)]; exact yQ t ht) (X_chk TLt.1 (X_I (a := -2) (s := τ) ?_ rfl)))))))))
        unfold f_TR_about
        exact X_chk TLt.1 (X_I h3 (X_if rfl rfl))
    · unfold f_RM_node
      exact X_I h2 (X_if rfl rfl)
theorem ask_part (H : CS τ own P V lf lo nt F) (I : RI S lf lo nt F) (hsz : ∀ t, t < 2 → siz (F t) ≤ 12001) (hNN : 40000 ≤ N) (x1 x2 x3 : Int32) : ∃ v, f_PR_part N (P 0) x1 x2 x3 τ = some (v, τ) ∧ f_RM_part N x1 x2 x3 S = some (v, S) := by
  have hc := has_cases (N := N) H I x1 x2
  obtain ⟨HC0, HCW, HF, HO, HS, H4, H6, H7⟩ := H
  obtain ⟨⟨x1', x2', x3'⟩, ⟨y0, y1, y2, y3, y4, y5, y6, y7, y8⟩, yQ, ⟨x4, x5⟩, ox0, ox1⟩ := HC0
  rcases hc with ⟨t, n, ht, hn, rfl, rfl, h1, h3, h2⟩ | ⟨h1, h2⟩
  · obtain ⟨TLt, _⟩ := H7 t ht
    have hTR := I.2.2.2.2 t ht
    have hnt : (nI t).toNatClampNeg = t := n_nat (by omega)
    have hs := hsz t ht
    have hnn : (nI n).toNatClampNeg = n := n_nat (by omega)
    have ibt : ib (nI t) 2 := by rw [n_ib (by omega)]; exact ht
    have htl := txt_len (F t)
    have hfa := TL_Fa TLt
    have hra := TR_Fa hTR
    obtain ⟨a1, a2, a3, a4, a5, a6, a7, a8⟩ := TLt
    have hL : n < V (13 + 2 * t) := by omega
    have ibn : ib (nI n) (V (13 + 2 * t)) := by rw [n_ib (by omega)]; exact hL
    have hd : ∀ v y, f_TR_partAt N (P (8 + t)) (nI n) x3 τ = some (v, y) → f_PR_part N (P 0) (nI t) (nI n) x3 τ = some (v, y) := by
      intro v y hy
      unfold f_PR_part
      exact X_chk x1' (X_I h1 (X_nif n10 (X_chk x1' (X_rfO y8 (X_chk x2' (X_chk (by rw [x3']; exact ibt) (X_rfO (by rw [hnt]; exact yQ t ht) (X_chk a1 (X_I hy rfl)))))))))
    have b3 := a2 3 (by omega)
    have b4 := a2 4 (by omega)
    obtain ⟨x, c, w', r, q1, q2, q3, q4, q5⟩ := at_node (root (F t)) 0 (-1) 0 n (by simp only [root, siz]; omega)
    obtain ⟨⟨k1, k2, k3, k4⟩, k5⟩ := q1 _ _ _ _ hra
    obtain ⟨_, j5⟩ := q1 _ _ _ _ hfa.1
    obtain ⟨⟨l1, l2⟩, l3⟩ := q2 _ _ hfa.2
    simp only [Nat.zero_add] at k4 k5 l1 j5
    have hsr : siz (root (F t)) = siz (F t) + 1 := by simp [root, siz]
    have hnr := nro_le c
    rcases neg_or x3 with hx | ⟨j, hj, rfl⟩
    · refine ⟨-1, hd _ _ ?_, ?_⟩
      · unfold f_TR_partAt; exact X_if hx rfl
      · unfold f_RM_part
        refine X_I h2 (X_nif n10 (X_nif ?_ rfl))
        rw [Int32.le_iff_toInt_le]; rw [Int32.lt_iff_toInt_lt] at hx; omega
    · have c3 : ¬ nI j < 0 := by show ¬ nI j < nI 0; rw [n_lt (by omega) (by omega)]; omega
      have c4 : 0 ≤ nI j := by show nI 0 ≤ nI j; rw [n_le (by omega) (by omega)]; omega
      have hrp := r_part (N := N) ht k4 (by omega) hj c (n + 1) 0 N (nI n) k5 rfl (by omega) (by omega) (by omega)
      rw [Nat.sub_zero] at hrp
      refine ⟨if j < nro c then nI (pth c (n + 1) j) else -1, hd _ _ ?_, ?_⟩
      · unfold f_TR_partAt
        refine X_nif c3 (X_chk a1 (X_I (t_partsOf a1 a3 (by omega) (by omega) b4.2.2 b4.1 (by rw [b4.2.1]; exact hL)) ?_))
        by_cases hlt : j < nro c
        · refine X_if (by rw [l1, n_lt (by omega) (by omega)]; exact hlt) (X_bndE (x' := nI (n + 1)) (n_add n 1) ?_)
          have := c_part (N := N) (j := j) a1 b3.1 b3.2.1 b3.2.2 a3 a4.1 (by omega) c (n + 1) 0 N (nI n) j5 (by omega) (by omega) (by omega) (by omega) (by omega)
          rw [Nat.sub_zero] at this
          rw [if_pos hlt]; exact this
        · rw [if_neg hlt]
          exact X_nif (by rw [l1, n_lt (by omega) (by omega)]; exact hlt) rfl
      · unfold f_RM_part
        exact X_I h2 (X_nif n10 (X_if c4 (X_bndE (x' := nI (n + 1)) (n_add n 1) hrp)))
  · refine ⟨-1, ?_, ?_⟩
    · unfold f_PR_part
      rcases h1 with h1 | ⟨t, ht, rfl, h1, h3⟩
      · exact X_chk x1' (X_I h1 (X_if rfl rfl))
      · obtain ⟨TLt, _⟩ := H7 t ht
        refine X_chk x1' (X_I h1 (X_nif n10 (X_chk x1' (X_rfO y8 (X_chk x2' (X_chk (by rw [x3', n_ib (by omega)]; exact ht) (X_rfO (by rw [n_nat (by omega)]; exact yQ t ht) (X_chk TLt.1 (X_I (a := -1) (s := τ) ?_ rfl)))))))))
        have h0 : f_TR_partsOf N (P (8 + t)) x2 τ = some (0, τ) := by
          unfold f_TR_partsOf
          exact X_chk TLt.1 (X_I h3 (X_if rfl rfl))
        unfold f_TR_partAt
        by_cases hx : x3 < 0
        · exact X_if hx rfl
        · exact X_nif hx (X_chk TLt.1 (X_I h0 (X_nif hx rfl)))
    · unfold f_RM_part
      exact X_I h2 (X_if rfl rfl)
theorem ask_whole (H : CS τ own P V lf lo nt F) (I : RI S lf lo nt F) (hsz : ∀ t, t < 2 → siz (F t) ≤ 12001) (x1 x2 : Int32) : ∃ v, f_PR_whole N (P 0) x1 x2 τ = some (v, τ) ∧ f_RM_whole N x1 x2 S = some (v, S) := by
  have hc := has_cases (N := N) H I x1 x2
  obtain ⟨HC0, HCW, HF, HO, HS, H4, H6, H7⟩ := H
  obtain ⟨⟨x1', x2', x3'⟩, ⟨y0, y1, y2, y3, y4, y5, y6, y7, y8⟩, yQ, ⟨x4, x5⟩, ox0, ox1⟩ := HC0
  rcases hc with ⟨t, n, ht, hn, rfl, rfl, h1, h3, h2⟩ | ⟨h1, h2⟩
  · obtain ⟨TLt, _⟩ := H7 t ht
    have hTR := I.2.2.2.2 t ht
    have hnt : (nI t).toNatClampNeg = t := n_nat (by omega)
    have hs := hsz t ht
    have hnn : (nI n).toNatClampNeg = n := n_nat (by omega)
    have ibt : ib (nI t) 2 := by rw [n_ib (by omega)]; exact ht
    have htl := txt_len (F t)
    obtain ⟨a1, a2, a3, a4, a5, a6, a7, a8⟩ := TLt
    have b5 := a2 5 (by omega)
    have e0 : (13000 : Int32) * nI t + nI n = nI (13000 * t + n) := by rw [show (13000 : Int32) * nI t = nI (13000 * t) from n_mul 13000 t, n_add]
    have hL5 := a5 n (by omega)
    have hR5 := hTR.2 n (by omega)
    rw [Nat.zero_add] at hL5
    refine ⟨(txt (F t))[n].2.2.2.1, ?_, ?_⟩
    · unfold f_PR_whole
      refine X_chk x1' (X_I h1 (X_nif n10 (X_chk x1' (X_rfO y8 (X_chk x2' (X_chk (by rw [x3']; exact ibt) (X_rfO (by rw [hnt]; exact yQ t ht) (X_chk a1 (X_I (t_wholeOf a1 a3 (by omega) (by omega) b5.2.2 b5.1 (by rw [b5.2.1]; omega)) ?_)))))))))
      rw [hL5.2.2.2.1]
    · unfold f_RM_whole
      refine X_I h2 (X_nif n10 (X_chk (by rw [e0, n_ib (by omega)]; omega) ?_))
      rw [e0, n_nat (by omega), hR5.2.2.2.1]
  · refine ⟨-1, ?_, ?_⟩
    · unfold f_PR_whole
      rcases h1 with h1 | ⟨t, ht, rfl, h1, h3⟩
      · exact X_chk x1' (X_I h1 (X_if rfl rfl))
      · obtain ⟨TLt, _⟩ := H7 t ht
        refine X_chk x1' (X_I h1 (X_nif n10 (X_chk x1' (X_rfO y8 (X_chk x2' (X_chk (by rw [x3', n_ib (by omega)]; exact ht) (X_rfO (by rw [n_nat (by omega)]; exact yQ t ht) (X_chk TLt.1 (X_I (a := -1) (s := τ) ?_ rfl)))))))))
        unfold f_TR_wholeOf
        exact X_chk TLt.1 (X_I h3 (X_if rfl rfl))
    · unfold f_RM_whole
      exact X_I h2 (X_if rfl rfl)
end ASK3
