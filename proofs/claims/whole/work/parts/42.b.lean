/-! NAMES, as lists of bytes; the reference's table -/
def wd (b : Nat → Int32) (p l : Nat) : List Int32 := (List.range l).map fun i => b (p + i)
def st (nt : List (List Int32)) (k : Nat) : Nat := ((nt.take k).map List.length).sum
theorem st_zero (nt : List (List Int32)) : st nt 0 = 0 := by simp [st]
theorem st_succ (nt : List (List Int32)) (k : Nat) (hk : k < nt.length) : st nt (k + 1) = st nt k + nt[k].length := by
  simp only [st, List.take_add_one, List.getElem?_eq_getElem hk, Option.toList_some, List.map_append, List.map_cons, List.map_nil, List.sum_append, List.sum_cons, List.sum_nil]; omega
theorem st_app (nt : List (List Int32)) (w : List Int32) (k : Nat) (hk : k ≤ nt.length) : st (nt ++ [w]) k = st nt k := by
  simp only [st, List.take_append_of_le_length hk]
theorem st_all (nt : List (List Int32)) (w : List Int32) : st (nt ++ [w]) (nt.length + 1) = st nt nt.length + w.length := by
  rw [st_succ _ _ (by simp), st_app _ _ _ (Nat.le_refl _)]; simp
theorem st_mono (nt : List (List Int32)) {j k : Nat} (h : j ≤ k) (hk : k ≤ nt.length) : st nt j ≤ st nt k := by
  induction k with
  | zero => have : j = 0 := by omega
            subst this; exact Nat.le_refl _
  | succ k ih =>
    by_cases e : j = k + 1
    · subst e; exact Nat.le_refl _
    · have := ih (by omega) (by omega)
      rw [st_succ nt k (by omega)]; omega
theorem wd_len (b : Nat → Int32) (p l : Nat) : (wd b p l).length = l := by simp [wd]
theorem wd_get (b : Nat → Int32) (p l i : Nat) (h : i < (wd b p l).length) : (wd b p l)[i] = b (p + i) := by simp [wd]
theorem wd_eq {b : Nat → Int32} {p l : Nat} {w : List Int32} (hl : w.length = l) (h : ∀ i (hi : i < w.length), w[i] = b (p + i)) : w = wd b p l := by
  apply List.ext_getElem
  · rw [wd_len, hl]
  · intro i h1 h2; rw [wd_get, h i h1]
/-- letters at A o1, beginnings at A o2 -/
def NT (A : Nat → Nat → Int32) (nt : List (List Int32)) : Prop :=
  (∀ k, k ≤ nt.length → A 21 k = nI (st nt k)) ∧ (∀ k (hk : k < nt.length), ∀ i (hi : i < nt[k].length), A 20 (st nt k + i) = nt[k][i]) ∧ nt.length < 6000 ∧ st nt nt.length ≤ 12000
/-- where a word stands -/
def fnd (nt : List (List Int32)) (w : List Int32) : Nat := nt.findIdx (· == w)
def addw (nt : List (List Int32)) (w : List Int32) : List (List Int32) := if w ∈ nt then nt else nt ++ [w]
section NAMEOF
variable {S : rm_S} {N : Nat} {nt : List (List Int32)} {j p l : Nat}
/-- the letters of one name against those of the word -/
theorem nm_cmp {k2 : Int32 → Int32 → rm_S → Option (Int32 × rm_S)} {k : Nat} (hN : NT S.2 nt) (hk : k < nt.length) (hj : j < 8002) (h5 : S.2 5 j = nI p) (h6 : S.2 6 j = nI l) (hl : nt[k].length = l) (hb : p + l ≤ 8000) (hl2 : l < 10000) :
    ∀ m i fu, l - i ≤ m → m < fu → i ≤ l → (∀ x (hx : x < nt[k].length), x < i → nt[k][x] = S.2 1 (p + x)) → k_RM_nameOf_43 N k2 fu (nI j) (nI k) 1 (nI i) S = if nt[k] = wd (S.2 1) p l then some (nI k, S) else k2 (nI j) (nI (k + 1)) S := by
  have hs := hN.1 k (by omega)
  have hle : st nt k + l ≤ 12000 := by
    have h1 := st_succ nt k hk
    have h2 := st_mono nt (show k + 1 ≤ nt.length by omega) (Nat.le_refl _)
    have := hN.2.2.2; omega
  have hnl := hN.2.2.1
  intro m
  induction m with
  | zero =>
    intro i fu h1 hfu hi hx
    obtain ⟨fu, rfl⟩ : ∃ x, fu = x + 1 := ⟨fu - 1, by omega⟩
    have e : i = l := by omega
    subst e
    have : nt[k] = wd (S.2 1) p i := wd_eq hl (fun x hx' => hx x hx' (by omega))
    rw [if_pos this]
    simp (disch := omega) only [k_RM_nameOf_43, k_RM_nameOf_101, e_chkT,e_bnd,e_calI,e_calV,e_calP,e_rfO,e_calT,e_calTt, lit,n_add,n_le,n_lt,n_eq,n_nat,n_ib, h6, hj]
    simp
  | succ m ih =>
    intro i fu h1 hfu hi hx
    obtain ⟨fu, rfl⟩ : ∃ x, fu = x + 1 := ⟨fu - 1, by omega⟩
    by_cases e : i = l
    · subst e
      have : nt[k] = wd (S.2 1) p i := wd_eq hl (fun x hx' => hx x hx' (by omega))
      rw [if_pos this]
      simp (disch := omega) only [k_RM_nameOf_43, k_RM_nameOf_101, e_chkT,e_bnd,e_calI,e_calV,e_calP,e_rfO,e_calT,e_calTt, lit,n_add,n_le,n_lt,n_eq,n_nat,n_ib, h6, hj]
      simp
    · have hil : i < l := by omega
      have hL := hN.2.1 k hk i (by omega)
      have b1 : k < 6001 := by omega
      have b2 : st nt k + i < 12000 := by omega
      have b3 : p + i < 8000 := by omega
      have n1 : ¬ l ≤ i := by omega
      have n2 : ¬ (1 : Nat) = 0 := by omega
      by_cases hc : nt[k][i] = S.2 1 (p + i)
      · have := ih (i + 1) fu (by omega) (by omega) (by omega) (fun x hx' hx'' => by
          by_cases ex : x = i
          · subst ex; exact hc
          · exact hx x hx' (by omega))
        rw [← this]
        simp (disch := omega) only [k_RM_nameOf_43, e_chkT,e_bnd,e_calI,e_calV,e_calP,e_rfO,e_calT,e_calTt, lit,n_add,n_le,n_lt,n_eq,n_nat,n_ib, h6, h5, hs, hj, hL, b1, b2, b3, n1, n2, hc, if_true, if_false]
      · have hne : ¬ nt[k] = wd (S.2 1) p l := by
          intro e'
          apply hc
          have : nt[k][i]'(by omega) = (wd (S.2 1) p l)[i]'(by rw [wd_len]; omega) := by simp only [e']
          rw [this, wd_get]
        rw [if_neg hne]
        obtain ⟨fu, rfl⟩ : ∃ x, fu = x + 1 := ⟨fu - 1, by omega⟩
        simp (disch := omega) only [k_RM_nameOf_43, e_chkT,e_bnd,e_calI,e_calV,e_calP,e_rfO,e_calT,e_calTt, lit,n_add,n_le,n_lt,n_eq,n_nat,n_ib, h6, h5, hs, hj, hL, b1, b2, b3, n1, n2, hc, if_true, if_false]
        by_cases ei : l ≤ i + 1
        · rw [if_pos ei]
          simp (disch := omega) only [k_RM_nameOf_101, lit,n_add,n_le,n_lt,n_eq,n_nat,n_ib, if_true]
        · rw [if_neg ei]
          simp (disch := omega) only [k_RM_nameOf_101, lit,n_add,n_le,n_lt,n_eq,n_nat,n_ib, if_true]
theorem nm_len {k : Nat} (hN : NT S.2 nt) (hk : k < nt.length) : S.2 21 (k + 1) - S.2 21 k = nI nt[k].length := by
  rw [hN.1 (k + 1) (by omega), hN.1 k (by omega), st_succ nt k hk, n_sub (by omega)]; congr 1; omega
theorem fnd_at {w : List Int32} {k : Nat} (hk : k < nt.length) (h : nt[k] = w) (hx : ∀ x (hx : x < nt.length), x < k → nt[x] ≠ w) : fnd nt w = k := by
  unfold fnd
  rw [List.findIdx_eq hk]
  refine ⟨by simp [h], fun x hxk => ?_⟩
  have := hx x (by omega) hxk
  simp [this]
theorem nm_find (hN : NT S.2 nt) (h31 : S.1 31 = nI nt.length) (hj : j < 8002) (h5 : S.2 5 j = nI p) (h6 : S.2 6 j = nI l) (hb : p + l ≤ 8000) (hl2 : l < 10000) (hNN : 20000 ≤ N) :
    ∀ m k fu, nt.length - k ≤ m → m < fu → k ≤ nt.length → (∀ x (hx : x < nt.length), x < k → nt[x] ≠ wd (S.2 1) p l) → k_RM_nameOf_2 N fu (nI j) (nI k) S = if wd (S.2 1) p l ∈ nt then some (nI (fnd nt (wd (S.2 1) p l)), S) else k_RM_nameOf_115 N N (nI j) 0 S := by
  have hnl := hN.2.2.1
  intro m
  induction m with
  | zero =>
    intro k fu h1 hfu hk hx
    obtain ⟨fu, rfl⟩ : ∃ x, fu = x + 1 := ⟨fu - 1, by omega⟩
    have e : k = nt.length := by omega
    have hn : wd (S.2 1) p l ∉ nt := by
      intro hm
      obtain ⟨x, hx1, hx2⟩ := List.getElem_of_mem hm
      exact hx x hx1 (by omega) hx2
    have c1 : nt.length ≤ k := by omega
    rw [if_neg hn]
    simp (disch := omega) only [k_RM_nameOf_2, h31, n_le, c1, if_true]
  | succ m ih =>
    intro k fu h1 hfu hk hx
    obtain ⟨fu, rfl⟩ : ∃ x, fu = x + 1 := ⟨fu - 1, by omega⟩
    by_cases e : k = nt.length
    · have hn : wd (S.2 1) p l ∉ nt := by
        intro hm
        obtain ⟨x, hx1, hx2⟩ := List.getElem_of_mem hm
        exact hx x hx1 (by omega) hx2
      have c1 : nt.length ≤ k := by omega
      rw [if_neg hn]
      simp (disch := omega) only [k_RM_nameOf_2, h31, n_le, c1, if_true]
    · have hk' : k < nt.length := by omega
      have c1 : ¬ nt.length ≤ k := by omega
      have b1 : k + 1 < 6001 := by omega
      have b2 : k < 6001 := by omega
      have hlen := nm_len hN hk'
      have hlb : nt[k].length ≤ 12000 := by
        have h1 := st_succ nt k hk'
        have h2 := st_mono nt (show k + 1 ≤ nt.length by omega) (Nat.le_refl _)
        have := hN.2.2.2; omega
      by_cases el : nt[k].length = l
      · have hc := nm_cmp (N := N) (k2 := k_RM_nameOf_2 N fu) hN hk' hj h5 h6 el hb hl2 l 0 N (by omega) (by omega) (by omega) (fun x _ hx => by omega)
        have hl' : S.2 21 (k + 1) - S.2 21 k = nI l := by rw [hlen, el]
        have e1 : k_RM_nameOf_2 N (fu + 1) (nI j) (nI k) S = k_RM_nameOf_43 N (k_RM_nameOf_2 N fu) N (nI j) (nI k) 1 (nI 0) S := by
          simp (disch := omega) only [k_RM_nameOf_2, h31, e_chkT,e_bnd,e_calI,e_calV,e_calP,e_rfO,e_calT,e_calTt, lit,n_add,n_le,n_lt,n_eq,n_nat,n_ib, c1, b1, b2, hj, h6, hl', if_true, if_false]
        rw [e1, hc]
        by_cases ew : nt[k] = wd (S.2 1) p l
        · have hm : wd (S.2 1) p l ∈ nt := by rw [← ew]; exact List.getElem_mem hk'
          rw [if_pos ew, if_pos hm, fnd_at hk' ew hx]
        · rw [if_neg ew]
          exact ih (k + 1) fu (by omega) (by omega) (by omega) (fun x hx1 hx2 => by
            by_cases ex : x = k
            · subst ex; exact ew
            · exact hx x hx1 (by omega))
      · have ew : ¬ nt[k] = wd (S.2 1) p l := fun e => el (by rw [e, wd_len])
        have hl' : ¬ S.2 21 (k + 1) - S.2 21 k = nI l := by
          rw [hlen, n_eq (by omega) (by omega)]; exact el
        have e1 : k_RM_nameOf_2 N (fu + 1) (nI j) (nI k) S = k_RM_nameOf_43 N (k_RM_nameOf_2 N fu) N (nI j) (nI k) 0 (nI 0) S := by
          simp (disch := omega) only [k_RM_nameOf_2, h31, e_chkT,e_bnd,e_calI,e_calV,e_calP,e_rfO,e_calT,e_calTt, lit,n_add,n_le,n_lt,n_eq,n_nat,n_ib, c1, b1, b2, hj, h6, hl', if_true, if_false]
        obtain ⟨N', hN'⟩ : ∃ x, N = x + 1 := ⟨N - 1, by omega⟩
        have e2 : ∀ k2, k_RM_nameOf_43 N k2 N (nI j) (nI k) 0 (nI 0) S = k2 (nI j) (nI (k + 1)) S := by
          intro k2
          conv => lhs; arg 3; rw [hN']
          simp (disch := omega) only [k_RM_nameOf_43, k_RM_nameOf_101, e_chkT,e_bnd,e_calI,e_calV,e_calP,e_rfO,e_calT,e_calTt, lit,n_add,n_le,n_lt,n_eq,n_nat,n_ib, hj, h6, if_true]
          split <;> rfl
        rw [e1, e2]
        exact ih (k + 1) fu (by omega) (by omega) (by omega) (fun x hx1 hx2 => by
          by_cases ex : x = k
          · subst ex; exact ew
          · exact hx x hx1 (by omega))
/-- a word is written behind the others -/
theorem nm_put (hj : j < 8002) (hNN : 20000 ≤ N) (hb : p + l ≤ 8000) (hl2 : l < 10000) {b0 nm : Nat} (hnm : nm < 6000) (hb0 : b0 + l ≤ 12000) : ∀ m i fu (S : rm_S), l - i ≤ m → m < fu → i ≤ l → S.1 31 = nI nm → S.2 5 j = nI p → S.2 6 j = nI l → S.2 21 nm = nI b0 →
    ∃ S', k_RM_nameOf_115 N fu (nI j) (nI i) S = some (nI nm, S') ∧ S'.1 31 = nI (nm + 1) ∧ (∀ x, x ≠ 31 → S'.1 x = S.1 x) ∧ (∀ o, o ≠ 20 → o ≠ 21 → S'.2 o = S.2 o) ∧ (∀ x, S'.2 21 x = if x = nm + 1 then nI (b0 + l) else S.2 21 x) ∧ (∀ x, S'.2 20 x = if b0 + i ≤ x ∧ x < b0 + l then S.2 1 (p + (x - b0)) else S.2 20 x) := by
  intro m
  induction m with
  | zero =>
    intro i fu S h1 hfu hi h31 h5 h6 h21
    obtain ⟨fu, rfl⟩ : ∃ x, fu = x + 1 := ⟨fu - 1, by omega⟩
    have e : i = l := by omega
    subst e
    have c1 : i ≤ i := Nat.le_refl _
    have b1 : nm < 6001 := by omega
    have b2 : nm + 1 < 6001 := by omega
    have s1 : nI (nm + 1) - nI 1 = nI nm := n_sub (by omega)
    refine ⟨rs_a (rs_i S 31 (nI (nm + 1))) 21 (nm + 1) (nI (b0 + i)), ?_, by simp [rs_a1, rs_i1], fun x hx => by simp [rs_a1, rs_i1, hx], fun o h20 h21 => ?_, fun x => ?_, fun x => ?_⟩
    · have q1 : (rs_i S 31 (nI (nm + 1))).1 31 = nI (nm + 1) := by simp [rs_i1]
      simp (disch := omega) only [k_RM_nameOf_115, e_chkT,e_bnd,e_calI,e_calV,e_calP,e_rfO,e_calT,e_calTt, lit,n_add,n_le,n_lt,n_eq,n_nat,n_ib, hj, h6, h31, c1, rs_i2, rs_a1, q1, s1, b1, b2, h21, if_true]
    · funext x; rw [rs_a2, if_neg (by rintro ⟨rfl, _⟩; exact h21 rfl)]; rfl
    · rw [rs_a2]; simp [rs_i2]
    · rw [rs_a2, if_neg (by rintro ⟨h, _⟩; cases h), if_neg (by omega)]; rfl
  | succ m ih =>
    intro i fu S h1 hfu hi h31 h5 h6 h21
    by_cases e : i = l
    · obtain ⟨fu, rfl⟩ : ∃ x, fu = x + 1 := ⟨fu - 1, by omega⟩
      subst e
      have c1 : i ≤ i := Nat.le_refl _
      have b1 : nm < 6001 := by omega
      have b2 : nm + 1 < 6001 := by omega
      have s1 : nI (nm + 1) - nI 1 = nI nm := n_sub (by omega)
      refine ⟨rs_a (rs_i S 31 (nI (nm + 1))) 21 (nm + 1) (nI (b0 + i)), ?_, by simp [rs_a1, rs_i1], fun x hx => by simp [rs_a1, rs_i1, hx], fun o h20 h21 => ?_, fun x => ?_, fun x => ?_⟩
      · have q1 : (rs_i S 31 (nI (nm + 1))).1 31 = nI (nm + 1) := by simp [rs_i1]
        simp (disch := omega) only [k_RM_nameOf_115, e_chkT,e_bnd,e_calI,e_calV,e_calP,e_rfO,e_calT,e_calTt, lit,n_add,n_le,n_lt,n_eq,n_nat,n_ib, hj, h6, h31, c1, rs_i2, rs_a1, q1, s1, b1, b2, h21, if_true]
      · funext x; rw [rs_a2, if_neg (by rintro ⟨rfl, _⟩; exact h21 rfl)]; rfl
      · rw [rs_a2]; simp [rs_i2]
      · rw [rs_a2, if_neg (by rintro ⟨h, _⟩; cases h), if_neg (by omega)]; rfl
    · obtain ⟨fu, rfl⟩ : ∃ x, fu = x + 1 := ⟨fu - 1, by omega⟩
      have c1 : ¬ l ≤ i := by omega
      have b1 : nm < 6001 := by omega
      have b3 : p + i < 8000 := by omega
      have b4 : b0 + i < 12000 := by omega
      have e1 : k_RM_nameOf_115 N (fu + 1) (nI j) (nI i) S = k_RM_nameOf_115 N fu (nI j) (nI (i + 1)) (rs_a S 20 (b0 + i) (S.2 1 (p + i))) := by
        simp (disch := omega) only [k_RM_nameOf_115, e_chkT,e_bnd,e_calI,e_calV,e_calP,e_rfO,e_calT,e_calTt, lit,n_add,n_le,n_lt,n_eq,n_nat,n_ib, hj, h5, h6, h31, h21, c1, b1, b3, b4, if_false]
      have hne : ∀ o x, o ≠ 20 → (rs_a S 20 (b0 + i) (S.2 1 (p + i))).2 o x = S.2 o x := fun o x ho => by rw [rs_a2, if_neg (by rintro ⟨h, _⟩; exact ho h)]
      obtain ⟨S', x1, x2, x3, x4, x5, x6⟩ := ih (i + 1) fu (rs_a S 20 (b0 + i) (S.2 1 (p + i))) (by omega) (by omega) (by omega) h31 (by rw [hne 5 _ (by omega)]; exact h5) (by rw [hne 6 _ (by omega)]; exact h6) (by rw [hne 21 _ (by omega)]; exact h21)
      refine ⟨S', by rw [e1, x1], x2, x3, fun o h20 h21 => ?_, fun x => ?_, fun x => ?_⟩
      · rw [x4 o h20 h21]; funext x; exact hne o x h20
      · rw [x5, hne 21 _ (by omega)]
      · rw [x6, hne 1 _ (by omega), rs_a2]
        by_cases hx : x = b0 + i
        · subst hx
          rw [if_neg (show ¬ (b0 + (i + 1) ≤ b0 + i ∧ b0 + i < b0 + l) by omega), if_pos ⟨rfl, rfl⟩, if_pos (show b0 + i ≤ b0 + i ∧ b0 + i < b0 + l by omega), show b0 + i - b0 = i by omega]
        · by_cases hx2 : b0 + (i + 1) ≤ x ∧ x < b0 + l
          · rw [if_pos hx2, if_pos (by omega)]
          · rw [if_neg hx2, if_neg (by rintro ⟨_, h⟩; exact hx h), if_neg (by omega)]
theorem nameOf_ok (hN : NT S.2 nt) (h31 : S.1 31 = nI nt.length) (hj : j < 8002) (h5 : S.2 5 j = nI p) (h6 : S.2 6 j = nI l) (hb : p + l ≤ 8000) (hl2 : l < 10000) (hNN : 20000 ≤ N) (hc1 : (addw nt (wd (S.2 1) p l)).length < 6000) (hc2 : st (addw nt (wd (S.2 1) p l)) (addw nt (wd (S.2 1) p l)).length ≤ 12000) :
    ∃ S', f_RM_nameOf N (nI j) S = some (nI (fnd (addw nt (wd (S.2 1) p l)) (wd (S.2 1) p l)), S') ∧ NT S'.2 (addw nt (wd (S.2 1) p l)) ∧ S'.1 31 = nI (addw nt (wd (S.2 1) p l)).length ∧ (∀ x, x ≠ 31 → S'.1 x = S.1 x) ∧ (∀ o, o ≠ 20 → o ≠ 21 → S'.2 o = S.2 o) := by
  have hnl := hN.2.2.1
  have hf := nm_find hN h31 hj h5 h6 hb hl2 hNN nt.length 0 N (by omega) (by omega) (by omega) (fun x _ hx => by omega)
  have e0 : f_RM_nameOf N (nI j) S = k_RM_nameOf_2 N N (nI j) (nI 0) S := rfl
  rw [e0, hf]
  by_cases hm : wd (S.2 1) p l ∈ nt
  · have ea : addw nt (wd (S.2 1) p l) = nt := if_pos hm
    rw [if_pos hm, ea]
    exact ⟨S, rfl, hN, h31, fun _ _ => rfl, fun _ _ _ => rfl⟩
  · have ea : addw nt (wd (S.2 1) p l) = nt ++ [wd (S.2 1) p l] := if_neg hm
    rw [if_neg hm, ea]
    rw [ea] at hc1 hc2
    have hst := st_all nt (wd (S.2 1) p l)
    rw [wd_len] at hst
    simp only [List.length_append, List.length_cons, List.length_nil, Nat.zero_add] at hc1 hc2
    obtain ⟨S', x1, x2, x3, x4, x5, x6⟩ := nm_put (N := N) (j := j) (p := p) (l := l) hj hNN hb hl2 (b0 := st nt nt.length) (nm := nt.length) hnl (by omega) l 0 N S (by omega) (by omega) (by omega) h31 h5 h6 (hN.1 nt.length (Nat.le_refl _))
    have hfn : fnd (nt ++ [wd (S.2 1) p l]) (wd (S.2 1) p l) = nt.length := by
      refine fnd_at (by simp) (by simp) (fun x hx hx2 e => hm ?_)
      rw [List.getElem_append_left hx2] at e
      rw [← e]; exact List.getElem_mem hx2
    refine ⟨S', by rw [hfn]; exact x1, ⟨fun k hk => ?_, fun k hk i hi => ?_, by simp; omega, by simp; omega⟩, by rw [x2]; simp, x3, x4⟩
    · rw [x5]
      simp only [List.length_append, List.length_cons, List.length_nil] at hk
      by_cases e : k = nt.length + 1
      · subst e; rw [if_pos rfl, hst]
      · rw [if_neg e, st_app _ _ _ (by omega)]; exact hN.1 k (by omega)
    · have hk0 := hk
      simp only [List.length_append, List.length_cons, List.length_nil] at hk0
      rw [x6]
      by_cases e : k = nt.length
      · subst e
        have hg : (nt ++ [wd (S.2 1) p l])[nt.length]'hk = wd (S.2 1) p l := by simp
        have hi' : i < l := by
          have h9 : ((nt ++ [wd (S.2 1) p l])[nt.length]'hk).length = l := by rw [hg, wd_len]
          omega
        rw [st_app _ _ _ (Nat.le_refl _), if_pos (show st nt nt.length + 0 ≤ st nt nt.length + i ∧ st nt nt.length + i < st nt nt.length + l by omega), show st nt nt.length + i - st nt nt.length = i by omega]
        rw [List.getElem_of_eq hg, wd_get]
      · have hk' : k < nt.length := by omega
        have hg : (nt ++ [wd (S.2 1) p l])[k]'hk = nt[k] := List.getElem_append_left hk'
        have hi' : i < nt[k].length := by
          have h9 : ((nt ++ [wd (S.2 1) p l])[k]'hk).length = nt[k].length := by rw [hg]
          omega
        rw [List.getElem_of_eq hg]
        have h1 := st_succ nt k hk'
        have h2 := st_mono nt (show k + 1 ≤ nt.length by omega) (Nat.le_refl _)
        rw [st_app _ _ _ (by omega), if_neg (by omega)]
        exact hN.2.1 k hk' i hi'
end NAMEOF
