/-! NAMES, as lists of bytes; the reference's table -/
def wd (b : Nat → Int32) (p l : Nat) : List Int32 := (List.range l).map fun i => b (p + i)
def st (nt : List (List Int32)) (k : Nat) : Nat := ((nt.take k).map List.length).sum
theorem st_zero (nt : List (List Int32)) : st nt 0 = 0 := by simp [st]
theorem st_succ (nt : List (List Int32)) (k : Nat) (hk : k < nt.length) : st nt (k + 1) = st nt k + nt[k].length := by
  simp only [st, List.take_add_one, List.getElem?_eq_getElem hk, Option.toList_some, List.map_append, List.map_cons, List.map_nil, List.sum_append, List.sum_cons, List.sum_nil]; omega
theorem st_app (nt : List (List Int32)) (w : List Int32) (k : Nat) (hk : k ≤ nt.length) : st (nt ++ [w]) k = st nt k := by
  simp only [st, List.take_append_of_le_length hk]
theorem st_all (nt : List (List Int32)) (w : List Int32) : st (nt ++ [w]) (nt.length + 1) = st nt nt.length + w.length := by
  rw [st_succ _ _ (by simp), st_app _ _ _ (Nat.le_refl _)]; simp
theorem st_mono (nt : List (List Int32)) {j k : Nat} (h : j ≤ k) (hk : k ≤ nt.length) : st nt j ≤ st nt k := by
  induction k with
  | zero => have : j = 0 := by omega
            subst this; exact Nat.le_refl _
  | succ k ih =>
    by_cases e : j = k + 1
    · subst e; exact Nat.le_refl _
    · have := ih (by omega) (by omega)
      rw [st_succ nt k (by omega)]; omega
theorem wd_len (b : Nat → Int32) (p l : Nat) : (wd b p l).length = l := by simp [wd]
theorem wd_get (b : Nat → Int32) (p l i : Nat) (h : i < (wd b p l).length) : (wd b p l)[i] = b (p + i) := by simp [wd]
theorem wd_eq {b : Nat → Int32} {p l : Nat} {w : List Int32} (hl : w.length = l) (h : ∀ i (hi : i < w.length), w[i] = b (p + i)) : w = wd b p l := by
  apply List.ext_getElem
  · rw [wd_len, hl]
  · intro i h1 h2; rw [wd_get, h i h1]
/-- letters at A o1, beginnings at A o2 -/
def NT (A : Nat → Nat → Int32) (nt : List (List Int32)) : Prop :=
  (∀ k, k ≤ nt.length → A 21 k = nI (st nt k)) ∧ (∀ k (hk : k < nt.length), ∀ i (hi : i < nt[k].length), A 20 (st nt k + i) = nt[k][i]) ∧ nt.length < 6000 ∧ st nt nt.length ≤ 12000
/-- where a word stands -/
def fnd (nt : List (List Int32)) (w : List Int32) : Nat := nt.findIdx (· == w)
def addw (nt : List (List Int32)) (w : List Int32) : List (List Int32) := if w ∈ nt then nt else nt ++ [w]
section NAMEOF
variable {S : rm_S} {N : Nat} {nt : List (List Int32)} {j p l : Nat}
/-- the letters of one name against those of the word -/
theorem nm_cmp {k2 : Int32 → Int32 → rm_S → Option (Int32 × rm_S)} {k : Nat} (hN : NT S.2 nt) (hk : k < nt.length) (hj : j < 8002) (h5 : S.2 5 j = nI p) (h6 : S.2 6 j = nI l) (hl : nt[k].length = l) (hb : p + l ≤ 8000) (hl2 : l < 10000) :
    ∀ m i fu, l - i ≤ m → m < fu → i ≤ l → (∀ x (hx : x < nt[k].length), x < i → nt[k][x] = S.2 1 (p + x)) → k_RM_nameOf_43 N k2 fu (nI j) (nI k) 1 (nI i) S = if nt[k] = wd (S.2 1) p l then some (nI k, S) else k2 (nI j) (nI (k + 1)) S := by
  have hs := hN.1 k (by omega)
  have hle : st nt k + l ≤ 12000 := by
    have h1 := st_succ nt k hk
    have h2 := st_mono nt (show k + 1 ≤ nt.length by omega) (Nat.le_refl _)
    have := hN.2.2.2; omega
  have hnl := hN.2.2.1
  intro m
  induction m with
  | zero =>
    intro i fu h1 hfu hi hx
    obtain ⟨fu, rfl⟩ : ∃ x, fu = x + 1 := ⟨fu - 1, by omega⟩
    have e : i = l := by omega
    subst e
    have : nt[k] = wd (S.2 1) p i := wd_eq hl (fun x hx' => hx x hx' (by omega))
    rw [if_pos this]
    simp (disch := omega) only [k_RM_nameOf_43, k_RM_nameOf_101, e_chkT,e_bnd,e_calI,e_calV,e_calP,e_rfO,e_calT,e_calTt, lit,n_add,n_le,n_lt,n_eq,n_nat,n_ib, h6, hj]
    simp
  | succ m ih =>
    intro i fu h1 hfu hi hx
    obtain ⟨fu, rfl⟩ : ∃ x, fu = x + 1 := ⟨fu - 1, by omega⟩
    by_cases e : i = l
    · subst e
      have : nt[k] = wd (S.2 1) p i := wd_eq hl (fun x hx' => hx x hx' (by omega))
      rw [if_pos this]
      simp (disch := omega) only [k_RM_nameOf_43, k_RM_nameOf_101, e_chkT,e_bnd,e_calI,e_calV,e_calP,e_rfO,e_calT,e_calTt, lit,n_add,n_le,n_lt,n_eq,n_nat,n_ib, h6, hj]
      simp
    · have hil : i < l := by omega
      have hL := hN.2.1 k hk i (by omega)
      have b1 : k < 6001 := by omega
      have b2 : st nt k + i < 12000 := by omega
      have b3 : p + i < 8000 := by omega
      have n1 : ¬ l ≤ i := by omega
      have n2 : ¬ (1 : Nat) = 0 := by omega
      by_cases hc : nt[k][i] = S.2 1 (p + i)
      · have := ih (i + 1) fu (by omega) (by omega) (by omega) (fun x hx' hx'' => by
          by_cases ex : x = i
          · subst ex; exact hc
          · exact hx x hx' (by omega))
        rw [← this]
        simp (disch := omega) only [k_RM_nameOf_43, e_chkT,e_bnd,e_calI,e_calV,e_calP,e_rfO,e_calT,e_calTt, lit,n_add,n_le,n_lt,n_eq,n_nat,n_ib, h6, h5, hs, hj, hL, b1, b2, b3, n1, n2, hc, if_true, if_false]
      · have hne : ¬ nt[k] = wd (S.2 1) p l := by
          intro e'
          apply hc
          have : nt[k][i]'(by omega) = (wd (S.2 1) p l)[i]'(by rw [wd_len]; omega) := by simp only [e']
          rw [this, wd_get]
        rw [if_neg hne]
        obtain ⟨fu, rfl⟩ : ∃ x, fu = x + 1 := ⟨fu - 1, by omega⟩
        simp (disch := omega) only [k_RM_nameOf_43, e_chkT,e_bnd,e_calI,e_calV,e_calP,e_rfO,e_calT,e_calTt, lit,n_add,n_le,n_lt,n_eq,n_nat,n_ib, h6, h5, hs, hj, hL, b1, b2, b3, n1, n2, hc, if_true, if_false]
        by_cases ei : l ≤ i + 1
        · rw [if_pos ei]
          simp (disch := omega) only [k_RM_nameOf_101, lit,n_add,n_le,n_lt,n_eq,n_nat,n_ib, if_true]
        · rw [if_neg ei]
          simp (disch := omega) only [k_RM_nameOf_101, lit,n_add,n_le,n_lt,n_eq,n_nat,n_ib, if_true]
end NAMEOF
