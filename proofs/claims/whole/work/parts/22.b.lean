/-! THE REFERENCE'S PARSER: where it stands, whether it has found a fault, its drafts -/
def qz (S : rm_S) (q bad : Nat) (flt : Int32) (dr : Nat) (B : Nat → Nat → Int32) : rm_S :=
  (fun j => if j = 12 then nI q else if j = 13 then nI bad else if j = 14 then flt else if j = 21 then nI dr else S.1 j, fun o => if 7 ≤ o ∧ o ≤ 12 then B o else S.2 o)
def bd (B : Nat → Nat → Int32) (dr : Nat) (k p v : Int32) : Nat → Nat → Int32 := fun o i => if i = dr then (if o = 7 then k else if o = 8 then p else if o = 9 then v else if o = 10 ∨ o = 11 ∨ o = 12 then -1 else B o i) else B o i
def bs (B : Nat → Nat → Int32) (o i : Nat) (v : Int32) : Nat → Nat → Int32 := fun o' i' => if o' = o ∧ i' = i then v else B o' i'
theorem rm_ext {s t : rm_S} (h1 : ∀ j, s.1 j = t.1 j) (h2 : ∀ o i, s.2 o i = t.2 o i) : s = t := Prod.ext (funext h1) (funext fun o => funext fun i => h2 o i)
theorem rs_i1 (S : rm_S) (j : Nat) (v : Int32) (j' : Nat) : (rs_i S j v).1 j' = if j' = j then v else S.1 j' := rfl
theorem rs_i2 (S : rm_S) (j : Nat) (v : Int32) : (rs_i S j v).2 = S.2 := rfl
theorem rs_a1 (S : rm_S) (o i : Nat) (v : Int32) : (rs_a S o i v).1 = S.1 := rfl
theorem rs_a2 (S : rm_S) (o i : Nat) (v : Int32) (o' i' : Nat) : (rs_a S o i v).2 o' i' = if o' = o ∧ i' = i then v else S.2 o' i' := by
  show (if o' = o then upd (S.2 o') i v else S.2 o') i' = _
  by_cases h : o' = o <;> simp [h, upd]
section REFPARSER
variable {S : rm_S} {N q bad dr : Nat} {flt : Int32} {B : Nat → Nat → Int32}
theorem qz_12 : (qz S q bad flt dr B).1 12 = nI q := rfl
theorem qz_13 : (qz S q bad flt dr B).1 13 = nI bad := rfl
theorem qz_14 : (qz S q bad flt dr B).1 14 = flt := rfl
theorem qz_21 : (qz S q bad flt dr B).1 21 = nI dr := rfl
theorem qz_o {j : Nat} (h : j ≠ 12 ∧ j ≠ 13 ∧ j ≠ 14 ∧ j ≠ 21) : (qz S q bad flt dr B).1 j = S.1 j := by
  simp [qz, h]
theorem qz_a {o : Nat} (h : o < 7 ∨ 12 < o) : (qz S q bad flt dr B).2 o = S.2 o := by
  simp only [qz]; rw [if_neg (by omega)]
theorem qz_b {o : Nat} (h : 7 ≤ o ∧ o ≤ 12) : (qz S q bad flt dr B).2 o = B o := by
  simp only [qz]; rw [if_pos h]
theorem qz_s12 {v : Int32} {q' : Nat} (h : v = nI q') : rs_i (qz S q bad flt dr B) 12 v = qz S q' bad flt dr B := by
  subst h
  refine rm_ext (fun j => ?_) (fun o i => rfl)
  simp only [rs_i1, qz]; by_cases h : j = 12 <;> simp [h]
theorem qz_sb {v : Int32} : rs_i (rs_i (qz S q bad flt dr B) 13 1) 14 v = qz S q 1 v dr B := by
  refine rm_ext (fun j => ?_) (fun o i => rfl)
  simp only [rs_i1, qz]; by_cases h : j = 12 <;> by_cases h2 : j = 13 <;> by_cases h3 : j = 14 <;> simp_all <;> rfl
theorem qz_s21 {v : Int32} {d' : Nat} (h : v = nI d') : rs_i (qz S q bad flt dr B) 21 v = qz S q bad flt d' B := by
  subst h
  refine rm_ext (fun j => ?_) (fun o i => rfl)
  simp only [rs_i1, qz]; by_cases h : j = 12 <;> by_cases h2 : j = 13 <;> by_cases h3 : j = 14 <;> by_cases h4 : j = 21 <;> simp_all
theorem qz_ra {o i : Nat} {v : Int32} (h : 7 ≤ o ∧ o ≤ 12) : rs_a (qz S q bad flt dr B) o i v = qz S q bad flt dr (bs B o i v) := by
  refine rm_ext (fun j => rfl) (fun o' i' => ?_)
  rw [rs_a2]
  simp only [qz, bs]
  by_cases h1 : 7 ≤ o' ∧ o' ≤ 12
  · rw [if_pos h1, if_pos h1]; rfl
  · rw [if_neg h1, if_neg h1, if_neg (by rintro ⟨rfl, _⟩; exact h1 h)]
theorem q_look0 (hq : q < 8002) : f_RM_look N (qz S q 0 flt dr B) = some (S.2 4 q, qz S q 0 flt dr B) := by
  simp (disch := omega) only [f_RM_look, qz_12, qz_13, qz_a, e_chkT,e_bnd,e_calI,e_calV,e_calP,e_rfO,e_calT,e_calTt, lit,n_add,n_le,n_lt,n_eq,n_nat,n_ib]
  rw [if_pos trivial, e_chk hq]
theorem q_look1 : f_RM_look N (qz S q 1 flt dr B) = some (1, qz S q 1 flt dr B) := by
  simp (disch := omega) only [f_RM_look, qz_12, qz_13, qz_a, e_chkT,e_bnd,e_calI,e_calV,e_calP,e_rfO,e_calT,e_calTt, lit,n_add,n_le,n_lt,n_eq,n_nat,n_ib]
  simp
theorem q_need0 (hq : q < 8002) : f_RM_need N 0 (qz S q 0 flt dr B) = some (qz S q 1 (S.2 5 q) dr B) := by
  have h := @qz_sb S q 0 dr flt B (S.2 5 q)
  have e1 : (rs_i (qz S q 0 flt dr B) 13 1).1 12 = nI q := rfl
  have e2 : (rs_i (qz S q 0 flt dr B) 13 1).2 5 = S.2 5 := rfl
  simp only [lit] at h e1 e2
  simp (disch := omega) only [f_RM_need, qz_13, e1, e2, e_chkT,e_bnd,e_calI,e_calV,e_calP,e_rfO,e_calT,e_calTt, lit,n_add,n_le,n_lt,n_eq,n_nat,n_ib, h, if_true, hq]
theorem q_need1 {x : Int32} (hx : x ≠ 0) : f_RM_need N x (qz S q bad flt dr B) = some (qz S q bad flt dr B) := by
  simp [f_RM_need, hx]
theorem q_needb {x : Int32} : f_RM_need N x (qz S q 1 flt dr B) = some (qz S q 1 flt dr B) := by
  have h1 : ¬ nI 1 = 0 := by decide
  simp [f_RM_need, qz_13, h1]
theorem q_take0 {k : Int32} (hq : q < 8002) : f_RM_take N k (qz S q 0 flt dr B) = if S.2 4 q = k then some (qz S (q + 1) 0 flt dr B) else some (qz S q 1 (S.2 5 q) dr B) := by
  have h0 := @q_need0 S N q dr flt B hq
  have h1 := @q_need1 S N q 0 dr flt B 1 (by decide)
  have h2 : rs_i (qz S q 0 flt dr B) 12 (nI (q + 1)) = qz S (q + 1) 0 flt dr B := qz_s12 rfl
  have h3 : rs_i (qz S q 1 (S.2 5 q) dr B) 12 (nI q) = qz S q 1 (S.2 5 q) dr B := qz_s12 rfl
  simp only [lit] at h0 h1
  simp (disch := omega) only [f_RM_take, k_RM_take_14, q_look0 hq, e_chkT,e_bnd,e_calI,e_calV,e_calP,e_rfO,e_calT,e_calTt, lit,n_add,n_le,n_lt,n_eq,n_nat,n_ib, h0, h1, qz_12, qz_13, h2, h3, if_true]
  simp
theorem q_takeb {k : Int32} : f_RM_take N k (qz S q 1 flt dr B) = some (qz S q 1 flt dr B) := by
  have h3 : rs_i (qz S q 1 flt dr B) 12 (nI q) = qz S q 1 flt dr B := qz_s12 rfl
  have h1 : ¬ nI 1 = 0 := by decide
  simp [f_RM_take, k_RM_take_14, q_look1, e_calI, e_calV, q_needb, qz_12, qz_13, h3, h1, e_bnd]
theorem q_deep {d : Nat} (hd : d < 1000) (hq : q < 8002) : f_RM_deep N (nI d) (qz S q 0 flt dr B) = some (if d ≤ 60 then qz S q 0 flt dr B else qz S q 1 (S.2 5 q) dr B) := by
  have h0 := @q_need0 S N q dr flt B hq
  have h1 := @q_need1 S N q 0 dr flt B 1 (by decide)
  simp only [lit] at h0 h1
  simp (disch := omega) only [f_RM_deep, e_chkT,e_bnd,e_calI,e_calV,e_calP,e_rfO,e_calT,e_calTt, lit,n_add,n_le,n_lt,n_eq,n_nat,n_ib, h0, h1]
  by_cases h : d ≤ 60
  · rw [if_neg (by omega), if_pos h]
  · rw [if_pos (by omega), if_neg h]
theorem q_draft {k p v : Int32} (hd : dr < 26000) : f_RM_draft N k p v (qz S q bad flt dr B) = some (nI dr, qz S q bad flt (dr + 1) (bd B dr k p v)) := by
  have e : qz S q bad flt (dr + 1) (bs (bs (bs (bs (bs (bs B 7 dr k) 8 dr p) 9 dr v) 10 dr (-nI 1)) 11 dr (-nI 1)) 12 dr (-nI 1)) = qz S q bad flt (dr + 1) (bd B dr k p v) := by
    congr 1; funext o i; simp only [bs, bd]
    have hm : (-nI 1 : Int32) = -1 := rfl
    rw [hm]
    by_cases h : i = dr
    · subst h; by_cases h7 : o = 7
      · subst h7; simp
      · by_cases h8 : o = 8
        · subst h8; simp
        · by_cases h9 : o = 9
          · subst h9; simp
          · by_cases h10 : o = 10 <;> by_cases h11 : o = 11 <;> by_cases h12 : o = 12 <;> simp_all
    · simp [h]
  have h21 : ∀ B', rs_i (qz S q bad flt dr B') 21 (nI (dr + 1)) = qz S q bad flt (dr + 1) B' := fun B' => qz_s21 rfl
  have h1 : nI (dr + 1) - nI 1 = nI dr := n_sub (by omega)
  simp (disch := omega) only [f_RM_draft, e_chkT,e_bnd,e_calI,e_calV,e_calP,e_rfO,e_calT,e_calTt, lit,n_add,n_le,n_lt,n_eq,n_nat,n_ib, qz_ra, qz_21, hd, h21, h1, e]
end REFPARSER
