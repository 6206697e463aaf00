/-! THE TWO PARSERS AT ONCE -/
def kap (k : Nat) : Int32 := ([0, 1, 2, 3, 300, 301, 302, 303, 304, 305, 306, 307, 40, 41, 123, 125, 91, 93, 44, 59, 61, 33, 43, 45, 42, 47, 37, 60, 256, 62, 257, 258, 259, 260, 261] : List Int32).getD k 0
theorem kap_inj : ∀ i, i < 35 → ∀ j, j < 35 → kap i = kap j → i = j := by decide +kernel
theorem kp_0 {k : Nat} (h : k < 35) : (kap k = nI 0) = (k = 0) := propext ⟨fun e => kap_inj k h 0 (by decide) (e.trans rfl), fun e => by subst e; rfl⟩
theorem kp_1 {k : Nat} (h : k < 35) : (kap k = nI 1) = (k = 1) := propext ⟨fun e => kap_inj k h 1 (by decide) (e.trans rfl), fun e => by subst e; rfl⟩
theorem kp_2 {k : Nat} (h : k < 35) : (kap k = nI 2) = (k = 2) := propext ⟨fun e => kap_inj k h 2 (by decide) (e.trans rfl), fun e => by subst e; rfl⟩
theorem kp_3 {k : Nat} (h : k < 35) : (kap k = nI 3) = (k = 3) := propext ⟨fun e => kap_inj k h 3 (by decide) (e.trans rfl), fun e => by subst e; rfl⟩
theorem kp_4 {k : Nat} (h : k < 35) : (kap k = nI 300) = (k = 4) := propext ⟨fun e => kap_inj k h 4 (by decide) (e.trans rfl), fun e => by subst e; rfl⟩
theorem kp_5 {k : Nat} (h : k < 35) : (kap k = nI 301) = (k = 5) := propext ⟨fun e => kap_inj k h 5 (by decide) (e.trans rfl), fun e => by subst e; rfl⟩
theorem kp_6 {k : Nat} (h : k < 35) : (kap k = nI 302) = (k = 6) := propext ⟨fun e => kap_inj k h 6 (by decide) (e.trans rfl), fun e => by subst e; rfl⟩
theorem kp_7 {k : Nat} (h : k < 35) : (kap k = nI 303) = (k = 7) := propext ⟨fun e => kap_inj k h 7 (by decide) (e.trans rfl), fun e => by subst e; rfl⟩
theorem kp_8 {k : Nat} (h : k < 35) : (kap k = nI 304) = (k = 8) := propext ⟨fun e => kap_inj k h 8 (by decide) (e.trans rfl), fun e => by subst e; rfl⟩
theorem kp_9 {k : Nat} (h : k < 35) : (kap k = nI 305) = (k = 9) := propext ⟨fun e => kap_inj k h 9 (by decide) (e.trans rfl), fun e => by subst e; rfl⟩
theorem kp_10 {k : Nat} (h : k < 35) : (kap k = nI 306) = (k = 10) := propext ⟨fun e => kap_inj k h 10 (by decide) (e.trans rfl), fun e => by subst e; rfl⟩
theorem kp_11 {k : Nat} (h : k < 35) : (kap k = nI 307) = (k = 11) := propext ⟨fun e => kap_inj k h 11 (by decide) (e.trans rfl), fun e => by subst e; rfl⟩
theorem kp_12 {k : Nat} (h : k < 35) : (kap k = nI 40) = (k = 12) := propext ⟨fun e => kap_inj k h 12 (by decide) (e.trans rfl), fun e => by subst e; rfl⟩
theorem kp_13 {k : Nat} (h : k < 35) : (kap k = nI 41) = (k = 13) := propext ⟨fun e => kap_inj k h 13 (by decide) (e.trans rfl), fun e => by subst e; rfl⟩
theorem kp_14 {k : Nat} (h : k < 35) : (kap k = nI 123) = (k = 14) := propext ⟨fun e => kap_inj k h 14 (by decide) (e.trans rfl), fun e => by subst e; rfl⟩
theorem kp_15 {k : Nat} (h : k < 35) : (kap k = nI 125) = (k = 15) := propext ⟨fun e => kap_inj k h 15 (by decide) (e.trans rfl), fun e => by subst e; rfl⟩
theorem kp_16 {k : Nat} (h : k < 35) : (kap k = nI 91) = (k = 16) := propext ⟨fun e => kap_inj k h 16 (by decide) (e.trans rfl), fun e => by subst e; rfl⟩
theorem kp_17 {k : Nat} (h : k < 35) : (kap k = nI 93) = (k = 17) := propext ⟨fun e => kap_inj k h 17 (by decide) (e.trans rfl), fun e => by subst e; rfl⟩
theorem kp_18 {k : Nat} (h : k < 35) : (kap k = nI 44) = (k = 18) := propext ⟨fun e => kap_inj k h 18 (by decide) (e.trans rfl), fun e => by subst e; rfl⟩
theorem kp_19 {k : Nat} (h : k < 35) : (kap k = nI 59) = (k = 19) := propext ⟨fun e => kap_inj k h 19 (by decide) (e.trans rfl), fun e => by subst e; rfl⟩
theorem kp_20 {k : Nat} (h : k < 35) : (kap k = nI 61) = (k = 20) := propext ⟨fun e => kap_inj k h 20 (by decide) (e.trans rfl), fun e => by subst e; rfl⟩
theorem kp_21 {k : Nat} (h : k < 35) : (kap k = nI 33) = (k = 21) := propext ⟨fun e => kap_inj k h 21 (by decide) (e.trans rfl), fun e => by subst e; rfl⟩
theorem kp_22 {k : Nat} (h : k < 35) : (kap k = nI 43) = (k = 22) := propext ⟨fun e => kap_inj k h 22 (by decide) (e.trans rfl), fun e => by subst e; rfl⟩
theorem kp_23 {k : Nat} (h : k < 35) : (kap k = nI 45) = (k = 23) := propext ⟨fun e => kap_inj k h 23 (by decide) (e.trans rfl), fun e => by subst e; rfl⟩
theorem kp_24 {k : Nat} (h : k < 35) : (kap k = nI 42) = (k = 24) := propext ⟨fun e => kap_inj k h 24 (by decide) (e.trans rfl), fun e => by subst e; rfl⟩
theorem kp_25 {k : Nat} (h : k < 35) : (kap k = nI 47) = (k = 25) := propext ⟨fun e => kap_inj k h 25 (by decide) (e.trans rfl), fun e => by subst e; rfl⟩
theorem kp_26 {k : Nat} (h : k < 35) : (kap k = nI 37) = (k = 26) := propext ⟨fun e => kap_inj k h 26 (by decide) (e.trans rfl), fun e => by subst e; rfl⟩
theorem kp_27 {k : Nat} (h : k < 35) : (kap k = nI 60) = (k = 27) := propext ⟨fun e => kap_inj k h 27 (by decide) (e.trans rfl), fun e => by subst e; rfl⟩
theorem kp_28 {k : Nat} (h : k < 35) : (kap k = nI 256) = (k = 28) := propext ⟨fun e => kap_inj k h 28 (by decide) (e.trans rfl), fun e => by subst e; rfl⟩
theorem kp_29 {k : Nat} (h : k < 35) : (kap k = nI 62) = (k = 29) := propext ⟨fun e => kap_inj k h 29 (by decide) (e.trans rfl), fun e => by subst e; rfl⟩
theorem kp_30 {k : Nat} (h : k < 35) : (kap k = nI 257) = (k = 30) := propext ⟨fun e => kap_inj k h 30 (by decide) (e.trans rfl), fun e => by subst e; rfl⟩
theorem kp_31 {k : Nat} (h : k < 35) : (kap k = nI 258) = (k = 31) := propext ⟨fun e => kap_inj k h 31 (by decide) (e.trans rfl), fun e => by subst e; rfl⟩
theorem kp_32 {k : Nat} (h : k < 35) : (kap k = nI 259) = (k = 32) := propext ⟨fun e => kap_inj k h 32 (by decide) (e.trans rfl), fun e => by subst e; rfl⟩
theorem kp_33 {k : Nat} (h : k < 35) : (kap k = nI 260) = (k = 33) := propext ⟨fun e => kap_inj k h 33 (by decide) (e.trans rfl), fun e => by subst e; rfl⟩
theorem kp_34 {k : Nat} (h : k < 35) : (kap k = nI 261) = (k = 34) := propext ⟨fun e => kap_inj k h 34 (by decide) (e.trans rfl), fun e => by subst e; rfl⟩
def gd (tk : Nat → Nat) (q : Nat) : Prop := ∀ j, j < q → tk j ≠ 0 ∧ tk j ≠ 1
theorem gd_s {tk : Nat → Nat} {q : Nat} (h : gd tk q) (h0 : tk q ≠ 0) (h1 : tk q ≠ 1) : gd tk (q + 1) := by
  intro j hj
  by_cases e : j = q
  · subst e; exact ⟨h0, h1⟩
  · exact h j (by omega)
/-- the reference's tokens are the class's -/
def RE (S : rm_S) (N n : Nat) (tk tp : Nat → Nat) (tv : Nat → Int32) : Prop :=
  ∀ i, i < n → gd tk i → S.2 4 i = kap (tk i) ∧ S.2 5 i = nI (tp i) ∧ tp i < 10000 ∧ (tk i = 3 → ∀ flt dr B y2 y3, k_RM_number_47 N N y2 y3 0 0 (qz S i 0 flt dr B) = k_RM_number_95 N y2 y3 (tv i) (qz S i 0 flt dr B)) ∧ (tk i = 3 → 1 * tv i ≠ -2147483648 ∧ -1 * tv i ≠ -2147483648)
/-- the reference has found a fault -/
def BM (S : rm_S) (q : Nat) (flt : Int32) (lo lim : Nat) (r : Option (Int32 × rm_S)) : Prop :=
  ∃ v dr B, r = some (v, qz S q 1 flt dr B) ∧ lo ≤ dr ∧ dr ≤ lim ∧ BI dr B ∧ (v = -1 ∨ ∃ i, i < dr ∧ v = nI i)
section REFTOKENS
variable {S : rm_S} {N n q bad dr : Nat} {flt : Int32} {B : Nat → Nat → Int32} {tk : Nat → Nat} {tp : Nat → Nat} {tv : Nat → Int32}
theorem r_name (R : RE S N n tk tp tv) (hn : n ≤ 8001) (hq : q < n) (hg : gd tk q) (ht : tk q < 35) (hd : dr < 26000) : f_RM_name N (qz S q 0 flt dr B) = if tk q = 2 then some (nI dr, qz S (q + 1) 0 flt (dr + 1) (bd B dr 13 (nI (tp q)) (nI q))) else some (nI dr, qz S q 1 (nI (tp q)) (dr + 1) (bd B dr 13 (nI (tp q)) (nI q))) := by
  obtain ⟨r1, r2, r3, r4, r5⟩ := R q hq hg
  have hq2 : q < 8002 := by omega
  have hd' := fun k p v => q_draft (S := S) (N := N) (q := q) (bad := 0) (flt := flt) (B := B) (k := k) (p := p) (v := v) hd
  have ht' := fun B => q_take0 (S := S) (N := N) (k := 2) (flt := flt) (dr := dr + 1) (B := B) hq2
  simp only [lit] at ht'
  simp (disch := omega) only [f_RM_name, e_chkT,e_bnd,e_calI,e_calV,e_calP,e_rfO,e_calT,e_calTt, lit,n_add,n_le,n_lt,n_eq,n_nat,n_ib, qz_12, qz_a, hd', ht', r1, r2, kp_2, hq2]
  by_cases h : tk q = 2 <;> simp [h, calV]
theorem r_nameb (hd : dr < 26000) (hq : q < 8002) : f_RM_name N (qz S q 1 flt dr B) = some (nI dr, qz S q 1 flt (dr + 1) (bd B dr 13 (S.2 5 q) (nI q))) := by
  have hd' := fun k p v => q_draft (S := S) (N := N) (q := q) (bad := 1) (flt := flt) (B := B) (k := k) (p := p) (v := v) hd
  simp (disch := omega) only [f_RM_name, e_chkT,e_bnd,e_calI,e_calV,e_calP,e_rfO,e_calT,e_calTt, lit,n_add,n_le,n_lt,n_eq,n_nat,n_ib, qz_12, qz_a, hd', q_takeb, hq]
theorem r_number0 (R : RE S N n tk tp tv) (hn : n ≤ 8001) (hq : q < n) (hg : gd tk q) (ht : tk q < 35) (hd : dr < 26000) : f_RM_number N 0 (qz S q 0 flt dr B) = if tk q = 3 then some (nI dr, qz S (q + 1) 0 flt (dr + 1) (bd B dr 12 (nI (tp q)) (1 * tv q))) else some (nI dr, qz S q 1 (nI (tp q)) (dr + 1) (bd B dr 12 (nI (tp q)) (1 * 0))) := by
  obtain ⟨r1, r2, r3, r4, r5⟩ := R q hq hg
  have hq2 : q < 8002 := by omega
  have hd1 := fun k p v => q_draft (S := S) (N := N) (q := q + 1) (bad := 0) (flt := flt) (B := B) (k := k) (p := p) (v := v) hd
  have hd2 := fun k p v => q_draft (S := S) (N := N) (q := q) (bad := 1) (flt := nI (tp q)) (B := B) (k := k) (p := p) (v := v) hd
  have ht' := q_take0 (S := S) (N := N) (k := 3) (flt := flt) (dr := dr) (B := B) hq2
  have hl := q_look0 (S := S) (N := N) (flt := flt) (dr := dr) (B := B) hq2
  by_cases h : tk q = 3
  · have r5 := r4 h flt dr B (nI (tp q)) 1
    have e3 : kap 3 = nI 3 := rfl
    simp only [lit] at ht' r5
    simp (disch := omega) only [f_RM_number, k_RM_number_33, k_RM_number_95, e_chkT,e_bnd,e_calI,e_calV,e_calP,e_rfO,e_calT,e_calTt, lit,n_add,n_le,n_lt,n_eq,n_nat,n_ib, qz_12, qz_a, hd1, ht', hl, r1, r2, h, e3, hq2, r5, if_true]
  · simp only [lit] at ht'
    simp (disch := omega) only [f_RM_number, k_RM_number_33, k_RM_number_95, e_chkT,e_bnd,e_calI,e_calV,e_calP,e_rfO,e_calT,e_calTt, lit,n_add,n_le,n_lt,n_eq,n_nat,n_ib, qz_12, qz_a, hd2, ht', hl, r1, r2, kp_3, h, hq2, if_true, if_false]
theorem r_numberb {x : Int32} (hd : dr < 26000) (hq : q < 8002) : ∃ v, f_RM_number N x (qz S q 1 flt dr B) = some (nI dr, qz S q 1 flt (dr + 1) (bd B dr 12 (S.2 5 q) v)) := by
  have hd2 := fun k p v => q_draft (S := S) (N := N) (q := q) (bad := 1) (flt := flt) (B := B) (k := k) (p := p) (v := v) hd
  have h13 : ¬ (1 : Int32) = 3 := by decide
  have h45 : ¬ (1 : Int32) = 45 := by decide
  by_cases hx : x = 0
  · refine ⟨1 * 0, ?_⟩
    simp (disch := omega) only [f_RM_number, k_RM_number_33, k_RM_number_95, e_chkT,e_bnd,e_calI,e_calV,e_calP,e_rfO,e_calT,e_calTt, n_nat, n_ib, qz_12, qz_a, hd2, q_takeb, q_look1, hx, hq, h13, if_true, if_false]
  · refine ⟨1 * 0, ?_⟩
    simp (disch := omega) only [f_RM_number, k_RM_number_33, k_RM_number_95, e_chkT,e_bnd,e_calI,e_calV,e_calP,e_rfO,e_calT,e_calTt, n_nat, n_ib, qz_12, qz_a, hd2, q_takeb, q_look1, hx, hq, h13, h45, if_true, if_false]
theorem r_number1 (R : RE S N n tk tp tv) (hn : n ≤ 8001) (hq : q < n) (hg : gd tk q) (he : ∀ i, i < n → tk i ≠ 0 → i + 1 < n) (ht : ∀ i, i < n → tk i < 35) (hd : dr < 26000) : f_RM_number N 1 (qz S q 0 flt dr B) = if tk q = 23 then (if tk (q + 1) = 3 then some (nI dr, qz S (q + 1 + 1) 0 flt (dr + 1) (bd B dr 12 (nI (tp q)) (-1 * tv (q + 1)))) else some (nI dr, qz S (q + 1) 1 (nI (tp (q + 1))) (dr + 1) (bd B dr 12 (nI (tp q)) (-1 * 0)))) else if tk q = 3 then some (nI dr, qz S (q + 1) 0 flt (dr + 1) (bd B dr 12 (nI (tp q)) (1 * tv q))) else some (nI dr, qz S q 1 (nI (tp q)) (dr + 1) (bd B dr 12 (nI (tp q)) (1 * 0))) := by
  obtain ⟨r1, r2, r3, r4, r5⟩ := R q hq hg
  have hq2 : q < 8002 := by omega
  have htq := ht q hq
  have hd1 := fun k p v => q_draft (S := S) (N := N) (q := q + 1) (bad := 0) (flt := flt) (B := B) (k := k) (p := p) (v := v) hd
  have hd2 := fun k p v => q_draft (S := S) (N := N) (q := q) (bad := 1) (flt := nI (tp q)) (B := B) (k := k) (p := p) (v := v) hd
  have hd3 := fun k p v => q_draft (S := S) (N := N) (q := q + 1 + 1) (bad := 0) (flt := flt) (B := B) (k := k) (p := p) (v := v) hd
  have hd4 := fun k p v => q_draft (S := S) (N := N) (q := q + 1) (bad := 1) (flt := nI (tp (q + 1))) (B := B) (k := k) (p := p) (v := v) hd
  have ht' := fun k => q_take0 (S := S) (N := N) (k := k) (flt := flt) (dr := dr) (B := B) hq2
  have hl := q_look0 (S := S) (N := N) (flt := flt) (dr := dr) (B := B) hq2
  by_cases h23 : tk q = 23
  · have hn1 := he q hq (by omega)
    have hg1 := gd_s hg (by omega) (by omega)
    obtain ⟨u1, u2, u3, u4, u5⟩ := R (q + 1) hn1 hg1
    have hq3 : q + 1 < 8002 := by omega
    have htq1 := ht (q + 1) hn1
    have hu := fun k => q_take0 (S := S) (N := N) (k := k) (flt := flt) (dr := dr) (B := B) hq3
    have hul := q_look0 (S := S) (N := N) (flt := flt) (dr := dr) (B := B) hq3
    have e23 : kap 23 = nI 45 := rfl
    by_cases h : tk (q + 1) = 3
    · have r5 := u4 h flt dr B (nI (tp q)) (-1)
      have e3 : kap 3 = nI 3 := rfl
      simp only [lit] at r5
      simp (disch := omega) only [f_RM_number, k_RM_number_33, k_RM_number_95, e_chkT,e_bnd,e_calI,e_calV,e_calP,e_rfO,e_calT,e_calTt, lit,n_add,n_le,n_lt,n_eq,n_nat,n_ib, qz_12, qz_a, hd3, ht', hl, hu, hul, u1, r1, r2, h23, h, e23, e3, hq2, r5, if_true]
      simp
    · simp (disch := omega) only [f_RM_number, k_RM_number_33, k_RM_number_95, e_chkT,e_bnd,e_calI,e_calV,e_calP,e_rfO,e_calT,e_calTt, lit,n_add,n_le,n_lt,n_eq,n_nat,n_ib, qz_12, qz_a, hd4, ht', hl, hu, hul, u1, u2, r1, r2, kp_3, h23, e23, h, hq2, if_true, if_false]
      simp
  · by_cases h : tk q = 3
    · have r5 := r4 h flt dr B (nI (tp q)) 1
      have e3 : kap 3 = nI 3 := rfl
      simp only [lit] at r5
      simp (disch := omega) only [f_RM_number, k_RM_number_33, k_RM_number_95, e_chkT,e_bnd,e_calI,e_calV,e_calP,e_rfO,e_calT,e_calTt, lit,n_add,n_le,n_lt,n_eq,n_nat,n_ib, qz_12, qz_a, hd1, ht', hl, r1, r2, h, e3, hq2, r5, if_true]
      simp
    · simp (disch := omega) only [f_RM_number, k_RM_number_33, k_RM_number_95, e_chkT,e_bnd,e_calI,e_calV,e_calP,e_rfO,e_calT,e_calTt, lit,n_add,n_le,n_lt,n_eq,n_nat,n_ib, qz_12, qz_a, hd2, ht', hl, r1, r2, kp_3, kp_23, h, h23, hq2, if_true, if_false]
      simp
end REFTOKENS
