/-! the class's row of tokens -/
abbrev Tk : Type := Int32 × Int32 × Int32
def tA (A : Nat → Nat → Int32) (bk bp bv : Nat) (ts : List Tk) : Nat → Nat → Int32 := fun b i => match ts[i]? with
  | none => A b i
  | some e => if b = bk then e.1 else if b = bp then e.2.1 else if b = bv then e.2.2 else A b i
def tz (σ : mh_H) (tt bk bp bv : Nat) (ts : List Tk) : mh_H := (hT σ, (fun k j a => if k = 4 ∧ j = 5 ∧ a = tt then nI ts.length else hI σ k j a), hR σ, tA (hA σ) bk bp bv ts, hQ σ, hN σ, hX σ)
def QE (σ : mh_H) (tt bk bp bv room : Nat) : Prop := hT σ tt = 9 ∧ (hT σ bk = 2 ∧ hT σ bp = 2 ∧ hT σ bv = 2) ∧ (hR σ 4 2 tt = some bk ∧ hR σ 4 3 tt = some bp ∧ hR σ 4 4 tt = some bv) ∧ (hN σ bk = room ∧ hN σ bp = room ∧ hN σ bv = room) ∧ (bk ≠ bp ∧ bk ≠ bv ∧ bp ≠ bv) ∧ room < 100000
section TOKS
variable {σ : mh_H} {tt bk bp bv bt room e N : Nat} {g : Nat → Nat} {ts : List Tk}
theorem tz_T : hT (tz σ tt bk bp bv ts) = hT σ := rfl
theorem tz_R : hR (tz σ tt bk bp bv ts) = hR σ := rfl
theorem tz_N : hN (tz σ tt bk bp bv ts) = hN σ := rfl
theorem tz_A : hA (tz σ tt bk bp bv ts) = tA (hA σ) bk bp bv ts := rfl
theorem tz_45 : hI (tz σ tt bk bp bv ts) 4 5 tt = nI ts.length := by simp [hI, tz]
theorem tz_41 : hI (tz σ tt bk bp bv ts) 4 1 tt = hI σ 4 1 tt := by simp [hI, tz]
theorem t_add {k p v : Int32} (h : QE σ tt bk bp bv room) (hl : ts.length < room) : f_TO_add N tt k p v (tz σ tt bk bp bv ts) = some (tz σ tt bk bp bv (ts ++ [(k, p, v)])) := by
  obtain ⟨a1, ⟨a2, a3, a4⟩, ⟨c1, c2, c3⟩, ⟨e1, e2, e3⟩, ⟨g1, g2, g3⟩, hr⟩ := h
  simp (disch := omega) only [f_TO_add, e_chkT,e_bnd,e_calI,e_calV,e_calP,e_rfO,e_calT,e_calTt, gT_setI,gR_setI,gA_setI,gQ_setI,gN_setI,gX_setI,gT_setR,gI_setR,gA_setR,gQ_setR,gN_setR,gX_setR,gT_setA,gI_setA,gR_setA,gQ_setA,gN_setA,gX_setA,gT_setQ,gI_setQ,gR_setQ,gA_setQ,gN_setQ,gX_setQ,gT_cpy,gI_cpy,gR_cpy,gQ_cpy,gN_cpy,gX_cpy,gI_setI,gR_setR,gA_setA,gA_cpy, tz_T, tz_R, tz_N, tz_45, a1, a2, a3, a4, c1, c2, c3, e1, e2, e3, n_le, n_ib, n_nat, hl]
  rw [if_neg (by omega)]
  refine congrArg some (mh_ext rfl (fun k' j' a' => ?_) (fun _ _ _ => rfl) (fun b i => ?_) rfl rfl rfl)
  · simp only [gT_setI,gR_setI,gA_setI,gQ_setI,gN_setI,gX_setI,gT_setR,gI_setR,gA_setR,gQ_setR,gN_setR,gX_setR,gT_setA,gI_setA,gR_setA,gQ_setA,gN_setA,gX_setA,gT_setQ,gI_setQ,gR_setQ,gA_setQ,gN_setQ,gX_setQ,gT_cpy,gI_cpy,gR_cpy,gQ_cpy,gN_cpy,gX_cpy,gI_setI,gR_setR,gA_setA,gA_cpy]
    simp only [hI, tz, List.length_append, List.length_cons, List.length_nil]
    by_cases h1 : k' = 4 ∧ j' = 5 ∧ a' = tt
    · obtain ⟨rfl, rfl, rfl⟩ := h1; simp only [lit, n_add]; simp
    · simp [h1]
  · simp only [gT_setI,gR_setI,gA_setI,gQ_setI,gN_setI,gX_setI,gT_setR,gI_setR,gA_setR,gQ_setR,gN_setR,gX_setR,gT_setA,gI_setA,gR_setA,gQ_setA,gN_setA,gX_setA,gT_setQ,gI_setQ,gR_setQ,gA_setQ,gN_setQ,gX_setQ,gT_cpy,gI_cpy,gR_cpy,gQ_cpy,gN_cpy,gX_cpy,gI_setI,gR_setR,gA_setA,gA_cpy, tz_A]
    by_cases hi : i = ts.length
    · subst hi
      simp only [tA, List.getElem?_append_right (Nat.le_refl _), Nat.sub_self, List.getElem?_cons_zero, List.getElem?_eq_none (Nat.le_refl _), and_true]
      by_cases h1 : b = bk
      · subst h1; simp [g1, g2]
      · by_cases h2 : b = bp
        · subst h2; simp [h1, g3]
        · simp [h1, h2]
    · have ee : (ts ++ [(k, p, v)])[i]? = ts[i]? := by
        rcases Nat.lt_or_ge i ts.length with h | h
        · rw [List.getElem?_append_left h]
        · rw [List.getElem?_eq_none h, List.getElem?_eq_none (by simp; omega)]
      simp only [tA, ee, hi, and_false, if_false]
theorem t_KE (h : QE σ tt bk bp bv room) (K : KE σ tt bt e g) : KE (tz σ tt bk bp bv ts) tt bt e g := by
  obtain ⟨a1, ⟨a2, a3, a4⟩, -, -, -, -⟩ := h
  obtain ⟨k1, k2, k3, k4, k5, k6, k7⟩ := K
  have n1 : bt ≠ bk := fun h => by rw [h, a2] at k3; omega
  have n2 : bt ≠ bp := fun h => by rw [h, a3] at k3; omega
  have n3 : bt ≠ bv := fun h => by rw [h, a4] at k3; omega
  refine ⟨k1, k2, k3, by rw [tz_41]; exact k4, k5, fun i hi => ⟨?_, (k6 i hi).2⟩, k7⟩
  rw [tz_A]
  unfold tA
  split
  · exact (k6 i hi).1
  · simp only [n1, n2, n3, if_false]; exact (k6 i hi).1
/-- taking a token -/
theorem t_take {k p v : Nat} {b : Nat} (h : QE σ tt bk bp bv room) (K : KE σ tt bt e g) (hl : ts.length < room) (hk : k < 100) : f_TO_take N tt (nI k) (nI p) (nI b) (nI v) (tz σ tt bk bp bv ts) = some (nI (if k = 1 then e else b), tz σ tt bk bp bv (ts ++ [(nI k, nI p, nI v)])) := by
  have ha := t_add (N := N) (k := nI k) (p := nI p) (v := nI v) h hl
  obtain ⟨k1, k2, k3, k4, k5, k6, k7⟩ := K
  unfold f_TO_take
  refine X_chk k1 (X_V ha ?_)
  by_cases h1 : k = 1
  · have er : (if k = 1 then e else b) = e := if_pos h1
    rw [er]
    refine X_if (by rw [h1]; rfl) (X_chk k1 ?_)
    rw [tz_41, k4]
  · have er : (if k = 1 then e else b) = b := if_neg h1
    rw [er]
    refine X_nif ?_ rfl
    show ¬ nI k = nI 1
    rw [n_eq (by omega) (by omega)]; exact h1
end TOKS
/-- the signs, as the class counts them -/
def sg (c d : Nat) : Nat :=
  if c = 33 then (if d = 61 then 32 else 21) else if c = 37 then 26 else if c = 38 then (if d = 38 then 33 else 1) else if c = 40 then 12 else if c = 41 then 13 else if c = 42 then 24 else if c = 43 then 22 else if c = 44 then 18 else if c = 45 then 23 else if c = 47 then 25 else if c = 59 then 19 else if c = 60 then (if d = 61 then 28 else 27) else if c = 61 then (if d = 61 then 31 else 20) else if c = 62 then (if d = 61 then 30 else 29) else if c = 91 then 16 else if c = 93 then 17 else if c = 123 then 14 else if c = 124 then (if d = 124 then 34 else 1) else if c = 125 then 15 else 1
section SIGNS
variable {τ : mh_H} {tt bt e N : Nat} {g : Nat → Nat}
theorem k_sign {i : Nat} (K : KE τ tt bt e g) (hi : i < e) : f_TO_signAt N tt (nI i) τ = some (nI (sg (g i) (if i + 1 < e then g (i + 1) else 0)), τ) := by
  obtain ⟨k1, k2, k3, k4, k5, k6, k7⟩ := K
  obtain ⟨q1, q2⟩ := k6 i hi
  have hni : (nI i).toNatClampNeg = i := n_nat (by omega)
  have ei : nI i + 1 = nI (i + 1) := n_add i 1
  have hib : ib (nI i) (hN τ bt) := by rw [n_ib (by omega)]; omega
  have key : ∀ d, d < 256 → k_TO_signAt_22 N tt (nI i) (sx d) τ = some (nI (sg (g i) d), τ) := by
    intro d hd
    have hc : ∀ k, k < 128 → (hA τ bt (nI i).toNatClampNeg = nI k ↔ g i = k) := fun k hk => by rw [hni, q1]; exact sx_lt _ q2 k hk
    have hdd : ∀ k, k < 128 → (sx d = nI k ↔ d = k) := fun k hk => sx_lt _ hd k hk
    unfold k_TO_signAt_22
    refine X_chk k1 (X_rfO k2 (X_chk k3 (X_chk hib ?_)))
    by_cases h33 : g i = 33
    · refine X_if ((hc 33 (by omega)).mpr h33) ?_
      by_cases hd' : d = 61
      · have es : sg (g i) d = sg 33 61 := by rw [h33, hd']
        rw [es]
        exact X_if ((hdd 61 (by omega)).mpr hd') rfl
      · have es : sg (g i) d = sg 33 0 := by rw [h33]; simp [sg, hd']
        rw [es]
        exact X_nif (fun x => hd' ((hdd 61 (by omega)).mp x)) rfl
    refine X_nif (fun x => h33 ((hc 33 (by omega)).mp x)) ?_
    by_cases h37 : g i = 37
    · have es : sg (g i) d = 26 := by rw [h37]; rfl
      rw [es]
      exact X_if ((hc 37 (by omega)).mpr h37) rfl
    refine X_nif (fun x => h37 ((hc 37 (by omega)).mp x)) ?_
    by_cases h38 : g i = 38
    · refine X_if ((hc 38 (by omega)).mpr h38) ?_
      by_cases hd' : d = 38
      · have es : sg (g i) d = sg 38 38 := by rw [h38, hd']
        rw [es]
        exact X_if ((hdd 38 (by omega)).mpr hd') rfl
      · have es : sg (g i) d = sg 38 0 := by rw [h38]; simp [sg, hd']
        rw [es]
        exact X_nif (fun x => hd' ((hdd 38 (by omega)).mp x)) rfl
    refine X_nif (fun x => h38 ((hc 38 (by omega)).mp x)) ?_
    by_cases h40 : g i = 40
    · have es : sg (g i) d = 12 := by rw [h40]; rfl
      rw [es]
      exact X_if ((hc 40 (by omega)).mpr h40) rfl
    refine X_nif (fun x => h40 ((hc 40 (by omega)).mp x)) ?_
    by_cases h41 : g i = 41
    · have es : sg (g i) d = 13 := by rw [h41]; rfl
      rw [es]
      exact X_if ((hc 41 (by omega)).mpr h41) rfl
    refine X_nif (fun x => h41 ((hc 41 (by omega)).mp x)) ?_
    by_cases h42 : g i = 42
    · have es : sg (g i) d = 24 := by rw [h42]; rfl
      rw [es]
      exact X_if ((hc 42 (by omega)).mpr h42) rfl
    refine X_nif (fun x => h42 ((hc 42 (by omega)).mp x)) ?_
    by_cases h43 : g i = 43
    · have es : sg (g i) d = 22 := by rw [h43]; rfl
      rw [es]
      exact X_if ((hc 43 (by omega)).mpr h43) rfl
    refine X_nif (fun x => h43 ((hc 43 (by omega)).mp x)) ?_
    by_cases h44 : g i = 44
    · have es : sg (g i) d = 18 := by rw [h44]; rfl
      rw [es]
      exact X_if ((hc 44 (by omega)).mpr h44) rfl
    refine X_nif (fun x => h44 ((hc 44 (by omega)).mp x)) ?_
    by_cases h45 : g i = 45
    · have es : sg (g i) d = 23 := by rw [h45]; rfl
      rw [es]
      exact X_if ((hc 45 (by omega)).mpr h45) rfl
    refine X_nif (fun x => h45 ((hc 45 (by omega)).mp x)) ?_
    by_cases h47 : g i = 47
    · have es : sg (g i) d = 25 := by rw [h47]; rfl
      rw [es]
      exact X_if ((hc 47 (by omega)).mpr h47) rfl
    refine X_nif (fun x => h47 ((hc 47 (by omega)).mp x)) ?_
    by_cases h59 : g i = 59
    · have es : sg (g i) d = 19 := by rw [h59]; rfl
      rw [es]
      exact X_if ((hc 59 (by omega)).mpr h59) rfl
    refine X_nif (fun x => h59 ((hc 59 (by omega)).mp x)) ?_
    by_cases h60 : g i = 60
    · refine X_if ((hc 60 (by omega)).mpr h60) ?_
      by_cases hd' : d = 61
      · have es : sg (g i) d = sg 60 61 := by rw [h60, hd']
        rw [es]
        exact X_if ((hdd 61 (by omega)).mpr hd') rfl
      · have es : sg (g i) d = sg 60 0 := by rw [h60]; simp [sg, hd']
        rw [es]
        exact X_nif (fun x => hd' ((hdd 61 (by omega)).mp x)) rfl
    refine X_nif (fun x => h60 ((hc 60 (by omega)).mp x)) ?_
    by_cases h61 : g i = 61
    · refine X_if ((hc 61 (by omega)).mpr h61) ?_
      by_cases hd' : d = 61
      · have es : sg (g i) d = sg 61 61 := by rw [h61, hd']
        rw [es]
        exact X_if ((hdd 61 (by omega)).mpr hd') rfl
      · have es : sg (g i) d = sg 61 0 := by rw [h61]; simp [sg, hd']
        rw [es]
        exact X_nif (fun x => hd' ((hdd 61 (by omega)).mp x)) rfl
    refine X_nif (fun x => h61 ((hc 61 (by omega)).mp x)) ?_
    by_cases h62 : g i = 62
    · refine X_if ((hc 62 (by omega)).mpr h62) ?_
      by_cases hd' : d = 61
      · have es : sg (g i) d = sg 62 61 := by rw [h62, hd']
        rw [es]
        exact X_if ((hdd 61 (by omega)).mpr hd') rfl
      · have es : sg (g i) d = sg 62 0 := by rw [h62]; simp [sg, hd']
        rw [es]
        exact X_nif (fun x => hd' ((hdd 61 (by omega)).mp x)) rfl
    refine X_nif (fun x => h62 ((hc 62 (by omega)).mp x)) ?_
    by_cases h91 : g i = 91
    · have es : sg (g i) d = 16 := by rw [h91]; rfl
      rw [es]
      exact X_if ((hc 91 (by omega)).mpr h91) rfl
    refine X_nif (fun x => h91 ((hc 91 (by omega)).mp x)) ?_
    by_cases h93 : g i = 93
    · have es : sg (g i) d = 17 := by rw [h93]; rfl
      rw [es]
      exact X_if ((hc 93 (by omega)).mpr h93) rfl
    refine X_nif (fun x => h93 ((hc 93 (by omega)).mp x)) ?_
    by_cases h123 : g i = 123
    · have es : sg (g i) d = 14 := by rw [h123]; rfl
      rw [es]
      exact X_if ((hc 123 (by omega)).mpr h123) rfl
    refine X_nif (fun x => h123 ((hc 123 (by omega)).mp x)) ?_
    by_cases h124 : g i = 124
    · refine X_if ((hc 124 (by omega)).mpr h124) ?_
      by_cases hd' : d = 124
      · have es : sg (g i) d = sg 124 124 := by rw [h124, hd']
        rw [es]
        exact X_if ((hdd 124 (by omega)).mpr hd') rfl
      · have es : sg (g i) d = sg 124 0 := by rw [h124]; simp [sg, hd']
        rw [es]
        exact X_nif (fun x => hd' ((hdd 124 (by omega)).mp x)) rfl
    refine X_nif (fun x => h124 ((hc 124 (by omega)).mp x)) ?_
    by_cases h125 : g i = 125
    · have es : sg (g i) d = 15 := by rw [h125]; rfl
      rw [es]
      exact X_if ((hc 125 (by omega)).mpr h125) rfl
    refine X_nif (fun x => h125 ((hc 125 (by omega)).mp x)) ?_
    have es : sg (g i) d = 1 := by
      unfold sg
      rw [if_neg h33, if_neg h37, if_neg h38, if_neg h40, if_neg h41, if_neg h42, if_neg h43, if_neg h44, if_neg h45, if_neg h47, if_neg h59, if_neg h60, if_neg h61, if_neg h62, if_neg h91, if_neg h93, if_neg h123, if_neg h124, if_neg h125]
    rw [es]
    rfl
  unfold f_TO_signAt
  rw [ei]
  refine X_chk k1 ?_
  by_cases h1 : i + 1 < e
  · obtain ⟨p1, p2⟩ := k6 (i + 1) h1
    have er : (if i + 1 < e then g (i + 1) else 0) = g (i + 1) := if_pos h1
    rw [er]
    refine X_nif (by rw [k4, n_le (by omega) (by omega)]; omega) (X_rfO k2 (X_chk k3 (X_chk (by rw [n_ib (by omega)]; omega) ?_)))
    rw [n_nat (by omega), p1]
    exact key _ p2
  · have er : (if i + 1 < e then g (i + 1) else 0) = 0 := if_neg h1
    rw [er]
    exact X_if (by rw [k4, n_le (by omega) (by omega)]; omega) (key 0 (by omega))
end SIGNS
