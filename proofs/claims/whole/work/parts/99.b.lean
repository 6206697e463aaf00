/-! every name that is written is known -/
def GW (nt : List (List Int32)) (T : List Nat) : Prop := ∀ p l, 1 ≤ l → p + l ≤ T.length → (∀ j, j < l → wb (T.getD (p + j) 0) = true) → (p = 0 ∨ wb (T.getD (p - 1) 0) = false) → wb (T.getD (p + l) 0) = false → cL (T.getD p 0) = true → wk (fun i => T.getD i 0) p l = 2 → wl (fun i => T.getD i 0) p l ∈ nt
theorem wl_congr {g g' : Nat → Nat} {p q l : Nat} (h : ∀ j, j < l → g (p + j) = g' (q + j)) : wl g p l = wl g' q l := by
  unfold wl
  apply List.map_congr_left
  intro j hj
  rw [List.mem_range] at hj
  rw [h j hj]
theorem wk_congr {g g' : Nat → Nat} {p q l : Nat} (h : ∀ j, j < l → g (p + j) = g' (q + j)) : wk g p l = wk g' q l := by
  unfold wk
  rw [wl_congr h]
theorem getD_l {A B : List Nat} {i : Nat} (h : i < A.length) : (A ++ B).getD i 0 = A.getD i 0 := by
  simp [List.getD, List.getElem?_append_left h]
theorem getD_r {A B : List Nat} {i : Nat} (h : A.length ≤ i) : (A ++ B).getD i 0 = B.getD (i - A.length) 0 := by
  simp [List.getD, List.getElem?_append_right h]
theorem getD_o {A : List Nat} {i : Nat} (h : A.length ≤ i) : A.getD i 0 = 0 := by
  simp [List.getD, List.getElem?_eq_none h]
theorem GW_app {nt : List (List Int32)} {A B : List Nat} (hA : GW nt A) (hB : GW nt B) (hb : A = [] ∨ wb (A.getD (A.length - 1) 0) = false ∨ wb (B.getD 0 0) = false) : GW nt (A ++ B) := by
  intro p l h1 h2 h3 h4 h5 h6 h7
  rw [List.length_append] at h2
  by_cases c1 : p + l ≤ A.length
  · have e : ∀ j, j < l → (A ++ B).getD (p + j) 0 = A.getD (p + j) 0 := fun j hj => getD_l (by omega)
    have ew : wl (fun i => (A ++ B).getD i 0) p l = wl (fun i => A.getD i 0) p l := wl_congr e
    rw [ew]
    refine hA p l h1 c1 (fun j hj => by rw [← e j hj]; exact h3 j hj) ?_ ?_ (by have := e 0 (by omega); rw [Nat.add_zero] at this; rw [← this]; exact h6) (by rw [← h7]; exact (wk_congr e).symm)
    · rcases h4 with h | h
      · exact Or.inl h
      · by_cases hp : p = 0
        · exact Or.inl hp
        · right; rw [← getD_l (B := B) (by omega)]; exact h
    · by_cases hl : p + l < A.length
      · rw [← getD_l (B := B) hl]; exact h5
      · rw [getD_o (by omega)]; rfl
  · by_cases c2 : A.length ≤ p
    · have e : ∀ j, j < l → (A ++ B).getD (p + j) 0 = B.getD (p - A.length + j) 0 := fun j hj => by rw [getD_r (by omega)]; congr 1; omega
      have ew : wl (fun i => (A ++ B).getD i 0) p l = wl (fun i => B.getD i 0) (p - A.length) l := wl_congr e
      rw [ew]
      refine hB (p - A.length) l h1 (by omega) (fun j hj => by rw [← e j hj]; exact h3 j hj) ?_ ?_ (by have := e 0 (by omega); rw [Nat.add_zero, Nat.add_zero] at this; rw [← this]; exact h6) (by rw [← h7]; exact (wk_congr e).symm)
      · by_cases hp : p = A.length
        · left; omega
        · rcases h4 with h | h
          · omega
          · right
            rw [getD_r (by omega)] at h
            rw [show p - A.length - 1 = p - 1 - A.length by omega]; exact h
      · rw [getD_r (by omega)] at h5
        rw [show p - A.length + l = p + l - A.length by omega]; exact h5
    · exfalso
      have e1 := h3 (A.length - 1 - p) (by omega)
      have e2 := h3 (A.length - p) (by omega)
      rw [show p + (A.length - 1 - p) = A.length - 1 by omega, getD_l (by omega)] at e1
      rw [show p + (A.length - p) = A.length by omega, getD_r (Nat.le_refl _), Nat.sub_self] at e2
      rcases hb with h | h | h
      · rw [h] at c2; simp at c2
      · rw [h] at e1; simp at e1
      · rw [h] at e2; simp at e2
def GOb (nt : List (List Int32)) (O : Ob) : Prop := ∀ T, O = some T → GW nt T ∧ T.length ≤ 8000
theorem GW_nil (nt : List (List Int32)) : GW nt [] := by
  intro p l h1 h2
  simp at h2; omega
theorem GW_one {nt : List (List Int32)} {c : Nat} (h : cL c = false) : GW nt [c] := by
  intro p l h1 h2 h3 h4 h5 h6 h7
  simp at h2
  have : p = 0 := by omega
  subst this
  simp [h] at h6
theorem emit_GO {nt : List (List Int32)} {O : Ob} {w : List Nat} (hO : GOb nt O) (hw : GW nt w) : GOb nt (emit O w) := by
  cases w with
  | nil => exact hO
  | cons c r =>
    intro T hT
    cases O with
    | none => rw [emit_none] at hT; simp at hT
    | some T0 =>
      obtain ⟨g0, l0⟩ := hO T0 rfl
      have hT' : puts (gapc (some T0) c) (c :: r) = some T := hT
      have fin : ∀ T1 : List Nat, T1.length ≤ 8000 → GW nt T1 → (T1 = [] ∨ wb (T1.getD (T1.length - 1) 0) = false ∨ wb c = false) → puts (some T1) (c :: r) = some T → GW nt T ∧ T.length ≤ 8000 := by
        intro T1 l1 g1 hb hp
        rw [puts_some _ _ l1] at hp
        by_cases hl : T1.length + (c :: r).length ≤ 8000
        · rw [if_pos hl] at hp
          injection hp with hp
          subst hp
          exact ⟨GW_app g1 hw (by simpa using hb), by rw [List.length_append]; exact hl⟩
        · rw [if_neg hl] at hp; simp at hp
      by_cases hg : wb c = true ∧ lstw (some T0) = true
      · have eg : gapc (some T0) c = addc (some T0) 32 := if_pos hg
        rw [eg] at hT'
        by_cases hl : T0.length < 8000
        · have ea : addc (some T0) 32 = some (T0 ++ [32]) := if_pos hl
          rw [ea] at hT'
          refine fin (T0 ++ [32]) (by simp; omega) (GW_app g0 (GW_one (by decide)) (Or.inr (Or.inr (by decide)))) ?_ hT'
          right; left
          rw [getD_r (by simp)]
          simp; decide
        · have ea : addc (some T0) 32 = none := if_neg hl
          rw [ea, puts_none] at hT'; simp at hT'
      · have eg : gapc (some T0) c = some T0 := if_neg hg
        rw [eg] at hT'
        refine fin T0 l0 g0 ?_ hT'
        by_cases hc : wb c = true
        · by_cases he : T0 = []
          · exact Or.inl he
          · right; left
            have hl : lstw (some T0) ≠ true := fun h => hg ⟨hc, h⟩
            have hpos : 0 < T0.length := List.length_pos_iff.mpr he
            have hlast : T0.getLast? = some (T0[T0.length - 1]'(by omega)) := by
              rw [List.getLast?_eq_getElem?]; exact List.getElem?_eq_getElem (by omega)
            simp only [lstw, hlast] at hl
            have : T0.getD (T0.length - 1) 0 = T0[T0.length - 1]'(by omega) := by simp [List.getD, show T0.length - 1 < T0.length by omega]
            rw [this]
            simpa using hl
        · exact Or.inr (Or.inr (by simpa using hc))
/-- the class's own pieces bring no name -/
def ckW (w : List Nat) (p l : Nat) : Bool := decide (1 ≤ l) && decide (p + l ≤ w.length) && (List.range l).all (fun j => wb (w.getD (p + j) 0)) && (decide (p = 0) || !wb (w.getD (p - 1) 0)) && !wb (w.getD (p + l) 0) && cL (w.getD p 0)
theorem GW_sN0 : ∀ i, i < 46 → ∀ p, p < 10 → ∀ l, l < 10 → ckW (sN i) p l = true → wk (fun x => (sN i).getD x 0) p l ≠ 2 := by decide +kernel
theorem GW_sN {nt : List (List Int32)} {i : Nat} (hi : i < 46) : GW nt (sN i) := by
  intro p l h1 h2 h3 h4 h5 h6 h7
  have := (sN_ok i (by omega)).2.2
  refine absurd h7 (GW_sN0 i hi p (by omega) l (by omega) ?_)
  unfold ckW
  simp only [Bool.and_eq_true, decide_eq_true_eq, List.all_eq_true, List.mem_range, Bool.or_eq_true, Bool.not_eq_true']
  exact ⟨⟨⟨⟨⟨h1, h2⟩, h3⟩, h4⟩, h5⟩, h6⟩
theorem GW_dig {nt : List (List Int32)} {w : List Nat} (h : ∀ c ∈ w, 48 ≤ c ∧ c ≤ 57) : GW nt w := by
  intro p l h1 h2 h3 h4 h5 h6 h7
  exfalso
  have hp : p < w.length := by omega
  have e : w.getD p 0 = w[p] := by simp [List.getD, hp]
  have := h w[p] (List.getElem_mem hp)
  rw [e] at h6
  simp [cL] at h6
  omega
theorem GW_name {nt : List (List Int32)} {w : List Int32} (hw : okw w) (hm : w ∈ nt) : GW nt (nw w) := by
  obtain ⟨q1, q2, q3, q4, q5⟩ := nw_ok hw
  have at_ : ∀ i, i < (nw w).length → wb ((nw w).getD i 0) = true := fun i hi => by
    have e : (nw w).getD i 0 = (nw w)[i] := by simp [List.getD, hi]
    rw [e]; exact q4 _ (List.getElem_mem hi)
  intro p l h1 h2 h3 h4 h5 h6 h7
  have hp : p = 0 := by
    rcases h4 with h | h
    · exact h
    · by_cases hp : p = 0
      · exact hp
      · rw [at_ (p - 1) (by omega)] at h; simp at h
  subst hp
  have hl : l = (nw w).length := by
    apply Classical.byContradiction
    intro hne
    rw [Nat.zero_add] at h5
    rw [at_ l (by omega)] at h5; simp at h5
  have e : wl (fun i => (nw w).getD i 0) 0 l = w := by
    refine (wl_eq (by rw [hl]; unfold nw; simp) (fun x hx => ?_)).symm
    have hx' : x < (nw w).length := by unfold nw; simpa using hx
    have e1 : w[x] = ((nw w).map nI)[x]'(by simpa using hx') := List.getElem_of_eq q1 _
    rw [e1, List.getElem_map, Nat.zero_add]
    simp [List.getD, hx']
  rw [e]; exact hm
theorem idx46 : (∀ k, k < 34 → lji k < 46 ∧ bgi k < 46) := by decide +kernel
theorem jnt46 {kw pw fk j : Nat} (h : kw < 34) : jnt kw pw fk j < 46 := by
  have := (idx46 kw h).1
  unfold jnt
  repeat' (first | assumption | decide | split)
theorem edi46 (k n : Nat) : edi k n < 46 := by
  unfold edi
  repeat' (first | decide | split)
theorem opi46 (k : Nat) : opi k < 46 := by
  unfold opi
  repeat' (first | decide | split)
theorem cli46 (k : Nat) : cli k < 46 := by
  unfold cli
  repeat' (first | decide | split)
theorem beg_GO {nt : List (List Int32)} {x : Nat × Nat × Int32} {O : Ob} (hO : GOb nt O) (hok : ∀ w ∈ nt, okw w) (hx : x.1 < 34) (h13 : x.1 = 13 → ∃ k, k < nt.length ∧ x.2.2 = nI k) (hl : nt.length < 100000) : GOb nt (beg nt x O) := by
  unfold beg
  by_cases c12 : x.1 = 12
  · rw [if_pos c12]
    unfold num
    have hd : GW nt (dgs x.2.2.toInt.natAbs) := GW_dig (dgf_rng _ _)
    split
    · exact emit_GO (emit_GO hO (GW_one (by decide))) hd
    · exact emit_GO hO hd
  · rw [if_neg c12]
    by_cases c13 : x.1 = 13
    · rw [if_pos c13]
      obtain ⟨k, hk, hv⟩ := h13 c13
      have eg : nt.getD x.2.2.toNatClampNeg [] = nt[k] := by rw [hv, n_nat (by omega)]; simp [List.getD, hk]
      rw [eg]
      exact emit_GO hO (GW_name (hok _ (List.getElem_mem hk)) (List.getElem_mem hk))
    · rw [if_neg c13]
      exact emit_GO hO (GW_sN (idx46 x.1 hx).2)
theorem cw_GO {nt : List (List Int32)} (hok : ∀ w ∈ nt, okw w) (hl : nt.length < 100000) : ∀ (f : Fo) (kw pw fk j : Nat) (O : Ob), wt nt.length f → kw < 34 → GOb nt O → GOb nt (cw nt f kw pw fk j O) := by
  intro f
  induction f with
  | leaf => intro kw pw fk j O _ _ h; exact h
  | inner i x u c m ic im =>
    intro kw pw fk j O hw hkw hO
    have hx := okk_le hw.1
    rw [cw_in]
    refine im kw pw fk (j + 1) _ hw.2.2.2.2 hkw ?_
    have h1 : GOb nt (opn x.1 kw (emit O (sN (jnt kw pw fk j)))) := by
      have := emit_GO hO (GW_sN (nt := nt) (jnt46 (pw := pw) (fk := fk) (j := j) hkw))
      unfold opn
      split
      · exact emit_GO this (GW_sN (opi46 _))
      · exact this
    have h2 : GOb nt (body nt x c (opn x.1 kw (emit O (sN (jnt kw pw fk j))))) := by
      unfold body
      exact emit_GO (ic x.1 (nro c) (fstk c) 0 _ hw.2.2.2.1 (by omega) (beg_GO h1 hok (by omega) hw.2.1 hl)) (GW_sN (edi46 _ _))
    unfold clo
    split
    · exact emit_GO h2 (GW_sN (cli46 _))
    · exact h2
theorem body_GO {nt : List (List Int32)} {x : Nat × Nat × Int32} {c : Fo} (hok : ∀ w ∈ nt, okw w) (hl : nt.length < 100000) (hx : x.1 < 34) (h13 : x.1 = 13 → ∃ k, k < nt.length ∧ x.2.2 = nI k) (hw : wt nt.length c) : GOb nt (body nt x c (some [])) := by
  unfold body
  refine emit_GO (cw_GO hok hl c x.1 (nro c) (fstk c) 0 _ hw hx (beg_GO (fun T hT => ?_) hok hx h13 hl)) (GW_sN (edi46 _ _))
  injection hT with hT
  subst hT
  exact ⟨GW_nil nt, by simp⟩
theorem GW_KN {nt : List (List Int32)} {T : List Nat} (h : GW nt T) : KN (fun i => T.getD i 0) T.length nt := by
  intro p l h1 h2 h3 h4 h5 h6 h7
  exact h p l h1 (by omega) h3 h4 h5 h6 h7
