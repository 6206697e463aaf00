/-! WHAT IS WRITTEN: pieces -/
abbrev Ob : Type := Option (List Nat)
def sN (i : Nat) : List Nat := (s_b i).map Int32.toNatClampNeg
theorem sN_ok : ∀ i, i < 67 → s_b i = (sN i).map nI ∧ (∀ c ∈ sN i, c < 128) ∧ (sN i).length < 10 := by decide +kernel
def addc (O : Ob) (c : Nat) : Ob := match O with
  | none => none
  | some T => if T.length < 8000 then some (T ++ [c]) else none
def puts (O : Ob) (w : List Nat) : Ob := w.foldl addc O
def lstw (O : Ob) : Bool := match O with
  | none => false
  | some T => match T.getLast? with
    | none => false
    | some c => wb c
def gapc (O : Ob) (c : Nat) : Ob := if wb c = true ∧ lstw O = true then addc O 32 else O
def emit (O : Ob) (w : List Nat) : Ob := match w with
  | [] => O
  | c :: r => puts (gapc O c) (c :: r)
theorem puts_app (O : Ob) (a b : List Nat) : puts O (a ++ b) = puts (puts O a) b := List.foldl_append ..
theorem puts_none (w : List Nat) : puts none w = none := by
  induction w with
  | nil => rfl
  | cons c r ih => exact ih
theorem gapc_none (c : Nat) : gapc none c = none := by
  unfold gapc
  rw [if_neg (by simp [lstw])]
theorem emit_none (w : List Nat) : emit none w = none := by
  cases w with
  | nil => rfl
  | cons c r => show puts (gapc none c) (c :: r) = none; rw [gapc_none, puts_none]
theorem gapc_n {O : Ob} {c : Nat} (h : wb c = false) : gapc O c = O := by
  unfold gapc
  rw [if_neg (by simp [h])]
theorem emit_app {O : Ob} {a b : List Nat} (ha : a ≠ []) (hb : ∀ c ∈ b.head?, wb c = false) : emit O (a ++ b) = emit (emit O a) b := by
  cases a with
  | nil => exact absurd rfl ha
  | cons x a =>
    cases b with
    | nil => simp [emit]
    | cons y b =>
      have hy : wb y = false := hb y (by simp)
      show puts (gapc O x) (x :: (a ++ y :: b)) = puts (gapc (puts (gapc O x) (x :: a)) y) (y :: b)
      rw [gapc_n hy, ← puts_app]; rfl
theorem puts_some : ∀ (w : List Nat) (T : List Nat), T.length ≤ 8000 → puts (some T) w = if T.length + w.length ≤ 8000 then some (T ++ w) else none := by
  intro w
  induction w with
  | nil => intro T h; simp [puts, h]
  | cons c r ih =>
    intro T h
    show puts (addc (some T) c) r = _
    by_cases hl : T.length < 8000
    · have e : addc (some T) c = some (T ++ [c]) := if_pos hl
      rw [e, ih (T ++ [c]) (by simp; omega)]
      simp only [List.length_append, List.length_cons, List.length_nil, List.append_assoc, List.cons_append, List.nil_append]
      by_cases h2 : T.length + (0 + 1) + r.length ≤ 8000
      · rw [if_pos h2, if_pos (by omega)]
      · rw [if_neg h2, if_neg (by omega)]
    · have e : addc (some T) c = none := if_neg hl
      rw [e, puts_none, if_neg (by simp; omega)]
def lenO (O : Ob) : Prop := ∀ T, O = some T → T.length ≤ 8000
theorem addc_len {O : Ob} {c : Nat} : lenO (addc O c) := by
  intro T h
  cases O with
  | none => simp [addc] at h
  | some T0 =>
    unfold addc at h
    simp only at h
    by_cases hl : T0.length < 8000
    · rw [if_pos hl] at h; injection h with h; subst h; simp; omega
    · rw [if_neg hl] at h; simp at h
/-! the reference puts a piece -/
def Wf (S0 S : rm_S) : Prop := (∀ x, x ≠ 7 → S.1 x = S0.1 x) ∧ (∀ o, o ≠ 3 → S.2 o = S0.2 o)
def RO (S : rm_S) (O : Ob) : Prop := match O with
  | none => S.1 7 = nI 8001
  | some T => S.1 7 = nI T.length ∧ T.length ≤ 8000 ∧ ∀ i (hi : i < T.length), S.2 3 i = nI T[i] ∧ T[i] < 128
def RW (S0 : rm_S) (O : Ob) (S : rm_S) : Prop := Wf S0 S ∧ RO S O
def Rs (S0 : rm_S) (r : Option rm_S) (O : Ob) : Prop := ∃ S', r = some S' ∧ RW S0 O S'
theorem Rs_V {S0 : rm_S} {r : Option rm_S} {k : rm_S → Option rm_S} {O O' : Ob} (h : Rs S0 r O) (hk : ∀ S', RW S0 O S' → Rs S0 (k S') O') : Rs S0 (calV r k) O' := by
  obtain ⟨S', h1, h2⟩ := h
  subst h1
  exact hk S' h2
theorem Rs_ret {S0 S : rm_S} {O : Ob} (h : RW S0 O S) : Rs S0 (some S) O := ⟨S, rfl, h⟩
theorem Rs_eq {S0 : rm_S} {r : Option rm_S} {O O' : Ob} (h : Rs S0 r O) (e : O = O') : Rs S0 r O' := e ▸ h
theorem isW_tot (N : Nat) (x : Int32) : ∃ v, f_RM_isWordByte N x = some v := by
  unfold f_RM_isWordByte
  have hL : ∃ v, f_RM_isLetter N x = some v := by
    unfold f_RM_isLetter
    split
    · unfold k_RM_isLetter_12 k_RM_isLetter_24
      split
      · split <;> exact ⟨_, rfl⟩
      · split
        · exact ⟨_, rfl⟩
        · split <;> exact ⟨_, rfl⟩
    · split
      · exact ⟨_, rfl⟩
      · unfold k_RM_isLetter_12 k_RM_isLetter_24
        split
        · split <;> exact ⟨_, rfl⟩
        · split
          · exact ⟨_, rfl⟩
          · split <;> exact ⟨_, rfl⟩
  have hD : ∃ v, f_RM_isDigit N x = some v := by
    unfold f_RM_isDigit
    split
    · exact ⟨_, rfl⟩
    · split <;> exact ⟨_, rfl⟩
  obtain ⟨v, hv⟩ := hL
  obtain ⟨u, hu⟩ := hD
  rw [hv]
  show ∃ w, (if v = 0 then _ else _) = some w
  split
  · rw [hu]
    show ∃ w, (if u = 0 then _ else _) = some w
    split <;> exact ⟨_, rfl⟩
  · exact ⟨_, rfl⟩
section RPUT
variable {S0 S : rm_S} {O : Ob} {N c : Nat}
theorem r_put (h : RW S0 O S) (hc : c < 128) : Rs S0 (f_RM_put N (nI c) S) (addc O c) := by
  obtain ⟨⟨w1, w2⟩, hO⟩ := h
  cases O with
  | none =>
    refine ⟨S, ?_, ⟨w1, w2⟩, hO⟩
    unfold f_RM_put
    exact X_if (by rw [show S.1 7 = nI 8001 from hO]; show nI 8000 < nI 8001; rw [n_lt (by omega) (by omega)]; omega) rfl
  | some T =>
    obtain ⟨h1, h2, h3⟩ := hO
    have hn : (nI T.length).toNatClampNeg = T.length := n_nat (by omega)
    refine ⟨rs_i (rs_a S 3 T.length (nI c)) 7 (nI (T.length + 1)), ?_, ⟨fun x hx => ?_, fun o ho => ?_⟩, ?_⟩
    · unfold f_RM_put
      refine X_nif (by rw [h1]; show ¬ nI 8000 < nI _; rw [n_lt (by omega) (by omega)]; omega) (X_chk (by rw [h1, n_ib (by omega)]; omega) ?_)
      rw [h1, hn]
      exact X_bndE (x' := nI T.length) h1 (X_bndE (x' := nI (T.length + 1)) (n_add _ 1) rfl)
    · rw [rs_i1, if_neg hx, rs_a1]; exact w1 x hx
    · rw [rs_i2]; funext i; rw [rs_a2, if_neg (fun h => ho h.1), w2 o ho]
    · by_cases hl : T.length < 8000
      · have e : addc (some T) c = some (T ++ [c]) := if_pos hl
        rw [e]
        refine ⟨by rw [rs_i1, if_pos rfl]; simp, by simp; omega, fun i hi => ?_⟩
        rw [rs_i2, rs_a2]
        by_cases ei : i = T.length
        · subst ei; simp [hc]
        · simp only [List.length_append, List.length_cons, List.length_nil] at hi
          rw [if_neg (fun h => ei h.2), List.getElem_append_left (by omega)]
          exact h3 i (by omega)
      · have e : addc (some T) c = none := if_neg hl
        rw [e]
        show (rs_i (rs_a S 3 T.length (nI c)) 7 (nI (T.length + 1))).1 7 = nI 8001
        rw [rs_i1, if_pos rfl]; congr 1; omega
theorem r_puts : ∀ (w : List Nat) {O : Ob} {S : rm_S}, True → True := fun _ _ _ h => h
theorem r_begin (h : RW S0 O S) (hc : c < 128) : Rs S0 (f_RM_begin N (nI c) S) (emit O [c]) := by
  show Rs S0 (f_RM_begin N (nI c) S) (addc (gapc O c) c)
  unfold f_RM_begin
  have hput := fun (O' : Ob) (S' : rm_S) (h' : RW S0 O' S') => r_put (N := N) h' hc
  cases O with
  | none =>
    have h7 : S.1 7 = nI 8001 := h.2
    rw [gapc_none]
    rw [if_neg (by rw [h7]; show ¬ nI 8001 ≤ nI 0; rw [n_le (by omega) (by omega)]; omega)]
    obtain ⟨v, hv⟩ := isW_tot N (nI c)
    rw [hv]
    show Rs S0 (if v = 0 then _ else _) none
    split
    · exact Rs_V (hput none S h) (fun S' h' => Rs_ret h')
    · have e1 : S.1 7 - 1 = nI 8000 := by rw [h7]; exact n_sub (b := 1) (by omega)
      rw [show chk (ib (S.1 7 - 1) 8001) _ = _ from X_chk (by rw [e1, n_ib (by omega)]; omega) rfl]
      obtain ⟨u, hu⟩ := isW_tot N (S.2 3 (Int32.toNatClampNeg (S.1 7 - 1)))
      rw [hu]
      show Rs S0 (if u = 0 then _ else _) none
      split
      · exact Rs_V (hput none S h) (fun S' h' => Rs_ret h')
      · exact Rs_V (r_put (c := 32) (N := N) h (by omega)) (fun S' h' => Rs_V (hput none S' h') (fun S'' h'' => Rs_ret h''))
  | some T =>
    obtain ⟨h1, h2, h3⟩ := h.2
    have hw := rhW (N := N) (c := c) (by omega)
    by_cases h0 : T.length = 0
    · have e0 : T = [] := List.length_eq_zero_iff.mp h0
      subst e0
      rw [if_pos (by rw [h1]; exact Int32.le_refl _)]
      have eg : gapc (some []) c = some [] := by
        unfold gapc; rw [if_neg (by simp [lstw])]
      rw [eg]
      exact Rs_V (hput _ S h) (fun S' h' => Rs_ret h')
    · rw [if_neg (by rw [h1]; show ¬ nI _ ≤ nI 0; rw [n_le (by omega) (by omega)]; omega), hw]
      show Rs S0 (if b01 (cL c || cD c) = 0 then _ else _) _
      have hlast : T.getLast? = some (T[T.length - 1]'(by omega)) := by
        rw [List.getLast?_eq_getElem?]; exact List.getElem?_eq_getElem (by omega)
      by_cases hwc : wb c = true
      · have hne : ¬ b01 (cL c || cD c) = 0 := by rw [show (cL c || cD c) = true from hwc]; decide
        rw [if_neg hne]
        have e1 : S.1 7 - 1 = nI (T.length - 1) := by rw [h1]; exact n_sub (b := 1) (by omega)
        rw [show chk (ib (S.1 7 - 1) 8001) _ = _ from X_chk (by rw [e1, n_ib (by omega)]; omega) rfl]
        obtain ⟨h4, h5⟩ := h3 (T.length - 1) (by omega)
        rw [e1, n_nat (by omega), h4, rhW (N := N) (by omega)]
        show Rs S0 (if b01 (cL T[T.length - 1] || cD T[T.length - 1]) = 0 then _ else _) _
        by_cases hl : wb (T[T.length - 1]'(by omega)) = true
        · have hne2 : ¬ b01 (cL (T[T.length - 1]'(by omega)) || cD (T[T.length - 1]'(by omega))) = 0 := by
            rw [show (cL (T[T.length - 1]'(by omega)) || cD (T[T.length - 1]'(by omega))) = true from hl]; decide
          rw [if_neg hne2]
          have eg : gapc (some T) c = addc (some T) 32 := by
            unfold gapc; rw [if_pos ⟨hwc, by simp only [lstw, hlast]; exact hl⟩]
          rw [eg]
          exact Rs_V (r_put (c := 32) (N := N) h (by omega)) (fun S' h' => Rs_V (hput _ S' h') (fun S'' h'' => Rs_ret h''))
        · have hl' : wb (T[T.length - 1]'(by omega)) = false := by simpa using hl
          have he2 : b01 (cL (T[T.length - 1]'(by omega)) || cD (T[T.length - 1]'(by omega))) = 0 := by
            rw [show (cL (T[T.length - 1]'(by omega)) || cD (T[T.length - 1]'(by omega))) = false from hl']; decide
          rw [if_pos he2]
          have eg : gapc (some T) c = some T := by
            unfold gapc; rw [if_neg (by rintro ⟨_, h⟩; simp only [lstw, hlast] at h; rw [hl'] at h; simp at h)]
          rw [eg]
          exact Rs_V (hput _ S h) (fun S' h' => Rs_ret h')
      · have hwc' : wb c = false := by simpa using hwc
        have he : b01 (cL c || cD c) = 0 := by rw [show (cL c || cD c) = false from hwc']; decide
        rw [if_pos he, gapc_n hwc']
        exact Rs_V (hput _ S h) (fun S' h' => Rs_ret h')
theorem r_text_loop {y : Nat} (hy : y < 67) : ∀ m j fu {O : Ob} {S : rm_S}, RW S0 O S → (sN y).length - j ≤ m → m < fu → j ≤ (sN y).length → Rs S0 (k_RM_text_11 N fu y (nI j) S) (puts O ((sN y).drop j)) := by
  obtain ⟨e1, e2, e3⟩ := sN_ok y hy
  have hl : (s_b y).length = (sN y).length := by rw [e1]; simp
  have fin : ∀ fu {O : Ob} {S : rm_S}, RW S0 O S → Rs S0 (k_RM_text_11 N (fu + 1) y (nI (sN y).length) S) (puts O ((sN y).drop (sN y).length)) := by
    intro fu O S h
    rw [List.drop_length]
    refine ⟨S, ?_, h⟩
    unfold k_RM_text_11
    exact X_chk hy (X_if (by unfold s_len; rw [hl]; exact Int32.le_refl _) rfl)
  intro m
  induction m with
  | zero =>
    intro j fu O S h h1 hfu hj
    obtain ⟨fu, rfl⟩ : ∃ x, fu = x + 1 := ⟨fu - 1, by omega⟩
    have e : j = (sN y).length := by omega
    rw [e]; exact fin fu h
  | succ m ih =>
    intro j fu O S h h1 hfu hj
    obtain ⟨fu, rfl⟩ : ∃ x, fu = x + 1 := ⟨fu - 1, by omega⟩
    by_cases e : j = (sN y).length
    · rw [e]; exact fin fu h
    · have hj' : j < (sN y).length := by omega
      have hc : (sN y)[j] < 128 := e2 _ (List.getElem_mem hj')
      have hat : s_at y (nI j) = nI (sN y)[j] := by
        unfold s_at
        rw [n_nat (by omega), e1]
        simp [List.getD, hj']
      unfold k_RM_text_11
      rw [show chk (y < 67) _ = _ from X_chk hy rfl, if_neg (by unfold s_len; rw [hl, n_le (by omega) (by omega)]; omega), show chk (y < 67) _ = _ from X_chk hy rfl, show chk (ib (nI j) (s_b y).length) _ = _ from X_chk (by rw [n_ib (by omega), hl]; exact hj') rfl, hat]
      refine Rs_V (r_put (N := N) h hc) (fun S' h' => ?_)
      rw [show nI j + 1 = nI (j + 1) from n_add j 1, List.drop_eq_getElem_cons hj']
      exact ih (j + 1) fu h' (by omega) (by omega) (by omega)
theorem r_text {y : Nat} (h : RW S0 O S) (hy : y < 67) (hne : (sN y) ≠ []) (hN : 100 ≤ N) : Rs S0 (f_RM_text N y S) (emit O (sN y)) := by
  obtain ⟨e1, e2, e3⟩ := sN_ok y hy
  have hl : (s_b y).length = (sN y).length := by rw [e1]; simp
  obtain ⟨c, r, hcr⟩ : ∃ c r, sN y = c :: r := by
    cases h : sN y with
    | nil => exact absurd h hne
    | cons c r => exact ⟨c, r, rfl⟩
  have hc : c < 128 := e2 c (by rw [hcr]; simp)
  have hat : s_at y 0 = nI c := by
    unfold s_at
    rw [show (0 : Int32).toNatClampNeg = 0 from rfl, e1, hcr]; rfl
  unfold f_RM_text
  rw [show chk (y < 67) _ = _ from X_chk hy rfl, show chk (ib 0 (s_b y).length) _ = _ from X_chk (by show ib (nI 0) _; rw [n_ib (by omega), hl, hcr]; simp) rfl, hat]
  refine Rs_V (r_begin (N := N) h hc) (fun S' h' => ?_)
  have := r_text_loop (N := N) hy (sN y).length 1 N h' (by omega) (by omega) (by rw [hcr]; simp)
  refine Rs_eq this ?_
  rw [hcr]
  rfl
end RPUT
