/-! both scans -/
abbrev T4 : Type := Nat × Nat × Nat × Nat
def cT (t : T4) : Tk := (nI t.1, nI t.2.1, nI t.2.2.2)
/-- what a token of the text is: kind, place, length, value -/
def tokOK (g : Nat → Nat) (e : Nat) (t : T4) : Prop := t.1 < 35 ∧ t.2.1 + t.2.2.1 ≤ e ∧ (t.1 = 3 → t.2.2.2 = dg g t.2.1 t.2.2.1 ∧ t.2.2.2 < 2147483648 ∧ ∀ j, j < t.2.2.1 → cD (g (t.2.1 + j)) = true) ∧ (t.1 = 2 → we g e (e - t.2.1) t.2.1 = t.2.1 + t.2.2.1 ∧ cL (g t.2.1) = true ∧ t.2.1 < e ∧ t.2.2.1 ≤ 30)
/-- the reference's arrays hold the first tokens -/
def rT (S : rm_S) (T : List T4) : Prop := S.1 11 = nI T.length ∧ ∀ j (hj : j < T.length), S.2 4 j = kap T[j].1 ∧ S.2 5 j = nI T[j].2.1 ∧ S.2 6 j = nI T[j].2.2.1
def fT (S S' : rm_S) : Prop := (∀ x, x ≠ 11 → S'.1 x = S.1 x) ∧ (∀ o, o ≠ 4 → o ≠ 5 → o ≠ 6 → S'.2 o = S.2 o)
theorem fT_trans {S S' S'' : rm_S} (h : fT S S') (h' : fT S' S'') : fT S S'' := ⟨fun x hx => by rw [h'.1 x hx, h.1 x hx], fun o h1 h2 h3 => by rw [h'.2 o h1 h2 h3, h.2 o h1 h2 h3]⟩
theorem fT_GE {S S' : rm_S} {e : Nat} {g : Nat → Nat} (h : fT S S') (G : GE S e g) : GE S' e g := ⟨by rw [h.1 3 (by omega)]; exact G.1, fun i hi => by rw [h.2 1 (by omega) (by omega) (by omega)]; exact G.2.1 i hi, G.2.2⟩
theorem u_put {N : Nat} {k13 : Int32 → Int32 → rm_S → Option rm_S} {S : rm_S} {T : List T4} {i l k v : Nat} (hT : rT S T) (hl : T.length < 8002) (hk : k < 35) : ∃ S', k_RM_scan_420 N k13 (nI i) (nI l) (kap k) S = k_RM_scan_477 N k13 (nI i) (nI l) (if k = 1 ∨ k = 0 then 0 else 1) S' ∧ rT S' (T ++ [(k, i, l, v)]) ∧ fT S S' := by
  obtain ⟨h11, hA⟩ := hT
  refine ⟨rs_i (rs_a (rs_a (rs_a S 4 T.length (kap k)) 5 T.length (nI i)) 6 T.length (nI l)) 11 (nI (T.length + 1)), ?_, ⟨?_, ?_⟩, ?_, ?_⟩
  · have hb : ib (nI T.length) 8002 := by rw [n_ib (by omega)]; exact hl
    have hn : (nI T.length).toNatClampNeg = T.length := n_nat (by omega)
    have ea : nI T.length + 1 = nI (T.length + 1) := n_add _ 1
    unfold k_RM_scan_420
    rw [h11]
    refine X_chk hb (X_bndE (x' := nI T.length) h11 (X_chk hb (X_bndE (x' := nI T.length) h11 (X_chk hb (X_bndE (x' := nI T.length) h11 (X_bndE ea ?_))))))
    rw [hn]
    by_cases h1 : k = 1
    · have er : (if k = 1 ∨ k = 0 then (0 : Int32) else 1) = 0 := if_pos (Or.inl h1)
      rw [er]
      exact X_if (by rw [h1]; rfl) rfl
    · have hk1 : ¬ kap k = 1 := by
        show ¬ kap k = nI 1
        rw [kp_1 hk]; exact h1
      by_cases h0 : k = 0
      · have er : (if k = 1 ∨ k = 0 then (0 : Int32) else 1) = 0 := if_pos (Or.inr h0)
        rw [er]
        exact X_nif hk1 (X_if (by rw [h0]; rfl) rfl)
      · have er : (if k = 1 ∨ k = 0 then (0 : Int32) else 1) = 1 := if_neg (fun h => by omega)
        have hk0 : ¬ kap k = 0 := by
          show ¬ kap k = nI 0
          rw [kp_0 hk]; exact h0
        rw [er]
        exact X_nif hk1 (X_nif hk0 rfl)
  · rw [rs_i1, if_pos rfl]; simp
  · intro j hj
    simp only [List.length_append, List.length_cons, List.length_nil] at hj
    rw [rs_i2, rs_a2, rs_a2, rs_a2, rs_a2, rs_a2, rs_a2, rs_a2, rs_a2, rs_a2]
    by_cases e : j = T.length
    · subst e
      simp
    · have hj' : j < T.length := by omega
      simp only [e, and_false, if_false]
      rw [List.getElem_append_left hj']
      exact hA j hj'
  · intro x hx; rw [rs_i1, if_neg hx]; rfl
  · intro o h4 h5 h6
    funext x
    rw [rs_i2, rs_a2, if_neg (fun h => h6 h.1), rs_a2, if_neg (fun h => h5 h.1), rs_a2, if_neg (fun h => h4 h.1)]
theorem iteN {c : Prop} [Decidable c] {a b m : Nat} (ha : a ≠ m) (hb : b ≠ m) : (if c then a else b) ≠ m := by
  by_cases h : c
  · rw [if_pos h]; exact ha
  · rw [if_neg h]; exact hb
theorem iteO {c : Prop} [Decidable c] {a b : Nat} (ha : a < 28 ∨ a = 29) (hb : b < 28 ∨ b = 29) : (if c then a else b) < 28 ∨ (if c then a else b) = 29 := by
  by_cases h : c
  · rw [if_pos h]; exact ha
  · rw [if_neg h]; exact hb
section SCAN
variable {σ : mh_H} {tt bk bp bv bt room e N : Nat} {g : Nat → Nat}
theorem tok_ok {i k l v : Nat} (hi : i < e) (hT : Tok g e i k l v) : k ≠ 0 ∧ 0 < l ∧ i + l ≤ e ∧ k < 35 ∧ (k ≠ 1 → tokOK g e (k, i, l, v)) := by
  rcases hT with ⟨hc, el, ek, ev⟩ | ⟨hc, hd, el, hk⟩ | ⟨hc, hd, ek, el, ev⟩
  · have hr := we_range g e (e - i) i (by omega)
    have hw1 : we g e (e - i) i = we g e (e - (i + 1)) (i + 1) := by
      rw [show e - i = (e - (i + 1)) + 1 by omega, we_y hi (by rw [hc]; rfl)]
    have h2 := we_range g e (e - (i + 1)) (i + 1) (by omega)
    have hkl := kwi_le (wl g i l)
    have hwk : k = 1 ∨ k = 2 ∧ l ≤ 30 ∨ (4 ≤ k ∧ k < 12) := by
      rw [ek]; unfold wk
      by_cases h30 : l ≤ 30
      · rw [if_pos h30]
        by_cases h8 : kwi (wl g i l) = 8
        · rw [if_pos h8]; exact Or.inr (Or.inl ⟨rfl, h30⟩)
        · rw [if_neg h8]; exact Or.inr (Or.inr ⟨by omega, by omega⟩)
      · rw [if_neg h30]; exact Or.inl rfl
    refine ⟨by omega, by omega, by omega, by omega, fun h1 => ⟨by simp only; omega, by simp only; omega, fun h3 => by simp only at h3; omega, fun h2' => ⟨by simp only; omega, hc, hi, by simp only at h2' ⊢; omega⟩⟩⟩
  · have hr := de_range g e (e - i) i (by omega)
    have hw1 : de g e (e - i) i = de g e (e - (i + 1)) (i + 1) := by
      rw [show e - i = (e - (i + 1)) + 1 by omega, de_y hi hd]
    have h2 := de_range g e (e - (i + 1)) (i + 1) (by omega)
    refine ⟨by omega, by omega, by omega, by omega, fun h1 => ⟨by simp only; omega, by simp only; omega, fun h3 => ?_, fun h2' => by simp only at h2'; omega⟩⟩
    rcases hk with ⟨_, hk1, _⟩ | ⟨hb, _, hv⟩
    · exact absurd hk1 h1
    · refine ⟨hv, ?_, fun j hj => de_in (g := g) (e := e) (e - i) i (i + j) (by omega) (by simp only at hj; omega)⟩
      have : ¬ 2147483648 ≤ dg g i l := fun h => hb (Or.inl (by rw [show i + l - i = l by omega]; exact h))
      simp only; omega
  · have hk35 : k < 35 := by rw [ek]; exact sg_lt _ _
    have hk0 : k ≠ 0 ∧ k ≠ 2 ∧ k ≠ 3 ∧ (28 ≤ k ∧ k ≠ 29 → i + 1 < e) := by
      rw [ek]
      by_cases h1 : i + 1 < e
      · rw [if_pos h1]
        refine ⟨?_, ?_, ?_, fun _ => h1⟩ <;> (unfold sg; repeat' (with_reducible apply iteN)) <;> omega
      · rw [if_neg h1]
        refine ⟨?_, ?_, ?_, fun h => ?_⟩
        · unfold sg; repeat' (with_reducible apply iteN)
          all_goals omega
        · unfold sg; repeat' (with_reducible apply iteN)
          all_goals omega
        · unfold sg; repeat' (with_reducible apply iteN)
          all_goals omega
        · exfalso
          have : sg (g i) 0 < 28 ∨ sg (g i) 0 = 29 := by
            unfold sg
            simp only [show ((0 : Nat) = 61) = False by simp, show ((0 : Nat) = 38) = False by simp, show ((0 : Nat) = 124) = False by simp, if_false]
            repeat' (with_reducible apply iteO)
            all_goals omega
          omega
    have hl : (l = 1 ∧ (k ≤ 27 ∨ k = 29)) ∨ (l = 2 ∧ ¬ (k ≤ 27 ∨ k = 29)) := by
      by_cases h : k ≤ 27 ∨ k = 29
      · exact Or.inl ⟨by rw [el, if_pos h], h⟩
      · exact Or.inr ⟨by rw [el, if_neg h], h⟩
    have hle : i + l ≤ e := by
      rcases hl with ⟨h1, _⟩ | ⟨h2, h3⟩
      · omega
      · have := hk0.2.2.2 ⟨by omega, by omega⟩; omega
    refine ⟨hk0.1, by omega, hle, hk35, fun h1 => ⟨hk35, hle, fun h3 => absurd h3 hk0.2.2.1, fun h2' => absurd h2' hk0.2.1⟩⟩
end SCAN
