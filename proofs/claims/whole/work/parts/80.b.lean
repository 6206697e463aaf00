/-! how many names and letters a read may bring -/
def wb (c : Nat) : Bool := cL c || cD c
theorem wb_cB {c : Nat} (h : cB c = true) : wb c = false := by
  simp [cB] at h
  rcases h with ((h | h) | h) | h <;> subst h <;> decide
theorem bl_LM (g : Nat → Nat) (e : Nat) : ∀ n r i, e - i ≤ n → i ≤ e → bl g e n r i = e ∨ (r = false ∧ bl g e n r i = i) ∨ (i < bl g e n r i ∧ wb (g (bl g e n r i - 1)) = false) := by
  intro n
  induction n with
  | zero => intro r i h1 h2; left; simp [bl]; omega
  | succ n ih =>
    intro r i h1 h2
    by_cases hi : i < e
    · cases r with
      | true =>
        rw [bl_t hi]
        rcases ih (g i != 10) (i + 1) (by omega) (by omega) with h | ⟨h, h'⟩ | h
        · exact Or.inl h
        · right; right
          rw [h']
          have : g i = 10 := by simpa using h
          exact ⟨by omega, by rw [show i + 1 - 1 = i by omega, this]; decide⟩
        · exact Or.inr (Or.inr ⟨by omega, h.2⟩)
      | false =>
        by_cases h47 : i + 1 < e ∧ g i = 47 ∧ g (i + 1) = 47
        · rw [bl_r hi h47]
          rcases ih true (i + 1) (by omega) (by omega) with h | ⟨h, h'⟩ | h
          · exact Or.inl h
          · simp at h
          · exact Or.inr (Or.inr ⟨by omega, h.2⟩)
        · by_cases hb : cB (g i) = true
          · rw [bl_b hi h47 hb]
            rcases ih false (i + 1) (by omega) (by omega) with h | ⟨h, h'⟩ | h
            · exact Or.inl h
            · right; right
              rw [h']
              exact ⟨by omega, by rw [show i + 1 - 1 = i by omega]; exact wb_cB hb⟩
            · exact Or.inr (Or.inr ⟨by omega, h.2⟩)
          · rw [bl_n hi h47 hb]; exact Or.inr (Or.inl ⟨rfl, rfl⟩)
    · rw [bl_e hi]; left; omega
theorem we_stop (g : Nat → Nat) (e : Nat) : ∀ n i, e - i ≤ n → i ≤ e → we g e n i = e ∨ wb (g (we g e n i)) = false := by
  intro n
  induction n with
  | zero => intro i h1 h2; left; simp [we]; omega
  | succ n ih =>
    intro i h1 h2
    by_cases h : i < e ∧ (cL (g i) || cD (g i)) = true
    · rw [we_y h.1 h.2]; exact ih (i + 1) (by omega) (by omega)
    · rw [we_n h]
      by_cases hi : i < e
      · right
        cases hw : wb (g i) with
        | false => rfl
        | true => exact absurd ⟨hi, hw⟩ h
      · left; omega
theorem de_stop (g : Nat → Nat) (e : Nat) : ∀ n i, e - i ≤ n → i ≤ e → de g e n i = e ∨ cD (g (de g e n i)) = false := by
  intro n
  induction n with
  | zero => intro i h1 h2; left; simp [de]; omega
  | succ n ih =>
    intro i h1 h2
    by_cases h : i < e ∧ cD (g i) = true
    · rw [de_y h.1 h.2]; exact ih (i + 1) (by omega) (by omega)
    · rw [de_n h]
      by_cases hi : i < e
      · right
        cases hw : cD (g i) with
        | false => rfl
        | true => exact absurd ⟨hi, hw⟩ h
      · left; omega
def Q2 (d x : Nat) : Prop := (d = 61 ∨ d = 38 ∨ d = 124) ∨ (x ≤ 27 ∨ x = 29)
theorem ite_Q {Q : Nat → Prop} {c : Prop} [Decidable c] {a b : Nat} (h1 : c → Q a) (h2 : ¬ c → Q b) : Q (if c then a else b) := by
  by_cases h : c
  · rw [if_pos h]; exact h1 h
  · rw [if_neg h]; exact h2 h
theorem sg_Q (c d : Nat) : Q2 d (sg c d) := by
  unfold sg
  repeat' (first | (refine ite_Q ?_ ?_ <;> intro _) | (unfold Q2; omega))
theorem sg_two {c d : Nat} (h1 : ¬ (sg c d ≤ 27 ∨ sg c d = 29)) : wb d = false ∧ d ≠ 0 := by
  have hd : d = 61 ∨ d = 38 ∨ d = 124 := by
    rcases sg_Q c d with h | h
    · exact h
    · exact absurd h h1
  rcases hd with h | h | h <;> subst h <;> exact ⟨by decide, by decide⟩
theorem sg_n2 {c d : Nat} : sg c d ≠ 2 := by
  unfold sg
  repeat' (first | (refine ite_Q (Q := fun x => x ≠ 2) ?_ ?_ <;> intro _) | decide)
theorem tok_end {g : Nat → Nat} {e i k l v : Nat} (h : Tok g e i k l v) (hi : i < e) (hk : k ≠ 1) : i + l ≤ e ∧ (i + l = e ∨ wb (g (i + l)) = false ∨ (1 ≤ l ∧ wb (g (i + l - 1)) = false)) := by
  rcases h with ⟨h1, h2, h3, h4⟩ | ⟨h1, h2, h3, h4⟩ | ⟨h1, h2, h3, h4, h5⟩
  · have r := we_range g e (e - i) i (by omega)
    have e1 : i + l = we g e (e - i) i := by omega
    rw [e1]
    refine ⟨r.2, ?_⟩
    rcases we_stop g e (e - i) i (by omega) (by omega) with h | h
    · exact Or.inl h
    · exact Or.inr (Or.inl h)
  · have r := de_range g e (e - i) i (by omega)
    have e1 : i + l = de g e (e - i) i := by omega
    refine ⟨by omega, ?_⟩
    rcases h4 with ⟨_, h, _⟩ | ⟨hb, _, _⟩
    · exact absurd h hk
    · rcases de_stop g e (e - i) i (by omega) (by omega) with h | h
      · left; omega
      · by_cases hlt : i + l < e
        · right; left
          rw [← e1] at h
          have hc : cL (g (i + l)) = false := by
            cases hcl : cL (g (i + l)) with
            | false => rfl
            | true => exact absurd (Or.inr (Or.inr ⟨hlt, hcl⟩)) hb
          simp [wb, hc, h]
        · left; omega
  · by_cases hl : k ≤ 27 ∨ k = 29
    · rw [if_pos hl] at h4
      subst h4
      exact ⟨by omega, Or.inr (Or.inr ⟨by omega, by rw [show i + 1 - 1 = i by omega]; simp [wb, h1, h2]⟩)⟩
    · rw [if_neg hl] at h4
      subst h4
      rw [h3] at hl
      obtain ⟨w1, w2⟩ := sg_two hl
      by_cases hlt : i + 1 < e
      · rw [if_pos hlt] at w1
        exact ⟨by omega, Or.inr (Or.inr ⟨by omega, by rw [show i + 2 - 1 = i + 1 by omega]; exact w1⟩)⟩
      · rw [if_neg hlt] at w2; exact absurd rfl w2
def JJ (g : Nat → Nat) (e i : Nat) (T : List T4) : Prop := (∀ t ∈ T, t.1 = 2 → t.2.1 + t.2.2.1 ≤ i ∧ 1 ≤ t.2.2.1 ∧ wb (g (t.2.1 + t.2.2.1 - 1)) = true ∧ (t.2.1 = 0 ∨ wb (g (t.2.1 - 1)) = false) ∧ wk g t.2.1 t.2.2.1 = 2) ∧ T.Pairwise (fun a b => a.1 = 2 → b.1 = 2 → a.2.1 + a.2.2.1 + 1 ≤ b.2.1) ∧ (i = 0 ∨ i = e ∨ wb (g (i - 1)) = false ∨ wb (g i) = false)
theorem JJ_zero (g : Nat → Nat) (e : Nat) : JJ g e (bl g e e false 0) [] := by
  refine ⟨by simp, List.Pairwise.nil, ?_⟩
  rcases bl_LM g e e false 0 (by omega) (by omega) with h | ⟨_, h⟩ | h
  · exact Or.inr (Or.inl h)
  · exact Or.inl h
  · exact Or.inr (Or.inr (Or.inl h.2))
theorem JJ_step {g : Nat → Nat} {e : Nat} : ∀ i T k l v, JJ g e i T → i < e → Tok g e i k l v → k ≠ 1 → JJ g e (bl g e (e - (i + l)) false (i + l)) (T ++ [(k, i, l, v)]) := by
  intro i T k l v hJ hi hT hk
  obtain ⟨j1, j2, j3⟩ := hJ
  obtain ⟨t1, t2⟩ := tok_end hT hi hk
  have hbr := bl_range g e (e - (i + l)) false (i + l) t1
  -- a name at i
  have name : k = 2 → 1 ≤ l ∧ wb (g (i + l - 1)) = true ∧ wb (g i) = true ∧ wk g i l = 2 := by
    intro h2
    rcases hT with ⟨h1, h2', h3, h4⟩ | ⟨h1, h2', h3, h4⟩ | ⟨h1, h2', h3, h4, h5⟩
    · have hw : (cL (g i) || cD (g i)) = true := by simp [h1]
      have r := we_range g e (e - (i + 1)) (i + 1) (by omega)
      have ew : we g e (e - i) i = we g e (e - (i + 1)) (i + 1) := by
        rw [show e - i = (e - (i + 1)) + 1 by omega]; exact we_y hi hw
      have hin := we_in (g := g) (e := e) (e - i) i (i + l - 1) (by omega) (by omega)
      exact ⟨by omega, hin, hw, by rw [← h3]; exact h2⟩
    · rcases h4 with ⟨_, h, _⟩ | ⟨_, h, _⟩ <;> omega
    · exact absurd (h3 ▸ h2) sg_n2
  have left : k = 2 → (i = 0 ∨ wb (g (i - 1)) = false) := by
    intro h2
    have := (name h2).2.2.1
    rcases j3 with h | h | h | h
    · exact Or.inl h
    · omega
    · exact Or.inr h
    · rw [h] at this; simp at this
  refine ⟨fun t ht h2 => ?_, ?_, ?_⟩
  · rcases List.mem_append.mp ht with ht | ht
    · obtain ⟨q1, q2⟩ := j1 t ht h2
      exact ⟨by omega, q2⟩
    · simp only [List.mem_cons, List.not_mem_nil, or_false] at ht
      subst ht
      obtain ⟨n1, n2, n3, n4⟩ := name h2
      exact ⟨hbr.1, n1, n2, left h2, n4⟩
  · rw [List.pairwise_append]
    refine ⟨j2, by simp, fun a ha b hb h1 h2 => ?_⟩
    simp only [List.mem_cons, List.not_mem_nil, or_false] at hb
    subst hb
    obtain ⟨q1, q2, q3, _⟩ := j1 a ha h1
    show a.2.1 + a.2.2.1 + 1 ≤ i
    rcases left h2 with h | h
    · omega
    · by_cases he : a.2.1 + a.2.2.1 = i
      · rw [he, h] at q3; simp at q3
      · omega
  · rcases bl_LM g e (e - (i + l)) false (i + l) (by omega) t1 with h | ⟨_, h⟩ | h
    · exact Or.inr (Or.inl h)
    · rw [h]
      rcases t2 with h' | h' | h'
      · exact Or.inr (Or.inl h')
      · exact Or.inr (Or.inr (Or.inr h'))
      · exact Or.inr (Or.inr (Or.inl h'.2))
    · exact Or.inr (Or.inr (Or.inl h.2))
