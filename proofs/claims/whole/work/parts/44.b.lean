/-! THE REFERENCE KEEPS A TREE -/
def res (tx : Nat → List Int32) : Fo → List (List Int32) → Fo × List (List Int32)
  | .leaf, nt => (.leaf, nt)
  | .inner i x u c m, nt => (.inner i (x.1, x.2.1, if x.1 = 13 then nI (fnd (addw nt (tx x.2.2.toNatClampNeg)) (tx x.2.2.toNatClampNeg)) else x.2.2) u (res tx c (if x.1 = 13 then addw nt (tx x.2.2.toNatClampNeg) else nt)).1 (res tx m (res tx c (if x.1 = 13 then addw nt (tx x.2.2.toNatClampNeg) else nt)).2).1, (res tx m (res tx c (if x.1 = 13 then addw nt (tx x.2.2.toNatClampNeg) else nt)).2).2)
theorem res_siz (tx : Nat → List Int32) : ∀ (f : Fo) (nt : List (List Int32)), siz (res tx f nt).1 = siz f := by
  intro f
  induction f with
  | leaf => intro nt; rfl
  | inner i x u c m ic im => intro nt; simp only [res, siz, ic, im]
theorem res_app (tx : Nat → List Int32) : ∀ (f g : Fo) (nt : List (List Int32)), res tx (app f g) nt = (app (res tx f nt).1 (res tx g (res tx f nt).2).1, (res tx g (res tx f nt).2).2) := by
  intro f
  induction f with
  | leaf => intro g nt; rfl
  | inner i x u c m ic im => intro g nt; simp only [app, res, im]
theorem addw_ext (nt : List (List Int32)) (w : List Int32) : ∃ e, addw nt w = nt ++ e := by
  unfold addw
  by_cases h : w ∈ nt
  · exact ⟨[], by rw [if_pos h, List.append_nil]⟩
  · exact ⟨[w], by rw [if_neg h]⟩
theorem res_ext (tx : Nat → List Int32) : ∀ (f : Fo) (nt : List (List Int32)), ∃ e, (res tx f nt).2 = nt ++ e := by
  intro f
  induction f with
  | leaf => intro nt; exact ⟨[], by simp [res]⟩
  | inner i x u c m ic im =>
    intro nt
    simp only [res]
    obtain ⟨e1, h1⟩ : ∃ e, (if x.1 = 13 then addw nt (tx x.2.2.toNatClampNeg) else nt) = nt ++ e := by
      by_cases h : x.1 = 13
      · rw [if_pos h]; exact addw_ext _ _
      · rw [if_neg h]; exact ⟨[], by simp⟩
    obtain ⟨e2, h2⟩ := ic (nt ++ e1)
    obtain ⟨e3, h3⟩ := im ((nt ++ e1) ++ e2)
    rw [h1, h2, h3]
    exact ⟨e1 ++ e2 ++ e3, by simp⟩
theorem st_ext (nt e : List (List Int32)) : st nt nt.length ≤ st (nt ++ e) (nt ++ e).length := by
  have h1 : st (nt ++ e) nt.length = st nt nt.length := by simp [st]
  rw [← h1]
  exact st_mono _ (by simp) (Nat.le_refl _)
/-- every name of a tree stands among the tokens -/
def nmS (S : rm_S) (tx : Nat → List Int32) : Fo → Prop
  | .leaf => True
  | .inner _ x _ c m => (x.1 = 13 → ∃ j p l, x.2.2 = nI j ∧ j < 8002 ∧ S.2 5 j = nI p ∧ S.2 6 j = nI l ∧ p + l ≤ 8000 ∧ tx j = wd (S.2 1) p l) ∧ nmS S tx c ∧ nmS S tx m
theorem nmS_set {S S' : rm_S} {tx : Nat → List Int32} (h : ∀ o, o < 13 → S'.2 o = S.2 o) : ∀ {f : Fo}, nmS S tx f → nmS S' tx f := by
  intro f
  induction f with
  | leaf => intro _; trivial
  | inner i x u c m ic im =>
    intro hf
    refine ⟨fun h13 => ?_, ic hf.2.1, im hf.2.2⟩
    obtain ⟨j, p, l, h1, h2, h3, h4, h5, h6⟩ := hf.1 h13
    exact ⟨j, p, l, h1, h2, by rw [h 5 (by omega)]; exact h3, by rw [h 6 (by omega)]; exact h4, h5, by rw [h 1 (by omega)]; exact h6⟩
/-- only the root may be the last -/
def nr (r : Nat) : Fo → Prop
  | .leaf => True
  | .inner i _ _ c m => (m ≠ .leaf → i ≠ r) ∧ nr r c ∧ nr r m
/-- kinds are small, numbers of drafts too -/
def sm : Fo → Prop
  | .leaf => True
  | .inner i x _ c m => i < 26000 ∧ x.1 < 100 ∧ sm c ∧ sm m
/-- what keeping leaves as it was -/
def KV (t z top : Nat) (S S' : rm_S) : Prop := (∀ x, x ≠ 31 → S'.1 x = S.1 x) ∧ (∀ o, o < 13 → S'.2 o = S.2 o) ∧ (∀ o x, 14 ≤ o → o ≤ 18 → (x < z ∨ z + 13000 ≤ x) → S'.2 o x = S.2 o x) ∧ (∀ x, x ≠ t → S'.2 19 x = S.2 19 x) ∧ (∀ x, x < top → S'.2 13 x = S.2 13 x)
theorem KV_refl {t z top : Nat} {S : rm_S} : KV t z top S S := ⟨fun _ _ => rfl, fun _ _ => rfl, fun _ _ _ _ _ => rfl, fun _ _ => rfl, fun _ _ => rfl⟩
theorem KV_trans {t z top top' : Nat} {S S' S'' : rm_S} (h : KV t z top S S') (h' : KV t z top' S' S'') (hl : top ≤ top') : KV t z top S S'' :=
  ⟨fun x hx => by rw [h'.1 x hx, h.1 x hx], fun o ho => by rw [h'.2.1 o ho, h.2.1 o ho], fun o x h1 h2 h3 => by rw [h'.2.2.1 o x h1 h2 h3, h.2.2.1 o x h1 h2 h3], fun x hx => by rw [h'.2.2.2.1 x hx, h.2.2.2.1 x hx], fun x hx => by rw [h'.2.2.2.2 x (by omega), h.2.2.2.2 x hx]⟩
theorem inc_inc (L : List TE) (ch : List Nat) (a b : Nat) : inc (inc L ch a) ch b = inc L ch (a + b) := by
  apply List.ext_getElem
  · simp [inc_len]
  · intro j h1 h2
    rw [inc_get, inc_get, inc_get]
    by_cases h : j ∈ ch
    · simp only [if_pos h]; rw [← n_add, Int32.add_assoc]
    · simp only [if_neg h]
theorem inc_app (L M : List TE) (ch : List Nat) (a : Nat) (h : ∀ x ∈ ch, x < L.length) : inc (L ++ M) ch a = inc L ch a ++ M := by
  apply List.ext_getElem
  · simp [inc_len]
  · intro j h1 h2
    rw [inc_get]
    by_cases hj : j < L.length
    · have hR : (inc L ch a ++ M)[j]'h2 = (inc L ch a)[j]'(by rw [inc_len]; exact hj) := List.getElem_append_left (by rw [inc_len]; exact hj)
      rw [hR, inc_get]
      simp only [List.getElem_append_left hj]
    · have hn : j ∉ ch := fun hm => hj (h j hm)
      have hl : (inc L ch a).length ≤ j := by rw [inc_len]; omega
      rw [if_neg hn, List.getElem_append_right (by omega), List.getElem_append_right hl]
      simp only [inc_len]
theorem inc_cons (L : List TE) (e : TE) (ch : List Nat) (a : Nat) (h : ∀ x ∈ ch, x < L.length) : inc (L ++ [e]) (L.length :: ch) a = inc L ch a ++ [(e.1, e.2.1, e.2.2.1, e.2.2.2.1, e.2.2.2.2 + nI a)] := by
  apply List.ext_getElem
  · simp [inc_len]
  · intro j h1 h2
    rw [inc_get]
    by_cases hj : j < L.length
    · have hR : (inc L ch a ++ [(e.1, e.2.1, e.2.2.1, e.2.2.2.1, e.2.2.2.2 + nI a)])[j]'h2 = (inc L ch a)[j]'(by rw [inc_len]; exact hj) := List.getElem_append_left (by rw [inc_len]; exact hj)
      rw [hR, inc_get]
      have hne : j ≠ L.length := by omega
      simp only [List.getElem_append_left hj, List.mem_cons, hne, false_or]
    · have hjl : j = L.length := by simp [inc_len] at h1; omega
      subst hjl
      have hl : (inc L ch a).length ≤ L.length := by rw [inc_len]; exact Nat.le_refl _
      have hR : (inc L ch a ++ [(e.1, e.2.1, e.2.2.1, e.2.2.2.1, e.2.2.2.2 + nI a)])[L.length]'h2 = (e.1, e.2.1, e.2.2.1, e.2.2.2.1, e.2.2.2.2 + nI a) := by
        rw [List.getElem_append_right hl]; simp [inc_len]
      rw [hR]; simp
theorem inc_zero (L : List TE) (ch : List Nat) : inc L ch 0 = L := by
  apply List.ext_getElem
  · simp [inc_len]
  · intro j h1 h2
    rw [inc_get]
    have e : ∀ x : Int32, x + nI 0 = x := fun x => by
      show x + 0 = x
      exact Int32.add_zero x
    by_cases h : j ∈ ch
    · simp only [if_pos h, e]
    · rw [if_neg h]
