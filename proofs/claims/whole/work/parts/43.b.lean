/-! THE REFERENCE'S TREES: one node more -/
abbrev TE : Type := Int32 × Int32 × Int32 × Int32 × Int32
def pre : Fo → Nat → Int32 → List TE
  | .leaf, _, _ => []
  | .inner _ x _ c m, s, w => (nI x.1, nI x.2.1, x.2.2, w, nI (siz c + 1)) :: (pre c (s + 1) (nI s) ++ pre m (s + 1 + siz c) w)
theorem pre_len : ∀ (f : Fo) (s : Nat) (w : Int32), (pre f s w).length = siz f := by
  intro f
  induction f with
  | leaf => intro s w; rfl
  | inner i x u c m ic im => intro s w; simp only [pre, siz, List.length_cons, List.length_append, ic, im]; omega
theorem pre_app : ∀ (f g : Fo) (s : Nat) (w : Int32), pre (app f g) s w = pre f s w ++ pre g (s + siz f) w := by
  intro f
  induction f with
  | leaf => intro g s w; simp [app, pre, siz]
  | inner i x u c m ic im =>
    intro g s w
    simp only [app, pre, siz, im, List.cons_append, List.append_assoc]
    have e : s + 1 + siz c + siz m = s + (siz c + 1 + siz m) := by omega
    rw [e]
def TR (S : rm_S) (t z : Nat) (L : List TE) : Prop := S.2 19 t = nI L.length ∧ ∀ j (hj : j < L.length), S.2 14 (z + j) = L[j].1 ∧ S.2 15 (z + j) = L[j].2.1 ∧ S.2 16 (z + j) = L[j].2.2.1 ∧ S.2 17 (z + j) = L[j].2.2.2.1 ∧ S.2 18 (z + j) = L[j].2.2.2.2
/-- the wholes round a node, from the inmost -/
def Ch (W : Nat → Int32) (z : Nat) : List Nat → Int32 → Prop
  | [], w => w = -1
  | a :: r, w => w = nI a ∧ a < 13000 ∧ (∀ b ∈ r, b < a) ∧ Ch W z r (W (z + a))
theorem Ch_set {W W' : Nat → Int32} {z : Nat} : ∀ {ch : List Nat} {w : Int32}, (∀ a ∈ ch, W' (z + a) = W (z + a)) → Ch W z ch w → Ch W' z ch w := by
  intro ch
  induction ch with
  | nil => intro w _ h; exact h
  | cons a r ih =>
    intro w hs h
    refine ⟨h.1, h.2.1, h.2.2.1, ?_⟩
    rw [hs a (by simp)]
    exact ih (fun b hb => hs b (by simp [hb])) h.2.2.2
theorem Ch_lt {W : Nat → Int32} {z : Nat} : ∀ {ch : List Nat} {w : Int32}, Ch W z ch w → ∀ a ∈ ch, a < 13000 := by
  intro ch
  induction ch with
  | nil => intro w _ a ha; cases ha
  | cons b r ih =>
    intro w h a ha
    rcases List.mem_cons.mp ha with rfl | ha
    · exact h.2.1
    · exact ih h.2.2.2 a ha
section ADD
variable {N t z cnt : Nat}
theorem add_loop (ht : t ≤ 1) (hz : z = 13000 * t) (hN : 20000 ≤ N) (hcnt : cnt < 20000) : ∀ (ch : List Nat) (w : Int32) (fu : Nat) (S : rm_S), ch.length < fu → Ch (S.2 17) (z) ch w → S.2 19 t = nI cnt →
    ∃ S', k_RM_add_60 N fu (nI t) w S = some (nI cnt, S') ∧ S'.1 = S.1 ∧ (∀ o, o ≠ 18 → o ≠ 19 → S'.2 o = S.2 o) ∧ (∀ x, S'.2 19 x = if x = t then nI (cnt + 1) else S.2 19 x) ∧ (∀ x, S'.2 18 x = if ∃ a ∈ ch, x = z + a then S.2 18 x + 1 else S.2 18 x) := by
  intro ch
  induction ch with
  | nil =>
    intro w fu S hfu hC h19
    obtain ⟨fu, rfl⟩ : ∃ x, fu = x + 1 := ⟨fu - 1, by omega⟩
    have hw : w = -1 := hC
    have ht2 : t < 2 := by omega
    refine ⟨rs_a S 19 t (nI (cnt + 1)), ?_, rfl, fun o h18 h19 => ?_, fun x => ?_, fun x => ?_⟩
    · have q1 : (rs_a S 19 t (nI (cnt + 1))).2 19 t = nI (cnt + 1) := by rw [rs_a2, if_pos ⟨rfl, rfl⟩]
      have s1 : nI (cnt + 1) - nI 1 = nI cnt := n_sub (by omega)
      subst hw
      unfold k_RM_add_60
      refine X_if rfl ?_
      simp (disch := omega) only [e_chkT,e_bnd,e_calI,e_calV,e_calP,e_rfO,e_calT,e_calTt, lit,n_add,n_le,n_lt,n_eq,n_nat,n_ib, ht2, h19, q1, s1]
    · funext x; rw [rs_a2, if_neg (by rintro ⟨h, _⟩; exact h19 h)]
    · rw [rs_a2]; by_cases h : x = t <;> simp [h]
    · rw [rs_a2, if_neg (by rintro ⟨h, _⟩; cases h), if_neg (by rintro ⟨a, ha, _⟩; cases ha)]
  | cons a r ih =>
    intro w fu S hfu hC h19
    obtain ⟨fu, rfl⟩ : ∃ x, fu = x + 1 := ⟨fu - 1, by omega⟩
    obtain ⟨hw, ha, hr, hC'⟩ := hC
    have b1 : z + a < 26000 := by omega
    have hzt : nI 13000 * nI t = nI z := by rw [n_mul, hz]
    have hS1 : ∀ o x, o ≠ 18 → (rs_a S 18 (z + a) (S.2 18 (z + a) + nI 1)).2 o x = S.2 o x := fun o x ho => by rw [rs_a2, if_neg (by rintro ⟨h, _⟩; exact ho h)]
    obtain ⟨S', x1, x2, x3, x4, x5⟩ := ih (S.2 17 (z + a)) fu (rs_a S 18 (z + a) (S.2 18 (z + a) + nI 1)) (by simp at hfu; omega) (Ch_set (fun b _ => hS1 17 _ (by omega)) hC') (by rw [hS1 19 _ (by omega)]; exact h19)
    refine ⟨S', ?_, x2, fun o h18 h19 => ?_, fun x => ?_, fun x => ?_⟩
    · rw [← x1]
      subst hw
      have q1 : (rs_a S 18 (z + a) (S.2 18 (z + a) + nI 1)).2 17 (z + a) = S.2 17 (z + a) := hS1 17 _ (by omega)
      simp (disch := omega) only [k_RM_add_60, e_chkT,e_bnd,e_calI,e_calV,e_calP,e_rfO,e_calT,e_calTt, lit, hzt, n_add, n_nat, n_ib, n_m1, b1, q1, if_false]
    · rw [x3 o h18 h19]; funext x; exact hS1 o x h18
    · rw [x4, hS1 19 _ (by omega)]
    · rw [x5, rs_a2]
      by_cases hx : x = z + a
      · subst hx
        have hno : ¬ ∃ b ∈ r, z + a = z + b := by rintro ⟨b, hb, e⟩; have := hr b hb; omega
        rw [if_neg hno, if_pos ⟨rfl, rfl⟩, if_pos ⟨a, by simp, rfl⟩]; rfl
      · rw [if_neg (show ¬ (18 = 18 ∧ x = z + a) by rintro ⟨_, h⟩; exact hx h)]
        by_cases hb : ∃ b ∈ r, x = z + b
        · obtain ⟨b, hb1, hb2⟩ := hb
          rw [if_pos ⟨b, hb1, hb2⟩, if_pos ⟨b, by simp [hb1], hb2⟩]
        · rw [if_neg hb, if_neg]
          rintro ⟨b, hb1, hb2⟩
          rcases List.mem_cons.mp hb1 with rfl | hb1
          · exact hx hb2
          · exact hb ⟨b, hb1, hb2⟩
/-- the sizes of the wholes grow -/
def inc (L : List TE) (ch : List Nat) (m : Nat) : List TE := L.mapIdx fun j e => if j ∈ ch then (e.1, e.2.1, e.2.2.1, e.2.2.2.1, e.2.2.2.2 + nI m) else e
theorem inc_len (L : List TE) (ch : List Nat) (m : Nat) : (inc L ch m).length = L.length := by simp [inc]
theorem inc_get (L : List TE) (ch : List Nat) (m j : Nat) (h : j < (inc L ch m).length) : (inc L ch m)[j] = if j ∈ ch then ((L[j]'(by rw [inc_len] at h; exact h)).1, (L[j]'(by rw [inc_len] at h; exact h)).2.1, (L[j]'(by rw [inc_len] at h; exact h)).2.2.1, (L[j]'(by rw [inc_len] at h; exact h)).2.2.2.1, (L[j]'(by rw [inc_len] at h; exact h)).2.2.2.2 + nI m) else L[j]'(by rw [inc_len] at h; exact h) := by simp [inc]
theorem add_ok {S : rm_S} {L : List TE} {ch : List Nat} {w k p v : Int32} (ht : t ≤ 1) (hz : z = 13000 * t) (hN : 20000 ≤ N) (hT : TR S t z L) (hL : L.length < 13000) (hC : Ch (S.2 17) (z) ch w) (hch : ∀ a ∈ ch, a < L.length) (hcl : ch.length < 15000) :
    ∃ S', f_RM_add N (nI t) k p v w S = some (nI L.length, S') ∧ TR S' t z (inc L ch 1 ++ [(k, p, v, w, 1)]) ∧ S'.1 = S.1 ∧ (∀ o, (o < 14 ∨ 19 < o) → S'.2 o = S.2 o) ∧ (∀ o x, (x < z ∨ z + 13000 ≤ x) → o ≠ 19 → S'.2 o x = S.2 o x) ∧ (∀ x, x ≠ t → S'.2 19 x = S.2 19 x) := by
  have ht2 : t < 2 := by omega
  have b1 : z + L.length < 26000 := by omega
  have hzt : nI 13000 * nI t = nI z := by rw [n_mul, hz]
  have h19 := hT.1
  -- the node's own fields
  have hw1 : ∀ o x, o ≠ 14 → o ≠ 15 → o ≠ 16 → o ≠ 17 → o ≠ 18 → (rs_a (rs_a (rs_a (rs_a (rs_a S 14 (z + L.length) k) 15 (z + L.length) p) 16 (z + L.length) v) 17 (z + L.length) w) 18 (z + L.length) 1).2 o x = S.2 o x := by
    intro o x h1 h2 h3 h4 h5
    rw [rs_a2, if_neg (by rintro ⟨h, _⟩; exact h5 h), rs_a2, if_neg (by rintro ⟨h, _⟩; exact h4 h), rs_a2, if_neg (by rintro ⟨h, _⟩; exact h3 h), rs_a2, if_neg (by rintro ⟨h, _⟩; exact h2 h), rs_a2, if_neg (by rintro ⟨h, _⟩; exact h1 h)]
  have hw2 : ∀ o x, x ≠ z + L.length → (rs_a (rs_a (rs_a (rs_a (rs_a S 14 (z + L.length) k) 15 (z + L.length) p) 16 (z + L.length) v) 17 (z + L.length) w) 18 (z + L.length) 1).2 o x = S.2 o x := by
    intro o x hx
    simp only [rs_a2, hx, and_false, if_false]
  have hw3 : (rs_a (rs_a (rs_a (rs_a (rs_a S 14 (z + L.length) k) 15 (z + L.length) p) 16 (z + L.length) v) 17 (z + L.length) w) 18 (z + L.length) 1).2 14 (z + L.length) = k ∧ (rs_a (rs_a (rs_a (rs_a (rs_a S 14 (z + L.length) k) 15 (z + L.length) p) 16 (z + L.length) v) 17 (z + L.length) w) 18 (z + L.length) 1).2 15 (z + L.length) = p ∧ (rs_a (rs_a (rs_a (rs_a (rs_a S 14 (z + L.length) k) 15 (z + L.length) p) 16 (z + L.length) v) 17 (z + L.length) w) 18 (z + L.length) 1).2 16 (z + L.length) = v ∧ (rs_a (rs_a (rs_a (rs_a (rs_a S 14 (z + L.length) k) 15 (z + L.length) p) 16 (z + L.length) v) 17 (z + L.length) w) 18 (z + L.length) 1).2 17 (z + L.length) = w ∧ (rs_a (rs_a (rs_a (rs_a (rs_a S 14 (z + L.length) k) 15 (z + L.length) p) 16 (z + L.length) v) 17 (z + L.length) w) 18 (z + L.length) 1).2 18 (z + L.length) = 1 := by
    simp [rs_a2]
  have e1 : f_RM_add N (nI t) k p v w S = k_RM_add_60 N N (nI t) w (rs_a (rs_a (rs_a (rs_a (rs_a S 14 (z + L.length) k) 15 (z + L.length) p) 16 (z + L.length) v) 17 (z + L.length) w) 18 (z + L.length) 1) := by
    simp (disch := omega) only [f_RM_add, e_chkT,e_bnd,e_calI,e_calV,e_calP,e_rfO,e_calT,e_calTt, lit, hzt, n_add, n_nat, n_ib, ht2, h19, b1]
  generalize hX : rs_a (rs_a (rs_a (rs_a (rs_a S 14 (z + L.length) k) 15 (z + L.length) p) 16 (z + L.length) v) 17 (z + L.length) w) 18 (z + L.length) 1 = X at hw1 hw2 hw3 e1
  have hX1 : X.1 = S.1 := by rw [← hX]; rfl
  obtain ⟨S', x1, x2, x3, x4, x5⟩ := add_loop (N := N) (t := t) (cnt := L.length) ht hz hN (by omega) ch w N X (by omega) (Ch_set (fun a ha => hw2 17 _ (by have := hch a ha; omega)) hC) (by rw [hw1 19 _ (by omega) (by omega) (by omega) (by omega) (by omega)]; exact h19)
  refine ⟨S', by rw [e1, x1], ⟨?_, fun j hj => ?_⟩, by rw [x2, hX1], fun o ho => ?_, fun o x hx ho => ?_, fun x hx => ?_⟩
  · rw [x4, if_pos rfl]; simp [inc_len]
  · have hlen : (inc L ch 1).length = L.length := inc_len L ch 1
    have hj' : j ≤ L.length := by simp [hlen] at hj; omega
    by_cases e : j = L.length
    · subst e
      have hno : ¬ ∃ a ∈ ch, z + L.length = z + a := by rintro ⟨a, ha, h⟩; have := hch a ha; omega
      have hg : (inc L ch 1 ++ [(k, p, v, w, (1 : Int32))])[L.length]'hj = (k, p, v, w, 1) := by
        rw [List.getElem_append_right (by omega)]; simp [hlen]
      rw [hg, x5, if_neg hno, x3 14 (by omega) (by omega), x3 15 (by omega) (by omega), x3 16 (by omega) (by omega), x3 17 (by omega) (by omega)]
      exact hw3
    · have hjL : j < L.length := by omega
      have hne : z + j ≠ z + L.length := by omega
      have hg : (inc L ch 1 ++ [(k, p, v, w, (1 : Int32))])[j]'hj = (inc L ch 1)[j]'(by omega) := List.getElem_append_left (by omega)
      have hTj := hT.2 j hjL
      rw [hg, inc_get, x5, x3 14 (by omega) (by omega), x3 15 (by omega) (by omega), x3 16 (by omega) (by omega), x3 17 (by omega) (by omega), hw2 14 _ hne, hw2 15 _ hne, hw2 16 _ hne, hw2 17 _ hne, hw2 18 _ hne]
      by_cases hm : j ∈ ch
      · rw [if_pos hm, if_pos ⟨j, hm, rfl⟩]
        exact ⟨hTj.1, hTj.2.1, hTj.2.2.1, hTj.2.2.2.1, by rw [hTj.2.2.2.2]; rfl⟩
      · rw [if_neg hm, if_neg (by rintro ⟨a, ha, h⟩; have : j = a := by omega
                                  subst this; exact hm ha)]
        exact hTj
  · rw [x3 o (by omega) (by omega)]; funext x; exact hw1 o x (by omega) (by omega) (by omega) (by omega) (by omega)
  · by_cases h18 : o = 18
    · subst h18
      rw [x5, if_neg (by rintro ⟨a, ha, h⟩; have := hch a ha; omega), hw2 18 x (by omega)]
    · rw [x3 o h18 ho, hw2 o x (by omega)]
  · rw [x4, if_neg hx, hw1 19 _ (by omega) (by omega) (by omega) (by omega) (by omega)]
end ADD
