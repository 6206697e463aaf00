/-! the bound on names -/
def Wt (nt : List (List Int32)) : Nat := (nt.map (fun w => w.length + 1)).sum
theorem Wt_app (a b : List (List Int32)) : Wt (a ++ b) = Wt a + Wt b := by simp [Wt]
theorem sub_sum {α β : Type} (f : β → α) (h : α → Nat) : ∀ (E : List α) (M : List β), E.Nodup → (∀ x ∈ E, ∃ m ∈ M, f m = x) → (E.map h).sum ≤ (M.map (fun m => h (f m))).sum := by
  intro E
  induction E with
  | nil => intro M _ _; simp
  | cons x r ih =>
    intro M hN hE
    obtain ⟨m, hm, hf⟩ := hE x (by simp)
    obtain ⟨s, t, rfl⟩ := List.append_of_mem hm
    rw [List.nodup_cons] at hN
    have := ih (s ++ t) hN.2 (fun y hy => by
      obtain ⟨m', hm', hf'⟩ := hE y (by simp [hy])
      refine ⟨m', ?_, hf'⟩
      simp only [List.mem_append, List.mem_cons] at hm' ⊢
      rcases hm' with h | h | h
      · exact Or.inl h
      · subst h
        rw [hf] at hf'
        subst hf'
        exact absurd hy hN.1
      · exact Or.inr h)
    simp only [List.map_append, List.map_cons, List.sum_append, List.sum_cons] at this ⊢
    rw [hf]; omega
theorem sep_sum : ∀ (M : List T4) (s e : Nat), M.Pairwise (fun a b => a.2.1 + a.2.2.1 + 1 ≤ b.2.1) → (∀ t ∈ M, s ≤ t.2.1 ∧ t.2.1 + t.2.2.1 ≤ e) → (M.map (fun t => t.2.2.1 + 1)).sum ≤ e + 1 - s := by
  intro M
  induction M with
  | nil => intro s e _ _; simp
  | cons x r ih =>
    intro s e hP hM
    rw [List.pairwise_cons] at hP
    obtain ⟨h1, h2⟩ := hM x (by simp)
    have := ih (x.2.1 + x.2.2.1 + 1) e hP.2 (fun t ht => ⟨hP.1 t ht, (hM t (by simp [ht])).2⟩)
    simp only [List.map_cons, List.sum_cons]
    omega
theorem addw_new (nt : List (List Int32)) (w : List Int32) : ∃ E, addw nt w = nt ++ E ∧ (nt.Nodup → (nt ++ E).Nodup) ∧ ∀ x ∈ E, x ∉ nt ∧ x = w := by
  unfold addw
  by_cases h : w ∈ nt
  · rw [if_pos h]; exact ⟨[], by simp, by simp, by simp⟩
  · rw [if_neg h]
    refine ⟨[w], rfl, fun hd => ?_, fun x hx => ?_⟩
    · rw [List.nodup_append]
      refine ⟨hd, by simp, fun x hx y hy e => ?_⟩
      simp at hy
      subst hy; subst e; exact h hx
    · simp at hx; subst hx; exact ⟨h, rfl⟩
theorem res_new {n : Nat} {tk tp : Nat → Nat} (tx : Nat → List Int32) (hn : n ≤ 8001) : ∀ (f : Fo) (nt : List (List Int32)), wf n tk tp f → ∃ E, (res tx f nt).2 = nt ++ E ∧ (nt.Nodup → (nt ++ E).Nodup) ∧ ∀ w ∈ E, w ∉ nt ∧ ∃ j, j < n ∧ gd tk j ∧ tk j = 2 ∧ w = tx j := by
  intro f
  induction f with
  | leaf => intro nt _; exact ⟨[], by simp [res], by simp, by simp⟩
  | inner i x u c m ic im =>
    intro nt h
    obtain ⟨h1, ⟨h2, h3⟩, _, h4, h5⟩ := h
    have h0 : ∃ E, (if x.1 = 13 then addw nt (tx x.2.2.toNatClampNeg) else nt) = nt ++ E ∧ (nt.Nodup → (nt ++ E).Nodup) ∧ ∀ w ∈ E, w ∉ nt ∧ ∃ j, j < n ∧ gd tk j ∧ tk j = 2 ∧ w = tx j := by
      by_cases hk : x.1 = 13
      · rw [if_pos hk]
        obtain ⟨E, a1, a2, a3⟩ := addw_new nt (tx x.2.2.toNatClampNeg)
        obtain ⟨j, hj, hg, h2', hv, hp⟩ := h2 hk
        refine ⟨E, a1, a2, fun w hw => ?_⟩
        obtain ⟨b1, b2⟩ := a3 w hw
        rw [hv, n_nat (by omega)] at b2
        exact ⟨b1, j, hj, hg, h2', b2⟩
      · rw [if_neg hk]; exact ⟨[], by simp, by simp, by simp⟩
    obtain ⟨E0, a1, a2, a3⟩ := h0
    obtain ⟨E1, b1, b2, b3⟩ := ic (nt ++ E0) h4
    obtain ⟨E2, d1, d2, d3⟩ := im (nt ++ E0 ++ E1) h5
    refine ⟨E0 ++ E1 ++ E2, ?_, fun hd => ?_, fun w hw => ?_⟩
    · simp only [res, a1, b1, d1]
      simp only [List.append_assoc]
    · have := d2 (b2 (a2 hd))
      simpa only [List.append_assoc] using this
    · simp only [List.mem_append] at hw
      rcases hw with (hw | hw) | hw
      · exact a3 w hw
      · obtain ⟨q1, q2⟩ := b3 w hw
        exact ⟨fun h => q1 (by simp [h]), q2⟩
      · obtain ⟨q1, q2⟩ := d3 w hw
        exact ⟨fun h => q1 (by simp [h]), q2⟩
/-- the words of the first A bytes are known -/
def KN (g : Nat → Nat) (A : Nat) (nt : List (List Int32)) : Prop := ∀ p l, 1 ≤ l → p + l < A → (∀ j, j < l → wb (g (p + j)) = true) → (p = 0 ∨ wb (g (p - 1)) = false) → wb (g (p + l)) = false → cL (g p) = true → wk g p l = 2 → wl g p l ∈ nt
theorem KN_mono {g : Nat → Nat} {A : Nat} {nt nt' : List (List Int32)} (h : KN g A nt) (hs : ∀ w ∈ nt, w ∈ nt') : KN g A nt' := fun p l a b c d e f i => hs _ (h p l a b c d e f i)
def okw (w : List Int32) : Prop := ∃ l : List Nat, w = l.map nI ∧ 1 ≤ l.length ∧ l.length ≤ 30 ∧ (∀ c ∈ l, wb c = true) ∧ cL (l.getD 0 0) = true
theorem new_bound {g : Nat → Nat} {e A len : Nat} {T' : List T4} {S' : rm_S} {bt : Nat → Int32} {nt : List (List Int32)} (fin : finT (JJ g e) g e T' S') (hb : ∀ i, i < e → bt i = nI (g i)) (K : KN g A nt) (hA : A ≤ len) (he : e ≤ len) (h8 : e ≤ 8000) (hd : nt.Nodup) : ∀ F, wf T'.length (tkF T') (tpF T') F → ∃ E, (res (fun j => wd bt (tpF T' j) (lnF T' j)) F nt).2 = nt ++ E ∧ (nt ++ E).Nodup ∧ Wt E ≤ (len - A) + (if A = 0 then 1 else 31) ∧ ∀ w ∈ E, okw w := by
  intro F hF
  obtain ⟨T0, ⟨i', j1, j2, j3⟩, hT0, hT'⟩ := fin
  have hlen : T'.length ≤ 8001 := by
    rcases hT' with h | ⟨i, l, h1, h2, h3, h4⟩
    · rw [h.1]; simp; omega
    · rw [h1]; simp; omega
  obtain ⟨E, e1, e2, e3⟩ := res_new (fun j => wd bt (tpF T' j) (lnF T' j)) hlen F nt hF
  -- a name token is one of T0
  have inT : ∀ j, j < T'.length → gd (tkF T') j → tkF T' j = 2 → ∃ t ∈ T0, t.1 = 2 ∧ tpF T' j = t.2.1 ∧ lnF T' j = t.2.2.1 := by
    intro j hj hg h2
    have hj0 : j < T0.length := by
      apply Nat.lt_of_not_le
      intro hle
      rcases hT' with h | ⟨i, l, h1, h2', h3, h4⟩
      · have : j = T0.length := by rw [h.1] at hj; simp at hj; omega
        subst this
        rw [h.1] at h2
        simp [tkF, List.getD] at h2
      · by_cases ej : j = T0.length
        · subst ej
          rw [h1] at h2
          simp [tkF, List.getD] at h2
        · have hx := (hg T0.length (by omega)).2
          rw [h1] at hx
          simp [tkF, List.getD] at hx
    have eT : T'.getD j (0, 0, 0, 0) = T0[j] := by
      rcases hT' with h | ⟨i, l, h1, h2', h3, h4⟩
      · rw [h.1]; simp [List.getD, List.getElem?_append_left hj0, List.getElem?_eq_getElem hj0]
      · rw [h1]; simp [List.getD, List.getElem?_append_left hj0, List.getElem?_eq_getElem hj0]
    refine ⟨T0[j], List.getElem_mem hj0, ?_, ?_, ?_⟩
    · rw [← eT]; exact h2
    · unfold tpF; rw [eT]
    · unfold lnF; rw [eT]
  -- what a name token is
  have isW : ∀ t ∈ T0, t.1 = 2 → we g e (e - t.2.1) t.2.1 = t.2.1 + t.2.2.1 ∧ cL (g t.2.1) = true ∧ t.2.1 < e ∧ t.2.2.1 ≤ 30 ∧ t.2.1 + t.2.2.1 ≤ e := by
    intro t ht h2
    obtain ⟨_, _, q1, q2, q3, q4⟩ := hT0 t ht
    obtain ⟨w1, w2, w3, w4⟩ := q4 h2
    exact ⟨w1, w2, w3, w4, q2⟩
  have ewl : ∀ t ∈ T0, t.1 = 2 → wd bt t.2.1 t.2.2.1 = wl g t.2.1 t.2.2.1 := by
    intro t ht h2
    obtain ⟨w1, w2, w3, w4, w5⟩ := isW t ht h2
    unfold wd wl
    apply List.map_congr_left
    intro x hx
    rw [List.mem_range] at hx
    exact hb _ (by omega)
  -- those that are new
  have hM : (E.map (fun w => w.length + 1)).sum ≤ ((T0.filter (fun t => t.1 == 2 && !(decide (wd bt t.2.1 t.2.2.1 ∈ nt)))).map (fun t => (wd bt t.2.1 t.2.2.1).length + 1)).sum := by
    have hnE : E.Nodup := (List.nodup_append.mp (e2 hd)).2.1
    refine sub_sum (fun t : T4 => wd bt t.2.1 t.2.2.1) (fun w => w.length + 1) E _ hnE (fun w hw => ?_)
    obtain ⟨q1, j, hj, hg, h2, hwj⟩ := e3 w hw
    obtain ⟨t, ht, t1, t2, t3⟩ := inT j hj hg h2
    have hww : wd bt t.2.1 t.2.2.1 = w := by rw [hwj, ← t2, ← t3]
    refine ⟨t, ?_, hww⟩
    rw [List.mem_filter]
    refine ⟨ht, ?_⟩
    simp [t1, hww, q1]
  have hMs : ((T0.filter (fun t => t.1 == 2 && !(decide (wd bt t.2.1 t.2.2.1 ∈ nt)))).map (fun t => (wd bt t.2.1 t.2.2.1).length + 1)) = ((T0.filter (fun t => t.1 == 2 && !(decide (wd bt t.2.1 t.2.2.1 ∈ nt)))).map (fun t => t.2.2.1 + 1)) := by
    apply List.map_congr_left
    intro t _
    rw [wd_len]
  rw [hMs] at hM
  have mem : ∀ t ∈ T0.filter (fun t => t.1 == 2 && !(decide (wd bt t.2.1 t.2.2.1 ∈ nt))), t ∈ T0 ∧ t.1 = 2 ∧ wd bt t.2.1 t.2.2.1 ∉ nt := by
    intro t ht
    rw [List.mem_filter] at ht
    obtain ⟨h1, h2⟩ := ht
    simp at h2
    exact ⟨h1, h2.1, h2.2⟩
  have hP : (T0.filter (fun t => t.1 == 2 && !(decide (wd bt t.2.1 t.2.2.1 ∈ nt)))).Pairwise (fun a b => a.2.1 + a.2.2.1 + 1 ≤ b.2.1) := by
    refine List.Pairwise.imp_of_mem (R := fun a b => a.1 = 2 → b.1 = 2 → a.2.1 + a.2.2.1 + 1 ≤ b.2.1) (fun {a b} ha hb' h => h (mem a ha).2.1 (mem b hb').2.1) (List.Pairwise.filter _ j2)
  refine ⟨E, e1, e2 hd, ?_, fun w hw => ?_⟩
  · unfold Wt
    refine Nat.le_trans hM ?_
    generalize hMM : T0.filter (fun t => t.1 == 2 && !(decide (wd bt t.2.1 t.2.2.1 ∈ nt))) = M at mem hP
    by_cases hA0 : A = 0
    · rw [if_pos hA0]
      have := sep_sum M 0 e hP (fun t ht => ⟨by omega, (isW t (mem t ht).1 (mem t ht).2.1).2.2.2.2⟩)
      omega
    · rw [if_neg hA0]
      -- none of them ends within the known bytes
      have hend : ∀ t ∈ M, min A e ≤ t.2.1 + t.2.2.1 := by
        intro t ht
        obtain ⟨m1, m2, m3⟩ := mem t ht
        apply Nat.le_of_not_lt
        intro hlt
        apply m3
        rw [ewl t m1 m2]
        obtain ⟨w1, w2, w3, w4, w5⟩ := isW t m1 m2
        obtain ⟨k1, k2, k3, k4, k5⟩ := j1 t m1 m2
        refine K t.2.1 t.2.2.1 k2 (by omega) (fun j hj => we_in (e := e) (e - t.2.1) t.2.1 (t.2.1 + j) (by omega) (by omega)) k4 ?_ w2 k5
        rcases we_stop g e (e - t.2.1) t.2.1 (by omega) (by omega) with h | h
        · omega
        · rw [w1] at h; exact h
      cases M with
      | nil => simp
      | cons x r =>
        rw [List.pairwise_cons] at hP
        have hx := hend x (by simp)
        obtain ⟨m1, m2, m3⟩ := mem x (by simp)
        obtain ⟨w1, w2, w3, w4, w5⟩ := isW x m1 m2
        have := sep_sum r (x.2.1 + x.2.2.1 + 1) e hP.2 (fun t ht => ⟨hP.1 t ht, (isW t (mem t (by simp [ht])).1 (mem t (by simp [ht])).2.1).2.2.2.2⟩)
        simp only [List.map_cons, List.sum_cons]
        omega
  · obtain ⟨q1, j, hj, hg, h2, hwj⟩ := e3 w hw
    obtain ⟨t, ht, t1, t2, t3⟩ := inT j hj hg h2
    obtain ⟨w1, w2, w3, w4, w5⟩ := isW t ht t1
    obtain ⟨k1, k2, k3, k4, k5⟩ := j1 t ht t1
    refine ⟨(List.range t.2.2.1).map fun x => g (t.2.1 + x), ?_, by simp; exact k2, by simp; exact w4, fun c hc => ?_, ?_⟩
    · rw [hwj]
      show wd bt (tpF T' j) (lnF T' j) = _
      rw [t2, t3, ewl t ht t1]
      simp only [wl, List.map_map]; rfl
    · rw [List.mem_map] at hc
      obtain ⟨x, hx, rfl⟩ := hc
      rw [List.mem_range] at hx
      exact we_in (e := e) (e - t.2.1) t.2.1 (t.2.1 + x) (by omega) (by omega)
    · have : ((List.range t.2.2.1).map fun x => g (t.2.1 + x)).getD 0 0 = g t.2.1 := by
        simp [List.getD, List.getElem?_range k2]
      rw [this]; exact w2
theorem Wt_len {nt : List (List Int32)} (h : ∀ w ∈ nt, okw w) : 2 * nt.length ≤ Wt nt ∧ st nt nt.length + nt.length = Wt nt := by
  rw [st_flat]
  induction nt with
  | nil => simp [Wt]
  | cons w r ih =>
    obtain ⟨i1, i2⟩ := ih (fun x hx => h x (by simp [hx]))
    obtain ⟨l, h1, h2, h3, _⟩ := h w (by simp)
    have hl : 1 ≤ w.length := by rw [h1]; simpa using h2
    have : Wt (w :: r) = (w.length + 1) + Wt r := by simp [Wt]
    simp only [List.length_cons, List.flatten_cons, List.length_append]
    omega
