/-! TREES: first part, next part; a node bears the number of its draft, kind, place, value -/
abbrev Fo : Type := Std.DTreeMap.Internal.Impl (Nat × Nat × Int32) (fun _ => Unit)
abbrev one (i k p : Nat) (v : Int32) (c : Fo) : Fo := .inner i (k, p, v) () c .leaf
def nds : Fo → List Nat
  | .leaf => []
  | .inner i _ _ c n => i :: (nds c ++ nds n)
def siz : Fo → Nat
  | .leaf => 0
  | .inner _ _ _ c n => siz c + 1 + siz n
def app : Fo → Fo → Fo
  | .leaf, g => g
  | .inner i x u c n, g => .inner i x u c (app n g)
def post : Fo → List Ent
  | .leaf => []
  | .inner _ x _ c n => post c ++ (nI x.1, nI x.2.1, (if x.1 = 13 then 0 else x.2.2), nI (siz c + 1)) :: post n
def lst : Fo → Nat
  | .leaf => 0
  | .inner i _ _ _ .leaf => i
  | .inner _ _ _ _ n => lst n
def FR (B : Nat → Nat → Int32) : Fo → Int32 → Int32 → Prop
  | .leaf, h, e => h = e
  | .inner i x _ c n, h, e => h = nI i ∧ B 7 i = nI x.1 ∧ B 8 i = nI x.2.1 ∧ B 9 i = x.2.2 ∧ FR B c (B 10 i) (-1) ∧ FR B n (B 12 i) e
theorem siz_app (f g : Fo) : siz (app f g) = siz f + siz g := by
  induction f with
  | leaf => simp [app, siz]
  | inner i x u c n _ ih => simp only [app, siz, ih]; omega
theorem post_len (f : Fo) : (post f).length = siz f := by
  induction f with
  | leaf => rfl
  | inner i x u c n ic ih => simp only [post, siz, List.length_append, List.length_cons, ic, ih]; omega
theorem post_app (f g : Fo) : post (app f g) = post f ++ post g := by
  induction f with
  | leaf => rfl
  | inner i x u c n _ ih => simp only [app, post, ih, List.append_assoc, List.cons_append]
theorem nds_app (f g : Fo) : nds (app f g) = nds f ++ nds g := by
  induction f with
  | leaf => rfl
  | inner i x u c n _ ih => simp only [app, nds, ih, List.append_assoc, List.cons_append]
theorem app_leaf (f : Fo) : app f .leaf = f := by
  induction f with
  | leaf => rfl
  | inner i x u c n _ ih => simp only [app, ih]
theorem lst_mem (f : Fo) (h : f ≠ .leaf) : lst f ∈ nds f := by
  induction f with
  | leaf => exact absurd rfl h
  | inner i x u c n _ ih =>
    cases n with
    | leaf => simp [lst, nds]
    | inner i' x' u' c' n' =>
      have := ih (by simp)
      simp only [lst, nds, List.mem_cons, List.mem_append] at this ⊢
      right; right; exact this
theorem lst_app (f : Fo) (i k p : Nat) (v : Int32) (c : Fo) : lst (app f (one i k p v c)) = i := by
  induction f with
  | leaf => rfl
  | inner i' x u c' n _ ih =>
    cases n with
    | leaf => rfl
    | inner i2 x2 u2 c2 n2 => simpa only [app, lst] using ih
theorem FR_set {B B' : Nat → Nat → Int32} {f : Fo} : ∀ {h e : Int32}, (∀ j ∈ nds f, ∀ o, B' o j = B o j) → FR B f h e → FR B' f h e := by
  induction f with
  | leaf => intro h e _ H; exact H
  | inner i x u c n ic ih =>
    intro h e hs H
    obtain ⟨h1, h2, h3, h4, h5, h6⟩ := H
    have hi := hs i (by simp [nds])
    refine ⟨h1, by rw [hi]; exact h2, by rw [hi]; exact h3, by rw [hi]; exact h4, ?_, ?_⟩
    · rw [hi]; exact ic (fun j hj => hs j (by simp [nds, hj])) h5
    · rw [hi]; exact ih (fun j hj => hs j (by simp [nds, hj])) h6
theorem FR_app {B : Nat → Nat → Int32} {f g : Fo} : ∀ {h e e' : Int32}, FR B f h e → FR B g e e' → FR B (app f g) h e' := by
  induction f with
  | leaf => intro h e e' H G; cases H; exact G
  | inner i x u c n ic ih =>
    intro h e e' H G
    obtain ⟨h1, h2, h3, h4, h5, h6⟩ := H
    exact ⟨h1, h2, h3, h4, h5, ih h6 G⟩
theorem FR_link {B : Nat → Nat → Int32} {p : Int32} {f : Fo} : ∀ {h : Int32}, f ≠ .leaf → FR B f h (-1) → (nds f).Nodup → FR (bs B 12 (lst f) p) f h p := by
  induction f with
  | leaf => intro h hn; exact absurd rfl hn
  | inner i x u c n ic ih =>
    intro h _ H hd
    obtain ⟨h1, h2, h3, h4, h5, h6⟩ := H
    simp only [nds, List.nodup_cons, List.mem_append, List.nodup_append] at hd
    obtain ⟨d1, d2, d3, d4⟩ := hd
    cases n with
    | leaf =>
      refine ⟨h1, by simp [bs, h2], by simp [bs, h3], by simp [bs, h4], ?_, ?_⟩
      · have e : bs B 12 (lst (.inner i x u c .leaf)) p 10 i = B 10 i := by simp [bs]
        rw [e]
        refine FR_set (fun j hj o => ?_) h5
        have : j ≠ i := by rintro rfl; exact d1 (Or.inl hj)
        simp [bs, lst, this]
      · simp [FR, bs, lst]
    | inner i' x' u' c' n' =>
      have hl : lst (.inner i x u c (.inner i' x' u' c' n')) = lst (.inner i' x' u' c' n') := rfl
      have hm := lst_mem (.inner i' x' u' c' n') (by simp)
      rw [hl]
      have hi : i ≠ lst (.inner i' x' u' c' n') := by rintro e; exact d1 (Or.inr (e ▸ hm))
      refine ⟨h1, by simp [bs, h2], by simp [bs, h3], by simp [bs, h4], ?_, ?_⟩
      · have e : bs B 12 (lst (.inner i' x' u' c' n')) p 10 i = B 10 i := by simp [bs]
        rw [e]
        refine FR_set (fun j hj o => ?_) h5
        have : j ≠ lst (.inner i' x' u' c' n') := by rintro e; exact d4 j hj _ hm e
        simp [bs, this]
      · have e : bs B 12 (lst (.inner i' x' u' c' n')) p 12 i = B 12 i := by simp [bs, hi]
        rw [e]
        exact ih (by simp) h6 d3
/-- a draft with its parts, as far as they are joined -/
def KS (B : Nat → Nat → Int32) (s k p : Nat) (v : Int32) (f : Fo) : Prop :=
  B 7 s = nI k ∧ B 8 s = nI p ∧ B 9 s = v ∧ FR B f (B 10 s) (-1) ∧ B 12 s = -1 ∧ (f ≠ .leaf → B 11 s = nI (lst f)) ∧ (s :: nds f).Nodup ∧ ∀ j ∈ s :: nds f, j < 26000
theorem KS_new (B : Nat → Nat → Int32) (s k p : Nat) (v : Int32) (hs : s < 26000) : KS (bd B s (nI k) (nI p) v) s k p v .leaf := by
  refine ⟨by simp [bd], by simp [bd], by simp [bd], by simp [bd, FR], by simp [bd], by simp, by simp [nds], by simp [nds, hs]⟩
theorem KS_set {B B' : Nat → Nat → Int32} {s k p : Nat} {v : Int32} {f : Fo} (hs : ∀ j ∈ s :: nds f, ∀ o, B' o j = B o j) (h : KS B s k p v f) : KS B' s k p v f := by
  obtain ⟨h1, h2, h3, h4, h5, h6, h7, h8⟩ := h
  have hi := hs s (by simp)
  refine ⟨by rw [hi]; exact h1, by rw [hi]; exact h2, by rw [hi]; exact h3, ?_, by rw [hi]; exact h5, by rw [hi]; exact h6, h7, h8⟩
  rw [hi]; exact FR_set (fun j hj => hs j (by simp [hj])) h4
def BI (dr : Nat) (B : Nat → Nat → Int32) : Prop := ∀ i, i < dr → B 10 i = -1 ∨ ∃ l, l < 26000 ∧ B 11 i = nI l
theorem BI_new {dr : Nat} {B : Nat → Nat → Int32} {k p v : Int32} (h : BI dr B) : BI (dr + 1) (bd B dr k p v) := by
  intro i hi
  by_cases e : i = dr
  · left; simp [bd, e]
  · have := h i (by omega)
    simpa [bd, e] using this
def bj (B : Nat → Nat → Int32) (s : Nat) (f : Fo) (i : Nat) : Nat → Nat → Int32 := match f with
  | .leaf => bs (bs B 10 s (nI i)) 11 s (nI i)
  | g => bs (bs B 12 (lst g) (nI i)) 11 s (nI i)
section JOIN
variable {S : rm_S} {N q bad dr : Nat} {flt : Int32} {B : Nat → Nat → Int32} {s k p i k' p' : Nat} {v v' : Int32} {f c : Fo}
theorem q_join (hf : KS B s k p v f) (hc : KS B i k' p' v' c) : f_RM_join N (nI s) (nI i) (qz S q bad flt dr B) = some (qz S q bad flt dr (bj B s f i)) := by
  have hs : s < 26000 := hf.2.2.2.2.2.2.2 s (by simp)
  have hi : i < 26000 := hc.2.2.2.2.2.2.2 i (by simp)
  cases f with
  | leaf =>
    have h10 : B 10 s = -nI 1 := hf.2.2.2.1
    simp (disch := omega) only [f_RM_join, e_chkT,e_bnd,e_calI,e_calV,e_calP,e_rfO,e_calT,e_calTt, lit,n_add,n_le,n_lt,n_eq,n_nat,n_ib, n_m1, qz_b, h10, qz_ra, hs, if_true, if_false]
    rfl
  | inner i0 x0 u0 c0 n0 =>
    have h4 := hf.2.2.2.1
    have h10 : B 10 s = nI i0 := h4.1
    have h11 : B 11 s = nI (lst (.inner i0 x0 u0 c0 n0)) := hf.2.2.2.2.2.1 (by simp)
    have hl : lst (.inner i0 x0 u0 c0 n0) < 26000 := hf.2.2.2.2.2.2.2 _ (List.mem_cons_of_mem _ (lst_mem _ (by simp)))
    have hi0 : i0 < 26000 := hf.2.2.2.2.2.2.2 _ (by simp [nds])
    simp (disch := omega) only [f_RM_join, e_chkT,e_bnd,e_calI,e_calV,e_calP,e_rfO,e_calT,e_calTt, lit,n_add,n_le,n_lt,n_eq,n_nat,n_ib, n_m1, qz_b, h10, h11, qz_ra, hs, hl, if_true, if_false]
    rfl
theorem bj_o (o j : Nat) (h : j ∉ s :: nds f) : bj B s f i o j = B o j := by
  cases f with
  | leaf =>
    have : j ≠ s := by rintro rfl; exact h (by simp)
    simp [bj, bs, this]
  | inner i0 x0 u0 c0 n0 =>
    have h1 : j ≠ s := by rintro rfl; exact h (by simp)
    have h2 : j ≠ lst (.inner i0 x0 u0 c0 n0) := by rintro e; exact h (List.mem_cons_of_mem _ (e ▸ lst_mem _ (by simp)))
    simp [bj, bs, h1, h2]
theorem KS_join (hf : KS B s k p v f) (hc : KS B i k' p' v' c) (hd : ∀ j ∈ i :: nds c, j ∉ s :: nds f) : KS (bj B s f i) s k p v (app f (one i k' p' v' c)) := by
  have hc' : KS (bj B s f i) i k' p' v' c := KS_set (fun j hj o => bj_o o j (hd j hj)) hc
  obtain ⟨h1, h2, h3, h4, h5, h6, h7, h8⟩ := hf
  have hnd : (s :: nds (app f (one i k' p' v' c))).Nodup := by
    have hcn := hc.2.2.2.2.2.2.1
    rw [nds_app]
    simp only [nds, List.append_nil]
    rw [← List.cons_append, List.nodup_append]
    refine ⟨h7, hcn, fun a ha b hb e => hd b hb (e ▸ ha)⟩
  have hlt : ∀ j ∈ s :: nds (app f (one i k' p' v' c)), j < 26000 := by
    intro j hj
    rw [nds_app] at hj
    simp only [nds, List.append_nil, List.mem_cons, List.mem_append] at hj
    rcases hj with rfl | hj | rfl | hj
    · exact h8 _ (by simp)
    · exact h8 _ (by simp [hj])
    · exact hc.2.2.2.2.2.2.2 _ (by simp)
    · exact hc.2.2.2.2.2.2.2 _ (by simp [hj])
  have hone : FR (bj B s f i) (one i k' p' v' c) (nI i) (-1) := ⟨rfl, hc'.1, hc'.2.1, hc'.2.2.1, hc'.2.2.2.1, hc'.2.2.2.2.1⟩
  have hsl : f ≠ .leaf → s ≠ lst f := fun hn e => by
    have := lst_mem f hn
    rw [← e] at this
    exact (List.nodup_cons.mp h7).1 this
  cases f with
  | leaf =>
    refine ⟨by simp [bj, bs, h1], by simp [bj, bs, h2], by simp [bj, bs, h3], ?_, by simp [bj, bs, h5], ?_, hnd, hlt⟩
    · have e : bj B s .leaf i 10 s = nI i := by simp [bj, bs]
      rw [e]; exact hone
    · intro _; simp [bj, bs, lst_app]
  | inner i0 x0 u0 c0 n0 =>
    have hs0 := hsl (by simp)
    refine ⟨by simp [bj, bs, h1], by simp [bj, bs, h2], by simp [bj, bs, h3], ?_, by simp [bj, bs, h5, hs0], ?_, hnd, hlt⟩
    · have e : bj B s (.inner i0 x0 u0 c0 n0) i 10 s = B 10 s := by simp [bj, bs]
      rw [e]
      refine FR_app ?_ hone
      have := FR_link (p := nI i) (by simp) h4 (List.nodup_cons.mp h7).2
      refine FR_set (fun j hj o => ?_) this
      have : j ≠ s := by rintro rfl; exact (List.nodup_cons.mp h7).1 hj
      simp [bj, bs, this]
    · intro _; rw [lst_app]; simp [bj, bs]
theorem BI_join (hb : BI dr B) (hi : i < 26000) : BI dr (bj B s f i) := by
  intro j hj
  by_cases e : j = s
  · right; subst e; refine ⟨i, hi, ?_⟩
    cases f <;> simp [bj, bs]
  · have := hb j hj
    cases f <;> simpa [bj, bs, e] using this
/-- joining when a fault is found: whatever comes of it, nothing throws -/
theorem q_joinb {r : Int32} (hb : BI dr B) (hd : dr ≤ 26000) (hs : s < dr) (hr : r = -1 ∨ ∃ i, i < dr ∧ r = nI i) : ∃ B', f_RM_join N (nI s) r (qz S q bad flt dr B) = some (qz S q bad flt dr B') ∧ BI dr B' := by
  rcases hr with rfl | ⟨i, hi, rfl⟩
  · exact ⟨B, by simp [f_RM_join], hb⟩
  · rcases hb s hs with h | ⟨l, hl, h⟩
    · refine ⟨bs (bs B 10 s (nI i)) 11 s (nI i), ?_, ?_⟩
      · have h10 : B 10 s = -nI 1 := h
        have hs' : s < 26000 := by omega
        simp (disch := omega) only [f_RM_join, e_chkT,e_bnd,e_calI,e_calV,e_calP,e_rfO,e_calT,e_calTt, lit,n_add,n_le,n_lt,n_eq,n_nat,n_ib, n_m1, qz_b, h10, qz_ra, hs', if_true, if_false]
      · have := BI_join (s := s) (f := .leaf) (i := i) hb (by omega); exact this
    · by_cases h0 : B 10 s = -nI 1
      · refine ⟨bs (bs B 10 s (nI i)) 11 s (nI i), ?_, ?_⟩
        · have hs' : s < 26000 := by omega
          simp (disch := omega) only [f_RM_join, e_chkT,e_bnd,e_calI,e_calV,e_calP,e_rfO,e_calT,e_calTt, lit,n_add,n_le,n_lt,n_eq,n_nat,n_ib, n_m1, qz_b, h0, qz_ra, hs', if_true, if_false]
        · have := BI_join (s := s) (f := .leaf) (i := i) hb (by omega); exact this
      · refine ⟨bs (bs B 12 l (nI i)) 11 s (nI i), ?_, ?_⟩
        · have hs' : s < 26000 := by omega
          simp (disch := omega) only [f_RM_join, e_chkT,e_bnd,e_calI,e_calV,e_calP,e_rfO,e_calT,e_calTt, lit,n_add,n_le,n_lt,n_eq,n_nat,n_ib, n_m1, qz_b, h0, h, qz_ra, hs', hl, if_true, if_false]
        · intro j hj
          by_cases e : j = s
          · right; subst e; exact ⟨i, by omega, by simp [bs]⟩
          · have := hb j hj
            simpa [bs, e] using this
end JOIN
