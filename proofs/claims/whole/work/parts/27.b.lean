/-! steps of both parsers in straight rows -/
def NB (dr0 : Nat) (B0 : Nat → Nat → Int32) (s k p : Nat) (v : Int32) (f : Fo) (dr : Nat) (B : Nat → Nat → Int32) : Prop :=
  KS B s k p v f ∧ (∀ j ∈ s :: nds f, dr0 ≤ j ∧ j < dr) ∧ (∀ o j, j < dr0 → B o j = B0 o j) ∧ BI dr B
theorem nb_of {n : Nat} {tk tp : Nat → Nat} {q0 dr0 : Nat} {B0 : Nat → Nat → Int32} {hm q i k p : Nat} {v : Int32} {c : Fo} {dr : Nat} {B : Nat → Nat → Int32} (h : New n tk tp q0 dr0 B0 hm q i k p v c dr B) : NB dr0 B0 i k p v c dr B := ⟨h.2.1, h.2.2.1, h.2.2.2.1, h.2.2.2.2.1⟩
theorem nb_new {dr : Nat} {B : Nat → Nat → Int32} {k p : Nat} {v : Int32} (hd : dr < 26000) (h : BI dr B) : NB dr B dr k p v .leaf (dr + 1) (bd B dr (nI k) (nI p) v) :=
  ⟨KS_new B dr k p v hd, by simp [nds], bd_o, BI_new h⟩
theorem nb_lt {dr0 : Nat} {B0 : Nat → Nat → Int32} {s k p : Nat} {v : Int32} {f : Fo} {dr : Nat} {B : Nat → Nat → Int32} (h : NB dr0 B0 s k p v f dr B) : dr0 ≤ s ∧ s < dr ∧ s < 26000 := ⟨(h.2.1 s (by simp)).1, (h.2.1 s (by simp)).2, h.1.2.2.2.2.2.2.2 s (by simp)⟩
section NBS
variable {S : rm_S} {N q bad dr0 dr dr' s k p i k' p' : Nat} {flt : Int32} {B0 B B' : Nat → Nat → Int32} {v v' : Int32} {f c : Fo}
theorem nb_joinE (h : NB dr0 B0 s k p v f dr B) (h' : NB dr B i k' p' v' c dr' B') : f_RM_join N (nI s) (nI i) (qz S q bad flt dr' B') = some (qz S q bad flt dr' (bj B' s f i)) :=
  q_join (KS_old (fun j hj => (h.2.1 j hj).2) h'.2.2.1 h.1) h'.1
theorem nb_join (h : NB dr0 B0 s k p v f dr B) (h' : NB dr B i k' p' v' c dr' B') : NB dr0 B0 s k p v (app f (one i k' p' v' c)) dr' (bj B' s f i) := by
  have hK := KS_old (fun j hj => (h.2.1 j hj).2) h'.2.2.1 h.1
  have hs := nb_lt h
  have hi := nb_lt h'
  have hd : ∀ j ∈ i :: nds c, j ∉ s :: nds f := fun j hj hj' => by
    have h1 := (h'.2.1 j hj).1
    have h2 := (h.2.1 j hj').2
    omega
  refine ⟨KS_join hK h'.1 hd, ?_, ?_, BI_join h'.2.2.2 hi.2.2⟩
  · intro j hj
    rw [nds_app] at hj
    simp only [nds, List.append_nil, List.mem_cons, List.mem_append] at hj
    rcases hj with rfl | hj | rfl | hj
    · have := h.2.1 j (by simp); omega
    · have := h.2.1 j (by simp [hj]); omega
    · omega
    · have := h'.2.1 j (by simp [hj]); omega
  · intro o j hj
    rw [bj_o o j (fun hj' => by have := (h.2.1 j hj').1; omega), h'.2.2.1 o j (by omega), h.2.2.1 o j hj]
/-- a node made behind its first part -/
theorem nb_wrapE (h : NB dr0 B0 i k' p' v' c dr B) (hd : dr < 26000) : f_RM_join N (nI dr) (nI i) (qz S q bad flt (dr + 1) (bd B dr (nI k) (nI p) v)) = some (qz S q bad flt (dr + 1) (bj (bd B dr (nI k) (nI p) v) dr .leaf i)) :=
  q_join (KS_new B dr k p v hd) (KS_old (fun j hj => (h.2.1 j hj).2) bd_o h.1)
theorem nb_wrap (h : NB dr0 B0 i k' p' v' c dr B) (hd : dr < 26000) : NB dr0 B0 dr k p v (one i k' p' v' c) (dr + 1) (bj (bd B dr (nI k) (nI p) v) dr .leaf i) := by
  have hK := KS_old (fun j hj => (h.2.1 j hj).2) (bd_o (B := B) (k := nI k) (p := nI p) (v := v)) h.1
  have hi := nb_lt h
  refine ⟨KS_join (KS_new B dr k p v hd) hK (by intro j hj; have := h.2.1 j hj; simp only [nds, List.mem_cons, List.not_mem_nil, or_false]; omega), ?_, ?_, BI_join (BI_new h.2.2.2) hi.2.2⟩
  · intro j hj
    simp only [nds, List.append_nil, List.mem_cons] at hj
    rcases hj with rfl | hj
    · omega
    · have := h.2.1 j (by simpa using hj); omega
  · intro o j hj
    rw [bj_o o j (by simp only [nds, List.mem_cons, List.not_mem_nil, or_false]; omega), bd_o o j (by omega), h.2.2.1 o j hj]
theorem r_numberb' {x : Int32} (hd : dr < 26000) (hq : q < 8002) : f_RM_number N x (qz S q 1 flt dr B) = some (nI dr, qz S q 1 flt (dr + 1) (bd B dr 12 (S.2 5 q) (1 * 0))) := by
  have hd2 := fun k p v => q_draft (S := S) (N := N) (q := q) (bad := 1) (flt := flt) (B := B) (k := k) (p := p) (v := v) hd
  have h13 : ¬ (1 : Int32) = 3 := by decide
  have h45 : ¬ (1 : Int32) = 45 := by decide
  by_cases hx : x = 0
  · simp (disch := omega) only [f_RM_number, k_RM_number_33, k_RM_number_95, e_chkT,e_bnd,e_calI,e_calV,e_calP,e_rfO,e_calT,e_calTt, n_nat, n_ib, qz_12, qz_a, hd2, q_takeb, q_look1, hx, hq, h13, if_true, if_false]
  · simp (disch := omega) only [f_RM_number, k_RM_number_33, k_RM_number_95, e_chkT,e_bnd,e_calI,e_calV,e_calP,e_rfO,e_calT,e_calTt, n_nat, n_ib, qz_12, qz_a, hd2, q_takeb, q_look1, hx, hq, h13, h45, if_true, if_false]
theorem bm_join {lo lim : Nat} {r : Int32} {K : rm_S → Option (Int32 × rm_S)} (hb : BI dr B) (hd : dr ≤ 26000) (hs : s < dr) (hr : r = -1 ∨ ∃ i, i < dr ∧ r = nI i) (hk : ∀ B', BI dr B' → BM S q flt lo lim (K (qz S q 1 flt dr B'))) : BM S q flt lo lim (calV (f_RM_join N (nI s) r (qz S q 1 flt dr B)) K) := by
  obtain ⟨B', e, hB⟩ := q_joinb (S := S) (N := N) (q := q) (bad := 1) (flt := flt) hb hd hs hr
  rw [e, e_calV]; exact hk B' hB
theorem bm_jn {lo lim : Nat} {r : Int32} {K : rm_S → Option (Int32 × rm_S)} (hk : BM S q flt lo lim (K (qz S q bad flt dr B))) (hr : r = -1) : BM S q flt lo lim (calV (f_RM_join N (nI s) r (qz S q bad flt dr B)) K) := by
  subst hr
  have e : f_RM_join N (nI s) (-1) (qz S q bad flt dr B) = some (qz S q bad flt dr B) := by simp [f_RM_join]
  rw [e, e_calV]; exact hk
theorem q_deepb {d : Nat} (hd : d < 1000) : f_RM_deep N (nI d) (qz S q 1 flt dr B) = some (qz S q 1 flt dr B) := by
  simp only [f_RM_deep, q_needb, e_calV]; split <;> rfl
end NBS
section RTOK
variable {S : rm_S} {N n q : Nat} {tk tp : Nat → Nat} {tv : Nat → Int32}
theorem R_1 (R : RE S N n tk tp tv) (hq : q < n) (hg : gd tk q) : S.2 4 q = kap (tk q) := (R q hq hg).1
theorem R_2 (R : RE S N n tk tp tv) (hq : q < n) (hg : gd tk q) : S.2 5 q = nI (tp q) := (R q hq hg).2.1
theorem R_3 (R : RE S N n tk tp tv) (hq : q < n) (hg : gd tk q) : tp q < 10000 := (R q hq hg).2.2.1
theorem R_4 (R : RE S N n tk tp tv) (hq : q < n) (hg : gd tk q) (ht : tk q = 3) : 1 * tv q ≠ -2147483648 ∧ -1 * tv q ≠ -2147483648 := (R q hq hg).2.2.2.2 ht
end RTOK
theorem s_first {n : Nat} {tk tp : Nat → Nat} {j : Nat} (hj : j < n) (hg : gd tk j) (ht : tk j = 2) (hp : tp j < 10000) (i : Nat) : wf n tk tp (one i 13 (tp j) (nI j) .leaf) := ⟨by simp [okk, kls], ⟨fun _ => ⟨j, hj, hg, ht, rfl, rfl⟩, fun e => by cases e⟩, ⟨hp, by simp [siz]⟩, trivial, trivial⟩
theorem s_num {n : Nat} {tk tp : Nat → Nat} {p : Nat} (hp : p < 10000) (i : Nat) (v : Int32) (hv : v ≠ -2147483648) : wf n tk tp (one i 12 p v .leaf) := ⟨by simp [okk, kls], ⟨(fun e => by cases e), fun _ => hv⟩, ⟨hp, by simp [siz]⟩, trivial, trivial⟩
/-! one step after another -/
theorem n00 : (0 : Int32) ≤ 0 := by decide
theorem n10 : ¬ (1 : Int32) = 0 := by decide
section RUN
variable {α β τ γ δ : Type}
theorem X_bndE {x x' : α} {k : α → β} {y : β} (hx : x = x') (h : k x' = y) : bnd x k = y := by subst hx; exact h
theorem X_bnd {x : α} {k : α → β} {y : β} (h : k x = y) : bnd x k = y := h
theorem X_chk {c : Prop} [Decidable c] {r y : Option α} (hc : c) (h : r = y) : chk c r = y := (e_chk hc r).trans h
theorem X_rfO {r : Option Nat} {k : Nat → Option β} {y : Option β} {a : Nat} (hr : r = some a) (h : k a = y) : rfO r k = y := by subst hr; exact h
theorem X_I {r : Option (α × τ)} {k : α → τ → Option β} {y : Option β} {a : α} {s : τ} (hr : r = some (a, s)) (h : k a s = y) : calI r k = y := by subst hr; exact h
theorem X_V {r : Option τ} {k : τ → Option β} {y : Option β} {s : τ} (hr : r = some s) (h : k s = y) : calV r k = y := by subst hr; exact h
theorem X_P {r : Option α} {k : α → Option β} {y : Option β} {a : α} (hr : r = some a) (h : k a = y) : calP r k = y := by subst hr; exact h
theorem X_T {r : Option (Bool × Int32 × mh_H)} {k : Int32 → mh_H → Option (Bool × Int32 × mh_H)} {y : Option (Bool × Int32 × mh_H)} {v : Int32} {s : mh_H} (hr : r = some (false, v, s)) (h : k v s = y) : calT r k = y := by subst hr; exact h
theorem X_Tt {r : Option (Bool × Int32 × mh_H)} {k : Int32 → mh_H → Option (Bool × Int32 × mh_H)} {y : Option (Bool × Int32 × mh_H)} {v : Int32} {s : mh_H} (hr : r = some (true, v, s)) (h : some (true, 0, s) = y) : calT r k = y := by subst hr; exact h
theorem X_if {c : Prop} [Decidable c] {a b y : α} (hc : c) (h : a = y) : (if c then a else b) = y := (if_pos hc).trans h
theorem X_nif {c : Prop} [Decidable c] {a b y : α} (hc : ¬ c) (h : b = y) : (if c then a else b) = y := (if_neg hc).trans h
theorem A_VI {r : Option (α × τ)} {k : α → τ → Option β} {K : β → Option γ} {y : Option γ} (h : (calI r fun a s => calV (k a s) K) = y) : calV (calI r k) K = y := by
  cases r with
  | none => exact h
  | some p => exact h
theorem A_VV {r : Option τ} {k : τ → Option β} {K : β → Option γ} {y : Option γ} (h : (calV r fun s => calV (k s) K) = y) : calV (calV r k) K = y := by
  cases r with
  | none => exact h
  | some p => exact h
theorem A_Vif {c : Prop} [Decidable c] {a b : Option β} {K : β → Option γ} {y : Option γ} (h : (if c then calV a K else calV b K) = y) : calV (if c then a else b) K = y := by
  by_cases hc : c
  · rw [if_pos hc] at h ⊢; exact h
  · rw [if_neg hc] at h ⊢; exact h
theorem A_Vs {s : β} {K : β → Option γ} {y : Option γ} (h : K s = y) : calV (some s) K = y := h
theorem A_II {r : Option (α × τ)} {k : α → τ → Option (β × γ)} {K : β → γ → Option δ} {y : Option δ} (h : (calI r fun a s => calI (k a s) K) = y) : calI (calI r k) K = y := by
  cases r with
  | none => exact h
  | some p => exact h
theorem A_IV {r : Option τ} {k : τ → Option (β × γ)} {K : β → γ → Option δ} {y : Option δ} (h : (calV r fun s => calI (k s) K) = y) : calI (calV r k) K = y := by
  cases r with
  | none => exact h
  | some p => exact h
theorem A_Iif {c : Prop} [Decidable c] {a b : Option (β × γ)} {K : β → γ → Option δ} {y : Option δ} (h : (if c then calI a K else calI b K) = y) : calI (if c then a else b) K = y := by
  by_cases hc : c
  · rw [if_pos hc] at h ⊢; exact h
  · rw [if_neg hc] at h ⊢; exact h
theorem A_Is {a : β} {s : γ} {K : β → γ → Option δ} {y : Option δ} (h : K a s = y) : calI (some (a, s)) K = y := h
theorem A_Ichk {c : Prop} [Decidable c] {a : Option (β × γ)} {K : β → γ → Option δ} {y : Option δ} (h : chk c (calI a K) = y) : calI (chk c a) K = y := by
  by_cases hc : c
  · rw [e_chk hc] at h ⊢; exact h
  · unfold chk at h ⊢; rw [if_neg hc] at h ⊢; exact h
end RUN
section LITS
variable {σ : mh_H} {ap dd tt bk bp bv dk dp dv dz n room : Nat} {tk tp : Nat → Nat} {tv : Nat → Int32} {N q : Nat} {ds : List Ent} {S : rm_S} {dr : Nat} {flt : Int32} {B : Nat → Nat → Int32} {j : Nat}
theorem pz_i1 (h : PE σ ap dd tt bk bp bv dk dp dv dz n room tk tp tv) (hq : q < n) : ib (hI (pz σ ap dd dk dp dv dz q ds) 3 2 ap) (hN (pz σ ap dd dk dp dv dz q ds) bk) := by
  have : n < 10000 ∧ n ≤ hN σ bk := by obtain ⟨⟨a1, a2, a3⟩, ⟨a4, a5, a6, a7, a8, a9, a10⟩, ⟨c1, c2⟩, ⟨c4, c5, c6⟩, ⟨c7, c8, c9, c10⟩, -, ⟨e5, e6, e7⟩, e8, -, -, -, -, e9, e10, e11, e12, e13⟩ := h; exact ⟨e10, e5⟩
  rw [pz_33, pz_N, n_ib (by omega)]; omega
theorem pz_i2 (h : PE σ ap dd tt bk bp bv dk dp dv dz n room tk tp tv) (hq : q < n) : ib (hI (pz σ ap dd dk dp dv dz q ds) 3 2 ap) (hN (pz σ ap dd dk dp dv dz q ds) bp) := by
  have : n < 10000 ∧ n ≤ hN σ bp := by obtain ⟨⟨a1, a2, a3⟩, ⟨a4, a5, a6, a7, a8, a9, a10⟩, ⟨c1, c2⟩, ⟨c4, c5, c6⟩, ⟨c7, c8, c9, c10⟩, -, ⟨e5, e6, e7⟩, e8, -, -, -, -, e9, e10, e11, e12, e13⟩ := h; exact ⟨e10, e6⟩
  rw [pz_33, pz_N, n_ib (by omega)]; omega
theorem nn_lit {a b : Nat} (ha : a < 1000) (hb : b < 1000) (h : a ≠ b) : ¬ nI a = nI b := by
  rw [n_eq (by omega) (by omega)]; exact h
theorem pz_c {x : Int32} (h : PE σ ap dd tt bk bp bv dk dp dv dz n room tk tp tv) (hq : q < n) (hx : nI (tk q) = x) : hA (pz σ ap dd dk dp dv dz q ds) bk (Int32.toNatClampNeg (hI (pz σ ap dd dk dp dv dz q ds) 3 2 ap)) = x := by
  have : n < 10000 := by obtain ⟨⟨a1, a2, a3⟩, ⟨a4, a5, a6, a7, a8, a9, a10⟩, ⟨c1, c2⟩, ⟨c4, c5, c6⟩, ⟨c7, c8, c9, c10⟩, -, ⟨e5, e6, e7⟩, e8, -, -, -, -, e9, e10, e11, e12, e13⟩ := h; exact e10
  rw [pz_33, n_nat (by omega), pz_k h hq, hx]
theorem pz_n {x : Int32} (h : PE σ ap dd tt bk bp bv dk dp dv dz n room tk tp tv) (hq : q < n) (ht : ¬ nI (tk q) = x) : ¬ hA (pz σ ap dd dk dp dv dz q ds) bk (Int32.toNatClampNeg (hI (pz σ ap dd dk dp dv dz q ds) 3 2 ap)) = x := by
  rw [pz_c h hq rfl]; exact ht
theorem pz_pp (h : PE σ ap dd tt bk bp bv dk dp dv dz n room tk tp tv) (hq : q < n) : hA (pz σ ap dd dk dp dv dz q ds) bp (Int32.toNatClampNeg (hI (pz σ ap dd dk dp dv dz q ds) 3 2 ap)) = nI (tp q) := by
  have : n < 10000 := by obtain ⟨⟨a1, a2, a3⟩, ⟨a4, a5, a6, a7, a8, a9, a10⟩, ⟨c1, c2⟩, ⟨c4, c5, c6⟩, ⟨c7, c8, c9, c10⟩, -, ⟨e5, e6, e7⟩, e8, -, -, -, -, e9, e10, e11, e12, e13⟩ := h; exact e10
  rw [pz_33, n_nat (by omega), pz_p h hq]
theorem pz_kk (h : PE σ ap dd tt bk bp bv dk dp dv dz n room tk tp tv) (hq : q < n) : hA (pz σ ap dd dk dp dv dz q ds) bk (Int32.toNatClampNeg (hI (pz σ ap dd dk dp dv dz q ds) 3 2 ap)) = nI (tk q) := pz_c h hq rfl
theorem p_takeX {x : Int32} (h : PE σ ap dd tt bk bp bv dk dp dv dz n room tk tp tv) (hq : q < n) : f_PA_take N ap x (pz σ ap dd dk dp dv dz q ds) = if nI (tk q) = x then some (false, 0, pz σ ap dd dk dp dv dz (q + 1) ds) else some (true, 0, mh_new (pz σ ap dd dk dp dv dz q ds) 9) := by
  have hka := p_ka (N := N) (q := q) (ds := ds) h hq
  have hpa := p_pa (N := N) (q := q) (ds := ds) h hq
  have hva := p_va (N := N) (q := q) (ds := ds) h hq
  have hk := pz_k (q' := q) (ds := ds) h hq
  have hp := pz_p (q' := q) (ds := ds) h hq
  have hv := pz_v (q' := q) (ds := ds) h hq
  obtain ⟨⟨a1, a2, a3⟩, ⟨a4, a5, a6, a7, a8, a9, a10⟩, ⟨c1, c2⟩, ⟨c4, c5, c6⟩, ⟨c7, c8, c9, c10⟩, ⟨e1, e2, e3, e4⟩, ⟨e5, e6, e7⟩, e8, ⟨g1, g2, g3, g4, g5, g6⟩, ⟨g7, g8, g9, g10⟩, ⟨g11, g12, g13, g14⟩, ⟨g15, g16, g17, g18⟩, e9, e10, e11, e12, e13⟩ := h
  have ht := (e9 q hq).2.2.2
  have hb1 : q < hN σ bk := by omega
  have hb2 : q < hN σ bp := by omega
  have hb3 : q < hN σ bv := by omega
  have hs : mh_setI (pz σ ap dd dk dp dv dz q ds) 3 2 ap (nI (q + 1)) = pz σ ap dd dk dp dv dz (q + 1) ds := pz_set rfl
  simp (disch := omega) only [f_PA_take, k_PA_take_19, p_refuse, e_chkT,e_bnd,e_calI,e_calV,e_calP,e_rfO,e_calT,e_calTt, pz_T, pz_R, pz_N, pz_33, a1, a3, c1, lit,n_add,n_le,n_lt,n_eq,n_nat,n_ib, hka, hs]
theorem p_skipX {x : Int32} (h : PE σ ap dd tt bk bp bv dk dp dv dz n room tk tp tv) (hq : q < n) : f_PA_skip N ap x (pz σ ap dd dk dp dv dz q ds) = if nI (tk q) = x then some (1, pz σ ap dd dk dp dv dz (q + 1) ds) else some (0, pz σ ap dd dk dp dv dz q ds) := by
  have hka := p_ka (N := N) (q := q) (ds := ds) h hq
  have hpa := p_pa (N := N) (q := q) (ds := ds) h hq
  have hva := p_va (N := N) (q := q) (ds := ds) h hq
  have hk := pz_k (q' := q) (ds := ds) h hq
  have hp := pz_p (q' := q) (ds := ds) h hq
  have hv := pz_v (q' := q) (ds := ds) h hq
  obtain ⟨⟨a1, a2, a3⟩, ⟨a4, a5, a6, a7, a8, a9, a10⟩, ⟨c1, c2⟩, ⟨c4, c5, c6⟩, ⟨c7, c8, c9, c10⟩, ⟨e1, e2, e3, e4⟩, ⟨e5, e6, e7⟩, e8, ⟨g1, g2, g3, g4, g5, g6⟩, ⟨g7, g8, g9, g10⟩, ⟨g11, g12, g13, g14⟩, ⟨g15, g16, g17, g18⟩, e9, e10, e11, e12, e13⟩ := h
  have ht := (e9 q hq).2.2.2
  have hb1 : q < hN σ bk := by omega
  have hb2 : q < hN σ bp := by omega
  have hb3 : q < hN σ bv := by omega
  have hs : mh_setI (pz σ ap dd dk dp dv dz q ds) 3 2 ap (nI (q + 1)) = pz σ ap dd dk dp dv dz (q + 1) ds := pz_set rfl
  simp (disch := omega) only [f_PA_skip, e_chkT,e_bnd,e_calI,e_calV,e_calP,e_rfO,e_calT,e_calTt, pz_T, pz_R, pz_N, pz_33, a1, a3, c1, lit,n_add,n_le,n_lt,n_eq,n_nat,n_ib, hka, hs]
theorem p_skip_y {x : Int32} (h : PE σ ap dd tt bk bp bv dk dp dv dz n room tk tp tv) (hq : q < n) (ht : nI (tk q) = x) : f_PA_skip N ap x (pz σ ap dd dk dp dv dz q ds) = some (1, pz σ ap dd dk dp dv dz (q + 1) ds) := by
  rw [p_skipX h hq, if_pos ht]
theorem p_skip_n {x : Int32} (h : PE σ ap dd tt bk bp bv dk dp dv dz n room tk tp tv) (hq : q < n) (ht : ¬ nI (tk q) = x) : f_PA_skip N ap x (pz σ ap dd dk dp dv dz q ds) = some (0, pz σ ap dd dk dp dv dz q ds) := by
  rw [p_skipX h hq, if_neg ht]
theorem p_take_y {x : Int32} (h : PE σ ap dd tt bk bp bv dk dp dv dz n room tk tp tv) (hq : q < n) (ht : nI (tk q) = x) : f_PA_take N ap x (pz σ ap dd dk dp dv dz q ds) = some (false, 0, pz σ ap dd dk dp dv dz (q + 1) ds) := by
  rw [p_takeX h hq, if_pos ht]
theorem p_take_n {x : Int32} (h : PE σ ap dd tt bk bp bv dk dp dv dz n room tk tp tv) (hq : q < n) (ht : ¬ nI (tk q) = x) : f_PA_take N ap x (pz σ ap dd dk dp dv dz q ds) = some (true, 0, mh_new (pz σ ap dd dk dp dv dz q ds) 9) := by
  rw [p_takeX h hq, if_neg ht]
theorem p_name_y (h : PE σ ap dd tt bk bp bv dk dp dv dz n room tk tp tv) (hq : q < n) (hd : ds.length < room) (ht : tk q = 2) (i : Nat) : f_PA_name N ap (pz σ ap dd dk dp dv dz q ds) = some (false, 0, pz σ ap dd dk dp dv dz (q + 1) (ds ++ post (one i 13 (tp q) (nI q) .leaf))) := by
  rw [p_name h hq hd, if_pos ht]; rfl
theorem p_name_n (h : PE σ ap dd tt bk bp bv dk dp dv dz n room tk tp tv) (hq : q < n) (hd : ds.length < room) (ht : tk q ≠ 2) : f_PA_name N ap (pz σ ap dd dk dp dv dz q ds) = some (true, 0, mh_new (pz σ ap dd dk dp dv dz q ds) 9) := by
  rw [p_name h hq hd, if_neg ht]
theorem p_num0_y (h : PE σ ap dd tt bk bp bv dk dp dv dz n room tk tp tv) (hq : q < n) (hd : ds.length < room) (ht : tk q = 3) (i : Nat) : f_PA_number N ap 0 (pz σ ap dd dk dp dv dz q ds) = some (false, 0, pz σ ap dd dk dp dv dz (q + 1) (ds ++ post (one i 12 (tp q) (1 * tv q) .leaf))) := by
  rw [p_number0 h hq hd, if_pos ht]; rfl
theorem p_num0_n (h : PE σ ap dd tt bk bp bv dk dp dv dz n room tk tp tv) (hq : q < n) (hd : ds.length < room) (ht : tk q ≠ 3) : f_PA_number N ap 0 (pz σ ap dd dk dp dv dz q ds) = some (true, 0, mh_new (pz σ ap dd dk dp dv dz q ds) 9) := by
  rw [p_number0 h hq hd, if_neg ht]
theorem p_limit_y {d : Nat} {x : Int32} (h : PE σ ap dd tt bk bp bv dk dp dv dz n room tk tp tv) (hx : x = nI d) (hd : d ≤ 60) : f_PA_limit N ap x (pz σ ap dd dk dp dv dz q ds) = some (false, 0, pz σ ap dd dk dp dv dz q ds) := by
  rw [hx, p_limit h (by omega), if_pos hd]
theorem p_limit_n {d : Nat} {x : Int32} (h : PE σ ap dd tt bk bp bv dk dp dv dz n room tk tp tv) (hx : x = nI d) (hd : d < 1000) (h6 : 60 < d) : f_PA_limit N ap x (pz σ ap dd dk dp dv dz q ds) = some (true, 0, mh_new (pz σ ap dd dk dp dv dz q ds) 9) := by
  rw [hx, p_limit h hd, if_neg (by omega)]
theorem p_fin {k p b : Nat} {f : Fo} (h : PE σ ap dd tt bk bp bv dk dp dv dz n room tk tp tv) (hd : ds.length + siz f < room) (hb : b = ds.length) (i : Nat) : f_PA_finish N ap (nI k) (nI p) (nI b) (pz σ ap dd dk dp dv dz q (ds ++ post f)) = some (pz σ ap dd dk dp dv dz q (ds ++ post (one i k p 0 f))) := by
  subst hb
  rw [p_finish h (by rw [List.length_append, post_len]; exact hd) (by simp), fin_eq _ i]
/-! the reference's -/
theorem r_look (R : RE S N n tk tp tv) (hn : n ≤ 8001) (hq : q < n) (hg : gd tk q) : f_RM_look N (qz S q 0 flt dr B) = some (kap (tk q), qz S q 0 flt dr B) := by
  rw [q_look0 (by omega), R_1 R hq hg]
theorem r_take_y {x : Int32} (R : RE S N n tk tp tv) (hn : n ≤ 8001) (hq : q < n) (hg : gd tk q) (hx : kap (tk q) = x) : f_RM_take N x (qz S q 0 flt dr B) = some (qz S (q + 1) 0 flt dr B) := by
  rw [q_take0 (by omega), R_1 R hq hg, if_pos hx]
theorem r_take_n {x : Int32} (R : RE S N n tk tp tv) (hn : n ≤ 8001) (hq : q < n) (hg : gd tk q) (hx : ¬ kap (tk q) = x) : f_RM_take N x (qz S q 0 flt dr B) = some (qz S q 1 (nI (tp q)) dr B) := by
  rw [q_take0 (by omega), R_1 R hq hg, R_2 R hq hg, if_neg hx]
theorem r_name_y (R : RE S N n tk tp tv) (hn : n ≤ 8001) (hq : q < n) (hg : gd tk q) (ht : tk q = 2) (hd : dr < 26000) : f_RM_name N (qz S q 0 flt dr B) = some (nI dr, qz S (q + 1) 0 flt (dr + 1) (bd B dr (nI 13) (nI (tp q)) (nI q))) := by
  rw [r_name R hn hq hg (by omega) hd, if_pos ht]; rfl
theorem r_name_n (R : RE S N n tk tp tv) (hn : n ≤ 8001) (hq : q < n) (hg : gd tk q) (ht' : tk q < 35) (ht : tk q ≠ 2) (hd : dr < 26000) : f_RM_name N (qz S q 0 flt dr B) = some (nI dr, qz S q 1 (nI (tp q)) (dr + 1) (bd B dr 13 (nI (tp q)) (nI q))) := by
  rw [r_name R hn hq hg ht' hd, if_neg ht]
theorem r_num0_y (R : RE S N n tk tp tv) (hn : n ≤ 8001) (hq : q < n) (hg : gd tk q) (ht : tk q = 3) (hd : dr < 26000) : f_RM_number N 0 (qz S q 0 flt dr B) = some (nI dr, qz S (q + 1) 0 flt (dr + 1) (bd B dr (nI 12) (nI (tp q)) (1 * tv q))) := by
  rw [r_number0 R hn hq hg (by omega) hd, if_pos ht]; rfl
theorem r_num0_n (R : RE S N n tk tp tv) (hn : n ≤ 8001) (hq : q < n) (hg : gd tk q) (ht' : tk q < 35) (ht : tk q ≠ 3) (hd : dr < 26000) : f_RM_number N 0 (qz S q 0 flt dr B) = some (nI dr, qz S q 1 (nI (tp q)) (dr + 1) (bd B dr 12 (nI (tp q)) (1 * 0))) := by
  rw [r_number0 R hn hq hg ht' hd, if_neg ht]
theorem r_draft {k p : Nat} {v x y : Int32} {bad : Nat} (hx : x = nI k) (hy : y = nI p) (hd : dr < 26000) : f_RM_draft N x y v (qz S q bad flt dr B) = some (nI dr, qz S q bad flt (dr + 1) (bd B dr (nI k) (nI p) v)) := by
  rw [hx, hy]; exact q_draft hd
theorem r_i (hn : n ≤ 8001) (hq : q < n) {bad : Nat} : ib ((qz S q bad flt dr B).1 12) 8002 := by
  rw [qz_12, n_ib (by omega)]; omega
theorem r_p {bad : Nat} (R : RE S N n tk tp tv) (hn : n ≤ 8001) (hq : q < n) (hg : gd tk q) : (qz S q bad flt dr B).2 5 (Int32.toNatClampNeg ((qz S q bad flt dr B).1 12)) = nI (tp q) := by
  rw [qz_12, n_nat (by omega), qz_a (by omega), R_2 R hq hg]
theorem r_need1 {bad : Nat} : f_RM_need N 1 (qz S q bad flt dr B) = some (qz S q bad flt dr B) := q_need1 (by decide)
theorem r_need0 (R : RE S N n tk tp tv) (hn : n ≤ 8001) (hq : q < n) (hg : gd tk q) : f_RM_need N 0 (qz S q 0 flt dr B) = some (qz S q 1 (nI (tp q)) dr B) := by
  rw [q_need0 (by omega), R_2 R hq hg]
theorem kp_y {x : Int32} {k : Nat} (h : k = j) (e : kap j = x) : kap k = x := by rw [h]; exact e
theorem kp_no {x k : Nat} (hx : ∀ i, i < 35 → kap i = nI x → i = k) {i : Nat} (hi : i < 35) (h : i ≠ k) : ¬ kap i = nI x := fun e => h (hx i hi e)
end LITS
section OUTS
variable {σ : mh_H} {ap dd tt bk bp bv dk dp dv dz n room : Nat} {tk tp : Nat → Nat} {tv : Nat → Int32} {N : Nat} {S : rm_S} {flt : Int32} {q0 : Nat} {ds : List Ent} {dr0 : Nat} {B0 : Nat → Nat → Int32} {lim hm : Nat} {rc rc' : Option (Bool × Int32 × mh_H)} {rr rr' : Option (Int32 × rm_S)} {q dr : Nat} {B : Nat → Nat → Int32}
theorem Out_c (h1 : rc = rc') (h2 : rr = rr') (h : Out σ ap dd dk dp dv dz n tk tp S flt q0 ds dr0 B0 lim hm rc' rr') : Out σ ap dd dk dp dv dz n tk tp S flt q0 ds dr0 B0 lim hm rc rr := by rw [h1, h2]; exact h
theorem Out_y {i k p : Nat} {v : Int32} {c : Fo} (h1 : rc = some (false, 0, pz σ ap dd dk dp dv dz q (ds ++ post (one i k p v c)))) (h2 : rr = some (nI i, qz S q 0 flt dr B)) (h : New n tk tp q0 dr0 B0 hm q i k p v c dr B) : Out σ ap dd dk dp dv dz n tk tp S flt q0 ds dr0 B0 lim hm rc rr := Or.inl ⟨q, i, k, p, v, c, dr, B, h1, h2, h⟩
theorem Out_b {x : List Ent} (h1 : rc = some (true, 0, mh_new (pz σ ap dd dk dp dv dz q (ds ++ x)) 9)) (h2 : rr = rr') (h3 : BM S q (nI (tp q)) dr0 lim rr') (h4 : q < n) (h5 : gd tk q) : Out σ ap dd dk dp dv dz n tk tp S flt q0 ds dr0 B0 lim hm rc rr := Or.inr ⟨q, x, h1, by rw [h2]; exact h3, h4, h5⟩
theorem Out_b0 (h1 : rc = some (true, 0, mh_new (pz σ ap dd dk dp dv dz q ds) 9)) (h2 : rr = rr') (h3 : BM S q (nI (tp q)) dr0 lim rr') (h4 : q < n) (h5 : gd tk q) : Out σ ap dd dk dp dv dz n tk tp S flt q0 ds dr0 B0 lim hm rc rr := Or.inr ⟨q, [], by rw [List.append_nil]; exact h1, by rw [h2]; exact h3, h4, h5⟩
theorem New_of {i k p : Nat} {v : Int32} {c : Fo} (hb : NB dr0 B0 i k p v c dr B) (h1 : q0 < q) (h2 : q < n) (h3 : gd tk q) (h4 : dr ≤ dr0 + 2 * (q - q0)) (h5 : 2 * siz c + 3 ≤ 3 * (q - q0)) (hw : wf n tk tp (one i k p v c)) (hh : hgt (one i k p v c) ≤ hm) : New n tk tp q0 dr0 B0 hm q i k p v c dr B :=
  ⟨⟨h1, h2, h3⟩, hb.1, hb.2.1, hb.2.2.1, hb.2.2.2, ⟨h4, h5, by have := nb_lt hb; omega⟩, hw, hh⟩
theorem q_deep_y {d : Nat} {x : Int32} (hx : x = nI d) (hd : d ≤ 60) : f_RM_deep N x (qz S q 0 flt dr B) = some (qz S q 0 flt dr B) := by
  have h1 := @q_need1 S N q 0 dr flt B 1 (by decide)
  subst hx
  simp (disch := omega) only [f_RM_deep, lit, n_lt]
  rw [if_neg (by omega)]; exact X_V h1 rfl
theorem q_deep_n {d : Nat} {x : Int32} (R : RE S N n tk tp tv) (hx : x = nI d) (hd : d < 1000) (h6 : 60 < d) (hn : n ≤ 8001) (hq : q < n) (hg : gd tk q) : f_RM_deep N x (qz S q 0 flt dr B) = some (qz S q 1 (nI (tp q)) dr B) := by
  rw [hx, ← R_2 R hq hg, q_deep hd (by omega), if_neg (by omega)]
theorem p_fin0 {k p b : Nat} (h : PE σ ap dd tt bk bp bv dk dp dv dz n room tk tp tv) (hd : ds.length < room) (hb : b = ds.length) (i : Nat) : f_PA_finish N ap (nI k) (nI p) (nI b) (pz σ ap dd dk dp dv dz q ds) = some (pz σ ap dd dk dp dv dz q (ds ++ post (one i k p 0 .leaf))) := by
  have := p_fin (N := N) (q := q) (k := k) (p := p) (f := .leaf) h (show ds.length + siz .leaf < room by simpa [siz] using hd) hb i
  rw [show ds ++ post .leaf = ds from List.append_nil ds] at this
  exact this
/-- a number, with or without a sign -/
theorem num1 (h : PE σ ap dd tt bk bp bv dk dp dv dz n room tk tp tv) (R : RE S N n tk tp tv) (hn : n ≤ 8001) (hq : q < n) (hg : gd tk q) (hd : dr < 26000) (hl : ds.length < room) :
    (∃ q' v, (q < q' ∧ q' < n ∧ gd tk q') ∧ f_PA_number N ap 1 (pz σ ap dd dk dp dv dz q ds) = some (false, 0, pz σ ap dd dk dp dv dz q' (ds ++ post (one dr 12 (tp q) v .leaf))) ∧ f_RM_number N 1 (qz S q 0 flt dr B) = some (nI dr, qz S q' 0 flt (dr + 1) (bd B dr (nI 12) (nI (tp q)) v)) ∧ v ≠ -2147483648) ∨
    (∃ q' v, (q ≤ q' ∧ q' < n ∧ gd tk q') ∧ f_PA_number N ap 1 (pz σ ap dd dk dp dv dz q ds) = some (true, 0, mh_new (pz σ ap dd dk dp dv dz q' ds) 9) ∧ f_RM_number N 1 (qz S q 0 flt dr B) = some (nI dr, qz S q' 1 (nI (tp q')) (dr + 1) (bd B dr (nI 12) (nI (tp q)) v))) := by
  have he : ∀ i, i < n → tk i ≠ 0 → i + 1 < n := by obtain ⟨⟨a1, a2, a3⟩, ⟨a4, a5, a6, a7, a8, a9, a10⟩, ⟨c1, c2⟩, ⟨c4, c5, c6⟩, ⟨c7, c8, c9, c10⟩, -, ⟨e5, e6, e7⟩, e8, -, -, -, -, e9, e10, e11, e12, e13⟩ := h; exact e13
  have ht : ∀ i, i < n → tk i < 35 := by obtain ⟨⟨a1, a2, a3⟩, ⟨a4, a5, a6, a7, a8, a9, a10⟩, ⟨c1, c2⟩, ⟨c4, c5, c6⟩, ⟨c7, c8, c9, c10⟩, -, ⟨e5, e6, e7⟩, e8, -, -, -, -, e9, e10, e11, e12, e13⟩ := h; exact fun i hi => (e9 i hi).2.2.2
  rw [p_number1 h hq hl, r_number1 R hn hq hg he ht hd]
  by_cases t1 : tk q = 23
  · have q1 := he q hq (by omega)
    have g1 := gd_s hg (by omega) (by omega)
    by_cases t2 : tk (q + 1) = 3
    · have q2 := he (q + 1) q1 (by omega)
      have g2 := gd_s g1 (by omega) (by omega)
      left; exact ⟨q + 1 + 1, -1 * tv (q + 1), ⟨by omega, q2, g2⟩, by rw [if_pos t1, if_pos t2]; rfl, by rw [if_pos t1, if_pos t2]; rfl, ((R (q + 1) q1 g1).2.2.2.2 t2).2⟩
    · right; exact ⟨q + 1, -1 * 0, ⟨by omega, q1, g1⟩, by rw [if_pos t1, if_neg t2], by rw [if_pos t1, if_neg t2]; rfl⟩
  · by_cases t2 : tk q = 3
    · have q1 := he q hq (by omega)
      have g1 := gd_s hg (by omega) (by omega)
      left; exact ⟨q + 1, 1 * tv q, ⟨by omega, q1, g1⟩, by rw [if_neg t1, if_pos t2]; rfl, by rw [if_neg t1, if_pos t2]; rfl, ((R q hq hg).2.2.2.2 t2).1⟩
    · right; exact ⟨q, 1 * 0, ⟨by omega, hq, hg⟩, by rw [if_neg t1, if_neg t2], by rw [if_neg t1, if_neg t2]; rfl⟩
end OUTS
section BMRUN
variable {α τ : Type} {S : rm_S} {q lo lim : Nat} {flt : Int32}
theorem BM_bndE {x x' : α} {k : α → Option (Int32 × rm_S)} (hx : x = x') (h : BM S q flt lo lim (k x')) : BM S q flt lo lim (bnd x k) := by subst hx; exact h
theorem BM_bnd {x : α} {k : α → Option (Int32 × rm_S)} (h : BM S q flt lo lim (k x)) : BM S q flt lo lim (bnd x k) := h
theorem BM_chk {c : Prop} [Decidable c] {r : Option (Int32 × rm_S)} (hc : c) (h : BM S q flt lo lim r) : BM S q flt lo lim (chk c r) := by rw [e_chk hc]; exact h
theorem BM_I {r : Option (α × τ)} {k : α → τ → Option (Int32 × rm_S)} {a : α} {s : τ} (hr : r = some (a, s)) (h : BM S q flt lo lim (k a s)) : BM S q flt lo lim (calI r k) := by subst hr; exact h
theorem BM_V {r : Option τ} {k : τ → Option (Int32 × rm_S)} {s : τ} (hr : r = some s) (h : BM S q flt lo lim (k s)) : BM S q flt lo lim (calV r k) := by subst hr; exact h
theorem BM_if {c : Prop} [Decidable c] {a b : Option (Int32 × rm_S)} (hc : c) (h : BM S q flt lo lim a) : BM S q flt lo lim (if c then a else b) := by rw [if_pos hc]; exact h
theorem BM_nif {c : Prop} [Decidable c] {a b : Option (Int32 × rm_S)} (hc : ¬ c) (h : BM S q flt lo lim b) : BM S q flt lo lim (if c then a else b) := by rw [if_neg hc]; exact h
theorem M_VI {β : Type} {r : Option (α × τ)} {k : α → τ → Option β} {K : β → Option (Int32 × rm_S)} (h : BM S q flt lo lim (calI r fun a s => calV (k a s) K)) : BM S q flt lo lim (calV (calI r k) K) := by rw [A_VI rfl]; exact h
theorem M_VV {β : Type} {r : Option τ} {k : τ → Option β} {K : β → Option (Int32 × rm_S)} (h : BM S q flt lo lim (calV r fun s => calV (k s) K)) : BM S q flt lo lim (calV (calV r k) K) := by rw [A_VV rfl]; exact h
theorem M_Vif {β : Type} {c : Prop} [Decidable c] {a b : Option β} {K : β → Option (Int32 × rm_S)} (h : BM S q flt lo lim (if c then calV a K else calV b K)) : BM S q flt lo lim (calV (if c then a else b) K) := by rw [A_Vif rfl]; exact h
theorem M_Vs {β : Type} {s : β} {K : β → Option (Int32 × rm_S)} (h : BM S q flt lo lim (K s)) : BM S q flt lo lim (calV (some s) K) := h
theorem M_II {β γ : Type} {r : Option (α × τ)} {k : α → τ → Option (β × γ)} {K : β → γ → Option (Int32 × rm_S)} (h : BM S q flt lo lim (calI r fun a s => calI (k a s) K)) : BM S q flt lo lim (calI (calI r k) K) := by rw [A_II rfl]; exact h
theorem M_IV {β γ : Type} {r : Option τ} {k : τ → Option (β × γ)} {K : β → γ → Option (Int32 × rm_S)} (h : BM S q flt lo lim (calV r fun s => calI (k s) K)) : BM S q flt lo lim (calI (calV r k) K) := by rw [A_IV rfl]; exact h
theorem M_Iif {β γ : Type} {c : Prop} [Decidable c] {a b : Option (β × γ)} {K : β → γ → Option (Int32 × rm_S)} (h : BM S q flt lo lim (if c then calI a K else calI b K)) : BM S q flt lo lim (calI (if c then a else b) K) := by rw [A_Iif rfl]; exact h
theorem M_Is {β γ : Type} {a : β} {s : γ} {K : β → γ → Option (Int32 × rm_S)} (h : BM S q flt lo lim (K a s)) : BM S q flt lo lim (calI (some (a, s)) K) := h
theorem M_Ichk {β γ : Type} {c : Prop} [Decidable c] {a : Option (β × γ)} {K : β → γ → Option (Int32 × rm_S)} (h : BM S q flt lo lim (chk c (calI a K))) : BM S q flt lo lim (calI (chk c a) K) := by rw [A_Ichk rfl]; exact h
theorem r_nb {N dr : Nat} {x : Int32} {B : Nat → Nat → Int32} (hd : dr < 26000) (hq : q < 8002) : f_RM_number N x (qz S q 1 flt dr B) = some (nI dr, qz S q 1 flt (dr + 1) (bd B dr 12 (S.2 5 q) (1 * 0))) := r_numberb' hd hq
theorem r_db {N dr : Nat} {k p v : Int32} {B : Nat → Nat → Int32} (hd : dr < 26000) : f_RM_draft N k p v (qz S q 1 flt dr B) = some (nI dr, qz S q 1 flt (dr + 1) (bd B dr k p v)) := q_draft hd
theorem q_deepb' {N dr d : Nat} {x : Int32} {B : Nat → Nat → Int32} (hx : x = nI d) (hd : d < 1000) : f_RM_deep N x (qz S q 1 flt dr B) = some (qz S q 1 flt dr B) := by subst hx; exact q_deepb hd
end BMRUN
