/-! both read a text: the whole of it -/
def CS (τ : mh_H) (own P V : Nat → Nat) (lf lo : List Nat) (nt : List (List Int32)) (F : Nat → Fo) : Prop := C0 τ own P V ∧ CW τ own P ∧ CR τ own 1 (P 10) (V 0) (lf.map sx) ∧ CR τ own 2 (V 1) (V 2) (lo.map sx) ∧ (∃ l, CR τ own 3 (V 3) (V 4) l) ∧ C4 τ own P V ∧ C6 τ own P V nt ∧ (∀ t, t < 2 → C7 τ own P V t (txt (F t)) (rkT (F t)))
def RI (S : rm_S) (lf lo : List Nat) (nt : List (List Int32)) (F : Nat → Fo) : Prop := (S.1 2 = nI lf.length ∧ (∀ i (hi : i < lf.length), S.2 1 i = nI lf[i])) ∧ (S.1 5 = nI lo.length ∧ (∀ i (hi : i < lo.length), S.2 2 i = nI lo[i])) ∧ NT S.2 nt ∧ S.1 31 = nI nt.length ∧ (∀ t, t < 2 → TR S t (13000 * t) (txt (F t)))
def rA (τ : mh_H) (V : Nat → Nat) : Nat := hN τ (V 0) + hN τ (V 2) + hN τ (V 4) + (3 * V 11 + hN τ (V 9))
def rB (V : Nat → Nat) : Nat := 3 * V 6 + 4 * V 8 + 7 * V 13 + 7 * V 15
def Bud (τ : mh_H) (V : Nat → Nat) (τ' : mh_H) (V' : Nat → Nat) (c m : Nat) : Prop := 16 * c + rA τ V ≤ rA τ' V' + 240 ∧ m + 2 * (rA τ V + rB V) ≤ 2 * (rA τ' V' + rB V') + 6
def setF (F : Nat → Fo) (t : Nat) (f : Fo) : Nat → Fo := fun x => if x = t then f else F x
/-- a word's bytes are word bytes -/
theorem we_all (g : Nat → Nat) (e : Nat) : ∀ m i j, i ≤ j → j < we g e m i → (cL (g j) || cD (g j)) = true ∧ j < e := by
  intro m
  induction m with
  | zero => intro i j h1 h2; simp [we] at h2; omega
  | succ m ih =>
    intro i j h1 h2
    by_cases h : i < e ∧ (cL (g i) || cD (g i)) = true
    · rw [we_y h.1 h.2] at h2
      by_cases e1 : j = i
      · subst e1; exact ⟨h.2, h.1⟩
      · exact ih (i + 1) j (by omega) h2
    · rw [we_n h] at h2; omega
theorem wb_lt {c : Nat} (h : (cL c || cD c) = true) : c < 128 := by
  simp [cL, cD] at h
  omega
theorem sx_wb {c : Nat} (h : (cL c || cD c) = true) : sx c = nI c := if_pos (wb_lt h)
theorem wlp_ref {g : Nat → Nat} {e p l : Nat} {bt : Nat → Int32} (hp : p < e) (he : e ≤ 8000) (hl : we g e (e - p) p = p + l) (hb : ∀ i, i < e → bt i = nI (g i)) : wd bt p l = wlp g e (nI p) := by
  have hr := we_range g e (e - p) p (by omega)
  unfold wlp wd
  rw [n_nat (by omega), hl, show p + l - p = l by omega]
  apply List.map_congr_left
  intro i hi
  rw [List.mem_range] at hi
  have hw := we_all g e (e - p) p (p + i) (by omega) (by omega)
  rw [hb (p + i) (by omega), sx_wb hw.1]
/-- what a kept tree is -/
def wt (n : Nat) : Fo → Prop
  | .leaf => True
  | .inner _ x _ c m => okk x.1 (kls c) ∧ (x.1 = 13 → ∃ k, k < n ∧ x.2.2 = nI k) ∧ (x.1 = 12 → x.2.2 ≠ -2147483648) ∧ wt n c ∧ wt n m
theorem wt_mono {n n' : Nat} (h : n ≤ n') : ∀ {f : Fo}, wt n f → wt n' f := by
  intro f
  induction f with
  | leaf => intro _; trivial
  | inner i x u c m ic im =>
    intro h'
    obtain ⟨h1, h2, h3, h4, h5⟩ := h'
    exact ⟨h1, fun e => by obtain ⟨k, hk, hv⟩ := h2 e; exact ⟨k, by omega, hv⟩, h3, ic h4, im h5⟩
theorem kls_res (tx : Nat → List Int32) : ∀ (f : Fo) (nt : List (List Int32)), kls (res tx f nt).1 = kls f := by
  intro f
  induction f with
  | leaf => intro nt; rfl
  | inner i x u c m ic im => intro nt; simp only [res, kls, im]
theorem hgt_res (tx : Nat → List Int32) : ∀ (f : Fo) (nt : List (List Int32)), hgt (res tx f nt).1 = hgt f := by
  intro f
  induction f with
  | leaf => intro nt; rfl
  | inner i x u c m ic im => intro nt; simp only [res, hgt, ic, im]
theorem fnd_lt {nt : List (List Int32)} {w : List Int32} (h : w ∈ nt) : fnd nt w < nt.length := by
  unfold fnd
  apply List.findIdx_lt_length_of_exists
  exact ⟨w, h, by simp⟩
theorem addw_mem (nt : List (List Int32)) (w : List Int32) : w ∈ addw nt w := by
  unfold addw
  by_cases h : w ∈ nt
  · rw [if_pos h]; exact h
  · rw [if_neg h]; simp
theorem wt_res {n : Nat} {tk tp : Nat → Nat} (tx : Nat → List Int32) : ∀ (f : Fo) (nt : List (List Int32)), wf n tk tp f → wt (res tx f nt).2.length (res tx f nt).1 := by
  intro f
  induction f with
  | leaf => intro nt _; trivial
  | inner i x u c m ic im =>
    intro nt h
    obtain ⟨h1, ⟨h2, h3⟩, _, h4, h5⟩ := h
    simp only [res]
    obtain ⟨e1, hc⟩ := res_ext tx c (if x.1 = 13 then addw nt (tx x.2.2.toNatClampNeg) else nt)
    obtain ⟨e2, hm⟩ := res_ext tx m (res tx c (if x.1 = 13 then addw nt (tx x.2.2.toNatClampNeg) else nt)).2
    have hmono : (res tx c (if x.1 = 13 then addw nt (tx x.2.2.toNatClampNeg) else nt)).2.length ≤ (res tx m (res tx c (if x.1 = 13 then addw nt (tx x.2.2.toNatClampNeg) else nt)).2).2.length := by rw [hm]; simp
    refine ⟨by simp only [kls_res]; exact h1, fun e => ⟨fnd (addw nt (tx x.2.2.toNatClampNeg)) (tx x.2.2.toNatClampNeg), ?_, by simp only [if_pos e]⟩, fun e => by simp only at e; simp only [if_neg (show ¬ x.1 = 13 by omega)]; exact h3 e, wt_mono hmono (ic _ h4), im _ h5⟩
    simp only at e
    have hl := fnd_lt (addw_mem nt (tx x.2.2.toNatClampNeg))
    rw [if_pos e] at hc hmono ⊢
    have hcl : (addw nt (tx x.2.2.toNatClampNeg)).length ≤ (res tx c (addw nt (tx x.2.2.toNatClampNeg))).2.length := by rw [hc]; simp
    omega
theorem twf_of {n e : Nat} {tk tp ln : Nat → Nat} {g : Nat → Nat} {bt : Nat → Int32} (he : e ≤ 8000) (hb : ∀ i, i < e → bt i = nI (g i)) (hw : ∀ j, j < n → gd tk j → tk j = 2 → we g e (e - tp j) (tp j) = tp j + ln j ∧ tp j < e) : ∀ {f : Fo}, wf n tk tp f → n ≤ 8001 → twf (fun j => wd bt (tp j) (ln j)) (wlp g e) f := by
  intro f
  induction f with
  | leaf => intro _ _; trivial
  | inner i x u c m ic im =>
    intro h hn
    obtain ⟨h1, ⟨h2, h3⟩, _, h4, h5⟩ := h
    refine ⟨fun e13 => ?_, by have := okk_lt h1; omega, ic h4 hn, im h5 hn⟩
    obtain ⟨j, hj, hg, h2', hv, hp⟩ := h2 e13
    obtain ⟨w1, w2⟩ := hw j hj hg h2'
    rw [hv, n_nat (by omega), hp]
    exact wlp_ref w2 he w1 hb
