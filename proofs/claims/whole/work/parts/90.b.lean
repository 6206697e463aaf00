/-! WHAT IS WRITTEN: trees -/
def bgi (k : Nat) : Nat := (f_WR_beginning 0 (nI k)).getD 23
def lji (k : Nat) : Nat := (f_WR_laterJoint 0 (nI k)).getD 23
def jnt (kw pw fk j : Nat) : Nat := if kw = 1 then (if j = 0 then 23 else if j + 1 = pw then (if j = 1 then 31 else 30) else if j = 1 then 32 else 33) else if kw = 6 then (if j = 0 then 23 else if j = 1 then 35 else 36) else if kw = 7 then (if j = 0 then 23 else if j = 1 then (if fk = 33 then 23 else 34) else if j = 2 then 32 else 33) else if kw = 8 then (if j = 0 then 23 else if j = 1 then 30 else 37) else if kw = 16 then (if j = 0 then 32 else 33) else if j = 0 then 23 else lji kw
def edi (k n : Nat) : Nat := if k = 2 then 24 else if k = 3 then 25 else if k = 4 then 26 else if k = 5 then 25 else if k = 6 then 25 else if k = 7 then (if n = 2 then 27 else 28) else if k = 10 then 28 else if k = 11 then 25 else if k = 14 then 29 else if k = 16 then (if n = 0 then 23 else 30) else 23
def brk (k kw : Nat) : Bool := if k = 17 then decide (15 ≤ kw) && decide (kw ≤ 23) else if k = 20 then decide (kw = 15) || (decide (20 ≤ kw) && decide (kw ≤ 23)) else if k = 24 then decide (24 ≤ kw) && decide (kw ≤ 26) else if k = 25 then decide (kw = 25) || decide (kw = 26) else false
def opi (k : Nat) : Nat := if k = 24 ∨ k = 25 then 35 else 32
def cli (k : Nat) : Nat := if k = 24 ∨ k = 25 then 29 else 30
def fstk : Fo → Nat
  | .leaf => 0
  | .inner _ x _ _ _ => x.1
def beg (nt : List (List Int32)) (x : Nat × Nat × Int32) (O : Ob) : Ob := if x.1 = 12 then num x.2.2 O else if x.1 = 13 then emit O (nw (nt.getD x.2.2.toNatClampNeg [])) else emit O (sN (bgi x.1))
def opn (k kw : Nat) (O : Ob) : Ob := if brk k kw then emit O (sN (opi k)) else O
def clo (k kw : Nat) (O : Ob) : Ob := if brk k kw then emit O (sN (cli k)) else O
def cw (nt : List (List Int32)) : Fo → Nat → Nat → Nat → Nat → Ob → Ob
  | .leaf, _, _, _, _, O => O
  | .inner _ x _ c m, kw, pw, fk, j, O => cw nt m kw pw fk (j + 1) (clo x.1 kw (emit (cw nt c x.1 (nro c) (fstk c) 0 (beg nt x (opn x.1 kw (emit O (sN (jnt kw pw fk j)))))) (sN (edi x.1 (nro c)))))
def body (nt : List (List Int32)) (x : Nat × Nat × Int32) (c : Fo) (O : Ob) : Ob := emit (cw nt c x.1 (nro c) (fstk c) 0 (beg nt x O)) (sN (edi x.1 (nro c)))
theorem cw_in (nt : List (List Int32)) (i : Nat) (x : Nat × Nat × Int32) (u : Unit) (c m : Fo) (kw pw fk j : Nat) (O : Ob) : cw nt (.inner i x u c m) kw pw fk j O = cw nt m kw pw fk (j + 1) (clo x.1 kw (body nt x c (opn x.1 kw (emit O (sN (jnt kw pw fk j)))))) := rfl
theorem cw_leaf (nt : List (List Int32)) (kw pw fk j : Nat) (O : Ob) : cw nt .leaf kw pw fk j O = O := rfl
theorem brk_no {k kw : Nat} (h : kw ≤ 14 ∨ 27 ≤ kw) : brk k kw = false := by
  unfold brk
  split
  · simp; omega
  · split
    · simp; omega
    · split
      · simp; omega
      · split
        · simp; omega
        · rfl
theorem brk_k {k kw : Nat} (h : k ≠ 17 ∧ k ≠ 20 ∧ k ≠ 24 ∧ k ≠ 25) : brk k kw = false := by
  unfold brk
  rw [if_neg h.1, if_neg h.2.1, if_neg h.2.2.1, if_neg h.2.2.2]
theorem opn_n {k kw : Nat} {O : Ob} (h : brk k kw = false) : opn k kw O = O := by
  unfold opn; rw [h]; rfl
theorem clo_n {k kw : Nat} {O : Ob} (h : brk k kw = false) : clo k kw O = O := by
  unfold clo; rw [h]; rfl
theorem em23 (O : Ob) : emit O (sN 23) = O := rfl
/-- one after the other -/
def sq (nt : List (List Int32)) : Fo → Ob → Ob
  | .leaf, O => O
  | .inner _ x _ c m, O => sq nt m (body nt x c O)
/-- with commas -/
def cms (nt : List (List Int32)) : Fo → Bool → Ob → Ob
  | .leaf, _, O => O
  | .inner _ x _ c m, b, O => cms nt m false (body nt x c (if b then O else emit O [44]))
theorem cw_sq {nt : List (List Int32)} {kw pw fk : Nat} : ∀ (m : Fo) (j : Nat) (O : Ob), (∀ r, j ≤ r → jnt kw pw fk r = 23) → (∀ k ∈ kls m, brk k kw = false) → cw nt m kw pw fk j O = sq nt m O := by
  intro m
  induction m with
  | leaf => intro j O _ _; rfl
  | inner i x u c m ic im =>
    intro j O h1 h2
    have hb := h2 x.1 (by simp [kls])
    rw [cw_in, h1 j (Nat.le_refl _), em23, opn_n hb, clo_n hb, im (j + 1) _ (fun r hr => h1 r (by omega)) (fun k hk => h2 k (by simp [kls, hk]))]
    rfl
theorem cw_cms {nt : List (List Int32)} {kw pw fk : Nat} : ∀ (m : Fo) (j : Nat) (O : Ob), (∀ r, j ≤ r → r < j + nro m → jnt kw pw fk r = 33) → (∀ k ∈ kls m, brk k kw = false) → cw nt m kw pw fk j O = cms nt m false O := by
  intro m
  induction m with
  | leaf => intro j O _ _; rfl
  | inner i x u c m ic im =>
    intro j O h1 h2
    have hb := h2 x.1 (by simp [kls])
    rw [cw_in, h1 j (Nat.le_refl _) (by simp only [nro]; omega), opn_n hb, clo_n hb, im (j + 1) _ (fun r hr hr2 => h1 r (by omega) (by simp only [nro]; omega)) (fun k hk => h2 k (by simp [kls, hk]))]
    rfl
/-! how the reference shows them -/
theorem Rs_I {S0 : rm_S} {r : Option (Int32 × rm_S)} {k : Int32 → rm_S → Option rm_S} {a : Int32} {S' : rm_S} {O : Ob} (hr : r = some (a, S')) (h : Rs S0 (k a S') O) : Rs S0 (calI r k) O := by subst hr; exact h
theorem Rs_Is {S0 : rm_S} {r : Option (Nat × rm_S)} {k : Nat → rm_S → Option rm_S} {a : Nat} {S' : rm_S} {O : Ob} (hr : r = some (a, S')) (h : Rs S0 (k a S') O) : Rs S0 (calI r k) O := by subst hr; exact h
theorem Rs_bnd {S0 : rm_S} {α : Type} {x x' : α} {k : α → Option rm_S} {O : Ob} (hx : x = x') (h : Rs S0 (k x') O) : Rs S0 (bnd x k) O := by subst hx; exact h
theorem Rs_if {S0 : rm_S} {c : Prop} [Decidable c] {a b : Option rm_S} {O : Ob} (hc : c) (h : Rs S0 a O) : Rs S0 (if c then a else b) O := by rw [if_pos hc]; exact h
theorem Rs_nif {S0 : rm_S} {c : Prop} [Decidable c] {a b : Option rm_S} {O : Ob} (hc : ¬ c) (h : Rs S0 b O) : Rs S0 (if c then a else b) O := by rw [if_neg hc]; exact h
theorem Rs_chk {S0 : rm_S} {c : Prop} [Decidable c] {a : Option rm_S} {O : Ob} (hc : c) (h : Rs S0 a O) : Rs S0 (chk c a) O := by rw [e_chk hc]; exact h
abbrev FaS (S0 : rm_S) (t : Nat) : Fo → Nat → Int32 → Prop := Fa (fun j => S0.2 14 (13000 * t + j)) (fun j => S0.2 16 (13000 * t + j)) (fun j => S0.2 17 (13000 * t + j)) (fun j => S0.2 18 (13000 * t + j))
def Sh1 (S0 : rm_S) (N L t p : Nat) (nt : List (List Int32)) (x : Nat × Nat × Int32) (c : Fo) : Prop := ∀ O S, RW S0 O S → Rs S0 (rw_show N L (nI t) (nI p) S) (body nt x c O)
def ShF (S0 : rm_S) (N L t : Nat) (nt : List (List Int32)) : Fo → Nat → Prop
  | .leaf, _ => True
  | .inner _ x _ c m, s => Sh1 S0 N L t s nt x c ∧ ShF S0 N L t nt m (s + 1 + siz c)
section SHOW
variable {S0 : rm_S} {N t : Nat} {nt : List (List Int32)}
theorem s_kind {S : rm_S} {O : Ob} {p k : Nat} (ht : t < 2) (h : RW S0 O S) (hk : S0.2 14 (13000 * t + p) = nI k) (hp : p < 13000) : f_RM_kindAt N (nI t) (nI p) S = some (nI k, S) := by
  have e0 : (13000 : Int32) * nI t + nI p = nI (13000 * t + p) := by rw [show (13000 : Int32) * nI t = nI (13000 * t) from n_mul 13000 t, n_add]
  unfold f_RM_kindAt
  refine X_chk (by rw [e0, n_ib (by omega)]; omega) ?_
  rw [e0, n_nat (by omega), h.1.2 14 (by omega), hk]
theorem s_behind {S : rm_S} {O : Ob} {p z : Nat} (ht : t < 2) (h : RW S0 O S) (hz : S0.2 18 (13000 * t + p) = nI (z + 1)) (hp : p < 13000) : f_RM_behind N (nI t) (nI p) S = some (nI (p + 1 + z), S) := by
  have e0 : (13000 : Int32) * nI t + nI p = nI (13000 * t + p) := by rw [show (13000 : Int32) * nI t = nI (13000 * t) from n_mul 13000 t, n_add]
  unfold f_RM_behind
  refine X_chk (by rw [e0, n_ib (by omega)]; omega) ?_
  rw [e0, n_nat (by omega), h.1.2 18 (by omega), hz, n_add]
  congr 3; omega
theorem sh_40 {pc pst psf pt} {L k : Nat} (ht : t < 2) (hk : k = 0 ∨ k = 2) : ∀ (m : Fo) (q e fu : Nat) (w : Int32) {O : Ob} {S : rm_S}, RW S0 O S → ShF S0 N L t nt m q → FaS S0 t m q w → q + siz m = e → e ≤ 13000 → nro m < fu → Rs S0 (k_RM_show_40 N (rw_show N L) pc pst psf pt fu (nI t) (nI k) (nI q) (nI e) S) (if k = 2 then emit (sq nt m O) [125] else sq nt m O) := by
  intro m
  induction m with
  | leaf =>
    intro q e fu w O S h _ _ he he2 hfu
    obtain ⟨fu, rfl⟩ : ∃ x, fu = x + 1 := ⟨fu - 1, by simp [nro] at hfu; omega⟩
    simp only [siz] at he
    unfold k_RM_show_40
    refine Rs_if (by rw [n_le (by omega) (by omega)]; omega) ?_
    rcases hk with hk | hk
    · subst hk
      exact Rs_nif (by decide) (Rs_ret h)
    · subst hk
      exact Rs_if (by decide) (Rs_V (r_begin (N := N) (c := 125) h (by omega)) (fun S' h' => Rs_ret h'))
  | inner i x u c m _ im =>
    intro q e fu w O S h hs hf he he2 hfu
    obtain ⟨fu, rfl⟩ : ∃ x, fu = x + 1 := ⟨fu - 1, by simp [nro] at hfu; omega⟩
    simp only [siz] at he
    simp only [nro] at hfu
    obtain ⟨⟨_, _, _, f1⟩, _, f2⟩ := hf
    unfold k_RM_show_40
    refine Rs_nif (by rw [n_le (by omega) (by omega)]; omega) (Rs_V (hs.1 O S h) (fun S' h' => Rs_I (s_behind ht h' f1 (by omega)) ?_))
    exact im (q + 1 + siz c) e fu w h' hs.2 f2 (by omega) he2 (by omega)
theorem s_342 {pc pst psf pt} {L : Nat} (ht : t < 2) : ∀ (m : Fo) (q e fu : Nat) (w : Int32) {O : Ob} {S : rm_S}, RW S0 O S → ShF S0 N L t nt m q → FaS S0 t m q w → q + siz m = e → e ≤ 13000 → nro m < fu → Rs S0 (k_RM_show_342 N (rw_show N L) pc pst psf pt fu (nI t) (nI q) (nI e) S) (sq nt m O) := by
  intro m
  induction m with
  | leaf =>
    intro q e fu w O S h _ _ he he2 hfu
    obtain ⟨fu, rfl⟩ : ∃ x, fu = x + 1 := ⟨fu - 1, by simp [nro] at hfu; omega⟩
    simp only [siz] at he
    unfold k_RM_show_342
    exact Rs_if (by rw [n_le (by omega) (by omega)]; omega) (Rs_ret h)
  | inner i x u c m _ im =>
    intro q e fu w O S h hs hf he he2 hfu
    obtain ⟨fu, rfl⟩ : ∃ x, fu = x + 1 := ⟨fu - 1, by simp [nro] at hfu; omega⟩
    simp only [siz] at he
    simp only [nro] at hfu
    obtain ⟨⟨_, _, _, f1⟩, _, f2⟩ := hf
    unfold k_RM_show_342
    refine Rs_nif (by rw [n_le (by omega) (by omega)]; omega) (Rs_V (hs.1 O S h) (fun S' h' => Rs_I (s_behind ht h' f1 (by omega)) ?_))
    exact im (q + 1 + siz c) e fu w h' hs.2 f2 (by omega) he2 (by omega)
theorem s_com {L a : Nat} (ht : t < 2) : ∀ (m : Fo) (q e fu : Nat) (w : Int32) (b : Bool) {O : Ob} {S : rm_S}, RW S0 O S → ShF S0 N L t nt m q → FaS S0 t m q w → q + siz m = e → e ≤ 13000 → nro m < fu → (b = true → q = a) → (b = false → a < q) → Rs S0 (k_RM_commas_9 N (rw_show N L) fu (nI t) (nI a) (nI e) (nI q) S) (emit (cms nt m b O) [41]) := by
  intro m
  induction m with
  | leaf =>
    intro q e fu w b O S h _ _ he he2 hfu hb1 hb2
    obtain ⟨fu, rfl⟩ : ∃ x, fu = x + 1 := ⟨fu - 1, by simp [nro] at hfu; omega⟩
    simp only [siz] at he
    unfold k_RM_commas_9
    exact Rs_if (by rw [n_le (by omega) (by omega)]; omega) (Rs_V (r_begin (N := N) (c := 41) h (by omega)) (fun S' h' => Rs_ret h'))
  | inner i x u c m _ im =>
    intro q e fu w b O S h hs hf he he2 hfu hb1 hb2
    obtain ⟨fu, rfl⟩ : ∃ x, fu = x + 1 := ⟨fu - 1, by simp [nro] at hfu; omega⟩
    simp only [siz] at he
    simp only [nro] at hfu
    obtain ⟨⟨_, _, _, f1⟩, _, f2⟩ := hf
    have go : ∀ {O' : Ob} {S' : rm_S}, RW S0 O' S' → q ≥ a → Rs S0 (k_RM_commas_27 N (rw_show N L) (k_RM_commas_9 N (rw_show N L) fu) (nI t) (nI a) (nI e) (nI q) S') (emit (cms nt m false (body nt x c O')) [41]) := by
      intro O' S' h' hqa
      unfold k_RM_commas_27
      refine Rs_V (hs.1 O' S' h') (fun S'' h'' => Rs_I (s_behind ht h'' f1 (by omega)) ?_)
      exact im (q + 1 + siz c) e fu w false h'' hs.2 f2 (by omega) he2 (by omega) (fun h => by simp at h) (fun _ => by omega)
    unfold k_RM_commas_9
    refine Rs_nif (by rw [n_le (by omega) (by omega)]; omega) ?_
    cases b with
    | true =>
      have := hb1 rfl
      exact Rs_if (by rw [n_le (by omega) (by omega)]; omega) (go h (by omega))
    | false =>
      have := hb2 rfl
      exact Rs_nif (by rw [n_le (by omega) (by omega)]; omega) (Rs_V (r_begin (N := N) (c := 44) h (by omega)) (fun S' h' => go h' (by omega)))
theorem s_commas {L q e : Nat} {m : Fo} {w : Int32} {O : Ob} {S : rm_S} (ht : t < 2) (hNN : 40000 ≤ N) (h : RW S0 O S) (hs : ShF S0 N L t nt m q) (hf : FaS S0 t m q w) (he : q + siz m = e) (he2 : e ≤ 13000) : Rs S0 (rw_commas N (L + 1) (nI t) (nI q) (nI e) S) (emit (cms nt m true (emit O [40])) [41]) := by
  rw [rw_commas_s]
  unfold f_RM_commas
  refine Rs_V (r_begin (N := N) (c := 40) h (by omega)) (fun S' h' => ?_)
  have := nro_le m
  exact s_com ht m q e N w true h' hs hf he he2 (by omega) (fun _ => rfl) (fun h => by simp at h)
end SHOW
