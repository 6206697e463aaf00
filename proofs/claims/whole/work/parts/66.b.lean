/-! the class's names: linking one in -/
/-- the names whose chain is h, the latest first -/
def chn (nt : List (List Int32)) (R h : Nat) : Nat → List Nat
  | 0 => []
  | n + 1 => if hx (nt.getD n []) R = h then n :: chn nt R h n else chn nt R h n
/-- the first n names are linked -/
def LK (X H : Nat → Int32) (nt : List (List Int32)) (R n : Nat) : Prop := ∀ h, h < R → ChL X (chn nt R h n) (H h)
theorem chn_lt {nt : List (List Int32)} {R h : Nat} : ∀ n a, a ∈ chn nt R h n → a < n := by
  intro n
  induction n with
  | zero => intro a ha; simp [chn] at ha
  | succ n ih =>
    intro a ha
    unfold chn at ha
    by_cases hc : hx (nt.getD n []) R = h
    · rw [if_pos hc] at ha
      rcases List.mem_cons.mp ha with rfl | ha
      · omega
      · have := ih a ha; omega
    · rw [if_neg hc] at ha
      have := ih a ha; omega
theorem chn_mem {nt : List (List Int32)} {R h : Nat} : ∀ n a, a < n → hx (nt.getD a []) R = h → a ∈ chn nt R h n := by
  intro n
  induction n with
  | zero => intro a ha; omega
  | succ n ih =>
    intro a ha hc
    unfold chn
    by_cases e : a = n
    · subst e; rw [if_pos hc]; simp
    · have := ih a (by omega) hc
      by_cases hc2 : hx (nt.getD n []) R = h
      · rw [if_pos hc2]; simp [this]
      · rw [if_neg hc2]; exact this
theorem chn_len {nt : List (List Int32)} {R h : Nat} : ∀ n, (chn nt R h n).length ≤ n := by
  intro n
  induction n with
  | zero => simp [chn]
  | succ n ih =>
    unfold chn
    by_cases hc : hx (nt.getD n []) R = h
    · rw [if_pos hc]; simp; exact ih
    · rw [if_neg hc]; omega
theorem chn_app {nt : List (List Int32)} {w : List Int32} {R h : Nat} : ∀ n, n ≤ nt.length → chn (nt ++ [w]) R h n = chn nt R h n := by
  intro n
  induction n with
  | zero => intro _; rfl
  | succ n ih =>
    intro hn
    have e : (nt ++ [w]).getD n [] = nt.getD n [] := by
      simp [List.getD, List.getElem?_append_left (show n < nt.length by omega)]
    unfold chn
    rw [e, ih (by omega)]
theorem ChL_set {X X' : Nat → Int32} : ∀ {cl : List Nat} {v : Int32}, (∀ a ∈ cl, X' a = X a) → ChL X cl v → ChL X' cl v := by
  intro cl
  induction cl with
  | nil => intro v _ h; exact h
  | cons a r ih =>
    intro v hs h
    refine ⟨h.1, ?_⟩
    rw [hs a (by simp)]
    exact ih (fun b hb => hs b (by simp [hb])) h.2
/-- linking the name n in front of its chain -/
theorem LK_link {X H : Nat → Int32} {nt : List (List Int32)} {R n : Nat} (h : LK X H nt R n) : LK (fun a => if a = n then H (hx (nt.getD n []) R) else X a) (fun a => if a = hx (nt.getD n []) R then nI n else H a) nt R (n + 1) := by
  intro k hk
  have hset : ChL (fun a => if a = n then H (hx (nt.getD n []) R) else X a) (chn nt R k n) (H k) := ChL_set (fun a ha => by
    have := chn_lt n a ha
    simp; omega) (h k hk)
  unfold chn
  by_cases hc : hx (nt.getD n []) R = k
  · rw [if_pos hc]
    refine ⟨if_pos hc.symm, ?_⟩
    rw [hc] at hset ⊢
    simp only [if_true]
    exact hset
  · rw [if_neg hc]
    have : ¬ k = hx (nt.getD n []) R := fun e => hc e.symm
    simp only [this, if_false]
    exact hset
section LINK
variable {τ : mh_H} {na sp sb stp nxt hd R N : Nat} {nt : List (List Int32)}
/-- its letters, as the row of spellings holds them -/
theorem n_wd {k : Nat} (E : NE τ na sp sb stp nxt hd R nt) (hk : k < nt.length) : wd (hA τ sb) (st nt k) nt[k].length = nt[k] := by
  obtain ⟨_, _, _, _, _, _, _, hlt⟩ := E
  exact (wd_eq rfl (fun i hi => (hlt k hk i hi).symm)).symm
theorem n_link {k : Nat} (E : NE τ na sp sb stp nxt hd R nt) (hNN : 40000 ≤ N) (hk : k < nt.length) (hd1 : nxt ≠ hd) : f_NA_link N na (nI k) τ = some (mh_setA (mh_setA τ nxt k (hA τ hd (hx nt[k] R))) hd (hx nt[k] R) (nI k)) := by
  have E' := E
  have hs0 := n_start (N := N) (k := k) E' (by omega)
  have hw := n_wd E' hk
  obtain ⟨⟨a1, a2, a3⟩, ⟨a4, a5, a6⟩, ⟨c1, c2, c3, c4, c5⟩, ⟨e1, e2, e3⟩, ⟨f1, f2⟩, ⟨g1, g2, g3, g4, g5⟩, hs, hlt⟩ := E
  have h1 := st_succ nt k hk
  have h2 := st_mono nt (show k + 1 ≤ nt.length by omega) (Nat.le_refl _)
  have hch := n_chainOf (τ := τ) (N := N) (na := na) (hd := hd) (tb := sb) (R := R) (p := st nt k) (l := nt[k].length) hNN a1 c4 a6 e3 g2 (by omega) a3 (by omega) (by omega)
  rw [hw] at hch
  have hxl := hx_lt nt[k] R g2 (by omega)
  have hnx : (nI (hx nt[k] R)).toNatClampNeg = hx nt[k] R := n_nat (by omega)
  have hnk : (nI k).toNatClampNeg = k := n_nat (by omega)
  unfold f_NA_link
  refine X_chk a1 (X_rfO c1 (X_chk a2 (X_rfO c5 (X_I hs0 (X_chk a1 (X_rfO c2 (X_chk a4 (X_chk (by rw [n_ib (by omega)]; omega) (X_I (a := nI (hx nt[k] R)) (s := τ) ?_ (X_chk a1 (X_rfO c3 (X_rfO c4 (X_chk a6 (X_chk (by rw [n_ib (by omega)]; omega) (X_bndE (x' := hA τ hd (hx nt[k] R)) (by rw [hnx]) (X_chk a5 (X_chk (by rw [n_ib (by omega)]; omega) (X_chk ?_ ?_))))))))))))))))))
  · rw [hnk, hs k hk, h1]; exact hch
  · rw [n_ib (by omega)]; show hx nt[k] R < hN τ hd; omega
  · rw [hnk, hnx]
end LINK
