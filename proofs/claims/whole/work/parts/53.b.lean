/-! BYTES: the class holds them signed, the reference from 0 to 255 -/
def sx (c : Nat) : Int32 := if c < 128 then nI c else nI c - 256
def cL (c : Nat) : Bool := (97 ≤ c && c ≤ 122) || (65 ≤ c && c ≤ 90) || c == 95
def cD (c : Nat) : Bool := 48 ≤ c && c ≤ 57
def cB (c : Nat) : Bool := c == 9 || c == 10 || c == 13 || c == 32
def b01 (b : Bool) : Int32 := if b then 1 else 0
theorem chL0 : ∀ c, c < 256 → f_PR_isLetter 0 (sx c) = some (b01 (cL c)) := by decide +kernel
theorem chD0 : ∀ c, c < 256 → f_PR_isDigit 0 (sx c) = some (b01 (cD c)) := by decide +kernel
theorem chW0 : ∀ c, c < 256 → f_PR_isWordByte 0 (sx c) = some (b01 (cL c || cD c)) := by decide +kernel
theorem chB0 : ∀ c, c < 256 → f_PR_isBlank 0 (sx c) = some (b01 (cB c)) := by decide +kernel
theorem rhL0 : ∀ c, c < 256 → f_RM_isLetter 0 (nI c) = some (b01 (cL c)) := by decide +kernel
theorem rhD0 : ∀ c, c < 256 → f_RM_isDigit 0 (nI c) = some (b01 (cD c)) := by decide +kernel
theorem rhW0 : ∀ c, c < 256 → f_RM_isWordByte 0 (nI c) = some (b01 (cL c || cD c)) := by decide +kernel
theorem sx_lt : ∀ c, c < 256 → ∀ k, k < 128 → (sx c = nI k ↔ c = k) := by
  intro c hc k hk
  by_cases h : c < 128
  · rw [sx, if_pos h, n_eq (by omega) (by omega)]
  · rw [sx, if_neg h]
    refine ⟨fun e => ?_, fun e => by omega⟩
    have h1 : (nI c - nI 256).toInt = (c : Int) - 256 := n_subI (by omega) (by omega)
    have h2 : (nI k).toInt = k := n_toInt (by omega)
    have e' : nI c - nI 256 = nI k := e
    rw [e', h2] at h1; omega
section CHARS
variable {N c : Nat}
theorem chL (h : c < 256) : f_PR_isLetter N (sx c) = some (b01 (cL c)) := chL0 c h
theorem chD (h : c < 256) : f_PR_isDigit N (sx c) = some (b01 (cD c)) := chD0 c h
theorem chW (h : c < 256) : f_PR_isWordByte N (sx c) = some (b01 (cL c || cD c)) := chW0 c h
theorem chB (h : c < 256) : f_PR_isBlank N (sx c) = some (b01 (cB c)) := chB0 c h
theorem rhL (h : c < 256) : f_RM_isLetter N (nI c) = some (b01 (cL c)) := rhL0 c h
theorem rhD (h : c < 256) : f_RM_isDigit N (nI c) = some (b01 (cD c)) := rhD0 c h
theorem rhW (h : c < 256) : f_RM_isWordByte N (nI c) = some (b01 (cL c || cD c)) := rhW0 c h
theorem b01_0 {b : Bool} : (b01 b = 0) = (b = false) := by cases b <;> simp [b01]
end CHARS
/-- where a word ends -/
def we (g : Nat → Nat) (e : Nat) : Nat → Nat → Nat
  | 0, i => i
  | n + 1, i => if i < e ∧ (cL (g i) || cD (g i)) = true then we g e n (i + 1) else i
/-- where digits end -/
def de (g : Nat → Nat) (e : Nat) : Nat → Nat → Nat
  | 0, i => i
  | n + 1, i => if i < e ∧ cD (g i) = true then de g e n (i + 1) else i
/-- behind blanks and remarks; whether within a remark -/
def bl (g : Nat → Nat) (e : Nat) : Nat → Bool → Nat → Nat
  | 0, _, i => i
  | n + 1, r, i => if i < e then (if r then bl g e n (g i != 10) (i + 1) else if i + 1 < e ∧ g i = 47 ∧ g (i + 1) = 47 then bl g e n true (i + 1) else if cB (g i) = true then bl g e n false (i + 1) else i) else i
theorem bl_range (g : Nat → Nat) (e : Nat) : ∀ n r i, i ≤ e → i ≤ bl g e n r i ∧ bl g e n r i ≤ e := by
  intro n
  induction n with
  | zero => intro r i h; exact ⟨Nat.le_refl _, h⟩
  | succ n ih =>
    intro r i h
    unfold bl
    by_cases h1 : i < e
    · rw [if_pos h1]
      cases r with
      | true => have := ih (g i != 10) (i + 1) (by omega); simp only [if_true]; omega
      | false =>
        simp only [Bool.false_eq_true, if_false]
        by_cases h2 : i + 1 < e ∧ g i = 47 ∧ g (i + 1) = 47
        · rw [if_pos h2]; have := ih true (i + 1) (by omega); omega
        · rw [if_neg h2]
          by_cases h3 : cB (g i) = true
          · rw [if_pos h3]; have := ih false (i + 1) (by omega); omega
          · rw [if_neg h3]; omega
    · rw [if_neg h1]; omega
theorem we_range (g : Nat → Nat) (e : Nat) : ∀ n i, i ≤ e → i ≤ we g e n i ∧ we g e n i ≤ e := by
  intro n
  induction n with
  | zero => intro i h; exact ⟨Nat.le_refl _, h⟩
  | succ n ih =>
    intro i h
    unfold we
    by_cases h1 : i < e ∧ (cL (g i) || cD (g i)) = true
    · rw [if_pos h1]; have := ih (i + 1) (by omega); omega
    · rw [if_neg h1]; omega
theorem de_range (g : Nat → Nat) (e : Nat) : ∀ n i, i ≤ e → i ≤ de g e n i ∧ de g e n i ≤ e := by
  intro n
  induction n with
  | zero => intro i h; exact ⟨Nat.le_refl _, h⟩
  | succ n ih =>
    intro i h
    unfold de
    by_cases h1 : i < e ∧ cD (g i) = true
    · rw [if_pos h1]; have := ih (i + 1) (by omega); omega
    · rw [if_neg h1]; omega
theorem we_y {g : Nat → Nat} {e n i : Nat} (h1 : i < e) (h2 : (cL (g i) || cD (g i)) = true) : we g e (n + 1) i = we g e n (i + 1) := by rw [we, if_pos ⟨h1, h2⟩]
theorem we_n {g : Nat → Nat} {e n i : Nat} (h : ¬ (i < e ∧ (cL (g i) || cD (g i)) = true)) : we g e (n + 1) i = i := by rw [we, if_neg h]
theorem de_y {g : Nat → Nat} {e n i : Nat} (h1 : i < e) (h2 : cD (g i) = true) : de g e (n + 1) i = de g e n (i + 1) := by rw [de, if_pos ⟨h1, h2⟩]
theorem de_n {g : Nat → Nat} {e n i : Nat} (h : ¬ (i < e ∧ cD (g i) = true)) : de g e (n + 1) i = i := by rw [de, if_neg h]
theorem bl_e {g : Nat → Nat} {e n i : Nat} {r : Bool} (h : ¬ i < e) : bl g e (n + 1) r i = i := by rw [bl, if_neg h]
theorem bl_t {g : Nat → Nat} {e n i : Nat} (h : i < e) : bl g e (n + 1) true i = bl g e n (g i != 10) (i + 1) := by rw [bl, if_pos h]; rfl
theorem bl_r {g : Nat → Nat} {e n i : Nat} (h : i < e) (h2 : i + 1 < e ∧ g i = 47 ∧ g (i + 1) = 47) : bl g e (n + 1) false i = bl g e n true (i + 1) := by rw [bl, if_pos h, if_neg (by simp), if_pos h2]
theorem bl_b {g : Nat → Nat} {e n i : Nat} (h : i < e) (h2 : ¬ (i + 1 < e ∧ g i = 47 ∧ g (i + 1) = 47)) (h3 : cB (g i) = true) : bl g e (n + 1) false i = bl g e n false (i + 1) := by rw [bl, if_pos h, if_neg (by simp), if_neg h2, if_pos h3]
theorem bl_n {g : Nat → Nat} {e n i : Nat} (h : i < e) (h2 : ¬ (i + 1 < e ∧ g i = 47 ∧ g (i + 1) = 47)) (h3 : ¬ cB (g i) = true) : bl g e (n + 1) false i = i := by rw [bl, if_pos h, if_neg (by simp), if_neg h2, if_neg h3]
/-- the class's text -/
def KE (τ : mh_H) (tt bt e : Nat) (g : Nat → Nat) : Prop := hT τ tt = 9 ∧ hR τ 4 0 tt = some bt ∧ hT τ bt = 4 ∧ hI τ 4 1 tt = nI e ∧ e ≤ hN τ bt ∧ (∀ i, i < e → hA τ bt i = sx (g i) ∧ g i < 256) ∧ e ≤ 8000
/-- the reference's text -/
def GE (S : rm_S) (e : Nat) (g : Nat → Nat) : Prop := S.1 3 = nI e ∧ (∀ i, i < e → S.2 1 i = nI (g i) ∧ g i < 256) ∧ e ≤ 8000
section TEXT
variable {τ : mh_H} {tt bt e N : Nat} {g : Nat → Nat} {S : rm_S}
theorem k_word (K : KE τ tt bt e g) : ∀ n i fu, e - i ≤ n → n < fu → i ≤ e → k_TO_behindWord_2 N fu tt (nI i) τ = some (nI (we g e n i), τ) := by
  obtain ⟨k1, k2, k3, k4, k5, k6, k7⟩ := K
  intro n
  induction n with
  | zero =>
    intro i fu h1 hfu hi
    obtain ⟨fu, rfl⟩ : ∃ x, fu = x + 1 := ⟨fu - 1, by omega⟩
    unfold k_TO_behindWord_2
    refine X_chk k1 (X_if ?_ rfl)
    rw [k4, n_le (by omega) (by omega)]; omega
  | succ n ih =>
    intro i fu h1 hfu hi
    obtain ⟨fu, rfl⟩ : ∃ x, fu = x + 1 := ⟨fu - 1, by omega⟩
    unfold k_TO_behindWord_2
    by_cases hie : i < e
    · obtain ⟨q1, q2⟩ := k6 i hie
      refine X_chk k1 (X_nif ?_ (X_rfO k2 (X_chk k3 (X_chk ?_ (X_P (a := b01 (cL (g i) || cD (g i))) ?_ ?_)))))
      · rw [k4, n_le (by omega) (by omega)]; omega
      · rw [n_ib (by omega)]; omega
      · rw [n_nat (by omega), q1]; exact chW q2
      · by_cases hw : (cL (g i) || cD (g i)) = true
        · rw [we_y hie hw]
          refine X_nif (by rw [b01_0, hw]; simp) ?_
          rw [show nI i + 1 = nI (i + 1) from n_add i 1]
          exact ih (i + 1) fu (by omega) (by omega) (by omega)
        · rw [we_n (fun h => hw h.2)]
          exact X_if (by rw [b01_0]; simpa using hw) rfl
    · rw [we_n (fun h => hie h.1)]
      refine X_chk k1 (X_if ?_ rfl)
      rw [k4, n_le (by omega) (by omega)]; omega
theorem k_rem {i : Nat} (K : KE τ tt bt e g) (hie : i < e) : (i + 1 < e ∧ g i = 47 ∧ g (i + 1) = 47 → f_TO_startsRemark N tt (nI i) τ = some (1, τ)) ∧ (¬ (i + 1 < e ∧ g i = 47 ∧ g (i + 1) = 47) → f_TO_startsRemark N tt (nI i) τ = some (0, τ)) := by
  obtain ⟨k1, k2, k3, k4, k5, k6, k7⟩ := K
  obtain ⟨q1, q2⟩ := k6 i hie
  have ei : nI i + 1 = nI (i + 1) := n_add i 1
  have hib : ib (nI i) (hN τ bt) := by rw [n_ib (by omega)]; omega
  have hni : (nI i).toNatClampNeg = i := n_nat (by omega)
  have hn1 : (nI (i + 1)).toNatClampNeg = i + 1 := n_nat (by omega)
  unfold f_TO_startsRemark
  simp only [ei]
  by_cases h1e : i + 1 < e
  · obtain ⟨p1, p2⟩ := k6 (i + 1) h1e
    have hib1 : ib (nI (i + 1)) (hN τ bt) := by rw [n_ib (by omega)]; omega
    have hge : ¬ hI τ 4 1 tt ≤ nI (i + 1) := by rw [k4, n_le (by omega) (by omega)]; omega
    refine ⟨fun h => ?_, fun h => ?_⟩
    · exact X_chk k1 (X_nif hge (X_rfO k2 (X_chk k3 (X_chk hib (X_if (by rw [hni, q1]; exact (sx_lt _ q2 47 (by omega)).mpr h.2.1) (X_chk hib1 (X_if (by rw [hn1, p1]; exact (sx_lt _ p2 47 (by omega)).mpr h.2.2) rfl)))))))
    · refine X_chk k1 (X_nif hge (X_rfO k2 (X_chk k3 (X_chk hib ?_))))
      by_cases ha : g i = 47
      · exact X_if (by rw [hni, q1]; exact (sx_lt _ q2 47 (by omega)).mpr ha) (X_chk hib1 (X_nif (by rw [hn1, p1]; intro hx; exact h ⟨h1e, ha, (sx_lt _ p2 47 (by omega)).mp hx⟩) rfl))
      · exact X_nif (by rw [hni, q1]; intro hx; exact ha ((sx_lt _ q2 47 (by omega)).mp hx)) rfl
  · have hge : hI τ 4 1 tt ≤ nI (i + 1) := by rw [k4, n_le (by omega) (by omega)]; omega
    exact ⟨fun h => absurd h.1 h1e, fun _ => X_chk k1 (X_if hge rfl)⟩
theorem k_blank (K : KE τ tt bt e g) : ∀ n r i fu, e - i ≤ n → n < fu → i ≤ e → k_TO_behindBlanks_4 N fu tt (b01 r) (nI i) τ = some (nI (bl g e n r i), τ) := by
  have K' := K
  obtain ⟨k1, k2, k3, k4, k5, k6, k7⟩ := K
  intro n
  induction n with
  | zero =>
    intro r i fu h1 hfu hi
    obtain ⟨fu, rfl⟩ : ∃ x, fu = x + 1 := ⟨fu - 1, by omega⟩
    unfold k_TO_behindBlanks_4
    refine X_chk k1 (X_if ?_ rfl)
    rw [k4, n_le (by omega) (by omega)]; omega
  | succ n ih =>
    intro r i fu h1 hfu hi
    obtain ⟨fu, rfl⟩ : ∃ x, fu = x + 1 := ⟨fu - 1, by omega⟩
    by_cases hie : i < e
    · obtain ⟨q1, q2⟩ := k6 i hie
      have ei : nI i + 1 = nI (i + 1) := n_add i 1
      have hge : ¬ hI τ 4 1 tt ≤ nI i := by rw [k4, n_le (by omega) (by omega)]; omega
      have hib : ib (nI i) (hN τ bt) := by rw [n_ib (by omega)]; omega
      have hni : (nI i).toNatClampNeg = i := n_nat (by omega)
      have ihf := ih false (i + 1) fu (by omega) (by omega) (by omega)
      have iht := ih true (i + 1) fu (by omega) (by omega) (by omega)
      rw [← ei] at ihf iht
      unfold k_TO_behindBlanks_4
      cases r with
      | true =>
        rw [bl_t hie]
        refine X_chk k1 (X_nif hge (X_nif (by rw [b01_0]; simp) (X_rfO k2 (X_chk k3 (X_chk hib ?_)))))
        by_cases h10 : g i = 10
        · rw [show (g i != 10) = false by simp [h10]]
          exact X_if (by rw [hni, q1]; exact (sx_lt _ q2 10 (by omega)).mpr h10) ihf
        · rw [show (g i != 10) = true by simp [h10]]
          exact X_nif (by rw [hni, q1]; intro h; exact h10 ((sx_lt _ q2 10 (by omega)).mp h)) iht
      | false =>
        by_cases h2 : i + 1 < e ∧ g i = 47 ∧ g (i + 1) = 47
        · rw [bl_r hie h2]
          exact X_chk k1 (X_nif hge (X_if (by rw [b01_0]) (X_I ((k_rem K' hie).1 h2) (X_nif n10 iht))))
        · refine X_chk k1 (X_nif hge (X_if (by rw [b01_0]) (X_I ((k_rem K' hie).2 h2) (X_if rfl (X_chk k1 (X_rfO k2 (X_chk k3 (X_chk hib (X_P (a := b01 (cB (g i))) (by rw [hni, q1]; exact chB q2) ?_)))))))))
          by_cases h3 : cB (g i) = true
          · rw [bl_b hie h2 h3]
            exact X_nif (by rw [b01_0, h3]; simp) ihf
          · rw [bl_n hie h2 h3]
            exact X_if (by rw [b01_0]; simpa using h3) rfl
    · rw [bl_e hie]
      unfold k_TO_behindBlanks_4
      refine X_chk k1 (X_if ?_ rfl)
      rw [k4, n_le (by omega) (by omega)]; omega
/-! the reference's -/
theorem g_word {i : Nat} (G : GE S e g) (hi : i < 9000) : f_RM_isWord N (nI i) S = some (b01 (decide (i < e) && (cL (g i) || cD (g i))), S) := by
  obtain ⟨k1, k2, k3⟩ := G
  unfold f_RM_isWord
  by_cases hie : i < e
  · obtain ⟨q1, q2⟩ := k2 i hie
    have hni : (nI i).toNatClampNeg = i := n_nat (by omega)
    have hib : ib (nI i) 8000 := by rw [n_ib (by omega)]; omega
    refine X_nif (by rw [k1, n_le (by omega) (by omega)]; omega) (X_chk hib (X_P (a := b01 (cL (g i))) (by rw [hni, q1]; exact rhL q2) ?_))
    cases hl : cL (g i) with
    | true => exact X_nif (by decide) (by simp [hie]; rfl)
    | false =>
      refine X_if rfl (X_chk hib (X_P (a := b01 (cD (g i))) (by rw [hni, q1]; exact rhD q2) ?_))
      cases hd : cD (g i) with
      | true => exact X_nif (by decide) (by simp [hie]; rfl)
      | false => exact X_if rfl (by simp; rfl)
  · refine X_if (by rw [k1, n_le (by omega) (by omega)]; omega) ?_
    simp [hie]; rfl
theorem g_at {i a b : Nat} (G : GE S e g) (hi : i < 9000) (ha : a < 256) (hb : b < 256) : f_RM_isAt N (nI i) (nI a) (nI b) S = some (if i + 1 < e ∧ g i = a ∧ g (i + 1) = b then 1 else 0, S) := by
  obtain ⟨k1, k2, k3⟩ := G
  have ei : nI i + 1 = nI (i + 1) := n_add i 1
  have hni : (nI i).toNatClampNeg = i := n_nat (by omega)
  have hn1 : (nI (i + 1)).toNatClampNeg = i + 1 := n_nat (by omega)
  unfold f_RM_isAt
  simp only [ei, hni, hn1]
  by_cases h1e : i + 1 < e
  · obtain ⟨q1, q2⟩ := k2 i (by omega)
    obtain ⟨p1, p2⟩ := k2 (i + 1) h1e
    refine X_nif (by rw [k1, n_le (by omega) (by omega)]; omega) (X_chk (by rw [n_ib (by omega)]; omega) ?_)
    rw [q1, p1]
    by_cases h1 : g i = a
    · refine X_if (by rw [h1]) (X_chk (by rw [n_ib (by omega)]; omega) ?_)
      by_cases h2 : g (i + 1) = b
      · exact X_if (by rw [h2]) (by simp [h1e, h1, h2])
      · exact X_nif (by rw [n_eq (by omega) (by omega)]; exact h2) (by simp [h2])
    · exact X_nif (by rw [n_eq (by omega) (by omega)]; exact h1) (by simp [h1])
  · exact X_if (by rw [k1, n_le (by omega) (by omega)]; omega) (by simp [h1e])
end TEXT
