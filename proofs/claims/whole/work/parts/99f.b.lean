/-! THE BEGINNING: what holds before the first call -/
theorem CS_keep {s s' : mh_H} {own P V : Nat → Nat} {lf lo : List Nat} {nt : List (List Int32)} {F : Nat → Fo} (H : CS s own P V lf lo nt F) (C : Chg (fun _ => False) s s') : CS s' own P V lf lo nt F := by
  obtain ⟨HC0, HCW, HF, HO, ⟨l, HS⟩, H4, H6, H7⟩ := H
  have E : Ex (hX s) own own := fun _ _ => rfl
  exact ⟨C0_Chg C E (fun a h => h.elim) HC0, CW_Chg C E (fun a h => h.elim) HCW, (CR_Chg C E (fun a h => h.elim) HF).1, (CR_Chg C E (fun a h => h.elim) HO).1, ⟨l, (CR_Chg C E (fun a h => h.elim) HS).1⟩, C4_Chg C E (fun a h => h.elim) H4, (C6_Chg C E (fun a h => h.elim) H6).1, fun t ht => C7_Chg C E (fun a h => h.elim) (H7 t ht)⟩
theorem iv_zero {σ : mh_H} {N cb sb : Nat} {K : Nat → Nat} (hNN : 40000 ≤ N) (hcb : 100000 ≤ cb) (hsb : 3000000 ≤ sb) : ∃ s1 s2, f_PR_init N (hX σ) (mh_new σ 7) = some (s1, 51, 457) ∧ f_RM_init N K (hX s1) (mh_new s1 8) = some (s2, 22, 378018) ∧ IV K (hX σ) (hX s1) 0 (cb - (51 + 22 + 2)) (sb - (457 + 378018 + 41)) s2 := by
  obtain ⟨s1, r1, H1, x1⟩ := pr_init (σ := σ) (N := N) hNN
  obtain ⟨s2, r2, h1, x2, C, h3, h4, h5⟩ := rm_init (N := N) (s := s1) (K := K) (m := hX s1) rfl (by omega)
  have C' : Chg (fun _ => False) s1 s2 := Chg_trans new_Chg (Chg_mono C (fun x _ h h' => by omega))
  have H2 := CS_keep H1 C'
  refine ⟨s1, s2, r1, r2, qO (hX σ), qP (hX σ), qV (hX σ), [], [], [], fun _ => .leaf, 0, (fun j => hI s2 8 j (hX s1), fun o => hA s2 (hX s1 + o)), H2, ?_, ⟨h1, ?_⟩, rfl, by omega, fun o ho => pO_v (by omega), ?_, ?_⟩
  · refine ⟨⟨h3 2 (by omega), fun i hi => by simp at hi⟩, ⟨h3 5 (by omega), fun i hi => by simp at hi⟩, ⟨fun k hk => ?_, fun k hk => by simp at hk, by simp, by simp [st]⟩, h3 31 (by omega), fun t ht => ?_⟩
    · have : k = 0 := by simpa using hk
      subst this
      exact h4
    · obtain ⟨g1, g2, g3, g4, g5, g6⟩ := h5 t ht
      refine ⟨g1, fun j hj => ?_⟩
      have hj0 : j = 0 := by simp [txt, pre] at hj; omega
      subst hj0
      exact ⟨g2, g3, g4, g5, g6⟩
  · refine mh_ext rfl (fun k j a => ?_) (fun _ _ _ => rfl) (fun a i => ?_) rfl rfl rfl
    · show (if k = 8 ∧ a = hX s1 then hI s2 8 j (hX s1) else hI s2 k j a) = _
      by_cases e : k = 8 ∧ a = hX s1
      · rw [if_pos e, e.1, e.2]
      · rw [if_neg e]
    · show (if hX s1 < a ∧ a < hX s1 + 22 then hA s2 (hX s1 + (a - hX s1)) else hA s2 a) i = _
      by_cases e : hX s1 < a ∧ a < hX s1 + 22
      · rw [if_pos e, show hX s1 + (a - hX s1) = a by omega]
      · rw [if_neg e]
  · exact ⟨by simp, by simp, by simp, fun t _ => ⟨trivial, by show 0 ≤ 307; omega, by show 0 ≤ 12001; omega⟩, by simp, fun p l _ h => by omega, fun p l _ h => by simp at h, by simp [Wt]⟩
  · have := rA_le H2
    unfold BDg
    omega
