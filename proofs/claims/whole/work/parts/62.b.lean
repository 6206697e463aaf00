/-! both scans, from blanks to blanks -/
section SCAN2
variable {σ : mh_H} {tt bk bp bv bt room e N : Nat} {g : Nat → Nat}
def finT (J : Nat → List T4 → Prop) (g : Nat → Nat) (e : Nat) (T' : List T4) (S' : rm_S) : Prop := ∃ T0 : List T4, (∃ i', J i' T0) ∧ (∀ t ∈ T0, t.1 ≠ 0 ∧ t.1 ≠ 1 ∧ tokOK g e t) ∧ ((T' = T0 ++ [(0, e, 0, 0)] ∧ rT S' T' ∧ T0.length ≤ e) ∨ (∃ i l, T' = T0 ++ [(1, i, l, 0), (0, e, 0, 0)] ∧ i + l ≤ e ∧ T0.length + 1 ≤ e ∧ rT S' (T0 ++ [(1, i, l, 0)])))
theorem c_end {ts : List Tk} {cc i fu : Nat} (h : QE σ tt bk bp bv room) (K : KE σ tt bt e g) (hl : ts.length < room) (hie : e ≤ i) (hi : i < 100000) : k_TO_scan_39 N (fu + 1) tt (nI i) (nI cc) (tz σ tt bk bp bv ts) = some (tz σ tt bk bp bv (ts ++ [(nI 0, nI e, nI 0)]), 0, 0) := by
  have K' := t_KE (ts := ts) h K
  obtain ⟨k1, k2, k3, k4, k5, k6, k7⟩ := K'
  have ha := t_add (N := N) (k := nI 0) (p := nI e) (v := nI 0) h hl
  have h72 : k_TO_scan_72 N tt (tz σ tt bk bp bv ts) = some (tz σ tt bk bp bv (ts ++ [(nI 0, nI e, nI 0)]), 0, 0) := by
    unfold k_TO_scan_72
    rw [k4]
    exact X_chk k1 (X_V ha rfl)
  unfold k_TO_scan_39
  refine X_chk k1 ?_
  by_cases hc : hI (tz σ tt bk bp bv ts) 4 1 tt ≤ nI cc
  · exact X_if hc h72
  · exact X_nif hc (X_if (by rw [k4, n_le (by omega) (by omega)]; exact hie) h72)
theorem scan_loop {J : Nat → List T4 → Prop} (hJ : ∀ i T k l v, J i T → i < e → Tok g e i k l v → k ≠ 1 → J (bl g e (e - (i + l)) false (i + l)) (T ++ [(k, i, l, v)])) (h : QE σ tt bk bp bv room) (K : KE σ tt bt e g) (hNN : 40000 ≤ N) (hroom : e + 1 ≤ room) :
    ∀ m i (T : List T4) S fu fu', e - i ≤ m → m + 1 < fu → m + 1 < fu' → i ≤ e → GE S e g → rT S T → T.length ≤ i → (∀ t ∈ T, t.1 ≠ 0 ∧ t.1 ≠ 1 ∧ tokOK g e t) → J i T →
    ∃ T' S', k_TO_scan_39 N fu tt (nI i) (nI T.length) (tz σ tt bk bp bv (T.map cT)) = some (tz σ tt bk bp bv (T'.map cT), 0, 0) ∧ k_RM_scan_13 N fu' (nI i) 1 S = some S' ∧ fT S S' ∧ finT J g e T' S' := by
  have he : e ≤ 8000 := K.2.2.2.2.2.2
  have hk1 := K.1
  -- the end of the text
  have atEnd : ∀ (T : List T4) S fu fu', 1 < fu → 1 < fu' → GE S e g → rT S T → T.length ≤ e → (∀ t ∈ T, t.1 ≠ 0 ∧ t.1 ≠ 1 ∧ tokOK g e t) → J e T → ∃ T' S', k_TO_scan_39 N fu tt (nI e) (nI T.length) (tz σ tt bk bp bv (T.map cT)) = some (tz σ tt bk bp bv (T'.map cT), 0, 0) ∧ k_RM_scan_13 N fu' (nI e) 1 S = some S' ∧ fT S S' ∧ finT J g e T' S' := by
    intro T S fu fu' hfu hfu' G hT hlen hall hj
    obtain ⟨fu, rfl⟩ : ∃ x, fu = x + 1 := ⟨fu - 1, by omega⟩
    obtain ⟨fu', rfl⟩ : ∃ x, fu' = x + 1 + 1 := ⟨fu' - 2, by omega⟩
    obtain ⟨S', s1, s2, s3⟩ := u_put (N := N) (k13 := k_RM_scan_13 N (fu' + 1)) (i := e) (l := 0) (k := 0) (v := 0) hT (by omega) (by omega)
    have G' := fT_GE s3 G
    refine ⟨T ++ [(0, e, 0, 0)], S', ?_, ?_, s3, T, ⟨e, hj⟩, hall, Or.inl ⟨rfl, s2, hlen⟩⟩
    · rw [List.map_append]
      exact c_end h K (by simp; omega) (Nat.le_refl _) (by omega)
    · have hbl : f_RM_behindBlanks N (nI e + nI 0) S' = some (nI e, S') := by
        have := g_blank (N := N) G' (by omega) 0 e N (by omega) (by omega) (Nat.le_refl _)
        rw [show e - e = 0 by omega] at this
        rw [n_add]; exact this
      conv => lhs; unfold k_RM_scan_13
      refine X_nif n10 (X_if (by rw [G.1]; exact (by rw [n_le (by omega) (by omega)]; exact Nat.le_refl _)) ?_)
      unfold k_RM_scan_40
      refine X_nif (by rw [G.1, n_lt (by omega) (by omega)]; omega) (s1.trans ?_)
      unfold k_RM_scan_477
      refine X_I hbl ?_
      unfold k_RM_scan_13
      exact X_if rfl rfl
  intro m
  induction m with
  | zero =>
    intro i T S fu fu' h1 hfu hfu' hi G hT hlen hall hj
    have ei : i = e := by omega
    subst ei
    exact atEnd T S fu fu' (by omega) (by omega) G hT hlen hall hj
  | succ m ih =>
    intro i T S fu fu' h1 hfu hfu' hi G hT hlen hall hj
    by_cases hie : i < e
    · obtain ⟨fu, rfl⟩ : ∃ x, fu = x + 1 := ⟨fu - 1, by omega⟩
      obtain ⟨fu', rfl⟩ : ∃ x, fu' = x + 1 := ⟨fu' - 1, by omega⟩
      obtain ⟨k, l, v, hTok⟩ := tok_ex g e i hie
      obtain ⟨o1, o2, o3, o4, o5⟩ := tok_ok hie hTok
      have hmap : (T.map cT).length = T.length := by simp
      have htk := t_token (N := N) (ts := T.map cT) h K (by omega) hie (by omega) hTok
      have hre := g_token (N := N) (fu := fu') G (by omega) hie hTok
      obtain ⟨S1, s1, s2, s3⟩ := u_put (N := N) (k13 := k_RM_scan_13 N fu') (i := i) (l := l) (k := k) (v := v) hT (by omega) o4
      have G1 := fT_GE s3 G
      have hcT : T.map cT ++ [(nI k, nI i, nI v)] = (T ++ [(k, i, l, v)]).map cT := by simp [cT]
      rw [hcT] at htk
      have K1 := t_KE (ts := (T ++ [(k, i, l, v)]).map cT) h K
      have K0 := t_KE (ts := T.map cT) h K
      have hblc : ∀ x, x ≤ e → f_TO_behindBlanks N tt (nI x) (tz σ tt bk bp bv ((T ++ [(k, i, l, v)]).map cT)) = some (nI (bl g e (e - x) false x), tz σ tt bk bp bv ((T ++ [(k, i, l, v)]).map cT)) := fun x hx => k_blank (N := N) K1 (e - x) false x N (Nat.le_refl _) (by omega) hx
      have hblr : f_RM_behindBlanks N (nI i + nI l) S1 = some (nI (bl g e (e - (i + l)) false (i + l)), S1) := by
        rw [n_add]; exact g_blank (N := N) G1 (by omega) (e - (i + l)) (i + l) N (Nat.le_refl _) (by omega) o3
      have hlen1 : (T ++ [(k, i, l, v)]).length = T.length + 1 := by simp
      have ecc : nI T.length + 1 = nI (T ++ [(k, i, l, v)]).length := by rw [hlen1]; exact n_add _ 1
      have hcls : ∀ y, k_TO_scan_39 N fu tt (nI (bl g e (e - (if k = 1 then e else i + l)) false (if k = 1 then e else i + l))) (nI (T ++ [(k, i, l, v)]).length) (tz σ tt bk bp bv ((T ++ [(k, i, l, v)]).map cT)) = y → k_TO_scan_39 N (fu + 1) tt (nI i) (nI T.length) (tz σ tt bk bp bv (T.map cT)) = y := by
        intro y hy
        conv => lhs; unfold k_TO_scan_39
        refine X_chk hk1 (X_nif (by rw [K0.2.2.2.1, n_le (by omega) (by omega)]; omega) (X_nif (by rw [K0.2.2.2.1, n_le (by omega) (by omega)]; omega) (X_I htk (X_chk hk1 (X_I (hblc _ (by split <;> omega)) ?_)))))
        rw [ecc]; exact hy
      rw [hre, s1]
      by_cases hk : k = 1
      · have er : (if k = 1 then e else i + l) = e := if_pos hk
        rw [er, show e - e = 0 by omega] at hcls
        have er2 : (if k = 1 ∨ k = 0 then (0 : Int32) else 1) = 0 := if_pos (Or.inl hk)
        rw [er2]
        have hv0 : v = 0 := by
          rcases hTok with ⟨_, _, _, hv⟩ | ⟨_, _, _, hv⟩ | ⟨_, _, _, _, hv⟩
          · exact hv
          · rcases hv with ⟨_, _, hv⟩ | ⟨_, h3, _⟩
            · exact hv
            · omega
          · exact hv
        obtain ⟨fu, rfl⟩ : ∃ x, fu = x + 1 := ⟨fu - 1, by omega⟩
        obtain ⟨fu', rfl⟩ : ∃ x, fu' = x + 1 := ⟨fu' - 1, by omega⟩
        refine ⟨T ++ [(1, i, l, 0), (0, e, 0, 0)], S1, ?_, ?_, s3, T, ⟨i, hj⟩, hall, Or.inr ⟨i, l, rfl, o3, by omega, ?_⟩⟩
        · apply hcls
          have := c_end (N := N) (fu := fu) (i := e) (cc := (T ++ [(k, i, l, v)]).length) (ts := (T ++ [(k, i, l, v)]).map cT) h K (by simp; omega) (Nat.le_refl _) (by omega)
          rw [hk, hv0] at this ⊢
          simp only [List.map_append, List.map_cons, List.map_nil, List.append_assoc, List.cons_append, List.nil_append] at this ⊢
          exact this
        · unfold k_RM_scan_477
          refine X_I hblr ?_
          unfold k_RM_scan_13
          exact X_if rfl rfl
        · rw [hk, hv0] at s2; exact s2
      · have er : (if k = 1 then e else i + l) = i + l := if_neg hk
        rw [er] at hcls
        have er2 : (if k = 1 ∨ k = 0 then (0 : Int32) else 1) = 1 := if_neg (fun h => by omega)
        rw [er2]
        have hbr := bl_range g e (e - (i + l)) false (i + l) o3
        obtain ⟨T', S', z1, z2, z3, z4⟩ := ih (bl g e (e - (i + l)) false (i + l)) (T ++ [(k, i, l, v)]) S1 fu fu' (by omega) (by omega) (by omega) hbr.2 G1 s2 (by rw [hlen1]; omega) (fun t ht => by
          rcases List.mem_append.mp ht with ht | ht
          · exact hall t ht
          · simp at ht; subst ht; exact ⟨o1, hk, o5 hk⟩) (hJ i T k l v hj hie hTok hk)
        refine ⟨T', S', hcls _ z1, ?_, fT_trans s3 z3, z4⟩
        unfold k_RM_scan_477
        exact X_I hblr z2
    · have ei : i = e := by omega
      subst ei
      exact atEnd T S fu fu' (by omega) (by omega) G hT hlen hall hj
end SCAN2
