/-! reading, function by function -/
section READ
variable {σ : mh_H} {ap dd tt bk bp bv dk dp dv dz n room : Nat} {tk tp : Nat → Nat} {tv : Nat → Int32} {S : rm_S} {N : Nat}
theorem sim_fun (E : EN σ ap dd tt bk bp bv dk dp dv dz n room tk tp tv S N) {lc lr : Nat} (hlc : 249 ≤ lc) (hlr : 249 ≤ lr) {flt : Int32} {q : Nat} {ds : List Ent} {dr : Nat} {B : Nat → Nat → Int32} (hI : Inp n tk q ds dr B) :
    Out σ ap dd dk dp dv dz n tk tp S flt q ds dr B 17010 307 (pa_function N lc ap (pz σ ap dd dk dp dv dz q ds)) (rp_function N lr (qz S q 0 flt dr B)) := by
  obtain ⟨lc, rfl⟩ : ∃ x, lc = x + 1 := ⟨lc - 1, by omega⟩
  obtain ⟨lr, rfl⟩ : ∃ x, lr = x + 1 := ⟨lr - 1, by omega⟩
  rw [pa_function_s, rp_function_s]
  exact sim_function E (sim_blocks E 60 (by omega) lc lr (by omega) (by omega)) ⟨by omega, by omega, by omega⟩ hI
theorem FR_qz {q bad dr : Nat} {flt : Int32} {B : Nat → Nat → Int32} : ∀ {f : Fo} {a e : Int32}, FR B f a e → FR (qz S q bad flt dr B).2 f a e := by
  intro f
  induction f with
  | leaf => intro a e H; exact H
  | inner i x u c m ic ih =>
    intro a e H
    obtain ⟨h1, h2, h3, h4, h5, h6⟩ := H
    refine ⟨h1, by rw [qz_b (by omega)]; exact h2, by rw [qz_b (by omega)]; exact h3, by rw [qz_b (by omega)]; exact h4, ?_, ?_⟩
    · rw [qz_b (by omega)]; exact ic h5
    · rw [qz_b (by omega)]; exact ih h6
theorem KS_qz {q bad dr s k p : Nat} {flt v : Int32} {B : Nat → Nat → Int32} {f : Fo} (h : KS B s k p v f) : KS (qz S q bad flt dr B).2 s k p v f := by
  obtain ⟨h1, h2, h3, h4, h5, h6, h7, h8⟩ := h
  refine ⟨by rw [qz_b (by omega)]; exact h1, by rw [qz_b (by omega)]; exact h2, by rw [qz_b (by omega)]; exact h3, ?_, by rw [qz_b (by omega)]; exact h5, by rw [qz_b (by omega)]; exact h6, h7, h8⟩
  rw [qz_b (by omega)]; exact FR_qz h4
theorem okk_lt {k : Nat} {l : List Nat} (h : okk k l) : k < 100 := by
  refine Decidable.byContradiction fun hk => ?_
  unfold okk at h
  rw [if_neg (by omega), if_neg (by omega), if_neg (by omega), if_neg (by omega), if_neg (by omega), if_neg (by omega), if_neg (by omega), if_neg (by omega), if_neg (by omega), if_neg (by omega), if_neg (by omega), if_neg (by omega), if_neg (by omega)] at h
  exact h
theorem wf_sm : ∀ {f : Fo}, wf n tk tp f → (∀ j ∈ nds f, j < 26000) → sm f := by
  intro f
  induction f with
  | leaf => intro _ _; trivial
  | inner i x u c m ic im =>
    intro h hj
    exact ⟨hj i (by simp [nds]), okk_lt h.1, ic h.2.2.2.1 (fun j hjc => hj j (by simp [nds, hjc])), im h.2.2.2.2 (fun j hjc => hj j (by simp [nds, hjc]))⟩
theorem wf_nmS {ln : Nat → Nat} (R : RP S n tk tp ln tv) (hn : n ≤ 8001) {S' : rm_S} (hS' : ∀ o, o < 7 → S'.2 o = S.2 o) : ∀ {f : Fo}, wf n tk tp f → nmS S' (fun j => wd (S.2 1) (tp j) (ln j)) f := by
  intro f
  induction f with
  | leaf => intro _; trivial
  | inner i x u c m ic im =>
    intro h
    refine ⟨fun h13 => ?_, ic h.2.2.2.1, im h.2.2.2.2⟩
    obtain ⟨j, hj, hg, h2, hv, hp⟩ := h.2.1.1 h13
    obtain ⟨_, r5, r6, rb, _⟩ := R j hj hg
    exact ⟨j, tp j, ln j, hv, by omega, by rw [hS' 5 (by omega)]; exact r5, by rw [hS' 6 (by omega)]; exact r6, rb, by rw [hS' 1 (by omega)]⟩
theorem nr_of {r : Nat} : ∀ {f : Fo}, r ∉ nds f → nr r f := by
  intro f
  induction f with
  | leaf => intro _; trivial
  | inner i x u c m ic im =>
    intro h
    simp only [nds, List.mem_cons, List.mem_append, not_or] at h
    exact ⟨fun _ e => h.1 e.symm, ic h.2.1, im h.2.2⟩
theorem qz_self {S : rm_S} {q bad dr : Nat} {flt : Int32} (h12 : S.1 12 = nI q) (h13 : S.1 13 = nI bad) (h14 : S.1 14 = flt) (h21 : S.1 21 = nI dr) : S = qz S q bad flt dr S.2 := by
  refine rm_ext (fun j => ?_) (fun o i => ?_)
  · simp only [qz]
    by_cases e1 : j = 12
    · subst e1; simp [h12]
    · by_cases e2 : j = 13
      · subst e2; simp [h13]
      · by_cases e3 : j = 14
        · subst e3; simp [h14]
        · by_cases e4 : j = 21
          · subst e4; simp [h21]
          · simp [e1, e2, e3, e4]
  · simp only [qz]; split <;> rfl
theorem TR_qz {t z q bad dr : Nat} {flt : Int32} {B : Nat → Nat → Int32} {L : List TE} (h : TR S t z L) : TR (qz S q bad flt dr B) t z L := TR_ext h (fun o h1 h2 => qz_a (by omega))
theorem NT_qz {q bad dr : Nat} {flt : Int32} {B : Nat → Nat → Int32} {nt : List (List Int32)} (h : NT S.2 nt) : NT (qz S q bad flt dr B).2 nt := NT_ext h (qz_a (by omega)) (qz_a (by omega))
/-- all names that a tree of these tokens may bring fit -/
def Cap (n : Nat) (tk tp : Nat → Nat) (tx : Nat → List Int32) (nt : List (List Int32)) : Prop := ∀ F, wf n tk tp F → (res tx F nt).2.length < 6000 ∧ st (res tx F nt).2 (res tx F nt).2.length ≤ 12000
/-- one function more in the reference -/
theorem ref_step {t z lr q dr B fu : _} {flt : Int32} {F : Fo} {ln : Nat → Nat} {nt : List (List Int32)} {q' i k p : Nat} {v : Int32} {c : Fo} {dr' : Nat} {B' : Nat → Nat → Int32} (ht : t ≤ 1) (hz : z = 13000 * t) (hn : n ≤ 8001) (hNN : 20000 ≤ N) (R : RP S n tk tp ln tv) (hT : TR S t z (txt (res (fun j => wd (S.2 1) (tp j) (ln j)) F nt).1)) (hNT : NT S.2 (res (fun j => wd (S.2 1) (tp j) (ln j)) F nt).2) (h31 : S.1 31 = nI (res (fun j => wd (S.2 1) (tp j) (ln j)) F nt).2.length) (hcap : Cap n tk tp (fun j => wd (S.2 1) (tp j) (ln j)) nt) (hwF : wf n tk tp F) (hsF : 2 * siz F ≤ 3 * q) (x2 : rp_function N lr (qz S q 0 flt 0 B) = some (nI i, qz S q' 0 flt dr' B')) (x3 : New n tk tp q 0 B 307 q' i k p v c dr' B') :
    ∃ S4 B4, S4 = qz S4 q' 0 flt dr' B4 ∧ k_RM_read_66 N (rp_function N lr) (fu + 1) (nI t) (qz S q 0 flt dr B) = k_RM_read_89 N (rp_function N lr) (k_RM_read_66 N (rp_function N lr) fu) (nI t) S4 ∧ (∀ x, x ≠ 31 → x ≠ 12 → x ≠ 21 → S4.1 x = (qz S q 0 flt dr B).1 x) ∧ (∀ o, o < 7 → S4.2 o = S.2 o) ∧ (∀ o x, 14 ≤ o → o ≤ 18 → (x < z ∨ z + 13000 ≤ x) → S4.2 o x = S.2 o x) ∧ (∀ x, x ≠ t → S4.2 19 x = S.2 19 x) ∧ TR S4 t z (txt (res (fun j => wd (S.2 1) (tp j) (ln j)) (app F (one i k p v c)) nt).1) ∧ NT S4.2 (res (fun j => wd (S.2 1) (tp j) (ln j)) (app F (one i k p v c)) nt).2 ∧ S4.1 31 = nI (res (fun j => wd (S.2 1) (tp j) (ln j)) (app F (one i k p v c)) nt).2.length := by
  obtain ⟨⟨y1, y2, y3⟩, yK, y5, -, -, ⟨y6, y7, y8⟩, y9, y10⟩ := x3
  have hw : wf n tk tp (app F (one i k p v c)) := wf_app hwF y9
  have hc := hcap _ hw
  rw [res_app] at hc ⊢
  have hnd : i ∉ nds c := (List.nodup_cons.mp yK.2.2.2.2.2.2.1).1
  have hsm : sm (one i k p v c) := wf_sm y9 (fun j hj => yK.2.2.2.2.2.2.2 j (by simpa [nds] using hj))
  obtain ⟨S4, k1, k2, k3, k4, k5⟩ := keep_ok (N := N) (t := t) (z := z) (tx := fun j => wd (S.2 1) (tp j) (ln j)) (S := qz S q' 0 flt dr' B') (r := i) (k := k) (p := p) (v := v) (c := c) ht hz hNN (KS_qz yK) hsm (wf_nmS R hn (fun o ho => qz_a (by omega)) y9) (nr_of hnd) (TR_qz hT) (by rw [res_siz]; omega) (NT_qz hNT) (by rw [qz_o (by omega)]; exact h31) hc.1 hc.2
  have g12 : S4.1 12 = nI q' := by rw [k2.1 12 (by omega)]; rfl
  have g13 : S4.1 13 = nI 0 := by rw [k2.1 13 (by omega)]; rfl
  have g14 : S4.1 14 = flt := by rw [k2.1 14 (by omega)]; rfl
  have g21 : S4.1 21 = nI dr' := by rw [k2.1 21 (by omega)]; rfl
  refine ⟨S4, S4.2, qz_self g12 g13 g14 g21, ?_, ?_, ?_, ?_, ?_, k3, k4, k5⟩
  · have e0 : rs_i (qz S q 0 flt dr B) 21 0 = qz S q 0 flt 0 B := qz_s21 rfl
    conv => lhs; unfold k_RM_read_66
    rw [e0]
    exact X_I x2 (X_if rfl (X_V k1 rfl))
  · intro x h1 h2 h3
    rw [k2.1 x h1]
    simp only [qz, h2, h3, if_false]
  · intro o ho; rw [k2.2.1 o (by omega), qz_a (by omega)]
  · intro o x h1 h2 h3; rw [k2.2.2.1 o x h1 h2 h3, qz_a (by omega)]
  · intro x hx; rw [k2.2.2.2.1 x hx, qz_a (by omega)]
end READ
