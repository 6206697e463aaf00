/-! WHAT HOLDS BETWEEN CALLS -/
def rmH (K : Nat → Nat) (σ : mh_H) (m : Nat) : Prop := hT σ m = 17 ∧ (∀ o, 1 ≤ o → o ≤ 21 → hT σ (m + o) = 2 ∧ hN σ (m + o) = rm_len o) ∧ (∀ q ∈ rm_fo, hR σ 8 q.1 m = some (m + q.2)) ∧ hR σ 8 0 m = some (m + 22) ∧ hT σ (m + 22) = 8 ∧ hN σ (m + 22) = 8 ∧ (∀ k, k < 8 → hQ σ (m + 22) k = some (K (46 + k)))
def DI (k : Nat) (lf lo : List Nat) (nt : List (List Int32)) (F : Nat → Fo) (A : Nat) : Prop := (∀ x ∈ lf, x < 256) ∧ (∀ x ∈ lo, x < 256) ∧ (∀ w ∈ nt, okw w) ∧ (∀ t, t < 2 → wt nt.length (F t) ∧ hgt (F t) ≤ 307 ∧ siz (F t) ≤ 12001) ∧ A ≤ lf.length ∧ KN (fun i => lf.getD i 0) A nt ∧ KN (fun i => lo.getD i 0) lo.length nt ∧ Wt nt + (lf.length - A) + (if A = 0 then 0 else 20) ≤ 20 * k
def BDg (σ : mh_H) (V : Nat → Nat) (k cb sb : Nat) : Prop := 240 * (512 - k) + 120000 ≤ 16 * cb + rA σ V ∧ 6 * (512 - k) + 1400000 ≤ sb + 2 * (rA σ V + rB V)
def IV (K : Nat → Nat) (ax am k cb sb : Nat) (σ : mh_H) : Prop := ∃ own P V lf lo nt F A S, CS σ own P V lf lo nt F ∧ RI S lf lo nt F ∧ (rmH K σ am ∧ rz σ am S = σ) ∧ P 0 = ax ∧ am + 22 < hX σ ∧ (∀ o, o ≤ 22 → own (am + o) = 9) ∧ DI k lf lo nt F A ∧ BDg σ V k cb sb
theorem rA_le {σ : mh_H} {own P V : Nat → Nat} {lf lo : List Nat} {nt : List (List Int32)} {F : Nat → Fo} (H : CS σ own P V lf lo nt F) : rA σ V ≤ 120000 ∧ rB V ≤ 550000 := by
  obtain ⟨HC0, HCW, HF, HO, ⟨l, HS⟩, H4, H6, H7⟩ := H
  have a1 := HF.1.2.2.1
  have a2 := HO.1.2.2.1
  have a3 := HS.1.2.2.1
  have a4 := H6.1.1.2.2.2.2.2.1
  have a5 := H6.1.1.2.2.2.2.2.2.2.1.2.2.1
  have a6 := H4.1.2.2.1
  have a7 := H4.2.1.2.2.1
  have a8 := (H7 0 (by omega)).2.1
  have a9 := (H7 1 (by omega)).2.1
  rw [show 13 + 2 * 0 = 13 from rfl] at a8
  rw [show 13 + 2 * 1 = 15 from rfl] at a9
  unfold rA rB
  omega
theorem rz_Chg {U : Nat → Prop} {σ : mh_H} {am : Nat} {S : rm_S} (h : ∀ o, o ≤ 22 → U (am + o)) : Chg U σ (rz σ am S) := by
  refine ⟨Nat.le_refl _, fun _ _ => ⟨rfl, rfl⟩, fun a ha hn => ⟨fun k j => ?_, fun _ _ => rfl, fun i => ?_, fun _ => rfl⟩⟩
  · show (if k = 8 ∧ a = am then S.1 j else hI σ k j a) = _
    rw [if_neg]
    rintro ⟨_, e⟩
    exact hn (by rw [e]; exact h 0 (by omega))
  · show (if am < a ∧ a < am + 22 then S.2 (a - am) else hA σ a) i = _
    rw [if_neg]
    intro hh
    exact hn (by have := h (a - am) (by omega); rw [show am + (a - am) = a by omega] at this; exact this)
theorem rz_rz (σ : mh_H) (am : Nat) (S S' : rm_S) : rz (rz σ am S) am S' = rz σ am S' := by
  refine mh_ext rfl (fun k j a => ?_) (fun _ _ _ => rfl) (fun a i => ?_) rfl rfl rfl
  · show (if k = 8 ∧ a = am then S'.1 j else if k = 8 ∧ a = am then S.1 j else hI σ k j a) = if k = 8 ∧ a = am then S'.1 j else hI σ k j a
    split <;> rfl
  · show (if am < a ∧ a < am + 22 then S'.2 (a - am) else if am < a ∧ a < am + 22 then S.2 (a - am) else hA σ a) i = (if am < a ∧ a < am + 22 then S'.2 (a - am) else hA σ a) i
    split <;> rfl
theorem rmH_Chg {K : Nat → Nat} {U : Nat → Prop} {σ τ : mh_H} {am : Nat} (C : Chg U σ τ) (h : rmH K σ am) (hx : am + 22 < hX σ) (hU : ∀ o, o ≤ 22 → ¬ U (am + o)) : rmH K τ am := by
  obtain ⟨h1, h2, h3, h4, h5, h6, h7⟩ := h
  have k0 := C.2.2 am (by omega) (by have := hU 0 (by omega); rw [Nat.add_zero] at this; exact this)
  have k22 := C.2.2 (am + 22) (by omega) (hU 22 (by omega))
  exact ⟨by rw [(C.2.1 am (by omega)).1]; exact h1, fun o a b => by rw [(C.2.1 (am + o) (by omega)).1, (C.2.1 (am + o) (by omega)).2]; exact h2 o a b, fun q hq => by rw [k0.2.1]; exact h3 q hq, by rw [k0.2.1]; exact h4, by rw [(C.2.1 (am + 22) (by omega)).1]; exact h5, by rw [(C.2.1 (am + 22) (by omega)).2]; exact h6, fun k hk => by rw [k22.2.2.2]; exact h7 k hk⟩
theorem rz_keep {U : Nat → Prop} {σ τ : mh_H} {am : Nat} {S : rm_S} (C : Chg U σ τ) (h : rz σ am S = σ) (hx : am + 22 < hX σ) (hU : ∀ o, o ≤ 22 → ¬ U (am + o)) : rz τ am S = τ := by
  have k0 := C.2.2 am (by omega) (by have := hU 0 (by omega); rw [Nat.add_zero] at this; exact this)
  have hIS : ∀ j, S.1 j = hI σ 8 j am := fun j => by
    have : hI (rz σ am S) 8 j am = hI σ 8 j am := by rw [h]
    rw [← this]; show _ = if 8 = 8 ∧ am = am then S.1 j else _; rw [if_pos ⟨rfl, rfl⟩]
  have hA' : ∀ a i, am < a → a < am + 22 → S.2 (a - am) i = hA σ a i := fun a i h1 h2 => by
    have : hA (rz σ am S) a i = hA σ a i := by rw [h]
    rw [← this]; show _ = (if am < a ∧ a < am + 22 then S.2 (a - am) else hA σ a) i; rw [if_pos ⟨h1, h2⟩]
  refine mh_ext rfl (fun k j a => ?_) (fun _ _ _ => rfl) (fun a i => ?_) rfl rfl rfl
  · show (if k = 8 ∧ a = am then S.1 j else hI τ k j a) = _
    by_cases e : k = 8 ∧ a = am
    · rw [if_pos e, e.1, e.2, k0.1, hIS]
    · rw [if_neg e]
  · show (if am < a ∧ a < am + 22 then S.2 (a - am) else hA τ a) i = _
    by_cases e : am < a ∧ a < am + 22
    · have k := C.2.2 a (by omega) (by have := hU (a - am) (by omega); rw [show am + (a - am) = a by omega] at this; exact this)
      rw [if_pos e, hA' a i e.1 e.2, k.2.2.1]
    · rw [if_neg e]
section STEP
variable {K : Nat → Nat} {ax am k cb sb : Nat} {σ τ : mh_H} {own own' P V V' : Nat → Nat} {lf lo lf' lo' : List Nat} {nt nt' : List (List Int32)} {F F' : Nat → Fo} {A' c m : Nat} {S S' : rm_S} {U : Nat → Prop}
theorem fin_step (hk : k < 512) (H : CS σ own P V lf lo nt F) (R : rmH K σ am ∧ rz σ am S = σ) (hax : P 0 = ax) (hx : am + 22 < hX σ) (B : BDg σ V k cb sb) (H' : CS τ own' P V' lf' lo' nt' F') (I' : RI S' lf' lo' nt' F') (h9 : ∀ o, o ≤ 22 → own' (am + o) = 9) (C : Chg U σ τ) (hU : ∀ o, o ≤ 22 → ¬ U (am + o)) (D' : DI (k + 1) lf' lo' nt' F' A') (hB : Bud σ V τ V' c m) :
    c ≤ cb ∧ m ≤ sb ∧ (rmH K τ am ∧ rz τ am S = τ) ∧ IV K ax am (k + 1) (cb - c) (sb - m) (rz τ am S') := by
  obtain ⟨b1, b2⟩ := B
  obtain ⟨c1, c2⟩ := hB
  have m1 := rA_le H
  have m2 := rA_le H'
  have R1 := rmH_Chg C R.1 hx hU
  have R2 := rz_keep C R.2 hx hU
  have hX1 := C.1
  have Cz : Chg (fun a => own' a = 9) τ (rz τ am S') := rz_Chg h9
  have u9 : ∀ d, d ≠ 9 → ∀ a, own' a = 9 → own' a ≠ d := fun d hd a h h' => hd (by omega)
  have E : Ex (hX τ) own' own' := fun _ _ => rfl
  obtain ⟨HC0, HCW, HF, HO, ⟨l, HS⟩, H4, H6, H7⟩ := H'
  have Hz : CS (rz τ am S') own' P V' lf' lo' nt' F' := ⟨C0_Chg Cz E (u9 0 (by omega)) HC0, CW_Chg Cz E (u9 10 (by omega)) HCW, (CR_Chg Cz E (u9 1 (by omega)) HF).1, (CR_Chg Cz E (u9 2 (by omega)) HO).1, ⟨l, (CR_Chg Cz E (u9 3 (by omega)) HS).1⟩, C4_Chg Cz E (u9 4 (by omega)) H4, (C6_Chg Cz E (u9 6 (by omega)) H6).1, fun t ht => C7_Chg Cz E (u9 (7 + t) (by omega)) (H7 t ht)⟩
  refine ⟨by omega, by omega, ⟨R1, R2⟩, own', P, V', lf', lo', nt', F', A', S', Hz, I', ⟨R1, rz_rz _ _ _ _⟩, hax, by show am + 22 < hX τ; omega, h9, D', ?_⟩
  have e : rA (rz τ am S') V' = rA τ V' := rfl
  unfold BDg
  rw [e]
  omega
/-- a call that leaves all as it was -/
theorem fin_ask (hk : k < 512) (I : IV K ax am k cb sb σ) : IV K ax am (k + 1) cb sb σ := by
  obtain ⟨own, P, V, lf, lo, nt, F, A, S, H, R, RR, hax, hx, h9, D, B⟩ := I
  obtain ⟨d1, d2, d3, d4, d5, d6, d7, d8⟩ := D
  obtain ⟨b1, b2⟩ := B
  exact ⟨own, P, V, lf, lo, nt, F, A, S, H, R, RR, hax, hx, h9, ⟨d1, d2, d3, d4, d5, d6, d7, by omega⟩, by omega, by omega⟩
end STEP
/-- an operation of both -/
def lwq (K : Nat → Nat) (am : Nat) (I : Nat → Nat → Nat → mh_H → Prop) (fC : mh_H → Option ((Int32 × mh_H) × Nat × Nat)) (fR : rm_S → Option (Int32 × rm_S)) : Prop :=
  ∀ (k cb sb : Nat) (σ : mh_H), k < 512 → I k cb sb σ → ∃ (v : Int32) (s1 : mh_H) (c n : Nat) (S S' : rm_S), fC σ = some ((v, s1), c, n) ∧ c ≤ cb ∧ n ≤ sb ∧ (rmH K s1 am ∧ rz s1 am S = s1) ∧ fR S = some (v, S') ∧ I (k + 1) (cb - c) (sb - n) (rz s1 am S')
def lwq0 (K : Nat → Nat) (am : Nat) (I : Nat → Nat → Nat → mh_H → Prop) (fC : mh_H → Option (Int32 × mh_H)) (fR : rm_S → Option (Int32 × rm_S)) : Prop :=
  ∀ (k cb sb : Nat) (σ : mh_H), k < 512 → I k cb sb σ → ∃ (v : Int32) (s1 : mh_H) (S S' : rm_S), fC σ = some (v, s1) ∧ (rmH K s1 am ∧ rz s1 am S = s1) ∧ fR S = some (v, S') ∧ I (k + 1) cb sb (rz s1 am S')
section OPS
variable {K : Nat → Nat} {ax am N : Nat}
theorem ask_op {fC : mh_H → Option (Int32 × mh_H)} {fR : rm_S → Option (Int32 × rm_S)} (h : ∀ (k : Nat) (σ : mh_H) own P V lf lo nt F A S, CS σ own P V lf lo nt F → RI S lf lo nt F → P 0 = ax → DI k lf lo nt F A → ∃ v, fC σ = some (v, σ) ∧ fR S = some (v, S)) : lwq0 K am (IV K ax am) fC fR := by
  intro k cb sb σ hk I
  have I' := fin_ask hk I
  obtain ⟨own, P, V, lf, lo, nt, F, A, S, H, R, RR, hax, hx, h9, D, B⟩ := I
  obtain ⟨v, h1, h2⟩ := h k σ own P V lf lo nt F A S H R hax D
  exact ⟨v, σ, S, S, h1, RR, h2, by rw [RR.2]; exact I'⟩
theorem op_nodes (x1 : Int32) : lwq0 K am (IV K ax am) (f_PR_nodes N ax x1) (f_RM_nodes N x1) := ask_op (fun k σ own P V lf lo nt F A S H R hax D => by rw [← hax]; exact ask_nodes H R x1)
theorem op_node (hNN : 40000 ≤ N) (x1 x2 x3 : Int32) : lwq0 K am (IV K ax am) (f_PR_node N ax x1 x2 x3) (f_RM_node N x1 x2 x3) := ask_op (fun k σ own P V lf lo nt F A S H R hax D => by rw [← hax]; exact ask_node H R (fun t ht => (D.2.2.2.1 t ht).2.2) hNN x1 x2 x3)
theorem op_part (hNN : 40000 ≤ N) (x1 x2 x3 : Int32) : lwq0 K am (IV K ax am) (f_PR_part N ax x1 x2 x3) (f_RM_part N x1 x2 x3) := ask_op (fun k σ own P V lf lo nt F A S H R hax D => by rw [← hax]; exact ask_part H R (fun t ht => (D.2.2.2.1 t ht).2.2) hNN x1 x2 x3)
theorem op_whole (x1 x2 : Int32) : lwq0 K am (IV K ax am) (f_PR_whole N ax x1 x2) (f_RM_whole N x1 x2) := ask_op (fun k σ own P V lf lo nt F A S H R hax D => by rw [← hax]; exact ask_whole H R (fun t ht => (D.2.2.2.1 t ht).2.2) x1 x2)
theorem op_names : lwq0 K am (IV K ax am) (f_PR_names N ax) (f_RM_names N) := ask_op (fun k σ own P V lf lo nt F A S H R hax D => by rw [← hax]; exact ask_names H R)
theorem op_spelt (x1 x2 : Int32) : lwq0 K am (IV K ax am) (f_PR_spelt N ax x1 x2) (f_RM_spelt N x1 x2) := ask_op (fun k σ own P V lf lo nt F A S H R hax D => by rw [← hax]; exact ask_spelt H R D.2.2.1 x1 x2)
theorem op_written (x1 : Int32) : lwq0 K am (IV K ax am) (f_PR_written N ax x1) (f_RM_written N x1) := ask_op (fun k σ own P V lf lo nt F A S H R hax D => by rw [← hax]; exact ask_written H R D.2.1 x1)
theorem op_same (hNN : 40000 ≤ N) : lwq0 K am (IV K ax am) (f_PR_same N ax) (f_RM_same N) := ask_op (fun k σ own P V lf lo nt F A S H R hax D => by rw [← hax]; exact ask_same H R (fun t ht => (D.2.2.2.1 t ht).2.2) hNN)
theorem op_write (hNN : 40000 ≤ N) (x1 x2 : Int32) : lwq K am (IV K ax am) (f_PR_write N ax x1 x2) (f_RM_write N (rw_show N 1000) x1 x2) := by
  intro k cb sb σ hk I
  obtain ⟨own, P, V, lf, lo, nt, F, A, S, H, R, RR, hax, hx, h9, D, B⟩ := I
  obtain ⟨d1, d2, d3, d4, d5, d6, d7, d8⟩ := D
  obtain ⟨v, τ, own', V', c, m, S', lo', r1, r2, H', R', r3, C, hB, r4⟩ := write_core (N := N) H R d3 d4 hNN x1 x2
  have h9' : ∀ o, o ≤ 22 → own' (am + o) = 9 := fun o ho => r3 _ (by omega) (h9 o ho)
  have D' : DI (k + 1) lf lo' nt F A := by
    refine ⟨d1, ?_, d3, d4, d5, d6, ?_, by omega⟩
    · rcases r4 with h | h
      · rw [h]; exact d2
      · exact h.2
    · rcases r4 with h | h
      · rw [h]; exact d7
      · exact GW_KN h.1
  obtain ⟨q1, q2, q3, q4⟩ := fin_step hk H RR hax hx B H' R' h9' C (fun o ho h => by have := h9 o ho; omega) D' hB
  exact ⟨v, τ, c, m, S, S', by rw [← hax]; exact r1, q1, q2, q3, r2, q4⟩
theorem KN_ext {g g' : Nat → Nat} {A : Nat} {nt : List (List Int32)} (h : KN g A nt) (hg : ∀ i, i < A → g' i = g i) : KN g' A nt := by
  intro p l h1 h2 h3 h4 h5 h6 h7
  have e : ∀ j, j < l → g' (p + j) = g (p + j) := fun j hj => hg _ (by omega)
  rw [wl_congr e]
  refine h p l h1 h2 (fun j hj => by rw [← e j hj]; exact h3 j hj) ?_ (by rw [← hg (p + l) h2]; exact h5) (by rw [← hg p (by omega)]; exact h6) (by rw [← h7]; exact (wk_congr e).symm)
  rcases h4 with h | h
  · exact Or.inl h
  · right; rw [← hg (p - 1) (by omega)]; exact h
theorem op_feed (hNN : 40000 ≤ N) (x1 x2 x3 x4 x5 : Int32) : lwq K am (IV K ax am) (f_PR_feed N ax x1 x2 x3 x4 x5) (f_RM_feed N x1 x2 x3 x4 x5) := by
  intro k cb sb σ hk I
  have I0 := fin_ask hk I
  obtain ⟨own, P, V, lf, lo, nt, F, A, S, H, R, RR, hax, hx, h9, D, B⟩ := I
  obtain ⟨d1, d2, d3, d4, d5, d6, d7, d8⟩ := D
  have H0 := H
  obtain ⟨HC0, HCW, HF, HO, ⟨l, HS⟩, H4, H6, H7⟩ := H
  obtain ⟨⟨i1, i2⟩, ⟨i3, i4⟩, i5, i6, i7⟩ := R
  have hmap : (lf.map sx).length = lf.length := by simp
  have hl8 : lf.length ≤ 8000 := by have := HF.1.2.2.1.2.2.1; simpa using this
  by_cases hfit : lf.length + 20 ≤ 8000
  · obtain ⟨τ, bb', c, m, r1, r2, r3, r4⟩ := c_feed (N := N) (x1 := x1) (x2 := x2) (x3 := x3) (x4 := x4) (x5 := x5) HC0.1.1 HC0.2.2.2.1.1 HC0.2.1.1 HF.1 (by rw [hmap]; exact hfit)
    obtain ⟨S', s1, s2, s3, s4, s5, s6⟩ := r_feed (x1 := x1) (x2 := x2) (x3 := x3) (x4 := x4) (x5 := x5) (N := N) (n := lf.length) hfit (by omega) i1
    rw [hmap] at r1
    have hb20 : (b20 x1 x2 x3 x4 x5).length = 20 := rfl
    have C : Chg (fun a => own a = 1) σ τ := Fr_Chg r3 HF.2.1 HF.2.2
    have E : Ex (hX σ) own (own1 (hX σ) 1 own) := own1_Ex
    have u1 : ∀ d, d ≠ 1 → ∀ a, own a = 1 → own a ≠ d := fun d hd a h h' => hd (by omega)
    let V' : Nat → Nat := fun i => if i = 0 then bb' else V i
    have AO := CR_Chg C E (u1 2 (by omega)) HO
    have AS := CR_Chg C E (u1 3 (by omega)) HS
    have A6 := C6_Chg C E (u1 6 (by omega)) H6
    have H' : CS τ (own1 (hX σ) 1 own) P V' (lf ++ b20 x1 x2 x3 x4 x5) lo nt F := by
      refine ⟨C0_Chg C E (u1 0 (by omega)) HC0, CW_Chg C E (u1 10 (by omega)) HCW, ⟨?_, ?_, ?_⟩, AO.1, ⟨l, AS.1⟩, C4_Chg C E (u1 4 (by omega)) H4, A6.1, fun t ht => ?_⟩
      · rw [List.map_append]; exact r2
      · rw [own1_old HF.1.2.2.2.1.1]; exact HF.2.1
      · show own1 (hX σ) 1 own bb' = 1
        rcases r4.2.2.1 with h | h
        · rw [h, own1_old HF.1.2.2.2.1.2]; exact HF.2.2
        · exact own1_new h
      · obtain ⟨q1, q2, q3, q4⟩ := C7_Chg C E (u1 (7 + t) (by omega)) (H7 t ht)
        have e1 : V' (12 + 2 * t) = V (12 + 2 * t) := if_neg (by omega)
        have e2 : V' (13 + 2 * t) = V (13 + 2 * t) := if_neg (by omega)
        exact ⟨by rw [e1, e2]; exact q1, by rw [e2]; exact q2, q3, by rw [e1]; exact q4⟩
    have R' : RI S' (lf ++ b20 x1 x2 x3 x4 x5) lo nt F := by
      refine ⟨⟨by rw [s2, List.length_append, hb20], fun i hi => ?_⟩, ⟨by rw [s3 5 (by omega)]; exact i3, fun i hi => by rw [s4 2 (by omega)]; exact i4 i hi⟩, NT_ext i5 (s4 20 (by omega)) (s4 21 (by omega)), by rw [s3 31 (by omega)]; exact i6, fun t ht => TR_ext (i7 t ht) (fun o _ _ => s4 o (by omega))⟩
      by_cases hi' : i < lf.length
      · rw [s5 i hi', i2 i hi', List.getElem_append_left hi']
      · have hi2 : i < lf.length + 20 := by rw [List.length_append, hb20] at hi; exact hi
        have h6 := s6 (i - lf.length) (by rw [hb20]; omega)
        rw [show lf.length + (i - lf.length) = i by omega] at h6
        rw [List.getElem_append_right (by omega), h6]
    have D' : DI (k + 1) (lf ++ b20 x1 x2 x3 x4 x5) lo nt F A := by
      refine ⟨fun x hx => ?_, d2, d3, d4, by rw [List.length_append]; omega, KN_ext d6 (fun i hi => getD_l (by omega)), d7, by rw [List.length_append, hb20]; omega⟩
      rcases List.mem_append.mp hx with h | h
      · exact d1 x h
      · exact b20_lt _ _ _ _ _ x h
    have hB : Bud σ V τ V' c m := by
      obtain ⟨z1, z2, _⟩ := r4
      have q2 := AO.2.1
      have q4 := AS.2.1
      have q9 := A6.2
      have e0 : V' 0 = bb' := rfl
      have e : ∀ i, i ≠ 0 → V' i = V i := fun i hi => if_neg hi
      unfold Bud rA rB
      rw [e0, e 2 (by omega), e 4 (by omega), e 6 (by omega), e 8 (by omega), e 9 (by omega), e 11 (by omega), e 13 (by omega), e 15 (by omega), q2, q4, q9]
      omega
    obtain ⟨q1, q2, q3, q4⟩ := fin_step hk H0 RR hax hx B H' R' (fun o ho => by rw [own1_old (by omega)]; exact h9 o ho) C (fun o ho h => by have := h9 o ho; omega) D' hB
    exact ⟨_, τ, c, m, S, S', by rw [← hax]; exact r1, q1, q2, q3, s1, q4⟩
  · refine ⟨-1, σ, 0, 0, S, S, ?_, by omega, by omega, RR, ?_, by rw [RR.2]; exact I0⟩
    · rw [← hax]
      unfold f_PR_feed
      exact X_chk HC0.1.1 (X_rfO HC0.2.1.1 (X_chk HF.1.1.1 (X_nif (by rw [HF.1.2.1.1, hmap]; show ¬ nI _ + nI 20 ≤ nI 8000; rw [n_add, n_le (by omega) (by omega)]; exact hfit) rfl)))
    · unfold f_RM_feed
      exact X_nif (by rw [i1]; show ¬ nI _ + nI 20 ≤ nI 8000; rw [n_add, n_le (by omega) (by omega)]; exact hfit) rfl
theorem op_again (hNN : 40000 ≤ N) : lwq K am (IV K ax am) (f_PR_again N ax) (f_RM_again N) := by
  intro k cb sb σ hk I
  obtain ⟨own, P, V, lf, lo, nt, F, A, S, H, R, RR, hax, hx, h9, D, B⟩ := I
  obtain ⟨d1, d2, d3, d4, d5, d6, d7, d8⟩ := D
  have H0 := H
  obtain ⟨HC0, HCW, HF, HO, ⟨l, HS⟩, H4, H6, H7⟩ := H
  obtain ⟨⟨i1, i2⟩, ⟨i3, i4⟩, i5, i6, i7⟩ := R
  have hmap : (lo.map sx).length = lo.length := by simp
  have hl8 : lo.length ≤ 8000 := by have := HO.1.2.2.1.2.2.1; simpa using this
  obtain ⟨τ, bb', c, m, r1, r2, r3, r4, _⟩ := b_copy (N := N) HF.1 HO.1 (by intro e; have h1 := HF.2.1; have h2 := HO.2.1; rw [e] at h2; omega) (by intro e; have h1 := HF.2.2; have h2 := HO.2.2; rw [e] at h2; omega) (by rw [hmap]; exact hl8)
  obtain ⟨S', s1, s2, s3, s4, s5⟩ := ra_loop (N := N) (lo := lo) hl8 lo.length 0 (rs_i S 2 (nI lo.length)) N (by omega) (by omega) (by omega) (by rw [rs_i1, if_pos rfl]) i4
  have C : Chg (fun a => own a = 1) σ τ := Fr_Chg r3 HF.2.1 HF.2.2
  have E : Ex (hX σ) own (own1 (hX σ) 1 own) := own1_Ex
  have u1 : ∀ d, d ≠ 1 → ∀ a, own a = 1 → own a ≠ d := fun d hd a h h' => hd (by omega)
  let V' : Nat → Nat := fun i => if i = 0 then bb' else V i
  have A0 := C0_Chg C E (u1 0 (by omega)) HC0
  have AO := CR_Chg C E (u1 2 (by omega)) HO
  have AS := CR_Chg C E (u1 3 (by omega)) HS
  have A6 := C6_Chg C E (u1 6 (by omega)) H6
  have H' : CS τ (own1 (hX σ) 1 own) P V' lo lo nt F := by
    refine ⟨A0, CW_Chg C E (u1 10 (by omega)) HCW, ⟨r2, ?_, ?_⟩, AO.1, ⟨l, AS.1⟩, C4_Chg C E (u1 4 (by omega)) H4, A6.1, fun t ht => ?_⟩
    · rw [own1_old HF.1.2.2.2.1.1]; exact HF.2.1
    · show own1 (hX σ) 1 own bb' = 1
      rcases r4.2.2.1 with h | h
      · rw [h, own1_old HF.1.2.2.2.1.2]; exact HF.2.2
      · exact own1_new h
    · obtain ⟨q1, q2, q3, q4⟩ := C7_Chg C E (u1 (7 + t) (by omega)) (H7 t ht)
      have e1 : V' (12 + 2 * t) = V (12 + 2 * t) := if_neg (by omega)
      have e2 : V' (13 + 2 * t) = V (13 + 2 * t) := if_neg (by omega)
      exact ⟨by rw [e1, e2]; exact q1, by rw [e2]; exact q2, q3, by rw [e1]; exact q4⟩
  have R' : RI S' lo lo nt F := by
    have g1 : ∀ x, x ≠ 2 → S'.1 x = S.1 x := fun x hx => by rw [s2, rs_i1, if_neg hx]
    exact ⟨⟨by rw [s2, rs_i1, if_pos rfl], fun i hi => s5 i hi (by omega)⟩, ⟨by rw [g1 5 (by omega)]; exact i3, fun i hi => by rw [s3 2 (by omega)]; exact i4 i hi⟩, NT_ext i5 (s3 20 (by omega)) (s3 21 (by omega)), by rw [g1 31 (by omega)]; exact i6, fun t ht => TR_ext (i7 t ht) (fun o _ _ => s3 o (by omega))⟩
  have D' : DI (k + 1) lo lo nt F lo.length := by
    refine ⟨d2, d2, d3, d4, Nat.le_refl _, d7, d7, ?_⟩
    have : (if lo.length = 0 then 0 else 20) ≤ 20 := by split <;> omega
    omega
  have hB : Bud σ V τ V' c m := by
    obtain ⟨z1, z2, _⟩ := r4
    have q2 := AO.2.1
    have q4 := AS.2.1
    have q9 := A6.2
    have e0 : V' 0 = bb' := rfl
    have e : ∀ i, i ≠ 0 → V' i = V i := fun i hi => if_neg hi
    unfold Bud rA rB
    rw [e0, e 2 (by omega), e 4 (by omega), e 6 (by omega), e 8 (by omega), e 9 (by omega), e 11 (by omega), e 13 (by omega), e 15 (by omega), q2, q4, q9]
    omega
  obtain ⟨q1, q2, q3, q4⟩ := fin_step hk H0 RR hax hx B H' R' (fun o ho => by rw [own1_old (by omega)]; exact h9 o ho) C (fun o ho h => by have := h9 o ho; omega) D' hB
  refine ⟨nI lo.length, τ, c, m, S, S', ?_, q1, q2, q3, ?_, q4⟩
  · rw [← hax]
    unfold f_PR_again
    refine X_chk HC0.1.1 (X_rfO HC0.2.1.1 (X_rfO HC0.2.1.2.1 (X_chk HF.1.1.1 (X_A r1 (X_tk (a := (nI lo.length, τ)) (c' := 0) (m' := 0) ?_ (by simp))))))
    refine X_chk A0.1.1 (X_rfO A0.2.1.1 (X_chk r2.1.1 ?_))
    rw [r2.2.1.1, hmap]
  · unfold f_RM_again
    exact X_bndE i3 s1
theorem op_read (hNN : 40000 ≤ N) (x1 x2 : Int32) : lwq K am (IV K ax am) (f_PR_read N (pa_function N 1000) ax x1 x2) (f_RM_read N (rp_function N 1000) x1 x2) := by
  intro k cb sb σ hk I
  have I0 := fin_ask hk I
  obtain ⟨own, P, V, lf, lo, nt, F, A, S, H, R, RR, hax, hx, h9, D, B⟩ := I
  obtain ⟨d1, d2, d3, d4, d5, d6, d7, d8⟩ := D
  have H0 := H
  have R0 := R
  obtain ⟨HC0, HCW, HF, HO, HS, H4, H6, H7⟩ := H
  obtain ⟨⟨i1, i2⟩, ⟨i3, i4⟩, i5, i6, i7⟩ := R
  have hmap : (lf.map sx).length = lf.length := by simp
  have hl8 : lf.length ≤ 8000 := by have := HF.1.2.2.1.2.2.1; simpa using this
  have hcnt : hI σ 0 1 (P 10) = nI lf.length := by rw [HF.1.2.1.1, hmap]
  have hNod : nt.Nodup := H6.1.2.2
  -- nothing is read
  have stay : f_PR_read N (pa_function N 1000) (P 0) x1 x2 σ = some ((-2, σ), 0, 0) → f_RM_read N (rp_function N 1000) x1 x2 S = some (-2, S) → ∃ (v : Int32) (s1 : mh_H) (c n : Nat) (S S' : rm_S), f_PR_read N (pa_function N 1000) ax x1 x2 σ = some ((v, s1), c, n) ∧ c ≤ cb ∧ n ≤ sb ∧ (rmH K s1 am ∧ rz s1 am S = s1) ∧ f_RM_read N (rp_function N 1000) x1 x2 S = some (v, S') ∧ IV K ax am (k + 1) (cb - c) (sb - n) (rz s1 am S') := by
    intro h1 h2
    exact ⟨-2, σ, 0, 0, S, S, by rw [← hax]; exact h1, by omega, by omega, RR, h2, by rw [RR.2]; exact I0⟩
  -- a text is read
  have go : ∀ t e, t < 2 → e ≤ lf.length → x1 = nI t → (∀ y, k_PR_read_16 N (pa_function N 1000) (P 0) (nI t) (nI e) σ = y → f_PR_read N (pa_function N 1000) (P 0) x1 x2 σ = y) → (∀ y, k_RM_read_39 N (rp_function N 1000) (nI t) (nI e) S = y → f_RM_read N (rp_function N 1000) x1 x2 S = y) → ∃ (v : Int32) (s1 : mh_H) (c n : Nat) (S S' : rm_S), f_PR_read N (pa_function N 1000) ax x1 x2 σ = some ((v, s1), c, n) ∧ c ≤ cb ∧ n ≤ sb ∧ (rmH K s1 am ∧ rz s1 am S = s1) ∧ f_RM_read N (rp_function N 1000) x1 x2 S = some (v, S') ∧ IV K ax am (k + 1) (cb - c) (sb - n) (rz s1 am S') := by
    intro t e ht he hx1 c1 c2
    have hWt := Wt_len d3
    have hcap : ∀ T' S', finT (JJ (fun i => lf.getD i 0) e) (fun i => lf.getD i 0) e T' S' → ∀ bt : Nat → Int32, (∀ i, i < e → bt i = nI (lf.getD i 0)) → Cap T'.length (tkF T') (tpF T') (fun j => wd bt (tpF T' j) (lnF T' j)) nt := by
      intro T' S' fin bt hbt f hf
      obtain ⟨E, e1, e2, e3, e4⟩ := new_bound (A := A) (len := lf.length) fin hbt d6 d5 he (by omega) hNod f hf
      rw [e1]
      have hok' : ∀ w ∈ nt ++ E, okw w := fun w hw => by
        rcases List.mem_append.mp hw with h | h
        · exact d3 w h
        · exact e4 w h
      have hl := Wt_len hok'
      rw [Wt_app] at hl
      by_cases hA0 : A = 0
      · rw [if_pos hA0] at e3 d8; omega
      · rw [if_neg hA0] at e3 d8; omega
    obtain ⟨flt, τ, own', V', c, m, S', f, T', S2, bt, r1, r2, r3, r4, r5, r6, r7, r8, H', R', r9, r10, r11⟩ := read_core (N := N) (J := JJ (fun i => lf.getD i 0) e) H0 R0 ht he d1 (fun t ht => (d4 t ht).2.2) (fun i T k l v a b c d => JJ_step i T k l v a b c d) (JJ_zero _ _) hcap hNN
    obtain ⟨E, e1, e2, e3, e4⟩ := new_bound (A := A) (len := lf.length) r3 r4 d6 d5 he (by omega) hNod f r5
    generalize htx : (fun j => wd bt (tpF T' j) (lnF T' j)) = tx at *
    have hwt := wt_res (n := T'.length) (tk := tkF T') (tp := tpF T') tx f nt r5
    have hhg := hgt_res tx f nt
    have hsi := res_siz tx f nt
    have hmono : nt.length ≤ (res tx f nt).2.length := by rw [e1]; simp
    have D' : DI (k + 1) [] lo (res tx f nt).2 (setF F t (res tx f nt).1) 0 := by
      refine ⟨by simp, d2, fun w hw => ?_, fun t' h' => ?_, by simp, fun p l _ h => by omega, KN_mono d7 (fun w hw => ?_), ?_⟩
      · rw [e1] at hw
        rcases List.mem_append.mp hw with h | h
        · exact d3 w h
        · exact e4 w h
      · unfold setF
        by_cases e : t' = t
        · rw [if_pos e]; exact ⟨hwt, by omega, by omega⟩
        · rw [if_neg e]
          obtain ⟨q1, q2, q3⟩ := d4 t' h'
          exact ⟨wt_mono hmono q1, q2, q3⟩
      · rw [e1]; exact List.mem_append_left _ hw
      · rw [e1, Wt_app, if_pos rfl]
        simp only [List.length_nil]
        by_cases hA0 : A = 0
        · rw [if_pos hA0] at e3 d8; omega
        · rw [if_neg hA0] at e3 d8; omega
    obtain ⟨q1, q2, q3, q4⟩ := fin_step hk H0 RR hax hx B H' R' (fun o ho => by rw [r9 _ (by omega)]; exact h9 o ho) r10 (fun o ho h => by have := h9 o ho; omega) D' r11
    exact ⟨flt, τ, c, m, S, S', by rw [← hax]; exact c1 _ r1, q1, q2, q3, c2 _ r2, q4⟩
  by_cases ht : ∃ t, t < 2 ∧ x1 = nI t
  · obtain ⟨t, ht, rfl⟩ := ht
    have n0 : ¬ nI t < 0 := by show ¬ nI t < nI 0; rw [n_lt (by omega) (by omega)]; omega
    have n1 : ¬ 1 < nI t := by show ¬ nI 1 < nI t; rw [n_lt (by omega) (by omega)]; omega
    by_cases hm : x2 = -1
    · subst hm
      refine go t lf.length ht (Nat.le_refl _) rfl (fun y hy => ?_) (fun y hy => ?_)
      · unfold f_PR_read
        refine X_if rfl (X_chk HC0.1.1 (X_rfO HC0.2.1.1 (X_chk HF.1.1.1 ?_)))
        rw [hcnt]; exact hy
      · unfold f_RM_read
        refine X_nif n0 (X_nif n1 (X_nif (by decide) (X_if ?_ (X_if rfl ?_))))
        · rw [i1, Int32.le_iff_toInt_le, n_toInt (by omega)]
          have : (-1 : Int32).toInt = -1 := rfl
          omega
        · rw [i1]; exact hy
    · rcases neg_or x2 with hneg | ⟨e, he, rfl⟩
      · have hlt : x2 < -1 := by
          rw [Int32.lt_iff_toInt_lt] at hneg ⊢
          have h0 : (0 : Int32).toInt = 0 := rfl
          have h1 : (-1 : Int32).toInt = -1 := rfl
          have : x2.toInt ≠ -1 := fun h => hm (by rw [← Int32.toInt_inj, h]; rfl)
          omega
        refine stay ?_ ?_
        · unfold f_PR_read
          refine X_nif hm ?_
          unfold k_PR_read_16
          exact X_chk HC0.1.1 (X_I (has_tree ht) (X_nif n10 (X_if hneg rfl)))
        · unfold f_RM_read
          exact X_nif n0 (X_nif n1 (X_if hlt rfl))
      · have hnl : ¬ nI e < -1 := by
          have : (nI e < -nI 1) = False := n_ltm he
          show ¬ nI e < -nI 1
          rw [this]; exact id
        have hn0 : ¬ nI e < 0 := by show ¬ nI e < nI 0; rw [n_lt (by omega) (by omega)]; omega
        by_cases hle : e ≤ lf.length
        · refine go t e ht hle rfl (fun y hy => ?_) (fun y hy => ?_)
          · unfold f_PR_read
            exact X_nif hm hy
          · unfold f_RM_read
            exact X_nif n0 (X_nif n1 (X_nif hnl (X_if (by rw [i1, n_le (by omega) (by omega)]; exact hle) (X_nif hm hy))))
        · refine stay ?_ ?_
          · unfold f_PR_read
            refine X_nif hm ?_
            unfold k_PR_read_16
            exact X_chk HC0.1.1 (X_I (has_tree ht) (X_nif n10 (X_nif hn0 (X_chk HC0.1.1 (X_rfO HC0.2.1.1 (X_chk HF.1.1.1 (X_nif (by rw [hcnt, n_le (by omega) (by omega)]; exact hle) rfl)))))))
          · unfold f_RM_read
            exact X_nif n0 (X_nif n1 (X_nif hnl (X_nif (by rw [i1, n_le (by omega) (by omega)]; exact hle) rfl)))
  · obtain ⟨h1, h2⟩ := has_no_tree (τ := σ) (N := N) (pr := P 0) ht
    have h16 : ∀ z, k_PR_read_16 N (pa_function N 1000) (P 0) x1 z σ = some ((-2, σ), 0, 0) := by
      intro z
      unfold k_PR_read_16
      exact X_chk HC0.1.1 (X_I h1 (X_if rfl rfl))
    refine stay ?_ ?_
    · unfold f_PR_read
      by_cases hm : x2 = -1
      · exact X_if hm (X_chk HC0.1.1 (X_rfO HC0.2.1.1 (X_chk HF.1.1.1 (h16 _))))
      · exact X_nif hm (h16 _)
    · unfold f_RM_read
      rcases h2 with h | h
      · exact X_if h rfl
      · refine X_nif h.1 (X_if ?_ rfl)
        have h3 := h.2
        rw [Int32.le_iff_toInt_le] at h3
        rw [Int32.lt_iff_toInt_lt]
        have e1 : (1 : Int32).toInt = 1 := rfl
        have e2 : (2 : Int32).toInt = 2 := rfl
        omega
end OPS
