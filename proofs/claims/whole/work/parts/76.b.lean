/-! what the class holds between calls, part by part; who owns what -/
def Ex (X : Nat) (own own' : Nat → Nat) : Prop := ∀ a, a < X → own' a = own a
def C0 (τ : mh_H) (own P V : Nat → Nat) : Prop := (hT τ (P 0) = 15 ∧ hT τ (P 1) = 6 ∧ hN τ (P 1) = 2) ∧ (hR τ 7 0 (P 0) = some (P 10) ∧ hR τ 7 1 (P 0) = some (V 1) ∧ hR τ 7 2 (P 0) = some (V 3) ∧ hR τ 7 3 (P 0) = some (P 4) ∧ hR τ 7 4 (P 0) = some (P 5) ∧ hR τ 7 5 (P 0) = some (P 3) ∧ hR τ 7 6 (P 0) = some (P 6) ∧ hR τ 7 7 (P 0) = some (P 2) ∧ hR τ 7 8 (P 0) = some (P 1)) ∧ (∀ t, t < 2 → hQ τ (P 1) t = some (P (8 + t))) ∧ (P 0 < hX τ ∧ P 1 < hX τ) ∧ (own (P 0) = 0 ∧ own (P 1) = 0)
def CW (τ : mh_H) (own P : Nat → Nat) : Prop := hT τ (P 2) = 13 ∧ hR τ 6 0 (P 2) = some (P 6) ∧ P 2 < hX τ ∧ own (P 2) = 10
def CR (τ : mh_H) (own : Nat → Nat) (c br bb : Nat) (l : List Int32) : Prop := Rw τ br bb 8000 l ∧ own br = c ∧ own bb = c
def C4 (τ : mh_H) (own P V : Nat → Nat) : Prop := Tv τ (P 4) (V 5) (V 6) ∧ Dv τ (P 5) (V 7) (V 8) ∧ (hT τ (P 3) = 7 ∧ hR τ 3 0 (P 3) = some (P 4) ∧ hR τ 3 1 (P 3) = some (P 5) ∧ P 3 < hX τ) ∧ (V 5 + 2 < V 7 ∨ V 7 + 3 < V 5) ∧ (own (P 3) = 4 ∧ own (P 4) = 4 ∧ own (P 5) = 4) ∧ (∀ i, i < 3 → own (V 5 + i) = 4) ∧ (∀ i, i < 4 → own (V 7 + i) = 4)
def C6 (τ : mh_H) (own P V : Nat → Nat) (nt : List (List Int32)) : Prop := NM τ (P 6) (P 7) (V 9) (V 10) (V 11) nt ∧ (own (P 6) = 6 ∧ own (P 7) = 6 ∧ own (V 9) = 6) ∧ (∀ i, i < 3 → own (V 10 + i) = 6)
def C7 (τ : mh_H) (own P V : Nat → Nat) (t : Nat) (l : List TE) (pr : List (Int32 × Int32)) : Prop := TL τ (P (8 + t)) (V (12 + 2 * t)) (V (13 + 2 * t)) l pr ∧ V (13 + 2 * t) ≤ 24004 ∧ own (P (8 + t)) = 7 + t ∧ (∀ i, i < 7 → own (V (12 + 2 * t) + i) = 7 + t)
section PARTS
variable {τ τ' : mh_H} {own own' P V : Nat → Nat} {U : Nat → Prop}
theorem C0_Chg (C : Chg U τ τ') (E : Ex (hX τ) own own') (hU : ∀ a, U a → own a ≠ 0) (H : C0 τ own P V) : C0 τ' own' P V := by
  obtain ⟨⟨a1, a2, a3⟩, a4, a5, ⟨a6, a7⟩, a8, a9⟩ := H
  have k0 := C.2.2 (P 0) a6 (fun h => hU _ h a8)
  have k1 := C.2.2 (P 1) a7 (fun h => hU _ h a9)
  have hx := C.1
  refine ⟨⟨by rw [(C.2.1 _ a6).1]; exact a1, by rw [(C.2.1 _ a7).1]; exact a2, by rw [(C.2.1 _ a7).2]; exact a3⟩, ?_, fun t ht => by rw [k1.2.2.2]; exact a5 t ht, ⟨by omega, by omega⟩, by rw [E _ a6]; exact a8, by rw [E _ a7]; exact a9⟩
  simp only [k0.2.1]; exact a4
theorem CW_Chg (C : Chg U τ τ') (E : Ex (hX τ) own own') (hU : ∀ a, U a → own a ≠ 10) (H : CW τ own P) : CW τ' own' P := by
  obtain ⟨a1, a2, a3, a4⟩ := H
  have k0 := C.2.2 (P 2) a3 (fun h => hU _ h a4)
  have hx := C.1
  exact ⟨by rw [(C.2.1 _ a3).1]; exact a1, by rw [k0.2.1]; exact a2, by omega, by rw [E _ a3]; exact a4⟩
theorem CR_Chg {c br bb : Nat} {l : List Int32} (C : Chg U τ τ') (E : Ex (hX τ) own own') (hU : ∀ a, U a → own a ≠ c) (H : CR τ own c br bb l) : CR τ' own' c br bb l ∧ hN τ' bb = hN τ bb ∧ hI τ' 0 2 br = hI τ 0 2 br := by
  obtain ⟨a1, a2, a3⟩ := H
  have hx := a1.2.2.2.1
  have hr := Rw_Chg C a1 (fun h => hU _ h a2) (fun h => hU _ h a3)
  exact ⟨⟨hr.1, by rw [E _ hx.1]; exact a2, by rw [E _ hx.2]; exact a3⟩, hr.2.2, hr.2.1⟩
theorem C4_Chg (C : Chg U τ τ') (E : Ex (hX τ) own own') (hU : ∀ a, U a → own a ≠ 4) (H : C4 τ own P V) : C4 τ' own' P V := by
  obtain ⟨a1, a2, ⟨a3, a4, a5, a6⟩, a7, ⟨a8, a9, a10⟩, a11, a12⟩ := H
  have k := C.2.2 (P 3) a6 (fun h => hU _ h a8)
  have hx := C.1
  have h1 := a1.2.2.2
  have h2 := a2.2.2.2
  exact ⟨Tv_Chg C a1 (fun h => hU _ h a9), Dv_Chg C a2 (fun h => hU _ h a10), ⟨by rw [(C.2.1 _ a6).1]; exact a3, by rw [k.2.1]; exact a4, by rw [k.2.1]; exact a5, by omega⟩, a7, ⟨by rw [E _ a6]; exact a8, by rw [E _ h1.1]; exact a9, by rw [E _ h2.1]; exact a10⟩, fun i hi => by rw [E _ (by omega)]; exact a11 i hi, fun i hi => by rw [E _ (by omega)]; exact a12 i hi⟩
theorem NM_Chg {na sp sb b R : Nat} {nt : List (List Int32)} (C : Chg U τ τ') (H : NM τ na sp sb b R nt) (h1 : ¬ U na) (h2 : ¬ U sp) (h3 : ¬ U sb) (h4 : ∀ i, i < 3 → ¬ U (b + i)) : NM τ' na sp sb b R nt ∧ hN τ' sb = hN τ sb := by
  obtain ⟨⟨a1, ⟨a4, a5, a6⟩, ⟨c1, c2, c3, c4⟩, ⟨e1, e2, e3⟩, f1, g, hs, HR, x1, x2⟩, hL, hd⟩ := H
  have k := C.2.2 na x1 h1
  have kb : ∀ i, i < 3 → ∀ j, hA τ' (b + i) j = hA τ (b + i) j := fun i hi => (C.2.2 (b + i) (by omega) (h4 i hi)).2.2.1
  have hx := C.1
  have r := Rw_Chg C HR h2 h3
  have hX2 := HR.2.2.2.1.2
  have t0 := C.2.1 b (by omega)
  have t1 := C.2.1 (b + 1) (by omega)
  have t2 := C.2.1 (b + 2) (by omega)
  have kb0 := kb 0 (by omega)
  rw [Nat.add_zero] at kb0
  refine ⟨⟨⟨by rw [(C.2.1 _ x1).1]; exact a1, ⟨by rw [t0.1]; exact a4, by rw [t1.1]; exact a5, by rw [t2.1]; exact a6⟩, ⟨by rw [k.2.1]; exact c1, by rw [k.2.1]; exact c2, by rw [k.2.1]; exact c3, by rw [k.2.1]; exact c4⟩, ⟨by rw [t0.2]; exact e1, by rw [t1.2]; exact e2, by rw [t2.2]; exact e3⟩, by rw [k.1]; exact f1, g, fun i hi => by rw [kb0]; exact hs i hi, r.1, by omega, by omega⟩, ?_, hd⟩, r.2.2⟩
  rw [show hA τ' (b + 1) = hA τ (b + 1) from funext (kb 1 (by omega)), show hA τ' (b + 2) = hA τ (b + 2) from funext (kb 2 (by omega))]
  exact hL
theorem C6_Chg {nt : List (List Int32)} (C : Chg U τ τ') (E : Ex (hX τ) own own') (hU : ∀ a, U a → own a ≠ 6) (H : C6 τ own P V nt) : C6 τ' own' P V nt ∧ hN τ' (V 9) = hN τ (V 9) := by
  obtain ⟨a1, ⟨a2, a3, a4⟩, a5⟩ := H
  have n := NM_Chg C a1 (fun h => hU _ h a2) (fun h => hU _ h a3) (fun h => hU _ h a4) (fun i hi h => hU _ h (a5 i hi))
  have x := a1.1.2.2.2.2.2.2.2.2
  have y := a1.1.2.2.2.2.2.2.2.1.2.2.2.1
  exact ⟨⟨n.1, ⟨by rw [E _ x.1]; exact a2, by rw [E _ y.1]; exact a3, by rw [E _ y.2]; exact a4⟩, fun i hi => by rw [E _ (by omega)]; exact a5 i hi⟩, n.2⟩
theorem C7_Chg {t : Nat} {l : List TE} {pr : List (Int32 × Int32)} (C : Chg U τ τ') (E : Ex (hX τ) own own') (hU : ∀ a, U a → own a ≠ 7 + t) (H : C7 τ own P V t l pr) : C7 τ' own' P V t l pr := by
  obtain ⟨a1, a2, a3, a4⟩ := H
  have x := a1.2.2.2.2.2.2
  exact ⟨TL_Chg C a1 (fun h => hU _ h a3) (fun i hi h => hU _ h (a4 i hi)), a2, by rw [E _ x.1]; exact a3, fun i hi => by rw [E _ (by omega)]; exact a4 i hi⟩
end PARTS
def own1 (X c : Nat) (own : Nat → Nat) : Nat → Nat := fun a => if a < X then own a else c
theorem own1_Ex {X c : Nat} {own : Nat → Nat} : Ex X own (own1 X c own) := fun a ha => if_pos ha
theorem own1_new {X c a : Nat} {own : Nat → Nat} (h : X ≤ a) : own1 X c own a = c := if_neg (by omega)
theorem own1_old {X c a : Nat} {own : Nat → Nat} (h : a < X) : own1 X c own a = own a := if_pos h
/-! the reference clears a tree -/
theorem clear_ok {S : rm_S} {N t z : Nat} (ht : t ≤ 1) (hz : z = 13000 * t) (hN : 20000 ≤ N) : ∃ S', f_RM_clear N (nI t) S = some S' ∧ TR S' t z (txt .leaf) ∧ S'.1 = S.1 ∧ (∀ o, (o < 14 ∨ 19 < o) → S'.2 o = S.2 o) ∧ (∀ o x, (x < z ∨ z + 13000 ≤ x) → o ≠ 19 → S'.2 o x = S.2 o x) ∧ (∀ x, x ≠ t → S'.2 19 x = S.2 19 x) := by
  have ht2 : t < 2 := by omega
  have hnt : (nI t).toNatClampNeg = t := n_nat (by omega)
  obtain ⟨S1, a1, a2, a3, a4, a5, a6⟩ := add_ok (S := rs_a S 19 t 0) (L := []) (ch := []) (w := -1) (k := 0) (p := 0) (v := 0) ht hz hN ⟨by rw [rs_a2, if_pos ⟨rfl, rfl⟩]; rfl, fun j hj => by simp at hj⟩ (by simp) rfl (by simp) (by simp)
  have ez : (13000 : Int32) * nI t = nI z := by rw [hz]; exact n_mul 13000 t
  refine ⟨rs_a S1 15 z (-1), ?_, ⟨?_, fun j hj => ?_⟩, a3, fun o ho => ?_, fun o x hx ho => ?_, fun x hx => ?_⟩
  · unfold f_RM_clear
    refine X_chk (by rw [n_ib (by omega)]; exact ht2) ?_
    rw [hnt]
    refine X_I a1 (X_chk (by rw [ez, n_ib (by omega)]; omega) ?_)
    rw [ez, n_nat (by omega)]
  · rw [rs_a2, if_neg (by omega), a2.1]; rfl
  · have hj0 : j = 0 := by simp [txt, pre] at hj; omega
    subst hj0
    have := a2.2 0 (by simp [inc])
    simp only [inc, List.mapIdx_nil, List.nil_append, List.getElem_cons_zero] at this
    rw [rs_a2, if_neg (by omega), rs_a2, if_pos ⟨rfl, by omega⟩, rs_a2, if_neg (by omega), rs_a2, if_neg (by omega), rs_a2, if_neg (by omega)]
    exact ⟨this.1, rfl, this.2.2.1, this.2.2.2.1, this.2.2.2.2⟩
  · funext x
    rw [rs_a2, if_neg (by omega), a4 o ho, rs_a2, if_neg (by omega)]
  · rw [rs_a2, if_neg (by omega), a5 o x hx ho, rs_a2, if_neg (fun h => ho h.1)]
  · rw [rs_a2, if_neg (by omega), a6 x hx, rs_a2, if_neg (fun h => hx h.2)]
