/-! LIFTING: a pure function for each method; it answers none where the machine would throw by itself, or its fuel runs out -/
abbrev ib (i : Int32) (n : Nat) : Prop := ¬ i < 0 ∧ i.toNatClampNeg < n
theorem ib_in {i : Int32} {n : Nat} (h : ib i n) : vp_in i n := fun z => z.elim h.1 (fun q => absurd h.2 (Nat.not_lt.mpr q))
def bnd {α β : Type} (x : α) (f : α → β) : β := f x
def chk {α : Type} (c : Prop) [Decidable c] (r : Option α) : Option α := if c then r else none
def calI {α σ β : Type} (r : Option (α × σ)) (k : α → σ → Option β) : Option β := match r with
  | none => none
  | some p => k p.1 p.2
def calV {σ β : Type} (r : Option σ) (k : σ → Option β) : Option β := match r with
  | none => none
  | some p => k p
def calP {α β : Type} (r : Option α) (k : α → Option β) : Option β := match r with
  | none => none
  | some p => k p
def rfO {β : Type} (r : Option Nat) (k : Nat → Option β) : Option β := match r with
  | none => none
  | some p => k p
theorem l_bnd {α β : Type} {x : α} {f : α → β} {r : β} (h : bnd x f = r) : ∃ y, y = x ∧ f y = r := ⟨x, rfl, h⟩
theorem l_chk {α : Type} {c : Prop} [Decidable c] {r : Option α} {z : α} (h : chk c r = some z) : c ∧ r = some z := by
  unfold chk at h
  split at h
  · exact ⟨‹c›, h⟩
  · cases h
theorem l_calI {α σ β : Type} {r : Option (α × σ)} {k : α → σ → Option β} {z : β} (h : calI r k = some z) : ∃ v s, r = some (v, s) ∧ k v s = some z := by
  cases r with
  | none => cases h
  | some p => exact ⟨p.1, p.2, rfl, h⟩
theorem l_calV {σ β : Type} {r : Option σ} {k : σ → Option β} {z : β} (h : calV r k = some z) : ∃ v, r = some v ∧ k v = some z := by
  cases r with
  | none => cases h
  | some p => exact ⟨p, rfl, h⟩
theorem l_calP {α β : Type} {r : Option α} {k : α → Option β} {z : β} (h : calP r k = some z) : ∃ v, r = some v ∧ k v = some z := by
  cases r with
  | none => cases h
  | some p => exact ⟨p, rfl, h⟩
theorem l_rf {β : Type} {r : Option Nat} {k : Nat → Option β} {z : β} (h : rfO r k = some z) : ∃ v, r = some v ∧ k v = some z := by
  cases r with
  | none => cases h
  | some p => exact ⟨p, rfl, h⟩
theorem l_ifp {α : Type} {c : Prop} [Decidable c] {a b r : α} (hc : c) (h : (if c then a else b) = r) : a = r := by rw [if_pos hc] at h; exact h
theorem l_ifn {α : Type} {c : Prop} [Decidable c] {a b r : α} (hc : ¬ c) (h : (if c then a else b) = r) : b = r := by rw [if_neg hc] at h; exact h
theorem l_ne {x y : Int32} (h : ¬ x = y) : ¬ x.toInt = y.toInt := fun e => h (Int32.toInt_inj.mp e)
theorem l_narZ {v : Int32} (h : v = 0 ∨ v = 1) : narrow .boolean (.int v) = .int v := by rcases h with rfl | rfl <;> rfl
theorem l_fitZ {v : Int32} (h : v = 0 ∨ v = 1) : fits .boolean (.int v) = true := by rcases h with rfl | rfl <;> rfl
/-- less is known of the locals -/
def mv_le : List (Option Value) → List (Option Value) → Prop
  | [], _ => True
  | none :: l, _ :: l' => mv_le l l'
  | none :: l, [] => False
  | some v :: l, w :: l' => w = some v ∧ mv_le l l'
  | some _ :: _, [] => False
theorem mv_le_at : ∀ {l l' : List (Option Value)} (_ : mv_le l l') {j : Nat} {v : Value}, l[j]? = some (some v) → l'[j]? = some (some v)
  | [], _, _, _, _, h => by simp at h
  | none :: l, _ :: l', hl, 0, v, h => by simp at h
  | none :: l, _ :: l', hl, j + 1, v, h => by simpa using mv_le_at (l := l) (l' := l') hl (by simpa using h)
  | none :: l, [], hl, _, _, _ => hl.elim
  | some v :: l, w :: l', hl, 0, u, h => by
    have h1 : v = u := by simpa using h
    have h2 : w = some v := hl.1
    simp [h2, h1]
  | some v :: l, w :: l', hl, j + 1, u, h => by simpa using mv_le_at (l := l) (l' := l') hl.2 (by simpa using h)
  | some _ :: _, [], hl, _, _, _ => hl.elim
section LFT
variable {g : mv_G} {M My : mv_M} {F Lw cb sb pc n idx F' Lw' : Nat} {L L' : List (Option Value)} {st st' : List Value} {σ : mh_H} {Q : Outcome → mh_H → Prop}
theorem mv_drop (k : mv_V g M F Lw cb sb pc L' st σ Q) (hl : mv_le L' L) : mv_V g M F Lw cb sb pc L st σ Q := by
  intro p e R s m args below meth c H locs cells slots ls Kc Ks C hF hL hk1 hk2 h1 h2 h3 h4 h5
  refine k p e R s m args below meth c H locs cells slots ls Kc Ks C hF hL hk1 hk2 h1 h2 h3 h4 (mv_lsub h5 ?_)
  intro q hq
  obtain ⟨j, e1, e2⟩ := (mv_prs_mem L' 0 q).mp hq
  exact (mv_prs_mem L 0 q).mpr ⟨j, e1, mv_le_at hl e2⟩
theorem vr_nm {x v : Int32} (e : v = x) (k : mv_V g M F Lw cb sb pc L (.int v :: st) σ Q) : mv_V g M F Lw cb sb pc L (.int x :: st) σ Q := by rw [← e]; exact k
theorem vr_nmJ {x v : Int64} (e : v = x) (k : mv_V g M F Lw cb sb pc L (.long v :: st) σ Q) : mv_V g M F Lw cb sb pc L (.long x :: st) σ Q := by rw [← e]; exact k
theorem vr_callSP {v : Int32} (As : List Value) (hd : decode M.2.1 pc = .ok (.invokestatic idx, 3)) (hw : mv_CS M.1.cls idx My n) (hM : mv_Met g My F' Lw' 0 0 As σ (fun oc τ => τ = σ ∧ oc = .returned (some (.int v))))
    (hn : As.length = n) (hst : st' = As.reverse ++ st) (hcat : (st.map fun v => v.category).sum ≤ 8) (hF : F' + 1 ≤ F) (hLw : 8 + (My.2.2.1 + 11) + Lw' ≤ Lw)
    (kk : mv_V g M F Lw cb sb (pc + 3) L (.int v :: st) σ Q) : mv_V g M F Lw cb sb pc L st' σ Q :=
  vr_callS As hd hw hM hn hst hcat hF hLw (Nat.zero_le _) (Nat.zero_le _) (fun w τ hq => by obtain ⟨rfl, hv⟩ := hq; cases hv; exact kk) (fun x τ hq => by obtain ⟨_, hv⟩ := hq; cases hv)
theorem vr_callSPT {v : Nat} (As : List Value) (hd : decode M.2.1 pc = .ok (.invokestatic idx, 3)) (hw : mv_CS M.1.cls idx My n) (hM : mv_Met g My F' Lw' 0 0 As σ (fun oc τ => τ = σ ∧ oc = .returned (some (.ref (mg_K g v)))))
    (hn : As.length = n) (hst : st' = As.reverse ++ st) (hcat : (st.map fun v => v.category).sum ≤ 8) (hF : F' + 1 ≤ F) (hLw : 8 + (My.2.2.1 + 11) + Lw' ≤ Lw)
    (kk : mv_V g M F Lw cb sb (pc + 3) L (.ref (mg_K g v) :: st) σ Q) : mv_V g M F Lw cb sb pc L st' σ Q :=
  vr_callS As hd hw hM hn hst hcat hF hLw (Nat.zero_le _) (Nat.zero_le _) (fun w τ hq => by obtain ⟨rfl, hv⟩ := hq; cases hv; exact kk) (fun x τ hq => by obtain ⟨_, hv⟩ := hq; cases hv)
end LFT
