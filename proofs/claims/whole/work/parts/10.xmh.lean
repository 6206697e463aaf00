/-! LIFTING over the pure heap: costs, throws, calls -/
theorem l_nk {x y : Int32} {k : Int} (h : ¬ x = y) (hy : y.toInt = k) : ¬ x.toInt = k := fun e => h (Int32.toInt_inj.mp (e.trans hy.symm))
def tkA {α : Type} (c n : Nat) (r : Option (α × Nat × Nat)) : Option (α × Nat × Nat) := match r with
  | none => none
  | some p => some (p.1, p.2.1 + c, p.2.2 + n)
def calA {α β : Type} (r : Option (α × Nat × Nat)) (k : α → Option (β × Nat × Nat)) : Option (β × Nat × Nat) := match r with
  | none => none
  | some p => tkA p.2.1 p.2.2 (k p.1)
def calAI {α σ β : Type} (r : Option ((α × σ) × Nat × Nat)) (k : α → σ → Option (β × Nat × Nat)) : Option (β × Nat × Nat) := match r with
  | none => none
  | some p => tkA p.2.1 p.2.2 (k p.1.1 p.1.2)
/-- a call that may throw, in a method that lets it through -/
def calT (r : Option (Bool × Int32 × mh_H)) (k : Int32 → mh_H → Option (Bool × Int32 × mh_H)) : Option (Bool × Int32 × mh_H) := match r with
  | none => none
  | some p => match p.1 with
    | true => some (true, 0, p.2.2)
    | false => k p.2.1 p.2.2
theorem l_tkA {α : Type} {c n : Nat} {r : Option (α × Nat × Nat)} {z : α × Nat × Nat} (h : tkA c n r = some z) : ∃ a x y, r = some (a, x, y) ∧ z = (a, x + c, y + n) := by
  cases r with
  | none => cases h
  | some p => exact ⟨p.1, p.2.1, p.2.2, rfl, (Option.some.inj h).symm⟩
theorem l_calA {α β : Type} {r : Option (α × Nat × Nat)} {k : α → Option (β × Nat × Nat)} {z : β × Nat × Nat} (h : calA r k = some z) : ∃ a c n, r = some (a, c, n) ∧ ∃ b x y, k a = some (b, x, y) ∧ z = (b, x + c, y + n) := by
  cases r with
  | none => cases h
  | some p => exact ⟨p.1, p.2.1, p.2.2, rfl, l_tkA h⟩
theorem l_calAI {α σ β : Type} {r : Option ((α × σ) × Nat × Nat)} {k : α → σ → Option (β × Nat × Nat)} {z : β × Nat × Nat} (h : calAI r k = some z) : ∃ v s c n, r = some ((v, s), c, n) ∧ ∃ b x y, k v s = some (b, x, y) ∧ z = (b, x + c, y + n) := by
  cases r with
  | none => cases h
  | some p => exact ⟨p.1.1, p.1.2, p.2.1, p.2.2, rfl, l_tkA h⟩
theorem l_calT {r : Option (Bool × Int32 × mh_H)} {k : Int32 → mh_H → Option (Bool × Int32 × mh_H)} {z : Bool × Int32 × mh_H} (h : calT r k = some z) : (∃ v s, r = some (false, v, s) ∧ k v s = some z) ∨ (∃ v s, r = some (true, v, s) ∧ z = (true, 0, s)) := by
  cases r with
  | none => cases h
  | some p =>
    obtain ⟨b, v, s⟩ := p
    cases b with
    | false => exact Or.inl ⟨v, s, rfl, h⟩
    | true => exact Or.inr ⟨v, s, rfl, (Option.some.inj h).symm⟩
abbrev pcI (r : Bool × Int32 × mh_H) : Outcome → mh_H → Prop := fun oc τ => τ = r.2.2 ∧ oc = cond r.1 (.threw (hX r.2.2 - 1)) (.returned (some (.int r.2.1)))
abbrev pcV (r : Bool × Int32 × mh_H) : Outcome → mh_H → Prop := fun oc τ => τ = r.2.2 ∧ oc = cond r.1 (.threw (hX r.2.2 - 1)) (.returned none)
def pkV0 (g : mv_G) (M : mv_M) (F Lw : Nat) (f : Nat → mh_H → Option (Bool × Int32 × mh_H)) : Prop := ∀ (a : Nat) (σ : mh_H) (r : Bool × Int32 × mh_H), f a σ = some r → mv_Met g M F Lw 0 0 [.ref a] σ (pcV r)
def pkV1 (g : mv_G) (M : mv_M) (F Lw : Nat) (f : Nat → Int32 → mh_H → Option (Bool × Int32 × mh_H)) : Prop := ∀ (a : Nat) (x : Int32) (σ : mh_H) (r : Bool × Int32 × mh_H), f a x σ = some r → mv_Met g M F Lw 0 0 [.ref a, .int x] σ (pcV r)
def pkI1 (g : mv_G) (M : mv_M) (F Lw : Nat) (f : Nat → Int32 → mh_H → Option (Bool × Int32 × mh_H)) : Prop := ∀ (a : Nat) (x : Int32) (σ : mh_H) (r : Bool × Int32 × mh_H), f a x σ = some r → mv_Met g M F Lw 0 0 [.ref a, .int x] σ (pcI r)
def pkV3 (g : mv_G) (M : mv_M) (F Lw : Nat) (f : Nat → Int32 → Int32 → Int32 → mh_H → Option (Bool × Int32 × mh_H)) : Prop := ∀ (a : Nat) (x y z : Int32) (σ : mh_H) (r : Bool × Int32 × mh_H), f a x y z σ = some r → mv_Met g M F Lw 0 0 [.ref a, .int x, .int y, .int z] σ (pcV r)
/-- a call that may throw, in a method that catches -/
def calC {β : Type} (r : Option (Bool × Int32 × mh_H)) (k : Int32 → mh_H → Option β) (kh : mh_H → Option β) : Option β := match r with
  | none => none
  | some p => match p.1 with
    | true => kh p.2.2
    | false => k p.2.1 p.2.2
theorem l_calC {β : Type} {r : Option (Bool × Int32 × mh_H)} {k : Int32 → mh_H → Option β} {kh : mh_H → Option β} {z : β} (h : calC r k kh = some z) : (∃ v s, r = some (false, v, s) ∧ k v s = some z) ∨ (∃ v s, r = some (true, v, s) ∧ kh s = some z) := by
  cases r with
  | none => cases h
  | some p =>
    obtain ⟨b, v, s⟩ := p
    cases b with
    | false => exact Or.inl ⟨v, s, rfl, h⟩
    | true => exact Or.inr ⟨v, s, rfl, h⟩
theorem wp_inst : (Cond.instanceMethod ⟨"ProgramReader$Parser", "parse", "()I"⟩) ∈ mk_T := mk_i2 185 rfl rfl
theorem wp_sel : (Cond.selects "ProgramReader$Parser" ⟨"ProgramReader$Parser", "parse", "()I"⟩ ⟨"ProgramReader$Parser", "parse", "()I"⟩) ∈ mk_T := mk_i2 186 rfl rfl
theorem C_PR_89 : mv_CVH "ProgramReader" 89 M_PA_parse 0 := ⟨⟨w_427, w_5, ⟨by decide, by decide⟩, by decide +kernel⟩, wp_inst, wp_sel, Or.inl w_424⟩
def f_PA_refuse (N : Nat) (a : Nat) (σ : mh_H) : Option (Bool × Int32 × mh_H) := some (true, 0, mh_new σ 9)
theorem c_PA_refuse {g : mv_G} {N : Nat} (hl : (mg_l g).stackTraces = false) {a : Nat} {σ : mh_H} {r : Bool × Int32 × mh_H} (h : f_PA_refuse N a σ = some r) : mv_Met g M_PA_refuse 6 100 0 0 [.ref a] σ (pcV r) := by
  cases h
  have h0 := c0_PA_refuse (g := g) (σ := σ) (p := a) hl
  have e : (fun oc τ => oc = Outcome.threw (hX σ) ∧ τ = mh_new σ 9) = pcV (true, 0, mh_new σ 9) := by
    funext oc τ
    exact propext ⟨fun h => ⟨h.2, h.1⟩, fun h => ⟨h.2, h.1⟩⟩
  rw [← e]
  exact h0
section XMH
variable {g : mv_G} {M My : mv_M} {F Lw cb sb pc n idx F' Lw' b kc c1 n1 : Nat} {L L' : List (Option Value)} {st st' : List Value} {σ s1 : mh_H} {Q : Outcome → mh_H → Prop}
theorem mh_callI {v : Int32} (kc : Nat) (As : List Value) (hd : decode M.2.1 pc = .ok (.invokevirtual idx, 3)) (hw : mv_CV M.1.cls idx My n) (hM : mv_Met g My F' Lw' 0 0 (.ref b :: As) σ (fun oc τ => τ = s1 ∧ oc = .returned (some (.int v)))) (hb : hT σ b = 2 * kc + 1)
    (hk : (mk_cl[kc]?).map (fun r => r.1) = some My.1.cls) (hn : As.length = n) (hst : st' = As.reverse ++ .ref b :: st) (hcat : (st.map fun v => v.category).sum ≤ 8) (hF : F' + 1 ≤ F) (hLw : 8 + (My.2.2.1 + 11) + Lw' ≤ Lw)
    (kk : mv_V g M F Lw cb sb (pc + 3) L (.int v :: st) s1 Q) : mv_V g M F Lw cb sb pc L st' σ Q :=
  vr_callV As hd hw hM hk hb hn hst hcat hF hLw (Nat.zero_le _) (Nat.zero_le _) (fun w τ hq => by obtain ⟨rfl, hv⟩ := hq; cases hv; exact kk) (fun x τ hq => by obtain ⟨_, hv⟩ := hq; cases hv)
theorem mh_callU (kc : Nat) (As : List Value) (hd : decode M.2.1 pc = .ok (.invokevirtual idx, 3)) (hw : mv_CV M.1.cls idx My n) (hM : mv_Met g My F' Lw' 0 0 (.ref b :: As) σ (fun oc τ => τ = s1 ∧ oc = .returned none)) (hb : hT σ b = 2 * kc + 1)
    (hk : (mk_cl[kc]?).map (fun r => r.1) = some My.1.cls) (hn : As.length = n) (hst : st' = As.reverse ++ .ref b :: st) (hcat : (st.map fun v => v.category).sum ≤ 8) (hF : F' + 1 ≤ F) (hLw : 8 + (My.2.2.1 + 11) + Lw' ≤ Lw)
    (kk : mv_V g M F Lw cb sb (pc + 3) L st s1 Q) : mv_V g M F Lw cb sb pc L st' σ Q :=
  vr_callV As hd hw hM hk hb hn hst hcat hF hLw (Nat.zero_le _) (Nat.zero_le _) (fun w τ hq => by obtain ⟨rfl, hv⟩ := hq; cases hv; exact kk) (fun x τ hq => by obtain ⟨_, hv⟩ := hq; cases hv)
theorem mh_callT {v : Nat} (kc : Nat) (As : List Value) (hd : decode M.2.1 pc = .ok (.invokevirtual idx, 3)) (hw : mv_CV M.1.cls idx My n) (hM : mv_Met g My F' Lw' 0 0 (.ref b :: As) σ (fun oc τ => τ = s1 ∧ oc = .returned (some (.ref (mg_K g v))))) (hb : hT σ b = 2 * kc + 1)
    (hk : (mk_cl[kc]?).map (fun r => r.1) = some My.1.cls) (hn : As.length = n) (hst : st' = As.reverse ++ .ref b :: st) (hcat : (st.map fun v => v.category).sum ≤ 8) (hF : F' + 1 ≤ F) (hLw : 8 + (My.2.2.1 + 11) + Lw' ≤ Lw)
    (kk : mv_V g M F Lw cb sb (pc + 3) L (.ref (mg_K g v) :: st) s1 Q) : mv_V g M F Lw cb sb pc L st' σ Q :=
  vr_callV As hd hw hM hk hb hn hst hcat hF hLw (Nat.zero_le _) (Nat.zero_le _) (fun w τ hq => by obtain ⟨rfl, hv⟩ := hq; cases hv; exact kk) (fun x τ hq => by obtain ⟨_, hv⟩ := hq; cases hv)
theorem mh_callSU (As : List Value) (hd : decode M.2.1 pc = .ok (.invokestatic idx, 3)) (hw : mv_CS M.1.cls idx My n) (hM : mv_Met g My F' Lw' 0 0 As σ (fun oc τ => τ = s1 ∧ oc = .returned none))
    (hn : As.length = n) (hst : st' = As.reverse ++ st) (hcat : (st.map fun v => v.category).sum ≤ 8) (hF : F' + 1 ≤ F) (hLw : 8 + (My.2.2.1 + 11) + Lw' ≤ Lw)
    (kk : mv_V g M F Lw cb sb (pc + 3) L st s1 Q) : mv_V g M F Lw cb sb pc L st' σ Q :=
  vr_callS As hd hw hM hn hst hcat hF hLw (Nat.zero_le _) (Nat.zero_le _) (fun w τ hq => by obtain ⟨rfl, hv⟩ := hq; cases hv; exact kk) (fun x τ hq => by obtain ⟨_, hv⟩ := hq; cases hv)
theorem vr_callSPJ {v : Int64} (As : List Value) (hd : decode M.2.1 pc = .ok (.invokestatic idx, 3)) (hw : mv_CS M.1.cls idx My n) (hM : mv_Met g My F' Lw' 0 0 As σ (fun oc τ => τ = σ ∧ oc = .returned (some (.long v))))
    (hn : As.length = n) (hst : st' = As.reverse ++ st) (hcat : (st.map fun v => v.category).sum ≤ 8) (hF : F' + 1 ≤ F) (hLw : 8 + (My.2.2.1 + 11) + Lw' ≤ Lw)
    (kk : mv_V g M F Lw cb sb (pc + 3) L (.long v :: st) σ Q) : mv_V g M F Lw cb sb pc L st' σ Q :=
  vr_callS As hd hw hM hn hst hcat hF hLw (Nat.zero_le _) (Nat.zero_le _) (fun w τ hq => by obtain ⟨rfl, hv⟩ := hq; cases hv; exact kk) (fun x τ hq => by obtain ⟨_, hv⟩ := hq; cases hv)
theorem mh_callIa {v : Int32} (kc : Nat) (As : List Value) (hd : decode M.2.1 pc = .ok (.invokevirtual idx, 3)) (hw : mv_CV M.1.cls idx My n) (hM : mv_Met g My F' Lw' c1 n1 (.ref b :: As) σ (fun oc τ => τ = s1 ∧ oc = .returned (some (.int v)))) (hb : hT σ b = 2 * kc + 1)
    (hk : (mk_cl[kc]?).map (fun r => r.1) = some My.1.cls) (hn : As.length = n) (hst : st' = As.reverse ++ .ref b :: st) (hcat : (st.map fun v => v.category).sum ≤ 8) (hF : F' + 1 ≤ F) (hLw : 8 + (My.2.2.1 + 11) + Lw' ≤ Lw) (hc : c1 ≤ cb) (hs : n1 ≤ sb)
    (kk : mv_V g M F Lw (cb - c1) (sb - n1) (pc + 3) L (.int v :: st) s1 Q) : mv_V g M F Lw cb sb pc L st' σ Q :=
  vr_callV As hd hw hM hk hb hn hst hcat hF hLw hc hs (fun w τ hq => by obtain ⟨rfl, hv⟩ := hq; cases hv; exact kk) (fun x τ hq => by obtain ⟨_, hv⟩ := hq; cases hv)
theorem mh_callIaH {v : Int32} (kc : Nat) (As : List Value) (hd : decode M.2.1 pc = .ok (.invokevirtual idx, 3)) (hw : mv_CVH M.1.cls idx My n) (hM : mv_MetH g My F' Lw' c1 n1 (.ref b :: As) σ (fun oc τ => τ = s1 ∧ oc = .returned (some (.int v)))) (hb : hT σ b = 2 * kc + 1)
    (hk : (mk_cl[kc]?).map (fun r => r.1) = some My.1.cls) (hn : As.length = n) (hst : st' = As.reverse ++ .ref b :: st) (hcat : (st.map fun v => v.category).sum ≤ 8) (hF : F' + 1 ≤ F) (hLw : 8 + (My.2.2.1 + 11) + Lw' ≤ Lw) (hc : c1 ≤ cb) (hs : n1 ≤ sb)
    (kk : mv_V g M F Lw (cb - c1) (sb - n1) (pc + 3) L (.int v :: st) s1 Q) : mv_V g M F Lw cb sb pc L st' σ Q :=
  vr_callVH As hd hw hM hk hb hn hst hcat hF hLw hc hs (fun w τ hq => by obtain ⟨rfl, hv⟩ := hq; cases hv; exact kk) (fun x τ hq => by obtain ⟨_, hv⟩ := hq; cases hv)
theorem mh_callUa (kc : Nat) (As : List Value) (hd : decode M.2.1 pc = .ok (.invokevirtual idx, 3)) (hw : mv_CV M.1.cls idx My n) (hM : mv_Met g My F' Lw' c1 n1 (.ref b :: As) σ (fun oc τ => τ = s1 ∧ oc = .returned none)) (hb : hT σ b = 2 * kc + 1)
    (hk : (mk_cl[kc]?).map (fun r => r.1) = some My.1.cls) (hn : As.length = n) (hst : st' = As.reverse ++ .ref b :: st) (hcat : (st.map fun v => v.category).sum ≤ 8) (hF : F' + 1 ≤ F) (hLw : 8 + (My.2.2.1 + 11) + Lw' ≤ Lw) (hc : c1 ≤ cb) (hs : n1 ≤ sb)
    (kk : mv_V g M F Lw (cb - c1) (sb - n1) (pc + 3) L st s1 Q) : mv_V g M F Lw cb sb pc L st' σ Q :=
  vr_callV As hd hw hM hk hb hn hst hcat hF hLw hc hs (fun w τ hq => by obtain ⟨rfl, hv⟩ := hq; cases hv; exact kk) (fun x τ hq => by obtain ⟨_, hv⟩ := hq; cases hv)
theorem mh_callN (As : List Value) (hd : decode M.2.1 pc = .ok (.invokespecial idx, 3)) (hw : mv_CI M.1.cls idx My n) (hM : mv_Met g My F' Lw' c1 n1 (.ref b :: As) σ (fun oc τ => τ = s1 ∧ oc = .returned none))
    (hn : As.length = n) (hst : st' = As.reverse ++ .ref b :: st) (hcat : (st.map fun v => v.category).sum ≤ 8) (hF : F' + 1 ≤ F) (hLw : 8 + (My.2.2.1 + 11) + Lw' ≤ Lw) (hc : c1 ≤ cb) (hs : n1 ≤ sb)
    (kk : mv_V g M F Lw (cb - c1) (sb - n1) (pc + 3) L st s1 Q) : mv_V g M F Lw cb sb pc L st' σ Q :=
  vr_callI As hd hw hM hn hst hcat hF hLw hc hs (fun w τ hq => by obtain ⟨rfl, hv⟩ := hq; cases hv; exact kk) (fun x τ hq => by obtain ⟨_, hv⟩ := hq; cases hv)
theorem mh_callSAa {v : Nat} (As : List Value) (hd : decode M.2.1 pc = .ok (.invokestatic idx, 3)) (hw : mv_CS M.1.cls idx My n) (hM : mv_Met g My F' Lw' c1 n1 As σ (fun oc τ => τ = s1 ∧ oc = .returned (some (.ref v))))
    (hn : As.length = n) (hst : st' = As.reverse ++ st) (hcat : (st.map fun v => v.category).sum ≤ 8) (hF : F' + 1 ≤ F) (hLw : 8 + (My.2.2.1 + 11) + Lw' ≤ Lw) (hc : c1 ≤ cb) (hs : n1 ≤ sb)
    (kk : mv_V g M F Lw (cb - c1) (sb - n1) (pc + 3) L (.ref v :: st) s1 Q) : mv_V g M F Lw cb sb pc L st' σ Q :=
  vr_callS As hd hw hM hn hst hcat hF hLw hc hs (fun w τ hq => by obtain ⟨rfl, hv⟩ := hq; cases hv; exact kk) (fun x τ hq => by obtain ⟨_, hv⟩ := hq; cases hv)
/-- a call that threw, in a method without handlers -/
theorem mh_threw {Qy : Outcome → mh_H → Prop} {x : Nat} (kc : Nat) (As : List Value) (hd : decode M.2.1 pc = .ok (.invokevirtual idx, 3)) (hw : mv_CV M.1.cls idx My n) (hM : mv_Met g My F' Lw' 0 0 (.ref b :: As) σ (fun oc τ => τ = s1 ∧ oc = .threw x)) (hb : hT σ b = 2 * kc + 1)
    (hk : (mk_cl[kc]?).map (fun r => r.1) = some My.1.cls) (hn : As.length = n) (hst : st' = As.reverse ++ .ref b :: st) (hcat : (st.map fun v => v.category).sum ≤ 8) (hF : F' + 1 ≤ F) (hLw : 8 + (My.2.2.1 + 11) + Lw' ≤ Lw) (hh : M.2.2.2.2 = [])
    (hq : Q (.threw x) s1) : mv_V g M F Lw cb sb pc L st' σ Q :=
  vr_callV As hd hw hM hk hb hn hst hcat hF hLw (Nat.zero_le _) (Nat.zero_le _) (fun w τ hq => by obtain ⟨_, hv⟩ := hq; cases hv) (fun y τ h => by obtain ⟨rfl, hv⟩ := h; cases hv; exact mv_T.out hh hq)
theorem mh_thrown {x : Nat} (kc : Nat) (As : List Value) (hd : decode M.2.1 pc = .ok (.invokevirtual idx, 3)) (hw : mv_CV M.1.cls idx My n) (hM : mv_Met g My F' Lw' 0 0 (.ref b :: As) σ (fun oc τ => τ = s1 ∧ oc = .threw x)) (hb : hT σ b = 2 * kc + 1)
    (hk : (mk_cl[kc]?).map (fun r => r.1) = some My.1.cls) (hn : As.length = n) (hst : st' = As.reverse ++ .ref b :: st) (hcat : (st.map fun v => v.category).sum ≤ 8) (hF : F' + 1 ≤ F) (hLw : 8 + (My.2.2.1 + 11) + Lw' ≤ Lw)
    (kk : mv_T g M F Lw cb sb pc L st s1 x Q) : mv_V g M F Lw cb sb pc L st' σ Q :=
  vr_callV As hd hw hM hk hb hn hst hcat hF hLw (Nat.zero_le _) (Nat.zero_le _) (fun w τ hq => by obtain ⟨_, hv⟩ := hq; cases hv) (fun y τ h => by obtain ⟨rfl, hv⟩ := h; cases hv; exact kk)
theorem vr_lret {v : Int64} {ty : FieldType} (hd : decode M.2.1 pc = .ok (.lreturn, 1)) (hret : M.2.2.2.1 = some ty) (hty : ty = .long) (hq : Q (.returned (some (.long v))) σ) : mv_V g M F Lw cb sb pc L [.long v] σ Q := by
  intro p e R s m args below meth c H locs cells slots ls Kc Ks C hF hL hk1 hk2 h1 h2 h3 h4 h5
  obtain ⟨hx, hb, hml, hown, hts, hr, hlk, hnm, hex, hK, hbs⟩ := id C
  subst hty
  refine W.widen (k := Kc) (n := Ks) (by omega) (by omega) ?_
  exact tk_ret (W.lret hx hb (hr.trans hret) (fun t ht _ => ⟨σ, hq, by rw [ht]; exact h3⟩) h4 hd hlk)
theorem mh_newI {x : Int32} (hd : decode M.2.1 pc = .ok (.newarray .int, 2)) (hn : ¬ x < 0 ∧ x.toNatClampNeg ≤ 100000) (hcb : 1 ≤ cb) (hsb : x.toNatClampNeg ≤ sb)
    (kk : mv_V g M F Lw (cb - 1) (sb - x.toNatClampNeg) (pc + 2) L (.ref (hX σ) :: st) (mh_arr σ 0 x.toNatClampNeg) Q) : mv_V g M F Lw cb sb pc L (.int x :: st) σ Q :=
  vr_newa (t := 0) (n := x.toNatClampNeg) hd rfl w_82 rfl rfl rfl (fun _ _ h => h) hn.1 rfl (by have := hn.2; show x.toNatClampNeg * 4 ≤ 536870912; omega) hcb hsb kk
theorem mh_newB {x : Int32} (hd : decode M.2.1 pc = .ok (.newarray .byte, 2)) (hn : ¬ x < 0 ∧ x.toNatClampNeg ≤ 100000) (hcb : 1 ≤ cb) (hsb : x.toNatClampNeg ≤ sb)
    (kk : mv_V g M F Lw (cb - 1) (sb - x.toNatClampNeg) (pc + 2) L (.ref (hX σ) :: st) (mh_arr σ 1 x.toNatClampNeg) Q) : mv_V g M F Lw cb sb pc L (.int x :: st) σ Q :=
  vr_newa (t := 1) (n := x.toNatClampNeg) hd rfl w_54 rfl rfl rfl (fun _ _ h => h) hn.1 rfl (by have := hn.2; show x.toNatClampNeg * 1 ≤ 536870912; omega) hcb hsb kk
theorem vr_nmS {s : mh_H} (e : s = σ) (k : mv_V g M F Lw cb sb pc L st s Q) : mv_V g M F Lw cb sb pc L st σ Q := by rw [← e]; exact k
theorem vr_nmA {a b : Nat} (e : a = b) (k : mv_V g M F Lw cb sb pc L (.ref a :: st) σ Q) : mv_V g M F Lw cb sb pc L (.ref b :: st) σ Q := by rw [← e]; exact k
end XMH
theorem df_0 : ∀ j, j < 4 → defaultValue (mk_fty 0 j) = mv_val (mk_fty 0 j) 0 none := by
  intro j hj
  match j, hj with
  | 0, _ => rfl
  | 1, _ => rfl
  | 2, _ => rfl
  | 3, _ => rfl
  | j + 4, h => exact absurd h (by omega)
theorem df_1 : ∀ j, j < 5 → defaultValue (mk_fty 1 j) = mv_val (mk_fty 1 j) 0 none := by
  intro j hj
  match j, hj with
  | 0, _ => rfl
  | 1, _ => rfl
  | 2, _ => rfl
  | 3, _ => rfl
  | 4, _ => rfl
  | j + 5, h => exact absurd h (by omega)
theorem df_2 : ∀ j, j < 5 → defaultValue (mk_fty 2 j) = mv_val (mk_fty 2 j) 0 none := by
  intro j hj
  match j, hj with
  | 0, _ => rfl
  | 1, _ => rfl
  | 2, _ => rfl
  | 3, _ => rfl
  | 4, _ => rfl
  | j + 5, h => exact absurd h (by omega)
theorem df_3 : ∀ j, j < 3 → defaultValue (mk_fty 3 j) = mv_val (mk_fty 3 j) 0 none := by
  intro j hj
  match j, hj with
  | 0, _ => rfl
  | 1, _ => rfl
  | 2, _ => rfl
  | j + 3, h => exact absurd h (by omega)
theorem df_4 : ∀ j, j < 6 → defaultValue (mk_fty 4 j) = mv_val (mk_fty 4 j) 0 none := by
  intro j hj
  match j, hj with
  | 0, _ => rfl
  | 1, _ => rfl
  | 2, _ => rfl
  | 3, _ => rfl
  | 4, _ => rfl
  | 5, _ => rfl
  | j + 6, h => exact absurd h (by omega)
theorem df_5 : ∀ j, j < 8 → defaultValue (mk_fty 5 j) = mv_val (mk_fty 5 j) 0 none := by
  intro j hj
  match j, hj with
  | 0, _ => rfl
  | 1, _ => rfl
  | 2, _ => rfl
  | 3, _ => rfl
  | 4, _ => rfl
  | 5, _ => rfl
  | 6, _ => rfl
  | 7, _ => rfl
  | j + 8, h => exact absurd h (by omega)
theorem df_6 : ∀ j, j < 3 → defaultValue (mk_fty 6 j) = mv_val (mk_fty 6 j) 0 none := by
  intro j hj
  match j, hj with
  | 0, _ => rfl
  | 1, _ => rfl
  | 2, _ => rfl
  | j + 3, h => exact absurd h (by omega)
theorem df_7 : ∀ j, j < 9 → defaultValue (mk_fty 7 j) = mv_val (mk_fty 7 j) 0 none := by
  intro j hj
  match j, hj with
  | 0, _ => rfl
  | 1, _ => rfl
  | 2, _ => rfl
  | 3, _ => rfl
  | 4, _ => rfl
  | 5, _ => rfl
  | 6, _ => rfl
  | 7, _ => rfl
  | 8, _ => rfl
  | j + 9, h => exact absurd h (by omega)
theorem df_8 : ∀ j, j < 32 → defaultValue (mk_fty 8 j) = mv_val (mk_fty 8 j) 0 none := by
  intro j hj
  match j, hj with
  | 0, _ => rfl
  | 1, _ => rfl
  | 2, _ => rfl
  | 3, _ => rfl
  | 4, _ => rfl
  | 5, _ => rfl
  | 6, _ => rfl
  | 7, _ => rfl
  | 8, _ => rfl
  | 9, _ => rfl
  | 10, _ => rfl
  | 11, _ => rfl
  | 12, _ => rfl
  | 13, _ => rfl
  | 14, _ => rfl
  | 15, _ => rfl
  | 16, _ => rfl
  | 17, _ => rfl
  | 18, _ => rfl
  | 19, _ => rfl
  | 20, _ => rfl
  | 21, _ => rfl
  | 22, _ => rfl
  | 23, _ => rfl
  | 24, _ => rfl
  | 25, _ => rfl
  | 26, _ => rfl
  | 27, _ => rfl
  | 28, _ => rfl
  | 29, _ => rfl
  | 30, _ => rfl
  | 31, _ => rfl
  | j + 32, h => exact absurd h (by omega)

