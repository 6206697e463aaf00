/-! ENTRY AND CALLS over the pure heap -/
theorem mk_good : GoodIn mk_T mk_T := fun w hw => ⟨hw, good_of_word (List.mem_filter.mp hw).2⟩
theorem mk_Nw {w : Cond} (hw : w ∈ mk_N) {u U : State} (hW : u.WarmedH U.vm) (h : va_Nw w u) : va_Nw w U := by
  have h1 := (List.mem_filter.mp hw).2
  cases w <;> first | exact va_Nw.warmF hW h | exact va_Nw.warmM hW h | (simp [mk_isN] at h1)
theorem mk_Xw {w : Cond} (hw : w ∈ mk_X) {u U : State} (hW : u.WarmedH U.vm) (h : va_Nw w u) : va_Nw w U := by
  have h1 := (List.mem_filter.mp hw).2
  cases w <;> first | exact va_Nw.warmD hW h | exact va_Nw.warmC hW h | (simp [mk_isX] at h1)
theorem mv_K.warm {g : mv_G} {u U : State} (hW : u.WarmedH U.vm) (h : mv_K g u) : mv_K g U := h.moved hW (fun _ hw z => mk_Nw hw hW z) (fun _ hw z => mk_Xw hw hW z)
theorem mv_K.calling {g : mv_G} {U : State} {f : JFrame} {mk : MethodId} {a : Array Value} (h : mv_K g U) : mv_K g (U.calling f mk a) := h.warm (State.WarmedH.refl U)
theorem mv_blind {g : mv_G} {as : List Value} {σ : mh_H} : FrameBlind (fun v U => v = as.toArray ∧ mv_K g U ∧ mg_b g ≤ U.heap.size ∧ mv_R g σ U.heap) := fun _ _ _ _ h => ⟨h.1, h.2.1.calling, h.2.2.1, h.2.2.2⟩
/-- the machine while x is being thrown out of the call at pc -/
def mv_T (g : mv_G) (M : mv_M) (F Lw cb sb pc : Nat) (L : List (Option Value)) (st : List Value) (σ : mh_H) (x : Nat) (Q : Outcome → mh_H → Prop) : Prop :=
  ∀ (p : Program) (e : Env) (R : Room) (s : State) (m : MethodId) (args : Array Value) (below : List Frame) (meth : Method) (c : Code) (H : Heap) (locs : List Loc) (cells slots : Nat) (ls : Array Slot) (Kc Ks : Nat),
    mv_C g M p s m args meth c → R.frames = F → R.locals = Lw → R.cells = Kc + 1 → R.slots = Ks + 6 → cells + cb ≤ Kc + 1 → slots + sb ≤ Ks + 6 → mv_R g σ H → (∀ q ∈ locs, mg_b g ≤ q.base) → lv_has ls M.2.2.1 (mv_prs 0 L) →
    tk_W p (mg_l g) e R s m args below meth c H locs cells slots (tk_Q below (mv_Qc g Q) args s Kc Ks (fun q => mg_b g ≤ q)) (F0 m pc ls st) x
section MVC
variable {g : mv_G} {M My : mv_M} {F Lw cb sb pc pc' : Nat} {L L' : List (Option Value)} {st st' : List Value} {σ σ' : mh_H} {Q Qy : Outcome → mh_H → Prop} {F' Lw' mc ms n idx b kc : Nat} {As : List Value}
theorem mv_T.out {x : Nat} (hh : M.2.2.2.2 = []) (hq : Q (.threw x) σ) : mv_T g M F Lw cb sb pc L st σ x Q := by
  intro p e R s m args below meth c H locs cells slots ls Kc Ks C hF hL hk1 hk2 h1 h2 h3 h4 h5
  obtain ⟨hx, hb, hml, hown, hts, hr, hlk, hnm, hex, hK, hbs⟩ := id C
  refine tk_widen (k := Kc + 1) (n := Ks + 6) (by omega) (by omega) ?_
  refine tk_out rfl rfl rfl ?_ (fun t ht _ => ⟨σ, hq, by rw [ht]; exact h3⟩) h4 hlk
  rw [hh] at hex
  simpa [tableOf] using hex
theorem mv_entry {as : List Value} (hy : plainName M.1.cls = true) (hh : M.2.2.2.2 = []) (hlen : (lg_sl as).length ≤ M.2.2.1) (hL : lv_args 0 as = mv_prs 0 L) (h : mv_V g M F Lw mc ms 0 L [] σ Q) : mv_Met g M F Lw mc ms as σ Q := by
  refine tk_ofW (cc := M.2.1) (maxL := M.2.2.1) (ret := M.2.2.2.1) hy rfl ?_
  intro p e s m args below meth c s₁ B hml hnh hv
  obtain ⟨rfl, hK, hbs, hR⟩ := hv
  have hts := atoms_spec (ws := Cond.code M.1 M.2.1 M.2.2.1 M.2.2.2.1 :: mk_T) B.pre
  have C : mv_C g M p s m as.toArray meth c := ⟨B.exec, B.bytes, hml, findClass_of_methodNamed B.named, fun w hw => hts w (List.mem_cons_of_mem _ hw), B.returns, B.notSynchronized, (name_of_methodNamed B.named B.method).1, by
    rw [hh]
    have h0 : c.exceptionTable = #[] := by simpa using hnh
    rw [h0]; rfl, hK, hbs, hR.2.2.1⟩
  have hl := lv_entry as (n := M.2.2.1) hlen
  rw [lg_entry_eq]
  rw [hL] at hl
  exact h p e _ s m _ below meth c s.heap [] 0 0 _ mc ms C rfl rfl rfl rfl (by omega) (by omega) hR (fun q hq => by cases hq) hl
/-- what all calls ask of the callee's words -/
def mv_CB (My : mv_M) (n : Nat) : Prop := Cond.code My.1 My.2.1 My.2.2.1 My.2.2.2.1 ∈ mk_T ∧ Cond.initialized My.1.cls ∈ mk_T ∧ (My.1.cls ≠ "java/lang/invoke/MethodHandle" ∧ My.1.cls ≠ "java/lang/invoke/VarHandle") ∧ (parseMethodDescriptor My.1.desc).map (fun d => d.parameters.length) = some n
def mv_CV (own : String) (idx : Nat) (My : mv_M) (n : Nat) : Prop := mv_CB My n ∧ Cond.instanceMethod My.1 ∈ mk_T ∧ Cond.selects My.1.cls My.1 My.1 ∈ mk_T ∧ (Cond.methodLink own idx My.1 ∈ mk_T ∨ ∃ host, Cond.methodLinkNest own idx My.1 host ∈ mk_N)
def mv_CS (own : String) (idx : Nat) (My : mv_M) (n : Nat) : Prop := mv_CB My n ∧ Cond.static My.1 ∈ mk_T ∧ (Cond.methodLink own idx My.1 ∈ mk_T ∨ ∃ host, Cond.methodLinkNest own idx My.1 host ∈ mk_N)
def mv_CI (own : String) (idx : Nat) (My : mv_M) (n : Nat) : Prop := mv_CB My n ∧ Cond.instanceMethod My.1 ∈ mk_T ∧ My.1.name = "<init>" ∧ My.2.2.2.1 = none ∧ (Cond.methodLink own idx My.1 ∈ mk_T ∨ ∃ host, Cond.methodLinkNest own idx My.1 host ∈ mk_N)
/-- behind the invoking instruction -/
theorem mv_after {p : Program} {e : Env} {R : Room} {s : State} {m : MethodId} {args : Array Value} {below : List Frame} {meth : Method} {c : Code} {H : Heap} {locs : List Loc} {cells slots : Nat} {ls : Array Slot} {T : State} {vm₁ : Vm} {mk : MethodId} {ig : Instr} {as st0 : List Value}
    (hM : mv_Met g My F' Lw' mc ms as σ Qy) (hcb : mv_CB My n) (hF : F' + 1 ≤ F) (hLw : 8 + (My.2.2.1 + 11) + Lw' ≤ Lw) (hc : mc ≤ cb) (hs : ms ≤ sb) (hcat : (st.map fun v => v.category).sum ≤ 8)
    (kr : ∀ v σ', Qy (.returned v) σ' → mv_V g M F Lw (cb - mc) (sb - ms) (pc + 3) L (v.toList ++ st) σ' Q) (kt : ∀ x σ', Qy (.threw x) σ' → mv_T g M F Lw (cb - mc) (sb - ms) pc L st σ' x Q)
    {Kc Ks : Nat} (C : mv_C g M p s m args meth c) (hF1 : R.frames = F) (hL1 : R.locals = Lw) (hk1 : R.cells = Kc + 1) (hk2 : R.slots = Ks + 6) (h1 : cells + cb ≤ Kc) (h2 : slots + sb ≤ Ks) (h3 : mv_R g σ H) (h4 : ∀ q ∈ locs, mg_b g ≤ q.base) (h5 : lv_has ls M.2.2.1 (mv_prs 0 L))
    (hT : T.heap = H) (X₁ : Stand p (mg_l g) e R s m args below meth c (T.setVm vm₁) locs cells slots) (hd : decode M.2.1 pc = .ok (ig, 3)) (hn : (T.setVm vm₁).methodNamed? My.1 = some mk)
    (hstep₁ : ∀ target, (∀ acts, Steps p.tables e below (doInvoke e ((T.setVm vm₁).setTop (F0 m pc ls st)) acts mk as.toArray).1 target) → Steps p.tables e below (T.setTop (F0 m pc ls st0)) target) :
    ∃ t, Steps p.tables e below (T.setTop (F0 m pc ls st0)) t ∧ tk_Q below (mv_Qc g Q) args s Kc Ks (fun q => mg_b g ≤ q) t := by
  obtain ⟨hx, hb, hml, hown, hts, hr, hlk, hnm, hex, hK, hbs⟩ := id C
  obtain ⟨hw1, hw2, hw3, hw4⟩ := hcb
  have hX0 : mg_b g ≤ T.heap.size := by rw [hT]; exact h3.2.1
  obtain ⟨st₀, t, T', Ls, g0, g1, g2, g3, hres⟩ := tk_fin (g := F0 m pc ls st0) (rest := st) (bytes := My.2.1) (maxL := My.2.2.1) (ret := My.2.2.2.1) hM mv_blind rfl rfl (by rw [hF1]; exact hF) (by rw [hL1]; exact hLw)
    (pay_in hts (fun w hw => by
      rcases List.mem_cons.mp hw with z | z
      · rw [z]; exact mk_good _ hw1
      · exact mk_good _ z)) List.mem_cons_self (hts _ hw2) hT X₁ rfl (by rw [hml]; exact h5.1) (by rw [hb]; exact hd) (by show 2 * 0 + _ ≤ 8; omega) hn ⟨by omega, by omega⟩
    ⟨rfl, hK.warm X₁.warmed, hX0, by show mv_R g σ T.heap; rw [hT]; exact h3⟩ hstep₁
  have hlocs : ∀ q ∈ locs ++ Ls, mg_b g ≤ q.base := fun q hq => by
    rcases List.mem_append.mp hq with z | z
    · exact h4 q z
    · exact g1 q z
  rcases hres with ⟨v, X', ⟨σ', hq, hR'⟩, hst⟩ | ⟨x, X', ⟨σ', hq, hR'⟩, hst⟩
  · obtain ⟨t2, a1, b1⟩ := kr v σ' hq p e R s m args below meth c T'.heap (locs ++ Ls) (cells + mc) (slots + ms) ls Kc Ks C hF1 hL1 hk1 hk2 (by omega) (by omega) (by rw [g2]; exact hR') hlocs h5 T' rfl X'
    exact ⟨t2, hst t2 a1, b1⟩
  · obtain ⟨t2, a1, b1⟩ := kt x σ' hq p e R s m args below meth c T'.heap (locs ++ Ls) (cells + (mc + 1)) (slots + (ms + 6)) ls Kc Ks C hF1 hL1 hk1 hk2 (by omega) (by omega) (by rw [g2]; exact hR') hlocs h5 T' rfl X'
    exact ⟨t2, hst t2 a1, b1⟩
theorem vr_callV (As : List Value) (hd : decode M.2.1 pc = .ok (.invokevirtual idx, 3)) (hw : mv_CV M.1.cls idx My n) (hM : mv_Met g My F' Lw' mc ms (.ref b :: As) σ Qy) (hkc : (mk_cl[kc]?).map (fun r => r.1) = some My.1.cls) (hb : hT σ b = 2 * kc + 1)
    (hn : As.length = n) (hst : st' = As.reverse ++ .ref b :: st) (hcat : (st.map fun v => v.category).sum ≤ 8) (hF : F' + 1 ≤ F) (hLw : 8 + (My.2.2.1 + 11) + Lw' ≤ Lw) (hc : mc ≤ cb) (hs : ms ≤ sb)
    (kr : ∀ v σ', Qy (.returned v) σ' → mv_V g M F Lw (cb - mc) (sb - ms) (pc + 3) L (v.toList ++ st) σ' Q) (kt : ∀ x σ', Qy (.threw x) σ' → mv_T g M F Lw (cb - mc) (sb - ms) pc L st σ' x Q) : mv_V g M F Lw cb sb pc L st' σ Q := by
  intro p e R s m args below meth c H locs cells slots ls Kc Ks C hF1 hL1 hk1 hk2 h1 h2 h3 h4 h5 T hT X
  obtain ⟨hx, hbc, hml, hown, hts, hr, hlk, hnm, hex, hK, hbs⟩ := id C
  obtain ⟨hcb, hin, hse, hl⟩ := id hw
  obtain ⟨r, hr1, cellB, q1, q2, q3, q4⟩ := h3.2.2.2.2.1 b kc hb
  have hrn : r.1 = My.1.cls := by rw [hr1] at hkc; exact Option.some.inj hkc
  have hclB : s.vm.findClass My.1.cls = some cellB.cls := by rw [q2, ← hrn]; exact (hK.1 kc r hr1).2.1
  obtain ⟨mk, methM, hnamed, hmethM, hstM, habM⟩ := Cond.instanceMethod_spec (hts _ hin)
  obtain ⟨methM', cM, hmethM', -, -, -, -, -, -, hsigM⟩ := Cond.code_spec hnamed (hts _ hcb.1)
  cases hmethM.symm.trans hmethM'
  obtain ⟨c2, r2, m2, p1, p2, p3, p4, kP, hkP, hkPi⟩ := Cond.selects_spec (hts _ hse)
  cases hclB.symm.trans p1
  cases (State.methodFound?_of_named hnamed hcb.2.2.1).symm.trans p2
  cases hnamed.symm.trans p3
  have hselP : selectMethod e.platform s.vm cellB.cls mk = .method mk := by rw [Launch.admits_selectMethod X.admits]; exact p4
  have hd' : decode c.code (F0 m pc ls st').pc = .ok (.invokevirtual idx, 3) := by rw [hbc]; exact hd
  have hlen : As.length = methM.sig.parameters.length := by
    have h9 := hcb.2.2.2
    rw [hsigM] at h9
    exact hn.trans (Option.some.inj h9).symm
  have hob : ∀ z, cellB.vm ≠ .statics z := fun z h => by rw [q3] at h; cases h
  rcases hl with hl | ⟨host, hl⟩
  · obtain ⟨vm₁, X₁, hstep₁⟩ := X.invokevirtual hx hown (hts _ hl) hnamed hmethM hstM hkP hkPi hcb.2.2.1 (a := b) (cell := cellB) (by rw [hT]; exact q1)
      hob hselP hmethM habM hkP hkPi (g := F0 m pc ls st') rfl (argsL := As) (rest := st) hlen hst hd'
    exact mv_after hM hcb hF hLw hc hs hcat kr kt C hF1 hL1 hk1 hk2 h1 h2 h3 h4 h5 hT X₁ hd (X₁.named hnamed) hstep₁
  · obtain ⟨vm₁, X₁, hstep₁⟩ := X.invokevirtualNest hx hown (va_Nw.use (by rfl) (hK.2.2.1 _ hl)) hnamed hmethM hstM hkP hkPi hcb.2.2.1 (a := b) (cell := cellB) (by rw [hT]; exact q1)
      hob hselP hmethM habM hkP hkPi (g := F0 m pc ls st') rfl (argsL := As) (rest := st) hlen hst hd'
    exact mv_after hM hcb hF hLw hc hs hcat kr kt C hF1 hL1 hk1 hk2 h1 h2 h3 h4 h5 hT X₁ hd (X₁.named hnamed) hstep₁
theorem vr_callS (As : List Value) (hd : decode M.2.1 pc = .ok (.invokestatic idx, 3)) (hw : mv_CS M.1.cls idx My n) (hM : mv_Met g My F' Lw' mc ms As σ Qy)
    (hn : As.length = n) (hst : st' = As.reverse ++ st) (hcat : (st.map fun v => v.category).sum ≤ 8) (hF : F' + 1 ≤ F) (hLw : 8 + (My.2.2.1 + 11) + Lw' ≤ Lw) (hc : mc ≤ cb) (hs : ms ≤ sb)
    (kr : ∀ v σ', Qy (.returned v) σ' → mv_V g M F Lw (cb - mc) (sb - ms) (pc + 3) L (v.toList ++ st) σ' Q) (kt : ∀ x σ', Qy (.threw x) σ' → mv_T g M F Lw (cb - mc) (sb - ms) pc L st σ' x Q) : mv_V g M F Lw cb sb pc L st' σ Q := by
  intro p e R s m args below meth c H locs cells slots ls Kc Ks C hF1 hL1 hk1 hk2 h1 h2 h3 h4 h5 T hT X
  obtain ⟨hx, hbc, hml, hown, hts, hr, hlk, hnm, hex, hK, hbs⟩ := id C
  obtain ⟨hcb, hstt, hl⟩ := id hw
  obtain ⟨mk, hnamed⟩ := Cond.code_named (hts _ hcb.1)
  obtain ⟨methM, cM, hmethM, -, -, -, -, -, -, hsigM⟩ := Cond.code_spec hnamed (hts _ hcb.1)
  have hstatic : methM.isStatic = true := Cond.static_spec hnamed hmethM (hts _ hstt)
  obtain ⟨kP, hkP, -⟩ := className_of_methodNamed hnamed
  have hinitP : kP.init = .initialized := Cond.initialized_spec (findClass_of_methodNamed hnamed) hkP (hts _ hcb.2.1)
  have hd' : decode c.code (F0 m pc ls st').pc = .ok (.invokestatic idx, 3) := by rw [hbc]; exact hd
  have hlen : As.length = methM.sig.parameters.length := by
    have h9 := hcb.2.2.2
    rw [hsigM] at h9
    exact hn.trans (Option.some.inj h9).symm
  rcases hl with hl | ⟨host, hl⟩
  · obtain ⟨vm₁, X₁, hstep₁⟩ := X.invokestatic hx hown (hts _ hl) hnamed hmethM hstatic hkP hinitP hcb.2.2.1 (g := F0 m pc ls st') rfl (argsL := As) (rest := st) hlen hst hd'
    exact mv_after hM hcb hF hLw hc hs hcat kr kt C hF1 hL1 hk1 hk2 h1 h2 h3 h4 h5 hT X₁ hd (X₁.named hnamed) hstep₁
  · obtain ⟨vm₁, X₁, hstep₁⟩ := X.invokestaticNest hx hown (va_Nw.use (by rfl) (hK.2.2.1 _ hl)) hnamed hmethM hstatic hkP hinitP hcb.2.2.1 (g := F0 m pc ls st') rfl (argsL := As) (rest := st) hlen hst hd'
    exact mv_after hM hcb hF hLw hc hs hcat kr kt C hF1 hL1 hk1 hk2 h1 h2 h3 h4 h5 hT X₁ hd (X₁.named hnamed) hstep₁
theorem vr_callI (As : List Value) (hd : decode M.2.1 pc = .ok (.invokespecial idx, 3)) (hw : mv_CI M.1.cls idx My n) (hM : mv_Met g My F' Lw' mc ms (.ref b :: As) σ Qy)
    (hn : As.length = n) (hst : st' = As.reverse ++ .ref b :: st) (hcat : (st.map fun v => v.category).sum ≤ 8) (hF : F' + 1 ≤ F) (hLw : 8 + (My.2.2.1 + 11) + Lw' ≤ Lw) (hc : mc ≤ cb) (hs : ms ≤ sb)
    (kr : ∀ v σ', Qy (.returned v) σ' → mv_V g M F Lw (cb - mc) (sb - ms) (pc + 3) L (v.toList ++ st) σ' Q) (kt : ∀ x σ', Qy (.threw x) σ' → mv_T g M F Lw (cb - mc) (sb - ms) pc L st σ' x Q) : mv_V g M F Lw cb sb pc L st' σ Q := by
  intro p e R s m args below meth c H locs cells slots ls Kc Ks C hF1 hL1 hk1 hk2 h1 h2 h3 h4 h5 T hT X
  obtain ⟨hx, hbc, hml, hown, hts, hr, hlk, hnm, hex, hK, hbs⟩ := id C
  obtain ⟨hcb, hin, hy1, hret, hl⟩ := id hw
  have hd' : decode c.code (F0 m pc ls st').pc = .ok (.invokespecial idx, 3) := by rw [hbc]; exact hd
  have hpl : e.platform.magicAccessors = ({} : Platform).magicAccessors := by rw [X.admits.platform]
  have hcode : (Cond.code My.1 My.2.1 My.2.2.1 none).before args s = true := by have := hts _ hcb.1; rw [hret] at this; exact this
  have hlen : ∀ sig, parseMethodDescriptor My.1.desc = some sig → As.length = sig.parameters.length := fun sig h => by
    have h9 := hcb.2.2.2
    rw [h] at h9
    exact hn.trans (Option.some.inj h9).symm
  rcases hl with hl | ⟨host, hl⟩
  · obtain ⟨mk, methM, cM, kP, vm₁, hnamed, hmethM, hcodeM, -, hlocalsM, -, hkP, -, hW₁, hstep₁⟩ := Steps.initColdArgs (e := e) X.here hx X.warmed hpl hown hy1 hcb.2.2.1 (hts _ hl) (hts _ hin) hcode (f := F0 m pc ls st') rfl hlen hst hd'
    have X₁ := X.noted hW₁
    exact mv_after hM hcb hF hLw hc hs hcat kr kt C hF1 hL1 hk1 hk2 h1 h2 h3 h4 h5 hT X₁ hd (X₁.named hnamed) hstep₁
  · obtain ⟨mk, methM, cM, kP, vm₁, hnamed, hmethM, hcodeM, -, hlocalsM, -, hkP, -, hW₁, hstep₁⟩ := Steps.initColdArgsNest (e := e) X.here hx X.warmed hpl hown hy1 hcb.2.2.1 (va_Nw.use (by rfl) (hK.2.2.1 _ hl)) (hts _ hin) hcode (f := F0 m pc ls st') rfl hlen hst hd'
    have X₁ := X.noted hW₁
    exact mv_after hM hcb hF hLw hc hs hcat kr kt C hF1 hL1 hk1 hk2 h1 h2 h3 h4 h5 hT X₁ hd (X₁.named hnamed) hstep₁
end MVC
