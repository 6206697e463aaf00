/-! A METHOD WITH A HANDLER: its entry and its call -/
section TKBH
variable {l : Launch} {R : Room} {p : Program} {e : Env} {below : List Frame} {s : State} {sargs : Array Value} {y : MethodName}
/-- behind an invocation of a method that may throw: the caller stands again, at the next instruction or with the throw in its frame -/
theorem tk_backH {ws : List Cond} {rm : Room} {Pc : Array Value → State → Prop} {Qc : Array Value → State → Outcome → State → Prop} {mc ms Wd : Nat} {free : Addr → Prop} {bytes : ByteArray} {maxL : Nat} {ret : Option FieldType} {hh : List (Nat × Nat × Nat × Nat)}
    (hM : tk_Met l y ws rm Pc Qc mc ms free) (hblind : FrameBlind Pc) (hrc : rm.cells = mc + 1) (hrs : rm.slots = ms + 6)
    (hframes : rm.frames + 1 ≤ R.frames) (hlocals : Wd + (maxL + 11) + rm.locals ≤ R.locals)
    (hws : ∀ w ∈ ws, ∀ a' U, s.WarmedH U.vm → w.before a' U = true) (hcode : Cond.codeWith y bytes maxL ret hh ∈ ws) (hinit : ∀ a' U, s.WarmedH U.vm → (Cond.initialized y.cls).before a' U = true)
    {m : MethodId} {meth : Method} {c : Code} {U : State} {locs : List Loc} {cells slots : Nat} {g : JFrame} {ig : Instr} {len : Nat} {mk : MethodId} {a : Array Value}
    (X : Stand p l e R s m sargs below meth c U locs cells slots) (hg : g.method = m) (hsize : g.locals.size = c.maxLocals) (hdg : decode c.code g.pc = .ok (ig, len))
    (hW : 2 * g.monitorRoom + (g.stack.map fun v => v.category).sum ≤ Wd) (hn : U.methodNamed? y = some mk) (hcl : cells + mc + 1 ≤ R.cells) (hsl : slots + ms + 6 ≤ R.slots) (hPc : Pc a U) :
    ∃ (t T' : State) (L : List Loc), T'.heap = t.heap ∧ T'.vm = t.vm ∧ (∀ q ∈ L, free q.base) ∧
      ((∃ v, Stand p l e R s m sargs below meth c T' (locs ++ L) (cells + mc) (slots + ms) ∧ Qc a (U.calling g mk a) (.returned v) t ∧ Steps p.tables e below (doInvoke e (U.setTop g) [] mk a).1 (T'.setTop { g with pc := g.pc + len, stack := v.toList ++ g.stack })) ∨
       (∃ x, Stand p l e R s m sargs below meth c T' (locs ++ L) (cells + (mc + 1)) (slots + (ms + 6)) ∧ Qc a (U.calling g mk a) (.threw x) t ∧ Steps p.tables e below (doInvoke e (U.setTop g) [] mk a).1 ((T'.setTop g).pushFrame (.throwing x)))) := by
  have h1 : (headSpec ws rm).pre.before a U = true := atoms_intro fun w hw => hws w hw _ _ X.warmed
  have h2 : (Cond.codeWith y bytes maxL ret hh).before a U = true := hws _ hcode _ _ X.warmed
  have h3 : (Cond.initialized y.cls).before a U = true := hinit _ _ X.warmed
  obtain ⟨m9, methY, cY, hn9, hmY, hcY, -, hlY, -⟩ := Cond.codeWith_spec h2
  cases hn.symm.trans hn9
  obtain ⟨kY, hkY, -⟩ := className_of_methodNamed hn
  have hinitY : kY.init = .initialized := Cond.initialized_spec (findClass_of_methodNamed hn) hkY h3
  have h : At U g.method c below := by rw [hg]; exact X.here
  have happ : (headSpec ws rm).appliesLoose y e.platform (U.calling g mk a) = true :=
    Spec.appliesLoose_calling (g := g) h hdg hn hkY hinitY
      (X.room_calling (g := g) (R' := (headSpec ws rm).room) hsize hmY hcY hframes (by rw [hlY]; show _ + _ + rm.locals ≤ _; omega) (by show cells + rm.cells ≤ _; rw [hrc]; omega) (by show slots + rm.slots ≤ _; rw [hrs]; omega)) h1
  obtain ⟨mid, hmid⟩ := h.above
  have hfr : (U.setTop g).frames = (.java g :: mid) ++ below := by rw [State.frames_setTop' g h.top, hmid]; rfl
  obtain ⟨o, s₂, hsteps, -, hend, hq⟩ := Steps.callFree hM p X.admits X.cas X.clock (acts := []) hfr happ (hblind _ _ _ _ hPc) trivial
  obtain ⟨hq', L, hE, hL⟩ := hq
  cases o with
  | threw x =>
    have hend2 : Ended s₂ (.java g :: below) (.threw x) := by
      rw [State.frames_setTop' g h.top, X.tail] at hend
      exact hend
    obtain ⟨T', X', -, hsame, ht⟩ := X.outOfThrown hg (mk := mk) (a := a) hend2 hE.1 hE.2
    refine ⟨s₂, T', L, ?_, ?_, hL, Or.inr ⟨x, X', hq', ?_⟩⟩
    · rw [ht]; rfl
    · rw [ht]; rfl
    · rw [← ht]; exact hsteps
  | returned v =>
    rw [State.frames_setTop' g h.top] at hend
    obtain ⟨hW₂, e2, q2, q3, q4, q5, q6⟩ := (show tk_E (U.calling g mk a) s₂ L mc ms from hE)
    have e3 : s₂ = ({ (U.calling g mk a).setFrames s₂.frames with heap := s₂.heap, slotsUsed := s₂.slotsUsed } : State).setVm s₂.vm := by
      have : s₂ = ({ s₂ with vm := (U.calling g mk a).vm } : State).setVm s₂.vm := rfl
      rw [e2] at this
      exact this
    obtain ⟨c₂, i₂, len₂, hc₂, hd₂, hf₂⟩ := hend
    have hW' : U.WarmedH s₂.vm := hW₂
    have hcc : c₂ = c := by
      have h1 : s₂.code? g.method = U.code? g.method := by
        rw [State.code?_eq, State.code?_eq, hW'.alike.method?]
      exact Option.some.inj (hc₂.symm.trans (h1.trans h.code))
    subst hcc
    have hlen : len₂ = len := by rw [hdg] at hd₂; cases hd₂; rfl
    subst hlen
    obtain ⟨g₀, hg0⟩ := Option.isSome_iff_exists.mp h.top
    obtain ⟨r, hr⟩ := State.topJava?_eq_some.mp hg0
    have hs₂ : s₂ = (({ U with heap := s₂.heap, slotsUsed := s₂.slotsUsed } : State).setVm s₂.vm).setTop { g with pc := g.pc + len₂, stack := v.toList ++ g.stack } := by
      have hr' : (({ U with heap := s₂.heap, slotsUsed := s₂.slotsUsed } : State).setVm s₂.vm).frames = .java g₀ :: r := hr
      refine e3.trans ?_
      rw [hf₂, State.calling_eq h.top, State.setFrames_setFrames, State.setTop_of_frames _ hr', hr]
      rfl
    have hsame : U.sameButNew ({ U with heap := s₂.heap, slotsUsed := s₂.slotsUsed } : State) L mc ms := by
      refine ⟨?_, q2, q3, q4, q5, q6⟩
      obtain ⟨t, ht, -⟩ := State.frames_cons hr
      show ({ U with heap := s₂.heap, slotsUsed := s₂.slotsUsed } : State) = { U.setFrames U.frames with heap := s₂.heap, slotsUsed := s₂.slotsUsed }
      rw [State.setFrames_self ht]
    subst hg
    refine ⟨s₂, (({ U with heap := s₂.heap, slotsUsed := s₂.slotsUsed } : State).setVm s₂.vm), L, rfl, rfl, hL, Or.inl ⟨v,
      ⟨X.admits, X.cas, X.clock, X.frames, X.room, X.hears, X.method, X.code, (X.here.setHeapUsed s₂.heap s₂.slotsUsed).setVm hW'.alike, X.tail, State.WarmedH.trans X.warmed hW', X.limits, X.bytes, X.same.trans (hsame.setVm s.vm)⟩, hq', ?_⟩⟩
    rw [← hs₂]
    exact hsteps
end TKBH
section TKRH
variable {p : Program} {l : Launch} {e : Env} {R : Room} {s : State} {m : MethodId} {args : Array Value} {below : List Frame} {meth : Method} {c : Code} {H : Heap} {locs : List Loc} {cells slots : Nat} {Q : State → Prop}
variable {y : MethodName} {bytes cc : ByteArray} {maxL nL mc ms n index : Nat} {ret : Option FieldType} {ws : List Cond} {rm : Room} {Pc : Array Value → State → Prop} {Qc : Array Value → State → Outcome → State → Prop} {free : Addr → Prop} {Ts : List Cond} {own C : String} {b : Addr} {As rest : List Value} {g : JFrame}
theorem tk_finH {T : State} {vm₁ : Vm} {mk : MethodId} {a : Array Value} {ig : Instr} {hh : List (Nat × Nat × Nat × Nat)} (hM : tk_Met l y ws rm Pc Qc mc ms free) (hbl : FrameBlind Pc) (hrc : rm.cells = mc + 1) (hrs : rm.slots = ms + 6) (hfr : rm.frames + 1 ≤ R.frames) (hlo : 8 + (maxL + 11) + rm.locals ≤ R.locals)
    (hws : ∀ w ∈ ws, ∀ (a' : Array Value) (U : State), s.WarmedH U.vm → w.before a' U = true) (hcw : Cond.codeWith y bytes maxL ret hh ∈ ws) (hini : (Cond.initialized y.cls).before args s = true)
    (hT : T.heap = H) (X₁ : Stand p l e R s m args below meth c (T.setVm vm₁) locs cells slots) (hg : g.method = m) (hsize : g.locals.size = c.maxLocals) (hdg : decode c.code g.pc = .ok (ig, 3))
    (hW : 2 * g.monitorRoom + (rest.map fun v => v.category).sum ≤ 8) (hn : (T.setVm vm₁).methodNamed? y = some mk) (hf : cells + mc + 1 ≤ R.cells ∧ slots + ms + 6 ≤ R.slots) (hPc : Pc a (T.setVm vm₁))
    (hstep₁ : ∀ target, (∀ acts, Steps p.tables e below (doInvoke e ((T.setVm vm₁).setTop { g with stack := rest }) acts mk a).1 target) → Steps p.tables e below (T.setTop g) target) :
    ∃ (st₀ t T' : State) (L : List Loc), st₀.heap = H ∧ (∀ q ∈ L, free q.base) ∧ T'.heap = t.heap ∧ T'.vm = t.vm ∧
      ((∃ v, Stand p l e R s m args below meth c T' (locs ++ L) (cells + mc) (slots + ms) ∧ Qc a st₀ (.returned v) t ∧ ∀ tg, Steps p.tables e below (T'.setTop { g with pc := g.pc + 3, stack := v.toList ++ rest }) tg → Steps p.tables e below (T.setTop g) tg) ∨
       (∃ x, Stand p l e R s m args below meth c T' (locs ++ L) (cells + (mc + 1)) (slots + (ms + 6)) ∧ Qc a st₀ (.threw x) t ∧ ∀ tg, Steps p.tables e below ((T'.setTop { g with stack := rest }).pushFrame (.throwing x)) tg → Steps p.tables e below (T.setTop g) tg)) := by
  obtain ⟨t, T', L, e1, e2, hL, hres⟩ := tk_backH (Wd := 8) (bytes := bytes) (maxL := maxL) (ret := ret) (hh := hh) (g := { g with stack := rest }) (ig := ig) (len := 3) (mk := mk) (a := a) hM hbl hrc hrs hfr hlo hws hcw
    (fun a' U hW => word_at hW (Or.inl (by first | rfl | simp [Cond.onTables, Cond.keeps, Cond.steady])) hini) X₁ hg hsize hdg hW hn hf.1 hf.2 hPc
  refine ⟨(T.setVm vm₁).calling { g with stack := rest } mk a, t, T', L, hT, hL, e1, e2, ?_⟩
  rcases hres with ⟨v, X', hq, st⟩ | ⟨x, X', hq, st⟩
  · exact Or.inl ⟨v, X', hq, fun tg h => hstep₁ _ fun acts => by rw [doInvoke_state]; exact st.trans h⟩
  · exact Or.inr ⟨x, X', hq, fun tg h => hstep₁ _ fun acts => by rw [doInvoke_state]; exact st.trans h⟩
end TKRH
def mv_MetH (g : mv_G) (M : mv_M) (F Lw mc ms : Nat) (as : List Value) (σ : mh_H) (Q : Outcome → mh_H → Prop) : Prop :=
  tk_Met (mg_l g) M.1 (Cond.codeWith M.1 M.2.1 M.2.2.1 M.2.2.2.1 M.2.2.2.2 :: mk_T) { frames := F, cells := mc + 1, slots := ms + 6, locals := Lw } (fun v U => v = as.toArray ∧ mv_K g U ∧ mg_b g ≤ U.heap.size ∧ mv_R g σ U.heap) (mv_Qc g Q) mc ms (fun q => mg_b g ≤ q)
section MVCH
variable {g : mv_G} {M My : mv_M} {F Lw cb sb pc pc' : Nat} {L L' : List (Option Value)} {st st' : List Value} {σ σ' : mh_H} {Q Qy : Outcome → mh_H → Prop} {F' Lw' mc ms n idx b kc : Nat} {As : List Value}
def mv_CBH (My : mv_M) (n : Nat) : Prop := Cond.codeWith My.1 My.2.1 My.2.2.1 My.2.2.2.1 My.2.2.2.2 ∈ mk_T ∧ Cond.initialized My.1.cls ∈ mk_T ∧ (My.1.cls ≠ "java/lang/invoke/MethodHandle" ∧ My.1.cls ≠ "java/lang/invoke/VarHandle") ∧ (parseMethodDescriptor My.1.desc).map (fun d => d.parameters.length) = some n
def mv_CVH (own : String) (idx : Nat) (My : mv_M) (n : Nat) : Prop := mv_CBH My n ∧ Cond.instanceMethod My.1 ∈ mk_T ∧ Cond.selects My.1.cls My.1 My.1 ∈ mk_T ∧ (Cond.methodLink own idx My.1 ∈ mk_T ∨ ∃ host, Cond.methodLinkNest own idx My.1 host ∈ mk_N)
theorem mv_entryH {as : List Value} (hy : plainName M.1.cls = true) (hlen : (lg_sl as).length ≤ M.2.2.1) (hL : lv_args 0 as = mv_prs 0 L) (h : mv_V g M F Lw mc ms 0 L [] σ Q) : mv_MetH g M F Lw mc ms as σ Q := by
  unfold mv_MetH tk_Met
  refine MetFree.of_bodyS (code := M.2.1) (maxLocals := M.2.2.1) (ret := M.2.2.2.1) hy ?_ ?_
  · intro args s m h hn
    obtain ⟨m9, meth, c, hn9, h1, h2, h3, h4, -, h5, h6, -⟩ := Cond.codeWith_spec (atoms_spec (ws := Cond.codeWith M.1 M.2.1 M.2.2.1 M.2.2.2.1 M.2.2.2.2 :: mk_T) h _ List.mem_cons_self)
    cases hn.symm.trans hn9
    exact ⟨meth, c, h1, h2, h3, h4, h5, h6⟩
  · intro p e s m args below meth c s₁ B hml hP _
    obtain ⟨rfl, hK, hbs, hR⟩ := hP
    have hh0 : s₁.heap = s.heap := by rw [B.state]; rfl
    have hts := atoms_spec (ws := Cond.codeWith M.1 M.2.1 M.2.2.1 M.2.2.2.1 M.2.2.2.2 :: mk_T) B.pre
    obtain ⟨m9, meth9, c9, hn9, g1, g2, g3, g4, g5, -⟩ := Cond.codeWith_spec (hts _ List.mem_cons_self)
    cases B.named.symm.trans hn9
    cases B.method.symm.trans g1
    have hcode := (Stand.of_body B).code
    cases hcode.symm.trans g2
    have C : mv_C g M p s m as.toArray meth c := ⟨B.exec, B.bytes, hml, findClass_of_methodNamed B.named, fun w hw => hts w (List.mem_cons_of_mem _ hw), B.returns, B.notSynchronized, (name_of_methodNamed B.named B.method).1, by
      rw [← g5]; exact (table_eq _).symm, hK, hbs, hR.2.2.1⟩
    have hl := lv_entry as (n := M.2.2.1) hlen
    rw [hL] at hl
    have hW : W p (mg_l g) e (headSpec (Cond.codeWith M.1 M.2.1 M.2.2.1 M.2.2.2.1 M.2.2.2.2 :: mk_T) { frames := F, cells := mc + 1, slots := ms + 6, locals := Lw }).room s m as.toArray below meth c s.heap [] 0 0 (tk_Q below (mv_Qc g Q) as.toArray s mc ms (fun q => mg_b g ≤ q)) (entryFrame m as.toArray M.2.2.1) := by
      rw [lg_entry_eq]
      exact h p e _ s m _ below meth c s.heap [] 0 0 _ mc ms C rfl rfl rfl rfl (by omega) (by omega) hR (fun q hq => by cases hq) hl
    obtain ⟨t, a1, o, b1, b2, b3⟩ := hW s₁ hh0 (Stand.of_body B)
    exact ⟨t, o, a1, b1, b2, ⟨b3.1, b3.2⟩⟩
/-- behind the invoking instruction -/
theorem mv_afterH {p : Program} {e : Env} {R : Room} {s : State} {m : MethodId} {args : Array Value} {below : List Frame} {meth : Method} {c : Code} {H : Heap} {locs : List Loc} {cells slots : Nat} {ls : Array Slot} {T : State} {vm₁ : Vm} {mk : MethodId} {ig : Instr} {as st0 : List Value}
    (hM : mv_MetH g My F' Lw' mc ms as σ Qy) (hcb : mv_CBH My n) (hF : F' + 1 ≤ F) (hLw : 8 + (My.2.2.1 + 11) + Lw' ≤ Lw) (hc : mc ≤ cb) (hs : ms ≤ sb) (hcat : (st.map fun v => v.category).sum ≤ 8)
    (kr : ∀ v σ', Qy (.returned v) σ' → mv_V g M F Lw (cb - mc) (sb - ms) (pc + 3) L (v.toList ++ st) σ' Q) (kt : ∀ x σ', Qy (.threw x) σ' → mv_T g M F Lw (cb - mc) (sb - ms) pc L st σ' x Q)
    {Kc Ks : Nat} (C : mv_C g M p s m args meth c) (hF1 : R.frames = F) (hL1 : R.locals = Lw) (hk1 : R.cells = Kc + 1) (hk2 : R.slots = Ks + 6) (h1 : cells + cb ≤ Kc) (h2 : slots + sb ≤ Ks) (h3 : mv_R g σ H) (h4 : ∀ q ∈ locs, mg_b g ≤ q.base) (h5 : lv_has ls M.2.2.1 (mv_prs 0 L))
    (hT : T.heap = H) (X₁ : Stand p (mg_l g) e R s m args below meth c (T.setVm vm₁) locs cells slots) (hd : decode M.2.1 pc = .ok (ig, 3)) (hn : (T.setVm vm₁).methodNamed? My.1 = some mk)
    (hstep₁ : ∀ target, (∀ acts, Steps p.tables e below (doInvoke e ((T.setVm vm₁).setTop (F0 m pc ls st)) acts mk as.toArray).1 target) → Steps p.tables e below (T.setTop (F0 m pc ls st0)) target) :
    ∃ t, Steps p.tables e below (T.setTop (F0 m pc ls st0)) t ∧ tk_Q below (mv_Qc g Q) args s Kc Ks (fun q => mg_b g ≤ q) t := by
  obtain ⟨hx, hb, hml, hown, hts, hr, hlk, hnm, hex, hK, hbs⟩ := id C
  obtain ⟨hw1, hw2, hw3, hw4⟩ := hcb
  have hX0 : mg_b g ≤ T.heap.size := by rw [hT]; exact h3.2.1
  obtain ⟨st₀, t, T', Ls, g0, g1, g2, g3, hres⟩ := tk_finH (hh := My.2.2.2.2) (g := F0 m pc ls st0) (rest := st) (bytes := My.2.1) (maxL := My.2.2.1) (ret := My.2.2.2.1) hM mv_blind rfl rfl (by rw [hF1]; exact hF) (by rw [hL1]; exact hLw)
    (pay_in hts (fun w hw => by
      rcases List.mem_cons.mp hw with z | z
      · rw [z]; exact mk_good _ hw1
      · exact mk_good _ z)) List.mem_cons_self (hts _ hw2) hT X₁ rfl (by rw [hml]; exact h5.1) (by rw [hb]; exact hd) (by show 2 * 0 + _ ≤ 8; omega) hn ⟨by omega, by omega⟩
    ⟨rfl, hK.warm X₁.warmed, hX0, by show mv_R g σ T.heap; rw [hT]; exact h3⟩ hstep₁
  have hlocs : ∀ q ∈ locs ++ Ls, mg_b g ≤ q.base := fun q hq => by
    rcases List.mem_append.mp hq with z | z
    · exact h4 q z
    · exact g1 q z
  rcases hres with ⟨v, X', ⟨σ', hq, hR'⟩, hst⟩ | ⟨x, X', ⟨σ', hq, hR'⟩, hst⟩
  · obtain ⟨t2, a1, b1⟩ := kr v σ' hq p e R s m args below meth c T'.heap (locs ++ Ls) (cells + mc) (slots + ms) ls Kc Ks C hF1 hL1 hk1 hk2 (by omega) (by omega) (by rw [g2]; exact hR') hlocs h5 T' rfl X'
    exact ⟨t2, hst t2 a1, b1⟩
  · obtain ⟨t2, a1, b1⟩ := kt x σ' hq p e R s m args below meth c T'.heap (locs ++ Ls) (cells + (mc + 1)) (slots + (ms + 6)) ls Kc Ks C hF1 hL1 hk1 hk2 (by omega) (by omega) (by rw [g2]; exact hR') hlocs h5 T' rfl X'
    exact ⟨t2, hst t2 a1, b1⟩
theorem vr_callVH (As : List Value) (hd : decode M.2.1 pc = .ok (.invokevirtual idx, 3)) (hw : mv_CVH M.1.cls idx My n) (hM : mv_MetH g My F' Lw' mc ms (.ref b :: As) σ Qy) (hkc : (mk_cl[kc]?).map (fun r => r.1) = some My.1.cls) (hb : hT σ b = 2 * kc + 1)
    (hn : As.length = n) (hst : st' = As.reverse ++ .ref b :: st) (hcat : (st.map fun v => v.category).sum ≤ 8) (hF : F' + 1 ≤ F) (hLw : 8 + (My.2.2.1 + 11) + Lw' ≤ Lw) (hc : mc ≤ cb) (hs : ms ≤ sb)
    (kr : ∀ v σ', Qy (.returned v) σ' → mv_V g M F Lw (cb - mc) (sb - ms) (pc + 3) L (v.toList ++ st) σ' Q) (kt : ∀ x σ', Qy (.threw x) σ' → mv_T g M F Lw (cb - mc) (sb - ms) pc L st σ' x Q) : mv_V g M F Lw cb sb pc L st' σ Q := by
  intro p e R s m args below meth c H locs cells slots ls Kc Ks C hF1 hL1 hk1 hk2 h1 h2 h3 h4 h5 T hT X
  obtain ⟨hx, hbc, hml, hown, hts, hr, hlk, hnm, hex, hK, hbs⟩ := id C
  obtain ⟨hcb, hin, hse, hl⟩ := id hw
  obtain ⟨r, hr1, cellB, q1, q2, q3, q4⟩ := h3.2.2.2.2.1 b kc hb
  have hrn : r.1 = My.1.cls := by rw [hr1] at hkc; exact Option.some.inj hkc
  have hclB : s.vm.findClass My.1.cls = some cellB.cls := by rw [q2, ← hrn]; exact (hK.1 kc r hr1).2.1
  obtain ⟨mk, methM, hnamed, hmethM, hstM, habM⟩ := Cond.instanceMethod_spec (hts _ hin)
  obtain ⟨m9, methM', cM, hn9, hmethM', -, -, -, -, -, -, hsigM⟩ := Cond.codeWith_spec (hts _ hcb.1)
  cases hnamed.symm.trans hn9
  cases hmethM.symm.trans hmethM'
  obtain ⟨c2, r2, m2, p1, p2, p3, p4, kP, hkP, hkPi⟩ := Cond.selects_spec (hts _ hse)
  cases hclB.symm.trans p1
  cases (State.methodFound?_of_named hnamed hcb.2.2.1).symm.trans p2
  cases hnamed.symm.trans p3
  have hselP : selectMethod e.platform s.vm cellB.cls mk = .method mk := by rw [Launch.admits_selectMethod X.admits]; exact p4
  have hd' : decode c.code (F0 m pc ls st').pc = .ok (.invokevirtual idx, 3) := by rw [hbc]; exact hd
  have hlen : As.length = methM.sig.parameters.length := by
    have h9 := hcb.2.2.2
    rw [hsigM] at h9
    exact hn.trans (Option.some.inj h9).symm
  have hob : ∀ z, cellB.vm ≠ .statics z := fun z h => by rw [q3] at h; cases h
  rcases hl with hl | ⟨host, hl⟩
  · obtain ⟨vm₁, X₁, hstep₁⟩ := X.invokevirtual hx hown (hts _ hl) hnamed hmethM hstM hkP hkPi hcb.2.2.1 (a := b) (cell := cellB) (by rw [hT]; exact q1)
      hob hselP hmethM habM hkP hkPi (g := F0 m pc ls st') rfl (argsL := As) (rest := st) hlen hst hd'
    exact mv_afterH hM hcb hF hLw hc hs hcat kr kt C hF1 hL1 hk1 hk2 h1 h2 h3 h4 h5 hT X₁ hd (X₁.named hnamed) hstep₁
  · obtain ⟨vm₁, X₁, hstep₁⟩ := X.invokevirtualNest hx hown (va_Nw.use (by rfl) (hK.2.2.1 _ hl)) hnamed hmethM hstM hkP hkPi hcb.2.2.1 (a := b) (cell := cellB) (by rw [hT]; exact q1)
      hob hselP hmethM habM hkP hkPi (g := F0 m pc ls st') rfl (argsL := As) (rest := st) hlen hst hd'
    exact mv_afterH hM hcb hF hLw hc hs hcat kr kt C hF1 hL1 hk1 hk2 h1 h2 h3 h4 h5 hT X₁ hd (X₁.named hnamed) hstep₁
end MVCH
