/-! THE ONE CATCH -/
theorem tk_catch {e : Env} {s : State} {a : Addr} {f : JFrame} {r : List Frame} {pc : Nat} {vm' : Vm} (hfind : ∀ (Q : Handler → Pre) (E : CtlPost) (d : Bool) (acts : List Action), wp (findHandler f a) Q E e d acts s ↔ Q (.found pc) d acts (s.setVm vm')) :
    (stepThrowing e s a (.java f :: r)).Is ((s.setVm vm').setFrames (.java { f with pc := pc, stack := [.ref a] } :: r)) [] := by
  simp only [stepThrowing, searchFrame, vmDo]
  generalize hr : Sem.go _ e false [] s = res
  obtain ⟨as, rfl, ha⟩ := Sem.eq_ok_of hr (a := Handler.found pc) (s' := s.setVm vm') (acts' := []) (by simp [hfind _ _ _ _])
  exact ⟨rfl, ha⟩
theorem tk_go {e : Env} {u : State} {f : JFrame} {a : Addr} {y : ExceptionTableEntry} {c : ClassId} {cell : Cell} {vm' : Vm} (hx : covers y f.pc = true) (h0 : y.catchType ≠ 0)
    (hg : (Jvm.resolveClass f.method.cls y.catchType).Gives e.toSetting u.vm (.ok c) vm') (hsz : vm'.classes.size ≤ u.vm.classes.size) (hcell : u.heap[a]? = some cell) (hobj : ∀ k, cell.vm ≠ .statics k)
    (hk : ∃ k, vm'.classes[cell.cls]? = some k) (hc : ∃ k, vm'.classes[c]? = some k) (hfit : vm'.assignable cell.cls c = true) (Q : Handler → Pre) (E : CtlPost) (d : Bool) (acts : List Action) :
    wp (findHandler.go f a [y]) Q E e d acts u ↔ Q (.found y.handlerPc) d acts (u.setVm vm') := by
  simp only [covers] at hx
  obtain ⟨ha, ht⟩ := hg.op (op := VmOp.resolveClass f.method.cls y.catchType) rfl
  simp [findHandler.go, hx, h0, ha, ht, hsz, hcell, hobj, hk, hc, hfit, VmOp.dirties, VmOp.acts]
theorem tk_caught {p : Program} {l : Launch} {e : Env} {R : Room} {s : State} {m : MethodId} {args : Array Value} {below : List Frame} {meth : Method} {c : Code} {T : State} {locs : List Loc} {cells slots : Nat} (X : Stand p l e R s m args below meth c T locs cells slots)
    {own C : String} {y : ExceptionTableEntry} {x : Addr} {cell : Cell} {g : JFrame} (hown : s.vm.findClass own = some m.cls) (hh : c.exceptionTable.toList = [y]) (hcov : covers y g.pc = true) (h0 : y.catchType ≠ 0)
    (hcl : (Cond.classLink own y.catchType C).before args s = true) (hcell : T.heap[x]? = some cell) (hvm : cell.vm = .none) {kC : Class} (hcls : s.vm.findClass C = some cell.cls) (hkC : s.vm.classes[cell.cls]? = some kC) (hfit : s.vm.assignable cell.cls cell.cls = true) (hg : g.method = m) :
    ∃ vm', Stand p l e R s m args below meth c (T.setVm vm') locs cells slots ∧ ∀ tg, Steps p.tables e below ((T.setVm vm').setTop { g with pc := y.handlerPc, stack := [.ref x] }) tg → Steps p.tables e below ((T.setTop g).pushFrame (.throwing x)) tg := by
  subst hg
  have hpl : e.platform.magicAccessors = ({} : Platform).magicAccessors := by rw [X.admits.platform]
  obtain ⟨cc, hfcc, hl⟩ := Cond.classLink_spec hown hcl e.platform hpl
  cases hcls.symm.trans hfcc
  obtain ⟨hg₁, hwarm₁, hready₁⟩ := State.classEntry (e := e) X.warmed hl
  have hsz : (T.vm.noted g.method.cls y.catchType (.cls cell.cls)).classes.size ≤ T.vm.classes.size := by no_record
  generalize T.vm.noted g.method.cls y.catchType (.cls cell.cls) = vm₁ at hg₁ hwarm₁ hready₁ hsz
  refine ⟨vm₁, X.noted hwarm₁, fun tg hrest => ?_⟩
  obtain ⟨hgo, hw⟩ := X.here.throwing x
  refine Steps.head hgo hw ?_
  obtain ⟨k₁, hk₁, -⟩ := hwarm₁.alike.2.2 _ _ hkC
  have hfit₁ : vm₁.assignable cell.cls cell.cls = true := by rw [hwarm₁.alike.assignable]; exact hfit
  have hfind : ∀ (Q : Handler → Pre) (E : CtlPost) (d : Bool) (acts : List Action), wp (findHandler g x) Q E e d acts ((T.setTop g).pushFrame (.throwing x)) ↔ Q (.found y.handlerPc) d acts (((T.setTop g).pushFrame (.throwing x)).setVm vm₁) := fun Q E d acts =>
    (W.findHandler_eq (meth := meth) (code := c) (show ((T.setTop g).pushFrame (.throwing x)).vm.method? g.method = some meth from X.method') X.code).trans (by
      rw [hh]
      exact tk_go (u := (T.setTop g).pushFrame (.throwing x)) hcov h0 hg₁ hsz hcell (fun k h => by rw [hvm] at h; cases h) ⟨k₁, hk₁⟩ ⟨k₁, hk₁⟩ hfit₁ Q E d acts)
  rw [stepThread_throwing (frames_entered X.here.top _), (tk_catch (s := (T.setTop g).pushFrame (.throwing x)) hfind).1]
  obtain ⟨g₀, hg⟩ := Option.isSome_iff_exists.mp X.here.top
  obtain ⟨r, hr⟩ := State.topJava?_eq_some.mp hg
  have he : (((T.setTop g).pushFrame (.throwing x)).setVm vm₁).setFrames (.java { g with pc := y.handlerPc, stack := [.ref x] } :: T.frames.tail) = (T.setVm vm₁).setTop { g with pc := y.handlerPc, stack := [.ref x] } := by
    have hr' : (T.setVm vm₁).frames = .java g₀ :: r := hr
    rw [State.setTop_of_frames _ hr']
    show (((T.setTop g).pushFrame (.throwing x)).setFrames (.java { g with pc := y.handlerPc, stack := [.ref x] } :: T.frames.tail)).setVm vm₁ = (T.setFrames _).setVm vm₁
    rw [State.pushFrame, State.setFrames_setFrames, State.setTop_of_frames _ hr, State.setFrames_setFrames, hr]
    rfl
  rw [he]
  exact hrest
section MVK
variable {g : mv_G} {M : mv_M} {F Lw cb sb pc : Nat} {L : List (Option Value)} {st : List Value} {σ : mh_H} {Q : Outcome → mh_H → Prop}
theorem mv_T.catch {x a b hpc ct : Nat} (hh : M.2.2.2.2 = [(a, b, hpc, ct)]) (hcov : covers ⟨a, b, hpc, ct⟩ pc = true) (hct : ct ≠ 0) (hw : Cond.classLink M.1.cls ct "java/lang/IllegalStateException" ∈ mk_T) (hx : hT σ x = 19) (hcb : 1 ≤ cb) (hsb : 6 ≤ sb)
    (kk : mv_V g M F Lw (cb - 1) (sb - 6) hpc L [.ref x] σ Q) : mv_T g M F Lw cb sb pc L st σ x Q := by
  intro p e R s m args below meth c H locs cells slots ls Kc Ks C hF hL hk1 hk2 h1 h2 h3 h4 h5 T hT X
  obtain ⟨hxx, hb, hml, hown, hts, hr, hlk, hnm, hex, hK, hbs, -⟩ := id C
  obtain ⟨r, hr1, cell, q1, q2, q3, -⟩ := h3.2.2.2.2.1 x 9 hx
  obtain ⟨hfc, kC, hkC, hkind⟩ := (hK.1 9 _ rfl).2
  have hcls : s.vm.findClass "java/lang/IllegalStateException" = some cell.cls := by rw [q2]; exact hfc
  obtain ⟨vm', X', hst⟩ := tk_caught X (g := F0 m pc ls st) (y := ⟨a, b, hpc, ct⟩) hown (by rw [hex, hh]; rfl) hcov hct (hts _ hw) (by rw [hT]; exact q1) q3 hcls (by rw [q2]; exact hkC) (by rw [q2]; exact va_assign (hK.1 9 _ rfl).2) rfl
  obtain ⟨t, a1, b1⟩ := kk p e R s m args below meth c H locs cells slots ls Kc Ks C hF hL hk1 hk2 (by omega) (by omega) h3 h4 h5 (T.setVm vm') hT X'
  exact ⟨t, hst t a1, b1⟩
end MVK
