/-! THE ONE THROW: Parser.refuse() -/
def mx_at : List Cond := Bundle.ownAtoms0 "ProgramReader$Parser" 130 "java/lang/IllegalStateException" ["java/lang/RuntimeException", "java/lang/Exception"]
def mx_st : List Cond := [.laysStatic "java/lang/Throwable" "UNASSIGNED_STACK" "[Ljava/lang/StackTraceElement;", .laysStatic "java/lang/Throwable" "SUPPRESSED_SENTINEL" "Ljava/util/List;", .isRef (.static "java/lang/Throwable" "UNASSIGNED_STACK" "[Ljava/lang/StackTraceElement;"), .isRef (.static "java/lang/Throwable" "SUPPRESSED_SENTINEL" "Ljava/util/List;")]
theorem mx_in : ∀ w ∈ mx_at, w ∈ mk_T ∨ w ∈ mk_X ∨ w ∈ mx_st := by
  have h : mx_at.all (fun w => decide (w ∈ mk_T) || (decide (w ∈ mk_X) || decide (w ∈ mx_st))) = true := by decide +kernel
  intro w hw
  have h1 := List.all_eq_true.mp h w hw
  simpa using h1
theorem mx_Xw {w : Cond} (hw : w ∈ mk_X) {A : Array Value} {U : State} (h : va_Nw w U) : w.before A U = true := by
  have h1 := (List.mem_filter.mp hw).2
  cases w <;> first | exact va_Nw.use (by rfl) h | (simp [mk_isX] at h1)
theorem mx_all {g : mv_G} {s : State} {args : Array Value} (hT : ∀ w ∈ mk_T, w.before args s = true) (hK : mv_K g s) (hq : ∀ q : Nat, q < mg_b g → s.heap[q]? = (mg_H g)[q]?) : ∀ w ∈ mx_at, w.before args s = true := by
  intro w hw
  rcases mx_in w hw with h | h | h
  · exact hT w h
  · exact mx_Xw h (hK.2.2.2.2.1 w h)
  · have h1 := hK.2.2.2.2.2.1 ("java/lang/Throwable", "UNASSIGNED_STACK", "[Ljava/lang/StackTraceElement;") (by simp [mk_L])
    have h2 := hK.2.2.2.2.2.1 ("java/lang/Throwable", "SUPPRESSED_SENTINEL", "Ljava/util/List;") (by simp [mk_L])
    simp only [mx_st, List.mem_cons, List.not_mem_nil, or_false] at h
    rcases h with rfl | rfl | rfl | rfl
    · exact h1.lays hq
    · exact h2.lays hq
    · exact h1.isRef hq
    · exact h2.isRef hq
set_option maxHeartbeats 2000000 in
theorem c0_PA_refuse {g : mv_G} {σ : mh_H} {p : Nat} (hl : (mg_l g).stackTraces = false) : mv_Met g M_PA_refuse 6 100 0 0 [.ref p] σ (fun oc τ => oc = .threw (hX σ) ∧ τ = mh_new σ 9) := by
  refine tk_ofW (cc := M_PA_refuse.2.1) (maxL := 1) (ret := none) (by decide) rfl ?_
  intro pp e s m args below meth c s₁ B hml hnh hv
  obtain ⟨rfl, hK, hbs, hR⟩ := hv
  have hts := atoms_spec (ws := Cond.code M_PA_refuse.1 M_PA_refuse.2.1 M_PA_refuse.2.2.1 M_PA_refuse.2.2.2.1 :: mk_T) B.pre
  have hT : ∀ w ∈ mk_T, w.before _ s = true := fun w hw => hts w (List.mem_cons_of_mem _ hw)
  have hx := B.exec
  have hb := B.bytes
  have hlk := B.notSynchronized
  have hown : s.vm.findClass "ProgramReader$Parser" = some m.cls := findClass_of_methodNamed B.named
  have hl0 := lv_entry [.ref p] (n := 1) (Nat.le_of_ble_eq_true rfl)
  rw [lg_entry_eq]
  generalize (lg_sl [Value.ref p] ++ List.replicate (1 - (lg_sl [Value.ref p]).length) Slot.unset).toArray = ls at hl0 ⊢
  have hKn := hK.1 9 _ rfl
  refine W.newcK hx hb hown (hT _ w_428) (hT _ w_458) (hT _ w_20) rfl d_PA_refuse_0 (by decide) (by decide) hKn.2.1 hR.1 fun H1 kC hkC e1 z1 o1 => ?_
  refine lv_dup hx hb d_PA_refuse_3 rfl ?_
  intro T hT1 X
  have hout : ∀ y ∈ c.exceptionTable.toList, covers y (4 + 3) = false := by
    intro y hy
    have h0 : c.exceptionTable = #[] := by simpa using hnh
    rw [h0] at hy
    simp at hy
  obtain ⟨U, hst, hrun, hend, hW, hsame, ce, hce, hOwn⟩ := X.ctorThrow0 hx (by rw [X.admits.platform]; exact hl) (own := "ProgramReader$Parser") (cls := "java/lang/IllegalStateException") (names := ["java/lang/RuntimeException", "java/lang/Exception"]) (ic := 130) hown (by decide) (by decide)
    (mx_all hT hK hR.2.2.1) (fun y hy => by cases hy) hKn.2.1 hkC (a := hX σ) (by rw [hT1]; exact e1) (by rw [hR.1]; exact Nat.le_refl _) (g := F0 m 4 ls [.ref (hX σ), .ref (hX σ)]) rfl (by rw [hml]; exact hl0.1) rfl rfl (rest := []) rfl (by rw [hb]; exact d_PA_refuse_4) (by rw [hb]; exact d_PA_refuse_7) hout (by decide) (Nat.le_of_ble_eq_true rfl) hlk
  refine ⟨U, hst, .threw (hX σ), hrun, hend, ⟨mh_new σ 9, ⟨rfl, rfl⟩, ?_⟩, [], ⟨hW, hsame⟩, fun q hq => by cases hq⟩
  have hlt : hX σ < U.heap.size := (Array.getElem?_eq_some_iff.mp hce).1
  obtain ⟨-, k1, k2, -, -, k5⟩ := hsame
  have k1 : s.heap.size ≤ U.heap.size := k1
  have k2 : U.heap.size ≤ s.heap.size + (0 + 1) := k2
  have hs := hR.1
  refine hR.new (r := ("java/lang/IllegalStateException", T_EX, 0)) rfl ⟨ce, by rw [hR.1]; exact hce, Option.some.inj (hOwn.cls.symm.trans hKn.2.1), hOwn.vm, fun k hk => absurd hk (Nat.not_lt_zero k)⟩ (by omega) (fun q hq => ?_)
  obtain ⟨c', g1, g2, g3, g4⟩ := k5 q _ (Array.getElem?_eq_getElem hq)
  have g1 : U.heap[q]? = some c' := g1
  rw [g1, Array.getElem?_eq_getElem hq]
  have hsl : c'.slots = s.heap[q].slots := by
    apply Array.ext_getElem?
    intro i
    exact g4 i (by simp)
  rw [g2, hsl]
