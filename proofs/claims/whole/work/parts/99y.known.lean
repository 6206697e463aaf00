/-! WHAT IS KNOWN AT THE LAW'S ENTRY: mv_K out of the tables' words and of what the Statement gives -/
/-- what is given of one text constant -/
def sq_c (own : String) (k : Nat) (bs : List Int32) : List Cond :=
  [Cond.exactly (.string own k) "java/lang/String", Cond.eq (.field (.string own k) "java/lang/String" "coder" "B") (.int 0), Cond.arrayOf (.field (.string own k) "java/lang/String" "value" "[B") .byte, Cond.eq (.length (.field (.string own k) "java/lang/String" "value" "[B")) (.int (Int32.ofNat bs.length))] ++
    (List.range bs.length).map (fun j => Cond.eq (.elem (.field (.string own k) "java/lang/String" "value" "[B") (.int (Int32.ofNat j))) (.int (bs.getD j 0)))
theorem sq_str {args : Array Value} {s : State} {own : String} {k : Nat} {bs : List Int32} {A : Nat → Prop} (h : ∀ c ∈ sq_c own k bs, c.before args s = true) (hn : bs.length < 2 ^ 31) (hA : ∀ a : Nat, a < s.heap.size → ¬ A a) :
    ∃ q : Nat × Nat, (Term.string own k).eval args s none [] s = some (.ref q.1) ∧ va_O "java/lang/String" q.1 A s s.heap ∧ va_OF "java/lang/String" "coder" "B" (.int 0) q.1 A s s.heap ∧ va_OF "java/lang/String" "value" "[B" (.ref q.2) q.1 A s s.heap ∧ va_T .byte q.2 bs.length (fun j => .int (bs.getD j 0)) A s s.heap := by
  have h1 := h _ (List.mem_append_left _ (List.mem_of_getElem? (i := 0) rfl))
  have h2 := h _ (List.mem_append_left _ (List.mem_of_getElem? (i := 1) rfl))
  have h3 := h _ (List.mem_append_left _ (List.mem_of_getElem? (i := 2) rfl))
  have h4 := h _ (List.mem_append_left _ (List.mem_of_getElem? (i := 3) rfl))
  have h5 : ∀ j : Nat, j < bs.length → (Cond.eq (.elem (.field (.string own k) "java/lang/String" "value" "[B") (.int (Int32.ofNat j))) (.int (bs.getD j 0))).before args s = true := fun j hj => h _ (List.mem_append_right _ (List.mem_map.mpr ⟨j, List.mem_range.mpr hj, rfl⟩))
  obtain ⟨a, c, cA, kA, q1, q2, q3, q4, q5, q6, -⟩ := Cond.exactly_spec (args := args) (first := s) (o := none) (s := s) (idx := []) (t := Term.string own k) (cls := "java/lang/String") h1
  obtain ⟨t, ht, hT⟩ := va_Tof (f := fun j => .int (bs.getD j 0)) (A := A) hn h3 (va_eqt h4) (fun j hj => va_eqt (h5 j hj)) hA
  exact ⟨(a, t), q1, ⟨cA, q3, q5, by rw [q6]; exact q2, hA a (Array.getElem?_eq_some_iff.mp q3).1⟩, vk_OFof q1 (va_eqt h2) hA, vk_OFof q1 ht hA, hT⟩
def sq_all : List Cond := (List.range 67).flatMap (fun i => sq_c (mk_str.getD i ("", 0, "")).1 (mk_str.getD i ("", 0, "")).2.1 (mk_sb.getD i []))
set_option maxRecDepth 100000 in
theorem sq_sub : sq_all.isSublist (flatC (Jvm.Cond.and given_1 narrow_1)) = true := by decide +kernel
theorem sq_in : ∀ c ∈ sq_all, c ∈ flatC (Jvm.Cond.and given_1 narrow_1) := fun c hc => (List.isSublist_iff_sublist.mp sq_sub).subset hc
def sq_isR : Cond → Bool
  | .stringRef .. => true
  | _ => false
set_option maxRecDepth 100000 in
theorem sq_ref : (mk_str.map (fun q => Cond.stringRef q.1 q.2.1 q.2.2)).isSublist tables_1 = true := by decide +kernel
theorem sq_rin {q : String × Nat × String} (h : q ∈ mk_str) : Cond.stringRef q.1 q.2.1 q.2.2 ∈ lw_tbl := List.mem_append_right _ ((List.isSublist_iff_sublist.mp sq_ref).subset (List.mem_map.mpr ⟨q, h, rfl⟩))
theorem sq_small : ∀ i, i < 67 → (mk_sb.getD i []).length < 2 ^ 31 := by decide +kernel
theorem sq_len : mk_sb.length = 67 ∧ mk_str.length = 67 := ⟨rfl, rfl⟩
theorem sq_inst : ∀ (k : Nat) (r : vw_C), mk_cl[k]? = some r → ∃ n, Cond.instantiable r.1 n ∈ mk_T := by
  intro k r h
  match k, h with
  | 0, h => cases h; exact ⟨_, w_30⟩
  | 1, h => cases h; exact ⟨_, w_84⟩
  | 2, h => cases h; exact ⟨_, w_128⟩
  | 3, h => cases h; exact ⟨_, w_112⟩
  | 4, h => cases h; exact ⟨_, w_56⟩
  | 5, h => cases h; exact ⟨_, w_162⟩
  | 6, h => cases h; exact ⟨_, w_156⟩
  | 7, h => cases h; exact ⟨_, w_22⟩
  | 8, h => cases h; exact ⟨_, w_892⟩
  | 9, h => cases h; exact ⟨_, w_458⟩
  | k + 10, h => simp [mk_cl] at h
theorem sq_over : (Cond.arrayOver (.object "ProgramReader$Tree")) ∈ lw_tbl ∧ (Cond.arrayOver (.object "java/lang/String")) ∈ lw_tbl := ⟨by decide +kernel, by decide +kernel⟩
theorem sq_lays : (∀ q ∈ mk_L, Cond.laysStatic q.1 q.2.1 q.2.2 ∈ lw_tbl) ∧ Cond.laysStatic "java/lang/String" "COMPACT_STRINGS" "Z" ∈ lw_tbl := ⟨by decide +kernel, by decide +kernel⟩
theorem sq_refs : (∀ q ∈ mk_L, Cond.isRef (.static q.1 q.2.1 q.2.2) ∈ flatC (Jvm.Cond.and given_1 narrow_1)) ∧ Cond.eq (.static "java/lang/String" "COMPACT_STRINGS" "Z") (.int 1) ∈ flatC (Jvm.Cond.and given_1 narrow_1) := ⟨by decide +kernel, by decide +kernel⟩
theorem sq_prim {s : State} {args : Array Value} {ty : FieldType} (hp : ∀ cA, s.vm.findClass ("[" ++ ty.toString) = some cA → va_RA s cA ty) (h : (Cond.arrayClass ty).before args s = true) : ∃ cA, ArrOfT s cA ty ∧ va_RA s cA ty := by
  obtain ⟨c, k, comp, h1, h2, h3⟩ := Cond.arrayClass_spec h
  exact ⟨c, fun n z => ⟨fun k h => (by cases h), k, h2, comp, h3⟩, hp c h1⟩
theorem sq_obj {s : State} {args : Array Value} {C : String} (h : (Cond.arrayOver (.object C)).before args s = true) : ∃ cA, ArrOfT s cA (.object C) ∧ va_RA s cA (.object C) := by
  obtain ⟨comp, c, k, h1, -, h3, h4, h5⟩ := Cond.arrayOver_spec h
  exact ⟨c, fun n z => ⟨fun k h => (by cases h), k, h3, comp, h4⟩, k, comp, h3, h4, h1, h5⟩
theorem sq_known {l : Launch} {s : State} {b L : Nat} {xs : Nat → Int32} (hL : L ≤ 3072) (hts : ∀ w ∈ lw_tbl, w.before #[Value.ref b] s = true) (hX : va_X b L xs s s.heap) (hbl : b < s.heap.size) (hgv : (Jvm.Cond.and given_1 narrow_1).before #[Value.ref b] s = true) :
    ∃ (C : Nat → ClassId) (I : Nat → Nat → Nat) (A : Nat → ClassId) (K V : Nat → Nat), mv_K (l, C, I, A, s.heap.size, s.heap, K, V, b, L, xs) s := by
  have hfl := flat_of_before _ hgv
  have htT : ∀ w ∈ mk_T, w.before #[Value.ref b] s = true := fun w hw => hts w (List.mem_filter.mp hw).1
  have hA : ∀ a : Nat, a < s.heap.size → ¬ (fun q : Nat => s.heap.size ≤ q) a := fun a h => Nat.not_le.mpr h
  have h1 : ∀ k : Nat, ∃ q : ClassId × (Nat → Nat), ∀ r, mk_cl[k]? = some r → u_Kn s r.1 r.2.1 r.2.2 q.1 q.2 := by
    intro k
    cases h : mk_cl[k]? with
    | none => exact ⟨(0, fun _ => 0), fun r hr => by cases hr⟩
    | some r =>
      obtain ⟨n, hn⟩ := sq_inst k r h
      obtain ⟨c, i, hK⟩ := u_known (ws := mk_T) (C := r.1) (T := r.2.1) (N := r.2.2) (n := n) htT (mk_ok k r h).2.2 (htT _ hn)
      exact ⟨(c, i), fun r' h' => by cases h'; exact hK⟩
  have h2 : ∀ t : Nat, ∃ cA : ClassId, ∀ ty, mk_ty[t]? = some ty → ArrOfT s cA ty ∧ va_RA s cA ty := by
    intro t
    match t with
    | 0 =>
      obtain ⟨c, hc⟩ := sq_prim (ty := .int) (fun _ h => h) (htT _ w_82)
      exact ⟨c, fun ty h => by cases h; exact hc⟩
    | 1 =>
      obtain ⟨c, hc⟩ := sq_prim (ty := .byte) (fun _ h => h) (htT _ w_54)
      exact ⟨c, fun ty h => by cases h; exact hc⟩
    | 2 =>
      obtain ⟨c, hc⟩ := sq_obj (hts _ sq_over.1)
      exact ⟨c, fun ty h => by cases h; exact hc⟩
    | 3 =>
      obtain ⟨c, hc⟩ := sq_obj (hts _ sq_over.2)
      exact ⟨c, fun ty h => by cases h; exact hc⟩
    | t + 4 => exact ⟨0, fun ty h => by simp [mk_ty] at h⟩
  have h3 : ∀ i : Nat, ∃ q : Nat × Nat, i < 67 → (Term.string (mk_str.getD i ("", 0, "")).1 (mk_str.getD i ("", 0, "")).2.1).eval #[Value.ref b] s none [] s = some (.ref q.1) ∧ va_O "java/lang/String" q.1 (fun q : Nat => s.heap.size ≤ q) s s.heap ∧ va_OF "java/lang/String" "coder" "B" (.int 0) q.1 (fun q : Nat => s.heap.size ≤ q) s s.heap ∧ va_OF "java/lang/String" "value" "[B" (.ref q.2) q.1 (fun q : Nat => s.heap.size ≤ q) s s.heap ∧ va_T .byte q.2 (mk_sb.getD i []).length (fun j => .int ((mk_sb.getD i []).getD j 0)) (fun q : Nat => s.heap.size ≤ q) s s.heap := by
    intro i
    by_cases hi : i < 67
    · obtain ⟨q, hq⟩ := sq_str (args := #[Value.ref b]) (s := s) (own := (mk_str.getD i ("", 0, "")).1) (k := (mk_str.getD i ("", 0, "")).2.1) (bs := mk_sb.getD i []) (A := fun q : Nat => s.heap.size ≤ q) (fun c hc => hfl c (sq_in c (List.mem_flatMap.mpr ⟨i, List.mem_range.mpr hi, hc⟩))) (sq_small i hi) hA
      exact ⟨q, fun _ => hq⟩
    · exact ⟨(0, 0), fun h => absurd h hi⟩
  obtain ⟨f1, hf1⟩ := Classical.axiomOfChoice h1
  obtain ⟨f2, hf2⟩ := Classical.axiomOfChoice h2
  obtain ⟨f3, hf3⟩ := Classical.axiomOfChoice h3
  refine ⟨fun k => (f1 k).1, fun k => (f1 k).2, f2, fun i => (f3 i).1, fun i => (f3 i).2, hf1, hf2, ?_, ?_, ?_, ?_, ?_, ?_, ?_, ?_⟩
  · intro w hw
    obtain ⟨g1, g2⟩ := List.mem_filter.mp hw
    refine va_Nw.of ?_ (hts w g1)
    cases w <;> first | rfl | (simp [mk_isN] at g2)
  · intro C hC
    have hC' : C = "ProgramReader$Tree" ∨ C = "java/lang/String" := by simpa [mk_O] using hC
    rcases hC' with rfl | rfl
    · exact va_AO.of (hts _ sq_over.1)
    · exact va_AO.of (hts _ sq_over.2)
  · intro w hw
    obtain ⟨g1, g2⟩ := List.mem_filter.mp hw
    refine va_Nw.of ?_ (hts w g1)
    cases w <;> first | rfl | (simp [mk_isX] at g2)
  · intro q hq
    exact mz_L.of (hts _ (sq_lays.1 q hq)) (hfl _ (sq_refs.1 q hq))
  · intro i hi
    exact (hf3 i (by rw [sq_len.1] at hi; exact hi)).2
  · intro i q hq
    have hi : i < 67 := by
      have := (List.getElem?_eq_some_iff.mp hq).1
      rw [sq_len.2] at this
      exact this
    have e : mk_str.getD i ("", 0, "") = q := by rw [List.getD_eq_getElem?_getD, hq]; rfl
    have k := (hf3 i hi).1
    rw [e] at k
    exact vk_R.of (hts _ (sq_rin (List.mem_of_getElem? hq))) k
  · exact va_Zof (hts _ sq_lays.2) (htT _ w_13) (va_eqi (hfl _ sq_refs.2)) hA
  · obtain ⟨scr, x1, x2, x3, x4, x5⟩ := hX
    exact ⟨scr, x1, x2, x3, Nat.le_of_eq x4.symm, by first | (rw [x4]; done) | (rw [x4]; rfl), x5, hA b hbl⟩
