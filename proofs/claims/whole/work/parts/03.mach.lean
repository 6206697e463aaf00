/-! THE PURE HEAP. What stands at an address (0: nothing that is known; 2k+1: an object of class k of mk_cl; 2t+2: an array of type t of mk_ty), fields with numbers, fields with references, arrays with numbers, arrays with references, lengths, the next address. -/
abbrev mh_H : Type := (Nat → Nat) × (Nat → Nat → Nat → Int32) × (Nat → Nat → Nat → Option Nat) × (Nat → Nat → Int32) × (Nat → Nat → Option Nat) × (Nat → Nat) × Nat
abbrev hT (σ : mh_H) : Nat → Nat := σ.1
abbrev hI (σ : mh_H) : Nat → Nat → Nat → Int32 := σ.2.1
abbrev hR (σ : mh_H) : Nat → Nat → Nat → Option Nat := σ.2.2.1
abbrev hA (σ : mh_H) : Nat → Nat → Int32 := σ.2.2.2.1
abbrev hQ (σ : mh_H) : Nat → Nat → Option Nat := σ.2.2.2.2.1
abbrev hN (σ : mh_H) : Nat → Nat := σ.2.2.2.2.2.1
abbrev hX (σ : mh_H) : Nat := σ.2.2.2.2.2.2
def mh_setI (σ : mh_H) (k j a : Nat) (v : Int32) : mh_H := (σ.1, (fun k' j' a' => if k' = k ∧ j' = j ∧ a' = a then v else σ.2.1 k' j' a'), σ.2.2)
def mh_setR (σ : mh_H) (k j a : Nat) (v : Option Nat) : mh_H := (σ.1, σ.2.1, (fun k' j' a' => if k' = k ∧ j' = j ∧ a' = a then v else σ.2.2.1 k' j' a'), σ.2.2.2)
def mh_setA (σ : mh_H) (a i : Nat) (v : Int32) : mh_H := (σ.1, σ.2.1, σ.2.2.1, (fun a' => if a' = a then upd (σ.2.2.2.1 a') i v else σ.2.2.2.1 a'), σ.2.2.2.2)
def mh_setQ (σ : mh_H) (a i : Nat) (v : Option Nat) : mh_H := (σ.1, σ.2.1, σ.2.2.1, σ.2.2.2.1, (fun a' => if a' = a then va_up (σ.2.2.2.2.1 a') i v else σ.2.2.2.2.1 a'), σ.2.2.2.2.2)
/-- a new object of class k -/
def mh_new (σ : mh_H) (k : Nat) : mh_H := ((fun a => if a = hX σ then 2 * k + 1 else hT σ a), (fun k' j' a => if a = hX σ then 0 else hI σ k' j' a), (fun k' j' a => if a = hX σ then none else hR σ k' j' a), hA σ, hQ σ, hN σ, hX σ + 1)
/-- a new array of type t with n places -/
def mh_arr (σ : mh_H) (t n : Nat) : mh_H := ((fun a => if a = hX σ then 2 * t + 2 else hT σ a), hI σ, hR σ, (fun a => if a = hX σ then (fun _ => 0) else hA σ a), (fun a => if a = hX σ then (fun _ => none) else hQ σ a), (fun a => if a = hX σ then n else hN σ a), hX σ + 1)
theorem hT_setI {σ : mh_H} {k j a : Nat} {v : Int32} : hT (mh_setI σ k j a v) = hT σ := rfl
theorem hR_setI {σ : mh_H} {k j a : Nat} {v : Int32} : hR (mh_setI σ k j a v) = hR σ := rfl
theorem hA_setI {σ : mh_H} {k j a : Nat} {v : Int32} : hA (mh_setI σ k j a v) = hA σ := rfl
theorem hQ_setI {σ : mh_H} {k j a : Nat} {v : Int32} : hQ (mh_setI σ k j a v) = hQ σ := rfl
theorem hN_setI {σ : mh_H} {k j a : Nat} {v : Int32} : hN (mh_setI σ k j a v) = hN σ := rfl
theorem hX_setI {σ : mh_H} {k j a : Nat} {v : Int32} : hX (mh_setI σ k j a v) = hX σ := rfl
theorem hT_setR {σ : mh_H} {k j a : Nat} {v : Option Nat} : hT (mh_setR σ k j a v) = hT σ := rfl
theorem hI_setR {σ : mh_H} {k j a : Nat} {v : Option Nat} : hI (mh_setR σ k j a v) = hI σ := rfl
theorem hA_setR {σ : mh_H} {k j a : Nat} {v : Option Nat} : hA (mh_setR σ k j a v) = hA σ := rfl
theorem hQ_setR {σ : mh_H} {k j a : Nat} {v : Option Nat} : hQ (mh_setR σ k j a v) = hQ σ := rfl
theorem hN_setR {σ : mh_H} {k j a : Nat} {v : Option Nat} : hN (mh_setR σ k j a v) = hN σ := rfl
theorem hX_setR {σ : mh_H} {k j a : Nat} {v : Option Nat} : hX (mh_setR σ k j a v) = hX σ := rfl
theorem hT_setA {σ : mh_H} {a i : Nat} {v : Int32} : hT (mh_setA σ a i v) = hT σ := rfl
theorem hI_setA {σ : mh_H} {a i : Nat} {v : Int32} : hI (mh_setA σ a i v) = hI σ := rfl
theorem hR_setA {σ : mh_H} {a i : Nat} {v : Int32} : hR (mh_setA σ a i v) = hR σ := rfl
theorem hQ_setA {σ : mh_H} {a i : Nat} {v : Int32} : hQ (mh_setA σ a i v) = hQ σ := rfl
theorem hN_setA {σ : mh_H} {a i : Nat} {v : Int32} : hN (mh_setA σ a i v) = hN σ := rfl
theorem hX_setA {σ : mh_H} {a i : Nat} {v : Int32} : hX (mh_setA σ a i v) = hX σ := rfl
theorem hT_setQ {σ : mh_H} {a i : Nat} {v : Option Nat} : hT (mh_setQ σ a i v) = hT σ := rfl
theorem hI_setQ {σ : mh_H} {a i : Nat} {v : Option Nat} : hI (mh_setQ σ a i v) = hI σ := rfl
theorem hR_setQ {σ : mh_H} {a i : Nat} {v : Option Nat} : hR (mh_setQ σ a i v) = hR σ := rfl
theorem hA_setQ {σ : mh_H} {a i : Nat} {v : Option Nat} : hA (mh_setQ σ a i v) = hA σ := rfl
theorem hN_setQ {σ : mh_H} {a i : Nat} {v : Option Nat} : hN (mh_setQ σ a i v) = hN σ := rfl
theorem hX_setQ {σ : mh_H} {a i : Nat} {v : Option Nat} : hX (mh_setQ σ a i v) = hX σ := rfl
theorem hI_setI {σ : mh_H} {k j a : Nat} {v : Int32} (k' j' a' : Nat) : hI (mh_setI σ k j a v) k' j' a' = if k' = k ∧ j' = j ∧ a' = a then v else hI σ k' j' a' := rfl
theorem hR_setR {σ : mh_H} {k j a : Nat} {v : Option Nat} (k' j' a' : Nat) : hR (mh_setR σ k j a v) k' j' a' = if k' = k ∧ j' = j ∧ a' = a then v else hR σ k' j' a' := rfl
theorem hA_setA {σ : mh_H} {a i : Nat} {v : Int32} (a' : Nat) : hA (mh_setA σ a i v) a' = if a' = a then upd (hA σ a') i v else hA σ a' := rfl
theorem hQ_setQ {σ : mh_H} {a i : Nat} {v : Option Nat} (a' : Nat) : hQ (mh_setQ σ a i v) a' = if a' = a then va_up (hQ σ a') i v else hQ σ a' := rfl
theorem hT_new {σ : mh_H} {k : Nat} (a : Nat) : hT (mh_new σ k) a = if a = hX σ then 2 * k + 1 else hT σ a := rfl
theorem hI_new {σ : mh_H} {k : Nat} (k' j' a : Nat) : hI (mh_new σ k) k' j' a = if a = hX σ then 0 else hI σ k' j' a := rfl
theorem hR_new {σ : mh_H} {k : Nat} (k' j' a : Nat) : hR (mh_new σ k) k' j' a = if a = hX σ then none else hR σ k' j' a := rfl
theorem hA_new {σ : mh_H} {k : Nat} : hA (mh_new σ k) = hA σ := rfl
theorem hQ_new {σ : mh_H} {k : Nat} : hQ (mh_new σ k) = hQ σ := rfl
theorem hN_new {σ : mh_H} {k : Nat} : hN (mh_new σ k) = hN σ := rfl
theorem hX_new {σ : mh_H} {k : Nat} : hX (mh_new σ k) = hX σ + 1 := rfl
theorem hT_arr {σ : mh_H} {t n : Nat} (a : Nat) : hT (mh_arr σ t n) a = if a = hX σ then 2 * t + 2 else hT σ a := rfl
theorem hI_arr {σ : mh_H} {t n : Nat} : hI (mh_arr σ t n) = hI σ := rfl
theorem hR_arr {σ : mh_H} {t n : Nat} : hR (mh_arr σ t n) = hR σ := rfl
theorem hA_arr {σ : mh_H} {t n : Nat} (a : Nat) : hA (mh_arr σ t n) a = if a = hX σ then (fun _ => 0) else hA σ a := rfl
theorem hQ_arr {σ : mh_H} {t n : Nat} (a : Nat) : hQ (mh_arr σ t n) a = if a = hX σ then (fun _ => none) else hQ σ a := rfl
theorem hN_arr {σ : mh_H} {t n : Nat} (a : Nat) : hN (mh_arr σ t n) a = if a = hX σ then n else hN σ a := rfl
theorem hX_arr {σ : mh_H} {t n : Nat} : hX (mh_arr σ t n) = hX σ + 1 := rfl
/-- a stretch of the array a0 copied into a -/
def mh_cpy (σ : mh_H) (a0 a sp dp n : Nat) : mh_H := (σ.1, σ.2.1, σ.2.2.1, (fun a' => if a' = a then va_cpy (σ.2.2.2.1 a0) (σ.2.2.2.1 a) sp dp n else σ.2.2.2.1 a'), σ.2.2.2.2)
/-- the value of a field of a type -/
def mv_val (ty : FieldType) (i : Int32) (r : Option Nat) : Value := match ty with
  | .object _ => va_rf r
  | .array _ => va_rf r
  | _ => .int i
def mv_cell (ty : FieldType) (c : ClassId) (n : Nat) (f : Nat → Int32) (q : Nat → Option Nat) : Cell := match ty with
  | .object _ => vp_cell c (n, .inr (.inr (.inr (.inr q))))
  | .array _ => vp_cell c (n, .inr (.inr (.inr (.inr q))))
  | _ => vp_cell c (n, .inl f)
/-- what a whole run has in common: launch, classes' numbers, their slots, arrays' classes, where its own cells begin, the heap below that, the addresses of the text constants and of their bytes -/
abbrev mv_G : Type := Launch × (Nat → ClassId) × (Nat → Nat → Nat) × (Nat → ClassId) × Nat × Heap × (Nat → Nat) × (Nat → Nat) × Nat × Nat × (Nat → Int32)
abbrev mg_l (g : mv_G) : Launch := g.1
abbrev mg_C (g : mv_G) : Nat → ClassId := g.2.1
abbrev mg_I (g : mv_G) : Nat → Nat → Nat := g.2.2.1
abbrev mg_A (g : mv_G) : Nat → ClassId := g.2.2.2.1
abbrev mg_b (g : mv_G) : Nat := g.2.2.2.2.1
abbrev mg_H (g : mv_G) : Heap := g.2.2.2.2.2.1
abbrev mg_K (g : mv_G) : Nat → Nat := g.2.2.2.2.2.2.1
abbrev mg_V (g : mv_G) : Nat → Nat := g.2.2.2.2.2.2.2.1
/-- the script: where it stands, its length, its ints -/
abbrev mg_S (g : mv_G) : Nat × Nat × (Nat → Int32) := g.2.2.2.2.2.2.2.2
/-- a cell below the run's own -/
abbrev mg_Z (g : mv_G) : Nat → Prop := fun q => mg_b g ≤ q
/-- a static reference field of the JDK's, as 'laysStatic' and 'isRef' say it -/
def mz_L (C n d : String) (b : Nat) (U : State) (H : Heap) : Prop := ∃ (c : ClassId) (k : Class) (i : Nat) (f : Field) (a : Nat) (cell : Cell) (v : Value), U.vm.findClass C = some c ∧ U.fieldFound? C n d = some (c, k, i, f) ∧ f.isStatic = true ∧ k.statics = some a ∧ H[a]? = some cell ∧ a < b ∧ cell.vm.isStatics = true ∧ cell.cls = c ∧ f.slot < cell.slots.size ∧ k.staticTypes[f.slot]? = some f.type ∧ cell.slots[f.slot]? = some v ∧ (v = .null ∨ ∃ t, v = .ref t)
theorem mz_L.moved {C n d : String} {b : Nat} {u U : State} {H : Heap} (hvm : u.vm.Alike U.vm) (h : mz_L C n d b u H) : mz_L C n d b U H := by
  obtain ⟨c, k, i, f, a, cell, v, h1, h2, h3, h4, h5, h6, h7, h8, h9, h10, h11⟩ := h
  obtain ⟨k', hi', he⟩ := State.fieldFound?_setVm hvm h2
  exact ⟨c, k', i, f, a, cell, v, by rw [hvm.findClass]; exact h1, hi', h3, by rw [he]; exact h4, h5, h6, h7, h8, h9, by rw [he]; exact h10, h11⟩
theorem mz_L.of {args : Array Value} {s : State} {C n d : String} (hl : (Cond.laysStatic C n d).before args s = true) (h : (Cond.isRef (.static C n d)).before args s = true) : mz_L C n d s.heap.size s s.heap := by
  obtain ⟨c, k, i, f, a, cell, hc, hi, hst, ha, hcell, hs, hcls, hlt, hty⟩ := Cond.laysStatic_spec hl
  cases hv : (Term.static C n d).eval args s none [] s with
  | none => simp [Cond.before, Cond.holds, Cond.value, hv] at h
  | some w =>
    obtain ⟨hst', a', cell', ha', hcell', -, hslot⟩ := Term.static_spec hi hv
    cases ha.symm.trans ha'
    cases hcell.symm.trans hcell'
    refine ⟨c, k, i, f, a, cell, w, hc, hi, hst, ha, hcell, (Array.getElem?_eq_some_iff.mp hcell).1, hs, hcls, hlt, hty, hslot, ?_⟩
    simp only [Cond.before, Cond.holds, Cond.value, hv] at h
    cases w with
    | null => exact Or.inl rfl
    | ref t => exact Or.inr ⟨t, rfl⟩
    | _ => simp at h
theorem mz_L.lays {args : Array Value} {s : State} {C n d : String} {b : Nat} {H : Heap} (h : mz_L C n d b s H) (hq : ∀ q : Nat, q < b → s.heap[q]? = H[q]?) : (Cond.laysStatic C n d).before args s = true := by
  obtain ⟨c, k, i, f, a, cell, v, hc, hf, hst, hsta, hcell, hab, hiss, hcls, hlt, hty, -⟩ := h
  have hcell' : s.heap[a]? = some cell := by rw [hq a hab]; exact hcell
  simp [Cond.before, Cond.holds, Cond.value, hc, hf, hst, hsta, hcell', hiss, hcls, hlt, hty]
theorem mz_L.isRef {args : Array Value} {s : State} {C n d : String} {b : Nat} {H : Heap} (h : mz_L C n d b s H) (hq : ∀ q : Nat, q < b → s.heap[q]? = H[q]?) : (Cond.isRef (.static C n d)).before args s = true := by
  obtain ⟨c, k, i, f, a, cell, v, hc, hf, hst, hsta, hcell, hab, hiss, hcls, hlt, hty, hv, hr⟩ := h
  have hcell' : s.heap[a]? = some cell := by rw [hq a hab]; exact hcell
  have he : (Term.static C n d).eval args s none [] s = some v := by
    simp [Term.eval, State.fieldNamed?, hf, hst, hsta, hcell', hiss, hv]
  simp only [Cond.before, Cond.holds, Cond.value, he]
  rcases hr with e | ⟨x, e⟩ <;> simp [e]
def mv_K (g : mv_G) (U : State) : Prop :=
  (∀ (k : Nat) (q : vw_C), mk_cl[k]? = some q → u_Kn U q.1 q.2.1 q.2.2 (mg_C g k) (mg_I g k)) ∧
  (∀ (t : Nat) (ty : FieldType), mk_ty[t]? = some ty → ArrOfT U (mg_A g t) ty ∧ va_RA U (mg_A g t) ty) ∧
  (∀ w ∈ mk_N, va_Nw w U) ∧ (∀ C ∈ mk_O, va_AO C U) ∧ (∀ w ∈ mk_X, va_Nw w U) ∧ (∀ q ∈ mk_L, mz_L q.1 q.2.1 q.2.2 (mg_b g) U (mg_H g)) ∧
  (∀ i, i < mk_sb.length → va_O "java/lang/String" (mg_K g i) (mg_Z g) U (mg_H g) ∧ va_OF "java/lang/String" "coder" "B" (.int 0) (mg_K g i) (mg_Z g) U (mg_H g) ∧ va_OF "java/lang/String" "value" "[B" (.ref (mg_V g i)) (mg_K g i) (mg_Z g) U (mg_H g) ∧ va_T .byte (mg_V g i) (mk_sb.getD i []).length (fun j => .int ((mk_sb.getD i []).getD j 0)) (mg_Z g) U (mg_H g)) ∧
  (∀ (i : Nat) (q : String × Nat × String), mk_str[i]? = some q → vk_R q.1 q.2.1 q.2.2 (mg_K g i) U) ∧
  va_Z "java/lang/String" "COMPACT_STRINGS" "Z" (.int 1) (mg_Z g) U (mg_H g) ∧
  va_T .int (mg_S g).1 (mg_S g).2.1 (fun j => .int ((mg_S g).2.2 j)) (mg_Z g) U (mg_H g)
def mv_R (g : mv_G) (σ : mh_H) (H : Heap) : Prop :=
  H.size = hX σ ∧ mg_b g ≤ H.size ∧ (∀ q : Nat, q < mg_b g → H[q]? = (mg_H g)[q]?) ∧ (∀ a, hT σ a ≠ 0 → mg_b g ≤ a ∧ a < H.size) ∧
  (∀ a k, hT σ a = 2 * k + 1 → ∃ r : vw_C, mk_cl[k]? = some r ∧ t_OB a (mg_C g k) r.2.2 (mg_I g k) H (fun j => mv_val (mk_fty k j) (hI σ k j a) (hR σ k j a))) ∧
  (∀ a t, hT σ a = 2 * t + 2 → ∃ ty : FieldType, mk_ty[t]? = some ty ∧ H[a]? = some (mv_cell ty (mg_A g t) (hN σ a) (hA σ a) (hQ σ a)) ∧ (ty = .byte → ∀ j, fits .byte (.int (hA σ a j)) = true))
/-- a method: its name, bytes, locals, answer, handlers -/
abbrev mv_M : Type := MethodName × ByteArray × Nat × Option FieldType × List (Nat × Nat × Nat × Nat)
def mv_C (g : mv_G) (M : mv_M) (p : Program) (s : State) (m : MethodId) (args : Array Value) (meth : Method) (c : Code) : Prop :=
  p.tables.exec = Jvm.exec ∧ c.code = M.2.1 ∧ c.maxLocals = M.2.2.1 ∧ s.vm.findClass M.1.cls = some m.cls ∧ (∀ w ∈ mk_T, w.before args s = true) ∧ meth.sig.returnType = M.2.2.2.1 ∧ meth.locks = false ∧ meth.name = M.1.name ∧ c.exceptionTable.toList = tableOf M.2.2.2.2 ∧ mv_K g s ∧ mg_b g ≤ s.heap.size ∧ (∀ q : Nat, q < mg_b g → s.heap[q]? = (mg_H g)[q]?)
/-- the locals, by place -/
def mv_prs : Nat → List (Option Value) → List (Nat × Value)
  | _, [] => []
  | i, none :: l => mv_prs (i + 1) l
  | i, some v :: l => (i, v) :: mv_prs (i + 1) l
def mv_Qc (g : mv_G) (Q : Outcome → mh_H → Prop) : Array Value → State → Outcome → State → Prop := fun _ _ oc t => ∃ σ : mh_H, Q oc σ ∧ mv_R g σ t.heap
/-- the method M, with F frames and Lw words free above it, cb cells and sb slots left to make, at pc with locals L, operands st and the heap σ, ends with Q -/
def mv_V (g : mv_G) (M : mv_M) (F Lw cb sb pc : Nat) (L : List (Option Value)) (st : List Value) (σ : mh_H) (Q : Outcome → mh_H → Prop) : Prop :=
  ∀ (p : Program) (e : Env) (R : Room) (s : State) (m : MethodId) (args : Array Value) (below : List Frame) (meth : Method) (c : Code) (H : Heap) (locs : List Loc) (cells slots : Nat) (ls : Array Slot) (Kc Ks : Nat),
    mv_C g M p s m args meth c → R.frames = F → R.locals = Lw → R.cells = Kc + 1 → R.slots = Ks + 6 → cells + cb ≤ Kc → slots + sb ≤ Ks → mv_R g σ H → (∀ q ∈ locs, mg_b g ≤ q.base) → lv_has ls M.2.2.1 (mv_prs 0 L) →
    W p (mg_l g) e R s m args below meth c H locs cells slots (tk_Q below (mv_Qc g Q) args s Kc Ks (fun q => mg_b g ≤ q)) (F0 m pc ls st)
/-- the method's contract at these arguments and this heap -/
def mv_Met (g : mv_G) (M : mv_M) (F Lw mc ms : Nat) (as : List Value) (σ : mh_H) (Q : Outcome → mh_H → Prop) : Prop :=
  tk_Met (mg_l g) M.1 (Cond.code M.1 M.2.1 M.2.2.1 M.2.2.2.1 :: mk_T) { frames := F, cells := mc + 1, slots := ms + 6, locals := Lw } (fun v U => v = as.toArray ∧ mv_K g U ∧ mg_b g ≤ U.heap.size ∧ mv_R g σ U.heap) (mv_Qc g Q) mc ms (fun q => mg_b g ≤ q)
theorem mv_K.moved {g : mv_G} {u U : State} (hW : u.WarmedH U.vm) (h : mv_K g u) (hn : ∀ w ∈ mk_N, va_Nw w u → va_Nw w U) (hx : ∀ w ∈ mk_X, va_Nw w u → va_Nw w U) : mv_K g U :=
  ⟨fun k q hq => u_Kn_moved hW.alike (h.1 k q hq), fun t ty ht => ⟨arrOfT_moved hW.alike (h.2.1 t ty ht).1, (h.2.1 t ty ht).2.moved hW.alike⟩, fun w hw => hn w hw (h.2.2.1 w hw), fun C hC => (h.2.2.2.1 C hC).moved hW.alike,
    fun w hw => hx w hw (h.2.2.2.2.1 w hw), fun q hq => (h.2.2.2.2.2.1 q hq).moved hW.alike,
    fun i hi => ⟨(h.2.2.2.2.2.2.1 i hi).1.moved hW.alike, (h.2.2.2.2.2.2.1 i hi).2.1.moved hW.alike, (h.2.2.2.2.2.2.1 i hi).2.2.1.moved hW.alike, (h.2.2.2.2.2.2.1 i hi).2.2.2.moved hW.alike⟩,
    fun i q hq => (h.2.2.2.2.2.2.2.1 i q hq).warm hW, h.2.2.2.2.2.2.2.2.1.moved hW.alike, h.2.2.2.2.2.2.2.2.2.moved hW.alike⟩
theorem mv_prs_mem : ∀ (L : List (Option Value)) (i : Nat) (q : Nat × Value), q ∈ mv_prs i L ↔ ∃ j, q.1 = i + j ∧ L[j]? = some (some q.2)
  | [], i, q => by simp [mv_prs]
  | none :: L, i, q => by
    simp only [mv_prs]
    rw [mv_prs_mem L (i + 1) q]
    constructor
    · rintro ⟨j, h1, h2⟩
      exact ⟨j + 1, by omega, by simpa using h2⟩
    · rintro ⟨j, h1, h2⟩
      cases j with
      | zero => simp at h2
      | succ j => exact ⟨j, by omega, by simpa using h2⟩
  | some v :: L, i, q => by
    simp only [mv_prs, List.mem_cons]
    rw [mv_prs_mem L (i + 1) q]
    constructor
    · rintro (h | ⟨j, h1, h2⟩)
      · exact ⟨0, by rw [h]; rfl, by rw [h]; rfl⟩
      · exact ⟨j + 1, by omega, by simpa using h2⟩
    · rintro ⟨j, h1, h2⟩
      cases j with
      | zero =>
        left
        simp at h2
        obtain ⟨a, b⟩ := q
        simp at h1 h2
        simp [h1, h2]
      | succ j => exact Or.inr ⟨j, by omega, by simpa using h2⟩
theorem mv_lat {ls : Array Slot} {n : Nat} {L : List (Option Value)} (h : lv_has ls n (mv_prs 0 L)) {i : Nat} {v : Value} (hi : L[i]? = some (some v)) : ls[i]? = some (.val v) :=
  h.2.2 (i, v) ((mv_prs_mem L 0 (i, v)).mpr ⟨i, by simp, hi⟩)
/-- fewer listed, or the same -/
theorem mv_lsub {ls : Array Slot} {n : Nat} {l l' : List (Nat × Value)} (h : lv_has ls n l) (hs : ∀ q ∈ l', q ∈ l) : lv_has ls n l' := ⟨h.1, h.2.1, fun q hq => h.2.2 q (hs q hq)⟩
def mv_clr (L : List (Option Value)) (i : Nat) : List (Option Value) := match i with
  | 0 => L
  | j + 1 => match L[j]? with
    | some (some (.long _)) => L.set j none
    | some (some (.double _)) => L.set j none
    | _ => L
def mv_st1 (L : List (Option Value)) (i : Nat) (v : Value) : List (Option Value) := (mv_clr L i).set i (some v)
def mv_st2 (L : List (Option Value)) (i : Nat) (v : Value) : List (Option Value) := ((mv_clr L i).set i (some v)).set (i + 1) none
theorem mv_clr_at {L : List (Option Value)} {i j : Nat} {v : Value} (h : (mv_clr L i)[j]? = some (some v)) : L[j]? = some (some v) ∧ ¬ (j + 1 = i ∧ v.category = 2) := by
  cases i with
  | zero => exact ⟨h, fun q => by omega⟩
  | succ k =>
    simp only [mv_clr] at h
    split at h
    · rename_i w hw
      by_cases hj : j = k
      · subst hj
        rw [List.getElem?_set] at h
        split at h <;> simp_all
      · rw [List.getElem?_set_ne (by omega)] at h
        exact ⟨h, fun q => by omega⟩
    · rename_i w hw
      by_cases hj : j = k
      · subst hj
        rw [List.getElem?_set] at h
        split at h <;> simp_all
      · rw [List.getElem?_set_ne (by omega)] at h
        exact ⟨h, fun q => by omega⟩
    · rename_i h1 h2
      refine ⟨h, fun q => ?_⟩
      have hj : j = k := by omega
      subst hj
      cases v <;> simp_all [Value.category]
theorem mv_st1_ok {L : List (Option Value)} {i : Nat} {v : Value} : ∀ q ∈ mv_prs 0 (mv_st1 L i v), q ∈ (i, v) :: (mv_prs 0 L).filter (fun q => !(q.1 == i) && !(q.1 + 1 == i && q.2.category == 2)) := by
  intro q hq
  obtain ⟨j, h1, h2⟩ := (mv_prs_mem _ 0 q).mp hq
  rw [Nat.zero_add] at h1
  unfold mv_st1 at h2
  by_cases hj : j = i
  · subst hj
    rw [List.getElem?_set] at h2
    split at h2
    · split at h2
      · have : v = q.2 := by simpa using h2
        obtain ⟨a, b⟩ := q
        simp only at h1 this
        subst h1; subst this
        exact List.mem_cons_self
      · cases h2
    · rename_i hh; exact absurd rfl hh
  · rw [List.getElem?_set_ne (fun e => hj e.symm)] at h2
    obtain ⟨g1, g2⟩ := mv_clr_at h2
    refine List.mem_cons_of_mem _ (List.mem_filter.mpr ⟨(mv_prs_mem L 0 q).mpr ⟨j, by omega, g1⟩, ?_⟩)
    rw [h1]
    simp only [Bool.and_eq_true, Bool.not_eq_true', Bool.and_eq_false_iff, beq_eq_false_iff_ne, ne_eq]
    refine ⟨hj, ?_⟩
    by_cases hc : q.2.category = 2
    · exact Or.inl (fun e => g2 ⟨e, hc⟩)
    · exact Or.inr hc
theorem mv_st2_ok {L : List (Option Value)} {i : Nat} {v : Value} : ∀ q ∈ mv_prs 0 (mv_st2 L i v), q ∈ (i, v) :: (mv_prs 0 L).filter (fun q => !(q.1 == i) && (!(q.1 == i + 1) && !(q.1 + 1 == i && q.2.category == 2))) := by
  intro q hq
  obtain ⟨j, h1, h2⟩ := (mv_prs_mem _ 0 q).mp hq
  rw [Nat.zero_add] at h1
  unfold mv_st2 at h2
  by_cases hj1 : j = i + 1
  · subst hj1
    rw [List.getElem?_set] at h2
    split at h2
    · split at h2 <;> simp_all
    · rename_i hh; exact absurd rfl hh
  rw [List.getElem?_set_ne (fun e => hj1 e.symm)] at h2
  by_cases hj : j = i
  · subst hj
    rw [List.getElem?_set] at h2
    split at h2
    · split at h2
      · have : v = q.2 := by simpa using h2
        obtain ⟨a, b⟩ := q
        simp only at h1 this
        subst h1; subst this
        exact List.mem_cons_self
      · cases h2
    · rename_i hh; exact absurd rfl hh
  · rw [List.getElem?_set_ne (fun e => hj e.symm)] at h2
    obtain ⟨g1, g2⟩ := mv_clr_at h2
    refine List.mem_cons_of_mem _ (List.mem_filter.mpr ⟨(mv_prs_mem L 0 q).mpr ⟨j, by omega, g1⟩, ?_⟩)
    rw [h1]
    simp only [Bool.and_eq_true, Bool.not_eq_true', Bool.and_eq_false_iff, beq_eq_false_iff_ne, ne_eq]
    refine ⟨hj, hj1, ?_⟩
    by_cases hc : q.2.category = 2
    · exact Or.inl (fun e => g2 ⟨e, hc⟩)
    · exact Or.inr hc
section MVR
variable {g : mv_G} {M : mv_M} {F Lw cb sb pc pc' : Nat} {L L' : List (Option Value)} {st st' : List Value} {σ σ' : mh_H} {Q : Outcome → mh_H → Prop}
theorem mv_go (h : ∀ (p : Program) (e : Env) (R : Room) (s : State) (m : MethodId) (args : Array Value) (below : List Frame) (meth : Method) (c : Code) (H : Heap) (locs : List Loc) (cells slots : Nat) (ls : Array Slot) (Z : State → Prop), mv_C g M p s m args meth c → lv_has ls M.2.2.1 (mv_prs 0 L) →
      W p (mg_l g) e R s m args below meth c H locs cells slots Z (F0 m pc' ls st') → W p (mg_l g) e R s m args below meth c H locs cells slots Z (F0 m pc ls st))
    (k : mv_V g M F Lw cb sb pc' L st' σ Q) : mv_V g M F Lw cb sb pc L st σ Q := by
  intro p e R s m args below meth c H locs cells slots ls Kc Ks C hF hL hk1 hk2 h1 h2 h3 h4 h5
  exact h p e R s m args below meth c H locs cells slots ls _ C h5 (k p e R s m args below meth c H locs cells slots ls Kc Ks C hF hL hk1 hk2 h1 h2 h3 h4 h5)
theorem mv_go2 {pc1 pc2 : Nat} {c1 c2 : Prop} (h : ∀ (p : Program) (e : Env) (R : Room) (s : State) (m : MethodId) (args : Array Value) (below : List Frame) (meth : Method) (c : Code) (H : Heap) (locs : List Loc) (cells slots : Nat) (ls : Array Slot) (Z : State → Prop), mv_C g M p s m args meth c →
      (c1 → W p (mg_l g) e R s m args below meth c H locs cells slots Z (F0 m pc1 ls st')) → (c2 → W p (mg_l g) e R s m args below meth c H locs cells slots Z (F0 m pc2 ls st')) → W p (mg_l g) e R s m args below meth c H locs cells slots Z (F0 m pc ls st))
    (k1 : c1 → mv_V g M F Lw cb sb pc1 L st' σ Q) (k2 : c2 → mv_V g M F Lw cb sb pc2 L st' σ Q) : mv_V g M F Lw cb sb pc L st σ Q := by
  intro p e R s m args below meth c H locs cells slots ls Kc Ks C hF hL hk1 hk2 h1 h2 h3 h4 h5
  exact h p e R s m args below meth c H locs cells slots ls _ C (fun z => k1 z p e R s m args below meth c H locs cells slots ls Kc Ks C hF hL hk1 hk2 h1 h2 h3 h4 h5) (fun z => k2 z p e R s m args below meth c H locs cells slots ls Kc Ks C hF hL hk1 hk2 h1 h2 h3 h4 h5)
theorem mv_goL (h : ∀ (p : Program) (e : Env) (R : Room) (s : State) (m : MethodId) (args : Array Value) (below : List Frame) (meth : Method) (c : Code) (H : Heap) (locs : List Loc) (cells slots : Nat) (ls : Array Slot) (Z : State → Prop), mv_C g M p s m args meth c → lv_has ls M.2.2.1 (mv_prs 0 L) →
      (∀ ls', lv_has ls' M.2.2.1 (mv_prs 0 L') → W p (mg_l g) e R s m args below meth c H locs cells slots Z (F0 m pc' ls' st')) → W p (mg_l g) e R s m args below meth c H locs cells slots Z (F0 m pc ls st))
    (k : mv_V g M F Lw cb sb pc' L' st' σ Q) : mv_V g M F Lw cb sb pc L st σ Q := by
  intro p e R s m args below meth c H locs cells slots ls Kc Ks C hF hL hk1 hk2 h1 h2 h3 h4 h5
  exact h p e R s m args below meth c H locs cells slots ls _ C h5 (fun ls' h5' => k p e R s m args below meth c H locs cells slots ls' Kc Ks C hF hL hk1 hk2 h1 h2 h3 h4 h5')
theorem vr_iconst {n : Int} (v : Int32) (hd : decode M.2.1 pc = .ok (.iconst n, 1)) (hv : Int32.ofInt n = v) (k : mv_V g M F Lw cb sb (pc + 1) L (.int v :: st) σ Q) : mv_V g M F Lw cb sb pc L st σ Q := mv_go (fun _ _ _ _ _ _ _ _ _ _ _ _ _ _ _ C _ w => lv_iconst C.1 C.2.1 hd hv w) k
theorem vr_bipush {n : Int} (v : Int32) (hd : decode M.2.1 pc = .ok (.bipush n, 2)) (hv : (Int8.ofInt n).toInt32 = v) (k : mv_V g M F Lw cb sb (pc + 2) L (.int v :: st) σ Q) : mv_V g M F Lw cb sb pc L st σ Q := mv_go (fun _ _ _ _ _ _ _ _ _ _ _ _ _ _ _ C _ w => lv_bipush C.1 C.2.1 hd hv w) k
theorem vr_sipush {n : Int} (v : Int32) (hd : decode M.2.1 pc = .ok (.sipush n, 3)) (hv : (Int16.ofInt n).toInt32 = v) (k : mv_V g M F Lw cb sb (pc + 3) L (.int v :: st) σ Q) : mv_V g M F Lw cb sb pc L st σ Q := mv_go (fun _ _ _ _ _ _ _ _ _ _ _ _ _ _ _ C _ w => lv_sipush C.1 C.2.1 hd hv w) k
theorem vr_lconst {n : Fin 2} (v : Int64) (hd : decode M.2.1 pc = .ok (.lconst n, 1)) (hv : Int64.ofNat (n : Nat) = v) (k : mv_V g M F Lw cb sb (pc + 1) L (.long v :: st) σ Q) : mv_V g M F Lw cb sb pc L st σ Q := mv_go (fun _ _ _ _ _ _ _ _ _ _ _ _ _ _ _ C _ w => lv_lconst C.1 C.2.1 hd hv w) k
theorem vr_iload_n {n : Fin 4} {i : Nat} {x : Int32} (hd : decode M.2.1 pc = .ok (.iload_n n, 1)) (hi : (n : Nat) = i) (hl : L[i]? = some (some (.int x))) (k : mv_V g M F Lw cb sb (pc + 1) L (.int x :: st) σ Q) : mv_V g M F Lw cb sb pc L st σ Q := mv_go (fun _ _ _ _ _ _ _ _ _ _ _ _ _ _ _ C l w => lv_iload_n C.1 C.2.1 hd hi (mv_lat l hl) w) k
theorem vr_iload {i : Nat} {x : Int32} (hd : decode M.2.1 pc = .ok (.iload i, 2)) (hl : L[i]? = some (some (.int x))) (k : mv_V g M F Lw cb sb (pc + 2) L (.int x :: st) σ Q) : mv_V g M F Lw cb sb pc L st σ Q := mv_go (fun _ _ _ _ _ _ _ _ _ _ _ _ _ _ _ C l w => lv_iload C.1 C.2.1 hd (mv_lat l hl) w) k
theorem vr_lload_n {n : Fin 4} {i : Nat} {x : Int64} (hd : decode M.2.1 pc = .ok (.lload_n n, 1)) (hi : (n : Nat) = i) (hl : L[i]? = some (some (.long x))) (k : mv_V g M F Lw cb sb (pc + 1) L (.long x :: st) σ Q) : mv_V g M F Lw cb sb pc L st σ Q := mv_go (fun _ _ _ _ _ _ _ _ _ _ _ _ _ _ _ C l w => lv_lload_n C.1 C.2.1 hd hi (mv_lat l hl) w) k
theorem vr_lload {i : Nat} {x : Int64} (hd : decode M.2.1 pc = .ok (.lload i, 2)) (hl : L[i]? = some (some (.long x))) (k : mv_V g M F Lw cb sb (pc + 2) L (.long x :: st) σ Q) : mv_V g M F Lw cb sb pc L st σ Q := mv_go (fun _ _ _ _ _ _ _ _ _ _ _ _ _ _ _ C l w => lv_lload C.1 C.2.1 hd (mv_lat l hl) w) k
theorem vr_aload_n {n : Fin 4} {i x : Nat} (hd : decode M.2.1 pc = .ok (.aload_n n, 1)) (hi : (n : Nat) = i) (hl : L[i]? = some (some (.ref x))) (k : mv_V g M F Lw cb sb (pc + 1) L (.ref x :: st) σ Q) : mv_V g M F Lw cb sb pc L st σ Q := mv_go (fun _ _ _ _ _ _ _ _ _ _ _ _ _ _ _ C l w => lv_aload_n C.1 C.2.1 hd hi (mv_lat l hl) w) k
theorem vr_aload {i x : Nat} (hd : decode M.2.1 pc = .ok (.aload i, 2)) (hl : L[i]? = some (some (.ref x))) (k : mv_V g M F Lw cb sb (pc + 2) L (.ref x :: st) σ Q) : mv_V g M F Lw cb sb pc L st σ Q := mv_go (fun _ _ _ _ _ _ _ _ _ _ _ _ _ _ _ C l w => lv_aload C.1 C.2.1 hd (mv_lat l hl) w) k
theorem vr_istore_n {n : Fin 4} {i : Nat} {x : Int32} (hd : decode M.2.1 pc = .ok (.istore_n n, 1)) (hi : (n : Nat) = i) (hn : i < M.2.2.1) (hL : mv_st1 L i (.int x) = L') (k : mv_V g M F Lw cb sb (pc + 1) L' st σ Q) : mv_V g M F Lw cb sb pc L (.int x :: st) σ Q := mv_goL (fun _ _ _ _ _ _ _ _ _ _ _ _ _ _ _ C l w => lv_istore_n C.1 C.2.1 hd hi l hn rfl (fun ls' h' => w ls' (mv_lsub h' (by rw [← hL]; exact mv_st1_ok)))) k
theorem vr_istore {i : Nat} {x : Int32} (hd : decode M.2.1 pc = .ok (.istore i, 2)) (hn : i < M.2.2.1) (hL : mv_st1 L i (.int x) = L') (k : mv_V g M F Lw cb sb (pc + 2) L' st σ Q) : mv_V g M F Lw cb sb pc L (.int x :: st) σ Q := mv_goL (fun _ _ _ _ _ _ _ _ _ _ _ _ _ _ _ C l w => lv_istore C.1 C.2.1 hd l hn rfl (fun ls' h' => w ls' (mv_lsub h' (by rw [← hL]; exact mv_st1_ok)))) k
theorem vr_astore_n {n : Fin 4} {i x : Nat} (hd : decode M.2.1 pc = .ok (.astore_n n, 1)) (hi : (n : Nat) = i) (hn : i < M.2.2.1) (hL : mv_st1 L i (.ref x) = L') (k : mv_V g M F Lw cb sb (pc + 1) L' st σ Q) : mv_V g M F Lw cb sb pc L (.ref x :: st) σ Q := mv_goL (fun _ _ _ _ _ _ _ _ _ _ _ _ _ _ _ C l w => lv_astore_n C.1 C.2.1 hd hi l hn rfl (fun ls' h' => w ls' (mv_lsub h' (by rw [← hL]; exact mv_st1_ok)))) k
theorem vr_astore {i x : Nat} (hd : decode M.2.1 pc = .ok (.astore i, 2)) (hn : i < M.2.2.1) (hL : mv_st1 L i (.ref x) = L') (k : mv_V g M F Lw cb sb (pc + 2) L' st σ Q) : mv_V g M F Lw cb sb pc L (.ref x :: st) σ Q := mv_goL (fun _ _ _ _ _ _ _ _ _ _ _ _ _ _ _ C l w => lv_astore C.1 C.2.1 hd l hn rfl (fun ls' h' => w ls' (mv_lsub h' (by rw [← hL]; exact mv_st1_ok)))) k
theorem vr_lstore_n {n : Fin 4} {i : Nat} {x : Int64} (hd : decode M.2.1 pc = .ok (.lstore_n n, 1)) (hi : (n : Nat) = i) (hn : i + 1 < M.2.2.1) (hL : mv_st2 L i (.long x) = L') (k : mv_V g M F Lw cb sb (pc + 1) L' st σ Q) : mv_V g M F Lw cb sb pc L (.long x :: st) σ Q := mv_goL (fun _ _ _ _ _ _ _ _ _ _ _ _ _ _ _ C l w => lv_lstore_n C.1 C.2.1 hd hi l hn rfl (fun ls' h' => w ls' (mv_lsub h' (by rw [← hL]; exact mv_st2_ok)))) k
theorem vr_lstore {i : Nat} {x : Int64} (hd : decode M.2.1 pc = .ok (.lstore i, 2)) (hn : i + 1 < M.2.2.1) (hL : mv_st2 L i (.long x) = L') (k : mv_V g M F Lw cb sb (pc + 2) L' st σ Q) : mv_V g M F Lw cb sb pc L (.long x :: st) σ Q := mv_goL (fun _ _ _ _ _ _ _ _ _ _ _ _ _ _ _ C l w => lv_lstore C.1 C.2.1 hd l hn rfl (fun ls' h' => w ls' (mv_lsub h' (by rw [← hL]; exact mv_st2_ok)))) k
theorem vr_iinc {i : Nat} {n : Int} {x : Int32} (v : Int32) (hd : decode M.2.1 pc = .ok (.iinc i n, 3)) (hn : i < M.2.2.1) (hl : L[i]? = some (some (.int x))) (hv : x + Int32.ofInt n = v) (hL : mv_st1 L i (.int v) = L') (k : mv_V g M F Lw cb sb (pc + 3) L' st σ Q) : mv_V g M F Lw cb sb pc L st σ Q := mv_goL (fun _ _ _ _ _ _ _ _ _ _ _ _ _ _ _ C l w => by
  obtain ⟨kk, hk⟩ := List.mem_iff_getElem?.mp ((mv_prs_mem L 0 (i, .int x)).mpr ⟨i, by simp, hl⟩)
  exact lv_iinc C.1 C.2.1 hd l hk hv hn rfl (fun ls' h' => w ls' (mv_lsub h' (by rw [← hL]; exact mv_st1_ok)))) k
theorem vr_goto {off : Int} {tgt : Nat} (hd : decode M.2.1 pc = .ok (.goto off, 3)) (ht : (pc : Int) + off = (tgt : Int)) (k : mv_V g M F Lw cb sb tgt L st σ Q) : mv_V g M F Lw cb sb pc L st σ Q := mv_go (fun _ _ _ _ _ _ _ _ _ _ _ _ _ _ _ C _ w => lv_goto C.1 C.2.1 hd ht w) k
theorem vr_iadd {x y : Int32} (hdg : decode M.2.1 pc = .ok (.iadd, 1))  (k : mv_V g M F Lw cb sb (pc + 1) L (.int (x + y) :: st) σ Q) : mv_V g M F Lw cb sb pc L (.int y :: .int x :: st) σ Q := mv_go (fun _ _ _ _ _ _ _ _ _ _ _ _ _ _ _ C _ w => lv_iadd C.1 C.2.1 hdg w) k
theorem vr_isub {x y : Int32} (hdg : decode M.2.1 pc = .ok (.isub, 1))  (k : mv_V g M F Lw cb sb (pc + 1) L (.int (x - y) :: st) σ Q) : mv_V g M F Lw cb sb pc L (.int y :: .int x :: st) σ Q := mv_go (fun _ _ _ _ _ _ _ _ _ _ _ _ _ _ _ C _ w => lv_isub C.1 C.2.1 hdg w) k
theorem vr_imul {x y : Int32} (hdg : decode M.2.1 pc = .ok (.imul, 1))  (k : mv_V g M F Lw cb sb (pc + 1) L (.int (x * y) :: st) σ Q) : mv_V g M F Lw cb sb pc L (.int y :: .int x :: st) σ Q := mv_go (fun _ _ _ _ _ _ _ _ _ _ _ _ _ _ _ C _ w => lv_imul C.1 C.2.1 hdg w) k
theorem vr_iand {x y : Int32} (hdg : decode M.2.1 pc = .ok (.iand, 1))  (k : mv_V g M F Lw cb sb (pc + 1) L (.int (x &&& y) :: st) σ Q) : mv_V g M F Lw cb sb pc L (.int y :: .int x :: st) σ Q := mv_go (fun _ _ _ _ _ _ _ _ _ _ _ _ _ _ _ C _ w => lv_iand C.1 C.2.1 hdg w) k
theorem vr_ior {x y : Int32} (hdg : decode M.2.1 pc = .ok (.ior, 1))  (k : mv_V g M F Lw cb sb (pc + 1) L (.int (x ||| y) :: st) σ Q) : mv_V g M F Lw cb sb pc L (.int y :: .int x :: st) σ Q := mv_go (fun _ _ _ _ _ _ _ _ _ _ _ _ _ _ _ C _ w => lv_ior C.1 C.2.1 hdg w) k
theorem vr_ixor {x y : Int32} (hdg : decode M.2.1 pc = .ok (.ixor, 1))  (k : mv_V g M F Lw cb sb (pc + 1) L (.int (x ^^^ y) :: st) σ Q) : mv_V g M F Lw cb sb pc L (.int y :: .int x :: st) σ Q := mv_go (fun _ _ _ _ _ _ _ _ _ _ _ _ _ _ _ C _ w => lv_ixor C.1 C.2.1 hdg w) k
theorem vr_idiv {x y : Int32} (hdg : decode M.2.1 pc = .ok (.idiv, 1)) (hne : ¬ y = 0) (k : mv_V g M F Lw cb sb (pc + 1) L (.int (x / y) :: st) σ Q) : mv_V g M F Lw cb sb pc L (.int y :: .int x :: st) σ Q := mv_go (fun _ _ _ _ _ _ _ _ _ _ _ _ _ _ _ C _ w => lv_idiv C.1 C.2.1 hdg hne w) k
theorem vr_irem {x y : Int32} (hdg : decode M.2.1 pc = .ok (.irem, 1)) (hne : ¬ y = 0) (k : mv_V g M F Lw cb sb (pc + 1) L (.int (x - x / y * y) :: st) σ Q) : mv_V g M F Lw cb sb pc L (.int y :: .int x :: st) σ Q := mv_go (fun _ _ _ _ _ _ _ _ _ _ _ _ _ _ _ C _ w => lv_irem C.1 C.2.1 hdg hne w) k
theorem vr_ineg {x : Int32} (hdg : decode M.2.1 pc = .ok (.ineg, 1))  (k : mv_V g M F Lw cb sb (pc + 1) L (.int (-x) :: st) σ Q) : mv_V g M F Lw cb sb pc L (.int x :: st) σ Q := mv_go (fun _ _ _ _ _ _ _ _ _ _ _ _ _ _ _ C _ w => lv_ineg C.1 C.2.1 hdg w) k
theorem vr_ladd {x y : Int64} (hdg : decode M.2.1 pc = .ok (.ladd, 1))  (k : mv_V g M F Lw cb sb (pc + 1) L (.long (x + y) :: st) σ Q) : mv_V g M F Lw cb sb pc L (.long y :: .long x :: st) σ Q := mv_go (fun _ _ _ _ _ _ _ _ _ _ _ _ _ _ _ C _ w => lv_ladd C.1 C.2.1 hdg w) k
theorem vr_lsub {x y : Int64} (hdg : decode M.2.1 pc = .ok (.lsub, 1))  (k : mv_V g M F Lw cb sb (pc + 1) L (.long (x - y) :: st) σ Q) : mv_V g M F Lw cb sb pc L (.long y :: .long x :: st) σ Q := mv_go (fun _ _ _ _ _ _ _ _ _ _ _ _ _ _ _ C _ w => lv_lsub C.1 C.2.1 hdg w) k
theorem vr_lmul {x y : Int64} (hdg : decode M.2.1 pc = .ok (.lmul, 1))  (k : mv_V g M F Lw cb sb (pc + 1) L (.long (x * y) :: st) σ Q) : mv_V g M F Lw cb sb pc L (.long y :: .long x :: st) σ Q := mv_go (fun _ _ _ _ _ _ _ _ _ _ _ _ _ _ _ C _ w => lv_lmul C.1 C.2.1 hdg w) k
theorem vr_land {x y : Int64} (hdg : decode M.2.1 pc = .ok (.land, 1))  (k : mv_V g M F Lw cb sb (pc + 1) L (.long (x &&& y) :: st) σ Q) : mv_V g M F Lw cb sb pc L (.long y :: .long x :: st) σ Q := mv_go (fun _ _ _ _ _ _ _ _ _ _ _ _ _ _ _ C _ w => lv_land C.1 C.2.1 hdg w) k
theorem vr_lor {x y : Int64} (hdg : decode M.2.1 pc = .ok (.lor, 1))  (k : mv_V g M F Lw cb sb (pc + 1) L (.long (x ||| y) :: st) σ Q) : mv_V g M F Lw cb sb pc L (.long y :: .long x :: st) σ Q := mv_go (fun _ _ _ _ _ _ _ _ _ _ _ _ _ _ _ C _ w => lv_lor C.1 C.2.1 hdg w) k
theorem vr_lxor {x y : Int64} (hdg : decode M.2.1 pc = .ok (.lxor, 1))  (k : mv_V g M F Lw cb sb (pc + 1) L (.long (x ^^^ y) :: st) σ Q) : mv_V g M F Lw cb sb pc L (.long y :: .long x :: st) σ Q := mv_go (fun _ _ _ _ _ _ _ _ _ _ _ _ _ _ _ C _ w => lv_lxor C.1 C.2.1 hdg w) k
theorem vr_ldiv {x y : Int64} (hdg : decode M.2.1 pc = .ok (.ldiv, 1)) (hne : ¬ y = 0) (k : mv_V g M F Lw cb sb (pc + 1) L (.long (x / y) :: st) σ Q) : mv_V g M F Lw cb sb pc L (.long y :: .long x :: st) σ Q := mv_go (fun _ _ _ _ _ _ _ _ _ _ _ _ _ _ _ C _ w => lv_ldiv C.1 C.2.1 hdg hne w) k
theorem vr_lrem {x y : Int64} (hdg : decode M.2.1 pc = .ok (.lrem, 1)) (hne : ¬ y = 0) (k : mv_V g M F Lw cb sb (pc + 1) L (.long (x - x / y * y) :: st) σ Q) : mv_V g M F Lw cb sb pc L (.long y :: .long x :: st) σ Q := mv_go (fun _ _ _ _ _ _ _ _ _ _ _ _ _ _ _ C _ w => lv_lrem C.1 C.2.1 hdg hne w) k
theorem vr_lneg {x : Int64} (hdg : decode M.2.1 pc = .ok (.lneg, 1))  (k : mv_V g M F Lw cb sb (pc + 1) L (.long (-x) :: st) σ Q) : mv_V g M F Lw cb sb pc L (.long x :: st) σ Q := mv_go (fun _ _ _ _ _ _ _ _ _ _ _ _ _ _ _ C _ w => lv_lneg C.1 C.2.1 hdg w) k
theorem vr_ishl {x y : Int32} (hdg : decode M.2.1 pc = .ok (.ishl, 1))  (k : mv_V g M F Lw cb sb (pc + 1) L (.int (x <<< (y &&& 31)) :: st) σ Q) : mv_V g M F Lw cb sb pc L (.int y :: .int x :: st) σ Q := mv_go (fun _ _ _ _ _ _ _ _ _ _ _ _ _ _ _ C _ w => lv_ishl C.1 C.2.1 hdg w) k
theorem vr_ishr {x y : Int32} (hdg : decode M.2.1 pc = .ok (.ishr, 1))  (k : mv_V g M F Lw cb sb (pc + 1) L (.int (x >>> (y &&& 31)) :: st) σ Q) : mv_V g M F Lw cb sb pc L (.int y :: .int x :: st) σ Q := mv_go (fun _ _ _ _ _ _ _ _ _ _ _ _ _ _ _ C _ w => lv_ishr C.1 C.2.1 hdg w) k
theorem vr_iushr {x y v : Int32} (hdg : decode M.2.1 pc = .ok (.iushr, 1)) (hv : (x.toUInt32 >>> (y.toUInt32 &&& Int32.toUInt32 31)).toInt32 = v) (k : mv_V g M F Lw cb sb (pc + 1) L (.int v :: st) σ Q) : mv_V g M F Lw cb sb pc L (.int y :: .int x :: st) σ Q := mv_go (fun _ _ _ _ _ _ _ _ _ _ _ _ _ _ _ C _ w => lv_iushr C.1 C.2.1 hdg hv w) k
theorem vr_lshl {x v : Int64} {y : Int32} (hdg : decode M.2.1 pc = .ok (.lshl, 1)) (hv : x <<< (y.toInt64 &&& 63) = v) (k : mv_V g M F Lw cb sb (pc + 1) L (.long v :: st) σ Q) : mv_V g M F Lw cb sb pc L (.int y :: .long x :: st) σ Q := mv_go (fun _ _ _ _ _ _ _ _ _ _ _ _ _ _ _ C _ w => lv_lshl C.1 C.2.1 hdg hv w) k
theorem vr_lshr {x v : Int64} {y : Int32} (hdg : decode M.2.1 pc = .ok (.lshr, 1)) (hv : x >>> (y.toInt64 &&& 63) = v) (k : mv_V g M F Lw cb sb (pc + 1) L (.long v :: st) σ Q) : mv_V g M F Lw cb sb pc L (.int y :: .long x :: st) σ Q := mv_go (fun _ _ _ _ _ _ _ _ _ _ _ _ _ _ _ C _ w => lv_lshr C.1 C.2.1 hdg hv w) k
theorem vr_lushr {x v : Int64} {y : Int32} (hdg : decode M.2.1 pc = .ok (.lushr, 1)) (hv : (x.toUInt64 >>> (y.toInt64.toUInt64 &&& Int64.toUInt64 63)).toInt64 = v) (k : mv_V g M F Lw cb sb (pc + 1) L (.long v :: st) σ Q) : mv_V g M F Lw cb sb pc L (.int y :: .long x :: st) σ Q := mv_go (fun _ _ _ _ _ _ _ _ _ _ _ _ _ _ _ C _ w => lv_lushr C.1 C.2.1 hdg hv w) k
theorem vr_i2l {x : Int32} {v : Int64} (hdg : decode M.2.1 pc = .ok (.i2l, 1)) (hv : x.toInt64 = v) (k : mv_V g M F Lw cb sb (pc + 1) L (.long v :: st) σ Q) : mv_V g M F Lw cb sb pc L (.int x :: st) σ Q := mv_go (fun _ _ _ _ _ _ _ _ _ _ _ _ _ _ _ C _ w => lv_i2l C.1 C.2.1 hdg hv w) k
theorem vr_l2i {x : Int64} {v : Int32} (hdg : decode M.2.1 pc = .ok (.l2i, 1)) (hv : x.toInt32 = v) (k : mv_V g M F Lw cb sb (pc + 1) L (.int v :: st) σ Q) : mv_V g M F Lw cb sb pc L (.long x :: st) σ Q := mv_go (fun _ _ _ _ _ _ _ _ _ _ _ _ _ _ _ C _ w => lv_l2i C.1 C.2.1 hdg hv w) k
theorem vr_i2b {x : Int32} {v : Int32} (hdg : decode M.2.1 pc = .ok (.i2b, 1)) (hv : x.toInt8.toInt32 = v) (k : mv_V g M F Lw cb sb (pc + 1) L (.int v :: st) σ Q) : mv_V g M F Lw cb sb pc L (.int x :: st) σ Q := mv_go (fun _ _ _ _ _ _ _ _ _ _ _ _ _ _ _ C _ w => lv_i2b C.1 C.2.1 hdg hv w) k
theorem vr_i2s {x : Int32} {v : Int32} (hdg : decode M.2.1 pc = .ok (.i2s, 1)) (hv : x.toInt16.toInt32 = v) (k : mv_V g M F Lw cb sb (pc + 1) L (.int v :: st) σ Q) : mv_V g M F Lw cb sb pc L (.int x :: st) σ Q := mv_go (fun _ _ _ _ _ _ _ _ _ _ _ _ _ _ _ C _ w => lv_i2s C.1 C.2.1 hdg hv w) k
theorem vr_i2c {x : Int32} {v : Int32} (hdg : decode M.2.1 pc = .ok (.i2c, 1)) (hv : (x.toUInt32 % 65536).toInt32 = v) (k : mv_V g M F Lw cb sb (pc + 1) L (.int v :: st) σ Q) : mv_V g M F Lw cb sb pc L (.int x :: st) σ Q := mv_go (fun _ _ _ _ _ _ _ _ _ _ _ _ _ _ _ C _ w => lv_i2c C.1 C.2.1 hdg hv w) k
theorem vr_dup {va : Value} (hdg : decode M.2.1 pc = .ok (.dup, 1)) (hva : va.category = 1) (k : mv_V g M F Lw cb sb (pc + 1) L (va :: va :: st) σ Q) : mv_V g M F Lw cb sb pc L (va :: st) σ Q := mv_go (fun _ _ _ _ _ _ _ _ _ _ _ _ _ _ _ C _ w => lv_dup C.1 C.2.1 hdg hva w) k
theorem vr_pop {va : Value} (hdg : decode M.2.1 pc = .ok (.pop, 1)) (hva : va.category = 1) (k : mv_V g M F Lw cb sb (pc + 1) L (st) σ Q) : mv_V g M F Lw cb sb pc L (va :: st) σ Q := mv_go (fun _ _ _ _ _ _ _ _ _ _ _ _ _ _ _ C _ w => lv_pop C.1 C.2.1 hdg hva w) k
theorem vr_dup_x1 {va vb : Value} (hdg : decode M.2.1 pc = .ok (.dup_x1, 1)) (hva : va.category = 1) (hvb : vb.category = 1) (k : mv_V g M F Lw cb sb (pc + 1) L (va :: vb :: va :: st) σ Q) : mv_V g M F Lw cb sb pc L (va :: vb :: st) σ Q := mv_go (fun _ _ _ _ _ _ _ _ _ _ _ _ _ _ _ C _ w => lv_dup_x1 C.1 C.2.1 hdg hva hvb w) k
theorem vr_dup_x2 {va vb vd : Value} (hdg : decode M.2.1 pc = .ok (.dup_x2, 1)) (hva : va.category = 1) (hvb : vb.category = 1) (hvd : vd.category = 1) (k : mv_V g M F Lw cb sb (pc + 1) L (va :: vb :: vd :: va :: st) σ Q) : mv_V g M F Lw cb sb pc L (va :: vb :: vd :: st) σ Q := mv_go (fun _ _ _ _ _ _ _ _ _ _ _ _ _ _ _ C _ w => lv_dup_x2 C.1 C.2.1 hdg hva hvb hvd w) k
theorem vr_dup2_11 {va vb : Value} (hdg : decode M.2.1 pc = .ok (.dup2, 1)) (hva : va.category = 1) (hvb : vb.category = 1) (k : mv_V g M F Lw cb sb (pc + 1) L (va :: vb :: va :: vb :: st) σ Q) : mv_V g M F Lw cb sb pc L (va :: vb :: st) σ Q := mv_go (fun _ _ _ _ _ _ _ _ _ _ _ _ _ _ _ C _ w => lv_dup2_11 C.1 C.2.1 hdg hva hvb w) k
theorem vr_dup2_2 {va : Value} (hdg : decode M.2.1 pc = .ok (.dup2, 1)) (hva : va.category = 2) (k : mv_V g M F Lw cb sb (pc + 1) L (va :: va :: st) σ Q) : mv_V g M F Lw cb sb pc L (va :: st) σ Q := mv_go (fun _ _ _ _ _ _ _ _ _ _ _ _ _ _ _ C _ w => lv_dup2_2 C.1 C.2.1 hdg hva w) k
theorem vr_pop2_2 {va : Value} (hdg : decode M.2.1 pc = .ok (.pop2, 1)) (hva : va.category = 2) (k : mv_V g M F Lw cb sb (pc + 1) L (st) σ Q) : mv_V g M F Lw cb sb pc L (va :: st) σ Q := mv_go (fun _ _ _ _ _ _ _ _ _ _ _ _ _ _ _ C _ w => lv_pop2_2 C.1 C.2.1 hdg hva w) k
theorem vr_pop2_11 {va vb : Value} (hdg : decode M.2.1 pc = .ok (.pop2, 1)) (hva : va.category = 1) (hvb : vb.category = 1) (k : mv_V g M F Lw cb sb (pc + 1) L (st) σ Q) : mv_V g M F Lw cb sb pc L (va :: vb :: st) σ Q := mv_go (fun _ _ _ _ _ _ _ _ _ _ _ _ _ _ _ C _ w => lv_pop2_11 C.1 C.2.1 hdg hva hvb w) k
theorem vr_dup2_x1_2 {va vb : Value} (hdg : decode M.2.1 pc = .ok (.dup2_x1, 1)) (hva : va.category = 2) (hvb : vb.category = 1) (k : mv_V g M F Lw cb sb (pc + 1) L (va :: vb :: va :: st) σ Q) : mv_V g M F Lw cb sb pc L (va :: vb :: st) σ Q := mv_go (fun _ _ _ _ _ _ _ _ _ _ _ _ _ _ _ C _ w => lv_dup2_x1_2 C.1 C.2.1 hdg hva hvb w) k
theorem vr_if_eq {x : Int32} {off : Int} {tgt : Nat} (hdg : decode M.2.1 pc = .ok (.ifCond .eq off, 3)) (ht : (pc : Int) + off = (tgt : Int)) (kt : x = 0 → mv_V g M F Lw cb sb tgt L st σ Q) (kf : ¬ x = 0 → mv_V g M F Lw cb sb (pc + 3) L st σ Q) : mv_V g M F Lw cb sb pc L (.int x :: st) σ Q := mv_go2 (fun _ _ _ _ _ _ _ _ _ _ _ _ _ _ _ C w1 w2 => lv_if_eq C.1 C.2.1 hdg ht w1 w2) kt kf
theorem vr_icmp_eq {x y : Int32} {off : Int} {tgt : Nat} (hdg : decode M.2.1 pc = .ok (.if_icmp .eq off, 3)) (ht : (pc : Int) + off = (tgt : Int)) (kt : x = y → mv_V g M F Lw cb sb tgt L st σ Q) (kf : ¬ x = y → mv_V g M F Lw cb sb (pc + 3) L st σ Q) : mv_V g M F Lw cb sb pc L (.int y :: .int x :: st) σ Q := mv_go2 (fun _ _ _ _ _ _ _ _ _ _ _ _ _ _ _ C w1 w2 => lv_icmp_eq C.1 C.2.1 hdg ht w1 w2) kt kf
theorem vr_if_ne {x : Int32} {off : Int} {tgt : Nat} (hdg : decode M.2.1 pc = .ok (.ifCond .ne off, 3)) (ht : (pc : Int) + off = (tgt : Int)) (kt : ¬ x = 0 → mv_V g M F Lw cb sb tgt L st σ Q) (kf : x = 0 → mv_V g M F Lw cb sb (pc + 3) L st σ Q) : mv_V g M F Lw cb sb pc L (.int x :: st) σ Q := mv_go2 (fun _ _ _ _ _ _ _ _ _ _ _ _ _ _ _ C w1 w2 => lv_if_ne C.1 C.2.1 hdg ht w1 w2) kt kf
theorem vr_icmp_ne {x y : Int32} {off : Int} {tgt : Nat} (hdg : decode M.2.1 pc = .ok (.if_icmp .ne off, 3)) (ht : (pc : Int) + off = (tgt : Int)) (kt : ¬ x = y → mv_V g M F Lw cb sb tgt L st σ Q) (kf : x = y → mv_V g M F Lw cb sb (pc + 3) L st σ Q) : mv_V g M F Lw cb sb pc L (.int y :: .int x :: st) σ Q := mv_go2 (fun _ _ _ _ _ _ _ _ _ _ _ _ _ _ _ C w1 w2 => lv_icmp_ne C.1 C.2.1 hdg ht w1 w2) kt kf
theorem vr_if_lt {x : Int32} {off : Int} {tgt : Nat} (hdg : decode M.2.1 pc = .ok (.ifCond .lt off, 3)) (ht : (pc : Int) + off = (tgt : Int)) (kt : x < 0 → mv_V g M F Lw cb sb tgt L st σ Q) (kf : ¬ x < 0 → mv_V g M F Lw cb sb (pc + 3) L st σ Q) : mv_V g M F Lw cb sb pc L (.int x :: st) σ Q := mv_go2 (fun _ _ _ _ _ _ _ _ _ _ _ _ _ _ _ C w1 w2 => lv_if_lt C.1 C.2.1 hdg ht w1 w2) kt kf
theorem vr_icmp_lt {x y : Int32} {off : Int} {tgt : Nat} (hdg : decode M.2.1 pc = .ok (.if_icmp .lt off, 3)) (ht : (pc : Int) + off = (tgt : Int)) (kt : x < y → mv_V g M F Lw cb sb tgt L st σ Q) (kf : ¬ x < y → mv_V g M F Lw cb sb (pc + 3) L st σ Q) : mv_V g M F Lw cb sb pc L (.int y :: .int x :: st) σ Q := mv_go2 (fun _ _ _ _ _ _ _ _ _ _ _ _ _ _ _ C w1 w2 => lv_icmp_lt C.1 C.2.1 hdg ht w1 w2) kt kf
theorem vr_if_ge {x : Int32} {off : Int} {tgt : Nat} (hdg : decode M.2.1 pc = .ok (.ifCond .ge off, 3)) (ht : (pc : Int) + off = (tgt : Int)) (kt : 0 ≤ x → mv_V g M F Lw cb sb tgt L st σ Q) (kf : ¬ 0 ≤ x → mv_V g M F Lw cb sb (pc + 3) L st σ Q) : mv_V g M F Lw cb sb pc L (.int x :: st) σ Q := mv_go2 (fun _ _ _ _ _ _ _ _ _ _ _ _ _ _ _ C w1 w2 => lv_if_ge C.1 C.2.1 hdg ht w1 w2) kt kf
theorem vr_icmp_ge {x y : Int32} {off : Int} {tgt : Nat} (hdg : decode M.2.1 pc = .ok (.if_icmp .ge off, 3)) (ht : (pc : Int) + off = (tgt : Int)) (kt : y ≤ x → mv_V g M F Lw cb sb tgt L st σ Q) (kf : ¬ y ≤ x → mv_V g M F Lw cb sb (pc + 3) L st σ Q) : mv_V g M F Lw cb sb pc L (.int y :: .int x :: st) σ Q := mv_go2 (fun _ _ _ _ _ _ _ _ _ _ _ _ _ _ _ C w1 w2 => lv_icmp_ge C.1 C.2.1 hdg ht w1 w2) kt kf
theorem vr_if_gt {x : Int32} {off : Int} {tgt : Nat} (hdg : decode M.2.1 pc = .ok (.ifCond .gt off, 3)) (ht : (pc : Int) + off = (tgt : Int)) (kt : 0 < x → mv_V g M F Lw cb sb tgt L st σ Q) (kf : ¬ 0 < x → mv_V g M F Lw cb sb (pc + 3) L st σ Q) : mv_V g M F Lw cb sb pc L (.int x :: st) σ Q := mv_go2 (fun _ _ _ _ _ _ _ _ _ _ _ _ _ _ _ C w1 w2 => lv_if_gt C.1 C.2.1 hdg ht w1 w2) kt kf
theorem vr_icmp_gt {x y : Int32} {off : Int} {tgt : Nat} (hdg : decode M.2.1 pc = .ok (.if_icmp .gt off, 3)) (ht : (pc : Int) + off = (tgt : Int)) (kt : y < x → mv_V g M F Lw cb sb tgt L st σ Q) (kf : ¬ y < x → mv_V g M F Lw cb sb (pc + 3) L st σ Q) : mv_V g M F Lw cb sb pc L (.int y :: .int x :: st) σ Q := mv_go2 (fun _ _ _ _ _ _ _ _ _ _ _ _ _ _ _ C w1 w2 => lv_icmp_gt C.1 C.2.1 hdg ht w1 w2) kt kf
theorem vr_if_le {x : Int32} {off : Int} {tgt : Nat} (hdg : decode M.2.1 pc = .ok (.ifCond .le off, 3)) (ht : (pc : Int) + off = (tgt : Int)) (kt : x ≤ 0 → mv_V g M F Lw cb sb tgt L st σ Q) (kf : ¬ x ≤ 0 → mv_V g M F Lw cb sb (pc + 3) L st σ Q) : mv_V g M F Lw cb sb pc L (.int x :: st) σ Q := mv_go2 (fun _ _ _ _ _ _ _ _ _ _ _ _ _ _ _ C w1 w2 => lv_if_le C.1 C.2.1 hdg ht w1 w2) kt kf
theorem vr_icmp_le {x y : Int32} {off : Int} {tgt : Nat} (hdg : decode M.2.1 pc = .ok (.if_icmp .le off, 3)) (ht : (pc : Int) + off = (tgt : Int)) (kt : x ≤ y → mv_V g M F Lw cb sb tgt L st σ Q) (kf : ¬ x ≤ y → mv_V g M F Lw cb sb (pc + 3) L st σ Q) : mv_V g M F Lw cb sb pc L (.int y :: .int x :: st) σ Q := mv_go2 (fun _ _ _ _ _ _ _ _ _ _ _ _ _ _ _ C w1 w2 => lv_icmp_le C.1 C.2.1 hdg ht w1 w2) kt kf
theorem vr_tableIn {dflt lo hi : Int} {offs : Array Int} {len : Nat} {x : Int32} {off : Int} {tgt : Nat} (hdg : decode M.2.1 pc = .ok (.tableswitch dflt lo hi offs, len)) (h1 : ¬ x.toInt < lo) (h2 : ¬ hi < x.toInt) (ho : offs[(x.toInt - lo).toNat]? = some off) (ht : (pc : Int) + off = (tgt : Int)) (k : mv_V g M F Lw cb sb tgt L st σ Q) : mv_V g M F Lw cb sb pc L (.int x :: st) σ Q := mv_go (fun _ _ _ _ _ _ _ _ _ _ _ _ _ _ _ C _ w => lv_tableIn C.1 C.2.1 hdg h1 h2 ho ht w) k
theorem vr_tableOut {dflt lo hi : Int} {offs : Array Int} {len : Nat} {x : Int32} {tgt : Nat} (hdg : decode M.2.1 pc = .ok (.tableswitch dflt lo hi offs, len)) (h : x.toInt < lo ∨ hi < x.toInt) (ht : (pc : Int) + dflt = (tgt : Int)) (k : mv_V g M F Lw cb sb tgt L st σ Q) : mv_V g M F Lw cb sb pc L (.int x :: st) σ Q := mv_go (fun _ _ _ _ _ _ _ _ _ _ _ _ _ _ _ C _ w => lv_tableOut C.1 C.2.1 hdg h ht w) k
theorem vr_lookup {dflt : Int} {ps : Array (Int × Int)} {len : Nat} {x : Int32} {off : Int} {tgt : Nat} (hdg : decode M.2.1 pc = .ok (.lookupswitch dflt ps, len)) (hp : (ps.toList.zip (ps.toList.drop 1)).all (fun (a, next) => a.1 < next.1) = true) (ho : Op.lookupswitch.offset ps.toList dflt x.toInt = off) (ht : (pc : Int) + off = (tgt : Int)) (k : mv_V g M F Lw cb sb tgt L st σ Q) : mv_V g M F Lw cb sb pc L (.int x :: st) σ Q := mv_go (fun _ _ _ _ _ _ _ _ _ _ _ _ _ _ _ C _ w => lv_lookup C.1 C.2.1 hdg hp ho ht w) k
end MVR
/-! HEAP ROWS -/
/-- the field j of class k, as the constant pool's entry idx of 'own' says it -/
def mv_F (own : String) (idx k j : Nat) : Prop := ∃ r : vw_C, mk_cl[k]? = some r ∧ j < r.2.2 ∧
  (Cond.fieldLink own idx (r.2.1 j).1 (r.2.1 j).2.1 (r.2.1 j).2.2.1 ∈ mk_T ∨ ∃ host, Cond.fieldLinkNest own idx (r.2.1 j).1 (r.2.1 j).2.1 (r.2.1 j).2.2.1 host ∈ mk_N)
/-- it may be written in M: it isn't final, or M is its class's constructor -/
def mv_W (M : mv_M) (idx k j : Nat) : Prop := ∃ r : vw_C, mk_cl[k]? = some r ∧ j < r.2.2 ∧
  (((r.2.1 j).2.2.2 = false ∧ (Cond.fieldLink M.1.cls idx (r.2.1 j).1 (r.2.1 j).2.1 (r.2.1 j).2.2.1 ∈ mk_T ∨ ∃ host, Cond.fieldLinkNest M.1.cls idx (r.2.1 j).1 (r.2.1 j).2.1 (r.2.1 j).2.2.1 host ∈ mk_N)) ∨
   ((r.2.1 j).2.2.2 = true ∧ M.1.name = "<init>" ∧ (r.2.1 j).1 = M.1.cls ∧ Cond.fieldLink M.1.cls idx (r.2.1 j).1 (r.2.1 j).2.1 (r.2.1 j).2.2.1 ∈ mk_T))
theorem mv_apart {g : mv_G} {s : State} {args : Array Value} {k : Nat} {r : vw_C} (hts : ∀ w ∈ mk_T, w.before args s = true) (hK : mv_K g s) (hc : mk_cl[k]? = some r) : ∀ x y, x < r.2.2 → y < r.2.2 → x ≠ y → (mg_I g k) x ≠ (mg_I g k) y := by
  intro x y hx hy hne
  obtain ⟨hty, hnm, hin⟩ := mk_ok k r hc
  obtain ⟨hS, -⟩ := hK.1 k _ hc
  obtain ⟨_, _, _, fa, hia, ea⟩ := hS x hx
  obtain ⟨_, _, _, fb, hib, eb⟩ := hS y hy
  rw [← ea, ← eb]
  refine u_apart (u_lays hts hin hx) (u_lays hts hin hy) hia hib ?_
  rw [(State.fieldFound?_type hia (hty x hx)).1, (State.fieldFound?_type hib (hty y hy)).1]
  exact hnm x hx y hy hne
/-- the relation behind a store into a field -/
theorem mv_R.put {g : mv_G} {σ σ' : mh_H} {H H' : Heap} {a k j : Nat} {r : vw_C} {cell : Cell} {v : Value} (h : mv_R g σ H) (ht : hT σ a = 2 * k + 1) (hc : mk_cl[k]? = some r) (hj : j < r.2.2)
    (hap : ∀ x y, x < r.2.2 → y < r.2.2 → x ≠ y → (mg_I g k) x ≠ (mg_I g k) y)
    (q1 : H[a]? = some cell) (q2 : cell.cls = mg_C g k) (q3 : cell.vm = .none) (q4 : ∀ i, i < r.2.2 → cell.slots[mg_I g k i]? = some (mv_val (mk_fty k i) (hI σ k i a) (hR σ k i a)))
    (e1 : H'[a]? = some (cell.setSlot (mg_I g k j) v)) (e2 : H'.size = H.size) (e3 : ∀ q, q ≠ a → H'[q]? = H[q]?)
    (s1 : hT σ' = hT σ) (s2 : hN σ' = hN σ) (s3 : hA σ' = hA σ) (s4 : hQ σ' = hQ σ) (s5 : hX σ' = hX σ)
    (s6 : ∀ k' i a', ¬ (k' = k ∧ i = j ∧ a' = a) → hI σ' k' i a' = hI σ k' i a' ∧ hR σ' k' i a' = hR σ k' i a') (s7 : mv_val (mk_fty k j) (hI σ' k j a) (hR σ' k j a) = v) : mv_R g σ' H' := by
  obtain ⟨h1, h2, h3, h4, h5, h6⟩ := h
  have ha := h4 a (by omega)
  refine ⟨by rw [e2, s5]; exact h1, by rw [e2]; exact h2, fun q hq => by rw [e3 q (by omega)]; exact h3 q hq, fun b hb => by rw [e2]; rw [s1] at hb; exact h4 b hb, fun b k' hb => ?_, fun b t hb => ?_⟩
  · rw [s1] at hb
    by_cases hba : b = a
    · subst hba
      have hk : k' = k := by omega
      subst hk
      refine ⟨r, hc, _, e1, q2, q3, fun i hi => ?_⟩
      rw [t_set q4 hap hj v i hi]
      unfold updV
      by_cases hij : i = j
      · subst hij
        rw [if_pos rfl]
        show some v = some (mv_val (mk_fty k' i) (hI σ' k' i b) (hR σ' k' i b))
        rw [s7]
      · rw [if_neg hij]
        show some (mv_val (mk_fty k' i) (hI σ k' i b) (hR σ k' i b)) = some (mv_val (mk_fty k' i) (hI σ' k' i b) (hR σ' k' i b))
        rw [(s6 k' i b (fun z => hij z.2.1)).1, (s6 k' i b (fun z => hij z.2.1)).2]
    · obtain ⟨r', hr', hO⟩ := h5 b k' hb
      refine ⟨r', hr', (hO.kept (e3 b hba)).to (fun i _ => ?_)⟩
      rw [(s6 k' i b (fun z => hba z.2.2)).1, (s6 k' i b (fun z => hba z.2.2)).2]
  · rw [s1] at hb
    have hba : b ≠ a := fun z => by subst z; omega
    obtain ⟨ty, g1, g2, g3⟩ := h6 b t hb
    refine ⟨ty, g1, ?_, by rw [s3]; exact g3⟩
    rw [e3 b hba, s2, s3, s4]
    exact g2
/-- the relation behind a store into an array -/
theorem mv_R.ast {g : mv_G} {σ σ' : mh_H} {H H' : Heap} {a t : Nat} {ty : FieldType} (h : mv_R g σ H) (ht : hT σ a = 2 * t + 2) (hty : mk_ty[t]? = some ty)
    (e1 : H'[a]? = some (mv_cell ty (mg_A g t) (hN σ' a) (hA σ' a) (hQ σ' a))) (e4 : ty = .byte → (∀ j, fits .byte (.int (hA σ a j)) = true) → ∀ j, fits .byte (.int (hA σ' a j)) = true) (e2 : H'.size = H.size) (e3 : ∀ q, q ≠ a → H'[q]? = H[q]?)
    (s1 : hT σ' = hT σ) (s2 : hI σ' = hI σ) (s3 : hR σ' = hR σ) (s5 : hX σ' = hX σ) (s6 : ∀ b, b ≠ a → hN σ' b = hN σ b ∧ hA σ' b = hA σ b ∧ hQ σ' b = hQ σ b) : mv_R g σ' H' := by
  obtain ⟨h1, h2, h3, h4, h5, h6⟩ := h
  have ha := h4 a (by omega)
  refine ⟨by rw [e2, s5]; exact h1, by rw [e2]; exact h2, fun q hq => by rw [e3 q (by omega)]; exact h3 q hq, fun b hb => by rw [e2]; rw [s1] at hb; exact h4 b hb, fun b k' hb => ?_, fun b t' hb => ?_⟩
  · rw [s1] at hb
    have hba : b ≠ a := fun z => by subst z; omega
    obtain ⟨r', hr', hO⟩ := h5 b k' hb
    refine ⟨r', hr', (hO.kept (e3 b hba)).to (fun i _ => ?_)⟩
    rw [s2, s3]
  · rw [s1] at hb
    by_cases hba : b = a
    · subst hba
      have : t' = t := by omega
      subst this
      obtain ⟨ty', g1, -, g3⟩ := h6 b t' hb
      cases hty.symm.trans g1
      exact ⟨ty, hty, e1, fun z => e4 z (g3 z)⟩
    · obtain ⟨ty', g1, g2, g3⟩ := h6 b t' hb
      refine ⟨ty', g1, ?_, by rw [(s6 b hba).2.1]; exact g3⟩
      rw [e3 b hba, (s6 b hba).1, (s6 b hba).2.1, (s6 b hba).2.2]
      exact g2
/-- the relation behind a new object -/
theorem mv_R.new {g : mv_G} {σ : mh_H} {H H' : Heap} {k : Nat} {r : vw_C} (h : mv_R g σ H) (hc : mk_cl[k]? = some r) (hO : t_OB H.size (mg_C g k) r.2.2 (mg_I g k) H' (fun j => mv_val (mk_fty k j) 0 none))
    (e2 : H'.size = H.size + 1) (e3 : ∀ q, q < H.size → H'[q]? = H[q]?) : mv_R g (mh_new σ k) H' := by
  obtain ⟨h1, h2, h3, h4, h5, h6⟩ := h
  refine ⟨by rw [e2, h1]; rfl, by omega, fun q hq => by rw [e3 q (by omega)]; exact h3 q hq, fun b hb => ?_, fun b k' hb => ?_, fun b t' hb => ?_⟩
  · by_cases hba : b = hX σ
    · omega
    · have hb' : hT σ b ≠ 0 := by rw [hT_new, if_neg hba] at hb; exact hb
      have := h4 b hb'
      omega
  · by_cases hba : b = hX σ
    · have hk : 2 * k + 1 = 2 * k' + 1 := by rw [hT_new, if_pos hba] at hb; exact hb
      have hk' : k' = k := by omega
      subst hk'
      rw [hba, ← h1]
      refine ⟨r, hc, hO.to (fun i _ => ?_)⟩
      rw [hI_new, hR_new, if_pos h1, if_pos h1]
    · have hb' : hT σ b = 2 * k' + 1 := by rw [hT_new, if_neg hba] at hb; exact hb
      obtain ⟨r', hr', hO'⟩ := h5 b k' hb'
      have hlt := (h4 b (by omega)).2
      refine ⟨r', hr', (hO'.kept (e3 b hlt)).to (fun i _ => ?_)⟩
      rw [hI_new, hR_new, if_neg hba, if_neg hba]
  · have hba : b ≠ hX σ := fun z => by
      have : 2 * k + 1 = 2 * t' + 2 := by rw [hT_new, if_pos z] at hb; exact hb
      omega
    have hb' : hT σ b = 2 * t' + 2 := by rw [hT_new, if_neg hba] at hb; exact hb
    obtain ⟨ty', g1, g2, g3⟩ := h6 b t' hb'
    have hlt := (h4 b (by omega)).2
    refine ⟨ty', g1, ?_, g3⟩
    rw [e3 b hlt]
    exact g2
/-- the relation behind a new array -/
theorem mv_R.arr {g : mv_G} {σ : mh_H} {H H' : Heap} {t n : Nat} {ty : FieldType} (h : mv_R g σ H) (hty : mk_ty[t]? = some ty) (e1 : H'[H.size]? = some (mv_cell ty (mg_A g t) n (fun _ => 0) (fun _ => none)))
    (e2 : H'.size = H.size + 1) (e3 : ∀ q, q < H.size → H'[q]? = H[q]?) : mv_R g (mh_arr σ t n) H' := by
  obtain ⟨h1, h2, h3, h4, h5, h6⟩ := h
  refine ⟨by rw [e2, h1]; rfl, by omega, fun q hq => by rw [e3 q (by omega)]; exact h3 q hq, fun b hb => ?_, fun b k' hb => ?_, fun b t' hb => ?_⟩
  · by_cases hba : b = hX σ
    · omega
    · have hb' : hT σ b ≠ 0 := by rw [hT_arr, if_neg hba] at hb; exact hb
      have := h4 b hb'
      omega
  · have hba : b ≠ hX σ := fun z => by
      have : 2 * t + 2 = 2 * k' + 1 := by rw [hT_arr, if_pos z] at hb; exact hb
      omega
    have hb' : hT σ b = 2 * k' + 1 := by rw [hT_arr, if_neg hba] at hb; exact hb
    obtain ⟨r', hr', hO'⟩ := h5 b k' hb'
    have hlt := (h4 b (by omega)).2
    exact ⟨r', hr', hO'.kept (e3 b hlt)⟩
  · by_cases hba : b = hX σ
    · have hk : 2 * t + 2 = 2 * t' + 2 := by rw [hT_arr, if_pos hba] at hb; exact hb
      have hk' : t' = t := by omega
      subst hk'
      refine ⟨ty, hty, ?_, fun _ j => by rw [hA_arr, if_pos hba]; rfl⟩
      rw [hN_arr, hA_arr, hQ_arr, if_pos hba, if_pos hba, if_pos hba, hba, ← h1, e1]
    · have hb' : hT σ b = 2 * t' + 2 := by rw [hT_arr, if_neg hba] at hb; exact hb
      obtain ⟨ty', g1, g2, g3⟩ := h6 b t' hb'
      have hlt := (h4 b (by omega)).2
      refine ⟨ty', g1, ?_, by rw [hA_arr, if_neg hba]; exact g3⟩
      rw [e3 b hlt, hN_arr, hA_arr, hQ_arr, if_neg hba, if_neg hba, if_neg hba]
      exact g2
section MVH
variable {g : mv_G} {M : mv_M} {F Lw cb sb pc pc' : Nat} {L L' : List (Option Value)} {st st' : List Value} {σ σ' : mh_H} {Q : Outcome → mh_H → Prop}
theorem vr_get {idx k j a : Nat} {v : Value} (hd : decode M.2.1 pc = .ok (.getfield idx, 3)) (hf : mv_F M.1.cls idx k j) (ht : hT σ a = 2 * k + 1) (hv : mv_val (mk_fty k j) (hI σ k j a) (hR σ k j a) = v)
    (kk : mv_V g M F Lw cb sb (pc + 3) L (v :: st) σ Q) : mv_V g M F Lw cb sb pc L (.ref a :: st) σ Q := by
  intro p e R s m args below meth c H locs cells slots ls Kc Ks C hF hL hk1 hk2 h1 h2 h3 h4 h5
  obtain ⟨hx, hb, hml, hown, hts, hr, hlk, hnm, hex, hK, hbs⟩ := id C
  obtain ⟨r, hr1, cell, q1, q2, q3, q4⟩ := h3.2.2.2.2.1 a k ht
  obtain ⟨r', hr', hj, hlink⟩ := hf
  cases hr1.symm.trans hr'
  obtain ⟨-, -, hin⟩ := mk_ok k r hr1
  obtain ⟨hS, hfc, kC, hkC, hkind⟩ := hK.1 k _ hr1
  obtain ⟨cf, kf, fi, f, hi, hsl⟩ := hS j hj
  have hst := (u_facts hfc hkC (u_lays hts hin hj) hi).1
  have hslot : cell.slots[f.slot]? = some v := by rw [hsl, q4 j hj]; exact congrArg some hv
  rcases hlink with hl | ⟨host, hl⟩
  · exact W.getf hx hb hown (hts _ hl) hi hst q1 (by rw [q3]; exact fun h => by cases h) hslot rfl rfl hd (kk p e R s m args below meth c H locs cells slots ls Kc Ks C hF hL hk1 hk2 h1 h2 h3 h4 h5)
  · exact va_Wgetf hx hb hown (va_Nw.use (by rfl) (hK.2.2.1 _ hl)) hi hst q1 (by rw [q3]; exact fun h => by cases h) hslot rfl rfl hd (kk p e R s m args below meth c H locs cells slots ls Kc Ks C hF hL hk1 hk2 h1 h2 h3 h4 h5)
theorem vr_getI {idx k j a : Nat} (hd : decode M.2.1 pc = .ok (.getfield idx, 3)) (hf : mv_F M.1.cls idx k j) (hty : mv_val (mk_fty k j) = fun i _ => .int i) (ht : hT σ a = 2 * k + 1)
    (kk : mv_V g M F Lw cb sb (pc + 3) L (.int (hI σ k j a) :: st) σ Q) : mv_V g M F Lw cb sb pc L (.ref a :: st) σ Q := vr_get hd hf ht (by rw [hty]) kk
theorem vr_getR {idx k j a b : Nat} (hd : decode M.2.1 pc = .ok (.getfield idx, 3)) (hf : mv_F M.1.cls idx k j) (hty : mv_val (mk_fty k j) = fun _ r => va_rf r) (ht : hT σ a = 2 * k + 1) (hb : hR σ k j a = some b)
    (kk : mv_V g M F Lw cb sb (pc + 3) L (.ref b :: st) σ Q) : mv_V g M F Lw cb sb pc L (.ref a :: st) σ Q := vr_get hd hf ht (by rw [hty, hb]; rfl) kk
theorem vr_put {idx k j a : Nat} {v : Value} (hd : decode M.2.1 pc = .ok (.putfield idx, 3)) (hf : mv_W M idx k j) (ht : hT σ a = 2 * k + 1) (hn : narrow (mk_fty k j) v = v) (hfit : fits (mk_fty k j) v = true)
    (s1 : hT σ' = hT σ) (s2 : hN σ' = hN σ) (s3 : hA σ' = hA σ) (s4 : hQ σ' = hQ σ) (s5 : hX σ' = hX σ)
    (s6 : ∀ k' i a', ¬ (k' = k ∧ i = j ∧ a' = a) → hI σ' k' i a' = hI σ k' i a' ∧ hR σ' k' i a' = hR σ k' i a') (s7 : mv_val (mk_fty k j) (hI σ' k j a) (hR σ' k j a) = v)
    (kk : mv_V g M F Lw cb sb (pc + 3) L st σ' Q) : mv_V g M F Lw cb sb pc L (v :: .ref a :: st) σ Q := by
  intro p e R s m args below meth c H locs cells slots ls Kc Ks C hF hL hk1 hk2 h1 h2 h3 h4 h5
  obtain ⟨hx, hb, hml, hown, hts, hr, hlk, hnm, hex, hK, hbs⟩ := id C
  obtain ⟨r, hr1, cell, q1, q2, q3, q4⟩ := h3.2.2.2.2.1 a k ht
  obtain ⟨r', hr', hj, hlink⟩ := hf
  cases hr1.symm.trans hr'
  obtain ⟨hty, -, hin⟩ := mk_ok k r hr1
  obtain ⟨hS, hfc, kC, hkC, hkind⟩ := hK.1 k _ hr1
  obtain ⟨cf, kf, fi, f, hi, hsl⟩ := hS j hj
  have hst := (u_facts hfc hkC (u_lays hts hin hj) hi).1
  have hba : mg_b g ≤ a := (h3.2.2.2.1 a (by omega)).1
  have hap := mv_apart hts hK hr1
  have hlt : f.slot < cell.slots.size := by rw [hsl]; exact k2_hasslot (q4 j hj)
  have fin : ∀ H' : Heap, H'[a]? = some (cell.setSlot f.slot v) → H'.size = H.size → (∀ q, q ≠ a → H'[q]? = H[q]?) → W p (mg_l g) e R s m args below meth c H' (locs ++ [⟨a, f.slot⟩]) cells slots (tk_Q below (mv_Qc g Q) args s Kc Ks (fun q => mg_b g ≤ q)) (F0 m (pc + 3) ls st) := by
    intro H' e1 e2 e3
    rw [hsl] at e1
    refine kk p e R s m args below meth c H' _ cells slots ls Kc Ks C hF hL hk1 hk2 h1 h2 (h3.put ht hr1 hj hap q1 q2 q3 q4 e1 e2 e3 s1 s2 s3 s4 s5 s6 s7) (fun q hq => ?_) h5
    rcases List.mem_append.mp hq with z | z
    · exact h4 q z
    · rw [List.mem_singleton.mp z]; exact hba
  rcases hlink with ⟨hfin, hl⟩ | ⟨hfin, hinit, hdecl, hl⟩
  · have hlay := hts _ (hin _ (u_in_lay hj))
    unfold u_lay at hlay
    rw [if_neg (by rw [hfin]; decide)] at hlay
    have h6 := u_store hfc hkC hkind hlay hi (hty j hj) hn hfit
    rcases hl with hl | ⟨host, hl⟩
    · exact W.putK hx hb (f := f) ⟨hown, hts _ hl, ⟨_, _, _, hi⟩, hst⟩ (by rw [q2]; exact h6) q1 q3 hlt rfl rfl hd fin
    · exact va_WputK hx hb (f := f) hown (va_Nw.use (by rfl) (hK.2.2.1 _ hl)) hi hst (by rw [q2]; exact h6) q1 q3 hlt rfl rfl hd fin
  · have hlay := hts _ (hin _ (u_in_lay hj))
    unfold u_lay at hlay
    rw [if_pos hfin] at hlay
    have hcf : m.cls = cf := by
      obtain ⟨_, _, c', _, _, _, -, -, hf', -, -, -, hown2, -⟩ := Cond.laysFinal_spec hlay
      have e1 : c' = cf := by have := hi.symm.trans hf'; simp at this; exact this.1.symm
      rw [hdecl] at hown2
      rw [← e1]; exact Option.some.inj (hown.symm.trans hown2)
    have h6 := u_fits hfc hkC hkind (Or.inr hlay) hi (hty j hj) hn hfit
    exact W.putFinK hx hb hown (hts _ hl) hi hst hcf (by rw [hnm]; exact hinit) (by rw [q2]; exact h6) q1 q3 hlt rfl rfl hd fin
theorem vr_putI {idx k j a : Nat} {x : Int32} (hd : decode M.2.1 pc = .ok (.putfield idx, 3)) (hf : mv_W M idx k j) (hty : mv_val (mk_fty k j) = fun i _ => .int i) (hn : narrow (mk_fty k j) (.int x) = .int x) (hfit : fits (mk_fty k j) (.int x) = true) (ht : hT σ a = 2 * k + 1)
    (kk : mv_V g M F Lw cb sb (pc + 3) L st (mh_setI σ k j a x) Q) : mv_V g M F Lw cb sb pc L (.int x :: .ref a :: st) σ Q :=
  vr_put (σ' := mh_setI σ k j a x) hd hf ht hn hfit rfl rfl rfl rfl rfl (fun k' i a' h => ⟨if_neg h, rfl⟩) (by rw [hty]; show Value.int (if k = k ∧ j = j ∧ a = a then x else _) = _; rw [if_pos ⟨rfl, rfl, rfl⟩]) kk
theorem vr_putR {idx k j a b : Nat} (hd : decode M.2.1 pc = .ok (.putfield idx, 3)) (hf : mv_W M idx k j) (hty : mv_val (mk_fty k j) = fun _ r => va_rf r) (hn : narrow (mk_fty k j) (.ref b) = .ref b) (hfit : fits (mk_fty k j) (.ref b) = true) (ht : hT σ a = 2 * k + 1)
    (kk : mv_V g M F Lw cb sb (pc + 3) L st (mh_setR σ k j a (some b)) Q) : mv_V g M F Lw cb sb pc L (.ref b :: .ref a :: st) σ Q :=
  vr_put (σ' := mh_setR σ k j a (some b)) hd hf ht hn hfit rfl rfl rfl rfl rfl (fun k' i a' h => ⟨rfl, if_neg h⟩) (by rw [hty]; show va_rf (if k = k ∧ j = j ∧ a = a then some b else _) = _; rw [if_pos ⟨rfl, rfl, rfl⟩]; rfl) kk
theorem vr_iald {a t : Nat} {i : Int32} (hd : decode M.2.1 pc = .ok (.iaload, 1)) (hty : mk_ty[t]? = some .int) (ht : hT σ a = 2 * t + 2) (hin : vp_in i (hN σ a))
    (kk : mv_V g M F Lw cb sb (pc + 1) L (.int (hA σ a i.toNatClampNeg) :: st) σ Q) : mv_V g M F Lw cb sb pc L (.int i :: .ref a :: st) σ Q := by
  intro p e R s m args below meth c H locs cells slots ls Kc Ks C hF hL hk1 hk2 h1 h2 h3 h4 h5
  obtain ⟨hx, hb, hml, hown, hts, hr, hlk, hnm, hex, hK, hbs⟩ := id C
  obtain ⟨ty, g1, g2, g3⟩ := h3.2.2.2.2.2 a t ht
  cases hty.symm.trans g1
  have hlt : i.toNatClampNeg < hN σ a := Nat.not_le.mp fun q => hin (Or.inr q)
  exact W.iald (v := .int (hA σ a i.toNatClampNeg)) hx hb g2 ((hK.2.1 t _ hty).1 (hN σ a) (fun j => .int (hA σ a j))) (fun q => by cases q) (by show ¬ (i < 0 ∨ (arrV _ _ _).slots.size ≤ _); rw [arrV_size]; exact hin) (by show (arrV _ _ _).slots[_]? = _; rw [arrV_read _ _ hlt]) rfl rfl hd (kk p e R s m args below meth c H locs cells slots ls Kc Ks C hF hL hk1 hk2 h1 h2 h3 h4 h5)
theorem vr_bald {a t : Nat} {i : Int32} (hd : decode M.2.1 pc = .ok (.baload, 1)) (hty : mk_ty[t]? = some .byte) (ht : hT σ a = 2 * t + 2) (hin : vp_in i (hN σ a))
    (kk : mv_V g M F Lw cb sb (pc + 1) L (.int (hA σ a i.toNatClampNeg) :: st) σ Q) : mv_V g M F Lw cb sb pc L (.int i :: .ref a :: st) σ Q := by
  intro p e R s m args below meth c H locs cells slots ls Kc Ks C hF hL hk1 hk2 h1 h2 h3 h4 h5
  obtain ⟨hx, hb, hml, hown, hts, hr, hlk, hnm, hex, hK, hbs⟩ := id C
  obtain ⟨ty, g1, g2, g3⟩ := h3.2.2.2.2.2 a t ht
  cases hty.symm.trans g1
  have hlt : i.toNatClampNeg < hN σ a := Nat.not_le.mp fun q => hin (Or.inr q)
  exact W.bald (v := .int (hA σ a i.toNatClampNeg)) hx hb g2 ((hK.2.1 t _ hty).1 (hN σ a) (fun j => .int (hA σ a j))) (fun q => by cases q) (by show ¬ (i < 0 ∨ (arrV _ _ _).slots.size ≤ _); rw [arrV_size]; exact hin) (by show (arrV _ _ _).slots[_]? = _; rw [arrV_read _ _ hlt]) rfl rfl hd (kk p e R s m args below meth c H locs cells slots ls Kc Ks C hF hL hk1 hk2 h1 h2 h3 h4 h5)
theorem vr_iast {a t : Nat} {i x : Int32} (hd : decode M.2.1 pc = .ok (.iastore, 1)) (hty : mk_ty[t]? = some .int) (ht : hT σ a = 2 * t + 2) (hin : vp_in i (hN σ a))
    (kk : mv_V g M F Lw cb sb (pc + 1) L st (mh_setA σ a i.toNatClampNeg x) Q) : mv_V g M F Lw cb sb pc L (.int x :: .int i :: .ref a :: st) σ Q := by
  intro p e R s m args below meth c H locs cells slots ls Kc Ks C hF hL hk1 hk2 h1 h2 h3 h4 h5
  obtain ⟨hx, hb, hml, hown, hts, hr, hlk, hnm, hex, hK, hbs⟩ := id C
  obtain ⟨ty, g1, g2, g3⟩ := h3.2.2.2.2.2 a t ht
  cases hty.symm.trans g1
  have hba : mg_b g ≤ a := (h3.2.2.2.1 a (by omega)).1
  refine W.iast hx hb g2 ((hK.2.1 t _ hty).1 (hN σ a) (fun j => .int (hA σ a j))) (fun q => by cases q) (by show ¬ (i < 0 ∨ (arrV _ _ _).slots.size ≤ _); rw [arrV_size]; exact hin) rfl rfl hd fun H1 e1 z oq => ?_
  refine kk p e R s m args below meth c H1 _ cells slots ls Kc Ks C hF hL hk1 hk2 h1 h2 (h3.ast ht hty ?_ (fun z => by cases z) z oq rfl rfl rfl rfl (fun b hb => ⟨rfl, if_neg hb, rfl⟩)) (fun q hq => ?_) h5
  · rw [e1]
    show some ((vp_cell _ (hN σ a, .inl (hA σ a))).setSlot _ _) = some (vp_cell _ (hN σ a, .inl (if a = a then upd (hA σ a) _ _ else _)))
    rw [if_pos rfl, vp_cell_i, vp_cell_i, arrV_store]
    congr 2
    funext q
    by_cases hq : q = i.toNatClampNeg
    · subst hq
      simp [updV, upd]
    · simp [updV, upd, hq]
  · rcases List.mem_append.mp hq with z | z
    · exact h4 q z
    · rw [List.mem_singleton.mp z]; exact hba
theorem vr_bast {a t : Nat} {i x : Int32} (hd : decode M.2.1 pc = .ok (.bastore, 1)) (hty : mk_ty[t]? = some .byte) (ht : hT σ a = 2 * t + 2) (hin : vp_in i (hN σ a))
    (kk : mv_V g M F Lw cb sb (pc + 1) L st (mh_setA σ a i.toNatClampNeg x.toInt8.toInt32) Q) : mv_V g M F Lw cb sb pc L (.int x :: .int i :: .ref a :: st) σ Q := by
  intro p e R s m args below meth c H locs cells slots ls Kc Ks C hF hL hk1 hk2 h1 h2 h3 h4 h5
  obtain ⟨hx, hb, hml, hown, hts, hr, hlk, hnm, hex, hK, hbs⟩ := id C
  obtain ⟨ty, g1, g2, g3⟩ := h3.2.2.2.2.2 a t ht
  cases hty.symm.trans g1
  have hba : mg_b g ≤ a := (h3.2.2.2.1 a (by omega)).1
  refine W.bast hx hb g2 ((hK.2.1 t _ hty).1 (hN σ a) (fun j => .int (hA σ a j))) (fun q => by cases q) (by show ¬ (i < 0 ∨ (arrV _ _ _).slots.size ≤ _); rw [arrV_size]; exact hin) rfl rfl hd fun H1 e1 z oq => ?_
  refine kk p e R s m args below meth c H1 _ cells slots ls Kc Ks C hF hL hk1 hk2 h1 h2 (h3.ast ht hty ?_ (fun _ gf j => by
    show fits .byte (.int ((if a = a then upd (hA σ a) i.toNatClampNeg x.toInt8.toInt32 else hA σ a) j)) = true
    rw [if_pos rfl]
    unfold upd
    split
    · exact pk_fb x
    · exact gf j) z oq rfl rfl rfl rfl (fun b hb => ⟨rfl, if_neg hb, rfl⟩)) (fun q hq => ?_) h5
  · rw [e1]
    show some ((vp_cell _ (hN σ a, .inl (hA σ a))).setSlot _ _) = some (vp_cell _ (hN σ a, .inl (if a = a then upd (hA σ a) _ _ else _)))
    rw [if_pos rfl, vp_cell_i, vp_cell_i, arrV_store]
    congr 2
    funext q
    by_cases hq : q = i.toNatClampNeg
    · subst hq
      simp [updV, upd, narrow_byte]
    · simp [updV, upd, hq]
  · rcases List.mem_append.mp hq with z | z
    · exact h4 q z
    · rw [List.mem_singleton.mp z]; exact hba
theorem vr_alen {a t : Nat} {ty : FieldType} (hd : decode M.2.1 pc = .ok (.arraylength, 1)) (hty : mk_ty[t]? = some ty) (ht : hT σ a = 2 * t + 2)
    (kk : mv_V g M F Lw cb sb (pc + 1) L (.int (nI (hN σ a)) :: st) σ Q) : mv_V g M F Lw cb sb pc L (.ref a :: st) σ Q := by
  intro p e R s m args below meth c H locs cells slots ls Kc Ks C hF hL hk1 hk2 h1 h2 h3 h4 h5
  obtain ⟨hx, hb, hml, hown, hts, hr, hlk, hnm, hex, hK, hbs⟩ := id C
  obtain ⟨ty', g1, g2, g3⟩ := h3.2.2.2.2.2 a t ht
  cases hty.symm.trans g1
  have hk := kk p e R s m args below meth c H locs cells slots ls Kc Ks C hF hL hk1 hk2 h1 h2 h3 h4 h5
  cases ty with
  | object C => exact W.alen (n := nI (hN σ a)) hx hb g2 ((hK.2.1 t _ hty).1 (hN σ a) (fun j => va_rf (hQ σ a j))) (by show Nat.toInt32 (arrV _ _ _).slots.size = _; rw [arrV_size]; rfl) rfl rfl hd hk
  | array C => exact W.alen (n := nI (hN σ a)) hx hb g2 ((hK.2.1 t _ hty).1 (hN σ a) (fun j => va_rf (hQ σ a j))) (by show Nat.toInt32 (arrV _ _ _).slots.size = _; rw [arrV_size]; rfl) rfl rfl hd hk
  | _ => exact W.alen (n := nI (hN σ a)) hx hb g2 ((hK.2.1 t _ hty).1 (hN σ a) (fun j => .int (hA σ a j))) (by show Nat.toInt32 (arrV _ _ _).slots.size = _; rw [arrV_size]; rfl) rfl rfl hd hk
theorem vr_aald {a t b : Nat} {i : Int32} {C : String} (hd : decode M.2.1 pc = .ok (.aaload, 1)) (hty : mk_ty[t]? = some (.object C)) (ht : hT σ a = 2 * t + 2) (hin : vp_in i (hN σ a)) (hq : hQ σ a i.toNatClampNeg = some b)
    (kk : mv_V g M F Lw cb sb (pc + 1) L (.ref b :: st) σ Q) : mv_V g M F Lw cb sb pc L (.int i :: .ref a :: st) σ Q := by
  intro p e R s m args below meth c H locs cells slots ls Kc Ks C hF hL hk1 hk2 h1 h2 h3 h4 h5
  obtain ⟨hx, hb, hml, hown, hts, hr, hlk, hnm, hex, hK, hbs⟩ := id C
  obtain ⟨ty, g1, g2, g3⟩ := h3.2.2.2.2.2 a t ht
  cases hty.symm.trans g1
  have hlt : i.toNatClampNeg < hN σ a := Nat.not_le.mp fun q => hin (Or.inr q)
  exact W.aald (v := .ref b) hx hb g2 ((hK.2.1 t _ hty).1 (hN σ a) (fun j => va_rf (hQ σ a j))) rfl (fun q => by cases q) (by show ¬ (i < 0 ∨ (arrV _ _ _).slots.size ≤ _); rw [arrV_size]; exact hin) (by show (arrV _ _ _).slots[_]? = _; rw [arrV_read _ _ hlt, hq]; rfl) rfl rfl hd (kk p e R s m args below meth c H locs cells slots ls Kc Ks C hF hL hk1 hk2 h1 h2 h3 h4 h5)
theorem vr_newa {t n : Nat} {x : Int32} {atype : ArrayType} {ty : FieldType} (hd : decode M.2.1 pc = .ok (.newarray atype, 2)) (hat : newarray.typeOf atype = ty) (hw : Cond.arrayClass ty ∈ mk_T) (hty : mk_ty[t]? = some ty) (hpr : mv_cell ty = fun c n f _ => vp_cell c (n, .inl f)) (hdf : defaultValue ty = .int 0) (hra : ∀ (U : State) (cA : ClassId), va_RA U cA ty → U.vm.findClass ("[" ++ ty.toString) = some cA)
    (hn : ¬ x < 0) (hN : x.toNatClampNeg = n) (hby : n * componentBytes ty ≤ 536870912) (hcb : 1 ≤ cb) (hsb : n ≤ sb)
    (kk : mv_V g M F Lw (cb - 1) (sb - n) (pc + 2) L (.ref (hX σ) :: st) (mh_arr σ t n) Q) : mv_V g M F Lw cb sb pc L (.int x :: st) σ Q := by
  intro p e R s m args below meth c H locs cells slots ls Kc Ks C hF hL hk1 hk2 h1 h2 h3 h4 h5
  obtain ⟨hx, hb, hml, hown, hts, hr, hlk, hnm, hex, hK, hbs⟩ := id C
  subst hat
  refine va_newaK hx hb (hts _ hw) rfl hd rfl hn hN hby (by omega) (by omega) h3.1 fun H1 cA e1 z1 o1 hAr hNm => ?_
  have hcA : cA = mg_A g t := Option.some.inj (hNm.symm.trans (hra s _ (hK.2.1 t _ hty).2))
  subst hcA
  refine kk p e R s m args below meth c H1 locs (cells + 1) (slots + n) ls Kc Ks C hF hL hk1 hk2 (by omega) (by omega) (h3.arr hty ?_ (by rw [z1, h3.1]) (fun q hq => o1 q (by rw [← h3.1]; exact hq))) h4 h5
  rw [h3.1, e1, hpr, hdf]
  rfl
theorem vr_new {idx k : Nat} {r : vw_C} (hd : decode M.2.1 pc = .ok (.new idx, 3)) (hc : mk_cl[k]? = some r) (hw1 : Cond.classLink M.1.cls idx r.1 ∈ mk_T) (hw2 : Cond.instantiable r.1 r.2.2 ∈ mk_T) (hw3 : Cond.initialized r.1 ∈ mk_T)
    (hcb : 1 ≤ cb) (hsb : r.2.2 ≤ sb) (hdf : ∀ j, j < r.2.2 → defaultValue (mk_fty k j) = mv_val (mk_fty k j) 0 none)
    (kk : mv_V g M F Lw (cb - 1) (sb - r.2.2) (pc + 3) L (.ref (hX σ) :: st) (mh_new σ k) Q) : mv_V g M F Lw cb sb pc L st σ Q := by
  intro p e R s m args below meth c H locs cells slots ls Kc Ks C hF hL hk1 hk2 h1 h2 h3 h4 h5
  obtain ⟨hx, hb, hml, hown, hts, hr, hlk, hnm, hex, hK, hbs⟩ := id C
  obtain ⟨hty, -, hin⟩ := mk_ok k r hc
  have hKn := hK.1 k _ hc
  refine W.newcK hx hb hown (hts _ hw1) (hts _ hw2) (hts _ hw3) rfl hd (by omega) (by omega) hKn.2.1 h3.1 fun H1 kC hkC e1 z1 o1 => ?_
  refine kk p e R s m args below meth c H1 locs (cells + 1) (slots + r.2.2) ls Kc Ks C hF hL hk1 hk2 (by omega) (by omega) (h3.new hc ?_ (by rw [z1, h3.1]) (fun q hq => o1 q (by rw [← h3.1]; exact hq))) h4 h5
  rw [h3.1]
  exact (u_born (mk_fty k) hts hin hKn hkC e1 hty).to hdf
theorem vr_anew {idx t n : Nat} {x : Int32} {C : String} (hd : decode M.2.1 pc = .ok (.anewarray idx, 3)) (hw1 : Cond.classLink M.1.cls idx C ∈ mk_T) (hw2 : C ∈ mk_O) (hty : mk_ty[t]? = some (.object C))
    (hn : ¬ x < 0) (hN : x.toNatClampNeg = n) (hby : n * 4 ≤ 536870912) (hcb : 1 ≤ cb) (hsb : n ≤ sb)
    (kk : mv_V g M F Lw (cb - 1) (sb - n) (pc + 3) L (.ref (hX σ) :: st) (mh_arr σ t n) Q) : mv_V g M F Lw cb sb pc L (.int x :: st) σ Q := by
  intro p e R s m args below meth c H locs cells slots ls Kc Ks C hF hL hk1 hk2 h1 h2 h3 h4 h5
  obtain ⟨hx, hb, hml, hown, hts, hr, hlk, hnm, hex, hK, hbs⟩ := id C
  subst hN
  refine W.anew hx hb hown (hts _ hw1) (va_AO.use (hK.2.2.2.1 _ hw2)) rfl hd rfl hn hby (by omega) (by omega) fun cA kA comp f1 f2 f3 f4 => ?_
  obtain ⟨kA', comp', k1, k2, k3, k4⟩ := (hK.2.1 t _ hty).2
  have hcA : cA = mg_A g t := Option.some.inj (f1.symm.trans k4)
  subst hcA
  generalize hH1 : H.push ({ cls := mg_A g t, slots := Array.replicate x.toNatClampNeg .null, vm := .none } : Cell) = H1
  have z1 : H1.size = H.size + 1 := by rw [← hH1, Array.size_push]
  have e1 : H1[H.size]? = some (arrV (mg_A g t) x.toNatClampNeg (fun _ => .null)) := by rw [← hH1, Array.getElem?_push_size, ← arrV_new]
  have o1 : ∀ q : Nat, q < H.size → H1[q]? = H[q]? := fun q hq => by rw [← hH1, Array.getElem?_push, if_neg (Nat.ne_of_lt hq)]
  rw [h3.1]
  exact kk p e R s m args below meth c H1 locs (cells + 1) (slots + x.toNatClampNeg) ls Kc Ks C hF hL hk1 hk2 (by omega) (by omega) (h3.arr hty (by rw [e1]; rfl) z1 o1) h4 h5
theorem vr_aast {a t k v : Nat} {i : Int32} {r : vw_C} (hd : decode M.2.1 pc = .ok (.aastore, 1)) (hty : mk_ty[t]? = some (.object r.1)) (hc : mk_cl[k]? = some r) (ht : hT σ a = 2 * t + 2) (hv : hT σ v = 2 * k + 1) (hin : vp_in i (hN σ a))
    (kk : mv_V g M F Lw cb sb (pc + 1) L st (mh_setQ σ a i.toNatClampNeg (some v)) Q) : mv_V g M F Lw cb sb pc L (.ref v :: .int i :: .ref a :: st) σ Q := by
  intro p e R s m args below meth c H locs cells slots ls Kc Ks C hF hL hk1 hk2 h1 h2 h3 h4 h5
  obtain ⟨hx, hb, hml, hown, hts, hr, hlk, hnm, hex, hK, hbs⟩ := id C
  obtain ⟨ty, g1, g2, g3⟩ := h3.2.2.2.2.2 a t ht
  cases hty.symm.trans g1
  have hba : mg_b g ≤ a := (h3.2.2.2.1 a (by omega)).1
  have hlt : i.toNatClampNeg < hN σ a := Nat.not_le.mp fun q => hin (Or.inr q)
  have h0 : ¬ i < 0 := fun q => hin (Or.inl q)
  obtain ⟨r', hr', cellV, c1, c2, c3, -⟩ := h3.2.2.2.2.1 v k hv
  have hcls := (hK.1 k r hc).2
  obtain ⟨kA, comp, k1, k2, k3, -⟩ := (hK.2.1 t _ hty).2
  have hcomp : comp = mg_C g k := Option.some.inj (k3.symm.trans hcls.1)
  subst hcomp
  obtain ⟨kC, hkC, -⟩ := hcls.2
  refine W.aast hx hb g2 (fun q h => by cases h) (fun h => by cases h) k1 k2 rfl hkC ⟨h0, by show _ < (arrV _ _ _).slots.size; rw [arrV_size]; exact hlt⟩ c1 (fun q h => by rw [c3] at h; cases h) (by rw [c2]; exact hkC) (by rw [c2]; exact va_assign hcls) rfl rfl hd fun H1 e1 z oq => ?_
  refine kk p e R s m args below meth c H1 _ cells slots ls Kc Ks C hF hL hk1 hk2 h1 h2 (h3.ast ht hty ?_ (fun _ gf => gf) z oq rfl rfl rfl rfl (fun b hb => ⟨rfl, rfl, if_neg hb⟩)) (fun q hq => ?_) h5
  · rw [e1]
    show some ((vp_cell _ (hN σ a, .inr (.inr (.inr (.inr (hQ σ a)))))).setSlot _ _) = some (vp_cell _ (hN σ a, .inr (.inr (.inr (.inr (if a = a then va_up (hQ σ a) _ _ else _))))))
    rw [if_pos rfl, vp_cell_q, vp_cell_q, arrV_store]
    congr 2
    funext q
    by_cases hq : q = i.toNatClampNeg
    · subst hq
      simp [updV, va_up, va_rf]
    · simp [updV, va_up, hq]
  · rcases List.mem_append.mp hq with z | z
    · exact h4 q z
    · rw [List.mem_singleton.mp z]; exact hba
theorem vr_acopy {idx t a0 a : Nat} {ty : FieldType} {sp dp n : Int32} (hd : decode M.2.1 pc = .ok (.invokestatic idx, 3)) (hw : Cond.methodLink M.1.cls idx arraycopyName ∈ mk_T) (hw2 : Cond.native arraycopyName ∈ mk_T) (hw3 : Cond.static arraycopyName ∈ mk_T) (hw4 : Cond.initialized "java/lang/System" ∈ mk_T)
    (hty : mk_ty[t]? = some ty) (hprim : refKind ty = false) (hpr : mv_cell ty = fun c n f _ => vp_cell c (n, .inl f)) (hfi : ty = .byte ∨ ∀ x : Int32, fits ty (.int x) = true) (ht0 : hT σ a0 = 2 * t + 2) (ht1 : hT σ a = 2 * t + 2)
    (h1 : ¬ sp < 0) (h2 : ¬ dp < 0) (h3 : ¬ n < 0) (h4 : sp.toNatClampNeg + n.toNatClampNeg ≤ hN σ a0) (h5 : dp.toNatClampNeg + n.toNatClampNeg ≤ hN σ a) (hF : 1 ≤ F) (hLw : (st.map fun v => v.category).sum + (nativeFrameWords "java/lang/System" "arraycopy" 5 + 11) ≤ Lw)
    (kk : mv_V g M F Lw cb sb (pc + 3) L st (mh_cpy σ a0 a sp.toNatClampNeg dp.toNatClampNeg n.toNatClampNeg) Q) : mv_V g M F Lw cb sb pc L (.int n :: .int dp :: .ref a :: .int sp :: .ref a0 :: st) σ Q := by
  intro p e R s m args below meth c H locs cells slots ls Kc Ks C hF1 hL1 hk1 hk2 i1 i2 i3 i4 i5
  obtain ⟨hx, hb, hml, hown, hts, hr, hlk, hnm, hex, hK, hbs, -⟩ := id C
  have nn : ∀ z : Int32, ¬ z < 0 → z.toInt = (z.toNatClampNeg : Int) := by
    intro z hz
    have hz0 : (0 : Int) ≤ z.toInt := by
      have := Int32.not_lt.mp hz
      simpa using Int32.le_iff_toInt_le.mp this
    show z.toInt = ((z.toInt.toNat : Nat) : Int)
    omega
  obtain ⟨ty0, f1, hc0, f3⟩ := i3.2.2.2.2.2 a0 t ht0
  cases hty.symm.trans f1
  obtain ⟨ty1, f4, hc1, f6⟩ := i3.2.2.2.2.2 a t ht1
  cases hty.symm.trans f4
  rw [hpr] at hc0 hc1
  have hba : mg_b g ≤ a := (i3.2.2.2.1 a (by omega)).1
  have hfit : ∀ i, i < n.toNatClampNeg → fits ty (.int (hA σ a0 (sp.toNatClampNeg + i))) = true := fun i _ => by
    rcases hfi with z | z
    · rw [z]; exact f3 z _
    · exact z _
  intro T hT X
  obtain ⟨-, k0, hk0, cm0, hkk0⟩ := (hK.2.1 t _ hty).1 (hN σ a0) (fun j => .int (hA σ a0 j))
  obtain ⟨-, k1, hk1', cm1, hkk1⟩ := (hK.2.1 t _ hty).1 (hN σ a) (fun j => .int (hA σ a j))
  obtain ⟨vm', X', step⟩ := X.arraycopy hx hown (hts _ hw) (hts _ hw2) (hts _ hw3) (hts _ hw4) (src := a0) (dst := a) (cs := vp_cell (mg_A g t) (hN σ a0, .inl (hA σ a0))) (cd := vp_cell (mg_A g t) (hN σ a, .inl (hA σ a))) (srcPos := sp) (destPos := dp) (n := n) (by rw [hT]; exact hc0) (by rw [hT]; exact hc1)
    (fun _ h => by cases h) (fun _ h => by cases h) (fun h => by cases h) (fun h => by cases h) hk0 hk1' hkk0 hkk1 (by simp [hprim]) h1 h2 h3
    (by rw [nn sp h1, nn n h3]; show ¬ _ > ((arrV _ (hN σ a0) (fun j => .int (hA σ a0 j))).slots.size : Int); rw [arrV_size]; omega)
    (by rw [nn dp h2, nn n h3]; show ¬ _ > ((arrV _ (hN σ a) (fun j => .int (hA σ a j))).slots.size : Int); rw [arrV_size]; omega)
    (fun vm₁ _ i hi => by
      have e : (vp_cell (mg_A g t) (hN σ a0, .inl (hA σ a0))).slots.getD (sp.toNatClampNeg + i) .null = .int (hA σ a0 (sp.toNatClampNeg + i)) := by
        show (arrV _ (hN σ a0) (fun j => .int (hA σ a0 j))).slots.getD _ _ = _
        rw [Array.getD_eq_getD_getElem?, arrV_read _ _ (by omega)]
        rfl
      refine ⟨?_, ?_⟩
      · rw [e]
        exact hfit i hi
      · rw [e]
        exact trivial)
    (g := F0 m pc ls (.int n :: .int dp :: .ref a :: .int sp :: .ref a0 :: st)) rfl (by rw [hml]; exact i5.1) (rest := st) rfl (by rw [hb]; exact hd) (by omega) (by show 2 * 0 + _ + _ ≤ _; omega)
  have e1 : copied (vp_cell (mg_A g t) (hN σ a0, .inl (hA σ a0))) (vp_cell (mg_A g t) (hN σ a, .inl (hA σ a))) sp dp n = vp_cell (mg_A g t) (hN σ a, .inl (va_cpy (hA σ a0) (hA σ a) sp.toNatClampNeg dp.toNatClampNeg n.toNatClampNeg)) := va_copied (fun z => .int z) _ _ (hA σ a0) (hA σ a) h4
  rw [e1] at X' step
  have hl : a < H.size := (Array.getElem?_eq_some_iff.mp hc1).1
  have hheap : ((T.setVm vm').setCell a (vp_cell (mg_A g t) (hN σ a, .inl (va_cpy (hA σ a0) (hA σ a) sp.toNatClampNeg dp.toNatClampNeg n.toNatClampNeg)))).heap = H.setIfInBounds a (vp_cell (mg_A g t) (hN σ a, .inl (va_cpy (hA σ a0) (hA σ a) sp.toNatClampNeg dp.toNatClampNeg n.toNatClampNeg))) := by rw [← hT]; rfl
  have oq : ∀ q : Nat, q ≠ a → (H.setIfInBounds a (vp_cell (mg_A g t) (hN σ a, .inl (va_cpy (hA σ a0) (hA σ a) sp.toNatClampNeg dp.toNatClampNeg n.toNatClampNeg))))[q]? = H[q]? := fun q hq => by simp [Array.getElem?_setIfInBounds, Ne.symm hq]
  obtain ⟨t2, a1, b1⟩ := kk p e R s m args below meth c _ _ cells slots ls Kc Ks C hF1 hL1 hk1 hk2 i1 i2 (i3.ast (σ' := mh_cpy σ a0 a sp.toNatClampNeg dp.toNatClampNeg n.toNatClampNeg) ht1 hty (by
      rw [hpr]
      show (H.setIfInBounds a _)[a]? = some (vp_cell (mg_A g t) (hN σ a, .inl (if a = a then va_cpy (hA σ a0) (hA σ a) sp.toNatClampNeg dp.toNatClampNeg n.toNatClampNeg else hA σ a)))
      rw [if_pos rfl]
      simp [Array.getElem?_setIfInBounds, hl]) (fun z gf j => by
      show fits .byte (.int ((if a = a then va_cpy (hA σ a0) (hA σ a) sp.toNatClampNeg dp.toNatClampNeg n.toNatClampNeg else hA σ a) j)) = true
      rw [if_pos rfl]
      unfold va_cpy
      split
      · exact f3 z _
      · exact gf j) (by simp) oq rfl rfl rfl rfl (fun b hb => ⟨rfl, if_neg hb, rfl⟩)) (fun q hq => by
      rcases List.mem_append.mp hq with z | z
      · exact i4 q z
      · obtain ⟨w, -, hz⟩ := List.mem_map.mp z
        rw [← hz]
        exact hba) i5 _ hheap X'
  exact ⟨t2, step t2 a1, b1⟩
theorem vr_iret {v : Int32} {ty : FieldType} (hd : decode M.2.1 pc = .ok (.ireturn, 1)) (hret : M.2.2.2.1 = some ty) (hn : narrow ty (.int v) = .int v) (hq : Q (.returned (some (.int v))) σ) : mv_V g M F Lw cb sb pc L [.int v] σ Q := by
  intro p e R s m args below meth c H locs cells slots ls Kc Ks C hF hL hk1 hk2 h1 h2 h3 h4 h5
  obtain ⟨hx, hb, hml, hown, hts, hr, hlk, hnm, hex, hK, hbs⟩ := id C
  refine W.widen (k := Kc) (n := Ks) (by omega) (by omega) ?_
  exact tk_ret (W.zret hx hb (hr.trans hret) hn (fun t ht _ => ⟨σ, hq, by rw [ht]; exact h3⟩) h4 hd hlk)
theorem vr_vret (hd : decode M.2.1 pc = .ok (.return_, 1)) (hret : M.2.2.2.1 = none) (hq : Q (.returned none) σ) : mv_V g M F Lw cb sb pc L [] σ Q := by
  intro p e R s m args below meth c H locs cells slots ls Kc Ks C hF hL hk1 hk2 h1 h2 h3 h4 h5
  obtain ⟨hx, hb, hml, hown, hts, hr, hlk, hnm, hex, hK, hbs⟩ := id C
  refine W.widen (k := Kc) (n := Ks) (by omega) (by omega) ?_
  exact tk_ret (W.vret hx hb (hr.trans hret) (fun t ht _ => ⟨σ, hq, by rw [ht]; exact h3⟩) h4 hd hlk)
theorem vr_aret {a : Nat} {ty : FieldType} (hd : decode M.2.1 pc = .ok (.areturn, 1)) (hret : M.2.2.2.1 = some ty) (hrt : (∃ n, ty = .object n) ∨ ∃ t, ty = .array t) (hq : Q (.returned (some (.ref a))) σ) : mv_V g M F Lw cb sb pc L [.ref a] σ Q := by
  intro p e R s m args below meth c H locs cells slots ls Kc Ks C hF hL hk1 hk2 h1 h2 h3 h4 h5
  obtain ⟨hx, hb, hml, hown, hts, hr, hlk, hnm, hex, hK, hbs⟩ := id C
  refine W.widen (k := Kc) (n := Ks) (by omega) (by omega) ?_
  exact tk_ret (W.aret hx hb (hr.trans hret) hrt (Or.inr ⟨a, rfl⟩) (fun t ht _ => ⟨σ, hq, by rw [ht]; exact h3⟩) h4 hd hlk)
theorem vr_objInit {idx a : Nat} (hd : decode M.2.1 pc = .ok (.invokespecial idx, 3)) (hw1 : Cond.methodLink M.1.cls idx Lib.objectInit ∈ mk_T) (hw2 : Cond.instanceMethod Lib.objectInit ∈ mk_T) (hw3 : Cond.code Lib.objectInit ⟨#[0xb1]⟩ 1 none ∈ mk_T) (hF : 1 ≤ F) (hst : (st.map fun v => v.category).sum + 12 ≤ Lw)
    (kk : mv_V g M F Lw cb sb (pc + 3) L st σ Q) : mv_V g M F Lw cb sb pc L (.ref a :: st) σ Q := by
  intro p e R s m args below meth c H locs cells slots ls Kc Ks C hF' hL hk1 hk2 h1 h2 h3 h4 h5
  obtain ⟨hx, hb, hml, hown, hts, hr, hlk, hnm, hex, hK, hbs⟩ := id C
  refine W.objInit hx hb hown (hts _ hw1) (hts _ hw2) (hts _ hw3) rfl (by rw [hml]; exact h5.1) rfl hd (by omega) (by show 2 * 0 + _ + 12 ≤ _; omega) ?_
  exact kk p e R s m args below meth c H locs cells slots ls Kc Ks C hF' hL hk1 hk2 h1 h2 h3 h4 h5
theorem vr_ldc {idx : Nat} {v : Int32} (hd : decode M.2.1 pc = .ok (.ldc idx, 2)) (hw : Cond.constant M.1.cls idx v ∈ mk_T) (kk : mv_V g M F Lw cb sb (pc + 2) L (.int v :: st) σ Q) : mv_V g M F Lw cb sb pc L st σ Q := mv_go (fun _ _ _ _ _ _ _ _ _ _ _ _ _ _ _ C _ w => lv_ldc C.1 C.2.1 C.2.2.2.1 (C.2.2.2.2.1 _ hw) hd w) kk
theorem vr_ldc2 {idx : Nat} {v : Int64} (hd : decode M.2.1 pc = .ok (.ldc2_w idx, 3)) (hw : Cond.constantLong M.1.cls idx v ∈ mk_T) (kk : mv_V g M F Lw cb sb (pc + 3) L (.long v :: st) σ Q) : mv_V g M F Lw cb sb pc L st σ Q := mv_go (fun _ _ _ _ _ _ _ _ _ _ _ _ _ _ _ C _ w => lv_ldc2 C.1 C.2.1 C.2.2.2.1 (C.2.2.2.2.1 _ hw) hd w) kk
theorem vr_lcmp {x y : Int64} (hd : decode M.2.1 pc = .ok (.lcmp, 1)) (kk : mv_V g M F Lw cb sb (pc + 1) L (.int (lg_cmp x y) :: st) σ Q) : mv_V g M F Lw cb sb pc L (.long y :: .long x :: st) σ Q := mv_go (fun _ _ _ _ _ _ _ _ _ _ _ _ _ _ _ C _ w => W.lcmp C.1 C.2.1 hd w) kk
end MVH
