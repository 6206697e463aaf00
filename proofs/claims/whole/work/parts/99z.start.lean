/-! THE CLAIM OUT OF ONE WALK OF THE LAW'S BODY. Your part is whole_start (and what it stands on); all else here is the same for every law, but numbers. -/
def R_law : String := "ProgramReaderLaw"
def lw_P (b : Addr) (xs : List Int32) (args : Array Value) (s : State) : Prop := args = #[.ref b] ∧ s.IntsAt b xs ∧ xs.length ≤ 3072 ∧ (Jvm.Cond.and given_1 narrow_1).before args s = true
def lw_Q (_ : Array Value) (s : State) (o : Outcome) (t : State) : Prop := o = .returned (some (.int 1)) ∧ Framed s o t [] room_1.cells room_1.slots
def lw_Z (below : List Frame) (a : Array Value) (s : State) : State → Prop := fun t => ∃ o, t.status = .running ∧ Ended t below o ∧ lw_Q a s o t
/-- the law's own end, with 1 on the stack, nothing written that was there before, its room as the claim has it -/
theorem lw_ret {p : Program} {l : Launch} {e : Env} {s : State} {m : MethodId} {below : List Frame} {meth : Method} {c : Code} {b : Nat} (hx : p.tables.exec = Jvm.exec) (hb : c.code = code) (hr : meth.sig.returnType = ret) (hlocks : meth.locks = false) {pc : Nat} {H : Heap} {ls : Array Slot} (hdg : decode code pc = .ok (.ireturn, 1)) : W p l e room_1 s m #[Value.ref b] below meth c H [] room_1.cells room_1.slots (lw_Z below #[Value.ref b] s) (F0 m pc ls [.int 1]) := by
  intro T hT X
  obtain ⟨fs, hret, hrun, hended, hW, hframe⟩ := X.leave (v := some (.int 1)) (hlocks := hlocks) (fun h => by rw [hr] at h; cases h)
  have hmeth' : T.vm.method? m = some meth := X.method'
  refine ⟨T.setFrames fs, ?_, .returned (some (.int 1)), hrun, hended, rfl, ⟨_, rfl⟩, hW, hframe⟩
  jvm_step X.here [X.here.top, hx, hb, hdg, hmeth', hr, ret, narrow_b1]
  (try refine ⟨rfl, ?_⟩); (try refine ⟨rfl, ?_⟩)
  first | (intro acts; rw [hret _ acts rfl rfl rfl]) | rw [hret _ _ rfl rfl rfl]
  exact Steps.refl _
/-- what holds at the law's entry: the machine, the code, the tables' words (any of lw_tbl by 'hts w (by decide +kernel)'), the script of L ints xs at the cell b, what the Statement gives of the start (any of its parts by flat_of_before) -/
def lw_At (p : Program) (s : State) (m : MethodId) (meth : Method) (c : Code) (b L : Nat) (xs : Nat → Int32) : Prop :=
  p.tables.exec = Jvm.exec ∧ c.code = code ∧ meth.sig.returnType = ret ∧ c.maxLocals = 4 ∧ s.vm.findClass R_law = some m.cls ∧ (∀ w ∈ lw_tbl, w.before #[Value.ref b] s = true) ∧ va_X b L xs s s.heap ∧ b < s.heap.size ∧ meth.locks = false ∧ (Jvm.Cond.and given_1 narrow_1).before #[Value.ref b] s = true ∧ meth.name = "law" ∧ c.exceptionTable.toList = []
-- ===== YOUR PART BEGINS =====
theorem iv_all {g : mv_G} {N ax am : Nat} (hNN : 40000 ≤ N) : lw_all g N ax am (fun k => IV (mg_K g) ax am (min k 512)) := by
  have up : ∀ {fC : mh_H → Option ((Int32 × mh_H) × Nat × Nat)} {fR : rm_S → Option (Int32 × rm_S)}, lwq (mg_K g) am (IV (mg_K g) ax am) fC fR → lw_op g am (fun k => IV (mg_K g) ax am (min k 512)) fC fR := by
    intro fC fR h k cb sb σ hk hI
    have e1 : min k 512 = k := by omega
    have e2 : min (k + 1) 512 = k + 1 := by omega
    have hI' : IV (mg_K g) ax am k cb sb σ := by rw [← e1]; exact hI
    obtain ⟨v, s1, c, n, S, S', q1, q2, q3, q4, q5, q6⟩ := h k cb sb σ hk hI'
    refine ⟨v, s1, c, n, S, S', q1, q2, q3, q4, q5, ?_⟩
    show IV (mg_K g) ax am (min (k + 1) 512) _ _ _
    rw [e2]
    exact q6
  have up0 : ∀ {fC : mh_H → Option (Int32 × mh_H)} {fR : rm_S → Option (Int32 × rm_S)}, lwq0 (mg_K g) am (IV (mg_K g) ax am) fC fR → lw_op0 g am (fun k => IV (mg_K g) ax am (min k 512)) fC fR := by
    intro fC fR h k cb sb σ hk hI
    have e1 : min k 512 = k := by omega
    have e2 : min (k + 1) 512 = k + 1 := by omega
    have hI' : IV (mg_K g) ax am k cb sb σ := by rw [← e1]; exact hI
    obtain ⟨v, s1, S, S', q1, q4, q5, q6⟩ := h k cb sb σ hk hI'
    refine ⟨v, s1, S, S', q1, q4, q5, ?_⟩
    show IV (mg_K g) ax am (min (k + 1) 512) _ _ _
    rw [e2]
    exact q6
  refine ⟨?_, ?_, fun x1 x2 x3 x4 x5 => up (op_feed hNN x1 x2 x3 x4 x5), fun x1 x2 => up (op_read hNN x1 x2), fun x1 => up0 (op_nodes x1), fun x1 x2 x3 => up0 (op_node hNN x1 x2 x3), fun x1 x2 x3 => up0 (op_part hNN x1 x2 x3), fun x1 x2 => up0 (op_whole x1 x2), up0 op_names, fun x1 x2 => up0 (op_spelt x1 x2), fun x1 x2 => up (op_write hNN x1 x2), fun x1 => up0 (op_written x1), up (op_again hNN), up0 (op_same hNN)⟩
  · intro k cb sb σ h
    obtain ⟨own, P, V, lf, lo, nt, F, A, S, H, R, RR, hax, -⟩ := h
    rw [← hax]
    exact H.1.1.1
  · intro k cb sb σ h
    by_cases hk : k < 512
    · have e1 : min k 512 = k := by omega
      have e2 : min (k + 1) 512 = k + 1 := by omega
      show IV (mg_K g) ax am (min (k + 1) 512) _ _ _
      rw [e2]
      exact fin_ask hk (by rw [← e1]; exact h)
    · have e : min (k + 1) 512 = min k 512 := by omega
      show IV (mg_K g) ax am (min (k + 1) 512) _ _ _
      rw [e]
      exact h
/-- the heap as it is at the law's entry: nothing of the run's own -/
def sq_σ (n : Nat) : mh_H := (fun _ => 0, fun _ _ _ => 0, fun _ _ _ => none, fun _ _ => 0, fun _ _ => none, fun _ => 0, n)
theorem sq_R {g : mv_G} {H : Heap} (hb : mg_b g = H.size) (hH : mg_H g = H) : mv_R g (sq_σ H.size) H := by
  refine ⟨rfl, by rw [hb]; exact Nat.le_refl _, fun q _ => by rw [hH], fun a h => absurd rfl h, fun a k h => ?_, fun a t h => ?_⟩
  · have h' : 0 = 2 * k + 1 := h
    omega
  · have h' : 0 = 2 * t + 2 := h
    omega
theorem sq_frame {s t : State} {L : List Loc} {k n k' n' : Nat} (h : tk_E s t L k n) (hL : ∀ q ∈ L, s.heap.size ≤ q.base) (hk : k ≤ k') (hn : n ≤ n') : s.WarmedH t.vm ∧ s.sameButNew ({ t with vm := s.vm } : State) [] k' n' := by
  obtain ⟨hw, e, h1, h2, h3, h4, h5⟩ := h
  refine ⟨hw, e, h1, Nat.le_trans h2 (Nat.add_le_add_left hk _), h3, Nat.le_trans h4 hn, fun a c hc => ?_⟩
  obtain ⟨c', g1, g2, g3, g4⟩ := h5 a c hc
  refine ⟨c', g1, g2, g3, fun i _ => g4 i (fun hm => ?_)⟩
  have hx := hL _ hm
  have hy : a < s.heap.size := (Array.getElem?_eq_some_iff.mp hc).1
  exact Nat.lt_irrefl _ (Nat.lt_of_lt_of_le hy hx)
/-- YOUR PART: from the entry, for every script of at most 3072 ints, the law comes to its end with true -/
theorem whole_start {p : Program} {e : Env} {s : State} {m : MethodId} {below : List Frame} {meth : Method} {c : Code} (l : Launch) (hl : l.stackTraces = false) {b L : Nat} {xs : Nat → Int32} (hL : L ≤ 3072) (C0 : lw_At p s m meth c b L xs) : W p l e room_1 s m #[Value.ref b] below meth c s.heap [] 0 0 (lw_Z below #[Value.ref b] s) (entryFrame m ([Value.ref b] : List Value).toArray 4) := by
  obtain ⟨hx, hb, hr, hml, hown, hts, hxs, hbl, hlocks, hgv, hnm, hex⟩ := C0
  obtain ⟨C, I, A, K, V, hK⟩ := sq_known (l := l) hL hts hxs hbl hgv
  generalize hg : ((l, C, I, A, s.heap.size, s.heap, K, V, b, L, xs) : mv_G) = g at hK
  have hgl : mg_l g = l := by rw [← hg]
  have hgb : mg_b g = s.heap.size := by rw [← hg]
  have hgH : mg_H g = s.heap := by rw [← hg]
  have hgS : mg_S g = (b, L, xs) := by rw [← hg]
  have hC : mv_C g M_LA_law p s m #[Value.ref b] meth c := ⟨hx, hb, hml, hown, fun w hw => hts w (List.mem_filter.mp hw).1, hr, hlocks, hnm, hex, hK, by rw [hgb]; exact Nat.le_refl _, fun q _ => by rw [hgH]⟩
  have hR : mv_R g (sq_σ s.heap.size) s.heap := sq_R hgb hgH
  have hk1 : 100000 ≤ room_1.cells - 1 := by decide +kernel
  have hk2 : 3000000 ≤ room_1.slots - 6 := by decide +kernel
  obtain ⟨s1, s2, e1, e2, hI⟩ := iv_zero (σ := sq_σ s.heap.size) (N := 40000) (cb := room_1.cells - 1) (sb := room_1.slots - 6) (K := mg_K g) (Nat.le_refl _) (by omega) (by omega)
  have hV := lw_entry (g := g) (by rw [hgl]; exact hl) (N := 40000) (σ := sq_σ s.heap.size) (cb := room_1.cells - 1) (sb := room_1.slots - 6) (by rw [hgS]; exact hL) ⟨s1, 51, 457, s2, 22, 378018, (fun k => IV (mg_K g) (hX (sq_σ s.heap.size)) (hX s1) (min k 512)), e1, e2, by omega, by omega, hI, iv_all (Nat.le_refl _)⟩
  rw [hgS] at hV
  have hlv := lv_entry ([.ref b]) (n := 4) (Nat.le_of_ble_eq_true rfl)
  rw [lg_entry_eq]
  generalize (lg_sl ([.ref b]) ++ List.replicate (4 - (lg_sl ([.ref b])).length) Slot.unset).toArray = ls at hlv ⊢
  have hlv : lv_has ls 4 (mv_prs 0 [some (.ref b), none, none, none]) := hlv
  have hW := hV p e room_1 s m #[Value.ref b] below meth c s.heap [] 0 0 ls (room_1.cells - 1) (room_1.slots - 6) hC rfl rfl (by omega) (by omega) (by omega) (by omega) hR (fun q hq => by cases hq) hlv
  rw [hgl] at hW
  refine tk_mono (fun t ht => ?_) hW
  obtain ⟨o, t1, t2, ⟨σ, rfl, -⟩, Ls, t3, t4⟩ := ht
  refine ⟨_, t1, t2, rfl, ⟨_, rfl⟩, ?_⟩
  exact sq_frame t3 (fun q hq => by have h := t4 q hq; rw [hgb] at h; exact h) (Nat.sub_le _ _) (Nat.sub_le _ _)
-- ===== YOUR PART ENDS =====
set_option maxHeartbeats 4000000 in
theorem lw_walk (l : Launch) (hl : l.stackTraces = false) (b : Addr) (xs : List Int32) : MetFree l x (headSpec (Jvm.Cond.code x code maxLocals ret :: tables_1) room_1) (lw_P b xs) (fun _ _ _ _ _ => True) lw_Q := by
  refine MetFree.of_bodyS (code := code) (maxLocals := maxLocals) (ret := ret) (by decide) ?_ ?_
  · intro args s m h hn
    obtain ⟨meth, c, h1, h2, h3, h4, h5, h6, -, -⟩ := Cond.code_spec hn (atoms_spec (ws := Jvm.Cond.code x code maxLocals ret :: tables_1) h _ List.mem_cons_self)
    exact ⟨meth, c, h1, h2, h3, h4, h5, h6⟩
  · intro p e s m args below meth c s₁ B hml0 hP _
    obtain ⟨rfl, hx, hbd, hgv⟩ := hP
    obtain ⟨scr, harrAt, hlist, hof, hsmall⟩ := hx
    obtain ⟨hcb, hkn, -, -⟩ := State.arrayAt?_spec harrAt
    have hown : s.vm.findClass R_law = some m.cls := findClass_of_methodNamed B.named
    have hts0 : ∀ c ∈ (Jvm.Cond.code x code maxLocals ret :: tables_1), c.before #[Value.ref b] s = true := atoms_spec (ws := Jvm.Cond.code x code maxLocals ret :: tables_1) B.pre
    have hts : ∀ w ∈ lw_tbl, w.before #[Value.ref b] s = true := k2_hts_sels lw_privs (fun w hw => hts0 w (List.mem_cons_of_mem _ hw)) lw_privs_ok
    have hml : c.maxLocals = 4 := B.maxLocals_eq (hts0 _ List.mem_cons_self)
    have X₀ : Stand p l e room_1 s m #[Value.ref b] below meth c s₁ [] 0 0 := Stand.of_body B
    have hh0 : s₁.heap = s.heap := by rw [B.state]; rfl
    have hsz : scr.slots.size = xs.length := by rw [← Array.length_toList, hlist, List.length_map]
    have hval : ∀ j : Nat, j < xs.length → scr.slots[j]? = some (.int (xs.getD j 0)) := fun j hj => by
      rw [← Array.getElem?_toList, hlist]
      simp [hj]
    have hbl : b < s.heap.size := (Array.getElem?_eq_some_iff.mp hcb).1
    have hX : va_X b xs.length (fun j => xs.getD j 0) s s.heap := ⟨scr, hcb, hof, hkn, hsz, hval⟩
    have K : W p l e room_1 s m #[Value.ref b] below meth c s₁.heap [] 0 0 (lw_Z below #[Value.ref b] s) (entryFrame m ([Value.ref b] : List Value).toArray 4) := by
      rw [hh0]
      exact whole_start l hl hbd ⟨B.exec, B.bytes, B.returns, hml, hown, hts, hX, hbl, B.notSynchronized, hgv, (name_of_methodNamed B.named B.method).1, by
        have h0 : c.exceptionTable = #[] := by simpa using B.noHandlers (hts0 _ List.mem_cons_self)
        rw [h0]⟩
    obtain ⟨t, a1, o, b1, b2, b3⟩ := K s₁ rfl X₀
    exact ⟨t, o, a1, b1, b2, b3⟩
theorem lw_pre_spec {args : Array Value} {s : State} (h : (Jvm.Cond.and given_1 narrow_1).before args s = true) (hr : rest_1_c.before args s = true) : ∃ (b : Addr) (xs : List Int32), lw_P b xs args s := by
  have hs := flat_of_before _ h
  have hq := flat_of_before _ hr
  have hc : (Cond.count 1).before args s = true := hs _ (by decide +kernel)
  have harr : (Cond.arrayOf (.arg 0) .int).before args s = true := hs _ (by decide +kernel)
  have hle : (Cond.le (.length (.arg 0)) (.int 3072)).before args s = true := hs _ (by decide +kernel)
  have hlen : (Cond.isInt (.length (.arg 0))).before args s = true := hq _ (by decide +kernel)
  have hall : (Cond.all (.arg 0) (.isInt (.elem (.arg 0) (.index 0)))).before args s = true := hq _ (by decide +kernel)
  obtain ⟨b, xs, hb, hx⟩ := State.ints_of_pre rfl harr hlen hall
  have hsm : xs.length < 2 ^ 31 := hx.choose_spec.2.2.2
  have hev : (Term.length (.arg 0)).eval args s none [] s = some (.int xs.length.toInt32) := hx.length_eval hb
  have hv := Cond.le_ints hev (show (Term.int 3072).eval args s none [] s = some (.int 3072) from rfl)
  have hd : xs.length.toInt32 ≤ 3072 := by
    simpa [Cond.before, Cond.holds, hv] using hle
  have hN : xs.length ≤ 3072 := (Int32.ofNat_le_ofNat hsm (by decide)).mp (show Int32.ofNat xs.length ≤ Int32.ofNat 3072 from hd)
  exact ⟨b, xs, Cond.one_arg hc (show args[0]? = some (.ref b) from hb), hx, hN, h⟩
theorem lw_comes (l : Launch) (hl : l.stackTraces = false) : Comes l x (Jvm.Cond.code x code maxLocals ret :: tables_1) room_1 (fun tb e args s => Calls_1 tb e args s ∧ rest_1 tb e args s ∧ Pre_1 tb e args s)
    (fun _ _ args s o t => lw_Q args s o t) := by
  intro p e ha hc hk s m args below hf hfit hheap happ hpre
  obtain ⟨b, xs, hP⟩ := lw_pre_spec hpre.2.2 hpre.2.1
  obtain ⟨k, o, h1, h2, h3, hQ⟩ := lw_walk l hl b xs p e ha hc hk s m args below hf ((Spec.applies_iff_loose hf).mp happ).1 hP trivial
  exact ⟨k, o, h1, h2, h3, hQ⟩
theorem lw_frame {s t : State} {o : Outcome} {args : Array Value} (h : Framed s o t [] room_1.cells room_1.slots) :
    Framed s o t (fieldLocs frame_1_writes args s ++ arrayLocs frame_1_arrays args s ++ staticLocs frame_1_statics s) room_1.cells room_1.slots := h
theorem lw_limb (L : Cond) (hL : ∀ (args : Array Value) (s t : State), L.after args s (.returned (some (.int 1))) t = true) :
    ArmFor flags0 classFile x code maxLocals ret World_1 tables_1 room_1 Calls_1 rest_1 Pre_1
      (fun tb e a s o t => postC L tb e a s o t ∧ Framed s o t (fieldLocs frame_1_writes a s ++ arrayLocs frame_1_arrays a s ++ staticLocs frame_1_statics s) room_1.cells room_1.slots) := by
  intro l hfl _ _ p e ha hc hk s m args below hf hfit hheap happ hpre
  obtain ⟨k, o, h1, h2, h3, rfl, hF⟩ := lw_comes l (by unfold Launch.stackTraces; rw [hfl]; decide) p e ha hc hk s m args below hf hfit hheap happ hpre
  exact ⟨k, _, h1, h2, h3, hL args s _, lw_frame hF⟩
theorem i_vc : Claimed_1_1 ∧ Claimed_1_2 := ⟨lw_limb limb_1_1 (fun args s t => by simp [limb_1_1, Cond.after, Cond.holds, Cond.value]), lw_limb limb_1_2 (fun args s t => Cond.after_iff.mpr (by
  first | (rw [show limb_1_2 = Cond.eq .result (.int 1) from rfl, Cond.eq_ints (x := 1) (y := 1) rfl rfl]; simp; done) | (simp [limb_1_2, Cond.value, Term.eval]; done)))⟩
