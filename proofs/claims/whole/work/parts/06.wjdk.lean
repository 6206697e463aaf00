/-! THE JDK's OWN MEMBERS: strings that are constants, Math, Arrays -/
section TKF
variable {l : Launch}
theorem tk_ofWF {y : MethodName} {ws ws' : List Cond} {rm : Room} {Pc : Array Value → State → Prop} {Qc : Array Value → State → Outcome → State → Prop} {mc ms : Nat} {free : Addr → Prop} {cc : ByteArray} {maxL : Nat} {ret : Option FieldType}
    (hy : plainFor y = true) (hw : ws = Cond.code y cc maxL ret :: ws')
    (body : ∀ p e s m args below meth c s₁, BodyLoose p l y (headSpec ws rm) cc maxL ret e s m args below meth c s₁ → c.maxLocals = maxL → c.exceptionTable.isEmpty = true → Pc args s →
      W p l e (headSpec ws rm).room s m args below meth c s.heap [] 0 0 (tk_Q below Qc args s mc ms free) (entryFrame m args maxL)) : tk_Met l y ws rm Pc Qc mc ms free := by
  refine MetFree.of_bodySF (code := cc) (maxLocals := maxL) (ret := ret) hy ?_ ?_
  · intro args s m h hn
    obtain ⟨meth, c, h1, h2, h3, h4, h5, h6, -, -⟩ := Cond.code_spec hn (atoms_spec (ws := ws) h _ (by rw [hw]; exact List.mem_cons_self))
    exact ⟨meth, c, h1, h2, h3, h4, h5, h6⟩
  · intro p e s m args below meth c s₁ B hml hP _
    have hh0 : s₁.heap = s.heap := by rw [B.state]; rfl
    have hcd : (Cond.code y cc maxL ret).before args s = true := atoms_spec (ws := ws) B.pre _ (by rw [hw]; exact List.mem_cons_self)
    obtain ⟨t, a1, o, b1, b2, b3⟩ := body p e s m args below meth c s₁ B hml (B.noHandlers hcd) hP s₁ hh0 (Stand.of_body B)
    exact ⟨t, o, a1, b1, b2, ⟨b3.1, b3.2⟩⟩
end TKF
def s_b (i : Nat) : List Int32 := mk_sb.getD i []
def s_len (i : Nat) : Int32 := nI (s_b i).length
def s_emp (i : Nat) : Int32 := if s_b i = [] then 1 else 0
def s_at (i : Nat) (j : Int32) : Int32 := (s_b i).getD j.toNatClampNeg 0
theorem s_all : ∀ i, i < 67 → (s_b i).length < 8 ∧ (nI (s_b i).length) >>> ((0 : Int32) &&& 31) = nI (s_b i).length ∧ (∀ b ∈ s_b i, ((b &&& 255).toUInt32 % 65536).toInt32 = b ∧ narrow .char (.int b) = .int b) := by decide +kernel
section JDK
variable {g : mv_G} {M My : mv_M} {F Lw cb sb pc pc' : Nat} {L L' : List (Option Value)} {st st' : List Value} {σ σ' : mh_H} {Q Qy : Outcome → mh_H → Prop} {F' Lw' mc ms n idx i : Nat} {As : List Value}
theorem mv_entryF {as : List Value} (hy : plainFor M.1 = true) (hh : M.2.2.2.2 = []) (hlen : (lg_sl as).length ≤ M.2.2.1) (hL : lv_args 0 as = mv_prs 0 L) (h : mv_V g M F Lw mc ms 0 L [] σ Q) : mv_Met g M F Lw mc ms as σ Q := by
  refine tk_ofWF (cc := M.2.1) (maxL := M.2.2.1) (ret := M.2.2.2.1) hy rfl ?_
  intro p e s m args below meth c s₁ B hml hnh hv
  obtain ⟨rfl, hK, hbs, hR⟩ := hv
  have hts := atoms_spec (ws := Cond.code M.1 M.2.1 M.2.2.1 M.2.2.2.1 :: mk_T) B.pre
  have C : mv_C g M p s m as.toArray meth c := ⟨B.exec, B.bytes, hml, findClass_of_methodNamed B.named, fun w hw => hts w (List.mem_cons_of_mem _ hw), B.returns, B.notSynchronized, (name_of_methodNamed B.named B.method).1, by
    rw [hh]
    have h0 : c.exceptionTable = #[] := by simpa using hnh
    rw [h0]; rfl, hK, hbs, hR.2.2.1⟩
  have hl := lv_entry as (n := M.2.2.1) hlen
  rw [lg_entry_eq]
  rw [hL] at hl
  exact h p e _ s m _ below meth c s.heap [] 0 0 _ mc ms C rfl rfl rfl rfl (by omega) (by omega) hR (fun q hq => by cases hq) hl
theorem vr_callVF {is : Nat} (As : List Value) (hd : decode M.2.1 pc = .ok (.invokevirtual idx, 3)) (hw : mv_CV M.1.cls idx My n) (hM : mv_Met g My F' Lw' mc ms (.ref (mg_K g is) :: As) σ Qy) (hkc : "java/lang/String" = My.1.cls) (hb : is < mk_sb.length)
    (hn : As.length = n) (hst : st' = As.reverse ++ .ref (mg_K g is) :: st) (hcat : (st.map fun v => v.category).sum ≤ 8) (hF : F' + 1 ≤ F) (hLw : 8 + (My.2.2.1 + 11) + Lw' ≤ Lw) (hc : mc ≤ cb) (hs : ms ≤ sb)
    (kr : ∀ v σ', Qy (.returned v) σ' → mv_V g M F Lw (cb - mc) (sb - ms) (pc + 3) L (v.toList ++ st) σ' Q) (kt : ∀ x σ', Qy (.threw x) σ' → mv_T g M F Lw (cb - mc) (sb - ms) pc L st σ' x Q) : mv_V g M F Lw cb sb pc L st' σ Q := by
  intro p e R s m args below meth c H locs cells slots ls Kc Ks C hF1 hL1 hk1 hk2 h1 h2 h3 h4 h5 T hT X
  obtain ⟨hx, hbc, hml, hown, hts, hr, hlk, hnm, hex, hK, hbs⟩ := id C
  obtain ⟨hcb, hin, hse, hl⟩ := id hw
  obtain ⟨cellB, q1', q3, q2, q4⟩ := (hK.2.2.2.2.2.2.1 is hb).1
  have q1 : H[mg_K g is]? = some cellB := by rw [h3.2.2.1 _ (Nat.not_le.mp q4)]; exact q1'
  have hclB : s.vm.findClass My.1.cls = some cellB.cls := by rw [← hkc]; exact q2
  obtain ⟨mk, methM, hnamed, hmethM, hstM, habM⟩ := Cond.instanceMethod_spec (hts _ hin)
  obtain ⟨methM', cM, hmethM', -, -, -, -, -, -, hsigM⟩ := Cond.code_spec hnamed (hts _ hcb.1)
  cases hmethM.symm.trans hmethM'
  obtain ⟨c2, r2, m2, p1, p2, p3, p4, kP, hkP, hkPi⟩ := Cond.selects_spec (hts _ hse)
  cases hclB.symm.trans p1
  cases (State.methodFound?_of_named hnamed hcb.2.2.1).symm.trans p2
  cases hnamed.symm.trans p3
  have hselP : selectMethod e.platform s.vm cellB.cls mk = .method mk := by rw [Launch.admits_selectMethod X.admits]; exact p4
  have hd' : decode c.code (F0 m pc ls st').pc = .ok (.invokevirtual idx, 3) := by rw [hbc]; exact hd
  have hlen : As.length = methM.sig.parameters.length := by
    have h9 := hcb.2.2.2
    rw [hsigM] at h9
    exact hn.trans (Option.some.inj h9).symm
  have hob : ∀ z, cellB.vm ≠ .statics z := fun z h => by rw [h] at q3; cases q3
  rcases hl with hl | ⟨host, hl⟩
  · obtain ⟨vm₁, X₁, hstep₁⟩ := X.invokevirtual hx hown (hts _ hl) hnamed hmethM hstM hkP hkPi hcb.2.2.1 (a := mg_K g is) (cell := cellB) (by rw [hT]; exact q1)
      hob hselP hmethM habM hkP hkPi (g := F0 m pc ls st') rfl (argsL := As) (rest := st) hlen hst hd'
    exact mv_after hM hcb hF hLw hc hs hcat kr kt C hF1 hL1 hk1 hk2 h1 h2 h3 h4 h5 hT X₁ hd (X₁.named hnamed) hstep₁
  · obtain ⟨vm₁, X₁, hstep₁⟩ := X.invokevirtualNest hx hown (va_Nw.use (by rfl) (hK.2.2.1 _ hl)) hnamed hmethM hstM hkP hkPi hcb.2.2.1 (a := mg_K g is) (cell := cellB) (by rw [hT]; exact q1)
      hob hselP hmethM habM hkP hkPi (g := F0 m pc ls st') rfl (argsL := As) (rest := st) hlen hst hd'
    exact mv_after hM hcb hF hLw hc hs hcat kr kt C hF1 hL1 hk1 hk2 h1 h2 h3 h4 h5 hT X₁ hd (X₁.named hnamed) hstep₁
theorem vr_ldcS (i : Nat) {tx : String} (hd : decode M.2.1 pc = .ok (.ldc idx, 2)) (hi : mk_str[i]? = some (M.1.cls, idx, tx)) (kk : mv_V g M F Lw cb sb (pc + 2) L (.ref (mg_K g i) :: st) σ Q) : mv_V g M F Lw cb sb pc L st σ Q :=
  mv_go (fun _ _ _ _ _ _ _ _ _ _ _ _ _ _ _ C _ w => va_ldcS C.1 C.2.1 C.2.2.2.1 (C.2.2.2.2.2.2.2.2.2.1.2.2.2.2.2.2.2.1 i _ hi) hd w) kk
theorem vr_ldcSw (i : Nat) {tx : String} (hd : decode M.2.1 pc = .ok (.ldc_w idx, 3)) (hi : mk_str[i]? = some (M.1.cls, idx, tx)) (kk : mv_V g M F Lw cb sb (pc + 3) L (.ref (mg_K g i) :: st) σ Q) : mv_V g M F Lw cb sb pc L st σ Q :=
  mv_go (fun _ _ _ _ _ _ _ _ _ _ _ _ _ _ _ C _ w => by
    have hZ := C.2.2.2.2.2.2.2.2.2.1.2.2.2.2.2.2.2.1 i _ hi
    intro T hT X
    obtain ⟨t, a1, b1⟩ := w T hT X
    exact ⟨t, X.ldcStringW C.1 C.2.2.2.1 (text := tx) (a := mg_K g i) hZ.1 hZ.2 (g := F0 _ pc _ _) rfl (by rw [C.2.1]; exact hd) t a1, b1⟩) kk
theorem vr_strVal (hi : i < mk_sb.length) (hd : decode M.2.1 pc = .ok (.getfield idx, 3)) (hw : Cond.fieldLink M.1.cls idx "java/lang/String" "value" "[B" ∈ mk_T) (kk : mv_V g M F Lw cb sb (pc + 3) L (.ref (mg_V g i) :: st) σ Q) : mv_V g M F Lw cb sb pc L (.ref (mg_K g i) :: st) σ Q := by
  intro p e R s m args below meth c H locs cells slots ls Kc Ks C hF hL hk1 hk2 h1 h2 h3 h4 h5
  obtain ⟨hx, hb, hml, hown, hts, hr, hlk, hnm, hex, hK, hbs⟩ := id C
  obtain ⟨cf, k, fi, f, cell, q1, q2, q3, q4, q5, q6⟩ := (hK.2.2.2.2.2.2.1 i hi).2.2.1
  exact W.getf hx hb hown (hts _ hw) q1 q2 (by rw [h3.2.2.1 _ (Nat.not_le.mp q6)]; exact q3) q4 q5 rfl rfl hd (kk p e R s m args below meth c H locs cells slots ls Kc Ks C hF hL hk1 hk2 h1 h2 h3 h4 h5)
theorem vr_strCod (hi : i < mk_sb.length) (hd : decode M.2.1 pc = .ok (.getfield idx, 3)) (hw : Cond.fieldLink M.1.cls idx "java/lang/String" "coder" "B" ∈ mk_T) (kk : mv_V g M F Lw cb sb (pc + 3) L (.int 0 :: st) σ Q) : mv_V g M F Lw cb sb pc L (.ref (mg_K g i) :: st) σ Q := by
  intro p e R s m args below meth c H locs cells slots ls Kc Ks C hF hL hk1 hk2 h1 h2 h3 h4 h5
  obtain ⟨hx, hb, hml, hown, hts, hr, hlk, hnm, hex, hK, hbs⟩ := id C
  obtain ⟨cf, k, fi, f, cell, q1, q2, q3, q4, q5, q6⟩ := (hK.2.2.2.2.2.2.1 i hi).2.1
  exact W.getf hx hb hown (hts _ hw) q1 q2 (by rw [h3.2.2.1 _ (Nat.not_le.mp q6)]; exact q3) q4 q5 rfl rfl hd (kk p e R s m args below meth c H locs cells slots ls Kc Ks C hF hL hk1 hk2 h1 h2 h3 h4 h5)
theorem vr_strAL (hi : i < mk_sb.length) (hd : decode M.2.1 pc = .ok (.arraylength, 1)) (kk : mv_V g M F Lw cb sb (pc + 1) L (.int (s_len i) :: st) σ Q) : mv_V g M F Lw cb sb pc L (.ref (mg_V g i) :: st) σ Q := by
  intro p e R s m args below meth c H locs cells slots ls Kc Ks C hF hL hk1 hk2 h1 h2 h3 h4 h5
  obtain ⟨hx, hb, hml, hown, hts, hr, hlk, hnm, hex, hK, hbs⟩ := id C
  obtain ⟨cell, q1, q2, q3, q4, q5, q6, q7⟩ := (hK.2.2.2.2.2.2.1 i hi).2.2.2
  exact W.alen (n := s_len i) hx hb (by rw [h3.2.2.1 _ (Nat.not_le.mp q7)]; exact q1) q2 q5 rfl rfl hd (kk p e R s m args below meth c H locs cells slots ls Kc Ks C hF hL hk1 hk2 h1 h2 h3 h4 h5)
theorem vr_strBL {j : Int32} (hi : i < mk_sb.length) (hd : decode M.2.1 pc = .ok (.baload, 1)) (hj : ib j (s_b i).length) (kk : mv_V g M F Lw cb sb (pc + 1) L (.int (s_at i j) :: st) σ Q) : mv_V g M F Lw cb sb pc L (.int j :: .ref (mg_V g i) :: st) σ Q := by
  intro p e R s m args below meth c H locs cells slots ls Kc Ks C hF hL hk1 hk2 h1 h2 h3 h4 h5
  obtain ⟨hx, hb, hml, hown, hts, hr, hlk, hnm, hex, hK, hbs⟩ := id C
  obtain ⟨cell, q1, q2, q3, q4, q5, q6, q7⟩ := (hK.2.2.2.2.2.2.1 i hi).2.2.2
  have hlt : j.toNatClampNeg < (mk_sb.getD i []).length := hj.2
  refine W.bald (v := .int (s_at i j)) hx hb (by rw [h3.2.2.1 _ (Nat.not_le.mp q7)]; exact q1) q2 q3 (fun z => ?_) (q6 _ hlt) rfl rfl hd (kk p e R s m args below meth c H locs cells slots ls Kc Ks C hF hL hk1 hk2 h1 h2 h3 h4 h5)
  rcases z with z | z
  · exact hj.1 z
  · omega
theorem vr_compact {ref : String} (hd : decode M.2.1 pc = .ok (.getstatic idx, 3)) (hw : Cond.fieldLink M.1.cls idx "java/lang/String" "COMPACT_STRINGS" "Z" ∈ mk_T) (kk : mv_V g M F Lw cb sb (pc + 3) L (.int 1 :: st) σ Q) : mv_V g M F Lw cb sb pc L st σ Q := by
  intro p e R s m args below meth c H locs cells slots ls Kc Ks C hF hL hk1 hk2 h1 h2 h3 h4 h5
  obtain ⟨hx, hb, hml, hown, hts, hr, hlk, hnm, hex, hK, hbs⟩ := id C
  obtain ⟨cf, kf, fi, f, a, cell, q1, q2, q3, q4, q5, q6, q7, q8⟩ := hK.2.2.2.2.2.2.2.2.1
  exact W.gets hx hb hown (hts _ hw) q1 q2 q3 q4 (by rw [h3.2.2.1 _ (Nat.not_le.mp q8)]; exact q5) (fun e => by rw [e] at q6; cases q6) q7 rfl hd (kk p e R s m args below meth c H locs cells slots ls Kc Ks C hF hL hk1 hk2 h1 h2 h3 h4 h5)
theorem vr_slen (hd : decode M.2.1 pc = .ok (.arraylength, 1)) (kk : mv_V g M F Lw cb sb (pc + 1) L (.int (nI (mg_S g).2.1) :: st) σ Q) : mv_V g M F Lw cb sb pc L (.ref (mg_S g).1 :: st) σ Q := by
  intro p e R s m args below meth c H locs cells slots ls Kc Ks C hF hL hk1 hk2 h1 h2 h3 h4 h5
  obtain ⟨hx, hb, hml, hown, hts, hr, hlk, hnm, hex, hK, hbs⟩ := id C
  obtain ⟨cell, q1, q2, q3, q4, q5, q6, q7⟩ := hK.2.2.2.2.2.2.2.2.2
  exact W.alen (n := nI (mg_S g).2.1) hx hb (by rw [h3.2.2.1 _ (Nat.not_le.mp q7)]; exact q1) q2 q5 rfl rfl hd (kk p e R s m args below meth c H locs cells slots ls Kc Ks C hF hL hk1 hk2 h1 h2 h3 h4 h5)
theorem vr_sld {j : Int32} (hd : decode M.2.1 pc = .ok (.iaload, 1)) (hj : ib j (mg_S g).2.1) (kk : mv_V g M F Lw cb sb (pc + 1) L (.int ((mg_S g).2.2 j.toNatClampNeg) :: st) σ Q) : mv_V g M F Lw cb sb pc L (.int j :: .ref (mg_S g).1 :: st) σ Q := by
  intro p e R s m args below meth c H locs cells slots ls Kc Ks C hF hL hk1 hk2 h1 h2 h3 h4 h5
  obtain ⟨hx, hb, hml, hown, hts, hr, hlk, hnm, hex, hK, hbs⟩ := id C
  obtain ⟨cell, q1, q2, q3, q4, q5, q6, q7⟩ := hK.2.2.2.2.2.2.2.2.2
  have hlt : j.toNatClampNeg < (mg_S g).2.1 := hj.2
  refine W.iald (v := .int ((mg_S g).2.2 j.toNatClampNeg)) hx hb (by rw [h3.2.2.1 _ (Nat.not_le.mp q7)]; exact q1) q2 q3 (fun z => ?_) (q6 _ hlt) rfl rfl hd (kk p e R s m args below meth c H locs cells slots ls Kc Ks C hF hL hk1 hk2 h1 h2 h3 h4 h5)
  rcases z with z | z
  · exact hj.1 z
  · omega
theorem vr_aastS {a is : Nat} {i : Int32} (hd : decode M.2.1 pc = .ok (.aastore, 1)) (ht : hT σ a = 8) (hi : is < 67) (hin : vp_in i (hN σ a))
    (kk : mv_V g M F Lw cb sb (pc + 1) L st (mh_setQ σ a i.toNatClampNeg (some (mg_K g is))) Q) : mv_V g M F Lw cb sb pc L (.ref (mg_K g is) :: .int i :: .ref a :: st) σ Q := by
  intro p e R s m args below meth c H locs cells slots ls Kc Ks C hF hL hk1 hk2 h1 h2 h3 h4 h5
  obtain ⟨hx, hb, hml, hown, hts, hr, hlk, hnm, hex, hK, hbs⟩ := id C
  have hty : mk_ty[3]? = some (.object "java/lang/String") := rfl
  obtain ⟨ty, g1, g2, g3⟩ := h3.2.2.2.2.2 a 3 ht
  cases hty.symm.trans g1
  have hba : mg_b g ≤ a := (h3.2.2.2.1 a (by omega)).1
  have hlt : i.toNatClampNeg < hN σ a := Nat.not_le.mp fun q => hin (Or.inr q)
  have h0 : ¬ i < 0 := fun q => hin (Or.inl q)
  obtain ⟨cellV, c1', c3, c2, c4⟩ := (hK.2.2.2.2.2.2.1 is hi).1
  have c1 : H[mg_K g is]? = some cellV := by rw [h3.2.2.1 _ (Nat.not_le.mp c4)]; exact c1'
  obtain ⟨kA, comp, k1, k2, k3, -⟩ := (hK.2.1 3 _ hty).2
  have hcomp : comp = cellV.cls := Option.some.inj (k3.symm.trans c2)
  subst hcomp
  obtain ⟨mk, hnamed⟩ := Cond.code_named (hts _ w_353)
  obtain ⟨kC, hkC, -⟩ := className_of_methodNamed hnamed
  have hmk : mk.cls = cellV.cls := Option.some.inj ((findClass_of_methodNamed hnamed).symm.trans c2)
  rw [hmk] at hkC
  refine W.aast hx hb g2 (fun q h => by cases h) (fun h => by cases h) k1 k2 rfl hkC ⟨h0, by show _ < (arrV _ _ _).slots.size; rw [arrV_size]; exact hlt⟩ c1 (fun q h => by rw [h] at c3; cases c3) hkC (va_asg _ _) rfl rfl hd fun H1 e1 z oq => ?_
  refine kk p e R s m args below meth c H1 _ cells slots ls Kc Ks C hF hL hk1 hk2 h1 h2 (h3.ast ht hty ?_ (fun _ gf => gf) z oq rfl rfl rfl rfl (fun b hb => ⟨rfl, rfl, if_neg hb⟩)) (fun q hq => ?_) h5
  · rw [e1]
    show some ((vp_cell _ (hN σ a, .inr (.inr (.inr (.inr (hQ σ a)))))).setSlot _ _) = some (vp_cell _ (hN σ a, .inr (.inr (.inr (.inr (if a = a then va_up (hQ σ a) _ _ else _))))))
    rw [if_pos rfl, vp_cell_q, vp_cell_q, arrV_store]
    congr 2
    funext q
    by_cases hq : q = i.toNatClampNeg
    · subst hq
      simp [updV, va_up, va_rf]
    · simp [updV, va_up, hq]
  · rcases List.mem_append.mp hq with z | z
    · exact h4 q z
    · rw [List.mem_singleton.mp z]; exact hba
theorem vr_gref {C n d : String} (hq : (C, n, d) ∈ mk_L) (hd : decode M.2.1 pc = .ok (.getstatic idx, 3)) (hw : Cond.fieldLink M.1.cls idx C n d ∈ mk_T) (hw2 : Cond.initialized C ∈ mk_T) (kk : ∀ v : Value, (v = .null ∨ ∃ t, v = .ref t) → mv_V g M F Lw cb sb (pc + 3) L (v :: st) σ Q) : mv_V g M F Lw cb sb pc L st σ Q := by
  intro p e R s m args below meth c H locs cells slots ls Kc Ks Cc hF hL hk1 hk2 h1 h2 h3 h4 h5
  obtain ⟨hx, hb, hml, hown, hts, hr, hlk, hnm, hex, hK, hbs⟩ := id Cc
  obtain ⟨cl, k, fi, f, a, cell, v, q1, q2, q3, q4, q5, q6, q7, q8, q9, q10, q11, q12⟩ := hK.2.2.2.2.2.1 _ hq
  exact W.gets hx hb hown (hts _ hw) q2 q3 (Cond.initialized_spec q1 (State.fieldFound?_spec q2).1 (hts _ hw2)) q4 (by rw [h3.2.2.1 _ q6]; exact q5) (fun e => by rw [e] at q7; cases q7) q11 rfl hd (kk v q12 p e R s m args below meth c H locs cells slots ls Kc Ks Cc hF hL hk1 hk2 h1 h2 h3 h4 h5)
theorem c_ST_coder (hi : i < 67) : mv_Met g M_ST_coder 0 0 0 0 [.ref (mg_K g i)] σ (fun oc τ => τ = σ ∧ oc = .returned (some (.int 0))) := by
  refine mv_entryF (L := [some (.ref (mg_K g i))]) (by decide) rfl (Nat.le_of_ble_eq_true rfl) rfl ?_
  refine vr_compact (ref := "") d_ST_coder_0 w_358 ?_
  refine vr_if_eq (tgt := 13) d_ST_coder_3 (by decide) (fun c => absurd c (by decide)) (fun c => ?_)
  refine vr_aload_n d_ST_coder_6 rfl rfl ?_
  refine vr_strCod hi d_ST_coder_7 w_1262 ?_
  refine vr_goto (tgt := 14) d_ST_coder_10 (by decide) ?_
  exact vr_iret d_ST_coder_14 rfl rfl ⟨rfl, rfl⟩
theorem c_ST_isLatin1 (hi : i < 67) : mv_Met g M_ST_isLatin1 0 0 0 0 [.ref (mg_K g i)] σ (fun oc τ => τ = σ ∧ oc = .returned (some (.int 1))) := by
  refine mv_entryF (L := [some (.ref (mg_K g i))]) (by decide) rfl (Nat.le_of_ble_eq_true rfl) rfl ?_
  refine vr_compact (ref := "") d_ST_isLatin1_0 w_358 ?_
  refine vr_if_eq (tgt := 17) d_ST_isLatin1_3 (by decide) (fun c => absurd c (by decide)) (fun c => ?_)
  refine vr_aload_n d_ST_isLatin1_6 rfl rfl ?_
  refine vr_strCod hi d_ST_isLatin1_7 w_1262 ?_
  refine vr_if_ne (tgt := 17) d_ST_isLatin1_10 (by decide) (fun c => absurd rfl c) (fun c => ?_)
  refine vr_iconst 1 d_ST_isLatin1_13 (by decide) ?_
  refine vr_goto (tgt := 18) d_ST_isLatin1_14 (by decide) ?_
  exact vr_iret d_ST_isLatin1_18 rfl rfl ⟨rfl, rfl⟩
theorem c_ST_length (hi : i < 67) : mv_Met g M_ST_length 1 20 0 0 [.ref (mg_K g i)] σ (fun oc τ => τ = σ ∧ oc = .returned (some (.int (s_len i)))) := by
  refine mv_entryF (L := [some (.ref (mg_K g i))]) (by decide) rfl (Nat.le_of_ble_eq_true rfl) rfl ?_
  refine vr_aload_n d_ST_length_0 rfl rfl ?_
  refine vr_strVal hi d_ST_length_1 w_1261 ?_
  refine vr_strAL hi d_ST_length_4 ?_
  refine vr_aload_n d_ST_length_5 rfl rfl ?_
  refine vr_callVF [] d_ST_length_6 C_ST_335 (c_ST_coder hi) rfl hi rfl rfl (Nat.le_of_ble_eq_true rfl) (by decide) (by decide) (Nat.le_refl 0) (Nat.le_refl 0) (fun w τ hq => ?_) (fun x τ hq => by obtain ⟨_, hv⟩ := hq; cases hv)
  obtain ⟨rfl, hv⟩ := hq
  cases hv
  refine vr_ishr d_ST_length_9 ?_
  rw [show s_len i >>> ((0 : Int32) &&& 31) = s_len i from (s_all i hi).2.1]
  exact vr_iret d_ST_length_10 rfl rfl ⟨rfl, rfl⟩
theorem c_ST_isEmpty (hi : i < 67) : mv_Met g M_ST_isEmpty 0 0 0 0 [.ref (mg_K g i)] σ (fun oc τ => τ = σ ∧ oc = .returned (some (.int (s_emp i)))) := by
  refine mv_entryF (L := [some (.ref (mg_K g i))]) (by decide) rfl (Nat.le_of_ble_eq_true rfl) rfl ?_
  have hz : s_len i = 0 ↔ s_b i = [] := by
    have h8 := (s_all i hi).1
    unfold s_len
    constructor
    · intro h
      have h1 : (nI (s_b i).length).toNatClampNeg = 0 := by rw [h]; rfl
      rw [nI_clamp (by omega)] at h1
      exact List.eq_nil_of_length_eq_zero h1
    · intro h
      rw [h]; rfl
  refine vr_aload_n d_ST_isEmpty_0 rfl rfl ?_
  refine vr_strVal hi d_ST_isEmpty_1 w_1261 ?_
  refine vr_strAL hi d_ST_isEmpty_4 ?_
  refine vr_if_ne (tgt := 12) d_ST_isEmpty_5 (by decide) (fun c => ?_) (fun c => ?_)
  · refine vr_iconst 0 d_ST_isEmpty_12 (by decide) ?_
    exact vr_iret d_ST_isEmpty_13 rfl rfl ⟨rfl, by unfold s_emp; rw [if_neg (fun z => c (hz.mpr z))]⟩
  · refine vr_iconst 1 d_ST_isEmpty_8 (by decide) ?_
    refine vr_goto (tgt := 13) d_ST_isEmpty_9 (by decide) ?_
    exact vr_iret d_ST_isEmpty_13 rfl rfl ⟨rfl, by unfold s_emp; rw [if_pos (hz.mp c)]⟩
theorem c_PC_checkIndex {j k : Int32} {v : Value} (hv : v = .null ∨ ∃ t, v = .ref t) (h1 : ¬ j < 0) (h2 : j < k) : mv_Met g M_PC_checkIndex 0 0 0 0 [.int j, .int k, v] σ (fun oc τ => τ = σ ∧ oc = .returned (some (.int j))) := by
  refine mv_entryF (L := [some (.int j), some (.int k), some v]) (by decide) rfl (by rcases hv with rfl | ⟨t, rfl⟩ <;> exact Nat.le_of_ble_eq_true rfl) (by rcases hv with rfl | ⟨t, rfl⟩ <;> rfl) ?_
  refine vr_iload_n d_PC_checkIndex_0 rfl rfl ?_
  refine vr_if_lt (tgt := 9) d_PC_checkIndex_1 (by decide) (fun c => absurd c h1) (fun c => ?_)
  refine vr_iload_n d_PC_checkIndex_4 rfl rfl ?_
  refine vr_iload_n d_PC_checkIndex_5 rfl rfl ?_
  refine vr_icmp_lt (tgt := 16) d_PC_checkIndex_6 (by decide) (fun c => ?_) (fun c => absurd h2 c)
  refine vr_iload_n d_PC_checkIndex_16 rfl rfl ?_
  exact vr_iret d_PC_checkIndex_17 rfl rfl ⟨rfl, rfl⟩
theorem c_ST_checkIndex {j k : Int32} (h1 : ¬ j < 0) (h2 : j < k) : mv_Met g M_ST_checkIndex 1 22 0 0 [.int j, .int k] σ (fun oc τ => τ = σ ∧ oc = .returned none) := by
  refine mv_entryF (L := [some (.int j), some (.int k)]) (by decide) rfl (Nat.le_of_ble_eq_true rfl) rfl ?_
  refine vr_iload_n d_ST_checkIndex_0 rfl rfl ?_
  refine vr_iload_n d_ST_checkIndex_1 rfl rfl ?_
  refine vr_gref (C := "jdk/internal/util/Preconditions") (n := "SIOOBE_FORMATTER") (d := "Ljava/util/function/BiFunction;") (by simp [mk_L]) d_ST_checkIndex_2 w_374 w_15 (fun v hv => ?_)
  refine vr_callS [.int j, .int k, v] d_ST_checkIndex_5 C_ST_1059 (c_PC_checkIndex hv h1 h2) rfl rfl (by decide) (by decide) (by decide) (Nat.le_refl 0) (Nat.le_refl 0) (fun w τ hq => ?_) (fun x τ hq => by obtain ⟨_, hv⟩ := hq; cases hv)
  obtain ⟨rfl, hv⟩ := hq
  cases hv
  refine vr_pop d_ST_checkIndex_8 rfl ?_
  exact vr_vret d_ST_checkIndex_9 rfl ⟨rfl, rfl⟩
theorem c_SL_charAt {j : Int32} (hi : i < 67) (hj : ib j (s_b i).length) : mv_Met g M_SL_charAt 2 43 0 0 [.ref (mg_V g i), .int j] σ (fun oc τ => τ = σ ∧ oc = .returned (some (.int (s_at i j)))) := by
  have h8 := (s_all i hi).1
  have hm : s_at i j ∈ s_b i := by
    unfold s_at
    rw [List.getD_eq_getElem?_getD, List.getElem?_eq_getElem hj.2]
    exact List.getElem_mem hj.2
  obtain ⟨e1, e2⟩ := (s_all i hi).2.2 _ hm
  have hlt : j < s_len i := by
    have h0 := Int32.not_lt.mp hj.1
    have e : j = nI j.toNatClampNeg := by
      have := hj.2
      apply Int32.toInt_inj.mp
      have hz : (0 : Int) ≤ j.toInt := by simpa using Int32.le_iff_toInt_le.mp h0
      rw [nI, Int32.toInt_ofNat_of_lt (by omega)]
      show j.toInt = ((j.toInt.toNat : Nat) : Int)
      omega
    rw [e]
    exact nI_lt hj.2 (by omega)
  refine mv_entryF (L := [some (.ref (mg_V g i)), some (.int j)]) (by decide) rfl (Nat.le_of_ble_eq_true rfl) rfl ?_
  refine vr_iload_n d_SL_charAt_0 rfl rfl ?_
  refine vr_aload_n d_SL_charAt_1 rfl rfl ?_
  refine vr_strAL hi d_SL_charAt_2 ?_
  refine vr_callS [.int j, .int (s_len i)] d_SL_charAt_3 C_SL_9 (c_ST_checkIndex hj.1 hlt) rfl rfl (by decide) (by decide) (by decide) (Nat.le_refl 0) (Nat.le_refl 0) (fun w τ hq => ?_) (fun x τ hq => by obtain ⟨_, hv⟩ := hq; cases hv)
  obtain ⟨rfl, hv⟩ := hq
  cases hv
  refine vr_aload_n d_SL_charAt_6 rfl rfl ?_
  refine vr_iload_n d_SL_charAt_7 rfl rfl ?_
  refine vr_strBL hi d_SL_charAt_8 hj ?_
  refine vr_sipush 255 d_SL_charAt_9 (by decide) ?_
  refine vr_iand d_SL_charAt_12 ?_
  refine vr_i2c d_SL_charAt_13 rfl ?_
  rw [e1]
  exact vr_iret d_SL_charAt_14 rfl e2 ⟨rfl, rfl⟩
theorem c_ST_charAt {j : Int32} (hi : i < 67) (hj : ib j (s_b i).length) : mv_Met g M_ST_charAt 3 64 0 0 [.ref (mg_K g i), .int j] σ (fun oc τ => τ = σ ∧ oc = .returned (some (.int (s_at i j)))) := by
  have hm : s_at i j ∈ s_b i := by
    unfold s_at
    rw [List.getD_eq_getElem?_getD, List.getElem?_eq_getElem hj.2]
    exact List.getElem_mem hj.2
  obtain ⟨e1, e2⟩ := (s_all i hi).2.2 _ hm
  refine mv_entryF (L := [some (.ref (mg_K g i)), some (.int j)]) (by decide) rfl (Nat.le_of_ble_eq_true rfl) rfl ?_
  refine vr_aload_n d_ST_charAt_0 rfl rfl ?_
  refine vr_callVF [] d_ST_charAt_1 C_ST_492 (c_ST_isLatin1 hi) rfl hi rfl rfl (by decide) (by decide) (by decide) (Nat.le_refl 0) (Nat.le_refl 0) (fun w τ hq => ?_) (fun x τ hq => by obtain ⟨_, hv⟩ := hq; cases hv)
  obtain ⟨rfl, hv⟩ := hq
  cases hv
  refine vr_if_eq (tgt := 16) d_ST_charAt_4 (by decide) (fun c => absurd c (by decide)) (fun c => ?_)
  refine vr_aload_n d_ST_charAt_7 rfl rfl ?_
  refine vr_strVal hi d_ST_charAt_8 w_1261 ?_
  refine vr_iload_n d_ST_charAt_11 rfl rfl ?_
  refine vr_callS [.ref (mg_V g i), .int j] d_ST_charAt_12 C_ST_495 (c_SL_charAt hi hj) rfl rfl (by decide) (by decide) (by decide) (Nat.le_refl 0) (Nat.le_refl 0) (fun w τ hq => ?_) (fun x τ hq => by obtain ⟨_, hv⟩ := hq; cases hv)
  obtain ⟨rfl, hv⟩ := hq
  cases hv
  exact vr_iret d_ST_charAt_15 rfl e2 ⟨rfl, rfl⟩
/-- calls on text constants -/
theorem vr_strLen (hd : decode M.2.1 pc = .ok (.invokevirtual idx, 3)) (hw : mv_CV M.1.cls idx M_ST_length 0) (hi : i < 67) (hF : 4 ≤ F) (hLw : 120 ≤ Lw) (hcat : (st.map fun v => v.category).sum ≤ 8) (kk : mv_V g M F Lw cb sb (pc + 3) L (.int (s_len i) :: st) σ Q) : mv_V g M F Lw cb sb pc L (.ref (mg_K g i) :: st) σ Q :=
  vr_callVF [] hd hw (c_ST_length hi) rfl hi rfl rfl hcat (by omega) (by show 8 + (1 + 11) + 20 ≤ Lw; omega) (Nat.zero_le _) (Nat.zero_le _) (fun w τ hq => by obtain ⟨rfl, hv⟩ := hq; cases hv; exact kk) (fun x τ hq => by obtain ⟨_, hv⟩ := hq; cases hv)
theorem vr_strEmpty (hd : decode M.2.1 pc = .ok (.invokevirtual idx, 3)) (hw : mv_CV M.1.cls idx M_ST_isEmpty 0) (hi : i < 67) (hF : 4 ≤ F) (hLw : 120 ≤ Lw) (hcat : (st.map fun v => v.category).sum ≤ 8) (kk : mv_V g M F Lw cb sb (pc + 3) L (.int (s_emp i) :: st) σ Q) : mv_V g M F Lw cb sb pc L (.ref (mg_K g i) :: st) σ Q :=
  vr_callVF [] hd hw (c_ST_isEmpty hi) rfl hi rfl rfl hcat (by omega) (by show 8 + (1 + 11) + 0 ≤ Lw; omega) (Nat.zero_le _) (Nat.zero_le _) (fun w τ hq => by obtain ⟨rfl, hv⟩ := hq; cases hv; exact kk) (fun x τ hq => by obtain ⟨_, hv⟩ := hq; cases hv)
theorem vr_strAt {j : Int32} (hd : decode M.2.1 pc = .ok (.invokevirtual idx, 3)) (hw : mv_CV M.1.cls idx M_ST_charAt 1) (hi : i < 67) (hj : ib j (s_b i).length) (hF : 4 ≤ F) (hLw : 120 ≤ Lw) (hcat : (st.map fun v => v.category).sum ≤ 8) (kk : mv_V g M F Lw cb sb (pc + 3) L (.int (s_at i j) :: st) σ Q) : mv_V g M F Lw cb sb pc L (.int j :: .ref (mg_K g i) :: st) σ Q :=
  vr_callVF [.int j] hd hw (c_ST_charAt hi hj) rfl hi rfl rfl hcat (by omega) (by show 8 + (2 + 11) + 64 ≤ Lw; omega) (Nat.zero_le _) (Nat.zero_le _) (fun w τ hq => by obtain ⟨rfl, hv⟩ := hq; cases hv; exact kk) (fun x τ hq => by obtain ⟨_, hv⟩ := hq; cases hv)
end JDK
