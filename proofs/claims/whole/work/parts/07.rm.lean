/-! THE REFERENCE's OWN STATE: its numbers by the field's place, its arrays by their place behind the object (all are made by the constructor, one behind the other, and never replaced) -/
abbrev rm_S : Type := (Nat → Int32) × (Nat → Nat → Int32)
def rs_i (S : rm_S) (j : Nat) (v : Int32) : rm_S := (upd S.1 j v, S.2)
def rs_a (S : rm_S) (o i : Nat) (v : Int32) : rm_S := (S.1, fun o' => if o' = o then upd (S.2 o') i v else S.2 o')
/-- lengths of the arrays -/
def rm_len : Nat → Nat := fun o => match o with
  | 1 => 8000
  | 2 => 8000
  | 3 => 8001
  | 4 => 8002
  | 5 => 8002
  | 6 => 8002
  | 19 => 2
  | 20 => 12000
  | 21 => 6001
  | _ => 26000
/-- the field of an array -/
def rm_fo : List (Nat × Nat) := [(1, 1), (4, 2), (6, 3), (8, 4), (9, 5), (10, 6), (15, 7), (16, 8), (17, 9), (18, 10), (19, 11), (20, 12), (22, 13), (23, 14), (24, 15), (25, 16), (26, 17), (27, 18), (28, 19), (29, 20), (30, 21)]
def rz (σ : mh_H) (m : Nat) (S : rm_S) : mh_H := (hT σ, (fun k j a => if k = 8 ∧ a = m then S.1 j else hI σ k j a), hR σ, (fun a => if m < a ∧ a < m + 22 then S.2 (a - m) else hA σ a), hQ σ, hN σ, hX σ)
def rm_H (g : mv_G) (σ : mh_H) (m : Nat) : Prop := hT σ m = 17 ∧ (∀ o, 1 ≤ o → o ≤ 21 → hT σ (m + o) = 2 ∧ hN σ (m + o) = rm_len o) ∧ (∀ q ∈ rm_fo, hR σ 8 q.1 m = some (m + q.2)) ∧ hR σ 8 0 m = some (m + 22) ∧ hT σ (m + 22) = 8 ∧ hN σ (m + 22) = 8 ∧ (∀ k, k < 8 → hQ σ (m + 22) k = some (mg_K g (46 + k)))
theorem rz_I {σ : mh_H} {m : Nat} {S : rm_S} (j : Nat) : hI (rz σ m S) 8 j m = S.1 j := if_pos ⟨rfl, rfl⟩
theorem rz_A {σ : mh_H} {m : Nat} {S : rm_S} {o : Nat} (h1 : 1 ≤ o) (h2 : o ≤ 21) : hA (rz σ m S) (m + o) = S.2 o := by
  show (if m < m + o ∧ m + o < m + 22 then S.2 (m + o - m) else hA σ (m + o)) = S.2 o
  rw [if_pos ⟨by omega, by omega⟩, Nat.add_sub_cancel_left]
theorem rz_setI {σ : mh_H} {m : Nat} {S : rm_S} (j : Nat) (v : Int32) : mh_setI (rz σ m S) 8 j m v = rz σ m (rs_i S j v) := by
  unfold mh_setI rz rs_i
  refine Prod.ext rfl (Prod.ext ?_ rfl)
  funext k' j' a'
  show (if k' = 8 ∧ j' = j ∧ a' = m then v else if k' = 8 ∧ a' = m then S.1 j' else hI σ k' j' a') = if k' = 8 ∧ a' = m then upd S.1 j v j' else hI σ k' j' a'
  by_cases h : k' = 8 ∧ a' = m
  · rw [if_pos h, if_pos h]
    unfold upd
    by_cases hj : j' = j
    · rw [if_pos ⟨h.1, hj, h.2⟩, if_pos hj]
    · rw [if_neg (fun z => hj z.2.1), if_neg hj]
  · rw [if_neg h, if_neg h, if_neg (fun z => h ⟨z.1, z.2.2⟩)]
theorem rz_setA {σ : mh_H} {m : Nat} {S : rm_S} {o : Nat} (h1 : 1 ≤ o) (h2 : o ≤ 21) (i : Nat) (v : Int32) : mh_setA (rz σ m S) (m + o) i v = rz σ m (rs_a S o i v) := by
  unfold mh_setA rz rs_a
  refine Prod.ext rfl (Prod.ext rfl (Prod.ext rfl (Prod.ext ?_ rfl)))
  funext a'
  show (if a' = m + o then upd (if m < a' ∧ a' < m + 22 then S.2 (a' - m) else hA σ a') i v else if m < a' ∧ a' < m + 22 then S.2 (a' - m) else hA σ a') = if m < a' ∧ a' < m + 22 then (if a' - m = o then upd (S.2 (a' - m)) i v else S.2 (a' - m)) else hA σ a'
  by_cases h : a' = m + o
  · subst h
    rw [if_pos rfl, if_pos ⟨by omega, by omega⟩, if_pos ⟨by omega, by omega⟩, if_pos (by omega)]
  · rw [if_neg h]
    by_cases hr : m < a' ∧ a' < m + 22
    · rw [if_pos hr, if_pos hr, if_neg (by omega)]
    · rw [if_neg hr, if_neg hr]
section RMR
variable {g : mv_G} {M : mv_M} {F Lw cb sb pc : Nat} {L : List (Option Value)} {st : List Value} {σ : mh_H} {m : Nat} {S : rm_S} {Q : Outcome → mh_H → Prop}
theorem rm_getI {idx j : Nat} (H : rm_H g σ m) (hd : decode M.2.1 pc = .ok (.getfield idx, 3)) (hf : mv_F M.1.cls idx 8 j) (hty : mv_val (mk_fty 8 j) = fun i _ => .int i)
    (kk : mv_V g M F Lw cb sb (pc + 3) L (.int (S.1 j) :: st) (rz σ m S) Q) : mv_V g M F Lw cb sb pc L (.ref m :: st) (rz σ m S) Q := vr_getI hd hf hty H.1 (by rw [rz_I]; exact kk)
theorem rm_getR {idx j o : Nat} (H : rm_H g σ m) (hd : decode M.2.1 pc = .ok (.getfield idx, 3)) (hf : mv_F M.1.cls idx 8 j) (hty : mv_val (mk_fty 8 j) = fun _ r => va_rf r) (hq : (j, o) ∈ rm_fo)
    (kk : mv_V g M F Lw cb sb (pc + 3) L (.ref (m + o) :: st) (rz σ m S) Q) : mv_V g M F Lw cb sb pc L (.ref m :: st) (rz σ m S) Q := vr_getR hd hf hty H.1 (H.2.2.1 (j, o) hq) kk
theorem rm_putI {idx j : Nat} {x : Int32} (H : rm_H g σ m) (hd : decode M.2.1 pc = .ok (.putfield idx, 3)) (hf : mv_W M idx 8 j) (hty : mv_val (mk_fty 8 j) = fun i _ => .int i) (hn : narrow (mk_fty 8 j) (.int x) = .int x) (hfit : fits (mk_fty 8 j) (.int x) = true)
    (kk : mv_V g M F Lw cb sb (pc + 3) L st (rz σ m (rs_i S j x)) Q) : mv_V g M F Lw cb sb pc L (.int x :: .ref m :: st) (rz σ m S) Q := vr_putI hd hf hty hn hfit H.1 (by rw [rz_setI]; exact kk)
theorem rm_ald {o : Nat} {i : Int32} (H : rm_H g σ m) (h1 : 1 ≤ o) (h2 : o ≤ 21) (hd : decode M.2.1 pc = .ok (.iaload, 1)) (hin : vp_in i (rm_len o))
    (kk : mv_V g M F Lw cb sb (pc + 1) L (.int (S.2 o i.toNatClampNeg) :: st) (rz σ m S) Q) : mv_V g M F Lw cb sb pc L (.int i :: .ref (m + o) :: st) (rz σ m S) Q :=
  vr_iald (t := 0) hd rfl (H.2.1 o h1 h2).1 (by show vp_in i (hN σ (m + o)); rw [(H.2.1 o h1 h2).2]; exact hin) (by rw [rz_A h1 h2]; exact kk)
theorem rm_ast {o : Nat} {i x : Int32} (H : rm_H g σ m) (h1 : 1 ≤ o) (h2 : o ≤ 21) (hd : decode M.2.1 pc = .ok (.iastore, 1)) (hin : vp_in i (rm_len o))
    (kk : mv_V g M F Lw cb sb (pc + 1) L st (rz σ m (rs_a S o i.toNatClampNeg x)) Q) : mv_V g M F Lw cb sb pc L (.int x :: .int i :: .ref (m + o) :: st) (rz σ m S) Q :=
  vr_iast (t := 0) hd rfl (H.2.1 o h1 h2).1 (by show vp_in i (hN σ (m + o)); rw [(H.2.1 o h1 h2).2]; exact hin) (by rw [rz_setA h1 h2]; exact kk)
theorem rm_alen {o : Nat} (H : rm_H g σ m) (h1 : 1 ≤ o) (h2 : o ≤ 21) (hd : decode M.2.1 pc = .ok (.arraylength, 1))
    (kk : mv_V g M F Lw cb sb (pc + 1) L (.int (nI (rm_len o)) :: st) (rz σ m S) Q) : mv_V g M F Lw cb sb pc L (.ref (m + o) :: st) (rz σ m S) Q :=
  vr_alen (t := 0) hd rfl (H.2.1 o h1 h2).1 (by show mv_V g M F Lw cb sb (pc + 1) L (.int (nI (hN σ (m + o))) :: st) (rz σ m S) Q; rw [(H.2.1 o h1 h2).2]; exact kk)
theorem rm_getW {idx : Nat} (H : rm_H g σ m) (hd : decode M.2.1 pc = .ok (.getfield idx, 3)) (hf : mv_F M.1.cls idx 8 0) (hty : mv_val (mk_fty 8 0) = fun _ r => va_rf r)
    (kk : mv_V g M F Lw cb sb (pc + 3) L (.ref (m + 22) :: st) (rz σ m S) Q) : mv_V g M F Lw cb sb pc L (.ref m :: st) (rz σ m S) Q := vr_getR hd hf hty H.1 H.2.2.2.1 kk
theorem rm_wlen (H : rm_H g σ m) (hd : decode M.2.1 pc = .ok (.arraylength, 1)) (kk : mv_V g M F Lw cb sb (pc + 1) L (.int 8 :: st) (rz σ m S) Q) : mv_V g M F Lw cb sb pc L (.ref (m + 22) :: st) (rz σ m S) Q :=
  vr_alen (t := 3) hd rfl H.2.2.2.2.1 (by show mv_V g M F Lw cb sb (pc + 1) L (.int (nI (hN σ (m + 22))) :: st) (rz σ m S) Q; rw [H.2.2.2.2.2.1]; exact kk)
theorem rm_wald {i : Int32} (H : rm_H g σ m) (hd : decode M.2.1 pc = .ok (.aaload, 1)) (hin : ib i 8) (kk : mv_V g M F Lw cb sb (pc + 1) L (.ref (mg_K g (46 + i.toNatClampNeg)) :: st) (rz σ m S) Q) : mv_V g M F Lw cb sb pc L (.int i :: .ref (m + 22) :: st) (rz σ m S) Q :=
  vr_aald (t := 3) hd rfl H.2.2.2.2.1 (by show vp_in i (hN σ (m + 22)); rw [H.2.2.2.2.2.1]; exact ib_in hin) (H.2.2.2.2.2.2 _ hin.2) kk
variable {My : mv_M} {F' Lw' n idx : Nat} {st' : List Value} {S1 : rm_S}
theorem rm_callI {v : Int32} (As : List Value) (H : rm_H g σ m) (hd : decode M.2.1 pc = .ok (.invokevirtual idx, 3)) (hw : mv_CV M.1.cls idx My n) (hM : mv_Met g My F' Lw' 0 0 (.ref m :: As) (rz σ m S) (fun oc τ => τ = rz σ m S1 ∧ oc = .returned (some (.int v))))
    (hk : (mk_cl[8]?).map (fun r => r.1) = some My.1.cls) (hn : As.length = n) (hst : st' = As.reverse ++ .ref m :: st) (hcat : (st.map fun v => v.category).sum ≤ 8) (hF : F' + 1 ≤ F) (hLw : 8 + (My.2.2.1 + 11) + Lw' ≤ Lw)
    (kk : mv_V g M F Lw 0 0 (pc + 3) L (.int v :: st) (rz σ m S1) Q) : mv_V g M F Lw 0 0 pc L st' (rz σ m S) Q :=
  vr_callV As hd hw hM hk H.1 hn hst hcat hF hLw (Nat.le_refl 0) (Nat.le_refl 0) (fun w τ hq => by obtain ⟨rfl, hv⟩ := hq; cases hv; exact kk) (fun x τ hq => by obtain ⟨_, hv⟩ := hq; cases hv)
theorem rm_callT {v : Nat} (As : List Value) (H : rm_H g σ m) (hd : decode M.2.1 pc = .ok (.invokevirtual idx, 3)) (hw : mv_CV M.1.cls idx My n) (hM : mv_Met g My F' Lw' 0 0 (.ref m :: As) (rz σ m S) (fun oc τ => τ = rz σ m S1 ∧ oc = .returned (some (.ref (mg_K g v)))))
    (hk : (mk_cl[8]?).map (fun r => r.1) = some My.1.cls) (hn : As.length = n) (hst : st' = As.reverse ++ .ref m :: st) (hcat : (st.map fun v => v.category).sum ≤ 8) (hF : F' + 1 ≤ F) (hLw : 8 + (My.2.2.1 + 11) + Lw' ≤ Lw)
    (kk : mv_V g M F Lw 0 0 (pc + 3) L (.ref (mg_K g v) :: st) (rz σ m S1) Q) : mv_V g M F Lw 0 0 pc L st' (rz σ m S) Q :=
  vr_callV As hd hw hM hk H.1 hn hst hcat hF hLw (Nat.le_refl 0) (Nat.le_refl 0) (fun w τ hq => by obtain ⟨rfl, hv⟩ := hq; cases hv; exact kk) (fun x τ hq => by obtain ⟨_, hv⟩ := hq; cases hv)
theorem rm_callU (As : List Value) (H : rm_H g σ m) (hd : decode M.2.1 pc = .ok (.invokevirtual idx, 3)) (hw : mv_CV M.1.cls idx My n) (hM : mv_Met g My F' Lw' 0 0 (.ref m :: As) (rz σ m S) (fun oc τ => τ = rz σ m S1 ∧ oc = .returned none))
    (hk : (mk_cl[8]?).map (fun r => r.1) = some My.1.cls) (hn : As.length = n) (hst : st' = As.reverse ++ .ref m :: st) (hcat : (st.map fun v => v.category).sum ≤ 8) (hF : F' + 1 ≤ F) (hLw : 8 + (My.2.2.1 + 11) + Lw' ≤ Lw)
    (kk : mv_V g M F Lw 0 0 (pc + 3) L st (rz σ m S1) Q) : mv_V g M F Lw 0 0 pc L st' (rz σ m S) Q :=
  vr_callV As hd hw hM hk H.1 hn hst hcat hF hLw (Nat.le_refl 0) (Nat.le_refl 0) (fun w τ hq => by obtain ⟨rfl, hv⟩ := hq; cases hv; exact kk) (fun x τ hq => by obtain ⟨_, hv⟩ := hq; cases hv)
end RMR
/-- contracts of the reference's methods that call each other -/
def rkI0 (g : mv_G) (σ : mh_H) (m : Nat) (M : mv_M) (F Lw : Nat) (f : rm_S → Option (Int32 × rm_S)) : Prop := ∀ (S : rm_S) (r : Int32 × rm_S), f S = some r → mv_Met g M F Lw 0 0 [.ref m] (rz σ m S) (fun oc τ => τ = rz σ m r.2 ∧ oc = .returned (some (.int r.1)))
def rkI1 (g : mv_G) (σ : mh_H) (m : Nat) (M : mv_M) (F Lw : Nat) (f : Int32 → rm_S → Option (Int32 × rm_S)) : Prop := ∀ (x : Int32) (S : rm_S) (r : Int32 × rm_S), f x S = some r → mv_Met g M F Lw 0 0 [.ref m, .int x] (rz σ m S) (fun oc τ => τ = rz σ m r.2 ∧ oc = .returned (some (.int r.1)))
def rkI2 (g : mv_G) (σ : mh_H) (m : Nat) (M : mv_M) (F Lw : Nat) (f : Int32 → Int32 → rm_S → Option (Int32 × rm_S)) : Prop := ∀ (x y : Int32) (S : rm_S) (r : Int32 × rm_S), f x y S = some r → mv_Met g M F Lw 0 0 [.ref m, .int x, .int y] (rz σ m S) (fun oc τ => τ = rz σ m r.2 ∧ oc = .returned (some (.int r.1)))
def rkV2 (g : mv_G) (σ : mh_H) (m : Nat) (M : mv_M) (F Lw : Nat) (f : Int32 → Int32 → rm_S → Option rm_S) : Prop := ∀ (x y : Int32) (S : rm_S) (r : rm_S), f x y S = some r → mv_Met g M F Lw 0 0 [.ref m, .int x, .int y] (rz σ m S) (fun oc τ => τ = rz σ m r ∧ oc = .returned none)
def rkV3 (g : mv_G) (σ : mh_H) (m : Nat) (M : mv_M) (F Lw : Nat) (f : Int32 → Int32 → Int32 → rm_S → Option rm_S) : Prop := ∀ (x y z : Int32) (S : rm_S) (r : rm_S), f x y z S = some r → mv_Met g M F Lw 0 0 [.ref m, .int x, .int y, .int z] (rz σ m S) (fun oc τ => τ = rz σ m r ∧ oc = .returned none)
def rkV5 (g : mv_G) (σ : mh_H) (m : Nat) (M : mv_M) (F Lw : Nat) (f : Int32 → Int32 → Int32 → Int32 → Int32 → rm_S → Option rm_S) : Prop := ∀ (x y z u w : Int32) (S : rm_S) (r : rm_S), f x y z u w S = some r → mv_Met g M F Lw 0 0 [.ref m, .int x, .int y, .int z, .int u, .int w] (rz σ m S) (fun oc τ => τ = rz σ m r ∧ oc = .returned none)
