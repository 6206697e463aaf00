/-! THE LAW over the lifted methods -/
def rm_at (g : mv_G) (σ : mh_H) (m : Nat) (S : rm_S) : Prop := rm_H g σ m ∧ rz σ m S = σ
section LAW
variable {g : mv_G} {M My : mv_M} {F Lw cb sb pc n idx F' Lw' : Nat} {L L' : List (Option Value)} {st st' : List Value} {σ : mh_H} {Q : Outcome → mh_H → Prop} {m : Nat} {S S1 : rm_S}
theorem lw_callR {v : Int32} (As : List Value) (A : rm_at g σ m S) (hd : decode M.2.1 pc = .ok (.invokevirtual idx, 3)) (hw : mv_CV M.1.cls idx My n) (hM : mv_Met g My F' Lw' 0 0 (.ref m :: As) (rz σ m S) (fun oc τ => τ = rz σ m S1 ∧ oc = .returned (some (.int v))))
    (hk : (mk_cl[8]?).map (fun r => r.1) = some My.1.cls) (hn : As.length = n) (hst : st' = As.reverse ++ .ref m :: st) (hcat : (st.map fun v => v.category).sum ≤ 8) (hF : F' + 1 ≤ F) (hLw : 8 + (My.2.2.1 + 11) + Lw' ≤ Lw)
    (kk : mv_V g M F Lw cb sb (pc + 3) L (.int v :: st) (rz σ m S1) Q) : mv_V g M F Lw cb sb pc L st' σ Q := by
  rw [A.2] at hM
  exact vr_callV As hd hw hM hk A.1.1 hn hst hcat hF hLw (Nat.zero_le _) (Nat.zero_le _) (fun w τ hq => by obtain ⟨rfl, hv⟩ := hq; cases hv; exact kk) (fun x τ hq => by obtain ⟨_, hv⟩ := hq; cases hv)
end LAW
/-- one call of the law: the class's method, then the reference's; their answers agree -/
def lw_op (g : mv_G) (am : Nat) (I : Nat → Nat → Nat → mh_H → Prop) (fC : mh_H → Option ((Int32 × mh_H) × Nat × Nat)) (fR : rm_S → Option (Int32 × rm_S)) : Prop :=
  ∀ (k cb sb : Nat) (σ : mh_H), k < 512 → I k cb sb σ → ∃ (v : Int32) (s1 : mh_H) (c n : Nat) (S S' : rm_S), fC σ = some ((v, s1), c, n) ∧ c ≤ cb ∧ n ≤ sb ∧ rm_at g s1 am S ∧ fR S = some (v, S') ∧ I (k + 1) (cb - c) (sb - n) (rz s1 am S')
def lw_op0 (g : mv_G) (am : Nat) (I : Nat → Nat → Nat → mh_H → Prop) (fC : mh_H → Option (Int32 × mh_H)) (fR : rm_S → Option (Int32 × rm_S)) : Prop :=
  ∀ (k cb sb : Nat) (σ : mh_H), k < 512 → I k cb sb σ → ∃ (v : Int32) (s1 : mh_H) (S S' : rm_S), fC σ = some (v, s1) ∧ rm_at g s1 am S ∧ fR S = some (v, S') ∧ I (k + 1) cb sb (rz s1 am S')
/-- all that the law asks of one state's invariant -/
def lw_all (g : mv_G) (N ax am : Nat) (I : Nat → Nat → Nat → mh_H → Prop) : Prop :=
  (∀ k cb sb σ, I k cb sb σ → hT σ ax = 15) ∧ (∀ k cb sb σ, I k cb sb σ → I (k + 1) cb sb σ) ∧
  (∀ x1 x2 x3 x4 x5 : Int32, lw_op g am I (f_PR_feed N ax x1 x2 x3 x4 x5) (f_RM_feed N x1 x2 x3 x4 x5)) ∧
  (∀ x1 x2 : Int32, lw_op g am I (f_PR_read N (pa_function N 1000) ax x1 x2) (f_RM_read N (rp_function N 1000) x1 x2)) ∧
  (∀ x1 : Int32, lw_op0 g am I (f_PR_nodes N ax x1) (f_RM_nodes N x1)) ∧
  (∀ x1 x2 x3 : Int32, lw_op0 g am I (f_PR_node N ax x1 x2 x3) (f_RM_node N x1 x2 x3)) ∧
  (∀ x1 x2 x3 : Int32, lw_op0 g am I (f_PR_part N ax x1 x2 x3) (f_RM_part N x1 x2 x3)) ∧
  (∀ x1 x2 : Int32, lw_op0 g am I (f_PR_whole N ax x1 x2) (f_RM_whole N x1 x2)) ∧
  (lw_op0 g am I (f_PR_names N ax) (f_RM_names N)) ∧
  (∀ x1 x2 : Int32, lw_op0 g am I (f_PR_spelt N ax x1 x2) (f_RM_spelt N x1 x2)) ∧
  (∀ x1 x2 : Int32, lw_op g am I (f_PR_write N ax x1 x2) (f_RM_write N (rw_show N 1000) x1 x2)) ∧
  (∀ x1 : Int32, lw_op0 g am I (f_PR_written N ax x1) (f_RM_written N x1)) ∧
  (lw_op g am I (f_PR_again N ax) (f_RM_again N)) ∧
  (lw_op0 g am I (f_PR_same N ax) (f_RM_same N))
theorem lw_loop {g : mv_G} (hl : (mg_l g).stackTraces = false) {N ax am : Nat} {I : Nat → Nat → Nat → mh_H → Prop} (hN : (mg_S g).2.1 ≤ 3072) (A : lw_all g N ax am I) :
    ∀ (n k cb sb : Nat) (σ : mh_H), k + n = 513 → I k cb sb σ → mv_V g M_LA_law 2048 84000 cb sb 18 [some (.ref (mg_S g).1), some (.ref ax), some (.ref am), some (.int (nI (6 * k)))] [] σ (fun oc _ => oc = .returned (some (.int 1))) := by
  intro n
  induction n with
  | zero =>
    intro k cb sb σ hk hI
    have hlt : nI (mg_S g).2.1 - 6 < nI (6 * k) := by
      have e : k = 513 := by omega
      subst e
      rw [Int32.lt_iff_toInt_lt, Int32.toInt_sub, nI, nI, Int32.toInt_ofNat_of_lt (by omega), Int32.toInt_ofNat_of_lt (by omega)]
      have h6 : (6 : Int32).toInt = 6 := rfl
      rw [h6, Int.bmod_eq_of_le (by omega) (by omega)]
      omega
    refine vr_iload_n d_LA_law_18 rfl rfl ?_
    refine vr_aload_n d_LA_law_19 rfl rfl ?_
    refine vr_slen d_LA_law_20 ?_
    refine vr_bipush 6 d_LA_law_21 (by decide) ?_
    refine vr_isub d_LA_law_23 ?_
    refine vr_icmp_gt (tgt := 468) d_LA_law_24 (by decide) (fun c => ?_) (fun c => absurd hlt c)
    refine vr_iconst 1 d_LA_law_468 (by decide) ?_
    exact vr_iret d_LA_law_469 rfl rfl rfl
  | succ n ih =>
    intro k cb sb σ hk hI
    refine vr_iload_n d_LA_law_18 rfl rfl ?_
    refine vr_aload_n d_LA_law_19 rfl rfl ?_
    refine vr_slen d_LA_law_20 ?_
    refine vr_bipush 6 d_LA_law_21 (by decide) ?_
    refine vr_isub d_LA_law_23 ?_
    refine vr_icmp_gt (tgt := 468) d_LA_law_24 (by decide) (fun c => ?_) (fun c => ?_)
    · refine vr_iconst 1 d_LA_law_468 (by decide) ?_
      exact vr_iret d_LA_law_469 rfl rfl rfl
    have h6 : 6 * k + 6 ≤ (mg_S g).2.1 := by
      rw [Int32.lt_iff_toInt_lt, Int32.toInt_sub, nI, nI, Int32.toInt_ofNat_of_lt (by omega), Int32.toInt_ofNat_of_lt (by omega)] at c
      have h6 : (6 : Int32).toInt = 6 := rfl
      rw [h6, Int.bmod_eq_of_le (by omega) (by omega)] at c
      omega
    have hk5 : k < 512 := by omega
    have hx : ∀ j : Nat, j < 6 → ib (nI (6 * k) + nI j) (mg_S g).2.1 := by
      intro j hj
      have e : nI (6 * k) + nI j = nI (6 * k + j) := (Int32.ofNat_add _ _).symm
      rw [e]
      exact ⟨nI_pos (by omega), by rw [nI_clamp (by omega)]; omega⟩
    have hx0 : ib (nI (6 * k)) (mg_S g).2.1 := ⟨nI_pos (by omega), by rw [nI_clamp (by omega)]; omega⟩
    obtain ⟨htg, hskip, aFEED, aREAD, aNODES, aNODE, aPART, aWHOLE, aNAMES, aSPELT, aWRITE, aWRITTEN, aAGAIN, aSAME⟩ := id A
    have hpa := pa_ok (g := g) (N := N) hl 1000
    have next : ∀ cb sb σ, I (k + 1) cb sb σ → mv_V g M_LA_law 2048 84000 cb sb 462 [some (.ref (mg_S g).1), some (.ref ax), some (.ref am), some (.int (nI (6 * k)))] [] σ (fun oc _ => oc = .returned (some (.int 1))) := by
      intro cb sb σ hI
      have e : nI (6 * k) + 6 = nI (6 * (k + 1)) := (Int32.ofNat_add (6 * k) 6).symm
      refine vr_iinc (L' := [some (.ref (mg_S g).1), some (.ref ax), some (.ref am), some (.int (nI (6 * k) + 6))]) (nI (6 * k) + 6) d_LA_law_462 (by decide) rfl rfl rfl ?_
      refine vr_goto (tgt := 18) d_LA_law_465 (by decide) ?_
      rw [e]
      exact ih (k + 1) cb sb σ (by omega) hI
    refine vr_aload_n d_LA_law_27 rfl rfl ?_
    refine vr_iload_n d_LA_law_28 rfl rfl ?_
    refine vr_sld d_LA_law_29 hx0 ?_
    refine vr_bipush 15 d_LA_law_30 (by decide) ?_
    refine vr_iand d_LA_law_32 ?_
    have hg := htg _ _ _ _ hI
    generalize (mg_S g).2.2 (nI (6 * k)).toNatClampNeg &&& 15 = op
    by_cases c0 : op = 0
    · refine vr_tableIn (tgt := 96) (off := 63) d_LA_law_33 (by rw [c0]; decide) (by rw [c0]; decide) (by rw [c0]; rfl) (by decide) ?_
      obtain ⟨v, s1, c, n, S, S', e1, hc, hs, hR, e2, hI2⟩ := aFEED ((mg_S g).2.2 (nI (6 * k) + 1).toNatClampNeg) ((mg_S g).2.2 (nI (6 * k) + 2).toNatClampNeg) ((mg_S g).2.2 (nI (6 * k) + 3).toNatClampNeg) ((mg_S g).2.2 (nI (6 * k) + 4).toNatClampNeg) ((mg_S g).2.2 (nI (6 * k) + 5).toNatClampNeg) k cb sb σ hk5 hI
      refine vr_aload_n d_LA_law_96 rfl rfl ?_
      refine vr_aload_n d_LA_law_97 rfl rfl ?_
      refine vr_iload_n d_LA_law_98 rfl rfl ?_
      refine vr_iconst 1 d_LA_law_99 (by decide) ?_
      refine vr_iadd d_LA_law_100 ?_
      refine vr_sld d_LA_law_101 (hx 1 (by decide)) ?_
      refine vr_aload_n d_LA_law_102 rfl rfl ?_
      refine vr_iload_n d_LA_law_103 rfl rfl ?_
      refine vr_iconst 2 d_LA_law_104 (by decide) ?_
      refine vr_iadd d_LA_law_105 ?_
      refine vr_sld d_LA_law_106 (hx 2 (by decide)) ?_
      refine vr_aload_n d_LA_law_107 rfl rfl ?_
      refine vr_iload_n d_LA_law_108 rfl rfl ?_
      refine vr_iconst 3 d_LA_law_109 (by decide) ?_
      refine vr_iadd d_LA_law_110 ?_
      refine vr_sld d_LA_law_111 (hx 3 (by decide)) ?_
      refine vr_aload_n d_LA_law_112 rfl rfl ?_
      refine vr_iload_n d_LA_law_113 rfl rfl ?_
      refine vr_iconst 4 d_LA_law_114 (by decide) ?_
      refine vr_iadd d_LA_law_115 ?_
      refine vr_sld d_LA_law_116 (hx 4 (by decide)) ?_
      refine vr_aload_n d_LA_law_117 rfl rfl ?_
      refine vr_iload_n d_LA_law_118 rfl rfl ?_
      refine vr_iconst 5 d_LA_law_119 (by decide) ?_
      refine vr_iadd d_LA_law_120 ?_
      refine vr_sld d_LA_law_121 (hx 5 (by decide)) ?_
      refine mh_callIa 7 [.int ((mg_S g).2.2 (nI (6 * k) + 1).toNatClampNeg), .int ((mg_S g).2.2 (nI (6 * k) + 2).toNatClampNeg), .int ((mg_S g).2.2 (nI (6 * k) + 3).toNatClampNeg), .int ((mg_S g).2.2 (nI (6 * k) + 4).toNatClampNeg), .int ((mg_S g).2.2 (nI (6 * k) + 5).toNatClampNeg)] d_LA_law_122 C_LA_13 (c_PR_feed e1) hg rfl rfl rfl (Nat.le_of_ble_eq_true rfl) (by decide) (Nat.le_of_ble_eq_true rfl) hc hs ?_
      refine vr_aload_n d_LA_law_125 rfl rfl ?_
      refine vr_aload_n d_LA_law_126 rfl rfl ?_
      refine vr_iload_n d_LA_law_127 rfl rfl ?_
      refine vr_iconst 1 d_LA_law_128 (by decide) ?_
      refine vr_iadd d_LA_law_129 ?_
      refine vr_sld d_LA_law_130 (hx 1 (by decide)) ?_
      refine vr_aload_n d_LA_law_131 rfl rfl ?_
      refine vr_iload_n d_LA_law_132 rfl rfl ?_
      refine vr_iconst 2 d_LA_law_133 (by decide) ?_
      refine vr_iadd d_LA_law_134 ?_
      refine vr_sld d_LA_law_135 (hx 2 (by decide)) ?_
      refine vr_aload_n d_LA_law_136 rfl rfl ?_
      refine vr_iload_n d_LA_law_137 rfl rfl ?_
      refine vr_iconst 3 d_LA_law_138 (by decide) ?_
      refine vr_iadd d_LA_law_139 ?_
      refine vr_sld d_LA_law_140 (hx 3 (by decide)) ?_
      refine vr_aload_n d_LA_law_141 rfl rfl ?_
      refine vr_iload_n d_LA_law_142 rfl rfl ?_
      refine vr_iconst 4 d_LA_law_143 (by decide) ?_
      refine vr_iadd d_LA_law_144 ?_
      refine vr_sld d_LA_law_145 (hx 4 (by decide)) ?_
      refine vr_aload_n d_LA_law_146 rfl rfl ?_
      refine vr_iload_n d_LA_law_147 rfl rfl ?_
      refine vr_iconst 5 d_LA_law_148 (by decide) ?_
      refine vr_iadd d_LA_law_149 ?_
      refine vr_sld d_LA_law_150 (hx 5 (by decide)) ?_
      refine lw_callR [.int ((mg_S g).2.2 (nI (6 * k) + 1).toNatClampNeg), .int ((mg_S g).2.2 (nI (6 * k) + 2).toNatClampNeg), .int ((mg_S g).2.2 (nI (6 * k) + 3).toNatClampNeg), .int ((mg_S g).2.2 (nI (6 * k) + 4).toNatClampNeg), .int ((mg_S g).2.2 (nI (6 * k) + 5).toNatClampNeg)] hR d_LA_law_151 C_LA_17 (c_RM_feed hR.1 e2) rfl rfl rfl (Nat.le_of_ble_eq_true rfl) (by decide) (Nat.le_of_ble_eq_true rfl) ?_
      refine vr_icmp_eq (tgt := 462) d_LA_law_154 (by decide) (fun _ => ?_) (fun z => absurd rfl z)
      exact next _ _ _ hI2
    by_cases c1 : op = 1
    · refine vr_tableIn (tgt := 159) (off := 126) d_LA_law_33 (by rw [c1]; decide) (by rw [c1]; decide) (by rw [c1]; rfl) (by decide) ?_
      obtain ⟨v, s1, c, n, S, S', e1, hc, hs, hR, e2, hI2⟩ := aREAD ((mg_S g).2.2 (nI (6 * k) + 1).toNatClampNeg) ((mg_S g).2.2 (nI (6 * k) + 2).toNatClampNeg) k cb sb σ hk5 hI
      refine vr_aload_n d_LA_law_159 rfl rfl ?_
      refine vr_aload_n d_LA_law_160 rfl rfl ?_
      refine vr_iload_n d_LA_law_161 rfl rfl ?_
      refine vr_iconst 1 d_LA_law_162 (by decide) ?_
      refine vr_iadd d_LA_law_163 ?_
      refine vr_sld d_LA_law_164 (hx 1 (by decide)) ?_
      refine vr_aload_n d_LA_law_165 rfl rfl ?_
      refine vr_iload_n d_LA_law_166 rfl rfl ?_
      refine vr_iconst 2 d_LA_law_167 (by decide) ?_
      refine vr_iadd d_LA_law_168 ?_
      refine vr_sld d_LA_law_169 (hx 2 (by decide)) ?_
      refine mh_callIa 7 [.int ((mg_S g).2.2 (nI (6 * k) + 1).toNatClampNeg), .int ((mg_S g).2.2 (nI (6 * k) + 2).toNatClampNeg)] d_LA_law_170 C_LA_18 (c_PR_read hl hpa.2.2.2.2.2.2.2.2.2.2.2.2 (by omega) (by omega) e1) hg rfl rfl rfl (Nat.le_of_ble_eq_true rfl) (by decide) (Nat.le_of_ble_eq_true rfl) hc hs ?_
      refine vr_aload_n d_LA_law_173 rfl rfl ?_
      refine vr_aload_n d_LA_law_174 rfl rfl ?_
      refine vr_iload_n d_LA_law_175 rfl rfl ?_
      refine vr_iconst 1 d_LA_law_176 (by decide) ?_
      refine vr_iadd d_LA_law_177 ?_
      refine vr_sld d_LA_law_178 (hx 1 (by decide)) ?_
      refine vr_aload_n d_LA_law_179 rfl rfl ?_
      refine vr_iload_n d_LA_law_180 rfl rfl ?_
      refine vr_iconst 2 d_LA_law_181 (by decide) ?_
      refine vr_iadd d_LA_law_182 ?_
      refine vr_sld d_LA_law_183 (hx 2 (by decide)) ?_
      refine lw_callR [.int ((mg_S g).2.2 (nI (6 * k) + 1).toNatClampNeg), .int ((mg_S g).2.2 (nI (6 * k) + 2).toNatClampNeg)] hR d_LA_law_184 C_LA_22 (c_RM_read hR.1 (rp_ok (N := N) hR.1 1000).2.2.2.2.2.2.2.2.2.2 (by omega) (by omega) _ _ _ _ e2) rfl rfl rfl (Nat.le_of_ble_eq_true rfl) (by decide) (Nat.le_of_ble_eq_true rfl) ?_
      refine vr_icmp_eq (tgt := 462) d_LA_law_187 (by decide) (fun _ => ?_) (fun z => absurd rfl z)
      exact next _ _ _ hI2
    by_cases c2 : op = 2
    · refine vr_tableIn (tgt := 192) (off := 159) d_LA_law_33 (by rw [c2]; decide) (by rw [c2]; decide) (by rw [c2]; rfl) (by decide) ?_
      obtain ⟨v, s1, S, S', e1, hR, e2, hI2⟩ := aNODES ((mg_S g).2.2 (nI (6 * k) + 1).toNatClampNeg) k cb sb σ hk5 hI
      refine vr_aload_n d_LA_law_192 rfl rfl ?_
      refine vr_aload_n d_LA_law_193 rfl rfl ?_
      refine vr_iload_n d_LA_law_194 rfl rfl ?_
      refine vr_iconst 1 d_LA_law_195 (by decide) ?_
      refine vr_iadd d_LA_law_196 ?_
      refine vr_sld d_LA_law_197 (hx 1 (by decide)) ?_
      refine mh_callI 7 [.int ((mg_S g).2.2 (nI (6 * k) + 1).toNatClampNeg)] d_LA_law_198 C_LA_23 (c_PR_nodes e1) hg rfl rfl rfl (Nat.le_of_ble_eq_true rfl) (by decide) (Nat.le_of_ble_eq_true rfl) ?_
      refine vr_aload_n d_LA_law_201 rfl rfl ?_
      refine vr_aload_n d_LA_law_202 rfl rfl ?_
      refine vr_iload_n d_LA_law_203 rfl rfl ?_
      refine vr_iconst 1 d_LA_law_204 (by decide) ?_
      refine vr_iadd d_LA_law_205 ?_
      refine vr_sld d_LA_law_206 (hx 1 (by decide)) ?_
      refine lw_callR [.int ((mg_S g).2.2 (nI (6 * k) + 1).toNatClampNeg)] hR d_LA_law_207 C_LA_27 (c_RM_nodes hR.1 e2) rfl rfl rfl (Nat.le_of_ble_eq_true rfl) (by decide) (Nat.le_of_ble_eq_true rfl) ?_
      refine vr_icmp_eq (tgt := 462) d_LA_law_210 (by decide) (fun _ => ?_) (fun z => absurd rfl z)
      exact next _ _ _ hI2
    by_cases c3 : op = 3
    · refine vr_tableIn (tgt := 215) (off := 182) d_LA_law_33 (by rw [c3]; decide) (by rw [c3]; decide) (by rw [c3]; rfl) (by decide) ?_
      obtain ⟨v, s1, S, S', e1, hR, e2, hI2⟩ := aNODE ((mg_S g).2.2 (nI (6 * k) + 1).toNatClampNeg) ((mg_S g).2.2 (nI (6 * k) + 2).toNatClampNeg) ((mg_S g).2.2 (nI (6 * k) + 3).toNatClampNeg) k cb sb σ hk5 hI
      refine vr_aload_n d_LA_law_215 rfl rfl ?_
      refine vr_aload_n d_LA_law_216 rfl rfl ?_
      refine vr_iload_n d_LA_law_217 rfl rfl ?_
      refine vr_iconst 1 d_LA_law_218 (by decide) ?_
      refine vr_iadd d_LA_law_219 ?_
      refine vr_sld d_LA_law_220 (hx 1 (by decide)) ?_
      refine vr_aload_n d_LA_law_221 rfl rfl ?_
      refine vr_iload_n d_LA_law_222 rfl rfl ?_
      refine vr_iconst 2 d_LA_law_223 (by decide) ?_
      refine vr_iadd d_LA_law_224 ?_
      refine vr_sld d_LA_law_225 (hx 2 (by decide)) ?_
      refine vr_aload_n d_LA_law_226 rfl rfl ?_
      refine vr_iload_n d_LA_law_227 rfl rfl ?_
      refine vr_iconst 3 d_LA_law_228 (by decide) ?_
      refine vr_iadd d_LA_law_229 ?_
      refine vr_sld d_LA_law_230 (hx 3 (by decide)) ?_
      refine mh_callI 7 [.int ((mg_S g).2.2 (nI (6 * k) + 1).toNatClampNeg), .int ((mg_S g).2.2 (nI (6 * k) + 2).toNatClampNeg), .int ((mg_S g).2.2 (nI (6 * k) + 3).toNatClampNeg)] d_LA_law_231 C_LA_28 (c_PR_node e1) hg rfl rfl rfl (Nat.le_of_ble_eq_true rfl) (by decide) (Nat.le_of_ble_eq_true rfl) ?_
      refine vr_aload_n d_LA_law_234 rfl rfl ?_
      refine vr_aload_n d_LA_law_235 rfl rfl ?_
      refine vr_iload_n d_LA_law_236 rfl rfl ?_
      refine vr_iconst 1 d_LA_law_237 (by decide) ?_
      refine vr_iadd d_LA_law_238 ?_
      refine vr_sld d_LA_law_239 (hx 1 (by decide)) ?_
      refine vr_aload_n d_LA_law_240 rfl rfl ?_
      refine vr_iload_n d_LA_law_241 rfl rfl ?_
      refine vr_iconst 2 d_LA_law_242 (by decide) ?_
      refine vr_iadd d_LA_law_243 ?_
      refine vr_sld d_LA_law_244 (hx 2 (by decide)) ?_
      refine vr_aload_n d_LA_law_245 rfl rfl ?_
      refine vr_iload_n d_LA_law_246 rfl rfl ?_
      refine vr_iconst 3 d_LA_law_247 (by decide) ?_
      refine vr_iadd d_LA_law_248 ?_
      refine vr_sld d_LA_law_249 (hx 3 (by decide)) ?_
      refine lw_callR [.int ((mg_S g).2.2 (nI (6 * k) + 1).toNatClampNeg), .int ((mg_S g).2.2 (nI (6 * k) + 2).toNatClampNeg), .int ((mg_S g).2.2 (nI (6 * k) + 3).toNatClampNeg)] hR d_LA_law_250 C_LA_32 (c_RM_node hR.1 e2) rfl rfl rfl (Nat.le_of_ble_eq_true rfl) (by decide) (Nat.le_of_ble_eq_true rfl) ?_
      refine vr_icmp_eq (tgt := 462) d_LA_law_253 (by decide) (fun _ => ?_) (fun z => absurd rfl z)
      exact next _ _ _ hI2
    by_cases c4 : op = 4
    · refine vr_tableIn (tgt := 258) (off := 225) d_LA_law_33 (by rw [c4]; decide) (by rw [c4]; decide) (by rw [c4]; rfl) (by decide) ?_
      obtain ⟨v, s1, S, S', e1, hR, e2, hI2⟩ := aPART ((mg_S g).2.2 (nI (6 * k) + 1).toNatClampNeg) ((mg_S g).2.2 (nI (6 * k) + 2).toNatClampNeg) ((mg_S g).2.2 (nI (6 * k) + 3).toNatClampNeg) k cb sb σ hk5 hI
      refine vr_aload_n d_LA_law_258 rfl rfl ?_
      refine vr_aload_n d_LA_law_259 rfl rfl ?_
      refine vr_iload_n d_LA_law_260 rfl rfl ?_
      refine vr_iconst 1 d_LA_law_261 (by decide) ?_
      refine vr_iadd d_LA_law_262 ?_
      refine vr_sld d_LA_law_263 (hx 1 (by decide)) ?_
      refine vr_aload_n d_LA_law_264 rfl rfl ?_
      refine vr_iload_n d_LA_law_265 rfl rfl ?_
      refine vr_iconst 2 d_LA_law_266 (by decide) ?_
      refine vr_iadd d_LA_law_267 ?_
      refine vr_sld d_LA_law_268 (hx 2 (by decide)) ?_
      refine vr_aload_n d_LA_law_269 rfl rfl ?_
      refine vr_iload_n d_LA_law_270 rfl rfl ?_
      refine vr_iconst 3 d_LA_law_271 (by decide) ?_
      refine vr_iadd d_LA_law_272 ?_
      refine vr_sld d_LA_law_273 (hx 3 (by decide)) ?_
      refine mh_callI 7 [.int ((mg_S g).2.2 (nI (6 * k) + 1).toNatClampNeg), .int ((mg_S g).2.2 (nI (6 * k) + 2).toNatClampNeg), .int ((mg_S g).2.2 (nI (6 * k) + 3).toNatClampNeg)] d_LA_law_274 C_LA_33 (c_PR_part e1) hg rfl rfl rfl (Nat.le_of_ble_eq_true rfl) (by decide) (Nat.le_of_ble_eq_true rfl) ?_
      refine vr_aload_n d_LA_law_277 rfl rfl ?_
      refine vr_aload_n d_LA_law_278 rfl rfl ?_
      refine vr_iload_n d_LA_law_279 rfl rfl ?_
      refine vr_iconst 1 d_LA_law_280 (by decide) ?_
      refine vr_iadd d_LA_law_281 ?_
      refine vr_sld d_LA_law_282 (hx 1 (by decide)) ?_
      refine vr_aload_n d_LA_law_283 rfl rfl ?_
      refine vr_iload_n d_LA_law_284 rfl rfl ?_
      refine vr_iconst 2 d_LA_law_285 (by decide) ?_
      refine vr_iadd d_LA_law_286 ?_
      refine vr_sld d_LA_law_287 (hx 2 (by decide)) ?_
      refine vr_aload_n d_LA_law_288 rfl rfl ?_
      refine vr_iload_n d_LA_law_289 rfl rfl ?_
      refine vr_iconst 3 d_LA_law_290 (by decide) ?_
      refine vr_iadd d_LA_law_291 ?_
      refine vr_sld d_LA_law_292 (hx 3 (by decide)) ?_
      refine lw_callR [.int ((mg_S g).2.2 (nI (6 * k) + 1).toNatClampNeg), .int ((mg_S g).2.2 (nI (6 * k) + 2).toNatClampNeg), .int ((mg_S g).2.2 (nI (6 * k) + 3).toNatClampNeg)] hR d_LA_law_293 C_LA_36 (c_RM_part hR.1 e2) rfl rfl rfl (Nat.le_of_ble_eq_true rfl) (by decide) (Nat.le_of_ble_eq_true rfl) ?_
      refine vr_icmp_eq (tgt := 462) d_LA_law_296 (by decide) (fun _ => ?_) (fun z => absurd rfl z)
      exact next _ _ _ hI2
    by_cases c5 : op = 5
    · refine vr_tableIn (tgt := 301) (off := 268) d_LA_law_33 (by rw [c5]; decide) (by rw [c5]; decide) (by rw [c5]; rfl) (by decide) ?_
      obtain ⟨v, s1, S, S', e1, hR, e2, hI2⟩ := aWHOLE ((mg_S g).2.2 (nI (6 * k) + 1).toNatClampNeg) ((mg_S g).2.2 (nI (6 * k) + 2).toNatClampNeg) k cb sb σ hk5 hI
      refine vr_aload_n d_LA_law_301 rfl rfl ?_
      refine vr_aload_n d_LA_law_302 rfl rfl ?_
      refine vr_iload_n d_LA_law_303 rfl rfl ?_
      refine vr_iconst 1 d_LA_law_304 (by decide) ?_
      refine vr_iadd d_LA_law_305 ?_
      refine vr_sld d_LA_law_306 (hx 1 (by decide)) ?_
      refine vr_aload_n d_LA_law_307 rfl rfl ?_
      refine vr_iload_n d_LA_law_308 rfl rfl ?_
      refine vr_iconst 2 d_LA_law_309 (by decide) ?_
      refine vr_iadd d_LA_law_310 ?_
      refine vr_sld d_LA_law_311 (hx 2 (by decide)) ?_
      refine mh_callI 7 [.int ((mg_S g).2.2 (nI (6 * k) + 1).toNatClampNeg), .int ((mg_S g).2.2 (nI (6 * k) + 2).toNatClampNeg)] d_LA_law_312 C_LA_37 (c_PR_whole e1) hg rfl rfl rfl (Nat.le_of_ble_eq_true rfl) (by decide) (Nat.le_of_ble_eq_true rfl) ?_
      refine vr_aload_n d_LA_law_315 rfl rfl ?_
      refine vr_aload_n d_LA_law_316 rfl rfl ?_
      refine vr_iload_n d_LA_law_317 rfl rfl ?_
      refine vr_iconst 1 d_LA_law_318 (by decide) ?_
      refine vr_iadd d_LA_law_319 ?_
      refine vr_sld d_LA_law_320 (hx 1 (by decide)) ?_
      refine vr_aload_n d_LA_law_321 rfl rfl ?_
      refine vr_iload_n d_LA_law_322 rfl rfl ?_
      refine vr_iconst 2 d_LA_law_323 (by decide) ?_
      refine vr_iadd d_LA_law_324 ?_
      refine vr_sld d_LA_law_325 (hx 2 (by decide)) ?_
      refine lw_callR [.int ((mg_S g).2.2 (nI (6 * k) + 1).toNatClampNeg), .int ((mg_S g).2.2 (nI (6 * k) + 2).toNatClampNeg)] hR d_LA_law_326 C_LA_40 (c_RM_whole hR.1 e2) rfl rfl rfl (Nat.le_of_ble_eq_true rfl) (by decide) (Nat.le_of_ble_eq_true rfl) ?_
      refine vr_icmp_eq (tgt := 462) d_LA_law_329 (by decide) (fun _ => ?_) (fun z => absurd rfl z)
      exact next _ _ _ hI2
    by_cases c6 : op = 6
    · refine vr_tableIn (tgt := 334) (off := 301) d_LA_law_33 (by rw [c6]; decide) (by rw [c6]; decide) (by rw [c6]; rfl) (by decide) ?_
      obtain ⟨v, s1, S, S', e1, hR, e2, hI2⟩ := aNAMES  k cb sb σ hk5 hI
      refine vr_aload_n d_LA_law_334 rfl rfl ?_
      refine mh_callI 7 [] d_LA_law_335 C_LA_41 (c_PR_names e1) hg rfl rfl rfl (Nat.le_of_ble_eq_true rfl) (by decide) (Nat.le_of_ble_eq_true rfl) ?_
      refine vr_aload_n d_LA_law_338 rfl rfl ?_
      refine lw_callR [] hR d_LA_law_339 C_LA_45 (c_RM_names hR.1 e2) rfl rfl rfl (Nat.le_of_ble_eq_true rfl) (by decide) (Nat.le_of_ble_eq_true rfl) ?_
      refine vr_icmp_eq (tgt := 462) d_LA_law_342 (by decide) (fun _ => ?_) (fun z => absurd rfl z)
      exact next _ _ _ hI2
    by_cases c7 : op = 7
    · refine vr_tableIn (tgt := 347) (off := 314) d_LA_law_33 (by rw [c7]; decide) (by rw [c7]; decide) (by rw [c7]; rfl) (by decide) ?_
      obtain ⟨v, s1, S, S', e1, hR, e2, hI2⟩ := aSPELT ((mg_S g).2.2 (nI (6 * k) + 1).toNatClampNeg) ((mg_S g).2.2 (nI (6 * k) + 2).toNatClampNeg) k cb sb σ hk5 hI
      refine vr_aload_n d_LA_law_347 rfl rfl ?_
      refine vr_aload_n d_LA_law_348 rfl rfl ?_
      refine vr_iload_n d_LA_law_349 rfl rfl ?_
      refine vr_iconst 1 d_LA_law_350 (by decide) ?_
      refine vr_iadd d_LA_law_351 ?_
      refine vr_sld d_LA_law_352 (hx 1 (by decide)) ?_
      refine vr_aload_n d_LA_law_353 rfl rfl ?_
      refine vr_iload_n d_LA_law_354 rfl rfl ?_
      refine vr_iconst 2 d_LA_law_355 (by decide) ?_
      refine vr_iadd d_LA_law_356 ?_
      refine vr_sld d_LA_law_357 (hx 2 (by decide)) ?_
      refine mh_callI 7 [.int ((mg_S g).2.2 (nI (6 * k) + 1).toNatClampNeg), .int ((mg_S g).2.2 (nI (6 * k) + 2).toNatClampNeg)] d_LA_law_358 C_LA_46 (c_PR_spelt e1) hg rfl rfl rfl (Nat.le_of_ble_eq_true rfl) (by decide) (Nat.le_of_ble_eq_true rfl) ?_
      refine vr_aload_n d_LA_law_361 rfl rfl ?_
      refine vr_aload_n d_LA_law_362 rfl rfl ?_
      refine vr_iload_n d_LA_law_363 rfl rfl ?_
      refine vr_iconst 1 d_LA_law_364 (by decide) ?_
      refine vr_iadd d_LA_law_365 ?_
      refine vr_sld d_LA_law_366 (hx 1 (by decide)) ?_
      refine vr_aload_n d_LA_law_367 rfl rfl ?_
      refine vr_iload_n d_LA_law_368 rfl rfl ?_
      refine vr_iconst 2 d_LA_law_369 (by decide) ?_
      refine vr_iadd d_LA_law_370 ?_
      refine vr_sld d_LA_law_371 (hx 2 (by decide)) ?_
      refine lw_callR [.int ((mg_S g).2.2 (nI (6 * k) + 1).toNatClampNeg), .int ((mg_S g).2.2 (nI (6 * k) + 2).toNatClampNeg)] hR d_LA_law_372 C_LA_49 (c_RM_spelt hR.1 e2) rfl rfl rfl (Nat.le_of_ble_eq_true rfl) (by decide) (Nat.le_of_ble_eq_true rfl) ?_
      refine vr_icmp_eq (tgt := 462) d_LA_law_375 (by decide) (fun _ => ?_) (fun z => absurd rfl z)
      exact next _ _ _ hI2
    by_cases c8 : op = 8
    · refine vr_tableIn (tgt := 380) (off := 347) d_LA_law_33 (by rw [c8]; decide) (by rw [c8]; decide) (by rw [c8]; rfl) (by decide) ?_
      obtain ⟨v, s1, c, n, S, S', e1, hc, hs, hR, e2, hI2⟩ := aWRITE ((mg_S g).2.2 (nI (6 * k) + 1).toNatClampNeg) ((mg_S g).2.2 (nI (6 * k) + 2).toNatClampNeg) k cb sb σ hk5 hI
      refine vr_aload_n d_LA_law_380 rfl rfl ?_
      refine vr_aload_n d_LA_law_381 rfl rfl ?_
      refine vr_iload_n d_LA_law_382 rfl rfl ?_
      refine vr_iconst 1 d_LA_law_383 (by decide) ?_
      refine vr_iadd d_LA_law_384 ?_
      refine vr_sld d_LA_law_385 (hx 1 (by decide)) ?_
      refine vr_aload_n d_LA_law_386 rfl rfl ?_
      refine vr_iload_n d_LA_law_387 rfl rfl ?_
      refine vr_iconst 2 d_LA_law_388 (by decide) ?_
      refine vr_iadd d_LA_law_389 ?_
      refine vr_sld d_LA_law_390 (hx 2 (by decide)) ?_
      refine mh_callIa 7 [.int ((mg_S g).2.2 (nI (6 * k) + 1).toNatClampNeg), .int ((mg_S g).2.2 (nI (6 * k) + 2).toNatClampNeg)] d_LA_law_391 C_LA_50 (c_PR_write e1) hg rfl rfl rfl (Nat.le_of_ble_eq_true rfl) (by decide) (Nat.le_of_ble_eq_true rfl) hc hs ?_
      refine vr_aload_n d_LA_law_394 rfl rfl ?_
      refine vr_aload_n d_LA_law_395 rfl rfl ?_
      refine vr_iload_n d_LA_law_396 rfl rfl ?_
      refine vr_iconst 1 d_LA_law_397 (by decide) ?_
      refine vr_iadd d_LA_law_398 ?_
      refine vr_sld d_LA_law_399 (hx 1 (by decide)) ?_
      refine vr_aload_n d_LA_law_400 rfl rfl ?_
      refine vr_iload_n d_LA_law_401 rfl rfl ?_
      refine vr_iconst 2 d_LA_law_402 (by decide) ?_
      refine vr_iadd d_LA_law_403 ?_
      refine vr_sld d_LA_law_404 (hx 2 (by decide)) ?_
      refine lw_callR [.int ((mg_S g).2.2 (nI (6 * k) + 1).toNatClampNeg), .int ((mg_S g).2.2 (nI (6 * k) + 2).toNatClampNeg)] hR d_LA_law_405 C_LA_53 (c_RM_write hR.1 (rw_ok (N := N) hR.1 1000).2.2.2.2.2 (by omega) (by omega) _ _ _ _ e2) rfl rfl rfl (Nat.le_of_ble_eq_true rfl) (by decide) (Nat.le_of_ble_eq_true rfl) ?_
      refine vr_icmp_eq (tgt := 462) d_LA_law_408 (by decide) (fun _ => ?_) (fun z => absurd rfl z)
      exact next _ _ _ hI2
    by_cases c9 : op = 9
    · refine vr_tableIn (tgt := 413) (off := 380) d_LA_law_33 (by rw [c9]; decide) (by rw [c9]; decide) (by rw [c9]; rfl) (by decide) ?_
      obtain ⟨v, s1, S, S', e1, hR, e2, hI2⟩ := aWRITTEN ((mg_S g).2.2 (nI (6 * k) + 1).toNatClampNeg) k cb sb σ hk5 hI
      refine vr_aload_n d_LA_law_413 rfl rfl ?_
      refine vr_aload_n d_LA_law_414 rfl rfl ?_
      refine vr_iload_n d_LA_law_415 rfl rfl ?_
      refine vr_iconst 1 d_LA_law_416 (by decide) ?_
      refine vr_iadd d_LA_law_417 ?_
      refine vr_sld d_LA_law_418 (hx 1 (by decide)) ?_
      refine mh_callI 7 [.int ((mg_S g).2.2 (nI (6 * k) + 1).toNatClampNeg)] d_LA_law_419 C_LA_54 (c_PR_written e1) hg rfl rfl rfl (Nat.le_of_ble_eq_true rfl) (by decide) (Nat.le_of_ble_eq_true rfl) ?_
      refine vr_aload_n d_LA_law_422 rfl rfl ?_
      refine vr_aload_n d_LA_law_423 rfl rfl ?_
      refine vr_iload_n d_LA_law_424 rfl rfl ?_
      refine vr_iconst 1 d_LA_law_425 (by decide) ?_
      refine vr_iadd d_LA_law_426 ?_
      refine vr_sld d_LA_law_427 (hx 1 (by decide)) ?_
      refine lw_callR [.int ((mg_S g).2.2 (nI (6 * k) + 1).toNatClampNeg)] hR d_LA_law_428 C_LA_57 (c_RM_written hR.1 e2) rfl rfl rfl (Nat.le_of_ble_eq_true rfl) (by decide) (Nat.le_of_ble_eq_true rfl) ?_
      refine vr_icmp_eq (tgt := 462) d_LA_law_431 (by decide) (fun _ => ?_) (fun z => absurd rfl z)
      exact next _ _ _ hI2
    by_cases c10 : op = 10
    · refine vr_tableIn (tgt := 436) (off := 403) d_LA_law_33 (by rw [c10]; decide) (by rw [c10]; decide) (by rw [c10]; rfl) (by decide) ?_
      obtain ⟨v, s1, c, n, S, S', e1, hc, hs, hR, e2, hI2⟩ := aAGAIN  k cb sb σ hk5 hI
      refine vr_aload_n d_LA_law_436 rfl rfl ?_
      refine mh_callIa 7 [] d_LA_law_437 C_LA_58 (c_PR_again e1) hg rfl rfl rfl (Nat.le_of_ble_eq_true rfl) (by decide) (Nat.le_of_ble_eq_true rfl) hc hs ?_
      refine vr_aload_n d_LA_law_440 rfl rfl ?_
      refine lw_callR [] hR d_LA_law_441 C_LA_61 (c_RM_again hR.1 e2) rfl rfl rfl (Nat.le_of_ble_eq_true rfl) (by decide) (Nat.le_of_ble_eq_true rfl) ?_
      refine vr_icmp_eq (tgt := 462) d_LA_law_444 (by decide) (fun _ => ?_) (fun z => absurd rfl z)
      exact next _ _ _ hI2
    by_cases c11 : op = 11
    · refine vr_tableIn (tgt := 449) (off := 416) d_LA_law_33 (by rw [c11]; decide) (by rw [c11]; decide) (by rw [c11]; rfl) (by decide) ?_
      obtain ⟨v, s1, S, S', e1, hR, e2, hI2⟩ := aSAME  k cb sb σ hk5 hI
      refine vr_aload_n d_LA_law_449 rfl rfl ?_
      refine mh_callI 7 [] d_LA_law_450 C_LA_62 (c_PR_same e1) hg rfl rfl rfl (Nat.le_of_ble_eq_true rfl) (by decide) (Nat.le_of_ble_eq_true rfl) ?_
      refine vr_aload_n d_LA_law_453 rfl rfl ?_
      refine lw_callR [] hR d_LA_law_454 C_LA_66 (c_RM_same hR.1 e2) rfl rfl rfl (Nat.le_of_ble_eq_true rfl) (by decide) (Nat.le_of_ble_eq_true rfl) ?_
      refine vr_icmp_eq (tgt := 462) d_LA_law_457 (by decide) (fun _ => ?_) (fun z => absurd rfl z)
      exact next _ _ _ hI2
    refine vr_tableOut (tgt := 462) d_LA_law_33 (by have u0 : ¬ op.toInt = 0 := l_nk c0 rfl; have u1 : ¬ op.toInt = 1 := l_nk c1 rfl; have u2 : ¬ op.toInt = 2 := l_nk c2 rfl; have u3 : ¬ op.toInt = 3 := l_nk c3 rfl; have u4 : ¬ op.toInt = 4 := l_nk c4 rfl; have u5 : ¬ op.toInt = 5 := l_nk c5 rfl; have u6 : ¬ op.toInt = 6 := l_nk c6 rfl; have u7 : ¬ op.toInt = 7 := l_nk c7 rfl; have u8 : ¬ op.toInt = 8 := l_nk c8 rfl; have u9 : ¬ op.toInt = 9 := l_nk c9 rfl; have u10 : ¬ op.toInt = 10 := l_nk c10 rfl; have u11 : ¬ op.toInt = 11 := l_nk c11 rfl; omega) (by decide) ?_
    exact next _ _ _ (hskip _ _ _ _ hI)

/-- the law from its entry -/
theorem lw_entry {g : mv_G} (hl : (mg_l g).stackTraces = false) {N : Nat} {σ : mh_H} {cb sb : Nat} (hN : (mg_S g).2.1 ≤ 3072)
    (h : ∃ (s1 : mh_H) (c1 n1 : Nat) (s2 : mh_H) (c2 n2 : Nat) (I : Nat → Nat → Nat → mh_H → Prop), f_PR_init N (hX σ) (mh_new σ 7) = some (s1, c1, n1) ∧ f_RM_init N (mg_K g) (hX s1) (mh_new s1 8) = some (s2, c2, n2) ∧ c1 + c2 + 2 ≤ cb ∧ n1 + n2 + 41 ≤ sb ∧ I 0 (cb - (c1 + c2 + 2)) (sb - (n1 + n2 + 41)) s2 ∧ lw_all g N (hX σ) (hX s1) I) :
    mv_V g M_LA_law 2048 84000 cb sb 0 [some (.ref (mg_S g).1), none, none, none] [] σ (fun oc _ => oc = .returned (some (.int 1))) := by
  obtain ⟨s1, c1, n1, s2, c2, n2, I, e1, e2, hc, hs, hI, A⟩ := h
  refine vr_new (k := 7) d_LA_law_0 rfl w_21 w_22 w_1 (by omega) (by show 9 ≤ sb; omega) df_7 ?_
  refine vr_dup d_LA_law_3 rfl ?_
  refine mh_callN [] d_LA_law_4 C_LA_9 (c_PR_init e1) rfl rfl (Nat.le_of_ble_eq_true rfl) (by decide) (Nat.le_of_ble_eq_true rfl) (by show c1 ≤ cb - 1; omega) (by show n1 ≤ sb - 9; omega) ?_
  refine vr_astore_n (L' := [some (.ref (mg_S g).1), some (.ref (hX σ)), none, none]) d_LA_law_7 rfl (by decide) rfl ?_
  refine vr_new (k := 8) d_LA_law_8 rfl w_891 w_892 w_10 (by show 1 ≤ cb - 1 - c1; omega) (by show 32 ≤ sb - 9 - n1; omega) df_8 ?_
  refine vr_dup d_LA_law_11 rfl ?_
  refine mh_callN [] d_LA_law_12 C_LA_12 (c_RM_init e2) rfl rfl (Nat.le_of_ble_eq_true rfl) (by decide) (Nat.le_of_ble_eq_true rfl) (by show c2 ≤ cb - 1 - c1 - 1; omega) (by show n2 ≤ sb - 9 - n1 - 32; omega) ?_
  refine vr_astore_n (L' := [some (.ref (mg_S g).1), some (.ref (hX σ)), some (.ref (hX s1)), none]) d_LA_law_15 rfl (by decide) rfl ?_
  refine vr_iconst 0 d_LA_law_16 (by decide) ?_
  refine vr_istore_n (L' := [some (.ref (mg_S g).1), some (.ref (hX σ)), some (.ref (hX s1)), some (.int 0)]) d_LA_law_17 rfl (by decide) rfl ?_
  have k := lw_loop hl hN A 513 0 _ _ s2 rfl hI
  have ec : cb - (c1 + c2 + 2) = cb - 1 - c1 - 1 - c2 := by omega
  have es : sb - (n1 + n2 + 41) = sb - 9 - n1 - 32 - n2 := by omega
  rw [ec, es] at k
  exact k

