/-! both loops over functions -/
section LOOPS
variable {σ : mh_H} {ap dd tt bk bp bv dk dp dv dz n room : Nat} {tk tp ln : Nat → Nat} {tv : Nat → Int32} {N t z lc lr : Nat} {bt : Nat → Int32} {nt : List (List Int32)}
/-- how the class's parse ends -/
def PF (σ : mh_H) (ap dd dk dp dv dz : Nat) (σ' : mh_H) (F : Fo) (c m : Nat) : Prop :=
  (c = 0 ∧ m = 0 ∧ ∃ q, σ' = pz σ ap dd dk dp dv dz q (post F ++ [TXE F])) ∨ (c = 1 ∧ m = 6 ∧ ∃ q x, σ' = pz (mh_new (pz σ ap dd dk dp dv dz q (post F ++ x)) 9) ap dd dk dp dv dz q (post F ++ [TXE F]))
/-- how the reference's read ends -/
def RF (S S' : rm_S) (t z : Nat) (F : Fo) (nt : List (List Int32)) : Prop :=
  TR S' t z (txt F) ∧ NT S'.2 nt ∧ S'.1 31 = nI nt.length ∧ S'.1 2 = 0 ∧ (∀ x, x ≠ 2 → x ≠ 12 → x ≠ 13 → x ≠ 14 → x ≠ 21 → x ≠ 31 → S'.1 x = S.1 x) ∧ (∀ o, o < 7 → S'.2 o = S.2 o) ∧ (∀ o x, 14 ≤ o → o ≤ 18 → (x < z ∨ z + 13000 ≤ x) → S'.2 o x = S.2 o x) ∧ (∀ x, x ≠ t → S'.2 19 x = S.2 19 x)
theorem read_loop (h : PE σ ap dd tt bk bp bv dk dp dv dz n room tk tp tv) (A : AD σ ap dd tt bk bp bv dk dp dv dz) (hn : n ≤ 8001) (hNN : 20000 ≤ N) (ht : t ≤ 1) (hz : z = 13000 * t) (hlc : 249 ≤ lc) (hlr : 249 ≤ lr) (hcap : Cap n tk tp (fun j => wd bt (tp j) (ln j)) nt) :
    ∀ m q F dr B i fu fu' S, n - q ≤ m → m < fu → m < fu' → q < n → gd tk q → RP S n tk tp ln tv → S.2 1 = bt → TR S t z (txt (res (fun j => wd bt (tp j) (ln j)) F nt).1) → NT S.2 (res (fun j => wd bt (tp j) (ln j)) F nt).2 → S.1 31 = nI (res (fun j => wd bt (tp j) (ln j)) F nt).2.length → wf n tk tp F → 2 * siz F ≤ 3 * q → hgt F ≤ 307 → i ≤ q → (i = 0 ∨ tk q ≠ 0) → BI 0 B →
    ∃ F' flt c k σ' S', k_PA_parse_29 N (pa_function N lc) fu ap (-1) (nI (siz F)) (nI i) (pz σ ap dd dk dp dv dz q (post F)) = some ((flt, σ'), c, k) ∧ k_RM_read_66 N (rp_function N lr) fu' (nI t) (qz S q 0 (-1) dr B) = some (flt, S') ∧ PF σ ap dd dk dp dv dz σ' F' c k ∧ RF S S' t z (res (fun j => wd bt (tp j) (ln j)) F' nt).1 (res (fun j => wd bt (tp j) (ln j)) F' nt).2 ∧ wf n tk tp F' ∧ hgt F' ≤ 307 ∧ 2 * siz F' ≤ 3 * n := by
  have hroom : 2 * n < room := by obtain ⟨⟨a1, a2, a3⟩, ⟨a4, a5, a6, a7, a8, a9, a10⟩, ⟨c1, c2⟩, ⟨c4, c5, c6⟩, ⟨c7, c8, c9, c10⟩, -, ⟨e5, e6, e7⟩, e8, -, -, -, -, e9, e10, e11, e12, e13⟩ := h; exact e12
  have he13 : ∀ i, i < n → tk i ≠ 0 → i + 1 < n := by obtain ⟨⟨a1, a2, a3⟩, ⟨a4, a5, a6, a7, a8, a9, a10⟩, ⟨c1, c2⟩, ⟨c4, c5, c6⟩, ⟨c7, c8, c9, c10⟩, -, ⟨e5, e6, e7⟩, e8, -, -, -, -, e9, e10, e11, e12, e13⟩ := h; exact e13
  have hcls : ∀ {q i fu : Nat} {F : Fo}, q < n → i < n → (i = 0 ∨ tk q ≠ 0) → k_PA_parse_29 N (pa_function N lc) (fu + 1) ap (-1) (nI (siz F)) (nI i) (pz σ ap dd dk dp dv dz q (post F)) = k_PA_parse_53 N (pa_function N lc) (k_PA_parse_29 N (pa_function N lc) fu) ap (-1) (nI (siz F)) (nI i) (pz σ ap dd dk dp dv dz q (post F)) := by
    intro q i fu F hq hi h0
    have hcn := p_cnt (q := q) (ds := post F) h hi
    have hia : tk q ≠ 0 → f_PA_isAt N ap 0 0 (pz σ ap dd dk dp dv dz q (post F)) = some (0, pz σ ap dd dk dp dv dz q (post F)) := fun hx => by
      have := p_isAt (N := N) (q := q) (b := 0) (c := 0) (ds := post F) h hq (by omega) (by omega)
      rw [if_neg (by omega)] at this; exact this
    have hn1 : n < 10000 := by obtain ⟨⟨a1, a2, a3⟩, ⟨a4, a5, a6, a7, a8, a9, a10⟩, ⟨c1, c2⟩, ⟨c4, c5, c6⟩, ⟨c7, c8, c9, c10⟩, -, ⟨e5, e6, e7⟩, e8, -, -, -, -, e9, e10, e11, e12, e13⟩ := h; exact e10
    obtain ⟨⟨a1, a2, a3⟩, ⟨a4, a5, a6, a7, a8, a9, a10⟩, ⟨c1, c2⟩, ⟨c4, c5, c6⟩, ⟨c7, c8, c9, c10⟩, -, ⟨e5, e6, e7⟩, e8, -, -, -, -, e9, e10, e11, e12, e13⟩ := h
    conv => lhs; unfold k_PA_parse_29
    refine X_chk a1 (X_rfO c1 (X_chk a3 (X_nif hcn ?_)))
    by_cases hi0 : i = 0
    · subst hi0; exact X_if rfl rfl
    · have h0 := h0.resolve_left hi0
      refine X_nif ?_ (X_I (hia h0) (X_if rfl rfl))
      show ¬ nI i = nI 0
      rw [n_eq (by omega) (by omega)]; exact hi0
  intro m
  induction m with
  | zero => intro q F dr B i fu fu' S h1 _ _ h2; omega
  | succ m ih =>
    intro q F dr B i fu fu' S h1 hfu hfu' hq hg R hbt hT hNT h31 hwF hsF hhF hiq h0 hBI
    obtain ⟨fu, rfl⟩ : ∃ x, fu = x + 1 := ⟨fu - 1, by omega⟩
    obtain ⟨fu', rfl⟩ : ∃ x, fu' = x + 1 := ⟨fu' - 1, by omega⟩
    have hE : EN σ ap dd tt bk bp bv dk dp dv dz n room tk tp tv S N := ⟨h, RP_RE R hn hNN, hn, hNN⟩
    have hpl := post_len F
    rw [hcls hq (by omega) h0]
    rcases sim_fun hE hlc hlr (flt := -1) (q := q) (ds := post F) (dr := 0) (B := B) ⟨⟨hq, hg⟩, by omega, by omega, hBI⟩ with ⟨q', i', k', p', v', c', dr', B', x1, x2, x3⟩ | ⟨q', y, x1, ⟨v, dr', B', x2, x3, x4, x5, x6⟩, x7, x8⟩
    · have hst := ref_step (N := N) (t := t) (z := z) (lr := lr) (dr := dr) (fu := fu') (nt := nt) (F := F) ht hz hn hNN R (by rw [hbt]; exact hT) (by rw [hbt]; exact hNT) (by rw [hbt]; exact h31) (by rw [hbt]; exact hcap) hwF hsF x2 x3
      rw [hbt] at hst
      obtain ⟨S4, B4, s0, s1, s2, s3, s4, s5, s6, s7, s8⟩ := hst
      obtain ⟨⟨y1, y2, y3⟩, yK, y5, -, yB, ⟨y6, y7, y8⟩, y9, y10⟩ := x3
      have hw : wf n tk tp (app F (one i' k' p' v' c')) := wf_app hwF y9
      have hsz : siz (app F (one i' k' p' v' c')) = siz F + (siz c' + 1) := by rw [siz_app]; simp [siz]
      have hhg : hgt (app F (one i' k' p' v' c')) ≤ 307 := by rw [hgt_app]; omega
      have hpa : post F ++ post (one i' k' p' v' c') = post (app F (one i' k' p' v' c')) := (post_app _ _).symm
      have R4 : RP S4 n tk tp ln tv := RP_set R s3
      have e67 : k_PA_parse_53 N (pa_function N lc) (k_PA_parse_29 N (pa_function N lc) fu) ap (-1) (nI (siz F)) (nI i) (pz σ ap dd dk dp dv dz q (post F)) = k_PA_parse_29 N (pa_function N lc) fu ap (-1) (nI (siz (app F (one i' k' p' v' c')))) (nI (i + 1)) (pz σ ap dd dk dp dv dz q' (post (app F (one i' k' p' v' c')))) := by
        have h14 : hI (pz σ ap dd dk dp dv dz q' (post (app F (one i' k' p' v' c')))) 1 4 dd = nI (siz (app F (one i' k' p' v' c'))) := by rw [pz_14, post_len]
        rw [hpa] at x1
        have ei : nI i + 1 = nI (i + 1) := n_add i 1
        obtain ⟨⟨a1, a2, a3⟩, ⟨a4, a5, a6, a7, a8, a9, a10⟩, ⟨c1, c2⟩, ⟨c4, c5, c6⟩, ⟨c7, c8, c9, c10⟩, -, ⟨e5, e6, e7⟩, e8, -, -, -, -, e9, e10, e11, e12, e13⟩ := h
        unfold k_PA_parse_53
        refine X_chk a1 (X_Cf x1 (X_chk a1 (X_rfO c2 (X_chk a2 (X_bndE h14 ?_)))))
        rw [ei]
      rw [e67, s1]
      have hlook : f_RM_look N S4 = some (kap (tk q'), S4) := by
        have := q_look0 (S := S4) (N := N) (q := q') (flt := -1) (dr := dr') (B := B4) (by omega)
        rw [← s0, (R4 q' y2 y3).1] at this; exact this
      by_cases hend : tk q' = 0
      · obtain ⟨fu, rfl⟩ : ∃ x, fu = x + 1 := ⟨fu - 1, by omega⟩
        refine ⟨app F (one i' k' p' v' c'), -1, 0, 0, pz σ ap dd dk dp dv dz q' (post (app F (one i' k' p' v' c')) ++ [TXE (app F (one i' k' p' v' c'))]), rs_i S4 2 0, ?_, ?_, Or.inl ⟨rfl, rfl, q', rfl⟩, ⟨?_, ?_, ?_, ?_, ?_, ?_, ?_, ?_⟩, hw, hhg, by omega⟩
        · have hcn := p_cnt (q := q') (o := i + 1) (ds := post (app F (one i' k' p' v' c'))) h (by omega)
          have hia : f_PA_isAt N ap 0 0 (pz σ ap dd dk dp dv dz q' (post (app F (one i' k' p' v' c')))) = some (1, pz σ ap dd dk dp dv dz q' (post (app F (one i' k' p' v' c')))) := by
            have := p_isAt (N := N) (q := q') (b := 0) (c := 0) (ds := post (app F (one i' k' p' v' c'))) h y2 (by omega) (by omega)
            rw [if_pos (by omega)] at this; exact this
          have hpe := parse_end (N := N) (pf := pa_function N lc) (q := q') (flt := -1) (F := app F (one i' k' p' v' c')) h (by omega)
          have hn1 : n < 10000 := by obtain ⟨⟨a1, a2, a3⟩, ⟨a4, a5, a6, a7, a8, a9, a10⟩, ⟨c1, c2⟩, ⟨c4, c5, c6⟩, ⟨c7, c8, c9, c10⟩, -, ⟨e5, e6, e7⟩, e8, -, -, -, -, e9, e10, e11, e12, e13⟩ := h; exact e10
          obtain ⟨⟨a1, a2, a3⟩, ⟨a4, a5, a6, a7, a8, a9, a10⟩, ⟨c1, c2⟩, ⟨c4, c5, c6⟩, ⟨c7, c8, c9, c10⟩, -, ⟨e5, e6, e7⟩, e8, -, -, -, -, e9, e10, e11, e12, e13⟩ := h
          conv => lhs; unfold k_PA_parse_29
          refine X_chk a1 (X_rfO c1 (X_chk a3 (X_nif hcn (X_nif ?_ (X_I hia (X_nif n10 hpe))))))
          show ¬ nI (i + 1) = nI 0
          rw [n_eq (by omega) (by omega)]; omega
        · have h14 : (rs_i S4 2 0).1 14 = -1 := by
            rw [rs_i1, if_neg (by omega), s2 14 (by omega) (by omega) (by omega)]; rfl
          unfold k_RM_read_89
          refine X_I hlook (X_if ?_ (X_bndE h14 rfl))
          rw [hend]; rfl
        · exact TR_ext s6 (fun _ _ _ => rfl)
        · exact NT_ext s7 rfl rfl
        · rw [rs_i1, if_neg (by omega)]; exact s8
        · rw [rs_i1, if_pos rfl]
        · intro x g1 g2 g3 g4 g5 g6
          rw [rs_i1, if_neg g1, s2 x g6 g2 g5, qz_o ⟨g2, g3, g4, g5⟩]
        · intro o ho; exact s3 o ho
        · intro o x g1 g2 g3; exact s4 o x g1 g2 g3
        · intro x hx; exact s5 x hx
      · have hk0 : ¬ kap (tk q') = 0 := by
          have ht35 : tk q' < 35 := by obtain ⟨⟨a1, a2, a3⟩, ⟨a4, a5, a6, a7, a8, a9, a10⟩, ⟨c1, c2⟩, ⟨c4, c5, c6⟩, ⟨c7, c8, c9, c10⟩, -, ⟨e5, e6, e7⟩, e8, -, -, -, -, e9, e10, e11, e12, e13⟩ := h; exact (e9 q' y2).2.2.2
          show ¬ kap (tk q') = nI 0
          rw [kp_0 ht35]; exact hend
        have e89 : k_RM_read_89 N (rp_function N lr) (k_RM_read_66 N (rp_function N lr) fu') (nI t) S4 = k_RM_read_66 N (rp_function N lr) fu' (nI t) S4 := by
          have h13 : S4.1 13 = 0 := by rw [s2 13 (by omega) (by omega) (by omega)]; rfl
          unfold k_RM_read_89
          exact X_I hlook (X_nif hk0 (X_if h13 rfl))
        rw [e89]
        have hi1 := ih q' (app F (one i' k' p' v' c')) dr' B4 (i + 1) fu fu' S4 (by omega) (by omega) (by omega) y2 y3 R4 (by rw [s3 1 (by omega)]; exact hbt) s6 s7 s8 hw (by omega) hhg (by omega) (Or.inr hend) (fun i hi => by omega)
        rw [← s0] at hi1
        obtain ⟨F', flt, c, k, σ', S', z1, z2, z3, ⟨w1, w2, w3, w4, w5, w6, w7, w8⟩, z5, z6, z7⟩ := hi1
        refine ⟨F', flt, c, k, σ', S', z1, z2, z3, ⟨w1, w2, w3, w4, ?_, ?_, ?_, ?_⟩, z5, z6, z7⟩
        · intro x g1 g2 g3 g4 g5 g6
          rw [w5 x g1 g2 g3 g4 g5 g6, s2 x g6 g2 g5, qz_o ⟨g2, g3, g4, g5⟩]
        · intro o ho; rw [w6 o ho, s3 o ho]
        · intro o x g1 g2 g3; rw [w7 o x g1 g2 g3, s4 o x g1 g2 g3]
        · intro x hx; rw [w8 x hx, s5 x hx]
    · have hcc := parse_caught (N := N) (pf := pa_function N lc) (k40 := k_PA_parse_29 N (pa_function N lc) fu) (F := F) (y1 := -1) (y3 := nI i) A h (by omega) x7 x1
      refine ⟨F, nI (tp q'), 1, 6, _, rs_i (qz S q' 1 (nI (tp q')) dr' B') 2 0, hcc, ?_, Or.inr ⟨rfl, rfl, q', y, rfl⟩, ⟨?_, ?_, ?_, ?_, ?_, ?_, ?_, ?_⟩, hwF, hhF, by omega⟩
      · have e0 : rs_i (qz S q 0 (-1) dr B) 21 0 = qz S q 0 (-1) 0 B := qz_s21 rfl
        conv => lhs; unfold k_RM_read_66
        rw [e0]
        refine X_I x2 (X_nif n10 ?_)
        unfold k_RM_read_89
        exact X_I q_look1 (X_nif n10 (X_nif n10 (X_bnd rfl)))
      · exact TR_ext (TR_qz (q := q') (bad := 1) (flt := nI (tp q')) (dr := dr') (B := B') hT) (fun _ _ _ => rfl)
      · exact NT_ext (NT_qz (q := q') (bad := 1) (flt := nI (tp q')) (dr := dr') (B := B') hNT) rfl rfl
      · rw [rs_i1, if_neg (by omega), qz_o (by omega)]; exact h31
      · rw [rs_i1, if_pos rfl]
      · intro x g1 g2 g3 g4 g5 g6
        rw [rs_i1, if_neg g1, qz_o ⟨g2, g3, g4, g5⟩]
      · intro o ho; exact qz_a (q := q') (bad := 1) (flt := nI (tp q')) (dr := dr') (by omega)
      · intro o x g1 g2 g3
        show (qz S q' 1 (nI (tp q')) dr' B').2 o x = _
        rw [qz_a (by omega)]
      · intro x hx
        show (qz S q' 1 (nI (tp q')) dr' B').2 19 x = _
        rw [qz_a (by omega)]
end LOOPS
