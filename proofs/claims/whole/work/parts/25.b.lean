/-! what both answer: the same tree, or the same fault -/
def kls : Fo → List Nat
  | .leaf => []
  | .inner _ x _ _ n => x.1 :: kls n
def hgt : Fo → Nat
  | .leaf => 0
  | .inner _ _ _ c n => max (hgt c + 1) (hgt n)
/-- which kinds the parts of a kind may have -/
def okk (k : Nat) (l : List Nat) : Prop :=
  if k = 1 then ∃ m, l = 13 :: (List.replicate m 13 ++ [2])
  else if k = 2 then True
  else if k = 3 then l.length = 1 ∨ l.length = 2
  else if k = 4 ∨ k = 5 ∨ k = 9 ∨ k = 14 ∨ (27 ≤ k ∧ k ≤ 32) then l.length = 2
  else if k = 6 then l.length = 3
  else if k = 7 then 2 ≤ l.length
  else if k = 8 then l.length = 2 ∨ l.length = 3
  else if k = 10 ∨ k = 11 ∨ k = 15 ∨ k = 18 ∨ k = 19 ∨ k = 21 ∨ k = 22 ∨ k = 23 ∨ k = 26 then l.length = 1
  else if k = 12 ∨ k = 13 ∨ k = 33 then l = []
  else if k = 16 then l = [] ∨ l = [12, 12]
  else if k = 17 then ∃ a m, l = a :: m ∧ m ≠ [] ∧ ∀ x ∈ m, x = 18 ∨ x = 19
  else if k = 20 then ∃ a m, l = a :: m ∧ m ≠ [] ∧ ∀ x ∈ m, x = 21 ∨ x = 22 ∨ x = 23
  else if k = 24 ∨ k = 25 then 2 ≤ l.length
  else False
def wf (n : Nat) (tk tp : Nat → Nat) : Fo → Prop
  | .leaf => True
  | .inner _ x _ c m => okk x.1 (kls c) ∧ ((x.1 = 13 → ∃ j, j < n ∧ gd tk j ∧ tk j = 2 ∧ x.2.2 = nI j ∧ x.2.1 = tp j) ∧ (x.1 = 12 → x.2.2 ≠ -2147483648)) ∧ (x.2.1 < 10000 ∧ siz c < 20000) ∧ wf n tk tp c ∧ wf n tk tp m
theorem kls_app (f g : Fo) : kls (app f g) = kls f ++ kls g := by
  induction f with
  | leaf => rfl
  | inner i x u c m _ ih => simp only [app, kls, ih, List.cons_append]
theorem hgt_app (f g : Fo) : hgt (app f g) = max (hgt f) (hgt g) := by
  induction f with
  | leaf => simp [app, hgt]
  | inner i x u c m _ ih => simp only [app, hgt, ih]; omega
theorem wf_app {n : Nat} {tk tp : Nat → Nat} {f g : Fo} (hf : wf n tk tp f) (hg : wf n tk tp g) : wf n tk tp (app f g) := by
  induction f with
  | leaf => exact hg
  | inner i x u c m _ ih => exact ⟨hf.1, hf.2.1, hf.2.2.1, hf.2.2.2.1, ih hf.2.2.2.2⟩
def EN (σ : mh_H) (ap dd tt bk bp bv dk dp dv dz n room : Nat) (tk tp : Nat → Nat) (tv : Nat → Int32) (S : rm_S) (N : Nat) : Prop := PE σ ap dd tt bk bp bv dk dp dv dz n room tk tp tv ∧ RE S N n tk tp tv ∧ n ≤ 8001 ∧ 20000 ≤ N
def Inp (n : Nat) (tk : Nat → Nat) (q : Nat) (ds : List Ent) (dr : Nat) (B : Nat → Nat → Int32) : Prop := (q < n ∧ gd tk q) ∧ ds.length ≤ 2 * q ∧ dr ≤ 2 * q ∧ BI dr B
/-- a tree, drafted anew -/
def New (n : Nat) (tk tp : Nat → Nat) (q0 dr0 : Nat) (B0 : Nat → Nat → Int32) (hm q i k p : Nat) (v : Int32) (c : Fo) (dr : Nat) (B : Nat → Nat → Int32) : Prop :=
  (q0 < q ∧ q < n ∧ gd tk q) ∧ KS B i k p v c ∧ (∀ j ∈ i :: nds c, dr0 ≤ j ∧ j < dr) ∧ (∀ o j, j < dr0 → B o j = B0 o j) ∧ BI dr B ∧ (dr ≤ dr0 + 2 * (q - q0) ∧ 2 * siz c + 3 ≤ 3 * (q - q0) ∧ dr0 ≤ dr) ∧ wf n tk tp (one i k p v c) ∧ hgt (one i k p v c) ≤ hm
def Out (σ : mh_H) (ap dd dk dp dv dz n : Nat) (tk tp : Nat → Nat) (S : rm_S) (flt : Int32) (q0 : Nat) (ds : List Ent) (dr0 : Nat) (B0 : Nat → Nat → Int32) (lim hm : Nat) (rc : Option (Bool × Int32 × mh_H)) (rr : Option (Int32 × rm_S)) : Prop :=
  (∃ q i k p v c dr B, rc = some (false, 0, pz σ ap dd dk dp dv dz q (ds ++ post (one i k p v c))) ∧ rr = some (nI i, qz S q 0 flt dr B) ∧ New n tk tp q0 dr0 B0 hm q i k p v c dr B) ∨
  (∃ q x, rc = some (true, 0, mh_new (pz σ ap dd dk dp dv dz q (ds ++ x)) 9) ∧ BM S q (nI (tp q)) dr0 lim rr ∧ q < n ∧ gd tk q)
def Sim (σ : mh_H) (ap dd dk dp dv dz n : Nat) (tk tp : Nat → Nat) (S : rm_S) (d lim hm : Nat) (fC : Nat → Int32 → mh_H → Option (Bool × Int32 × mh_H)) (fR : Int32 → rm_S → Option (Int32 × rm_S)) : Prop :=
  ∀ flt q ds dr B, Inp n tk q ds dr B → Out σ ap dd dk dp dv dz n tk tp S flt q ds dr B lim hm (fC ap (nI d) (pz σ ap dd dk dp dv dz q ds)) (fR (nI d) (qz S q 0 flt dr B))
theorem KS_old {B B' : Nat → Nat → Int32} {s k p dr : Nat} {v : Int32} {f : Fo} (hs : ∀ j ∈ s :: nds f, j < dr) (hB : ∀ o j, j < dr → B' o j = B o j) (h : KS B s k p v f) : KS B' s k p v f := KS_set (fun j hj o => hB o j (hs j hj)) h
theorem bd_o {B : Nat → Nat → Int32} {dr : Nat} {k p v : Int32} : ∀ o j, j < dr → bd B dr k p v o j = B o j := by
  intro o j hj
  have : j ≠ dr := by omega
  simp [bd, this]
theorem post_one (i k p : Nat) (v : Int32) (c : Fo) : post (one i k p v c) = post c ++ [(nI k, nI p, if k = 13 then 0 else v, nI (siz c + 1))] := rfl
theorem fin_eq (ds : List Ent) (s k p : Nat) (f : Fo) : ds ++ post f ++ [(nI k, nI p, (0 : Int32), nI ((ds ++ post f).length - ds.length + 1))] = ds ++ post (one s k p 0 f) := by
  rw [post_one, List.append_assoc, List.length_append, post_len]
  have e : ds.length + siz f - ds.length + 1 = siz f + 1 := by omega
  rw [e]; simp
section SIMTERM
variable {σ : mh_H} {ap dd tt bk bp bv dk dp dv dz n room : Nat} {tk tp : Nat → Nat} {tv : Nat → Int32} {S : rm_S} {N : Nat}
theorem loop_term {d lim hm : Nat} {pf : Nat → Int32 → mh_H → Option (Bool × Int32 × mh_H)} {rf : Int32 → rm_S → Option (Int32 × rm_S)} (E : EN σ ap dd tt bk bp bv dk dp dv dz n room tk tp tv S N) (hS : Sim σ ap dd dk dp dv dz n tk tp S d lim hm pf rf) (hl : lim < 26000) {flt : Int32} {q0 dr0 s p : Nat} {ds0 : List Ent} {B0 : Nat → Nat → Int32} (h0 : q0 < n ∧ ds0.length ≤ 2 * q0 ∧ dr0 ≤ 2 * q0) (hp : p < 10000) :
    ∀ m q f o dr B fu fu', n - q ≤ m → m < fu → m < fu' → q0 < q → q < n → gd tk q → KS B s 20 p 0 f → f ≠ .leaf → (∀ j ∈ s :: nds f, dr0 ≤ j ∧ j < dr) → (∀ o j, j < dr0 → B o j = B0 o j) → BI dr B → (dr + o ≤ dr0 + 2 * (q - q0) + 1 ∧ 2 * siz f + 2 * o + 1 ≤ 3 * (q - q0) ∧ o + q0 ≤ q) → wf n tk tp f → hgt f ≤ hm + 1 → (∃ a l, kls f = a :: l ∧ l.length = o ∧ ∀ x ∈ l, x = 21 ∨ x = 22 ∨ x = 23) → (0 < o ∨ (24 ≤ tk q ∧ tk q ≤ 26)) →
    Out σ ap dd dk dp dv dz n tk tp S flt q0 ds0 dr0 B0 lim (hm + 2) (k_PA_term_24 N pf fu ap (nI d) (nI ds0.length) (nI p) (nI o) (pz σ ap dd dk dp dv dz q (ds0 ++ post f))) (k_RM_term_55 N rf fu' (nI d) (nI s) (qz S q 0 flt dr B)) := by
  obtain ⟨h, R, hn, hNN⟩ := E
  intro m
  induction m with
  | zero => intro q f o dr B fu fu' h1 _ _ _ h2; omega
  | succ m ih =>
    intro q f o dr B fu fu' h1 hfu hfu' hq0 hq hg hK hf hnd hB hI ⟨hdr, hsz, hoq⟩ hw hh hk ho
    obtain ⟨r1, r2, r3, r4⟩ := R q hq hg
    have hq2 : q < 8002 := by omega
    obtain ⟨fu, rfl⟩ : ∃ x, fu = x + 1 := ⟨fu - 1, by omega⟩
    obtain ⟨fu', rfl⟩ : ∃ x, fu' = x + 1 := ⟨fu' - 1, by omega⟩
    have hlen : (ds0 ++ post f).length = ds0.length + siz f := by rw [List.length_append, post_len]
    have h0' := h
    have hka := p_ka (N := N) (q := q) (ds := ds0 ++ post f) h hq
    have hpa := p_pa (N := N) (q := q) (ds := ds0 ++ post f) h hq
    have htake := p_take (N := N) (j := tk q) (ds := ds0 ++ post f) h hq
    have hfin := fun (k p : Int32) (b q' : Nat) (ds : List Ent) => p_finish (N := N) (k := k) (p := p) (b := b) (q := q') (ds := ds) h
    have hlook := q_look0 (S := S) (N := N) (flt := flt) (dr := dr) (B := B) hq2
    have he13 : ∀ i, i < n → tk i ≠ 0 → i + 1 < n := by obtain ⟨⟨a1, a2, a3⟩, ⟨a4, a5, a6, a7, a8, a9, a10⟩, ⟨c1, c2⟩, ⟨c4, c5, c6⟩, ⟨c7, c8, c9, c10⟩, -, ⟨e5, e6, e7⟩, e8, -, -, -, -, e9, e10, e11, e12, e13⟩ := h; exact e13
    obtain ⟨⟨a1, a2, a3⟩, ⟨a4, a5, a6, a7, a8, a9, a10⟩, ⟨c1, c2⟩, ⟨c4, c5, c6⟩, ⟨c7, c8, c9, c10⟩, -, ⟨e5, e6, e7⟩, e8, -, -, -, -, e9, e10, e11, e12, e13⟩ := h
    have ht := (e9 q hq).2.2.2
    have hb1 : q < hN σ bk := by omega
    have hb2 : q < hN σ bp := by omega
    by_cases hs : 24 ≤ tk q ∧ tk q ≤ 26
    · have hq1 := he13 q hq (by omega)
      have hg1 := gd_s hg (by omega) (by omega)
      have e1 : k_RM_term_55 N rf (fu' + 1) (nI d) (nI s) (qz S q 0 flt dr B) = k_RM_term_113 N rf (k_RM_term_55 N rf fu') (nI d) (nI s) (nI (tk q - 3)) (qz S q 0 flt dr B) := by
        have hc : tk q = 24 ∨ tk q = 25 ∨ tk q = 26 := by omega
        simp (disch := omega) only [k_RM_term_55, k_RM_term_82, e_chkT,e_bnd,e_calI,e_calV,e_calP,e_rfO,e_calT,e_calTt, hlook, r1, lit, kp_24, kp_25, kp_26]
        rcases hc with hc | hc | hc <;> simp [hc]
      have e2 : k_RM_term_113 N rf (k_RM_term_55 N rf fu') (nI d) (nI s) (nI (tk q - 3)) (qz S q 0 flt dr B) = calI (rf (nI d) (qz S (q + 1) 0 flt (dr + 1) (bd B dr (nI (tk q - 3)) (nI (tp q)) 0))) fun v17 S17 => k_RM_term_155 N rf (k_RM_term_55 N rf fu') (nI d) (nI s) (nI dr) v17 (nI dr) S17 := by
        have hdf := q_draft (S := S) (N := N) (q := q) (bad := 0) (flt := flt) (B := B) (dr := dr) (k := nI (tk q - 3)) (p := nI (tp q)) (v := 0) (by omega)
        have hlook' := fun B => q_look0 (S := S) (N := N) (flt := flt) (dr := dr + 1) (B := B) hq2
        have htk := fun B k => q_take0 (S := S) (N := N) (k := k) (flt := flt) (dr := dr + 1) (B := B) hq2
        simp only [lit] at hdf
        simp (disch := omega) only [k_RM_term_113, e_chkT,e_bnd,e_calI,e_calV,e_calP,e_rfO,e_calT,e_calTt, lit,n_add,n_le,n_lt,n_eq,n_nat,n_ib, qz_12, qz_13, qz_a, hdf, hlook', htk, r1, r2, hq2, if_true]
      have e3 : k_PA_term_24 N pf (fu + 1) ap (nI d) (nI ds0.length) (nI p) (nI o) (pz σ ap dd dk dp dv dz q (ds0 ++ post f)) = calT (pf ap (nI d) (pz σ ap dd dk dp dv dz (q + 1) (ds0 ++ post f))) fun v28 s28 => chk (hT s28 ap = 7) <| calV (f_PA_finish N ap (nI (tk q - 3)) (nI (tp q)) (nI (ds0 ++ post f).length) s28) fun s30 => k_PA_term_24 N pf fu ap (nI d) (nI ds0.length) (nI p) (nI (o + 1)) s30 := by
        have hin := p_isAt (N := N) (q := q) (b := 24) (c := 26) (ds := ds0 ++ post f) h0' hq (by omega) (by omega)
        rw [if_pos hs] at hin
        rw [if_pos rfl] at htake
        have htake := htake (by omega)
        have e21 : nI (21 + tk q) - nI 24 = nI (tk q - 3) := by rw [n_sub (by omega)]; congr 1; omega
        simp only [lit] at hin htake
        simp (disch := omega) only [k_PA_term_24, e_chkT,e_bnd,e_calI,e_calV,e_calP,e_rfO,e_calT,e_calTt, lit,n_add,n_le,n_lt,n_eq,n_nat,n_ib, pz_T, pz_R, pz_N, pz_33, pz_14, pz_45, a1, a2, a3, c1, c2, e8, hka, hpa, hin, htake, e21]
        rw [if_neg (by omega)]
        simp
      rw [e1, e2, e3]
      have hI1 : Inp n tk (q + 1) (ds0 ++ post f) (dr + 1) (bd B dr (nI (tk q - 3)) (nI (tp q)) 0) := ⟨⟨hq1, hg1⟩, by omega, by omega, BI_new hI⟩
      rcases hS flt (q + 1) (ds0 ++ post f) (dr + 1) (bd B dr (nI (tk q - 3)) (nI (tp q)) 0) hI1 with ⟨q', i', k', p', v', c', dr', B', x1, x2, ⟨x3, x3', x3''⟩, x4, x5, x6, x7, ⟨x8, x9, x10⟩, x11, x12⟩ | ⟨q', y, x1, ⟨v, dr', B', x2, x3, x4, x5, x6⟩, x7, x8⟩
      · rw [x1, x2, e_calI, e_calT, pz_T, e_chk a1, hfin _ _ _ _ _ (by simp only [List.length_append, post_len, siz] at *; omega) (by simp), e_calV, fin_eq _ dr, List.append_assoc, ← post_app]
        have hK1 : KS B' dr (tk q - 3) (tp q) 0 .leaf := KS_old (dr := dr + 1) (by simp [nds]) x6 (KS_new B dr _ _ _ (by omega))
        have hj1 := q_join (S := S) (N := N) (q := q') (bad := 0) (dr := dr') (flt := flt) hK1 x4
        have hK2 := KS_join hK1 x4 (by intro j hj; have := x5 j hj; simp only [nds, List.mem_cons, List.not_mem_nil, or_false]; omega)
        have hKs : KS (bj B' dr .leaf i') s 20 p 0 f := KS_old (dr := dr) (fun j hj => (hnd j hj).2) (fun o j hj => by
          rw [bj_o o j (by simp only [nds, List.mem_cons, List.not_mem_nil, or_false]; omega), x6 o j (by omega), bd_o o j hj]) hK
        have hj2 := q_join (S := S) (N := N) (q := q') (bad := 0) (dr := dr') (flt := flt) hKs hK2
        have hdj : ∀ j ∈ dr :: nds (app .leaf (one i' k' p' v' c')), j ∉ s :: nds f := by
          intro j hj hj'
          have h2 := (hnd j hj').2
          simp only [app, nds, List.append_nil, List.mem_cons] at hj
          rcases hj with rfl | hj
          · omega
          · have := x5 j (by simpa using hj); omega
        have hK3 := KS_join hKs hK2 hdj
        simp only [k_RM_term_155, hj1, hj2, e_calV]
        refine ih q' _ (o + 1) dr' _ fu fu' (by omega) (by omega) (by omega) (by omega) x3' x3'' hK3 ?_ ?_ ?_ ?_ ⟨by omega, ?_, by omega⟩ ?_ ?_ ?_ (Or.inl (by omega))
        · intro e
          have := congrArg siz e
          rw [siz_app] at this; simp [siz] at this
        · intro j hj
          rw [nds_app] at hj
          simp only [app, nds, List.append_nil, List.mem_cons, List.mem_append] at hj
          rcases hj with rfl | hj | rfl | hj
          · have := hnd j (by simp); omega
          · have := hnd j (by simp [hj]); omega
          · have := hnd s (by simp); omega
          · have := x5 j (by simpa using hj); have := hnd s (by simp); omega
        · intro o j hj
          rw [bj_o o j (by intro hj'; have := (hnd j hj').1; omega), bj_o o j (by have := hnd s (by simp); simp only [nds, List.mem_cons, List.not_mem_nil, or_false]; omega), x6 o j (by have := hnd s (by simp); omega), bd_o o j (by have := hnd s (by simp); omega), hB o j hj]
        · exact BI_join (BI_join x7 (x4.2.2.2.2.2.2.2 _ (by simp))) (by omega)
        · rw [siz_app]; simp only [app, siz] at *; omega
        · refine wf_app hw ⟨?_, ?_, ⟨r3, ?_⟩, x11, trivial⟩
          · have hc : tk q = 24 ∨ tk q = 25 ∨ tk q = 26 := by omega
            rcases hc with hc | hc | hc <;> simp [hc, okk, kls, app]
          · refine ⟨?_, ?_⟩ <;> (intro e; simp only at e; omega)
          · simp only [app, siz] at *; omega
        · rw [hgt_app]; simp only [app, hgt] at *; omega
        · obtain ⟨a, l, hk1, hk2, hk3⟩ := hk
          refine ⟨a, l ++ [tk q - 3], by rw [kls_app, hk1]; rfl, by simp [hk2], ?_⟩
          intro x hx
          rcases List.mem_append.mp hx with hx | hx
          · exact hk3 x hx
          · simp at hx; omega
      · rw [x1, x2, e_calI, e_calTt]
        have hsd := hnd s (by simp)
        obtain ⟨B2, y1, y2⟩ := q_joinb (S := S) (N := N) (q := q') (bad := 1) (flt := nI (tp q')) (s := dr) (r := v) x5 (by omega) (by omega) x6
        obtain ⟨B3, y3, y4⟩ := q_joinb (S := S) (N := N) (q := q') (bad := 1) (flt := nI (tp q')) (s := s) (r := nI dr) y2 (by omega) (by omega) (Or.inr ⟨dr, by omega, rfl⟩)
        obtain ⟨fu', rfl⟩ : ∃ x, fu' = x + 1 := ⟨fu' - 1, by omega⟩
        have e4 : k_RM_term_55 N rf (fu' + 1) (nI d) (nI s) (qz S q' 1 (nI (tp q')) dr' B3) = some (nI s, qz S q' 1 (nI (tp q')) dr' B3) := by
          simp [k_RM_term_55, q_look1, e_calI]
        simp only [k_RM_term_155, y1, y3, e_calV, e4]
        exact Or.inr ⟨q', post f ++ y, by rw [List.append_assoc], ⟨nI s, dr', B3, rfl, by omega, x4, y4, Or.inr ⟨s, by omega, rfl⟩⟩, x7, x8⟩
    · have ho' : 0 < o := by omega
      have e1 : k_RM_term_55 N rf (fu' + 1) (nI d) (nI s) (qz S q 0 flt dr B) = some (nI s, qz S q 0 flt dr B) := by
        simp (disch := omega) only [k_RM_term_55, e_chkT,e_bnd,e_calI,e_calV,e_calP,e_rfO,e_calT,e_calTt, hlook, r1, lit, kp_24, kp_25, kp_26]
        rw [if_neg (by omega), if_neg (by omega), if_neg (by omega)]
      have e3 : k_PA_term_24 N pf (fu + 1) ap (nI d) (nI ds0.length) (nI p) (nI o) (pz σ ap dd dk dp dv dz q (ds0 ++ post f)) = some (false, 0, pz σ ap dd dk dp dv dz q (ds0 ++ post (one s 20 p 0 f))) := by
        have hin := p_isAt (N := N) (q := q) (b := 24) (c := 26) (ds := ds0 ++ post f) h0' hq (by omega) (by omega)
        rw [if_neg hs] at hin
        have hf2 := hfin (nI 20) (nI p) ds0.length q (ds0 ++ post f) (by omega) (by omega)
        rw [fin_eq _ s] at hf2
        simp only [lit] at hin hf2
        simp (disch := omega) only [k_PA_term_24, k_PA_term_115, e_chkT,e_bnd,e_calI,e_calV,e_calP,e_rfO,e_calT,e_calTt, lit,n_add,n_le,n_lt,n_eq,n_nat,n_ib, pz_T, pz_R, pz_N, pz_33, pz_14, pz_45, a1, a2, a3, c1, c2, e8, hin, hf2]
        rw [if_neg (by omega)]
        simp
        omega
      rw [e1, e3]
      obtain ⟨a, l, hk1, hk2, hk3⟩ := hk
      refine Or.inl ⟨q, s, 20, p, 0, f, dr, B, rfl, rfl, ⟨hq0, hq, hg⟩, hK, hnd, hB, hI, ⟨by omega, by omega, by have := hnd s (by simp); omega⟩, ⟨?_, by simp, ⟨hp, by omega⟩, hw, trivial⟩, ?_⟩
      · simp only [okk]
        refine ⟨a, l, hk1, ?_, hk3⟩
        rintro rfl; simp at hk2; omega
      · simp only [hgt]; omega
theorem sim_term {d lim hm : Nat} {pf : Nat → Int32 → mh_H → Option (Bool × Int32 × mh_H)} {rf : Int32 → rm_S → Option (Int32 × rm_S)} (E : EN σ ap dd tt bk bp bv dk dp dv dz n room tk tp tv S N) (hS : Sim σ ap dd dk dp dv dz n tk tp S d lim hm pf rf) (hl : lim < 26000) : Sim σ ap dd dk dp dv dz n tk tp S d lim (hm + 2) (f_PA_term N pf) (f_RM_term N rf) := by
  intro flt q ds dr B hI
  have E' := E
  obtain ⟨h, R, hn, hNN⟩ := E
  have hlast := fun (e : Ent) (q' : Nat) (ds : List Ent) => p_last (N := N) (e := e) (q := q') (ds := ds) h
  have h0' := h
  obtain ⟨⟨a1, a2, a3⟩, ⟨a4, a5, a6, a7, a8, a9, a10⟩, ⟨c1, c2⟩, ⟨c4, c5, c6⟩, ⟨c7, c8, c9, c10⟩, -, ⟨e5, e6, e7⟩, e8, -, -, -, -, e9, e10, e11, e12, e13⟩ := h
  have e1 : f_PA_term N pf ap (nI d) (pz σ ap dd dk dp dv dz q ds) = calT (pf ap (nI d) (pz σ ap dd dk dp dv dz q ds)) fun v5 s5 => chk (hT s5 ap = 7) <| rfO (hR s5 3 1 ap) fun b7 => chk (hT s5 b7 = 3) <| calI (f_DR_lastPlace N b7 s5) fun v9 s9 => k_PA_term_24 N pf N ap (nI d) (nI ds.length) v9 0 s9 := by
    simp only [f_PA_term, e_chkT,e_bnd,e_calI,e_calV,e_calP,e_rfO,e_calT,e_calTt, pz_T, pz_R, pz_14, a1, a2, c2]
  rcases hS flt q ds dr B hI with ⟨q', i', k', p', v', c', dr', B', x1, x2, ⟨x3, x3', x3''⟩, x4, x5, x6, x7, ⟨x8, x9, x10⟩, x11, x12⟩ | ⟨q', y, x1, ⟨v, dr', B', x2, x3, x4, x5, x6⟩, x7, x8⟩
  · obtain ⟨r1, r2, r3, r4⟩ := R q' x3' x3''
    obtain ⟨⟨i1, i2⟩, i3, i4, i5⟩ := hI
    have ht := (e9 q' x3').2.2.2
    have hq2 : q' < 8002 := by omega
    have hlook := fun B dr => q_look0 (S := S) (N := N) (flt := flt) (dr := dr) (B := B) hq2
    have hl2 : f_DR_lastPlace N dd (pz σ ap dd dk dp dv dz q' (ds ++ post (one i' k' p' v' c'))) = some (nI p', pz σ ap dd dk dp dv dz q' (ds ++ post (one i' k' p' v' c'))) := by
      have := hlast (nI k', nI p', if k' = 13 then 0 else v', nI (siz c' + 1)) q' (ds ++ post c') (by rw [List.length_append, post_len]; omega)
      rw [post_one, ← List.append_assoc]; exact this
    rw [e1, x1, e_calT, pz_T, e_chk a1, pz_R, c2, e_rfO, e_chk a2, hl2, e_calI]
    by_cases hs : 24 ≤ tk q' ∧ tk q' ≤ 26
    · have e2 : f_RM_term N rf (nI d) (qz S q 0 flt dr B) = k_RM_term_35 N rf (nI d) (nI i') (qz S q' 0 flt dr' B') := by
        have hc : tk q' = 24 ∨ tk q' = 25 ∨ tk q' = 26 := by omega
        simp (disch := omega) only [f_RM_term, x2, e_chkT,e_bnd,e_calI,e_calV,e_calP,e_rfO,e_calT,e_calTt, hlook, r1, lit, kp_24, kp_25, kp_26]
        rcases hc with hc | hc | hc <;> simp [hc]
      have hi' := x4.2.2.2.2.2.2.2 i' (by simp)
      have hK1 : KS (bd B' dr' (nI 20) (nI p') 0) dr' 20 p' 0 .leaf := KS_new B' dr' 20 p' 0 (by omega)
      have hK2 : KS (bd B' dr' (nI 20) (nI p') 0) i' k' p' v' c' := KS_old (fun j hj => (x5 j hj).2) bd_o x4
      have hj := q_join (S := S) (N := N) (q := q') (bad := 0) (dr := dr' + 1) (flt := flt) hK1 hK2
      have hK3 := KS_join hK1 hK2 (by intro j hj; have := x5 j hj; simp only [nds, List.mem_cons, List.not_mem_nil, or_false]; omega)
      have e3 : k_RM_term_35 N rf (nI d) (nI i') (qz S q' 0 flt dr' B') = k_RM_term_55 N rf N (nI d) (nI dr') (qz S q' 0 flt (dr' + 1) (bj (bd B' dr' (nI 20) (nI p') 0) dr' .leaf i')) := by
        have hdf := q_draft (S := S) (N := N) (q := q') (bad := 0) (flt := flt) (B := B') (dr := dr') (k := 20) (p := nI p') (v := 0) (by omega)
        have h8 : B' 8 i' = nI p' := x4.2.1
        simp only [lit] at hdf hj
        simp (disch := omega) only [k_RM_term_35, e_chkT,e_bnd,e_calI,e_calV,e_calP,e_rfO,e_calT,e_calTt, lit,n_add,n_le,n_lt,n_eq,n_nat,n_ib, qz_b, h8, hdf, hj, hi']
      rw [e2, e3]
      have := loop_term (flt := flt) (q0 := q) (dr0 := dr) (s := dr') (p := p') (ds0 := ds) (B0 := B) E' hS hl ⟨i1, i3, i4⟩ x11.2.2.1.1 n q' (one i' k' p' v' c') 0 (dr' + 1) (bj (bd B' dr' (nI 20) (nI p') 0) dr' .leaf i') N N (by omega) (by omega) (by omega) x3 x3' x3'' hK3 (by simp) ?_ ?_ (BI_join (BI_new x7) hi') ⟨by omega, by simp only [siz]; omega, by omega⟩ x11 (by simp only [hgt] at *; omega) ⟨k', [], rfl, rfl, by simp⟩ (Or.inr hs)
      · exact this
      · intro j hj
        simp only [app, nds, List.append_nil, List.mem_cons] at hj
        rcases hj with rfl | hj
        · omega
        · have := x5 j (by simpa using hj); omega
      · intro o j hj
        rw [bj_o o j (by simp only [nds, List.mem_cons, List.not_mem_nil, or_false]; omega), bd_o o j (by omega), x6 o j hj]
    · have e2 : f_RM_term N rf (nI d) (qz S q 0 flt dr B) = some (nI i', qz S q' 0 flt dr' B') := by
        simp (disch := omega) only [f_RM_term, x2, e_chkT,e_bnd,e_calI,e_calV,e_calP,e_rfO,e_calT,e_calTt, hlook, r1, lit, kp_24, kp_25, kp_26]
        rw [if_neg (by omega), if_neg (by omega), if_neg (by omega)]
      have e3 : k_PA_term_24 N pf N ap (nI d) (nI ds.length) (nI p') 0 (pz σ ap dd dk dp dv dz q' (ds ++ post (one i' k' p' v' c'))) = some (false, 0, pz σ ap dd dk dp dv dz q' (ds ++ post (one i' k' p' v' c'))) := by
        obtain ⟨N', hN'⟩ : ∃ x, N = x + 1 := ⟨N - 1, by omega⟩
        have hin := p_isAt (N := N) (q := q') (b := 24) (c := 26) (ds := ds ++ post (one i' k' p' v' c')) h0' x3' (by omega) (by omega)
        rw [if_neg hs] at hin
        have hb1 : q' < hN σ bk := by omega
        simp only [lit] at hin
        generalize hM : N = M at hin ⊢
        rw [hM] at hN'
        rw [hN']
        rw [hN'] at hin
        simp (disch := omega) only [k_PA_term_24, k_PA_term_115, e_chkT,e_bnd,e_calI,e_calV,e_calP,e_rfO,e_calT,e_calTt, lit,n_add,n_le,n_lt,n_eq,n_nat,n_ib, pz_T, pz_R, pz_N, pz_33, pz_14, pz_45, a1, a2, a3, c1, c2, e8, hin]
        simp
      rw [e2, e3]
      exact Or.inl ⟨q', i', k', p', v', c', dr', B', rfl, rfl, ⟨x3, x3', x3''⟩, x4, x5, x6, x7, ⟨x8, x9, x10⟩, x11, by omega⟩
  · have e2 : f_RM_term N rf (nI d) (qz S q 0 flt dr B) = some (v, qz S q' 1 (nI (tp q')) dr' B') := by
      simp [f_RM_term, x2, e_calI, q_look1]
    rw [e1, x1, e_calTt, e2]
    exact Or.inr ⟨q', y, rfl, ⟨v, dr', B', rfl, x3, x4, x5, x6⟩, x7, x8⟩
end SIMTERM
