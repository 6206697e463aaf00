/-! the class's loop over functions, and the fault it catches -/
theorem X_Cf {β : Type} {r : Option (Bool × Int32 × mh_H)} {k : Int32 → mh_H → Option β} {kh : mh_H → Option β} {y : Option β} {v : Int32} {s : mh_H} (hr : r = some (false, v, s)) (h : k v s = y) : calC r k kh = y := by subst hr; exact h
theorem X_Ct {β : Type} {r : Option (Bool × Int32 × mh_H)} {k : Int32 → mh_H → Option β} {kh : mh_H → Option β} {y : Option β} {v : Int32} {s : mh_H} (hr : r = some (true, v, s)) (h : kh s = y) : calC r k kh = y := by subst hr; exact h
theorem X_tk {α : Type} {r : Option (α × Nat × Nat)} {c m : Nat} {a : α} {c' m' : Nat} {y : Option (α × Nat × Nat)} (hr : r = some (a, c', m')) (h : some (a, c' + c, m' + m) = y) : tkA c m r = y := by subst hr; exact h
def AD (σ : mh_H) (ap dd tt bk bp bv dk dp dv dz : Nat) : Prop := (ap < hX σ ∧ dd < hX σ ∧ tt < hX σ) ∧ (bk < hX σ ∧ bp < hX σ ∧ bv < hX σ) ∧ (dk < hX σ ∧ dp < hX σ ∧ dv < hX σ ∧ dz < hX σ)
section CLSLOOP
variable {σ : mh_H} {ap dd tt bk bp bv dk dp dv dz n room : Nat} {tk tp : Nat → Nat} {tv : Nat → Int32} {N q : Nat} {ds : List Ent}
theorem thrown_self (A : AD σ ap dd tt bk bp bv dk dp dv dz) : mh_new (pz σ ap dd dk dp dv dz q ds) 9 = pz (mh_new (pz σ ap dd dk dp dv dz q ds) 9) ap dd dk dp dv dz q ds := by
  obtain ⟨⟨h1, h2, -⟩, -, -⟩ := A
  refine mh_ext rfl (fun k j a => ?_) (fun _ _ _ => rfl) (fun b i => ?_) rfl rfl rfl
  · show (if a = hX (pz σ ap dd dk dp dv dz q ds) then 0 else hI (pz σ ap dd dk dp dv dz q ds) k j a) = _
    simp only [hI, pz]
    have e1 : ap ≠ σ.2.2.2.2.2.2 := by have : hX σ = σ.2.2.2.2.2.2 := rfl; omega
    have e2 : dd ≠ σ.2.2.2.2.2.2 := by have : hX σ = σ.2.2.2.2.2.2 := rfl; omega
    by_cases c1 : k = 3 ∧ j = 2 ∧ a = ap
    · obtain ⟨rfl, rfl, rfl⟩ := c1; simp [hX, e1]
    · by_cases c2 : k = 1 ∧ j = 4 ∧ a = dd
      · obtain ⟨rfl, rfl, rfl⟩ := c2; simp [hX, e2]
      · rw [if_neg c1, if_neg c2]
        simp only [mh_new, hX, hI]
        simp only [if_neg c1, if_neg c2]
  · show pA (hA σ) dk dp dv dz ds b i = pA (pA (hA σ) dk dp dv dz ds) dk dp dv dz ds b i
    unfold pA
    cases ds[i]? with
    | none => rfl
    | some e =>
      by_cases c1 : b = dk
      · simp [c1]
      · by_cases c2 : b = dp
        · simp [c1, c2]
        · by_cases c3 : b = dv
          · simp [c1, c2, c3]
          · by_cases c4 : b = dz
            · simp [c1, c2, c3, c4]
            · simp [c1, c2, c3, c4]
theorem thrown_PE (A : AD σ ap dd tt bk bp bv dk dp dv dz) (h : PE σ ap dd tt bk bp bv dk dp dv dz n room tk tp tv) : PE (mh_new (pz σ ap dd dk dp dv dz q ds) 9) ap dd tt bk bp bv dk dp dv dz n room tk tp tv := by
  obtain ⟨⟨h1, h2, h3⟩, ⟨h4, h5, h6⟩, ⟨h7, h8, h9, h10⟩⟩ := A
  have hp := fun i (hi : i < n) => pz_k (q' := q) (ds := ds) h hi
  have hp2 := fun i (hi : i < n) => pz_p (q' := q) (ds := ds) h hi
  have hp3 := fun i (hi : i < n) => pz_v (q' := q) (ds := ds) h hi
  obtain ⟨⟨a1, a2, a3⟩, ⟨a4, a5, a6, a7, a8, a9, a10⟩, ⟨c1, c2⟩, ⟨c4, c5, c6⟩, ⟨c7, c8, c9, c10⟩, ⟨e1, e2, e3, e4⟩, ⟨e5, e6, e7⟩, e8, ⟨g1, g2, g3, g4, g5, g6⟩, ⟨g7, g8, g9, g10⟩, ⟨g11, g12, g13, g14⟩, ⟨g15, g16, g17, g18⟩, e9, e10, e11, e12, e13⟩ := h
  have T : ∀ a, a < hX σ → hT (mh_new (pz σ ap dd dk dp dv dz q ds) 9) a = hT σ a := fun a ha => by
    rw [gT_new]; rw [if_neg (by show a ≠ hX σ; omega)]; rfl
  have RR : ∀ k j a, a < hX σ → hR (mh_new (pz σ ap dd dk dp dv dz q ds) 9) k j a = hR σ k j a := fun k j a ha => by
    rw [gR_new]; rw [if_neg (by show a ≠ hX σ; omega)]; rfl
  refine ⟨⟨by rw [T _ h1]; exact a1, by rw [T _ h2]; exact a2, by rw [T _ h3]; exact a3⟩, ⟨by rw [T _ h4]; exact a4, by rw [T _ h5]; exact a5, by rw [T _ h6]; exact a6, by rw [T _ h7]; exact a7, by rw [T _ h8]; exact a8, by rw [T _ h9]; exact a9, by rw [T _ h10]; exact a10⟩, ⟨by rw [RR _ _ _ h1]; exact c1, by rw [RR _ _ _ h1]; exact c2⟩, ⟨by rw [RR _ _ _ h3]; exact c4, by rw [RR _ _ _ h3]; exact c5, by rw [RR _ _ _ h3]; exact c6⟩, ⟨by rw [RR _ _ _ h2]; exact c7, by rw [RR _ _ _ h2]; exact c8, by rw [RR _ _ _ h2]; exact c9, by rw [RR _ _ _ h2]; exact c10⟩, ⟨e1, e2, e3, e4⟩, ⟨e5, e6, e7⟩, ?_, ⟨g1, g2, g3, g4, g5, g6⟩, ⟨g7, g8, g9, g10⟩, ⟨g11, g12, g13, g14⟩, ⟨g15, g16, g17, g18⟩, fun i hi => ⟨hp i hi, hp2 i hi, hp3 i hi, (e9 i hi).2.2.2⟩, e10, e11, e12, e13⟩
  rw [gI_new, if_neg (by show tt ≠ hX σ; omega), pz_45]; exact e8
theorem reset {F : List Ent} {x : List Ent} {τ : mh_H} (hτ : τ = pz τ ap dd dk dp dv dz q (F ++ x)) : mh_setI τ 1 4 dd (nI F.length) = pz τ ap dd dk dp dv dz q F := by
  refine mh_ext rfl (fun k j a => ?_) (fun _ _ _ => rfl) (fun b i => ?_) rfl rfl rfl
  · rw [gI_setI]
    simp only [hI, pz]
    by_cases c2 : k = 1 ∧ j = 4 ∧ a = dd
    · obtain ⟨rfl, rfl, rfl⟩ := c2; simp
    · rw [if_neg c2]
      by_cases c1 : k = 3 ∧ j = 2 ∧ a = ap
      · rw [if_pos c1]
        have : hI τ k j a = hI (pz τ ap dd dk dp dv dz q (F ++ x)) k j a := by rw [← hτ]
        have e : hI (pz τ ap dd dk dp dv dz q (F ++ x)) k j a = nI q := by obtain ⟨rfl, rfl, rfl⟩ := c1; exact pz_33
        exact this.trans e
      · rw [if_neg c1]
  · show hA τ b i = pA (hA τ) dk dp dv dz F b i
    have h0 : hA τ b i = pA (hA τ) dk dp dv dz (F ++ x) b i := by
      have : hA τ b i = hA (pz τ ap dd dk dp dv dz q (F ++ x)) b i := by rw [← hτ]
      exact this
    by_cases hi : i < F.length
    · rw [h0]
      unfold pA
      rw [List.getElem?_append_left hi]
    · unfold pA
      rw [List.getElem?_eq_none (by omega)]
def TXE (F : Fo) : Ent := (0, -1, 0, nI (siz F + 1))
/-- the class's last step: the text's own node -/
theorem parse_end {pf : Nat → mh_H → Option (Bool × Int32 × mh_H)} {F : Fo} {flt : Int32} (h : PE σ ap dd tt bk bp bv dk dp dv dz n room tk tp tv) (hF : siz F < room) : k_PA_parse_95 N pf ap flt (pz σ ap dd dk dp dv dz q (post F)) = some ((flt, pz σ ap dd dk dp dv dz q (post F ++ [TXE F])), 0, 0) := by
  have hl := post_len F
  have ha := p_add (N := N) (q := q) (ds := post F) (k := 0) (p := -1) (v := 0) (z := nI (siz F + 1)) h (by omega)
  have e1 : hI (pz σ ap dd dk dp dv dz q (post F)) 1 4 dd + 1 = nI (siz F + 1) := by rw [pz_14, hl]; exact n_add _ 1
  obtain ⟨⟨a1, a2, a3⟩, ⟨a4, a5, a6, a7, a8, a9, a10⟩, ⟨c1, c2⟩, ⟨c4, c5, c6⟩, ⟨c7, c8, c9, c10⟩, -, ⟨e5, e6, e7⟩, e8, -, -, -, -, e9, e10, e11, e12, e13⟩ := h
  unfold k_PA_parse_95
  refine X_chk a1 (X_rfO c2 (X_chk a2 ?_))
  rw [e1]
  exact X_V ha rfl
/-- a fault: the class forgets what it drafted of this function -/
theorem parse_caught {pf : Nat → mh_H → Option (Bool × Int32 × mh_H)} {k40 : Nat → Int32 → Int32 → Int32 → mh_H → Option ((Int32 × mh_H) × Nat × Nat)} {F : Fo} {x : List Ent} {y1 y3 : Int32} {q' : Nat} (A : AD σ ap dd tt bk bp bv dk dp dv dz) (h : PE σ ap dd tt bk bp bv dk dp dv dz n room tk tp tv) (hF : siz F < room) (hq : q' < n) (hf : pf ap (pz σ ap dd dk dp dv dz q (post F)) = some (true, 0, mh_new (pz σ ap dd dk dp dv dz q' (post F ++ x)) 9)) :
    k_PA_parse_53 N pf k40 ap y1 (nI (siz F)) y3 (pz σ ap dd dk dp dv dz q (post F)) = some ((nI (tp q'), pz (mh_new (pz σ ap dd dk dp dv dz q' (post F ++ x)) 9) ap dd dk dp dv dz q' (post F ++ [TXE F])), 1, 6) := by
  have hs := thrown_self (q := q') (ds := post F ++ x) A
  have hP := thrown_PE (q := q') (ds := post F ++ x) A h
  have hE := parse_end (N := N) (pf := pf) (q := q') (flt := nI (tp q')) hP hF
  have hr := reset (F := post F) hs
  rw [post_len] at hr
  have ha1 : hT σ ap = 7 := by obtain ⟨⟨a1, a2, a3⟩, ⟨a4, a5, a6, a7, a8, a9, a10⟩, ⟨c1, c2⟩, ⟨c4, c5, c6⟩, ⟨c7, c8, c9, c10⟩, -, ⟨e5, e6, e7⟩, e8, -, -, -, -, e9, e10, e11, e12, e13⟩ := h; exact a1
  have hX1 : hX (mh_new (pz σ ap dd dk dp dv dz q' (post F ++ x)) 9) - 1 = hX σ := rfl
  generalize hτ : mh_new (pz σ ap dd dk dp dv dz q' (post F ++ x)) 9 = τ at hf hs hP hE hr hX1 ⊢
  have h19 : hT τ (hX τ - 1) = 19 := by
    rw [hX1, ← hτ, gT_new]; exact if_pos rfl
  have hpp := p_paC (N := N) (q := q') (ds := post F ++ x) hP hq
  rw [← hs] at hpp
  obtain ⟨⟨a1, a2, a3⟩, ⟨a4, a5, a6, a7, a8, a9, a10⟩, ⟨c1, c2⟩, ⟨c4, c5, c6⟩, ⟨c7, c8, c9, c10⟩, -, ⟨e5, e6, e7⟩, e8, -, -, -, -, e9, e10, e11, e12, e13⟩ := hP
  unfold k_PA_parse_53
  refine X_chk ha1 (X_Ct hf (X_chk h19 (X_tk ?_ rfl)))
  refine X_bnd (X_chk a1 (X_rfO c1 (X_chk a3 (X_I hpp (X_chk a1 (X_rfO c2 (X_chk a2 ?_)))))))
  rw [hr]
  exact hE
end CLSLOOP
