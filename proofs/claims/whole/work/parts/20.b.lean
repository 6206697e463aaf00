/-! NUMBERS: ints that stand for small naturals -/
theorem lit (k : Nat) : (OfNat.ofNat k : Int32) = nI k := rfl
theorem n_add (a b : Nat) : nI a + nI b = nI (a + b) := by
  simp [nI, Int32.ofNat_add]
theorem n_mul (a b : Nat) : nI a * nI b = nI (a * b) := by
  simp [nI, Int32.ofNat_mul]
theorem n_le {a b : Nat} (ha : a < 2147483648) (hb : b < 2147483648) : (nI a ≤ nI b) = (a ≤ b) := by
  rw [Int32.le_iff_toInt_le, nI, nI, Int32.toInt_ofNat_of_lt ha, Int32.toInt_ofNat_of_lt hb]; simp
theorem n_lt {a b : Nat} (ha : a < 2147483648) (hb : b < 2147483648) : (nI a < nI b) = (a < b) := by
  rw [Int32.lt_iff_toInt_lt, nI, nI, Int32.toInt_ofNat_of_lt ha, Int32.toInt_ofNat_of_lt hb]; simp
theorem n_toInt {a : Nat} (ha : a < 2147483648) : (nI a).toInt = a := Int32.toInt_ofNat_of_lt ha
theorem n_eq {a b : Nat} (ha : a < 2147483648) (hb : b < 2147483648) : (nI a = nI b) = (a = b) := by
  rw [← Int32.toInt_inj, n_toInt ha, n_toInt hb]; apply propext; omega
theorem n_sub {a b : Nat} (h : b ≤ a) : nI a - nI b = nI (a - b) := by
  have e : nI a = nI (a - b) + nI b := by rw [n_add]; congr 1; omega
  rw [e]; exact Int32.add_sub_cancel _ _
theorem n_nat {a : Nat} (ha : a < 2147483648) : (nI a).toNatClampNeg = a := by
  have := n_toInt ha
  rw [Int32.toNatClampNeg, this]; simp
theorem n_ib {a n : Nat} (ha : a < 2147483648) : ib (nI a) n = (a < n) := by
  have h0 : ¬ nI a < 0 := by
    have := n_lt ha (b := 0) (by omega)
    show ¬ nI a < nI 0
    rw [this]; omega
  rw [ib, n_nat ha]; simp [h0]
theorem n_m1 {a : Nat} (ha : a < 2147483648) : (nI a = -nI 1) = False := by
  have h := n_toInt ha
  have h2 : (-nI 1).toInt = -1 := by decide
  apply eq_false; intro e; rw [e, h2] at h; omega
theorem n_m1' {a : Nat} (ha : a < 2147483648) : (-nI 1 = nI a) = False := by
  rw [@eq_comm _ (-nI 1), n_m1 ha]
theorem n_ltm {a : Nat} (ha : a < 2147483648) : (nI a < -nI 1) = False := by
  have h := n_toInt ha
  have h2 : (-nI 1).toInt = -1 := by decide
  rw [Int32.lt_iff_toInt_lt, h, h2]; apply eq_false; omega
theorem n_mlt {a : Nat} (ha : a < 2147483648) : (-nI 1 < nI a) = True := by
  have h := n_toInt ha
  have h2 : (-nI 1).toInt = -1 := by decide
  rw [Int32.lt_iff_toInt_lt, h, h2]; apply eq_true; omega
/-- every int is a natural of 32 bits -/
theorem n_of (x : Int32) : ∃ n : Nat, x = nI n := ⟨x.toUInt32.toNat, by
  apply Int32.toBitVec_inj.mp
  simp [nI]⟩
theorem n_pos (x : Int32) (h : ¬ x < 0) : ∃ n : Nat, n < 2147483648 ∧ x = nI n := ⟨x.toNatClampNeg, by
  have := Int32.toInt_lt x
  rw [Int32.toNatClampNeg]; omega, by
  rw [Int32.lt_iff_toInt_lt] at h
  have h0 : (0 : Int32).toInt = 0 := rfl
  rw [← Int32.toInt_inj, n_toInt (by have := Int32.toInt_lt x; rw [Int32.toNatClampNeg]; omega), Int32.toNatClampNeg]
  omega⟩
/-! the steps of the lifted functions -/
theorem e_bnd {α β : Type} (x : α) (f : α → β) : bnd x f = f x := rfl
theorem e_chk {α : Type} {c : Prop} [Decidable c] (h : c) (r : Option α) : chk c r = r := if_pos h
theorem e_chkT {α : Type} [Decidable True] (r : Option α) : chk True r = r := if_pos trivial
theorem e_calI {α σ β : Type} (a : α) (s : σ) (k : α → σ → Option β) : calI (some (a, s)) k = k a s := rfl
theorem e_calV {σ β : Type} (s : σ) (k : σ → Option β) : calV (some s) k = k s := rfl
theorem e_calP {α β : Type} (a : α) (k : α → Option β) : calP (some a) k = k a := rfl
theorem e_rfO {β : Type} (a : Nat) (k : Nat → Option β) : rfO (some a) k = k a := rfl
theorem e_calT (v : Int32) (s : mh_H) (k : Int32 → mh_H → Option (Bool × Int32 × mh_H)) : calT (some (false, v, s)) k = k v s := rfl
theorem e_calTt (v : Int32) (s : mh_H) (k : Int32 → mh_H → Option (Bool × Int32 × mh_H)) : calT (some (true, v, s)) k = some (true, 0, s) := rfl
/-! what a step leaves as it was -/
theorem gT_setI (σ : mh_H) (k j a : Nat) (v : Int32) : hT (mh_setI σ k j a v) = hT σ := by rfl
theorem gR_setI (σ : mh_H) (k j a : Nat) (v : Int32) : hR (mh_setI σ k j a v) = hR σ := by rfl
theorem gA_setI (σ : mh_H) (k j a : Nat) (v : Int32) : hA (mh_setI σ k j a v) = hA σ := by rfl
theorem gQ_setI (σ : mh_H) (k j a : Nat) (v : Int32) : hQ (mh_setI σ k j a v) = hQ σ := by rfl
theorem gN_setI (σ : mh_H) (k j a : Nat) (v : Int32) : hN (mh_setI σ k j a v) = hN σ := by rfl
theorem gX_setI (σ : mh_H) (k j a : Nat) (v : Int32) : hX (mh_setI σ k j a v) = hX σ := by rfl
theorem gT_setR (σ : mh_H) (k j a : Nat) (v : Option Nat) : hT (mh_setR σ k j a v) = hT σ := by rfl
theorem gI_setR (σ : mh_H) (k j a : Nat) (v : Option Nat) : hI (mh_setR σ k j a v) = hI σ := by rfl
theorem gA_setR (σ : mh_H) (k j a : Nat) (v : Option Nat) : hA (mh_setR σ k j a v) = hA σ := by rfl
theorem gQ_setR (σ : mh_H) (k j a : Nat) (v : Option Nat) : hQ (mh_setR σ k j a v) = hQ σ := by rfl
theorem gN_setR (σ : mh_H) (k j a : Nat) (v : Option Nat) : hN (mh_setR σ k j a v) = hN σ := by rfl
theorem gX_setR (σ : mh_H) (k j a : Nat) (v : Option Nat) : hX (mh_setR σ k j a v) = hX σ := by rfl
theorem gT_setA (σ : mh_H) (a i : Nat) (v : Int32) : hT (mh_setA σ a i v) = hT σ := by rfl
theorem gI_setA (σ : mh_H) (a i : Nat) (v : Int32) : hI (mh_setA σ a i v) = hI σ := by rfl
theorem gR_setA (σ : mh_H) (a i : Nat) (v : Int32) : hR (mh_setA σ a i v) = hR σ := by rfl
theorem gQ_setA (σ : mh_H) (a i : Nat) (v : Int32) : hQ (mh_setA σ a i v) = hQ σ := by rfl
theorem gN_setA (σ : mh_H) (a i : Nat) (v : Int32) : hN (mh_setA σ a i v) = hN σ := by rfl
theorem gX_setA (σ : mh_H) (a i : Nat) (v : Int32) : hX (mh_setA σ a i v) = hX σ := by rfl
theorem gT_setQ (σ : mh_H) (a i : Nat) (v : Option Nat) : hT (mh_setQ σ a i v) = hT σ := by rfl
theorem gI_setQ (σ : mh_H) (a i : Nat) (v : Option Nat) : hI (mh_setQ σ a i v) = hI σ := by rfl
theorem gR_setQ (σ : mh_H) (a i : Nat) (v : Option Nat) : hR (mh_setQ σ a i v) = hR σ := by rfl
theorem gA_setQ (σ : mh_H) (a i : Nat) (v : Option Nat) : hA (mh_setQ σ a i v) = hA σ := by rfl
theorem gN_setQ (σ : mh_H) (a i : Nat) (v : Option Nat) : hN (mh_setQ σ a i v) = hN σ := by rfl
theorem gX_setQ (σ : mh_H) (a i : Nat) (v : Option Nat) : hX (mh_setQ σ a i v) = hX σ := by rfl
theorem gT_cpy (σ : mh_H) (a0 a sp dp n : Nat) : hT (mh_cpy σ a0 a sp dp n) = hT σ := by rfl
theorem gI_cpy (σ : mh_H) (a0 a sp dp n : Nat) : hI (mh_cpy σ a0 a sp dp n) = hI σ := by rfl
theorem gR_cpy (σ : mh_H) (a0 a sp dp n : Nat) : hR (mh_cpy σ a0 a sp dp n) = hR σ := by rfl
theorem gQ_cpy (σ : mh_H) (a0 a sp dp n : Nat) : hQ (mh_cpy σ a0 a sp dp n) = hQ σ := by rfl
theorem gN_cpy (σ : mh_H) (a0 a sp dp n : Nat) : hN (mh_cpy σ a0 a sp dp n) = hN σ := by rfl
theorem gX_cpy (σ : mh_H) (a0 a sp dp n : Nat) : hX (mh_cpy σ a0 a sp dp n) = hX σ := by rfl
theorem gI_setI (σ : mh_H) (k j a : Nat) (v : Int32) (k' j' a' : Nat) : hI (mh_setI σ k j a v) k' j' a' = if k' = k ∧ j' = j ∧ a' = a then v else hI σ k' j' a' := by rfl
theorem gR_setR (σ : mh_H) (k j a : Nat) (v : Option Nat) (k' j' a' : Nat) : hR (mh_setR σ k j a v) k' j' a' = if k' = k ∧ j' = j ∧ a' = a then v else hR σ k' j' a' := by rfl
theorem gA_setA (σ : mh_H) (a i : Nat) (v : Int32) (b x : Nat) : hA (mh_setA σ a i v) b x = if b = a ∧ x = i then v else hA σ b x := by
  show (if b = a then upd (hA σ b) i v else hA σ b) x = _
  by_cases h : b = a <;> simp [h, upd]
theorem gA_cpy (σ : mh_H) (a0 a sp dp n : Nat) (b x : Nat) : hA (mh_cpy σ a0 a sp dp n) b x = if b = a ∧ dp ≤ x ∧ x < dp + n then hA σ a0 (sp + (x - dp)) else hA σ b x := by
  show (if b = a then va_cpy (hA σ a0) (hA σ a) sp dp n else hA σ b) x = _
  by_cases h : b = a <;> simp [h, va_cpy]
theorem gI_new (σ : mh_H) (c : Nat) (k j a : Nat) : hI (mh_new σ c) k j a = if a = hX σ then 0 else hI σ k j a := by rfl
theorem gR_new (σ : mh_H) (c : Nat) (k j a : Nat) : hR (mh_new σ c) k j a = if a = hX σ then none else hR σ k j a := by rfl
theorem gT_new (σ : mh_H) (c a : Nat) : hT (mh_new σ c) a = if a = hX σ then 2 * c + 1 else hT σ a := by rfl
theorem gA_new (σ : mh_H) (c : Nat) : hA (mh_new σ c) = hA σ := by rfl
theorem gQ_new (σ : mh_H) (c : Nat) : hQ (mh_new σ c) = hQ σ := by rfl
theorem gN_new (σ : mh_H) (c : Nat) : hN (mh_new σ c) = hN σ := by rfl
theorem gX_new (σ : mh_H) (c : Nat) : hX (mh_new σ c) = hX σ + 1 := by rfl
theorem gT_arr (σ : mh_H) (t n a : Nat) : hT (mh_arr σ t n) a = if a = hX σ then 2 * t + 2 else hT σ a := by rfl
theorem gN_arr (σ : mh_H) (t n a : Nat) : hN (mh_arr σ t n) a = if a = hX σ then n else hN σ a := by rfl
theorem gA_arr (σ : mh_H) (t n a : Nat) : hA (mh_arr σ t n) a = if a = hX σ then (fun _ => 0) else hA σ a := by rfl
theorem gQ_arr (σ : mh_H) (t n a : Nat) : hQ (mh_arr σ t n) a = if a = hX σ then (fun _ => none) else hQ σ a := by rfl
theorem gI_arr (σ : mh_H) (t n : Nat) : hI (mh_arr σ t n) = hI σ := by rfl
theorem gR_arr (σ : mh_H) (t n : Nat) : hR (mh_arr σ t n) = hR σ := by rfl
theorem gX_arr (σ : mh_H) (t n : Nat) : hX (mh_arr σ t n) = hX σ + 1 := by rfl
theorem mh_ext {s t : mh_H} (h1 : hT s = hT t) (h2 : ∀ k j a, hI s k j a = hI t k j a) (h3 : ∀ k j a, hR s k j a = hR t k j a) (h4 : ∀ b i, hA s b i = hA t b i) (h5 : hQ s = hQ t) (h6 : hN s = hN t) (h7 : hX s = hX t) : s = t := by
  have e2 : hI s = hI t := funext fun k => funext fun j => funext fun a => h2 k j a
  have e3 : hR s = hR t := funext fun k => funext fun j => funext fun a => h3 k j a
  have e4 : hA s = hA t := funext fun b => funext fun i => h4 b i
  exact Prod.ext h1 (Prod.ext e2 (Prod.ext e3 (Prod.ext e4 (Prod.ext h5 (Prod.ext h6 h7)))))
