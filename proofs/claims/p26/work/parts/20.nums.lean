/-! numbers: an int or a long of the machine as the number that it stands for -/
def mI (z : Int) : Int32 := Int32.ofInt z
def mL (z : Int) : Int64 := Int64.ofInt z
abbrev mRI (z : Int) : Prop := -2147483648 ≤ z ∧ z < 2147483648
abbrev mRL (z : Int) : Prop := -9223372036854775808 ≤ z ∧ z < 9223372036854775808
theorem mI_t {z : Int} (h : mRI z) : (mI z).toInt = z := Int32.toInt_ofInt_of_le (by have := h.1; omega) (by have := h.2; omega)
theorem mL_t {z : Int} (h : mRL z) : (mL z).toInt = z := Int64.toInt_ofInt_of_le (by have := h.1; omega) (by have := h.2; omega)
theorem mI_self (x : Int32) : mI x.toInt = x := Int32.ofInt_toInt x
theorem mL_self (x : Int64) : mL x.toInt = x := Int64.ofInt_toInt x
theorem mI_rng (x : Int32) : mRI x.toInt := by have h1 := x.le_toInt; have h2 := x.toInt_lt; constructor <;> omega
theorem mI_add (a b : Int) : mI a + mI b = mI (a + b) := (Int32.ofInt_add a b).symm
theorem mI_sub (a b : Int) : mI a - mI b = mI (a - b) := (Int32.ofInt_sub a b).symm
theorem mI_mul (a b : Int) : mI a * mI b = mI (a * b) := (Int32.ofInt_mul a b).symm
theorem mL_add (a b : Int) : mL a + mL b = mL (a + b) := (Int64.ofInt_add a b).symm
theorem mL_sub (a b : Int) : mL a - mL b = mL (a - b) := (Int64.ofInt_sub a b).symm
theorem mL_mul (a b : Int) : mL a * mL b = mL (a * b) := (Int64.ofInt_mul a b).symm
theorem mL_neg (a : Int) : -mL a = mL (-a) := (Int64.ofInt_neg a).symm
theorem mI_lt {a b : Int} (ha : mRI a) (hb : mRI b) : mI a < mI b ↔ a < b := by rw [Int32.lt_iff_toInt_lt, mI_t ha, mI_t hb]
theorem mI_le {a b : Int} (ha : mRI a) (hb : mRI b) : mI a ≤ mI b ↔ a ≤ b := by rw [Int32.le_iff_toInt_le, mI_t ha, mI_t hb]
theorem mI_eq {a b : Int} (ha : mRI a) (hb : mRI b) : mI a = mI b ↔ a = b := by rw [← Int32.toInt_inj, mI_t ha, mI_t hb]
theorem mL_lt {a b : Int} (ha : mRL a) (hb : mRL b) : mL a < mL b ↔ a < b := by rw [Int64.lt_iff_toInt_lt, mL_t ha, mL_t hb]
theorem mL_le {a b : Int} (ha : mRL a) (hb : mRL b) : mL a ≤ mL b ↔ a ≤ b := by rw [Int64.le_iff_toInt_le, mL_t ha, mL_t hb]
theorem mL_eq {a b : Int} (ha : mRL a) (hb : mRL b) : mL a = mL b ↔ a = b := by rw [← Int64.toInt_inj, mL_t ha, mL_t hb]
theorem mI_0 : mI 0 = 0 := by decide +kernel
theorem mI_1 : mI 1 = 1 := by decide +kernel
theorem mL_0 : mL 0 = 0 := by decide +kernel
theorem mI_lit (n : Nat) : (OfNat.ofNat n : Int32) = mI n := by
  show Int32.ofNat n = Int32.ofInt n
  exact Int32.ofInt_eq_ofNat.symm
theorem mI_r0 : mRI 0 := by omega
theorem mL_r0 : mRL 0 := by omega
theorem mI_i2l {a : Int} (h : mRI a) : (mI a).toInt64 = mL a := by
  apply Int64.toInt_inj.mp
  rw [Int32.toInt_toInt64, mI_t h, mL_t (by omega)]
theorem mL_l2i (a : Int) : (mL a).toInt32 = mI a := Int64.toInt32_ofInt
theorem mL_div {a b : Int} (ha0 : -9223372036854775807 ≤ a ∧ a < 9223372036854775808) (hb : mRL b) (h0 : 0 < b) : mL a / mL b = mL (a.tdiv b) := by
  have ha : mRL a := ⟨by omega, ha0.2⟩
  apply Int64.toInt_inj.mp
  have hne : mL b ≠ -1 := by
    intro h
    have h2 : (mL b).toInt = (-1 : Int64).toInt := by rw [h]
    rw [mL_t hb] at h2
    have h3 : (-1 : Int64).toInt = -1 := by decide +kernel
    omega
  rw [Int64.toInt_div_of_ne_right _ _ hne, mL_t ha, mL_t hb, mL_t]
  have h1 : (a.tdiv b).natAbs ≤ a.natAbs := by
    rw [Int.natAbs_tdiv]
    exact Nat.div_le_self _ _
  omega
theorem mL_rem {a b : Int} (ha0 : -9223372036854775807 ≤ a ∧ a < 9223372036854775808) (hb : mRL b) (h0 : 0 < b) : mL a - mL a / mL b * mL b = mL (a.tmod b) := by
  rw [mL_div ha0 hb h0, mL_mul, mL_sub]
  congr 1
  have := Int.mul_tdiv_add_tmod a b
  have h2 : a.tdiv b * b = b * a.tdiv b := Int.mul_comm _ _
  omega
theorem mL_ne0 {b : Int} (hb : mRL b) (h0 : 0 < b) : ¬ mL b = 0 := by
  rw [← mL_0, mL_eq hb mL_r0]; omega
theorem mI_clamp {z : Int} (h0 : 0 ≤ z) (h : z < 2147483648) : ((mI z).toNatClampNeg : Int) = z := by
  have h1 : (mI z).toInt = z := mI_t ⟨by omega, h⟩
  have h2 : (mI z).toNatClampNeg = (mI z).toInt.toNat := rfl
  rw [h2, h1]
  omega
theorem mI_in {z : Int} {n : Nat} (h0 : 0 ≤ z) (h : z < n) (hn : n < 2 ^ 31) : vp_in (mI z) n := by
  rw [vp_in_iff, mI_t ⟨by omega, by omega⟩]
  exact ⟨h0, h⟩
/-- a truth as a number -/
def mB (p : Prop) [Decidable p] : Int := if p then 1 else 0
theorem mB_t {p : Prop} [Decidable p] (h : p) : mB p = 1 := if_pos h
theorem mB_f {p : Prop} [Decidable p] (h : ¬ p) : mB p = 0 := if_neg h
theorem mB_0 {p : Prop} [Decidable p] : mI (mB p) = 0 ↔ ¬ p := by
  by_cases h : p
  · rw [mB_t h]; exact ⟨fun q => absurd q (by decide +kernel), fun q => absurd h q⟩
  · rw [mB_f h]; exact ⟨fun _ => h, fun _ => by decide +kernel⟩
theorem mB_nar {p : Prop} [Decidable p] : narrow .boolean (.int (mI (mB p))) = .int (mI (mB p)) := by
  by_cases h : p
  · rw [mB_t h]; decide +kernel
  · rw [mB_f h]; decide +kernel
theorem mB_r {p : Prop} [Decidable p] : 0 ≤ mB p ∧ mB p ≤ 1 := by
  by_cases h : p
  · rw [mB_t h]; omega
  · rw [mB_f h]; omega
theorem mB_iff {p q : Prop} [Decidable p] [Decidable q] (h : p ↔ q) : mB p = mB q := by
  by_cases hp : p
  · rw [mB_t hp, mB_t (h.mp hp)]
  · rw [mB_f hp, mB_f (fun hq => hp (h.mpr hq))]
/-- a row of numbers, one of them changed -/
def mU (L : Int → Int) (z x : Int) : Int → Int := fun k => if k = z then x else L k
theorem mU_upd (L : Int → Int) {z x : Int} (h0 : 0 ≤ z) (h : z < 2147483648) : upd (fun k : Nat => mI (L (k : Int))) (mI z).toNatClampNeg (mI x) = fun k : Nat => mI (mU L z x (k : Int)) := by
  funext k
  have hc := mI_clamp h0 h
  by_cases hk : k = (mI z).toNatClampNeg
  · subst hk
    rw [pk_us]
    show mI x = mI (if ((mI z).toNatClampNeg : Int) = z then x else _)
    rw [if_pos hc]
  · rw [pk_un hk]
    show mI _ = mI (if (k : Int) = z then x else _)
    rw [if_neg (fun q => hk (by omega))]
/-- the machine's division and remainder of longs, and those of rounding down -/
theorem m_fdiv {a b : Int} (hb : 0 < b) : a / b = if (a < 0 ∧ ¬ a.tdiv b * b = a) then a.tdiv b - 1 else a.tdiv b := by
  have h1 := Int.mul_tdiv_add_tmod a b
  have h2 := Int.mul_ediv_add_emod a b
  have h3 := Int.emod_nonneg a (by omega : b ≠ 0)
  have h4 := Int.emod_lt_of_pos a hb
  have h5 : a.tdiv b * b = b * a.tdiv b := Int.mul_comm _ _
  by_cases ha : a < 0
  · have h6 : a.tmod b ≤ 0 := by
      have := Int.tmod_nonneg b (a := -a) (by omega)
      rw [Int.neg_tmod] at this
      omega
    have h7 : -b < a.tmod b := by
      have := Int.tmod_lt_of_pos (-a) hb
      rw [Int.neg_tmod] at this
      omega
    by_cases hz : a.tmod b = 0
    · rw [if_neg (fun q => q.2 (by omega))]
      have : b * (a / b) - b * a.tdiv b = -(a % b) := by omega
      have e : b * (a / b - a.tdiv b) = -(a % b) := by rw [Int.mul_sub]; exact this
      have e1 : a / b - a.tdiv b ≤ 0 := by
        rcases (by omega : 0 < (a / b - a.tdiv b) ∨ (a / b - a.tdiv b) ≤ 0) with q | q
        · have := Int.mul_pos hb q; omega
        · exact q
      have e2 : -1 < a / b - a.tdiv b := by
        rcases (by omega : (-1) < (a / b - a.tdiv b) ∨ (a / b - a.tdiv b) ≤ (-1)) with q | q
        · exact q
        · have := Int.mul_le_mul_of_nonneg_left q (by omega : 0 ≤ b); omega
      omega
    · rw [if_pos ⟨ha, by omega⟩]
      have this : b * (a / b) - b * a.tdiv b = a.tmod b - a % b := by omega
      have e : b * (a / b - a.tdiv b) = a.tmod b - a % b := by rw [Int.mul_sub]; exact this
      have e1 : a / b - a.tdiv b < 0 := by
        rcases (by omega : (a / b - a.tdiv b) < 0 ∨ 0 ≤ (a / b - a.tdiv b)) with q | q
        · exact q
        · have := Int.mul_nonneg (by omega : 0 ≤ b) q; omega
      have e2 : -2 < a / b - a.tdiv b := by
        rcases (by omega : (-2) < (a / b - a.tdiv b) ∨ (a / b - a.tdiv b) ≤ (-2)) with q | q
        · exact q
        · have := Int.mul_le_mul_of_nonneg_left q (by omega : 0 ≤ b); omega
      omega
  · rw [if_neg (fun q => ha q.1), Int.tdiv_eq_ediv_of_nonneg (by omega)]
theorem m_fmod {a b : Int} (hb : 0 < b) : a % b = if (a < 0 ∧ ¬ a.tmod b = 0) then a.tmod b + b else a.tmod b := by
  have h1 := Int.mul_tdiv_add_tmod a b
  have h2 := Int.mul_ediv_add_emod a b
  have h5 : a.tdiv b * b = b * a.tdiv b := Int.mul_comm _ _
  have h6 := m_fdiv (a := a) hb
  by_cases c : a < 0 ∧ ¬ a.tdiv b * b = a
  · rw [if_pos c] at h6
    rw [if_pos ⟨c.1, by omega⟩]
    rw [h6, Int.mul_sub] at h2
    omega
  · rw [if_neg c] at h6
    rw [if_neg (fun q => c ⟨q.1, by omega⟩)]
    rw [h6] at h2
    omega
theorem m_tmod_r {a b : Int} (hb : 0 < b) : -b ≤ a.tmod b ∧ a.tmod b < b := by
  have h := m_fmod (a := a) hb
  have h3 := Int.emod_nonneg a (by omega : b ≠ 0)
  have h4 := Int.emod_lt_of_pos a hb
  by_cases c : a < 0 ∧ ¬ a.tmod b = 0
  · rw [if_pos c] at h; omega
  · rw [if_neg c] at h; omega
theorem m_tmod_neg {a b : Int} (hb : 0 < b) : (a.tmod b < 0 ↔ (a < 0 ∧ ¬ a.tmod b = 0)) := by
  have h := m_fmod (a := a) hb
  have h3 := Int.emod_nonneg a (by omega : b ≠ 0)
  have h4 := Int.emod_lt_of_pos a hb
  by_cases c : a < 0 ∧ ¬ a.tmod b = 0
  · rw [if_pos c] at h
    exact ⟨fun _ => c, fun _ => by omega⟩
  · rw [if_neg c] at h
    exact ⟨fun q => by omega, fun q => absurd q c⟩
theorem m_tdiv_r {a b : Int} (hb : 0 < b) : a.natAbs ≥ (a.tdiv b).natAbs := by
  rw [Int.natAbs_tdiv]
  exact Nat.div_le_self _ _
theorem m_div_r {a b : Int} (hb : 0 < b) : -(a.natAbs : Int) ≤ a / b ∧ a / b ≤ a.natAbs := by
  rcases (by omega : a < 0 ∨ 0 ≤ a) with q | q
  · constructor
    · rw [Int.le_ediv_iff_mul_le hb]
      have : -(a.natAbs : Int) = a := by omega
      rw [this]
      have := Int.mul_le_mul_of_nonpos_left (a := a) (b := b) (c := 1) (by omega) (by omega)
      omega
    · have : a / b < 0 := Int.ediv_neg_of_neg_of_pos q hb
      omega
  · have h1 := Int.ediv_nonneg q (by omega : 0 ≤ b)
    have h2 := Int.ediv_le_self b q
    omega
