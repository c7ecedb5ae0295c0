/-! what the calls answer, as numbers -/
def mXor (x y : Int) : Int := (mL x ^^^ mL y).toInt
theorem mXor_r (x y : Int) : mRL (mXor x y) := by
  have h1 := (mL x ^^^ mL y).le_toInt
  have h2 := (mL x ^^^ mL y).toInt_lt
  constructor <;> (show _; unfold mXor; omega)
theorem mXor_ge {x y : Int} (hx : mRL x) (hy : mRL y) (h0 : 0 < y) : 0 ≤ mXor x y ↔ 0 ≤ x := by
  have e1 : (mL x).toBitVec.msb = decide (x < 0) := by
    rw [BitVec.msb_eq_toInt]
    show decide ((mL x).toInt < 0) = _
    rw [mL_t hx]
  have e2 : (mL y).toBitVec.msb = false := by
    rw [BitVec.msb_eq_toInt]
    show decide ((mL y).toInt < 0) = _
    rw [mL_t hy]
    exact decide_eq_false (by omega)
  have e3 : (mL x ^^^ mL y).toBitVec.msb = decide (mXor x y < 0) := by
    rw [BitVec.msb_eq_toInt]
    rfl
  have e4 : (mL x ^^^ mL y).toBitVec.msb = decide (x < 0) := by
    rw [Int64.toBitVec_xor, BitVec.msb_xor, e1, e2, Bool.xor_false]
  rw [e3] at e4
  have := decide_eq_decide.mp e4
  omega
abbrev mR2 (z : Int) : Prop := -4611686018427387904 ≤ z ∧ z ≤ 4611686018427387904
section MWS
variable {p : Program} {l : Launch} {e : Env} {R : Room} {s : State} {m : MethodId} {args : Array Value} {below : List Frame} {meth : Method} {c : Code} {H : Heap} {locs : List Loc} {cells slots : Nat} {Q : State → Prop}
variable {cc : ByteArray} {pc : Nat} {ls : Array Slot} {rest : List Value}
theorem mw_lxor (hx : p.tables.exec = Jvm.exec) (hb : c.code = cc) {x y : Int} (hdg : decode cc pc = .ok (.lxor, 1)) (k : W p l e R s m args below meth c H locs cells slots Q (F0 m (pc + 1) ls (.long (mL (mXor x y)) :: rest))) : W p l e R s m args below meth c H locs cells slots Q (F0 m pc ls (.long (mL y) :: .long (mL x) :: rest)) := lv_lxor hx hb hdg (by rw [show mL x ^^^ mL y = mL (mXor x y) from (mL_self _).symm]; exact k)
end MWS
theorem m_mod_r {a b : Int} (hb : 0 < b) : 0 ≤ a % b ∧ a % b < b := ⟨Int.emod_nonneg a (by omega), Int.emod_lt_of_pos a hb⟩
/-- the state's bounds -/
def mOK (v : Nat → Int) (L P : Int → Int) : Prop := (0 ≤ v 0 ∧ v 0 ≤ 16) ∧ (∀ k : Int, 0 ≤ k → k < v 0 → 1 ≤ L k ∧ L k ≤ 60 ∧ 0 ≤ P k ∧ P k < L k) ∧ (1 ≤ v 2 ∧ v 2 ≤ 100 ∧ 2 * v 2 ≤ v 1 ∧ v 1 ≤ 100 * v 2 ∧ -1000 ≤ v 3 ∧ v 3 ≤ 1000) ∧ (100 ≤ v 4 ∧ v 4 ≤ 500 ∧ 1 ≤ v 7 ∧ v 7 ≤ 400 ∧ 0 ≤ v 5 ∧ v 5 ≤ v 7 ∧ 0 ≤ v 6 ∧ v 6 < v 7)
abbrev mDay (d : Int) : Prop := -1000000 ≤ d ∧ d ≤ 1000000
abbrev mYear (y : Int) : Prop := -10000 ≤ y ∧ y ≤ 10000
abbrev mMk (v : Nat → Int) (m : Int) : Prop := 0 ≤ m ∧ m < v 0
/-- days of the moon and of the year -/
def mMoon (v : Nat → Int) (d : Int) : Int := (d + v 3) * v 2
def mMonth (v : Nat → Int) (d : Int) : Int := mMoon v d / v 1
def mLunar (v : Nat → Int) (d : Int) : Int := (mMoon v d % v 1) / v 2
def mBeg (v : Nat → Int) (y : Int) : Int := v 4 * y + (v 5 * y + v 6) / v 7
def mYr (v : Nat → Int) (d : Int) : Int := (v 7 * (d + 1) - 1 - v 6) / (v 4 * v 7 + v 5)
abbrev mLeap (v : Nat → Int) (y : Int) : Prop := v 7 - v 5 ≤ (v 5 * y + v 6) % v 7
def mLen (v : Nat → Int) (y : Int) : Int := if mLeap v y then v 4 + 1 else v 4
def mCnt (L P : Int → Int) (m a b : Int) : Int := (b - P m) / L m - (a - 1 - P m) / L m
/-- the markets below k that are held on a day, as a mask -/
def mSet (L P : Int → Int) (d : Int) : Nat → Int
  | 0 => 0
  | k + 1 => mSet L P d k + (if d % L (k : Int) = P (k : Int) then 2 ^ k else 0)
theorem mSet_r (L P : Int → Int) (d : Int) : ∀ k : Nat, 0 ≤ mSet L P d k ∧ mSet L P d k < 2 ^ k
  | 0 => by simp [mSet]
  | k + 1 => by
    have h := mSet_r L P d k
    have e : (2 : Int) ^ (k + 1) = 2 ^ k * 2 := Int.pow_succ 2 k
    have e0 : (0 : Int) < 2 ^ k := Int.pow_pos (by omega)
    unfold mSet
    rw [e]
    split <;> omega
theorem m_bound (a b : Int) {A B : Int} (ha : -A ≤ a ∧ a ≤ A) (hb : -B ≤ b ∧ b ≤ B) : -(A * B) ≤ a * b ∧ a * b ≤ A * B := by
  have hA : 0 ≤ A := by omega
  have h1 : (a * b).natAbs ≤ (A * B).natAbs := by
    rw [Int.natAbs_mul, Int.natAbs_mul]
    exact Nat.mul_le_mul (by omega) (by omega)
  have h2 : 0 ≤ A * B := Int.mul_nonneg hA (by omega)
  omega
