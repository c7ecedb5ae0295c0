/-! bits of ints, as numbers -/
def mAnd (x y : Int) : Int := (mI x &&& mI y).toInt
def mOr (x y : Int) : Int := (mI x ||| mI y).toInt
def mShl (x y : Int) : Int := (mI x <<< (mI y &&& 31)).toInt
def mShr (x y : Int) : Int := (mI x >>> (mI y &&& 31)).toInt
def mUsh (x y : Int) : Int := ((mI x).toUInt32 >>> ((mI y).toUInt32 &&& Int32.toUInt32 31)).toInt32.toInt
theorem mAnd_r (x y : Int) : mRI (mAnd x y) := mI_rng _
theorem mOr_r (x y : Int) : mRI (mOr x y) := mI_rng _
theorem mShl_r (x y : Int) : mRI (mShl x y) := mI_rng _
theorem mShr_r (x y : Int) : mRI (mShr x y) := mI_rng _
theorem mUsh_r (x y : Int) : mRI (mUsh x y) := mI_rng _
section MWB
variable {p : Program} {l : Launch} {e : Env} {R : Room} {s : State} {m : MethodId} {args : Array Value} {below : List Frame} {meth : Method} {c : Code} {H : Heap} {locs : List Loc} {cells slots : Nat} {Q : State → Prop}
variable {cc : ByteArray} {pc : Nat} {ls : Array Slot} {rest : List Value}
theorem mw_iand (hx : p.tables.exec = Jvm.exec) (hb : c.code = cc) {x y : Int} (hdg : decode cc pc = .ok (.iand, 1)) (k : W p l e R s m args below meth c H locs cells slots Q (F0 m (pc + 1) ls (.int (mI (mAnd x y)) :: rest))) : W p l e R s m args below meth c H locs cells slots Q (F0 m pc ls (.int (mI y) :: .int (mI x) :: rest)) := lv_iand hx hb hdg (by rw [show mI x &&& mI y = mI (mAnd x y) from (mI_self _).symm]; exact k)
theorem mw_ior (hx : p.tables.exec = Jvm.exec) (hb : c.code = cc) {x y : Int} (hdg : decode cc pc = .ok (.ior, 1)) (k : W p l e R s m args below meth c H locs cells slots Q (F0 m (pc + 1) ls (.int (mI (mOr x y)) :: rest))) : W p l e R s m args below meth c H locs cells slots Q (F0 m pc ls (.int (mI y) :: .int (mI x) :: rest)) := lv_ior hx hb hdg (by rw [show mI x ||| mI y = mI (mOr x y) from (mI_self _).symm]; exact k)
theorem mw_ishl (hx : p.tables.exec = Jvm.exec) (hb : c.code = cc) {x y : Int} (hdg : decode cc pc = .ok (.ishl, 1)) (k : W p l e R s m args below meth c H locs cells slots Q (F0 m (pc + 1) ls (.int (mI (mShl x y)) :: rest))) : W p l e R s m args below meth c H locs cells slots Q (F0 m pc ls (.int (mI y) :: .int (mI x) :: rest)) := lv_ishl hx hb hdg (by rw [show mI x <<< (mI y &&& 31) = mI (mShl x y) from (mI_self _).symm]; exact k)
theorem mw_ishr (hx : p.tables.exec = Jvm.exec) (hb : c.code = cc) {x y : Int} (hdg : decode cc pc = .ok (.ishr, 1)) (k : W p l e R s m args below meth c H locs cells slots Q (F0 m (pc + 1) ls (.int (mI (mShr x y)) :: rest))) : W p l e R s m args below meth c H locs cells slots Q (F0 m pc ls (.int (mI y) :: .int (mI x) :: rest)) := lv_ishr hx hb hdg (by rw [show mI x >>> (mI y &&& 31) = mI (mShr x y) from (mI_self _).symm]; exact k)
theorem mw_iushr (hx : p.tables.exec = Jvm.exec) (hb : c.code = cc) {x y : Int} (hdg : decode cc pc = .ok (.iushr, 1)) (k : W p l e R s m args below meth c H locs cells slots Q (F0 m (pc + 1) ls (.int (mI (mUsh x y)) :: rest))) : W p l e R s m args below meth c H locs cells slots Q (F0 m pc ls (.int (mI y) :: .int (mI x) :: rest)) := lv_iushr hx hb hdg rfl (by rw [show ((mI x).toUInt32 >>> ((mI y).toUInt32 &&& Int32.toUInt32 31)).toInt32 = mI (mUsh x y) from (mI_self _).symm]; exact k)
theorem mw_ldcw (hx : p.tables.exec = Jvm.exec) (hb : c.code = cc) {own : String} {index : Nat} {v : Int32} (z : Int) (h : v = mI z) (hown : s.vm.findClass own = some m.cls) (hconst : (Jvm.Cond.constant own index v).before args s = true) (hdg : decode cc pc = .ok (.ldc_w index, 3)) (k : W p l e R s m args below meth c H locs cells slots Q (F0 m (pc + 3) ls (.int (mI z) :: rest))) : W p l e R s m args below meth c H locs cells slots Q (F0 m pc ls rest) := lv_ldcw hx hb hown hconst hdg (by rw [← h] at k; exact k)
theorem mw_namei {x : Int} (k : ∀ y : Int, y = x → W p l e R s m args below meth c H locs cells slots Q (F0 m pc ls (.int (mI y) :: rest))) : W p l e R s m args below meth c H locs cells slots Q (F0 m pc ls (.int (mI x) :: rest)) := k x rfl
theorem mw_namel {x : Int} (k : ∀ y : Int, y = x → W p l e R s m args below meth c H locs cells slots Q (F0 m pc ls (.long (mL y) :: rest))) : W p l e R s m args below meth c H locs cells slots Q (F0 m pc ls (.long (mL x) :: rest)) := k x rfl
theorem mw_split {b : Prop} [Decidable b] (kt : b → W p l e R s m args below meth c H locs cells slots Q (F0 m pc ls (.int (mI 1) :: rest))) (kf : ¬ b → W p l e R s m args below meth c H locs cells slots Q (F0 m pc ls (.int (mI 0) :: rest))) : W p l e R s m args below meth c H locs cells slots Q (F0 m pc ls (.int (mI (mB b)) :: rest)) := by
  by_cases h : b
  · rw [mB_t h]; exact kt h
  · rw [mB_f h]; exact kf h
/-- a loop: its state x, an invariant, a measure that falls -/
theorem mw_loop {T : Type} {nL : Nat} (I : T → Prop) (μ : T → Nat) (head : Nat) (lv : T → List (Nat × Value)) (step : ∀ x, I x → (∀ y, I y → μ y < μ x → ∀ ls, lv_has ls nL (lv y) → W p l e R s m args below meth c H locs cells slots Q (F0 m head ls [])) → ∀ ls, lv_has ls nL (lv x) → W p l e R s m args below meth c H locs cells slots Q (F0 m head ls [])) (x0 : T) (h0 : I x0) (ls : Array Slot) (hl : lv_has ls nL (lv x0)) : W p l e R s m args below meth c H locs cells slots Q (F0 m head ls []) := by
  have key : ∀ (n : Nat) (x : T), μ x < n → I x → ∀ ls, lv_has ls nL (lv x) → W p l e R s m args below meth c H locs cells slots Q (F0 m head ls []) := by
    intro n
    induction n with
    | zero => intro x h; exact absurd h (Nat.not_lt_zero _)
    | succ n ih => intro x hx hI ls hl; exact step x hI (fun y hy hlt ls hl => ih y (by omega) hy ls hl) ls hl
  exact key (μ x0 + 1) x0 (Nat.lt_succ_self _) h0 ls hl
/-- .. that writes: with it goes what holds of the heap -/
theorem mw_loopM {T : Type} {nL : Nat} (I : T → Prop) (μ : T → Nat) (head : Nat) (lv : T → List (Nat × Value)) (Pw : T → Heap → List Loc → Prop) (step : ∀ x, I x → (∀ y, I y → μ y < μ x → ∀ H locs, Pw y H locs → ∀ ls, lv_has ls nL (lv y) → W p l e R s m args below meth c H locs cells slots Q (F0 m head ls [])) → ∀ H locs, Pw x H locs → ∀ ls, lv_has ls nL (lv x) → W p l e R s m args below meth c H locs cells slots Q (F0 m head ls [])) (x0 : T) (h0 : I x0) (hP0 : Pw x0 H locs) (ls : Array Slot) (hl : lv_has ls nL (lv x0)) : W p l e R s m args below meth c H locs cells slots Q (F0 m head ls []) := by
  have key : ∀ (n : Nat) (x : T), μ x < n → I x → ∀ H locs, Pw x H locs → ∀ ls, lv_has ls nL (lv x) → W p l e R s m args below meth c H locs cells slots Q (F0 m head ls []) := by
    intro n
    induction n with
    | zero => intro x h; exact absurd h (Nat.not_lt_zero _)
    | succ n ih => intro x hx hI H locs hP ls hl; exact step x hI (fun y hy hlt H locs hP ls hl => ih y (by omega) hy H locs hP ls hl) H locs hP ls hl
  exact key (μ x0 + 1) x0 (Nat.lt_succ_self _) h0 H locs hP0 ls hl
end MWB
/-! one bit -/
def mBit (z : Int) (k : Nat) : Int := (z % 4294967296) / 2 ^ k % 2
theorem mBit_r (z : Int) (k : Nat) : 0 ≤ mBit z k ∧ mBit z k ≤ 1 := by
  unfold mBit
  omega
theorem mBit_0 {z : Int} {k : Nat} (h : ¬ mBit z k = 1) : mBit z k = 0 := by
  have := mBit_r z k
  omega
theorem mI_toNat (z : Int) : ((mI z).toBitVec.toNat : Int) = z % 4294967296 := by
  have h : (mI z).toBitVec = BitVec.ofInt 32 z := rfl
  rw [h, BitVec.toNat_ofInt]
  have : (0 : Int) ≤ z % ((2 ^ 32 : Nat) : Int) := Int.emod_nonneg _ (by decide)
  have e : ((2 ^ 32 : Nat) : Int) = 4294967296 := by decide
  rw [e] at this ⊢
  omega
theorem nI_mI (n : Nat) : nI n = mI (n : Int) := (Int32.ofInt_eq_ofNat (n := n)).symm
theorem mI_31 (k : Nat) : k < 32 → ((mI (k : Int) &&& 31).toBitVec.smod 32).toNat = k := by
  have h : ∀ k : Nat, k < 32 → ((mI (k : Int) &&& 31).toBitVec.smod 32).toNat = k := by decide +kernel
  exact h k
theorem mI_31u (k : Nat) : k < 32 → (((mI (k : Int)).toUInt32 &&& Int32.toUInt32 31).toBitVec % 32).toNat = k := by
  have h : ∀ k : Nat, k < 32 → (((mI (k : Int)).toUInt32 &&& Int32.toUInt32 31).toBitVec % 32).toNat = k := by decide +kernel
  exact h k
theorem mAnd_1 (x : Int) : mAnd x 1 = x % 2 := by
  have h := pk_and (mI x) (m := mI 1) 1 (by decide +kernel)
  unfold mAnd
  rw [h, nI_mI]
  have e := mI_toNat x
  have e2 : (((mI x).toBitVec.toNat % 2 ^ 1 : Nat) : Int) = x % 2 := by
    have : ((2 ^ 1 : Nat) : Int) = 2 := by decide
    rw [Int.natCast_emod, e, this]
    omega
  rw [e2, mI_t (by omega)]
theorem mShr_e {z : Int} (hz : mRI z) (k : Nat) (hk : k < 32) : mShr z (k : Int) = z / 2 ^ k := by
  unfold mShr
  have e1 : ((2 : Int) ^ k) = ((2 ^ k : Nat) : Int) := by norm_cast
  rw [pk_shr (mI z) (mI (k : Int) &&& 31) k (mI_31 k hk), mI_t hz, Int.shiftRight_eq_div_pow, e1]
theorem mUsh_e (z : Int) (k : Nat) (hk : k < 32) : (mUsh z (k : Int)) % 4294967296 = (z % 4294967296) / 2 ^ k := by
  have h := pk_ushr (mI z) (mI (k : Int)) k (mI_31u k hk)
  have e := mI_toNat z
  have e1 := mI_toNat (mUsh z (k : Int))
  have e2 : mI (mUsh z (k : Int)) = ((mI z).toUInt32 >>> ((mI (k : Int)).toUInt32 &&& Int32.toUInt32 31)).toInt32 := mI_self _
  rw [e2, h] at e1
  have e3 : ((2 : Int) ^ k) = ((2 ^ k : Nat) : Int) := by norm_cast
  rw [← e1, Int.natCast_ediv, e, e3]
theorem m_pow (k : Nat) : (0 : Int) < 2 ^ k := Int.pow_pos (by omega)
theorem mBit_ush (z : Int) (k : Nat) (hk : k < 32) : mAnd (mUsh z (k : Int)) 1 = mBit z k := by
  rw [mAnd_1]
  have h := mUsh_e z k hk
  unfold mBit
  rw [← h]
  omega
theorem mBit_shr {z : Int} (hz : mRI z) (k : Nat) (hk : k < 32) : mAnd (mShr z (k : Int)) 1 = mBit z k := by
  rw [mAnd_1, mShr_e hz k hk]
  unfold mBit
  rcases (by omega : 0 ≤ z ∨ z < 0) with h | h
  · rw [Int.emod_eq_of_lt h (by have := hz.2; omega)]
  · have e : z % 4294967296 = z + 4294967296 := by have := hz.1; omega
    have e2 : (4294967296 : Int) = 2 ^ k * (2 * 2 ^ (31 - k)) := by
      have : (4294967296 : Int) = 2 ^ (k + ((31 - k) + 1)) := by
        have : k + ((31 - k) + 1) = 32 := by omega
        rw [this]; decide
      rw [this, Int.pow_add, Int.pow_succ, Int.mul_comm (2 ^ (31 - k)) 2]
    rw [e, e2, Int.add_mul_ediv_left _ _ (by have := m_pow k; omega)]
    omega
/-- how many bits below k are set -/
def mPop (z : Int) : Nat → Int
  | 0 => 0
  | k + 1 => mPop z k + mBit z k
theorem mPop_r (z : Int) : ∀ k : Nat, 0 ≤ mPop z k ∧ mPop z k ≤ k
  | 0 => by simp [mPop]
  | k + 1 => by
    have h := mPop_r z k
    have h2 := mBit_r z k
    unfold mPop
    omega
theorem mPop_mono (z : Int) (j : Nat) : ∀ n : Nat, mPop z j ≤ mPop z (j + n)
  | 0 => Int.le_refl _
  | n + 1 => by
    have h := mPop_mono z j n
    have h2 := mBit_r z (j + n)
    show mPop z j ≤ mPop z (j + n) + mBit z (j + n)
    omega
/-- a bit put in, above all that are there -/
theorem mShl_e (k : Nat) (hk : k < 31) : mShl 1 (k : Int) = 2 ^ k := by
  have h : ∀ k : Nat, k < 31 → mShl 1 (k : Int) = 2 ^ k := by decide +kernel
  exact h k hk
theorem mOr_e {a : Int} {k : Nat} (h0 : 0 ≤ a) (h : a < 2 ^ k) (hk : k < 16) : mOr a (2 ^ k) = a + 2 ^ k := by
  obtain ⟨n, rfl⟩ := Int.eq_ofNat_of_zero_le h0
  have hn : n < 2 ^ k := by exact_mod_cast h
  have h16 : 2 ^ k < 2 ^ 16 := Nat.pow_lt_pow_right (by decide) hk
  have e : mI (n : Int) ||| mI ((2 : Int) ^ k) = mI ((n : Int) + 2 ^ k) := by
    have e1 : ((2 : Int) ^ k) = ((2 ^ k : Nat) : Int) := by norm_cast
    rw [e1, ← nI_mI, ← nI_mI, ← Int.natCast_add, ← nI_mI]
    apply Int32.toBitVec_inj.1
    show BitVec.ofNat 32 n ||| BitVec.ofNat 32 (2 ^ k) = BitVec.ofNat 32 (n + 2 ^ k)
    have e3 : n + 2 ^ k = n ||| 2 ^ k := by
      have := Nat.two_pow_add_eq_or_of_lt hn 1
      rw [Nat.mul_one] at this
      rw [Nat.add_comm, this, Nat.or_comm]
    rw [e3]
    apply BitVec.eq_of_getLsbD_eq
    intro i hi
    simp [hi]
  unfold mOr
  rw [e, mI_t]
  have e1 : ((2 : Int) ^ k) = ((2 ^ k : Nat) : Int) := by norm_cast
  rw [e1]
  omega
theorem mOr_0 {a : Int} (h : mRI a) : mOr a 0 = a := by
  unfold mOr
  rw [mI_0]
  have : mI a ||| 0 = mI a := by simp
  rw [this, mI_t h]
