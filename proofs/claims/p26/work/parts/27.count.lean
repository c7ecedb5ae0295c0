/-! the bits of an int, counted as the JDK counts them -/
def mPn (N : Nat) : Nat → Nat
  | 0 => 0
  | k + 1 => mPn N k + N / 2 ^ k % 2
theorem mPn_8 (M b : Nat) (h : b < 256) : mPn (256 * M + b) 8 = mPn b 8 := by
  simp only [mPn]
  omega
theorem mPn_split (M b : Nat) (h : b < 256) : ∀ n : Nat, mPn (256 * M + b) (8 + n) = mPn b 8 + mPn M n
  | 0 => mPn_8 M b h
  | n + 1 => by
    have ih := mPn_split M b h n
    show mPn (256 * M + b) (8 + n) + (256 * M + b) / 2 ^ (8 + n) % 2 = mPn b 8 + (mPn M n + M / 2 ^ n % 2)
    rw [ih, Nat.pow_add, ← Nat.div_div_eq_div_mul]
    have e : (256 * M + b) / 2 ^ 8 = M := by omega
    rw [e]
    omega
theorem m_and8 (u w m n : Nat) (hw : w < 256) (hn : n < 256) : (256 * u + w) &&& (256 * m + n) = 256 * (u &&& m) + (w &&& n) := by
  have h1 : w &&& n < 2 ^ 8 := Nat.and_lt_two_pow w hn
  apply Nat.eq_of_testBit_eq
  intro i
  have e1 := Nat.testBit_two_pow_mul_add u (i := 8) (b := w) hw i
  have e2 := Nat.testBit_two_pow_mul_add m (i := 8) (b := n) hn i
  have e3 := Nat.testBit_two_pow_mul_add (u &&& m) (i := 8) (b := w &&& n) h1 i
  have p8 : (2 : Nat) ^ 8 = 256 := by decide
  rw [p8] at e1 e2 e3
  rw [Nat.testBit_and, e1, e2, e3]
  split
  · rw [Nat.testBit_and]
  · rw [Nat.testBit_and]
theorem m_and32 (b0 b1 b2 b3 m : Nat) (h0 : b0 < 256) (h1 : b1 < 256) (h2 : b2 < 256) (hm : m < 256) : (256 * (256 * (256 * b3 + b2) + b1) + b0) &&& (256 * (256 * (256 * m + m) + m) + m) = 256 * (256 * (256 * (b3 &&& m) + (b2 &&& m)) + (b1 &&& m)) + (b0 &&& m) := by
  rw [m_and8 _ _ _ _ h0 hm, m_and8 _ _ _ _ h1 hm, m_and8 _ _ _ _ h2 hm]
def mG1 (b : Nat) : Nat := b - ((b / 2) &&& 85)
def mG2 (a : Nat) : Nat := (a &&& 51) + ((a / 4) &&& 51)
theorem m_b1 : ∀ t, t < 2 → ∀ b, b < 256 → (128 * t + b / 2) &&& 85 = (b / 2) &&& 85 := by decide +kernel
theorem m_b1le : ∀ b, b < 256 → (b / 2) &&& 85 ≤ b := by decide +kernel
theorem m_b2 : ∀ t, t < 4 → ∀ a, a < 256 → (64 * t + a / 4) &&& 51 = (a / 4) &&& 51 := by decide +kernel
theorem m_b2le : ∀ a, a < 256 → mG2 a ≤ 102 := by decide +kernel
theorem m_b3 : ∀ b, b < 256 → mG2 (mG1 b) % 16 ≤ 4 ∧ mG2 (mG1 b) / 16 ≤ 4 := by decide +kernel
theorem m_b4 : ∀ t, t < 5 → ∀ b, b < 256 → (mG2 (mG1 b) + 16 * t + mG2 (mG1 b) / 16) &&& 15 = mPn b 8 := by decide +kernel
theorem m_b5 : ∀ b, b < 256 → mPn b 8 ≤ 8 := by decide +kernel
def mNt (x : Int) : Nat := (mI x).toBitVec.toNat
theorem mNt_z (x : Int) : (mNt x : Int) = x % 4294967296 := mI_toNat x
theorem mNt_lt (x : Int) : mNt x < 4294967296 := (mI x).toBitVec.isLt
theorem mNt_and (x y : Int) : mNt (mAnd x y) = mNt x &&& mNt y := by
  unfold mNt mAnd
  rw [mI_self]
  rfl
theorem mNt_ush (x : Int) (k : Nat) (hk : k < 32) : mNt (mUsh x (k : Int)) = mNt x / 2 ^ k := by
  unfold mNt
  have e2 : mI (mUsh x (k : Int)) = ((mI x).toUInt32 >>> ((mI (k : Int)).toUInt32 &&& Int32.toUInt32 31)).toInt32 := mI_self _
  rw [e2]
  exact pk_ushr (mI x) (mI (k : Int)) k (mI_31u k hk)
theorem mNt_add (x y : Int) : mNt (x + y) = (mNt x + mNt y) % 4294967296 := by
  have h1 := mNt_z x
  have h2 := mNt_z y
  have h3 := mNt_z (x + y)
  omega
theorem mNt_sub (x y : Int) : mNt (x - y) = (mNt x + 4294967296 - mNt y) % 4294967296 := by
  have h1 := mNt_z x
  have h2 := mNt_z y
  have h3 := mNt_z (x - y)
  have h4 := mNt_lt y
  omega
theorem mPop_n (z : Int) : ∀ k : Nat, mPop z k = (mPn (mNt z) k : Int)
  | 0 => rfl
  | k + 1 => by
    have ih := mPop_n z k
    show mPop z k + mBit z k = ((mPn (mNt z) k + mNt z / 2 ^ k % 2 : Nat) : Int)
    rw [ih]
    unfold mBit
    rw [← mNt_z]
    have e : ((mNt z / 2 ^ k % 2 : Nat) : Int) = (mNt z : Int) / 2 ^ k % 2 := by
      rw [Int.natCast_emod, Int.natCast_ediv]
      norm_cast
    rw [Int.natCast_add, e]
theorem m_last (a b c d : Nat) (ha : a ≤ 8) (hb : b ≤ 8) (hc : c ≤ 8) (hd : d ≤ 8) (y y1 y2 : Nat) (hy : y = 256 * (256 * (256 * d + c) + b) + a) (h1 : y1 = y + y / 256) (h2 : y2 = y1 + y1 / 65536) : y2 % 64 = a + b + c + d := by
  have e1 : y / 256 = 256 * (256 * d + c) + b := by omega
  have e2 : y1 = 65536 * (256 * d + (c + d)) + (256 * (b + c) + (a + b)) := by omega
  have e3 : y1 / 65536 = 256 * d + (c + d) := by omega
  have e4 : y2 = 64 * (1024 * (256 * d + (c + d)) + 4 * (b + c) + 4 * d) + (a + b + c + d) := by omega
  omega
theorem m_bitCount {z x1 x2 x3 x4 x5 : Int} (e1 : x1 = z - mAnd (mUsh z 1) 1431655765) (e2 : x2 = mAnd x1 858993459 + mAnd (mUsh x1 2) 858993459) (e3 : x3 = mAnd (x2 + mUsh x2 4) 252645135) (e4 : x4 = x3 + mUsh x3 8) (e5 : x5 = x4 + mUsh x4 16) : mAnd x5 63 = mPop z 32 := by
  have hN := mNt_lt z
  obtain ⟨N, eN⟩ : ∃ N, N = mNt z := ⟨_, rfl⟩
  rw [← eN] at hN
  obtain ⟨b0, hb0⟩ : ∃ b, b = N % 256 := ⟨_, rfl⟩
  obtain ⟨b1, hb1⟩ : ∃ b, b = N / 256 % 256 := ⟨_, rfl⟩
  obtain ⟨b2, hb2⟩ : ∃ b, b = N / 65536 % 256 := ⟨_, rfl⟩
  obtain ⟨b3, hb3⟩ : ∃ b, b = N / 16777216 := ⟨_, rfl⟩
  have l0 : b0 < 256 := by omega
  have l1 : b1 < 256 := by omega
  have l2 : b2 < 256 := by omega
  have l3 : b3 < 256 := by omega
  have eb : N = 256 * (256 * (256 * b3 + b2) + b1) + b0 := by omega
  clear hb0 hb1 hb2 hb3
  -- step 1
  have c1 : mNt (mAnd (mUsh z 1) 1431655765) = 256 * (256 * (256 * ((b3 / 2) &&& 85) + ((b2 / 2) &&& 85)) + ((b1 / 2) &&& 85)) + ((b0 / 2) &&& 85) := by
    rw [mNt_and, show (1 : Int) = ((1 : Nat) : Int) from rfl, mNt_ush z 1 (by decide), ← eN]
    have em : mNt 1431655765 = 256 * (256 * (256 * 85 + 85) + 85) + 85 := by decide +kernel
    have ed : N / 2 ^ 1 = 256 * (256 * (256 * (b3 / 2) + (128 * (b3 % 2) + b2 / 2)) + (128 * (b2 % 2) + b1 / 2)) + (128 * (b1 % 2) + b0 / 2) := by omega
    rw [em, ed, m_and32 _ _ _ _ _ (by omega) (by omega) (by omega) (by omega), m_b1 _ (by omega) _ l2, m_b1 _ (by omega) _ l1, m_b1 _ (by omega) _ l0]
  have x1e : mNt x1 = 256 * (256 * (256 * mG1 b3 + mG1 b2) + mG1 b1) + mG1 b0 := by
    rw [e1, mNt_sub, c1, ← eN]
    have q0 := m_b1le b0 l0
    have q1 := m_b1le b1 l1
    have q2 := m_b1le b2 l2
    have q3 := m_b1le b3 l3
    unfold mG1
    omega
  have g0 : mG1 b0 < 256 := by unfold mG1; omega
  have g1 : mG1 b1 < 256 := by unfold mG1; omega
  have g2 : mG1 b2 < 256 := by unfold mG1; omega
  have g3 : mG1 b3 < 256 := by unfold mG1; omega
  have em2 : mNt 858993459 = 256 * (256 * (256 * 51 + 51) + 51) + 51 := by decide +kernel
  have x2e : mNt x2 = 256 * (256 * (256 * mG2 (mG1 b3) + mG2 (mG1 b2)) + mG2 (mG1 b1)) + mG2 (mG1 b0) := by
    rw [e2, mNt_add, mNt_and, mNt_and, show (2 : Int) = ((2 : Nat) : Int) from rfl, mNt_ush x1 2 (by decide), em2, x1e]
    have ed : (256 * (256 * (256 * mG1 b3 + mG1 b2) + mG1 b1) + mG1 b0) / 2 ^ 2 = 256 * (256 * (256 * (mG1 b3 / 4) + (64 * (mG1 b3 % 4) + mG1 b2 / 4)) + (64 * (mG1 b2 % 4) + mG1 b1 / 4)) + (64 * (mG1 b1 % 4) + mG1 b0 / 4) := by omega
    rw [ed, m_and32 _ _ _ _ _ g0 g1 g2 (by omega), m_and32 _ _ _ _ _ (by omega) (by omega) (by omega) (by omega), m_b2 _ (by omega) _ g2, m_b2 _ (by omega) _ g1, m_b2 _ (by omega) _ g0]
    have q0 := m_b2le _ g0
    have q1 := m_b2le _ g1
    have q2 := m_b2le _ g2
    have q3 := m_b2le _ g3
    unfold mG2 at q0 q1 q2 q3 ⊢
    omega
  have n0 := m_b3 b0 l0
  have n1 := m_b3 b1 l1
  have n2 := m_b3 b2 l2
  have n3 := m_b3 b3 l3
  obtain ⟨f0, hf0⟩ : ∃ f, f = mG2 (mG1 b0) := ⟨_, rfl⟩
  obtain ⟨f1, hf1⟩ : ∃ f, f = mG2 (mG1 b1) := ⟨_, rfl⟩
  obtain ⟨f2, hf2⟩ : ∃ f, f = mG2 (mG1 b2) := ⟨_, rfl⟩
  obtain ⟨f3, hf3⟩ : ∃ f, f = mG2 (mG1 b3) := ⟨_, rfl⟩
  have k0 : ∀ t, t < 5 → (f0 + 16 * t + f0 / 16) &&& 15 = mPn b0 8 := fun t ht => by rw [hf0]; exact m_b4 t ht b0 l0
  have k1 : ∀ t, t < 5 → (f1 + 16 * t + f1 / 16) &&& 15 = mPn b1 8 := fun t ht => by rw [hf1]; exact m_b4 t ht b1 l1
  have k2 : ∀ t, t < 5 → (f2 + 16 * t + f2 / 16) &&& 15 = mPn b2 8 := fun t ht => by rw [hf2]; exact m_b4 t ht b2 l2
  have k3 : ∀ t, t < 5 → (f3 + 16 * t + f3 / 16) &&& 15 = mPn b3 8 := fun t ht => by rw [hf3]; exact m_b4 t ht b3 l3
  rw [← hf0] at n0
  rw [← hf1] at n1
  rw [← hf2] at n2
  rw [← hf3] at n3
  rw [← hf0, ← hf1, ← hf2, ← hf3] at x2e
  have x3e : mNt x3 = 256 * (256 * (256 * mPn b3 8 + mPn b2 8) + mPn b1 8) + mPn b0 8 := by
    have em3 : mNt 252645135 = 256 * (256 * (256 * 15 + 15) + 15) + 15 := by decide +kernel
    rw [e3, mNt_and, mNt_add, show (4 : Int) = ((4 : Nat) : Int) from rfl, mNt_ush x2 4 (by decide), em3, x2e]
    have ed : (256 * (256 * (256 * f3 + f2) + f1) + f0 + (256 * (256 * (256 * f3 + f2) + f1) + f0) / 2 ^ 4) % 4294967296 = 256 * (256 * (256 * (f3 + 16 * 0 + f3 / 16) + (f2 + 16 * (f3 % 16) + f2 / 16)) + (f1 + 16 * (f2 % 16) + f1 / 16)) + (f0 + 16 * (f1 % 16) + f0 / 16) := by omega
    rw [ed, m_and32 _ _ _ _ _ (by omega) (by omega) (by omega) (by omega), k3 0 (by omega), k2 _ (by omega), k1 _ (by omega), k0 _ (by omega)]
  have p0 := m_b5 b0 l0
  have p1 := m_b5 b1 l1
  have p2 := m_b5 b2 l2
  have p3 := m_b5 b3 l3
  have x4e : mNt x4 = mNt x3 + mNt x3 / 256 := by
    rw [e4, mNt_add, show (8 : Int) = ((8 : Nat) : Int) from rfl, mNt_ush x3 8 (by decide), x3e]
    omega
  have x5e : mNt x5 = mNt x4 + mNt x4 / 65536 := by
    rw [e5, mNt_add, show (16 : Int) = ((16 : Nat) : Int) from rfl, mNt_ush x4 16 (by decide), x4e, x3e]
    omega
  have r : mNt (mAnd x5 63) = mPn b0 8 + mPn b1 8 + mPn b2 8 + mPn b3 8 := by
    have em5 : mNt 63 = 2 ^ 6 - 1 := by decide +kernel
    rw [mNt_and, em5, Nat.and_two_pow_sub_one_eq_mod]
    exact m_last _ _ _ _ p0 p1 p2 p3 _ _ _ x3e x4e x5e
  have s : mPop z 32 = ((mPn b0 8 + mPn b1 8 + mPn b2 8 + mPn b3 8 : Nat) : Int) := by
    rw [mPop_n, ← eN, eb]
    have t1 := mPn_split (256 * (256 * b3 + b2) + b1) b0 l0 24
    have t2 := mPn_split (256 * b3 + b2) b1 l1 16
    have t3 := mPn_split b3 b2 l2 8
    rw [show (32 : Nat) = 8 + 24 from rfl, t1, show (24 : Nat) = 8 + 16 from rfl, t2, show (16 : Nat) = 8 + 8 from rfl, t3]
    omega
  have z1 := mNt_z (mAnd x5 63)
  have z2 := mAnd_r x5 63
  rw [r] at z1
  omega
