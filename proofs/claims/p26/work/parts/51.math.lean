/-! what the property says, in numbers: months -/
theorem m_month {v : Nat → Int} {L P : Int → Int} (hok : mOK v L P) (d : Int) : mMb v (mMonth v d) ≤ d ∧ d - 100 < mMb v (mMonth v d) ∧ mLunar v d = d - mMb v (mMonth v d) ∧ mMonth v (mMb v (mMonth v d)) = mMonth v d ∧ mMonth v (mMb v (mMonth v d) - 1) = mMonth v d - 1 ∧ (mMb v (mMonth v d + 1) = d + 1 → mMonth v (d + 1) = mMonth v d + 1) ∧ (¬ mMb v (mMonth v d + 1) = d + 1 → mMonth v (d + 1) = mMonth v d) := by
  have mb := fun (m x : Int) => m_mb hok (m := m) (x := x)
  have lr := m_lun_r hok d
  obtain ⟨-, -, ⟨o3, o4, o5, o6, o7, o8⟩, -⟩ := hok
  have up : ∀ x, mMonth v (x + 1) ≤ mMonth v x + 1 := by
    intro x
    have a1 : (x + v 3) * v 2 < (mMonth v x + 1) * v 1 := Int.lt_ediv_add_one_mul_self _ (by omega)
    have a2 : mMonth v (x + 1) < mMonth v x + 2 ↔ (x + 1 + v 3) * v 2 < (mMonth v x + 2) * v 1 := Int.ediv_lt_iff_lt_mul (by omega)
    have e1 : (x + 1 + v 3) * v 2 = (x + v 3) * v 2 + v 2 := by
      have e : x + 1 + v 3 = (x + v 3) + 1 := by omega
      rw [e, Int.add_mul, Int.one_mul]
    have e2 : (mMonth v x + 2) * v 1 = (mMonth v x + 1) * v 1 + v 1 := by
      have e : mMonth v x + 2 = (mMonth v x + 1) + 1 := by omega
      rw [e, Int.add_mul, Int.one_mul]
    have : mMonth v (x + 1) < mMonth v x + 2 := a2.mpr (by omega)
    omega
  obtain ⟨mo, hmo⟩ : ∃ mo, mo = mMonth v d := ⟨_, rfl⟩
  obtain ⟨bg, hbg⟩ : ∃ bg, bg = mMb v mo := ⟨_, rfl⟩
  rw [← hmo, ← hbg]
  have h1 := mb mo d
  have h2 := mb mo bg
  have h3 := mb (mo + 1) bg
  have h4 := mb (mo + 1) d
  have h5 := mb mo (bg - 1)
  have h6 := up (bg - 1)
  have h7 := mb (mo + 1) (d + 1)
  have h8 := up d
  have h9 := mb mo (d + 1)
  have e9 : bg - 1 + 1 = bg := by omega
  rw [e9] at h6
  rw [← hbg] at h1 h2 h5 h9
  rw [← hmo] at h1 h4 h8
  have hlun : mLunar v d = d - bg := by
    obtain ⟨X, hX⟩ : ∃ X, X = (d + v 3) * v 2 := ⟨_, rfl⟩
    obtain ⟨k, hk⟩ : ∃ k, k = (-mo * v 1) / v 2 := ⟨_, rfl⟩
    have q1 : k * v 2 ≤ -mo * v 1 := by rw [hk]; exact Int.ediv_mul_le _ (by omega)
    have q2 : -mo * v 1 < (k + 1) * v 2 := by rw [hk]; exact Int.lt_ediv_add_one_mul_self _ (by omega)
    have q3 : bg = -k - v 3 := by rw [hbg, hk]; rfl
    have q4 : X % v 1 = X - v 1 * mo := by
      rw [Int.emod_def, hX, hmo]; rfl
    have q5 : mLunar v d = (X - v 1 * mo) / v 2 := by rw [← q4, hX]; rfl
    have q6 : v 1 * mo = mo * v 1 := Int.mul_comm _ _
    rw [Int.neg_mul] at q1 q2
    rw [Int.add_mul, Int.one_mul] at q2
    have b1 : d - bg ≤ (X - v 1 * mo) / v 2 := by
      rw [Int.le_ediv_iff_mul_le (by omega)]
      have e : d - bg = (d + v 3) + k := by omega
      rw [e, Int.add_mul, ← hX]
      omega
    have b2 : (X - v 1 * mo) / v 2 < d - bg + 1 := by
      rw [Int.ediv_lt_iff_lt_mul (by omega)]
      have e : d - bg + 1 = (d + v 3) + k + 1 := by omega
      rw [e, Int.add_mul, Int.add_mul, ← hX, Int.one_mul]
      omega
    rw [q5]
    omega
  refine ⟨by omega, by omega, hlun, by omega, by omega, fun h => by omega, fun h => by omega⟩
/-! years -/
theorem m_year {v : Nat → Int} {L P : Int → Int} (hok : mOK v L P) {d : Int} (hd : -900000 ≤ d ∧ d ≤ 900000) : mBeg v (mYr v d) ≤ d ∧ d < mBeg v (mYr v d) + mLen v (mYr v d) ∧ -9500 ≤ mYr v d ∧ mYr v d ≤ 9500 := by
  have bl := fun (y x : Int) => m_beg_le hok (y := y) (d := x)
  have ln := m_len hok (mYr v d)
  have k1 := bl (mYr v d) d
  have k2 := bl (mYr v d + 1) d
  have k3 := bl 9501 d
  have k4 := bl (-9500) d
  obtain ⟨-, -, -, ⟨o9, o10, o11, o12, o13, o14, o15, o16⟩⟩ := hok
  have c1 : 900000 < mBeg v 9501 := by
    have e : 0 ≤ (v 5 * 9501 + v 6) / v 7 := Int.ediv_nonneg (by omega) (by omega)
    unfold mBeg
    omega
  have c2 : mBeg v (-9500) ≤ -900000 := by
    have e : (v 5 * (-9500) + v 6) / v 7 < 1 := by
      rw [Int.ediv_lt_iff_lt_mul (by omega)]
      omega
    unfold mBeg
    omega
  omega
theorem m_len_r {v : Nat → Int} {L P : Int → Int} (hok : mOK v L P) (y : Int) : (mLeap v y → mLen v y = v 4 + 1) ∧ (¬ mLeap v y → mLen v y = v 4) ∧ 100 ≤ mLen v y ∧ mLen v y ≤ 501 := by
  obtain ⟨-, -, -, ⟨o9, o10, o11, o12, o13, o14, o15, o16⟩⟩ := hok
  unfold mLen
  by_cases c : mLeap v y
  · rw [if_pos c]
    exact ⟨fun _ => rfl, fun h => absurd c h, by omega, by omega⟩
  · rw [if_neg c]
    exact ⟨fun h => absurd h c, fun _ => rfl, by omega, by omega⟩
/-! a market -/
theorem m_dv {L a j r : Int} (hL : 0 < L) (e : a = L * j + r) (h0 : 0 ≤ r) (h1 : r < L) : a / L = j := by
  rw [e, Int.add_comm, Int.add_mul_ediv_left _ _ (by omega), Int.ediv_eq_zero_of_lt h0 h1]
  omega
theorem m_mk {L P d : Int} (hL : 1 ≤ L ∧ L ≤ 60) (hP : 0 ≤ P ∧ P < L) : (d ≤ d + (P - d) % L ∧ d + (P - d) % L < d + 60 ∧ (d + (P - d) % L) % L = P ∧ (d + (P - d) % L - P) / L - (d - 1 - P) / L = 1 ∧ (¬ d + (P - d) % L = d → (d + (P - d) % L - 1 - P) / L - (d - 1 - P) / L = 0)) := by
  have r1 := m_mod_r (a := P - d) (b := L) (by omega)
  have h2 := m_next2 (L := L) (P := P) (d := d) (by omega) hP.1 hP.2
  obtain ⟨x, hx⟩ : ∃ x, x = d + (P - d) % L := ⟨_, rfl⟩
  obtain ⟨j, hj⟩ := (m_mod_iff (x := x) (L := L) (P := P) (by omega) hP.1 hP.2).mp (by rw [hx]; exact h2)
  rw [← hx] at h2 ⊢
  have e1 : (x - P) / L = j := m_dv (r := 0) (by omega) (by omega) (by omega) (by omega)
  have e2 : (d - 1 - P) / L = j - 1 := m_dv (r := L + (d - x) - 1) (by omega) (by rw [Int.mul_sub, Int.mul_one]; omega) (by omega) (by omega)
  refine ⟨by omega, by omega, h2, by rw [e1, e2]; omega, fun h => ?_⟩
  have e3 : (x - 1 - P) / L = j - 1 := m_dv (r := L - 1) (by omega) (by rw [Int.mul_sub, Int.mul_one]; omega) (by omega) (by omega)
  rw [e3, e2]; omega
theorem m_nr {L P d x : Int} (hL : 1 ≤ L ∧ L ≤ 60) (hP : 0 ≤ P ∧ P < L) (hx : x = if (d - P) % L ≤ L - (d - P) % L then d - (d - P) % L else (d - (d - P) % L) + L) : x % L = P ∧ d - 60 < x ∧ x < d + 60 ∧ (x ≤ d → ¬ d - x = 0 → (d + (d - x) - 1 - P) / L - (d - (d - x) + 1 - 1 - P) / L = 0) ∧ (d < x → (d + (x - d) - 1 - P) / L - (d - (x - d) + 1 - 1 - P) / L = 0 ∧ ¬ (d - (x - d)) % L = P) := by
  have r1 := m_mod_r (a := d - P) (b := L) (by omega)
  have r2 := Int.mul_ediv_add_emod (d - P) L
  obtain ⟨s, hs⟩ : ∃ s, s = (d - P) % L := ⟨_, rfl⟩
  obtain ⟨j, hj⟩ : ∃ j, j = (d - P) / L := ⟨_, rfl⟩
  rw [← hs] at r1 r2 hx
  rw [← hj] at r2
  by_cases c : s ≤ L - s
  · rw [if_pos c] at hx
    refine ⟨?_, by omega, by omega, fun h1 h2 => ?_, fun h => by omega⟩
    · rw [m_mod_iff (by omega) hP.1 hP.2]; exact ⟨j, by omega⟩
    · have e1 : (d + (d - x) - 1 - P) / L = j := m_dv (r := 2 * s - 1) (by omega) (by omega) (by omega) (by omega)
      have e2 : (d - (d - x) + 1 - 1 - P) / L = j := m_dv (r := 0) (by omega) (by omega) (by omega) (by omega)
      rw [e1, e2]; omega
  · rw [if_neg c] at hx
    refine ⟨?_, by omega, by omega, fun h1 h2 => by omega, fun h => ⟨?_, fun h9 => ?_⟩⟩
    · rw [m_mod_iff (by omega) hP.1 hP.2]; exact ⟨j + 1, by rw [Int.mul_add, Int.mul_one]; omega⟩
    · have e1 : (d + (x - d) - 1 - P) / L = j := m_dv (r := L - 1) (by omega) (by omega) (by omega) (by omega)
      have e2 : (d - (x - d) + 1 - 1 - P) / L = j := m_dv (r := 2 * s - L) (by omega) (by omega) (by omega) (by omega)
      rw [e1, e2]; omega
    · obtain ⟨q, hq⟩ := (m_mod_iff (by omega) hP.1 hP.2).mp h9
      have e1 : (d - (x - d) - P) / L = j := m_dv (r := 2 * s - L) (by omega) (by omega) (by omega) (by omega)
      have e2 : (d - (x - d) - P) / L = q := m_dv (r := 0) (by omega) (by omega) (by omega) (by omega)
      have e3 : q = j := by rw [← e1, e2]
      subst e3
      omega
/-! sets of markets -/
theorem m_setbit (L P : Int → Int) (d : Int) (k : Nat) : ∀ n : Nat, k < n → n ≤ 16 → mBit (mSet L P d n) k = if d % L (k : Int) = P (k : Int) then 1 else 0
  | 0, h, _ => by omega
  | n + 1, h, hn => by
    have r0 := mSet_r L P d n
    have r1 := mSet_r L P d (n + 1)
    have p16 : (2 : Int) ^ (n + 1) ≤ 65536 := by
      have h1 : (2 : Nat) ^ (n + 1) ≤ 2 ^ 16 := Nat.pow_le_pow_right (by omega) hn
      have h2 : (((2 : Nat) ^ (n + 1) : Nat) : Int) = (2 : Int) ^ (n + 1) := by rw [Int.natCast_pow]; rfl
      have h3 : ((2 : Nat) ^ 16) = 65536 := by decide
      omega
    have pk := m_pow k
    have e0 : (2 : Int) ^ (n + 1) = 2 ^ n * 2 := Int.pow_succ 2 n
    have e1 : mSet L P d (n + 1) % 4294967296 = mSet L P d (n + 1) := Int.emod_eq_of_lt r1.1 (by omega)
    unfold mBit
    rw [e1]
    by_cases c : k = n
    · subst c
      show (mSet L P d k + (if d % L (k : Int) = P (k : Int) then 2 ^ k else 0)) / 2 ^ k % 2 = _
      by_cases c2 : d % L (k : Int) = P (k : Int)
      · rw [if_pos c2, if_pos c2, m_dv (L := 2 ^ k) (j := 1) (r := mSet L P d k) pk (by omega) r0.1 r0.2]
        rfl
      · rw [if_neg c2, if_neg c2, m_dv (L := 2 ^ k) (j := 0) (r := mSet L P d k) pk (by omega) r0.1 r0.2]
        rfl
    · have ih := m_setbit L P d k n (by omega) (by omega)
      unfold mBit at ih
      have e2 : mSet L P d n % 4294967296 = mSet L P d n := Int.emod_eq_of_lt r0.1 (by omega)
      rw [e2] at ih
      rw [← ih]
      show (mSet L P d n + (if d % L (n : Int) = P (n : Int) then 2 ^ n else 0)) / 2 ^ k % 2 = _
      by_cases c2 : d % L (n : Int) = P (n : Int)
      · rw [if_pos c2]
        have e3 : (2 : Int) ^ n = 2 ^ k * (2 * 2 ^ (n - k - 1)) := by
          have : n = k + (1 + (n - k - 1)) := by omega
          conv => lhs; rw [this]
          rw [Int.pow_add, Int.pow_add]
          rfl
        rw [e3, Int.add_mul_ediv_left _ _ (by omega), Int.add_mul_emod_self_left]
      · rw [if_neg c2, Int.add_zero]
theorem mNt_self {z : Int} (h : 0 ≤ z ∧ z < 2147483648) : (mNt z : Int) = z := by
  rw [mNt_z]
  exact Int.emod_eq_of_lt h.1 (by omega)
theorem mBit_test {z : Int} {i : Nat} : mBit z i = 1 ↔ (mNt z).testBit i = true := by
  have h1 := mNt_z z
  rw [Nat.testBit_eq_decide_div_mod_eq, decide_eq_true_iff]
  unfold mBit
  rw [← h1]
  have e : ((mNt z : Int) / 2 ^ i % 2) = ((mNt z / 2 ^ i % 2 : Nat) : Int) := by
    rw [Int.natCast_emod, Int.natCast_ediv, Int.natCast_pow]
    rfl
  rw [e]
  omega
/-- a set of markets, all of which are held, lies in what is held -/
theorem m_in {L P : Int → Int} {x z : Int} {n : Nat} (hn : n ≤ 16) (hz : 0 ≤ z ∧ z < 2147483648) (hu : z < 2 ^ n) (h : mAll L P z n x) : mAnd (mSet L P x n) z = z := by
  have hs := mSet_r L P x n
  have h1 : mNt (mAnd (mSet L P x n) z) = mNt z := by
    rw [mNt_and]
    apply Nat.eq_of_testBit_eq
    intro i
    rw [Nat.testBit_and]
    by_cases c : (mNt z).testBit i = true
    · have hb := mBit_test.mpr c
      have hi : i < n := by
        rcases (by omega : i < n ∨ n ≤ i) with q | q
        · exact q
        · exfalso
          have z1 : z < 2 ^ i := by
            have h1 : (2 : Nat) ^ n ≤ 2 ^ i := Nat.pow_le_pow_right (by omega) q
            have h2 : (((2 : Nat) ^ n : Nat) : Int) = (2 : Int) ^ n := by rw [Int.natCast_pow]; rfl
            have h3 : (((2 : Nat) ^ i : Nat) : Int) = (2 : Int) ^ i := by rw [Int.natCast_pow]; rfl
            omega
          unfold mBit at hb
          rw [Int.emod_eq_of_lt hz.1 (by omega), Int.ediv_eq_zero_of_lt hz.1 z1] at hb
          cases hb
      have hs := m_setbit L P x i n hi hn
      rw [if_pos (h i hi hb)] at hs
      rw [mBit_test.mp hs, c]
      rfl
    · have c2 : (mNt z).testBit i = false := by simpa using c
      rw [c2, Bool.and_false]
  have h2 := mNt_self hz
  have h3 := mNt_z (mAnd (mSet L P x n) z)
  have h4 := mAnd_r (mSet L P x n) z
  rw [h1, h2] at h3
  omega
