theorem mEx1_z {a : Prop} [Decidable a] (h : mEx1 a = 0) : a := by
  by_cases c : a
  · exact c
  · rw [mEx1_1 c] at h; cases h
theorem mEx2_z {a b : Prop} [Decidable a] [Decidable b] (h : mEx2 a b = 0) : a ∧ b := by
  by_cases c : a
  · by_cases c2 : b
    · exact ⟨c, c2⟩
    · rw [mEx2_2 c c2] at h; cases h
  · rw [mEx2_1 c] at h; cases h
theorem mEx3_z {a b c : Prop} [Decidable a] [Decidable b] [Decidable c] (h : mEx3 a b c = 0) : a ∧ b ∧ c := by
  by_cases c1 : a
  · by_cases c2 : b
    · by_cases c3 : c
      · exact ⟨c1, c2, c3⟩
      · rw [mEx3_3 c1 c2 c3] at h; cases h
    · rw [mEx3_2 c1 c2] at h; cases h
  · rw [mEx3_1 c1] at h; cases h
theorem mEx2_le {a b : Prop} [Decidable a] [Decidable b] : mEx2 a b ≤ 2 := by unfold mEx2; split <;> (try split) <;> omega
theorem mEx1_le {a : Prop} [Decidable a] : mEx1 a ≤ 1 := by unfold mEx1; split <;> omega
theorem mEx3_le {a b c : Prop} [Decidable a] [Decidable b] [Decidable c] : mEx3 a b c ≤ 3 := by unfold mEx3; split <;> (try split) <;> (try split) <;> omega
theorem m_cnt_r {L P : Int → Int} {m a b : Int} (hL : 1 ≤ L m) (hP : 0 ≤ P m ∧ P m < 60) (ha : -10000000 ≤ a ∧ a ≤ 10000000) (hb : -10000000 ≤ b ∧ b ≤ 10000000) : mRI (mCnt L P m a b) := by
  have h1 := m_div_r (a := b - P m) (b := L m) (by omega)
  have h2 := m_div_r (a := a - 1 - P m) (b := L m) (by omega)
  unfold mCnt
  omega
theorem m_bst_r (L P : Int → Int) (n : Nat) (z fr : Int) : ∀ k : Nat, fr ≤ mBst L P n z fr k ∧ mBst L P n z fr k ≤ fr + k
  | 0 => by unfold mBst; omega
  | k + 1 => by
    have h := m_bst_r L P n z fr k
    rw [mBst_s]
    split <;> omega
theorem m_mb_r {v : Nat → Int} {L P : Int → Int} (hok : mOK v L P) {m : Int} (hm : -100000 ≤ m ∧ m ≤ 100000) : -20000000 ≤ mMb v m ∧ mMb v m ≤ 20000000 := by
  have k1 := m_mb hok (m := m) (x := 20000000)
  have k2 := m_mb hok (m := m) (x := -20000001)
  obtain ⟨-, -, ⟨o3, o4, o5, o6, o7, o8⟩, -⟩ := hok
  have k3 : m ≤ mMonth v 20000000 := by
    show m ≤ (20000000 + v 3) * v 2 / v 1
    rw [Int.le_ediv_iff_mul_le (by omega)]
    have k4 : m * v 1 ≤ 100000 * v 1 := Int.mul_le_mul_of_nonneg_right (by omega) (by omega)
    have k5 : 19999000 * v 2 ≤ (20000000 + v 3) * v 2 := Int.mul_le_mul_of_nonneg_right (by omega) (by omega)
    omega
  have k6 : mMonth v (-20000001) < m := by
    show (-20000001 + v 3) * v 2 / v 1 < m
    rw [Int.ediv_lt_iff_lt_mul (by omega)]
    have k4 : -100000 * v 1 ≤ m * v 1 := Int.mul_le_mul_of_nonneg_right (by omega) (by omega)
    have k5 : (-20000001 + v 3) * v 2 ≤ -19999001 * v 2 := Int.mul_le_mul_of_nonneg_right (by omega) (by omega)
    omega
  omega
theorem rg_addMarket {v : Nat → Int} {L P : Int → Int} (hok : mOK v L P) (a b : Int) (ha : mRI a) (hb9 : mRI b) (h : (mEx2 ((1 ≤ a ∧ a ≤ 60) ∧ 0 ≤ b ∧ b ≤ a - 1) (v 0 < 16)) = 0) : mRI (v 0) := by
  have hx := mEx2_z h
  have hok9 := hok
  obtain ⟨⟨o1, o2⟩, oL, ⟨o3, o4, o5, o6, o7, o8⟩, ⟨o9, o10, o11, o12, o13, o14, o15, o16⟩⟩ := hok9
  have := o1
  omega

theorem rg_shift {v : Nat → Int} {L P : Int → Int} (hok : mOK v L P) (m9 b : Int) (hm9 : mRI m9) (hb9 : mRI b) (h : (mEx2 (mMk v m9) (-60 ≤ b ∧ b ≤ 60)) = 0) : mRI ((P m9 + b) % L m9) := by
  have hx := mEx2_z h
  have hok9 := hok
  obtain ⟨⟨o1, o2⟩, oL, ⟨o3, o4, o5, o6, o7, o8⟩, ⟨o9, o10, o11, o12, o13, o14, o15, o16⟩⟩ := hok9
  obtain ⟨l1, l2, l3, l4⟩ := oL m9 (by omega) (by omega)
  have := m_mod_r (a := P m9 + b) (b := L m9) (by omega)
  omega

theorem rg_next {v : Nat → Int} {L P : Int → Int} (hok : mOK v L P) (m9 d : Int) (hm9 : mRI m9) (hd9 : mRI d) (h : (mEx2 (mMk v m9) (mDay d)) = 0) : mRI (d + (P m9 - d) % L m9) := by
  have hx := mEx2_z h
  have hok9 := hok
  obtain ⟨⟨o1, o2⟩, oL, ⟨o3, o4, o5, o6, o7, o8⟩, ⟨o9, o10, o11, o12, o13, o14, o15, o16⟩⟩ := hok9
  obtain ⟨l1, l2, l3, l4⟩ := oL m9 (by omega) (by omega)
  have := m_mod_r (a := P m9 - d) (b := L m9) (by omega)
  omega

theorem rg_nearest {v : Nat → Int} {L P : Int → Int} (hok : mOK v L P) (m9 d : Int) (hm9 : mRI m9) (hd9 : mRI d) (h : (mEx2 (mMk v m9) (mDay d)) = 0) : mRI (mNear L P m9 d) := by
  have hx := mEx2_z h
  have hok9 := hok
  obtain ⟨⟨o1, o2⟩, oL, ⟨o3, o4, o5, o6, o7, o8⟩, ⟨o9, o10, o11, o12, o13, o14, o15, o16⟩⟩ := hok9
  obtain ⟨l1, l2, l3, l4⟩ := oL m9 (by omega) (by omega)
  have := m_mod_r (a := d - P m9) (b := L m9) (by omega)
  unfold mNear
  split <;> omega

theorem rg_times {v : Nat → Int} {L P : Int → Int} (hok : mOK v L P) (m9 a b : Int) (hm9 : mRI m9) (ha : mRI a) (hb9 : mRI b) (h : (mEx2 (mMk v m9) (mDay a ∧ mDay b ∧ a ≤ b)) = 0) : mRI (mCnt L P m9 a b) := by
  have hx := mEx2_z h
  have hok9 := hok
  obtain ⟨⟨o1, o2⟩, oL, ⟨o3, o4, o5, o6, o7, o8⟩, ⟨o9, o10, o11, o12, o13, o14, o15, o16⟩⟩ := hok9
  obtain ⟨l1, l2, l3, l4⟩ := oL m9 (by omega) (by omega)
  exact m_cnt_r l1 (by omega) (by omega) (by omega)

theorem rg_heldOn {v : Nat → Int} {L P : Int → Int} (hok : mOK v L P) (d : Int) (hd9 : mRI d) (h : (mEx1 (mDay d)) = 0) : mRI (mSet L P d (v 0).toNat) := by
  have hx := mEx1_z h
  have hok9 := hok
  obtain ⟨⟨o1, o2⟩, oL, ⟨o3, o4, o5, o6, o7, o8⟩, ⟨o9, o10, o11, o12, o13, o14, o15, o16⟩⟩ := hok9
  have h1 := mSet_r L P d (v 0).toNat
  have g1 : (2 : Nat) ^ (v 0).toNat ≤ 2 ^ 16 := Nat.pow_le_pow_right (by decide) (by omega)
  have g2 : ((2 : Int) ^ (v 0).toNat) = ((2 ^ (v 0).toNat : Nat) : Int) := by norm_cast
  have g3 : (2 : Nat) ^ 16 = 65536 := by decide
  omega

theorem rg_period {v : Nat → Int} {L P : Int → Int} (hok : mOK v L P) (z : Int) (hz : mRI z) (h : (mEx3 (1 ≤ mPop z 32 ∧ mPop z 32 ≤ 5) (mUsh z (v 0) = 0) (mMts v L P z)) = 0) : mRI (mSt (mFd L P z 0 (v 0).toNat)) := by
  have hx := mEx3_z h
  have hok9 := hok
  obtain ⟨⟨o1, o2⟩, oL, ⟨o3, o4, o5, o6, o7, o8⟩, ⟨o9, o10, o11, o12, o13, o14, o15, o16⟩⟩ := hok9
  obtain ⟨d0, s0, e0, e1, e2, e3, e4⟩ := (m_mts (z := z) hok (by omega)).2.1 hx.2.2
  omega

theorem rg_meeting {v : Nat → Int} {L P : Int → Int} (hok : mOK v L P) (z d : Int) (hz : mRI z) (hd9 : mRI d) (h : (mEx3 (mDay d ∧ 1 ≤ mPop z 32 ∧ mPop z 32 ≤ 5) (mUsh z (v 0) = 0) (mMts v L P z)) = 0) : mRI (d + (mD0 (mFd L P z 0 (v 0).toNat) - d) % mSt (mFd L P z 0 (v 0).toNat)) := by
  have hx := mEx3_z h
  have hok9 := hok
  obtain ⟨⟨o1, o2⟩, oL, ⟨o3, o4, o5, o6, o7, o8⟩, ⟨o9, o10, o11, o12, o13, o14, o15, o16⟩⟩ := hok9
  obtain ⟨d0, s0, e0, e1, e2, e3, e4⟩ := (m_mts (z := z) hok (by omega)).2.1 hx.2.2
  rw [e1, e2]
  have := m_mod_r (a := d0 - d) (b := s0) (by omega)
  omega

theorem rg_best {v : Nat → Int} {L P : Int → Int} (hok : mOK v L P) (z fr to9 : Int) (hz : mRI z) (hf9 : mRI fr) (ht9 : mRI to9) (h : (mEx2 (mDay fr ∧ mDay to9 ∧ fr ≤ to9 ∧ to9 ≤ fr + 2000) (mUsh z (v 0) = 0)) = 0) : mRI (mBst L P (v 0).toNat z fr (to9 + 1 - fr).toNat) := by
  have hx := mEx2_z h
  have hok9 := hok
  obtain ⟨⟨o1, o2⟩, oL, ⟨o3, o4, o5, o6, o7, o8⟩, ⟨o9, o10, o11, o12, o13, o14, o15, o16⟩⟩ := hok9
  have := m_bst_r L P (v 0).toNat z fr (to9 + 1 - fr).toNat
  omega

theorem rg_month {v : Nat → Int} {L P : Int → Int} (hok : mOK v L P) (d : Int) (hd9 : mRI d) (h : (mEx1 (mDay d)) = 0) : mRI (mMonth v d) := by
  have hx := mEx1_z h
  have hok9 := hok
  obtain ⟨⟨o1, o2⟩, oL, ⟨o3, o4, o5, o6, o7, o8⟩, ⟨o9, o10, o11, o12, o13, o14, o15, o16⟩⟩ := hok9
  have f1 := m_bound (d + v 3) (v 2) (A := 1001000) (B := 100) (by omega) (by omega)
  have f2 := m_div_r (a := (d + v 3) * v 2) (b := v 1) (by omega)
  have f3 : mMonth v d = (d + v 3) * v 2 / v 1 := rfl
  omega

theorem rg_lunarDay {v : Nat → Int} {L P : Int → Int} (hok : mOK v L P) (d : Int) (hd9 : mRI d) (h : (mEx1 (mDay d)) = 0) : mRI (mLunar v d) := by
  have hx := mEx1_z h
  have hok9 := hok
  obtain ⟨⟨o1, o2⟩, oL, ⟨o3, o4, o5, o6, o7, o8⟩, ⟨o9, o10, o11, o12, o13, o14, o15, o16⟩⟩ := hok9
  have := m_lun_r hok d
  omega

theorem rg_monthBegin {v : Nat → Int} {L P : Int → Int} (hok : mOK v L P) (m9 : Int) (hm9 : mRI m9) (h : (mEx1 (-100000 ≤ m9 ∧ m9 ≤ 100000)) = 0) : mRI (mMb v m9) := by
  have hx := mEx1_z h
  have hok9 := hok
  obtain ⟨⟨o1, o2⟩, oL, ⟨o3, o4, o5, o6, o7, o8⟩, ⟨o9, o10, o11, o12, o13, o14, o15, o16⟩⟩ := hok9
  have := m_mb_r hok hx
  omega

theorem rg_year {v : Nat → Int} {L P : Int → Int} (hok : mOK v L P) (d : Int) (hd9 : mRI d) (h : (mEx1 (mDay d)) = 0) : mRI (mYr v d) := by
  have hx := mEx1_z h
  have hok9 := hok
  obtain ⟨⟨o1, o2⟩, oL, ⟨o3, o4, o5, o6, o7, o8⟩, ⟨o9, o10, o11, o12, o13, o14, o15, o16⟩⟩ := hok9
  have := m_yr_r hok hx
  omega

theorem rg_placeInYear {v : Nat → Int} {L P : Int → Int} (hok : mOK v L P) (d : Int) (hd9 : mRI d) (h : (mEx1 (mDay d)) = 0) : mRI (d - mBeg v (mYr v d)) := by
  have hx := mEx1_z h
  have hok9 := hok
  obtain ⟨⟨o1, o2⟩, oL, ⟨o3, o4, o5, o6, o7, o8⟩, ⟨o9, o10, o11, o12, o13, o14, o15, o16⟩⟩ := hok9
  have h1 := m_yr_r hok hx
  have := m_beg_r hok h1
  omega

theorem rg_dayOf {v : Nat → Int} {L P : Int → Int} (hok : mOK v L P) (y pl : Int) (hy9 : mRI y) (hp9 : mRI pl) (h : (mEx1 (mYear y ∧ 0 ≤ pl ∧ pl < mLen v y)) = 0) : mRI (mBeg v y + pl) := by
  have hx := mEx1_z h
  have hok9 := hok
  obtain ⟨⟨o1, o2⟩, oL, ⟨o3, o4, o5, o6, o7, o8⟩, ⟨o9, o10, o11, o12, o13, o14, o15, o16⟩⟩ := hok9
  have h1 := m_beg_r hok (y := y) (by omega)
  have h2 : mLen v y ≤ v 4 + 1 := by unfold mLen; split <;> omega
  omega

theorem rg_timesInYear {v : Nat → Int} {L P : Int → Int} (hok : mOK v L P) (m9 y : Int) (hm9 : mRI m9) (hy9 : mRI y) (h : (mEx2 (mMk v m9) (mYear y)) = 0) : mRI (mCnt L P m9 (mBeg v y) (mBeg v (y + 1) - 1)) := by
  have hx := mEx2_z h
  have hok9 := hok
  obtain ⟨⟨o1, o2⟩, oL, ⟨o3, o4, o5, o6, o7, o8⟩, ⟨o9, o10, o11, o12, o13, o14, o15, o16⟩⟩ := hok9
  obtain ⟨l1, l2, l3, l4⟩ := oL m9 (by omega) (by omega)
  have f1 := m_beg_r hok (y := y) (by omega)
  have f2 := m_beg_r hok (y := y + 1) (by omega)
  exact m_cnt_r l1 (by omega) (by omega) (by omega)
