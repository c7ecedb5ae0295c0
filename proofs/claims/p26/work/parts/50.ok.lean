def mIf {α : Type} (e : Nat) (x y : α) : α := if e = 0 then x else y
theorem mIf_0 {α : Type} {e : Nat} {x y : α} (h : e = 0) : mIf e x y = x := if_pos h
theorem mIf_1 {α : Type} {e : Nat} {x y : α} (h : e ≠ 0) : mIf e x y = y := if_neg h
theorem ok_addMarket {v : Nat → Int} {L P : Int → Int} (hok : mOK v L P) (a b : Int) : mOK (mIf (mEx2 ((1 ≤ a ∧ a ≤ 60) ∧ 0 ≤ b ∧ b ≤ a - 1) (v 0 < 16)) (mPut v 0 (v 0 + 1)) v) (mIf (mEx2 ((1 ≤ a ∧ a ≤ 60) ∧ 0 ≤ b ∧ b ≤ a - 1) (v 0 < 16)) (mU L (v 0) a) L) (mIf (mEx2 ((1 ≤ a ∧ a ≤ 60) ∧ 0 ≤ b ∧ b ≤ a - 1) (v 0 < 16)) (mU P (v 0) b) P) := by
  by_cases h : mEx2 ((1 ≤ a ∧ a ≤ 60) ∧ 0 ≤ b ∧ b ≤ a - 1) (v 0 < 16) = 0
  · rw [mIf_0 h, mIf_0 h, mIf_0 h]
    have hx := mEx2_z h
    obtain ⟨⟨o1, o2⟩, oL, o3, o4⟩ := hok
    refine ⟨⟨?_, ?_⟩, fun k k1 k2 => ?_, o3, o4⟩
    · show 0 ≤ v 0 + 1; omega
    · show v 0 + 1 ≤ 16; omega
    · have k3 : k < v 0 + 1 := k2
      unfold mU
      by_cases c : k = v 0
      · rw [if_pos c, if_pos c]; omega
      · rw [if_neg c, if_neg c]; exact oL k k1 (by omega)
  · rw [mIf_1 h, mIf_1 h, mIf_1 h]; exact hok
theorem ok_shift {v : Nat → Int} {L P : Int → Int} (hok : mOK v L P) (m9 b : Int) : mOK (mIf (mEx2 (mMk v m9) (-60 ≤ b ∧ b ≤ 60)) v v) (mIf (mEx2 (mMk v m9) (-60 ≤ b ∧ b ≤ 60)) L L) (mIf (mEx2 (mMk v m9) (-60 ≤ b ∧ b ≤ 60)) (mU P m9 ((P m9 + b) % L m9)) P) := by
  by_cases h : mEx2 (mMk v m9) (-60 ≤ b ∧ b ≤ 60) = 0
  · rw [mIf_0 h, mIf_0 h, mIf_0 h]
    have hx := mEx2_z h
    obtain ⟨o1, oL, o3, o4⟩ := hok
    refine ⟨o1, fun k k1 k2 => ?_, o3, o4⟩
    have l := oL k k1 k2
    unfold mU
    by_cases c : k = m9
    · rw [if_pos c]
      subst c
      have := m_mod_r (a := P k + b) (b := L k) (by omega)
      omega
    · rw [if_neg c]; exact l
  · rw [mIf_1 h, mIf_1 h, mIf_1 h]; exact hok
theorem ok_setMoon {v : Nat → Int} {L P : Int → Int} (hok : mOK v L P) (n d s9 : Int) : mOK (mIf (mEx1 ((1 ≤ d ∧ d ≤ 100) ∧ (2 * d ≤ n ∧ n ≤ 100 * d) ∧ -1000 ≤ s9 ∧ s9 ≤ 1000)) (mPut (mPut (mPut v 1 n) 2 d) 3 s9) v) (mIf (mEx1 ((1 ≤ d ∧ d ≤ 100) ∧ (2 * d ≤ n ∧ n ≤ 100 * d) ∧ -1000 ≤ s9 ∧ s9 ≤ 1000)) L L) (mIf (mEx1 ((1 ≤ d ∧ d ≤ 100) ∧ (2 * d ≤ n ∧ n ≤ 100 * d) ∧ -1000 ≤ s9 ∧ s9 ≤ 1000)) P P) := by
  by_cases h : mEx1 ((1 ≤ d ∧ d ≤ 100) ∧ (2 * d ≤ n ∧ n ≤ 100 * d) ∧ -1000 ≤ s9 ∧ s9 ≤ 1000) = 0
  · rw [mIf_0 h, mIf_0 h, mIf_0 h]
    have hx := mEx1_z h
    obtain ⟨o1, oL, o3, o4⟩ := hok
    refine ⟨o1, oL, ?_, o4⟩
    show 1 ≤ d ∧ d ≤ 100 ∧ 2 * d ≤ n ∧ n ≤ 100 * d ∧ -1000 ≤ s9 ∧ s9 ≤ 1000
    omega
  · rw [mIf_1 h, mIf_1 h, mIf_1 h]; exact hok
theorem ok_setYear {v : Nat → Int} {L P : Int → Int} (hok : mOK v L P) (y a b c9 : Int) : mOK (mIf (mEx1 ((100 ≤ y ∧ y ≤ 500) ∧ (1 ≤ c9 ∧ c9 ≤ 400) ∧ (0 ≤ a ∧ a ≤ c9) ∧ 0 ≤ b ∧ b ≤ c9 - 1)) (mPut (mPut (mPut (mPut v 4 y) 5 a) 6 b) 7 c9) v) (mIf (mEx1 ((100 ≤ y ∧ y ≤ 500) ∧ (1 ≤ c9 ∧ c9 ≤ 400) ∧ (0 ≤ a ∧ a ≤ c9) ∧ 0 ≤ b ∧ b ≤ c9 - 1)) L L) (mIf (mEx1 ((100 ≤ y ∧ y ≤ 500) ∧ (1 ≤ c9 ∧ c9 ≤ 400) ∧ (0 ≤ a ∧ a ≤ c9) ∧ 0 ≤ b ∧ b ≤ c9 - 1)) P P) := by
  by_cases h : mEx1 ((100 ≤ y ∧ y ≤ 500) ∧ (1 ≤ c9 ∧ c9 ≤ 400) ∧ (0 ≤ a ∧ a ≤ c9) ∧ 0 ≤ b ∧ b ≤ c9 - 1) = 0
  · rw [mIf_0 h, mIf_0 h, mIf_0 h]
    have hx := mEx1_z h
    obtain ⟨o1, oL, o3, o4⟩ := hok
    refine ⟨o1, oL, o3, ?_⟩
    show 100 ≤ y ∧ y ≤ 500 ∧ 1 ≤ c9 ∧ c9 ≤ 400 ∧ 0 ≤ a ∧ a ≤ c9 ∧ 0 ≤ b ∧ b < c9
    omega
  · rw [mIf_1 h, mIf_1 h, mIf_1 h]; exact hok
theorem m_lun_b {v : Nat → Int} {d ld st : Int} (h0 : 0 ≤ st ∧ st ≤ 777600000) : ∀ (k : Nat) (off : Int), 0 ≤ off → -1 ≤ mLun v d ld st k off ∧ mLun v d ld st k off ≤ off + (k : Int) * 777600000
  | 0, off, h => by unfold mLun; omega
  | k + 1, off, h => by
    have ih := m_lun_b (v := v) (d := d) (ld := ld) h0 k (off + st) (by omega)
    rw [mLun_s]
    split <;> omega
