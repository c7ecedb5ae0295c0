theorem m_lun_b {v : Nat → Int} {d ld st : Int} (h0 : 0 ≤ st ∧ st ≤ 777600000) : ∀ (k : Nat) (off : Int), 0 ≤ off → -1 ≤ mLun v d ld st k off ∧ mLun v d ld st k off ≤ off + (k : Int) * 777600000
  | 0, off, h => by unfold mLun; omega
  | k + 1, off, h => by
    have ih := m_lun_b (v := v) (d := d) (ld := ld) h0 k (off + st) (by omega)
    rw [mLun_s]
    split <;> omega
theorem m_lun9 {v : Nat → Int} {L P : Int → Int} (hok : mOK v L P) (z d ld mt : Int) (h : mEx3 (mDay d ∧ (0 ≤ ld ∧ ld ≤ 99) ∧ (1 ≤ mt ∧ mt ≤ 1000) ∧ 1 ≤ mPop z 32 ∧ mPop z 32 ≤ 5) (mUsh z (v 0) = 0) (mMts v L P z) = 0) : mRL (mLun v d ld (mSt (mFd L P z 0 (v 0).toNat)) mt.toNat ((mD0 (mFd L P z 0 (v 0).toNat) - d) % mSt (mFd L P z 0 (v 0).toNat))) := by
  have hx := mEx3_z h
  obtain ⟨d0, s0, e0, e1, e2, e3, e4⟩ := (m_mts (z := z) hok (by omega)).2.1 hx.2.2
  rw [e1, e2]
  have h1 := m_mod_r (a := d0 - d) (b := s0) (by omega)
  have h2 := m_lun_b (v := v) (d := d) (ld := ld) (st := s0) (by omega) mt.toNat ((d0 - d) % s0) h1.1
  omega