theorem m_next1 {L P d x : Int} (hL : 0 < L) (h0 : 0 ≤ P) (h1 : P < L) (hx : x % L = P) (h2 : d ≤ x) (h3 : x < d + L) : x = d + (P - d) % L := by
  have h := (m_mod_iff hL h0 h1).mp hx
  have h4 : L ∣ (P - d) - (x - d) := by
    obtain ⟨q, hq⟩ := h
    exact ⟨-q, by rw [Int.mul_neg]; omega⟩
  have := (m_mod_iff (x := P - d) (L := L) (P := x - d) hL (by omega) (by omega)).mpr h4
  omega
theorem m_next2 {L P d : Int} (hL : 0 < L) (h0 : 0 ≤ P) (h1 : P < L) : (d + (P - d) % L) % L = P := by
  rw [m_mod_iff hL h0 h1]
  have := Int.mul_ediv_add_emod (P - d) L
  exact ⟨-((P - d) / L), by rw [Int.mul_neg]; omega⟩
theorem m_beg_le {v : Nat → Int} {L P : Int → Int} (hok : mOK v L P) {y d : Int} : mBeg v y ≤ d ↔ y ≤ mYr v d := by
  obtain ⟨-, -, -, ⟨o9, o10, o11, o12, o13, o14, o15, o16⟩⟩ := hok
  have h3 : 0 < v 4 * v 7 := Int.mul_pos (by omega) (by omega)
  have a1 : mBeg v y ≤ d ↔ (v 5 * y + v 6) / v 7 < d - v 4 * y + 1 := by unfold mBeg; omega
  have a2 : (v 5 * y + v 6) / v 7 < d - v 4 * y + 1 ↔ v 5 * y + v 6 < (d - v 4 * y + 1) * v 7 := Int.ediv_lt_iff_lt_mul (by omega)
  have a3 : y ≤ mYr v d ↔ y * (v 4 * v 7 + v 5) ≤ v 7 * (d + 1) - 1 - v 6 := Int.le_ediv_iff_mul_le (by omega)
  have e1 : (d - v 4 * y + 1) * v 7 = v 7 * (d + 1) - v 4 * v 7 * y := by
    have e : d - v 4 * y + 1 = (d + 1) - v 4 * y := by omega
    rw [e, Int.sub_mul, Int.mul_comm (d + 1), Int.mul_assoc, Int.mul_comm y, ← Int.mul_assoc]
  have e2 : y * (v 4 * v 7 + v 5) = v 4 * v 7 * y + v 5 * y := by rw [Int.mul_add, Int.mul_comm y, Int.mul_comm y]
  rw [e1] at a2
  rw [e2] at a3
  omega
theorem m_mb {v : Nat → Int} {L P : Int → Int} (hok : mOK v L P) {m x : Int} : mMonth v x < m ↔ x < mMb v m := by
  obtain ⟨-, -, ⟨o3, o4, o5, o6, o7, o8⟩, -⟩ := hok
  have a1 : mMonth v x < m ↔ (x + v 3) * v 2 < m * v 1 := Int.ediv_lt_iff_lt_mul (by omega)
  have a2 : -(x + v 3) ≤ (-m * v 1) / v 2 ↔ -(x + v 3) * v 2 ≤ -m * v 1 := Int.le_ediv_iff_mul_le (by omega)
  have e : x < mMb v m ↔ ¬ -(x + v 3) ≤ (-m * v 1) / v 2 := by unfold mMb; omega
  rw [Int.neg_mul, Int.neg_mul] at a2
  rw [e, Int.neg_mul, a2, a1]
  omega
theorem m_near1 {L P d x : Int} (hL : 0 < L) (h0 : 0 ≤ P) (h1 : P < L) (h2 : 0 ≤ x) (h3 : x < L) : ((d - x) % L = P ↔ x = (d - P) % L) ∧ ((d + x) % L = P ↔ x = (P - d) % L) := by
  constructor
  · rw [m_mod_iff hL h0 h1]
    constructor
    · rintro ⟨q, hq⟩
      exact ((m_mod_iff (x := d - P) (L := L) (P := x) hL h2 h3).mpr ⟨q, by omega⟩).symm
    · intro h
      have := Int.mul_ediv_add_emod (d - P) L
      exact ⟨(d - P) / L, by omega⟩
  · rw [m_mod_iff hL h0 h1]
    constructor
    · rintro ⟨q, hq⟩
      exact ((m_mod_iff (x := P - d) (L := L) (P := x) hL h2 h3).mpr ⟨-q, by rw [Int.mul_neg]; omega⟩).symm
    · intro h
      have := Int.mul_ediv_add_emod (P - d) L
      exact ⟨-((P - d) / L), by rw [Int.mul_neg]; omega⟩
theorem m_near2 {L P d : Int} (hL : 0 < L) : ((d - P) % L = 0 → (P - d) % L = 0) ∧ (¬ (d - P) % L = 0 → (P - d) % L = L - (d - P) % L) := by
  have a1 := Int.mul_ediv_add_emod (d - P) L
  have a2 := m_mod_r (a := d - P) (b := L) hL
  constructor
  · intro h
    exact (m_mod_iff (x := P - d) (L := L) (P := 0) hL (by omega) (by omega)).mpr ⟨-((d - P) / L), by rw [Int.mul_neg]; omega⟩
  · intro h
    exact (m_mod_iff (x := P - d) (L := L) (P := L - (d - P) % L) hL (by omega) (by omega)).mpr ⟨-((d - P) / L) - 1, by rw [Int.mul_sub, Int.mul_neg]; omega⟩
theorem m_len {v : Nat → Int} {L P : Int → Int} (hok : mOK v L P) (y : Int) : mBeg v (y + 1) = mBeg v y + mLen v y := by
  obtain ⟨-, -, -, ⟨o9, o10, o11, o12, o13, o14, o15, o16⟩⟩ := hok
  have h1 := m_mod_r (a := v 5 * y + v 6) (b := v 7) (by omega)
  have h2 := Int.mul_ediv_add_emod (v 5 * y + v 6) (v 7)
  have h3 : v 5 * (y + 1) = v 5 * y + v 5 := by rw [Int.mul_add, Int.mul_one]
  have h4 : v 4 * (y + 1) = v 4 * y + v 4 := by rw [Int.mul_add, Int.mul_one]
  unfold mBeg mLen
  rw [h3, h4]
  obtain ⟨q, hq⟩ : ∃ q, q = (v 5 * y + v 6) / v 7 := ⟨_, rfl⟩
  rw [← hq] at h2 ⊢
  by_cases c : mLeap v y
  · rw [if_pos c]
    have e : v 5 * y + v 5 + v 6 = ((v 5 * y + v 6) % v 7 + v 5 - v 7) + v 7 * (q + 1) := by rw [Int.mul_add, Int.mul_one]; omega
    have e2 : (v 5 * y + v 5 + v 6) / v 7 = q + 1 := by
      rw [e, Int.add_mul_ediv_left _ _ (by omega), Int.ediv_eq_zero_of_lt (by omega) (by omega)]
      omega
    rw [e2]
    omega
  · rw [if_neg c]
    have e : v 5 * y + v 5 + v 6 = ((v 5 * y + v 6) % v 7 + v 5) + v 7 * q := by omega
    have e2 : (v 5 * y + v 5 + v 6) / v 7 = q := by
      rw [e, Int.add_mul_ediv_left _ _ (by omega), Int.ediv_eq_zero_of_lt (by omega) (by omega)]
      omega
    rw [e2]
    omega
