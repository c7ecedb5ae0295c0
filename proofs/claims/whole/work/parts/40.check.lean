def mBfr (L P : Int → Int) (m d : Int) : Int := (d - P m + L m - 1) / L m
def mFlt (v : Nat → Int) (z : Int) : Int := ((mEx2 (1 ≤ mPop z 32 ∧ mPop z 32 ≤ 5) (mUsh z (v 0) = 0) : Nat) : Int)
theorem m_part {x y : Int} (h : 0 < y) : (x - x % y).tdiv y = x / y := by
  have := Int.mul_ediv_add_emod x y
  have e : x - x % y = y * (x / y) := by omega
  rw [e, Int.mul_tdiv_cancel_left _ (by omega)]
theorem m_next1 {L P d x : Int} (hL : 0 < L) (h0 : 0 ≤ P) (h1 : P < L) (hx : x % L = P) (h2 : d ≤ x) (h3 : x < d + L) : x = d + (P - d) % L := by
  have h := (m_mod_iff hL h0 h1).mp hx
  have h4 : L ∣ (P - d) - (x - d) := by
    obtain ⟨q, hq⟩ := h
    exact ⟨-q, by rw [Int.mul_neg]; omega⟩
  have := (m_mod_iff (x := P - d) (L := L) (P := x - d) hL (by omega) (by omega)).mpr h4
  omega
theorem m_next2 {L P d : Int} (hL : 0 < L) (h0 : 0 ≤ P) (h1 : P < L) : (d + (P - d) % L) % L = P := by
  rw [m_mod_iff hL h0 h1]
  have := Int.mul_ediv_add_emod (P - d) L
  exact ⟨-((P - d) / L), by rw [Int.mul_neg]; omega⟩
theorem m_cnt {L P : Int → Int} {m a b : Int} (hL : 0 < L m) : mBfr L P m (b + 1) - mBfr L P m a = mCnt L P m a b := by
  unfold mBfr mCnt
  have e1 : b + 1 - P m + L m - 1 = (b - P m) + L m * 1 := by omega
  have e2 : a - P m + L m - 1 = (a - 1 - P m) + L m * 1 := by omega
  rw [e1, e2, Int.add_mul_ediv_left _ _ (by omega), Int.add_mul_ediv_left _ _ (by omega)]
  omega
theorem m_beg_le {v : Nat → Int} {L P : Int → Int} (hok : mOK v L P) {y d : Int} : mBeg v y ≤ d ↔ y ≤ mYr v d := by
  obtain ⟨-, -, -, ⟨o9, o10, o11, o12, o13, o14, o15, o16⟩⟩ := hok
  have h3 : 0 < v 4 * v 7 := Int.mul_pos (by omega) (by omega)
  have a1 : mBeg v y ≤ d ↔ (v 5 * y + v 6) / v 7 < d - v 4 * y + 1 := by unfold mBeg; omega
  have a2 : (v 5 * y + v 6) / v 7 < d - v 4 * y + 1 ↔ v 5 * y + v 6 < (d - v 4 * y + 1) * v 7 := Int.ediv_lt_iff_lt_mul (by omega)
  have a3 : y ≤ mYr v d ↔ y * (v 4 * v 7 + v 5) ≤ v 7 * (d + 1) - 1 - v 6 := Int.le_ediv_iff_mul_le (by omega)
  have e1 : (d - v 4 * y + 1) * v 7 = v 7 * (d + 1) - v 4 * v 7 * y := by
    have e : d - v 4 * y + 1 = (d + 1) - v 4 * y := by omega
    rw [e, Int.sub_mul, Int.mul_comm (d + 1), Int.mul_assoc, Int.mul_comm y, ← Int.mul_assoc]
  have e2 : y * (v 4 * v 7 + v 5) = v 4 * v 7 * y + v 5 * y := by rw [Int.mul_add, Int.mul_comm y, Int.mul_comm y]
  rw [e1] at a2
  rw [e2] at a3
  omega
theorem m_start {v : Nat → Int} {L P : Int → Int} (hok : mOK v L P) {d : Int} : (0 ≤ d → mYr v d ≤ d / v 4 + 2) ∧ (d < 0 → mYr v d ≤ d / (v 4 + 1) + 2) := by
  obtain ⟨-, -, -, ⟨o9, o10, o11, o12, o13, o14, o15, o16⟩⟩ := hok
  have h3 : 0 < v 4 * v 7 := Int.mul_pos (by omega) (by omega)
  have a3 : mYr v d * (v 4 * v 7 + v 5) ≤ v 7 * (d + 1) - 1 - v 6 := (Int.le_ediv_iff_mul_le (by omega)).mp (Int.le_refl _)
  obtain ⟨Y, hY⟩ : ∃ Y, Y = mYr v d := ⟨_, rfl⟩
  rw [← hY] at a3 ⊢
  rw [Int.mul_add] at a3
  constructor
  · intro hd
    rcases (by omega : Y ≤ 0 ∨ 0 < Y) with q | q
    · have := Int.ediv_nonneg hd (by omega : 0 ≤ v 4)
      omega
    · have b1 : 0 ≤ Y * v 5 := Int.mul_nonneg (by omega) (by omega)
      have b2 : v 7 * (v 4 * Y) < v 7 * (d + 1) := by
        have e : v 7 * (v 4 * Y) = Y * (v 4 * v 7) := by rw [Int.mul_comm Y, Int.mul_comm (v 4) (v 7), Int.mul_assoc]
        omega
      have b3 := Int.lt_of_mul_lt_mul_left b2 (by omega)
      have b4 : Y ≤ d / v 4 := (Int.le_ediv_iff_mul_le (by omega)).mpr (by rw [Int.mul_comm]; omega)
      omega
  · intro hd
    have c1 : Y < 0 := by
      rcases (by omega : Y < 0 ∨ 0 ≤ Y) with q | q
      · exact q
      · have b1 : 0 ≤ Y * v 5 := Int.mul_nonneg q (by omega)
        have b2 : 0 ≤ Y * (v 4 * v 7) := Int.mul_nonneg q (by omega)
        have b3 : v 7 * (d + 1) ≤ v 7 * 0 := Int.mul_le_mul_of_nonneg_left (by omega) (by omega)
        omega
    have b1 : Y * v 7 ≤ Y * v 5 := Int.mul_le_mul_of_nonpos_left (by omega) (by omega)
    have b2 : v 7 * ((v 4 + 1) * Y) < v 7 * (d + 1) := by
      have e : v 7 * ((v 4 + 1) * Y) = Y * (v 4 * v 7) + Y * v 7 := by rw [Int.add_mul, Int.one_mul, Int.mul_add, Int.mul_comm (v 7) Y, Int.mul_comm (v 4) Y, ← Int.mul_assoc, Int.mul_comm (v 7) Y, Int.mul_assoc, Int.mul_comm (v 7)]
      omega
    have b3 := Int.lt_of_mul_lt_mul_left b2 (by omega)
    have b4 : Y ≤ d / (v 4 + 1) := (Int.le_ediv_iff_mul_le (by omega)).mpr (by rw [Int.mul_comm]; omega)
    omega
theorem m_mb {v : Nat → Int} {L P : Int → Int} (hok : mOK v L P) {m x : Int} : mMonth v x < m ↔ x < mMb v m := by
  obtain ⟨-, -, ⟨o3, o4, o5, o6, o7, o8⟩, -⟩ := hok
  have a1 : mMonth v x < m ↔ (x + v 3) * v 2 < m * v 1 := Int.ediv_lt_iff_lt_mul (by omega)
  have a2 : -(x + v 3) ≤ (-m * v 1) / v 2 ↔ -(x + v 3) * v 2 ≤ -m * v 1 := Int.le_ediv_iff_mul_le (by omega)
  have e : x < mMb v m ↔ ¬ -(x + v 3) ≤ (-m * v 1) / v 2 := by unfold mMb; omega
  rw [Int.neg_mul, Int.neg_mul] at a2
  rw [e, Int.neg_mul, a2, a1]
  omega
theorem m_mb0 {v : Nat → Int} {L P : Int → Int} (hok : mOK v L P) {m : Int} : (m * v 1) / v 2 - v 3 ≤ mMb v m := by
  obtain ⟨-, -, ⟨o3, o4, o5, o6, o7, o8⟩, -⟩ := hok
  have a1 : (m * v 1) / v 2 * v 2 ≤ m * v 1 := Int.ediv_mul_le _ (by omega)
  have a2 : (-m * v 1) / v 2 ≤ -((m * v 1) / v 2) ↔ (-m * v 1) / v 2 < -((m * v 1) / v 2) + 1 := by omega
  have a3 : (-m * v 1) / v 2 < -((m * v 1) / v 2) + 1 ↔ -m * v 1 < (-((m * v 1) / v 2) + 1) * v 2 := Int.ediv_lt_iff_lt_mul (by omega)
  rw [Int.neg_mul, Int.add_mul, Int.neg_mul, Int.one_mul] at a3
  unfold mMb
  rw [Int.neg_mul] at a2 ⊢
  omega
set_option maxHeartbeats 400000 in
set_option maxRecDepth 100000 in
theorem c_X1_thrown (l : Launch) (D : va_G) (h0 a1 a2 : Nat) (cA cJ : ClassId) (t f g : Int) (v : Nat → Int) (L P : Int → Int)  : mP l yX1_thrown wsX1_thrown ({ frames := 0, cells := 0, slots := 0, locals := 0 }) [.ref h0] (mwB D (mMW h0 a1 a2 cA t f g v L P) (mTy cA cJ)) (some (.int (mI (t)))) := by
  refine mw_open (cc := cX1_thrown) (maxL := 1) (ret := (some .int)) (by decide +kernel) rfl (Nat.le_of_ble_eq_true rfl) ?_
  intro p e s m below meth c ls hC hr hlocks hB hl
  obtain ⟨hx, hb, hml, hown, hts⟩ := id hC
  obtain ⟨hP, hK⟩ := hB
  have hin : ∀ w ∈ wsX10, w ∈ wsX1_thrown := by decide +kernel
  have hl : lv_has ls 1 [(0, .ref h0)] := hl
  refine lv_aload_n hx hb dX1_thrown_0 rfl (lv_at hl 0 rfl) ?_
  refine mw_getM hx hb hts hin hown hK hP rfl 0 (by decide) (by decide +kernel) rfl rfl dX1_thrown_1 ?_
  exact mw_retI hx hb hr hlocks dX1_thrown_4 rfl

set_option maxHeartbeats 400000 in
set_option maxRecDepth 100000 in
theorem c_X1_in (l : Launch) (a b c9 : Int) (h1 : mRL a) (h2 : mRL b) (h3 : mRL c9) : mP l yX1_in wsX1_in ({ frames := 0, cells := 0, slots := 0, locals := 0 }) [.long (mL (a)), .long (mL (b)), .long (mL (c9))] (fun _ => True) (some (.int (mI (mB (b ≤ a ∧ a ≤ c9))))) := by
  refine mw_open (cc := cX1_in) (maxL := 6) (ret := (some .boolean)) (by decide +kernel) rfl (Nat.le_of_ble_eq_true rfl) ?_
  intro p e s m below meth c ls hC hr hlocks hB hl
  obtain ⟨hx, hb, hml, hown, hts⟩ := id hC
  have hl : lv_has ls 6 [(0, .long (mL (a))), (2, .long (mL (b))), (4, .long (mL (c9)))] := hl
  refine lv_lload_n hx hb dX1_in_0 rfl (lv_at hl 0 rfl) ?_
  refine lv_lload_n hx hb dX1_in_1 rfl (lv_at hl 1 rfl) ?_
  refine mw_lcmp_lt (tgt := 17) hx hb (by omega) (by omega) dX1_in_2 dX1_in_3 (by decide) (fun c_3 => ?_) (fun c_3 => ?_)
  · refine mw_iconst hx hb dX1_in_17 ?_
    exact mw_retZ hx hb hr hlocks dX1_in_18 (by first | rfl | exact (mB_t (by omega)).symm | exact (mB_f (by omega)).symm | exact mB_iff (by omega) | omega)
  · refine lv_lload_n hx hb dX1_in_6 rfl (lv_at hl 0 rfl) ?_
    refine lv_lload hx hb dX1_in_7 (lv_at hl 2 rfl) ?_
    refine mw_lcmp_gt (tgt := 17) hx hb (by omega) (by omega) dX1_in_9 dX1_in_10 (by decide) (fun c_10 => ?_) (fun c_10 => ?_)
    · refine mw_iconst hx hb dX1_in_17 ?_
      exact mw_retZ hx hb hr hlocks dX1_in_18 (by first | rfl | exact (mB_t (by omega)).symm | exact (mB_f (by omega)).symm | exact mB_iff (by omega) | omega)
    · refine mw_iconst hx hb dX1_in_13 ?_
      refine lv_goto (tgt := 18) hx hb dX1_in_14 (by decide) ?_
      exact mw_retZ hx hb hr hlocks dX1_in_18 (by first | rfl | exact (mB_t (by omega)).symm | exact (mB_f (by omega)).symm | exact mB_iff (by omega) | omega)

set_option maxHeartbeats 400000 in
set_option maxRecDepth 100000 in
theorem c_X1_isDay (l : Launch) (d : Int) (h1 : mRI d) : mP l yX1_isDay wsX1_isDay ({ frames := 1, cells := 0, slots := 0, locals := 25 }) [.int (mI (d))] (fun _ => True) (some (.int (mI (mB (mDay d))))) := by
  refine mw_open (cc := cX1_isDay) (maxL := 1) (ret := (some .boolean)) (by decide +kernel) rfl (Nat.le_of_ble_eq_true rfl) ?_
  intro p e s m below meth c ls hC hr hlocks hB hl
  obtain ⟨hx, hb, hml, hown, hts⟩ := id hC
  have hl : lv_has ls 1 [(0, .int (mI (d)))] := hl
  refine lv_iload_n hx hb dX1_isDay_0 rfl (lv_at hl 0 rfl) ?_
  refine mw_i2l hx hb (by omega) dX1_isDay_1 ?_
  refine mw_ldc2 hx hb (-1000000) (by decide +kernel) hown (hts (.constantLong RX1 35 (-1000000)) (by decide +kernel)) dX1_isDay_2 ?_
  refine mw_ldc2 hx hb (1000000) (by decide +kernel) hown (hts (.constantLong RX1 37 (1000000)) (by decide +kernel)) dX1_isDay_5 ?_
  refine mw_cSi (rest := []) hC (c_X1_in l d (-1000000) 1000000 (by omega) (by omega) (by omega)) (va_cwS 3 hts gX1_isDay_X1_in rfl rfl rfl (by decide +kernel) ⟨Nat.le_of_ble_eq_true rfl, Nat.le_of_ble_eq_true rfl⟩) rfl hl.1 rfl (Nat.le_of_ble_eq_true rfl) ⟨Nat.zero_le _, Nat.zero_le _⟩ dX1_isDay_8 ?_
  exact mw_retZ hx hb hr hlocks dX1_isDay_11 (by first | rfl | exact (mB_t (by omega)).symm | exact (mB_f (by omega)).symm | exact mB_iff (by omega) | omega)

set_option maxHeartbeats 400000 in
set_option maxRecDepth 100000 in
theorem c_X1_isYear (l : Launch) (y : Int) (h1 : mRI y) : mP l yX1_isYear wsX1_isYear ({ frames := 1, cells := 0, slots := 0, locals := 25 }) [.int (mI (y))] (fun _ => True) (some (.int (mI (mB (mYear y))))) := by
  refine mw_open (cc := cX1_isYear) (maxL := 1) (ret := (some .boolean)) (by decide +kernel) rfl (Nat.le_of_ble_eq_true rfl) ?_
  intro p e s m below meth c ls hC hr hlocks hB hl
  obtain ⟨hx, hb, hml, hown, hts⟩ := id hC
  have hl : lv_has ls 1 [(0, .int (mI (y)))] := hl
  refine lv_iload_n hx hb dX1_isYear_0 rfl (lv_at hl 0 rfl) ?_
  refine mw_i2l hx hb (by omega) dX1_isYear_1 ?_
  refine mw_ldc2 hx hb (-10000) (by decide +kernel) hown (hts (.constantLong RX1 148 (-10000)) (by decide +kernel)) dX1_isYear_2 ?_
  refine mw_ldc2 hx hb (10000) (by decide +kernel) hown (hts (.constantLong RX1 150 (10000)) (by decide +kernel)) dX1_isYear_5 ?_
  refine mw_cSi (rest := []) hC (c_X1_in l y (-10000) 10000 (by omega) (by omega) (by omega)) (va_cwS 3 hts gX1_isYear_X1_in rfl rfl rfl (by decide +kernel) ⟨Nat.le_of_ble_eq_true rfl, Nat.le_of_ble_eq_true rfl⟩) rfl hl.1 rfl (Nat.le_of_ble_eq_true rfl) ⟨Nat.zero_le _, Nat.zero_le _⟩ dX1_isYear_8 ?_
  exact mw_retZ hx hb hr hlocks dX1_isYear_11 (by first | rfl | exact (mB_t (by omega)).symm | exact (mB_f (by omega)).symm | exact mB_iff (by omega) | omega)

set_option maxHeartbeats 400000 in
set_option maxRecDepth 100000 in
theorem c_X1_isMarket (l : Launch) (D : va_G) (h0 a1 a2 : Nat) (cA cJ : ClassId) (t f g : Int) (v : Nat → Int) (L P : Int → Int) (m9 : Int) (h1 : mRI m9) (hv : 0 ≤ v 0 ∧ v 0 ≤ 16) : mP l yX1_isMarket wsX1_isMarket ({ frames := 1, cells := 0, slots := 0, locals := 25 }) [.ref h0, .int (mI (m9))] (mwB D (mMW h0 a1 a2 cA t f g v L P) (mTy cA cJ)) (some (.int (mI (mB (mMk v m9))))) := by
  refine mw_open (cc := cX1_isMarket) (maxL := 2) (ret := (some .boolean)) (by decide +kernel) rfl (Nat.le_of_ble_eq_true rfl) ?_
  intro p e s m below meth c ls hC hr hlocks hB hl
  obtain ⟨hx, hb, hml, hown, hts⟩ := id hC
  obtain ⟨hP, hK⟩ := hB
  have hin : ∀ w ∈ wsX10, w ∈ wsX1_isMarket := by decide +kernel
  have hl : lv_has ls 2 [(0, .ref h0), (1, .int (mI (m9)))] := hl
  refine lv_iload_n hx hb dX1_isMarket_0 rfl (lv_at hl 1 rfl) ?_
  refine mw_i2l hx hb (by omega) dX1_isMarket_1 ?_
  refine mw_lconst hx hb 0 (by decide +kernel) dX1_isMarket_2 ?_
  refine lv_aload_n hx hb dX1_isMarket_3 rfl (lv_at hl 0 rfl) ?_
  refine mw_getM hx hb hts hin hown hK hP rfl 3 (by decide) (by decide +kernel) rfl rfl dX1_isMarket_4 ?_
  refine mw_iconst hx hb dX1_isMarket_7 ?_
  refine mw_isub hx hb dX1_isMarket_8 ?_
  refine mw_i2l hx hb (by omega) dX1_isMarket_9 ?_
  refine mw_cSi (rest := []) hC (c_X1_in l m9 0 ((v 0) - 1) (by omega) (by omega) (by omega)) (va_cwS 3 hts gX1_isMarket_X1_in rfl rfl rfl (by decide +kernel) ⟨Nat.le_of_ble_eq_true rfl, Nat.le_of_ble_eq_true rfl⟩) rfl hl.1 rfl (Nat.le_of_ble_eq_true rfl) ⟨Nat.zero_le _, Nat.zero_le _⟩ dX1_isMarket_10 ?_
  exact mw_retZ hx hb hr hlocks dX1_isMarket_13 (by first | rfl | exact (mB_t (by omega)).symm | exact (mB_f (by omega)).symm | exact mB_iff (by omega) | omega)

set_option maxHeartbeats 400000 in
set_option maxRecDepth 100000 in
theorem c_X1_modulo (l : Launch) (x y : Int) (h0 : 0 < y) (h1 : mR2 x) (h2 : mR2 y) : mP l yX1_modulo wsX1_modulo ({ frames := 0, cells := 0, slots := 0, locals := 0 }) [.long (mL (x)), .long (mL (y))] (fun _ => True) (some (.long (mL (x % y)))) := by
  refine mw_open (cc := cX1_modulo) (maxL := 6) (ret := (some .long)) (by decide +kernel) rfl (Nat.le_of_ble_eq_true rfl) ?_
  intro p e s m below meth c ls hC hr hlocks hB hl
  obtain ⟨hx, hb, hml, hown, hts⟩ := id hC
  have hl : lv_has ls 6 [(0, .long (mL (x))), (2, .long (mL (y)))] := hl
  have f2 := m_tmod_r (a := x) h0
  have f3 := m_tdiv_r (a := x) h0
  have f5 := m_fmod (a := x) h0
  have f9 := m_tmod_neg (a := x) h0
  have f8 := m_mod_r (a := x) (b := y) h0
  refine lv_lload_n hx hb dX1_modulo_0 rfl (lv_at hl 0 rfl) ?_
  refine lv_lload_n hx hb dX1_modulo_1 rfl (lv_at hl 1 rfl) ?_
  refine mw_lrem hx hb (by omega) (by omega) (by omega) dX1_modulo_2 ?_
  refine lv_lstore (lv' := [(4, .long (mL (x.tmod y))), (0, .long (mL (x))), (2, .long (mL (y)))]) hx hb dX1_modulo_3 hl (by decide) rfl (fun ls hl => ?_)
  refine lv_lload hx hb dX1_modulo_5 (lv_at hl 0 rfl) ?_
  refine mw_lconst hx hb 0 (by decide +kernel) dX1_modulo_7 ?_
  refine mw_lcmp_ge (tgt := 19) hx hb (by omega) (by omega) dX1_modulo_8 dX1_modulo_9 (by decide) (fun c_9 => ?_) (fun c_9 => ?_)
  · refine lv_lload hx hb dX1_modulo_19 (lv_at hl 0 rfl) ?_
    exact mw_retL hx hb hr hlocks dX1_modulo_21 (by rw [f5]; first | rw [if_pos ⟨by omega, by omega⟩] | rw [if_neg (by omega)])
  · refine lv_lload hx hb dX1_modulo_12 (lv_at hl 0 rfl) ?_
    refine lv_lload_n hx hb dX1_modulo_14 rfl (lv_at hl 2 rfl) ?_
    refine mw_ladd hx hb dX1_modulo_15 ?_
    refine lv_goto (tgt := 21) hx hb dX1_modulo_16 (by decide) ?_
    exact mw_retL hx hb hr hlocks dX1_modulo_21 (by rw [f5]; first | rw [if_pos ⟨by omega, by omega⟩] | rw [if_neg (by omega)])

set_option maxHeartbeats 400000 in
set_option maxRecDepth 100000 in
theorem c_X1_part (l : Launch) (x y : Int) (h0 : 0 < y) (h1 : mR2 x) (h2 : mR2 y) : mP l yX1_part wsX1_part ({ frames := 1, cells := 0, slots := 0, locals := 25 }) [.long (mL (x)), .long (mL (y))] (fun _ => True) (some (.long (mL (x / y)))) := by
  refine mw_open (cc := cX1_part) (maxL := 6) (ret := (some .long)) (by decide +kernel) rfl (Nat.le_of_ble_eq_true rfl) ?_
  intro p e s m below meth c ls hC hr hlocks hB hl
  obtain ⟨hx, hb, hml, hown, hts⟩ := id hC
  have hl : lv_has ls 6 [(0, .long (mL (x))), (2, .long (mL (y)))] := hl
  have f2 := m_tmod_r (a := x) h0
  have f3 := m_tdiv_r (a := x) h0
  have f5 := m_fmod (a := x) h0
  have f9 := m_tmod_neg (a := x) h0
  have f8 := m_mod_r (a := x) (b := y) h0
  refine lv_lload_n hx hb dX1_part_0 rfl (lv_at hl 0 rfl) ?_
  refine lv_lload_n hx hb dX1_part_1 rfl (lv_at hl 1 rfl) ?_
  refine mw_cSl (rest := []) hC (c_X1_modulo l x y (by omega) (by omega) (by omega)) (va_cwS 2 hts gX1_part_X1_modulo rfl rfl rfl (by decide +kernel) ⟨Nat.le_of_ble_eq_true rfl, Nat.le_of_ble_eq_true rfl⟩) rfl hl.1 rfl (Nat.le_of_ble_eq_true rfl) ⟨Nat.zero_le _, Nat.zero_le _⟩ dX1_part_2 ?_
  refine lv_lstore (lv' := [(4, .long (mL (x % y))), (0, .long (mL (x))), (2, .long (mL (y)))]) hx hb dX1_part_5 hl (by decide) rfl (fun ls hl => ?_)
  refine lv_lload_n hx hb dX1_part_7 rfl (lv_at hl 1 rfl) ?_
  refine lv_lload hx hb dX1_part_8 (lv_at hl 0 rfl) ?_
  refine mw_lsub hx hb dX1_part_10 ?_
  refine lv_lload_n hx hb dX1_part_11 rfl (lv_at hl 2 rfl) ?_
  refine mw_ldiv hx hb (by omega) (by omega) (by omega) dX1_part_12 ?_
  exact mw_retL hx hb hr hlocks dX1_part_13 (m_part h0)

set_option maxHeartbeats 400000 in
set_option maxRecDepth 100000 in
theorem c_X1_holds (l : Launch) (D : va_G) (h0 a1 a2 : Nat) (cA cJ : ClassId) (t f g : Int) (v : Nat → Int) (L P : Int → Int) (m9 d : Int) (hok : mOK v L P) (hk : mMk v m9) (hd : mR2 d) : mP l yX1_holds wsX1_holds ({ frames := 1, cells := 0, slots := 0, locals := 25 }) [.ref h0, .int (mI (m9)), .long (mL (d))] (mwB D (mMW h0 a1 a2 cA t f g v L P) (mTy cA cJ)) (some (.int (mI (mB (d % L m9 = P m9))))) := by
  refine mw_open (cc := cX1_holds) (maxL := 4) (ret := (some .boolean)) (by decide +kernel) rfl (Nat.le_of_ble_eq_true rfl) ?_
  intro p e s m below meth c ls hC hr hlocks hB hl
  obtain ⟨hx, hb, hml, hown, hts⟩ := id hC
  obtain ⟨hP, hK⟩ := hB
  have hin : ∀ w ∈ wsX10, w ∈ wsX1_holds := by decide +kernel
  have hl : lv_has ls 4 [(0, .ref h0), (1, .int (mI (m9))), (2, .long (mL (d)))] := hl
  have hok9 := hok
  obtain ⟨⟨o1, o2⟩, oL, ⟨o3, o4, o5, o6, o7, o8⟩, ⟨o9, o10, o11, o12, o13, o14, o15, o16⟩⟩ := hok9
  obtain ⟨l1, l2, l3, l4⟩ := oL m9 (by omega) (by omega)
  have f1 := m_mod_r (a := d) (b := L m9) (by omega)
  refine lv_lload_n hx hb dX1_holds_0 rfl (lv_at hl 2 rfl) ?_
  refine lv_aload_n hx hb dX1_holds_1 rfl (lv_at hl 0 rfl) ?_
  refine mw_getM hx hb hts hin hown hK hP rfl 1 (by decide) (by decide +kernel) rfl rfl dX1_holds_2 ?_
  refine lv_iload_n hx hb dX1_holds_5 rfl (lv_at hl 1 rfl) ?_
  refine mw_iald hx hb hK hP 1 rfl rfl (by omega) dX1_holds_6 ?_
  refine mw_i2l hx hb (by omega) dX1_holds_7 ?_
  refine mw_cSl (rest := []) hC (c_X1_modulo l d (L m9) (by omega) (by omega) (by omega)) (va_cwS 2 hts gX1_holds_X1_modulo rfl rfl rfl (by decide +kernel) ⟨Nat.le_of_ble_eq_true rfl, Nat.le_of_ble_eq_true rfl⟩) rfl hl.1 rfl (Nat.le_of_ble_eq_true rfl) ⟨Nat.zero_le _, Nat.zero_le _⟩ dX1_holds_8 ?_
  refine lv_aload_n hx hb dX1_holds_11 rfl (lv_at hl 0 rfl) ?_
  refine mw_getM hx hb hts hin hown hK hP rfl 2 (by decide) (by decide +kernel) rfl rfl dX1_holds_12 ?_
  refine lv_iload_n hx hb dX1_holds_15 rfl (lv_at hl 1 rfl) ?_
  refine mw_iald hx hb hK hP 2 rfl rfl (by omega) dX1_holds_16 ?_
  refine mw_i2l hx hb (by omega) dX1_holds_17 ?_
  refine mw_lcmp_ne (tgt := 26) hx hb (by omega) (by omega) dX1_holds_18 dX1_holds_19 (by decide) (fun c_19 => ?_) (fun c_19 => ?_)
  · refine mw_iconst hx hb dX1_holds_26 ?_
    exact mw_retZ hx hb hr hlocks dX1_holds_27 (by first | rfl | exact (mB_t (by omega)).symm | exact (mB_f (by omega)).symm | exact mB_iff (by omega) | omega)
  · refine mw_iconst hx hb dX1_holds_22 ?_
    refine lv_goto (tgt := 27) hx hb dX1_holds_23 (by decide) ?_
    exact mw_retZ hx hb hr hlocks dX1_holds_27 (by first | rfl | exact (mB_t (by omega)).symm | exact (mB_f (by omega)).symm | exact mB_iff (by omega) | omega)

set_option maxHeartbeats 400000 in
set_option maxRecDepth 100000 in
theorem c_X1_from (l : Launch) (D : va_G) (h0 a1 a2 : Nat) (cA cJ : ClassId) (t f g : Int) (v : Nat → Int) (L P : Int → Int) (m9 d : Int) (hok : mOK v L P) (hk : mMk v m9) (hd : mDay d) : mP l yX1_from wsX1_from ({ frames := 2, cells := 0, slots := 0, locals := 48 }) [.ref h0, .int (mI (m9)), .int (mI (d))] (mwB D (mMW h0 a1 a2 cA t f g v L P) (mTy cA cJ)) (some (.int (mI (d + (P m9 - d) % L m9)))) := by
  refine mw_open (cc := cX1_from) (maxL := 4) (ret := (some .int)) (by decide +kernel) rfl (Nat.le_of_ble_eq_true rfl) ?_
  intro p e s m below meth c ls hC hr hlocks hB hl
  obtain ⟨hx, hb, hml, hown, hts⟩ := id hC
  obtain ⟨hP, hK⟩ := hB
  have hl : lv_has ls 4 [(0, .ref h0), (1, .int (mI (m9))), (2, .int (mI (d)))] := hl
  have hok9 := hok
  obtain ⟨⟨o1, o2⟩, oL, ⟨o3, o4, o5, o6, o7, o8⟩, ⟨o9, o10, o11, o12, o13, o14, o15, o16⟩⟩ := hok9
  obtain ⟨l1, l2, l3, l4⟩ := oL m9 (by omega) (by omega)
  have f1 := m_mod_r (a := P m9 - d) (b := L m9) (by omega)
  have f2 := m_next2 (L := L m9) (P := P m9) (d := d) (by omega) (by omega) (by omega)
  refine lv_iload_n hx hb dX1_from_0 rfl (lv_at hl 2 rfl) ?_
  refine lv_istore_n (lv' := [(3, .int (mI (d))), (0, .ref h0), (1, .int (mI (m9))), (2, .int (mI (d)))]) hx hb dX1_from_1 rfl hl (by decide) rfl (fun ls hl => ?_)
  refine mw_loop (T := Int) (nL := 4) (fun x => d ≤ x ∧ x ≤ d + (P m9 - d) % L m9) (fun x => (d + (P m9 - d) % L m9 - x).toNat) 2 (fun x => [(3, .int (mI (x))), (0, .ref h0), (1, .int (mI (m9))), (2, .int (mI (d)))]) ?_ ((d : Int)) (show d ≤ (d : Int) ∧ (d : Int) ≤ d + (P m9 - d) % L m9 from ⟨by omega, by omega⟩) ls (lv_sub hl [0, 1, 2, 3] rfl)
  intro x hI ih ls hl
  obtain ⟨n, rfl⟩ : ∃ y, y = x := ⟨_, rfl⟩
  have hl : lv_has ls 4 [(3, .int (mI (n))), (0, .ref h0), (1, .int (mI (m9))), (2, .int (mI (d)))] := hl
  have hI : d ≤ n ∧ n ≤ d + (P m9 - d) % L m9 := hI
  obtain ⟨i1, i2⟩ := hI
  have f3 : ¬ n % L m9 = P m9 → n ≠ d + (P m9 - d) % L m9 := fun h q => h (by rw [q]; exact f2)
  refine lv_aload_n hx hb dX1_from_2 rfl (lv_at hl 1 rfl) ?_
  refine lv_iload_n hx hb dX1_from_3 rfl (lv_at hl 2 rfl) ?_
  refine lv_iload_n hx hb dX1_from_4 rfl (lv_at hl 0 rfl) ?_
  refine mw_i2l hx hb (by omega) dX1_from_5 ?_
  refine mw_cVi (rest := []) (q := (RX1, TX1, 13)) hC (c_X1_holds l D h0 a1 a2 cA cJ t f g v L P m9 n (id hok) (by omega) (by omega)) (cwV 2 hts gX1_from_X1_holds rfl rfl rfl (by decide +kernel) ⟨Nat.le_of_ble_eq_true rfl, Nat.le_of_ble_eq_true rfl⟩) hK hP rfl rfl rfl hl.1 rfl (Nat.le_of_ble_eq_true rfl) ⟨Nat.zero_le _, Nat.zero_le _⟩ dX1_from_6 ?_
  refine mw_zne (tgt := 18) hx hb dX1_from_9 (by decide) (fun c_9 => ?_) (fun c_9 => ?_)
  · refine lv_iload_n hx hb dX1_from_18 rfl (lv_at hl 0 rfl) ?_
    exact mw_retI hx hb hr hlocks dX1_from_19 (m_next1 (by omega) (by omega) (by omega) c_9 (by omega) (by omega))
  · have f4 := f3 c_9
    refine mw_iinc (k := 0) (lv' := [(3, .int (mI (n + 1))), (0, .ref h0), (1, .int (mI (m9))), (2, .int (mI (d)))]) hx hb dX1_from_12 hl rfl (by decide) rfl (fun ls hl => ?_)
    refine lv_goto (tgt := 2) hx hb dX1_from_15 (by decide) ?_
    exact ih ((n + 1)) (show d ≤ (n + 1) ∧ (n + 1) ≤ d + (P m9 - d) % L m9 from ⟨by omega, by omega⟩) (show (d + (P m9 - d) % L m9 - ((n + 1))).toNat < (d + (P m9 - d) % L m9 - n).toNat from (by omega)) ls (lv_sub hl [0, 1, 2, 3] rfl)

set_option maxHeartbeats 400000 in
set_option maxRecDepth 100000 in
theorem c_X1_before (l : Launch) (D : va_G) (h0 a1 a2 : Nat) (cA cJ : ClassId) (t f g : Int) (v : Nat → Int) (L P : Int → Int) (m9 d : Int) (hok : mOK v L P) (hk : mMk v m9) (hd : -100000000 ≤ d ∧ d ≤ 100000000) : mP l yX1_before wsX1_before ({ frames := 2, cells := 0, slots := 0, locals := 50 }) [.ref h0, .int (mI (m9)), .long (mL (d))] (mwB D (mMW h0 a1 a2 cA t f g v L P) (mTy cA cJ)) (some (.long (mL (mBfr L P m9 d)))) := by
  refine mw_open (cc := cX1_before) (maxL := 4) (ret := (some .long)) (by decide +kernel) rfl (Nat.le_of_ble_eq_true rfl) ?_
  intro p e s m below meth c ls hC hr hlocks hB hl
  obtain ⟨hx, hb, hml, hown, hts⟩ := id hC
  obtain ⟨hP, hK⟩ := hB
  have hin : ∀ w ∈ wsX10, w ∈ wsX1_before := by decide +kernel
  have hl : lv_has ls 4 [(0, .ref h0), (1, .int (mI (m9))), (2, .long (mL (d)))] := hl
  have hok9 := hok
  obtain ⟨⟨o1, o2⟩, oL, ⟨o3, o4, o5, o6, o7, o8⟩, ⟨o9, o10, o11, o12, o13, o14, o15, o16⟩⟩ := hok9
  obtain ⟨l1, l2, l3, l4⟩ := oL m9 (by omega) (by omega)
  refine lv_lload_n hx hb dX1_before_0 rfl (lv_at hl 2 rfl) ?_
  refine lv_aload_n hx hb dX1_before_1 rfl (lv_at hl 0 rfl) ?_
  refine mw_getM hx hb hts hin hown hK hP rfl 2 (by decide) (by decide +kernel) rfl rfl dX1_before_2 ?_
  refine lv_iload_n hx hb dX1_before_5 rfl (lv_at hl 1 rfl) ?_
  refine mw_iald hx hb hK hP 2 rfl rfl (by omega) dX1_before_6 ?_
  refine mw_i2l hx hb (by omega) dX1_before_7 ?_
  refine mw_lsub hx hb dX1_before_8 ?_
  refine lv_aload_n hx hb dX1_before_9 rfl (lv_at hl 0 rfl) ?_
  refine mw_getM hx hb hts hin hown hK hP rfl 1 (by decide) (by decide +kernel) rfl rfl dX1_before_10 ?_
  refine lv_iload_n hx hb dX1_before_13 rfl (lv_at hl 1 rfl) ?_
  refine mw_iald hx hb hK hP 1 rfl rfl (by omega) dX1_before_14 ?_
  refine mw_i2l hx hb (by omega) dX1_before_15 ?_
  refine mw_ladd hx hb dX1_before_16 ?_
  refine mw_lconst hx hb 1 (by decide +kernel) dX1_before_17 ?_
  refine mw_lsub hx hb dX1_before_18 ?_
  refine lv_aload_n hx hb dX1_before_19 rfl (lv_at hl 0 rfl) ?_
  refine mw_getM hx hb hts hin hown hK hP rfl 1 (by decide) (by decide +kernel) rfl rfl dX1_before_20 ?_
  refine lv_iload_n hx hb dX1_before_23 rfl (lv_at hl 1 rfl) ?_
  refine mw_iald hx hb hK hP 1 rfl rfl (by omega) dX1_before_24 ?_
  refine mw_i2l hx hb (by omega) dX1_before_25 ?_
  refine mw_cSl (rest := []) hC (c_X1_part l (((d - (P m9)) + (L m9)) - 1) (L m9) (by omega) (by omega) (by omega)) (va_cwS 2 hts gX1_before_X1_part rfl rfl rfl (by decide +kernel) ⟨Nat.le_of_ble_eq_true rfl, Nat.le_of_ble_eq_true rfl⟩) rfl hl.1 rfl (Nat.le_of_ble_eq_true rfl) ⟨Nat.zero_le _, Nat.zero_le _⟩ dX1_before_26 ?_
  exact mw_retL hx hb hr hlocks dX1_before_29 rfl

set_option maxHeartbeats 400000 in
set_option maxRecDepth 100000 in
theorem c_X1_count (l : Launch) (D : va_G) (h0 a1 a2 : Nat) (cA cJ : ClassId) (t f g : Int) (v : Nat → Int) (L P : Int → Int) (m9 a b : Int) (hok : mOK v L P) (hk : mMk v m9) (ha : -10000000 ≤ a ∧ a ≤ 10000000) (hb9 : -10000000 ≤ b ∧ b ≤ 10000000) : mP l yX1_count wsX1_count ({ frames := 3, cells := 0, slots := 0, locals := 73 }) [.ref h0, .int (mI (m9)), .long (mL (a)), .long (mL (b))] (mwB D (mMW h0 a1 a2 cA t f g v L P) (mTy cA cJ)) (some (.int (mI (mCnt L P m9 a b)))) := by
  refine mw_open (cc := cX1_count) (maxL := 6) (ret := (some .int)) (by decide +kernel) rfl (Nat.le_of_ble_eq_true rfl) ?_
  intro p e s m below meth c ls hC hr hlocks hB hl
  obtain ⟨hx, hb, hml, hown, hts⟩ := id hC
  obtain ⟨hP, hK⟩ := hB
  have hl : lv_has ls 6 [(0, .ref h0), (1, .int (mI (m9))), (2, .long (mL (a))), (4, .long (mL (b)))] := hl
  have hok9 := hok
  obtain ⟨⟨o1, o2⟩, oL, ⟨o3, o4, o5, o6, o7, o8⟩, ⟨o9, o10, o11, o12, o13, o14, o15, o16⟩⟩ := hok9
  obtain ⟨l1, l2, l3, l4⟩ := oL m9 (by omega) (by omega)
  refine lv_aload_n hx hb dX1_count_0 rfl (lv_at hl 0 rfl) ?_
  refine lv_iload_n hx hb dX1_count_1 rfl (lv_at hl 1 rfl) ?_
  refine lv_lload hx hb dX1_count_2 (lv_at hl 3 rfl) ?_
  refine mw_lconst hx hb 1 (by decide +kernel) dX1_count_4 ?_
  refine mw_ladd hx hb dX1_count_5 ?_
  refine mw_cVl (rest := []) (q := (RX1, TX1, 13)) hC (c_X1_before l D h0 a1 a2 cA cJ t f g v L P m9 (b + 1) (id hok) (by omega) (by omega)) (cwV 2 hts gX1_count_X1_before rfl rfl rfl (by decide +kernel) ⟨Nat.le_of_ble_eq_true rfl, Nat.le_of_ble_eq_true rfl⟩) hK hP rfl rfl rfl hl.1 rfl (Nat.le_of_ble_eq_true rfl) ⟨Nat.zero_le _, Nat.zero_le _⟩ dX1_count_6 ?_
  refine lv_aload_n hx hb dX1_count_9 rfl (lv_at hl 0 rfl) ?_
  refine lv_iload_n hx hb dX1_count_10 rfl (lv_at hl 1 rfl) ?_
  refine lv_lload_n hx hb dX1_count_11 rfl (lv_at hl 2 rfl) ?_
  refine mw_cVl (rest := [.long (mL (mBfr L P m9 (b + 1)))]) (q := (RX1, TX1, 13)) hC (c_X1_before l D h0 a1 a2 cA cJ t f g v L P m9 a (id hok) (by omega) (by omega)) (cwV 2 hts gX1_count_X1_before rfl rfl rfl (by decide +kernel) ⟨Nat.le_of_ble_eq_true rfl, Nat.le_of_ble_eq_true rfl⟩) hK hP rfl rfl rfl hl.1 rfl (Nat.le_of_ble_eq_true rfl) ⟨Nat.zero_le _, Nat.zero_le _⟩ dX1_count_12 ?_
  refine mw_lsub hx hb dX1_count_15 ?_
  refine mw_l2i hx hb dX1_count_16 ?_
  exact mw_retI hx hb hr hlocks dX1_count_17 (m_cnt (by omega))

set_option maxHeartbeats 400000 in
set_option maxRecDepth 100000 in
theorem c_X1_held (l : Launch) (D : va_G) (h0 a1 a2 : Nat) (cA cJ : ClassId) (t f g : Int) (v : Nat → Int) (L P : Int → Int) (d : Int) (hok : mOK v L P) (hd : mDay d) : mP l yX1_held wsX1_held ({ frames := 2, cells := 0, slots := 0, locals := 48 }) [.ref h0, .int (mI (d))] (mwB D (mMW h0 a1 a2 cA t f g v L P) (mTy cA cJ)) (some (.int (mI (mSet L P d (v 0).toNat)))) := by
  refine mw_open (cc := cX1_held) (maxL := 4) (ret := (some .int)) (by decide +kernel) rfl (Nat.le_of_ble_eq_true rfl) ?_
  intro p e s m below meth c ls hC hr hlocks hB hl
  obtain ⟨hx, hb, hml, hown, hts⟩ := id hC
  obtain ⟨hP, hK⟩ := hB
  have hin : ∀ w ∈ wsX10, w ∈ wsX1_held := by decide +kernel
  have hl : lv_has ls 4 [(0, .ref h0), (1, .int (mI (d)))] := hl
  have hok9 := hok
  obtain ⟨⟨o1, o2⟩, oL, ⟨o3, o4, o5, o6, o7, o8⟩, ⟨o9, o10, o11, o12, o13, o14, o15, o16⟩⟩ := hok9
  refine mw_iconst hx hb dX1_held_0 ?_
  refine lv_istore_n (lv' := [(2, .int (mI (0))), (0, .ref h0), (1, .int (mI (d)))]) hx hb dX1_held_1 rfl hl (by decide) rfl (fun ls hl => ?_)
  refine mw_iconst hx hb dX1_held_2 ?_
  refine lv_istore_n (lv' := [(3, .int (mI (0))), (2, .int (mI (0))), (0, .ref h0), (1, .int (mI (d)))]) hx hb dX1_held_3 rfl hl (by decide) rfl (fun ls hl => ?_)
  refine mw_loop (T := Int × Int) (nL := 4) (fun x => (0 ≤ x.1 ∧ x.1 ≤ v 0) ∧ x.2 = mSet L P d (x.1).toNat) (fun x => (v 0 - x.1).toNat) 4 (fun x => [(3, .int (mI (x.1))), (2, .int (mI (x.2))), (0, .ref h0), (1, .int (mI (d)))]) ?_ ((0 : Int), (0 : Int)) (show (0 ≤ (0 : Int) ∧ (0 : Int) ≤ v 0) ∧ (0 : Int) = mSet L P d ((0 : Int)).toNat from ⟨⟨by omega, by omega⟩, rfl⟩) ls (lv_sub hl [0, 1, 2, 3] rfl)
  intro x hI ih ls hl
  obtain ⟨i, z⟩ := x
  have hl : lv_has ls 4 [(3, .int (mI (i))), (2, .int (mI (z))), (0, .ref h0), (1, .int (mI (d)))] := hl
  have hI : (0 ≤ i ∧ i ≤ v 0) ∧ z = mSet L P d (i).toNat := hI
  obtain ⟨⟨i1, i2⟩, i3⟩ := hI
  have f1 := mSet_r L P d i.toNat
  have f2 : ((i.toNat : Nat) : Int) = i := by omega
  have f3 : (i + 1).toNat = i.toNat + 1 := by omega
  have f6 : i.toNat < 16 → mShl 1 i = 2 ^ i.toNat := fun h => by have := mShl_e i.toNat (by omega); rw [f2] at this; exact this
  have f4 : i < v 0 → d % L i = P i → mOr z (mShl 1 i) = mSet L P d (i + 1).toNat := fun h0 h => by
    rw [f3, f6 (by omega), i3, mOr_e f1.1 f1.2 (by omega), mSet_s, f2, if_pos h]
  have f7 : mRI z := by
    have g1 : (2 : Nat) ^ i.toNat ≤ 2 ^ 16 := Nat.pow_le_pow_right (by decide) (by omega)
    have g2 : ((2 : Int) ^ i.toNat) = ((2 ^ i.toNat : Nat) : Int) := by norm_cast
    have g3 : (2 : Nat) ^ 16 = 65536 := by decide
    omega
  have f5 : ¬ d % L i = P i → mOr z 0 = mSet L P d (i + 1).toNat := fun h => by
    rw [mOr_0 f7, f3, mSet_s, f2, if_neg h, Int.add_zero]
    exact i3
  refine lv_iload_n hx hb dX1_held_4 rfl (lv_at hl 0 rfl) ?_
  refine lv_aload_n hx hb dX1_held_5 rfl (lv_at hl 2 rfl) ?_
  refine mw_getM hx hb hts hin hown hK hP rfl 3 (by decide) (by decide +kernel) rfl rfl dX1_held_6 ?_
  refine mw_icmp_ge (tgt := 38) hx hb (by omega) (by omega) dX1_held_9 (by decide) (fun c_9 => ?_) (fun c_9 => ?_)
  · refine lv_iload_n hx hb dX1_held_38 rfl (lv_at hl 1 rfl) ?_
    exact mw_retI hx hb hr hlocks dX1_held_39 (by rw [i3]; congr 1; omega)
  · refine lv_iload_n hx hb dX1_held_12 rfl (lv_at hl 1 rfl) ?_
    refine lv_aload_n hx hb dX1_held_13 rfl (lv_at hl 2 rfl) ?_
    refine lv_iload_n hx hb dX1_held_14 rfl (lv_at hl 0 rfl) ?_
    refine lv_iload_n hx hb dX1_held_15 rfl (lv_at hl 3 rfl) ?_
    refine mw_i2l hx hb (by omega) dX1_held_16 ?_
    refine mw_cVi (rest := [.int (mI (z))]) (q := (RX1, TX1, 13)) hC (c_X1_holds l D h0 a1 a2 cA cJ t f g v L P i d (id hok) (by omega) (by omega)) (cwV 2 hts gX1_held_X1_holds rfl rfl rfl (by decide +kernel) ⟨Nat.le_of_ble_eq_true rfl, Nat.le_of_ble_eq_true rfl⟩) hK hP rfl rfl rfl hl.1 rfl (Nat.le_of_ble_eq_true rfl) ⟨Nat.zero_le _, Nat.zero_le _⟩ dX1_held_17 ?_
    refine mw_zeq (tgt := 29) hx hb dX1_held_20 (by decide) (fun c_20 => ?_) (fun c_20 => ?_)
    · refine mw_iconst hx hb dX1_held_29 ?_
      refine mw_ior hx hb dX1_held_30 ?_
      refine lv_istore_n (lv' := [(2, .int (mI (mOr z 0))), (3, .int (mI (i))), (0, .ref h0), (1, .int (mI (d)))]) hx hb dX1_held_31 rfl hl (by decide) rfl (fun ls hl => ?_)
      refine mw_iinc (k := 1) (lv' := [(3, .int (mI (i + 1))), (2, .int (mI (mOr z 0))), (0, .ref h0), (1, .int (mI (d)))]) hx hb dX1_held_32 hl rfl (by decide) rfl (fun ls hl => ?_)
      refine lv_goto (tgt := 4) hx hb dX1_held_35 (by decide) ?_
      exact ih ((i + 1), (mOr z 0)) (show (0 ≤ (i + 1) ∧ (i + 1) ≤ v 0) ∧ (mOr z 0) = mSet L P d ((i + 1)).toNat from ⟨⟨by omega, by omega⟩, f5 c_20⟩) (show (v 0 - (i + 1)).toNat < (v 0 - i).toNat from (by omega)) ls (lv_sub hl [0, 1, 2, 3] rfl)
    · refine mw_iconst hx hb dX1_held_23 ?_
      refine lv_iload_n hx hb dX1_held_24 rfl (lv_at hl 0 rfl) ?_
      refine mw_ishl hx hb dX1_held_25 ?_
      refine lv_goto (tgt := 30) hx hb dX1_held_26 (by decide) ?_
      refine mw_ior hx hb dX1_held_30 ?_
      refine lv_istore_n (lv' := [(2, .int (mI (mOr z (mShl 1 i)))), (3, .int (mI (i))), (0, .ref h0), (1, .int (mI (d)))]) hx hb dX1_held_31 rfl hl (by decide) rfl (fun ls hl => ?_)
      refine mw_iinc (k := 1) (lv' := [(3, .int (mI (i + 1))), (2, .int (mI (mOr z (mShl 1 i)))), (0, .ref h0), (1, .int (mI (d)))]) hx hb dX1_held_32 hl rfl (by decide) rfl (fun ls hl => ?_)
      refine lv_goto (tgt := 4) hx hb dX1_held_35 (by decide) ?_
      exact ih ((i + 1), (mOr z (mShl 1 i))) (show (0 ≤ (i + 1) ∧ (i + 1) ≤ v 0) ∧ (mOr z (mShl 1 i)) = mSet L P d ((i + 1)).toNat from ⟨⟨by omega, by omega⟩, f4 (by omega) c_20⟩) (show (v 0 - (i + 1)).toNat < (v 0 - i).toNat from (by omega)) ls (lv_sub hl [0, 1, 2, 3] rfl)

set_option maxHeartbeats 400000 in
set_option maxRecDepth 100000 in
theorem c_X1_sizeOf (l : Launch) (z : Int) (h1 : mRI z) : mP l yX1_sizeOf wsX1_sizeOf ({ frames := 0, cells := 0, slots := 0, locals := 0 }) [.int (mI (z))] (fun _ => True) (some (.int (mI (mPop z 32)))) := by
  refine mw_open (cc := cX1_sizeOf) (maxL := 3) (ret := (some .int)) (by decide +kernel) rfl (Nat.le_of_ble_eq_true rfl) ?_
  intro p e s m below meth c ls hC hr hlocks hB hl
  obtain ⟨hx, hb, hml, hown, hts⟩ := id hC
  have hl : lv_has ls 3 [(0, .int (mI (z)))] := hl
  refine mw_iconst hx hb dX1_sizeOf_0 ?_
  refine lv_istore_n (lv' := [(1, .int (mI (0))), (0, .int (mI (z)))]) hx hb dX1_sizeOf_1 rfl hl (by decide) rfl (fun ls hl => ?_)
  refine mw_iconst hx hb dX1_sizeOf_2 ?_
  refine lv_istore_n (lv' := [(2, .int (mI (0))), (1, .int (mI (0))), (0, .int (mI (z)))]) hx hb dX1_sizeOf_3 rfl hl (by decide) rfl (fun ls hl => ?_)
  refine mw_loop (T := Int × Int) (nL := 3) (fun x => (0 ≤ x.1 ∧ x.1 ≤ 32) ∧ x.2 = mPop z (x.1).toNat) (fun x => (32 - (x.1)).toNat) 4 (fun x => [(2, .int (mI (x.1))), (1, .int (mI (x.2))), (0, .int (mI (z)))]) ?_ ((0 : Int), (0 : Int)) (show (0 ≤ (0 : Int) ∧ (0 : Int) ≤ 32) ∧ (0 : Int) = mPop z ((0 : Int)).toNat from ⟨⟨by omega, by omega⟩, rfl⟩) ls (lv_sub hl [0, 1, 2] rfl)
  intro x hI ih ls hl
  obtain ⟨i, n⟩ := x
  have hl : lv_has ls 3 [(2, .int (mI (i))), (1, .int (mI (n))), (0, .int (mI (z)))] := hl
  have hI : (0 ≤ i ∧ i ≤ 32) ∧ n = mPop z (i).toNat := hI
  obtain ⟨⟨i1, i2⟩, i3⟩ := hI
  have f3 : (i + 1).toNat = i.toNat + 1 := by omega
  have f4 : i < 32 → n + mAnd (mShr z i) 1 = mPop z (i + 1).toNat := fun h => by
    rw [f3, mBit_shrI h1 i1 h, i3]
    rfl
  refine lv_iload_n hx hb dX1_sizeOf_4 rfl (lv_at hl 0 rfl) ?_
  refine mw_bipush hx hb (by decide +kernel) dX1_sizeOf_5 ?_
  refine mw_icmp_ge (tgt := 24) hx hb (by omega) (by omega) dX1_sizeOf_7 (by decide) (fun c_7 => ?_) (fun c_7 => ?_)
  · refine lv_iload_n hx hb dX1_sizeOf_24 rfl (lv_at hl 1 rfl) ?_
    exact mw_retI hx hb hr hlocks dX1_sizeOf_25 (by have e : i.toNat = 32 := (by omega); rw [i3, e])
  · refine lv_iload_n hx hb dX1_sizeOf_10 rfl (lv_at hl 1 rfl) ?_
    refine lv_iload_n hx hb dX1_sizeOf_11 rfl (lv_at hl 2 rfl) ?_
    refine lv_iload_n hx hb dX1_sizeOf_12 rfl (lv_at hl 0 rfl) ?_
    refine mw_ishr hx hb dX1_sizeOf_13 ?_
    refine mw_iconst hx hb dX1_sizeOf_14 ?_
    refine mw_iand hx hb dX1_sizeOf_15 ?_
    refine mw_iadd hx hb dX1_sizeOf_16 ?_
    refine lv_istore_n (lv' := [(1, .int (mI (n + (mAnd (mShr z i) 1)))), (2, .int (mI (i))), (0, .int (mI (z)))]) hx hb dX1_sizeOf_17 rfl hl (by decide) rfl (fun ls hl => ?_)
    refine mw_iinc (k := 1) (lv' := [(2, .int (mI (i + 1))), (1, .int (mI (n + (mAnd (mShr z i) 1)))), (0, .int (mI (z)))]) hx hb dX1_sizeOf_18 hl rfl (by decide) rfl (fun ls hl => ?_)
    refine lv_goto (tgt := 4) hx hb dX1_sizeOf_21 (by decide) ?_
    exact ih ((i + 1), (n + (mAnd (mShr z i) 1))) (show (0 ≤ (i + 1) ∧ (i + 1) ≤ 32) ∧ (n + (mAnd (mShr z i) 1)) = mPop z ((i + 1)).toNat from ⟨⟨by omega, by omega⟩, f4 (by omega)⟩) (show (32 - ((i + 1))).toNat < (32 - i).toNat from (by omega)) ls (lv_sub hl [0, 1, 2] rfl)

set_option maxHeartbeats 400000 in
set_option maxRecDepth 100000 in
theorem c_X1_faultOf (l : Launch) (D : va_G) (h0 a1 a2 : Nat) (cA cJ : ClassId) (t f g : Int) (v : Nat → Int) (L P : Int → Int) (z : Int) (h1 : mRI z) : mP l yX1_faultOf wsX1_faultOf ({ frames := 1, cells := 0, slots := 0, locals := 25 }) [.ref h0, .int (mI (z))] (mwB D (mMW h0 a1 a2 cA t f g v L P) (mTy cA cJ)) (some (.int (mI (mFlt v z)))) := by
  refine mw_open (cc := cX1_faultOf) (maxL := 2) (ret := (some .int)) (by decide +kernel) rfl (Nat.le_of_ble_eq_true rfl) ?_
  intro p e s m below meth c ls hC hr hlocks hB hl
  obtain ⟨hx, hb, hml, hown, hts⟩ := id hC
  obtain ⟨hP, hK⟩ := hB
  have hin : ∀ w ∈ wsX10, w ∈ wsX1_faultOf := by decide +kernel
  have hl : lv_has ls 2 [(0, .ref h0), (1, .int (mI (z)))] := hl
  have q1 := mPop_r z 32
  have q2 := mUsh_r z (v 0)
  refine lv_iload_n hx hb dX1_faultOf_0 rfl (lv_at hl 1 rfl) ?_
  refine mw_cSi (rest := []) hC (c_X1_sizeOf l z (by omega)) (va_cwS 1 hts gX1_faultOf_X1_sizeOf rfl rfl rfl (by decide +kernel) ⟨Nat.le_of_ble_eq_true rfl, Nat.le_of_ble_eq_true rfl⟩) rfl hl.1 rfl (Nat.le_of_ble_eq_true rfl) ⟨Nat.zero_le _, Nat.zero_le _⟩ dX1_faultOf_1 ?_
  refine mw_i2l hx hb (by omega) dX1_faultOf_4 ?_
  refine mw_lconst hx hb 1 (by decide +kernel) dX1_faultOf_5 ?_
  refine mw_ldc2 hx hb (5) (by decide +kernel) hown (hts (.constantLong RX1 108 (5)) (by decide +kernel)) dX1_faultOf_6 ?_
  refine mw_cSi (rest := []) hC (c_X1_in l (mPop z 32) 1 5 (by omega) (by omega) (by omega)) (va_cwS 3 hts gX1_faultOf_X1_in rfl rfl rfl (by decide +kernel) ⟨Nat.le_of_ble_eq_true rfl, Nat.le_of_ble_eq_true rfl⟩) rfl hl.1 rfl (Nat.le_of_ble_eq_true rfl) ⟨Nat.zero_le _, Nat.zero_le _⟩ dX1_faultOf_9 ?_
  refine mw_zne (tgt := 19) hx hb dX1_faultOf_12 (by decide) (fun c_12 => ?_) (fun c_12 => ?_)
  · refine lv_iload_n hx hb dX1_faultOf_19 rfl (lv_at hl 1 rfl) ?_
    refine lv_aload_n hx hb dX1_faultOf_20 rfl (lv_at hl 0 rfl) ?_
    refine mw_getM hx hb hts hin hown hK hP rfl 3 (by decide) (by decide +kernel) rfl rfl dX1_faultOf_21 ?_
    refine mw_iushr hx hb dX1_faultOf_24 ?_
    refine mw_if_eq (tgt := 32) hx hb (by omega) dX1_faultOf_25 (by decide) (fun c_25 => ?_) (fun c_25 => ?_)
    · refine mw_iconst hx hb dX1_faultOf_32 ?_
      exact mw_retI hx hb hr hlocks dX1_faultOf_33 (by unfold mFlt; first | (rw [mEx2_1 (by omega)]; rfl) | (rw [mEx2_2 (by omega) (by omega)]; rfl) | (rw [mEx2_0 (by omega) (by omega)]; rfl))
    · refine mw_iconst hx hb dX1_faultOf_28 ?_
      refine lv_goto (tgt := 33) hx hb dX1_faultOf_29 (by decide) ?_
      exact mw_retI hx hb hr hlocks dX1_faultOf_33 (by unfold mFlt; first | (rw [mEx2_1 (by omega)]; rfl) | (rw [mEx2_2 (by omega) (by omega)]; rfl) | (rw [mEx2_0 (by omega) (by omega)]; rfl))
  · refine mw_iconst hx hb dX1_faultOf_15 ?_
    refine lv_goto (tgt := 33) hx hb dX1_faultOf_16 (by decide) ?_
    exact mw_retI hx hb hr hlocks dX1_faultOf_33 (by unfold mFlt; first | (rw [mEx2_1 (by omega)]; rfl) | (rw [mEx2_2 (by omega) (by omega)]; rfl) | (rw [mEx2_0 (by omega) (by omega)]; rfl))

set_option maxHeartbeats 400000 in
set_option maxRecDepth 100000 in
theorem c_X1_lunarOf (l : Launch) (D : va_G) (h0 a1 a2 : Nat) (cA cJ : ClassId) (t f g : Int) (v : Nat → Int) (L P : Int → Int) (d : Int) (hok : mOK v L P) (hd : -1000000000000 ≤ d ∧ d ≤ 1000000000000) : mP l yX1_lunarOf wsX1_lunarOf ({ frames := 1, cells := 0, slots := 0, locals := 25 }) [.ref h0, .long (mL (d))] (mwB D (mMW h0 a1 a2 cA t f g v L P) (mTy cA cJ)) (some (.long (mL (mLunar v d)))) := by
  refine mw_open (cc := cX1_lunarOf) (maxL := 3) (ret := (some .long)) (by decide +kernel) rfl (Nat.le_of_ble_eq_true rfl) ?_
  intro p e s m below meth c ls hC hr hlocks hB hl
  obtain ⟨hx, hb, hml, hown, hts⟩ := id hC
  obtain ⟨hP, hK⟩ := hB
  have hin : ∀ w ∈ wsX10, w ∈ wsX1_lunarOf := by decide +kernel
  have hl : lv_has ls 3 [(0, .ref h0), (1, .long (mL (d)))] := hl
  have hok9 := hok
  obtain ⟨⟨o1, o2⟩, oL, ⟨o3, o4, o5, o6, o7, o8⟩, ⟨o9, o10, o11, o12, o13, o14, o15, o16⟩⟩ := hok9
  have f1 := m_bound (d + v 3) (v 2) (A := 1000000001000) (B := 100) (by omega) (by omega)
  have f2 : mMoon v d = (d + v 3) * v 2 := rfl
  have f3 := m_mod_r (a := (d + v 3) * v 2) (b := v 1) (by omega)
  refine lv_lload_n hx hb dX1_lunarOf_0 rfl (lv_at hl 1 rfl) ?_
  refine lv_aload_n hx hb dX1_lunarOf_1 rfl (lv_at hl 0 rfl) ?_
  refine mw_getM hx hb hts hin hown hK hP rfl 6 (by decide) (by decide +kernel) rfl rfl dX1_lunarOf_2 ?_
  refine mw_i2l hx hb (by omega) dX1_lunarOf_5 ?_
  refine mw_ladd hx hb dX1_lunarOf_6 ?_
  refine lv_aload_n hx hb dX1_lunarOf_7 rfl (lv_at hl 0 rfl) ?_
  refine mw_getM hx hb hts hin hown hK hP rfl 5 (by decide) (by decide +kernel) rfl rfl dX1_lunarOf_8 ?_
  refine mw_i2l hx hb (by omega) dX1_lunarOf_11 ?_
  refine mw_lmul hx hb dX1_lunarOf_12 ?_
  refine lv_aload_n hx hb dX1_lunarOf_13 rfl (lv_at hl 0 rfl) ?_
  refine mw_getM hx hb hts hin hown hK hP rfl 4 (by decide) (by decide +kernel) rfl rfl dX1_lunarOf_14 ?_
  refine mw_i2l hx hb (by omega) dX1_lunarOf_17 ?_
  refine mw_cSl (rest := []) hC (c_X1_modulo l ((d + (v 3)) * (v 2)) (v 1) (by omega) (by omega) (by omega)) (va_cwS 2 hts gX1_lunarOf_X1_modulo rfl rfl rfl (by decide +kernel) ⟨Nat.le_of_ble_eq_true rfl, Nat.le_of_ble_eq_true rfl⟩) rfl hl.1 rfl (Nat.le_of_ble_eq_true rfl) ⟨Nat.zero_le _, Nat.zero_le _⟩ dX1_lunarOf_18 ?_
  refine lv_aload_n hx hb dX1_lunarOf_21 rfl (lv_at hl 0 rfl) ?_
  refine mw_getM hx hb hts hin hown hK hP rfl 5 (by decide) (by decide +kernel) rfl rfl dX1_lunarOf_22 ?_
  refine mw_i2l hx hb (by omega) dX1_lunarOf_25 ?_
  refine mw_ldiv hx hb (by omega) (by omega) (by omega) dX1_lunarOf_26 ?_
  exact mw_retL hx hb hr hlocks dX1_lunarOf_27 (Int.tdiv_eq_ediv_of_nonneg (by omega))

set_option maxHeartbeats 400000 in
set_option maxRecDepth 100000 in
theorem c_X1_monthOf (l : Launch) (D : va_G) (h0 a1 a2 : Nat) (cA cJ : ClassId) (t f g : Int) (v : Nat → Int) (L P : Int → Int) (d : Int) (hok : mOK v L P) (hd : -1000000000 ≤ d ∧ d ≤ 1000000000) : mP l yX1_monthOf wsX1_monthOf ({ frames := 2, cells := 0, slots := 0, locals := 50 }) [.ref h0, .long (mL (d))] (mwB D (mMW h0 a1 a2 cA t f g v L P) (mTy cA cJ)) (some (.long (mL (mMonth v d)))) := by
  refine mw_open (cc := cX1_monthOf) (maxL := 3) (ret := (some .long)) (by decide +kernel) rfl (Nat.le_of_ble_eq_true rfl) ?_
  intro p e s m below meth c ls hC hr hlocks hB hl
  obtain ⟨hx, hb, hml, hown, hts⟩ := id hC
  obtain ⟨hP, hK⟩ := hB
  have hin : ∀ w ∈ wsX10, w ∈ wsX1_monthOf := by decide +kernel
  have hl : lv_has ls 3 [(0, .ref h0), (1, .long (mL (d)))] := hl
  have hok9 := hok
  obtain ⟨⟨o1, o2⟩, oL, ⟨o3, o4, o5, o6, o7, o8⟩, ⟨o9, o10, o11, o12, o13, o14, o15, o16⟩⟩ := hok9
  have f1 := m_bound (d + v 3) (v 2) (A := 1000000001000) (B := 100) (by omega) (by omega)
  have f2 : mMoon v d = (d + v 3) * v 2 := rfl
  have f3 := m_mod_r (a := (d + v 3) * v 2) (b := v 1) (by omega)
  refine lv_lload_n hx hb dX1_monthOf_0 rfl (lv_at hl 1 rfl) ?_
  refine lv_aload_n hx hb dX1_monthOf_1 rfl (lv_at hl 0 rfl) ?_
  refine mw_getM hx hb hts hin hown hK hP rfl 6 (by decide) (by decide +kernel) rfl rfl dX1_monthOf_2 ?_
  refine mw_i2l hx hb (by omega) dX1_monthOf_5 ?_
  refine mw_ladd hx hb dX1_monthOf_6 ?_
  refine lv_aload_n hx hb dX1_monthOf_7 rfl (lv_at hl 0 rfl) ?_
  refine mw_getM hx hb hts hin hown hK hP rfl 5 (by decide) (by decide +kernel) rfl rfl dX1_monthOf_8 ?_
  refine mw_i2l hx hb (by omega) dX1_monthOf_11 ?_
  refine mw_lmul hx hb dX1_monthOf_12 ?_
  refine lv_aload_n hx hb dX1_monthOf_13 rfl (lv_at hl 0 rfl) ?_
  refine mw_getM hx hb hts hin hown hK hP rfl 4 (by decide) (by decide +kernel) rfl rfl dX1_monthOf_14 ?_
  refine mw_i2l hx hb (by omega) dX1_monthOf_17 ?_
  refine mw_cSl (rest := []) hC (c_X1_part l ((d + (v 3)) * (v 2)) (v 1) (by omega) (by omega) (by omega)) (va_cwS 2 hts gX1_monthOf_X1_part rfl rfl rfl (by decide +kernel) ⟨Nat.le_of_ble_eq_true rfl, Nat.le_of_ble_eq_true rfl⟩) rfl hl.1 rfl (Nat.le_of_ble_eq_true rfl) ⟨Nat.zero_le _, Nat.zero_le _⟩ dX1_monthOf_18 ?_
  exact mw_retL hx hb hr hlocks dX1_monthOf_21 rfl

set_option maxHeartbeats 400000 in
set_option maxRecDepth 100000 in
theorem c_X1_beginOf (l : Launch) (D : va_G) (h0 a1 a2 : Nat) (cA cJ : ClassId) (t f g : Int) (v : Nat → Int) (L P : Int → Int) (y : Int) (hok : mOK v L P) (hy : -20000 ≤ y ∧ y ≤ 20000) : mP l yX1_beginOf wsX1_beginOf ({ frames := 2, cells := 0, slots := 0, locals := 50 }) [.ref h0, .long (mL (y))] (mwB D (mMW h0 a1 a2 cA t f g v L P) (mTy cA cJ)) (some (.long (mL (mBeg v y)))) := by
  refine mw_open (cc := cX1_beginOf) (maxL := 3) (ret := (some .long)) (by decide +kernel) rfl (Nat.le_of_ble_eq_true rfl) ?_
  intro p e s m below meth c ls hC hr hlocks hB hl
  obtain ⟨hx, hb, hml, hown, hts⟩ := id hC
  obtain ⟨hP, hK⟩ := hB
  have hin : ∀ w ∈ wsX10, w ∈ wsX1_beginOf := by decide +kernel
  have hl : lv_has ls 3 [(0, .ref h0), (1, .long (mL (y)))] := hl
  have hok9 := hok
  obtain ⟨⟨o1, o2⟩, oL, ⟨o3, o4, o5, o6, o7, o8⟩, ⟨o9, o10, o11, o12, o13, o14, o15, o16⟩⟩ := hok9
  have f1 := m_bound (v 5) y (A := 400) (B := 20000) (by omega) (by omega)
  have f2 := m_mod_r (a := v 5 * y + v 6) (b := v 7) (by omega)
  refine lv_aload_n hx hb dX1_beginOf_0 rfl (lv_at hl 0 rfl) ?_
  refine mw_getM hx hb hts hin hown hK hP rfl 7 (by decide) (by decide +kernel) rfl rfl dX1_beginOf_1 ?_
  refine mw_i2l hx hb (by omega) dX1_beginOf_4 ?_
  refine lv_lload_n hx hb dX1_beginOf_5 rfl (lv_at hl 1 rfl) ?_
  refine mw_lmul hx hb dX1_beginOf_6 ?_
  refine lv_aload_n hx hb dX1_beginOf_7 rfl (lv_at hl 0 rfl) ?_
  refine mw_getM hx hb hts hin hown hK hP rfl 8 (by decide) (by decide +kernel) rfl rfl dX1_beginOf_8 ?_
  refine mw_i2l hx hb (by omega) dX1_beginOf_11 ?_
  refine lv_lload_n hx hb dX1_beginOf_12 rfl (lv_at hl 1 rfl) ?_
  refine mw_lmul hx hb dX1_beginOf_13 ?_
  refine lv_aload_n hx hb dX1_beginOf_14 rfl (lv_at hl 0 rfl) ?_
  refine mw_getM hx hb hts hin hown hK hP rfl 9 (by decide) (by decide +kernel) rfl rfl dX1_beginOf_15 ?_
  refine mw_i2l hx hb (by omega) dX1_beginOf_18 ?_
  refine mw_ladd hx hb dX1_beginOf_19 ?_
  refine lv_aload_n hx hb dX1_beginOf_20 rfl (lv_at hl 0 rfl) ?_
  refine mw_getM hx hb hts hin hown hK hP rfl 10 (by decide) (by decide +kernel) rfl rfl dX1_beginOf_21 ?_
  refine mw_i2l hx hb (by omega) dX1_beginOf_24 ?_
  refine mw_cSl (rest := [.long (mL ((v 4) * y))]) hC (c_X1_part l (((v 5) * y) + (v 6)) (v 7) (by omega) (by omega) (by omega)) (va_cwS 2 hts gX1_beginOf_X1_part rfl rfl rfl (by decide +kernel) ⟨Nat.le_of_ble_eq_true rfl, Nat.le_of_ble_eq_true rfl⟩) rfl hl.1 rfl (Nat.le_of_ble_eq_true rfl) ⟨Nat.zero_le _, Nat.zero_le _⟩ dX1_beginOf_25 ?_
  refine mw_ladd hx hb dX1_beginOf_28 ?_
  exact mw_retL hx hb hr hlocks dX1_beginOf_29 rfl

set_option maxHeartbeats 400000 in
set_option maxRecDepth 100000 in
theorem c_X1_leaps (l : Launch) (D : va_G) (h0 a1 a2 : Nat) (cA cJ : ClassId) (t f g : Int) (v : Nat → Int) (L P : Int → Int) (y : Int) (hok : mOK v L P) (hy : -20000 ≤ y ∧ y ≤ 20000) : mP l yX1_leaps wsX1_leaps ({ frames := 1, cells := 0, slots := 0, locals := 25 }) [.ref h0, .long (mL (y))] (mwB D (mMW h0 a1 a2 cA t f g v L P) (mTy cA cJ)) (some (.int (mI (mB (mLeap v y))))) := by
  refine mw_open (cc := cX1_leaps) (maxL := 3) (ret := (some .boolean)) (by decide +kernel) rfl (Nat.le_of_ble_eq_true rfl) ?_
  intro p e s m below meth c ls hC hr hlocks hB hl
  obtain ⟨hx, hb, hml, hown, hts⟩ := id hC
  obtain ⟨hP, hK⟩ := hB
  have hin : ∀ w ∈ wsX10, w ∈ wsX1_leaps := by decide +kernel
  have hl : lv_has ls 3 [(0, .ref h0), (1, .long (mL (y)))] := hl
  have hok9 := hok
  obtain ⟨⟨o1, o2⟩, oL, ⟨o3, o4, o5, o6, o7, o8⟩, ⟨o9, o10, o11, o12, o13, o14, o15, o16⟩⟩ := hok9
  have f1 := m_bound (v 5) y (A := 400) (B := 20000) (by omega) (by omega)
  have f2 := m_mod_r (a := v 5 * y + v 6) (b := v 7) (by omega)
  refine lv_aload_n hx hb dX1_leaps_0 rfl (lv_at hl 0 rfl) ?_
  refine mw_getM hx hb hts hin hown hK hP rfl 8 (by decide) (by decide +kernel) rfl rfl dX1_leaps_1 ?_
  refine mw_i2l hx hb (by omega) dX1_leaps_4 ?_
  refine lv_lload_n hx hb dX1_leaps_5 rfl (lv_at hl 1 rfl) ?_
  refine mw_lmul hx hb dX1_leaps_6 ?_
  refine lv_aload_n hx hb dX1_leaps_7 rfl (lv_at hl 0 rfl) ?_
  refine mw_getM hx hb hts hin hown hK hP rfl 9 (by decide) (by decide +kernel) rfl rfl dX1_leaps_8 ?_
  refine mw_i2l hx hb (by omega) dX1_leaps_11 ?_
  refine mw_ladd hx hb dX1_leaps_12 ?_
  refine lv_aload_n hx hb dX1_leaps_13 rfl (lv_at hl 0 rfl) ?_
  refine mw_getM hx hb hts hin hown hK hP rfl 10 (by decide) (by decide +kernel) rfl rfl dX1_leaps_14 ?_
  refine mw_i2l hx hb (by omega) dX1_leaps_17 ?_
  refine mw_cSl (rest := []) hC (c_X1_modulo l (((v 5) * y) + (v 6)) (v 7) (by omega) (by omega) (by omega)) (va_cwS 2 hts gX1_leaps_X1_modulo rfl rfl rfl (by decide +kernel) ⟨Nat.le_of_ble_eq_true rfl, Nat.le_of_ble_eq_true rfl⟩) rfl hl.1 rfl (Nat.le_of_ble_eq_true rfl) ⟨Nat.zero_le _, Nat.zero_le _⟩ dX1_leaps_18 ?_
  refine lv_aload_n hx hb dX1_leaps_21 rfl (lv_at hl 0 rfl) ?_
  refine mw_getM hx hb hts hin hown hK hP rfl 10 (by decide) (by decide +kernel) rfl rfl dX1_leaps_22 ?_
  refine lv_aload_n hx hb dX1_leaps_25 rfl (lv_at hl 0 rfl) ?_
  refine mw_getM hx hb hts hin hown hK hP rfl 8 (by decide) (by decide +kernel) rfl rfl dX1_leaps_26 ?_
  refine mw_isub hx hb dX1_leaps_29 ?_
  refine mw_i2l hx hb (by omega) dX1_leaps_30 ?_
  refine mw_lcmp_lt (tgt := 39) hx hb (by omega) (by omega) dX1_leaps_31 dX1_leaps_32 (by decide) (fun c_32 => ?_) (fun c_32 => ?_)
  · refine mw_iconst hx hb dX1_leaps_39 ?_
    exact mw_retZ hx hb hr hlocks dX1_leaps_40 (by first | rfl | exact (mB_t (by omega)).symm | exact (mB_f (by omega)).symm | exact mB_iff (by omega) | omega)
  · refine mw_iconst hx hb dX1_leaps_35 ?_
    refine lv_goto (tgt := 40) hx hb dX1_leaps_36 (by decide) ?_
    exact mw_retZ hx hb hr hlocks dX1_leaps_40 (by first | rfl | exact (mB_t (by omega)).symm | exact (mB_f (by omega)).symm | exact mB_iff (by omega) | omega)

set_option maxHeartbeats 400000 in
set_option maxRecDepth 100000 in
theorem c_X1_yearOf (l : Launch) (D : va_G) (h0 a1 a2 : Nat) (cA cJ : ClassId) (t f g : Int) (v : Nat → Int) (L P : Int → Int) (d : Int) (hok : mOK v L P) (hd : mDay d) : mP l yX1_yearOf wsX1_yearOf ({ frames := 3, cells := 0, slots := 0, locals := 72 }) [.ref h0, .int (mI (d))] (mwB D (mMW h0 a1 a2 cA t f g v L P) (mTy cA cJ)) (some (.long (mL (mYr v d)))) := by
  refine mw_open (cc := cX1_yearOf) (maxL := 4) (ret := (some .long)) (by decide +kernel) rfl (Nat.le_of_ble_eq_true rfl) ?_
  intro p e s m below meth c ls hC hr hlocks hB hl
  obtain ⟨hx, hb, hml, hown, hts⟩ := id hC
  obtain ⟨hP, hK⟩ := hB
  have hin : ∀ w ∈ wsX10, w ∈ wsX1_yearOf := by decide +kernel
  have hl : lv_has ls 4 [(0, .ref h0), (1, .int (mI (d)))] := hl
  have hok9 := hok
  obtain ⟨⟨o1, o2⟩, oL, ⟨o3, o4, o5, o6, o7, o8⟩, ⟨o9, o10, o11, o12, o13, o14, o15, o16⟩⟩ := hok9
  have f3 := m_yr_r hok hd
  have f4 := m_start hok (d := d)
  have g1 : d / v 4 ≤ 10001 := by have : d / v 4 < 10002 := Int.ediv_lt_of_lt_mul (by omega) (by omega); omega
  have g2 : d / (v 4 + 1) ≤ 10001 := by have : d / (v 4 + 1) < 10002 := Int.ediv_lt_of_lt_mul (by omega) (by omega); omega
  refine lv_iload_n hx hb dX1_yearOf_0 rfl (lv_at hl 1 rfl) ?_
  refine mw_i2l hx hb (by omega) dX1_yearOf_1 ?_
  refine lv_iload_n hx hb dX1_yearOf_2 rfl (lv_at hl 1 rfl) ?_
  refine mw_if_ge (tgt := 16) hx hb (by omega) dX1_yearOf_3 (by decide) (fun c_3 => ?_) (fun c_3 => ?_)
  · refine lv_aload_n hx hb dX1_yearOf_16 rfl (lv_at hl 0 rfl) ?_
    refine mw_getM hx hb hts hin hown hK hP rfl 7 (by decide) (by decide +kernel) rfl rfl dX1_yearOf_17 ?_
    refine mw_i2l hx hb (by omega) dX1_yearOf_20 ?_
    refine mw_cSl (rest := []) hC (c_X1_part l d (v 4) (by omega) (by omega) (by omega)) (va_cwS 2 hts gX1_yearOf_X1_part rfl rfl rfl (by decide +kernel) ⟨Nat.le_of_ble_eq_true rfl, Nat.le_of_ble_eq_true rfl⟩) rfl hl.1 rfl (Nat.le_of_ble_eq_true rfl) ⟨Nat.zero_le _, Nat.zero_le _⟩ dX1_yearOf_21 ?_
    refine mw_ldc2 hx hb (2) (by decide +kernel) hown (hts (.constantLong RX1 63 (2)) (by decide +kernel)) dX1_yearOf_24 ?_
    refine mw_ladd hx hb dX1_yearOf_27 ?_
    refine lv_lstore_n (lv' := [(2, .long (mL ((d / (v 4)) + 2))), (0, .ref h0), (1, .int (mI (d)))]) hx hb dX1_yearOf_28 rfl hl (by decide) rfl (fun ls hl => ?_)
    refine mw_loop (T := Int) (nL := 4) (fun x => mYr v d ≤ x ∧ x ≤ 20000) (fun x => (x - mYr v d).toNat) 29 (fun x => [(2, .long (mL (x))), (0, .ref h0), (1, .int (mI (d)))]) ?_ (((d / (v 4)) + 2 : Int)) (show mYr v d ≤ ((d / (v 4)) + 2 : Int) ∧ ((d / (v 4)) + 2 : Int) ≤ 20000 from ⟨by first | exact f4.1 (by omega) | exact f4.2 (by omega), by omega⟩) ls (lv_sub hl [0, 1, 2] rfl)
    intro x hI ih ls hl
    obtain ⟨y, rfl⟩ : ∃ y, y = x := ⟨_, rfl⟩
    have hl : lv_has ls 4 [(2, .long (mL (y))), (0, .ref h0), (1, .int (mI (d)))] := hl
    have hI : mYr v d ≤ y ∧ y ≤ 20000 := hI
    obtain ⟨i1, i2⟩ := hI
    have f5 := m_beg_le hok (y := y) (d := d)
    have f6 := m_bound (v 4) y (A := 500) (B := 20000) (by omega) (by omega)
    have f7 := m_bound (v 5) y (A := 400) (B := 20000) (by omega) (by omega)
    have f8 := m_div_r (a := v 5 * y + v 6) (b := v 7) (by omega)
    have f9 : mBeg v y = v 4 * y + (v 5 * y + v 6) / v 7 := rfl
    refine lv_aload_n hx hb dX1_yearOf_29 rfl (lv_at hl 1 rfl) ?_
    refine lv_lload_n hx hb dX1_yearOf_30 rfl (lv_at hl 0 rfl) ?_
    refine mw_cVl (rest := []) (q := (RX1, TX1, 13)) hC (c_X1_beginOf l D h0 a1 a2 cA cJ t f g v L P y (id hok) (by omega)) (cwV 1 hts gX1_yearOf_X1_beginOf rfl rfl rfl (by decide +kernel) ⟨Nat.le_of_ble_eq_true rfl, Nat.le_of_ble_eq_true rfl⟩) hK hP rfl rfl rfl hl.1 rfl (Nat.le_of_ble_eq_true rfl) ⟨Nat.zero_le _, Nat.zero_le _⟩ dX1_yearOf_31 ?_
    refine lv_iload_n hx hb dX1_yearOf_34 rfl (lv_at hl 2 rfl) ?_
    refine mw_i2l hx hb (by omega) dX1_yearOf_35 ?_
    refine mw_lcmp_le (tgt := 47) hx hb (by omega) (by omega) dX1_yearOf_36 dX1_yearOf_37 (by decide) (fun c_37 => ?_) (fun c_37 => ?_)
    · refine lv_lload_n hx hb dX1_yearOf_47 rfl (lv_at hl 0 rfl) ?_
      exact mw_retL hx hb hr hlocks dX1_yearOf_48 (by omega)
    · refine lv_lload_n hx hb dX1_yearOf_40 rfl (lv_at hl 0 rfl) ?_
      refine mw_lconst hx hb 1 (by decide +kernel) dX1_yearOf_41 ?_
      refine mw_lsub hx hb dX1_yearOf_42 ?_
      refine lv_lstore_n (lv' := [(2, .long (mL (y - 1))), (0, .ref h0), (1, .int (mI (d)))]) hx hb dX1_yearOf_43 rfl hl (by decide) rfl (fun ls hl => ?_)
      refine lv_goto (tgt := 29) hx hb dX1_yearOf_44 (by decide) ?_
      exact ih ((y - 1)) (show mYr v d ≤ (y - 1) ∧ (y - 1) ≤ 20000 from ⟨by omega, by omega⟩) (show (((y - 1)) - mYr v d).toNat < (y - mYr v d).toNat from (by omega)) ls (lv_sub hl [0, 1, 2] rfl)
  · refine lv_aload_n hx hb dX1_yearOf_6 rfl (lv_at hl 0 rfl) ?_
    refine mw_getM hx hb hts hin hown hK hP rfl 7 (by decide) (by decide +kernel) rfl rfl dX1_yearOf_7 ?_
    refine mw_i2l hx hb (by omega) dX1_yearOf_10 ?_
    refine mw_lconst hx hb 1 (by decide +kernel) dX1_yearOf_11 ?_
    refine mw_ladd hx hb dX1_yearOf_12 ?_
    refine lv_goto (tgt := 21) hx hb dX1_yearOf_13 (by decide) ?_
    refine mw_cSl (rest := []) hC (c_X1_part l d ((v 4) + 1) (by omega) (by omega) (by omega)) (va_cwS 2 hts gX1_yearOf_X1_part rfl rfl rfl (by decide +kernel) ⟨Nat.le_of_ble_eq_true rfl, Nat.le_of_ble_eq_true rfl⟩) rfl hl.1 rfl (Nat.le_of_ble_eq_true rfl) ⟨Nat.zero_le _, Nat.zero_le _⟩ dX1_yearOf_21 ?_
    refine mw_ldc2 hx hb (2) (by decide +kernel) hown (hts (.constantLong RX1 63 (2)) (by decide +kernel)) dX1_yearOf_24 ?_
    refine mw_ladd hx hb dX1_yearOf_27 ?_
    refine lv_lstore_n (lv' := [(2, .long (mL ((d / ((v 4) + 1)) + 2))), (0, .ref h0), (1, .int (mI (d)))]) hx hb dX1_yearOf_28 rfl hl (by decide) rfl (fun ls hl => ?_)
    refine mw_loop (T := Int) (nL := 4) (fun x => mYr v d ≤ x ∧ x ≤ 20000) (fun x => (x - mYr v d).toNat) 29 (fun x => [(2, .long (mL (x))), (0, .ref h0), (1, .int (mI (d)))]) ?_ (((d / ((v 4) + 1)) + 2 : Int)) (show mYr v d ≤ ((d / ((v 4) + 1)) + 2 : Int) ∧ ((d / ((v 4) + 1)) + 2 : Int) ≤ 20000 from ⟨by first | exact f4.1 (by omega) | exact f4.2 (by omega), by omega⟩) ls (lv_sub hl [0, 1, 2] rfl)
    intro x hI ih ls hl
    obtain ⟨y, rfl⟩ : ∃ y, y = x := ⟨_, rfl⟩
    have hl : lv_has ls 4 [(2, .long (mL (y))), (0, .ref h0), (1, .int (mI (d)))] := hl
    have hI : mYr v d ≤ y ∧ y ≤ 20000 := hI
    obtain ⟨i1, i2⟩ := hI
    have f5 := m_beg_le hok (y := y) (d := d)
    have f6 := m_bound (v 4) y (A := 500) (B := 20000) (by omega) (by omega)
    have f7 := m_bound (v 5) y (A := 400) (B := 20000) (by omega) (by omega)
    have f8 := m_div_r (a := v 5 * y + v 6) (b := v 7) (by omega)
    have f9 : mBeg v y = v 4 * y + (v 5 * y + v 6) / v 7 := rfl
    refine lv_aload_n hx hb dX1_yearOf_29 rfl (lv_at hl 1 rfl) ?_
    refine lv_lload_n hx hb dX1_yearOf_30 rfl (lv_at hl 0 rfl) ?_
    refine mw_cVl (rest := []) (q := (RX1, TX1, 13)) hC (c_X1_beginOf l D h0 a1 a2 cA cJ t f g v L P y (id hok) (by omega)) (cwV 1 hts gX1_yearOf_X1_beginOf rfl rfl rfl (by decide +kernel) ⟨Nat.le_of_ble_eq_true rfl, Nat.le_of_ble_eq_true rfl⟩) hK hP rfl rfl rfl hl.1 rfl (Nat.le_of_ble_eq_true rfl) ⟨Nat.zero_le _, Nat.zero_le _⟩ dX1_yearOf_31 ?_
    refine lv_iload_n hx hb dX1_yearOf_34 rfl (lv_at hl 2 rfl) ?_
    refine mw_i2l hx hb (by omega) dX1_yearOf_35 ?_
    refine mw_lcmp_le (tgt := 47) hx hb (by omega) (by omega) dX1_yearOf_36 dX1_yearOf_37 (by decide) (fun c_37 => ?_) (fun c_37 => ?_)
    · refine lv_lload_n hx hb dX1_yearOf_47 rfl (lv_at hl 0 rfl) ?_
      exact mw_retL hx hb hr hlocks dX1_yearOf_48 (by omega)
    · refine lv_lload_n hx hb dX1_yearOf_40 rfl (lv_at hl 0 rfl) ?_
      refine mw_lconst hx hb 1 (by decide +kernel) dX1_yearOf_41 ?_
      refine mw_lsub hx hb dX1_yearOf_42 ?_
      refine lv_lstore_n (lv' := [(2, .long (mL (y - 1))), (0, .ref h0), (1, .int (mI (d)))]) hx hb dX1_yearOf_43 rfl hl (by decide) rfl (fun ls hl => ?_)
      refine lv_goto (tgt := 29) hx hb dX1_yearOf_44 (by decide) ?_
      exact ih ((y - 1)) (show mYr v d ≤ (y - 1) ∧ (y - 1) ≤ 20000 from ⟨by omega, by omega⟩) (show (((y - 1)) - mYr v d).toNat < (y - mYr v d).toNat from (by omega)) ls (lv_sub hl [0, 1, 2] rfl)

set_option maxHeartbeats 400000 in
set_option maxRecDepth 100000 in
theorem c_X1_lengthOf (l : Launch) (D : va_G) (h0 a1 a2 : Nat) (cA cJ : ClassId) (t f g : Int) (v : Nat → Int) (L P : Int → Int) (y : Int) (hok : mOK v L P) (hy : mYear y) : mP l yX1_lengthOf wsX1_lengthOf ({ frames := 2, cells := 0, slots := 0, locals := 47 }) [.ref h0, .int (mI (y))] (mwB D (mMW h0 a1 a2 cA t f g v L P) (mTy cA cJ)) (some (.long (mL (mLen v y)))) := by
  refine mw_open (cc := cX1_lengthOf) (maxL := 2) (ret := (some .long)) (by decide +kernel) rfl (Nat.le_of_ble_eq_true rfl) ?_
  intro p e s m below meth c ls hC hr hlocks hB hl
  obtain ⟨hx, hb, hml, hown, hts⟩ := id hC
  obtain ⟨hP, hK⟩ := hB
  have hin : ∀ w ∈ wsX10, w ∈ wsX1_lengthOf := by decide +kernel
  have hl : lv_has ls 2 [(0, .ref h0), (1, .int (mI (y)))] := hl
  have hok9 := hok
  obtain ⟨⟨o1, o2⟩, oL, ⟨o3, o4, o5, o6, o7, o8⟩, ⟨o9, o10, o11, o12, o13, o14, o15, o16⟩⟩ := hok9
  have n1 : mLeap v y → mLen v y = v 4 + 1 := fun h => if_pos h
  have n2 : ¬ mLeap v y → mLen v y = v 4 := fun h => if_neg h
  refine lv_aload_n hx hb dX1_lengthOf_0 rfl (lv_at hl 0 rfl) ?_
  refine lv_iload_n hx hb dX1_lengthOf_1 rfl (lv_at hl 1 rfl) ?_
  refine mw_i2l hx hb (by omega) dX1_lengthOf_2 ?_
  refine mw_cVi (rest := []) (q := (RX1, TX1, 13)) hC (c_X1_leaps l D h0 a1 a2 cA cJ t f g v L P y (id hok) (by omega)) (cwV 1 hts gX1_lengthOf_X1_leaps rfl rfl rfl (by decide +kernel) ⟨Nat.le_of_ble_eq_true rfl, Nat.le_of_ble_eq_true rfl⟩) hK hP rfl rfl rfl hl.1 rfl (Nat.le_of_ble_eq_true rfl) ⟨Nat.zero_le _, Nat.zero_le _⟩ dX1_lengthOf_3 ?_
  refine mw_zeq (tgt := 19) hx hb dX1_lengthOf_6 (by decide) (fun c_6 => ?_) (fun c_6 => ?_)
  · refine lv_aload_n hx hb dX1_lengthOf_19 rfl (lv_at hl 0 rfl) ?_
    refine mw_getM hx hb hts hin hown hK hP rfl 7 (by decide) (by decide +kernel) rfl rfl dX1_lengthOf_20 ?_
    refine mw_i2l hx hb (by omega) dX1_lengthOf_23 ?_
    exact mw_retL hx hb hr hlocks dX1_lengthOf_24 (by omega)
  · refine lv_aload_n hx hb dX1_lengthOf_9 rfl (lv_at hl 0 rfl) ?_
    refine mw_getM hx hb hts hin hown hK hP rfl 7 (by decide) (by decide +kernel) rfl rfl dX1_lengthOf_10 ?_
    refine mw_i2l hx hb (by omega) dX1_lengthOf_13 ?_
    refine mw_lconst hx hb 1 (by decide +kernel) dX1_lengthOf_14 ?_
    refine mw_ladd hx hb dX1_lengthOf_15 ?_
    refine lv_goto (tgt := 24) hx hb dX1_lengthOf_16 (by decide) ?_
    exact mw_retL hx hb hr hlocks dX1_lengthOf_24 (by omega)
