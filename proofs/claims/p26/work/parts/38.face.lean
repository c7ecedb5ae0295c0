theorem m_lun_r {v : Nat → Int} {L P : Int → Int} (hok : mOK v L P) (x : Int) : 0 ≤ mLunar v x ∧ mLunar v x < 100 := by
  obtain ⟨-, -, ⟨o3, o4, o5, o6, o7, o8⟩, -⟩ := hok
  have h := m_mod_r (a := mMoon v x) (b := v 1) (by omega)
  unfold mLunar
  exact ⟨Int.ediv_nonneg h.1 (by omega), Int.ediv_lt_of_lt_mul (by omega) (by omega)⟩
theorem m_yr_r {v : Nat → Int} {L P : Int → Int} (hok : mOK v L P) {d : Int} (hd : mDay d) : -10001 ≤ mYr v d ∧ mYr v d ≤ 10001 := by
  obtain ⟨-, -, -, ⟨o9, o10, o11, o12, o13, o14, o15, o16⟩⟩ := hok
  have h1 : v 7 * (d + 1) ≤ v 7 * 1000001 := Int.mul_le_mul_of_nonneg_left (by omega) (by omega)
  have h2 : v 7 * (-999999) ≤ v 7 * (d + 1) := Int.mul_le_mul_of_nonneg_left (by omega) (by omega)
  have h3 : 100 * v 7 ≤ v 4 * v 7 := Int.mul_le_mul_of_nonneg_right (by omega) (by omega)
  unfold mYr
  constructor
  · exact Int.le_ediv_of_mul_le (by omega) (by omega)
  · have : (v 7 * (d + 1) - 1 - v 6) / (v 4 * v 7 + v 5) < 10002 := Int.ediv_lt_of_lt_mul (by omega) (by omega)
    omega
theorem m_beg_r {v : Nat → Int} {L P : Int → Int} (hok : mOK v L P) {y : Int} (hy : -10001 ≤ y ∧ y ≤ 10001) : -10000000 < mBeg v y ∧ mBeg v y < 10000000 := by
  obtain ⟨-, -, -, ⟨o9, o10, o11, o12, o13, o14, o15, o16⟩⟩ := hok
  have h1 := m_bound (v 4) y (A := 500) (B := 10001) (by omega) (by omega)
  have h2 := m_bound (v 5) y (A := 400) (B := 10001) (by omega) (by omega)
  have h3 := m_div_r (a := v 5 * y + v 6) (b := v 7) (by omega)
  unfold mBeg
  omega
def mMb (v : Nat → Int) (m : Int) : Int := -((-m * v 1) / v 2) - v 3
set_option maxHeartbeats 400000 in
set_option maxRecDepth 100000 in
theorem x_X0_lunarMeeting (l : Launch) (hfl : l.flags = flags0) (D : va_G) (h0 a1 a2 : Nat) (cA cJ : ClassId) (v : Nat → Int) (L P : Int → Int) (z d ld mt : Int) (hz : mRI z) (hd9 : mRI d) (hld : mRI ld) (hmt : mRI mt) (hok : mOK v L P)  : mX l yX0_lunarMeeting wsX0_lunarMeeting ({ frames := 8, cells := mC (mEx3 (mDay d ∧ (0 ≤ ld ∧ ld ≤ 99) ∧ (1 ≤ mt ∧ mt ≤ 1000) ∧ 1 ≤ mPop z 32 ∧ mPop z 32 ≤ 5) (mUsh z (v 0) = 0) (mMts v L P z)), slots := 6 * mC (mEx3 (mDay d ∧ (0 ≤ ld ∧ ld ≤ 99) ∧ (1 ≤ mt ∧ mt ≤ 1000) ∧ 1 ≤ mPop z 32 ∧ mPop z 32 ≤ 5) (mUsh z (v 0) = 0) (mMts v L P z)), locals := 132 }) [.ref h0, .int (mI (z)), .int (mI (d)), .int (mI (ld)), .int (mI (mt))] D (mXW h0 a1 a2 cA v L P) (mTy cA cJ) ["java/lang/IllegalArgumentException", "java/lang/IndexOutOfBoundsException", "java/lang/IllegalStateException"] (mEx3 (mDay d ∧ (0 ≤ ld ∧ ld ≤ 99) ∧ (1 ≤ mt ∧ mt ≤ 1000) ∧ 1 ≤ mPop z 32 ∧ mPop z 32 ≤ 5) (mUsh z (v 0) = 0) (mMts v L P z)) (some (.long (mL (mLun v d ld (mSt (mFd L P z 0 (v 0).toNat)) mt.toNat ((mD0 (mFd L P z 0 (v 0).toNat) - d) % mSt (mFd L P z 0 (v 0).toNat)))))) (mXW h0 a1 a2 cA v L P) (fun _ => False) := by
  refine mw_openXX (cc := cX0_lunarMeeting) (maxL := 12) (ret := (some .long)) (by decide) rfl (Nat.le_of_ble_eq_true rfl) ?_
  intro p e s m below meth c ls hC hr hlocks hout hB hE hl
  obtain ⟨hx, hb, hml, hown, hts⟩ := id hC
  obtain ⟨hP, hK⟩ := hB
  have hl : lv_has ls 12 [(0, .ref h0), (1, .int (mI (z))), (2, .int (mI (d))), (3, .int (mI (ld))), (4, .int (mI (mt)))] := hl
  have hok9 := hok
  obtain ⟨⟨o1, o2⟩, oL, ⟨o3, o4, o5, o6, o7, o8⟩, ⟨o9, o10, o11, o12, o13, o14, o15, o16⟩⟩ := hok9
  refine lv_iload_n hx hb dX0_lunarMeeting_0 rfl (lv_at hl 2 rfl) ?_
  by_cases c_1a : mDay d
  · refine mw_cSv (rest := []) hC (c_X0_checkDay l d (by omega)) (va_cwS 1 hts gX0_lunarMeeting_X0_checkDay rfl rfl rfl (by decide +kernel) ⟨Nat.le_of_ble_eq_true rfl, Nat.le_of_ble_eq_true rfl⟩) rfl hl.1 rfl (Nat.le_of_ble_eq_true rfl) ⟨Nat.zero_le _, Nat.zero_le _⟩ dX0_lunarMeeting_1 ?_
    refine lv_iload_n hx hb dX0_lunarMeeting_4 rfl (lv_at hl 3 rfl) ?_
    refine mw_iconst hx hb dX0_lunarMeeting_5 ?_
    refine mw_bipush hx hb (by decide +kernel) dX0_lunarMeeting_6 ?_
    refine mw_cSi (rest := []) hC (c_X0_isWithin l ld 0 99 (by omega) (by omega) (by omega)) (va_cwS 3 hts gX0_lunarMeeting_X0_isWithin rfl rfl rfl (by decide +kernel) ⟨Nat.le_of_ble_eq_true rfl, Nat.le_of_ble_eq_true rfl⟩) rfl hl.1 rfl (Nat.le_of_ble_eq_true rfl) ⟨Nat.zero_le _, Nat.zero_le _⟩ dX0_lunarMeeting_8 ?_
    refine mw_zeq (tgt := 30) hx hb dX0_lunarMeeting_11 (by decide) (fun c_11 => ?_) (fun c_11 => ?_)
    · refine mw_iconst hx hb dX0_lunarMeeting_30 ?_
      exact mw_tSX (rest := []) hC (t_X0_checkArgument_t l hfl) hE (va_cwS 1 hts gX0_lunarMeeting_X0_checkArgument rfl rfl rfl (by decide +kernel) ⟨Nat.le_of_ble_eq_true rfl, Nat.le_of_ble_eq_true rfl⟩) rfl hl.1 rfl (Nat.le_of_ble_eq_true rfl) (mC_hm (mEx3_1 (by omega))) (mC_hm (mEx3_1 (by omega))) hout hlocks dX0_lunarMeeting_31 (fun t ht => ⟨⟨0, (mEx3_1 (by omega)), rfl⟩, ht⟩)
    · refine lv_iload hx hb dX0_lunarMeeting_14 (lv_at hl 4 rfl) ?_
      refine mw_iconst hx hb dX0_lunarMeeting_16 ?_
      refine mw_sipush hx hb (by decide +kernel) dX0_lunarMeeting_17 ?_
      refine mw_cSi (rest := []) hC (c_X0_isWithin l mt 1 1000 (by omega) (by omega) (by omega)) (va_cwS 3 hts gX0_lunarMeeting_X0_isWithin rfl rfl rfl (by decide +kernel) ⟨Nat.le_of_ble_eq_true rfl, Nat.le_of_ble_eq_true rfl⟩) rfl hl.1 rfl (Nat.le_of_ble_eq_true rfl) ⟨Nat.zero_le _, Nat.zero_le _⟩ dX0_lunarMeeting_20 ?_
      refine mw_zeq (tgt := 30) hx hb dX0_lunarMeeting_23 (by decide) (fun c_23 => ?_) (fun c_23 => ?_)
      · refine mw_iconst hx hb dX0_lunarMeeting_30 ?_
        exact mw_tSX (rest := []) hC (t_X0_checkArgument_t l hfl) hE (va_cwS 1 hts gX0_lunarMeeting_X0_checkArgument rfl rfl rfl (by decide +kernel) ⟨Nat.le_of_ble_eq_true rfl, Nat.le_of_ble_eq_true rfl⟩) rfl hl.1 rfl (Nat.le_of_ble_eq_true rfl) (mC_hm (mEx3_1 (by omega))) (mC_hm (mEx3_1 (by omega))) hout hlocks dX0_lunarMeeting_31 (fun t ht => ⟨⟨0, (mEx3_1 (by omega)), rfl⟩, ht⟩)
      · refine mw_iconst hx hb dX0_lunarMeeting_26 ?_
        refine lv_goto (tgt := 31) hx hb dX0_lunarMeeting_27 (by decide) ?_
        refine mw_cSv (rest := []) hC (c_X0_checkArgument l) (va_cwS 1 hts gX0_lunarMeeting_X0_checkArgument rfl rfl rfl (by decide +kernel) ⟨Nat.le_of_ble_eq_true rfl, Nat.le_of_ble_eq_true rfl⟩) rfl hl.1 rfl (Nat.le_of_ble_eq_true rfl) ⟨Nat.zero_le _, Nat.zero_le _⟩ dX0_lunarMeeting_31 ?_
        refine lv_aload_n hx hb dX0_lunarMeeting_34 rfl (lv_at hl 0 rfl) ?_
        refine lv_iload_n hx hb dX0_lunarMeeting_35 rfl (lv_at hl 1 rfl) ?_
        by_cases c_36a : 1 ≤ mPop z 32 ∧ mPop z 32 ≤ 5
        · by_cases c_36b : mUsh z (v 0) = 0
          · refine mw_cVv (rest := []) (q := (RX0, TX0, 10)) hC (c_X0_checkMeetingSet l D h0 a1 a2 cA cJ v L P z (by omega) (by omega) (by omega)) (cwV 1 hts gX0_lunarMeeting_X0_checkMeetingSet rfl rfl rfl (by decide +kernel) ⟨Nat.le_of_ble_eq_true rfl, Nat.le_of_ble_eq_true rfl⟩) hK hP rfl rfl rfl hl.1 rfl (Nat.le_of_ble_eq_true rfl) ⟨Nat.zero_le _, Nat.zero_le _⟩ dX0_lunarMeeting_36 ?_
            obtain ⟨t1, t2, t3⟩ := m_mts (z := z) hok (by omega)
            refine lv_aload_n hx hb dX0_lunarMeeting_39 rfl (lv_at hl 0 rfl) ?_
            refine lv_iload_n hx hb dX0_lunarMeeting_40 rfl (lv_at hl 1 rfl) ?_
            refine mw_cVl (rest := []) (q := (RX0, TX0, 10)) hC (c_X0_firstMeeting l D h0 a1 a2 cA cJ v L P z (id hok) (by omega) (by omega)) (cwV 1 hts gX0_lunarMeeting_X0_firstMeeting rfl rfl rfl (by decide +kernel) ⟨Nat.le_of_ble_eq_true rfl, Nat.le_of_ble_eq_true rfl⟩) hK hP rfl rfl rfl hl.1 rfl (Nat.le_of_ble_eq_true rfl) ⟨Nat.zero_le _, Nat.zero_le _⟩ dX0_lunarMeeting_41 ?_
            refine lv_lstore (lv' := [(5, .long (mL (mD0 (mFd L P z 0 (v 0).toNat)))), (0, .ref h0), (1, .int (mI (z))), (2, .int (mI (d))), (3, .int (mI (ld))), (4, .int (mI (mt)))]) hx hb dX0_lunarMeeting_44 hl (by decide) rfl (fun ls hl => ?_)
            refine lv_lload hx hb dX0_lunarMeeting_46 (lv_at hl 0 rfl) ?_
            by_cases c_48a : (mD0 (mFd L P z 0 (v 0).toNat)) ≠ -1
            · refine mw_cSv (rest := []) hC (c_X0_checkTheyMeet l (mD0 (mFd L P z 0 (v 0).toNat)) (by omega) (by omega)) (va_cwS 1 hts gX0_lunarMeeting_X0_checkTheyMeet rfl rfl rfl (by decide +kernel) ⟨Nat.le_of_ble_eq_true rfl, Nat.le_of_ble_eq_true rfl⟩) rfl hl.1 rfl (Nat.le_of_ble_eq_true rfl) ⟨Nat.zero_le _, Nat.zero_le _⟩ dX0_lunarMeeting_48 ?_
              have t4 := t1.mp c_48a
              obtain ⟨fd, fs, t5, t6, t7, t8, t9⟩ := t2 t4
              have t10 := m_mod_r (a := mD0 (mFd L P z 0 (v 0).toNat) - d) (b := mSt (mFd L P z 0 (v 0).toNat)) (by omega)
              refine lv_aload_n hx hb dX0_lunarMeeting_51 rfl (lv_at hl 1 rfl) ?_
              refine lv_iload_n hx hb dX0_lunarMeeting_52 rfl (lv_at hl 2 rfl) ?_
              refine mw_cVl (rest := []) (q := (RX0, TX0, 10)) hC (c_X0_commonLength l D h0 a1 a2 cA cJ v L P z (id hok) (by omega) (by omega) t4) (cwV 1 hts gX0_lunarMeeting_X0_commonLength rfl rfl rfl (by decide +kernel) ⟨Nat.le_of_ble_eq_true rfl, Nat.le_of_ble_eq_true rfl⟩) hK hP rfl rfl rfl hl.1 rfl (Nat.le_of_ble_eq_true rfl) ⟨Nat.zero_le _, Nat.zero_le _⟩ dX0_lunarMeeting_53 ?_
              refine lv_lstore (lv' := [(7, .long (mL (mSt (mFd L P z 0 (v 0).toNat)))), (5, .long (mL (mD0 (mFd L P z 0 (v 0).toNat)))), (0, .ref h0), (1, .int (mI (z))), (2, .int (mI (d))), (3, .int (mI (ld))), (4, .int (mI (mt)))]) hx hb dX0_lunarMeeting_56 hl (by decide) rfl (fun ls hl => ?_)
              refine lv_lload hx hb dX0_lunarMeeting_58 (lv_at hl 1 rfl) ?_
              refine lv_iload_n hx hb dX0_lunarMeeting_60 rfl (lv_at hl 4 rfl) ?_
              refine mw_i2l hx hb (by omega) dX0_lunarMeeting_61 ?_
              refine mw_lsub hx hb dX0_lunarMeeting_62 ?_
              refine lv_lload hx hb dX0_lunarMeeting_63 (lv_at hl 0 rfl) ?_
              refine mw_cSl (rest := []) hC (c_X0_modulo l ((mD0 (mFd L P z 0 (v 0).toNat)) - d) (mSt (mFd L P z 0 (v 0).toNat)) (by omega) (by omega) (by omega)) (va_cwS 2 hts gX0_lunarMeeting_X0_modulo rfl rfl rfl (by decide +kernel) ⟨Nat.le_of_ble_eq_true rfl, Nat.le_of_ble_eq_true rfl⟩) rfl hl.1 rfl (Nat.le_of_ble_eq_true rfl) ⟨Nat.zero_le _, Nat.zero_le _⟩ dX0_lunarMeeting_65 ?_
              refine lv_lstore (lv' := [(9, .long (mL (((mD0 (mFd L P z 0 (v 0).toNat)) - d) % (mSt (mFd L P z 0 (v 0).toNat))))), (7, .long (mL (mSt (mFd L P z 0 (v 0).toNat)))), (5, .long (mL (mD0 (mFd L P z 0 (v 0).toNat)))), (0, .ref h0), (1, .int (mI (z))), (2, .int (mI (d))), (3, .int (mI (ld))), (4, .int (mI (mt)))]) hx hb dX0_lunarMeeting_68 hl (by decide) rfl (fun ls hl => ?_)
              refine mw_iconst hx hb dX0_lunarMeeting_70 ?_
              refine lv_istore (lv' := [(11, .int (mI (0))), (9, .long (mL (((mD0 (mFd L P z 0 (v 0).toNat)) - d) % (mSt (mFd L P z 0 (v 0).toNat))))), (7, .long (mL (mSt (mFd L P z 0 (v 0).toNat)))), (5, .long (mL (mD0 (mFd L P z 0 (v 0).toNat)))), (0, .ref h0), (1, .int (mI (z))), (2, .int (mI (d))), (3, .int (mI (ld))), (4, .int (mI (mt)))]) hx hb dX0_lunarMeeting_71 hl (by decide) rfl (fun ls hl => ?_)
              refine mw_loop (T := Int × Int) (nL := 12) (fun x => (0 ≤ x.1 ∧ x.1 ≤ mt) ∧ (0 ≤ x.2 ∧ x.2 ≤ (x.1 + 1) * 777600000) ∧ mLun v d ld (mSt (mFd L P z 0 (v 0).toNat)) (mt - (x.1)).toNat (x.2) = mLun v d ld (mSt (mFd L P z 0 (v 0).toNat)) mt.toNat ((mD0 (mFd L P z 0 (v 0).toNat) - d) % mSt (mFd L P z 0 (v 0).toNat))) (fun x => (mt - (x.1)).toNat) 73 (fun x => [(11, .int (mI (x.1))), (9, .long (mL (x.2))), (0, .ref h0), (1, .int (mI (z))), (2, .int (mI (d))), (3, .int (mI (ld))), (4, .int (mI (mt))), (7, .long (mL (mSt (mFd L P z 0 (v 0).toNat))))]) ?_ ((0 : Int), (((mD0 (mFd L P z 0 (v 0).toNat)) - d) % (mSt (mFd L P z 0 (v 0).toNat)) : Int)) (show (0 ≤ (0 : Int) ∧ (0 : Int) ≤ mt) ∧ (0 ≤ (((mD0 (mFd L P z 0 (v 0).toNat)) - d) % (mSt (mFd L P z 0 (v 0).toNat)) : Int) ∧ (((mD0 (mFd L P z 0 (v 0).toNat)) - d) % (mSt (mFd L P z 0 (v 0).toNat)) : Int) ≤ ((0 : Int) + 1) * 777600000) ∧ mLun v d ld (mSt (mFd L P z 0 (v 0).toNat)) (mt - ((0 : Int))).toNat ((((mD0 (mFd L P z 0 (v 0).toNat)) - d) % (mSt (mFd L P z 0 (v 0).toNat)) : Int)) = mLun v d ld (mSt (mFd L P z 0 (v 0).toNat)) mt.toNat ((mD0 (mFd L P z 0 (v 0).toNat) - d) % mSt (mFd L P z 0 (v 0).toNat)) from ⟨⟨by omega, by omega⟩, ⟨by omega, by omega⟩, (by rw [Int.sub_zero])⟩) ls (lv_sub hl [0, 1, 4, 5, 6, 7, 8, 2] rfl)
              intro x hI ih ls hl
              obtain ⟨i, o⟩ := x
              have hl : lv_has ls 12 [(11, .int (mI (i))), (9, .long (mL (o))), (0, .ref h0), (1, .int (mI (z))), (2, .int (mI (d))), (3, .int (mI (ld))), (4, .int (mI (mt))), (7, .long (mL (mSt (mFd L P z 0 (v 0).toNat))))] := hl
              have hI : (0 ≤ i ∧ i ≤ mt) ∧ (0 ≤ o ∧ o ≤ (i + 1) * 777600000) ∧ mLun v d ld (mSt (mFd L P z 0 (v 0).toNat)) (mt - i).toNat o = mLun v d ld (mSt (mFd L P z 0 (v 0).toNat)) mt.toNat ((mD0 (mFd L P z 0 (v 0).toNat) - d) % mSt (mFd L P z 0 (v 0).toNat)) := hI
              obtain ⟨⟨i1, i2⟩, ⟨i3, i4⟩, i5⟩ := hI
              have i6 := m_lun_r hok (d + o)
              have i8 : i < mt → (mt - i).toNat = (mt - (i + 1)).toNat + 1 := fun h => by omega
              have i7 : i < mt → ¬ mLunar v (d + o) = ld → mLun v d ld (mSt (mFd L P z 0 (v 0).toNat)) (mt - i).toNat o = mLun v d ld (mSt (mFd L P z 0 (v 0).toNat)) (mt - (i + 1)).toNat (o + mSt (mFd L P z 0 (v 0).toNat)) := fun h h2 => by
                rw [i8 h, mLun_s, if_neg h2]
              refine lv_iload hx hb dX0_lunarMeeting_73 (lv_at hl 0 rfl) ?_
              refine lv_iload hx hb dX0_lunarMeeting_75 (lv_at hl 6 rfl) ?_
              refine mw_icmp_ge (tgt := 111) hx hb (by omega) (by omega) dX0_lunarMeeting_77 (by decide) (fun c_77 => ?_) (fun c_77 => ?_)
              · refine mw_ldc2 hx hb (-1) (by decide +kernel) hown (hts (.constantLong RX0 96 (-1)) (by decide +kernel)) dX0_lunarMeeting_111 ?_
                exact mw_xretL hx hb hr hlocks dX0_lunarMeeting_114 (mEx3_0 (by omega) (by omega) t4) hP va_S.rf (by rw [← i5]; have e : (mt - i).toNat = 0 := (by omega); rw [e]; rfl)
              · refine lv_aload_n hx hb dX0_lunarMeeting_80 rfl (lv_at hl 2 rfl) ?_
                refine lv_iload_n hx hb dX0_lunarMeeting_81 rfl (lv_at hl 4 rfl) ?_
                refine mw_i2l hx hb (by omega) dX0_lunarMeeting_82 ?_
                refine lv_lload hx hb dX0_lunarMeeting_83 (lv_at hl 1 rfl) ?_
                refine mw_ladd hx hb dX0_lunarMeeting_85 ?_
                refine mw_cVl (rest := []) (q := (RX0, TX0, 10)) hC (c_X0_lunarDayOf l D h0 a1 a2 cA cJ v L P (d + o) (id hok) (by omega)) (cwV 1 hts gX0_lunarMeeting_X0_lunarDayOf rfl rfl rfl (by decide +kernel) ⟨Nat.le_of_ble_eq_true rfl, Nat.le_of_ble_eq_true rfl⟩) hK hP rfl rfl rfl hl.1 rfl (Nat.le_of_ble_eq_true rfl) ⟨Nat.zero_le _, Nat.zero_le _⟩ dX0_lunarMeeting_86 ?_
                refine lv_iload_n hx hb dX0_lunarMeeting_89 rfl (lv_at hl 5 rfl) ?_
                refine mw_i2l hx hb (by omega) dX0_lunarMeeting_90 ?_
                refine mw_lcmp_ne (tgt := 98) hx hb (by omega) (by omega) dX0_lunarMeeting_91 dX0_lunarMeeting_92 (by decide) (fun c_92 => ?_) (fun c_92 => ?_)
                · refine lv_lload hx hb dX0_lunarMeeting_98 (lv_at hl 1 rfl) ?_
                  refine lv_lload hx hb dX0_lunarMeeting_100 (lv_at hl 7 rfl) ?_
                  refine mw_ladd hx hb dX0_lunarMeeting_102 ?_
                  refine lv_lstore (lv' := [(9, .long (mL (o + (mSt (mFd L P z 0 (v 0).toNat))))), (11, .int (mI (i))), (0, .ref h0), (1, .int (mI (z))), (2, .int (mI (d))), (3, .int (mI (ld))), (4, .int (mI (mt))), (7, .long (mL (mSt (mFd L P z 0 (v 0).toNat))))]) hx hb dX0_lunarMeeting_103 hl (by decide) rfl (fun ls hl => ?_)
                  refine mw_iinc (k := 1) (lv' := [(11, .int (mI (i + 1))), (9, .long (mL (o + (mSt (mFd L P z 0 (v 0).toNat))))), (0, .ref h0), (1, .int (mI (z))), (2, .int (mI (d))), (3, .int (mI (ld))), (4, .int (mI (mt))), (7, .long (mL (mSt (mFd L P z 0 (v 0).toNat))))]) hx hb dX0_lunarMeeting_105 hl rfl (by decide) rfl (fun ls hl => ?_)
                  refine lv_goto (tgt := 73) hx hb dX0_lunarMeeting_108 (by decide) ?_
                  exact ih ((i + 1), (o + (mSt (mFd L P z 0 (v 0).toNat)))) (show (0 ≤ (i + 1) ∧ (i + 1) ≤ mt) ∧ (0 ≤ (o + (mSt (mFd L P z 0 (v 0).toNat))) ∧ (o + (mSt (mFd L P z 0 (v 0).toNat))) ≤ ((i + 1) + 1) * 777600000) ∧ mLun v d ld (mSt (mFd L P z 0 (v 0).toNat)) (mt - ((i + 1))).toNat ((o + (mSt (mFd L P z 0 (v 0).toNat)))) = mLun v d ld (mSt (mFd L P z 0 (v 0).toNat)) mt.toNat ((mD0 (mFd L P z 0 (v 0).toNat) - d) % mSt (mFd L P z 0 (v 0).toNat)) from ⟨⟨by omega, by omega⟩, ⟨by omega, by omega⟩, (by rw [← i5]; exact (i7 (by omega) (by omega)).symm)⟩) (show (mt - ((i + 1))).toNat < (mt - i).toNat from (by omega)) ls (lv_sub hl [0, 1, 2, 3, 4, 5, 6, 7] rfl)
                · refine lv_lload hx hb dX0_lunarMeeting_95 (lv_at hl 1 rfl) ?_
                  exact mw_xretL hx hb hr hlocks dX0_lunarMeeting_97 (mEx3_0 (by omega) (by omega) t4) hP va_S.rf (by rw [← i5, i8 (by omega), mLun_s, if_pos (by omega)])
            · exact mw_tSX (rest := []) hC (t_X0_checkTheyMeet_t l hfl (mD0 (mFd L P z 0 (v 0).toNat)) (by omega) (by omega)) hE (va_cwS 1 hts gX0_lunarMeeting_X0_checkTheyMeet rfl rfl rfl (by decide +kernel) ⟨Nat.le_of_ble_eq_true rfl, Nat.le_of_ble_eq_true rfl⟩) rfl hl.1 rfl (Nat.le_of_ble_eq_true rfl) (mC_hm (mEx3_3 (by omega) (by omega) (fun q => (by omega : ¬ _ ≠ _) ((m_mts hok (by omega)).1.mpr q)))) (mC_hm (mEx3_3 (by omega) (by omega) (fun q => (by omega : ¬ _ ≠ _) ((m_mts hok (by omega)).1.mpr q)))) hout hlocks dX0_lunarMeeting_48 (fun t ht => ⟨⟨2, (mEx3_3 (by omega) (by omega) (fun q => (by omega : ¬ _ ≠ _) ((m_mts hok (by omega)).1.mpr q))), rfl⟩, ht⟩)
          · exact mw_tVX (rest := []) (q := (RX0, TX0, 10)) hC (t_X0_checkMeetingSet_t2 l hfl D h0 a1 a2 cA cJ v L P z (by omega) (by omega) (by omega)) hE (cwV 1 hts gX0_lunarMeeting_X0_checkMeetingSet rfl rfl rfl (by decide +kernel) ⟨Nat.le_of_ble_eq_true rfl, Nat.le_of_ble_eq_true rfl⟩) hK hP rfl rfl rfl hl.1 rfl (Nat.le_of_ble_eq_true rfl) (mC_hm (mEx3_2 (by omega) (by omega))) (mC_hm (mEx3_2 (by omega) (by omega))) hout hlocks dX0_lunarMeeting_36 (fun t ht => ⟨⟨1, (mEx3_2 (by omega) (by omega)), rfl⟩, ht⟩)
        · exact mw_tVX (rest := []) (q := (RX0, TX0, 10)) hC (t_X0_checkMeetingSet_t1 l hfl D h0 a1 a2 cA cJ v L P z (by omega) (by omega)) hE (cwV 1 hts gX0_lunarMeeting_X0_checkMeetingSet rfl rfl rfl (by decide +kernel) ⟨Nat.le_of_ble_eq_true rfl, Nat.le_of_ble_eq_true rfl⟩) hK hP rfl rfl rfl hl.1 rfl (Nat.le_of_ble_eq_true rfl) (mC_hm (mEx3_1 (by omega))) (mC_hm (mEx3_1 (by omega))) hout hlocks dX0_lunarMeeting_36 (fun t ht => ⟨⟨0, (mEx3_1 (by omega)), rfl⟩, ht⟩)
  · exact mw_tSX (rest := []) hC (t_X0_checkDay_t l hfl d (by omega) (by omega)) hE (va_cwS 1 hts gX0_lunarMeeting_X0_checkDay rfl rfl rfl (by decide +kernel) ⟨Nat.le_of_ble_eq_true rfl, Nat.le_of_ble_eq_true rfl⟩) rfl hl.1 rfl (Nat.le_of_ble_eq_true rfl) (mC_hm (mEx3_1 (by omega))) (mC_hm (mEx3_1 (by omega))) hout hlocks dX0_lunarMeeting_1 (fun t ht => ⟨⟨0, (mEx3_1 (by omega)), rfl⟩, ht⟩)

set_option maxHeartbeats 400000 in
set_option maxRecDepth 100000 in
theorem x_X0_month (l : Launch) (hfl : l.flags = flags0) (D : va_G) (h0 a1 a2 : Nat) (cA cJ : ClassId) (v : Nat → Int) (L P : Int → Int) (d : Int) (hd9 : mRI d) (hok : mOK v L P)  : mX l yX0_month wsX0_month ({ frames := 8, cells := mC (mEx1 (mDay d)), slots := 6 * mC (mEx1 (mDay d)), locals := 130 }) [.ref h0, .int (mI (d))] D (mXW h0 a1 a2 cA v L P) (mTy cA cJ) ["java/lang/IllegalArgumentException"] (mEx1 (mDay d)) (some (.int (mI (mMonth v d)))) (mXW h0 a1 a2 cA v L P) (fun _ => False) := by
  refine mw_openXX (cc := cX0_month) (maxL := 2) (ret := (some .int)) (by decide) rfl (Nat.le_of_ble_eq_true rfl) ?_
  intro p e s m below meth c ls hC hr hlocks hout hB hE hl
  obtain ⟨hx, hb, hml, hown, hts⟩ := id hC
  obtain ⟨hP, hK⟩ := hB
  have hin : ∀ w ∈ wsX00, w ∈ wsX0_month := by decide +kernel
  have hl : lv_has ls 2 [(0, .ref h0), (1, .int (mI (d)))] := hl
  have hok9 := hok
  obtain ⟨⟨o1, o2⟩, oL, ⟨o3, o4, o5, o6, o7, o8⟩, ⟨o9, o10, o11, o12, o13, o14, o15, o16⟩⟩ := hok9
  refine lv_iload_n hx hb dX0_month_0 rfl (lv_at hl 1 rfl) ?_
  by_cases c_1a : mDay d
  · refine mw_cSv (rest := []) hC (c_X0_checkDay l d (by omega)) (va_cwS 1 hts gX0_month_X0_checkDay rfl rfl rfl (by decide +kernel) ⟨Nat.le_of_ble_eq_true rfl, Nat.le_of_ble_eq_true rfl⟩) rfl hl.1 rfl (Nat.le_of_ble_eq_true rfl) ⟨Nat.zero_le _, Nat.zero_le _⟩ dX0_month_1 ?_
    have f1 := m_bound (d + v 3) (v 2) (A := 1001000) (B := 100) (by omega) (by omega)
    have f2 : mMoon v d = (d + v 3) * v 2 := rfl
    refine lv_aload_n hx hb dX0_month_4 rfl (lv_at hl 0 rfl) ?_
    refine lv_iload_n hx hb dX0_month_5 rfl (lv_at hl 1 rfl) ?_
    refine mw_i2l hx hb (by omega) dX0_month_6 ?_
    refine mw_cVl (rest := []) (q := (RX0, TX0, 10)) hC (c_X0_moonParts l D h0 a1 a2 cA cJ v L P d (id hok)) (cwV 1 hts gX0_month_X0_moonParts rfl rfl rfl (by decide +kernel) ⟨Nat.le_of_ble_eq_true rfl, Nat.le_of_ble_eq_true rfl⟩) hK hP rfl rfl rfl hl.1 rfl (Nat.le_of_ble_eq_true rfl) ⟨Nat.zero_le _, Nat.zero_le _⟩ dX0_month_7 ?_
    refine lv_aload_n hx hb dX0_month_10 rfl (lv_at hl 0 rfl) ?_
    refine mw_getX hx hb hts hin hown hK hP rfl 3 (by decide) (by decide +kernel) rfl rfl dX0_month_11 ?_
    refine mw_i2l hx hb (by omega) dX0_month_14 ?_
    refine mw_cSl (rest := []) hC (c_X0_divide l (mMoon v d) (v 1) (by omega) (by omega) (by omega)) (va_cwS 2 hts gX0_month_X0_divide rfl rfl rfl (by decide +kernel) ⟨Nat.le_of_ble_eq_true rfl, Nat.le_of_ble_eq_true rfl⟩) rfl hl.1 rfl (Nat.le_of_ble_eq_true rfl) ⟨Nat.zero_le _, Nat.zero_le _⟩ dX0_month_15 ?_
    refine mw_l2i hx hb dX0_month_18 ?_
    exact mw_xretI hx hb hr hlocks dX0_month_19 (mEx1_0 (by omega)) hP va_S.rf rfl
  · exact mw_tSX (rest := []) hC (t_X0_checkDay_t l hfl d (by omega) (by omega)) hE (va_cwS 1 hts gX0_month_X0_checkDay rfl rfl rfl (by decide +kernel) ⟨Nat.le_of_ble_eq_true rfl, Nat.le_of_ble_eq_true rfl⟩) rfl hl.1 rfl (Nat.le_of_ble_eq_true rfl) (mC_hm (mEx1_1 (by omega))) (mC_hm (mEx1_1 (by omega))) hout hlocks dX0_month_1 (fun t ht => ⟨⟨0, (mEx1_1 (by omega)), rfl⟩, ht⟩)

set_option maxHeartbeats 400000 in
set_option maxRecDepth 100000 in
theorem x_X0_lunarDay (l : Launch) (hfl : l.flags = flags0) (D : va_G) (h0 a1 a2 : Nat) (cA cJ : ClassId) (v : Nat → Int) (L P : Int → Int) (d : Int) (hd9 : mRI d) (hok : mOK v L P)  : mX l yX0_lunarDay wsX0_lunarDay ({ frames := 8, cells := mC (mEx1 (mDay d)), slots := 6 * mC (mEx1 (mDay d)), locals := 130 }) [.ref h0, .int (mI (d))] D (mXW h0 a1 a2 cA v L P) (mTy cA cJ) ["java/lang/IllegalArgumentException"] (mEx1 (mDay d)) (some (.int (mI (mLunar v d)))) (mXW h0 a1 a2 cA v L P) (fun _ => False) := by
  refine mw_openXX (cc := cX0_lunarDay) (maxL := 2) (ret := (some .int)) (by decide) rfl (Nat.le_of_ble_eq_true rfl) ?_
  intro p e s m below meth c ls hC hr hlocks hout hB hE hl
  obtain ⟨hx, hb, hml, hown, hts⟩ := id hC
  obtain ⟨hP, hK⟩ := hB
  have hl : lv_has ls 2 [(0, .ref h0), (1, .int (mI (d)))] := hl
  have hok9 := hok
  obtain ⟨⟨o1, o2⟩, oL, ⟨o3, o4, o5, o6, o7, o8⟩, ⟨o9, o10, o11, o12, o13, o14, o15, o16⟩⟩ := hok9
  refine lv_iload_n hx hb dX0_lunarDay_0 rfl (lv_at hl 1 rfl) ?_
  by_cases c_1a : mDay d
  · refine mw_cSv (rest := []) hC (c_X0_checkDay l d (by omega)) (va_cwS 1 hts gX0_lunarDay_X0_checkDay rfl rfl rfl (by decide +kernel) ⟨Nat.le_of_ble_eq_true rfl, Nat.le_of_ble_eq_true rfl⟩) rfl hl.1 rfl (Nat.le_of_ble_eq_true rfl) ⟨Nat.zero_le _, Nat.zero_le _⟩ dX0_lunarDay_1 ?_
    refine lv_aload_n hx hb dX0_lunarDay_4 rfl (lv_at hl 0 rfl) ?_
    refine lv_iload_n hx hb dX0_lunarDay_5 rfl (lv_at hl 1 rfl) ?_
    refine mw_i2l hx hb (by omega) dX0_lunarDay_6 ?_
    refine mw_cVl (rest := []) (q := (RX0, TX0, 10)) hC (c_X0_lunarDayOf l D h0 a1 a2 cA cJ v L P d (id hok) (by omega)) (cwV 1 hts gX0_lunarDay_X0_lunarDayOf rfl rfl rfl (by decide +kernel) ⟨Nat.le_of_ble_eq_true rfl, Nat.le_of_ble_eq_true rfl⟩) hK hP rfl rfl rfl hl.1 rfl (Nat.le_of_ble_eq_true rfl) ⟨Nat.zero_le _, Nat.zero_le _⟩ dX0_lunarDay_7 ?_
    refine mw_l2i hx hb dX0_lunarDay_10 ?_
    exact mw_xretI hx hb hr hlocks dX0_lunarDay_11 (mEx1_0 (by omega)) hP va_S.rf rfl
  · exact mw_tSX (rest := []) hC (t_X0_checkDay_t l hfl d (by omega) (by omega)) hE (va_cwS 1 hts gX0_lunarDay_X0_checkDay rfl rfl rfl (by decide +kernel) ⟨Nat.le_of_ble_eq_true rfl, Nat.le_of_ble_eq_true rfl⟩) rfl hl.1 rfl (Nat.le_of_ble_eq_true rfl) (mC_hm (mEx1_1 (by omega))) (mC_hm (mEx1_1 (by omega))) hout hlocks dX0_lunarDay_1 (fun t ht => ⟨⟨0, (mEx1_1 (by omega)), rfl⟩, ht⟩)

set_option maxHeartbeats 400000 in
set_option maxRecDepth 100000 in
theorem x_X0_monthBegin (l : Launch) (hfl : l.flags = flags0) (D : va_G) (h0 a1 a2 : Nat) (cA cJ : ClassId) (v : Nat → Int) (L P : Int → Int) (m9 : Int) (hm9 : mRI m9) (hok : mOK v L P)  : mX l yX0_monthBegin wsX0_monthBegin ({ frames := 7, cells := mC (mEx1 (-100000 ≤ m9 ∧ m9 ≤ 100000)), slots := 6 * mC (mEx1 (-100000 ≤ m9 ∧ m9 ≤ 100000)), locals := 110 }) [.ref h0, .int (mI (m9))] D (mXW h0 a1 a2 cA v L P) (mTy cA cJ) ["java/lang/IllegalArgumentException"] (mEx1 (-100000 ≤ m9 ∧ m9 ≤ 100000)) (some (.int (mI (mMb v m9)))) (mXW h0 a1 a2 cA v L P) (fun _ => False) := by
  refine mw_openXX (cc := cX0_monthBegin) (maxL := 2) (ret := (some .int)) (by decide) rfl (Nat.le_of_ble_eq_true rfl) ?_
  intro p e s m below meth c ls hC hr hlocks hout hB hE hl
  obtain ⟨hx, hb, hml, hown, hts⟩ := id hC
  obtain ⟨hP, hK⟩ := hB
  have hin : ∀ w ∈ wsX00, w ∈ wsX0_monthBegin := by decide +kernel
  have hl : lv_has ls 2 [(0, .ref h0), (1, .int (mI (m9)))] := hl
  have hok9 := hok
  obtain ⟨⟨o1, o2⟩, oL, ⟨o3, o4, o5, o6, o7, o8⟩, ⟨o9, o10, o11, o12, o13, o14, o15, o16⟩⟩ := hok9
  refine lv_iload_n hx hb dX0_monthBegin_0 rfl (lv_at hl 1 rfl) ?_
  refine mw_ldc hx hb (-100000) (by decide +kernel) hown (hts (.constant RX0 123 (-100000)) (by decide +kernel)) dX0_monthBegin_1 ?_
  refine mw_ldc hx hb (100000) (by decide +kernel) hown (hts (.constant RX0 124 (100000)) (by decide +kernel)) dX0_monthBegin_3 ?_
  refine mw_cSi (rest := []) hC (c_X0_isWithin l m9 (-100000) 100000 (by omega) (by omega) (by omega)) (va_cwS 3 hts gX0_monthBegin_X0_isWithin rfl rfl rfl (by decide +kernel) ⟨Nat.le_of_ble_eq_true rfl, Nat.le_of_ble_eq_true rfl⟩) rfl hl.1 rfl (Nat.le_of_ble_eq_true rfl) ⟨Nat.zero_le _, Nat.zero_le _⟩ dX0_monthBegin_5 ?_
  refine mw_split (fun c_8 => ?_) (fun c_8 => ?_)
  · refine mw_cSv (rest := []) hC (c_X0_checkArgument l) (va_cwS 1 hts gX0_monthBegin_X0_checkArgument rfl rfl rfl (by decide +kernel) ⟨Nat.le_of_ble_eq_true rfl, Nat.le_of_ble_eq_true rfl⟩) rfl hl.1 rfl (Nat.le_of_ble_eq_true rfl) ⟨Nat.zero_le _, Nat.zero_le _⟩ dX0_monthBegin_8 ?_
    have f1 := m_bound (-m9) (v 1) (A := 100000) (B := 10000) (by omega) (by omega)
    refine lv_iload_n hx hb dX0_monthBegin_11 rfl (lv_at hl 1 rfl) ?_
    refine mw_i2l hx hb (by omega) dX0_monthBegin_12 ?_
    refine mw_lneg hx hb dX0_monthBegin_13 ?_
    refine lv_aload_n hx hb dX0_monthBegin_14 rfl (lv_at hl 0 rfl) ?_
    refine mw_getX hx hb hts hin hown hK hP rfl 3 (by decide) (by decide +kernel) rfl rfl dX0_monthBegin_15 ?_
    refine mw_i2l hx hb (by omega) dX0_monthBegin_18 ?_
    refine mw_lmul hx hb dX0_monthBegin_19 ?_
    refine lv_aload_n hx hb dX0_monthBegin_20 rfl (lv_at hl 0 rfl) ?_
    refine mw_getX hx hb hts hin hown hK hP rfl 4 (by decide) (by decide +kernel) rfl rfl dX0_monthBegin_21 ?_
    refine mw_i2l hx hb (by omega) dX0_monthBegin_24 ?_
    refine mw_cSl (rest := []) hC (c_X0_divide l ((-m9) * (v 1)) (v 2) (by omega) (by omega) (by omega)) (va_cwS 2 hts gX0_monthBegin_X0_divide rfl rfl rfl (by decide +kernel) ⟨Nat.le_of_ble_eq_true rfl, Nat.le_of_ble_eq_true rfl⟩) rfl hl.1 rfl (Nat.le_of_ble_eq_true rfl) ⟨Nat.zero_le _, Nat.zero_le _⟩ dX0_monthBegin_25 ?_
    refine mw_lneg hx hb dX0_monthBegin_28 ?_
    refine lv_aload_n hx hb dX0_monthBegin_29 rfl (lv_at hl 0 rfl) ?_
    refine mw_getX hx hb hts hin hown hK hP rfl 5 (by decide) (by decide +kernel) rfl rfl dX0_monthBegin_30 ?_
    refine mw_i2l hx hb (by omega) dX0_monthBegin_33 ?_
    refine mw_lsub hx hb dX0_monthBegin_34 ?_
    refine mw_l2i hx hb dX0_monthBegin_35 ?_
    exact mw_xretI hx hb hr hlocks dX0_monthBegin_36 (mEx1_0 (by omega)) hP va_S.rf rfl
  · exact mw_tSX (rest := []) hC (t_X0_checkArgument_t l hfl) hE (va_cwS 1 hts gX0_monthBegin_X0_checkArgument rfl rfl rfl (by decide +kernel) ⟨Nat.le_of_ble_eq_true rfl, Nat.le_of_ble_eq_true rfl⟩) rfl hl.1 rfl (Nat.le_of_ble_eq_true rfl) (mC_hm (mEx1_1 (by omega))) (mC_hm (mEx1_1 (by omega))) hout hlocks dX0_monthBegin_8 (fun t ht => ⟨⟨0, (mEx1_1 (by omega)), rfl⟩, ht⟩)

set_option maxHeartbeats 400000 in
set_option maxRecDepth 100000 in
theorem x_X0_year (l : Launch) (hfl : l.flags = flags0) (D : va_G) (h0 a1 a2 : Nat) (cA cJ : ClassId) (v : Nat → Int) (L P : Int → Int) (d : Int) (hd9 : mRI d) (hok : mOK v L P)  : mX l yX0_year wsX0_year ({ frames := 8, cells := mC (mEx1 (mDay d)), slots := 6 * mC (mEx1 (mDay d)), locals := 130 }) [.ref h0, .int (mI (d))] D (mXW h0 a1 a2 cA v L P) (mTy cA cJ) ["java/lang/IllegalArgumentException"] (mEx1 (mDay d)) (some (.int (mI (mYr v d)))) (mXW h0 a1 a2 cA v L P) (fun _ => False) := by
  refine mw_openXX (cc := cX0_year) (maxL := 2) (ret := (some .int)) (by decide) rfl (Nat.le_of_ble_eq_true rfl) ?_
  intro p e s m below meth c ls hC hr hlocks hout hB hE hl
  obtain ⟨hx, hb, hml, hown, hts⟩ := id hC
  obtain ⟨hP, hK⟩ := hB
  have hl : lv_has ls 2 [(0, .ref h0), (1, .int (mI (d)))] := hl
  have hok9 := hok
  obtain ⟨⟨o1, o2⟩, oL, ⟨o3, o4, o5, o6, o7, o8⟩, ⟨o9, o10, o11, o12, o13, o14, o15, o16⟩⟩ := hok9
  refine lv_iload_n hx hb dX0_year_0 rfl (lv_at hl 1 rfl) ?_
  by_cases c_1a : mDay d
  · refine mw_cSv (rest := []) hC (c_X0_checkDay l d (by omega)) (va_cwS 1 hts gX0_year_X0_checkDay rfl rfl rfl (by decide +kernel) ⟨Nat.le_of_ble_eq_true rfl, Nat.le_of_ble_eq_true rfl⟩) rfl hl.1 rfl (Nat.le_of_ble_eq_true rfl) ⟨Nat.zero_le _, Nat.zero_le _⟩ dX0_year_1 ?_
    refine lv_aload_n hx hb dX0_year_4 rfl (lv_at hl 0 rfl) ?_
    refine lv_iload_n hx hb dX0_year_5 rfl (lv_at hl 1 rfl) ?_
    refine mw_cVi (rest := []) (q := (RX0, TX0, 10)) hC (c_X0_yearOf l D h0 a1 a2 cA cJ v L P d (id hok) (by omega)) (cwV 1 hts gX0_year_X0_yearOf rfl rfl rfl (by decide +kernel) ⟨Nat.le_of_ble_eq_true rfl, Nat.le_of_ble_eq_true rfl⟩) hK hP rfl rfl rfl hl.1 rfl (Nat.le_of_ble_eq_true rfl) ⟨Nat.zero_le _, Nat.zero_le _⟩ dX0_year_6 ?_
    exact mw_xretI hx hb hr hlocks dX0_year_9 (mEx1_0 (by omega)) hP va_S.rf rfl
  · exact mw_tSX (rest := []) hC (t_X0_checkDay_t l hfl d (by omega) (by omega)) hE (va_cwS 1 hts gX0_year_X0_checkDay rfl rfl rfl (by decide +kernel) ⟨Nat.le_of_ble_eq_true rfl, Nat.le_of_ble_eq_true rfl⟩) rfl hl.1 rfl (Nat.le_of_ble_eq_true rfl) (mC_hm (mEx1_1 (by omega))) (mC_hm (mEx1_1 (by omega))) hout hlocks dX0_year_1 (fun t ht => ⟨⟨0, (mEx1_1 (by omega)), rfl⟩, ht⟩)

set_option maxHeartbeats 400000 in
set_option maxRecDepth 100000 in
theorem x_X0_placeInYear (l : Launch) (hfl : l.flags = flags0) (D : va_G) (h0 a1 a2 : Nat) (cA cJ : ClassId) (v : Nat → Int) (L P : Int → Int) (d : Int) (hd9 : mRI d) (hok : mOK v L P)  : mX l yX0_placeInYear wsX0_placeInYear ({ frames := 8, cells := mC (mEx1 (mDay d)), slots := 6 * mC (mEx1 (mDay d)), locals := 130 }) [.ref h0, .int (mI (d))] D (mXW h0 a1 a2 cA v L P) (mTy cA cJ) ["java/lang/IllegalArgumentException"] (mEx1 (mDay d)) (some (.int (mI (d - mBeg v (mYr v d))))) (mXW h0 a1 a2 cA v L P) (fun _ => False) := by
  refine mw_openXX (cc := cX0_placeInYear) (maxL := 2) (ret := (some .int)) (by decide) rfl (Nat.le_of_ble_eq_true rfl) ?_
  intro p e s m below meth c ls hC hr hlocks hout hB hE hl
  obtain ⟨hx, hb, hml, hown, hts⟩ := id hC
  obtain ⟨hP, hK⟩ := hB
  have hl : lv_has ls 2 [(0, .ref h0), (1, .int (mI (d)))] := hl
  have hok9 := hok
  obtain ⟨⟨o1, o2⟩, oL, ⟨o3, o4, o5, o6, o7, o8⟩, ⟨o9, o10, o11, o12, o13, o14, o15, o16⟩⟩ := hok9
  refine lv_iload_n hx hb dX0_placeInYear_0 rfl (lv_at hl 1 rfl) ?_
  by_cases c_1a : mDay d
  · refine mw_cSv (rest := []) hC (c_X0_checkDay l d (by omega)) (va_cwS 1 hts gX0_placeInYear_X0_checkDay rfl rfl rfl (by decide +kernel) ⟨Nat.le_of_ble_eq_true rfl, Nat.le_of_ble_eq_true rfl⟩) rfl hl.1 rfl (Nat.le_of_ble_eq_true rfl) ⟨Nat.zero_le _, Nat.zero_le _⟩ dX0_placeInYear_1 ?_
    have f1 := m_yr_r hok (d := d) (by omega)
    refine lv_iload_n hx hb dX0_placeInYear_4 rfl (lv_at hl 1 rfl) ?_
    refine lv_aload_n hx hb dX0_placeInYear_5 rfl (lv_at hl 0 rfl) ?_
    refine lv_aload_n hx hb dX0_placeInYear_6 rfl (lv_at hl 0 rfl) ?_
    refine lv_iload_n hx hb dX0_placeInYear_7 rfl (lv_at hl 1 rfl) ?_
    refine mw_cVi (rest := [.ref h0, .int (mI (d))]) (q := (RX0, TX0, 10)) hC (c_X0_yearOf l D h0 a1 a2 cA cJ v L P d (id hok) (by omega)) (cwV 1 hts gX0_placeInYear_X0_yearOf rfl rfl rfl (by decide +kernel) ⟨Nat.le_of_ble_eq_true rfl, Nat.le_of_ble_eq_true rfl⟩) hK hP rfl rfl rfl hl.1 rfl (Nat.le_of_ble_eq_true rfl) ⟨Nat.zero_le _, Nat.zero_le _⟩ dX0_placeInYear_8 ?_
    refine mw_cVi (rest := [.int (mI (d))]) (q := (RX0, TX0, 10)) hC (c_X0_yearBegin l D h0 a1 a2 cA cJ v L P (mYr v d) (id hok) (by omega)) (cwV 1 hts gX0_placeInYear_X0_yearBegin rfl rfl rfl (by decide +kernel) ⟨Nat.le_of_ble_eq_true rfl, Nat.le_of_ble_eq_true rfl⟩) hK hP rfl rfl rfl hl.1 rfl (Nat.le_of_ble_eq_true rfl) ⟨Nat.zero_le _, Nat.zero_le _⟩ dX0_placeInYear_11 ?_
    refine mw_isub hx hb dX0_placeInYear_14 ?_
    exact mw_xretI hx hb hr hlocks dX0_placeInYear_15 (mEx1_0 (by omega)) hP va_S.rf rfl
  · exact mw_tSX (rest := []) hC (t_X0_checkDay_t l hfl d (by omega) (by omega)) hE (va_cwS 1 hts gX0_placeInYear_X0_checkDay rfl rfl rfl (by decide +kernel) ⟨Nat.le_of_ble_eq_true rfl, Nat.le_of_ble_eq_true rfl⟩) rfl hl.1 rfl (Nat.le_of_ble_eq_true rfl) (mC_hm (mEx1_1 (by omega))) (mC_hm (mEx1_1 (by omega))) hout hlocks dX0_placeInYear_1 (fun t ht => ⟨⟨0, (mEx1_1 (by omega)), rfl⟩, ht⟩)

set_option maxHeartbeats 400000 in
set_option maxRecDepth 100000 in
theorem x_X0_isLeap (l : Launch) (hfl : l.flags = flags0) (D : va_G) (h0 a1 a2 : Nat) (cA cJ : ClassId) (v : Nat → Int) (L P : Int → Int) (y : Int) (hy9 : mRI y) (hok : mOK v L P)  : mX l yX0_isLeap wsX0_isLeap ({ frames := 8, cells := mC (mEx1 (mYear y)), slots := 6 * mC (mEx1 (mYear y)), locals := 130 }) [.ref h0, .int (mI (y))] D (mXW h0 a1 a2 cA v L P) (mTy cA cJ) ["java/lang/IllegalArgumentException"] (mEx1 (mYear y)) (some (.int (mI (mB (mLeap v y))))) (mXW h0 a1 a2 cA v L P) (fun _ => False) := by
  refine mw_openXX (cc := cX0_isLeap) (maxL := 2) (ret := (some .boolean)) (by decide) rfl (Nat.le_of_ble_eq_true rfl) ?_
  intro p e s m below meth c ls hC hr hlocks hout hB hE hl
  obtain ⟨hx, hb, hml, hown, hts⟩ := id hC
  obtain ⟨hP, hK⟩ := hB
  have hl : lv_has ls 2 [(0, .ref h0), (1, .int (mI (y)))] := hl
  have hok9 := hok
  obtain ⟨⟨o1, o2⟩, oL, ⟨o3, o4, o5, o6, o7, o8⟩, ⟨o9, o10, o11, o12, o13, o14, o15, o16⟩⟩ := hok9
  refine lv_iload_n hx hb dX0_isLeap_0 rfl (lv_at hl 1 rfl) ?_
  by_cases c_1a : mYear y
  · refine mw_cSv (rest := []) hC (c_X0_checkYear l y (by omega)) (va_cwS 1 hts gX0_isLeap_X0_checkYear rfl rfl rfl (by decide +kernel) ⟨Nat.le_of_ble_eq_true rfl, Nat.le_of_ble_eq_true rfl⟩) rfl hl.1 rfl (Nat.le_of_ble_eq_true rfl) ⟨Nat.zero_le _, Nat.zero_le _⟩ dX0_isLeap_1 ?_
    refine lv_aload_n hx hb dX0_isLeap_4 rfl (lv_at hl 0 rfl) ?_
    refine lv_iload_n hx hb dX0_isLeap_5 rfl (lv_at hl 1 rfl) ?_
    refine mw_cVi (rest := []) (q := (RX0, TX0, 10)) hC (c_X0_hasLeapDay l D h0 a1 a2 cA cJ v L P y (id hok) (by omega)) (cwV 1 hts gX0_isLeap_X0_hasLeapDay rfl rfl rfl (by decide +kernel) ⟨Nat.le_of_ble_eq_true rfl, Nat.le_of_ble_eq_true rfl⟩) hK hP rfl rfl rfl hl.1 rfl (Nat.le_of_ble_eq_true rfl) ⟨Nat.zero_le _, Nat.zero_le _⟩ dX0_isLeap_6 ?_
    exact mw_xretZ hx hb hr hlocks dX0_isLeap_9 (mEx1_0 (by omega)) hP va_S.rf rfl
  · exact mw_tSX (rest := []) hC (t_X0_checkYear_t l hfl y (by omega) (by omega)) hE (va_cwS 1 hts gX0_isLeap_X0_checkYear rfl rfl rfl (by decide +kernel) ⟨Nat.le_of_ble_eq_true rfl, Nat.le_of_ble_eq_true rfl⟩) rfl hl.1 rfl (Nat.le_of_ble_eq_true rfl) (mC_hm (mEx1_1 (by omega))) (mC_hm (mEx1_1 (by omega))) hout hlocks dX0_isLeap_1 (fun t ht => ⟨⟨0, (mEx1_1 (by omega)), rfl⟩, ht⟩)

set_option maxHeartbeats 400000 in
set_option maxRecDepth 100000 in
theorem x_X0_dayOf (l : Launch) (hfl : l.flags = flags0) (D : va_G) (h0 a1 a2 : Nat) (cA cJ : ClassId) (v : Nat → Int) (L P : Int → Int) (y pl : Int) (hy9 : mRI y) (hp9 : mRI pl) (hok : mOK v L P)  : mX l yX0_dayOf wsX0_dayOf ({ frames := 8, cells := mC (mEx1 (mYear y ∧ 0 ≤ pl ∧ pl < mLen v y)), slots := 6 * mC (mEx1 (mYear y ∧ 0 ≤ pl ∧ pl < mLen v y)), locals := 130 }) [.ref h0, .int (mI (y)), .int (mI (pl))] D (mXW h0 a1 a2 cA v L P) (mTy cA cJ) ["java/lang/IllegalArgumentException"] (mEx1 (mYear y ∧ 0 ≤ pl ∧ pl < mLen v y)) (some (.int (mI (mBeg v y + pl)))) (mXW h0 a1 a2 cA v L P) (fun _ => False) := by
  refine mw_openXX (cc := cX0_dayOf) (maxL := 4) (ret := (some .int)) (by decide) rfl (Nat.le_of_ble_eq_true rfl) ?_
  intro p e s m below meth c ls hC hr hlocks hout hB hE hl
  obtain ⟨hx, hb, hml, hown, hts⟩ := id hC
  obtain ⟨hP, hK⟩ := hB
  have hin : ∀ w ∈ wsX00, w ∈ wsX0_dayOf := by decide +kernel
  have hl : lv_has ls 4 [(0, .ref h0), (1, .int (mI (y))), (2, .int (mI (pl)))] := hl
  have hok9 := hok
  obtain ⟨⟨o1, o2⟩, oL, ⟨o3, o4, o5, o6, o7, o8⟩, ⟨o9, o10, o11, o12, o13, o14, o15, o16⟩⟩ := hok9
  have n1 : mLeap v y → mLen v y = v 4 + 1 := fun h => if_pos h
  have n2 : ¬ mLeap v y → mLen v y = v 4 := fun h => if_neg h
  refine lv_iload_n hx hb dX0_dayOf_0 rfl (lv_at hl 1 rfl) ?_
  by_cases c_1a : mYear y
  · refine mw_cSv (rest := []) hC (c_X0_checkYear l y (by omega)) (va_cwS 1 hts gX0_dayOf_X0_checkYear rfl rfl rfl (by decide +kernel) ⟨Nat.le_of_ble_eq_true rfl, Nat.le_of_ble_eq_true rfl⟩) rfl hl.1 rfl (Nat.le_of_ble_eq_true rfl) ⟨Nat.zero_le _, Nat.zero_le _⟩ dX0_dayOf_1 ?_
    refine lv_aload_n hx hb dX0_dayOf_4 rfl (lv_at hl 0 rfl) ?_
    refine lv_iload_n hx hb dX0_dayOf_5 rfl (lv_at hl 1 rfl) ?_
    refine mw_cVi (rest := []) (q := (RX0, TX0, 10)) hC (c_X0_hasLeapDay l D h0 a1 a2 cA cJ v L P y (id hok) (by omega)) (cwV 1 hts gX0_dayOf_X0_hasLeapDay rfl rfl rfl (by decide +kernel) ⟨Nat.le_of_ble_eq_true rfl, Nat.le_of_ble_eq_true rfl⟩) hK hP rfl rfl rfl hl.1 rfl (Nat.le_of_ble_eq_true rfl) ⟨Nat.zero_le _, Nat.zero_le _⟩ dX0_dayOf_6 ?_
    refine mw_zeq (tgt := 21) hx hb dX0_dayOf_9 (by decide) (fun c_9 => ?_) (fun c_9 => ?_)
    · refine lv_aload_n hx hb dX0_dayOf_21 rfl (lv_at hl 0 rfl) ?_
      refine mw_getX hx hb hts hin hown hK hP rfl 6 (by decide) (by decide +kernel) rfl rfl dX0_dayOf_22 ?_
      refine lv_istore_n (lv' := [(3, .int (mI (v 4))), (0, .ref h0), (1, .int (mI (y))), (2, .int (mI (pl)))]) hx hb dX0_dayOf_25 rfl hl (by decide) rfl (fun ls hl => ?_)
      refine lv_iload_n hx hb dX0_dayOf_26 rfl (lv_at hl 3 rfl) ?_
      refine mw_iconst hx hb dX0_dayOf_27 ?_
      refine lv_iload_n hx hb dX0_dayOf_28 rfl (lv_at hl 0 rfl) ?_
      refine mw_iconst hx hb dX0_dayOf_29 ?_
      refine mw_isub hx hb dX0_dayOf_30 ?_
      refine mw_cSi (rest := []) hC (c_X0_isWithin l pl 0 ((v 4) - 1) (by omega) (by omega) (by omega)) (va_cwS 3 hts gX0_dayOf_X0_isWithin rfl rfl rfl (by decide +kernel) ⟨Nat.le_of_ble_eq_true rfl, Nat.le_of_ble_eq_true rfl⟩) rfl hl.1 rfl (Nat.le_of_ble_eq_true rfl) ⟨Nat.zero_le _, Nat.zero_le _⟩ dX0_dayOf_31 ?_
      refine mw_split (fun c_34 => ?_) (fun c_34 => ?_)
      · refine mw_cSv (rest := []) hC (c_X0_checkArgument l) (va_cwS 1 hts gX0_dayOf_X0_checkArgument rfl rfl rfl (by decide +kernel) ⟨Nat.le_of_ble_eq_true rfl, Nat.le_of_ble_eq_true rfl⟩) rfl hl.1 rfl (Nat.le_of_ble_eq_true rfl) ⟨Nat.zero_le _, Nat.zero_le _⟩ dX0_dayOf_34 ?_
        refine lv_aload_n hx hb dX0_dayOf_37 rfl (lv_at hl 1 rfl) ?_
        refine lv_iload_n hx hb dX0_dayOf_38 rfl (lv_at hl 2 rfl) ?_
        refine mw_cVi (rest := []) (q := (RX0, TX0, 10)) hC (c_X0_yearBegin l D h0 a1 a2 cA cJ v L P y (id hok) (by omega)) (cwV 1 hts gX0_dayOf_X0_yearBegin rfl rfl rfl (by decide +kernel) ⟨Nat.le_of_ble_eq_true rfl, Nat.le_of_ble_eq_true rfl⟩) hK hP rfl rfl rfl hl.1 rfl (Nat.le_of_ble_eq_true rfl) ⟨Nat.zero_le _, Nat.zero_le _⟩ dX0_dayOf_39 ?_
        refine lv_iload_n hx hb dX0_dayOf_42 rfl (lv_at hl 3 rfl) ?_
        refine mw_iadd hx hb dX0_dayOf_43 ?_
        exact mw_xretI hx hb hr hlocks dX0_dayOf_44 (mEx1_0 (by omega)) hP va_S.rf rfl
      · exact mw_tSX (rest := []) hC (t_X0_checkArgument_t l hfl) hE (va_cwS 1 hts gX0_dayOf_X0_checkArgument rfl rfl rfl (by decide +kernel) ⟨Nat.le_of_ble_eq_true rfl, Nat.le_of_ble_eq_true rfl⟩) rfl hl.1 rfl (Nat.le_of_ble_eq_true rfl) (mC_hm (mEx1_1 (by omega))) (mC_hm (mEx1_1 (by omega))) hout hlocks dX0_dayOf_34 (fun t ht => ⟨⟨0, (mEx1_1 (by omega)), rfl⟩, ht⟩)
    · refine lv_aload_n hx hb dX0_dayOf_12 rfl (lv_at hl 0 rfl) ?_
      refine mw_getX hx hb hts hin hown hK hP rfl 6 (by decide) (by decide +kernel) rfl rfl dX0_dayOf_13 ?_
      refine mw_iconst hx hb dX0_dayOf_16 ?_
      refine mw_iadd hx hb dX0_dayOf_17 ?_
      refine lv_goto (tgt := 25) hx hb dX0_dayOf_18 (by decide) ?_
      refine lv_istore_n (lv' := [(3, .int (mI ((v 4) + 1))), (0, .ref h0), (1, .int (mI (y))), (2, .int (mI (pl)))]) hx hb dX0_dayOf_25 rfl hl (by decide) rfl (fun ls hl => ?_)
      refine lv_iload_n hx hb dX0_dayOf_26 rfl (lv_at hl 3 rfl) ?_
      refine mw_iconst hx hb dX0_dayOf_27 ?_
      refine lv_iload_n hx hb dX0_dayOf_28 rfl (lv_at hl 0 rfl) ?_
      refine mw_iconst hx hb dX0_dayOf_29 ?_
      refine mw_isub hx hb dX0_dayOf_30 ?_
      refine mw_cSi (rest := []) hC (c_X0_isWithin l pl 0 (((v 4) + 1) - 1) (by omega) (by omega) (by omega)) (va_cwS 3 hts gX0_dayOf_X0_isWithin rfl rfl rfl (by decide +kernel) ⟨Nat.le_of_ble_eq_true rfl, Nat.le_of_ble_eq_true rfl⟩) rfl hl.1 rfl (Nat.le_of_ble_eq_true rfl) ⟨Nat.zero_le _, Nat.zero_le _⟩ dX0_dayOf_31 ?_
      refine mw_split (fun c_34 => ?_) (fun c_34 => ?_)
      · refine mw_cSv (rest := []) hC (c_X0_checkArgument l) (va_cwS 1 hts gX0_dayOf_X0_checkArgument rfl rfl rfl (by decide +kernel) ⟨Nat.le_of_ble_eq_true rfl, Nat.le_of_ble_eq_true rfl⟩) rfl hl.1 rfl (Nat.le_of_ble_eq_true rfl) ⟨Nat.zero_le _, Nat.zero_le _⟩ dX0_dayOf_34 ?_
        refine lv_aload_n hx hb dX0_dayOf_37 rfl (lv_at hl 1 rfl) ?_
        refine lv_iload_n hx hb dX0_dayOf_38 rfl (lv_at hl 2 rfl) ?_
        refine mw_cVi (rest := []) (q := (RX0, TX0, 10)) hC (c_X0_yearBegin l D h0 a1 a2 cA cJ v L P y (id hok) (by omega)) (cwV 1 hts gX0_dayOf_X0_yearBegin rfl rfl rfl (by decide +kernel) ⟨Nat.le_of_ble_eq_true rfl, Nat.le_of_ble_eq_true rfl⟩) hK hP rfl rfl rfl hl.1 rfl (Nat.le_of_ble_eq_true rfl) ⟨Nat.zero_le _, Nat.zero_le _⟩ dX0_dayOf_39 ?_
        refine lv_iload_n hx hb dX0_dayOf_42 rfl (lv_at hl 3 rfl) ?_
        refine mw_iadd hx hb dX0_dayOf_43 ?_
        exact mw_xretI hx hb hr hlocks dX0_dayOf_44 (mEx1_0 (by omega)) hP va_S.rf rfl
      · exact mw_tSX (rest := []) hC (t_X0_checkArgument_t l hfl) hE (va_cwS 1 hts gX0_dayOf_X0_checkArgument rfl rfl rfl (by decide +kernel) ⟨Nat.le_of_ble_eq_true rfl, Nat.le_of_ble_eq_true rfl⟩) rfl hl.1 rfl (Nat.le_of_ble_eq_true rfl) (mC_hm (mEx1_1 (by omega))) (mC_hm (mEx1_1 (by omega))) hout hlocks dX0_dayOf_34 (fun t ht => ⟨⟨0, (mEx1_1 (by omega)), rfl⟩, ht⟩)
  · exact mw_tSX (rest := []) hC (t_X0_checkYear_t l hfl y (by omega) (by omega)) hE (va_cwS 1 hts gX0_dayOf_X0_checkYear rfl rfl rfl (by decide +kernel) ⟨Nat.le_of_ble_eq_true rfl, Nat.le_of_ble_eq_true rfl⟩) rfl hl.1 rfl (Nat.le_of_ble_eq_true rfl) (mC_hm (mEx1_1 (by omega))) (mC_hm (mEx1_1 (by omega))) hout hlocks dX0_dayOf_1 (fun t ht => ⟨⟨0, (mEx1_1 (by omega)), rfl⟩, ht⟩)

set_option maxHeartbeats 400000 in
set_option maxRecDepth 100000 in
theorem x_X0_timesInYear (l : Launch) (hfl : l.flags = flags0) (D : va_G) (h0 a1 a2 : Nat) (cA cJ : ClassId) (v : Nat → Int) (L P : Int → Int) (m9 y : Int) (hm9 : mRI m9) (hy9 : mRI y) (hok : mOK v L P)  : mX l yX0_timesInYear wsX0_timesInYear ({ frames := 8, cells := mC (mEx2 (mMk v m9) (mYear y)), slots := 6 * mC (mEx2 (mMk v m9) (mYear y)), locals := 130 }) [.ref h0, .int (mI (m9)), .int (mI (y))] D (mXW h0 a1 a2 cA v L P) (mTy cA cJ) ["java/lang/IndexOutOfBoundsException", "java/lang/IllegalArgumentException"] (mEx2 (mMk v m9) (mYear y)) (some (.int (mI (mCnt L P m9 (mBeg v y) (mBeg v (y + 1) - 1))))) (mXW h0 a1 a2 cA v L P) (fun _ => False) := by
  refine mw_openXX (cc := cX0_timesInYear) (maxL := 3) (ret := (some .int)) (by decide) rfl (Nat.le_of_ble_eq_true rfl) ?_
  intro p e s m below meth c ls hC hr hlocks hout hB hE hl
  obtain ⟨hx, hb, hml, hown, hts⟩ := id hC
  obtain ⟨hP, hK⟩ := hB
  have hl : lv_has ls 3 [(0, .ref h0), (1, .int (mI (m9))), (2, .int (mI (y)))] := hl
  have hok9 := hok
  obtain ⟨⟨o1, o2⟩, oL, ⟨o3, o4, o5, o6, o7, o8⟩, ⟨o9, o10, o11, o12, o13, o14, o15, o16⟩⟩ := hok9
  refine lv_aload_n hx hb dX0_timesInYear_0 rfl (lv_at hl 0 rfl) ?_
  refine lv_iload_n hx hb dX0_timesInYear_1 rfl (lv_at hl 1 rfl) ?_
  by_cases c_2a : mMk v m9
  · refine mw_cVv (rest := []) (q := (RX0, TX0, 10)) hC (c_X0_checkMarket l D h0 a1 a2 cA cJ v L P m9 (by omega) (by omega) (by omega)) (cwV 1 hts gX0_timesInYear_X0_checkMarket rfl rfl rfl (by decide +kernel) ⟨Nat.le_of_ble_eq_true rfl, Nat.le_of_ble_eq_true rfl⟩) hK hP rfl rfl rfl hl.1 rfl (Nat.le_of_ble_eq_true rfl) ⟨Nat.zero_le _, Nat.zero_le _⟩ dX0_timesInYear_2 ?_
    refine lv_iload_n hx hb dX0_timesInYear_5 rfl (lv_at hl 2 rfl) ?_
    by_cases c_6a : mYear y
    · refine mw_cSv (rest := []) hC (c_X0_checkYear l y (by omega)) (va_cwS 1 hts gX0_timesInYear_X0_checkYear rfl rfl rfl (by decide +kernel) ⟨Nat.le_of_ble_eq_true rfl, Nat.le_of_ble_eq_true rfl⟩) rfl hl.1 rfl (Nat.le_of_ble_eq_true rfl) ⟨Nat.zero_le _, Nat.zero_le _⟩ dX0_timesInYear_6 ?_
      have f1 := m_beg_r hok (y := y) (by omega)
      have f2 := m_beg_r hok (y := y + 1) (by omega)
      refine lv_aload_n hx hb dX0_timesInYear_9 rfl (lv_at hl 0 rfl) ?_
      refine lv_iload_n hx hb dX0_timesInYear_10 rfl (lv_at hl 1 rfl) ?_
      refine lv_aload_n hx hb dX0_timesInYear_11 rfl (lv_at hl 0 rfl) ?_
      refine lv_iload_n hx hb dX0_timesInYear_12 rfl (lv_at hl 2 rfl) ?_
      refine mw_cVi (rest := [.int (mI (m9)), .ref h0]) (q := (RX0, TX0, 10)) hC (c_X0_yearBegin l D h0 a1 a2 cA cJ v L P y (id hok) (by omega)) (cwV 1 hts gX0_timesInYear_X0_yearBegin rfl rfl rfl (by decide +kernel) ⟨Nat.le_of_ble_eq_true rfl, Nat.le_of_ble_eq_true rfl⟩) hK hP rfl rfl rfl hl.1 rfl (Nat.le_of_ble_eq_true rfl) ⟨Nat.zero_le _, Nat.zero_le _⟩ dX0_timesInYear_13 ?_
      refine lv_aload_n hx hb dX0_timesInYear_16 rfl (lv_at hl 0 rfl) ?_
      refine lv_iload_n hx hb dX0_timesInYear_17 rfl (lv_at hl 2 rfl) ?_
      refine mw_iconst hx hb dX0_timesInYear_18 ?_
      refine mw_iadd hx hb dX0_timesInYear_19 ?_
      refine mw_cVi (rest := [.int (mI (mBeg v y)), .int (mI (m9)), .ref h0]) (q := (RX0, TX0, 10)) hC (c_X0_yearBegin l D h0 a1 a2 cA cJ v L P (y + 1) (id hok) (by omega)) (cwV 1 hts gX0_timesInYear_X0_yearBegin rfl rfl rfl (by decide +kernel) ⟨Nat.le_of_ble_eq_true rfl, Nat.le_of_ble_eq_true rfl⟩) hK hP rfl rfl rfl hl.1 rfl (Nat.le_of_ble_eq_true rfl) ⟨Nat.zero_le _, Nat.zero_le _⟩ dX0_timesInYear_20 ?_
      refine mw_iconst hx hb dX0_timesInYear_23 ?_
      refine mw_isub hx hb dX0_timesInYear_24 ?_
      refine mw_cVi (rest := []) (q := (RX0, TX0, 10)) hC (c_X0_countHeld l D h0 a1 a2 cA cJ v L P m9 (mBeg v y) ((mBeg v (y + 1)) - 1) (id hok) (by omega) (by omega) (by omega)) (cwV 3 hts gX0_timesInYear_X0_countHeld rfl rfl rfl (by decide +kernel) ⟨Nat.le_of_ble_eq_true rfl, Nat.le_of_ble_eq_true rfl⟩) hK hP rfl rfl rfl hl.1 rfl (Nat.le_of_ble_eq_true rfl) ⟨Nat.zero_le _, Nat.zero_le _⟩ dX0_timesInYear_25 ?_
      exact mw_xretI hx hb hr hlocks dX0_timesInYear_28 (mEx2_0 (by omega) (by omega)) hP va_S.rf rfl
    · exact mw_tSX (rest := []) hC (t_X0_checkYear_t l hfl y (by omega) (by omega)) hE (va_cwS 1 hts gX0_timesInYear_X0_checkYear rfl rfl rfl (by decide +kernel) ⟨Nat.le_of_ble_eq_true rfl, Nat.le_of_ble_eq_true rfl⟩) rfl hl.1 rfl (Nat.le_of_ble_eq_true rfl) (mC_hm (mEx2_2 (by omega) (by omega))) (mC_hm (mEx2_2 (by omega) (by omega))) hout hlocks dX0_timesInYear_6 (fun t ht => ⟨⟨1, (mEx2_2 (by omega) (by omega)), rfl⟩, ht⟩)
  · exact mw_tVX (rest := []) (q := (RX0, TX0, 10)) hC (t_X0_checkMarket_t l hfl D h0 a1 a2 cA cJ v L P m9 (by omega) (by omega) (by omega)) hE (cwV 1 hts gX0_timesInYear_X0_checkMarket rfl rfl rfl (by decide +kernel) ⟨Nat.le_of_ble_eq_true rfl, Nat.le_of_ble_eq_true rfl⟩) hK hP rfl rfl rfl hl.1 rfl (Nat.le_of_ble_eq_true rfl) (mC_hm (mEx2_1 (by omega))) (mC_hm (mEx2_1 (by omega))) hout hlocks dX0_timesInYear_2 (fun t ht => ⟨⟨0, (mEx2_1 (by omega)), rfl⟩, ht⟩)

set_option maxHeartbeats 400000 in
set_option maxRecDepth 100000 in
theorem c_X0_markets (l : Launch) (D : va_G) (h0 a1 a2 : Nat) (cA cJ : ClassId) (v : Nat → Int) (L P : Int → Int)  : mP l yX0_markets wsX0_markets ({ frames := 0, cells := 0, slots := 0, locals := 0 }) [.ref h0] (mwB D (mXW h0 a1 a2 cA v L P) (mTy cA cJ)) (some (.int (mI (v 0)))) := by
  refine mw_open (cc := cX0_markets) (maxL := 1) (ret := (some .int)) (by decide +kernel) rfl (Nat.le_of_ble_eq_true rfl) ?_
  intro p e s m below meth c ls hC hr hlocks hB hl
  obtain ⟨hx, hb, hml, hown, hts⟩ := id hC
  obtain ⟨hP, hK⟩ := hB
  have hin : ∀ w ∈ wsX00, w ∈ wsX0_markets := by decide +kernel
  have hl : lv_has ls 1 [(0, .ref h0)] := hl
  refine lv_aload_n hx hb dX0_markets_0 rfl (lv_at hl 0 rfl) ?_
  refine mw_getX hx hb hts hin hown hK hP rfl 2 (by decide) (by decide +kernel) rfl rfl dX0_markets_1 ?_
  exact mw_retI hx hb hr hlocks dX0_markets_4 rfl
