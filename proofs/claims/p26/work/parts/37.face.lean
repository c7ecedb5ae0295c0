set_option maxHeartbeats 400000 in
set_option maxRecDepth 100000 in
theorem x_X0_doMeet (l : Launch) (hfl : l.flags = flags0) (D : va_G) (h0 a1 a2 : Nat) (cA cJ : ClassId) (v : Nat → Int) (L P : Int → Int) (z : Int) (hz : mRI z) (hok : mOK v L P)  : mX l yX0_doMeet wsX0_doMeet ({ frames := 8, cells := mC (mEx2 (1 ≤ mPop z 32 ∧ mPop z 32 ≤ 5) (mUsh z (v 0) = 0)), slots := 6 * mC (mEx2 (1 ≤ mPop z 32 ∧ mPop z 32 ≤ 5) (mUsh z (v 0) = 0)), locals := 132 }) [.ref h0, .int (mI (z))] D (mXW h0 a1 a2 cA v L P) (mTy cA cJ) ["java/lang/IllegalArgumentException", "java/lang/IndexOutOfBoundsException"] (mEx2 (1 ≤ mPop z 32 ∧ mPop z 32 ≤ 5) (mUsh z (v 0) = 0)) (some (.int (mI (mB (mMts v L P z))))) (mXW h0 a1 a2 cA v L P) (fun _ => False) := by
  refine mw_openXX (cc := cX0_doMeet) (maxL := 2) (ret := (some .boolean)) (by decide) rfl (Nat.le_of_ble_eq_true rfl) ?_
  intro p e s m below meth c ls hC hr hlocks hout hB hE hl
  obtain ⟨hx, hb, hml, hown, hts⟩ := id hC
  obtain ⟨hP, hK⟩ := hB
  have hl : lv_has ls 2 [(0, .ref h0), (1, .int (mI (z)))] := hl
  have hok9 := hok
  obtain ⟨⟨o1, o2⟩, oL, ⟨o3, o4, o5, o6, o7, o8⟩, ⟨o9, o10, o11, o12, o13, o14, o15, o16⟩⟩ := hok9
  refine lv_aload_n hx hb dX0_doMeet_0 rfl (lv_at hl 0 rfl) ?_
  refine lv_iload_n hx hb dX0_doMeet_1 rfl (lv_at hl 1 rfl) ?_
  by_cases c_2a : 1 ≤ mPop z 32 ∧ mPop z 32 ≤ 5
  · by_cases c_2b : mUsh z (v 0) = 0
    · refine mw_cVv (rest := []) (q := (RX0, TX0, 10)) hC (c_X0_checkMeetingSet l D h0 a1 a2 cA cJ v L P z (by omega) (by omega) (by omega)) (cwV 1 hts gX0_doMeet_X0_checkMeetingSet rfl rfl rfl (by decide +kernel) ⟨Nat.le_of_ble_eq_true rfl, Nat.le_of_ble_eq_true rfl⟩) hK hP rfl rfl rfl hl.1 rfl (Nat.le_of_ble_eq_true rfl) ⟨Nat.zero_le _, Nat.zero_le _⟩ dX0_doMeet_2 ?_
      obtain ⟨t1, t2, t3⟩ := m_mts (z := z) hok (by omega)
      refine lv_aload_n hx hb dX0_doMeet_5 rfl (lv_at hl 0 rfl) ?_
      refine lv_iload_n hx hb dX0_doMeet_6 rfl (lv_at hl 1 rfl) ?_
      refine mw_cVl (rest := []) (q := (RX0, TX0, 10)) hC (c_X0_firstMeeting l D h0 a1 a2 cA cJ v L P z (id hok) (by omega) (by omega)) (cwV 1 hts gX0_doMeet_X0_firstMeeting rfl rfl rfl (by decide +kernel) ⟨Nat.le_of_ble_eq_true rfl, Nat.le_of_ble_eq_true rfl⟩) hK hP rfl rfl rfl hl.1 rfl (Nat.le_of_ble_eq_true rfl) ⟨Nat.zero_le _, Nat.zero_le _⟩ dX0_doMeet_7 ?_
      refine mw_ldc2 hx hb (-1) (by decide +kernel) hown (hts (.constantLong RX0 96 (-1)) (by decide +kernel)) dX0_doMeet_10 ?_
      refine mw_lcmp_eq (tgt := 21) hx hb (by omega) (by omega) dX0_doMeet_13 dX0_doMeet_14 (by decide) (fun c_14 => ?_) (fun c_14 => ?_)
      · refine mw_iconst hx hb dX0_doMeet_21 ?_
        exact mw_xretZ hx hb hr hlocks dX0_doMeet_22 (mEx2_0 (by omega) (by omega)) hP va_S.rf (by first | exact (mB_t (t1.mp (by omega))).symm | exact (mB_f (fun q => absurd (t1.mpr q) (by omega))).symm)
      · refine mw_iconst hx hb dX0_doMeet_17 ?_
        refine lv_goto (tgt := 22) hx hb dX0_doMeet_18 (by decide) ?_
        exact mw_xretZ hx hb hr hlocks dX0_doMeet_22 (mEx2_0 (by omega) (by omega)) hP va_S.rf (by first | exact (mB_t (t1.mp (by omega))).symm | exact (mB_f (fun q => absurd (t1.mpr q) (by omega))).symm)
    · exact mw_tVX (rest := []) (q := (RX0, TX0, 10)) hC (t_X0_checkMeetingSet_t2 l hfl D h0 a1 a2 cA cJ v L P z (by omega) (by omega) (by omega)) hE (cwV 1 hts gX0_doMeet_X0_checkMeetingSet rfl rfl rfl (by decide +kernel) ⟨Nat.le_of_ble_eq_true rfl, Nat.le_of_ble_eq_true rfl⟩) hK hP rfl rfl rfl hl.1 rfl (Nat.le_of_ble_eq_true rfl) (mC_hm (mEx2_2 (by omega) (by omega))) (mC_hm (mEx2_2 (by omega) (by omega))) hout hlocks dX0_doMeet_2 (fun t ht => ⟨⟨1, (mEx2_2 (by omega) (by omega)), rfl⟩, ht⟩)
  · exact mw_tVX (rest := []) (q := (RX0, TX0, 10)) hC (t_X0_checkMeetingSet_t1 l hfl D h0 a1 a2 cA cJ v L P z (by omega) (by omega)) hE (cwV 1 hts gX0_doMeet_X0_checkMeetingSet rfl rfl rfl (by decide +kernel) ⟨Nat.le_of_ble_eq_true rfl, Nat.le_of_ble_eq_true rfl⟩) hK hP rfl rfl rfl hl.1 rfl (Nat.le_of_ble_eq_true rfl) (mC_hm (mEx2_1 (by omega))) (mC_hm (mEx2_1 (by omega))) hout hlocks dX0_doMeet_2 (fun t ht => ⟨⟨0, (mEx2_1 (by omega)), rfl⟩, ht⟩)

set_option maxHeartbeats 400000 in
set_option maxRecDepth 100000 in
theorem x_X0_period (l : Launch) (hfl : l.flags = flags0) (D : va_G) (h0 a1 a2 : Nat) (cA cJ : ClassId) (v : Nat → Int) (L P : Int → Int) (z : Int) (hz : mRI z) (hok : mOK v L P)  : mX l yX0_period wsX0_period ({ frames := 8, cells := mC (mEx3 (1 ≤ mPop z 32 ∧ mPop z 32 ≤ 5) (mUsh z (v 0) = 0) (mMts v L P z)), slots := 6 * mC (mEx3 (1 ≤ mPop z 32 ∧ mPop z 32 ≤ 5) (mUsh z (v 0) = 0) (mMts v L P z)), locals := 132 }) [.ref h0, .int (mI (z))] D (mXW h0 a1 a2 cA v L P) (mTy cA cJ) ["java/lang/IllegalArgumentException", "java/lang/IndexOutOfBoundsException", "java/lang/IllegalStateException"] (mEx3 (1 ≤ mPop z 32 ∧ mPop z 32 ≤ 5) (mUsh z (v 0) = 0) (mMts v L P z)) (some (.int (mI (mSt (mFd L P z 0 (v 0).toNat))))) (mXW h0 a1 a2 cA v L P) (fun _ => False) := by
  refine mw_openXX (cc := cX0_period) (maxL := 2) (ret := (some .int)) (by decide) rfl (Nat.le_of_ble_eq_true rfl) ?_
  intro p e s m below meth c ls hC hr hlocks hout hB hE hl
  obtain ⟨hx, hb, hml, hown, hts⟩ := id hC
  obtain ⟨hP, hK⟩ := hB
  have hl : lv_has ls 2 [(0, .ref h0), (1, .int (mI (z)))] := hl
  have hok9 := hok
  obtain ⟨⟨o1, o2⟩, oL, ⟨o3, o4, o5, o6, o7, o8⟩, ⟨o9, o10, o11, o12, o13, o14, o15, o16⟩⟩ := hok9
  refine lv_aload_n hx hb dX0_period_0 rfl (lv_at hl 0 rfl) ?_
  refine lv_iload_n hx hb dX0_period_1 rfl (lv_at hl 1 rfl) ?_
  by_cases c_2a : 1 ≤ mPop z 32 ∧ mPop z 32 ≤ 5
  · by_cases c_2b : mUsh z (v 0) = 0
    · refine mw_cVv (rest := []) (q := (RX0, TX0, 10)) hC (c_X0_checkMeetingSet l D h0 a1 a2 cA cJ v L P z (by omega) (by omega) (by omega)) (cwV 1 hts gX0_period_X0_checkMeetingSet rfl rfl rfl (by decide +kernel) ⟨Nat.le_of_ble_eq_true rfl, Nat.le_of_ble_eq_true rfl⟩) hK hP rfl rfl rfl hl.1 rfl (Nat.le_of_ble_eq_true rfl) ⟨Nat.zero_le _, Nat.zero_le _⟩ dX0_period_2 ?_
      obtain ⟨t1, t2, t3⟩ := m_mts (z := z) hok (by omega)
      refine lv_aload_n hx hb dX0_period_5 rfl (lv_at hl 0 rfl) ?_
      refine lv_iload_n hx hb dX0_period_6 rfl (lv_at hl 1 rfl) ?_
      refine mw_cVl (rest := []) (q := (RX0, TX0, 10)) hC (c_X0_firstMeeting l D h0 a1 a2 cA cJ v L P z (id hok) (by omega) (by omega)) (cwV 1 hts gX0_period_X0_firstMeeting rfl rfl rfl (by decide +kernel) ⟨Nat.le_of_ble_eq_true rfl, Nat.le_of_ble_eq_true rfl⟩) hK hP rfl rfl rfl hl.1 rfl (Nat.le_of_ble_eq_true rfl) ⟨Nat.zero_le _, Nat.zero_le _⟩ dX0_period_7 ?_
      by_cases c_10a : (mD0 (mFd L P z 0 (v 0).toNat)) ≠ -1
      · refine mw_cSv (rest := []) hC (c_X0_checkTheyMeet l (mD0 (mFd L P z 0 (v 0).toNat)) (by omega) (by omega)) (va_cwS 1 hts gX0_period_X0_checkTheyMeet rfl rfl rfl (by decide +kernel) ⟨Nat.le_of_ble_eq_true rfl, Nat.le_of_ble_eq_true rfl⟩) rfl hl.1 rfl (Nat.le_of_ble_eq_true rfl) ⟨Nat.zero_le _, Nat.zero_le _⟩ dX0_period_10 ?_
        have t4 := t1.mp c_10a
        obtain ⟨fd, fs, t5, t6, t7, t8, t9⟩ := t2 t4
        refine lv_aload_n hx hb dX0_period_13 rfl (lv_at hl 0 rfl) ?_
        refine lv_iload_n hx hb dX0_period_14 rfl (lv_at hl 1 rfl) ?_
        refine mw_cVl (rest := []) (q := (RX0, TX0, 10)) hC (c_X0_commonLength l D h0 a1 a2 cA cJ v L P z (id hok) (by omega) (by omega) t4) (cwV 1 hts gX0_period_X0_commonLength rfl rfl rfl (by decide +kernel) ⟨Nat.le_of_ble_eq_true rfl, Nat.le_of_ble_eq_true rfl⟩) hK hP rfl rfl rfl hl.1 rfl (Nat.le_of_ble_eq_true rfl) ⟨Nat.zero_le _, Nat.zero_le _⟩ dX0_period_15 ?_
        refine mw_l2i hx hb dX0_period_18 ?_
        exact mw_xretI hx hb hr hlocks dX0_period_19 (mEx3_0 (by omega) (by omega) t4) hP va_S.rf rfl
      · exact mw_tSX (rest := []) hC (t_X0_checkTheyMeet_t l hfl (mD0 (mFd L P z 0 (v 0).toNat)) (by omega) (by omega)) hE (va_cwS 1 hts gX0_period_X0_checkTheyMeet rfl rfl rfl (by decide +kernel) ⟨Nat.le_of_ble_eq_true rfl, Nat.le_of_ble_eq_true rfl⟩) rfl hl.1 rfl (Nat.le_of_ble_eq_true rfl) (mC_hm (mEx3_3 (by omega) (by omega) (fun q => (by omega : ¬ _ ≠ _) ((m_mts hok (by omega)).1.mpr q)))) (mC_hm (mEx3_3 (by omega) (by omega) (fun q => (by omega : ¬ _ ≠ _) ((m_mts hok (by omega)).1.mpr q)))) hout hlocks dX0_period_10 (fun t ht => ⟨⟨2, (mEx3_3 (by omega) (by omega) (fun q => (by omega : ¬ _ ≠ _) ((m_mts hok (by omega)).1.mpr q))), rfl⟩, ht⟩)
    · exact mw_tVX (rest := []) (q := (RX0, TX0, 10)) hC (t_X0_checkMeetingSet_t2 l hfl D h0 a1 a2 cA cJ v L P z (by omega) (by omega) (by omega)) hE (cwV 1 hts gX0_period_X0_checkMeetingSet rfl rfl rfl (by decide +kernel) ⟨Nat.le_of_ble_eq_true rfl, Nat.le_of_ble_eq_true rfl⟩) hK hP rfl rfl rfl hl.1 rfl (Nat.le_of_ble_eq_true rfl) (mC_hm (mEx3_2 (by omega) (by omega))) (mC_hm (mEx3_2 (by omega) (by omega))) hout hlocks dX0_period_2 (fun t ht => ⟨⟨1, (mEx3_2 (by omega) (by omega)), rfl⟩, ht⟩)
  · exact mw_tVX (rest := []) (q := (RX0, TX0, 10)) hC (t_X0_checkMeetingSet_t1 l hfl D h0 a1 a2 cA cJ v L P z (by omega) (by omega)) hE (cwV 1 hts gX0_period_X0_checkMeetingSet rfl rfl rfl (by decide +kernel) ⟨Nat.le_of_ble_eq_true rfl, Nat.le_of_ble_eq_true rfl⟩) hK hP rfl rfl rfl hl.1 rfl (Nat.le_of_ble_eq_true rfl) (mC_hm (mEx3_1 (by omega))) (mC_hm (mEx3_1 (by omega))) hout hlocks dX0_period_2 (fun t ht => ⟨⟨0, (mEx3_1 (by omega)), rfl⟩, ht⟩)

set_option maxHeartbeats 400000 in
set_option maxRecDepth 100000 in
theorem x_X0_meeting (l : Launch) (hfl : l.flags = flags0) (D : va_G) (h0 a1 a2 : Nat) (cA cJ : ClassId) (v : Nat → Int) (L P : Int → Int) (z d : Int) (hz : mRI z) (hd9 : mRI d) (hok : mOK v L P)  : mX l yX0_meeting wsX0_meeting ({ frames := 8, cells := mC (mEx3 (mDay d ∧ 1 ≤ mPop z 32 ∧ mPop z 32 ≤ 5) (mUsh z (v 0) = 0) (mMts v L P z)), slots := 6 * mC (mEx3 (mDay d ∧ 1 ≤ mPop z 32 ∧ mPop z 32 ≤ 5) (mUsh z (v 0) = 0) (mMts v L P z)), locals := 132 }) [.ref h0, .int (mI (z)), .int (mI (d))] D (mXW h0 a1 a2 cA v L P) (mTy cA cJ) ["java/lang/IllegalArgumentException", "java/lang/IndexOutOfBoundsException", "java/lang/IllegalStateException"] (mEx3 (mDay d ∧ 1 ≤ mPop z 32 ∧ mPop z 32 ≤ 5) (mUsh z (v 0) = 0) (mMts v L P z)) (some (.int (mI (d + (mD0 (mFd L P z 0 (v 0).toNat) - d) % mSt (mFd L P z 0 (v 0).toNat))))) (mXW h0 a1 a2 cA v L P) (fun _ => False) := by
  refine mw_openXX (cc := cX0_meeting) (maxL := 5) (ret := (some .int)) (by decide) rfl (Nat.le_of_ble_eq_true rfl) ?_
  intro p e s m below meth c ls hC hr hlocks hout hB hE hl
  obtain ⟨hx, hb, hml, hown, hts⟩ := id hC
  obtain ⟨hP, hK⟩ := hB
  have hl : lv_has ls 5 [(0, .ref h0), (1, .int (mI (z))), (2, .int (mI (d)))] := hl
  have hok9 := hok
  obtain ⟨⟨o1, o2⟩, oL, ⟨o3, o4, o5, o6, o7, o8⟩, ⟨o9, o10, o11, o12, o13, o14, o15, o16⟩⟩ := hok9
  refine lv_iload_n hx hb dX0_meeting_0 rfl (lv_at hl 2 rfl) ?_
  by_cases c_1a : mDay d
  · refine mw_cSv (rest := []) hC (c_X0_checkDay l d (by omega)) (va_cwS 1 hts gX0_meeting_X0_checkDay rfl rfl rfl (by decide +kernel) ⟨Nat.le_of_ble_eq_true rfl, Nat.le_of_ble_eq_true rfl⟩) rfl hl.1 rfl (Nat.le_of_ble_eq_true rfl) ⟨Nat.zero_le _, Nat.zero_le _⟩ dX0_meeting_1 ?_
    refine lv_aload_n hx hb dX0_meeting_4 rfl (lv_at hl 0 rfl) ?_
    refine lv_iload_n hx hb dX0_meeting_5 rfl (lv_at hl 1 rfl) ?_
    by_cases c_6a : 1 ≤ mPop z 32 ∧ mPop z 32 ≤ 5
    · by_cases c_6b : mUsh z (v 0) = 0
      · refine mw_cVv (rest := []) (q := (RX0, TX0, 10)) hC (c_X0_checkMeetingSet l D h0 a1 a2 cA cJ v L P z (by omega) (by omega) (by omega)) (cwV 1 hts gX0_meeting_X0_checkMeetingSet rfl rfl rfl (by decide +kernel) ⟨Nat.le_of_ble_eq_true rfl, Nat.le_of_ble_eq_true rfl⟩) hK hP rfl rfl rfl hl.1 rfl (Nat.le_of_ble_eq_true rfl) ⟨Nat.zero_le _, Nat.zero_le _⟩ dX0_meeting_6 ?_
        obtain ⟨t1, t2, t3⟩ := m_mts (z := z) hok (by omega)
        refine lv_aload_n hx hb dX0_meeting_9 rfl (lv_at hl 0 rfl) ?_
        refine lv_iload_n hx hb dX0_meeting_10 rfl (lv_at hl 1 rfl) ?_
        refine mw_cVl (rest := []) (q := (RX0, TX0, 10)) hC (c_X0_firstMeeting l D h0 a1 a2 cA cJ v L P z (id hok) (by omega) (by omega)) (cwV 1 hts gX0_meeting_X0_firstMeeting rfl rfl rfl (by decide +kernel) ⟨Nat.le_of_ble_eq_true rfl, Nat.le_of_ble_eq_true rfl⟩) hK hP rfl rfl rfl hl.1 rfl (Nat.le_of_ble_eq_true rfl) ⟨Nat.zero_le _, Nat.zero_le _⟩ dX0_meeting_11 ?_
        refine lv_lstore_n (lv' := [(3, .long (mL (mD0 (mFd L P z 0 (v 0).toNat)))), (0, .ref h0), (1, .int (mI (z))), (2, .int (mI (d)))]) hx hb dX0_meeting_14 rfl hl (by decide) rfl (fun ls hl => ?_)
        refine lv_lload_n hx hb dX0_meeting_15 rfl (lv_at hl 0 rfl) ?_
        by_cases c_16a : (mD0 (mFd L P z 0 (v 0).toNat)) ≠ -1
        · refine mw_cSv (rest := []) hC (c_X0_checkTheyMeet l (mD0 (mFd L P z 0 (v 0).toNat)) (by omega) (by omega)) (va_cwS 1 hts gX0_meeting_X0_checkTheyMeet rfl rfl rfl (by decide +kernel) ⟨Nat.le_of_ble_eq_true rfl, Nat.le_of_ble_eq_true rfl⟩) rfl hl.1 rfl (Nat.le_of_ble_eq_true rfl) ⟨Nat.zero_le _, Nat.zero_le _⟩ dX0_meeting_16 ?_
          have t4 := t1.mp c_16a
          obtain ⟨fd, fs, t5, t6, t7, t8, t9⟩ := t2 t4
          refine lv_iload_n hx hb dX0_meeting_19 rfl (lv_at hl 3 rfl) ?_
          refine mw_i2l hx hb (by omega) dX0_meeting_20 ?_
          refine lv_lload_n hx hb dX0_meeting_21 rfl (lv_at hl 0 rfl) ?_
          refine lv_iload_n hx hb dX0_meeting_22 rfl (lv_at hl 3 rfl) ?_
          refine mw_i2l hx hb (by omega) dX0_meeting_23 ?_
          refine mw_lsub hx hb dX0_meeting_24 ?_
          refine lv_aload_n hx hb dX0_meeting_25 rfl (lv_at hl 1 rfl) ?_
          refine lv_iload_n hx hb dX0_meeting_26 rfl (lv_at hl 2 rfl) ?_
          refine mw_cVl (rest := [.long (mL ((mD0 (mFd L P z 0 (v 0).toNat)) - d)), .long (mL (d))]) (q := (RX0, TX0, 10)) hC (c_X0_commonLength l D h0 a1 a2 cA cJ v L P z (id hok) (by omega) (by omega) t4) (cwV 1 hts gX0_meeting_X0_commonLength rfl rfl rfl (by decide +kernel) ⟨Nat.le_of_ble_eq_true rfl, Nat.le_of_ble_eq_true rfl⟩) hK hP rfl rfl rfl hl.1 rfl (Nat.le_of_ble_eq_true rfl) ⟨Nat.zero_le _, Nat.zero_le _⟩ dX0_meeting_27 ?_
          refine mw_cSl (rest := [.long (mL (d))]) hC (c_X0_modulo l ((mD0 (mFd L P z 0 (v 0).toNat)) - d) (mSt (mFd L P z 0 (v 0).toNat)) (by omega) (by omega) (by omega)) (va_cwS 2 hts gX0_meeting_X0_modulo rfl rfl rfl (by decide +kernel) ⟨Nat.le_of_ble_eq_true rfl, Nat.le_of_ble_eq_true rfl⟩) rfl hl.1 rfl (Nat.le_of_ble_eq_true rfl) ⟨Nat.zero_le _, Nat.zero_le _⟩ dX0_meeting_30 ?_
          refine mw_ladd hx hb dX0_meeting_33 ?_
          refine mw_l2i hx hb dX0_meeting_34 ?_
          exact mw_xretI hx hb hr hlocks dX0_meeting_35 (mEx3_0 (by omega) (by omega) t4) hP va_S.rf rfl
        · exact mw_tSX (rest := []) hC (t_X0_checkTheyMeet_t l hfl (mD0 (mFd L P z 0 (v 0).toNat)) (by omega) (by omega)) hE (va_cwS 1 hts gX0_meeting_X0_checkTheyMeet rfl rfl rfl (by decide +kernel) ⟨Nat.le_of_ble_eq_true rfl, Nat.le_of_ble_eq_true rfl⟩) rfl hl.1 rfl (Nat.le_of_ble_eq_true rfl) (mC_hm (mEx3_3 (by omega) (by omega) (fun q => (by omega : ¬ _ ≠ _) ((m_mts hok (by omega)).1.mpr q)))) (mC_hm (mEx3_3 (by omega) (by omega) (fun q => (by omega : ¬ _ ≠ _) ((m_mts hok (by omega)).1.mpr q)))) hout hlocks dX0_meeting_16 (fun t ht => ⟨⟨2, (mEx3_3 (by omega) (by omega) (fun q => (by omega : ¬ _ ≠ _) ((m_mts hok (by omega)).1.mpr q))), rfl⟩, ht⟩)
      · exact mw_tVX (rest := []) (q := (RX0, TX0, 10)) hC (t_X0_checkMeetingSet_t2 l hfl D h0 a1 a2 cA cJ v L P z (by omega) (by omega) (by omega)) hE (cwV 1 hts gX0_meeting_X0_checkMeetingSet rfl rfl rfl (by decide +kernel) ⟨Nat.le_of_ble_eq_true rfl, Nat.le_of_ble_eq_true rfl⟩) hK hP rfl rfl rfl hl.1 rfl (Nat.le_of_ble_eq_true rfl) (mC_hm (mEx3_2 (by omega) (by omega))) (mC_hm (mEx3_2 (by omega) (by omega))) hout hlocks dX0_meeting_6 (fun t ht => ⟨⟨1, (mEx3_2 (by omega) (by omega)), rfl⟩, ht⟩)
    · exact mw_tVX (rest := []) (q := (RX0, TX0, 10)) hC (t_X0_checkMeetingSet_t1 l hfl D h0 a1 a2 cA cJ v L P z (by omega) (by omega)) hE (cwV 1 hts gX0_meeting_X0_checkMeetingSet rfl rfl rfl (by decide +kernel) ⟨Nat.le_of_ble_eq_true rfl, Nat.le_of_ble_eq_true rfl⟩) hK hP rfl rfl rfl hl.1 rfl (Nat.le_of_ble_eq_true rfl) (mC_hm (mEx3_1 (by omega))) (mC_hm (mEx3_1 (by omega))) hout hlocks dX0_meeting_6 (fun t ht => ⟨⟨0, (mEx3_1 (by omega)), rfl⟩, ht⟩)
  · exact mw_tSX (rest := []) hC (t_X0_checkDay_t l hfl d (by omega) (by omega)) hE (va_cwS 1 hts gX0_meeting_X0_checkDay rfl rfl rfl (by decide +kernel) ⟨Nat.le_of_ble_eq_true rfl, Nat.le_of_ble_eq_true rfl⟩) rfl hl.1 rfl (Nat.le_of_ble_eq_true rfl) (mC_hm (mEx3_1 (by omega))) (mC_hm (mEx3_1 (by omega))) hout hlocks dX0_meeting_1 (fun t ht => ⟨⟨0, (mEx3_1 (by omega)), rfl⟩, ht⟩)
