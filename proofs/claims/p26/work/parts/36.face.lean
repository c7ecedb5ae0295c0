set_option maxHeartbeats 400000 in
set_option maxRecDepth 100000 in
theorem x_X0_isHeld (l : Launch) (hfl : l.flags = flags0) (D : va_G) (h0 a1 a2 : Nat) (cA cJ : ClassId) (v : Nat → Int) (L P : Int → Int) (m9 d : Int) (hm9 : mRI m9) (hd9 : mRI d) (hok : mOK v L P)  : mX l yX0_isHeld wsX0_isHeld ({ frames := 8, cells := mC (mEx2 (mMk v m9) (mDay d)), slots := 6 * mC (mEx2 (mMk v m9) (mDay d)), locals := 130 }) [.ref h0, .int (mI (m9)), .int (mI (d))] D (mXW h0 a1 a2 cA v L P) (mTy cA cJ) ["java/lang/IndexOutOfBoundsException", "java/lang/IllegalArgumentException"] (mEx2 (mMk v m9) (mDay d)) (some (.int (mI (mB (d % L m9 = P m9))))) (mXW h0 a1 a2 cA v L P) (fun _ => False) := by
  refine mw_openXX (cc := cX0_isHeld) (maxL := 3) (ret := (some .boolean)) (by decide) rfl (Nat.le_of_ble_eq_true rfl) ?_
  intro p e s m below meth c ls hC hr hlocks hout hB hE hl
  obtain ⟨hx, hb, hml, hown, hts⟩ := id hC
  obtain ⟨hP, hK⟩ := hB
  have hl : lv_has ls 3 [(0, .ref h0), (1, .int (mI (m9))), (2, .int (mI (d)))] := hl
  have hok9 := hok
  obtain ⟨⟨o1, o2⟩, oL, ⟨o3, o4, o5, o6, o7, o8⟩, ⟨o9, o10, o11, o12, o13, o14, o15, o16⟩⟩ := hok9
  refine lv_aload_n hx hb dX0_isHeld_0 rfl (lv_at hl 0 rfl) ?_
  refine lv_iload_n hx hb dX0_isHeld_1 rfl (lv_at hl 1 rfl) ?_
  by_cases c_2a : mMk v m9
  · refine mw_cVv (rest := []) (q := (RX0, TX0, 10)) hC (c_X0_checkMarket l D h0 a1 a2 cA cJ v L P m9 (by omega) (by omega) (by omega)) (cwV 1 hts gX0_isHeld_X0_checkMarket rfl rfl rfl (by decide +kernel) ⟨Nat.le_of_ble_eq_true rfl, Nat.le_of_ble_eq_true rfl⟩) hK hP rfl rfl rfl hl.1 rfl (Nat.le_of_ble_eq_true rfl) ⟨Nat.zero_le _, Nat.zero_le _⟩ dX0_isHeld_2 ?_
    refine lv_iload_n hx hb dX0_isHeld_5 rfl (lv_at hl 2 rfl) ?_
    by_cases c_6a : mDay d
    · refine mw_cSv (rest := []) hC (c_X0_checkDay l d (by omega)) (va_cwS 1 hts gX0_isHeld_X0_checkDay rfl rfl rfl (by decide +kernel) ⟨Nat.le_of_ble_eq_true rfl, Nat.le_of_ble_eq_true rfl⟩) rfl hl.1 rfl (Nat.le_of_ble_eq_true rfl) ⟨Nat.zero_le _, Nat.zero_le _⟩ dX0_isHeld_6 ?_
      refine lv_aload_n hx hb dX0_isHeld_9 rfl (lv_at hl 0 rfl) ?_
      refine lv_iload_n hx hb dX0_isHeld_10 rfl (lv_at hl 1 rfl) ?_
      refine lv_iload_n hx hb dX0_isHeld_11 rfl (lv_at hl 2 rfl) ?_
      refine mw_i2l hx hb (by omega) dX0_isHeld_12 ?_
      refine mw_cVi (rest := []) (q := (RX0, TX0, 10)) hC (c_X0_isOn l D h0 a1 a2 cA cJ v L P m9 d (id hok) (by omega) (by omega)) (cwV 2 hts gX0_isHeld_X0_isOn rfl rfl rfl (by decide +kernel) ⟨Nat.le_of_ble_eq_true rfl, Nat.le_of_ble_eq_true rfl⟩) hK hP rfl rfl rfl hl.1 rfl (Nat.le_of_ble_eq_true rfl) ⟨Nat.zero_le _, Nat.zero_le _⟩ dX0_isHeld_13 ?_
      exact mw_xretZ hx hb hr hlocks dX0_isHeld_16 (mEx2_0 (by omega) (by omega)) hP va_S.rf rfl
    · exact mw_tSX (rest := []) hC (t_X0_checkDay_t l hfl d (by omega) (by omega)) hE (va_cwS 1 hts gX0_isHeld_X0_checkDay rfl rfl rfl (by decide +kernel) ⟨Nat.le_of_ble_eq_true rfl, Nat.le_of_ble_eq_true rfl⟩) rfl hl.1 rfl (Nat.le_of_ble_eq_true rfl) (mC_hm (mEx2_2 (by omega) (by omega))) (mC_hm (mEx2_2 (by omega) (by omega))) hout hlocks dX0_isHeld_6 (fun t ht => ⟨⟨1, (mEx2_2 (by omega) (by omega)), rfl⟩, ht⟩)
  · exact mw_tVX (rest := []) (q := (RX0, TX0, 10)) hC (t_X0_checkMarket_t l hfl D h0 a1 a2 cA cJ v L P m9 (by omega) (by omega) (by omega)) hE (cwV 1 hts gX0_isHeld_X0_checkMarket rfl rfl rfl (by decide +kernel) ⟨Nat.le_of_ble_eq_true rfl, Nat.le_of_ble_eq_true rfl⟩) hK hP rfl rfl rfl hl.1 rfl (Nat.le_of_ble_eq_true rfl) (mC_hm (mEx2_1 (by omega))) (mC_hm (mEx2_1 (by omega))) hout hlocks dX0_isHeld_2 (fun t ht => ⟨⟨0, (mEx2_1 (by omega)), rfl⟩, ht⟩)

set_option maxHeartbeats 400000 in
set_option maxRecDepth 100000 in
theorem x_X0_next (l : Launch) (hfl : l.flags = flags0) (D : va_G) (h0 a1 a2 : Nat) (cA cJ : ClassId) (v : Nat → Int) (L P : Int → Int) (m9 d : Int) (hm9 : mRI m9) (hd9 : mRI d) (hok : mOK v L P)  : mX l yX0_next wsX0_next ({ frames := 8, cells := mC (mEx2 (mMk v m9) (mDay d)), slots := 6 * mC (mEx2 (mMk v m9) (mDay d)), locals := 130 }) [.ref h0, .int (mI (m9)), .int (mI (d))] D (mXW h0 a1 a2 cA v L P) (mTy cA cJ) ["java/lang/IndexOutOfBoundsException", "java/lang/IllegalArgumentException"] (mEx2 (mMk v m9) (mDay d)) (some (.int (mI (d + (P m9 - d) % L m9)))) (mXW h0 a1 a2 cA v L P) (fun _ => False) := by
  refine mw_openXX (cc := cX0_next) (maxL := 3) (ret := (some .int)) (by decide) rfl (Nat.le_of_ble_eq_true rfl) ?_
  intro p e s m below meth c ls hC hr hlocks hout hB hE hl
  obtain ⟨hx, hb, hml, hown, hts⟩ := id hC
  obtain ⟨hP, hK⟩ := hB
  have hl : lv_has ls 3 [(0, .ref h0), (1, .int (mI (m9))), (2, .int (mI (d)))] := hl
  have hok9 := hok
  obtain ⟨⟨o1, o2⟩, oL, ⟨o3, o4, o5, o6, o7, o8⟩, ⟨o9, o10, o11, o12, o13, o14, o15, o16⟩⟩ := hok9
  refine lv_aload_n hx hb dX0_next_0 rfl (lv_at hl 0 rfl) ?_
  refine lv_iload_n hx hb dX0_next_1 rfl (lv_at hl 1 rfl) ?_
  by_cases c_2a : mMk v m9
  · refine mw_cVv (rest := []) (q := (RX0, TX0, 10)) hC (c_X0_checkMarket l D h0 a1 a2 cA cJ v L P m9 (by omega) (by omega) (by omega)) (cwV 1 hts gX0_next_X0_checkMarket rfl rfl rfl (by decide +kernel) ⟨Nat.le_of_ble_eq_true rfl, Nat.le_of_ble_eq_true rfl⟩) hK hP rfl rfl rfl hl.1 rfl (Nat.le_of_ble_eq_true rfl) ⟨Nat.zero_le _, Nat.zero_le _⟩ dX0_next_2 ?_
    refine lv_iload_n hx hb dX0_next_5 rfl (lv_at hl 2 rfl) ?_
    by_cases c_6a : mDay d
    · refine mw_cSv (rest := []) hC (c_X0_checkDay l d (by omega)) (va_cwS 1 hts gX0_next_X0_checkDay rfl rfl rfl (by decide +kernel) ⟨Nat.le_of_ble_eq_true rfl, Nat.le_of_ble_eq_true rfl⟩) rfl hl.1 rfl (Nat.le_of_ble_eq_true rfl) ⟨Nat.zero_le _, Nat.zero_le _⟩ dX0_next_6 ?_
      obtain ⟨l1, l2, l3, l4⟩ := oL m9 (by omega) (by omega)
      refine lv_iload_n hx hb dX0_next_9 rfl (lv_at hl 2 rfl) ?_
      refine mw_i2l hx hb (by omega) dX0_next_10 ?_
      refine lv_aload_n hx hb dX0_next_11 rfl (lv_at hl 0 rfl) ?_
      refine lv_iload_n hx hb dX0_next_12 rfl (lv_at hl 1 rfl) ?_
      refine mw_cVi (rest := [.long (mL (d))]) (q := (RX0, TX0, 10)) hC (c_X0_placeOf l D h0 a1 a2 cA cJ v L P m9 (by omega)) (cwV 1 hts gX0_next_X0_placeOf rfl rfl rfl (by decide +kernel) ⟨Nat.le_of_ble_eq_true rfl, Nat.le_of_ble_eq_true rfl⟩) hK hP rfl rfl rfl hl.1 rfl (Nat.le_of_ble_eq_true rfl) ⟨Nat.zero_le _, Nat.zero_le _⟩ dX0_next_13 ?_
      refine lv_iload_n hx hb dX0_next_16 rfl (lv_at hl 2 rfl) ?_
      refine mw_isub hx hb dX0_next_17 ?_
      refine mw_i2l hx hb (by omega) dX0_next_18 ?_
      refine lv_aload_n hx hb dX0_next_19 rfl (lv_at hl 0 rfl) ?_
      refine lv_iload_n hx hb dX0_next_20 rfl (lv_at hl 1 rfl) ?_
      refine mw_cVi (rest := [.long (mL ((P m9) - d)), .long (mL (d))]) (q := (RX0, TX0, 10)) hC (c_X0_lengthOf l D h0 a1 a2 cA cJ v L P m9 (by omega)) (cwV 1 hts gX0_next_X0_lengthOf rfl rfl rfl (by decide +kernel) ⟨Nat.le_of_ble_eq_true rfl, Nat.le_of_ble_eq_true rfl⟩) hK hP rfl rfl rfl hl.1 rfl (Nat.le_of_ble_eq_true rfl) ⟨Nat.zero_le _, Nat.zero_le _⟩ dX0_next_21 ?_
      refine mw_i2l hx hb (by omega) dX0_next_24 ?_
      refine mw_cSl (rest := [.long (mL (d))]) hC (c_X0_modulo l ((P m9) - d) (L m9) (by omega) (by omega) (by omega)) (va_cwS 2 hts gX0_next_X0_modulo rfl rfl rfl (by decide +kernel) ⟨Nat.le_of_ble_eq_true rfl, Nat.le_of_ble_eq_true rfl⟩) rfl hl.1 rfl (Nat.le_of_ble_eq_true rfl) ⟨Nat.zero_le _, Nat.zero_le _⟩ dX0_next_25 ?_
      refine mw_ladd hx hb dX0_next_28 ?_
      refine mw_l2i hx hb dX0_next_29 ?_
      exact mw_xretI hx hb hr hlocks dX0_next_30 (mEx2_0 (by omega) (by omega)) hP va_S.rf rfl
    · exact mw_tSX (rest := []) hC (t_X0_checkDay_t l hfl d (by omega) (by omega)) hE (va_cwS 1 hts gX0_next_X0_checkDay rfl rfl rfl (by decide +kernel) ⟨Nat.le_of_ble_eq_true rfl, Nat.le_of_ble_eq_true rfl⟩) rfl hl.1 rfl (Nat.le_of_ble_eq_true rfl) (mC_hm (mEx2_2 (by omega) (by omega))) (mC_hm (mEx2_2 (by omega) (by omega))) hout hlocks dX0_next_6 (fun t ht => ⟨⟨1, (mEx2_2 (by omega) (by omega)), rfl⟩, ht⟩)
  · exact mw_tVX (rest := []) (q := (RX0, TX0, 10)) hC (t_X0_checkMarket_t l hfl D h0 a1 a2 cA cJ v L P m9 (by omega) (by omega) (by omega)) hE (cwV 1 hts gX0_next_X0_checkMarket rfl rfl rfl (by decide +kernel) ⟨Nat.le_of_ble_eq_true rfl, Nat.le_of_ble_eq_true rfl⟩) hK hP rfl rfl rfl hl.1 rfl (Nat.le_of_ble_eq_true rfl) (mC_hm (mEx2_1 (by omega))) (mC_hm (mEx2_1 (by omega))) hout hlocks dX0_next_2 (fun t ht => ⟨⟨0, (mEx2_1 (by omega)), rfl⟩, ht⟩)

set_option maxHeartbeats 400000 in
set_option maxRecDepth 100000 in
theorem x_X0_nearest (l : Launch) (hfl : l.flags = flags0) (D : va_G) (h0 a1 a2 : Nat) (cA cJ : ClassId) (v : Nat → Int) (L P : Int → Int) (m9 d : Int) (hm9 : mRI m9) (hd9 : mRI d) (hok : mOK v L P)  : mX l yX0_nearest wsX0_nearest ({ frames := 8, cells := mC (mEx2 (mMk v m9) (mDay d)), slots := 6 * mC (mEx2 (mMk v m9) (mDay d)), locals := 130 }) [.ref h0, .int (mI (m9)), .int (mI (d))] D (mXW h0 a1 a2 cA v L P) (mTy cA cJ) ["java/lang/IndexOutOfBoundsException", "java/lang/IllegalArgumentException"] (mEx2 (mMk v m9) (mDay d)) (some (.int (mI (mNear L P m9 d)))) (mXW h0 a1 a2 cA v L P) (fun _ => False) := by
  refine mw_openXX (cc := cX0_nearest) (maxL := 6) (ret := (some .int)) (by decide) rfl (Nat.le_of_ble_eq_true rfl) ?_
  intro p e s m below meth c ls hC hr hlocks hout hB hE hl
  obtain ⟨hx, hb, hml, hown, hts⟩ := id hC
  obtain ⟨hP, hK⟩ := hB
  have hl : lv_has ls 6 [(0, .ref h0), (1, .int (mI (m9))), (2, .int (mI (d)))] := hl
  have hok9 := hok
  obtain ⟨⟨o1, o2⟩, oL, ⟨o3, o4, o5, o6, o7, o8⟩, ⟨o9, o10, o11, o12, o13, o14, o15, o16⟩⟩ := hok9
  refine lv_aload_n hx hb dX0_nearest_0 rfl (lv_at hl 0 rfl) ?_
  refine lv_iload_n hx hb dX0_nearest_1 rfl (lv_at hl 1 rfl) ?_
  by_cases c_2a : mMk v m9
  · refine mw_cVv (rest := []) (q := (RX0, TX0, 10)) hC (c_X0_checkMarket l D h0 a1 a2 cA cJ v L P m9 (by omega) (by omega) (by omega)) (cwV 1 hts gX0_nearest_X0_checkMarket rfl rfl rfl (by decide +kernel) ⟨Nat.le_of_ble_eq_true rfl, Nat.le_of_ble_eq_true rfl⟩) hK hP rfl rfl rfl hl.1 rfl (Nat.le_of_ble_eq_true rfl) ⟨Nat.zero_le _, Nat.zero_le _⟩ dX0_nearest_2 ?_
    refine lv_iload_n hx hb dX0_nearest_5 rfl (lv_at hl 2 rfl) ?_
    by_cases c_6a : mDay d
    · refine mw_cSv (rest := []) hC (c_X0_checkDay l d (by omega)) (va_cwS 1 hts gX0_nearest_X0_checkDay rfl rfl rfl (by decide +kernel) ⟨Nat.le_of_ble_eq_true rfl, Nat.le_of_ble_eq_true rfl⟩) rfl hl.1 rfl (Nat.le_of_ble_eq_true rfl) ⟨Nat.zero_le _, Nat.zero_le _⟩ dX0_nearest_6 ?_
      obtain ⟨l1, l2, l3, l4⟩ := oL m9 (by omega) (by omega)
      have n3 := m_mod_r (a := d - P m9) (b := L m9) (by omega)
      have n1 : (d - P m9) % L m9 ≤ L m9 - (d - P m9) % L m9 → mNear L P m9 d = d - (d - P m9) % L m9 := fun h => if_pos h
      have n2 : ¬ (d - P m9) % L m9 ≤ L m9 - (d - P m9) % L m9 → mNear L P m9 d = (d - (d - P m9) % L m9) + L m9 := fun h => if_neg h
      refine lv_aload_n hx hb dX0_nearest_9 rfl (lv_at hl 0 rfl) ?_
      refine lv_iload_n hx hb dX0_nearest_10 rfl (lv_at hl 1 rfl) ?_
      refine mw_cVi (rest := []) (q := (RX0, TX0, 10)) hC (c_X0_lengthOf l D h0 a1 a2 cA cJ v L P m9 (by omega)) (cwV 1 hts gX0_nearest_X0_lengthOf rfl rfl rfl (by decide +kernel) ⟨Nat.le_of_ble_eq_true rfl, Nat.le_of_ble_eq_true rfl⟩) hK hP rfl rfl rfl hl.1 rfl (Nat.le_of_ble_eq_true rfl) ⟨Nat.zero_le _, Nat.zero_le _⟩ dX0_nearest_11 ?_
      refine lv_istore_n (lv' := [(3, .int (mI (L m9))), (0, .ref h0), (1, .int (mI (m9))), (2, .int (mI (d)))]) hx hb dX0_nearest_14 rfl hl (by decide) rfl (fun ls hl => ?_)
      refine lv_iload_n hx hb dX0_nearest_15 rfl (lv_at hl 3 rfl) ?_
      refine lv_aload_n hx hb dX0_nearest_16 rfl (lv_at hl 1 rfl) ?_
      refine lv_iload_n hx hb dX0_nearest_17 rfl (lv_at hl 2 rfl) ?_
      refine mw_cVi (rest := [.int (mI (d))]) (q := (RX0, TX0, 10)) hC (c_X0_placeOf l D h0 a1 a2 cA cJ v L P m9 (by omega)) (cwV 1 hts gX0_nearest_X0_placeOf rfl rfl rfl (by decide +kernel) ⟨Nat.le_of_ble_eq_true rfl, Nat.le_of_ble_eq_true rfl⟩) hK hP rfl rfl rfl hl.1 rfl (Nat.le_of_ble_eq_true rfl) ⟨Nat.zero_le _, Nat.zero_le _⟩ dX0_nearest_18 ?_
      refine mw_isub hx hb dX0_nearest_21 ?_
      refine mw_i2l hx hb (by omega) dX0_nearest_22 ?_
      refine lv_iload_n hx hb dX0_nearest_23 rfl (lv_at hl 0 rfl) ?_
      refine mw_i2l hx hb (by omega) dX0_nearest_24 ?_
      refine mw_cSl (rest := []) hC (c_X0_modulo l (d - (P m9)) (L m9) (by omega) (by omega) (by omega)) (va_cwS 2 hts gX0_nearest_X0_modulo rfl rfl rfl (by decide +kernel) ⟨Nat.le_of_ble_eq_true rfl, Nat.le_of_ble_eq_true rfl⟩) rfl hl.1 rfl (Nat.le_of_ble_eq_true rfl) ⟨Nat.zero_le _, Nat.zero_le _⟩ dX0_nearest_25 ?_
      refine mw_l2i hx hb dX0_nearest_28 ?_
      refine lv_istore (lv' := [(4, .int (mI ((d - (P m9)) % (L m9)))), (3, .int (mI (L m9))), (0, .ref h0), (1, .int (mI (m9))), (2, .int (mI (d)))]) hx hb dX0_nearest_29 hl (by decide) rfl (fun ls hl => ?_)
      refine lv_iload_n hx hb dX0_nearest_31 rfl (lv_at hl 4 rfl) ?_
      refine lv_iload hx hb dX0_nearest_32 (lv_at hl 0 rfl) ?_
      refine mw_isub hx hb dX0_nearest_34 ?_
      refine lv_istore (lv' := [(5, .int (mI (d - ((d - (P m9)) % (L m9))))), (4, .int (mI ((d - (P m9)) % (L m9)))), (3, .int (mI (L m9))), (0, .ref h0), (1, .int (mI (m9))), (2, .int (mI (d)))]) hx hb dX0_nearest_35 hl (by decide) rfl (fun ls hl => ?_)
      refine lv_iload hx hb dX0_nearest_37 (lv_at hl 1 rfl) ?_
      refine lv_iload_n hx hb dX0_nearest_39 rfl (lv_at hl 2 rfl) ?_
      refine lv_iload hx hb dX0_nearest_40 (lv_at hl 1 rfl) ?_
      refine mw_isub hx hb dX0_nearest_42 ?_
      refine mw_icmp_gt (tgt := 51) hx hb (by omega) (by omega) dX0_nearest_43 (by decide) (fun c_43 => ?_) (fun c_43 => ?_)
      · refine lv_iload hx hb dX0_nearest_51 (lv_at hl 0 rfl) ?_
        refine lv_iload_n hx hb dX0_nearest_53 rfl (lv_at hl 2 rfl) ?_
        refine mw_iadd hx hb dX0_nearest_54 ?_
        exact mw_xretI hx hb hr hlocks dX0_nearest_55 (mEx2_0 (by omega) (by omega)) hP va_S.rf (by omega)
      · refine lv_iload hx hb dX0_nearest_46 (lv_at hl 0 rfl) ?_
        refine lv_goto (tgt := 55) hx hb dX0_nearest_48 (by decide) ?_
        exact mw_xretI hx hb hr hlocks dX0_nearest_55 (mEx2_0 (by omega) (by omega)) hP va_S.rf (by omega)
    · exact mw_tSX (rest := []) hC (t_X0_checkDay_t l hfl d (by omega) (by omega)) hE (va_cwS 1 hts gX0_nearest_X0_checkDay rfl rfl rfl (by decide +kernel) ⟨Nat.le_of_ble_eq_true rfl, Nat.le_of_ble_eq_true rfl⟩) rfl hl.1 rfl (Nat.le_of_ble_eq_true rfl) (mC_hm (mEx2_2 (by omega) (by omega))) (mC_hm (mEx2_2 (by omega) (by omega))) hout hlocks dX0_nearest_6 (fun t ht => ⟨⟨1, (mEx2_2 (by omega) (by omega)), rfl⟩, ht⟩)
  · exact mw_tVX (rest := []) (q := (RX0, TX0, 10)) hC (t_X0_checkMarket_t l hfl D h0 a1 a2 cA cJ v L P m9 (by omega) (by omega) (by omega)) hE (cwV 1 hts gX0_nearest_X0_checkMarket rfl rfl rfl (by decide +kernel) ⟨Nat.le_of_ble_eq_true rfl, Nat.le_of_ble_eq_true rfl⟩) hK hP rfl rfl rfl hl.1 rfl (Nat.le_of_ble_eq_true rfl) (mC_hm (mEx2_1 (by omega))) (mC_hm (mEx2_1 (by omega))) hout hlocks dX0_nearest_2 (fun t ht => ⟨⟨0, (mEx2_1 (by omega)), rfl⟩, ht⟩)

set_option maxHeartbeats 400000 in
set_option maxRecDepth 100000 in
theorem x_X0_times (l : Launch) (hfl : l.flags = flags0) (D : va_G) (h0 a1 a2 : Nat) (cA cJ : ClassId) (v : Nat → Int) (L P : Int → Int) (m9 a b : Int) (hm9 : mRI m9) (ha : mRI a) (hb9 : mRI b) (hok : mOK v L P)  : mX l yX0_times wsX0_times ({ frames := 8, cells := mC (mEx2 (mMk v m9) (mDay a ∧ mDay b ∧ a ≤ b)), slots := 6 * mC (mEx2 (mMk v m9) (mDay a ∧ mDay b ∧ a ≤ b)), locals := 130 }) [.ref h0, .int (mI (m9)), .int (mI (a)), .int (mI (b))] D (mXW h0 a1 a2 cA v L P) (mTy cA cJ) ["java/lang/IndexOutOfBoundsException", "java/lang/IllegalArgumentException"] (mEx2 (mMk v m9) (mDay a ∧ mDay b ∧ a ≤ b)) (some (.int (mI (mCnt L P m9 a b)))) (mXW h0 a1 a2 cA v L P) (fun _ => False) := by
  refine mw_openXX (cc := cX0_times) (maxL := 4) (ret := (some .int)) (by decide) rfl (Nat.le_of_ble_eq_true rfl) ?_
  intro p e s m below meth c ls hC hr hlocks hout hB hE hl
  obtain ⟨hx, hb, hml, hown, hts⟩ := id hC
  obtain ⟨hP, hK⟩ := hB
  have hl : lv_has ls 4 [(0, .ref h0), (1, .int (mI (m9))), (2, .int (mI (a))), (3, .int (mI (b)))] := hl
  have hok9 := hok
  obtain ⟨⟨o1, o2⟩, oL, ⟨o3, o4, o5, o6, o7, o8⟩, ⟨o9, o10, o11, o12, o13, o14, o15, o16⟩⟩ := hok9
  refine lv_aload_n hx hb dX0_times_0 rfl (lv_at hl 0 rfl) ?_
  refine lv_iload_n hx hb dX0_times_1 rfl (lv_at hl 1 rfl) ?_
  by_cases c_2a : mMk v m9
  · refine mw_cVv (rest := []) (q := (RX0, TX0, 10)) hC (c_X0_checkMarket l D h0 a1 a2 cA cJ v L P m9 (by omega) (by omega) (by omega)) (cwV 1 hts gX0_times_X0_checkMarket rfl rfl rfl (by decide +kernel) ⟨Nat.le_of_ble_eq_true rfl, Nat.le_of_ble_eq_true rfl⟩) hK hP rfl rfl rfl hl.1 rfl (Nat.le_of_ble_eq_true rfl) ⟨Nat.zero_le _, Nat.zero_le _⟩ dX0_times_2 ?_
    refine lv_iload_n hx hb dX0_times_5 rfl (lv_at hl 2 rfl) ?_
    by_cases c_6a : mDay a
    · refine mw_cSv (rest := []) hC (c_X0_checkDay l a (by omega)) (va_cwS 1 hts gX0_times_X0_checkDay rfl rfl rfl (by decide +kernel) ⟨Nat.le_of_ble_eq_true rfl, Nat.le_of_ble_eq_true rfl⟩) rfl hl.1 rfl (Nat.le_of_ble_eq_true rfl) ⟨Nat.zero_le _, Nat.zero_le _⟩ dX0_times_6 ?_
      refine lv_iload_n hx hb dX0_times_9 rfl (lv_at hl 3 rfl) ?_
      by_cases c_10a : mDay b
      · refine mw_cSv (rest := []) hC (c_X0_checkDay l b (by omega)) (va_cwS 1 hts gX0_times_X0_checkDay rfl rfl rfl (by decide +kernel) ⟨Nat.le_of_ble_eq_true rfl, Nat.le_of_ble_eq_true rfl⟩) rfl hl.1 rfl (Nat.le_of_ble_eq_true rfl) ⟨Nat.zero_le _, Nat.zero_le _⟩ dX0_times_10 ?_
        refine lv_iload_n hx hb dX0_times_13 rfl (lv_at hl 3 rfl) ?_
        refine lv_iload_n hx hb dX0_times_14 rfl (lv_at hl 2 rfl) ?_
        refine mw_icmp_lt (tgt := 22) hx hb (by omega) (by omega) dX0_times_15 (by decide) (fun c_15 => ?_) (fun c_15 => ?_)
        · refine mw_iconst hx hb dX0_times_22 ?_
          exact mw_tSX (rest := []) hC (t_X0_checkArgument_t l hfl) hE (va_cwS 1 hts gX0_times_X0_checkArgument rfl rfl rfl (by decide +kernel) ⟨Nat.le_of_ble_eq_true rfl, Nat.le_of_ble_eq_true rfl⟩) rfl hl.1 rfl (Nat.le_of_ble_eq_true rfl) (mC_hm (mEx2_2 (by omega) (by omega))) (mC_hm (mEx2_2 (by omega) (by omega))) hout hlocks dX0_times_23 (fun t ht => ⟨⟨1, (mEx2_2 (by omega) (by omega)), rfl⟩, ht⟩)
        · refine mw_iconst hx hb dX0_times_18 ?_
          refine lv_goto (tgt := 23) hx hb dX0_times_19 (by decide) ?_
          refine mw_cSv (rest := []) hC (c_X0_checkArgument l) (va_cwS 1 hts gX0_times_X0_checkArgument rfl rfl rfl (by decide +kernel) ⟨Nat.le_of_ble_eq_true rfl, Nat.le_of_ble_eq_true rfl⟩) rfl hl.1 rfl (Nat.le_of_ble_eq_true rfl) ⟨Nat.zero_le _, Nat.zero_le _⟩ dX0_times_23 ?_
          refine lv_aload_n hx hb dX0_times_26 rfl (lv_at hl 0 rfl) ?_
          refine lv_iload_n hx hb dX0_times_27 rfl (lv_at hl 1 rfl) ?_
          refine lv_iload_n hx hb dX0_times_28 rfl (lv_at hl 2 rfl) ?_
          refine lv_iload_n hx hb dX0_times_29 rfl (lv_at hl 3 rfl) ?_
          refine mw_cVi (rest := []) (q := (RX0, TX0, 10)) hC (c_X0_countHeld l D h0 a1 a2 cA cJ v L P m9 a b (id hok) (by omega) (by omega) (by omega)) (cwV 3 hts gX0_times_X0_countHeld rfl rfl rfl (by decide +kernel) ⟨Nat.le_of_ble_eq_true rfl, Nat.le_of_ble_eq_true rfl⟩) hK hP rfl rfl rfl hl.1 rfl (Nat.le_of_ble_eq_true rfl) ⟨Nat.zero_le _, Nat.zero_le _⟩ dX0_times_30 ?_
          exact mw_xretI hx hb hr hlocks dX0_times_33 (mEx2_0 (by omega) (by omega)) hP va_S.rf rfl
      · exact mw_tSX (rest := []) hC (t_X0_checkDay_t l hfl b (by omega) (by omega)) hE (va_cwS 1 hts gX0_times_X0_checkDay rfl rfl rfl (by decide +kernel) ⟨Nat.le_of_ble_eq_true rfl, Nat.le_of_ble_eq_true rfl⟩) rfl hl.1 rfl (Nat.le_of_ble_eq_true rfl) (mC_hm (mEx2_2 (by omega) (by omega))) (mC_hm (mEx2_2 (by omega) (by omega))) hout hlocks dX0_times_10 (fun t ht => ⟨⟨1, (mEx2_2 (by omega) (by omega)), rfl⟩, ht⟩)
    · exact mw_tSX (rest := []) hC (t_X0_checkDay_t l hfl a (by omega) (by omega)) hE (va_cwS 1 hts gX0_times_X0_checkDay rfl rfl rfl (by decide +kernel) ⟨Nat.le_of_ble_eq_true rfl, Nat.le_of_ble_eq_true rfl⟩) rfl hl.1 rfl (Nat.le_of_ble_eq_true rfl) (mC_hm (mEx2_2 (by omega) (by omega))) (mC_hm (mEx2_2 (by omega) (by omega))) hout hlocks dX0_times_6 (fun t ht => ⟨⟨1, (mEx2_2 (by omega) (by omega)), rfl⟩, ht⟩)
  · exact mw_tVX (rest := []) (q := (RX0, TX0, 10)) hC (t_X0_checkMarket_t l hfl D h0 a1 a2 cA cJ v L P m9 (by omega) (by omega) (by omega)) hE (cwV 1 hts gX0_times_X0_checkMarket rfl rfl rfl (by decide +kernel) ⟨Nat.le_of_ble_eq_true rfl, Nat.le_of_ble_eq_true rfl⟩) hK hP rfl rfl rfl hl.1 rfl (Nat.le_of_ble_eq_true rfl) (mC_hm (mEx2_1 (by omega))) (mC_hm (mEx2_1 (by omega))) hout hlocks dX0_times_2 (fun t ht => ⟨⟨0, (mEx2_1 (by omega)), rfl⟩, ht⟩)

set_option maxHeartbeats 400000 in
set_option maxRecDepth 100000 in
theorem x_X0_heldOn (l : Launch) (hfl : l.flags = flags0) (D : va_G) (h0 a1 a2 : Nat) (cA cJ : ClassId) (v : Nat → Int) (L P : Int → Int) (d : Int) (hd9 : mRI d) (hok : mOK v L P)  : mX l yX0_heldOn wsX0_heldOn ({ frames := 8, cells := mC (mEx1 (mDay d)), slots := 6 * mC (mEx1 (mDay d)), locals := 130 }) [.ref h0, .int (mI (d))] D (mXW h0 a1 a2 cA v L P) (mTy cA cJ) ["java/lang/IllegalArgumentException"] (mEx1 (mDay d)) (some (.int (mI (mSet L P d (v 0).toNat)))) (mXW h0 a1 a2 cA v L P) (fun _ => False) := by
  refine mw_openXX (cc := cX0_heldOn) (maxL := 2) (ret := (some .int)) (by decide) rfl (Nat.le_of_ble_eq_true rfl) ?_
  intro p e s m below meth c ls hC hr hlocks hout hB hE hl
  obtain ⟨hx, hb, hml, hown, hts⟩ := id hC
  obtain ⟨hP, hK⟩ := hB
  have hl : lv_has ls 2 [(0, .ref h0), (1, .int (mI (d)))] := hl
  refine lv_iload_n hx hb dX0_heldOn_0 rfl (lv_at hl 1 rfl) ?_
  by_cases c_1a : mDay d
  · refine mw_cSv (rest := []) hC (c_X0_checkDay l d (by omega)) (va_cwS 1 hts gX0_heldOn_X0_checkDay rfl rfl rfl (by decide +kernel) ⟨Nat.le_of_ble_eq_true rfl, Nat.le_of_ble_eq_true rfl⟩) rfl hl.1 rfl (Nat.le_of_ble_eq_true rfl) ⟨Nat.zero_le _, Nat.zero_le _⟩ dX0_heldOn_1 ?_
    refine lv_aload_n hx hb dX0_heldOn_4 rfl (lv_at hl 0 rfl) ?_
    refine lv_iload_n hx hb dX0_heldOn_5 rfl (lv_at hl 1 rfl) ?_
    refine mw_cVi (rest := []) (q := (RX0, TX0, 10)) hC (c_X0_setOn l D h0 a1 a2 cA cJ v L P d (id hok) (by omega)) (cwV 1 hts gX0_heldOn_X0_setOn rfl rfl rfl (by decide +kernel) ⟨Nat.le_of_ble_eq_true rfl, Nat.le_of_ble_eq_true rfl⟩) hK hP rfl rfl rfl hl.1 rfl (Nat.le_of_ble_eq_true rfl) ⟨Nat.zero_le _, Nat.zero_le _⟩ dX0_heldOn_6 ?_
    exact mw_xretI hx hb hr hlocks dX0_heldOn_9 (mEx1_0 (by omega)) hP va_S.rf rfl
  · exact mw_tSX (rest := []) hC (t_X0_checkDay_t l hfl d (by omega) (by omega)) hE (va_cwS 1 hts gX0_heldOn_X0_checkDay rfl rfl rfl (by decide +kernel) ⟨Nat.le_of_ble_eq_true rfl, Nat.le_of_ble_eq_true rfl⟩) rfl hl.1 rfl (Nat.le_of_ble_eq_true rfl) (mC_hm (mEx1_1 (by omega))) (mC_hm (mEx1_1 (by omega))) hout hlocks dX0_heldOn_1 (fun t ht => ⟨⟨0, (mEx1_1 (by omega)), rfl⟩, ht⟩)
