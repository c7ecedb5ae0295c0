set_option maxHeartbeats 400000 in
set_option maxRecDepth 100000 in
theorem x_X0_shift (l : Launch) (hfl : l.flags = flags0) (D : va_G) (h0 a1 a2 : Nat) (cA cJ : ClassId) (v : Nat → Int) (L P : Int → Int) (m9 b : Int) (hm9 : mRI m9) (hb9 : mRI b) (hok : mOK v L P) (hdis : mDis h0 a1 a2) : mX l yX0_shift wsX0_shift ({ frames := 7, cells := mC (mEx2 (mMk v m9) (-60 ≤ b ∧ b ≤ 60)), slots := 6 * mC (mEx2 (mMk v m9) (-60 ≤ b ∧ b ≤ 60)), locals := 111 }) [.ref h0, .int (mI (m9)), .int (mI (b))] D (mXW h0 a1 a2 cA v L P) (mTy cA cJ) ["java/lang/IndexOutOfBoundsException", "java/lang/IllegalArgumentException"] (mEx2 (mMk v m9) (-60 ≤ b ∧ b ≤ 60)) (some (.int (mI ((P m9 + b) % L m9)))) (mXW h0 a1 a2 cA v L (mU P m9 ((P m9 + b) % L m9))) (mA3 h0 a1 a2) := by
  refine mw_openXX (cc := cX0_shift) (maxL := 4) (ret := (some .int)) (by decide) rfl (Nat.le_of_ble_eq_true rfl) ?_
  intro p e s m below meth c ls hC hr hlocks hout hB hE hl
  obtain ⟨hx, hb, hml, hown, hts⟩ := id hC
  obtain ⟨hP, hK⟩ := hB
  have hin : ∀ w ∈ wsX00, w ∈ wsX0_shift := by decide +kernel
  have hl : lv_has ls 4 [(0, .ref h0), (1, .int (mI (m9))), (2, .int (mI (b)))] := hl
  have hS : va_S (mA3 h0 a1 a2) s.heap s.heap [] := va_S.rf
  have hDD : ∀ (v : Nat → Int) (L P : Int → Int), va_D (mA3 h0 a1 a2) (mXW h0 a1 a2 cA v L P) := fun v L P => mD3 hdis (mA3_in h0 a1 a2)
  have hD := hDD v L P
  have hok9 := hok
  obtain ⟨⟨o1, o2⟩, oL, ⟨o3, o4, o5, o6, o7, o8⟩, ⟨o9, o10, o11, o12, o13, o14, o15, o16⟩⟩ := hok9
  refine lv_aload_n hx hb dX0_shift_0 rfl (lv_at hl 0 rfl) ?_
  refine lv_iload_n hx hb dX0_shift_1 rfl (lv_at hl 1 rfl) ?_
  by_cases c_2a : mMk v m9
  · refine mw_cVv (rest := []) (q := (RX0, TX0, 10)) hC (c_X0_checkMarket l D h0 a1 a2 cA cJ v L P m9 (by omega) (by omega) (by omega)) (cwV 1 hts gX0_shift_X0_checkMarket rfl rfl rfl (by decide +kernel) ⟨Nat.le_of_ble_eq_true rfl, Nat.le_of_ble_eq_true rfl⟩) hK hP rfl rfl rfl hl.1 rfl (Nat.le_of_ble_eq_true rfl) ⟨Nat.zero_le _, Nat.zero_le _⟩ dX0_shift_2 ?_
    refine lv_iload_n hx hb dX0_shift_5 rfl (lv_at hl 2 rfl) ?_
    refine mw_bipush hx hb (by decide +kernel) dX0_shift_6 ?_
    refine mw_bipush hx hb (by decide +kernel) dX0_shift_8 ?_
    refine mw_cSi (rest := []) hC (c_X0_isWithin l b (-60) 60 (by omega) (by omega) (by omega)) (va_cwS 3 hts gX0_shift_X0_isWithin rfl rfl rfl (by decide +kernel) ⟨Nat.le_of_ble_eq_true rfl, Nat.le_of_ble_eq_true rfl⟩) rfl hl.1 rfl (Nat.le_of_ble_eq_true rfl) ⟨Nat.zero_le _, Nat.zero_le _⟩ dX0_shift_10 ?_
    refine mw_split (fun c_13 => ?_) (fun c_13 => ?_)
    · refine mw_cSv (rest := []) hC (c_X0_checkArgument l) (va_cwS 1 hts gX0_shift_X0_checkArgument rfl rfl rfl (by decide +kernel) ⟨Nat.le_of_ble_eq_true rfl, Nat.le_of_ble_eq_true rfl⟩) rfl hl.1 rfl (Nat.le_of_ble_eq_true rfl) ⟨Nat.zero_le _, Nat.zero_le _⟩ dX0_shift_13 ?_
      obtain ⟨l1, l2, l3, l4⟩ := oL m9 (by omega) (by omega)
      refine lv_aload_n hx hb dX0_shift_16 rfl (lv_at hl 0 rfl) ?_
      refine lv_iload_n hx hb dX0_shift_17 rfl (lv_at hl 1 rfl) ?_
      refine mw_cVi (rest := []) (q := (RX0, TX0, 10)) hC (c_X0_placeOf l D h0 a1 a2 cA cJ v L P m9 (by omega)) (cwV 1 hts gX0_shift_X0_placeOf rfl rfl rfl (by decide +kernel) ⟨Nat.le_of_ble_eq_true rfl, Nat.le_of_ble_eq_true rfl⟩) hK hP rfl rfl rfl hl.1 rfl (Nat.le_of_ble_eq_true rfl) ⟨Nat.zero_le _, Nat.zero_le _⟩ dX0_shift_18 ?_
      refine lv_iload_n hx hb dX0_shift_21 rfl (lv_at hl 2 rfl) ?_
      refine mw_iadd hx hb dX0_shift_22 ?_
      refine mw_i2l hx hb (by omega) dX0_shift_23 ?_
      refine lv_aload_n hx hb dX0_shift_24 rfl (lv_at hl 0 rfl) ?_
      refine lv_iload_n hx hb dX0_shift_25 rfl (lv_at hl 1 rfl) ?_
      refine mw_cVi (rest := [.long (mL ((P m9) + b))]) (q := (RX0, TX0, 10)) hC (c_X0_lengthOf l D h0 a1 a2 cA cJ v L P m9 (by omega)) (cwV 1 hts gX0_shift_X0_lengthOf rfl rfl rfl (by decide +kernel) ⟨Nat.le_of_ble_eq_true rfl, Nat.le_of_ble_eq_true rfl⟩) hK hP rfl rfl rfl hl.1 rfl (Nat.le_of_ble_eq_true rfl) ⟨Nat.zero_le _, Nat.zero_le _⟩ dX0_shift_26 ?_
      refine mw_i2l hx hb (by omega) dX0_shift_29 ?_
      refine mw_cSl (rest := []) hC (c_X0_modulo l ((P m9) + b) (L m9) (by omega) (by omega) (by omega)) (va_cwS 2 hts gX0_shift_X0_modulo rfl rfl rfl (by decide +kernel) ⟨Nat.le_of_ble_eq_true rfl, Nat.le_of_ble_eq_true rfl⟩) rfl hl.1 rfl (Nat.le_of_ble_eq_true rfl) ⟨Nat.zero_le _, Nat.zero_le _⟩ dX0_shift_30 ?_
      refine mw_l2i hx hb dX0_shift_33 ?_
      refine lv_istore_n (lv' := [(3, .int (mI (((P m9) + b) % (L m9)))), (0, .ref h0), (1, .int (mI (m9))), (2, .int (mI (b)))]) hx hb dX0_shift_34 rfl hl (by decide) rfl (fun ls hl => ?_)
      refine lv_aload_n hx hb dX0_shift_35 rfl (lv_at hl 1 rfl) ?_
      refine lv_iload_n hx hb dX0_shift_36 rfl (lv_at hl 2 rfl) ?_
      refine mw_cVi (rest := []) (q := (RX0, TX0, 10)) hC (c_X0_isPlace l D h0 a1 a2 cA cJ v L P m9 (by omega)) (cwV 1 hts gX0_shift_X0_isPlace rfl rfl rfl (by decide +kernel) ⟨Nat.le_of_ble_eq_true rfl, Nat.le_of_ble_eq_true rfl⟩) hK hP rfl rfl rfl hl.1 rfl (Nat.le_of_ble_eq_true rfl) ⟨Nat.zero_le _, Nat.zero_le _⟩ dX0_shift_37 ?_
      refine mw_zeq (tgt := 50) hx hb dX0_shift_40 (by decide) (fun c_40 => False.elim (by omega)) (fun c_40 => ?_)
      refine lv_aload_n hx hb dX0_shift_43 rfl (lv_at hl 1 rfl) ?_
      refine mw_getX hx hb hts hin hown hK hP rfl 1 (by decide) (by decide +kernel) rfl rfl dX0_shift_44 ?_
      refine lv_iload_n hx hb dX0_shift_47 rfl (lv_at hl 2 rfl) ?_
      refine lv_iload_n hx hb dX0_shift_48 rfl (lv_at hl 0 rfl) ?_
      refine mw_iast hx hb hK hP hD hS 2 rfl rfl (by omega) dX0_shift_49 (fun H locs hP hS => ?_)
      have hP : va_P D vwCl (mXW h0 a1 a2 cA v L (mU P m9 (((P m9) + b) % (L m9)))) H := hP
      have hD := hDD v L (mU P m9 (((P m9) + b) % (L m9)))
      refine lv_iload_n hx hb dX0_shift_50 rfl (lv_at hl 0 rfl) ?_
      exact mw_xretI hx hb hr hlocks dX0_shift_51 (mEx2_0 (by omega) (by omega)) hP hS rfl
    · exact mw_tSX (rest := []) hC (t_X0_checkArgument_t l hfl) hE (va_cwS 1 hts gX0_shift_X0_checkArgument rfl rfl rfl (by decide +kernel) ⟨Nat.le_of_ble_eq_true rfl, Nat.le_of_ble_eq_true rfl⟩) rfl hl.1 rfl (Nat.le_of_ble_eq_true rfl) (mC_hm (mEx2_2 (by omega) (by omega))) (mC_hm (mEx2_2 (by omega) (by omega))) hout hlocks dX0_shift_13 (fun t ht => ⟨⟨1, (mEx2_2 (by omega) (by omega)), rfl⟩, ht⟩)
  · exact mw_tVX (rest := []) (q := (RX0, TX0, 10)) hC (t_X0_checkMarket_t l hfl D h0 a1 a2 cA cJ v L P m9 (by omega) (by omega) (by omega)) hE (cwV 1 hts gX0_shift_X0_checkMarket rfl rfl rfl (by decide +kernel) ⟨Nat.le_of_ble_eq_true rfl, Nat.le_of_ble_eq_true rfl⟩) hK hP rfl rfl rfl hl.1 rfl (Nat.le_of_ble_eq_true rfl) (mC_hm (mEx2_1 (by omega))) (mC_hm (mEx2_1 (by omega))) hout hlocks dX0_shift_2 (fun t ht => ⟨⟨0, (mEx2_1 (by omega)), rfl⟩, ht⟩)

set_option maxHeartbeats 400000 in
set_option maxRecDepth 100000 in
theorem x_X0_setMoon (l : Launch) (hfl : l.flags = flags0) (D : va_G) (h0 a1 a2 : Nat) (cA cJ : ClassId) (v : Nat → Int) (L P : Int → Int) (n d s9 : Int) (hn : mRI n) (hd9 : mRI d) (hs9 : mRI s9) (hok : mOK v L P) (hdis : mDis h0 a1 a2) : mX l yX0_setMoon wsX0_setMoon ({ frames := 7, cells := mC (mEx1 ((1 ≤ d ∧ d ≤ 100) ∧ (2 * d ≤ n ∧ n ≤ 100 * d) ∧ -1000 ≤ s9 ∧ s9 ≤ 1000)), slots := 6 * mC (mEx1 ((1 ≤ d ∧ d ≤ 100) ∧ (2 * d ≤ n ∧ n ≤ 100 * d) ∧ -1000 ≤ s9 ∧ s9 ≤ 1000)), locals := 110 }) [.ref h0, .int (mI (n)), .int (mI (d)), .int (mI (s9))] D (mXW h0 a1 a2 cA v L P) (mTy cA cJ) ["java/lang/IllegalArgumentException"] (mEx1 ((1 ≤ d ∧ d ≤ 100) ∧ (2 * d ≤ n ∧ n ≤ 100 * d) ∧ -1000 ≤ s9 ∧ s9 ≤ 1000)) (none) (mXW h0 a1 a2 cA (mPut (mPut (mPut v 1 n) 2 d) 3 s9) L P) (mA3 h0 a1 a2) := by
  refine mw_openXX (cc := cX0_setMoon) (maxL := 4) (ret := none) (by decide) rfl (Nat.le_of_ble_eq_true rfl) ?_
  intro p e s m below meth c ls hC hr hlocks hout hB hE hl
  obtain ⟨hx, hb, hml, hown, hts⟩ := id hC
  obtain ⟨hP, hK⟩ := hB
  have hin : ∀ w ∈ wsX00, w ∈ wsX0_setMoon := by decide +kernel
  have hl : lv_has ls 4 [(0, .ref h0), (1, .int (mI (n))), (2, .int (mI (d))), (3, .int (mI (s9)))] := hl
  have hS : va_S (mA3 h0 a1 a2) s.heap s.heap [] := va_S.rf
  have hDD : ∀ (v : Nat → Int) (L P : Int → Int), va_D (mA3 h0 a1 a2) (mXW h0 a1 a2 cA v L P) := fun v L P => mD3 hdis (mA3_in h0 a1 a2)
  have hD := hDD v L P
  refine lv_iload_n hx hb dX0_setMoon_0 rfl (lv_at hl 2 rfl) ?_
  refine mw_iconst hx hb dX0_setMoon_1 ?_
  refine mw_bipush hx hb (by decide +kernel) dX0_setMoon_2 ?_
  refine mw_cSi (rest := []) hC (c_X0_isWithin l d 1 100 (by omega) (by omega) (by omega)) (va_cwS 3 hts gX0_setMoon_X0_isWithin rfl rfl rfl (by decide +kernel) ⟨Nat.le_of_ble_eq_true rfl, Nat.le_of_ble_eq_true rfl⟩) rfl hl.1 rfl (Nat.le_of_ble_eq_true rfl) ⟨Nat.zero_le _, Nat.zero_le _⟩ dX0_setMoon_4 ?_
  refine mw_zeq (tgt := 28) hx hb dX0_setMoon_7 (by decide) (fun c_7 => ?_) (fun c_7 => ?_)
  · refine mw_iconst hx hb dX0_setMoon_28 ?_
    exact mw_tSX (rest := []) hC (t_X0_checkArgument_t l hfl) hE (va_cwS 1 hts gX0_setMoon_X0_checkArgument rfl rfl rfl (by decide +kernel) ⟨Nat.le_of_ble_eq_true rfl, Nat.le_of_ble_eq_true rfl⟩) rfl hl.1 rfl (Nat.le_of_ble_eq_true rfl) (mC_hm (mEx1_1 (by omega))) (mC_hm (mEx1_1 (by omega))) hout hlocks dX0_setMoon_29 (fun t ht => ⟨⟨0, (mEx1_1 (by omega)), rfl⟩, ht⟩)
  · refine lv_iload_n hx hb dX0_setMoon_10 rfl (lv_at hl 1 rfl) ?_
    refine mw_iconst hx hb dX0_setMoon_11 ?_
    refine lv_iload_n hx hb dX0_setMoon_12 rfl (lv_at hl 2 rfl) ?_
    refine mw_imul hx hb dX0_setMoon_13 ?_
    refine mw_bipush hx hb (by decide +kernel) dX0_setMoon_14 ?_
    refine lv_iload_n hx hb dX0_setMoon_16 rfl (lv_at hl 2 rfl) ?_
    refine mw_imul hx hb dX0_setMoon_17 ?_
    refine mw_cSi (rest := []) hC (c_X0_isWithin l n (2 * d) (100 * d) (by omega) (by omega) (by omega)) (va_cwS 3 hts gX0_setMoon_X0_isWithin rfl rfl rfl (by decide +kernel) ⟨Nat.le_of_ble_eq_true rfl, Nat.le_of_ble_eq_true rfl⟩) rfl hl.1 rfl (Nat.le_of_ble_eq_true rfl) ⟨Nat.zero_le _, Nat.zero_le _⟩ dX0_setMoon_18 ?_
    refine mw_zeq (tgt := 28) hx hb dX0_setMoon_21 (by decide) (fun c_21 => ?_) (fun c_21 => ?_)
    · refine mw_iconst hx hb dX0_setMoon_28 ?_
      exact mw_tSX (rest := []) hC (t_X0_checkArgument_t l hfl) hE (va_cwS 1 hts gX0_setMoon_X0_checkArgument rfl rfl rfl (by decide +kernel) ⟨Nat.le_of_ble_eq_true rfl, Nat.le_of_ble_eq_true rfl⟩) rfl hl.1 rfl (Nat.le_of_ble_eq_true rfl) (mC_hm (mEx1_1 (by omega))) (mC_hm (mEx1_1 (by omega))) hout hlocks dX0_setMoon_29 (fun t ht => ⟨⟨0, (mEx1_1 (by omega)), rfl⟩, ht⟩)
    · refine mw_iconst hx hb dX0_setMoon_24 ?_
      refine lv_goto (tgt := 29) hx hb dX0_setMoon_25 (by decide) ?_
      refine mw_cSv (rest := []) hC (c_X0_checkArgument l) (va_cwS 1 hts gX0_setMoon_X0_checkArgument rfl rfl rfl (by decide +kernel) ⟨Nat.le_of_ble_eq_true rfl, Nat.le_of_ble_eq_true rfl⟩) rfl hl.1 rfl (Nat.le_of_ble_eq_true rfl) ⟨Nat.zero_le _, Nat.zero_le _⟩ dX0_setMoon_29 ?_
      refine lv_iload_n hx hb dX0_setMoon_32 rfl (lv_at hl 3 rfl) ?_
      refine mw_sipush hx hb (by decide +kernel) dX0_setMoon_33 ?_
      refine mw_sipush hx hb (by decide +kernel) dX0_setMoon_36 ?_
      refine mw_cSi (rest := []) hC (c_X0_isWithin l s9 (-1000) 1000 (by omega) (by omega) (by omega)) (va_cwS 3 hts gX0_setMoon_X0_isWithin rfl rfl rfl (by decide +kernel) ⟨Nat.le_of_ble_eq_true rfl, Nat.le_of_ble_eq_true rfl⟩) rfl hl.1 rfl (Nat.le_of_ble_eq_true rfl) ⟨Nat.zero_le _, Nat.zero_le _⟩ dX0_setMoon_39 ?_
      refine mw_split (fun c_42 => ?_) (fun c_42 => ?_)
      · refine mw_cSv (rest := []) hC (c_X0_checkArgument l) (va_cwS 1 hts gX0_setMoon_X0_checkArgument rfl rfl rfl (by decide +kernel) ⟨Nat.le_of_ble_eq_true rfl, Nat.le_of_ble_eq_true rfl⟩) rfl hl.1 rfl (Nat.le_of_ble_eq_true rfl) ⟨Nat.zero_le _, Nat.zero_le _⟩ dX0_setMoon_42 ?_
        refine lv_aload_n hx hb dX0_setMoon_45 rfl (lv_at hl 0 rfl) ?_
        refine lv_iload_n hx hb dX0_setMoon_46 rfl (lv_at hl 1 rfl) ?_
        refine mw_putX hx hb hts hin hown hK hP hD hS rfl 3 (by decide) (Nat.le_of_ble_eq_true rfl) (by decide +kernel) rfl rfl (by decide +kernel) dX0_setMoon_47 (fun H locs hP hS => ?_)
        have hP : va_P D vwCl (mXW h0 a1 a2 cA (mPut v 1 n) L P) H := hP
        have hD := hDD (mPut v 1 n) L P
        refine lv_aload_n hx hb dX0_setMoon_50 rfl (lv_at hl 0 rfl) ?_
        refine lv_iload_n hx hb dX0_setMoon_51 rfl (lv_at hl 2 rfl) ?_
        refine mw_putX hx hb hts hin hown hK hP hD hS rfl 4 (by decide) (Nat.le_of_ble_eq_true rfl) (by decide +kernel) rfl rfl (by decide +kernel) dX0_setMoon_52 (fun H locs hP hS => ?_)
        have hP : va_P D vwCl (mXW h0 a1 a2 cA (mPut (mPut v 1 n) 2 d) L P) H := hP
        have hD := hDD (mPut (mPut v 1 n) 2 d) L P
        refine lv_aload_n hx hb dX0_setMoon_55 rfl (lv_at hl 0 rfl) ?_
        refine lv_iload_n hx hb dX0_setMoon_56 rfl (lv_at hl 3 rfl) ?_
        refine mw_putX hx hb hts hin hown hK hP hD hS rfl 5 (by decide) (Nat.le_of_ble_eq_true rfl) (by decide +kernel) rfl rfl (by decide +kernel) dX0_setMoon_57 (fun H locs hP hS => ?_)
        have hP : va_P D vwCl (mXW h0 a1 a2 cA (mPut (mPut (mPut v 1 n) 2 d) 3 s9) L P) H := hP
        have hD := hDD (mPut (mPut (mPut v 1 n) 2 d) 3 s9) L P
        exact mw_xretV hx hb hr hlocks dX0_setMoon_60 (mEx1_0 (by omega)) hP hS
      · exact mw_tSX (rest := []) hC (t_X0_checkArgument_t l hfl) hE (va_cwS 1 hts gX0_setMoon_X0_checkArgument rfl rfl rfl (by decide +kernel) ⟨Nat.le_of_ble_eq_true rfl, Nat.le_of_ble_eq_true rfl⟩) rfl hl.1 rfl (Nat.le_of_ble_eq_true rfl) (mC_hm (mEx1_1 (by omega))) (mC_hm (mEx1_1 (by omega))) hout hlocks dX0_setMoon_42 (fun t ht => ⟨⟨0, (mEx1_1 (by omega)), rfl⟩, ht⟩)

set_option maxHeartbeats 400000 in
set_option maxRecDepth 100000 in
theorem x_X0_setYear (l : Launch) (hfl : l.flags = flags0) (D : va_G) (h0 a1 a2 : Nat) (cA cJ : ClassId) (v : Nat → Int) (L P : Int → Int) (y a b c9 : Int) (hy : mRI y) (ha : mRI a) (hb9 : mRI b) (hc9 : mRI c9) (hok : mOK v L P) (hdis : mDis h0 a1 a2) : mX l yX0_setYear wsX0_setYear ({ frames := 7, cells := mC (mEx1 ((100 ≤ y ∧ y ≤ 500) ∧ (1 ≤ c9 ∧ c9 ≤ 400) ∧ (0 ≤ a ∧ a ≤ c9) ∧ 0 ≤ b ∧ b ≤ c9 - 1)), slots := 6 * mC (mEx1 ((100 ≤ y ∧ y ≤ 500) ∧ (1 ≤ c9 ∧ c9 ≤ 400) ∧ (0 ≤ a ∧ a ≤ c9) ∧ 0 ≤ b ∧ b ≤ c9 - 1)), locals := 110 }) [.ref h0, .int (mI (y)), .int (mI (a)), .int (mI (b)), .int (mI (c9))] D (mXW h0 a1 a2 cA v L P) (mTy cA cJ) ["java/lang/IllegalArgumentException"] (mEx1 ((100 ≤ y ∧ y ≤ 500) ∧ (1 ≤ c9 ∧ c9 ≤ 400) ∧ (0 ≤ a ∧ a ≤ c9) ∧ 0 ≤ b ∧ b ≤ c9 - 1)) (none) (mXW h0 a1 a2 cA (mPut (mPut (mPut (mPut v 4 y) 5 a) 6 b) 7 c9) L P) (mA3 h0 a1 a2) := by
  refine mw_openXX (cc := cX0_setYear) (maxL := 5) (ret := none) (by decide) rfl (Nat.le_of_ble_eq_true rfl) ?_
  intro p e s m below meth c ls hC hr hlocks hout hB hE hl
  obtain ⟨hx, hb, hml, hown, hts⟩ := id hC
  obtain ⟨hP, hK⟩ := hB
  have hin : ∀ w ∈ wsX00, w ∈ wsX0_setYear := by decide +kernel
  have hl : lv_has ls 5 [(0, .ref h0), (1, .int (mI (y))), (2, .int (mI (a))), (3, .int (mI (b))), (4, .int (mI (c9)))] := hl
  have hS : va_S (mA3 h0 a1 a2) s.heap s.heap [] := va_S.rf
  have hDD : ∀ (v : Nat → Int) (L P : Int → Int), va_D (mA3 h0 a1 a2) (mXW h0 a1 a2 cA v L P) := fun v L P => mD3 hdis (mA3_in h0 a1 a2)
  have hD := hDD v L P
  refine lv_iload_n hx hb dX0_setYear_0 rfl (lv_at hl 1 rfl) ?_
  refine mw_bipush hx hb (by decide +kernel) dX0_setYear_1 ?_
  refine mw_sipush hx hb (by decide +kernel) dX0_setYear_3 ?_
  refine mw_cSi (rest := []) hC (c_X0_isWithin l y 100 500 (by omega) (by omega) (by omega)) (va_cwS 3 hts gX0_setYear_X0_isWithin rfl rfl rfl (by decide +kernel) ⟨Nat.le_of_ble_eq_true rfl, Nat.le_of_ble_eq_true rfl⟩) rfl hl.1 rfl (Nat.le_of_ble_eq_true rfl) ⟨Nat.zero_le _, Nat.zero_le _⟩ dX0_setYear_6 ?_
  refine mw_zeq (tgt := 28) hx hb dX0_setYear_9 (by decide) (fun c_9 => ?_) (fun c_9 => ?_)
  · refine mw_iconst hx hb dX0_setYear_28 ?_
    exact mw_tSX (rest := []) hC (t_X0_checkArgument_t l hfl) hE (va_cwS 1 hts gX0_setYear_X0_checkArgument rfl rfl rfl (by decide +kernel) ⟨Nat.le_of_ble_eq_true rfl, Nat.le_of_ble_eq_true rfl⟩) rfl hl.1 rfl (Nat.le_of_ble_eq_true rfl) (mC_hm (mEx1_1 (by omega))) (mC_hm (mEx1_1 (by omega))) hout hlocks dX0_setYear_29 (fun t ht => ⟨⟨0, (mEx1_1 (by omega)), rfl⟩, ht⟩)
  · refine lv_iload hx hb dX0_setYear_12 (lv_at hl 4 rfl) ?_
    refine mw_iconst hx hb dX0_setYear_14 ?_
    refine mw_sipush hx hb (by decide +kernel) dX0_setYear_15 ?_
    refine mw_cSi (rest := []) hC (c_X0_isWithin l c9 1 400 (by omega) (by omega) (by omega)) (va_cwS 3 hts gX0_setYear_X0_isWithin rfl rfl rfl (by decide +kernel) ⟨Nat.le_of_ble_eq_true rfl, Nat.le_of_ble_eq_true rfl⟩) rfl hl.1 rfl (Nat.le_of_ble_eq_true rfl) ⟨Nat.zero_le _, Nat.zero_le _⟩ dX0_setYear_18 ?_
    refine mw_zeq (tgt := 28) hx hb dX0_setYear_21 (by decide) (fun c_21 => ?_) (fun c_21 => ?_)
    · refine mw_iconst hx hb dX0_setYear_28 ?_
      exact mw_tSX (rest := []) hC (t_X0_checkArgument_t l hfl) hE (va_cwS 1 hts gX0_setYear_X0_checkArgument rfl rfl rfl (by decide +kernel) ⟨Nat.le_of_ble_eq_true rfl, Nat.le_of_ble_eq_true rfl⟩) rfl hl.1 rfl (Nat.le_of_ble_eq_true rfl) (mC_hm (mEx1_1 (by omega))) (mC_hm (mEx1_1 (by omega))) hout hlocks dX0_setYear_29 (fun t ht => ⟨⟨0, (mEx1_1 (by omega)), rfl⟩, ht⟩)
    · refine mw_iconst hx hb dX0_setYear_24 ?_
      refine lv_goto (tgt := 29) hx hb dX0_setYear_25 (by decide) ?_
      refine mw_cSv (rest := []) hC (c_X0_checkArgument l) (va_cwS 1 hts gX0_setYear_X0_checkArgument rfl rfl rfl (by decide +kernel) ⟨Nat.le_of_ble_eq_true rfl, Nat.le_of_ble_eq_true rfl⟩) rfl hl.1 rfl (Nat.le_of_ble_eq_true rfl) ⟨Nat.zero_le _, Nat.zero_le _⟩ dX0_setYear_29 ?_
      refine lv_iload_n hx hb dX0_setYear_32 rfl (lv_at hl 2 rfl) ?_
      refine mw_iconst hx hb dX0_setYear_33 ?_
      refine lv_iload hx hb dX0_setYear_34 (lv_at hl 4 rfl) ?_
      refine mw_cSi (rest := []) hC (c_X0_isWithin l a 0 c9 (by omega) (by omega) (by omega)) (va_cwS 3 hts gX0_setYear_X0_isWithin rfl rfl rfl (by decide +kernel) ⟨Nat.le_of_ble_eq_true rfl, Nat.le_of_ble_eq_true rfl⟩) rfl hl.1 rfl (Nat.le_of_ble_eq_true rfl) ⟨Nat.zero_le _, Nat.zero_le _⟩ dX0_setYear_36 ?_
      refine mw_zeq (tgt := 58) hx hb dX0_setYear_39 (by decide) (fun c_39 => ?_) (fun c_39 => ?_)
      · refine mw_iconst hx hb dX0_setYear_58 ?_
        exact mw_tSX (rest := []) hC (t_X0_checkArgument_t l hfl) hE (va_cwS 1 hts gX0_setYear_X0_checkArgument rfl rfl rfl (by decide +kernel) ⟨Nat.le_of_ble_eq_true rfl, Nat.le_of_ble_eq_true rfl⟩) rfl hl.1 rfl (Nat.le_of_ble_eq_true rfl) (mC_hm (mEx1_1 (by omega))) (mC_hm (mEx1_1 (by omega))) hout hlocks dX0_setYear_59 (fun t ht => ⟨⟨0, (mEx1_1 (by omega)), rfl⟩, ht⟩)
      · refine lv_iload_n hx hb dX0_setYear_42 rfl (lv_at hl 3 rfl) ?_
        refine mw_iconst hx hb dX0_setYear_43 ?_
        refine lv_iload hx hb dX0_setYear_44 (lv_at hl 4 rfl) ?_
        refine mw_iconst hx hb dX0_setYear_46 ?_
        refine mw_isub hx hb dX0_setYear_47 ?_
        refine mw_cSi (rest := []) hC (c_X0_isWithin l b 0 (c9 - 1) (by omega) (by omega) (by omega)) (va_cwS 3 hts gX0_setYear_X0_isWithin rfl rfl rfl (by decide +kernel) ⟨Nat.le_of_ble_eq_true rfl, Nat.le_of_ble_eq_true rfl⟩) rfl hl.1 rfl (Nat.le_of_ble_eq_true rfl) ⟨Nat.zero_le _, Nat.zero_le _⟩ dX0_setYear_48 ?_
        refine mw_zeq (tgt := 58) hx hb dX0_setYear_51 (by decide) (fun c_51 => ?_) (fun c_51 => ?_)
        · refine mw_iconst hx hb dX0_setYear_58 ?_
          exact mw_tSX (rest := []) hC (t_X0_checkArgument_t l hfl) hE (va_cwS 1 hts gX0_setYear_X0_checkArgument rfl rfl rfl (by decide +kernel) ⟨Nat.le_of_ble_eq_true rfl, Nat.le_of_ble_eq_true rfl⟩) rfl hl.1 rfl (Nat.le_of_ble_eq_true rfl) (mC_hm (mEx1_1 (by omega))) (mC_hm (mEx1_1 (by omega))) hout hlocks dX0_setYear_59 (fun t ht => ⟨⟨0, (mEx1_1 (by omega)), rfl⟩, ht⟩)
        · refine mw_iconst hx hb dX0_setYear_54 ?_
          refine lv_goto (tgt := 59) hx hb dX0_setYear_55 (by decide) ?_
          refine mw_cSv (rest := []) hC (c_X0_checkArgument l) (va_cwS 1 hts gX0_setYear_X0_checkArgument rfl rfl rfl (by decide +kernel) ⟨Nat.le_of_ble_eq_true rfl, Nat.le_of_ble_eq_true rfl⟩) rfl hl.1 rfl (Nat.le_of_ble_eq_true rfl) ⟨Nat.zero_le _, Nat.zero_le _⟩ dX0_setYear_59 ?_
          refine lv_aload_n hx hb dX0_setYear_62 rfl (lv_at hl 0 rfl) ?_
          refine lv_iload_n hx hb dX0_setYear_63 rfl (lv_at hl 1 rfl) ?_
          refine mw_putX hx hb hts hin hown hK hP hD hS rfl 6 (by decide) (Nat.le_of_ble_eq_true rfl) (by decide +kernel) rfl rfl (by decide +kernel) dX0_setYear_64 (fun H locs hP hS => ?_)
          have hP : va_P D vwCl (mXW h0 a1 a2 cA (mPut v 4 y) L P) H := hP
          have hD := hDD (mPut v 4 y) L P
          refine lv_aload_n hx hb dX0_setYear_67 rfl (lv_at hl 0 rfl) ?_
          refine lv_iload_n hx hb dX0_setYear_68 rfl (lv_at hl 2 rfl) ?_
          refine mw_putX hx hb hts hin hown hK hP hD hS rfl 7 (by decide) (Nat.le_of_ble_eq_true rfl) (by decide +kernel) rfl rfl (by decide +kernel) dX0_setYear_69 (fun H locs hP hS => ?_)
          have hP : va_P D vwCl (mXW h0 a1 a2 cA (mPut (mPut v 4 y) 5 a) L P) H := hP
          have hD := hDD (mPut (mPut v 4 y) 5 a) L P
          refine lv_aload_n hx hb dX0_setYear_72 rfl (lv_at hl 0 rfl) ?_
          refine lv_iload_n hx hb dX0_setYear_73 rfl (lv_at hl 3 rfl) ?_
          refine mw_putX hx hb hts hin hown hK hP hD hS rfl 8 (by decide) (Nat.le_of_ble_eq_true rfl) (by decide +kernel) rfl rfl (by decide +kernel) dX0_setYear_74 (fun H locs hP hS => ?_)
          have hP : va_P D vwCl (mXW h0 a1 a2 cA (mPut (mPut (mPut v 4 y) 5 a) 6 b) L P) H := hP
          have hD := hDD (mPut (mPut (mPut v 4 y) 5 a) 6 b) L P
          refine lv_aload_n hx hb dX0_setYear_77 rfl (lv_at hl 0 rfl) ?_
          refine lv_iload hx hb dX0_setYear_78 (lv_at hl 4 rfl) ?_
          refine mw_putX hx hb hts hin hown hK hP hD hS rfl 9 (by decide) (Nat.le_of_ble_eq_true rfl) (by decide +kernel) rfl rfl (by decide +kernel) dX0_setYear_80 (fun H locs hP hS => ?_)
          have hP : va_P D vwCl (mXW h0 a1 a2 cA (mPut (mPut (mPut (mPut v 4 y) 5 a) 6 b) 7 c9) L P) H := hP
          have hD := hDD (mPut (mPut (mPut (mPut v 4 y) 5 a) 6 b) 7 c9) L P
          exact mw_xretV hx hb hr hlocks dX0_setYear_83 (mEx1_0 (by omega)) hP hS
