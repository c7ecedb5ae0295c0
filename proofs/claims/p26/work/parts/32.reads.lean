theorem mSet_s (L P : Int → Int) (d : Int) (k : Nat) : mSet L P d (k + 1) = mSet L P d k + (if d % L (k : Int) = P (k : Int) then 2 ^ k else 0) := rfl
set_option maxHeartbeats 4000000 in
set_option maxRecDepth 100000 in
theorem c_X0_isOn (l : Launch) (D : va_G) (h0 a1 a2 : Nat) (cA cJ : ClassId) (v : Nat → Int) (L P : Int → Int) (m9 d : Int) (hok : mOK v L P) (hk : mMk v m9) (hd : mR2 d) : mP l yX0_isOn wsX0_isOn ({ frames := 2, cells := 0, slots := 0, locals := 48 }) [.ref h0, .int (mI (m9)), .long (mL (d))] (mwB D (mXW h0 a1 a2 cA v L P) (mTy cA cJ)) (some (.int (mI (mB (d % L m9 = P m9))))) := by
  refine mw_open (cc := cX0_isOn) (maxL := 4) (ret := (some .boolean)) (by decide +kernel) rfl (Nat.le_of_ble_eq_true rfl) ?_
  intro p e s m below meth c ls hC hr hlocks hB hl
  obtain ⟨hx, hb, hml, hown, hts⟩ := id hC
  obtain ⟨hP, hK⟩ := hB
  have hl : lv_has ls 4 [(0, .ref h0), (1, .int (mI (m9))), (2, .long (mL (d)))] := hl
  obtain ⟨⟨o1, o2⟩, oL, ⟨o3, o4, o5, o6, o7, o8⟩, ⟨o9, o10, o11, o12, o13, o14, o15, o16⟩⟩ := hok
  obtain ⟨l1, l2, l3, l4⟩ := oL m9 (by omega) (by omega)
  have f1 := m_mod_r (a := d) (b := L m9) (by omega)
  refine lv_lload_n hx hb dX0_isOn_0 rfl (lv_at hl 2 rfl) ?_
  refine lv_aload_n hx hb dX0_isOn_1 rfl (lv_at hl 0 rfl) ?_
  refine lv_iload_n hx hb dX0_isOn_2 rfl (lv_at hl 1 rfl) ?_
  refine mw_cVi (rest := [.long (mL (d))]) (q := (RX0, TX0, 10)) hC (c_X0_lengthOf l D h0 a1 a2 cA cJ v L P m9 (by omega)) (cwV 1 hts gX0_isOn_X0_lengthOf rfl rfl rfl (by decide +kernel) ⟨Nat.le_of_ble_eq_true rfl, Nat.le_of_ble_eq_true rfl⟩) hK hP rfl rfl rfl hl.1 rfl (Nat.le_of_ble_eq_true rfl) ⟨Nat.zero_le _, Nat.zero_le _⟩ dX0_isOn_3 ?_
  refine mw_i2l hx hb (by omega) dX0_isOn_6 ?_
  refine mw_cSl (rest := []) hC (c_X0_modulo l d (L m9) (by omega) (by omega) (by omega)) (va_cwS 2 hts gX0_isOn_X0_modulo rfl rfl rfl (by decide +kernel) ⟨Nat.le_of_ble_eq_true rfl, Nat.le_of_ble_eq_true rfl⟩) rfl hl.1 rfl (Nat.le_of_ble_eq_true rfl) ⟨Nat.zero_le _, Nat.zero_le _⟩ dX0_isOn_7 ?_
  refine lv_aload_n hx hb dX0_isOn_10 rfl (lv_at hl 0 rfl) ?_
  refine lv_iload_n hx hb dX0_isOn_11 rfl (lv_at hl 1 rfl) ?_
  refine mw_cVi (rest := [.long (mL (d % (L m9)))]) (q := (RX0, TX0, 10)) hC (c_X0_placeOf l D h0 a1 a2 cA cJ v L P m9 (by omega)) (cwV 1 hts gX0_isOn_X0_placeOf rfl rfl rfl (by decide +kernel) ⟨Nat.le_of_ble_eq_true rfl, Nat.le_of_ble_eq_true rfl⟩) hK hP rfl rfl rfl hl.1 rfl (Nat.le_of_ble_eq_true rfl) ⟨Nat.zero_le _, Nat.zero_le _⟩ dX0_isOn_12 ?_
  refine mw_i2l hx hb (by omega) dX0_isOn_15 ?_
  refine mw_lcmp_ne (tgt := 24) hx hb (by omega) (by omega) dX0_isOn_16 dX0_isOn_17 (by decide) (fun c_17 => ?_) (fun c_17 => ?_)
  · refine mw_iconst hx hb dX0_isOn_24 ?_
    exact mw_retZ hx hb hr hlocks dX0_isOn_25 (by first | rfl | exact (mB_t (by omega)).symm | exact (mB_f (by omega)).symm | exact mB_iff (by omega) | omega)
  · refine mw_iconst hx hb dX0_isOn_20 ?_
    refine lv_goto (tgt := 25) hx hb dX0_isOn_21 (by decide) ?_
    exact mw_retZ hx hb hr hlocks dX0_isOn_25 (by first | rfl | exact (mB_t (by omega)).symm | exact (mB_f (by omega)).symm | exact mB_iff (by omega) | omega)

set_option maxHeartbeats 4000000 in
set_option maxRecDepth 100000 in
theorem c_X0_countHeld (l : Launch) (D : va_G) (h0 a1 a2 : Nat) (cA cJ : ClassId) (v : Nat → Int) (L P : Int → Int) (m9 a b : Int) (hok : mOK v L P) (hk : mMk v m9) (ha : -10000000 ≤ a ∧ a ≤ 10000000) (hb9 : -10000000 ≤ b ∧ b ≤ 10000000) : mP l yX0_countHeld wsX0_countHeld ({ frames := 2, cells := 0, slots := 0, locals := 48 }) [.ref h0, .int (mI (m9)), .int (mI (a)), .int (mI (b))] (mwB D (mXW h0 a1 a2 cA v L P) (mTy cA cJ)) (some (.int (mI (mCnt L P m9 a b)))) := by
  refine mw_open (cc := cX0_countHeld) (maxL := 6) (ret := (some .int)) (by decide +kernel) rfl (Nat.le_of_ble_eq_true rfl) ?_
  intro p e s m below meth c ls hC hr hlocks hB hl
  obtain ⟨hx, hb, hml, hown, hts⟩ := id hC
  obtain ⟨hP, hK⟩ := hB
  have hl : lv_has ls 6 [(0, .ref h0), (1, .int (mI (m9))), (2, .int (mI (a))), (3, .int (mI (b)))] := hl
  obtain ⟨⟨o1, o2⟩, oL, ⟨o3, o4, o5, o6, o7, o8⟩, ⟨o9, o10, o11, o12, o13, o14, o15, o16⟩⟩ := hok
  obtain ⟨l1, l2, l3, l4⟩ := oL m9 (by omega) (by omega)
  refine lv_aload_n hx hb dX0_countHeld_0 rfl (lv_at hl 0 rfl) ?_
  refine lv_iload_n hx hb dX0_countHeld_1 rfl (lv_at hl 1 rfl) ?_
  refine mw_cVi (rest := []) (q := (RX0, TX0, 10)) hC (c_X0_lengthOf l D h0 a1 a2 cA cJ v L P m9 (by omega)) (cwV 1 hts gX0_countHeld_X0_lengthOf rfl rfl rfl (by decide +kernel) ⟨Nat.le_of_ble_eq_true rfl, Nat.le_of_ble_eq_true rfl⟩) hK hP rfl rfl rfl hl.1 rfl (Nat.le_of_ble_eq_true rfl) ⟨Nat.zero_le _, Nat.zero_le _⟩ dX0_countHeld_2 ?_
  refine lv_istore (lv' := [(4, .int (mI (L m9))), (0, .ref h0), (1, .int (mI (m9))), (2, .int (mI (a))), (3, .int (mI (b)))]) hx hb dX0_countHeld_5 hl (by decide) rfl (fun ls hl => ?_)
  refine lv_aload_n hx hb dX0_countHeld_7 rfl (lv_at hl 1 rfl) ?_
  refine lv_iload_n hx hb dX0_countHeld_8 rfl (lv_at hl 2 rfl) ?_
  refine mw_cVi (rest := []) (q := (RX0, TX0, 10)) hC (c_X0_placeOf l D h0 a1 a2 cA cJ v L P m9 (by omega)) (cwV 1 hts gX0_countHeld_X0_placeOf rfl rfl rfl (by decide +kernel) ⟨Nat.le_of_ble_eq_true rfl, Nat.le_of_ble_eq_true rfl⟩) hK hP rfl rfl rfl hl.1 rfl (Nat.le_of_ble_eq_true rfl) ⟨Nat.zero_le _, Nat.zero_le _⟩ dX0_countHeld_9 ?_
  refine lv_istore (lv' := [(5, .int (mI (P m9))), (4, .int (mI (L m9))), (0, .ref h0), (1, .int (mI (m9))), (2, .int (mI (a))), (3, .int (mI (b)))]) hx hb dX0_countHeld_12 hl (by decide) rfl (fun ls hl => ?_)
  refine lv_iload_n hx hb dX0_countHeld_14 rfl (lv_at hl 5 rfl) ?_
  refine lv_iload hx hb dX0_countHeld_15 (lv_at hl 0 rfl) ?_
  refine mw_isub hx hb dX0_countHeld_17 ?_
  refine mw_i2l hx hb (by omega) dX0_countHeld_18 ?_
  refine lv_iload hx hb dX0_countHeld_19 (lv_at hl 1 rfl) ?_
  refine mw_i2l hx hb (by omega) dX0_countHeld_21 ?_
  refine mw_cSl (rest := []) hC (c_X0_divide l (b - (P m9)) (L m9) (by omega) (by omega) (by omega)) (va_cwS 2 hts gX0_countHeld_X0_divide rfl rfl rfl (by decide +kernel) ⟨Nat.le_of_ble_eq_true rfl, Nat.le_of_ble_eq_true rfl⟩) rfl hl.1 rfl (Nat.le_of_ble_eq_true rfl) ⟨Nat.zero_le _, Nat.zero_le _⟩ dX0_countHeld_22 ?_
  refine lv_iload_n hx hb dX0_countHeld_25 rfl (lv_at hl 4 rfl) ?_
  refine mw_iconst hx hb dX0_countHeld_26 ?_
  refine mw_isub hx hb dX0_countHeld_27 ?_
  refine lv_iload hx hb dX0_countHeld_28 (lv_at hl 0 rfl) ?_
  refine mw_isub hx hb dX0_countHeld_30 ?_
  refine mw_i2l hx hb (by omega) dX0_countHeld_31 ?_
  refine lv_iload hx hb dX0_countHeld_32 (lv_at hl 1 rfl) ?_
  refine mw_i2l hx hb (by omega) dX0_countHeld_34 ?_
  refine mw_cSl (rest := [.long (mL ((b - (P m9)) / (L m9)))]) hC (c_X0_divide l ((a - 1) - (P m9)) (L m9) (by omega) (by omega) (by omega)) (va_cwS 2 hts gX0_countHeld_X0_divide rfl rfl rfl (by decide +kernel) ⟨Nat.le_of_ble_eq_true rfl, Nat.le_of_ble_eq_true rfl⟩) rfl hl.1 rfl (Nat.le_of_ble_eq_true rfl) ⟨Nat.zero_le _, Nat.zero_le _⟩ dX0_countHeld_35 ?_
  refine mw_lsub hx hb dX0_countHeld_38 ?_
  refine mw_l2i hx hb dX0_countHeld_39 ?_
  exact mw_retI hx hb hr hlocks dX0_countHeld_40 rfl

set_option maxHeartbeats 4000000 in
set_option maxRecDepth 100000 in
theorem c_X0_moonParts (l : Launch) (D : va_G) (h0 a1 a2 : Nat) (cA cJ : ClassId) (v : Nat → Int) (L P : Int → Int) (d : Int) (hok : mOK v L P)  : mP l yX0_moonParts wsX0_moonParts ({ frames := 0, cells := 0, slots := 0, locals := 0 }) [.ref h0, .long (mL (d))] (mwB D (mXW h0 a1 a2 cA v L P) (mTy cA cJ)) (some (.long (mL (mMoon v d)))) := by
  refine mw_open (cc := cX0_moonParts) (maxL := 3) (ret := (some .long)) (by decide +kernel) rfl (Nat.le_of_ble_eq_true rfl) ?_
  intro p e s m below meth c ls hC hr hlocks hB hl
  obtain ⟨hx, hb, hml, hown, hts⟩ := id hC
  obtain ⟨hP, hK⟩ := hB
  have hin : ∀ w ∈ wsX00, w ∈ wsX0_moonParts := by decide +kernel
  have hl : lv_has ls 3 [(0, .ref h0), (1, .long (mL (d)))] := hl
  obtain ⟨⟨o1, o2⟩, oL, ⟨o3, o4, o5, o6, o7, o8⟩, ⟨o9, o10, o11, o12, o13, o14, o15, o16⟩⟩ := hok
  refine lv_lload_n hx hb dX0_moonParts_0 rfl (lv_at hl 1 rfl) ?_
  refine lv_aload_n hx hb dX0_moonParts_1 rfl (lv_at hl 0 rfl) ?_
  refine mw_getX hx hb hts hin hown hK hP rfl 5 (by decide) (by decide +kernel) rfl rfl dX0_moonParts_2 ?_
  refine mw_i2l hx hb (by omega) dX0_moonParts_5 ?_
  refine mw_ladd hx hb dX0_moonParts_6 ?_
  refine lv_aload_n hx hb dX0_moonParts_7 rfl (lv_at hl 0 rfl) ?_
  refine mw_getX hx hb hts hin hown hK hP rfl 4 (by decide) (by decide +kernel) rfl rfl dX0_moonParts_8 ?_
  refine mw_i2l hx hb (by omega) dX0_moonParts_11 ?_
  refine mw_lmul hx hb dX0_moonParts_12 ?_
  exact mw_retL hx hb hr hlocks dX0_moonParts_13 rfl

set_option maxHeartbeats 4000000 in
set_option maxRecDepth 100000 in
theorem c_X0_lunarDayOf (l : Launch) (D : va_G) (h0 a1 a2 : Nat) (cA cJ : ClassId) (v : Nat → Int) (L P : Int → Int) (d : Int) (hok : mOK v L P) (hd : -1000000000000 ≤ d ∧ d ≤ 1000000000000) : mP l yX0_lunarDayOf wsX0_lunarDayOf ({ frames := 2, cells := 0, slots := 0, locals := 48 }) [.ref h0, .long (mL (d))] (mwB D (mXW h0 a1 a2 cA v L P) (mTy cA cJ)) (some (.long (mL (mLunar v d)))) := by
  refine mw_open (cc := cX0_lunarDayOf) (maxL := 3) (ret := (some .long)) (by decide +kernel) rfl (Nat.le_of_ble_eq_true rfl) ?_
  intro p e s m below meth c ls hC hr hlocks hB hl
  obtain ⟨hx, hb, hml, hown, hts⟩ := id hC
  obtain ⟨hP, hK⟩ := hB
  have hin : ∀ w ∈ wsX00, w ∈ wsX0_lunarDayOf := by decide +kernel
  have hl : lv_has ls 3 [(0, .ref h0), (1, .long (mL (d)))] := hl
  have hok9 := hok
  obtain ⟨⟨o1, o2⟩, oL, ⟨o3, o4, o5, o6, o7, o8⟩, ⟨o9, o10, o11, o12, o13, o14, o15, o16⟩⟩ := hok9
  have f1 := m_bound (d + v 3) (v 2) (A := 1000000001000) (B := 100) (by omega) (by omega)
  have f2 : mMoon v d = (d + v 3) * v 2 := rfl
  have f3 := m_mod_r (a := mMoon v d) (b := v 1) (by omega)
  refine lv_aload_n hx hb dX0_lunarDayOf_0 rfl (lv_at hl 0 rfl) ?_
  refine lv_lload_n hx hb dX0_lunarDayOf_1 rfl (lv_at hl 1 rfl) ?_
  refine mw_cVl (rest := []) (q := (RX0, TX0, 10)) hC (c_X0_moonParts l D h0 a1 a2 cA cJ v L P d (id hok)) (cwV 1 hts gX0_lunarDayOf_X0_moonParts rfl rfl rfl (by decide +kernel) ⟨Nat.le_of_ble_eq_true rfl, Nat.le_of_ble_eq_true rfl⟩) hK hP rfl rfl rfl hl.1 rfl (Nat.le_of_ble_eq_true rfl) ⟨Nat.zero_le _, Nat.zero_le _⟩ dX0_lunarDayOf_2 ?_
  refine lv_aload_n hx hb dX0_lunarDayOf_5 rfl (lv_at hl 0 rfl) ?_
  refine mw_getX hx hb hts hin hown hK hP rfl 3 (by decide) (by decide +kernel) rfl rfl dX0_lunarDayOf_6 ?_
  refine mw_i2l hx hb (by omega) dX0_lunarDayOf_9 ?_
  refine mw_cSl (rest := []) hC (c_X0_modulo l (mMoon v d) (v 1) (by omega) (by omega) (by omega)) (va_cwS 2 hts gX0_lunarDayOf_X0_modulo rfl rfl rfl (by decide +kernel) ⟨Nat.le_of_ble_eq_true rfl, Nat.le_of_ble_eq_true rfl⟩) rfl hl.1 rfl (Nat.le_of_ble_eq_true rfl) ⟨Nat.zero_le _, Nat.zero_le _⟩ dX0_lunarDayOf_10 ?_
  refine lv_aload_n hx hb dX0_lunarDayOf_13 rfl (lv_at hl 0 rfl) ?_
  refine mw_getX hx hb hts hin hown hK hP rfl 4 (by decide) (by decide +kernel) rfl rfl dX0_lunarDayOf_14 ?_
  refine mw_i2l hx hb (by omega) dX0_lunarDayOf_17 ?_
  refine mw_cSl (rest := []) hC (c_X0_divide l ((mMoon v d) % (v 1)) (v 2) (by omega) (by omega) (by omega)) (va_cwS 2 hts gX0_lunarDayOf_X0_divide rfl rfl rfl (by decide +kernel) ⟨Nat.le_of_ble_eq_true rfl, Nat.le_of_ble_eq_true rfl⟩) rfl hl.1 rfl (Nat.le_of_ble_eq_true rfl) ⟨Nat.zero_le _, Nat.zero_le _⟩ dX0_lunarDayOf_18 ?_
  exact mw_retL hx hb hr hlocks dX0_lunarDayOf_21 rfl

set_option maxHeartbeats 4000000 in
set_option maxRecDepth 100000 in
theorem c_X0_yearBegin (l : Launch) (D : va_G) (h0 a1 a2 : Nat) (cA cJ : ClassId) (v : Nat → Int) (L P : Int → Int) (y : Int) (hok : mOK v L P) (hy : -20000 ≤ y ∧ y ≤ 20000) : mP l yX0_yearBegin wsX0_yearBegin ({ frames := 2, cells := 0, slots := 0, locals := 48 }) [.ref h0, .int (mI (y))] (mwB D (mXW h0 a1 a2 cA v L P) (mTy cA cJ)) (some (.int (mI (mBeg v y)))) := by
  refine mw_open (cc := cX0_yearBegin) (maxL := 2) (ret := (some .int)) (by decide +kernel) rfl (Nat.le_of_ble_eq_true rfl) ?_
  intro p e s m below meth c ls hC hr hlocks hB hl
  obtain ⟨hx, hb, hml, hown, hts⟩ := id hC
  obtain ⟨hP, hK⟩ := hB
  have hin : ∀ w ∈ wsX00, w ∈ wsX0_yearBegin := by decide +kernel
  have hl : lv_has ls 2 [(0, .ref h0), (1, .int (mI (y)))] := hl
  obtain ⟨⟨o1, o2⟩, oL, ⟨o3, o4, o5, o6, o7, o8⟩, ⟨o9, o10, o11, o12, o13, o14, o15, o16⟩⟩ := hok
  have f1 := m_bound (v 5) y (A := 400) (B := 20000) (by omega) (by omega)
  refine lv_aload_n hx hb dX0_yearBegin_0 rfl (lv_at hl 0 rfl) ?_
  refine mw_getX hx hb hts hin hown hK hP rfl 6 (by decide) (by decide +kernel) rfl rfl dX0_yearBegin_1 ?_
  refine lv_iload_n hx hb dX0_yearBegin_4 rfl (lv_at hl 1 rfl) ?_
  refine mw_imul hx hb dX0_yearBegin_5 ?_
  refine lv_aload_n hx hb dX0_yearBegin_6 rfl (lv_at hl 0 rfl) ?_
  refine mw_getX hx hb hts hin hown hK hP rfl 7 (by decide) (by decide +kernel) rfl rfl dX0_yearBegin_7 ?_
  refine lv_iload_n hx hb dX0_yearBegin_10 rfl (lv_at hl 1 rfl) ?_
  refine mw_imul hx hb dX0_yearBegin_11 ?_
  refine lv_aload_n hx hb dX0_yearBegin_12 rfl (lv_at hl 0 rfl) ?_
  refine mw_getX hx hb hts hin hown hK hP rfl 8 (by decide) (by decide +kernel) rfl rfl dX0_yearBegin_13 ?_
  refine mw_iadd hx hb dX0_yearBegin_16 ?_
  refine mw_i2l hx hb (by omega) dX0_yearBegin_17 ?_
  refine lv_aload_n hx hb dX0_yearBegin_18 rfl (lv_at hl 0 rfl) ?_
  refine mw_getX hx hb hts hin hown hK hP rfl 9 (by decide) (by decide +kernel) rfl rfl dX0_yearBegin_19 ?_
  refine mw_i2l hx hb (by omega) dX0_yearBegin_22 ?_
  refine mw_cSl (rest := [.int (mI ((v 4) * y))]) hC (c_X0_divide l (((v 5) * y) + (v 6)) (v 7) (by omega) (by omega) (by omega)) (va_cwS 2 hts gX0_yearBegin_X0_divide rfl rfl rfl (by decide +kernel) ⟨Nat.le_of_ble_eq_true rfl, Nat.le_of_ble_eq_true rfl⟩) rfl hl.1 rfl (Nat.le_of_ble_eq_true rfl) ⟨Nat.zero_le _, Nat.zero_le _⟩ dX0_yearBegin_23 ?_
  refine mw_l2i hx hb dX0_yearBegin_26 ?_
  refine mw_iadd hx hb dX0_yearBegin_27 ?_
  exact mw_retI hx hb hr hlocks dX0_yearBegin_28 rfl

set_option maxHeartbeats 4000000 in
set_option maxRecDepth 100000 in
theorem c_X0_hasLeapDay (l : Launch) (D : va_G) (h0 a1 a2 : Nat) (cA cJ : ClassId) (v : Nat → Int) (L P : Int → Int) (y : Int) (hok : mOK v L P) (hy : -20000 ≤ y ∧ y ≤ 20000) : mP l yX0_hasLeapDay wsX0_hasLeapDay ({ frames := 2, cells := 0, slots := 0, locals := 48 }) [.ref h0, .int (mI (y))] (mwB D (mXW h0 a1 a2 cA v L P) (mTy cA cJ)) (some (.int (mI (mB (mLeap v y))))) := by
  refine mw_open (cc := cX0_hasLeapDay) (maxL := 2) (ret := (some .boolean)) (by decide +kernel) rfl (Nat.le_of_ble_eq_true rfl) ?_
  intro p e s m below meth c ls hC hr hlocks hB hl
  obtain ⟨hx, hb, hml, hown, hts⟩ := id hC
  obtain ⟨hP, hK⟩ := hB
  have hin : ∀ w ∈ wsX00, w ∈ wsX0_hasLeapDay := by decide +kernel
  have hl : lv_has ls 2 [(0, .ref h0), (1, .int (mI (y)))] := hl
  obtain ⟨⟨o1, o2⟩, oL, ⟨o3, o4, o5, o6, o7, o8⟩, ⟨o9, o10, o11, o12, o13, o14, o15, o16⟩⟩ := hok
  have f1 := m_bound (v 5) y (A := 400) (B := 20000) (by omega) (by omega)
  have f2 := m_mod_r (a := v 5 * y + v 6) (b := v 7) (by omega)
  refine lv_aload_n hx hb dX0_hasLeapDay_0 rfl (lv_at hl 0 rfl) ?_
  refine mw_getX hx hb hts hin hown hK hP rfl 7 (by decide) (by decide +kernel) rfl rfl dX0_hasLeapDay_1 ?_
  refine lv_iload_n hx hb dX0_hasLeapDay_4 rfl (lv_at hl 1 rfl) ?_
  refine mw_imul hx hb dX0_hasLeapDay_5 ?_
  refine lv_aload_n hx hb dX0_hasLeapDay_6 rfl (lv_at hl 0 rfl) ?_
  refine mw_getX hx hb hts hin hown hK hP rfl 8 (by decide) (by decide +kernel) rfl rfl dX0_hasLeapDay_7 ?_
  refine mw_iadd hx hb dX0_hasLeapDay_10 ?_
  refine mw_i2l hx hb (by omega) dX0_hasLeapDay_11 ?_
  refine lv_aload_n hx hb dX0_hasLeapDay_12 rfl (lv_at hl 0 rfl) ?_
  refine mw_getX hx hb hts hin hown hK hP rfl 9 (by decide) (by decide +kernel) rfl rfl dX0_hasLeapDay_13 ?_
  refine mw_i2l hx hb (by omega) dX0_hasLeapDay_16 ?_
  refine mw_cSl (rest := []) hC (c_X0_modulo l (((v 5) * y) + (v 6)) (v 7) (by omega) (by omega) (by omega)) (va_cwS 2 hts gX0_hasLeapDay_X0_modulo rfl rfl rfl (by decide +kernel) ⟨Nat.le_of_ble_eq_true rfl, Nat.le_of_ble_eq_true rfl⟩) rfl hl.1 rfl (Nat.le_of_ble_eq_true rfl) ⟨Nat.zero_le _, Nat.zero_le _⟩ dX0_hasLeapDay_17 ?_
  refine lv_aload_n hx hb dX0_hasLeapDay_20 rfl (lv_at hl 0 rfl) ?_
  refine mw_getX hx hb hts hin hown hK hP rfl 9 (by decide) (by decide +kernel) rfl rfl dX0_hasLeapDay_21 ?_
  refine lv_aload_n hx hb dX0_hasLeapDay_24 rfl (lv_at hl 0 rfl) ?_
  refine mw_getX hx hb hts hin hown hK hP rfl 7 (by decide) (by decide +kernel) rfl rfl dX0_hasLeapDay_25 ?_
  refine mw_isub hx hb dX0_hasLeapDay_28 ?_
  refine mw_i2l hx hb (by omega) dX0_hasLeapDay_29 ?_
  refine mw_lcmp_lt (tgt := 38) hx hb (by omega) (by omega) dX0_hasLeapDay_30 dX0_hasLeapDay_31 (by decide) (fun c_31 => ?_) (fun c_31 => ?_)
  · refine mw_iconst hx hb dX0_hasLeapDay_38 ?_
    exact mw_retZ hx hb hr hlocks dX0_hasLeapDay_39 (by first | rfl | exact (mB_t (by omega)).symm | exact (mB_f (by omega)).symm | exact mB_iff (by omega) | omega)
  · refine mw_iconst hx hb dX0_hasLeapDay_34 ?_
    refine lv_goto (tgt := 39) hx hb dX0_hasLeapDay_35 (by decide) ?_
    exact mw_retZ hx hb hr hlocks dX0_hasLeapDay_39 (by first | rfl | exact (mB_t (by omega)).symm | exact (mB_f (by omega)).symm | exact mB_iff (by omega) | omega)

set_option maxHeartbeats 4000000 in
set_option maxRecDepth 100000 in
theorem c_X0_yearOf (l : Launch) (D : va_G) (h0 a1 a2 : Nat) (cA cJ : ClassId) (v : Nat → Int) (L P : Int → Int) (d : Int) (hok : mOK v L P) (hd : mDay d) : mP l yX0_yearOf wsX0_yearOf ({ frames := 2, cells := 0, slots := 0, locals := 48 }) [.ref h0, .int (mI (d))] (mwB D (mXW h0 a1 a2 cA v L P) (mTy cA cJ)) (some (.int (mI (mYr v d)))) := by
  refine mw_open (cc := cX0_yearOf) (maxL := 4) (ret := (some .int)) (by decide +kernel) rfl (Nat.le_of_ble_eq_true rfl) ?_
  intro p e s m below meth c ls hC hr hlocks hB hl
  obtain ⟨hx, hb, hml, hown, hts⟩ := id hC
  obtain ⟨hP, hK⟩ := hB
  have hin : ∀ w ∈ wsX00, w ∈ wsX0_yearOf := by decide +kernel
  have hl : lv_has ls 4 [(0, .ref h0), (1, .int (mI (d)))] := hl
  obtain ⟨⟨o1, o2⟩, oL, ⟨o3, o4, o5, o6, o7, o8⟩, ⟨o9, o10, o11, o12, o13, o14, o15, o16⟩⟩ := hok
  have f1 := m_bound (v 7) (d + 1) (A := 400) (B := 1000001) (by omega) (by omega)
  have f2 := m_bound (v 4) (v 7) (A := 500) (B := 400) (by omega) (by omega)
  have f3 : 0 < v 4 * v 7 := Int.mul_pos (by omega) (by omega)
  refine lv_aload_n hx hb dX0_yearOf_0 rfl (lv_at hl 0 rfl) ?_
  refine mw_getX hx hb hts hin hown hK hP rfl 9 (by decide) (by decide +kernel) rfl rfl dX0_yearOf_1 ?_
  refine mw_i2l hx hb (by omega) dX0_yearOf_4 ?_
  refine lv_iload_n hx hb dX0_yearOf_5 rfl (lv_at hl 1 rfl) ?_
  refine mw_iconst hx hb dX0_yearOf_6 ?_
  refine mw_iadd hx hb dX0_yearOf_7 ?_
  refine mw_i2l hx hb (by omega) dX0_yearOf_8 ?_
  refine mw_lmul hx hb dX0_yearOf_9 ?_
  refine mw_lconst hx hb 1 (by decide +kernel) dX0_yearOf_10 ?_
  refine mw_lsub hx hb dX0_yearOf_11 ?_
  refine lv_aload_n hx hb dX0_yearOf_12 rfl (lv_at hl 0 rfl) ?_
  refine mw_getX hx hb hts hin hown hK hP rfl 8 (by decide) (by decide +kernel) rfl rfl dX0_yearOf_13 ?_
  refine mw_i2l hx hb (by omega) dX0_yearOf_16 ?_
  refine mw_lsub hx hb dX0_yearOf_17 ?_
  refine lv_lstore_n (lv' := [(2, .long (mL ((((v 7) * (d + 1)) - 1) - (v 6)))), (0, .ref h0), (1, .int (mI (d)))]) hx hb dX0_yearOf_18 rfl hl (by decide) rfl (fun ls hl => ?_)
  refine lv_lload_n hx hb dX0_yearOf_19 rfl (lv_at hl 0 rfl) ?_
  refine lv_aload_n hx hb dX0_yearOf_20 rfl (lv_at hl 1 rfl) ?_
  refine mw_getX hx hb hts hin hown hK hP rfl 6 (by decide) (by decide +kernel) rfl rfl dX0_yearOf_21 ?_
  refine mw_i2l hx hb (by omega) dX0_yearOf_24 ?_
  refine lv_aload_n hx hb dX0_yearOf_25 rfl (lv_at hl 1 rfl) ?_
  refine mw_getX hx hb hts hin hown hK hP rfl 9 (by decide) (by decide +kernel) rfl rfl dX0_yearOf_26 ?_
  refine mw_i2l hx hb (by omega) dX0_yearOf_29 ?_
  refine mw_lmul hx hb dX0_yearOf_30 ?_
  refine lv_aload_n hx hb dX0_yearOf_31 rfl (lv_at hl 1 rfl) ?_
  refine mw_getX hx hb hts hin hown hK hP rfl 7 (by decide) (by decide +kernel) rfl rfl dX0_yearOf_32 ?_
  refine mw_i2l hx hb (by omega) dX0_yearOf_35 ?_
  refine mw_ladd hx hb dX0_yearOf_36 ?_
  refine mw_cSl (rest := []) hC (c_X0_divide l ((((v 7) * (d + 1)) - 1) - (v 6)) (((v 4) * (v 7)) + (v 5)) (by omega) (by omega) (by omega)) (va_cwS 2 hts gX0_yearOf_X0_divide rfl rfl rfl (by decide +kernel) ⟨Nat.le_of_ble_eq_true rfl, Nat.le_of_ble_eq_true rfl⟩) rfl hl.1 rfl (Nat.le_of_ble_eq_true rfl) ⟨Nat.zero_le _, Nat.zero_le _⟩ dX0_yearOf_37 ?_
  refine mw_l2i hx hb dX0_yearOf_40 ?_
  exact mw_retI hx hb hr hlocks dX0_yearOf_41 rfl

set_option maxHeartbeats 4000000 in
set_option maxRecDepth 100000 in
theorem c_X0_setOn (l : Launch) (D : va_G) (h0 a1 a2 : Nat) (cA cJ : ClassId) (v : Nat → Int) (L P : Int → Int) (d : Int) (hok : mOK v L P) (hd : mDay d) : mP l yX0_setOn wsX0_setOn ({ frames := 3, cells := 0, slots := 0, locals := 71 }) [.ref h0, .int (mI (d))] (mwB D (mXW h0 a1 a2 cA v L P) (mTy cA cJ)) (some (.int (mI (mSet L P d (v 0).toNat)))) := by
  refine mw_open (cc := cX0_setOn) (maxL := 4) (ret := (some .int)) (by decide +kernel) rfl (Nat.le_of_ble_eq_true rfl) ?_
  intro p e s m below meth c ls hC hr hlocks hB hl
  obtain ⟨hx, hb, hml, hown, hts⟩ := id hC
  obtain ⟨hP, hK⟩ := hB
  have hin : ∀ w ∈ wsX00, w ∈ wsX0_setOn := by decide +kernel
  have hl : lv_has ls 4 [(0, .ref h0), (1, .int (mI (d)))] := hl
  have hok9 := hok
  obtain ⟨⟨o1, o2⟩, oL, ⟨o3, o4, o5, o6, o7, o8⟩, ⟨o9, o10, o11, o12, o13, o14, o15, o16⟩⟩ := hok9
  refine mw_iconst hx hb dX0_setOn_0 ?_
  refine lv_istore_n (lv' := [(2, .int (mI (0))), (0, .ref h0), (1, .int (mI (d)))]) hx hb dX0_setOn_1 rfl hl (by decide) rfl (fun ls hl => ?_)
  refine mw_iconst hx hb dX0_setOn_2 ?_
  refine lv_istore_n (lv' := [(3, .int (mI (0))), (2, .int (mI (0))), (0, .ref h0), (1, .int (mI (d)))]) hx hb dX0_setOn_3 rfl hl (by decide) rfl (fun ls hl => ?_)
  refine mw_loop (T := Int × Int) (nL := 4) (fun x => (0 ≤ x.1 ∧ x.1 ≤ v 0) ∧ x.2 = mSet L P d (x.1).toNat) (fun x => (v 0 - x.1).toNat) 4 (fun x => [(3, .int (mI (x.1))), (2, .int (mI (x.2))), (0, .ref h0), (1, .int (mI (d)))]) ?_ ((0 : Int), (0 : Int)) (show (0 ≤ (0 : Int) ∧ (0 : Int) ≤ v 0) ∧ (0 : Int) = mSet L P d ((0 : Int)).toNat from ⟨⟨by omega, by omega⟩, rfl⟩) ls (lv_sub hl [0, 1, 2, 3] rfl)
  intro x hI ih ls hl
  obtain ⟨i, z⟩ := x
  have hl : lv_has ls 4 [(3, .int (mI (i))), (2, .int (mI (z))), (0, .ref h0), (1, .int (mI (d)))] := hl
  have hI : (0 ≤ i ∧ i ≤ v 0) ∧ z = mSet L P d (i).toNat := hI
  obtain ⟨⟨i1, i2⟩, i3⟩ := hI
  have f1 := mSet_r L P d i.toNat
  have f2 : ((i.toNat : Nat) : Int) = i := by omega
  have f3 : (i + 1).toNat = i.toNat + 1 := by omega
  have f6 : i.toNat < 16 → mShl 1 i = 2 ^ i.toNat := fun h => by have := mShl_e i.toNat (by omega); rw [f2] at this; exact this
  have f4 : i < v 0 → d % L i = P i → mOr z (mShl 1 i) = mSet L P d (i + 1).toNat := fun h0 h => by
    rw [f3, f6 (by omega), i3, mOr_e f1.1 f1.2 (by omega), mSet_s, f2, if_pos h]
  have f5 : ¬ d % L i = P i → z = mSet L P d (i + 1).toNat := fun h => by
    rw [f3, mSet_s, f2, if_neg h, Int.add_zero]
    exact i3
  refine lv_iload_n hx hb dX0_setOn_4 rfl (lv_at hl 0 rfl) ?_
  refine lv_aload_n hx hb dX0_setOn_5 rfl (lv_at hl 2 rfl) ?_
  refine mw_getX hx hb hts hin hown hK hP rfl 2 (by decide) (by decide +kernel) rfl rfl dX0_setOn_6 ?_
  refine mw_icmp_ge (tgt := 34) hx hb (by omega) (by omega) dX0_setOn_9 (by decide) (fun c_9 => ?_) (fun c_9 => ?_)
  · refine lv_iload_n hx hb dX0_setOn_34 rfl (lv_at hl 1 rfl) ?_
    exact mw_retI hx hb hr hlocks dX0_setOn_35 (by rw [i3]; congr 1; omega)
  · refine lv_aload_n hx hb dX0_setOn_12 rfl (lv_at hl 2 rfl) ?_
    refine lv_iload_n hx hb dX0_setOn_13 rfl (lv_at hl 0 rfl) ?_
    refine lv_iload_n hx hb dX0_setOn_14 rfl (lv_at hl 3 rfl) ?_
    refine mw_i2l hx hb (by omega) dX0_setOn_15 ?_
    refine mw_cVi (rest := []) (q := (RX0, TX0, 10)) hC (c_X0_isOn l D h0 a1 a2 cA cJ v L P i d (id hok) (by omega) (by omega)) (cwV 2 hts gX0_setOn_X0_isOn rfl rfl rfl (by decide +kernel) ⟨Nat.le_of_ble_eq_true rfl, Nat.le_of_ble_eq_true rfl⟩) hK hP rfl rfl rfl hl.1 rfl (Nat.le_of_ble_eq_true rfl) ⟨Nat.zero_le _, Nat.zero_le _⟩ dX0_setOn_16 ?_
    refine mw_zeq (tgt := 28) hx hb dX0_setOn_19 (by decide) (fun c_19 => ?_) (fun c_19 => ?_)
    · refine mw_iinc (k := 0) (lv' := [(3, .int (mI (i + 1))), (2, .int (mI (z))), (0, .ref h0), (1, .int (mI (d)))]) hx hb dX0_setOn_28 hl rfl (by decide) rfl (fun ls hl => ?_)
      refine lv_goto (tgt := 4) hx hb dX0_setOn_31 (by decide) ?_
      exact ih ((i + 1), z) (show (0 ≤ (i + 1) ∧ (i + 1) ≤ v 0) ∧ z = mSet L P d ((i + 1)).toNat from ⟨⟨by omega, by omega⟩, f5 c_19⟩) (show (v 0 - (i + 1)).toNat < (v 0 - i).toNat from (by omega)) ls (lv_sub hl [0, 1, 2, 3] rfl)
    · refine lv_iload_n hx hb dX0_setOn_22 rfl (lv_at hl 1 rfl) ?_
      refine mw_iconst hx hb dX0_setOn_23 ?_
      refine lv_iload_n hx hb dX0_setOn_24 rfl (lv_at hl 0 rfl) ?_
      refine mw_ishl hx hb dX0_setOn_25 ?_
      refine mw_ior hx hb dX0_setOn_26 ?_
      refine lv_istore_n (lv' := [(2, .int (mI (mOr z (mShl 1 i)))), (3, .int (mI (i))), (0, .ref h0), (1, .int (mI (d)))]) hx hb dX0_setOn_27 rfl hl (by decide) rfl (fun ls hl => ?_)
      refine mw_iinc (k := 1) (lv' := [(3, .int (mI (i + 1))), (2, .int (mI (mOr z (mShl 1 i)))), (0, .ref h0), (1, .int (mI (d)))]) hx hb dX0_setOn_28 hl rfl (by decide) rfl (fun ls hl => ?_)
      refine lv_goto (tgt := 4) hx hb dX0_setOn_31 (by decide) ?_
      exact ih ((i + 1), (mOr z (mShl 1 i))) (show (0 ≤ (i + 1) ∧ (i + 1) ≤ v 0) ∧ (mOr z (mShl 1 i)) = mSet L P d ((i + 1)).toNat from ⟨⟨by omega, by omega⟩, f4 (by omega) c_19⟩) (show (v 0 - (i + 1)).toNat < (v 0 - i).toNat from (by omega)) ls (lv_sub hl [0, 1, 2, 3] rfl)

set_option maxHeartbeats 4000000 in
set_option maxRecDepth 100000 in
theorem c_X0_commonMultiple (l : Launch) (a b : Int) (ha : 1 ≤ a ∧ a ≤ 1000000000) (hb9 : 1 ≤ b ∧ b ≤ 60) : mP l yX0_commonMultiple wsX0_commonMultiple ({ frames := 2, cells := 0, slots := 0, locals := 48 }) [.long (mL (a)), .int (mI (b))] (fun _ => True) (some (.long (mL (a * (mFac a b : Int))))) := by
  refine mw_open (cc := cX0_commonMultiple) (maxL := 4) (ret := (some .long)) (by decide +kernel) rfl (Nat.le_of_ble_eq_true rfl) ?_
  intro p e s m below meth c ls hC hr hlocks hB hl
  obtain ⟨hx, hb, hml, hown, hts⟩ := id hC
  have hl : lv_has ls 4 [(0, .long (mL (a))), (2, .int (mI (b)))] := hl
  refine mw_iconst hx hb dX0_commonMultiple_0 ?_
  refine lv_istore_n (lv' := [(3, .int (mI (1))), (0, .long (mL (a))), (2, .int (mI (b)))]) hx hb dX0_commonMultiple_1 rfl hl (by decide) rfl (fun ls hl => ?_)
  refine mw_loop (T := Int) (nL := 4) (fun x => (1 ≤ x ∧ x ≤ b) ∧ ∀ k : Nat, (k : Int) + 1 < x → ¬ (a * ((k : Int) + 1)) % b = 0) (fun x => (b - x).toNat) 2 (fun x => [(3, .int (mI (x))), (0, .long (mL (a))), (2, .int (mI (b)))]) ?_ ((1 : Int)) (show (1 ≤ (1 : Int) ∧ (1 : Int) ≤ b) ∧ ∀ k : Nat, (k : Int) + 1 < (1 : Int) → ¬ (a * ((k : Int) + 1)) % b = 0 from ⟨⟨by omega, by omega⟩, fun k hk => by omega⟩) ls (lv_sub hl [0, 1, 2] rfl)
  intro x hI ih ls hl
  obtain ⟨i, rfl⟩ : ∃ y, y = x := ⟨_, rfl⟩
  have hl : lv_has ls 4 [(3, .int (mI (i))), (0, .long (mL (a))), (2, .int (mI (b)))] := hl
  have hI : (1 ≤ i ∧ i ≤ b) ∧ ∀ k : Nat, (k : Int) + 1 < i → ¬ (a * ((k : Int) + 1)) % b = 0 := hI
  obtain ⟨⟨i1, i2⟩, i3⟩ := hI
  have f1 := m_bound a i (A := 1000000000) (B := 60) (by omega) (by omega)
  have f3 := m_mod_r (a := a * i) (b := b) (by omega)
  have f2 : ∀ k : Nat, (k : Int) + 1 < i + 1 → a * i % b ≠ 0 → ¬ (a * ((k : Int) + 1)) % b = 0 := fun k hk hc => by
    rcases (by omega : (k : Int) + 1 < i ∨ (k : Int) + 1 = i) with q | q
    · exact i3 k q
    · rw [q]; exact hc
  have f4 : i ≤ b → (i < b → a * i % b = 0) → a * i = a * (mFac a b : Int) := fun h1 h2 => by
    have e : mFst (fun f => decide ((a * ((f : Int) + 1)) % b = 0)) (b.toNat - 1) = (i - 1).toNat := mFst_eq _ (by omega) (fun j hj => decide_eq_false (i3 j (by omega))) (fun h => decide_eq_true (by
      have e2 : (((i - 1).toNat : Nat) : Int) + 1 = i := by omega
      rw [e2]; exact h2 (by omega)))
    have e3 : (mFac a b : Int) = i := by
      unfold mFac
      rw [e]
      omega
    rw [e3]
  refine lv_iload_n hx hb dX0_commonMultiple_2 rfl (lv_at hl 0 rfl) ?_
  refine lv_iload_n hx hb dX0_commonMultiple_3 rfl (lv_at hl 2 rfl) ?_
  refine mw_icmp_ge (tgt := 32) hx hb (by omega) (by omega) dX0_commonMultiple_4 (by decide) (fun c_4 => ?_) (fun c_4 => ?_)
  · refine lv_lload_n hx hb dX0_commonMultiple_32 rfl (lv_at hl 1 rfl) ?_
    refine lv_iload_n hx hb dX0_commonMultiple_33 rfl (lv_at hl 2 rfl) ?_
    refine mw_i2l hx hb (by omega) dX0_commonMultiple_34 ?_
    refine mw_lmul hx hb dX0_commonMultiple_35 ?_
    exact mw_retL hx hb hr hlocks dX0_commonMultiple_36 (by have e : i = b := (by omega); subst e; exact f4 (Int.le_refl _) (fun h => absurd h (by omega)))
  · refine lv_lload_n hx hb dX0_commonMultiple_7 rfl (lv_at hl 1 rfl) ?_
    refine lv_iload_n hx hb dX0_commonMultiple_8 rfl (lv_at hl 0 rfl) ?_
    refine mw_i2l hx hb (by omega) dX0_commonMultiple_9 ?_
    refine mw_lmul hx hb dX0_commonMultiple_10 ?_
    refine lv_iload_n hx hb dX0_commonMultiple_11 rfl (lv_at hl 2 rfl) ?_
    refine mw_i2l hx hb (by omega) dX0_commonMultiple_12 ?_
    refine mw_cSl (rest := []) hC (c_X0_modulo l (a * i) b (by omega) (by omega) (by omega)) (va_cwS 2 hts gX0_commonMultiple_X0_modulo rfl rfl rfl (by decide +kernel) ⟨Nat.le_of_ble_eq_true rfl, Nat.le_of_ble_eq_true rfl⟩) rfl hl.1 rfl (Nat.le_of_ble_eq_true rfl) ⟨Nat.zero_le _, Nat.zero_le _⟩ dX0_commonMultiple_13 ?_
    refine mw_lconst hx hb 0 (by decide +kernel) dX0_commonMultiple_16 ?_
    refine mw_lcmp_ne (tgt := 26) hx hb (by omega) (by omega) dX0_commonMultiple_17 dX0_commonMultiple_18 (by decide) (fun c_18 => ?_) (fun c_18 => ?_)
    · refine mw_iinc (k := 0) (lv' := [(3, .int (mI (i + 1))), (0, .long (mL (a))), (2, .int (mI (b)))]) hx hb dX0_commonMultiple_26 hl rfl (by decide) rfl (fun ls hl => ?_)
      refine lv_goto (tgt := 2) hx hb dX0_commonMultiple_29 (by decide) ?_
      exact ih ((i + 1)) (show (1 ≤ (i + 1) ∧ (i + 1) ≤ b) ∧ ∀ k : Nat, (k : Int) + 1 < (i + 1) → ¬ (a * ((k : Int) + 1)) % b = 0 from ⟨⟨by omega, by omega⟩, fun k hk => f2 k hk c_18⟩) (show (b - (i + 1)).toNat < (b - i).toNat from (by omega)) ls (lv_sub hl [0, 1, 2] rfl)
    · refine lv_lload_n hx hb dX0_commonMultiple_21 rfl (lv_at hl 1 rfl) ?_
      refine lv_iload_n hx hb dX0_commonMultiple_22 rfl (lv_at hl 0 rfl) ?_
      refine mw_i2l hx hb (by omega) dX0_commonMultiple_23 ?_
      refine mw_lmul hx hb dX0_commonMultiple_24 ?_
      exact mw_retL hx hb hr hlocks dX0_commonMultiple_25 (f4 i2 (fun _ => by omega))
