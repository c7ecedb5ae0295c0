set_option maxHeartbeats 400000 in
set_option maxRecDepth 100000 in
theorem y_X1_addMarket (l : Launch) (D : va_G) (h0 a1 a2 : Nat) (cA cJ : ClassId) (t f g : Int) (v : Nat → Int) (L P : Int → Int) (a b : Int) (ha : mRI a) (hb9 : mRI b) (hok : mOK v L P) (hdis : mDis h0 a1 a2) : mY l yX1_addMarket wsX1_addMarket ({ frames := 1, cells := 0, slots := 0, locals := 25 }) [.ref h0, .int (mI (a)), .int (mI (b))] D (mMW h0 a1 a2 cA t f g v L P) (mTy cA cJ) (fun r => some (.int (mI r))) (fun u => (mEx2 ((1 ≤ a ∧ a ≤ 60) ∧ 0 ≤ b ∧ b ≤ a - 1) (v 0 < 16)) = 0 → u.1 = v 0) (fun u => mMW h0 a1 a2 cA (((mEx2 ((1 ≤ a ∧ a ≤ 60) ∧ 0 ≤ b ∧ b ≤ a - 1) (v 0 < 16) : Nat)) : Int) u.2.1 u.2.2 (mIf (mEx2 ((1 ≤ a ∧ a ≤ 60) ∧ 0 ≤ b ∧ b ≤ a - 1) (v 0 < 16)) (mPut v 0 (v 0 + 1)) v) (mIf (mEx2 ((1 ≤ a ∧ a ≤ 60) ∧ 0 ≤ b ∧ b ≤ a - 1) (v 0 < 16)) (mU L (v 0) a) L) (mIf (mEx2 ((1 ≤ a ∧ a ≤ 60) ∧ 0 ≤ b ∧ b ≤ a - 1) (v 0 < 16)) (mU P (v 0) b) P)) (mA3 h0 a1 a2) := by
  refine mw_openY (cc := cX1_addMarket) (maxL := 3) (ret := (some .int)) (by decide) rfl (Nat.le_of_ble_eq_true rfl) ?_
  intro p e s m below meth c ls hC hr hlocks hB hl
  obtain ⟨hx, hb, hml, hown, hts⟩ := id hC
  obtain ⟨hP, hK⟩ := hB
  have hin : ∀ w ∈ wsX10, w ∈ wsX1_addMarket := by decide +kernel
  have hl : lv_has ls 3 [(0, .ref h0), (1, .int (mI (a))), (2, .int (mI (b)))] := hl
  have hS : va_S (mA3 h0 a1 a2) s.heap s.heap [] := va_S.rf
  have hDD : ∀ (t f g : Int) (v : Nat → Int) (L P : Int → Int), va_D (mA3 h0 a1 a2) (mMW h0 a1 a2 cA t f g v L P) := fun t f g v L P => mD3 hdis (mA3_in h0 a1 a2)
  have hD := hDD t f g v L P
  have hok9 := hok
  obtain ⟨⟨o1, o2⟩, oL, ⟨o3, o4, o5, o6, o7, o8⟩, ⟨o9, o10, o11, o12, o13, o14, o15, o16⟩⟩ := hok9
  refine lv_aload_n hx hb dX1_addMarket_0 rfl (lv_at hl 0 rfl) ?_
  refine lv_iload_n hx hb dX1_addMarket_1 rfl (lv_at hl 1 rfl) ?_
  refine mw_i2l hx hb (by omega) dX1_addMarket_2 ?_
  refine mw_lconst hx hb 1 (by decide +kernel) dX1_addMarket_3 ?_
  refine mw_ldc2 hx hb (60) (by decide +kernel) hown (hts (.constantLong RX1 50 (60)) (by decide +kernel)) dX1_addMarket_4 ?_
  refine mw_cSi (rest := [.ref h0]) hC (c_X1_in l a 1 60 (by omega) (by omega) (by omega)) (va_cwS 3 hts gX1_addMarket_X1_in rfl rfl rfl (by decide +kernel) ⟨Nat.le_of_ble_eq_true rfl, Nat.le_of_ble_eq_true rfl⟩) rfl hl.1 rfl (Nat.le_of_ble_eq_true rfl) ⟨Nat.zero_le _, Nat.zero_le _⟩ dX1_addMarket_7 ?_
  refine mw_zeq (tgt := 26) hx hb dX1_addMarket_10 (by decide) (fun c_10 => ?_) (fun c_10 => ?_)
  · refine mw_iconst hx hb dX1_addMarket_26 ?_
    refine lv_goto (tgt := 44) hx hb dX1_addMarket_27 (by decide) ?_
    refine mw_cM (rest := []) (q := (RX1, TX1, 13)) hC (c_X1_goesWell l D h0 a1 a2 cA cJ t f g v L P 1 (by omega) hdis) (cwV 1 hts gX1_addMarket_X1_goesWell rfl rfl rfl (by decide +kernel) ⟨Nat.le_of_ble_eq_true rfl, Nat.le_of_ble_eq_true rfl⟩) hK hP hS (fun _ h => h) rfl rfl rfl hl.1 rfl (Nat.le_of_ble_eq_true rfl) ⟨Nat.zero_le _, Nat.zero_le _⟩ dX1_addMarket_44 (fun _ H locs _ hP hS _ _ => ?_)
    have hP : va_P D vwCl (mMW h0 a1 a2 cA 1 f g v L P) H := hP
    have hD := hDD 1 f g v L P
    refine W.eq (g2 := F0 m 47 ls [.int (mI (mB (1 = 0)))]) rfl ?_
    refine mw_topi (y := 0) (mB_f (by omega)) ?_
    refine mw_if_ne (tgt := 52) hx hb (by omega) dX1_addMarket_47 (by decide) (fun c => absurd c (by decide)) (fun _ => ?_)
    refine mw_iconst hx hb dX1_addMarket_50 ?_
    exact mw_yretI hx hb hr hlocks dX1_addMarket_51 f g (fun h9 => by first | rfl | exact (mB_t (by omega)).symm | exact (mB_f (by omega)).symm | omega | (rw [mEx2_1 (by omega)] at h9; omega) | (rw [mEx2_2 (by omega) (by omega)] at h9; omega) | (exfalso; omega)) (mw_wk (by first | rfl | (rw [mEx2_0 (by omega) (by omega)]; omega) | (rw [mEx2_1 (by omega)]; omega) | (rw [mEx2_2 (by omega) (by omega)]; omega) | (exfalso; omega)) (mIf_1 (by first | (rw [mEx2_1 (by omega)]; omega) | (rw [mEx2_2 (by omega) (by omega)]; omega) | (exfalso; omega))).symm (mIf_1 (by first | (rw [mEx2_1 (by omega)]; omega) | (rw [mEx2_2 (by omega) (by omega)]; omega) | (exfalso; omega))).symm (mIf_1 (by first | (rw [mEx2_1 (by omega)]; omega) | (rw [mEx2_2 (by omega) (by omega)]; omega) | (exfalso; omega))).symm hP) hS
  · refine lv_iload_n hx hb dX1_addMarket_13 rfl (lv_at hl 2 rfl) ?_
    refine mw_i2l hx hb (by omega) dX1_addMarket_14 ?_
    refine mw_lconst hx hb 0 (by decide +kernel) dX1_addMarket_15 ?_
    refine lv_iload_n hx hb dX1_addMarket_16 rfl (lv_at hl 1 rfl) ?_
    refine mw_iconst hx hb dX1_addMarket_17 ?_
    refine mw_isub hx hb dX1_addMarket_18 ?_
    refine mw_i2l hx hb (by omega) dX1_addMarket_19 ?_
    refine mw_cSi (rest := [.ref h0]) hC (c_X1_in l b 0 (a - 1) (by omega) (by omega) (by omega)) (va_cwS 3 hts gX1_addMarket_X1_in rfl rfl rfl (by decide +kernel) ⟨Nat.le_of_ble_eq_true rfl, Nat.le_of_ble_eq_true rfl⟩) rfl hl.1 rfl (Nat.le_of_ble_eq_true rfl) ⟨Nat.zero_le _, Nat.zero_le _⟩ dX1_addMarket_20 ?_
    refine mw_zne (tgt := 30) hx hb dX1_addMarket_23 (by decide) (fun c_23 => ?_) (fun c_23 => ?_)
    · refine lv_aload_n hx hb dX1_addMarket_30 rfl (lv_at hl 0 rfl) ?_
      refine mw_getM hx hb hts hin hown hK hP rfl 3 (by decide) (by decide +kernel) rfl rfl dX1_addMarket_31 ?_
      refine mw_bipush hx hb (by decide +kernel) dX1_addMarket_34 ?_
      refine mw_icmp_ne (tgt := 43) hx hb (by omega) (by omega) dX1_addMarket_36 (by decide) (fun c_36 => ?_) (fun c_36 => ?_)
      · refine mw_iconst hx hb dX1_addMarket_43 ?_
        refine mw_cM (rest := []) (q := (RX1, TX1, 13)) hC (c_X1_goesWell l D h0 a1 a2 cA cJ t f g v L P 0 (by omega) hdis) (cwV 1 hts gX1_addMarket_X1_goesWell rfl rfl rfl (by decide +kernel) ⟨Nat.le_of_ble_eq_true rfl, Nat.le_of_ble_eq_true rfl⟩) hK hP hS (fun _ h => h) rfl rfl rfl hl.1 rfl (Nat.le_of_ble_eq_true rfl) ⟨Nat.zero_le _, Nat.zero_le _⟩ dX1_addMarket_44 (fun _ H locs _ hP hS _ _ => ?_)
        have hP : va_P D vwCl (mMW h0 a1 a2 cA 0 f g v L P) H := hP
        have hD := hDD 0 f g v L P
        refine W.eq (g2 := F0 m 47 ls [.int (mI (mB (0 = 0)))]) rfl ?_
        refine mw_topi (y := 1) (mB_t rfl) ?_
        refine mw_if_ne (tgt := 52) hx hb (by omega) dX1_addMarket_47 (by decide) (fun _ => ?_) (fun c => absurd c (by decide))
        refine lv_aload_n hx hb dX1_addMarket_52 rfl (lv_at hl 0 rfl) ?_
        refine mw_getM hx hb hts hin hown hK hP rfl 1 (by decide) (by decide +kernel) rfl rfl dX1_addMarket_53 ?_
        refine lv_aload_n hx hb dX1_addMarket_56 rfl (lv_at hl 0 rfl) ?_
        refine mw_getM hx hb hts hin hown hK hP rfl 3 (by decide) (by decide +kernel) rfl rfl dX1_addMarket_57 ?_
        refine lv_iload_n hx hb dX1_addMarket_60 rfl (lv_at hl 1 rfl) ?_
        refine mw_iast hx hb hK hP hD hS 1 rfl rfl (by omega) dX1_addMarket_61 (fun H locs hP hS => ?_)
        have hP : va_P D vwCl (mMW h0 a1 a2 cA 0 f g v (mU L (v 0) a) P) H := hP
        have hD := hDD 0 f g v (mU L (v 0) a) P
        refine lv_aload_n hx hb dX1_addMarket_62 rfl (lv_at hl 0 rfl) ?_
        refine mw_getM hx hb hts hin hown hK hP rfl 2 (by decide) (by decide +kernel) rfl rfl dX1_addMarket_63 ?_
        refine lv_aload_n hx hb dX1_addMarket_66 rfl (lv_at hl 0 rfl) ?_
        refine mw_getM hx hb hts hin hown hK hP rfl 3 (by decide) (by decide +kernel) rfl rfl dX1_addMarket_67 ?_
        refine lv_iload_n hx hb dX1_addMarket_70 rfl (lv_at hl 2 rfl) ?_
        refine mw_iast hx hb hK hP hD hS 2 rfl rfl (by omega) dX1_addMarket_71 (fun H locs hP hS => ?_)
        have hP : va_P D vwCl (mMW h0 a1 a2 cA 0 f g v (mU L (v 0) a) (mU P (v 0) b)) H := hP
        have hD := hDD 0 f g v (mU L (v 0) a) (mU P (v 0) b)
        refine lv_aload_n hx hb dX1_addMarket_72 rfl (lv_at hl 0 rfl) ?_
        refine lv_dup hx hb dX1_addMarket_73 rfl ?_
        refine mw_getM hx hb hts hin hown hK hP rfl 3 (by decide) (by decide +kernel) rfl rfl dX1_addMarket_74 ?_
        refine mw_iconst hx hb dX1_addMarket_77 ?_
        refine mw_iadd hx hb dX1_addMarket_78 ?_
        refine mw_putM hx hb hts hin hown hK hP hD hS rfl 3 (by decide) (Nat.le_of_ble_eq_true rfl) (by decide +kernel) rfl rfl (by decide +kernel) dX1_addMarket_79 (fun H locs hP hS => ?_)
        have hP : va_P D vwCl (mMW h0 a1 a2 cA 0 f g (mPut v 0 ((v 0) + 1)) (mU L (v 0) a) (mU P (v 0) b)) H := hP
        have hD := hDD 0 f g (mPut v 0 ((v 0) + 1)) (mU L (v 0) a) (mU P (v 0) b)
        refine lv_aload_n hx hb dX1_addMarket_82 rfl (lv_at hl 0 rfl) ?_
        refine mw_getM hx hb hts hin hown hK hP rfl 3 (by decide) (by decide +kernel) rfl rfl dX1_addMarket_83 ?_
        have p1 : mPut v 0 (v 0 + 1) 0 = v 0 + 1 := rfl
        refine mw_iconst hx hb dX1_addMarket_86 ?_
        refine mw_isub hx hb dX1_addMarket_87 ?_
        exact mw_yretI hx hb hr hlocks dX1_addMarket_88 f g (fun h9 => by first | exact (show mPut v 0 (v 0 + 1) 0 - 1 = v 0 from (by rw [show mPut v 0 (v 0 + 1) 0 = v 0 + 1 from rfl]; omega)) | rfl | exact (mB_t (by omega)).symm | exact (mB_f (by omega)).symm | omega | (rw [mEx2_1 (by omega)] at h9; omega) | (rw [mEx2_2 (by omega) (by omega)] at h9; omega) | (exfalso; omega)) (mw_wk (by first | rfl | (rw [mEx2_0 (by omega) (by omega)]; omega) | (rw [mEx2_1 (by omega)]; omega) | (rw [mEx2_2 (by omega) (by omega)]; omega) | (exfalso; omega)) (mIf_0 (mEx2_0 (by omega) (by omega))).symm (mIf_0 (mEx2_0 (by omega) (by omega))).symm (mIf_0 (mEx2_0 (by omega) (by omega))).symm hP) hS
      · refine mw_iconst hx hb dX1_addMarket_39 ?_
        refine lv_goto (tgt := 44) hx hb dX1_addMarket_40 (by decide) ?_
        refine mw_cM (rest := []) (q := (RX1, TX1, 13)) hC (c_X1_goesWell l D h0 a1 a2 cA cJ t f g v L P 2 (by omega) hdis) (cwV 1 hts gX1_addMarket_X1_goesWell rfl rfl rfl (by decide +kernel) ⟨Nat.le_of_ble_eq_true rfl, Nat.le_of_ble_eq_true rfl⟩) hK hP hS (fun _ h => h) rfl rfl rfl hl.1 rfl (Nat.le_of_ble_eq_true rfl) ⟨Nat.zero_le _, Nat.zero_le _⟩ dX1_addMarket_44 (fun _ H locs _ hP hS _ _ => ?_)
        have hP : va_P D vwCl (mMW h0 a1 a2 cA 2 f g v L P) H := hP
        have hD := hDD 2 f g v L P
        refine W.eq (g2 := F0 m 47 ls [.int (mI (mB (2 = 0)))]) rfl ?_
        refine mw_topi (y := 0) (mB_f (by omega)) ?_
        refine mw_if_ne (tgt := 52) hx hb (by omega) dX1_addMarket_47 (by decide) (fun c => absurd c (by decide)) (fun _ => ?_)
        refine mw_iconst hx hb dX1_addMarket_50 ?_
        exact mw_yretI hx hb hr hlocks dX1_addMarket_51 f g (fun h9 => by first | rfl | exact (mB_t (by omega)).symm | exact (mB_f (by omega)).symm | omega | (rw [mEx2_1 (by omega)] at h9; omega) | (rw [mEx2_2 (by omega) (by omega)] at h9; omega) | (exfalso; omega)) (mw_wk (by first | rfl | (rw [mEx2_0 (by omega) (by omega)]; omega) | (rw [mEx2_1 (by omega)]; omega) | (rw [mEx2_2 (by omega) (by omega)]; omega) | (exfalso; omega)) (mIf_1 (by first | (rw [mEx2_1 (by omega)]; omega) | (rw [mEx2_2 (by omega) (by omega)]; omega) | (exfalso; omega))).symm (mIf_1 (by first | (rw [mEx2_1 (by omega)]; omega) | (rw [mEx2_2 (by omega) (by omega)]; omega) | (exfalso; omega))).symm (mIf_1 (by first | (rw [mEx2_1 (by omega)]; omega) | (rw [mEx2_2 (by omega) (by omega)]; omega) | (exfalso; omega))).symm hP) hS
    · refine mw_iconst hx hb dX1_addMarket_26 ?_
      refine lv_goto (tgt := 44) hx hb dX1_addMarket_27 (by decide) ?_
      refine mw_cM (rest := []) (q := (RX1, TX1, 13)) hC (c_X1_goesWell l D h0 a1 a2 cA cJ t f g v L P 1 (by omega) hdis) (cwV 1 hts gX1_addMarket_X1_goesWell rfl rfl rfl (by decide +kernel) ⟨Nat.le_of_ble_eq_true rfl, Nat.le_of_ble_eq_true rfl⟩) hK hP hS (fun _ h => h) rfl rfl rfl hl.1 rfl (Nat.le_of_ble_eq_true rfl) ⟨Nat.zero_le _, Nat.zero_le _⟩ dX1_addMarket_44 (fun _ H locs _ hP hS _ _ => ?_)
      have hP : va_P D vwCl (mMW h0 a1 a2 cA 1 f g v L P) H := hP
      have hD := hDD 1 f g v L P
      refine W.eq (g2 := F0 m 47 ls [.int (mI (mB (1 = 0)))]) rfl ?_
      refine mw_topi (y := 0) (mB_f (by omega)) ?_
      refine mw_if_ne (tgt := 52) hx hb (by omega) dX1_addMarket_47 (by decide) (fun c => absurd c (by decide)) (fun _ => ?_)
      refine mw_iconst hx hb dX1_addMarket_50 ?_
      exact mw_yretI hx hb hr hlocks dX1_addMarket_51 f g (fun h9 => by first | rfl | exact (mB_t (by omega)).symm | exact (mB_f (by omega)).symm | omega | (rw [mEx2_1 (by omega)] at h9; omega) | (rw [mEx2_2 (by omega) (by omega)] at h9; omega) | (exfalso; omega)) (mw_wk (by first | rfl | (rw [mEx2_0 (by omega) (by omega)]; omega) | (rw [mEx2_1 (by omega)]; omega) | (rw [mEx2_2 (by omega) (by omega)]; omega) | (exfalso; omega)) (mIf_1 (by first | (rw [mEx2_1 (by omega)]; omega) | (rw [mEx2_2 (by omega) (by omega)]; omega) | (exfalso; omega))).symm (mIf_1 (by first | (rw [mEx2_1 (by omega)]; omega) | (rw [mEx2_2 (by omega) (by omega)]; omega) | (exfalso; omega))).symm (mIf_1 (by first | (rw [mEx2_1 (by omega)]; omega) | (rw [mEx2_2 (by omega) (by omega)]; omega) | (exfalso; omega))).symm hP) hS

set_option maxHeartbeats 400000 in
set_option maxRecDepth 100000 in
theorem y_X1_shift (l : Launch) (D : va_G) (h0 a1 a2 : Nat) (cA cJ : ClassId) (t f g : Int) (v : Nat → Int) (L P : Int → Int) (m9 b : Int) (hm9 : mRI m9) (hb9 : mRI b) (hok : mOK v L P) (hdis : mDis h0 a1 a2) : mY l yX1_shift wsX1_shift ({ frames := 2, cells := 0, slots := 0, locals := 46 }) [.ref h0, .int (mI (m9)), .int (mI (b))] D (mMW h0 a1 a2 cA t f g v L P) (mTy cA cJ) (fun r => some (.int (mI r))) (fun u => (mEx2 (mMk v m9) (-60 ≤ b ∧ b ≤ 60)) = 0 → u.1 = (P m9 + b) % L m9) (fun u => mMW h0 a1 a2 cA (((mEx2 (mMk v m9) (-60 ≤ b ∧ b ≤ 60) : Nat)) : Int) u.2.1 u.2.2 (mIf (mEx2 (mMk v m9) (-60 ≤ b ∧ b ≤ 60)) v v) (mIf (mEx2 (mMk v m9) (-60 ≤ b ∧ b ≤ 60)) L L) (mIf (mEx2 (mMk v m9) (-60 ≤ b ∧ b ≤ 60)) (mU P m9 ((P m9 + b) % L m9)) P)) (mA3 h0 a1 a2) := by
  refine mw_openY (cc := cX1_shift) (maxL := 3) (ret := (some .int)) (by decide) rfl (Nat.le_of_ble_eq_true rfl) ?_
  intro p e s m below meth c ls hC hr hlocks hB hl
  obtain ⟨hx, hb, hml, hown, hts⟩ := id hC
  obtain ⟨hP, hK⟩ := hB
  have hin : ∀ w ∈ wsX10, w ∈ wsX1_shift := by decide +kernel
  have hl : lv_has ls 3 [(0, .ref h0), (1, .int (mI (m9))), (2, .int (mI (b)))] := hl
  have hS : va_S (mA3 h0 a1 a2) s.heap s.heap [] := va_S.rf
  have hDD : ∀ (t f g : Int) (v : Nat → Int) (L P : Int → Int), va_D (mA3 h0 a1 a2) (mMW h0 a1 a2 cA t f g v L P) := fun t f g v L P => mD3 hdis (mA3_in h0 a1 a2)
  have hD := hDD t f g v L P
  have hok9 := hok
  obtain ⟨⟨o1, o2⟩, oL, ⟨o3, o4, o5, o6, o7, o8⟩, ⟨o9, o10, o11, o12, o13, o14, o15, o16⟩⟩ := hok9
  refine lv_aload_n hx hb dX1_shift_0 rfl (lv_at hl 0 rfl) ?_
  refine lv_aload_n hx hb dX1_shift_1 rfl (lv_at hl 0 rfl) ?_
  refine lv_iload_n hx hb dX1_shift_2 rfl (lv_at hl 1 rfl) ?_
  refine mw_cVi (rest := [.ref h0]) (q := (RX1, TX1, 13)) hC (c_X1_isMarket l D h0 a1 a2 cA cJ t f g v L P m9 (by omega) (by omega)) (cwV 1 hts gX1_shift_X1_isMarket rfl rfl rfl (by decide +kernel) ⟨Nat.le_of_ble_eq_true rfl, Nat.le_of_ble_eq_true rfl⟩) hK hP rfl rfl rfl hl.1 rfl (Nat.le_of_ble_eq_true rfl) ⟨Nat.zero_le _, Nat.zero_le _⟩ dX1_shift_3 ?_
  refine mw_zne (tgt := 13) hx hb dX1_shift_6 (by decide) (fun c_6 => ?_) (fun c_6 => ?_)
  · refine lv_iload_n hx hb dX1_shift_13 rfl (lv_at hl 2 rfl) ?_
    refine mw_i2l hx hb (by omega) dX1_shift_14 ?_
    refine mw_ldc2 hx hb (-60) (by decide +kernel) hown (hts (.constantLong RX1 59 (-60)) (by decide +kernel)) dX1_shift_15 ?_
    refine mw_ldc2 hx hb (60) (by decide +kernel) hown (hts (.constantLong RX1 50 (60)) (by decide +kernel)) dX1_shift_18 ?_
    refine mw_cSi (rest := [.ref h0]) hC (c_X1_in l b (-60) 60 (by omega) (by omega) (by omega)) (va_cwS 3 hts gX1_shift_X1_in rfl rfl rfl (by decide +kernel) ⟨Nat.le_of_ble_eq_true rfl, Nat.le_of_ble_eq_true rfl⟩) rfl hl.1 rfl (Nat.le_of_ble_eq_true rfl) ⟨Nat.zero_le _, Nat.zero_le _⟩ dX1_shift_21 ?_
    refine mw_zeq (tgt := 31) hx hb dX1_shift_24 (by decide) (fun c_24 => ?_) (fun c_24 => ?_)
    · refine mw_iconst hx hb dX1_shift_31 ?_
      refine mw_cM (rest := []) (q := (RX1, TX1, 13)) hC (c_X1_goesWell l D h0 a1 a2 cA cJ t f g v L P 2 (by omega) hdis) (cwV 1 hts gX1_shift_X1_goesWell rfl rfl rfl (by decide +kernel) ⟨Nat.le_of_ble_eq_true rfl, Nat.le_of_ble_eq_true rfl⟩) hK hP hS (fun _ h => h) rfl rfl rfl hl.1 rfl (Nat.le_of_ble_eq_true rfl) ⟨Nat.zero_le _, Nat.zero_le _⟩ dX1_shift_32 (fun _ H locs _ hP hS _ _ => ?_)
      have hP : va_P D vwCl (mMW h0 a1 a2 cA 2 f g v L P) H := hP
      have hD := hDD 2 f g v L P
      refine W.eq (g2 := F0 m 35 ls [.int (mI (mB (2 = 0)))]) rfl ?_
      refine mw_topi (y := 0) (mB_f (by omega)) ?_
      refine mw_if_ne (tgt := 40) hx hb (by omega) dX1_shift_35 (by decide) (fun c => absurd c (by decide)) (fun _ => ?_)
      refine mw_iconst hx hb dX1_shift_38 ?_
      exact mw_yretI hx hb hr hlocks dX1_shift_39 f g (fun h9 => by first | rfl | exact (mB_t (by omega)).symm | exact (mB_f (by omega)).symm | omega | (rw [mEx2_1 (by omega)] at h9; omega) | (rw [mEx2_2 (by omega) (by omega)] at h9; omega) | (exfalso; omega)) (mw_wk (by first | rfl | (rw [mEx2_0 (by omega) (by omega)]; omega) | (rw [mEx2_1 (by omega)]; omega) | (rw [mEx2_2 (by omega) (by omega)]; omega) | (exfalso; omega)) (mIf_1 (by first | (rw [mEx2_1 (by omega)]; omega) | (rw [mEx2_2 (by omega) (by omega)]; omega) | (exfalso; omega))).symm (mIf_1 (by first | (rw [mEx2_1 (by omega)]; omega) | (rw [mEx2_2 (by omega) (by omega)]; omega) | (exfalso; omega))).symm (mIf_1 (by first | (rw [mEx2_1 (by omega)]; omega) | (rw [mEx2_2 (by omega) (by omega)]; omega) | (exfalso; omega))).symm hP) hS
    · refine mw_iconst hx hb dX1_shift_27 ?_
      refine lv_goto (tgt := 32) hx hb dX1_shift_28 (by decide) ?_
      refine mw_cM (rest := []) (q := (RX1, TX1, 13)) hC (c_X1_goesWell l D h0 a1 a2 cA cJ t f g v L P 0 (by omega) hdis) (cwV 1 hts gX1_shift_X1_goesWell rfl rfl rfl (by decide +kernel) ⟨Nat.le_of_ble_eq_true rfl, Nat.le_of_ble_eq_true rfl⟩) hK hP hS (fun _ h => h) rfl rfl rfl hl.1 rfl (Nat.le_of_ble_eq_true rfl) ⟨Nat.zero_le _, Nat.zero_le _⟩ dX1_shift_32 (fun _ H locs _ hP hS _ _ => ?_)
      have hP : va_P D vwCl (mMW h0 a1 a2 cA 0 f g v L P) H := hP
      have hD := hDD 0 f g v L P
      refine W.eq (g2 := F0 m 35 ls [.int (mI (mB (0 = 0)))]) rfl ?_
      refine mw_topi (y := 1) (mB_t rfl) ?_
      refine mw_if_ne (tgt := 40) hx hb (by omega) dX1_shift_35 (by decide) (fun _ => ?_) (fun c => absurd c (by decide))
      obtain ⟨l1, l2, l3, l4⟩ := oL m9 (by omega) (by omega)
      refine lv_aload_n hx hb dX1_shift_40 rfl (lv_at hl 0 rfl) ?_
      refine mw_getM hx hb hts hin hown hK hP rfl 2 (by decide) (by decide +kernel) rfl rfl dX1_shift_41 ?_
      refine lv_iload_n hx hb dX1_shift_44 rfl (lv_at hl 1 rfl) ?_
      refine lv_aload_n hx hb dX1_shift_45 rfl (lv_at hl 0 rfl) ?_
      refine mw_getM hx hb hts hin hown hK hP rfl 2 (by decide) (by decide +kernel) rfl rfl dX1_shift_46 ?_
      refine lv_iload_n hx hb dX1_shift_49 rfl (lv_at hl 1 rfl) ?_
      refine mw_iald hx hb hK hP 2 rfl rfl (by omega) dX1_shift_50 ?_
      refine lv_iload_n hx hb dX1_shift_51 rfl (lv_at hl 2 rfl) ?_
      refine mw_iadd hx hb dX1_shift_52 ?_
      refine mw_i2l hx hb (by omega) dX1_shift_53 ?_
      refine lv_aload_n hx hb dX1_shift_54 rfl (lv_at hl 0 rfl) ?_
      refine mw_getM hx hb hts hin hown hK hP rfl 1 (by decide) (by decide +kernel) rfl rfl dX1_shift_55 ?_
      refine lv_iload_n hx hb dX1_shift_58 rfl (lv_at hl 1 rfl) ?_
      refine mw_iald hx hb hK hP 1 rfl rfl (by omega) dX1_shift_59 ?_
      refine mw_i2l hx hb (by omega) dX1_shift_60 ?_
      refine mw_cSl (rest := [.int (mI (m9)), .ref a2]) hC (c_X1_modulo l ((P m9) + b) (L m9) (by omega) (by omega) (by omega)) (va_cwS 2 hts gX1_shift_X1_modulo rfl rfl rfl (by decide +kernel) ⟨Nat.le_of_ble_eq_true rfl, Nat.le_of_ble_eq_true rfl⟩) rfl hl.1 rfl (Nat.le_of_ble_eq_true rfl) ⟨Nat.zero_le _, Nat.zero_le _⟩ dX1_shift_61 ?_
      refine mw_l2i hx hb dX1_shift_64 ?_
      refine mw_iast hx hb hK hP hD hS 2 rfl rfl (by omega) dX1_shift_65 (fun H locs hP hS => ?_)
      have hP : va_P D vwCl (mMW h0 a1 a2 cA 0 f g v L (mU P m9 (((P m9) + b) % (L m9)))) H := hP
      have hD := hDD 0 f g v L (mU P m9 (((P m9) + b) % (L m9)))
      refine lv_aload_n hx hb dX1_shift_66 rfl (lv_at hl 0 rfl) ?_
      refine mw_getM hx hb hts hin hown hK hP rfl 2 (by decide) (by decide +kernel) rfl rfl dX1_shift_67 ?_
      refine lv_iload_n hx hb dX1_shift_70 rfl (lv_at hl 1 rfl) ?_
      refine mw_iald hx hb hK hP 2 rfl rfl (by omega) dX1_shift_71 ?_
      exact mw_yretI hx hb hr hlocks dX1_shift_72 f g (fun h9 => by first | exact (if_pos rfl) | rfl | exact (mB_t (by omega)).symm | exact (mB_f (by omega)).symm | omega | (rw [mEx2_1 (by omega)] at h9; omega) | (rw [mEx2_2 (by omega) (by omega)] at h9; omega) | (exfalso; omega)) (mw_wk (by first | rfl | (rw [mEx2_0 (by omega) (by omega)]; omega) | (rw [mEx2_1 (by omega)]; omega) | (rw [mEx2_2 (by omega) (by omega)]; omega) | (exfalso; omega)) (mIf_0 (mEx2_0 (by omega) (by omega))).symm (mIf_0 (mEx2_0 (by omega) (by omega))).symm (mIf_0 (mEx2_0 (by omega) (by omega))).symm hP) hS
  · refine mw_iconst hx hb dX1_shift_9 ?_
    refine lv_goto (tgt := 32) hx hb dX1_shift_10 (by decide) ?_
    refine mw_cM (rest := []) (q := (RX1, TX1, 13)) hC (c_X1_goesWell l D h0 a1 a2 cA cJ t f g v L P 1 (by omega) hdis) (cwV 1 hts gX1_shift_X1_goesWell rfl rfl rfl (by decide +kernel) ⟨Nat.le_of_ble_eq_true rfl, Nat.le_of_ble_eq_true rfl⟩) hK hP hS (fun _ h => h) rfl rfl rfl hl.1 rfl (Nat.le_of_ble_eq_true rfl) ⟨Nat.zero_le _, Nat.zero_le _⟩ dX1_shift_32 (fun _ H locs _ hP hS _ _ => ?_)
    have hP : va_P D vwCl (mMW h0 a1 a2 cA 1 f g v L P) H := hP
    have hD := hDD 1 f g v L P
    refine W.eq (g2 := F0 m 35 ls [.int (mI (mB (1 = 0)))]) rfl ?_
    refine mw_topi (y := 0) (mB_f (by omega)) ?_
    refine mw_if_ne (tgt := 40) hx hb (by omega) dX1_shift_35 (by decide) (fun c => absurd c (by decide)) (fun _ => ?_)
    refine mw_iconst hx hb dX1_shift_38 ?_
    exact mw_yretI hx hb hr hlocks dX1_shift_39 f g (fun h9 => by first | rfl | exact (mB_t (by omega)).symm | exact (mB_f (by omega)).symm | omega | (rw [mEx2_1 (by omega)] at h9; omega) | (rw [mEx2_2 (by omega) (by omega)] at h9; omega) | (exfalso; omega)) (mw_wk (by first | rfl | (rw [mEx2_0 (by omega) (by omega)]; omega) | (rw [mEx2_1 (by omega)]; omega) | (rw [mEx2_2 (by omega) (by omega)]; omega) | (exfalso; omega)) (mIf_1 (by first | (rw [mEx2_1 (by omega)]; omega) | (rw [mEx2_2 (by omega) (by omega)]; omega) | (exfalso; omega))).symm (mIf_1 (by first | (rw [mEx2_1 (by omega)]; omega) | (rw [mEx2_2 (by omega) (by omega)]; omega) | (exfalso; omega))).symm (mIf_1 (by first | (rw [mEx2_1 (by omega)]; omega) | (rw [mEx2_2 (by omega) (by omega)]; omega) | (exfalso; omega))).symm hP) hS

set_option maxHeartbeats 400000 in
set_option maxRecDepth 100000 in
theorem y_X1_setMoon (l : Launch) (D : va_G) (h0 a1 a2 : Nat) (cA cJ : ClassId) (t f g : Int) (v : Nat → Int) (L P : Int → Int) (n d s9 : Int) (hn : mRI n) (hd9 : mRI d) (hs9 : mRI s9) (hok : mOK v L P) (hdis : mDis h0 a1 a2) : mY l yX1_setMoon wsX1_setMoon ({ frames := 1, cells := 0, slots := 0, locals := 25 }) [.ref h0, .int (mI (n)), .int (mI (d)), .int (mI (s9))] D (mMW h0 a1 a2 cA t f g v L P) (mTy cA cJ) (fun _ => none) (fun _ => True) (fun u => mMW h0 a1 a2 cA (((mEx1 ((1 ≤ d ∧ d ≤ 100) ∧ (2 * d ≤ n ∧ n ≤ 100 * d) ∧ -1000 ≤ s9 ∧ s9 ≤ 1000) : Nat)) : Int) u.2.1 u.2.2 (mIf (mEx1 ((1 ≤ d ∧ d ≤ 100) ∧ (2 * d ≤ n ∧ n ≤ 100 * d) ∧ -1000 ≤ s9 ∧ s9 ≤ 1000)) (mPut (mPut (mPut v 1 n) 2 d) 3 s9) v) (mIf (mEx1 ((1 ≤ d ∧ d ≤ 100) ∧ (2 * d ≤ n ∧ n ≤ 100 * d) ∧ -1000 ≤ s9 ∧ s9 ≤ 1000)) L L) (mIf (mEx1 ((1 ≤ d ∧ d ≤ 100) ∧ (2 * d ≤ n ∧ n ≤ 100 * d) ∧ -1000 ≤ s9 ∧ s9 ≤ 1000)) P P)) (mA3 h0 a1 a2) := by
  refine mw_openY (cc := cX1_setMoon) (maxL := 5) (ret := none) (by decide) rfl (Nat.le_of_ble_eq_true rfl) ?_
  intro p e s m below meth c ls hC hr hlocks hB hl
  obtain ⟨hx, hb, hml, hown, hts⟩ := id hC
  obtain ⟨hP, hK⟩ := hB
  have hin : ∀ w ∈ wsX10, w ∈ wsX1_setMoon := by decide +kernel
  have hl : lv_has ls 5 [(0, .ref h0), (1, .int (mI (n))), (2, .int (mI (d))), (3, .int (mI (s9)))] := hl
  have hS : va_S (mA3 h0 a1 a2) s.heap s.heap [] := va_S.rf
  have hDD : ∀ (t f g : Int) (v : Nat → Int) (L P : Int → Int), va_D (mA3 h0 a1 a2) (mMW h0 a1 a2 cA t f g v L P) := fun t f g v L P => mD3 hdis (mA3_in h0 a1 a2)
  have hD := hDD t f g v L P
  refine lv_iload_n hx hb dX1_setMoon_0 rfl (lv_at hl 2 rfl) ?_
  refine mw_i2l hx hb (by omega) dX1_setMoon_1 ?_
  refine mw_lconst hx hb 1 (by decide +kernel) dX1_setMoon_2 ?_
  refine mw_ldc2 hx hb (100) (by decide +kernel) hown (hts (.constantLong RX1 61 (100)) (by decide +kernel)) dX1_setMoon_3 ?_
  refine mw_cSi (rest := []) hC (c_X1_in l d 1 100 (by omega) (by omega) (by omega)) (va_cwS 3 hts gX1_setMoon_X1_in rfl rfl rfl (by decide +kernel) ⟨Nat.le_of_ble_eq_true rfl, Nat.le_of_ble_eq_true rfl⟩) rfl hl.1 rfl (Nat.le_of_ble_eq_true rfl) ⟨Nat.zero_le _, Nat.zero_le _⟩ dX1_setMoon_6 ?_
  refine mw_zeq (tgt := 50) hx hb dX1_setMoon_9 (by decide) (fun c_9 => ?_) (fun c_9 => ?_)
  · refine mw_iconst hx hb dX1_setMoon_50 ?_
    refine lv_istore (lv' := [(4, .int (mI (0))), (0, .ref h0), (1, .int (mI (n))), (2, .int (mI (d))), (3, .int (mI (s9)))]) hx hb dX1_setMoon_51 hl (by decide) rfl (fun ls hl => ?_)
    refine lv_aload_n hx hb dX1_setMoon_53 rfl (lv_at hl 1 rfl) ?_
    refine lv_iload hx hb dX1_setMoon_54 (lv_at hl 0 rfl) ?_
    refine mw_if_eq (tgt := 63) hx hb (by omega) dX1_setMoon_56 (by decide) (fun _ => ?_) (fun c => absurd (by decide) c)
    refine mw_iconst hx hb dX1_setMoon_63 ?_
    refine mw_cM (rest := []) (q := (RX1, TX1, 13)) hC (c_X1_goesWell l D h0 a1 a2 cA cJ t f g v L P 1 (by omega) hdis) (cwV 1 hts gX1_setMoon_X1_goesWell rfl rfl rfl (by decide +kernel) ⟨Nat.le_of_ble_eq_true rfl, Nat.le_of_ble_eq_true rfl⟩) hK hP hS (fun _ h => h) rfl rfl rfl hl.1 rfl (Nat.le_of_ble_eq_true rfl) ⟨Nat.zero_le _, Nat.zero_le _⟩ dX1_setMoon_64 (fun _ H locs _ hP hS _ _ => ?_)
    have hP : va_P D vwCl (mMW h0 a1 a2 cA 1 f g v L P) H := hP
    have hD := hDD 1 f g v L P
    refine W.eq (g2 := F0 m 67 ls [.int (mI (mB (1 = 0)))]) rfl ?_
    refine mw_topi (y := 0) (mB_f (by omega)) ?_
    refine mw_if_eq (tgt := 85) hx hb (by omega) dX1_setMoon_67 (by decide) (fun _ => ?_) (fun c => absurd (by decide) c)
    exact mw_yretV hx hb hr hlocks dX1_setMoon_85 f g trivial (mw_wk (by first | rfl | (rw [mEx1_0 (by omega)]; omega) | (rw [mEx1_1 (by omega)]; omega) | (exfalso; omega)) (mIf_1 (by first | (rw [mEx1_1 (by omega)]; omega) | (exfalso; omega))).symm (mIf_1 (by first | (rw [mEx1_1 (by omega)]; omega) | (exfalso; omega))).symm (mIf_1 (by first | (rw [mEx1_1 (by omega)]; omega) | (exfalso; omega))).symm hP) hS
  · refine lv_iload_n hx hb dX1_setMoon_12 rfl (lv_at hl 1 rfl) ?_
    refine mw_i2l hx hb (by omega) dX1_setMoon_13 ?_
    refine mw_ldc2 hx hb (2) (by decide +kernel) hown (hts (.constantLong RX1 63 (2)) (by decide +kernel)) dX1_setMoon_14 ?_
    refine lv_iload_n hx hb dX1_setMoon_17 rfl (lv_at hl 2 rfl) ?_
    refine mw_i2l hx hb (by omega) dX1_setMoon_18 ?_
    refine mw_lmul hx hb dX1_setMoon_19 ?_
    refine mw_ldc2 hx hb (100) (by decide +kernel) hown (hts (.constantLong RX1 61 (100)) (by decide +kernel)) dX1_setMoon_20 ?_
    refine lv_iload_n hx hb dX1_setMoon_23 rfl (lv_at hl 2 rfl) ?_
    refine mw_i2l hx hb (by omega) dX1_setMoon_24 ?_
    refine mw_lmul hx hb dX1_setMoon_25 ?_
    refine mw_cSi (rest := []) hC (c_X1_in l n (2 * d) (100 * d) (by omega) (by omega) (by omega)) (va_cwS 3 hts gX1_setMoon_X1_in rfl rfl rfl (by decide +kernel) ⟨Nat.le_of_ble_eq_true rfl, Nat.le_of_ble_eq_true rfl⟩) rfl hl.1 rfl (Nat.le_of_ble_eq_true rfl) ⟨Nat.zero_le _, Nat.zero_le _⟩ dX1_setMoon_26 ?_
    refine mw_zeq (tgt := 50) hx hb dX1_setMoon_29 (by decide) (fun c_29 => ?_) (fun c_29 => ?_)
    · refine mw_iconst hx hb dX1_setMoon_50 ?_
      refine lv_istore (lv' := [(4, .int (mI (0))), (0, .ref h0), (1, .int (mI (n))), (2, .int (mI (d))), (3, .int (mI (s9)))]) hx hb dX1_setMoon_51 hl (by decide) rfl (fun ls hl => ?_)
      refine lv_aload_n hx hb dX1_setMoon_53 rfl (lv_at hl 1 rfl) ?_
      refine lv_iload hx hb dX1_setMoon_54 (lv_at hl 0 rfl) ?_
      refine mw_if_eq (tgt := 63) hx hb (by omega) dX1_setMoon_56 (by decide) (fun _ => ?_) (fun c => absurd (by decide) c)
      refine mw_iconst hx hb dX1_setMoon_63 ?_
      refine mw_cM (rest := []) (q := (RX1, TX1, 13)) hC (c_X1_goesWell l D h0 a1 a2 cA cJ t f g v L P 1 (by omega) hdis) (cwV 1 hts gX1_setMoon_X1_goesWell rfl rfl rfl (by decide +kernel) ⟨Nat.le_of_ble_eq_true rfl, Nat.le_of_ble_eq_true rfl⟩) hK hP hS (fun _ h => h) rfl rfl rfl hl.1 rfl (Nat.le_of_ble_eq_true rfl) ⟨Nat.zero_le _, Nat.zero_le _⟩ dX1_setMoon_64 (fun _ H locs _ hP hS _ _ => ?_)
      have hP : va_P D vwCl (mMW h0 a1 a2 cA 1 f g v L P) H := hP
      have hD := hDD 1 f g v L P
      refine W.eq (g2 := F0 m 67 ls [.int (mI (mB (1 = 0)))]) rfl ?_
      refine mw_topi (y := 0) (mB_f (by omega)) ?_
      refine mw_if_eq (tgt := 85) hx hb (by omega) dX1_setMoon_67 (by decide) (fun _ => ?_) (fun c => absurd (by decide) c)
      exact mw_yretV hx hb hr hlocks dX1_setMoon_85 f g trivial (mw_wk (by first | rfl | (rw [mEx1_0 (by omega)]; omega) | (rw [mEx1_1 (by omega)]; omega) | (exfalso; omega)) (mIf_1 (by first | (rw [mEx1_1 (by omega)]; omega) | (exfalso; omega))).symm (mIf_1 (by first | (rw [mEx1_1 (by omega)]; omega) | (exfalso; omega))).symm (mIf_1 (by first | (rw [mEx1_1 (by omega)]; omega) | (exfalso; omega))).symm hP) hS
    · refine lv_iload_n hx hb dX1_setMoon_32 rfl (lv_at hl 3 rfl) ?_
      refine mw_i2l hx hb (by omega) dX1_setMoon_33 ?_
      refine mw_ldc2 hx hb (-1000) (by decide +kernel) hown (hts (.constantLong RX1 65 (-1000)) (by decide +kernel)) dX1_setMoon_34 ?_
      refine mw_ldc2 hx hb (1000) (by decide +kernel) hown (hts (.constantLong RX1 67 (1000)) (by decide +kernel)) dX1_setMoon_37 ?_
      refine mw_cSi (rest := []) hC (c_X1_in l s9 (-1000) 1000 (by omega) (by omega) (by omega)) (va_cwS 3 hts gX1_setMoon_X1_in rfl rfl rfl (by decide +kernel) ⟨Nat.le_of_ble_eq_true rfl, Nat.le_of_ble_eq_true rfl⟩) rfl hl.1 rfl (Nat.le_of_ble_eq_true rfl) ⟨Nat.zero_le _, Nat.zero_le _⟩ dX1_setMoon_40 ?_
      refine mw_zeq (tgt := 50) hx hb dX1_setMoon_43 (by decide) (fun c_43 => ?_) (fun c_43 => ?_)
      · refine mw_iconst hx hb dX1_setMoon_50 ?_
        refine lv_istore (lv' := [(4, .int (mI (0))), (0, .ref h0), (1, .int (mI (n))), (2, .int (mI (d))), (3, .int (mI (s9)))]) hx hb dX1_setMoon_51 hl (by decide) rfl (fun ls hl => ?_)
        refine lv_aload_n hx hb dX1_setMoon_53 rfl (lv_at hl 1 rfl) ?_
        refine lv_iload hx hb dX1_setMoon_54 (lv_at hl 0 rfl) ?_
        refine mw_if_eq (tgt := 63) hx hb (by omega) dX1_setMoon_56 (by decide) (fun _ => ?_) (fun c => absurd (by decide) c)
        refine mw_iconst hx hb dX1_setMoon_63 ?_
        refine mw_cM (rest := []) (q := (RX1, TX1, 13)) hC (c_X1_goesWell l D h0 a1 a2 cA cJ t f g v L P 1 (by omega) hdis) (cwV 1 hts gX1_setMoon_X1_goesWell rfl rfl rfl (by decide +kernel) ⟨Nat.le_of_ble_eq_true rfl, Nat.le_of_ble_eq_true rfl⟩) hK hP hS (fun _ h => h) rfl rfl rfl hl.1 rfl (Nat.le_of_ble_eq_true rfl) ⟨Nat.zero_le _, Nat.zero_le _⟩ dX1_setMoon_64 (fun _ H locs _ hP hS _ _ => ?_)
        have hP : va_P D vwCl (mMW h0 a1 a2 cA 1 f g v L P) H := hP
        have hD := hDD 1 f g v L P
        refine W.eq (g2 := F0 m 67 ls [.int (mI (mB (1 = 0)))]) rfl ?_
        refine mw_topi (y := 0) (mB_f (by omega)) ?_
        refine mw_if_eq (tgt := 85) hx hb (by omega) dX1_setMoon_67 (by decide) (fun _ => ?_) (fun c => absurd (by decide) c)
        exact mw_yretV hx hb hr hlocks dX1_setMoon_85 f g trivial (mw_wk (by first | rfl | (rw [mEx1_0 (by omega)]; omega) | (rw [mEx1_1 (by omega)]; omega) | (exfalso; omega)) (mIf_1 (by first | (rw [mEx1_1 (by omega)]; omega) | (exfalso; omega))).symm (mIf_1 (by first | (rw [mEx1_1 (by omega)]; omega) | (exfalso; omega))).symm (mIf_1 (by first | (rw [mEx1_1 (by omega)]; omega) | (exfalso; omega))).symm hP) hS
      · refine mw_iconst hx hb dX1_setMoon_46 ?_
        refine lv_goto (tgt := 51) hx hb dX1_setMoon_47 (by decide) ?_
        refine lv_istore (lv' := [(4, .int (mI (1))), (0, .ref h0), (1, .int (mI (n))), (2, .int (mI (d))), (3, .int (mI (s9)))]) hx hb dX1_setMoon_51 hl (by decide) rfl (fun ls hl => ?_)
        refine lv_aload_n hx hb dX1_setMoon_53 rfl (lv_at hl 1 rfl) ?_
        refine lv_iload hx hb dX1_setMoon_54 (lv_at hl 0 rfl) ?_
        refine mw_if_eq (tgt := 63) hx hb (by omega) dX1_setMoon_56 (by decide) (fun c => absurd c (by decide)) (fun _ => ?_)
        refine mw_iconst hx hb dX1_setMoon_59 ?_
        refine lv_goto (tgt := 64) hx hb dX1_setMoon_60 (by decide) ?_
        refine mw_cM (rest := []) (q := (RX1, TX1, 13)) hC (c_X1_goesWell l D h0 a1 a2 cA cJ t f g v L P 0 (by omega) hdis) (cwV 1 hts gX1_setMoon_X1_goesWell rfl rfl rfl (by decide +kernel) ⟨Nat.le_of_ble_eq_true rfl, Nat.le_of_ble_eq_true rfl⟩) hK hP hS (fun _ h => h) rfl rfl rfl hl.1 rfl (Nat.le_of_ble_eq_true rfl) ⟨Nat.zero_le _, Nat.zero_le _⟩ dX1_setMoon_64 (fun _ H locs _ hP hS _ _ => ?_)
        have hP : va_P D vwCl (mMW h0 a1 a2 cA 0 f g v L P) H := hP
        have hD := hDD 0 f g v L P
        refine W.eq (g2 := F0 m 67 ls [.int (mI (mB (0 = 0)))]) rfl ?_
        refine mw_topi (y := 1) (mB_t rfl) ?_
        refine mw_if_eq (tgt := 85) hx hb (by omega) dX1_setMoon_67 (by decide) (fun c => absurd c (by decide)) (fun _ => ?_)
        refine lv_aload_n hx hb dX1_setMoon_70 rfl (lv_at hl 1 rfl) ?_
        refine lv_iload_n hx hb dX1_setMoon_71 rfl (lv_at hl 2 rfl) ?_
        refine mw_putM hx hb hts hin hown hK hP hD hS rfl 4 (by decide) (Nat.le_of_ble_eq_true rfl) (by decide +kernel) rfl rfl (by decide +kernel) dX1_setMoon_72 (fun H locs hP hS => ?_)
        have hP : va_P D vwCl (mMW h0 a1 a2 cA 0 f g (mPut v 1 n) L P) H := hP
        have hD := hDD 0 f g (mPut v 1 n) L P
        refine lv_aload_n hx hb dX1_setMoon_75 rfl (lv_at hl 1 rfl) ?_
        refine lv_iload_n hx hb dX1_setMoon_76 rfl (lv_at hl 3 rfl) ?_
        refine mw_putM hx hb hts hin hown hK hP hD hS rfl 5 (by decide) (Nat.le_of_ble_eq_true rfl) (by decide +kernel) rfl rfl (by decide +kernel) dX1_setMoon_77 (fun H locs hP hS => ?_)
        have hP : va_P D vwCl (mMW h0 a1 a2 cA 0 f g (mPut (mPut v 1 n) 2 d) L P) H := hP
        have hD := hDD 0 f g (mPut (mPut v 1 n) 2 d) L P
        refine lv_aload_n hx hb dX1_setMoon_80 rfl (lv_at hl 1 rfl) ?_
        refine lv_iload_n hx hb dX1_setMoon_81 rfl (lv_at hl 4 rfl) ?_
        refine mw_putM hx hb hts hin hown hK hP hD hS rfl 6 (by decide) (Nat.le_of_ble_eq_true rfl) (by decide +kernel) rfl rfl (by decide +kernel) dX1_setMoon_82 (fun H locs hP hS => ?_)
        have hP : va_P D vwCl (mMW h0 a1 a2 cA 0 f g (mPut (mPut (mPut v 1 n) 2 d) 3 s9) L P) H := hP
        have hD := hDD 0 f g (mPut (mPut (mPut v 1 n) 2 d) 3 s9) L P
        exact mw_yretV hx hb hr hlocks dX1_setMoon_85 f g trivial (mw_wk (by first | rfl | (rw [mEx1_0 (by omega)]; omega) | (rw [mEx1_1 (by omega)]; omega) | (exfalso; omega)) (mIf_0 (mEx1_0 (by omega))).symm (mIf_0 (mEx1_0 (by omega))).symm (mIf_0 (mEx1_0 (by omega))).symm hP) hS

set_option maxHeartbeats 400000 in
set_option maxRecDepth 100000 in
theorem y_X1_setYear (l : Launch) (D : va_G) (h0 a1 a2 : Nat) (cA cJ : ClassId) (t f g : Int) (v : Nat → Int) (L P : Int → Int) (y a b c9 : Int) (hy : mRI y) (ha : mRI a) (hb9 : mRI b) (hc9 : mRI c9) (hok : mOK v L P) (hdis : mDis h0 a1 a2) : mY l yX1_setYear wsX1_setYear ({ frames := 1, cells := 0, slots := 0, locals := 25 }) [.ref h0, .int (mI (y)), .int (mI (a)), .int (mI (b)), .int (mI (c9))] D (mMW h0 a1 a2 cA t f g v L P) (mTy cA cJ) (fun _ => none) (fun _ => True) (fun u => mMW h0 a1 a2 cA (((mEx1 ((100 ≤ y ∧ y ≤ 500) ∧ (1 ≤ c9 ∧ c9 ≤ 400) ∧ (0 ≤ a ∧ a ≤ c9) ∧ 0 ≤ b ∧ b ≤ c9 - 1) : Nat)) : Int) u.2.1 u.2.2 (mIf (mEx1 ((100 ≤ y ∧ y ≤ 500) ∧ (1 ≤ c9 ∧ c9 ≤ 400) ∧ (0 ≤ a ∧ a ≤ c9) ∧ 0 ≤ b ∧ b ≤ c9 - 1)) (mPut (mPut (mPut (mPut v 4 y) 5 a) 6 b) 7 c9) v) (mIf (mEx1 ((100 ≤ y ∧ y ≤ 500) ∧ (1 ≤ c9 ∧ c9 ≤ 400) ∧ (0 ≤ a ∧ a ≤ c9) ∧ 0 ≤ b ∧ b ≤ c9 - 1)) L L) (mIf (mEx1 ((100 ≤ y ∧ y ≤ 500) ∧ (1 ≤ c9 ∧ c9 ≤ 400) ∧ (0 ≤ a ∧ a ≤ c9) ∧ 0 ≤ b ∧ b ≤ c9 - 1)) P P)) (mA3 h0 a1 a2) := by
  refine mw_openY (cc := cX1_setYear) (maxL := 6) (ret := none) (by decide) rfl (Nat.le_of_ble_eq_true rfl) ?_
  intro p e s m below meth c ls hC hr hlocks hB hl
  obtain ⟨hx, hb, hml, hown, hts⟩ := id hC
  obtain ⟨hP, hK⟩ := hB
  have hin : ∀ w ∈ wsX10, w ∈ wsX1_setYear := by decide +kernel
  have hl : lv_has ls 6 [(0, .ref h0), (1, .int (mI (y))), (2, .int (mI (a))), (3, .int (mI (b))), (4, .int (mI (c9)))] := hl
  have hS : va_S (mA3 h0 a1 a2) s.heap s.heap [] := va_S.rf
  have hDD : ∀ (t f g : Int) (v : Nat → Int) (L P : Int → Int), va_D (mA3 h0 a1 a2) (mMW h0 a1 a2 cA t f g v L P) := fun t f g v L P => mD3 hdis (mA3_in h0 a1 a2)
  have hD := hDD t f g v L P
  refine lv_iload_n hx hb dX1_setYear_0 rfl (lv_at hl 1 rfl) ?_
  refine mw_i2l hx hb (by omega) dX1_setYear_1 ?_
  refine mw_ldc2 hx hb (100) (by decide +kernel) hown (hts (.constantLong RX1 61 (100)) (by decide +kernel)) dX1_setYear_2 ?_
  refine mw_ldc2 hx hb (500) (by decide +kernel) hown (hts (.constantLong RX1 72 (500)) (by decide +kernel)) dX1_setYear_5 ?_
  refine mw_cSi (rest := []) hC (c_X1_in l y 100 500 (by omega) (by omega) (by omega)) (va_cwS 3 hts gX1_setYear_X1_in rfl rfl rfl (by decide +kernel) ⟨Nat.le_of_ble_eq_true rfl, Nat.le_of_ble_eq_true rfl⟩) rfl hl.1 rfl (Nat.le_of_ble_eq_true rfl) ⟨Nat.zero_le _, Nat.zero_le _⟩ dX1_setYear_8 ?_
  refine mw_zeq (tgt := 57) hx hb dX1_setYear_11 (by decide) (fun c_11 => ?_) (fun c_11 => ?_)
  · refine mw_iconst hx hb dX1_setYear_57 ?_
    refine lv_istore (lv' := [(5, .int (mI (0))), (0, .ref h0), (1, .int (mI (y))), (2, .int (mI (a))), (3, .int (mI (b))), (4, .int (mI (c9)))]) hx hb dX1_setYear_58 hl (by decide) rfl (fun ls hl => ?_)
    refine lv_aload_n hx hb dX1_setYear_60 rfl (lv_at hl 1 rfl) ?_
    refine lv_iload hx hb dX1_setYear_61 (lv_at hl 0 rfl) ?_
    refine mw_if_eq (tgt := 70) hx hb (by omega) dX1_setYear_63 (by decide) (fun _ => ?_) (fun c => absurd (by decide) c)
    refine mw_iconst hx hb dX1_setYear_70 ?_
    refine mw_cM (rest := []) (q := (RX1, TX1, 13)) hC (c_X1_goesWell l D h0 a1 a2 cA cJ t f g v L P 1 (by omega) hdis) (cwV 1 hts gX1_setYear_X1_goesWell rfl rfl rfl (by decide +kernel) ⟨Nat.le_of_ble_eq_true rfl, Nat.le_of_ble_eq_true rfl⟩) hK hP hS (fun _ h => h) rfl rfl rfl hl.1 rfl (Nat.le_of_ble_eq_true rfl) ⟨Nat.zero_le _, Nat.zero_le _⟩ dX1_setYear_71 (fun _ H locs _ hP hS _ _ => ?_)
    have hP : va_P D vwCl (mMW h0 a1 a2 cA 1 f g v L P) H := hP
    have hD := hDD 1 f g v L P
    refine W.eq (g2 := F0 m 74 ls [.int (mI (mB (1 = 0)))]) rfl ?_
    refine mw_topi (y := 0) (mB_f (by omega)) ?_
    refine mw_if_eq (tgt := 98) hx hb (by omega) dX1_setYear_74 (by decide) (fun _ => ?_) (fun c => absurd (by decide) c)
    exact mw_yretV hx hb hr hlocks dX1_setYear_98 f g trivial (mw_wk (by first | rfl | (rw [mEx1_0 (by omega)]; omega) | (rw [mEx1_1 (by omega)]; omega) | (exfalso; omega)) (mIf_1 (by first | (rw [mEx1_1 (by omega)]; omega) | (exfalso; omega))).symm (mIf_1 (by first | (rw [mEx1_1 (by omega)]; omega) | (exfalso; omega))).symm (mIf_1 (by first | (rw [mEx1_1 (by omega)]; omega) | (exfalso; omega))).symm hP) hS
  · refine lv_iload hx hb dX1_setYear_14 (lv_at hl 4 rfl) ?_
    refine mw_i2l hx hb (by omega) dX1_setYear_16 ?_
    refine mw_lconst hx hb 1 (by decide +kernel) dX1_setYear_17 ?_
    refine mw_ldc2 hx hb (400) (by decide +kernel) hown (hts (.constantLong RX1 74 (400)) (by decide +kernel)) dX1_setYear_18 ?_
    refine mw_cSi (rest := []) hC (c_X1_in l c9 1 400 (by omega) (by omega) (by omega)) (va_cwS 3 hts gX1_setYear_X1_in rfl rfl rfl (by decide +kernel) ⟨Nat.le_of_ble_eq_true rfl, Nat.le_of_ble_eq_true rfl⟩) rfl hl.1 rfl (Nat.le_of_ble_eq_true rfl) ⟨Nat.zero_le _, Nat.zero_le _⟩ dX1_setYear_21 ?_
    refine mw_zeq (tgt := 57) hx hb dX1_setYear_24 (by decide) (fun c_24 => ?_) (fun c_24 => ?_)
    · refine mw_iconst hx hb dX1_setYear_57 ?_
      refine lv_istore (lv' := [(5, .int (mI (0))), (0, .ref h0), (1, .int (mI (y))), (2, .int (mI (a))), (3, .int (mI (b))), (4, .int (mI (c9)))]) hx hb dX1_setYear_58 hl (by decide) rfl (fun ls hl => ?_)
      refine lv_aload_n hx hb dX1_setYear_60 rfl (lv_at hl 1 rfl) ?_
      refine lv_iload hx hb dX1_setYear_61 (lv_at hl 0 rfl) ?_
      refine mw_if_eq (tgt := 70) hx hb (by omega) dX1_setYear_63 (by decide) (fun _ => ?_) (fun c => absurd (by decide) c)
      refine mw_iconst hx hb dX1_setYear_70 ?_
      refine mw_cM (rest := []) (q := (RX1, TX1, 13)) hC (c_X1_goesWell l D h0 a1 a2 cA cJ t f g v L P 1 (by omega) hdis) (cwV 1 hts gX1_setYear_X1_goesWell rfl rfl rfl (by decide +kernel) ⟨Nat.le_of_ble_eq_true rfl, Nat.le_of_ble_eq_true rfl⟩) hK hP hS (fun _ h => h) rfl rfl rfl hl.1 rfl (Nat.le_of_ble_eq_true rfl) ⟨Nat.zero_le _, Nat.zero_le _⟩ dX1_setYear_71 (fun _ H locs _ hP hS _ _ => ?_)
      have hP : va_P D vwCl (mMW h0 a1 a2 cA 1 f g v L P) H := hP
      have hD := hDD 1 f g v L P
      refine W.eq (g2 := F0 m 74 ls [.int (mI (mB (1 = 0)))]) rfl ?_
      refine mw_topi (y := 0) (mB_f (by omega)) ?_
      refine mw_if_eq (tgt := 98) hx hb (by omega) dX1_setYear_74 (by decide) (fun _ => ?_) (fun c => absurd (by decide) c)
      exact mw_yretV hx hb hr hlocks dX1_setYear_98 f g trivial (mw_wk (by first | rfl | (rw [mEx1_0 (by omega)]; omega) | (rw [mEx1_1 (by omega)]; omega) | (exfalso; omega)) (mIf_1 (by first | (rw [mEx1_1 (by omega)]; omega) | (exfalso; omega))).symm (mIf_1 (by first | (rw [mEx1_1 (by omega)]; omega) | (exfalso; omega))).symm (mIf_1 (by first | (rw [mEx1_1 (by omega)]; omega) | (exfalso; omega))).symm hP) hS
    · refine lv_iload_n hx hb dX1_setYear_27 rfl (lv_at hl 2 rfl) ?_
      refine mw_i2l hx hb (by omega) dX1_setYear_28 ?_
      refine mw_lconst hx hb 0 (by decide +kernel) dX1_setYear_29 ?_
      refine lv_iload hx hb dX1_setYear_30 (lv_at hl 4 rfl) ?_
      refine mw_i2l hx hb (by omega) dX1_setYear_32 ?_
      refine mw_cSi (rest := []) hC (c_X1_in l a 0 c9 (by omega) (by omega) (by omega)) (va_cwS 3 hts gX1_setYear_X1_in rfl rfl rfl (by decide +kernel) ⟨Nat.le_of_ble_eq_true rfl, Nat.le_of_ble_eq_true rfl⟩) rfl hl.1 rfl (Nat.le_of_ble_eq_true rfl) ⟨Nat.zero_le _, Nat.zero_le _⟩ dX1_setYear_33 ?_
      refine mw_zeq (tgt := 57) hx hb dX1_setYear_36 (by decide) (fun c_36 => ?_) (fun c_36 => ?_)
      · refine mw_iconst hx hb dX1_setYear_57 ?_
        refine lv_istore (lv' := [(5, .int (mI (0))), (0, .ref h0), (1, .int (mI (y))), (2, .int (mI (a))), (3, .int (mI (b))), (4, .int (mI (c9)))]) hx hb dX1_setYear_58 hl (by decide) rfl (fun ls hl => ?_)
        refine lv_aload_n hx hb dX1_setYear_60 rfl (lv_at hl 1 rfl) ?_
        refine lv_iload hx hb dX1_setYear_61 (lv_at hl 0 rfl) ?_
        refine mw_if_eq (tgt := 70) hx hb (by omega) dX1_setYear_63 (by decide) (fun _ => ?_) (fun c => absurd (by decide) c)
        refine mw_iconst hx hb dX1_setYear_70 ?_
        refine mw_cM (rest := []) (q := (RX1, TX1, 13)) hC (c_X1_goesWell l D h0 a1 a2 cA cJ t f g v L P 1 (by omega) hdis) (cwV 1 hts gX1_setYear_X1_goesWell rfl rfl rfl (by decide +kernel) ⟨Nat.le_of_ble_eq_true rfl, Nat.le_of_ble_eq_true rfl⟩) hK hP hS (fun _ h => h) rfl rfl rfl hl.1 rfl (Nat.le_of_ble_eq_true rfl) ⟨Nat.zero_le _, Nat.zero_le _⟩ dX1_setYear_71 (fun _ H locs _ hP hS _ _ => ?_)
        have hP : va_P D vwCl (mMW h0 a1 a2 cA 1 f g v L P) H := hP
        have hD := hDD 1 f g v L P
        refine W.eq (g2 := F0 m 74 ls [.int (mI (mB (1 = 0)))]) rfl ?_
        refine mw_topi (y := 0) (mB_f (by omega)) ?_
        refine mw_if_eq (tgt := 98) hx hb (by omega) dX1_setYear_74 (by decide) (fun _ => ?_) (fun c => absurd (by decide) c)
        exact mw_yretV hx hb hr hlocks dX1_setYear_98 f g trivial (mw_wk (by first | rfl | (rw [mEx1_0 (by omega)]; omega) | (rw [mEx1_1 (by omega)]; omega) | (exfalso; omega)) (mIf_1 (by first | (rw [mEx1_1 (by omega)]; omega) | (exfalso; omega))).symm (mIf_1 (by first | (rw [mEx1_1 (by omega)]; omega) | (exfalso; omega))).symm (mIf_1 (by first | (rw [mEx1_1 (by omega)]; omega) | (exfalso; omega))).symm hP) hS
      · refine lv_iload_n hx hb dX1_setYear_39 rfl (lv_at hl 3 rfl) ?_
        refine mw_i2l hx hb (by omega) dX1_setYear_40 ?_
        refine mw_lconst hx hb 0 (by decide +kernel) dX1_setYear_41 ?_
        refine lv_iload hx hb dX1_setYear_42 (lv_at hl 4 rfl) ?_
        refine mw_iconst hx hb dX1_setYear_44 ?_
        refine mw_isub hx hb dX1_setYear_45 ?_
        refine mw_i2l hx hb (by omega) dX1_setYear_46 ?_
        refine mw_cSi (rest := []) hC (c_X1_in l b 0 (c9 - 1) (by omega) (by omega) (by omega)) (va_cwS 3 hts gX1_setYear_X1_in rfl rfl rfl (by decide +kernel) ⟨Nat.le_of_ble_eq_true rfl, Nat.le_of_ble_eq_true rfl⟩) rfl hl.1 rfl (Nat.le_of_ble_eq_true rfl) ⟨Nat.zero_le _, Nat.zero_le _⟩ dX1_setYear_47 ?_
        refine mw_zeq (tgt := 57) hx hb dX1_setYear_50 (by decide) (fun c_50 => ?_) (fun c_50 => ?_)
        · refine mw_iconst hx hb dX1_setYear_57 ?_
          refine lv_istore (lv' := [(5, .int (mI (0))), (0, .ref h0), (1, .int (mI (y))), (2, .int (mI (a))), (3, .int (mI (b))), (4, .int (mI (c9)))]) hx hb dX1_setYear_58 hl (by decide) rfl (fun ls hl => ?_)
          refine lv_aload_n hx hb dX1_setYear_60 rfl (lv_at hl 1 rfl) ?_
          refine lv_iload hx hb dX1_setYear_61 (lv_at hl 0 rfl) ?_
          refine mw_if_eq (tgt := 70) hx hb (by omega) dX1_setYear_63 (by decide) (fun _ => ?_) (fun c => absurd (by decide) c)
          refine mw_iconst hx hb dX1_setYear_70 ?_
          refine mw_cM (rest := []) (q := (RX1, TX1, 13)) hC (c_X1_goesWell l D h0 a1 a2 cA cJ t f g v L P 1 (by omega) hdis) (cwV 1 hts gX1_setYear_X1_goesWell rfl rfl rfl (by decide +kernel) ⟨Nat.le_of_ble_eq_true rfl, Nat.le_of_ble_eq_true rfl⟩) hK hP hS (fun _ h => h) rfl rfl rfl hl.1 rfl (Nat.le_of_ble_eq_true rfl) ⟨Nat.zero_le _, Nat.zero_le _⟩ dX1_setYear_71 (fun _ H locs _ hP hS _ _ => ?_)
          have hP : va_P D vwCl (mMW h0 a1 a2 cA 1 f g v L P) H := hP
          have hD := hDD 1 f g v L P
          refine W.eq (g2 := F0 m 74 ls [.int (mI (mB (1 = 0)))]) rfl ?_
          refine mw_topi (y := 0) (mB_f (by omega)) ?_
          refine mw_if_eq (tgt := 98) hx hb (by omega) dX1_setYear_74 (by decide) (fun _ => ?_) (fun c => absurd (by decide) c)
          exact mw_yretV hx hb hr hlocks dX1_setYear_98 f g trivial (mw_wk (by first | rfl | (rw [mEx1_0 (by omega)]; omega) | (rw [mEx1_1 (by omega)]; omega) | (exfalso; omega)) (mIf_1 (by first | (rw [mEx1_1 (by omega)]; omega) | (exfalso; omega))).symm (mIf_1 (by first | (rw [mEx1_1 (by omega)]; omega) | (exfalso; omega))).symm (mIf_1 (by first | (rw [mEx1_1 (by omega)]; omega) | (exfalso; omega))).symm hP) hS
        · refine mw_iconst hx hb dX1_setYear_53 ?_
          refine lv_goto (tgt := 58) hx hb dX1_setYear_54 (by decide) ?_
          refine lv_istore (lv' := [(5, .int (mI (1))), (0, .ref h0), (1, .int (mI (y))), (2, .int (mI (a))), (3, .int (mI (b))), (4, .int (mI (c9)))]) hx hb dX1_setYear_58 hl (by decide) rfl (fun ls hl => ?_)
          refine lv_aload_n hx hb dX1_setYear_60 rfl (lv_at hl 1 rfl) ?_
          refine lv_iload hx hb dX1_setYear_61 (lv_at hl 0 rfl) ?_
          refine mw_if_eq (tgt := 70) hx hb (by omega) dX1_setYear_63 (by decide) (fun c => absurd c (by decide)) (fun _ => ?_)
          refine mw_iconst hx hb dX1_setYear_66 ?_
          refine lv_goto (tgt := 71) hx hb dX1_setYear_67 (by decide) ?_
          refine mw_cM (rest := []) (q := (RX1, TX1, 13)) hC (c_X1_goesWell l D h0 a1 a2 cA cJ t f g v L P 0 (by omega) hdis) (cwV 1 hts gX1_setYear_X1_goesWell rfl rfl rfl (by decide +kernel) ⟨Nat.le_of_ble_eq_true rfl, Nat.le_of_ble_eq_true rfl⟩) hK hP hS (fun _ h => h) rfl rfl rfl hl.1 rfl (Nat.le_of_ble_eq_true rfl) ⟨Nat.zero_le _, Nat.zero_le _⟩ dX1_setYear_71 (fun _ H locs _ hP hS _ _ => ?_)
          have hP : va_P D vwCl (mMW h0 a1 a2 cA 0 f g v L P) H := hP
          have hD := hDD 0 f g v L P
          refine W.eq (g2 := F0 m 74 ls [.int (mI (mB (0 = 0)))]) rfl ?_
          refine mw_topi (y := 1) (mB_t rfl) ?_
          refine mw_if_eq (tgt := 98) hx hb (by omega) dX1_setYear_74 (by decide) (fun c => absurd c (by decide)) (fun _ => ?_)
          refine lv_aload_n hx hb dX1_setYear_77 rfl (lv_at hl 1 rfl) ?_
          refine lv_iload_n hx hb dX1_setYear_78 rfl (lv_at hl 2 rfl) ?_
          refine mw_putM hx hb hts hin hown hK hP hD hS rfl 7 (by decide) (Nat.le_of_ble_eq_true rfl) (by decide +kernel) rfl rfl (by decide +kernel) dX1_setYear_79 (fun H locs hP hS => ?_)
          have hP : va_P D vwCl (mMW h0 a1 a2 cA 0 f g (mPut v 4 y) L P) H := hP
          have hD := hDD 0 f g (mPut v 4 y) L P
          refine lv_aload_n hx hb dX1_setYear_82 rfl (lv_at hl 1 rfl) ?_
          refine lv_iload_n hx hb dX1_setYear_83 rfl (lv_at hl 3 rfl) ?_
          refine mw_putM hx hb hts hin hown hK hP hD hS rfl 8 (by decide) (Nat.le_of_ble_eq_true rfl) (by decide +kernel) rfl rfl (by decide +kernel) dX1_setYear_84 (fun H locs hP hS => ?_)
          have hP : va_P D vwCl (mMW h0 a1 a2 cA 0 f g (mPut (mPut v 4 y) 5 a) L P) H := hP
          have hD := hDD 0 f g (mPut (mPut v 4 y) 5 a) L P
          refine lv_aload_n hx hb dX1_setYear_87 rfl (lv_at hl 1 rfl) ?_
          refine lv_iload_n hx hb dX1_setYear_88 rfl (lv_at hl 4 rfl) ?_
          refine mw_putM hx hb hts hin hown hK hP hD hS rfl 9 (by decide) (Nat.le_of_ble_eq_true rfl) (by decide +kernel) rfl rfl (by decide +kernel) dX1_setYear_89 (fun H locs hP hS => ?_)
          have hP : va_P D vwCl (mMW h0 a1 a2 cA 0 f g (mPut (mPut (mPut v 4 y) 5 a) 6 b) L P) H := hP
          have hD := hDD 0 f g (mPut (mPut (mPut v 4 y) 5 a) 6 b) L P
          refine lv_aload_n hx hb dX1_setYear_92 rfl (lv_at hl 1 rfl) ?_
          refine lv_iload hx hb dX1_setYear_93 (lv_at hl 5 rfl) ?_
          refine mw_putM hx hb hts hin hown hK hP hD hS rfl 10 (by decide) (Nat.le_of_ble_eq_true rfl) (by decide +kernel) rfl rfl (by decide +kernel) dX1_setYear_95 (fun H locs hP hS => ?_)
          have hP : va_P D vwCl (mMW h0 a1 a2 cA 0 f g (mPut (mPut (mPut (mPut v 4 y) 5 a) 6 b) 7 c9) L P) H := hP
          have hD := hDD 0 f g (mPut (mPut (mPut (mPut v 4 y) 5 a) 6 b) 7 c9) L P
          exact mw_yretV hx hb hr hlocks dX1_setYear_98 f g trivial (mw_wk (by first | rfl | (rw [mEx1_0 (by omega)]; omega) | (rw [mEx1_1 (by omega)]; omega) | (exfalso; omega)) (mIf_0 (mEx1_0 (by omega))).symm (mIf_0 (mEx1_0 (by omega))).symm (mIf_0 (mEx1_0 (by omega))).symm hP) hS
