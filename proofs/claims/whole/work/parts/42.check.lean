set_option maxHeartbeats 400000 in
set_option maxRecDepth 100000 in
theorem y_X1_markets (l : Launch) (D : va_G) (h0 a1 a2 : Nat) (cA cJ : ClassId) (t f g : Int) (v : Nat → Int) (L P : Int → Int) (hdis : mDis h0 a1 a2) : mY l yX1_markets wsX1_markets ({ frames := 0, cells := 0, slots := 0, locals := 0 }) [.ref h0] D (mMW h0 a1 a2 cA t f g v L P) (mTy cA cJ) (fun r => some (.int (mI r))) (fun u => (0) = 0 → u.1 = v 0) (fun u => mMW h0 a1 a2 cA (((0 : Nat)) : Int) u.2.1 u.2.2 (v) (L) (P)) (mA3 h0 a1 a2) := by
  refine mw_openY (cc := cX1_markets) (maxL := 1) (ret := (some .int)) (by decide) rfl (Nat.le_of_ble_eq_true rfl) ?_
  intro p e s m below meth c ls hC hr hlocks hB hl
  obtain ⟨hx, hb, hml, hown, hts⟩ := id hC
  obtain ⟨hP, hK⟩ := hB
  have hin : ∀ w ∈ wsX10, w ∈ wsX1_markets := by decide +kernel
  have hl : lv_has ls 1 [(0, .ref h0)] := hl
  have hS : va_S (mA3 h0 a1 a2) s.heap s.heap [] := va_S.rf
  have hDD : ∀ (t f g : Int) (v : Nat → Int) (L P : Int → Int), va_D (mA3 h0 a1 a2) (mMW h0 a1 a2 cA t f g v L P) := fun t f g v L P => mD3 hdis (mA3_in h0 a1 a2)
  have hD := hDD t f g v L P
  refine lv_aload_n hx hb dX1_markets_0 rfl (lv_at hl 0 rfl) ?_
  refine mw_iconst hx hb dX1_markets_1 ?_
  refine mw_putM hx hb hts hin hown hK hP hD hS rfl 0 (by decide) (Nat.le_of_ble_eq_true rfl) (by decide +kernel) rfl rfl (by decide +kernel) dX1_markets_2 (fun H locs hP hS => ?_)
  have hP : va_P D vwCl (mMW h0 a1 a2 cA 0 f g v L P) H := hP
  have hD := hDD 0 f g v L P
  refine lv_aload_n hx hb dX1_markets_5 rfl (lv_at hl 0 rfl) ?_
  refine mw_getM hx hb hts hin hown hK hP rfl 3 (by decide) (by decide +kernel) rfl rfl dX1_markets_6 ?_
  exact mw_yretI hx hb hr hlocks dX1_markets_9 f g (fun h9 => by first | rfl | exact (mB_t (by omega)).symm | exact (mB_f (by omega)).symm | omega | (exfalso; omega)) (mw_wk (by first | rfl | rfl | (exfalso; omega)) rfl rfl rfl hP) hS

set_option maxHeartbeats 400000 in
set_option maxRecDepth 100000 in
theorem y_X1_isHeld (l : Launch) (D : va_G) (h0 a1 a2 : Nat) (cA cJ : ClassId) (t f g : Int) (v : Nat → Int) (L P : Int → Int) (m9 d : Int) (hm9 : mRI m9) (hd9 : mRI d) (hok : mOK v L P) (hdis : mDis h0 a1 a2) : mY l yX1_isHeld wsX1_isHeld ({ frames := 2, cells := 0, slots := 0, locals := 48 }) [.ref h0, .int (mI (m9)), .int (mI (d))] D (mMW h0 a1 a2 cA t f g v L P) (mTy cA cJ) (fun r => some (.int (mI r))) (fun u => (mEx2 (mMk v m9) (mDay d)) = 0 → u.1 = mB (d % L m9 = P m9)) (fun u => mMW h0 a1 a2 cA (((mEx2 (mMk v m9) (mDay d) : Nat)) : Int) u.2.1 u.2.2 (v) (L) (P)) (mA3 h0 a1 a2) := by
  refine mw_openY (cc := cX1_isHeld) (maxL := 3) (ret := (some .boolean)) (by decide) rfl (Nat.le_of_ble_eq_true rfl) ?_
  intro p e s m below meth c ls hC hr hlocks hB hl
  obtain ⟨hx, hb, hml, hown, hts⟩ := id hC
  obtain ⟨hP, hK⟩ := hB
  have hl : lv_has ls 3 [(0, .ref h0), (1, .int (mI (m9))), (2, .int (mI (d)))] := hl
  have hS : va_S (mA3 h0 a1 a2) s.heap s.heap [] := va_S.rf
  have hDD : ∀ (t f g : Int) (v : Nat → Int) (L P : Int → Int), va_D (mA3 h0 a1 a2) (mMW h0 a1 a2 cA t f g v L P) := fun t f g v L P => mD3 hdis (mA3_in h0 a1 a2)
  have hD := hDD t f g v L P
  have hok9 := hok
  obtain ⟨⟨o1, o2⟩, oL, ⟨o3, o4, o5, o6, o7, o8⟩, ⟨o9, o10, o11, o12, o13, o14, o15, o16⟩⟩ := hok9
  refine lv_aload_n hx hb dX1_isHeld_0 rfl (lv_at hl 0 rfl) ?_
  refine lv_aload_n hx hb dX1_isHeld_1 rfl (lv_at hl 0 rfl) ?_
  refine lv_iload_n hx hb dX1_isHeld_2 rfl (lv_at hl 1 rfl) ?_
  refine mw_cVi (rest := [.ref h0]) (q := (RX1, TX1, 13)) hC (c_X1_isMarket l D h0 a1 a2 cA cJ t f g v L P m9 (by omega) (by omega)) (cwV 1 hts gX1_isHeld_X1_isMarket rfl rfl rfl (by decide +kernel) ⟨Nat.le_of_ble_eq_true rfl, Nat.le_of_ble_eq_true rfl⟩) hK hP rfl rfl rfl hl.1 rfl (Nat.le_of_ble_eq_true rfl) ⟨Nat.zero_le _, Nat.zero_le _⟩ dX1_isHeld_3 ?_
  refine mw_zne (tgt := 13) hx hb dX1_isHeld_6 (by decide) (fun c_6 => ?_) (fun c_6 => ?_)
  · refine lv_iload_n hx hb dX1_isHeld_13 rfl (lv_at hl 2 rfl) ?_
    refine mw_cSi (rest := [.ref h0]) hC (c_X1_isDay l d (by omega)) (va_cwS 1 hts gX1_isHeld_X1_isDay rfl rfl rfl (by decide +kernel) ⟨Nat.le_of_ble_eq_true rfl, Nat.le_of_ble_eq_true rfl⟩) rfl hl.1 rfl (Nat.le_of_ble_eq_true rfl) ⟨Nat.zero_le _, Nat.zero_le _⟩ dX1_isHeld_14 ?_
    refine mw_zeq (tgt := 24) hx hb dX1_isHeld_17 (by decide) (fun c_17 => ?_) (fun c_17 => ?_)
    · refine mw_iconst hx hb dX1_isHeld_24 ?_
      refine mw_cM (rest := []) (q := (RX1, TX1, 13)) hC (c_X1_goesWell l D h0 a1 a2 cA cJ t f g v L P 2 (by omega) hdis) (cwV 1 hts gX1_isHeld_X1_goesWell rfl rfl rfl (by decide +kernel) ⟨Nat.le_of_ble_eq_true rfl, Nat.le_of_ble_eq_true rfl⟩) hK hP hS (fun _ h => h) rfl rfl rfl hl.1 rfl (Nat.le_of_ble_eq_true rfl) ⟨Nat.zero_le _, Nat.zero_le _⟩ dX1_isHeld_25 (fun _ H locs _ hP hS _ _ => ?_)
      have hP : va_P D vwCl (mMW h0 a1 a2 cA 2 f g v L P) H := hP
      have hD := hDD 2 f g v L P
      refine W.eq (g2 := F0 m 28 ls [.int (mI (mB (2 = 0)))]) rfl ?_
      refine mw_topi (y := 0) (mB_f (by omega)) ?_
      refine mw_if_eq (tgt := 45) hx hb (by omega) dX1_isHeld_28 (by decide) (fun _ => ?_) (fun c => absurd (by decide) c)
      refine mw_iconst hx hb dX1_isHeld_45 ?_
      exact mw_yretZ hx hb hr hlocks dX1_isHeld_46 (by first | exact mB_nar | decide +kernel) f g (fun h9 => by first | rfl | exact (mB_t (by omega)).symm | exact (mB_f (by omega)).symm | omega | (rw [mEx2_1 (by omega)] at h9; omega) | (rw [mEx2_2 (by omega) (by omega)] at h9; omega) | (exfalso; omega)) (mw_wk (by first | rfl | (rw [mEx2_0 (by omega) (by omega)]; omega) | (rw [mEx2_1 (by omega)]; omega) | (rw [mEx2_2 (by omega) (by omega)]; omega) | (exfalso; omega)) rfl rfl rfl hP) hS
    · refine mw_iconst hx hb dX1_isHeld_20 ?_
      refine lv_goto (tgt := 25) hx hb dX1_isHeld_21 (by decide) ?_
      refine mw_cM (rest := []) (q := (RX1, TX1, 13)) hC (c_X1_goesWell l D h0 a1 a2 cA cJ t f g v L P 0 (by omega) hdis) (cwV 1 hts gX1_isHeld_X1_goesWell rfl rfl rfl (by decide +kernel) ⟨Nat.le_of_ble_eq_true rfl, Nat.le_of_ble_eq_true rfl⟩) hK hP hS (fun _ h => h) rfl rfl rfl hl.1 rfl (Nat.le_of_ble_eq_true rfl) ⟨Nat.zero_le _, Nat.zero_le _⟩ dX1_isHeld_25 (fun _ H locs _ hP hS _ _ => ?_)
      have hP : va_P D vwCl (mMW h0 a1 a2 cA 0 f g v L P) H := hP
      have hD := hDD 0 f g v L P
      refine W.eq (g2 := F0 m 28 ls [.int (mI (mB (0 = 0)))]) rfl ?_
      refine mw_topi (y := 1) (mB_t rfl) ?_
      refine mw_if_eq (tgt := 45) hx hb (by omega) dX1_isHeld_28 (by decide) (fun c => absurd c (by decide)) (fun _ => ?_)
      refine lv_aload_n hx hb dX1_isHeld_31 rfl (lv_at hl 0 rfl) ?_
      refine lv_iload_n hx hb dX1_isHeld_32 rfl (lv_at hl 1 rfl) ?_
      refine lv_iload_n hx hb dX1_isHeld_33 rfl (lv_at hl 2 rfl) ?_
      refine mw_i2l hx hb (by omega) dX1_isHeld_34 ?_
      refine mw_cVi (rest := []) (q := (RX1, TX1, 13)) hC (c_X1_holds l D h0 a1 a2 cA cJ 0 f g v L P m9 d (id hok) (by omega) (by omega)) (cwV 2 hts gX1_isHeld_X1_holds rfl rfl rfl (by decide +kernel) ⟨Nat.le_of_ble_eq_true rfl, Nat.le_of_ble_eq_true rfl⟩) hK hP rfl rfl rfl hl.1 rfl (Nat.le_of_ble_eq_true rfl) ⟨Nat.zero_le _, Nat.zero_le _⟩ dX1_isHeld_35 ?_
      refine mw_zeq (tgt := 45) hx hb dX1_isHeld_38 (by decide) (fun c_38 => ?_) (fun c_38 => ?_)
      · refine mw_iconst hx hb dX1_isHeld_45 ?_
        exact mw_yretZ hx hb hr hlocks dX1_isHeld_46 (by first | exact mB_nar | decide +kernel) f g (fun h9 => by first | rfl | exact (mB_t (by omega)).symm | exact (mB_f (by omega)).symm | omega | (rw [mEx2_1 (by omega)] at h9; omega) | (rw [mEx2_2 (by omega) (by omega)] at h9; omega) | (exfalso; omega)) (mw_wk (by first | rfl | (rw [mEx2_0 (by omega) (by omega)]; omega) | (rw [mEx2_1 (by omega)]; omega) | (rw [mEx2_2 (by omega) (by omega)]; omega) | (exfalso; omega)) rfl rfl rfl hP) hS
      · refine mw_iconst hx hb dX1_isHeld_41 ?_
        refine lv_goto (tgt := 46) hx hb dX1_isHeld_42 (by decide) ?_
        exact mw_yretZ hx hb hr hlocks dX1_isHeld_46 (by first | exact mB_nar | decide +kernel) f g (fun h9 => by first | rfl | exact (mB_t (by omega)).symm | exact (mB_f (by omega)).symm | omega | (rw [mEx2_1 (by omega)] at h9; omega) | (rw [mEx2_2 (by omega) (by omega)] at h9; omega) | (exfalso; omega)) (mw_wk (by first | rfl | (rw [mEx2_0 (by omega) (by omega)]; omega) | (rw [mEx2_1 (by omega)]; omega) | (rw [mEx2_2 (by omega) (by omega)]; omega) | (exfalso; omega)) rfl rfl rfl hP) hS
  · refine mw_iconst hx hb dX1_isHeld_9 ?_
    refine lv_goto (tgt := 25) hx hb dX1_isHeld_10 (by decide) ?_
    refine mw_cM (rest := []) (q := (RX1, TX1, 13)) hC (c_X1_goesWell l D h0 a1 a2 cA cJ t f g v L P 1 (by omega) hdis) (cwV 1 hts gX1_isHeld_X1_goesWell rfl rfl rfl (by decide +kernel) ⟨Nat.le_of_ble_eq_true rfl, Nat.le_of_ble_eq_true rfl⟩) hK hP hS (fun _ h => h) rfl rfl rfl hl.1 rfl (Nat.le_of_ble_eq_true rfl) ⟨Nat.zero_le _, Nat.zero_le _⟩ dX1_isHeld_25 (fun _ H locs _ hP hS _ _ => ?_)
    have hP : va_P D vwCl (mMW h0 a1 a2 cA 1 f g v L P) H := hP
    have hD := hDD 1 f g v L P
    refine W.eq (g2 := F0 m 28 ls [.int (mI (mB (1 = 0)))]) rfl ?_
    refine mw_topi (y := 0) (mB_f (by omega)) ?_
    refine mw_if_eq (tgt := 45) hx hb (by omega) dX1_isHeld_28 (by decide) (fun _ => ?_) (fun c => absurd (by decide) c)
    refine mw_iconst hx hb dX1_isHeld_45 ?_
    exact mw_yretZ hx hb hr hlocks dX1_isHeld_46 (by first | exact mB_nar | decide +kernel) f g (fun h9 => by first | rfl | exact (mB_t (by omega)).symm | exact (mB_f (by omega)).symm | omega | (rw [mEx2_1 (by omega)] at h9; omega) | (rw [mEx2_2 (by omega) (by omega)] at h9; omega) | (exfalso; omega)) (mw_wk (by first | rfl | (rw [mEx2_0 (by omega) (by omega)]; omega) | (rw [mEx2_1 (by omega)]; omega) | (rw [mEx2_2 (by omega) (by omega)]; omega) | (exfalso; omega)) rfl rfl rfl hP) hS

set_option maxHeartbeats 400000 in
set_option maxRecDepth 100000 in
theorem y_X1_next (l : Launch) (D : va_G) (h0 a1 a2 : Nat) (cA cJ : ClassId) (t f g : Int) (v : Nat → Int) (L P : Int → Int) (m9 d : Int) (hm9 : mRI m9) (hd9 : mRI d) (hok : mOK v L P) (hdis : mDis h0 a1 a2) : mY l yX1_next wsX1_next ({ frames := 3, cells := 0, slots := 0, locals := 71 }) [.ref h0, .int (mI (m9)), .int (mI (d))] D (mMW h0 a1 a2 cA t f g v L P) (mTy cA cJ) (fun r => some (.int (mI r))) (fun u => (mEx2 (mMk v m9) (mDay d)) = 0 → u.1 = d + (P m9 - d) % L m9) (fun u => mMW h0 a1 a2 cA (((mEx2 (mMk v m9) (mDay d) : Nat)) : Int) u.2.1 u.2.2 (v) (L) (P)) (mA3 h0 a1 a2) := by
  refine mw_openY (cc := cX1_next) (maxL := 3) (ret := (some .int)) (by decide) rfl (Nat.le_of_ble_eq_true rfl) ?_
  intro p e s m below meth c ls hC hr hlocks hB hl
  obtain ⟨hx, hb, hml, hown, hts⟩ := id hC
  obtain ⟨hP, hK⟩ := hB
  have hl : lv_has ls 3 [(0, .ref h0), (1, .int (mI (m9))), (2, .int (mI (d)))] := hl
  have hS : va_S (mA3 h0 a1 a2) s.heap s.heap [] := va_S.rf
  have hDD : ∀ (t f g : Int) (v : Nat → Int) (L P : Int → Int), va_D (mA3 h0 a1 a2) (mMW h0 a1 a2 cA t f g v L P) := fun t f g v L P => mD3 hdis (mA3_in h0 a1 a2)
  have hD := hDD t f g v L P
  have hok9 := hok
  obtain ⟨⟨o1, o2⟩, oL, ⟨o3, o4, o5, o6, o7, o8⟩, ⟨o9, o10, o11, o12, o13, o14, o15, o16⟩⟩ := hok9
  refine lv_aload_n hx hb dX1_next_0 rfl (lv_at hl 0 rfl) ?_
  refine lv_aload_n hx hb dX1_next_1 rfl (lv_at hl 0 rfl) ?_
  refine lv_iload_n hx hb dX1_next_2 rfl (lv_at hl 1 rfl) ?_
  refine mw_cVi (rest := [.ref h0]) (q := (RX1, TX1, 13)) hC (c_X1_isMarket l D h0 a1 a2 cA cJ t f g v L P m9 (by omega) (by omega)) (cwV 1 hts gX1_next_X1_isMarket rfl rfl rfl (by decide +kernel) ⟨Nat.le_of_ble_eq_true rfl, Nat.le_of_ble_eq_true rfl⟩) hK hP rfl rfl rfl hl.1 rfl (Nat.le_of_ble_eq_true rfl) ⟨Nat.zero_le _, Nat.zero_le _⟩ dX1_next_3 ?_
  refine mw_zne (tgt := 13) hx hb dX1_next_6 (by decide) (fun c_6 => ?_) (fun c_6 => ?_)
  · refine lv_iload_n hx hb dX1_next_13 rfl (lv_at hl 2 rfl) ?_
    refine mw_cSi (rest := [.ref h0]) hC (c_X1_isDay l d (by omega)) (va_cwS 1 hts gX1_next_X1_isDay rfl rfl rfl (by decide +kernel) ⟨Nat.le_of_ble_eq_true rfl, Nat.le_of_ble_eq_true rfl⟩) rfl hl.1 rfl (Nat.le_of_ble_eq_true rfl) ⟨Nat.zero_le _, Nat.zero_le _⟩ dX1_next_14 ?_
    refine mw_zeq (tgt := 24) hx hb dX1_next_17 (by decide) (fun c_17 => ?_) (fun c_17 => ?_)
    · refine mw_iconst hx hb dX1_next_24 ?_
      refine mw_cM (rest := []) (q := (RX1, TX1, 13)) hC (c_X1_goesWell l D h0 a1 a2 cA cJ t f g v L P 2 (by omega) hdis) (cwV 1 hts gX1_next_X1_goesWell rfl rfl rfl (by decide +kernel) ⟨Nat.le_of_ble_eq_true rfl, Nat.le_of_ble_eq_true rfl⟩) hK hP hS (fun _ h => h) rfl rfl rfl hl.1 rfl (Nat.le_of_ble_eq_true rfl) ⟨Nat.zero_le _, Nat.zero_le _⟩ dX1_next_25 (fun _ H locs _ hP hS _ _ => ?_)
      have hP : va_P D vwCl (mMW h0 a1 a2 cA 2 f g v L P) H := hP
      have hD := hDD 2 f g v L P
      refine W.eq (g2 := F0 m 28 ls [.int (mI (mB (2 = 0)))]) rfl ?_
      refine mw_topi (y := 0) (mB_f (by omega)) ?_
      refine mw_if_eq (tgt := 40) hx hb (by omega) dX1_next_28 (by decide) (fun _ => ?_) (fun c => absurd (by decide) c)
      refine mw_iconst hx hb dX1_next_40 ?_
      exact mw_yretI hx hb hr hlocks dX1_next_41 f g (fun h9 => by first | rfl | exact (mB_t (by omega)).symm | exact (mB_f (by omega)).symm | omega | (rw [mEx2_1 (by omega)] at h9; omega) | (rw [mEx2_2 (by omega) (by omega)] at h9; omega) | (exfalso; omega)) (mw_wk (by first | rfl | (rw [mEx2_0 (by omega) (by omega)]; omega) | (rw [mEx2_1 (by omega)]; omega) | (rw [mEx2_2 (by omega) (by omega)]; omega) | (exfalso; omega)) rfl rfl rfl hP) hS
    · refine mw_iconst hx hb dX1_next_20 ?_
      refine lv_goto (tgt := 25) hx hb dX1_next_21 (by decide) ?_
      refine mw_cM (rest := []) (q := (RX1, TX1, 13)) hC (c_X1_goesWell l D h0 a1 a2 cA cJ t f g v L P 0 (by omega) hdis) (cwV 1 hts gX1_next_X1_goesWell rfl rfl rfl (by decide +kernel) ⟨Nat.le_of_ble_eq_true rfl, Nat.le_of_ble_eq_true rfl⟩) hK hP hS (fun _ h => h) rfl rfl rfl hl.1 rfl (Nat.le_of_ble_eq_true rfl) ⟨Nat.zero_le _, Nat.zero_le _⟩ dX1_next_25 (fun _ H locs _ hP hS _ _ => ?_)
      have hP : va_P D vwCl (mMW h0 a1 a2 cA 0 f g v L P) H := hP
      have hD := hDD 0 f g v L P
      refine W.eq (g2 := F0 m 28 ls [.int (mI (mB (0 = 0)))]) rfl ?_
      refine mw_topi (y := 1) (mB_t rfl) ?_
      refine mw_if_eq (tgt := 40) hx hb (by omega) dX1_next_28 (by decide) (fun c => absurd c (by decide)) (fun _ => ?_)
      refine lv_aload_n hx hb dX1_next_31 rfl (lv_at hl 0 rfl) ?_
      refine lv_iload_n hx hb dX1_next_32 rfl (lv_at hl 1 rfl) ?_
      refine lv_iload_n hx hb dX1_next_33 rfl (lv_at hl 2 rfl) ?_
      refine mw_cVi (rest := []) (q := (RX1, TX1, 13)) hC (c_X1_from l D h0 a1 a2 cA cJ 0 f g v L P m9 d (id hok) (by omega) (by omega)) (cwV 2 hts gX1_next_X1_from rfl rfl rfl (by decide +kernel) ⟨Nat.le_of_ble_eq_true rfl, Nat.le_of_ble_eq_true rfl⟩) hK hP rfl rfl rfl hl.1 rfl (Nat.le_of_ble_eq_true rfl) ⟨Nat.zero_le _, Nat.zero_le _⟩ dX1_next_34 ?_
      refine lv_goto (tgt := 41) hx hb dX1_next_37 (by decide) ?_
      exact mw_yretI hx hb hr hlocks dX1_next_41 f g (fun h9 => by first | rfl | exact (mB_t (by omega)).symm | exact (mB_f (by omega)).symm | omega | (rw [mEx2_1 (by omega)] at h9; omega) | (rw [mEx2_2 (by omega) (by omega)] at h9; omega) | (exfalso; omega)) (mw_wk (by first | rfl | (rw [mEx2_0 (by omega) (by omega)]; omega) | (rw [mEx2_1 (by omega)]; omega) | (rw [mEx2_2 (by omega) (by omega)]; omega) | (exfalso; omega)) rfl rfl rfl hP) hS
  · refine mw_iconst hx hb dX1_next_9 ?_
    refine lv_goto (tgt := 25) hx hb dX1_next_10 (by decide) ?_
    refine mw_cM (rest := []) (q := (RX1, TX1, 13)) hC (c_X1_goesWell l D h0 a1 a2 cA cJ t f g v L P 1 (by omega) hdis) (cwV 1 hts gX1_next_X1_goesWell rfl rfl rfl (by decide +kernel) ⟨Nat.le_of_ble_eq_true rfl, Nat.le_of_ble_eq_true rfl⟩) hK hP hS (fun _ h => h) rfl rfl rfl hl.1 rfl (Nat.le_of_ble_eq_true rfl) ⟨Nat.zero_le _, Nat.zero_le _⟩ dX1_next_25 (fun _ H locs _ hP hS _ _ => ?_)
    have hP : va_P D vwCl (mMW h0 a1 a2 cA 1 f g v L P) H := hP
    have hD := hDD 1 f g v L P
    refine W.eq (g2 := F0 m 28 ls [.int (mI (mB (1 = 0)))]) rfl ?_
    refine mw_topi (y := 0) (mB_f (by omega)) ?_
    refine mw_if_eq (tgt := 40) hx hb (by omega) dX1_next_28 (by decide) (fun _ => ?_) (fun c => absurd (by decide) c)
    refine mw_iconst hx hb dX1_next_40 ?_
    exact mw_yretI hx hb hr hlocks dX1_next_41 f g (fun h9 => by first | rfl | exact (mB_t (by omega)).symm | exact (mB_f (by omega)).symm | omega | (rw [mEx2_1 (by omega)] at h9; omega) | (rw [mEx2_2 (by omega) (by omega)] at h9; omega) | (exfalso; omega)) (mw_wk (by first | rfl | (rw [mEx2_0 (by omega) (by omega)]; omega) | (rw [mEx2_1 (by omega)]; omega) | (rw [mEx2_2 (by omega) (by omega)]; omega) | (exfalso; omega)) rfl rfl rfl hP) hS

set_option maxHeartbeats 400000 in
set_option maxRecDepth 100000 in
theorem y_X1_times (l : Launch) (D : va_G) (h0 a1 a2 : Nat) (cA cJ : ClassId) (t f g : Int) (v : Nat → Int) (L P : Int → Int) (m9 a b : Int) (hm9 : mRI m9) (ha : mRI a) (hb9 : mRI b) (hok : mOK v L P) (hdis : mDis h0 a1 a2) : mY l yX1_times wsX1_times ({ frames := 4, cells := 0, slots := 0, locals := 98 }) [.ref h0, .int (mI (m9)), .int (mI (a)), .int (mI (b))] D (mMW h0 a1 a2 cA t f g v L P) (mTy cA cJ) (fun r => some (.int (mI r))) (fun u => (mEx2 (mMk v m9) (mDay a ∧ mDay b ∧ a ≤ b)) = 0 → u.1 = mCnt L P m9 a b) (fun u => mMW h0 a1 a2 cA (((mEx2 (mMk v m9) (mDay a ∧ mDay b ∧ a ≤ b) : Nat)) : Int) u.2.1 u.2.2 (v) (L) (P)) (mA3 h0 a1 a2) := by
  refine mw_openY (cc := cX1_times) (maxL := 5) (ret := (some .int)) (by decide) rfl (Nat.le_of_ble_eq_true rfl) ?_
  intro p e s m below meth c ls hC hr hlocks hB hl
  obtain ⟨hx, hb, hml, hown, hts⟩ := id hC
  obtain ⟨hP, hK⟩ := hB
  have hl : lv_has ls 5 [(0, .ref h0), (1, .int (mI (m9))), (2, .int (mI (a))), (3, .int (mI (b)))] := hl
  have hS : va_S (mA3 h0 a1 a2) s.heap s.heap [] := va_S.rf
  have hDD : ∀ (t f g : Int) (v : Nat → Int) (L P : Int → Int), va_D (mA3 h0 a1 a2) (mMW h0 a1 a2 cA t f g v L P) := fun t f g v L P => mD3 hdis (mA3_in h0 a1 a2)
  have hD := hDD t f g v L P
  have hok9 := hok
  obtain ⟨⟨o1, o2⟩, oL, ⟨o3, o4, o5, o6, o7, o8⟩, ⟨o9, o10, o11, o12, o13, o14, o15, o16⟩⟩ := hok9
  refine lv_iload_n hx hb dX1_times_0 rfl (lv_at hl 2 rfl) ?_
  refine mw_cSi (rest := []) hC (c_X1_isDay l a (by omega)) (va_cwS 1 hts gX1_times_X1_isDay rfl rfl rfl (by decide +kernel) ⟨Nat.le_of_ble_eq_true rfl, Nat.le_of_ble_eq_true rfl⟩) rfl hl.1 rfl (Nat.le_of_ble_eq_true rfl) ⟨Nat.zero_le _, Nat.zero_le _⟩ dX1_times_1 ?_
  refine mw_zeq (tgt := 23) hx hb dX1_times_4 (by decide) (fun c_4 => ?_) (fun c_4 => ?_)
  · refine mw_iconst hx hb dX1_times_23 ?_
    refine lv_istore (lv' := [(4, .int (mI (0))), (0, .ref h0), (1, .int (mI (m9))), (2, .int (mI (a))), (3, .int (mI (b)))]) hx hb dX1_times_24 hl (by decide) rfl (fun ls hl => ?_)
    refine lv_aload_n hx hb dX1_times_26 rfl (lv_at hl 1 rfl) ?_
    refine lv_aload_n hx hb dX1_times_27 rfl (lv_at hl 1 rfl) ?_
    refine lv_iload_n hx hb dX1_times_28 rfl (lv_at hl 2 rfl) ?_
    refine mw_cVi (rest := [.ref h0]) (q := (RX1, TX1, 13)) hC (c_X1_isMarket l D h0 a1 a2 cA cJ t f g v L P m9 (by omega) (by omega)) (cwV 1 hts gX1_times_X1_isMarket rfl rfl rfl (by decide +kernel) ⟨Nat.le_of_ble_eq_true rfl, Nat.le_of_ble_eq_true rfl⟩) hK hP rfl rfl rfl hl.1 rfl (Nat.le_of_ble_eq_true rfl) ⟨Nat.zero_le _, Nat.zero_le _⟩ dX1_times_29 ?_
    refine mw_zne (tgt := 39) hx hb dX1_times_32 (by decide) (fun c_32 => ?_) (fun c_32 => ?_)
    · refine lv_iload hx hb dX1_times_39 (lv_at hl 0 rfl) ?_
      refine mw_if_eq (tgt := 48) hx hb (by omega) dX1_times_41 (by decide) (fun _ => ?_) (fun c => absurd (by decide) c)
      refine mw_iconst hx hb dX1_times_48 ?_
      refine mw_cM (rest := []) (q := (RX1, TX1, 13)) hC (c_X1_goesWell l D h0 a1 a2 cA cJ t f g v L P 2 (by omega) hdis) (cwV 1 hts gX1_times_X1_goesWell rfl rfl rfl (by decide +kernel) ⟨Nat.le_of_ble_eq_true rfl, Nat.le_of_ble_eq_true rfl⟩) hK hP hS (fun _ h => h) rfl rfl rfl hl.1 rfl (Nat.le_of_ble_eq_true rfl) ⟨Nat.zero_le _, Nat.zero_le _⟩ dX1_times_49 (fun _ H locs _ hP hS _ _ => ?_)
      have hP : va_P D vwCl (mMW h0 a1 a2 cA 2 f g v L P) H := hP
      have hD := hDD 2 f g v L P
      refine W.eq (g2 := F0 m 52 ls [.int (mI (mB (2 = 0)))]) rfl ?_
      refine mw_topi (y := 0) (mB_f (by omega)) ?_
      refine mw_if_eq (tgt := 67) hx hb (by omega) dX1_times_52 (by decide) (fun _ => ?_) (fun c => absurd (by decide) c)
      refine mw_iconst hx hb dX1_times_67 ?_
      exact mw_yretI hx hb hr hlocks dX1_times_68 f g (fun h9 => by first | rfl | exact (mB_t (by omega)).symm | exact (mB_f (by omega)).symm | omega | (rw [mEx2_1 (by omega)] at h9; omega) | (rw [mEx2_2 (by omega) (by omega)] at h9; omega) | (exfalso; omega)) (mw_wk (by first | rfl | (rw [mEx2_0 (by omega) (by omega)]; omega) | (rw [mEx2_1 (by omega)]; omega) | (rw [mEx2_2 (by omega) (by omega)]; omega) | (exfalso; omega)) rfl rfl rfl hP) hS
    · refine mw_iconst hx hb dX1_times_35 ?_
      refine lv_goto (tgt := 49) hx hb dX1_times_36 (by decide) ?_
      refine mw_cM (rest := []) (q := (RX1, TX1, 13)) hC (c_X1_goesWell l D h0 a1 a2 cA cJ t f g v L P 1 (by omega) hdis) (cwV 1 hts gX1_times_X1_goesWell rfl rfl rfl (by decide +kernel) ⟨Nat.le_of_ble_eq_true rfl, Nat.le_of_ble_eq_true rfl⟩) hK hP hS (fun _ h => h) rfl rfl rfl hl.1 rfl (Nat.le_of_ble_eq_true rfl) ⟨Nat.zero_le _, Nat.zero_le _⟩ dX1_times_49 (fun _ H locs _ hP hS _ _ => ?_)
      have hP : va_P D vwCl (mMW h0 a1 a2 cA 1 f g v L P) H := hP
      have hD := hDD 1 f g v L P
      refine W.eq (g2 := F0 m 52 ls [.int (mI (mB (1 = 0)))]) rfl ?_
      refine mw_topi (y := 0) (mB_f (by omega)) ?_
      refine mw_if_eq (tgt := 67) hx hb (by omega) dX1_times_52 (by decide) (fun _ => ?_) (fun c => absurd (by decide) c)
      refine mw_iconst hx hb dX1_times_67 ?_
      exact mw_yretI hx hb hr hlocks dX1_times_68 f g (fun h9 => by first | rfl | exact (mB_t (by omega)).symm | exact (mB_f (by omega)).symm | omega | (rw [mEx2_1 (by omega)] at h9; omega) | (rw [mEx2_2 (by omega) (by omega)] at h9; omega) | (exfalso; omega)) (mw_wk (by first | rfl | (rw [mEx2_0 (by omega) (by omega)]; omega) | (rw [mEx2_1 (by omega)]; omega) | (rw [mEx2_2 (by omega) (by omega)]; omega) | (exfalso; omega)) rfl rfl rfl hP) hS
  · refine lv_iload_n hx hb dX1_times_7 rfl (lv_at hl 3 rfl) ?_
    refine mw_cSi (rest := []) hC (c_X1_isDay l b (by omega)) (va_cwS 1 hts gX1_times_X1_isDay rfl rfl rfl (by decide +kernel) ⟨Nat.le_of_ble_eq_true rfl, Nat.le_of_ble_eq_true rfl⟩) rfl hl.1 rfl (Nat.le_of_ble_eq_true rfl) ⟨Nat.zero_le _, Nat.zero_le _⟩ dX1_times_8 ?_
    refine mw_zeq (tgt := 23) hx hb dX1_times_11 (by decide) (fun c_11 => ?_) (fun c_11 => ?_)
    · refine mw_iconst hx hb dX1_times_23 ?_
      refine lv_istore (lv' := [(4, .int (mI (0))), (0, .ref h0), (1, .int (mI (m9))), (2, .int (mI (a))), (3, .int (mI (b)))]) hx hb dX1_times_24 hl (by decide) rfl (fun ls hl => ?_)
      refine lv_aload_n hx hb dX1_times_26 rfl (lv_at hl 1 rfl) ?_
      refine lv_aload_n hx hb dX1_times_27 rfl (lv_at hl 1 rfl) ?_
      refine lv_iload_n hx hb dX1_times_28 rfl (lv_at hl 2 rfl) ?_
      refine mw_cVi (rest := [.ref h0]) (q := (RX1, TX1, 13)) hC (c_X1_isMarket l D h0 a1 a2 cA cJ t f g v L P m9 (by omega) (by omega)) (cwV 1 hts gX1_times_X1_isMarket rfl rfl rfl (by decide +kernel) ⟨Nat.le_of_ble_eq_true rfl, Nat.le_of_ble_eq_true rfl⟩) hK hP rfl rfl rfl hl.1 rfl (Nat.le_of_ble_eq_true rfl) ⟨Nat.zero_le _, Nat.zero_le _⟩ dX1_times_29 ?_
      refine mw_zne (tgt := 39) hx hb dX1_times_32 (by decide) (fun c_32 => ?_) (fun c_32 => ?_)
      · refine lv_iload hx hb dX1_times_39 (lv_at hl 0 rfl) ?_
        refine mw_if_eq (tgt := 48) hx hb (by omega) dX1_times_41 (by decide) (fun _ => ?_) (fun c => absurd (by decide) c)
        refine mw_iconst hx hb dX1_times_48 ?_
        refine mw_cM (rest := []) (q := (RX1, TX1, 13)) hC (c_X1_goesWell l D h0 a1 a2 cA cJ t f g v L P 2 (by omega) hdis) (cwV 1 hts gX1_times_X1_goesWell rfl rfl rfl (by decide +kernel) ⟨Nat.le_of_ble_eq_true rfl, Nat.le_of_ble_eq_true rfl⟩) hK hP hS (fun _ h => h) rfl rfl rfl hl.1 rfl (Nat.le_of_ble_eq_true rfl) ⟨Nat.zero_le _, Nat.zero_le _⟩ dX1_times_49 (fun _ H locs _ hP hS _ _ => ?_)
        have hP : va_P D vwCl (mMW h0 a1 a2 cA 2 f g v L P) H := hP
        have hD := hDD 2 f g v L P
        refine W.eq (g2 := F0 m 52 ls [.int (mI (mB (2 = 0)))]) rfl ?_
        refine mw_topi (y := 0) (mB_f (by omega)) ?_
        refine mw_if_eq (tgt := 67) hx hb (by omega) dX1_times_52 (by decide) (fun _ => ?_) (fun c => absurd (by decide) c)
        refine mw_iconst hx hb dX1_times_67 ?_
        exact mw_yretI hx hb hr hlocks dX1_times_68 f g (fun h9 => by first | rfl | exact (mB_t (by omega)).symm | exact (mB_f (by omega)).symm | omega | (rw [mEx2_1 (by omega)] at h9; omega) | (rw [mEx2_2 (by omega) (by omega)] at h9; omega) | (exfalso; omega)) (mw_wk (by first | rfl | (rw [mEx2_0 (by omega) (by omega)]; omega) | (rw [mEx2_1 (by omega)]; omega) | (rw [mEx2_2 (by omega) (by omega)]; omega) | (exfalso; omega)) rfl rfl rfl hP) hS
      · refine mw_iconst hx hb dX1_times_35 ?_
        refine lv_goto (tgt := 49) hx hb dX1_times_36 (by decide) ?_
        refine mw_cM (rest := []) (q := (RX1, TX1, 13)) hC (c_X1_goesWell l D h0 a1 a2 cA cJ t f g v L P 1 (by omega) hdis) (cwV 1 hts gX1_times_X1_goesWell rfl rfl rfl (by decide +kernel) ⟨Nat.le_of_ble_eq_true rfl, Nat.le_of_ble_eq_true rfl⟩) hK hP hS (fun _ h => h) rfl rfl rfl hl.1 rfl (Nat.le_of_ble_eq_true rfl) ⟨Nat.zero_le _, Nat.zero_le _⟩ dX1_times_49 (fun _ H locs _ hP hS _ _ => ?_)
        have hP : va_P D vwCl (mMW h0 a1 a2 cA 1 f g v L P) H := hP
        have hD := hDD 1 f g v L P
        refine W.eq (g2 := F0 m 52 ls [.int (mI (mB (1 = 0)))]) rfl ?_
        refine mw_topi (y := 0) (mB_f (by omega)) ?_
        refine mw_if_eq (tgt := 67) hx hb (by omega) dX1_times_52 (by decide) (fun _ => ?_) (fun c => absurd (by decide) c)
        refine mw_iconst hx hb dX1_times_67 ?_
        exact mw_yretI hx hb hr hlocks dX1_times_68 f g (fun h9 => by first | rfl | exact (mB_t (by omega)).symm | exact (mB_f (by omega)).symm | omega | (rw [mEx2_1 (by omega)] at h9; omega) | (rw [mEx2_2 (by omega) (by omega)] at h9; omega) | (exfalso; omega)) (mw_wk (by first | rfl | (rw [mEx2_0 (by omega) (by omega)]; omega) | (rw [mEx2_1 (by omega)]; omega) | (rw [mEx2_2 (by omega) (by omega)]; omega) | (exfalso; omega)) rfl rfl rfl hP) hS
    · refine lv_iload_n hx hb dX1_times_14 rfl (lv_at hl 2 rfl) ?_
      refine lv_iload_n hx hb dX1_times_15 rfl (lv_at hl 3 rfl) ?_
      refine mw_icmp_gt (tgt := 23) hx hb (by omega) (by omega) dX1_times_16 (by decide) (fun c_16 => ?_) (fun c_16 => ?_)
      · refine mw_iconst hx hb dX1_times_23 ?_
        refine lv_istore (lv' := [(4, .int (mI (0))), (0, .ref h0), (1, .int (mI (m9))), (2, .int (mI (a))), (3, .int (mI (b)))]) hx hb dX1_times_24 hl (by decide) rfl (fun ls hl => ?_)
        refine lv_aload_n hx hb dX1_times_26 rfl (lv_at hl 1 rfl) ?_
        refine lv_aload_n hx hb dX1_times_27 rfl (lv_at hl 1 rfl) ?_
        refine lv_iload_n hx hb dX1_times_28 rfl (lv_at hl 2 rfl) ?_
        refine mw_cVi (rest := [.ref h0]) (q := (RX1, TX1, 13)) hC (c_X1_isMarket l D h0 a1 a2 cA cJ t f g v L P m9 (by omega) (by omega)) (cwV 1 hts gX1_times_X1_isMarket rfl rfl rfl (by decide +kernel) ⟨Nat.le_of_ble_eq_true rfl, Nat.le_of_ble_eq_true rfl⟩) hK hP rfl rfl rfl hl.1 rfl (Nat.le_of_ble_eq_true rfl) ⟨Nat.zero_le _, Nat.zero_le _⟩ dX1_times_29 ?_
        refine mw_zne (tgt := 39) hx hb dX1_times_32 (by decide) (fun c_32 => ?_) (fun c_32 => ?_)
        · refine lv_iload hx hb dX1_times_39 (lv_at hl 0 rfl) ?_
          refine mw_if_eq (tgt := 48) hx hb (by omega) dX1_times_41 (by decide) (fun _ => ?_) (fun c => absurd (by decide) c)
          refine mw_iconst hx hb dX1_times_48 ?_
          refine mw_cM (rest := []) (q := (RX1, TX1, 13)) hC (c_X1_goesWell l D h0 a1 a2 cA cJ t f g v L P 2 (by omega) hdis) (cwV 1 hts gX1_times_X1_goesWell rfl rfl rfl (by decide +kernel) ⟨Nat.le_of_ble_eq_true rfl, Nat.le_of_ble_eq_true rfl⟩) hK hP hS (fun _ h => h) rfl rfl rfl hl.1 rfl (Nat.le_of_ble_eq_true rfl) ⟨Nat.zero_le _, Nat.zero_le _⟩ dX1_times_49 (fun _ H locs _ hP hS _ _ => ?_)
          have hP : va_P D vwCl (mMW h0 a1 a2 cA 2 f g v L P) H := hP
          have hD := hDD 2 f g v L P
          refine W.eq (g2 := F0 m 52 ls [.int (mI (mB (2 = 0)))]) rfl ?_
          refine mw_topi (y := 0) (mB_f (by omega)) ?_
          refine mw_if_eq (tgt := 67) hx hb (by omega) dX1_times_52 (by decide) (fun _ => ?_) (fun c => absurd (by decide) c)
          refine mw_iconst hx hb dX1_times_67 ?_
          exact mw_yretI hx hb hr hlocks dX1_times_68 f g (fun h9 => by first | rfl | exact (mB_t (by omega)).symm | exact (mB_f (by omega)).symm | omega | (rw [mEx2_1 (by omega)] at h9; omega) | (rw [mEx2_2 (by omega) (by omega)] at h9; omega) | (exfalso; omega)) (mw_wk (by first | rfl | (rw [mEx2_0 (by omega) (by omega)]; omega) | (rw [mEx2_1 (by omega)]; omega) | (rw [mEx2_2 (by omega) (by omega)]; omega) | (exfalso; omega)) rfl rfl rfl hP) hS
        · refine mw_iconst hx hb dX1_times_35 ?_
          refine lv_goto (tgt := 49) hx hb dX1_times_36 (by decide) ?_
          refine mw_cM (rest := []) (q := (RX1, TX1, 13)) hC (c_X1_goesWell l D h0 a1 a2 cA cJ t f g v L P 1 (by omega) hdis) (cwV 1 hts gX1_times_X1_goesWell rfl rfl rfl (by decide +kernel) ⟨Nat.le_of_ble_eq_true rfl, Nat.le_of_ble_eq_true rfl⟩) hK hP hS (fun _ h => h) rfl rfl rfl hl.1 rfl (Nat.le_of_ble_eq_true rfl) ⟨Nat.zero_le _, Nat.zero_le _⟩ dX1_times_49 (fun _ H locs _ hP hS _ _ => ?_)
          have hP : va_P D vwCl (mMW h0 a1 a2 cA 1 f g v L P) H := hP
          have hD := hDD 1 f g v L P
          refine W.eq (g2 := F0 m 52 ls [.int (mI (mB (1 = 0)))]) rfl ?_
          refine mw_topi (y := 0) (mB_f (by omega)) ?_
          refine mw_if_eq (tgt := 67) hx hb (by omega) dX1_times_52 (by decide) (fun _ => ?_) (fun c => absurd (by decide) c)
          refine mw_iconst hx hb dX1_times_67 ?_
          exact mw_yretI hx hb hr hlocks dX1_times_68 f g (fun h9 => by first | rfl | exact (mB_t (by omega)).symm | exact (mB_f (by omega)).symm | omega | (rw [mEx2_1 (by omega)] at h9; omega) | (rw [mEx2_2 (by omega) (by omega)] at h9; omega) | (exfalso; omega)) (mw_wk (by first | rfl | (rw [mEx2_0 (by omega) (by omega)]; omega) | (rw [mEx2_1 (by omega)]; omega) | (rw [mEx2_2 (by omega) (by omega)]; omega) | (exfalso; omega)) rfl rfl rfl hP) hS
      · refine mw_iconst hx hb dX1_times_19 ?_
        refine lv_goto (tgt := 24) hx hb dX1_times_20 (by decide) ?_
        refine lv_istore (lv' := [(4, .int (mI (1))), (0, .ref h0), (1, .int (mI (m9))), (2, .int (mI (a))), (3, .int (mI (b)))]) hx hb dX1_times_24 hl (by decide) rfl (fun ls hl => ?_)
        refine lv_aload_n hx hb dX1_times_26 rfl (lv_at hl 1 rfl) ?_
        refine lv_aload_n hx hb dX1_times_27 rfl (lv_at hl 1 rfl) ?_
        refine lv_iload_n hx hb dX1_times_28 rfl (lv_at hl 2 rfl) ?_
        refine mw_cVi (rest := [.ref h0]) (q := (RX1, TX1, 13)) hC (c_X1_isMarket l D h0 a1 a2 cA cJ t f g v L P m9 (by omega) (by omega)) (cwV 1 hts gX1_times_X1_isMarket rfl rfl rfl (by decide +kernel) ⟨Nat.le_of_ble_eq_true rfl, Nat.le_of_ble_eq_true rfl⟩) hK hP rfl rfl rfl hl.1 rfl (Nat.le_of_ble_eq_true rfl) ⟨Nat.zero_le _, Nat.zero_le _⟩ dX1_times_29 ?_
        refine mw_zne (tgt := 39) hx hb dX1_times_32 (by decide) (fun c_32 => ?_) (fun c_32 => ?_)
        · refine lv_iload hx hb dX1_times_39 (lv_at hl 0 rfl) ?_
          refine mw_if_eq (tgt := 48) hx hb (by omega) dX1_times_41 (by decide) (fun c => absurd c (by decide)) (fun _ => ?_)
          refine mw_iconst hx hb dX1_times_44 ?_
          refine lv_goto (tgt := 49) hx hb dX1_times_45 (by decide) ?_
          refine mw_cM (rest := []) (q := (RX1, TX1, 13)) hC (c_X1_goesWell l D h0 a1 a2 cA cJ t f g v L P 0 (by omega) hdis) (cwV 1 hts gX1_times_X1_goesWell rfl rfl rfl (by decide +kernel) ⟨Nat.le_of_ble_eq_true rfl, Nat.le_of_ble_eq_true rfl⟩) hK hP hS (fun _ h => h) rfl rfl rfl hl.1 rfl (Nat.le_of_ble_eq_true rfl) ⟨Nat.zero_le _, Nat.zero_le _⟩ dX1_times_49 (fun _ H locs _ hP hS _ _ => ?_)
          have hP : va_P D vwCl (mMW h0 a1 a2 cA 0 f g v L P) H := hP
          have hD := hDD 0 f g v L P
          refine W.eq (g2 := F0 m 52 ls [.int (mI (mB (0 = 0)))]) rfl ?_
          refine mw_topi (y := 1) (mB_t rfl) ?_
          refine mw_if_eq (tgt := 67) hx hb (by omega) dX1_times_52 (by decide) (fun c => absurd c (by decide)) (fun _ => ?_)
          refine lv_aload_n hx hb dX1_times_55 rfl (lv_at hl 1 rfl) ?_
          refine lv_iload_n hx hb dX1_times_56 rfl (lv_at hl 2 rfl) ?_
          refine lv_iload_n hx hb dX1_times_57 rfl (lv_at hl 3 rfl) ?_
          refine mw_i2l hx hb (by omega) dX1_times_58 ?_
          refine lv_iload_n hx hb dX1_times_59 rfl (lv_at hl 4 rfl) ?_
          refine mw_i2l hx hb (by omega) dX1_times_60 ?_
          refine mw_cVi (rest := []) (q := (RX1, TX1, 13)) hC (c_X1_count l D h0 a1 a2 cA cJ 0 f g v L P m9 a b (id hok) (by omega) (by omega) (by omega)) (cwV 3 hts gX1_times_X1_count rfl rfl rfl (by decide +kernel) ⟨Nat.le_of_ble_eq_true rfl, Nat.le_of_ble_eq_true rfl⟩) hK hP rfl rfl rfl hl.1 rfl (Nat.le_of_ble_eq_true rfl) ⟨Nat.zero_le _, Nat.zero_le _⟩ dX1_times_61 ?_
          refine lv_goto (tgt := 68) hx hb dX1_times_64 (by decide) ?_
          exact mw_yretI hx hb hr hlocks dX1_times_68 f g (fun h9 => by first | rfl | exact (mB_t (by omega)).symm | exact (mB_f (by omega)).symm | omega | (rw [mEx2_1 (by omega)] at h9; omega) | (rw [mEx2_2 (by omega) (by omega)] at h9; omega) | (exfalso; omega)) (mw_wk (by first | rfl | (rw [mEx2_0 (by omega) (by omega)]; omega) | (rw [mEx2_1 (by omega)]; omega) | (rw [mEx2_2 (by omega) (by omega)]; omega) | (exfalso; omega)) rfl rfl rfl hP) hS
        · refine mw_iconst hx hb dX1_times_35 ?_
          refine lv_goto (tgt := 49) hx hb dX1_times_36 (by decide) ?_
          refine mw_cM (rest := []) (q := (RX1, TX1, 13)) hC (c_X1_goesWell l D h0 a1 a2 cA cJ t f g v L P 1 (by omega) hdis) (cwV 1 hts gX1_times_X1_goesWell rfl rfl rfl (by decide +kernel) ⟨Nat.le_of_ble_eq_true rfl, Nat.le_of_ble_eq_true rfl⟩) hK hP hS (fun _ h => h) rfl rfl rfl hl.1 rfl (Nat.le_of_ble_eq_true rfl) ⟨Nat.zero_le _, Nat.zero_le _⟩ dX1_times_49 (fun _ H locs _ hP hS _ _ => ?_)
          have hP : va_P D vwCl (mMW h0 a1 a2 cA 1 f g v L P) H := hP
          have hD := hDD 1 f g v L P
          refine W.eq (g2 := F0 m 52 ls [.int (mI (mB (1 = 0)))]) rfl ?_
          refine mw_topi (y := 0) (mB_f (by omega)) ?_
          refine mw_if_eq (tgt := 67) hx hb (by omega) dX1_times_52 (by decide) (fun _ => ?_) (fun c => absurd (by decide) c)
          refine mw_iconst hx hb dX1_times_67 ?_
          exact mw_yretI hx hb hr hlocks dX1_times_68 f g (fun h9 => by first | rfl | exact (mB_t (by omega)).symm | exact (mB_f (by omega)).symm | omega | (rw [mEx2_1 (by omega)] at h9; omega) | (rw [mEx2_2 (by omega) (by omega)] at h9; omega) | (exfalso; omega)) (mw_wk (by first | rfl | (rw [mEx2_0 (by omega) (by omega)]; omega) | (rw [mEx2_1 (by omega)]; omega) | (rw [mEx2_2 (by omega) (by omega)]; omega) | (exfalso; omega)) rfl rfl rfl hP) hS

set_option maxHeartbeats 400000 in
set_option maxRecDepth 100000 in
theorem y_X1_heldOn (l : Launch) (D : va_G) (h0 a1 a2 : Nat) (cA cJ : ClassId) (t f g : Int) (v : Nat → Int) (L P : Int → Int) (d : Int) (hd9 : mRI d) (hok : mOK v L P) (hdis : mDis h0 a1 a2) : mY l yX1_heldOn wsX1_heldOn ({ frames := 3, cells := 0, slots := 0, locals := 71 }) [.ref h0, .int (mI (d))] D (mMW h0 a1 a2 cA t f g v L P) (mTy cA cJ) (fun r => some (.int (mI r))) (fun u => (mEx1 (mDay d)) = 0 → u.1 = mSet L P d (v 0).toNat) (fun u => mMW h0 a1 a2 cA (((mEx1 (mDay d) : Nat)) : Int) u.2.1 u.2.2 (v) (L) (P)) (mA3 h0 a1 a2) := by
  refine mw_openY (cc := cX1_heldOn) (maxL := 2) (ret := (some .int)) (by decide) rfl (Nat.le_of_ble_eq_true rfl) ?_
  intro p e s m below meth c ls hC hr hlocks hB hl
  obtain ⟨hx, hb, hml, hown, hts⟩ := id hC
  obtain ⟨hP, hK⟩ := hB
  have hl : lv_has ls 2 [(0, .ref h0), (1, .int (mI (d)))] := hl
  have hS : va_S (mA3 h0 a1 a2) s.heap s.heap [] := va_S.rf
  have hDD : ∀ (t f g : Int) (v : Nat → Int) (L P : Int → Int), va_D (mA3 h0 a1 a2) (mMW h0 a1 a2 cA t f g v L P) := fun t f g v L P => mD3 hdis (mA3_in h0 a1 a2)
  have hD := hDD t f g v L P
  have hok9 := hok
  obtain ⟨⟨o1, o2⟩, oL, ⟨o3, o4, o5, o6, o7, o8⟩, ⟨o9, o10, o11, o12, o13, o14, o15, o16⟩⟩ := hok9
  refine lv_aload_n hx hb dX1_heldOn_0 rfl (lv_at hl 0 rfl) ?_
  refine lv_iload_n hx hb dX1_heldOn_1 rfl (lv_at hl 1 rfl) ?_
  refine mw_cSi (rest := [.ref h0]) hC (c_X1_isDay l d (by omega)) (va_cwS 1 hts gX1_heldOn_X1_isDay rfl rfl rfl (by decide +kernel) ⟨Nat.le_of_ble_eq_true rfl, Nat.le_of_ble_eq_true rfl⟩) rfl hl.1 rfl (Nat.le_of_ble_eq_true rfl) ⟨Nat.zero_le _, Nat.zero_le _⟩ dX1_heldOn_2 ?_
  refine mw_zeq (tgt := 12) hx hb dX1_heldOn_5 (by decide) (fun c_5 => ?_) (fun c_5 => ?_)
  · refine mw_iconst hx hb dX1_heldOn_12 ?_
    refine mw_cM (rest := []) (q := (RX1, TX1, 13)) hC (c_X1_goesWell l D h0 a1 a2 cA cJ t f g v L P 1 (by omega) hdis) (cwV 1 hts gX1_heldOn_X1_goesWell rfl rfl rfl (by decide +kernel) ⟨Nat.le_of_ble_eq_true rfl, Nat.le_of_ble_eq_true rfl⟩) hK hP hS (fun _ h => h) rfl rfl rfl hl.1 rfl (Nat.le_of_ble_eq_true rfl) ⟨Nat.zero_le _, Nat.zero_le _⟩ dX1_heldOn_13 (fun _ H locs _ hP hS _ _ => ?_)
    have hP : va_P D vwCl (mMW h0 a1 a2 cA 1 f g v L P) H := hP
    have hD := hDD 1 f g v L P
    refine W.eq (g2 := F0 m 16 ls [.int (mI (mB (1 = 0)))]) rfl ?_
    refine mw_topi (y := 0) (mB_f (by omega)) ?_
    refine mw_if_eq (tgt := 27) hx hb (by omega) dX1_heldOn_16 (by decide) (fun _ => ?_) (fun c => absurd (by decide) c)
    refine mw_iconst hx hb dX1_heldOn_27 ?_
    exact mw_yretI hx hb hr hlocks dX1_heldOn_28 f g (fun h9 => by first | rfl | exact (mB_t (by omega)).symm | exact (mB_f (by omega)).symm | omega | (rw [mEx1_1 (by omega)] at h9; omega) | (exfalso; omega)) (mw_wk (by first | rfl | (rw [mEx1_0 (by omega)]; omega) | (rw [mEx1_1 (by omega)]; omega) | (exfalso; omega)) rfl rfl rfl hP) hS
  · refine mw_iconst hx hb dX1_heldOn_8 ?_
    refine lv_goto (tgt := 13) hx hb dX1_heldOn_9 (by decide) ?_
    refine mw_cM (rest := []) (q := (RX1, TX1, 13)) hC (c_X1_goesWell l D h0 a1 a2 cA cJ t f g v L P 0 (by omega) hdis) (cwV 1 hts gX1_heldOn_X1_goesWell rfl rfl rfl (by decide +kernel) ⟨Nat.le_of_ble_eq_true rfl, Nat.le_of_ble_eq_true rfl⟩) hK hP hS (fun _ h => h) rfl rfl rfl hl.1 rfl (Nat.le_of_ble_eq_true rfl) ⟨Nat.zero_le _, Nat.zero_le _⟩ dX1_heldOn_13 (fun _ H locs _ hP hS _ _ => ?_)
    have hP : va_P D vwCl (mMW h0 a1 a2 cA 0 f g v L P) H := hP
    have hD := hDD 0 f g v L P
    refine W.eq (g2 := F0 m 16 ls [.int (mI (mB (0 = 0)))]) rfl ?_
    refine mw_topi (y := 1) (mB_t rfl) ?_
    refine mw_if_eq (tgt := 27) hx hb (by omega) dX1_heldOn_16 (by decide) (fun c => absurd c (by decide)) (fun _ => ?_)
    refine lv_aload_n hx hb dX1_heldOn_19 rfl (lv_at hl 0 rfl) ?_
    refine lv_iload_n hx hb dX1_heldOn_20 rfl (lv_at hl 1 rfl) ?_
    refine mw_cVi (rest := []) (q := (RX1, TX1, 13)) hC (c_X1_held l D h0 a1 a2 cA cJ 0 f g v L P d (id hok) (by omega)) (cwV 1 hts gX1_heldOn_X1_held rfl rfl rfl (by decide +kernel) ⟨Nat.le_of_ble_eq_true rfl, Nat.le_of_ble_eq_true rfl⟩) hK hP rfl rfl rfl hl.1 rfl (Nat.le_of_ble_eq_true rfl) ⟨Nat.zero_le _, Nat.zero_le _⟩ dX1_heldOn_21 ?_
    refine lv_goto (tgt := 28) hx hb dX1_heldOn_24 (by decide) ?_
    exact mw_yretI hx hb hr hlocks dX1_heldOn_28 f g (fun h9 => by first | rfl | exact (mB_t (by omega)).symm | exact (mB_f (by omega)).symm | omega | (rw [mEx1_1 (by omega)] at h9; omega) | (exfalso; omega)) (mw_wk (by first | rfl | (rw [mEx1_0 (by omega)]; omega) | (rw [mEx1_1 (by omega)]; omega) | (exfalso; omega)) rfl rfl rfl hP) hS

set_option maxHeartbeats 400000 in
set_option maxRecDepth 100000 in
theorem y_X1_month (l : Launch) (D : va_G) (h0 a1 a2 : Nat) (cA cJ : ClassId) (t f g : Int) (v : Nat → Int) (L P : Int → Int) (d : Int) (hd9 : mRI d) (hok : mOK v L P) (hdis : mDis h0 a1 a2) : mY l yX1_month wsX1_month ({ frames := 3, cells := 0, slots := 0, locals := 72 }) [.ref h0, .int (mI (d))] D (mMW h0 a1 a2 cA t f g v L P) (mTy cA cJ) (fun r => some (.int (mI r))) (fun u => (mEx1 (mDay d)) = 0 → u.1 = mMonth v d) (fun u => mMW h0 a1 a2 cA (((mEx1 (mDay d) : Nat)) : Int) u.2.1 u.2.2 (v) (L) (P)) (mA3 h0 a1 a2) := by
  refine mw_openY (cc := cX1_month) (maxL := 2) (ret := (some .int)) (by decide) rfl (Nat.le_of_ble_eq_true rfl) ?_
  intro p e s m below meth c ls hC hr hlocks hB hl
  obtain ⟨hx, hb, hml, hown, hts⟩ := id hC
  obtain ⟨hP, hK⟩ := hB
  have hl : lv_has ls 2 [(0, .ref h0), (1, .int (mI (d)))] := hl
  have hS : va_S (mA3 h0 a1 a2) s.heap s.heap [] := va_S.rf
  have hDD : ∀ (t f g : Int) (v : Nat → Int) (L P : Int → Int), va_D (mA3 h0 a1 a2) (mMW h0 a1 a2 cA t f g v L P) := fun t f g v L P => mD3 hdis (mA3_in h0 a1 a2)
  have hD := hDD t f g v L P
  have hok9 := hok
  obtain ⟨⟨o1, o2⟩, oL, ⟨o3, o4, o5, o6, o7, o8⟩, ⟨o9, o10, o11, o12, o13, o14, o15, o16⟩⟩ := hok9
  refine lv_aload_n hx hb dX1_month_0 rfl (lv_at hl 0 rfl) ?_
  refine lv_iload_n hx hb dX1_month_1 rfl (lv_at hl 1 rfl) ?_
  refine mw_cSi (rest := [.ref h0]) hC (c_X1_isDay l d (by omega)) (va_cwS 1 hts gX1_month_X1_isDay rfl rfl rfl (by decide +kernel) ⟨Nat.le_of_ble_eq_true rfl, Nat.le_of_ble_eq_true rfl⟩) rfl hl.1 rfl (Nat.le_of_ble_eq_true rfl) ⟨Nat.zero_le _, Nat.zero_le _⟩ dX1_month_2 ?_
  refine mw_zeq (tgt := 12) hx hb dX1_month_5 (by decide) (fun c_5 => ?_) (fun c_5 => ?_)
  · refine mw_iconst hx hb dX1_month_12 ?_
    refine mw_cM (rest := []) (q := (RX1, TX1, 13)) hC (c_X1_goesWell l D h0 a1 a2 cA cJ t f g v L P 1 (by omega) hdis) (cwV 1 hts gX1_month_X1_goesWell rfl rfl rfl (by decide +kernel) ⟨Nat.le_of_ble_eq_true rfl, Nat.le_of_ble_eq_true rfl⟩) hK hP hS (fun _ h => h) rfl rfl rfl hl.1 rfl (Nat.le_of_ble_eq_true rfl) ⟨Nat.zero_le _, Nat.zero_le _⟩ dX1_month_13 (fun _ H locs _ hP hS _ _ => ?_)
    have hP : va_P D vwCl (mMW h0 a1 a2 cA 1 f g v L P) H := hP
    have hD := hDD 1 f g v L P
    refine W.eq (g2 := F0 m 16 ls [.int (mI (mB (1 = 0)))]) rfl ?_
    refine mw_topi (y := 0) (mB_f (by omega)) ?_
    refine mw_if_eq (tgt := 29) hx hb (by omega) dX1_month_16 (by decide) (fun _ => ?_) (fun c => absurd (by decide) c)
    refine mw_iconst hx hb dX1_month_29 ?_
    exact mw_yretI hx hb hr hlocks dX1_month_30 f g (fun h9 => by first | rfl | exact (mB_t (by omega)).symm | exact (mB_f (by omega)).symm | omega | (rw [mEx1_1 (by omega)] at h9; omega) | (exfalso; omega)) (mw_wk (by first | rfl | (rw [mEx1_0 (by omega)]; omega) | (rw [mEx1_1 (by omega)]; omega) | (exfalso; omega)) rfl rfl rfl hP) hS
  · refine mw_iconst hx hb dX1_month_8 ?_
    refine lv_goto (tgt := 13) hx hb dX1_month_9 (by decide) ?_
    refine mw_cM (rest := []) (q := (RX1, TX1, 13)) hC (c_X1_goesWell l D h0 a1 a2 cA cJ t f g v L P 0 (by omega) hdis) (cwV 1 hts gX1_month_X1_goesWell rfl rfl rfl (by decide +kernel) ⟨Nat.le_of_ble_eq_true rfl, Nat.le_of_ble_eq_true rfl⟩) hK hP hS (fun _ h => h) rfl rfl rfl hl.1 rfl (Nat.le_of_ble_eq_true rfl) ⟨Nat.zero_le _, Nat.zero_le _⟩ dX1_month_13 (fun _ H locs _ hP hS _ _ => ?_)
    have hP : va_P D vwCl (mMW h0 a1 a2 cA 0 f g v L P) H := hP
    have hD := hDD 0 f g v L P
    refine W.eq (g2 := F0 m 16 ls [.int (mI (mB (0 = 0)))]) rfl ?_
    refine mw_topi (y := 1) (mB_t rfl) ?_
    refine mw_if_eq (tgt := 29) hx hb (by omega) dX1_month_16 (by decide) (fun c => absurd c (by decide)) (fun _ => ?_)
    refine lv_aload_n hx hb dX1_month_19 rfl (lv_at hl 0 rfl) ?_
    refine lv_iload_n hx hb dX1_month_20 rfl (lv_at hl 1 rfl) ?_
    refine mw_i2l hx hb (by omega) dX1_month_21 ?_
    refine mw_cVl (rest := []) (q := (RX1, TX1, 13)) hC (c_X1_monthOf l D h0 a1 a2 cA cJ 0 f g v L P d (id hok) (by omega)) (cwV 1 hts gX1_month_X1_monthOf rfl rfl rfl (by decide +kernel) ⟨Nat.le_of_ble_eq_true rfl, Nat.le_of_ble_eq_true rfl⟩) hK hP rfl rfl rfl hl.1 rfl (Nat.le_of_ble_eq_true rfl) ⟨Nat.zero_le _, Nat.zero_le _⟩ dX1_month_22 ?_
    refine mw_l2i hx hb dX1_month_25 ?_
    refine lv_goto (tgt := 30) hx hb dX1_month_26 (by decide) ?_
    exact mw_yretI hx hb hr hlocks dX1_month_30 f g (fun h9 => by first | rfl | exact (mB_t (by omega)).symm | exact (mB_f (by omega)).symm | omega | (rw [mEx1_1 (by omega)] at h9; omega) | (exfalso; omega)) (mw_wk (by first | rfl | (rw [mEx1_0 (by omega)]; omega) | (rw [mEx1_1 (by omega)]; omega) | (exfalso; omega)) rfl rfl rfl hP) hS

set_option maxHeartbeats 400000 in
set_option maxRecDepth 100000 in
theorem y_X1_lunarDay (l : Launch) (D : va_G) (h0 a1 a2 : Nat) (cA cJ : ClassId) (t f g : Int) (v : Nat → Int) (L P : Int → Int) (d : Int) (hd9 : mRI d) (hok : mOK v L P) (hdis : mDis h0 a1 a2) : mY l yX1_lunarDay wsX1_lunarDay ({ frames := 2, cells := 0, slots := 0, locals := 47 }) [.ref h0, .int (mI (d))] D (mMW h0 a1 a2 cA t f g v L P) (mTy cA cJ) (fun r => some (.int (mI r))) (fun u => (mEx1 (mDay d)) = 0 → u.1 = mLunar v d) (fun u => mMW h0 a1 a2 cA (((mEx1 (mDay d) : Nat)) : Int) u.2.1 u.2.2 (v) (L) (P)) (mA3 h0 a1 a2) := by
  refine mw_openY (cc := cX1_lunarDay) (maxL := 2) (ret := (some .int)) (by decide) rfl (Nat.le_of_ble_eq_true rfl) ?_
  intro p e s m below meth c ls hC hr hlocks hB hl
  obtain ⟨hx, hb, hml, hown, hts⟩ := id hC
  obtain ⟨hP, hK⟩ := hB
  have hl : lv_has ls 2 [(0, .ref h0), (1, .int (mI (d)))] := hl
  have hS : va_S (mA3 h0 a1 a2) s.heap s.heap [] := va_S.rf
  have hDD : ∀ (t f g : Int) (v : Nat → Int) (L P : Int → Int), va_D (mA3 h0 a1 a2) (mMW h0 a1 a2 cA t f g v L P) := fun t f g v L P => mD3 hdis (mA3_in h0 a1 a2)
  have hD := hDD t f g v L P
  have hok9 := hok
  obtain ⟨⟨o1, o2⟩, oL, ⟨o3, o4, o5, o6, o7, o8⟩, ⟨o9, o10, o11, o12, o13, o14, o15, o16⟩⟩ := hok9
  refine lv_aload_n hx hb dX1_lunarDay_0 rfl (lv_at hl 0 rfl) ?_
  refine lv_iload_n hx hb dX1_lunarDay_1 rfl (lv_at hl 1 rfl) ?_
  refine mw_cSi (rest := [.ref h0]) hC (c_X1_isDay l d (by omega)) (va_cwS 1 hts gX1_lunarDay_X1_isDay rfl rfl rfl (by decide +kernel) ⟨Nat.le_of_ble_eq_true rfl, Nat.le_of_ble_eq_true rfl⟩) rfl hl.1 rfl (Nat.le_of_ble_eq_true rfl) ⟨Nat.zero_le _, Nat.zero_le _⟩ dX1_lunarDay_2 ?_
  refine mw_zeq (tgt := 12) hx hb dX1_lunarDay_5 (by decide) (fun c_5 => ?_) (fun c_5 => ?_)
  · refine mw_iconst hx hb dX1_lunarDay_12 ?_
    refine mw_cM (rest := []) (q := (RX1, TX1, 13)) hC (c_X1_goesWell l D h0 a1 a2 cA cJ t f g v L P 1 (by omega) hdis) (cwV 1 hts gX1_lunarDay_X1_goesWell rfl rfl rfl (by decide +kernel) ⟨Nat.le_of_ble_eq_true rfl, Nat.le_of_ble_eq_true rfl⟩) hK hP hS (fun _ h => h) rfl rfl rfl hl.1 rfl (Nat.le_of_ble_eq_true rfl) ⟨Nat.zero_le _, Nat.zero_le _⟩ dX1_lunarDay_13 (fun _ H locs _ hP hS _ _ => ?_)
    have hP : va_P D vwCl (mMW h0 a1 a2 cA 1 f g v L P) H := hP
    have hD := hDD 1 f g v L P
    refine W.eq (g2 := F0 m 16 ls [.int (mI (mB (1 = 0)))]) rfl ?_
    refine mw_topi (y := 0) (mB_f (by omega)) ?_
    refine mw_if_eq (tgt := 29) hx hb (by omega) dX1_lunarDay_16 (by decide) (fun _ => ?_) (fun c => absurd (by decide) c)
    refine mw_iconst hx hb dX1_lunarDay_29 ?_
    exact mw_yretI hx hb hr hlocks dX1_lunarDay_30 f g (fun h9 => by first | rfl | exact (mB_t (by omega)).symm | exact (mB_f (by omega)).symm | omega | (rw [mEx1_1 (by omega)] at h9; omega) | (exfalso; omega)) (mw_wk (by first | rfl | (rw [mEx1_0 (by omega)]; omega) | (rw [mEx1_1 (by omega)]; omega) | (exfalso; omega)) rfl rfl rfl hP) hS
  · refine mw_iconst hx hb dX1_lunarDay_8 ?_
    refine lv_goto (tgt := 13) hx hb dX1_lunarDay_9 (by decide) ?_
    refine mw_cM (rest := []) (q := (RX1, TX1, 13)) hC (c_X1_goesWell l D h0 a1 a2 cA cJ t f g v L P 0 (by omega) hdis) (cwV 1 hts gX1_lunarDay_X1_goesWell rfl rfl rfl (by decide +kernel) ⟨Nat.le_of_ble_eq_true rfl, Nat.le_of_ble_eq_true rfl⟩) hK hP hS (fun _ h => h) rfl rfl rfl hl.1 rfl (Nat.le_of_ble_eq_true rfl) ⟨Nat.zero_le _, Nat.zero_le _⟩ dX1_lunarDay_13 (fun _ H locs _ hP hS _ _ => ?_)
    have hP : va_P D vwCl (mMW h0 a1 a2 cA 0 f g v L P) H := hP
    have hD := hDD 0 f g v L P
    refine W.eq (g2 := F0 m 16 ls [.int (mI (mB (0 = 0)))]) rfl ?_
    refine mw_topi (y := 1) (mB_t rfl) ?_
    refine mw_if_eq (tgt := 29) hx hb (by omega) dX1_lunarDay_16 (by decide) (fun c => absurd c (by decide)) (fun _ => ?_)
    refine lv_aload_n hx hb dX1_lunarDay_19 rfl (lv_at hl 0 rfl) ?_
    refine lv_iload_n hx hb dX1_lunarDay_20 rfl (lv_at hl 1 rfl) ?_
    refine mw_i2l hx hb (by omega) dX1_lunarDay_21 ?_
    refine mw_cVl (rest := []) (q := (RX1, TX1, 13)) hC (c_X1_lunarOf l D h0 a1 a2 cA cJ 0 f g v L P d (id hok) (by omega)) (cwV 1 hts gX1_lunarDay_X1_lunarOf rfl rfl rfl (by decide +kernel) ⟨Nat.le_of_ble_eq_true rfl, Nat.le_of_ble_eq_true rfl⟩) hK hP rfl rfl rfl hl.1 rfl (Nat.le_of_ble_eq_true rfl) ⟨Nat.zero_le _, Nat.zero_le _⟩ dX1_lunarDay_22 ?_
    refine mw_l2i hx hb dX1_lunarDay_25 ?_
    refine lv_goto (tgt := 30) hx hb dX1_lunarDay_26 (by decide) ?_
    exact mw_yretI hx hb hr hlocks dX1_lunarDay_30 f g (fun h9 => by first | rfl | exact (mB_t (by omega)).symm | exact (mB_f (by omega)).symm | omega | (rw [mEx1_1 (by omega)] at h9; omega) | (exfalso; omega)) (mw_wk (by first | rfl | (rw [mEx1_0 (by omega)]; omega) | (rw [mEx1_1 (by omega)]; omega) | (exfalso; omega)) rfl rfl rfl hP) hS

set_option maxHeartbeats 400000 in
set_option maxRecDepth 100000 in
theorem y_X1_year (l : Launch) (D : va_G) (h0 a1 a2 : Nat) (cA cJ : ClassId) (t f g : Int) (v : Nat → Int) (L P : Int → Int) (d : Int) (hd9 : mRI d) (hok : mOK v L P) (hdis : mDis h0 a1 a2) : mY l yX1_year wsX1_year ({ frames := 4, cells := 0, slots := 0, locals := 95 }) [.ref h0, .int (mI (d))] D (mMW h0 a1 a2 cA t f g v L P) (mTy cA cJ) (fun r => some (.int (mI r))) (fun u => (mEx1 (mDay d)) = 0 → u.1 = mYr v d) (fun u => mMW h0 a1 a2 cA (((mEx1 (mDay d) : Nat)) : Int) u.2.1 u.2.2 (v) (L) (P)) (mA3 h0 a1 a2) := by
  refine mw_openY (cc := cX1_year) (maxL := 2) (ret := (some .int)) (by decide) rfl (Nat.le_of_ble_eq_true rfl) ?_
  intro p e s m below meth c ls hC hr hlocks hB hl
  obtain ⟨hx, hb, hml, hown, hts⟩ := id hC
  obtain ⟨hP, hK⟩ := hB
  have hl : lv_has ls 2 [(0, .ref h0), (1, .int (mI (d)))] := hl
  have hS : va_S (mA3 h0 a1 a2) s.heap s.heap [] := va_S.rf
  have hDD : ∀ (t f g : Int) (v : Nat → Int) (L P : Int → Int), va_D (mA3 h0 a1 a2) (mMW h0 a1 a2 cA t f g v L P) := fun t f g v L P => mD3 hdis (mA3_in h0 a1 a2)
  have hD := hDD t f g v L P
  have hok9 := hok
  obtain ⟨⟨o1, o2⟩, oL, ⟨o3, o4, o5, o6, o7, o8⟩, ⟨o9, o10, o11, o12, o13, o14, o15, o16⟩⟩ := hok9
  refine lv_aload_n hx hb dX1_year_0 rfl (lv_at hl 0 rfl) ?_
  refine lv_iload_n hx hb dX1_year_1 rfl (lv_at hl 1 rfl) ?_
  refine mw_cSi (rest := [.ref h0]) hC (c_X1_isDay l d (by omega)) (va_cwS 1 hts gX1_year_X1_isDay rfl rfl rfl (by decide +kernel) ⟨Nat.le_of_ble_eq_true rfl, Nat.le_of_ble_eq_true rfl⟩) rfl hl.1 rfl (Nat.le_of_ble_eq_true rfl) ⟨Nat.zero_le _, Nat.zero_le _⟩ dX1_year_2 ?_
  refine mw_zeq (tgt := 12) hx hb dX1_year_5 (by decide) (fun c_5 => ?_) (fun c_5 => ?_)
  · refine mw_iconst hx hb dX1_year_12 ?_
    refine mw_cM (rest := []) (q := (RX1, TX1, 13)) hC (c_X1_goesWell l D h0 a1 a2 cA cJ t f g v L P 1 (by omega) hdis) (cwV 1 hts gX1_year_X1_goesWell rfl rfl rfl (by decide +kernel) ⟨Nat.le_of_ble_eq_true rfl, Nat.le_of_ble_eq_true rfl⟩) hK hP hS (fun _ h => h) rfl rfl rfl hl.1 rfl (Nat.le_of_ble_eq_true rfl) ⟨Nat.zero_le _, Nat.zero_le _⟩ dX1_year_13 (fun _ H locs _ hP hS _ _ => ?_)
    have hP : va_P D vwCl (mMW h0 a1 a2 cA 1 f g v L P) H := hP
    have hD := hDD 1 f g v L P
    refine W.eq (g2 := F0 m 16 ls [.int (mI (mB (1 = 0)))]) rfl ?_
    refine mw_topi (y := 0) (mB_f (by omega)) ?_
    refine mw_if_eq (tgt := 28) hx hb (by omega) dX1_year_16 (by decide) (fun _ => ?_) (fun c => absurd (by decide) c)
    refine mw_iconst hx hb dX1_year_28 ?_
    exact mw_yretI hx hb hr hlocks dX1_year_29 f g (fun h9 => by first | rfl | exact (mB_t (by omega)).symm | exact (mB_f (by omega)).symm | omega | (rw [mEx1_1 (by omega)] at h9; omega) | (exfalso; omega)) (mw_wk (by first | rfl | (rw [mEx1_0 (by omega)]; omega) | (rw [mEx1_1 (by omega)]; omega) | (exfalso; omega)) rfl rfl rfl hP) hS
  · refine mw_iconst hx hb dX1_year_8 ?_
    refine lv_goto (tgt := 13) hx hb dX1_year_9 (by decide) ?_
    refine mw_cM (rest := []) (q := (RX1, TX1, 13)) hC (c_X1_goesWell l D h0 a1 a2 cA cJ t f g v L P 0 (by omega) hdis) (cwV 1 hts gX1_year_X1_goesWell rfl rfl rfl (by decide +kernel) ⟨Nat.le_of_ble_eq_true rfl, Nat.le_of_ble_eq_true rfl⟩) hK hP hS (fun _ h => h) rfl rfl rfl hl.1 rfl (Nat.le_of_ble_eq_true rfl) ⟨Nat.zero_le _, Nat.zero_le _⟩ dX1_year_13 (fun _ H locs _ hP hS _ _ => ?_)
    have hP : va_P D vwCl (mMW h0 a1 a2 cA 0 f g v L P) H := hP
    have hD := hDD 0 f g v L P
    refine W.eq (g2 := F0 m 16 ls [.int (mI (mB (0 = 0)))]) rfl ?_
    refine mw_topi (y := 1) (mB_t rfl) ?_
    refine mw_if_eq (tgt := 28) hx hb (by omega) dX1_year_16 (by decide) (fun c => absurd c (by decide)) (fun _ => ?_)
    refine lv_aload_n hx hb dX1_year_19 rfl (lv_at hl 0 rfl) ?_
    refine lv_iload_n hx hb dX1_year_20 rfl (lv_at hl 1 rfl) ?_
    refine mw_cVl (rest := []) (q := (RX1, TX1, 13)) hC (c_X1_yearOf l D h0 a1 a2 cA cJ 0 f g v L P d (id hok) (by omega)) (cwV 1 hts gX1_year_X1_yearOf rfl rfl rfl (by decide +kernel) ⟨Nat.le_of_ble_eq_true rfl, Nat.le_of_ble_eq_true rfl⟩) hK hP rfl rfl rfl hl.1 rfl (Nat.le_of_ble_eq_true rfl) ⟨Nat.zero_le _, Nat.zero_le _⟩ dX1_year_21 ?_
    refine mw_l2i hx hb dX1_year_24 ?_
    refine lv_goto (tgt := 29) hx hb dX1_year_25 (by decide) ?_
    exact mw_yretI hx hb hr hlocks dX1_year_29 f g (fun h9 => by first | rfl | exact (mB_t (by omega)).symm | exact (mB_f (by omega)).symm | omega | (rw [mEx1_1 (by omega)] at h9; omega) | (exfalso; omega)) (mw_wk (by first | rfl | (rw [mEx1_0 (by omega)]; omega) | (rw [mEx1_1 (by omega)]; omega) | (exfalso; omega)) rfl rfl rfl hP) hS

set_option maxHeartbeats 400000 in
set_option maxRecDepth 100000 in
theorem y_X1_placeInYear (l : Launch) (D : va_G) (h0 a1 a2 : Nat) (cA cJ : ClassId) (t f g : Int) (v : Nat → Int) (L P : Int → Int) (d : Int) (hd9 : mRI d) (hok : mOK v L P) (hdis : mDis h0 a1 a2) : mY l yX1_placeInYear wsX1_placeInYear ({ frames := 4, cells := 0, slots := 0, locals := 95 }) [.ref h0, .int (mI (d))] D (mMW h0 a1 a2 cA t f g v L P) (mTy cA cJ) (fun r => some (.int (mI r))) (fun u => (mEx1 (mDay d)) = 0 → u.1 = d - mBeg v (mYr v d)) (fun u => mMW h0 a1 a2 cA (((mEx1 (mDay d) : Nat)) : Int) u.2.1 u.2.2 (v) (L) (P)) (mA3 h0 a1 a2) := by
  refine mw_openY (cc := cX1_placeInYear) (maxL := 2) (ret := (some .int)) (by decide) rfl (Nat.le_of_ble_eq_true rfl) ?_
  intro p e s m below meth c ls hC hr hlocks hB hl
  obtain ⟨hx, hb, hml, hown, hts⟩ := id hC
  obtain ⟨hP, hK⟩ := hB
  have hl : lv_has ls 2 [(0, .ref h0), (1, .int (mI (d)))] := hl
  have hS : va_S (mA3 h0 a1 a2) s.heap s.heap [] := va_S.rf
  have hDD : ∀ (t f g : Int) (v : Nat → Int) (L P : Int → Int), va_D (mA3 h0 a1 a2) (mMW h0 a1 a2 cA t f g v L P) := fun t f g v L P => mD3 hdis (mA3_in h0 a1 a2)
  have hD := hDD t f g v L P
  have hok9 := hok
  obtain ⟨⟨o1, o2⟩, oL, ⟨o3, o4, o5, o6, o7, o8⟩, ⟨o9, o10, o11, o12, o13, o14, o15, o16⟩⟩ := hok9
  refine lv_aload_n hx hb dX1_placeInYear_0 rfl (lv_at hl 0 rfl) ?_
  refine lv_iload_n hx hb dX1_placeInYear_1 rfl (lv_at hl 1 rfl) ?_
  refine mw_cSi (rest := [.ref h0]) hC (c_X1_isDay l d (by omega)) (va_cwS 1 hts gX1_placeInYear_X1_isDay rfl rfl rfl (by decide +kernel) ⟨Nat.le_of_ble_eq_true rfl, Nat.le_of_ble_eq_true rfl⟩) rfl hl.1 rfl (Nat.le_of_ble_eq_true rfl) ⟨Nat.zero_le _, Nat.zero_le _⟩ dX1_placeInYear_2 ?_
  refine mw_zeq (tgt := 12) hx hb dX1_placeInYear_5 (by decide) (fun c_5 => ?_) (fun c_5 => ?_)
  · refine mw_iconst hx hb dX1_placeInYear_12 ?_
    refine mw_cM (rest := []) (q := (RX1, TX1, 13)) hC (c_X1_goesWell l D h0 a1 a2 cA cJ t f g v L P 1 (by omega) hdis) (cwV 1 hts gX1_placeInYear_X1_goesWell rfl rfl rfl (by decide +kernel) ⟨Nat.le_of_ble_eq_true rfl, Nat.le_of_ble_eq_true rfl⟩) hK hP hS (fun _ h => h) rfl rfl rfl hl.1 rfl (Nat.le_of_ble_eq_true rfl) ⟨Nat.zero_le _, Nat.zero_le _⟩ dX1_placeInYear_13 (fun _ H locs _ hP hS _ _ => ?_)
    have hP : va_P D vwCl (mMW h0 a1 a2 cA 1 f g v L P) H := hP
    have hD := hDD 1 f g v L P
    refine W.eq (g2 := F0 m 16 ls [.int (mI (mB (1 = 0)))]) rfl ?_
    refine mw_topi (y := 0) (mB_f (by omega)) ?_
    refine mw_if_eq (tgt := 35) hx hb (by omega) dX1_placeInYear_16 (by decide) (fun _ => ?_) (fun c => absurd (by decide) c)
    refine mw_iconst hx hb dX1_placeInYear_35 ?_
    exact mw_yretI hx hb hr hlocks dX1_placeInYear_36 f g (fun h9 => by first | rfl | exact (mB_t (by omega)).symm | exact (mB_f (by omega)).symm | omega | (rw [mEx1_1 (by omega)] at h9; omega) | (exfalso; omega)) (mw_wk (by first | rfl | (rw [mEx1_0 (by omega)]; omega) | (rw [mEx1_1 (by omega)]; omega) | (exfalso; omega)) rfl rfl rfl hP) hS
  · refine mw_iconst hx hb dX1_placeInYear_8 ?_
    refine lv_goto (tgt := 13) hx hb dX1_placeInYear_9 (by decide) ?_
    refine mw_cM (rest := []) (q := (RX1, TX1, 13)) hC (c_X1_goesWell l D h0 a1 a2 cA cJ t f g v L P 0 (by omega) hdis) (cwV 1 hts gX1_placeInYear_X1_goesWell rfl rfl rfl (by decide +kernel) ⟨Nat.le_of_ble_eq_true rfl, Nat.le_of_ble_eq_true rfl⟩) hK hP hS (fun _ h => h) rfl rfl rfl hl.1 rfl (Nat.le_of_ble_eq_true rfl) ⟨Nat.zero_le _, Nat.zero_le _⟩ dX1_placeInYear_13 (fun _ H locs _ hP hS _ _ => ?_)
    have hP : va_P D vwCl (mMW h0 a1 a2 cA 0 f g v L P) H := hP
    have hD := hDD 0 f g v L P
    refine W.eq (g2 := F0 m 16 ls [.int (mI (mB (0 = 0)))]) rfl ?_
    refine mw_topi (y := 1) (mB_t rfl) ?_
    refine mw_if_eq (tgt := 35) hx hb (by omega) dX1_placeInYear_16 (by decide) (fun c => absurd c (by decide)) (fun _ => ?_)
    refine lv_iload_n hx hb dX1_placeInYear_19 rfl (lv_at hl 1 rfl) ?_
    refine mw_i2l hx hb (by omega) dX1_placeInYear_20 ?_
    have f1 := m_yr_r hok (d := d) (by omega)
    refine lv_aload_n hx hb dX1_placeInYear_21 rfl (lv_at hl 0 rfl) ?_
    refine lv_aload_n hx hb dX1_placeInYear_22 rfl (lv_at hl 0 rfl) ?_
    refine lv_iload_n hx hb dX1_placeInYear_23 rfl (lv_at hl 1 rfl) ?_
    refine mw_cVl (rest := [.ref h0, .long (mL (d))]) (q := (RX1, TX1, 13)) hC (c_X1_yearOf l D h0 a1 a2 cA cJ 0 f g v L P d (id hok) (by omega)) (cwV 1 hts gX1_placeInYear_X1_yearOf rfl rfl rfl (by decide +kernel) ⟨Nat.le_of_ble_eq_true rfl, Nat.le_of_ble_eq_true rfl⟩) hK hP rfl rfl rfl hl.1 rfl (Nat.le_of_ble_eq_true rfl) ⟨Nat.zero_le _, Nat.zero_le _⟩ dX1_placeInYear_24 ?_
    refine mw_cVl (rest := [.long (mL (d))]) (q := (RX1, TX1, 13)) hC (c_X1_beginOf l D h0 a1 a2 cA cJ 0 f g v L P (mYr v d) (id hok) (by omega)) (cwV 1 hts gX1_placeInYear_X1_beginOf rfl rfl rfl (by decide +kernel) ⟨Nat.le_of_ble_eq_true rfl, Nat.le_of_ble_eq_true rfl⟩) hK hP rfl rfl rfl hl.1 rfl (Nat.le_of_ble_eq_true rfl) ⟨Nat.zero_le _, Nat.zero_le _⟩ dX1_placeInYear_27 ?_
    refine mw_lsub hx hb dX1_placeInYear_30 ?_
    refine mw_l2i hx hb dX1_placeInYear_31 ?_
    refine lv_goto (tgt := 36) hx hb dX1_placeInYear_32 (by decide) ?_
    exact mw_yretI hx hb hr hlocks dX1_placeInYear_36 f g (fun h9 => by first | rfl | exact (mB_t (by omega)).symm | exact (mB_f (by omega)).symm | omega | (rw [mEx1_1 (by omega)] at h9; omega) | (exfalso; omega)) (mw_wk (by first | rfl | (rw [mEx1_0 (by omega)]; omega) | (rw [mEx1_1 (by omega)]; omega) | (exfalso; omega)) rfl rfl rfl hP) hS

set_option maxHeartbeats 400000 in
set_option maxRecDepth 100000 in
theorem y_X1_isLeap (l : Launch) (D : va_G) (h0 a1 a2 : Nat) (cA cJ : ClassId) (t f g : Int) (v : Nat → Int) (L P : Int → Int) (y : Int) (hy9 : mRI y) (hok : mOK v L P) (hdis : mDis h0 a1 a2) : mY l yX1_isLeap wsX1_isLeap ({ frames := 2, cells := 0, slots := 0, locals := 47 }) [.ref h0, .int (mI (y))] D (mMW h0 a1 a2 cA t f g v L P) (mTy cA cJ) (fun r => some (.int (mI r))) (fun u => (mEx1 (mYear y)) = 0 → u.1 = mB (mLeap v y)) (fun u => mMW h0 a1 a2 cA (((mEx1 (mYear y) : Nat)) : Int) u.2.1 u.2.2 (v) (L) (P)) (mA3 h0 a1 a2) := by
  refine mw_openY (cc := cX1_isLeap) (maxL := 2) (ret := (some .boolean)) (by decide) rfl (Nat.le_of_ble_eq_true rfl) ?_
  intro p e s m below meth c ls hC hr hlocks hB hl
  obtain ⟨hx, hb, hml, hown, hts⟩ := id hC
  obtain ⟨hP, hK⟩ := hB
  have hl : lv_has ls 2 [(0, .ref h0), (1, .int (mI (y)))] := hl
  have hS : va_S (mA3 h0 a1 a2) s.heap s.heap [] := va_S.rf
  have hDD : ∀ (t f g : Int) (v : Nat → Int) (L P : Int → Int), va_D (mA3 h0 a1 a2) (mMW h0 a1 a2 cA t f g v L P) := fun t f g v L P => mD3 hdis (mA3_in h0 a1 a2)
  have hD := hDD t f g v L P
  have hok9 := hok
  obtain ⟨⟨o1, o2⟩, oL, ⟨o3, o4, o5, o6, o7, o8⟩, ⟨o9, o10, o11, o12, o13, o14, o15, o16⟩⟩ := hok9
  refine lv_aload_n hx hb dX1_isLeap_0 rfl (lv_at hl 0 rfl) ?_
  refine lv_iload_n hx hb dX1_isLeap_1 rfl (lv_at hl 1 rfl) ?_
  refine mw_cSi (rest := [.ref h0]) hC (c_X1_isYear l y (by omega)) (va_cwS 1 hts gX1_isLeap_X1_isYear rfl rfl rfl (by decide +kernel) ⟨Nat.le_of_ble_eq_true rfl, Nat.le_of_ble_eq_true rfl⟩) rfl hl.1 rfl (Nat.le_of_ble_eq_true rfl) ⟨Nat.zero_le _, Nat.zero_le _⟩ dX1_isLeap_2 ?_
  refine mw_zeq (tgt := 12) hx hb dX1_isLeap_5 (by decide) (fun c_5 => ?_) (fun c_5 => ?_)
  · refine mw_iconst hx hb dX1_isLeap_12 ?_
    refine mw_cM (rest := []) (q := (RX1, TX1, 13)) hC (c_X1_goesWell l D h0 a1 a2 cA cJ t f g v L P 1 (by omega) hdis) (cwV 1 hts gX1_isLeap_X1_goesWell rfl rfl rfl (by decide +kernel) ⟨Nat.le_of_ble_eq_true rfl, Nat.le_of_ble_eq_true rfl⟩) hK hP hS (fun _ h => h) rfl rfl rfl hl.1 rfl (Nat.le_of_ble_eq_true rfl) ⟨Nat.zero_le _, Nat.zero_le _⟩ dX1_isLeap_13 (fun _ H locs _ hP hS _ _ => ?_)
    have hP : va_P D vwCl (mMW h0 a1 a2 cA 1 f g v L P) H := hP
    have hD := hDD 1 f g v L P
    refine W.eq (g2 := F0 m 16 ls [.int (mI (mB (1 = 0)))]) rfl ?_
    refine mw_topi (y := 0) (mB_f (by omega)) ?_
    refine mw_if_eq (tgt := 32) hx hb (by omega) dX1_isLeap_16 (by decide) (fun _ => ?_) (fun c => absurd (by decide) c)
    refine mw_iconst hx hb dX1_isLeap_32 ?_
    exact mw_yretZ hx hb hr hlocks dX1_isLeap_33 (by first | exact mB_nar | decide +kernel) f g (fun h9 => by first | rfl | exact (mB_t (by omega)).symm | exact (mB_f (by omega)).symm | omega | (rw [mEx1_1 (by omega)] at h9; omega) | (exfalso; omega)) (mw_wk (by first | rfl | (rw [mEx1_0 (by omega)]; omega) | (rw [mEx1_1 (by omega)]; omega) | (exfalso; omega)) rfl rfl rfl hP) hS
  · refine mw_iconst hx hb dX1_isLeap_8 ?_
    refine lv_goto (tgt := 13) hx hb dX1_isLeap_9 (by decide) ?_
    refine mw_cM (rest := []) (q := (RX1, TX1, 13)) hC (c_X1_goesWell l D h0 a1 a2 cA cJ t f g v L P 0 (by omega) hdis) (cwV 1 hts gX1_isLeap_X1_goesWell rfl rfl rfl (by decide +kernel) ⟨Nat.le_of_ble_eq_true rfl, Nat.le_of_ble_eq_true rfl⟩) hK hP hS (fun _ h => h) rfl rfl rfl hl.1 rfl (Nat.le_of_ble_eq_true rfl) ⟨Nat.zero_le _, Nat.zero_le _⟩ dX1_isLeap_13 (fun _ H locs _ hP hS _ _ => ?_)
    have hP : va_P D vwCl (mMW h0 a1 a2 cA 0 f g v L P) H := hP
    have hD := hDD 0 f g v L P
    refine W.eq (g2 := F0 m 16 ls [.int (mI (mB (0 = 0)))]) rfl ?_
    refine mw_topi (y := 1) (mB_t rfl) ?_
    refine mw_if_eq (tgt := 32) hx hb (by omega) dX1_isLeap_16 (by decide) (fun c => absurd c (by decide)) (fun _ => ?_)
    refine lv_aload_n hx hb dX1_isLeap_19 rfl (lv_at hl 0 rfl) ?_
    refine lv_iload_n hx hb dX1_isLeap_20 rfl (lv_at hl 1 rfl) ?_
    refine mw_i2l hx hb (by omega) dX1_isLeap_21 ?_
    refine mw_cVi (rest := []) (q := (RX1, TX1, 13)) hC (c_X1_leaps l D h0 a1 a2 cA cJ 0 f g v L P y (id hok) (by omega)) (cwV 1 hts gX1_isLeap_X1_leaps rfl rfl rfl (by decide +kernel) ⟨Nat.le_of_ble_eq_true rfl, Nat.le_of_ble_eq_true rfl⟩) hK hP rfl rfl rfl hl.1 rfl (Nat.le_of_ble_eq_true rfl) ⟨Nat.zero_le _, Nat.zero_le _⟩ dX1_isLeap_22 ?_
    refine mw_zeq (tgt := 32) hx hb dX1_isLeap_25 (by decide) (fun c_25 => ?_) (fun c_25 => ?_)
    · refine mw_iconst hx hb dX1_isLeap_32 ?_
      exact mw_yretZ hx hb hr hlocks dX1_isLeap_33 (by first | exact mB_nar | decide +kernel) f g (fun h9 => by first | rfl | exact (mB_t (by omega)).symm | exact (mB_f (by omega)).symm | omega | (rw [mEx1_1 (by omega)] at h9; omega) | (exfalso; omega)) (mw_wk (by first | rfl | (rw [mEx1_0 (by omega)]; omega) | (rw [mEx1_1 (by omega)]; omega) | (exfalso; omega)) rfl rfl rfl hP) hS
    · refine mw_iconst hx hb dX1_isLeap_28 ?_
      refine lv_goto (tgt := 33) hx hb dX1_isLeap_29 (by decide) ?_
      exact mw_yretZ hx hb hr hlocks dX1_isLeap_33 (by first | exact mB_nar | decide +kernel) f g (fun h9 => by first | rfl | exact (mB_t (by omega)).symm | exact (mB_f (by omega)).symm | omega | (rw [mEx1_1 (by omega)] at h9; omega) | (exfalso; omega)) (mw_wk (by first | rfl | (rw [mEx1_0 (by omega)]; omega) | (rw [mEx1_1 (by omega)]; omega) | (exfalso; omega)) rfl rfl rfl hP) hS
