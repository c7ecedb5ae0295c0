set_option maxHeartbeats 400000 in
set_option maxRecDepth 100000 in
theorem y_X1_doMeet (l : Launch) (D : va_G) (h0 a1 a2 : Nat) (cA cJ : ClassId) (t f g : Int) (v : Nat → Int) (L P : Int → Int) (z : Int) (hz : mRI z) (hok : mOK v L P) (hdis : mDis h0 a1 a2) : mY l yX1_doMeet wsX1_doMeet ({ frames := 3, cells := 0, slots := 0, locals := 74 }) [.ref h0, .int (mI (z))] D (mMW h0 a1 a2 cA t f g v L P) (mTy cA cJ) (fun r => some (.int (mI r))) (fun u => (mEx2 (1 ≤ mPop z 32 ∧ mPop z 32 ≤ 5) (mUsh z (v 0) = 0)) = 0 → u.1 = mB (mMts v L P z)) (fun u => mMW h0 a1 a2 cA (((mEx2 (1 ≤ mPop z 32 ∧ mPop z 32 ≤ 5) (mUsh z (v 0) = 0) : Nat)) : Int) u.2.1 u.2.2 (v) (L) (P)) (mA3 h0 a1 a2) := by
  refine mw_openY (cc := cX1_doMeet) (maxL := 2) (ret := (some .boolean)) (by decide) rfl (Nat.le_of_ble_eq_true rfl) ?_
  intro p e s m below meth c ls hC hr hlocks hB hl
  obtain ⟨hx, hb, hml, hown, hts⟩ := id hC
  obtain ⟨hP, hK⟩ := hB
  have hl : lv_has ls 2 [(0, .ref h0), (1, .int (mI (z)))] := hl
  have hS : va_S (mA3 h0 a1 a2) s.heap s.heap [] := va_S.rf
  have hDD : ∀ (t f g : Int) (v : Nat → Int) (L P : Int → Int), va_D (mA3 h0 a1 a2) (mMW h0 a1 a2 cA t f g v L P) := fun t f g v L P => mD3 hdis (mA3_in h0 a1 a2)
  have hD := hDD t f g v L P
  have hok9 := hok
  obtain ⟨⟨o1, o2⟩, oL, ⟨o3, o4, o5, o6, o7, o8⟩, ⟨o9, o10, o11, o12, o13, o14, o15, o16⟩⟩ := hok9
  have fl := m_flt v z
  have flx : mFlt v z = ((mEx2 (1 ≤ mPop z 32 ∧ mPop z 32 ≤ 5) (mUsh z (v 0) = 0) : Nat) : Int) := rfl
  refine lv_aload_n hx hb dX1_doMeet_0 rfl (lv_at hl 0 rfl) ?_
  refine lv_aload_n hx hb dX1_doMeet_1 rfl (lv_at hl 0 rfl) ?_
  refine lv_iload_n hx hb dX1_doMeet_2 rfl (lv_at hl 1 rfl) ?_
  refine mw_cVi (rest := [.ref h0]) (q := (RX1, TX1, 13)) hC (c_X1_faultOf l D h0 a1 a2 cA cJ t f g v L P z (by omega)) (cwV 1 hts gX1_doMeet_X1_faultOf rfl rfl rfl (by decide +kernel) ⟨Nat.le_of_ble_eq_true rfl, Nat.le_of_ble_eq_true rfl⟩) hK hP rfl rfl rfl hl.1 rfl (Nat.le_of_ble_eq_true rfl) ⟨Nat.zero_le _, Nat.zero_le _⟩ dX1_doMeet_3 ?_
  refine mw_cM (rest := []) (q := (RX1, TX1, 13)) hC (c_X1_goesWell l D h0 a1 a2 cA cJ t f g v L P (mFlt v z) (by omega) hdis) (cwV 1 hts gX1_doMeet_X1_goesWell rfl rfl rfl (by decide +kernel) ⟨Nat.le_of_ble_eq_true rfl, Nat.le_of_ble_eq_true rfl⟩) hK hP hS (fun _ h => h) rfl rfl rfl hl.1 rfl (Nat.le_of_ble_eq_true rfl) ⟨Nat.zero_le _, Nat.zero_le _⟩ dX1_doMeet_6 (fun _ H locs _ hP hS _ _ => ?_)
  have hP : va_P D vwCl (mMW h0 a1 a2 cA (mFlt v z) f g v L P) H := hP
  have hD := hDD (mFlt v z) f g v L P
  refine W.eq (g2 := F0 m 9 ls [.int (mI (mB (mFlt v z = 0)))]) rfl ?_
  refine mw_zeq (tgt := 25) hx hb dX1_doMeet_9 (by decide) (fun c_9 => ?_) (fun c_9 => ?_)
  · refine mw_iconst hx hb dX1_doMeet_25 ?_
    exact mw_yretZ hx hb hr hlocks dX1_doMeet_26 (by first | exact mB_nar | decide +kernel) f g (fun h9 => by first | exact (by first | exact (mB_t c_18).symm | exact (mB_f c_18).symm) | rfl | exact (mB_t (by omega)).symm | exact (mB_f (by omega)).symm | omega | (rw [mEx2_1 (by omega)] at h9; omega) | (rw [mEx2_2 (by omega) (by omega)] at h9; omega) | (exfalso; omega)) (mw_wk (by first | rfl | (rw [mEx2_0 (by omega) (by omega)]; omega) | (rw [mEx2_1 (by omega)]; omega) | (rw [mEx2_2 (by omega) (by omega)]; omega) | (exfalso; omega)) rfl rfl rfl hP) hS
  · refine lv_aload_n hx hb dX1_doMeet_12 rfl (lv_at hl 0 rfl) ?_
    refine lv_iload_n hx hb dX1_doMeet_13 rfl (lv_at hl 1 rfl) ?_
    refine mw_iconst hx hb dX1_doMeet_14 ?_
    refine mw_cM (rest := []) (q := (RX1, TX1, 13)) hC (c_X1_find l D h0 a1 a2 cA cJ (mFlt v z) f g v L P z 0 (id hok) (by omega) (by omega) (by omega) hdis) (cwV 2 hts gX1_doMeet_X1_find rfl rfl rfl (by decide +kernel) ⟨Nat.le_of_ble_eq_true rfl, Nat.le_of_ble_eq_true rfl⟩) hK hP hS (fun _ h => h) rfl rfl rfl hl.1 rfl (Nat.le_of_ble_eq_true rfl) ⟨Nat.zero_le _, Nat.zero_le _⟩ dX1_doMeet_15 (fun u H locs hu hP hS _ _ => ?_)
    obtain ⟨f9, g9⟩ := u
    have hu : (mFd L P z 0 (v 0).toNat).isSome = true → mFd L P z 0 (v 0).toNat = some (f9, g9) := hu
    have hP : va_P D vwCl (mMW h0 a1 a2 cA (mFlt v z) f9 g9 v L P) H := hP
    have hD := hDD (mFlt v z) f9 g9 v L P
    refine W.eq (g2 := F0 m 18 ls [.int (mI (mB ((mFd L P z 0 (v 0).toNat).isSome = true)))]) rfl ?_
    refine mw_zeq (tgt := 25) hx hb dX1_doMeet_18 (by decide) (fun c_18 => ?_) (fun c_18 => ?_)
    · refine mw_iconst hx hb dX1_doMeet_25 ?_
      exact mw_yretZ hx hb hr hlocks dX1_doMeet_26 (by first | exact mB_nar | decide +kernel) f9 g9 (fun h9 => by first | exact (by first | exact (mB_t c_18).symm | exact (mB_f c_18).symm) | rfl | exact (mB_t (by omega)).symm | exact (mB_f (by omega)).symm | omega | (rw [mEx2_1 (by omega)] at h9; omega) | (rw [mEx2_2 (by omega) (by omega)] at h9; omega) | (exfalso; omega)) (mw_wk (by first | rfl | (rw [mEx2_0 (by omega) (by omega)]; omega) | (rw [mEx2_1 (by omega)]; omega) | (rw [mEx2_2 (by omega) (by omega)]; omega) | (exfalso; omega)) rfl rfl rfl hP) hS
    · refine mw_iconst hx hb dX1_doMeet_21 ?_
      refine lv_goto (tgt := 26) hx hb dX1_doMeet_22 (by decide) ?_
      exact mw_yretZ hx hb hr hlocks dX1_doMeet_26 (by first | exact mB_nar | decide +kernel) f9 g9 (fun h9 => by first | exact (by first | exact (mB_t c_18).symm | exact (mB_f c_18).symm) | rfl | exact (mB_t (by omega)).symm | exact (mB_f (by omega)).symm | omega | (rw [mEx2_1 (by omega)] at h9; omega) | (rw [mEx2_2 (by omega) (by omega)] at h9; omega) | (exfalso; omega)) (mw_wk (by first | rfl | (rw [mEx2_0 (by omega) (by omega)]; omega) | (rw [mEx2_1 (by omega)]; omega) | (rw [mEx2_2 (by omega) (by omega)]; omega) | (exfalso; omega)) rfl rfl rfl hP) hS

set_option maxHeartbeats 400000 in
set_option maxRecDepth 100000 in
theorem y_X1_period (l : Launch) (D : va_G) (h0 a1 a2 : Nat) (cA cJ : ClassId) (t f g : Int) (v : Nat → Int) (L P : Int → Int) (z : Int) (hz : mRI z) (hok : mOK v L P) (hdis : mDis h0 a1 a2) : mY l yX1_period wsX1_period ({ frames := 3, cells := 0, slots := 0, locals := 74 }) [.ref h0, .int (mI (z))] D (mMW h0 a1 a2 cA t f g v L P) (mTy cA cJ) (fun r => some (.int (mI r))) (fun u => (mEx3 (1 ≤ mPop z 32 ∧ mPop z 32 ≤ 5) (mUsh z (v 0) = 0) (mMts v L P z)) = 0 → u.1 = mSt (mFd L P z 0 (v 0).toNat)) (fun u => mMW h0 a1 a2 cA (((mEx3 (1 ≤ mPop z 32 ∧ mPop z 32 ≤ 5) (mUsh z (v 0) = 0) (mMts v L P z) : Nat)) : Int) u.2.1 u.2.2 (v) (L) (P)) (mA3 h0 a1 a2) := by
  refine mw_openY (cc := cX1_period) (maxL := 4) (ret := (some .int)) (by decide) rfl (Nat.le_of_ble_eq_true rfl) ?_
  intro p e s m below meth c ls hC hr hlocks hB hl
  obtain ⟨hx, hb, hml, hown, hts⟩ := id hC
  obtain ⟨hP, hK⟩ := hB
  have hin : ∀ w ∈ wsX10, w ∈ wsX1_period := by decide +kernel
  have hl : lv_has ls 4 [(0, .ref h0), (1, .int (mI (z)))] := hl
  have hS : va_S (mA3 h0 a1 a2) s.heap s.heap [] := va_S.rf
  have hDD : ∀ (t f g : Int) (v : Nat → Int) (L P : Int → Int), va_D (mA3 h0 a1 a2) (mMW h0 a1 a2 cA t f g v L P) := fun t f g v L P => mD3 hdis (mA3_in h0 a1 a2)
  have hD := hDD t f g v L P
  have hok9 := hok
  obtain ⟨⟨o1, o2⟩, oL, ⟨o3, o4, o5, o6, o7, o8⟩, ⟨o9, o10, o11, o12, o13, o14, o15, o16⟩⟩ := hok9
  have fl := m_flt v z
  have flx : mFlt v z = ((mEx2 (1 ≤ mPop z 32 ∧ mPop z 32 ≤ 5) (mUsh z (v 0) = 0) : Nat) : Int) := rfl
  have mm : (mFd L P z 0 (v 0).toNat).isSome = true ↔ mMts v L P z := Iff.rfl
  refine lv_aload_n hx hb dX1_period_0 rfl (lv_at hl 0 rfl) ?_
  refine lv_iload_n hx hb dX1_period_1 rfl (lv_at hl 1 rfl) ?_
  refine mw_cVi (rest := []) (q := (RX1, TX1, 13)) hC (c_X1_faultOf l D h0 a1 a2 cA cJ t f g v L P z (by omega)) (cwV 1 hts gX1_period_X1_faultOf rfl rfl rfl (by decide +kernel) ⟨Nat.le_of_ble_eq_true rfl, Nat.le_of_ble_eq_true rfl⟩) hK hP rfl rfl rfl hl.1 rfl (Nat.le_of_ble_eq_true rfl) ⟨Nat.zero_le _, Nat.zero_le _⟩ dX1_period_2 ?_
  refine lv_istore_n (lv' := [(2, .int (mI (mFlt v z))), (0, .ref h0), (1, .int (mI (z)))]) hx hb dX1_period_5 rfl hl (by decide) rfl (fun ls hl => ?_)
  refine lv_iload_n hx hb dX1_period_6 rfl (lv_at hl 0 rfl) ?_
  refine mw_if_ne (tgt := 23) hx hb (by omega) dX1_period_7 (by decide) (fun c_7 => ?_) (fun c_7 => ?_)
  · refine mw_iconst hx hb dX1_period_23 ?_
    refine lv_istore_n (lv' := [(3, .int (mI (0))), (2, .int (mI (mFlt v z))), (0, .ref h0), (1, .int (mI (z)))]) hx hb dX1_period_24 rfl hl (by decide) rfl (fun ls hl => ?_)
    refine lv_aload_n hx hb dX1_period_25 rfl (lv_at hl 2 rfl) ?_
    refine lv_iload_n hx hb dX1_period_26 rfl (lv_at hl 1 rfl) ?_
    refine mw_if_le (tgt := 34) hx hb (by omega) dX1_period_27 (by decide) (fun c_27 => False.elim (by omega)) (fun c_27 => ?_)
    refine lv_iload_n hx hb dX1_period_30 rfl (lv_at hl 1 rfl) ?_
    refine lv_goto (tgt := 43) hx hb dX1_period_31 (by decide) ?_
    refine mw_cM (rest := []) (q := (RX1, TX1, 13)) hC (c_X1_goesWell l D h0 a1 a2 cA cJ t f g v L P (mFlt v z) (by omega) hdis) (cwV 1 hts gX1_period_X1_goesWell rfl rfl rfl (by decide +kernel) ⟨Nat.le_of_ble_eq_true rfl, Nat.le_of_ble_eq_true rfl⟩) hK hP hS (fun _ h => h) rfl rfl rfl hl.1 rfl (Nat.le_of_ble_eq_true rfl) ⟨Nat.zero_le _, Nat.zero_le _⟩ dX1_period_43 (fun _ H locs _ hP hS _ _ => ?_)
    have hP : va_P D vwCl (mMW h0 a1 a2 cA (mFlt v z) f g v L P) H := hP
    have hD := hDD (mFlt v z) f g v L P
    refine W.eq (g2 := F0 m 46 ls [.int (mI (mB (mFlt v z = 0)))]) rfl ?_
    refine mw_zeq (tgt := 57) hx hb dX1_period_46 (by decide) (fun c_46 => ?_) (fun c_46 => False.elim (by omega))
    refine mw_iconst hx hb dX1_period_57 ?_
    exact mw_yretI hx hb hr hlocks dX1_period_58 f g (fun h9 => by first | exact (by rw [hu c_16]; rfl) | rfl | exact (mB_t (by omega)).symm | exact (mB_f (by omega)).symm | omega | (rw [mEx3_1 (by omega)] at h9; omega) | (rw [mEx3_2 (by omega) (by omega)] at h9; omega) | (rw [mEx3_3 (by omega) (by omega) (fun q => c_16 (mm.mpr q))] at h9; omega) | (have q9 : mFlt v z = (((mEx3 (1 ≤ mPop z 32 ∧ mPop z 32 ≤ 5) (mUsh z (v 0) = 0) (mMts v L P z)) : Nat) : Int) := m_flt3 (by omega) ⟨fun _ => by omega, fun _ => by omega⟩; omega) | (exfalso; omega)) (mw_wk (by first | rfl | (rw [mEx3_0 (by omega) (by omega) (mm.mp c_16)]; omega) | (rw [mEx3_1 (by omega)]; omega) | (rw [mEx3_2 (by omega) (by omega)]; omega) | (rw [mEx3_3 (by omega) (by omega) (fun q => c_16 (mm.mpr q))]; omega) | exact m_flt3 (by omega) ⟨fun _ => by omega, fun _ => by omega⟩ | (exfalso; omega)) rfl rfl rfl hP) hS
  · refine lv_aload_n hx hb dX1_period_10 rfl (lv_at hl 1 rfl) ?_
    refine lv_iload_n hx hb dX1_period_11 rfl (lv_at hl 2 rfl) ?_
    refine mw_iconst hx hb dX1_period_12 ?_
    refine mw_cM (rest := []) (q := (RX1, TX1, 13)) hC (c_X1_find l D h0 a1 a2 cA cJ t f g v L P z 0 (id hok) (by omega) (by omega) (by omega) hdis) (cwV 2 hts gX1_period_X1_find rfl rfl rfl (by decide +kernel) ⟨Nat.le_of_ble_eq_true rfl, Nat.le_of_ble_eq_true rfl⟩) hK hP hS (fun _ h => h) rfl rfl rfl hl.1 rfl (Nat.le_of_ble_eq_true rfl) ⟨Nat.zero_le _, Nat.zero_le _⟩ dX1_period_13 (fun u H locs hu hP hS _ _ => ?_)
    obtain ⟨f9, g9⟩ := u
    have hu : (mFd L P z 0 (v 0).toNat).isSome = true → mFd L P z 0 (v 0).toNat = some (f9, g9) := hu
    have hP : va_P D vwCl (mMW h0 a1 a2 cA t f9 g9 v L P) H := hP
    have hD := hDD t f9 g9 v L P
    refine W.eq (g2 := F0 m 16 ls [.int (mI (mB ((mFd L P z 0 (v 0).toNat).isSome = true)))]) rfl ?_
    refine mw_zeq (tgt := 23) hx hb dX1_period_16 (by decide) (fun c_16 => ?_) (fun c_16 => ?_)
    · refine mw_iconst hx hb dX1_period_23 ?_
      refine lv_istore_n (lv' := [(3, .int (mI (0))), (2, .int (mI (mFlt v z))), (0, .ref h0), (1, .int (mI (z)))]) hx hb dX1_period_24 rfl hl (by decide) rfl (fun ls hl => ?_)
      refine lv_aload_n hx hb dX1_period_25 rfl (lv_at hl 2 rfl) ?_
      refine lv_iload_n hx hb dX1_period_26 rfl (lv_at hl 1 rfl) ?_
      refine mw_if_le (tgt := 34) hx hb (by omega) dX1_period_27 (by decide) (fun c_27 => ?_) (fun c_27 => False.elim (by omega))
      refine lv_iload_n hx hb dX1_period_34 rfl (lv_at hl 0 rfl) ?_
      refine mw_if_eq (tgt := 42) hx hb (by omega) dX1_period_35 (by decide) (fun _ => ?_) (fun c => absurd (by decide) c)
      refine mw_iconst hx hb dX1_period_42 ?_
      refine mw_cM (rest := []) (q := (RX1, TX1, 13)) hC (c_X1_goesWell l D h0 a1 a2 cA cJ t f9 g9 v L P 3 (by omega) hdis) (cwV 1 hts gX1_period_X1_goesWell rfl rfl rfl (by decide +kernel) ⟨Nat.le_of_ble_eq_true rfl, Nat.le_of_ble_eq_true rfl⟩) hK hP hS (fun _ h => h) rfl rfl rfl hl.1 rfl (Nat.le_of_ble_eq_true rfl) ⟨Nat.zero_le _, Nat.zero_le _⟩ dX1_period_43 (fun _ H locs _ hP hS _ _ => ?_)
      have hP : va_P D vwCl (mMW h0 a1 a2 cA 3 f9 g9 v L P) H := hP
      have hD := hDD 3 f9 g9 v L P
      refine W.eq (g2 := F0 m 46 ls [.int (mI (mB (3 = 0)))]) rfl ?_
      refine mw_topi (y := 0) (mB_f (by omega)) ?_
      refine mw_if_eq (tgt := 57) hx hb (by omega) dX1_period_46 (by decide) (fun _ => ?_) (fun c => absurd (by decide) c)
      refine mw_iconst hx hb dX1_period_57 ?_
      exact mw_yretI hx hb hr hlocks dX1_period_58 f9 g9 (fun h9 => by first | exact (by rw [hu c_16]; rfl) | rfl | exact (mB_t (by omega)).symm | exact (mB_f (by omega)).symm | omega | (rw [mEx3_1 (by omega)] at h9; omega) | (rw [mEx3_2 (by omega) (by omega)] at h9; omega) | (rw [mEx3_3 (by omega) (by omega) (fun q => c_16 (mm.mpr q))] at h9; omega) | (have q9 : mFlt v z = (((mEx3 (1 ≤ mPop z 32 ∧ mPop z 32 ≤ 5) (mUsh z (v 0) = 0) (mMts v L P z)) : Nat) : Int) := m_flt3 (by omega) ⟨fun _ => by omega, fun _ => by omega⟩; omega) | (exfalso; omega)) (mw_wk (by first | rfl | (rw [mEx3_0 (by omega) (by omega) (mm.mp c_16)]; omega) | (rw [mEx3_1 (by omega)]; omega) | (rw [mEx3_2 (by omega) (by omega)]; omega) | (rw [mEx3_3 (by omega) (by omega) (fun q => c_16 (mm.mpr q))]; omega) | exact m_flt3 (by omega) ⟨fun _ => by omega, fun _ => by omega⟩ | (exfalso; omega)) rfl rfl rfl hP) hS
    · refine mw_iconst hx hb dX1_period_19 ?_
      refine lv_goto (tgt := 24) hx hb dX1_period_20 (by decide) ?_
      refine lv_istore_n (lv' := [(3, .int (mI (1))), (2, .int (mI (mFlt v z))), (0, .ref h0), (1, .int (mI (z)))]) hx hb dX1_period_24 rfl hl (by decide) rfl (fun ls hl => ?_)
      refine lv_aload_n hx hb dX1_period_25 rfl (lv_at hl 2 rfl) ?_
      refine lv_iload_n hx hb dX1_period_26 rfl (lv_at hl 1 rfl) ?_
      refine mw_if_le (tgt := 34) hx hb (by omega) dX1_period_27 (by decide) (fun c_27 => ?_) (fun c_27 => False.elim (by omega))
      refine lv_iload_n hx hb dX1_period_34 rfl (lv_at hl 0 rfl) ?_
      refine mw_if_eq (tgt := 42) hx hb (by omega) dX1_period_35 (by decide) (fun c => absurd c (by decide)) (fun _ => ?_)
      refine mw_iconst hx hb dX1_period_38 ?_
      refine lv_goto (tgt := 43) hx hb dX1_period_39 (by decide) ?_
      refine mw_cM (rest := []) (q := (RX1, TX1, 13)) hC (c_X1_goesWell l D h0 a1 a2 cA cJ t f9 g9 v L P 0 (by omega) hdis) (cwV 1 hts gX1_period_X1_goesWell rfl rfl rfl (by decide +kernel) ⟨Nat.le_of_ble_eq_true rfl, Nat.le_of_ble_eq_true rfl⟩) hK hP hS (fun _ h => h) rfl rfl rfl hl.1 rfl (Nat.le_of_ble_eq_true rfl) ⟨Nat.zero_le _, Nat.zero_le _⟩ dX1_period_43 (fun _ H locs _ hP hS _ _ => ?_)
      have hP : va_P D vwCl (mMW h0 a1 a2 cA 0 f9 g9 v L P) H := hP
      have hD := hDD 0 f9 g9 v L P
      refine W.eq (g2 := F0 m 46 ls [.int (mI (mB (0 = 0)))]) rfl ?_
      refine mw_topi (y := 1) (mB_t rfl) ?_
      refine mw_if_eq (tgt := 57) hx hb (by omega) dX1_period_46 (by decide) (fun c => absurd c (by decide)) (fun _ => ?_)
      refine lv_aload_n hx hb dX1_period_49 rfl (lv_at hl 2 rfl) ?_
      refine mw_getM hx hb hts hin hown hK hP rfl 12 (by decide) (by decide +kernel) rfl rfl dX1_period_50 ?_
      refine mw_l2i hx hb dX1_period_53 ?_
      refine lv_goto (tgt := 58) hx hb dX1_period_54 (by decide) ?_
      exact mw_yretI hx hb hr hlocks dX1_period_58 f9 g9 (fun h9 => by first | exact (by rw [hu c_16]; rfl) | rfl | exact (mB_t (by omega)).symm | exact (mB_f (by omega)).symm | omega | (rw [mEx3_1 (by omega)] at h9; omega) | (rw [mEx3_2 (by omega) (by omega)] at h9; omega) | (rw [mEx3_3 (by omega) (by omega) (fun q => c_16 (mm.mpr q))] at h9; omega) | (have q9 : mFlt v z = (((mEx3 (1 ≤ mPop z 32 ∧ mPop z 32 ≤ 5) (mUsh z (v 0) = 0) (mMts v L P z)) : Nat) : Int) := m_flt3 (by omega) ⟨fun _ => by omega, fun _ => by omega⟩; omega) | (exfalso; omega)) (mw_wk (by first | rfl | (rw [mEx3_0 (by omega) (by omega) (mm.mp c_16)]; omega) | (rw [mEx3_1 (by omega)]; omega) | (rw [mEx3_2 (by omega) (by omega)]; omega) | (rw [mEx3_3 (by omega) (by omega) (fun q => c_16 (mm.mpr q))]; omega) | exact m_flt3 (by omega) ⟨fun _ => by omega, fun _ => by omega⟩ | (exfalso; omega)) rfl rfl rfl hP) hS

set_option maxHeartbeats 400000 in
set_option maxRecDepth 100000 in
theorem y_X1_meeting (l : Launch) (D : va_G) (h0 a1 a2 : Nat) (cA cJ : ClassId) (t f g : Int) (v : Nat → Int) (L P : Int → Int) (z d : Int) (hz : mRI z) (hd9 : mRI d) (hok : mOK v L P) (hdis : mDis h0 a1 a2) : mY l yX1_meeting wsX1_meeting ({ frames := 3, cells := 0, slots := 0, locals := 74 }) [.ref h0, .int (mI (z)), .int (mI (d))] D (mMW h0 a1 a2 cA t f g v L P) (mTy cA cJ) (fun r => some (.int (mI r))) (fun u => (mEx3 (mDay d ∧ 1 ≤ mPop z 32 ∧ mPop z 32 ≤ 5) (mUsh z (v 0) = 0) (mMts v L P z)) = 0 → u.1 = d + (mD0 (mFd L P z 0 (v 0).toNat) - d) % mSt (mFd L P z 0 (v 0).toNat)) (fun u => mMW h0 a1 a2 cA (((mEx3 (mDay d ∧ 1 ≤ mPop z 32 ∧ mPop z 32 ≤ 5) (mUsh z (v 0) = 0) (mMts v L P z) : Nat)) : Int) u.2.1 u.2.2 (v) (L) (P)) (mA3 h0 a1 a2) := by
  refine mw_openY (cc := cX1_meeting) (maxL := 5) (ret := (some .int)) (by decide) rfl (Nat.le_of_ble_eq_true rfl) ?_
  intro p e s m below meth c ls hC hr hlocks hB hl
  obtain ⟨hx, hb, hml, hown, hts⟩ := id hC
  obtain ⟨hP, hK⟩ := hB
  have hin : ∀ w ∈ wsX10, w ∈ wsX1_meeting := by decide +kernel
  have hl : lv_has ls 5 [(0, .ref h0), (1, .int (mI (z))), (2, .int (mI (d)))] := hl
  have hS : va_S (mA3 h0 a1 a2) s.heap s.heap [] := va_S.rf
  have hDD : ∀ (t f g : Int) (v : Nat → Int) (L P : Int → Int), va_D (mA3 h0 a1 a2) (mMW h0 a1 a2 cA t f g v L P) := fun t f g v L P => mD3 hdis (mA3_in h0 a1 a2)
  have hD := hDD t f g v L P
  have hok9 := hok
  obtain ⟨⟨o1, o2⟩, oL, ⟨o3, o4, o5, o6, o7, o8⟩, ⟨o9, o10, o11, o12, o13, o14, o15, o16⟩⟩ := hok9
  have fl := m_flt v z
  have flx : mFlt v z = ((mEx2 (1 ≤ mPop z 32 ∧ mPop z 32 ≤ 5) (mUsh z (v 0) = 0) : Nat) : Int) := rfl
  have hLP : mLP L P (((v 0).toNat : Nat) : Int) := fun k9 h1 h2 => oL k9 h1 (by omega)
  have mm : (mFd L P z d (v 0).toNat).isSome = true ↔ mMts v L P z := by
    unfold mMts
    rw [m_meet (b := 0) hLP]
  refine lv_iload_n hx hb dX1_meeting_0 rfl (lv_at hl 2 rfl) ?_
  refine mw_cSi (rest := []) hC (c_X1_isDay l d (by omega)) (va_cwS 1 hts gX1_meeting_X1_isDay rfl rfl rfl (by decide +kernel) ⟨Nat.le_of_ble_eq_true rfl, Nat.le_of_ble_eq_true rfl⟩) rfl hl.1 rfl (Nat.le_of_ble_eq_true rfl) ⟨Nat.zero_le _, Nat.zero_le _⟩ dX1_meeting_1 ?_
  refine mw_zeq (tgt := 15) hx hb dX1_meeting_4 (by decide) (fun c_4 => ?_) (fun c_4 => ?_)
  · refine mw_iconst hx hb dX1_meeting_15 ?_
    refine lv_istore_n (lv' := [(3, .int (mI (1))), (0, .ref h0), (1, .int (mI (z))), (2, .int (mI (d)))]) hx hb dX1_meeting_16 rfl hl (by decide) rfl (fun ls hl => ?_)
    refine lv_iload_n hx hb dX1_meeting_17 rfl (lv_at hl 0 rfl) ?_
    refine mw_if_ne (tgt := 34) hx hb (by omega) dX1_meeting_18 (by decide) (fun _ => ?_) (fun c => absurd c (by decide))
    refine mw_iconst hx hb dX1_meeting_34 ?_
    refine lv_istore (lv' := [(4, .int (mI (0))), (3, .int (mI (1))), (0, .ref h0), (1, .int (mI (z))), (2, .int (mI (d)))]) hx hb dX1_meeting_35 hl (by decide) rfl (fun ls hl => ?_)
    refine lv_aload_n hx hb dX1_meeting_37 rfl (lv_at hl 2 rfl) ?_
    refine lv_iload_n hx hb dX1_meeting_38 rfl (lv_at hl 1 rfl) ?_
    refine mw_if_le (tgt := 46) hx hb (by omega) dX1_meeting_39 (by decide) (fun c_39 => False.elim (by omega)) (fun c_39 => ?_)
    refine lv_iload_n hx hb dX1_meeting_42 rfl (lv_at hl 1 rfl) ?_
    refine lv_goto (tgt := 56) hx hb dX1_meeting_43 (by decide) ?_
    refine mw_cM (rest := []) (q := (RX1, TX1, 13)) hC (c_X1_goesWell l D h0 a1 a2 cA cJ t f g v L P 1 (by omega) hdis) (cwV 1 hts gX1_meeting_X1_goesWell rfl rfl rfl (by decide +kernel) ⟨Nat.le_of_ble_eq_true rfl, Nat.le_of_ble_eq_true rfl⟩) hK hP hS (fun _ h => h) rfl rfl rfl hl.1 rfl (Nat.le_of_ble_eq_true rfl) ⟨Nat.zero_le _, Nat.zero_le _⟩ dX1_meeting_56 (fun _ H locs _ hP hS _ _ => ?_)
    have hP : va_P D vwCl (mMW h0 a1 a2 cA 1 f g v L P) H := hP
    have hD := hDD 1 f g v L P
    refine W.eq (g2 := F0 m 59 ls [.int (mI (mB (1 = 0)))]) rfl ?_
    refine mw_topi (y := 0) (mB_f (by omega)) ?_
    refine mw_if_eq (tgt := 70) hx hb (by omega) dX1_meeting_59 (by decide) (fun _ => ?_) (fun c => absurd (by decide) c)
    refine mw_iconst hx hb dX1_meeting_70 ?_
    exact mw_yretI hx hb hr hlocks dX1_meeting_71 f g (fun h9 => by first | exact (n7) | rfl | exact (mB_t (by omega)).symm | exact (mB_f (by omega)).symm | omega | (rw [mEx3_1 (by omega)] at h9; omega) | (rw [mEx3_2 (by omega) (by omega)] at h9; omega) | (rw [mEx3_3 (by omega) (by omega) (fun q => c_27 (mm.mpr q))] at h9; omega) | (have q9 : mFlt v z = (((mEx3 (mDay d ∧ 1 ≤ mPop z 32 ∧ mPop z 32 ≤ 5) (mUsh z (v 0) = 0) (mMts v L P z)) : Nat) : Int) := m_flt3 (by omega) ⟨fun _ => by omega, fun _ => by omega⟩; omega) | (exfalso; omega)) (mw_wk (by first | rfl | (rw [mEx3_0 (by omega) (by omega) (mm.mp c_27)]; omega) | (rw [mEx3_1 (by omega)]; omega) | (rw [mEx3_2 (by omega) (by omega)]; omega) | (rw [mEx3_3 (by omega) (by omega) (fun q => c_27 (mm.mpr q))]; omega) | exact m_flt3 (by omega) ⟨fun _ => by omega, fun _ => by omega⟩ | (exfalso; omega)) rfl rfl rfl hP) hS
  · refine lv_aload_n hx hb dX1_meeting_7 rfl (lv_at hl 0 rfl) ?_
    refine lv_iload_n hx hb dX1_meeting_8 rfl (lv_at hl 1 rfl) ?_
    refine mw_cVi (rest := []) (q := (RX1, TX1, 13)) hC (c_X1_faultOf l D h0 a1 a2 cA cJ t f g v L P z (by omega)) (cwV 1 hts gX1_meeting_X1_faultOf rfl rfl rfl (by decide +kernel) ⟨Nat.le_of_ble_eq_true rfl, Nat.le_of_ble_eq_true rfl⟩) hK hP rfl rfl rfl hl.1 rfl (Nat.le_of_ble_eq_true rfl) ⟨Nat.zero_le _, Nat.zero_le _⟩ dX1_meeting_9 ?_
    refine lv_goto (tgt := 16) hx hb dX1_meeting_12 (by decide) ?_
    refine lv_istore_n (lv' := [(3, .int (mI (mFlt v z))), (0, .ref h0), (1, .int (mI (z))), (2, .int (mI (d)))]) hx hb dX1_meeting_16 rfl hl (by decide) rfl (fun ls hl => ?_)
    refine lv_iload_n hx hb dX1_meeting_17 rfl (lv_at hl 0 rfl) ?_
    refine mw_if_ne (tgt := 34) hx hb (by omega) dX1_meeting_18 (by decide) (fun c_18 => ?_) (fun c_18 => ?_)
    · refine mw_iconst hx hb dX1_meeting_34 ?_
      refine lv_istore (lv' := [(4, .int (mI (0))), (3, .int (mI (mFlt v z))), (0, .ref h0), (1, .int (mI (z))), (2, .int (mI (d)))]) hx hb dX1_meeting_35 hl (by decide) rfl (fun ls hl => ?_)
      refine lv_aload_n hx hb dX1_meeting_37 rfl (lv_at hl 2 rfl) ?_
      refine lv_iload_n hx hb dX1_meeting_38 rfl (lv_at hl 1 rfl) ?_
      refine mw_if_le (tgt := 46) hx hb (by omega) dX1_meeting_39 (by decide) (fun c_39 => False.elim (by omega)) (fun c_39 => ?_)
      refine lv_iload_n hx hb dX1_meeting_42 rfl (lv_at hl 1 rfl) ?_
      refine lv_goto (tgt := 56) hx hb dX1_meeting_43 (by decide) ?_
      refine mw_cM (rest := []) (q := (RX1, TX1, 13)) hC (c_X1_goesWell l D h0 a1 a2 cA cJ t f g v L P (mFlt v z) (by omega) hdis) (cwV 1 hts gX1_meeting_X1_goesWell rfl rfl rfl (by decide +kernel) ⟨Nat.le_of_ble_eq_true rfl, Nat.le_of_ble_eq_true rfl⟩) hK hP hS (fun _ h => h) rfl rfl rfl hl.1 rfl (Nat.le_of_ble_eq_true rfl) ⟨Nat.zero_le _, Nat.zero_le _⟩ dX1_meeting_56 (fun _ H locs _ hP hS _ _ => ?_)
      have hP : va_P D vwCl (mMW h0 a1 a2 cA (mFlt v z) f g v L P) H := hP
      have hD := hDD (mFlt v z) f g v L P
      refine W.eq (g2 := F0 m 59 ls [.int (mI (mB (mFlt v z = 0)))]) rfl ?_
      refine mw_zeq (tgt := 70) hx hb dX1_meeting_59 (by decide) (fun c_59 => ?_) (fun c_59 => False.elim (by omega))
      refine mw_iconst hx hb dX1_meeting_70 ?_
      exact mw_yretI hx hb hr hlocks dX1_meeting_71 f g (fun h9 => by first | exact (n7) | rfl | exact (mB_t (by omega)).symm | exact (mB_f (by omega)).symm | omega | (rw [mEx3_1 (by omega)] at h9; omega) | (rw [mEx3_2 (by omega) (by omega)] at h9; omega) | (rw [mEx3_3 (by omega) (by omega) (fun q => c_27 (mm.mpr q))] at h9; omega) | (have q9 : mFlt v z = (((mEx3 (mDay d ∧ 1 ≤ mPop z 32 ∧ mPop z 32 ≤ 5) (mUsh z (v 0) = 0) (mMts v L P z)) : Nat) : Int) := m_flt3 (by omega) ⟨fun _ => by omega, fun _ => by omega⟩; omega) | (exfalso; omega)) (mw_wk (by first | rfl | (rw [mEx3_0 (by omega) (by omega) (mm.mp c_27)]; omega) | (rw [mEx3_1 (by omega)]; omega) | (rw [mEx3_2 (by omega) (by omega)]; omega) | (rw [mEx3_3 (by omega) (by omega) (fun q => c_27 (mm.mpr q))]; omega) | exact m_flt3 (by omega) ⟨fun _ => by omega, fun _ => by omega⟩ | (exfalso; omega)) rfl rfl rfl hP) hS
    · refine lv_aload_n hx hb dX1_meeting_21 rfl (lv_at hl 1 rfl) ?_
      refine lv_iload_n hx hb dX1_meeting_22 rfl (lv_at hl 2 rfl) ?_
      refine lv_iload_n hx hb dX1_meeting_23 rfl (lv_at hl 3 rfl) ?_
      refine mw_cM (rest := []) (q := (RX1, TX1, 13)) hC (c_X1_find l D h0 a1 a2 cA cJ t f g v L P z d (id hok) (by omega) (by omega) (by omega) hdis) (cwV 2 hts gX1_meeting_X1_find rfl rfl rfl (by decide +kernel) ⟨Nat.le_of_ble_eq_true rfl, Nat.le_of_ble_eq_true rfl⟩) hK hP hS (fun _ h => h) rfl rfl rfl hl.1 rfl (Nat.le_of_ble_eq_true rfl) ⟨Nat.zero_le _, Nat.zero_le _⟩ dX1_meeting_24 (fun u H locs hu hP hS _ _ => ?_)
      obtain ⟨f9, g9⟩ := u
      have hu : (mFd L P z d (v 0).toNat).isSome = true → mFd L P z d (v 0).toNat = some (f9, g9) := hu
      have hP : va_P D vwCl (mMW h0 a1 a2 cA t f9 g9 v L P) H := hP
      have hD := hDD t f9 g9 v L P
      refine W.eq (g2 := F0 m 27 ls [.int (mI (mB ((mFd L P z d (v 0).toNat).isSome = true)))]) rfl ?_
      refine mw_zeq (tgt := 34) hx hb dX1_meeting_27 (by decide) (fun c_27 => ?_) (fun c_27 => ?_)
      · refine mw_iconst hx hb dX1_meeting_34 ?_
        refine lv_istore (lv' := [(4, .int (mI (0))), (3, .int (mI (mFlt v z))), (0, .ref h0), (1, .int (mI (z))), (2, .int (mI (d)))]) hx hb dX1_meeting_35 hl (by decide) rfl (fun ls hl => ?_)
        refine lv_aload_n hx hb dX1_meeting_37 rfl (lv_at hl 2 rfl) ?_
        refine lv_iload_n hx hb dX1_meeting_38 rfl (lv_at hl 1 rfl) ?_
        refine mw_if_le (tgt := 46) hx hb (by omega) dX1_meeting_39 (by decide) (fun c_39 => ?_) (fun c_39 => False.elim (by omega))
        refine lv_iload hx hb dX1_meeting_46 (lv_at hl 0 rfl) ?_
        refine mw_if_eq (tgt := 55) hx hb (by omega) dX1_meeting_48 (by decide) (fun _ => ?_) (fun c => absurd (by decide) c)
        refine mw_iconst hx hb dX1_meeting_55 ?_
        refine mw_cM (rest := []) (q := (RX1, TX1, 13)) hC (c_X1_goesWell l D h0 a1 a2 cA cJ t f9 g9 v L P 3 (by omega) hdis) (cwV 1 hts gX1_meeting_X1_goesWell rfl rfl rfl (by decide +kernel) ⟨Nat.le_of_ble_eq_true rfl, Nat.le_of_ble_eq_true rfl⟩) hK hP hS (fun _ h => h) rfl rfl rfl hl.1 rfl (Nat.le_of_ble_eq_true rfl) ⟨Nat.zero_le _, Nat.zero_le _⟩ dX1_meeting_56 (fun _ H locs _ hP hS _ _ => ?_)
        have hP : va_P D vwCl (mMW h0 a1 a2 cA 3 f9 g9 v L P) H := hP
        have hD := hDD 3 f9 g9 v L P
        refine W.eq (g2 := F0 m 59 ls [.int (mI (mB (3 = 0)))]) rfl ?_
        refine mw_topi (y := 0) (mB_f (by omega)) ?_
        refine mw_if_eq (tgt := 70) hx hb (by omega) dX1_meeting_59 (by decide) (fun _ => ?_) (fun c => absurd (by decide) c)
        refine mw_iconst hx hb dX1_meeting_70 ?_
        exact mw_yretI hx hb hr hlocks dX1_meeting_71 f9 g9 (fun h9 => by first | exact (n7) | rfl | exact (mB_t (by omega)).symm | exact (mB_f (by omega)).symm | omega | (rw [mEx3_1 (by omega)] at h9; omega) | (rw [mEx3_2 (by omega) (by omega)] at h9; omega) | (rw [mEx3_3 (by omega) (by omega) (fun q => c_27 (mm.mpr q))] at h9; omega) | (have q9 : mFlt v z = (((mEx3 (mDay d ∧ 1 ≤ mPop z 32 ∧ mPop z 32 ≤ 5) (mUsh z (v 0) = 0) (mMts v L P z)) : Nat) : Int) := m_flt3 (by omega) ⟨fun _ => by omega, fun _ => by omega⟩; omega) | (exfalso; omega)) (mw_wk (by first | rfl | (rw [mEx3_0 (by omega) (by omega) (mm.mp c_27)]; omega) | (rw [mEx3_1 (by omega)]; omega) | (rw [mEx3_2 (by omega) (by omega)]; omega) | (rw [mEx3_3 (by omega) (by omega) (fun q => c_27 (mm.mpr q))]; omega) | exact m_flt3 (by omega) ⟨fun _ => by omega, fun _ => by omega⟩ | (exfalso; omega)) rfl rfl rfl hP) hS
      · refine mw_iconst hx hb dX1_meeting_30 ?_
        refine lv_goto (tgt := 35) hx hb dX1_meeting_31 (by decide) ?_
        refine lv_istore (lv' := [(4, .int (mI (1))), (3, .int (mI (mFlt v z))), (0, .ref h0), (1, .int (mI (z))), (2, .int (mI (d)))]) hx hb dX1_meeting_35 hl (by decide) rfl (fun ls hl => ?_)
        refine lv_aload_n hx hb dX1_meeting_37 rfl (lv_at hl 2 rfl) ?_
        refine lv_iload_n hx hb dX1_meeting_38 rfl (lv_at hl 1 rfl) ?_
        refine mw_if_le (tgt := 46) hx hb (by omega) dX1_meeting_39 (by decide) (fun c_39 => ?_) (fun c_39 => False.elim (by omega))
        refine lv_iload hx hb dX1_meeting_46 (lv_at hl 0 rfl) ?_
        refine mw_if_eq (tgt := 55) hx hb (by omega) dX1_meeting_48 (by decide) (fun c => absurd c (by decide)) (fun _ => ?_)
        refine mw_iconst hx hb dX1_meeting_51 ?_
        refine lv_goto (tgt := 56) hx hb dX1_meeting_52 (by decide) ?_
        refine mw_cM (rest := []) (q := (RX1, TX1, 13)) hC (c_X1_goesWell l D h0 a1 a2 cA cJ t f9 g9 v L P 0 (by omega) hdis) (cwV 1 hts gX1_meeting_X1_goesWell rfl rfl rfl (by decide +kernel) ⟨Nat.le_of_ble_eq_true rfl, Nat.le_of_ble_eq_true rfl⟩) hK hP hS (fun _ h => h) rfl rfl rfl hl.1 rfl (Nat.le_of_ble_eq_true rfl) ⟨Nat.zero_le _, Nat.zero_le _⟩ dX1_meeting_56 (fun _ H locs _ hP hS _ _ => ?_)
        have hP : va_P D vwCl (mMW h0 a1 a2 cA 0 f9 g9 v L P) H := hP
        have hD := hDD 0 f9 g9 v L P
        refine W.eq (g2 := F0 m 59 ls [.int (mI (mB (0 = 0)))]) rfl ?_
        refine mw_topi (y := 1) (mB_t rfl) ?_
        refine mw_if_eq (tgt := 70) hx hb (by omega) dX1_meeting_59 (by decide) (fun c => absurd c (by decide)) (fun _ => ?_)
        have n6 : (mFd L P z d (v 0).toNat).isSome = true := by first | exact c_27 | (exfalso; omega)
        have n7 : f9 = d + (mD0 (mFd L P z 0 (v 0).toNat) - d) % mSt (mFd L P z 0 (v 0).toNat) := by
          obtain ⟨⟨d0, s0⟩, e0⟩ := Option.isSome_iff_exists.mp (mm.mp n6)
          obtain ⟨n1, n2⟩ := m_first hLP e0 (hu n6)
          rw [e0]
          exact n2
        refine lv_aload_n hx hb dX1_meeting_62 rfl (lv_at hl 2 rfl) ?_
        refine mw_getM hx hb hts hin hown hK hP rfl 11 (by decide) (by decide +kernel) rfl rfl dX1_meeting_63 ?_
        refine mw_l2i hx hb dX1_meeting_66 ?_
        refine lv_goto (tgt := 71) hx hb dX1_meeting_67 (by decide) ?_
        exact mw_yretI hx hb hr hlocks dX1_meeting_71 f9 g9 (fun h9 => by first | exact (n7) | rfl | exact (mB_t (by omega)).symm | exact (mB_f (by omega)).symm | omega | (rw [mEx3_1 (by omega)] at h9; omega) | (rw [mEx3_2 (by omega) (by omega)] at h9; omega) | (rw [mEx3_3 (by omega) (by omega) (fun q => c_27 (mm.mpr q))] at h9; omega) | (have q9 : mFlt v z = (((mEx3 (mDay d ∧ 1 ≤ mPop z 32 ∧ mPop z 32 ≤ 5) (mUsh z (v 0) = 0) (mMts v L P z)) : Nat) : Int) := m_flt3 (by omega) ⟨fun _ => by omega, fun _ => by omega⟩; omega) | (exfalso; omega)) (mw_wk (by first | rfl | (rw [mEx3_0 (by omega) (by omega) (mm.mp c_27)]; omega) | (rw [mEx3_1 (by omega)]; omega) | (rw [mEx3_2 (by omega) (by omega)]; omega) | (rw [mEx3_3 (by omega) (by omega) (fun q => c_27 (mm.mpr q))]; omega) | exact m_flt3 (by omega) ⟨fun _ => by omega, fun _ => by omega⟩ | (exfalso; omega)) rfl rfl rfl hP) hS

set_option maxHeartbeats 400000 in
set_option maxRecDepth 100000 in
theorem y_X1_lunarMeeting (l : Launch) (D : va_G) (h0 a1 a2 : Nat) (cA cJ : ClassId) (t f g : Int) (v : Nat → Int) (L P : Int → Int) (z d ld mt : Int) (hz : mRI z) (hd9 : mRI d) (hld : mRI ld) (hmt : mRI mt) (hok : mOK v L P) (hdis : mDis h0 a1 a2) : mY l yX1_lunarMeeting wsX1_lunarMeeting ({ frames := 3, cells := 0, slots := 0, locals := 74 }) [.ref h0, .int (mI (z)), .int (mI (d)), .int (mI (ld)), .int (mI (mt))] D (mMW h0 a1 a2 cA t f g v L P) (mTy cA cJ) (fun r => some (.long (mL r))) (fun u => (mEx3 (mDay d ∧ (0 ≤ ld ∧ ld ≤ 99) ∧ (1 ≤ mt ∧ mt ≤ 1000) ∧ 1 ≤ mPop z 32 ∧ mPop z 32 ≤ 5) (mUsh z (v 0) = 0) (mMts v L P z)) = 0 → u.1 = mLun v d ld (mSt (mFd L P z 0 (v 0).toNat)) mt.toNat ((mD0 (mFd L P z 0 (v 0).toNat) - d) % mSt (mFd L P z 0 (v 0).toNat))) (fun u => mMW h0 a1 a2 cA (((mEx3 (mDay d ∧ (0 ≤ ld ∧ ld ≤ 99) ∧ (1 ≤ mt ∧ mt ≤ 1000) ∧ 1 ≤ mPop z 32 ∧ mPop z 32 ≤ 5) (mUsh z (v 0) = 0) (mMts v L P z) : Nat)) : Int) u.2.1 u.2.2 (v) (L) (P)) (mA3 h0 a1 a2) := by
  refine mw_openY (cc := cX1_lunarMeeting) (maxL := 9) (ret := (some .long)) (by decide) rfl (Nat.le_of_ble_eq_true rfl) ?_
  intro p e s m below meth c ls hC hr hlocks hB hl
  obtain ⟨hx, hb, hml, hown, hts⟩ := id hC
  obtain ⟨hP, hK⟩ := hB
  have hin : ∀ w ∈ wsX10, w ∈ wsX1_lunarMeeting := by decide +kernel
  have hl : lv_has ls 9 [(0, .ref h0), (1, .int (mI (z))), (2, .int (mI (d))), (3, .int (mI (ld))), (4, .int (mI (mt)))] := hl
  have hS : va_S (mA3 h0 a1 a2) s.heap s.heap [] := va_S.rf
  have hDD : ∀ (t f g : Int) (v : Nat → Int) (L P : Int → Int), va_D (mA3 h0 a1 a2) (mMW h0 a1 a2 cA t f g v L P) := fun t f g v L P => mD3 hdis (mA3_in h0 a1 a2)
  have hD := hDD t f g v L P
  have hok9 := hok
  obtain ⟨⟨o1, o2⟩, oL, ⟨o3, o4, o5, o6, o7, o8⟩, ⟨o9, o10, o11, o12, o13, o14, o15, o16⟩⟩ := hok9
  have fl := m_flt v z
  have flx : mFlt v z = ((mEx2 (1 ≤ mPop z 32 ∧ mPop z 32 ≤ 5) (mUsh z (v 0) = 0) : Nat) : Int) := rfl
  have hLP : mLP L P (((v 0).toNat : Nat) : Int) := fun k9 h1 h2 => oL k9 h1 (by omega)
  have mm : (mFd L P z d (v 0).toNat).isSome = true ↔ mMts v L P z := by
    unfold mMts
    rw [m_meet (b := 0) hLP]
  refine lv_iload_n hx hb dX1_lunarMeeting_0 rfl (lv_at hl 2 rfl) ?_
  refine mw_cSi (rest := []) hC (c_X1_isDay l d (by omega)) (va_cwS 1 hts gX1_lunarMeeting_X1_isDay rfl rfl rfl (by decide +kernel) ⟨Nat.le_of_ble_eq_true rfl, Nat.le_of_ble_eq_true rfl⟩) rfl hl.1 rfl (Nat.le_of_ble_eq_true rfl) ⟨Nat.zero_le _, Nat.zero_le _⟩ dX1_lunarMeeting_1 ?_
  refine mw_zeq (tgt := 36) hx hb dX1_lunarMeeting_4 (by decide) (fun c_4 => ?_) (fun c_4 => ?_)
  · refine mw_iconst hx hb dX1_lunarMeeting_36 ?_
    refine lv_istore (lv' := [(5, .int (mI (0))), (0, .ref h0), (1, .int (mI (z))), (2, .int (mI (d))), (3, .int (mI (ld))), (4, .int (mI (mt)))]) hx hb dX1_lunarMeeting_37 hl (by decide) rfl (fun ls hl => ?_)
    refine lv_iload hx hb dX1_lunarMeeting_39 (lv_at hl 0 rfl) ?_
    refine mw_if_eq (tgt := 52) hx hb (by omega) dX1_lunarMeeting_41 (by decide) (fun _ => ?_) (fun c => absurd (by decide) c)
    refine mw_iconst hx hb dX1_lunarMeeting_52 ?_
    refine lv_istore (lv' := [(6, .int (mI (1))), (5, .int (mI (0))), (0, .ref h0), (1, .int (mI (z))), (2, .int (mI (d))), (3, .int (mI (ld))), (4, .int (mI (mt)))]) hx hb dX1_lunarMeeting_53 hl (by decide) rfl (fun ls hl => ?_)
    refine lv_iload hx hb dX1_lunarMeeting_55 (lv_at hl 0 rfl) ?_
    refine mw_if_ne (tgt := 73) hx hb (by omega) dX1_lunarMeeting_57 (by decide) (fun _ => ?_) (fun c => absurd c (by decide))
    refine mw_iconst hx hb dX1_lunarMeeting_73 ?_
    refine lv_istore (lv' := [(7, .int (mI (0))), (6, .int (mI (1))), (5, .int (mI (0))), (0, .ref h0), (1, .int (mI (z))), (2, .int (mI (d))), (3, .int (mI (ld))), (4, .int (mI (mt)))]) hx hb dX1_lunarMeeting_74 hl (by decide) rfl (fun ls hl => ?_)
    refine lv_aload_n hx hb dX1_lunarMeeting_76 rfl (lv_at hl 3 rfl) ?_
    refine lv_iload hx hb dX1_lunarMeeting_77 (lv_at hl 1 rfl) ?_
    refine mw_if_le (tgt := 87) hx hb (by omega) dX1_lunarMeeting_79 (by decide) (fun c_79 => False.elim (by omega)) (fun c_79 => ?_)
    refine lv_iload hx hb dX1_lunarMeeting_82 (lv_at hl 1 rfl) ?_
    refine lv_goto (tgt := 97) hx hb dX1_lunarMeeting_84 (by decide) ?_
    refine mw_cM (rest := []) (q := (RX1, TX1, 13)) hC (c_X1_goesWell l D h0 a1 a2 cA cJ t f g v L P 1 (by omega) hdis) (cwV 1 hts gX1_lunarMeeting_X1_goesWell rfl rfl rfl (by decide +kernel) ⟨Nat.le_of_ble_eq_true rfl, Nat.le_of_ble_eq_true rfl⟩) hK hP hS (fun _ h => h) rfl rfl rfl hl.1 rfl (Nat.le_of_ble_eq_true rfl) ⟨Nat.zero_le _, Nat.zero_le _⟩ dX1_lunarMeeting_97 (fun _ H locs _ hP hS _ _ => ?_)
    have hP : va_P D vwCl (mMW h0 a1 a2 cA 1 f g v L P) H := hP
    have hD := hDD 1 f g v L P
    refine W.eq (g2 := F0 m 100 ls [.int (mI (mB (1 = 0)))]) rfl ?_
    refine mw_topi (y := 0) (mB_f (by omega)) ?_
    refine mw_if_ne (tgt := 105) hx hb (by omega) dX1_lunarMeeting_100 (by decide) (fun c => absurd c (by decide)) (fun _ => ?_)
    refine mw_lconst hx hb 0 (by decide +kernel) dX1_lunarMeeting_103 ?_
    exact mw_yretL hx hb hr hlocks dX1_lunarMeeting_104 f g (fun h9 => by first | rfl | exact (mB_t (by omega)).symm | exact (mB_f (by omega)).symm | omega | (rw [mEx3_1 (by omega)] at h9; omega) | (rw [mEx3_2 (by omega) (by omega)] at h9; omega) | (rw [mEx3_3 (by omega) (by omega) (fun q => c_66 (mm.mpr q))] at h9; omega) | (have q9 : mFlt v z = (((mEx3 (mDay d ∧ (0 ≤ ld ∧ ld ≤ 99) ∧ (1 ≤ mt ∧ mt ≤ 1000) ∧ 1 ≤ mPop z 32 ∧ mPop z 32 ≤ 5) (mUsh z (v 0) = 0) (mMts v L P z)) : Nat) : Int) := m_flt3 (by omega) ⟨fun _ => by omega, fun _ => by omega⟩; omega) | (exfalso; omega)) (mw_wk (by first | rfl | (rw [mEx3_0 (by omega) (by omega) (mm.mp c_66)]; omega) | (rw [mEx3_1 (by omega)]; omega) | (rw [mEx3_2 (by omega) (by omega)]; omega) | (rw [mEx3_3 (by omega) (by omega) (fun q => c_66 (mm.mpr q))]; omega) | exact m_flt3 (by omega) ⟨fun _ => by omega, fun _ => by omega⟩ | (exfalso; omega)) rfl rfl rfl hP) hS
  · refine lv_iload_n hx hb dX1_lunarMeeting_7 rfl (lv_at hl 3 rfl) ?_
    refine mw_i2l hx hb (by omega) dX1_lunarMeeting_8 ?_
    refine mw_lconst hx hb 0 (by decide +kernel) dX1_lunarMeeting_9 ?_
    refine mw_ldc2 hx hb (99) (by decide +kernel) hown (hts (.constantLong RX1 124 (99)) (by decide +kernel)) dX1_lunarMeeting_10 ?_
    refine mw_cSi (rest := []) hC (c_X1_in l ld 0 99 (by omega) (by omega) (by omega)) (va_cwS 3 hts gX1_lunarMeeting_X1_in rfl rfl rfl (by decide +kernel) ⟨Nat.le_of_ble_eq_true rfl, Nat.le_of_ble_eq_true rfl⟩) rfl hl.1 rfl (Nat.le_of_ble_eq_true rfl) ⟨Nat.zero_le _, Nat.zero_le _⟩ dX1_lunarMeeting_13 ?_
    refine mw_zeq (tgt := 36) hx hb dX1_lunarMeeting_16 (by decide) (fun c_16 => ?_) (fun c_16 => ?_)
    · refine mw_iconst hx hb dX1_lunarMeeting_36 ?_
      refine lv_istore (lv' := [(5, .int (mI (0))), (0, .ref h0), (1, .int (mI (z))), (2, .int (mI (d))), (3, .int (mI (ld))), (4, .int (mI (mt)))]) hx hb dX1_lunarMeeting_37 hl (by decide) rfl (fun ls hl => ?_)
      refine lv_iload hx hb dX1_lunarMeeting_39 (lv_at hl 0 rfl) ?_
      refine mw_if_eq (tgt := 52) hx hb (by omega) dX1_lunarMeeting_41 (by decide) (fun _ => ?_) (fun c => absurd (by decide) c)
      refine mw_iconst hx hb dX1_lunarMeeting_52 ?_
      refine lv_istore (lv' := [(6, .int (mI (1))), (5, .int (mI (0))), (0, .ref h0), (1, .int (mI (z))), (2, .int (mI (d))), (3, .int (mI (ld))), (4, .int (mI (mt)))]) hx hb dX1_lunarMeeting_53 hl (by decide) rfl (fun ls hl => ?_)
      refine lv_iload hx hb dX1_lunarMeeting_55 (lv_at hl 0 rfl) ?_
      refine mw_if_ne (tgt := 73) hx hb (by omega) dX1_lunarMeeting_57 (by decide) (fun _ => ?_) (fun c => absurd c (by decide))
      refine mw_iconst hx hb dX1_lunarMeeting_73 ?_
      refine lv_istore (lv' := [(7, .int (mI (0))), (6, .int (mI (1))), (5, .int (mI (0))), (0, .ref h0), (1, .int (mI (z))), (2, .int (mI (d))), (3, .int (mI (ld))), (4, .int (mI (mt)))]) hx hb dX1_lunarMeeting_74 hl (by decide) rfl (fun ls hl => ?_)
      refine lv_aload_n hx hb dX1_lunarMeeting_76 rfl (lv_at hl 3 rfl) ?_
      refine lv_iload hx hb dX1_lunarMeeting_77 (lv_at hl 1 rfl) ?_
      refine mw_if_le (tgt := 87) hx hb (by omega) dX1_lunarMeeting_79 (by decide) (fun c_79 => False.elim (by omega)) (fun c_79 => ?_)
      refine lv_iload hx hb dX1_lunarMeeting_82 (lv_at hl 1 rfl) ?_
      refine lv_goto (tgt := 97) hx hb dX1_lunarMeeting_84 (by decide) ?_
      refine mw_cM (rest := []) (q := (RX1, TX1, 13)) hC (c_X1_goesWell l D h0 a1 a2 cA cJ t f g v L P 1 (by omega) hdis) (cwV 1 hts gX1_lunarMeeting_X1_goesWell rfl rfl rfl (by decide +kernel) ⟨Nat.le_of_ble_eq_true rfl, Nat.le_of_ble_eq_true rfl⟩) hK hP hS (fun _ h => h) rfl rfl rfl hl.1 rfl (Nat.le_of_ble_eq_true rfl) ⟨Nat.zero_le _, Nat.zero_le _⟩ dX1_lunarMeeting_97 (fun _ H locs _ hP hS _ _ => ?_)
      have hP : va_P D vwCl (mMW h0 a1 a2 cA 1 f g v L P) H := hP
      have hD := hDD 1 f g v L P
      refine W.eq (g2 := F0 m 100 ls [.int (mI (mB (1 = 0)))]) rfl ?_
      refine mw_topi (y := 0) (mB_f (by omega)) ?_
      refine mw_if_ne (tgt := 105) hx hb (by omega) dX1_lunarMeeting_100 (by decide) (fun c => absurd c (by decide)) (fun _ => ?_)
      refine mw_lconst hx hb 0 (by decide +kernel) dX1_lunarMeeting_103 ?_
      exact mw_yretL hx hb hr hlocks dX1_lunarMeeting_104 f g (fun h9 => by first | rfl | exact (mB_t (by omega)).symm | exact (mB_f (by omega)).symm | omega | (rw [mEx3_1 (by omega)] at h9; omega) | (rw [mEx3_2 (by omega) (by omega)] at h9; omega) | (rw [mEx3_3 (by omega) (by omega) (fun q => c_66 (mm.mpr q))] at h9; omega) | (have q9 : mFlt v z = (((mEx3 (mDay d ∧ (0 ≤ ld ∧ ld ≤ 99) ∧ (1 ≤ mt ∧ mt ≤ 1000) ∧ 1 ≤ mPop z 32 ∧ mPop z 32 ≤ 5) (mUsh z (v 0) = 0) (mMts v L P z)) : Nat) : Int) := m_flt3 (by omega) ⟨fun _ => by omega, fun _ => by omega⟩; omega) | (exfalso; omega)) (mw_wk (by first | rfl | (rw [mEx3_0 (by omega) (by omega) (mm.mp c_66)]; omega) | (rw [mEx3_1 (by omega)]; omega) | (rw [mEx3_2 (by omega) (by omega)]; omega) | (rw [mEx3_3 (by omega) (by omega) (fun q => c_66 (mm.mpr q))]; omega) | exact m_flt3 (by omega) ⟨fun _ => by omega, fun _ => by omega⟩ | (exfalso; omega)) rfl rfl rfl hP) hS
    · refine lv_iload hx hb dX1_lunarMeeting_19 (lv_at hl 4 rfl) ?_
      refine mw_i2l hx hb (by omega) dX1_lunarMeeting_21 ?_
      refine mw_lconst hx hb 1 (by decide +kernel) dX1_lunarMeeting_22 ?_
      refine mw_ldc2 hx hb (1000) (by decide +kernel) hown (hts (.constantLong RX1 67 (1000)) (by decide +kernel)) dX1_lunarMeeting_23 ?_
      refine mw_cSi (rest := []) hC (c_X1_in l mt 1 1000 (by omega) (by omega) (by omega)) (va_cwS 3 hts gX1_lunarMeeting_X1_in rfl rfl rfl (by decide +kernel) ⟨Nat.le_of_ble_eq_true rfl, Nat.le_of_ble_eq_true rfl⟩) rfl hl.1 rfl (Nat.le_of_ble_eq_true rfl) ⟨Nat.zero_le _, Nat.zero_le _⟩ dX1_lunarMeeting_26 ?_
      refine mw_zeq (tgt := 36) hx hb dX1_lunarMeeting_29 (by decide) (fun c_29 => ?_) (fun c_29 => ?_)
      · refine mw_iconst hx hb dX1_lunarMeeting_36 ?_
        refine lv_istore (lv' := [(5, .int (mI (0))), (0, .ref h0), (1, .int (mI (z))), (2, .int (mI (d))), (3, .int (mI (ld))), (4, .int (mI (mt)))]) hx hb dX1_lunarMeeting_37 hl (by decide) rfl (fun ls hl => ?_)
        refine lv_iload hx hb dX1_lunarMeeting_39 (lv_at hl 0 rfl) ?_
        refine mw_if_eq (tgt := 52) hx hb (by omega) dX1_lunarMeeting_41 (by decide) (fun _ => ?_) (fun c => absurd (by decide) c)
        refine mw_iconst hx hb dX1_lunarMeeting_52 ?_
        refine lv_istore (lv' := [(6, .int (mI (1))), (5, .int (mI (0))), (0, .ref h0), (1, .int (mI (z))), (2, .int (mI (d))), (3, .int (mI (ld))), (4, .int (mI (mt)))]) hx hb dX1_lunarMeeting_53 hl (by decide) rfl (fun ls hl => ?_)
        refine lv_iload hx hb dX1_lunarMeeting_55 (lv_at hl 0 rfl) ?_
        refine mw_if_ne (tgt := 73) hx hb (by omega) dX1_lunarMeeting_57 (by decide) (fun _ => ?_) (fun c => absurd c (by decide))
        refine mw_iconst hx hb dX1_lunarMeeting_73 ?_
        refine lv_istore (lv' := [(7, .int (mI (0))), (6, .int (mI (1))), (5, .int (mI (0))), (0, .ref h0), (1, .int (mI (z))), (2, .int (mI (d))), (3, .int (mI (ld))), (4, .int (mI (mt)))]) hx hb dX1_lunarMeeting_74 hl (by decide) rfl (fun ls hl => ?_)
        refine lv_aload_n hx hb dX1_lunarMeeting_76 rfl (lv_at hl 3 rfl) ?_
        refine lv_iload hx hb dX1_lunarMeeting_77 (lv_at hl 1 rfl) ?_
        refine mw_if_le (tgt := 87) hx hb (by omega) dX1_lunarMeeting_79 (by decide) (fun c_79 => False.elim (by omega)) (fun c_79 => ?_)
        refine lv_iload hx hb dX1_lunarMeeting_82 (lv_at hl 1 rfl) ?_
        refine lv_goto (tgt := 97) hx hb dX1_lunarMeeting_84 (by decide) ?_
        refine mw_cM (rest := []) (q := (RX1, TX1, 13)) hC (c_X1_goesWell l D h0 a1 a2 cA cJ t f g v L P 1 (by omega) hdis) (cwV 1 hts gX1_lunarMeeting_X1_goesWell rfl rfl rfl (by decide +kernel) ⟨Nat.le_of_ble_eq_true rfl, Nat.le_of_ble_eq_true rfl⟩) hK hP hS (fun _ h => h) rfl rfl rfl hl.1 rfl (Nat.le_of_ble_eq_true rfl) ⟨Nat.zero_le _, Nat.zero_le _⟩ dX1_lunarMeeting_97 (fun _ H locs _ hP hS _ _ => ?_)
        have hP : va_P D vwCl (mMW h0 a1 a2 cA 1 f g v L P) H := hP
        have hD := hDD 1 f g v L P
        refine W.eq (g2 := F0 m 100 ls [.int (mI (mB (1 = 0)))]) rfl ?_
        refine mw_topi (y := 0) (mB_f (by omega)) ?_
        refine mw_if_ne (tgt := 105) hx hb (by omega) dX1_lunarMeeting_100 (by decide) (fun c => absurd c (by decide)) (fun _ => ?_)
        refine mw_lconst hx hb 0 (by decide +kernel) dX1_lunarMeeting_103 ?_
        exact mw_yretL hx hb hr hlocks dX1_lunarMeeting_104 f g (fun h9 => by first | rfl | exact (mB_t (by omega)).symm | exact (mB_f (by omega)).symm | omega | (rw [mEx3_1 (by omega)] at h9; omega) | (rw [mEx3_2 (by omega) (by omega)] at h9; omega) | (rw [mEx3_3 (by omega) (by omega) (fun q => c_66 (mm.mpr q))] at h9; omega) | (have q9 : mFlt v z = (((mEx3 (mDay d ∧ (0 ≤ ld ∧ ld ≤ 99) ∧ (1 ≤ mt ∧ mt ≤ 1000) ∧ 1 ≤ mPop z 32 ∧ mPop z 32 ≤ 5) (mUsh z (v 0) = 0) (mMts v L P z)) : Nat) : Int) := m_flt3 (by omega) ⟨fun _ => by omega, fun _ => by omega⟩; omega) | (exfalso; omega)) (mw_wk (by first | rfl | (rw [mEx3_0 (by omega) (by omega) (mm.mp c_66)]; omega) | (rw [mEx3_1 (by omega)]; omega) | (rw [mEx3_2 (by omega) (by omega)]; omega) | (rw [mEx3_3 (by omega) (by omega) (fun q => c_66 (mm.mpr q))]; omega) | exact m_flt3 (by omega) ⟨fun _ => by omega, fun _ => by omega⟩ | (exfalso; omega)) rfl rfl rfl hP) hS
      · refine mw_iconst hx hb dX1_lunarMeeting_32 ?_
        refine lv_goto (tgt := 37) hx hb dX1_lunarMeeting_33 (by decide) ?_
        refine lv_istore (lv' := [(5, .int (mI (1))), (0, .ref h0), (1, .int (mI (z))), (2, .int (mI (d))), (3, .int (mI (ld))), (4, .int (mI (mt)))]) hx hb dX1_lunarMeeting_37 hl (by decide) rfl (fun ls hl => ?_)
        refine lv_iload hx hb dX1_lunarMeeting_39 (lv_at hl 0 rfl) ?_
        refine mw_if_eq (tgt := 52) hx hb (by omega) dX1_lunarMeeting_41 (by decide) (fun c => absurd c (by decide)) (fun _ => ?_)
        refine lv_aload_n hx hb dX1_lunarMeeting_44 rfl (lv_at hl 1 rfl) ?_
        refine lv_iload_n hx hb dX1_lunarMeeting_45 rfl (lv_at hl 2 rfl) ?_
        refine mw_cVi (rest := []) (q := (RX1, TX1, 13)) hC (c_X1_faultOf l D h0 a1 a2 cA cJ t f g v L P z (by omega)) (cwV 1 hts gX1_lunarMeeting_X1_faultOf rfl rfl rfl (by decide +kernel) ⟨Nat.le_of_ble_eq_true rfl, Nat.le_of_ble_eq_true rfl⟩) hK hP rfl rfl rfl hl.1 rfl (Nat.le_of_ble_eq_true rfl) ⟨Nat.zero_le _, Nat.zero_le _⟩ dX1_lunarMeeting_46 ?_
        refine lv_goto (tgt := 53) hx hb dX1_lunarMeeting_49 (by decide) ?_
        refine lv_istore (lv' := [(6, .int (mI (mFlt v z))), (5, .int (mI (1))), (0, .ref h0), (1, .int (mI (z))), (2, .int (mI (d))), (3, .int (mI (ld))), (4, .int (mI (mt)))]) hx hb dX1_lunarMeeting_53 hl (by decide) rfl (fun ls hl => ?_)
        refine lv_iload hx hb dX1_lunarMeeting_55 (lv_at hl 0 rfl) ?_
        refine mw_if_ne (tgt := 73) hx hb (by omega) dX1_lunarMeeting_57 (by decide) (fun c_57 => ?_) (fun c_57 => ?_)
        · refine mw_iconst hx hb dX1_lunarMeeting_73 ?_
          refine lv_istore (lv' := [(7, .int (mI (0))), (6, .int (mI (mFlt v z))), (5, .int (mI (1))), (0, .ref h0), (1, .int (mI (z))), (2, .int (mI (d))), (3, .int (mI (ld))), (4, .int (mI (mt)))]) hx hb dX1_lunarMeeting_74 hl (by decide) rfl (fun ls hl => ?_)
          refine lv_aload_n hx hb dX1_lunarMeeting_76 rfl (lv_at hl 3 rfl) ?_
          refine lv_iload hx hb dX1_lunarMeeting_77 (lv_at hl 1 rfl) ?_
          refine mw_if_le (tgt := 87) hx hb (by omega) dX1_lunarMeeting_79 (by decide) (fun c_79 => False.elim (by omega)) (fun c_79 => ?_)
          refine lv_iload hx hb dX1_lunarMeeting_82 (lv_at hl 1 rfl) ?_
          refine lv_goto (tgt := 97) hx hb dX1_lunarMeeting_84 (by decide) ?_
          refine mw_cM (rest := []) (q := (RX1, TX1, 13)) hC (c_X1_goesWell l D h0 a1 a2 cA cJ t f g v L P (mFlt v z) (by omega) hdis) (cwV 1 hts gX1_lunarMeeting_X1_goesWell rfl rfl rfl (by decide +kernel) ⟨Nat.le_of_ble_eq_true rfl, Nat.le_of_ble_eq_true rfl⟩) hK hP hS (fun _ h => h) rfl rfl rfl hl.1 rfl (Nat.le_of_ble_eq_true rfl) ⟨Nat.zero_le _, Nat.zero_le _⟩ dX1_lunarMeeting_97 (fun _ H locs _ hP hS _ _ => ?_)
          have hP : va_P D vwCl (mMW h0 a1 a2 cA (mFlt v z) f g v L P) H := hP
          have hD := hDD (mFlt v z) f g v L P
          refine W.eq (g2 := F0 m 100 ls [.int (mI (mB (mFlt v z = 0)))]) rfl ?_
          refine mw_zne (tgt := 105) hx hb dX1_lunarMeeting_100 (by decide) (fun c_100 => False.elim (by omega)) (fun c_100 => ?_)
          refine mw_lconst hx hb 0 (by decide +kernel) dX1_lunarMeeting_103 ?_
          exact mw_yretL hx hb hr hlocks dX1_lunarMeeting_104 f g (fun h9 => by first | rfl | exact (mB_t (by omega)).symm | exact (mB_f (by omega)).symm | omega | (rw [mEx3_1 (by omega)] at h9; omega) | (rw [mEx3_2 (by omega) (by omega)] at h9; omega) | (rw [mEx3_3 (by omega) (by omega) (fun q => c_66 (mm.mpr q))] at h9; omega) | (have q9 : mFlt v z = (((mEx3 (mDay d ∧ (0 ≤ ld ∧ ld ≤ 99) ∧ (1 ≤ mt ∧ mt ≤ 1000) ∧ 1 ≤ mPop z 32 ∧ mPop z 32 ≤ 5) (mUsh z (v 0) = 0) (mMts v L P z)) : Nat) : Int) := m_flt3 (by omega) ⟨fun _ => by omega, fun _ => by omega⟩; omega) | (exfalso; omega)) (mw_wk (by first | rfl | (rw [mEx3_0 (by omega) (by omega) (mm.mp c_66)]; omega) | (rw [mEx3_1 (by omega)]; omega) | (rw [mEx3_2 (by omega) (by omega)]; omega) | (rw [mEx3_3 (by omega) (by omega) (fun q => c_66 (mm.mpr q))]; omega) | exact m_flt3 (by omega) ⟨fun _ => by omega, fun _ => by omega⟩ | (exfalso; omega)) rfl rfl rfl hP) hS
        · refine lv_aload_n hx hb dX1_lunarMeeting_60 rfl (lv_at hl 2 rfl) ?_
          refine lv_iload_n hx hb dX1_lunarMeeting_61 rfl (lv_at hl 3 rfl) ?_
          refine lv_iload_n hx hb dX1_lunarMeeting_62 rfl (lv_at hl 4 rfl) ?_
          refine mw_cM (rest := []) (q := (RX1, TX1, 13)) hC (c_X1_find l D h0 a1 a2 cA cJ t f g v L P z d (id hok) (by omega) (by omega) (by omega) hdis) (cwV 2 hts gX1_lunarMeeting_X1_find rfl rfl rfl (by decide +kernel) ⟨Nat.le_of_ble_eq_true rfl, Nat.le_of_ble_eq_true rfl⟩) hK hP hS (fun _ h => h) rfl rfl rfl hl.1 rfl (Nat.le_of_ble_eq_true rfl) ⟨Nat.zero_le _, Nat.zero_le _⟩ dX1_lunarMeeting_63 (fun u H locs hu hP hS _ _ => ?_)
          obtain ⟨f9, g9⟩ := u
          have hu : (mFd L P z d (v 0).toNat).isSome = true → mFd L P z d (v 0).toNat = some (f9, g9) := hu
          have hP : va_P D vwCl (mMW h0 a1 a2 cA t f9 g9 v L P) H := hP
          have hD := hDD t f9 g9 v L P
          refine W.eq (g2 := F0 m 66 ls [.int (mI (mB ((mFd L P z d (v 0).toNat).isSome = true)))]) rfl ?_
          refine mw_zeq (tgt := 73) hx hb dX1_lunarMeeting_66 (by decide) (fun c_66 => ?_) (fun c_66 => ?_)
          · refine mw_iconst hx hb dX1_lunarMeeting_73 ?_
            refine lv_istore (lv' := [(7, .int (mI (0))), (6, .int (mI (mFlt v z))), (5, .int (mI (1))), (0, .ref h0), (1, .int (mI (z))), (2, .int (mI (d))), (3, .int (mI (ld))), (4, .int (mI (mt)))]) hx hb dX1_lunarMeeting_74 hl (by decide) rfl (fun ls hl => ?_)
            refine lv_aload_n hx hb dX1_lunarMeeting_76 rfl (lv_at hl 3 rfl) ?_
            refine lv_iload hx hb dX1_lunarMeeting_77 (lv_at hl 1 rfl) ?_
            refine mw_if_le (tgt := 87) hx hb (by omega) dX1_lunarMeeting_79 (by decide) (fun c_79 => ?_) (fun c_79 => False.elim (by omega))
            refine lv_iload hx hb dX1_lunarMeeting_87 (lv_at hl 0 rfl) ?_
            refine mw_if_eq (tgt := 96) hx hb (by omega) dX1_lunarMeeting_89 (by decide) (fun _ => ?_) (fun c => absurd (by decide) c)
            refine mw_iconst hx hb dX1_lunarMeeting_96 ?_
            refine mw_cM (rest := []) (q := (RX1, TX1, 13)) hC (c_X1_goesWell l D h0 a1 a2 cA cJ t f9 g9 v L P 3 (by omega) hdis) (cwV 1 hts gX1_lunarMeeting_X1_goesWell rfl rfl rfl (by decide +kernel) ⟨Nat.le_of_ble_eq_true rfl, Nat.le_of_ble_eq_true rfl⟩) hK hP hS (fun _ h => h) rfl rfl rfl hl.1 rfl (Nat.le_of_ble_eq_true rfl) ⟨Nat.zero_le _, Nat.zero_le _⟩ dX1_lunarMeeting_97 (fun _ H locs _ hP hS _ _ => ?_)
            have hP : va_P D vwCl (mMW h0 a1 a2 cA 3 f9 g9 v L P) H := hP
            have hD := hDD 3 f9 g9 v L P
            refine W.eq (g2 := F0 m 100 ls [.int (mI (mB (3 = 0)))]) rfl ?_
            refine mw_topi (y := 0) (mB_f (by omega)) ?_
            refine mw_if_ne (tgt := 105) hx hb (by omega) dX1_lunarMeeting_100 (by decide) (fun c => absurd c (by decide)) (fun _ => ?_)
            refine mw_lconst hx hb 0 (by decide +kernel) dX1_lunarMeeting_103 ?_
            exact mw_yretL hx hb hr hlocks dX1_lunarMeeting_104 f9 g9 (fun h9 => by first | rfl | exact (mB_t (by omega)).symm | exact (mB_f (by omega)).symm | omega | (rw [mEx3_1 (by omega)] at h9; omega) | (rw [mEx3_2 (by omega) (by omega)] at h9; omega) | (rw [mEx3_3 (by omega) (by omega) (fun q => c_66 (mm.mpr q))] at h9; omega) | (have q9 : mFlt v z = (((mEx3 (mDay d ∧ (0 ≤ ld ∧ ld ≤ 99) ∧ (1 ≤ mt ∧ mt ≤ 1000) ∧ 1 ≤ mPop z 32 ∧ mPop z 32 ≤ 5) (mUsh z (v 0) = 0) (mMts v L P z)) : Nat) : Int) := m_flt3 (by omega) ⟨fun _ => by omega, fun _ => by omega⟩; omega) | (exfalso; omega)) (mw_wk (by first | rfl | (rw [mEx3_0 (by omega) (by omega) (mm.mp c_66)]; omega) | (rw [mEx3_1 (by omega)]; omega) | (rw [mEx3_2 (by omega) (by omega)]; omega) | (rw [mEx3_3 (by omega) (by omega) (fun q => c_66 (mm.mpr q))]; omega) | exact m_flt3 (by omega) ⟨fun _ => by omega, fun _ => by omega⟩ | (exfalso; omega)) rfl rfl rfl hP) hS
          · refine mw_iconst hx hb dX1_lunarMeeting_69 ?_
            refine lv_goto (tgt := 74) hx hb dX1_lunarMeeting_70 (by decide) ?_
            refine lv_istore (lv' := [(7, .int (mI (1))), (6, .int (mI (mFlt v z))), (5, .int (mI (1))), (0, .ref h0), (1, .int (mI (z))), (2, .int (mI (d))), (3, .int (mI (ld))), (4, .int (mI (mt)))]) hx hb dX1_lunarMeeting_74 hl (by decide) rfl (fun ls hl => ?_)
            refine lv_aload_n hx hb dX1_lunarMeeting_76 rfl (lv_at hl 3 rfl) ?_
            refine lv_iload hx hb dX1_lunarMeeting_77 (lv_at hl 1 rfl) ?_
            refine mw_if_le (tgt := 87) hx hb (by omega) dX1_lunarMeeting_79 (by decide) (fun c_79 => ?_) (fun c_79 => False.elim (by omega))
            refine lv_iload hx hb dX1_lunarMeeting_87 (lv_at hl 0 rfl) ?_
            refine mw_if_eq (tgt := 96) hx hb (by omega) dX1_lunarMeeting_89 (by decide) (fun c => absurd c (by decide)) (fun _ => ?_)
            refine mw_iconst hx hb dX1_lunarMeeting_92 ?_
            refine lv_goto (tgt := 97) hx hb dX1_lunarMeeting_93 (by decide) ?_
            refine mw_cM (rest := []) (q := (RX1, TX1, 13)) hC (c_X1_goesWell l D h0 a1 a2 cA cJ t f9 g9 v L P 0 (by omega) hdis) (cwV 1 hts gX1_lunarMeeting_X1_goesWell rfl rfl rfl (by decide +kernel) ⟨Nat.le_of_ble_eq_true rfl, Nat.le_of_ble_eq_true rfl⟩) hK hP hS (fun _ h => h) rfl rfl rfl hl.1 rfl (Nat.le_of_ble_eq_true rfl) ⟨Nat.zero_le _, Nat.zero_le _⟩ dX1_lunarMeeting_97 (fun _ H locs _ hP hS _ _ => ?_)
            have hP : va_P D vwCl (mMW h0 a1 a2 cA 0 f9 g9 v L P) H := hP
            have hD := hDD 0 f9 g9 v L P
            refine W.eq (g2 := F0 m 100 ls [.int (mI (mB (0 = 0)))]) rfl ?_
            refine mw_topi (y := 1) (mB_t rfl) ?_
            refine mw_if_ne (tgt := 105) hx hb (by omega) dX1_lunarMeeting_100 (by decide) (fun _ => ?_) (fun c => absurd c (by decide))
            have n6 : (mFd L P z d (v 0).toNat).isSome = true := by first | exact c_66 | (exfalso; omega)
            have n5 := m_bd (k := (v 0).toNat) hok (by omega) (by omega) (hu n6)
            have n78 : f9 - d = (mD0 (mFd L P z 0 (v 0).toNat) - d) % mSt (mFd L P z 0 (v 0).toNat) ∧ g9 = mSt (mFd L P z 0 (v 0).toNat) := by
              obtain ⟨⟨d0, s0⟩, e0⟩ := Option.isSome_iff_exists.mp (mm.mp n6)
              obtain ⟨n1, n2⟩ := m_first hLP e0 (hu n6)
              rw [e0]
              exact ⟨by show f9 - d = (d0 - d) % s0; omega, n1⟩
            obtain ⟨n9, n8⟩ := n78
            refine mw_iconst hx hb dX1_lunarMeeting_105 ?_
            refine lv_istore (lv' := [(8, .int (mI (0))), (7, .int (mI (1))), (6, .int (mI (mFlt v z))), (5, .int (mI (1))), (0, .ref h0), (1, .int (mI (z))), (2, .int (mI (d))), (3, .int (mI (ld))), (4, .int (mI (mt)))]) hx hb dX1_lunarMeeting_106 hl (by decide) rfl (fun ls hl => ?_)
            refine mw_loopM (T := Int × Int) (nL := 9) (fun x => (0 ≤ x.1 ∧ x.1 ≤ mt) ∧ (d ≤ x.2 ∧ x.2 ≤ d + (x.1 + 1) * 777600000) ∧ mLun v d ld g9 (mt - (x.1)).toNat ((x.2) - d) = mLun v d ld (mSt (mFd L P z 0 (v 0).toNat)) mt.toNat ((mD0 (mFd L P z 0 (v 0).toNat) - d) % mSt (mFd L P z 0 (v 0).toNat))) (fun x => (mt - (x.1)).toNat) 108 (fun x => [(8, .int (mI (x.1))), (0, .ref h0), (1, .int (mI (z))), (2, .int (mI (d))), (3, .int (mI (ld))), (4, .int (mI (mt)))]) (fun x H locs => va_P D vwCl (mMW h0 a1 a2 cA 0 (x.2) g9 v L P) H ∧ va_S (mA3 h0 a1 a2) s.heap H locs) ?_ ((0 : Int), (f9 : Int)) (show (0 ≤ (0 : Int) ∧ (0 : Int) ≤ mt) ∧ (d ≤ (f9 : Int) ∧ (f9 : Int) ≤ d + ((0 : Int) + 1) * 777600000) ∧ mLun v d ld g9 (mt - ((0 : Int))).toNat (((f9 : Int)) - d) = mLun v d ld (mSt (mFd L P z 0 (v 0).toNat)) mt.toNat ((mD0 (mFd L P z 0 (v 0).toNat) - d) % mSt (mFd L P z 0 (v 0).toNat)) from ⟨⟨by omega, by omega⟩, ⟨by omega, by omega⟩, (by rw [Int.sub_zero, n9, n8])⟩) ⟨hP, hS⟩ ls (lv_sub hl [0, 4, 5, 6, 7, 8] rfl)
            intro x hI ih H locs hPS ls hl
            obtain ⟨k, fd⟩ := x
            have hl : lv_has ls 9 [(8, .int (mI (k))), (0, .ref h0), (1, .int (mI (z))), (2, .int (mI (d))), (3, .int (mI (ld))), (4, .int (mI (mt)))] := hl
            have hI : (0 ≤ k ∧ k ≤ mt) ∧ (d ≤ fd ∧ fd ≤ d + (k + 1) * 777600000) ∧ mLun v d ld g9 (mt - k).toNat (fd - d) = mLun v d ld (mSt (mFd L P z 0 (v 0).toNat)) mt.toNat ((mD0 (mFd L P z 0 (v 0).toNat) - d) % mSt (mFd L P z 0 (v 0).toNat)) := hI
            obtain ⟨hP, hS⟩ := hPS
            have hP : va_P D vwCl (mMW h0 a1 a2 cA 0 fd g9 v L P) H := hP
            have hS : va_S (mA3 h0 a1 a2) s.heap H locs := hS
            have hD := hDD 0 fd g9 v L P
            obtain ⟨⟨i1, i2⟩, ⟨i3, i4⟩, i5⟩ := hI
            have i6 := m_lun_r hok fd
            have e9 : d + (fd - d) = fd := by omega
            have i8 : k < mt → (mt - k).toNat = (mt - (k + 1)).toNat + 1 := fun h => by omega
            have i7 : k < mt → ¬ mLunar v fd = ld → mLun v d ld g9 (mt - (k + 1)).toNat (fd + g9 - d) = mLun v d ld (mSt (mFd L P z 0 (v 0).toNat)) mt.toNat ((mD0 (mFd L P z 0 (v 0).toNat) - d) % mSt (mFd L P z 0 (v 0).toNat)) := fun h h2 => by
              rw [← i5, i8 h, mLun_s, e9, if_neg h2]
              congr 1
              omega
            refine lv_iload hx hb dX1_lunarMeeting_108 (lv_at hl 0 rfl) ?_
            refine lv_iload hx hb dX1_lunarMeeting_110 (lv_at hl 5 rfl) ?_
            refine mw_icmp_ge (tgt := 156) hx hb (by omega) (by omega) dX1_lunarMeeting_112 (by decide) (fun c_112 => ?_) (fun c_112 => ?_)
            · refine mw_ldc2 hx hb (-1) (by decide +kernel) hown (hts (.constantLong RX1 130 (-1)) (by decide +kernel)) dX1_lunarMeeting_156 ?_
              exact mw_yretL hx hb hr hlocks dX1_lunarMeeting_159 fd g9 (fun h9 => by first | exact (by rw [← i5]; have e : (mt - k).toNat = 0 := (by omega); rw [e]; rfl) | rfl | exact (mB_t (by omega)).symm | exact (mB_f (by omega)).symm | omega | (rw [mEx3_1 (by omega)] at h9; omega) | (rw [mEx3_2 (by omega) (by omega)] at h9; omega) | (rw [mEx3_3 (by omega) (by omega) (fun q => c_66 (mm.mpr q))] at h9; omega) | (have q9 : mFlt v z = (((mEx3 (mDay d ∧ (0 ≤ ld ∧ ld ≤ 99) ∧ (1 ≤ mt ∧ mt ≤ 1000) ∧ 1 ≤ mPop z 32 ∧ mPop z 32 ≤ 5) (mUsh z (v 0) = 0) (mMts v L P z)) : Nat) : Int) := m_flt3 (by omega) ⟨fun _ => by omega, fun _ => by omega⟩; omega) | (exfalso; omega)) (mw_wk (by first | rfl | (rw [mEx3_0 (by omega) (by omega) (mm.mp c_66)]; omega) | (rw [mEx3_1 (by omega)]; omega) | (rw [mEx3_2 (by omega) (by omega)]; omega) | (rw [mEx3_3 (by omega) (by omega) (fun q => c_66 (mm.mpr q))]; omega) | exact m_flt3 (by omega) ⟨fun _ => by omega, fun _ => by omega⟩ | (exfalso; omega)) rfl rfl rfl hP) hS
            · refine lv_aload_n hx hb dX1_lunarMeeting_115 rfl (lv_at hl 1 rfl) ?_
              refine lv_aload_n hx hb dX1_lunarMeeting_116 rfl (lv_at hl 1 rfl) ?_
              refine mw_getM hx hb hts hin hown hK hP rfl 11 (by decide) (by decide +kernel) rfl rfl dX1_lunarMeeting_117 ?_
              refine mw_cVl (rest := []) (q := (RX1, TX1, 13)) hC (c_X1_lunarOf l D h0 a1 a2 cA cJ 0 fd g9 v L P fd (id hok) (by omega)) (cwV 1 hts gX1_lunarMeeting_X1_lunarOf rfl rfl rfl (by decide +kernel) ⟨Nat.le_of_ble_eq_true rfl, Nat.le_of_ble_eq_true rfl⟩) hK hP rfl rfl rfl hl.1 rfl (Nat.le_of_ble_eq_true rfl) ⟨Nat.zero_le _, Nat.zero_le _⟩ dX1_lunarMeeting_120 ?_
              refine lv_iload_n hx hb dX1_lunarMeeting_123 rfl (lv_at hl 4 rfl) ?_
              refine mw_i2l hx hb (by omega) dX1_lunarMeeting_124 ?_
              refine mw_lcmp_ne (tgt := 137) hx hb (by omega) (by omega) dX1_lunarMeeting_125 dX1_lunarMeeting_126 (by decide) (fun c_126 => ?_) (fun c_126 => ?_)
              · refine lv_aload_n hx hb dX1_lunarMeeting_137 rfl (lv_at hl 1 rfl) ?_
                refine lv_dup hx hb dX1_lunarMeeting_138 rfl ?_
                refine mw_getM hx hb hts hin hown hK hP rfl 11 (by decide) (by decide +kernel) rfl rfl dX1_lunarMeeting_139 ?_
                refine lv_aload_n hx hb dX1_lunarMeeting_142 rfl (lv_at hl 1 rfl) ?_
                refine mw_getM hx hb hts hin hown hK hP rfl 12 (by decide) (by decide +kernel) rfl rfl dX1_lunarMeeting_143 ?_
                refine mw_ladd hx hb dX1_lunarMeeting_146 ?_
                refine mw_putMl hx hb hts hin hown hK hP hD hS rfl 11 (by decide) (Nat.le_of_ble_eq_true rfl) (by decide +kernel) rfl rfl (by decide +kernel) dX1_lunarMeeting_147 (fun H locs hP hS => ?_)
                have hP : va_P D vwCl (mMW h0 a1 a2 cA 0 (fd + g9) g9 v L P) H := hP
                have hD := hDD 0 (fd + g9) g9 v L P
                refine mw_iinc (k := 0) (lv' := [(8, .int (mI (k + 1))), (0, .ref h0), (1, .int (mI (z))), (2, .int (mI (d))), (3, .int (mI (ld))), (4, .int (mI (mt)))]) hx hb dX1_lunarMeeting_150 hl rfl (by decide) rfl (fun ls hl => ?_)
                refine lv_goto (tgt := 108) hx hb dX1_lunarMeeting_153 (by decide) ?_
                exact ih ((k + 1), (fd + g9)) (show (0 ≤ (k + 1) ∧ (k + 1) ≤ mt) ∧ (d ≤ (fd + g9) ∧ (fd + g9) ≤ d + ((k + 1) + 1) * 777600000) ∧ mLun v d ld g9 (mt - ((k + 1))).toNat (((fd + g9)) - d) = mLun v d ld (mSt (mFd L P z 0 (v 0).toNat)) mt.toNat ((mD0 (mFd L P z 0 (v 0).toNat) - d) % mSt (mFd L P z 0 (v 0).toNat)) from ⟨⟨by omega, by omega⟩, ⟨by omega, by omega⟩, (i7 (by omega) (by omega))⟩) (show (mt - ((k + 1))).toNat < (mt - k).toNat from (by omega)) _ _ ⟨hP, hS⟩ ls (lv_sub hl [0, 1, 2, 3, 4, 5] rfl)
              · refine lv_aload_n hx hb dX1_lunarMeeting_129 rfl (lv_at hl 1 rfl) ?_
                refine mw_getM hx hb hts hin hown hK hP rfl 11 (by decide) (by decide +kernel) rfl rfl dX1_lunarMeeting_130 ?_
                refine lv_iload_n hx hb dX1_lunarMeeting_133 rfl (lv_at hl 3 rfl) ?_
                refine mw_i2l hx hb (by omega) dX1_lunarMeeting_134 ?_
                refine mw_lsub hx hb dX1_lunarMeeting_135 ?_
                exact mw_yretL hx hb hr hlocks dX1_lunarMeeting_136 fd g9 (fun h9 => by first | exact (by rw [← i5, i8 (by omega), mLun_s, e9, if_pos (by omega)]) | rfl | exact (mB_t (by omega)).symm | exact (mB_f (by omega)).symm | omega | (rw [mEx3_1 (by omega)] at h9; omega) | (rw [mEx3_2 (by omega) (by omega)] at h9; omega) | (rw [mEx3_3 (by omega) (by omega) (fun q => c_66 (mm.mpr q))] at h9; omega) | (have q9 : mFlt v z = (((mEx3 (mDay d ∧ (0 ≤ ld ∧ ld ≤ 99) ∧ (1 ≤ mt ∧ mt ≤ 1000) ∧ 1 ≤ mPop z 32 ∧ mPop z 32 ≤ 5) (mUsh z (v 0) = 0) (mMts v L P z)) : Nat) : Int) := m_flt3 (by omega) ⟨fun _ => by omega, fun _ => by omega⟩; omega) | (exfalso; omega)) (mw_wk (by first | rfl | (rw [mEx3_0 (by omega) (by omega) (mm.mp c_66)]; omega) | (rw [mEx3_1 (by omega)]; omega) | (rw [mEx3_2 (by omega) (by omega)]; omega) | (rw [mEx3_3 (by omega) (by omega) (fun q => c_66 (mm.mpr q))]; omega) | exact m_flt3 (by omega) ⟨fun _ => by omega, fun _ => by omega⟩ | (exfalso; omega)) rfl rfl rfl hP) hS
