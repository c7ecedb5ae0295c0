set_option maxHeartbeats 2000000 in
set_option maxRecDepth 100000 in
theorem g_isMonthSo (l : Launch) (hfl : l.flags = flags0) (D : va_G) (h0 a1 a2 : Nat) (cA cJ : ClassId) (v : Nat → Int) (L P : Int → Int) (d : Int) (hd : -900000 ≤ d ∧ d ≤ 900000) (hok : mOK v L P) : mG l yL_isMonthSo wsL_isMonthSo ({ frames := 9, cells := 0, slots := 0, locals := 151 }) [.ref h0, .int (mI (d))] D (mXW h0 a1 a2 cA v L P) (mTy cA cJ) 1 0 (mXW h0 a1 a2 cA v L P) (fun _ => False) 0 0 := by
  refine mw_openG (cc := cL_isMonthSo) (maxL := 4) (ret := (some .boolean)) (by decide) rfl (Nat.le_of_ble_eq_true rfl) ?_
  intro p e s m below meth c ls hC hr hlocks hB hE hNS hl
  obtain ⟨hx, hb, hml, hown, hts⟩ := id hC
  obtain ⟨hP, hK⟩ := hB
  obtain ⟨hES, hZ0⟩ := hE
  have hZS : mwZ (fun _ => False) s s.heap := hZ0
  have hS : va_S (fun _ => False) s.heap s.heap [] := va_S.rf
  have hg : s.heap.size + 0 ≤ s.heap.size := Nat.le_refl _
  have hPx := hP.sub (ws' := mXW h0 a1 a2 cA v L P) [0, 1, 2] rfl
  have hl : lv_has ls 4 [(0, .ref h0), (1, .int (mI (d)))] := hl
  have hm := m_month hok d
  obtain ⟨mo, hMO⟩ : ∃ mo, mo = mMonth v d := ⟨_, rfl⟩
  obtain ⟨bg, hBG⟩ : ∃ bg, bg = mMb v mo := ⟨_, rfl⟩
  obtain ⟨b2, hB2⟩ : ∃ b2, b2 = mMb v (mo + 1) := ⟨_, rfl⟩
  obtain ⟨m2, hM2⟩ : ∃ m2, m2 = mMonth v (d + 1) := ⟨_, rfl⟩
  rw [← hMO, ← hBG, ← hB2, ← hM2] at hm
  have rmo : mRI mo := by rw [hMO]; exact rg_month hok d (by omega) (mEx1_0 (by omega))
  have rm2 : mRI m2 := by rw [hM2]; exact rg_month hok (d + 1) (by omega) (mEx1_0 (by omega))
  refine lv_aload_n hx hb dL_isMonthSo_0 rfl (lv_at hl 0 rfl) ?_
  refine lv_iload_n hx hb dL_isMonthSo_1 rfl (lv_at hl 1 rfl) ?_
  refine mw_cXn (rest := []) (A0 := (fun _ => False)) hC (x_X0_month l hfl D h0 a1 a2 cA cJ v L P d (by omega) hok) (mEx1_0 (by omega)) hES hZS (cwV 1 hts gL_isMonthSo_X0_month rfl rfl rfl (by decide +kernel) ⟨Nat.le_of_ble_eq_true rfl, Nat.le_of_ble_eq_true rfl⟩) hK hPx hS rfl rfl hl.1 rfl (Nat.le_of_ble_eq_true rfl) ⟨Nat.le_of_ble_eq_true rfl, Nat.le_of_ble_eq_true rfl⟩ dL_isMonthSo_2 (fun H locs hS hz hk => ?_)
  have hPx := mw_keepP hPx hk
  have hg := Nat.le_trans hg hz
  refine W.eq (g2 := F0 m 5 ls [.int (mI (mMonth v d))]) rfl ?_
  refine mw_topi (y := mo) hMO.symm ?_
  refine lv_istore_n (lv' := [(2, .int (mI (mo))), (0, .ref h0), (1, .int (mI (d)))]) hx hb dL_isMonthSo_5 rfl hl (by decide) rfl (fun ls hl => ?_)
  refine lv_iload_n hx hb dL_isMonthSo_6 rfl (lv_at hl 0 rfl) ?_
  refine mw_ldc hx hb (-99999) (by decide +kernel) hown (hts (.constant RL 16 (-99999)) (by decide +kernel)) dL_isMonthSo_7 ?_
  refine mw_icmp_lt (tgt := 18) hx hb (by omega) (by omega) dL_isMonthSo_9 (by decide) (fun c_9 => ?_) (fun c_9 => ?_)
  · refine mw_iconst hx hb dL_isMonthSo_18 ?_
    exact mw_gretZ hx hb hr hlocks dL_isMonthSo_19 (by decide +kernel) rfl (by omega) hPx hS ⟨Nat.le_of_ble_eq_true rfl, Nat.le_of_ble_eq_true rfl⟩
  · refine lv_iload_n hx hb dL_isMonthSo_12 rfl (lv_at hl 0 rfl) ?_
    refine mw_ldc hx hb (99999) (by decide +kernel) hown (hts (.constant RL 109 (99999)) (by decide +kernel)) dL_isMonthSo_13 ?_
    refine mw_icmp_le (tgt := 20) hx hb (by omega) (by omega) dL_isMonthSo_15 (by decide) (fun c_15 => ?_) (fun c_15 => ?_)
    · have rb2 : mRI b2 := by rw [hB2]; exact rg_monthBegin hok (mo + 1) (by omega) (mEx1_0 (by omega))
      refine lv_aload_n hx hb dL_isMonthSo_20 rfl (lv_at hl 1 rfl) ?_
      refine lv_iload_n hx hb dL_isMonthSo_21 rfl (lv_at hl 0 rfl) ?_
      refine mw_cXn (rest := []) (A0 := (fun _ => False)) hC (x_X0_monthBegin l hfl D h0 a1 a2 cA cJ v L P mo (by omega) hok) (mEx1_0 (by omega)) hES hZS (cwV 1 hts gL_isMonthSo_X0_monthBegin rfl rfl rfl (by decide +kernel) ⟨Nat.le_of_ble_eq_true rfl, Nat.le_of_ble_eq_true rfl⟩) hK hPx hS rfl rfl hl.1 rfl (Nat.le_of_ble_eq_true rfl) ⟨Nat.le_of_ble_eq_true rfl, Nat.le_of_ble_eq_true rfl⟩ dL_isMonthSo_22 (fun H locs hS hz hk => ?_)
      have hPx := mw_keepP hPx hk
      have hg := Nat.le_trans hg hz
      refine W.eq (g2 := F0 m 25 ls [.int (mI (mMb v mo))]) rfl ?_
      refine mw_topi (y := bg) hBG.symm ?_
      refine lv_istore_n (lv' := [(3, .int (mI (bg))), (2, .int (mI (mo))), (0, .ref h0), (1, .int (mI (d)))]) hx hb dL_isMonthSo_25 rfl hl (by decide) rfl (fun ls hl => ?_)
      refine lv_iload_n hx hb dL_isMonthSo_26 rfl (lv_at hl 0 rfl) ?_
      refine lv_iload_n hx hb dL_isMonthSo_27 rfl (lv_at hl 3 rfl) ?_
      refine mw_icmp_gt (tgt := 98) hx hb (by omega) (by omega) dL_isMonthSo_28 (by decide) (fun c_28 => False.elim (by omega)) (fun c_28 => ?_)
      refine lv_aload_n hx hb dL_isMonthSo_31 rfl (lv_at hl 2 rfl) ?_
      refine lv_iload_n hx hb dL_isMonthSo_32 rfl (lv_at hl 3 rfl) ?_
      refine mw_cXn (rest := []) (A0 := (fun _ => False)) hC (x_X0_lunarDay l hfl D h0 a1 a2 cA cJ v L P d (by omega) hok) (mEx1_0 (by omega)) hES hZS (cwV 1 hts gL_isMonthSo_X0_lunarDay rfl rfl rfl (by decide +kernel) ⟨Nat.le_of_ble_eq_true rfl, Nat.le_of_ble_eq_true rfl⟩) hK hPx hS rfl rfl hl.1 rfl (Nat.le_of_ble_eq_true rfl) ⟨Nat.le_of_ble_eq_true rfl, Nat.le_of_ble_eq_true rfl⟩ dL_isMonthSo_33 (fun H locs hS hz hk => ?_)
      have hPx := mw_keepP hPx hk
      have hg := Nat.le_trans hg hz
      refine W.eq (g2 := F0 m 36 ls [.int (mI (mLunar v d))]) rfl ?_
      refine mw_topi (y := d - bg) hm.2.2.1 ?_
      refine lv_iload_n hx hb dL_isMonthSo_36 rfl (lv_at hl 3 rfl) ?_
      refine lv_iload_n hx hb dL_isMonthSo_37 rfl (lv_at hl 0 rfl) ?_
      refine mw_isub hx hb dL_isMonthSo_38 ?_
      refine mw_icmp_ne (tgt := 98) hx hb (by omega) (by omega) dL_isMonthSo_39 (by decide) (fun c_39 => False.elim (by omega)) (fun c_39 => ?_)
      refine lv_aload_n hx hb dL_isMonthSo_42 rfl (lv_at hl 2 rfl) ?_
      refine lv_iload_n hx hb dL_isMonthSo_43 rfl (lv_at hl 0 rfl) ?_
      refine mw_cXn (rest := []) (A0 := (fun _ => False)) hC (x_X0_month l hfl D h0 a1 a2 cA cJ v L P bg (by omega) hok) (mEx1_0 (by omega)) hES hZS (cwV 1 hts gL_isMonthSo_X0_month rfl rfl rfl (by decide +kernel) ⟨Nat.le_of_ble_eq_true rfl, Nat.le_of_ble_eq_true rfl⟩) hK hPx hS rfl rfl hl.1 rfl (Nat.le_of_ble_eq_true rfl) ⟨Nat.le_of_ble_eq_true rfl, Nat.le_of_ble_eq_true rfl⟩ dL_isMonthSo_44 (fun H locs hS hz hk => ?_)
      have hPx := mw_keepP hPx hk
      have hg := Nat.le_trans hg hz
      refine W.eq (g2 := F0 m 47 ls [.int (mI (mMonth v bg))]) rfl ?_
      refine mw_topi (y := mo) hm.2.2.2.1 ?_
      refine lv_iload_n hx hb dL_isMonthSo_47 rfl (lv_at hl 1 rfl) ?_
      refine mw_icmp_ne (tgt := 98) hx hb (by omega) (by omega) dL_isMonthSo_48 (by decide) (fun c_48 => False.elim (by omega)) (fun c_48 => ?_)
      refine lv_aload_n hx hb dL_isMonthSo_51 rfl (lv_at hl 2 rfl) ?_
      refine lv_iload_n hx hb dL_isMonthSo_52 rfl (lv_at hl 0 rfl) ?_
      refine mw_iconst hx hb dL_isMonthSo_53 ?_
      refine mw_isub hx hb dL_isMonthSo_54 ?_
      refine mw_cXn (rest := []) (A0 := (fun _ => False)) hC (x_X0_month l hfl D h0 a1 a2 cA cJ v L P (bg - 1) (by omega) hok) (mEx1_0 (by omega)) hES hZS (cwV 1 hts gL_isMonthSo_X0_month rfl rfl rfl (by decide +kernel) ⟨Nat.le_of_ble_eq_true rfl, Nat.le_of_ble_eq_true rfl⟩) hK hPx hS rfl rfl hl.1 rfl (Nat.le_of_ble_eq_true rfl) ⟨Nat.le_of_ble_eq_true rfl, Nat.le_of_ble_eq_true rfl⟩ dL_isMonthSo_55 (fun H locs hS hz hk => ?_)
      have hPx := mw_keepP hPx hk
      have hg := Nat.le_trans hg hz
      refine W.eq (g2 := F0 m 58 ls [.int (mI (mMonth v (bg - 1)))]) rfl ?_
      refine mw_topi (y := mo - 1) hm.2.2.2.2.1 ?_
      refine lv_iload_n hx hb dL_isMonthSo_58 rfl (lv_at hl 1 rfl) ?_
      refine mw_iconst hx hb dL_isMonthSo_59 ?_
      refine mw_isub hx hb dL_isMonthSo_60 ?_
      refine mw_icmp_ne (tgt := 98) hx hb (by omega) (by omega) dL_isMonthSo_61 (by decide) (fun c_61 => False.elim (by omega)) (fun c_61 => ?_)
      refine lv_aload_n hx hb dL_isMonthSo_64 rfl (lv_at hl 2 rfl) ?_
      refine lv_iload_n hx hb dL_isMonthSo_65 rfl (lv_at hl 3 rfl) ?_
      refine mw_iconst hx hb dL_isMonthSo_66 ?_
      refine mw_iadd hx hb dL_isMonthSo_67 ?_
      refine mw_cXn (rest := []) (A0 := (fun _ => False)) hC (x_X0_month l hfl D h0 a1 a2 cA cJ v L P (d + 1) (by omega) hok) (mEx1_0 (by omega)) hES hZS (cwV 1 hts gL_isMonthSo_X0_month rfl rfl rfl (by decide +kernel) ⟨Nat.le_of_ble_eq_true rfl, Nat.le_of_ble_eq_true rfl⟩) hK hPx hS rfl rfl hl.1 rfl (Nat.le_of_ble_eq_true rfl) ⟨Nat.le_of_ble_eq_true rfl, Nat.le_of_ble_eq_true rfl⟩ dL_isMonthSo_68 (fun H locs hS hz hk => ?_)
      have hPx := mw_keepP hPx hk
      have hg := Nat.le_trans hg hz
      refine W.eq (g2 := F0 m 71 ls [.int (mI (mMonth v (d + 1)))]) rfl ?_
      refine mw_topi (y := m2) hM2.symm ?_
      refine lv_iload_n hx hb dL_isMonthSo_71 rfl (lv_at hl 1 rfl) ?_
      refine mw_isub hx hb dL_isMonthSo_72 ?_
      refine lv_aload_n hx hb dL_isMonthSo_73 rfl (lv_at hl 2 rfl) ?_
      refine lv_iload_n hx hb dL_isMonthSo_74 rfl (lv_at hl 1 rfl) ?_
      refine mw_iconst hx hb dL_isMonthSo_75 ?_
      refine mw_iadd hx hb dL_isMonthSo_76 ?_
      refine mw_cXn (rest := [.int (mI (m2 - mo))]) (A0 := (fun _ => False)) hC (x_X0_monthBegin l hfl D h0 a1 a2 cA cJ v L P (mo + 1) (by omega) hok) (mEx1_0 (by omega)) hES hZS (cwV 1 hts gL_isMonthSo_X0_monthBegin rfl rfl rfl (by decide +kernel) ⟨Nat.le_of_ble_eq_true rfl, Nat.le_of_ble_eq_true rfl⟩) hK hPx hS rfl rfl hl.1 rfl (Nat.le_of_ble_eq_true rfl) ⟨Nat.le_of_ble_eq_true rfl, Nat.le_of_ble_eq_true rfl⟩ dL_isMonthSo_77 (fun H locs hS hz hk => ?_)
      have hPx := mw_keepP hPx hk
      have hg := Nat.le_trans hg hz
      refine W.eq (g2 := F0 m 80 ls [.int (mI (mMb v (mo + 1))), .int (mI (m2 - mo))]) rfl ?_
      refine mw_topi (y := b2) hB2.symm ?_
      refine lv_iload_n hx hb dL_isMonthSo_80 rfl (lv_at hl 3 rfl) ?_
      refine mw_iconst hx hb dL_isMonthSo_81 ?_
      refine mw_iadd hx hb dL_isMonthSo_82 ?_
      refine mw_icmp_ne (tgt := 90) hx hb (by omega) (by omega) dL_isMonthSo_83 (by decide) (fun c_83 => ?_) (fun c_83 => ?_)
      · have q := hm.2.2.2.2.2.2 (by omega)
        refine mw_iconst hx hb dL_isMonthSo_90 ?_
        refine mw_icmp_ne (tgt := 98) hx hb (by omega) (by omega) dL_isMonthSo_91 (by decide) (fun c_91 => False.elim (by omega)) (fun c_91 => ?_)
        refine mw_iconst hx hb dL_isMonthSo_94 ?_
        refine lv_goto (tgt := 99) hx hb dL_isMonthSo_95 (by decide) ?_
        exact mw_gretZ hx hb hr hlocks dL_isMonthSo_99 (by decide +kernel) rfl (by omega) hPx hS ⟨Nat.le_of_ble_eq_true rfl, Nat.le_of_ble_eq_true rfl⟩
      · have q := hm.2.2.2.2.2.1 (by omega)
        refine mw_iconst hx hb dL_isMonthSo_86 ?_
        refine lv_goto (tgt := 91) hx hb dL_isMonthSo_87 (by decide) ?_
        refine mw_icmp_ne (tgt := 98) hx hb (by omega) (by omega) dL_isMonthSo_91 (by decide) (fun c_91 => False.elim (by omega)) (fun c_91 => ?_)
        refine mw_iconst hx hb dL_isMonthSo_94 ?_
        refine lv_goto (tgt := 99) hx hb dL_isMonthSo_95 (by decide) ?_
        exact mw_gretZ hx hb hr hlocks dL_isMonthSo_99 (by decide +kernel) rfl (by omega) hPx hS ⟨Nat.le_of_ble_eq_true rfl, Nat.le_of_ble_eq_true rfl⟩
    · refine mw_iconst hx hb dL_isMonthSo_18 ?_
      exact mw_gretZ hx hb hr hlocks dL_isMonthSo_19 (by decide +kernel) rfl (by omega) hPx hS ⟨Nat.le_of_ble_eq_true rfl, Nat.le_of_ble_eq_true rfl⟩

set_option maxHeartbeats 2000000 in
set_option maxRecDepth 100000 in
theorem g_areAlike (l : Launch) (hfl : l.flags = flags0) (D : va_G) (h0 a1 a2 : Nat) (cA cJ : ClassId) (v : Nat → Int) (L P : Int → Int) (y0 b1 b2 : Nat) (d : Int) (hd : -900000 ≤ d ∧ d ≤ 900000) (hok : mOK v L P) : mG l yL_areAlike wsL_areAlike ({ frames := 9, cells := 0, slots := 0, locals := 151 }) [.ref h0, .ref y0, .int (mI (d))] D (mXW h0 a1 a2 cA v L P ++ mXW y0 b1 b2 cA v L P) (mTy cA cJ) 1 0 (mXW h0 a1 a2 cA v L P ++ mXW y0 b1 b2 cA v L P) (fun _ => False) 0 0 := by
  refine mw_openG (cc := cL_areAlike) (maxL := 4) (ret := (some .boolean)) (by decide) rfl (Nat.le_of_ble_eq_true rfl) ?_
  intro p e s m below meth c ls hC hr hlocks hB hE hNS hl
  obtain ⟨hx, hb, hml, hown, hts⟩ := id hC
  obtain ⟨hP, hK⟩ := hB
  obtain ⟨hES, hZ0⟩ := hE
  have hZS : mwZ (fun _ => False) s s.heap := hZ0
  have hS : va_S (fun _ => False) s.heap s.heap [] := va_S.rf
  have hg : s.heap.size + 0 ≤ s.heap.size := Nat.le_refl _
  have hPx := hP.sub (ws' := mXW h0 a1 a2 cA v L P) [0, 1, 2] rfl
  have hPy := hP.sub (ws' := mXW y0 b1 b2 cA v L P) [3, 4, 5] rfl
  have hl : lv_has ls 4 [(0, .ref h0), (1, .ref y0), (2, .int (mI (d)))] := hl
  have hv9 := hok.1
  obtain ⟨sh, hSH⟩ : ∃ sh, sh = mSet L P d (v 0).toNat := ⟨_, rfl⟩
  have rsh : mRI sh := by rw [hSH]; exact rg_heldOn hok d (by omega) (mEx1_0 (by omega))
  obtain ⟨mo, hMO⟩ : ∃ mo, mo = mMonth v d := ⟨_, rfl⟩
  have rmo : mRI mo := by rw [hMO]; exact rg_month hok d (by omega) (mEx1_0 (by omega))
  obtain ⟨ld, hLD⟩ : ∃ ld, ld = mLunar v d := ⟨_, rfl⟩
  have rld : mRI ld := by rw [hLD]; exact rg_lunarDay hok d (by omega) (mEx1_0 (by omega))
  obtain ⟨yy, hYY⟩ : ∃ yy, yy = mYr v d := ⟨_, rfl⟩
  have ryy : mRI yy := by rw [hYY]; exact rg_year hok d (by omega) (mEx1_0 (by omega))
  obtain ⟨pp, hPP⟩ : ∃ pp, pp = d - mBeg v (mYr v d) := ⟨_, rfl⟩
  have rpp : mRI pp := by rw [hPP]; exact rg_placeInYear hok d (by omega) (mEx1_0 (by omega))
  refine lv_aload_n hx hb dL_areAlike_0 rfl (lv_at hl 0 rfl) ?_
  refine mw_cVi (rest := []) (q := (RX0, TX0, 10)) hC (c_X0_markets l D h0 a1 a2 cA cJ v L P) (cwV 0 hts gL_areAlike_X0_markets rfl rfl rfl (by decide +kernel) ⟨Nat.le_of_ble_eq_true rfl, Nat.le_of_ble_eq_true rfl⟩) hK hPx rfl rfl rfl hl.1 rfl (Nat.le_of_ble_eq_true rfl) ⟨Nat.le_of_ble_eq_true rfl, Nat.le_of_ble_eq_true rfl⟩ dL_areAlike_1 ?_
  refine lv_aload_n hx hb dL_areAlike_4 rfl (lv_at hl 1 rfl) ?_
  refine mw_cVi (rest := [.int (mI (v 0))]) (q := (RX0, TX0, 10)) hC (c_X0_markets l D y0 b1 b2 cA cJ v L P) (cwV 0 hts gL_areAlike_X0_markets rfl rfl rfl (by decide +kernel) ⟨Nat.le_of_ble_eq_true rfl, Nat.le_of_ble_eq_true rfl⟩) hK hPy rfl rfl rfl hl.1 rfl (Nat.le_of_ble_eq_true rfl) ⟨Nat.le_of_ble_eq_true rfl, Nat.le_of_ble_eq_true rfl⟩ dL_areAlike_5 ?_
  refine mw_icmp_ne (tgt := 80) hx hb (by omega) (by omega) dL_areAlike_8 (by decide) (fun c_8 => False.elim (by omega)) (fun c_8 => ?_)
  refine lv_aload_n hx hb dL_areAlike_11 rfl (lv_at hl 0 rfl) ?_
  refine lv_iload_n hx hb dL_areAlike_12 rfl (lv_at hl 2 rfl) ?_
  refine mw_cXn (rest := []) (A0 := (fun _ => False)) hC (x_X0_heldOn l hfl D h0 a1 a2 cA cJ v L P d (by omega) hok) (mEx1_0 (by omega)) hES hZS (cwV 1 hts gL_areAlike_X0_heldOn rfl rfl rfl (by decide +kernel) ⟨Nat.le_of_ble_eq_true rfl, Nat.le_of_ble_eq_true rfl⟩) hK hPx hS rfl rfl hl.1 rfl (Nat.le_of_ble_eq_true rfl) ⟨Nat.le_of_ble_eq_true rfl, Nat.le_of_ble_eq_true rfl⟩ dL_areAlike_13 (fun H locs hS hz hk => ?_)
  have hPx := mw_keepP hPx hk
  have hPy := mw_keepP hPy hk
  have hg := Nat.le_trans hg hz
  refine W.eq (g2 := F0 m 16 ls [.int (mI (mSet L P d (v 0).toNat))]) rfl ?_
  refine mw_topi (y := sh) hSH.symm ?_
  refine lv_aload_n hx hb dL_areAlike_16 rfl (lv_at hl 1 rfl) ?_
  refine lv_iload_n hx hb dL_areAlike_17 rfl (lv_at hl 2 rfl) ?_
  refine mw_cXn (rest := [.int (mI (sh))]) (A0 := (fun _ => False)) hC (x_X0_heldOn l hfl D y0 b1 b2 cA cJ v L P d (by omega) hok) (mEx1_0 (by omega)) hES hZS (cwV 1 hts gL_areAlike_X0_heldOn rfl rfl rfl (by decide +kernel) ⟨Nat.le_of_ble_eq_true rfl, Nat.le_of_ble_eq_true rfl⟩) hK hPy hS rfl rfl hl.1 rfl (Nat.le_of_ble_eq_true rfl) ⟨Nat.le_of_ble_eq_true rfl, Nat.le_of_ble_eq_true rfl⟩ dL_areAlike_18 (fun H locs hS hz hk => ?_)
  have hPx := mw_keepP hPx hk
  have hPy := mw_keepP hPy hk
  have hg := Nat.le_trans hg hz
  refine W.eq (g2 := F0 m 21 ls [.int (mI (mSet L P d (v 0).toNat)), .int (mI (sh))]) rfl ?_
  refine mw_topi (y := sh) hSH.symm ?_
  refine mw_icmp_ne (tgt := 80) hx hb (by omega) (by omega) dL_areAlike_21 (by decide) (fun c_21 => False.elim (by omega)) (fun c_21 => ?_)
  refine lv_aload_n hx hb dL_areAlike_24 rfl (lv_at hl 0 rfl) ?_
  refine lv_iload_n hx hb dL_areAlike_25 rfl (lv_at hl 2 rfl) ?_
  refine mw_cXn (rest := []) (A0 := (fun _ => False)) hC (x_X0_month l hfl D h0 a1 a2 cA cJ v L P d (by omega) hok) (mEx1_0 (by omega)) hES hZS (cwV 1 hts gL_areAlike_X0_month rfl rfl rfl (by decide +kernel) ⟨Nat.le_of_ble_eq_true rfl, Nat.le_of_ble_eq_true rfl⟩) hK hPx hS rfl rfl hl.1 rfl (Nat.le_of_ble_eq_true rfl) ⟨Nat.le_of_ble_eq_true rfl, Nat.le_of_ble_eq_true rfl⟩ dL_areAlike_26 (fun H locs hS hz hk => ?_)
  have hPx := mw_keepP hPx hk
  have hPy := mw_keepP hPy hk
  have hg := Nat.le_trans hg hz
  refine W.eq (g2 := F0 m 29 ls [.int (mI (mMonth v d))]) rfl ?_
  refine mw_topi (y := mo) hMO.symm ?_
  refine lv_aload_n hx hb dL_areAlike_29 rfl (lv_at hl 1 rfl) ?_
  refine lv_iload_n hx hb dL_areAlike_30 rfl (lv_at hl 2 rfl) ?_
  refine mw_cXn (rest := [.int (mI (mo))]) (A0 := (fun _ => False)) hC (x_X0_month l hfl D y0 b1 b2 cA cJ v L P d (by omega) hok) (mEx1_0 (by omega)) hES hZS (cwV 1 hts gL_areAlike_X0_month rfl rfl rfl (by decide +kernel) ⟨Nat.le_of_ble_eq_true rfl, Nat.le_of_ble_eq_true rfl⟩) hK hPy hS rfl rfl hl.1 rfl (Nat.le_of_ble_eq_true rfl) ⟨Nat.le_of_ble_eq_true rfl, Nat.le_of_ble_eq_true rfl⟩ dL_areAlike_31 (fun H locs hS hz hk => ?_)
  have hPx := mw_keepP hPx hk
  have hPy := mw_keepP hPy hk
  have hg := Nat.le_trans hg hz
  refine W.eq (g2 := F0 m 34 ls [.int (mI (mMonth v d)), .int (mI (mo))]) rfl ?_
  refine mw_topi (y := mo) hMO.symm ?_
  refine mw_icmp_ne (tgt := 80) hx hb (by omega) (by omega) dL_areAlike_34 (by decide) (fun c_34 => False.elim (by omega)) (fun c_34 => ?_)
  refine lv_aload_n hx hb dL_areAlike_37 rfl (lv_at hl 0 rfl) ?_
  refine lv_iload_n hx hb dL_areAlike_38 rfl (lv_at hl 2 rfl) ?_
  refine mw_cXn (rest := []) (A0 := (fun _ => False)) hC (x_X0_lunarDay l hfl D h0 a1 a2 cA cJ v L P d (by omega) hok) (mEx1_0 (by omega)) hES hZS (cwV 1 hts gL_areAlike_X0_lunarDay rfl rfl rfl (by decide +kernel) ⟨Nat.le_of_ble_eq_true rfl, Nat.le_of_ble_eq_true rfl⟩) hK hPx hS rfl rfl hl.1 rfl (Nat.le_of_ble_eq_true rfl) ⟨Nat.le_of_ble_eq_true rfl, Nat.le_of_ble_eq_true rfl⟩ dL_areAlike_39 (fun H locs hS hz hk => ?_)
  have hPx := mw_keepP hPx hk
  have hPy := mw_keepP hPy hk
  have hg := Nat.le_trans hg hz
  refine W.eq (g2 := F0 m 42 ls [.int (mI (mLunar v d))]) rfl ?_
  refine mw_topi (y := ld) hLD.symm ?_
  refine lv_aload_n hx hb dL_areAlike_42 rfl (lv_at hl 1 rfl) ?_
  refine lv_iload_n hx hb dL_areAlike_43 rfl (lv_at hl 2 rfl) ?_
  refine mw_cXn (rest := [.int (mI (ld))]) (A0 := (fun _ => False)) hC (x_X0_lunarDay l hfl D y0 b1 b2 cA cJ v L P d (by omega) hok) (mEx1_0 (by omega)) hES hZS (cwV 1 hts gL_areAlike_X0_lunarDay rfl rfl rfl (by decide +kernel) ⟨Nat.le_of_ble_eq_true rfl, Nat.le_of_ble_eq_true rfl⟩) hK hPy hS rfl rfl hl.1 rfl (Nat.le_of_ble_eq_true rfl) ⟨Nat.le_of_ble_eq_true rfl, Nat.le_of_ble_eq_true rfl⟩ dL_areAlike_44 (fun H locs hS hz hk => ?_)
  have hPx := mw_keepP hPx hk
  have hPy := mw_keepP hPy hk
  have hg := Nat.le_trans hg hz
  refine W.eq (g2 := F0 m 47 ls [.int (mI (mLunar v d)), .int (mI (ld))]) rfl ?_
  refine mw_topi (y := ld) hLD.symm ?_
  refine mw_icmp_ne (tgt := 80) hx hb (by omega) (by omega) dL_areAlike_47 (by decide) (fun c_47 => False.elim (by omega)) (fun c_47 => ?_)
  refine lv_aload_n hx hb dL_areAlike_50 rfl (lv_at hl 0 rfl) ?_
  refine lv_iload_n hx hb dL_areAlike_51 rfl (lv_at hl 2 rfl) ?_
  refine mw_cXn (rest := []) (A0 := (fun _ => False)) hC (x_X0_year l hfl D h0 a1 a2 cA cJ v L P d (by omega) hok) (mEx1_0 (by omega)) hES hZS (cwV 1 hts gL_areAlike_X0_year rfl rfl rfl (by decide +kernel) ⟨Nat.le_of_ble_eq_true rfl, Nat.le_of_ble_eq_true rfl⟩) hK hPx hS rfl rfl hl.1 rfl (Nat.le_of_ble_eq_true rfl) ⟨Nat.le_of_ble_eq_true rfl, Nat.le_of_ble_eq_true rfl⟩ dL_areAlike_52 (fun H locs hS hz hk => ?_)
  have hPx := mw_keepP hPx hk
  have hPy := mw_keepP hPy hk
  have hg := Nat.le_trans hg hz
  refine W.eq (g2 := F0 m 55 ls [.int (mI (mYr v d))]) rfl ?_
  refine mw_topi (y := yy) hYY.symm ?_
  refine lv_aload_n hx hb dL_areAlike_55 rfl (lv_at hl 1 rfl) ?_
  refine lv_iload_n hx hb dL_areAlike_56 rfl (lv_at hl 2 rfl) ?_
  refine mw_cXn (rest := [.int (mI (yy))]) (A0 := (fun _ => False)) hC (x_X0_year l hfl D y0 b1 b2 cA cJ v L P d (by omega) hok) (mEx1_0 (by omega)) hES hZS (cwV 1 hts gL_areAlike_X0_year rfl rfl rfl (by decide +kernel) ⟨Nat.le_of_ble_eq_true rfl, Nat.le_of_ble_eq_true rfl⟩) hK hPy hS rfl rfl hl.1 rfl (Nat.le_of_ble_eq_true rfl) ⟨Nat.le_of_ble_eq_true rfl, Nat.le_of_ble_eq_true rfl⟩ dL_areAlike_57 (fun H locs hS hz hk => ?_)
  have hPx := mw_keepP hPx hk
  have hPy := mw_keepP hPy hk
  have hg := Nat.le_trans hg hz
  refine W.eq (g2 := F0 m 60 ls [.int (mI (mYr v d)), .int (mI (yy))]) rfl ?_
  refine mw_topi (y := yy) hYY.symm ?_
  refine mw_icmp_ne (tgt := 80) hx hb (by omega) (by omega) dL_areAlike_60 (by decide) (fun c_60 => False.elim (by omega)) (fun c_60 => ?_)
  refine lv_aload_n hx hb dL_areAlike_63 rfl (lv_at hl 0 rfl) ?_
  refine lv_iload_n hx hb dL_areAlike_64 rfl (lv_at hl 2 rfl) ?_
  refine mw_cXn (rest := []) (A0 := (fun _ => False)) hC (x_X0_placeInYear l hfl D h0 a1 a2 cA cJ v L P d (by omega) hok) (mEx1_0 (by omega)) hES hZS (cwV 1 hts gL_areAlike_X0_placeInYear rfl rfl rfl (by decide +kernel) ⟨Nat.le_of_ble_eq_true rfl, Nat.le_of_ble_eq_true rfl⟩) hK hPx hS rfl rfl hl.1 rfl (Nat.le_of_ble_eq_true rfl) ⟨Nat.le_of_ble_eq_true rfl, Nat.le_of_ble_eq_true rfl⟩ dL_areAlike_65 (fun H locs hS hz hk => ?_)
  have hPx := mw_keepP hPx hk
  have hPy := mw_keepP hPy hk
  have hg := Nat.le_trans hg hz
  refine W.eq (g2 := F0 m 68 ls [.int (mI (d - mBeg v (mYr v d)))]) rfl ?_
  refine mw_topi (y := pp) hPP.symm ?_
  refine lv_aload_n hx hb dL_areAlike_68 rfl (lv_at hl 1 rfl) ?_
  refine lv_iload_n hx hb dL_areAlike_69 rfl (lv_at hl 2 rfl) ?_
  refine mw_cXn (rest := [.int (mI (pp))]) (A0 := (fun _ => False)) hC (x_X0_placeInYear l hfl D y0 b1 b2 cA cJ v L P d (by omega) hok) (mEx1_0 (by omega)) hES hZS (cwV 1 hts gL_areAlike_X0_placeInYear rfl rfl rfl (by decide +kernel) ⟨Nat.le_of_ble_eq_true rfl, Nat.le_of_ble_eq_true rfl⟩) hK hPy hS rfl rfl hl.1 rfl (Nat.le_of_ble_eq_true rfl) ⟨Nat.le_of_ble_eq_true rfl, Nat.le_of_ble_eq_true rfl⟩ dL_areAlike_70 (fun H locs hS hz hk => ?_)
  have hPx := mw_keepP hPx hk
  have hPy := mw_keepP hPy hk
  have hg := Nat.le_trans hg hz
  refine W.eq (g2 := F0 m 73 ls [.int (mI (d - mBeg v (mYr v d))), .int (mI (pp))]) rfl ?_
  refine mw_topi (y := pp) hPP.symm ?_
  refine mw_icmp_ne (tgt := 80) hx hb (by omega) (by omega) dL_areAlike_73 (by decide) (fun c_73 => False.elim (by omega)) (fun c_73 => ?_)
  refine mw_iconst hx hb dL_areAlike_76 ?_
  refine lv_goto (tgt := 81) hx hb dL_areAlike_77 (by decide) ?_
  refine lv_istore_n (lv' := [(3, .int (mI (1))), (0, .ref h0), (1, .ref y0), (2, .int (mI (d)))]) hx hb dL_areAlike_81 rfl hl (by decide) rfl (fun ls hl => ?_)
  refine lv_iload_n hx hb dL_areAlike_82 rfl (lv_at hl 0 rfl) ?_
  exact mw_gretZ hx hb hr hlocks dL_areAlike_83 (by decide +kernel) rfl (by omega) (va_P.app hPx hPy) hS ⟨Nat.le_of_ble_eq_true rfl, Nat.le_of_ble_eq_true rfl⟩
