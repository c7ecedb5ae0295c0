theorem mK4_0 {ex : Nat} {a b c d : Int} (h : ex = 0) : mK4 ex a b c d = a := by unfold mK4; rw [if_pos h]
theorem mK4_1 {ex : Nat} {a b c d : Int} (h : ex = 1) : mK4 ex a b c d = b := by unfold mK4; rw [if_neg (by omega), if_pos h]
theorem mK4_2 {ex : Nat} {a b c d : Int} (h : ex = 2) : mK4 ex a b c d = c := by unfold mK4; rw [if_neg (by omega), if_neg (by omega), if_pos h]
theorem mK4_3 {ex : Nat} {a b c d : Int} (h : ex = 3) : mK4 ex a b c d = d := by unfold mK4; rw [if_neg (by omega), if_neg (by omega), if_neg (by omega)]
set_option maxHeartbeats 2000000 in
set_option maxRecDepth 100000 in
theorem g_isDaySo (l : Launch) (hfl : l.flags = flags0) (D : va_G) (h0 a1 a2 : Nat) (cA cJ : ClassId) (v : Nat → Int) (L P : Int → Int) (d : Int) (hd : -900000 ≤ d ∧ d ≤ 900000) (hok : mOK v L P) : mG l yL_isDaySo wsL_isDaySo ({ frames := 10, cells := 2, slots := 12, locals := 176 }) [.ref h0, .int (mI (d))] D (mXW h0 a1 a2 cA v L P) (mTy cA cJ) 1 2 (mXW h0 a1 a2 cA v L P) (fun _ => False) 2 12 := by
  refine mw_openG (cc := cL_isDaySo) (maxL := 8) (ret := (some .boolean)) (by decide) rfl (Nat.le_of_ble_eq_true rfl) ?_
  intro p e s m below meth c ls hC hr hlocks hB hE hNS hl
  obtain ⟨hx, hb, hml, hown, hts⟩ := id hC
  obtain ⟨hP, hK⟩ := hB
  obtain ⟨hES, hZ0⟩ := hE
  have hZS : mwZ (fun _ => False) s s.heap := hZ0
  have hS : va_S (fun _ => False) s.heap s.heap [] := va_S.rf
  have hg : s.heap.size + 0 ≤ s.heap.size := Nat.le_refl _
  have hPx := hP.sub (ws' := mXW h0 a1 a2 cA v L P) [0, 1, 2] rfl
  have hl : lv_has ls 8 [(0, .ref h0), (1, .int (mI (d)))] := hl
  have hyr := m_year hok hd
  obtain ⟨y, hY⟩ : ∃ y, y = mYr v d := ⟨_, rfl⟩
  rw [← hY] at hyr
  have l1 := m_len hok y
  have l0 := m_len hok (y - 1)
  have e0 : y - 1 + 1 = y := by omega
  rw [e0] at l0
  have r1 := m_len_r hok y
  have r0 := m_len_r hok (y - 1)
  have r2 := m_len_r hok (y + 1)
  obtain ⟨f, hF⟩ : ∃ f, f = mBeg v y := ⟨_, rfl⟩
  obtain ⟨n, hN⟩ : ∃ n, n = mLen v y := ⟨_, rfl⟩
  obtain ⟨n1, hN1⟩ : ∃ n1, n1 = mLen v (y - 1) := ⟨_, rfl⟩
  rw [← hN] at hyr l1 r1
  rw [← hN1] at l0 r0
  rw [← hF] at hyr l1 l0
  have hv9 := hok.1
  have hvy := hok.2.2.2
  obtain ⟨t, hT⟩ : ∃ t, t = mCnt L P (v 0 - 1) f (f + n - 1) := ⟨_, rfl⟩
  refine lv_aload_n hx hb dL_isDaySo_0 rfl (lv_at hl 0 rfl) ?_
  refine lv_iload_n hx hb dL_isDaySo_1 rfl (lv_at hl 1 rfl) ?_
  refine mw_cXn (rest := []) (A0 := (fun _ => False)) hC (x_X0_year l hfl D h0 a1 a2 cA cJ v L P d (by omega) hok) (mEx1_0 (by omega)) hES hZS (cwV 1 hts gL_isDaySo_X0_year rfl rfl rfl (by decide +kernel) ⟨Nat.le_of_ble_eq_true rfl, Nat.le_of_ble_eq_true rfl⟩) hK hPx hS rfl rfl hl.1 rfl (Nat.le_of_ble_eq_true rfl) ⟨Nat.le_of_ble_eq_true rfl, Nat.le_of_ble_eq_true rfl⟩ dL_isDaySo_2 (fun H locs hS hz hk => ?_)
  have hPx := mw_keepP hPx hk
  have hg := Nat.le_trans hg hz
  refine W.eq (g2 := F0 m 5 ls [.int (mI (mYr v d))]) rfl ?_
  refine mw_topi (y := y) hY.symm ?_
  refine lv_istore_n (lv' := [(2, .int (mI (y))), (0, .ref h0), (1, .int (mI (d)))]) hx hb dL_isDaySo_5 rfl hl (by decide) rfl (fun ls hl => ?_)
  refine lv_aload_n hx hb dL_isDaySo_6 rfl (lv_at hl 1 rfl) ?_
  refine lv_iload_n hx hb dL_isDaySo_7 rfl (lv_at hl 0 rfl) ?_
  refine mw_iconst hx hb dL_isDaySo_8 ?_
  refine mw_cXn (rest := []) (A0 := (fun _ => False)) hC (x_X0_dayOf l hfl D h0 a1 a2 cA cJ v L P y 0 (by omega) (by omega) hok) (mEx1_0 (by omega)) hES hZS (cwV 2 hts gL_isDaySo_X0_dayOf rfl rfl rfl (by decide +kernel) ⟨Nat.le_of_ble_eq_true rfl, Nat.le_of_ble_eq_true rfl⟩) hK hPx hS rfl rfl hl.1 rfl (Nat.le_of_ble_eq_true rfl) ⟨Nat.le_of_ble_eq_true rfl, Nat.le_of_ble_eq_true rfl⟩ dL_isDaySo_9 (fun H locs hS hz hk => ?_)
  have hPx := mw_keepP hPx hk
  have hg := Nat.le_trans hg hz
  refine W.eq (g2 := F0 m 12 ls [.int (mI (mBeg v y + (0 : Int)))]) rfl ?_
  refine mw_topi (y := f) (by omega) ?_
  refine lv_istore_n (lv' := [(3, .int (mI (f))), (2, .int (mI (y))), (0, .ref h0), (1, .int (mI (d)))]) hx hb dL_isDaySo_12 rfl hl (by decide) rfl (fun ls hl => ?_)
  refine lv_aload_n hx hb dL_isDaySo_13 rfl (lv_at hl 2 rfl) ?_
  refine lv_iload_n hx hb dL_isDaySo_14 rfl (lv_at hl 1 rfl) ?_
  refine mw_iconst hx hb dL_isDaySo_15 ?_
  refine mw_iadd hx hb dL_isDaySo_16 ?_
  refine mw_iconst hx hb dL_isDaySo_17 ?_
  refine mw_cXn (rest := []) (A0 := (fun _ => False)) hC (x_X0_dayOf l hfl D h0 a1 a2 cA cJ v L P (y + 1) 0 (by omega) (by omega) hok) (mEx1_0 (by omega)) hES hZS (cwV 2 hts gL_isDaySo_X0_dayOf rfl rfl rfl (by decide +kernel) ⟨Nat.le_of_ble_eq_true rfl, Nat.le_of_ble_eq_true rfl⟩) hK hPx hS rfl rfl hl.1 rfl (Nat.le_of_ble_eq_true rfl) ⟨Nat.le_of_ble_eq_true rfl, Nat.le_of_ble_eq_true rfl⟩ dL_isDaySo_18 (fun H locs hS hz hk => ?_)
  have hPx := mw_keepP hPx hk
  have hg := Nat.le_trans hg hz
  refine W.eq (g2 := F0 m 21 ls [.int (mI (mBeg v (y + 1) + (0 : Int)))]) rfl ?_
  refine mw_topi (y := f + n) (by omega) ?_
  refine lv_iload_n hx hb dL_isDaySo_21 rfl (lv_at hl 0 rfl) ?_
  refine mw_isub hx hb dL_isDaySo_22 ?_
  refine mw_topi (y := n) (by omega) ?_
  refine lv_istore (lv' := [(4, .int (mI (n))), (3, .int (mI (f))), (2, .int (mI (y))), (0, .ref h0), (1, .int (mI (d)))]) hx hb dL_isDaySo_23 hl (by decide) rfl (fun ls hl => ?_)
  refine lv_aload_n hx hb dL_isDaySo_25 rfl (lv_at hl 3 rfl) ?_
  refine lv_iload_n hx hb dL_isDaySo_26 rfl (lv_at hl 4 rfl) ?_
  refine mw_cXn (rest := []) (A0 := (fun _ => False)) hC (x_X0_placeInYear l hfl D h0 a1 a2 cA cJ v L P d (by omega) hok) (mEx1_0 (by omega)) hES hZS (cwV 1 hts gL_isDaySo_X0_placeInYear rfl rfl rfl (by decide +kernel) ⟨Nat.le_of_ble_eq_true rfl, Nat.le_of_ble_eq_true rfl⟩) hK hPx hS rfl rfl hl.1 rfl (Nat.le_of_ble_eq_true rfl) ⟨Nat.le_of_ble_eq_true rfl, Nat.le_of_ble_eq_true rfl⟩ dL_isDaySo_27 (fun H locs hS hz hk => ?_)
  have hPx := mw_keepP hPx hk
  have hg := Nat.le_trans hg hz
  refine W.eq (g2 := F0 m 30 ls [.int (mI (d - mBeg v (mYr v d)))]) rfl ?_
  refine mw_topi (y := d - f) (by rw [← hY, ← hF]) ?_
  refine lv_iload_n hx hb dL_isDaySo_30 rfl (lv_at hl 4 rfl) ?_
  refine lv_iload_n hx hb dL_isDaySo_31 rfl (lv_at hl 1 rfl) ?_
  refine mw_isub hx hb dL_isDaySo_32 ?_
  refine mw_icmp_ne (tgt := 101) hx hb (by omega) (by omega) dL_isDaySo_33 (by decide) (fun c_33 => False.elim (by omega)) (fun c_33 => ?_)
  refine lv_aload_n hx hb dL_isDaySo_36 rfl (lv_at hl 3 rfl) ?_
  refine lv_iload_n hx hb dL_isDaySo_37 rfl (lv_at hl 2 rfl) ?_
  refine lv_iload_n hx hb dL_isDaySo_38 rfl (lv_at hl 4 rfl) ?_
  refine lv_iload_n hx hb dL_isDaySo_39 rfl (lv_at hl 1 rfl) ?_
  refine mw_isub hx hb dL_isDaySo_40 ?_
  refine mw_cXn (rest := []) (A0 := (fun _ => False)) hC (x_X0_dayOf l hfl D h0 a1 a2 cA cJ v L P y (d - f) (by omega) (by omega) hok) (mEx1_0 (by omega)) hES hZS (cwV 2 hts gL_isDaySo_X0_dayOf rfl rfl rfl (by decide +kernel) ⟨Nat.le_of_ble_eq_true rfl, Nat.le_of_ble_eq_true rfl⟩) hK hPx hS rfl rfl hl.1 rfl (Nat.le_of_ble_eq_true rfl) ⟨Nat.le_of_ble_eq_true rfl, Nat.le_of_ble_eq_true rfl⟩ dL_isDaySo_41 (fun H locs hS hz hk => ?_)
  have hPx := mw_keepP hPx hk
  have hg := Nat.le_trans hg hz
  refine W.eq (g2 := F0 m 44 ls [.int (mI (mBeg v y + (d - f)))]) rfl ?_
  refine mw_topi (y := d) (by omega) ?_
  refine lv_iload_n hx hb dL_isDaySo_44 rfl (lv_at hl 4 rfl) ?_
  refine mw_icmp_ne (tgt := 101) hx hb (by omega) (by omega) dL_isDaySo_45 (by decide) (fun c_45 => False.elim (by omega)) (fun c_45 => ?_)
  refine lv_iload_n hx hb dL_isDaySo_48 rfl (lv_at hl 4 rfl) ?_
  refine lv_iload_n hx hb dL_isDaySo_49 rfl (lv_at hl 1 rfl) ?_
  refine mw_isub hx hb dL_isDaySo_50 ?_
  refine lv_iload hx hb dL_isDaySo_51 (lv_at hl 0 rfl) ?_
  refine mw_icmp_ge (tgt := 101) hx hb (by omega) (by omega) dL_isDaySo_53 (by decide) (fun c_53 => False.elim (by omega)) (fun c_53 => ?_)
  refine lv_aload_n hx hb dL_isDaySo_56 rfl (lv_at hl 3 rfl) ?_
  refine lv_iload_n hx hb dL_isDaySo_57 rfl (lv_at hl 2 rfl) ?_
  refine lv_iload hx hb dL_isDaySo_58 (lv_at hl 0 rfl) ?_
  refine mw_cK (rest := []) (A0 := (fun _ => False)) (k9 := 1) (n9 := 6) hC (k_dayOf l hfl D h0 a1 a2 cA cJ v L P y n (by omega) (by omega) hok) (vx_cwSW 3 hts gL_isDaySo_L_dayOf rfl rfl rfl (by decide +kernel) ⟨Nat.le_of_ble_eq_true rfl, Nat.le_of_ble_eq_true rfl⟩) hK hPx hES hZS hNS hS (fun _ h => h.elim) rfl hl.1 rfl (Nat.le_of_ble_eq_true rfl) (by have c9 := mC_1 (ex := mEx1 (mYear y ∧ 0 ≤ n ∧ n < mLen v y)) (by rw [mEx1_1 (by omega)]; decide); omega) (by have c9 := mC_1 (ex := mEx1 (mYear y ∧ 0 ≤ n ∧ n < mLen v y)) (by rw [mEx1_1 (by omega)]; decide); omega) ⟨Nat.le_of_ble_eq_true rfl, Nat.le_of_ble_eq_true rfl⟩ dL_isDaySo_60 (fun H locs hP1 hS hz hk => ?_)
  have hPx := mw_keepP hPx (fun q h => hk q h (fun z => z))
  have hg : s.heap.size + 1 ≤ H.size := by
    rw [if_neg (by rw [mEx1_1 (by omega)]; decide)] at hz
    omega
  refine W.eq (g2 := F0 m 63 ls [.int (mI (mK4 (mEx1 (mYear y ∧ 0 ≤ n ∧ n < mLen v y)) (mBeg v y + n) 2000000000 2000000000 2000000000))]) rfl ?_
  refine mw_topi (y := 2000000000) (mK4_1 (mEx1_1 (by omega))) ?_
  refine mw_ldc hx hb (2000000000) (by decide +kernel) hown (hts (.constant RL 35 (2000000000)) (by decide +kernel)) dL_isDaySo_63 ?_
  refine mw_icmp_ne (tgt := 101) hx hb (by omega) (by omega) dL_isDaySo_65 (by decide) (fun c_65 => False.elim (by omega)) (fun c_65 => ?_)
  refine lv_aload_n hx hb dL_isDaySo_68 rfl (lv_at hl 3 rfl) ?_
  refine lv_iload_n hx hb dL_isDaySo_69 rfl (lv_at hl 2 rfl) ?_
  refine lv_iload hx hb dL_isDaySo_70 (lv_at hl 0 rfl) ?_
  refine mw_iconst hx hb dL_isDaySo_72 ?_
  refine mw_isub hx hb dL_isDaySo_73 ?_
  refine mw_cK (rest := []) (A0 := (fun _ => False)) (k9 := 1) (n9 := 6) hC (k_dayOf l hfl D h0 a1 a2 cA cJ v L P y (n - 1) (by omega) (by omega) hok) (vx_cwSW 3 hts gL_isDaySo_L_dayOf rfl rfl rfl (by decide +kernel) ⟨Nat.le_of_ble_eq_true rfl, Nat.le_of_ble_eq_true rfl⟩) hK hPx hES hZS hNS hS (fun _ h => h.elim) rfl hl.1 rfl (Nat.le_of_ble_eq_true rfl) (by have c9 := mC_0 (ex := mEx1 (mYear y ∧ 0 ≤ (n - 1) ∧ (n - 1) < mLen v y)) (mEx1_0 (by omega)); omega) (by have c9 := mC_0 (ex := mEx1 (mYear y ∧ 0 ≤ (n - 1) ∧ (n - 1) < mLen v y)) (mEx1_0 (by omega)); omega) ⟨Nat.le_of_ble_eq_true rfl, Nat.le_of_ble_eq_true rfl⟩ dL_isDaySo_74 (fun H locs hP1 hS hz hk => ?_)
  have hPx := mw_keepP hPx (fun q h => hk q h (fun z => z))
  have hg := Nat.le_trans hg (Nat.le_trans (Nat.le_add_right _ _) hz)
  refine W.eq (g2 := F0 m 77 ls [.int (mI (mK4 (mEx1 (mYear y ∧ 0 ≤ (n - 1) ∧ (n - 1) < mLen v y)) (mBeg v y + (n - 1)) 2000000000 2000000000 2000000000))]) rfl ?_
  refine mw_topi (y := f + (n - 1)) ((mK4_0 (mEx1_0 (by omega))).trans (by omega)) ?_
  refine lv_iload_n hx hb dL_isDaySo_77 rfl (lv_at hl 1 rfl) ?_
  refine lv_iload hx hb dL_isDaySo_78 (lv_at hl 0 rfl) ?_
  refine mw_iadd hx hb dL_isDaySo_80 ?_
  refine mw_iconst hx hb dL_isDaySo_81 ?_
  refine mw_isub hx hb dL_isDaySo_82 ?_
  refine mw_icmp_ne (tgt := 101) hx hb (by omega) (by omega) dL_isDaySo_83 (by decide) (fun c_83 => False.elim (by omega)) (fun c_83 => ?_)
  refine lv_aload_n hx hb dL_isDaySo_86 rfl (lv_at hl 3 rfl) ?_
  refine lv_iload_n hx hb dL_isDaySo_87 rfl (lv_at hl 2 rfl) ?_
  refine mw_iconst hx hb dL_isDaySo_88 ?_
  refine mw_cK (rest := []) (A0 := (fun _ => False)) (k9 := 2) (n9 := 12) hC (k_dayOf l hfl D h0 a1 a2 cA cJ v L P y (-1) (by omega) (by omega) hok) (vx_cwSW 3 hts gL_isDaySo_L_dayOf rfl rfl rfl (by decide +kernel) ⟨Nat.le_of_ble_eq_true rfl, Nat.le_of_ble_eq_true rfl⟩) hK hPx hES hZS hNS hS (fun _ h => h.elim) rfl hl.1 rfl (Nat.le_of_ble_eq_true rfl) (by have c9 := mC_1 (ex := mEx1 (mYear y ∧ 0 ≤ (-1) ∧ (-1) < mLen v y)) (by rw [mEx1_1 (by omega)]; decide); omega) (by have c9 := mC_1 (ex := mEx1 (mYear y ∧ 0 ≤ (-1) ∧ (-1) < mLen v y)) (by rw [mEx1_1 (by omega)]; decide); omega) ⟨Nat.le_of_ble_eq_true rfl, Nat.le_of_ble_eq_true rfl⟩ dL_isDaySo_89 (fun H locs hP1 hS hz hk => ?_)
  have hPx := mw_keepP hPx (fun q h => hk q h (fun z => z))
  have hg : s.heap.size + 2 ≤ H.size := by
    rw [if_neg (by rw [mEx1_1 (by omega)]; decide)] at hz
    omega
  refine W.eq (g2 := F0 m 92 ls [.int (mI (mK4 (mEx1 (mYear y ∧ 0 ≤ (-1) ∧ (-1) < mLen v y)) (mBeg v y + (-1)) 2000000000 2000000000 2000000000))]) rfl ?_
  refine mw_topi (y := 2000000000) (mK4_1 (mEx1_1 (by omega))) ?_
  refine mw_ldc hx hb (2000000000) (by decide +kernel) hown (hts (.constant RL 35 (2000000000)) (by decide +kernel)) dL_isDaySo_92 ?_
  refine mw_icmp_ne (tgt := 101) hx hb (by omega) (by omega) dL_isDaySo_94 (by decide) (fun c_94 => False.elim (by omega)) (fun c_94 => ?_)
  refine mw_iconst hx hb dL_isDaySo_97 ?_
  refine lv_goto (tgt := 102) hx hb dL_isDaySo_98 (by decide) ?_
  refine lv_istore (lv' := [(5, .int (mI (1))), (4, .int (mI (n))), (3, .int (mI (f))), (2, .int (mI (y))), (0, .ref h0), (1, .int (mI (d)))]) hx hb dL_isDaySo_102 hl (by decide) rfl (fun ls hl => ?_)
  refine lv_iload_n hx hb dL_isDaySo_104 rfl (lv_at hl 2 rfl) ?_
  refine lv_aload_n hx hb dL_isDaySo_105 rfl (lv_at hl 4 rfl) ?_
  refine lv_iload_n hx hb dL_isDaySo_106 rfl (lv_at hl 3 rfl) ?_
  refine mw_iconst hx hb dL_isDaySo_107 ?_
  refine mw_isub hx hb dL_isDaySo_108 ?_
  refine mw_iconst hx hb dL_isDaySo_109 ?_
  refine mw_cXn (rest := [.int (mI (f))]) (A0 := (fun _ => False)) hC (x_X0_dayOf l hfl D h0 a1 a2 cA cJ v L P (y - 1) 0 (by omega) (by omega) hok) (mEx1_0 (by omega)) hES hZS (cwV 2 hts gL_isDaySo_X0_dayOf rfl rfl rfl (by decide +kernel) ⟨Nat.le_of_ble_eq_true rfl, Nat.le_of_ble_eq_true rfl⟩) hK hPx hS rfl rfl hl.1 rfl (Nat.le_of_ble_eq_true rfl) ⟨Nat.le_of_ble_eq_true rfl, Nat.le_of_ble_eq_true rfl⟩ dL_isDaySo_110 (fun H locs hS hz hk => ?_)
  have hPx := mw_keepP hPx hk
  have hg := Nat.le_trans hg hz
  refine W.eq (g2 := F0 m 113 ls [.int (mI (mBeg v (y - 1) + (0 : Int))), .int (mI (f))]) rfl ?_
  refine mw_topi (y := f - n1) (by omega) ?_
  refine mw_isub hx hb dL_isDaySo_113 ?_
  refine mw_topi (y := n1) (by omega) ?_
  refine lv_istore (lv' := [(6, .int (mI (n1))), (5, .int (mI (1))), (4, .int (mI (n))), (3, .int (mI (f))), (2, .int (mI (y))), (0, .ref h0), (1, .int (mI (d)))]) hx hb dL_isDaySo_114 hl (by decide) rfl (fun ls hl => ?_)
  refine lv_iload hx hb dL_isDaySo_116 (lv_at hl 1 rfl) ?_
  refine mw_if_eq (tgt := 162) hx hb (by omega) dL_isDaySo_118 (by decide) (fun c => absurd c (by decide)) (fun _ => ?_)
  refine lv_iload hx hb dL_isDaySo_121 (lv_at hl 2 rfl) ?_
  refine lv_iload hx hb dL_isDaySo_123 (lv_at hl 0 rfl) ?_
  refine mw_isub hx hb dL_isDaySo_125 ?_
  refine lv_aload_n hx hb dL_isDaySo_126 rfl (lv_at hl 5 rfl) ?_
  refine lv_iload_n hx hb dL_isDaySo_127 rfl (lv_at hl 4 rfl) ?_
  refine mw_cXn (rest := [.int (mI (n - n1))]) (A0 := (fun _ => False)) hC (x_X0_isLeap l hfl D h0 a1 a2 cA cJ v L P y (by omega) hok) (mEx1_0 (by omega)) hES hZS (cwV 1 hts gL_isDaySo_X0_isLeap rfl rfl rfl (by decide +kernel) ⟨Nat.le_of_ble_eq_true rfl, Nat.le_of_ble_eq_true rfl⟩) hK hPx hS rfl rfl hl.1 rfl (Nat.le_of_ble_eq_true rfl) ⟨Nat.le_of_ble_eq_true rfl, Nat.le_of_ble_eq_true rfl⟩ dL_isDaySo_128 (fun H locs hS hz hk => ?_)
  have hPx := mw_keepP hPx hk
  have hg := Nat.le_trans hg hz
  refine W.eq (g2 := F0 m 131 ls [.int (mI (mB (mLeap v y))), .int (mI (n - n1))]) rfl ?_
  refine mw_zeq (tgt := 138) hx hb dL_isDaySo_131 (by decide) (fun c_131 => ?_) (fun c_131 => ?_)
  · have q1 := r1.2.1 c_131
    refine mw_iconst hx hb dL_isDaySo_138 ?_
    refine lv_aload_n hx hb dL_isDaySo_139 rfl (lv_at hl 5 rfl) ?_
    refine lv_iload_n hx hb dL_isDaySo_140 rfl (lv_at hl 4 rfl) ?_
    refine mw_iconst hx hb dL_isDaySo_141 ?_
    refine mw_isub hx hb dL_isDaySo_142 ?_
    refine mw_cXn (rest := [.int (mI (0)), .int (mI (n - n1))]) (A0 := (fun _ => False)) hC (x_X0_isLeap l hfl D h0 a1 a2 cA cJ v L P (y - 1) (by omega) hok) (mEx1_0 (by omega)) hES hZS (cwV 1 hts gL_isDaySo_X0_isLeap rfl rfl rfl (by decide +kernel) ⟨Nat.le_of_ble_eq_true rfl, Nat.le_of_ble_eq_true rfl⟩) hK hPx hS rfl rfl hl.1 rfl (Nat.le_of_ble_eq_true rfl) ⟨Nat.le_of_ble_eq_true rfl, Nat.le_of_ble_eq_true rfl⟩ dL_isDaySo_143 (fun H locs hS hz hk => ?_)
    have hPx := mw_keepP hPx hk
    have hg := Nat.le_trans hg hz
    refine W.eq (g2 := F0 m 146 ls [.int (mI (mB (mLeap v (y - 1)))), .int (mI (0)), .int (mI (n - n1))]) rfl ?_
    refine mw_zeq (tgt := 153) hx hb dL_isDaySo_146 (by decide) (fun c_146 => ?_) (fun c_146 => ?_)
    · have q0 := r0.2.1 c_146
      refine mw_iconst hx hb dL_isDaySo_153 ?_
      refine mw_isub hx hb dL_isDaySo_154 ?_
      refine mw_icmp_ne (tgt := 162) hx hb (by omega) (by omega) dL_isDaySo_155 (by decide) (fun c_155 => False.elim (by omega)) (fun c_155 => ?_)
      refine mw_iconst hx hb dL_isDaySo_158 ?_
      refine lv_goto (tgt := 163) hx hb dL_isDaySo_159 (by decide) ?_
      refine lv_istore (lv' := [(5, .int (mI (1))), (6, .int (mI (n1))), (4, .int (mI (n))), (3, .int (mI (f))), (2, .int (mI (y))), (0, .ref h0), (1, .int (mI (d)))]) hx hb dL_isDaySo_163 hl (by decide) rfl (fun ls hl => ?_)
      refine lv_aload_n hx hb dL_isDaySo_165 rfl (lv_at hl 5 rfl) ?_
      refine mw_cVi (rest := []) (q := (RX0, TX0, 10)) hC (c_X0_markets l D h0 a1 a2 cA cJ v L P) (cwV 0 hts gL_isDaySo_X0_markets rfl rfl rfl (by decide +kernel) ⟨Nat.le_of_ble_eq_true rfl, Nat.le_of_ble_eq_true rfl⟩) hK hPx rfl rfl rfl hl.1 rfl (Nat.le_of_ble_eq_true rfl) ⟨Nat.le_of_ble_eq_true rfl, Nat.le_of_ble_eq_true rfl⟩ dL_isDaySo_166 ?_
      refine lv_istore (lv' := [(7, .int (mI (v 0))), (5, .int (mI (1))), (6, .int (mI (n1))), (4, .int (mI (n))), (3, .int (mI (f))), (2, .int (mI (y))), (0, .ref h0), (1, .int (mI (d)))]) hx hb dL_isDaySo_169 hl (by decide) rfl (fun ls hl => ?_)
      refine lv_iload hx hb dL_isDaySo_171 (lv_at hl 1 rfl) ?_
      refine mw_if_eq (tgt := 212) hx hb (by omega) dL_isDaySo_173 (by decide) (fun c => absurd c (by decide)) (fun _ => ?_)
      refine lv_iload hx hb dL_isDaySo_176 (lv_at hl 0 rfl) ?_
      refine mw_if_eq (tgt := 208) hx hb (by omega) dL_isDaySo_178 (by decide) (fun c_178 => ?_) (fun c_178 => ?_)
      · refine mw_iconst hx hb dL_isDaySo_208 ?_
        refine lv_goto (tgt := 213) hx hb dL_isDaySo_209 (by decide) ?_
        exact mw_gretZ hx hb hr hlocks dL_isDaySo_213 (by decide +kernel) rfl (by omega) hPx hS ⟨Nat.le_of_ble_eq_true rfl, Nat.le_of_ble_eq_true rfl⟩
      · have hLP := hok.2.1 (v 0 - 1) (by omega) (by omega)
        have hrt : mRI t := by rw [hT]; exact m_cnt_r (by omega) (by omega) (by omega) (by omega)
        refine lv_aload_n hx hb dL_isDaySo_181 rfl (lv_at hl 6 rfl) ?_
        refine lv_iload hx hb dL_isDaySo_182 (lv_at hl 0 rfl) ?_
        refine mw_iconst hx hb dL_isDaySo_184 ?_
        refine mw_isub hx hb dL_isDaySo_185 ?_
        refine lv_iload_n hx hb dL_isDaySo_186 rfl (lv_at hl 5 rfl) ?_
        refine mw_cXn (rest := []) (A0 := (fun _ => False)) hC (x_X0_timesInYear l hfl D h0 a1 a2 cA cJ v L P ((v 0) - 1) y (by omega) (by omega) hok) (mEx2_0 (by omega) (by omega)) hES hZS (cwV 2 hts gL_isDaySo_X0_timesInYear rfl rfl rfl (by decide +kernel) ⟨Nat.le_of_ble_eq_true rfl, Nat.le_of_ble_eq_true rfl⟩) hK hPx hS rfl rfl hl.1 rfl (Nat.le_of_ble_eq_true rfl) ⟨Nat.le_of_ble_eq_true rfl, Nat.le_of_ble_eq_true rfl⟩ dL_isDaySo_187 (fun H locs hS hz hk => ?_)
        have hPx := mw_keepP hPx hk
        have hg := Nat.le_trans hg hz
        refine W.eq (g2 := F0 m 190 ls [.int (mI (mCnt L P ((v 0) - 1) (mBeg v y) (mBeg v (y + 1) - 1)))]) rfl ?_
        refine mw_topi (y := t) (by rw [← hF, l1]; exact hT.symm) ?_
        refine lv_aload_n hx hb dL_isDaySo_190 rfl (lv_at hl 6 rfl) ?_
        refine lv_iload hx hb dL_isDaySo_191 (lv_at hl 0 rfl) ?_
        refine mw_iconst hx hb dL_isDaySo_193 ?_
        refine mw_isub hx hb dL_isDaySo_194 ?_
        refine lv_iload_n hx hb dL_isDaySo_195 rfl (lv_at hl 4 rfl) ?_
        refine lv_iload_n hx hb dL_isDaySo_196 rfl (lv_at hl 4 rfl) ?_
        refine lv_iload hx hb dL_isDaySo_197 (lv_at hl 3 rfl) ?_
        refine mw_iadd hx hb dL_isDaySo_199 ?_
        refine mw_iconst hx hb dL_isDaySo_200 ?_
        refine mw_isub hx hb dL_isDaySo_201 ?_
        refine mw_cXn (rest := [.int (mI (t))]) (A0 := (fun _ => False)) hC (x_X0_times l hfl D h0 a1 a2 cA cJ v L P ((v 0) - 1) f ((f + n) - 1) (by omega) (by omega) (by omega) hok) (mEx2_0 (by omega) (by omega)) hES hZS (cwV 3 hts gL_isDaySo_X0_times rfl rfl rfl (by decide +kernel) ⟨Nat.le_of_ble_eq_true rfl, Nat.le_of_ble_eq_true rfl⟩) hK hPx hS rfl rfl hl.1 rfl (Nat.le_of_ble_eq_true rfl) ⟨Nat.le_of_ble_eq_true rfl, Nat.le_of_ble_eq_true rfl⟩ dL_isDaySo_202 (fun H locs hS hz hk => ?_)
        have hPx := mw_keepP hPx hk
        have hg := Nat.le_trans hg hz
        refine W.eq (g2 := F0 m 205 ls [.int (mI (mCnt L P ((v 0) - 1) f ((f + n) - 1))), .int (mI (t))]) rfl ?_
        refine mw_topi (y := t) hT.symm ?_
        refine mw_icmp_ne (tgt := 212) hx hb (by omega) (by omega) dL_isDaySo_205 (by decide) (fun c_205 => False.elim (by omega)) (fun c_205 => ?_)
        refine mw_iconst hx hb dL_isDaySo_208 ?_
        refine lv_goto (tgt := 213) hx hb dL_isDaySo_209 (by decide) ?_
        exact mw_gretZ hx hb hr hlocks dL_isDaySo_213 (by decide +kernel) rfl (by omega) hPx hS ⟨Nat.le_of_ble_eq_true rfl, Nat.le_of_ble_eq_true rfl⟩
    · have q0 := r0.1 c_146
      refine mw_iconst hx hb dL_isDaySo_149 ?_
      refine lv_goto (tgt := 154) hx hb dL_isDaySo_150 (by decide) ?_
      refine mw_isub hx hb dL_isDaySo_154 ?_
      refine mw_icmp_ne (tgt := 162) hx hb (by omega) (by omega) dL_isDaySo_155 (by decide) (fun c_155 => False.elim (by omega)) (fun c_155 => ?_)
      refine mw_iconst hx hb dL_isDaySo_158 ?_
      refine lv_goto (tgt := 163) hx hb dL_isDaySo_159 (by decide) ?_
      refine lv_istore (lv' := [(5, .int (mI (1))), (6, .int (mI (n1))), (4, .int (mI (n))), (3, .int (mI (f))), (2, .int (mI (y))), (0, .ref h0), (1, .int (mI (d)))]) hx hb dL_isDaySo_163 hl (by decide) rfl (fun ls hl => ?_)
      refine lv_aload_n hx hb dL_isDaySo_165 rfl (lv_at hl 5 rfl) ?_
      refine mw_cVi (rest := []) (q := (RX0, TX0, 10)) hC (c_X0_markets l D h0 a1 a2 cA cJ v L P) (cwV 0 hts gL_isDaySo_X0_markets rfl rfl rfl (by decide +kernel) ⟨Nat.le_of_ble_eq_true rfl, Nat.le_of_ble_eq_true rfl⟩) hK hPx rfl rfl rfl hl.1 rfl (Nat.le_of_ble_eq_true rfl) ⟨Nat.le_of_ble_eq_true rfl, Nat.le_of_ble_eq_true rfl⟩ dL_isDaySo_166 ?_
      refine lv_istore (lv' := [(7, .int (mI (v 0))), (5, .int (mI (1))), (6, .int (mI (n1))), (4, .int (mI (n))), (3, .int (mI (f))), (2, .int (mI (y))), (0, .ref h0), (1, .int (mI (d)))]) hx hb dL_isDaySo_169 hl (by decide) rfl (fun ls hl => ?_)
      refine lv_iload hx hb dL_isDaySo_171 (lv_at hl 1 rfl) ?_
      refine mw_if_eq (tgt := 212) hx hb (by omega) dL_isDaySo_173 (by decide) (fun c => absurd c (by decide)) (fun _ => ?_)
      refine lv_iload hx hb dL_isDaySo_176 (lv_at hl 0 rfl) ?_
      refine mw_if_eq (tgt := 208) hx hb (by omega) dL_isDaySo_178 (by decide) (fun c_178 => ?_) (fun c_178 => ?_)
      · refine mw_iconst hx hb dL_isDaySo_208 ?_
        refine lv_goto (tgt := 213) hx hb dL_isDaySo_209 (by decide) ?_
        exact mw_gretZ hx hb hr hlocks dL_isDaySo_213 (by decide +kernel) rfl (by omega) hPx hS ⟨Nat.le_of_ble_eq_true rfl, Nat.le_of_ble_eq_true rfl⟩
      · have hLP := hok.2.1 (v 0 - 1) (by omega) (by omega)
        have hrt : mRI t := by rw [hT]; exact m_cnt_r (by omega) (by omega) (by omega) (by omega)
        refine lv_aload_n hx hb dL_isDaySo_181 rfl (lv_at hl 6 rfl) ?_
        refine lv_iload hx hb dL_isDaySo_182 (lv_at hl 0 rfl) ?_
        refine mw_iconst hx hb dL_isDaySo_184 ?_
        refine mw_isub hx hb dL_isDaySo_185 ?_
        refine lv_iload_n hx hb dL_isDaySo_186 rfl (lv_at hl 5 rfl) ?_
        refine mw_cXn (rest := []) (A0 := (fun _ => False)) hC (x_X0_timesInYear l hfl D h0 a1 a2 cA cJ v L P ((v 0) - 1) y (by omega) (by omega) hok) (mEx2_0 (by omega) (by omega)) hES hZS (cwV 2 hts gL_isDaySo_X0_timesInYear rfl rfl rfl (by decide +kernel) ⟨Nat.le_of_ble_eq_true rfl, Nat.le_of_ble_eq_true rfl⟩) hK hPx hS rfl rfl hl.1 rfl (Nat.le_of_ble_eq_true rfl) ⟨Nat.le_of_ble_eq_true rfl, Nat.le_of_ble_eq_true rfl⟩ dL_isDaySo_187 (fun H locs hS hz hk => ?_)
        have hPx := mw_keepP hPx hk
        have hg := Nat.le_trans hg hz
        refine W.eq (g2 := F0 m 190 ls [.int (mI (mCnt L P ((v 0) - 1) (mBeg v y) (mBeg v (y + 1) - 1)))]) rfl ?_
        refine mw_topi (y := t) (by rw [← hF, l1]; exact hT.symm) ?_
        refine lv_aload_n hx hb dL_isDaySo_190 rfl (lv_at hl 6 rfl) ?_
        refine lv_iload hx hb dL_isDaySo_191 (lv_at hl 0 rfl) ?_
        refine mw_iconst hx hb dL_isDaySo_193 ?_
        refine mw_isub hx hb dL_isDaySo_194 ?_
        refine lv_iload_n hx hb dL_isDaySo_195 rfl (lv_at hl 4 rfl) ?_
        refine lv_iload_n hx hb dL_isDaySo_196 rfl (lv_at hl 4 rfl) ?_
        refine lv_iload hx hb dL_isDaySo_197 (lv_at hl 3 rfl) ?_
        refine mw_iadd hx hb dL_isDaySo_199 ?_
        refine mw_iconst hx hb dL_isDaySo_200 ?_
        refine mw_isub hx hb dL_isDaySo_201 ?_
        refine mw_cXn (rest := [.int (mI (t))]) (A0 := (fun _ => False)) hC (x_X0_times l hfl D h0 a1 a2 cA cJ v L P ((v 0) - 1) f ((f + n) - 1) (by omega) (by omega) (by omega) hok) (mEx2_0 (by omega) (by omega)) hES hZS (cwV 3 hts gL_isDaySo_X0_times rfl rfl rfl (by decide +kernel) ⟨Nat.le_of_ble_eq_true rfl, Nat.le_of_ble_eq_true rfl⟩) hK hPx hS rfl rfl hl.1 rfl (Nat.le_of_ble_eq_true rfl) ⟨Nat.le_of_ble_eq_true rfl, Nat.le_of_ble_eq_true rfl⟩ dL_isDaySo_202 (fun H locs hS hz hk => ?_)
        have hPx := mw_keepP hPx hk
        have hg := Nat.le_trans hg hz
        refine W.eq (g2 := F0 m 205 ls [.int (mI (mCnt L P ((v 0) - 1) f ((f + n) - 1))), .int (mI (t))]) rfl ?_
        refine mw_topi (y := t) hT.symm ?_
        refine mw_icmp_ne (tgt := 212) hx hb (by omega) (by omega) dL_isDaySo_205 (by decide) (fun c_205 => False.elim (by omega)) (fun c_205 => ?_)
        refine mw_iconst hx hb dL_isDaySo_208 ?_
        refine lv_goto (tgt := 213) hx hb dL_isDaySo_209 (by decide) ?_
        exact mw_gretZ hx hb hr hlocks dL_isDaySo_213 (by decide +kernel) rfl (by omega) hPx hS ⟨Nat.le_of_ble_eq_true rfl, Nat.le_of_ble_eq_true rfl⟩
  · have q1 := r1.1 c_131
    refine mw_iconst hx hb dL_isDaySo_134 ?_
    refine lv_goto (tgt := 139) hx hb dL_isDaySo_135 (by decide) ?_
    refine lv_aload_n hx hb dL_isDaySo_139 rfl (lv_at hl 5 rfl) ?_
    refine lv_iload_n hx hb dL_isDaySo_140 rfl (lv_at hl 4 rfl) ?_
    refine mw_iconst hx hb dL_isDaySo_141 ?_
    refine mw_isub hx hb dL_isDaySo_142 ?_
    refine mw_cXn (rest := [.int (mI (1)), .int (mI (n - n1))]) (A0 := (fun _ => False)) hC (x_X0_isLeap l hfl D h0 a1 a2 cA cJ v L P (y - 1) (by omega) hok) (mEx1_0 (by omega)) hES hZS (cwV 1 hts gL_isDaySo_X0_isLeap rfl rfl rfl (by decide +kernel) ⟨Nat.le_of_ble_eq_true rfl, Nat.le_of_ble_eq_true rfl⟩) hK hPx hS rfl rfl hl.1 rfl (Nat.le_of_ble_eq_true rfl) ⟨Nat.le_of_ble_eq_true rfl, Nat.le_of_ble_eq_true rfl⟩ dL_isDaySo_143 (fun H locs hS hz hk => ?_)
    have hPx := mw_keepP hPx hk
    have hg := Nat.le_trans hg hz
    refine W.eq (g2 := F0 m 146 ls [.int (mI (mB (mLeap v (y - 1)))), .int (mI (1)), .int (mI (n - n1))]) rfl ?_
    refine mw_zeq (tgt := 153) hx hb dL_isDaySo_146 (by decide) (fun c_146 => ?_) (fun c_146 => ?_)
    · have q0 := r0.2.1 c_146
      refine mw_iconst hx hb dL_isDaySo_153 ?_
      refine mw_isub hx hb dL_isDaySo_154 ?_
      refine mw_icmp_ne (tgt := 162) hx hb (by omega) (by omega) dL_isDaySo_155 (by decide) (fun c_155 => False.elim (by omega)) (fun c_155 => ?_)
      refine mw_iconst hx hb dL_isDaySo_158 ?_
      refine lv_goto (tgt := 163) hx hb dL_isDaySo_159 (by decide) ?_
      refine lv_istore (lv' := [(5, .int (mI (1))), (6, .int (mI (n1))), (4, .int (mI (n))), (3, .int (mI (f))), (2, .int (mI (y))), (0, .ref h0), (1, .int (mI (d)))]) hx hb dL_isDaySo_163 hl (by decide) rfl (fun ls hl => ?_)
      refine lv_aload_n hx hb dL_isDaySo_165 rfl (lv_at hl 5 rfl) ?_
      refine mw_cVi (rest := []) (q := (RX0, TX0, 10)) hC (c_X0_markets l D h0 a1 a2 cA cJ v L P) (cwV 0 hts gL_isDaySo_X0_markets rfl rfl rfl (by decide +kernel) ⟨Nat.le_of_ble_eq_true rfl, Nat.le_of_ble_eq_true rfl⟩) hK hPx rfl rfl rfl hl.1 rfl (Nat.le_of_ble_eq_true rfl) ⟨Nat.le_of_ble_eq_true rfl, Nat.le_of_ble_eq_true rfl⟩ dL_isDaySo_166 ?_
      refine lv_istore (lv' := [(7, .int (mI (v 0))), (5, .int (mI (1))), (6, .int (mI (n1))), (4, .int (mI (n))), (3, .int (mI (f))), (2, .int (mI (y))), (0, .ref h0), (1, .int (mI (d)))]) hx hb dL_isDaySo_169 hl (by decide) rfl (fun ls hl => ?_)
      refine lv_iload hx hb dL_isDaySo_171 (lv_at hl 1 rfl) ?_
      refine mw_if_eq (tgt := 212) hx hb (by omega) dL_isDaySo_173 (by decide) (fun c => absurd c (by decide)) (fun _ => ?_)
      refine lv_iload hx hb dL_isDaySo_176 (lv_at hl 0 rfl) ?_
      refine mw_if_eq (tgt := 208) hx hb (by omega) dL_isDaySo_178 (by decide) (fun c_178 => ?_) (fun c_178 => ?_)
      · refine mw_iconst hx hb dL_isDaySo_208 ?_
        refine lv_goto (tgt := 213) hx hb dL_isDaySo_209 (by decide) ?_
        exact mw_gretZ hx hb hr hlocks dL_isDaySo_213 (by decide +kernel) rfl (by omega) hPx hS ⟨Nat.le_of_ble_eq_true rfl, Nat.le_of_ble_eq_true rfl⟩
      · have hLP := hok.2.1 (v 0 - 1) (by omega) (by omega)
        have hrt : mRI t := by rw [hT]; exact m_cnt_r (by omega) (by omega) (by omega) (by omega)
        refine lv_aload_n hx hb dL_isDaySo_181 rfl (lv_at hl 6 rfl) ?_
        refine lv_iload hx hb dL_isDaySo_182 (lv_at hl 0 rfl) ?_
        refine mw_iconst hx hb dL_isDaySo_184 ?_
        refine mw_isub hx hb dL_isDaySo_185 ?_
        refine lv_iload_n hx hb dL_isDaySo_186 rfl (lv_at hl 5 rfl) ?_
        refine mw_cXn (rest := []) (A0 := (fun _ => False)) hC (x_X0_timesInYear l hfl D h0 a1 a2 cA cJ v L P ((v 0) - 1) y (by omega) (by omega) hok) (mEx2_0 (by omega) (by omega)) hES hZS (cwV 2 hts gL_isDaySo_X0_timesInYear rfl rfl rfl (by decide +kernel) ⟨Nat.le_of_ble_eq_true rfl, Nat.le_of_ble_eq_true rfl⟩) hK hPx hS rfl rfl hl.1 rfl (Nat.le_of_ble_eq_true rfl) ⟨Nat.le_of_ble_eq_true rfl, Nat.le_of_ble_eq_true rfl⟩ dL_isDaySo_187 (fun H locs hS hz hk => ?_)
        have hPx := mw_keepP hPx hk
        have hg := Nat.le_trans hg hz
        refine W.eq (g2 := F0 m 190 ls [.int (mI (mCnt L P ((v 0) - 1) (mBeg v y) (mBeg v (y + 1) - 1)))]) rfl ?_
        refine mw_topi (y := t) (by rw [← hF, l1]; exact hT.symm) ?_
        refine lv_aload_n hx hb dL_isDaySo_190 rfl (lv_at hl 6 rfl) ?_
        refine lv_iload hx hb dL_isDaySo_191 (lv_at hl 0 rfl) ?_
        refine mw_iconst hx hb dL_isDaySo_193 ?_
        refine mw_isub hx hb dL_isDaySo_194 ?_
        refine lv_iload_n hx hb dL_isDaySo_195 rfl (lv_at hl 4 rfl) ?_
        refine lv_iload_n hx hb dL_isDaySo_196 rfl (lv_at hl 4 rfl) ?_
        refine lv_iload hx hb dL_isDaySo_197 (lv_at hl 3 rfl) ?_
        refine mw_iadd hx hb dL_isDaySo_199 ?_
        refine mw_iconst hx hb dL_isDaySo_200 ?_
        refine mw_isub hx hb dL_isDaySo_201 ?_
        refine mw_cXn (rest := [.int (mI (t))]) (A0 := (fun _ => False)) hC (x_X0_times l hfl D h0 a1 a2 cA cJ v L P ((v 0) - 1) f ((f + n) - 1) (by omega) (by omega) (by omega) hok) (mEx2_0 (by omega) (by omega)) hES hZS (cwV 3 hts gL_isDaySo_X0_times rfl rfl rfl (by decide +kernel) ⟨Nat.le_of_ble_eq_true rfl, Nat.le_of_ble_eq_true rfl⟩) hK hPx hS rfl rfl hl.1 rfl (Nat.le_of_ble_eq_true rfl) ⟨Nat.le_of_ble_eq_true rfl, Nat.le_of_ble_eq_true rfl⟩ dL_isDaySo_202 (fun H locs hS hz hk => ?_)
        have hPx := mw_keepP hPx hk
        have hg := Nat.le_trans hg hz
        refine W.eq (g2 := F0 m 205 ls [.int (mI (mCnt L P ((v 0) - 1) f ((f + n) - 1))), .int (mI (t))]) rfl ?_
        refine mw_topi (y := t) hT.symm ?_
        refine mw_icmp_ne (tgt := 212) hx hb (by omega) (by omega) dL_isDaySo_205 (by decide) (fun c_205 => False.elim (by omega)) (fun c_205 => ?_)
        refine mw_iconst hx hb dL_isDaySo_208 ?_
        refine lv_goto (tgt := 213) hx hb dL_isDaySo_209 (by decide) ?_
        exact mw_gretZ hx hb hr hlocks dL_isDaySo_213 (by decide +kernel) rfl (by omega) hPx hS ⟨Nat.le_of_ble_eq_true rfl, Nat.le_of_ble_eq_true rfl⟩
    · have q0 := r0.1 c_146
      refine mw_iconst hx hb dL_isDaySo_149 ?_
      refine lv_goto (tgt := 154) hx hb dL_isDaySo_150 (by decide) ?_
      refine mw_isub hx hb dL_isDaySo_154 ?_
      refine mw_icmp_ne (tgt := 162) hx hb (by omega) (by omega) dL_isDaySo_155 (by decide) (fun c_155 => False.elim (by omega)) (fun c_155 => ?_)
      refine mw_iconst hx hb dL_isDaySo_158 ?_
      refine lv_goto (tgt := 163) hx hb dL_isDaySo_159 (by decide) ?_
      refine lv_istore (lv' := [(5, .int (mI (1))), (6, .int (mI (n1))), (4, .int (mI (n))), (3, .int (mI (f))), (2, .int (mI (y))), (0, .ref h0), (1, .int (mI (d)))]) hx hb dL_isDaySo_163 hl (by decide) rfl (fun ls hl => ?_)
      refine lv_aload_n hx hb dL_isDaySo_165 rfl (lv_at hl 5 rfl) ?_
      refine mw_cVi (rest := []) (q := (RX0, TX0, 10)) hC (c_X0_markets l D h0 a1 a2 cA cJ v L P) (cwV 0 hts gL_isDaySo_X0_markets rfl rfl rfl (by decide +kernel) ⟨Nat.le_of_ble_eq_true rfl, Nat.le_of_ble_eq_true rfl⟩) hK hPx rfl rfl rfl hl.1 rfl (Nat.le_of_ble_eq_true rfl) ⟨Nat.le_of_ble_eq_true rfl, Nat.le_of_ble_eq_true rfl⟩ dL_isDaySo_166 ?_
      refine lv_istore (lv' := [(7, .int (mI (v 0))), (5, .int (mI (1))), (6, .int (mI (n1))), (4, .int (mI (n))), (3, .int (mI (f))), (2, .int (mI (y))), (0, .ref h0), (1, .int (mI (d)))]) hx hb dL_isDaySo_169 hl (by decide) rfl (fun ls hl => ?_)
      refine lv_iload hx hb dL_isDaySo_171 (lv_at hl 1 rfl) ?_
      refine mw_if_eq (tgt := 212) hx hb (by omega) dL_isDaySo_173 (by decide) (fun c => absurd c (by decide)) (fun _ => ?_)
      refine lv_iload hx hb dL_isDaySo_176 (lv_at hl 0 rfl) ?_
      refine mw_if_eq (tgt := 208) hx hb (by omega) dL_isDaySo_178 (by decide) (fun c_178 => ?_) (fun c_178 => ?_)
      · refine mw_iconst hx hb dL_isDaySo_208 ?_
        refine lv_goto (tgt := 213) hx hb dL_isDaySo_209 (by decide) ?_
        exact mw_gretZ hx hb hr hlocks dL_isDaySo_213 (by decide +kernel) rfl (by omega) hPx hS ⟨Nat.le_of_ble_eq_true rfl, Nat.le_of_ble_eq_true rfl⟩
      · have hLP := hok.2.1 (v 0 - 1) (by omega) (by omega)
        have hrt : mRI t := by rw [hT]; exact m_cnt_r (by omega) (by omega) (by omega) (by omega)
        refine lv_aload_n hx hb dL_isDaySo_181 rfl (lv_at hl 6 rfl) ?_
        refine lv_iload hx hb dL_isDaySo_182 (lv_at hl 0 rfl) ?_
        refine mw_iconst hx hb dL_isDaySo_184 ?_
        refine mw_isub hx hb dL_isDaySo_185 ?_
        refine lv_iload_n hx hb dL_isDaySo_186 rfl (lv_at hl 5 rfl) ?_
        refine mw_cXn (rest := []) (A0 := (fun _ => False)) hC (x_X0_timesInYear l hfl D h0 a1 a2 cA cJ v L P ((v 0) - 1) y (by omega) (by omega) hok) (mEx2_0 (by omega) (by omega)) hES hZS (cwV 2 hts gL_isDaySo_X0_timesInYear rfl rfl rfl (by decide +kernel) ⟨Nat.le_of_ble_eq_true rfl, Nat.le_of_ble_eq_true rfl⟩) hK hPx hS rfl rfl hl.1 rfl (Nat.le_of_ble_eq_true rfl) ⟨Nat.le_of_ble_eq_true rfl, Nat.le_of_ble_eq_true rfl⟩ dL_isDaySo_187 (fun H locs hS hz hk => ?_)
        have hPx := mw_keepP hPx hk
        have hg := Nat.le_trans hg hz
        refine W.eq (g2 := F0 m 190 ls [.int (mI (mCnt L P ((v 0) - 1) (mBeg v y) (mBeg v (y + 1) - 1)))]) rfl ?_
        refine mw_topi (y := t) (by rw [← hF, l1]; exact hT.symm) ?_
        refine lv_aload_n hx hb dL_isDaySo_190 rfl (lv_at hl 6 rfl) ?_
        refine lv_iload hx hb dL_isDaySo_191 (lv_at hl 0 rfl) ?_
        refine mw_iconst hx hb dL_isDaySo_193 ?_
        refine mw_isub hx hb dL_isDaySo_194 ?_
        refine lv_iload_n hx hb dL_isDaySo_195 rfl (lv_at hl 4 rfl) ?_
        refine lv_iload_n hx hb dL_isDaySo_196 rfl (lv_at hl 4 rfl) ?_
        refine lv_iload hx hb dL_isDaySo_197 (lv_at hl 3 rfl) ?_
        refine mw_iadd hx hb dL_isDaySo_199 ?_
        refine mw_iconst hx hb dL_isDaySo_200 ?_
        refine mw_isub hx hb dL_isDaySo_201 ?_
        refine mw_cXn (rest := [.int (mI (t))]) (A0 := (fun _ => False)) hC (x_X0_times l hfl D h0 a1 a2 cA cJ v L P ((v 0) - 1) f ((f + n) - 1) (by omega) (by omega) (by omega) hok) (mEx2_0 (by omega) (by omega)) hES hZS (cwV 3 hts gL_isDaySo_X0_times rfl rfl rfl (by decide +kernel) ⟨Nat.le_of_ble_eq_true rfl, Nat.le_of_ble_eq_true rfl⟩) hK hPx hS rfl rfl hl.1 rfl (Nat.le_of_ble_eq_true rfl) ⟨Nat.le_of_ble_eq_true rfl, Nat.le_of_ble_eq_true rfl⟩ dL_isDaySo_202 (fun H locs hS hz hk => ?_)
        have hPx := mw_keepP hPx hk
        have hg := Nat.le_trans hg hz
        refine W.eq (g2 := F0 m 205 ls [.int (mI (mCnt L P ((v 0) - 1) f ((f + n) - 1))), .int (mI (t))]) rfl ?_
        refine mw_topi (y := t) hT.symm ?_
        refine mw_icmp_ne (tgt := 212) hx hb (by omega) (by omega) dL_isDaySo_205 (by decide) (fun c_205 => False.elim (by omega)) (fun c_205 => ?_)
        refine mw_iconst hx hb dL_isDaySo_208 ?_
        refine lv_goto (tgt := 213) hx hb dL_isDaySo_209 (by decide) ?_
        exact mw_gretZ hx hb hr hlocks dL_isDaySo_213 (by decide +kernel) rfl (by omega) hPx hS ⟨Nat.le_of_ble_eq_true rfl, Nat.le_of_ble_eq_true rfl⟩
