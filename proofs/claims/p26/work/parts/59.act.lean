
set_option maxHeartbeats 2000000 in
set_option maxRecDepth 100000 in
theorem g_act00 (l : Launch) (hfl : l.flags = flags0) (D : va_G) (h0 a1 a2 : Nat) (cA cJ : ClassId) (v : Nat → Int) (L P : Int → Int) (V : Int) (hV : mRI V) (ho : ¬ mLow (mShr V 24) 9 = 0) (hk9 : mLow V 7 = 0) (hdis : mDis h0 a1 a2) (hok : mOK v L P) : mG l yL_act wsL_act ({ frames := 10, cells := mC (mEx2 ((1 ≤ (1 + (mLow (mShr V 4) (1 + (mLow (mShr V 14) 59)))) ∧ (1 + (mLow (mShr V 4) (1 + (mLow (mShr V 14) 59)))) ≤ 60) ∧ 0 ≤ (mLow (mShr V 9) ((1 + (mLow (mShr V 4) (1 + (mLow (mShr V 14) 59)))) + 0)) ∧ (mLow (mShr V 9) ((1 + (mLow (mShr V 4) (1 + (mLow (mShr V 14) 59)))) + 0)) ≤ (1 + (mLow (mShr V 4) (1 + (mLow (mShr V 14) 59)))) - 1) (v 0 < 16)), slots := 6 * mC (mEx2 ((1 ≤ (1 + (mLow (mShr V 4) (1 + (mLow (mShr V 14) 59)))) ∧ (1 + (mLow (mShr V 4) (1 + (mLow (mShr V 14) 59)))) ≤ 60) ∧ 0 ≤ (mLow (mShr V 9) ((1 + (mLow (mShr V 4) (1 + (mLow (mShr V 14) 59)))) + 0)) ∧ (mLow (mShr V 9) ((1 + (mLow (mShr V 4) (1 + (mLow (mShr V 14) 59)))) + 0)) ≤ (1 + (mLow (mShr V 4) (1 + (mLow (mShr V 14) 59)))) - 1) (v 0 < 16)), locals := 172 }) [.ref h0, .int (mI (V))] D (mXW h0 a1 a2 cA v L P) (mTy cA cJ) (mK4 (mEx2 ((1 ≤ (1 + (mLow (mShr V 4) (1 + (mLow (mShr V 14) 59)))) ∧ (1 + (mLow (mShr V 4) (1 + (mLow (mShr V 14) 59)))) ≤ 60) ∧ 0 ≤ (mLow (mShr V 9) ((1 + (mLow (mShr V 4) (1 + (mLow (mShr V 14) 59)))) + 0)) ∧ (mLow (mShr V 9) ((1 + (mLow (mShr V 4) (1 + (mLow (mShr V 14) 59)))) + 0)) ≤ (1 + (mLow (mShr V 4) (1 + (mLow (mShr V 14) 59)))) - 1) (v 0 < 16)) (v 0) (-99999) (-99999) (-99999)) 0 (mXW h0 a1 a2 cA (mIf (mEx2 ((1 ≤ (1 + (mLow (mShr V 4) (1 + (mLow (mShr V 14) 59)))) ∧ (1 + (mLow (mShr V 4) (1 + (mLow (mShr V 14) 59)))) ≤ 60) ∧ 0 ≤ (mLow (mShr V 9) ((1 + (mLow (mShr V 4) (1 + (mLow (mShr V 14) 59)))) + 0)) ∧ (mLow (mShr V 9) ((1 + (mLow (mShr V 4) (1 + (mLow (mShr V 14) 59)))) + 0)) ≤ (1 + (mLow (mShr V 4) (1 + (mLow (mShr V 14) 59)))) - 1) (v 0 < 16)) (mPut v 0 (v 0 + 1)) v) (mIf (mEx2 ((1 ≤ (1 + (mLow (mShr V 4) (1 + (mLow (mShr V 14) 59)))) ∧ (1 + (mLow (mShr V 4) (1 + (mLow (mShr V 14) 59)))) ≤ 60) ∧ 0 ≤ (mLow (mShr V 9) ((1 + (mLow (mShr V 4) (1 + (mLow (mShr V 14) 59)))) + 0)) ∧ (mLow (mShr V 9) ((1 + (mLow (mShr V 4) (1 + (mLow (mShr V 14) 59)))) + 0)) ≤ (1 + (mLow (mShr V 4) (1 + (mLow (mShr V 14) 59)))) - 1) (v 0 < 16)) (mU L (v 0) (1 + (mLow (mShr V 4) (1 + (mLow (mShr V 14) 59))))) L) (mIf (mEx2 ((1 ≤ (1 + (mLow (mShr V 4) (1 + (mLow (mShr V 14) 59)))) ∧ (1 + (mLow (mShr V 4) (1 + (mLow (mShr V 14) 59)))) ≤ 60) ∧ 0 ≤ (mLow (mShr V 9) ((1 + (mLow (mShr V 4) (1 + (mLow (mShr V 14) 59)))) + 0)) ∧ (mLow (mShr V 9) ((1 + (mLow (mShr V 4) (1 + (mLow (mShr V 14) 59)))) + 0)) ≤ (1 + (mLow (mShr V 4) (1 + (mLow (mShr V 14) 59)))) - 1) (v 0 < 16)) (mU P (v 0) (mLow (mShr V 9) ((1 + (mLow (mShr V 4) (1 + (mLow (mShr V 14) 59)))) + 0))) P)) (mA3 h0 a1 a2) (mC (mEx2 ((1 ≤ (1 + (mLow (mShr V 4) (1 + (mLow (mShr V 14) 59)))) ∧ (1 + (mLow (mShr V 4) (1 + (mLow (mShr V 14) 59)))) ≤ 60) ∧ 0 ≤ (mLow (mShr V 9) ((1 + (mLow (mShr V 4) (1 + (mLow (mShr V 14) 59)))) + 0)) ∧ (mLow (mShr V 9) ((1 + (mLow (mShr V 4) (1 + (mLow (mShr V 14) 59)))) + 0)) ≤ (1 + (mLow (mShr V 4) (1 + (mLow (mShr V 14) 59)))) - 1) (v 0 < 16))) (6 * mC (mEx2 ((1 ≤ (1 + (mLow (mShr V 4) (1 + (mLow (mShr V 14) 59)))) ∧ (1 + (mLow (mShr V 4) (1 + (mLow (mShr V 14) 59)))) ≤ 60) ∧ 0 ≤ (mLow (mShr V 9) ((1 + (mLow (mShr V 4) (1 + (mLow (mShr V 14) 59)))) + 0)) ∧ (mLow (mShr V 9) ((1 + (mLow (mShr V 4) (1 + (mLow (mShr V 14) 59)))) + 0)) ≤ (1 + (mLow (mShr V 4) (1 + (mLow (mShr V 14) 59)))) - 1) (v 0 < 16))) := by
  refine mw_openG (cc := cL_act) (maxL := 5) (ret := (some .int)) (by decide) rfl (Nat.le_of_ble_eq_true rfl) ?_
  intro p e s m below meth c ls hC hr hlocks hB hE hNS hl
  obtain ⟨hx, hb, hml, hown, hts⟩ := id hC
  obtain ⟨hP, hK⟩ := hB
  obtain ⟨hES, hZ0⟩ := hE
  have hS : va_S (mA3 h0 a1 a2) s.heap s.heap [] := va_S.rf
  have hg : s.heap.size + 0 ≤ s.heap.size := Nat.le_refl _
  have hPx := hP.sub (ws' := mXW h0 a1 a2 cA v L P) [0, 1, 2] rfl
  have hl : lv_has ls 5 [(0, .ref h0), (1, .int (mI (V)))] := hl
  have hv9 := hok.1
  refine lv_iload_n hx hb dL_act_0 rfl (lv_at hl 1 rfl) ?_
  refine mw_bipush hx hb (by decide +kernel) dL_act_1 ?_
  refine mw_ishr hx hb dL_act_3 ?_
  refine mw_bipush hx hb (by decide +kernel) dL_act_4 ?_
  refine mw_cSi (rest := []) hC (c_L_low l (mShr V 24) 9 (by omega)) (va_cwS 2 hts gL_act_L_low rfl rfl rfl (by decide +kernel) ⟨Nat.le_of_ble_eq_true rfl, Nat.le_of_ble_eq_true rfl⟩) rfl hl.1 rfl (Nat.le_of_ble_eq_true rfl) ⟨Nat.zero_le _, Nat.zero_le _⟩ dL_act_6 ?_
  have b_6 := mLow_r (mShr V 24) 9 (by omega)
  refine mw_if_ne (tgt := 16) hx hb (by omega) dL_act_9 (by decide) (fun c_9 => ?_) (fun c_9 => False.elim (by exact absurd c_9 ho))
  refine mw_iconst hx hb dL_act_16 ?_
  refine lv_istore_n (lv' := [(2, .int (mI (0))), (0, .ref h0), (1, .int (mI (V)))]) hx hb dL_act_17 rfl hl (by decide) rfl (fun ls hl => ?_)
  refine mw_iconst hx hb dL_act_18 ?_
  refine lv_iload_n hx hb dL_act_19 rfl (lv_at hl 2 rfl) ?_
  refine mw_iconst hx hb dL_act_20 ?_
  refine mw_ishr hx hb dL_act_21 ?_
  refine lv_iload_n hx hb dL_act_22 rfl (lv_at hl 0 rfl) ?_
  refine mw_if_eq (tgt := 31) hx hb (by omega) dL_act_23 (by decide) (fun _ => ?_) (fun c => absurd (by decide) c)
  refine mw_iconst hx hb dL_act_31 ?_
  refine lv_iload_n hx hb dL_act_32 rfl (lv_at hl 2 rfl) ?_
  refine mw_bipush hx hb (by decide +kernel) dL_act_33 ?_
  refine mw_ishr hx hb dL_act_35 ?_
  refine mw_bipush hx hb (by decide +kernel) dL_act_36 ?_
  refine mw_cSi (rest := [.int (mI (1)), .int (mI (mShr V 4)), .int (mI (1))]) hC (c_L_low l (mShr V 14) 59 (by omega)) (va_cwS 2 hts gL_act_L_low rfl rfl rfl (by decide +kernel) ⟨Nat.le_of_ble_eq_true rfl, Nat.le_of_ble_eq_true rfl⟩) rfl hl.1 rfl (Nat.le_of_ble_eq_true rfl) ⟨Nat.zero_le _, Nat.zero_le _⟩ dL_act_38 ?_
  have b_38 := mLow_r (mShr V 14) 59 (by omega)
  refine mw_iadd hx hb dL_act_41 ?_
  refine mw_cSi (rest := [.int (mI (1))]) hC (c_L_low l (mShr V 4) (1 + (mLow (mShr V 14) 59)) (by omega)) (va_cwS 2 hts gL_act_L_low rfl rfl rfl (by decide +kernel) ⟨Nat.le_of_ble_eq_true rfl, Nat.le_of_ble_eq_true rfl⟩) rfl hl.1 rfl (Nat.le_of_ble_eq_true rfl) ⟨Nat.zero_le _, Nat.zero_le _⟩ dL_act_42 ?_
  have b_42 := mLow_r (mShr V 4) (1 + (mLow (mShr V 14) 59)) (by omega)
  refine mw_iadd hx hb dL_act_45 ?_
  refine lv_istore_n (lv' := [(3, .int (mI (1 + (mLow (mShr V 4) (1 + (mLow (mShr V 14) 59)))))), (2, .int (mI (0))), (0, .ref h0), (1, .int (mI (V)))]) hx hb dL_act_46 rfl hl (by decide) rfl (fun ls hl => ?_)
  refine lv_iload_n hx hb dL_act_47 rfl (lv_at hl 3 rfl) ?_
  refine mw_bipush hx hb (by decide +kernel) dL_act_48 ?_
  refine mw_cSi (rest := []) hC (c_L_low l V 7 (by omega)) (va_cwS 2 hts gL_act_L_low rfl rfl rfl (by decide +kernel) ⟨Nat.le_of_ble_eq_true rfl, Nat.le_of_ble_eq_true rfl⟩) rfl hl.1 rfl (Nat.le_of_ble_eq_true rfl) ⟨Nat.zero_le _, Nat.zero_le _⟩ dL_act_50 ?_
  have b_50 := mLow_r V 7 (by omega)
  refine mw_topi (y := 0) hk9 ?_
  refine lv_tableIn (off := 39) (tgt := 92) hx hb dL_act_53 (by decide +kernel) (by decide +kernel) (by decide +kernel) (by decide) ?_
  refine lv_aload_n hx hb dL_act_92 rfl (lv_at hl 2 rfl) ?_
  refine lv_iload_n hx hb dL_act_93 rfl (lv_at hl 0 rfl) ?_
  refine lv_iload_n hx hb dL_act_94 rfl (lv_at hl 3 rfl) ?_
  refine mw_bipush hx hb (by decide +kernel) dL_act_95 ?_
  refine mw_ishr hx hb dL_act_97 ?_
  refine lv_iload_n hx hb dL_act_98 rfl (lv_at hl 0 rfl) ?_
  refine lv_iload_n hx hb dL_act_99 rfl (lv_at hl 1 rfl) ?_
  refine mw_if_eq (tgt := 107) hx hb (by omega) dL_act_100 (by decide) (fun _ => ?_) (fun c => absurd (by decide) c)
  refine mw_iconst hx hb dL_act_107 ?_
  refine mw_iadd hx hb dL_act_108 ?_
  refine mw_cSi (rest := [.int (mI (1 + (mLow (mShr V 4) (1 + (mLow (mShr V 14) 59))))), .ref h0]) hC (c_L_low l (mShr V 9) ((1 + (mLow (mShr V 4) (1 + (mLow (mShr V 14) 59)))) + 0) (by omega)) (va_cwS 2 hts gL_act_L_low rfl rfl rfl (by decide +kernel) ⟨Nat.le_of_ble_eq_true rfl, Nat.le_of_ble_eq_true rfl⟩) rfl hl.1 rfl (Nat.le_of_ble_eq_true rfl) ⟨Nat.zero_le _, Nat.zero_le _⟩ dL_act_109 ?_
  have b_109 := mLow_r (mShr V 9) ((1 + (mLow (mShr V 4) (1 + (mLow (mShr V 14) 59)))) + 0) (by omega)
  refine mw_cK2 (rest := []) hC (k_addMarket l hfl D h0 a1 a2 cA cJ v L P (1 + (mLow (mShr V 4) (1 + (mLow (mShr V 14) 59)))) (mLow (mShr V 9) ((1 + (mLow (mShr V 4) (1 + (mLow (mShr V 14) 59)))) + 0)) (by omega) (by omega) hok hdis) (vx_cwSW 3 hts gL_act_L_addMarket rfl rfl rfl (by decide +kernel) ⟨Nat.le_of_ble_eq_true rfl, Nat.le_of_ble_eq_true rfl⟩) hK hPx ⟨hES, hZ0⟩ hNS rfl hl.1 rfl (Nat.le_of_ble_eq_true rfl) ⟨Nat.le_of_eq (Nat.zero_add _), Nat.le_of_eq (Nat.zero_add _)⟩ dL_act_112 (fun H locs hPx hS hz => ?_)
  have hg : s.heap.size + 0 ≤ H.size := Nat.le_trans (Nat.le_add_right _ _) hz
  refine W.eq (g2 := F0 m 115 ls [.int (mI (mK4 (mEx2 ((1 ≤ (1 + (mLow (mShr V 4) (1 + (mLow (mShr V 14) 59)))) ∧ (1 + (mLow (mShr V 4) (1 + (mLow (mShr V 14) 59)))) ≤ 60) ∧ 0 ≤ (mLow (mShr V 9) ((1 + (mLow (mShr V 4) (1 + (mLow (mShr V 14) 59)))) + 0)) ∧ (mLow (mShr V 9) ((1 + (mLow (mShr V 4) (1 + (mLow (mShr V 14) 59)))) + 0)) ≤ (1 + (mLow (mShr V 4) (1 + (mLow (mShr V 14) 59)))) - 1) (v 0 < 16)) (v 0) (-99999) (-99999) (-99999)))]) rfl ?_
  exact mw_gret hx hb hr hlocks dL_act_115 rfl (by omega) hPx hS ⟨Nat.le_of_eq (Nat.zero_add _), Nat.le_of_eq (Nat.zero_add _)⟩
set_option maxHeartbeats 2000000 in
set_option maxRecDepth 100000 in
theorem g_act01 (l : Launch) (hfl : l.flags = flags0) (D : va_G) (h0 a1 a2 : Nat) (cA cJ : ClassId) (v : Nat → Int) (L P : Int → Int) (V : Int) (hV : mRI V) (ho : mLow (mShr V 24) 9 = 0) (hk9 : mLow V 7 = 0) (hdis : mDis h0 a1 a2) (hok : mOK v L P) : mG l yL_act wsL_act ({ frames := 10, cells := mC (mEx2 ((1 ≤ (1 + (mLow (mShr V 4) 62)) ∧ (1 + (mLow (mShr V 4) 62)) ≤ 60) ∧ 0 ≤ (mLow (mShr V 9) ((1 + (mLow (mShr V 4) 62)) + 1)) ∧ (mLow (mShr V 9) ((1 + (mLow (mShr V 4) 62)) + 1)) ≤ (1 + (mLow (mShr V 4) 62)) - 1) (v 0 < 16)), slots := 6 * mC (mEx2 ((1 ≤ (1 + (mLow (mShr V 4) 62)) ∧ (1 + (mLow (mShr V 4) 62)) ≤ 60) ∧ 0 ≤ (mLow (mShr V 9) ((1 + (mLow (mShr V 4) 62)) + 1)) ∧ (mLow (mShr V 9) ((1 + (mLow (mShr V 4) 62)) + 1)) ≤ (1 + (mLow (mShr V 4) 62)) - 1) (v 0 < 16)), locals := 172 }) [.ref h0, .int (mI (V))] D (mXW h0 a1 a2 cA v L P) (mTy cA cJ) (mK4 (mEx2 ((1 ≤ (1 + (mLow (mShr V 4) 62)) ∧ (1 + (mLow (mShr V 4) 62)) ≤ 60) ∧ 0 ≤ (mLow (mShr V 9) ((1 + (mLow (mShr V 4) 62)) + 1)) ∧ (mLow (mShr V 9) ((1 + (mLow (mShr V 4) 62)) + 1)) ≤ (1 + (mLow (mShr V 4) 62)) - 1) (v 0 < 16)) (v 0) (-99999) (-99999) (-99999)) 0 (mXW h0 a1 a2 cA (mIf (mEx2 ((1 ≤ (1 + (mLow (mShr V 4) 62)) ∧ (1 + (mLow (mShr V 4) 62)) ≤ 60) ∧ 0 ≤ (mLow (mShr V 9) ((1 + (mLow (mShr V 4) 62)) + 1)) ∧ (mLow (mShr V 9) ((1 + (mLow (mShr V 4) 62)) + 1)) ≤ (1 + (mLow (mShr V 4) 62)) - 1) (v 0 < 16)) (mPut v 0 (v 0 + 1)) v) (mIf (mEx2 ((1 ≤ (1 + (mLow (mShr V 4) 62)) ∧ (1 + (mLow (mShr V 4) 62)) ≤ 60) ∧ 0 ≤ (mLow (mShr V 9) ((1 + (mLow (mShr V 4) 62)) + 1)) ∧ (mLow (mShr V 9) ((1 + (mLow (mShr V 4) 62)) + 1)) ≤ (1 + (mLow (mShr V 4) 62)) - 1) (v 0 < 16)) (mU L (v 0) (1 + (mLow (mShr V 4) 62))) L) (mIf (mEx2 ((1 ≤ (1 + (mLow (mShr V 4) 62)) ∧ (1 + (mLow (mShr V 4) 62)) ≤ 60) ∧ 0 ≤ (mLow (mShr V 9) ((1 + (mLow (mShr V 4) 62)) + 1)) ∧ (mLow (mShr V 9) ((1 + (mLow (mShr V 4) 62)) + 1)) ≤ (1 + (mLow (mShr V 4) 62)) - 1) (v 0 < 16)) (mU P (v 0) (mLow (mShr V 9) ((1 + (mLow (mShr V 4) 62)) + 1))) P)) (mA3 h0 a1 a2) (mC (mEx2 ((1 ≤ (1 + (mLow (mShr V 4) 62)) ∧ (1 + (mLow (mShr V 4) 62)) ≤ 60) ∧ 0 ≤ (mLow (mShr V 9) ((1 + (mLow (mShr V 4) 62)) + 1)) ∧ (mLow (mShr V 9) ((1 + (mLow (mShr V 4) 62)) + 1)) ≤ (1 + (mLow (mShr V 4) 62)) - 1) (v 0 < 16))) (6 * mC (mEx2 ((1 ≤ (1 + (mLow (mShr V 4) 62)) ∧ (1 + (mLow (mShr V 4) 62)) ≤ 60) ∧ 0 ≤ (mLow (mShr V 9) ((1 + (mLow (mShr V 4) 62)) + 1)) ∧ (mLow (mShr V 9) ((1 + (mLow (mShr V 4) 62)) + 1)) ≤ (1 + (mLow (mShr V 4) 62)) - 1) (v 0 < 16))) := by
  refine mw_openG (cc := cL_act) (maxL := 5) (ret := (some .int)) (by decide) rfl (Nat.le_of_ble_eq_true rfl) ?_
  intro p e s m below meth c ls hC hr hlocks hB hE hNS hl
  obtain ⟨hx, hb, hml, hown, hts⟩ := id hC
  obtain ⟨hP, hK⟩ := hB
  obtain ⟨hES, hZ0⟩ := hE
  have hS : va_S (mA3 h0 a1 a2) s.heap s.heap [] := va_S.rf
  have hg : s.heap.size + 0 ≤ s.heap.size := Nat.le_refl _
  have hPx := hP.sub (ws' := mXW h0 a1 a2 cA v L P) [0, 1, 2] rfl
  have hl : lv_has ls 5 [(0, .ref h0), (1, .int (mI (V)))] := hl
  have hv9 := hok.1
  refine lv_iload_n hx hb dL_act_0 rfl (lv_at hl 1 rfl) ?_
  refine mw_bipush hx hb (by decide +kernel) dL_act_1 ?_
  refine mw_ishr hx hb dL_act_3 ?_
  refine mw_bipush hx hb (by decide +kernel) dL_act_4 ?_
  refine mw_cSi (rest := []) hC (c_L_low l (mShr V 24) 9 (by omega)) (va_cwS 2 hts gL_act_L_low rfl rfl rfl (by decide +kernel) ⟨Nat.le_of_ble_eq_true rfl, Nat.le_of_ble_eq_true rfl⟩) rfl hl.1 rfl (Nat.le_of_ble_eq_true rfl) ⟨Nat.zero_le _, Nat.zero_le _⟩ dL_act_6 ?_
  have b_6 := mLow_r (mShr V 24) 9 (by omega)
  refine mw_if_ne (tgt := 16) hx hb (by omega) dL_act_9 (by decide) (fun c_9 => False.elim (by exact absurd ho c_9)) (fun c_9 => ?_)
  refine mw_iconst hx hb dL_act_12 ?_
  refine lv_goto (tgt := 17) hx hb dL_act_13 (by decide) ?_
  refine lv_istore_n (lv' := [(2, .int (mI (1))), (0, .ref h0), (1, .int (mI (V)))]) hx hb dL_act_17 rfl hl (by decide) rfl (fun ls hl => ?_)
  refine mw_iconst hx hb dL_act_18 ?_
  refine lv_iload_n hx hb dL_act_19 rfl (lv_at hl 2 rfl) ?_
  refine mw_iconst hx hb dL_act_20 ?_
  refine mw_ishr hx hb dL_act_21 ?_
  refine lv_iload_n hx hb dL_act_22 rfl (lv_at hl 0 rfl) ?_
  refine mw_if_eq (tgt := 31) hx hb (by omega) dL_act_23 (by decide) (fun c => absurd c (by decide)) (fun _ => ?_)
  refine mw_bipush hx hb (by decide +kernel) dL_act_26 ?_
  refine lv_goto (tgt := 42) hx hb dL_act_28 (by decide) ?_
  refine mw_cSi (rest := [.int (mI (1))]) hC (c_L_low l (mShr V 4) 62 (by omega)) (va_cwS 2 hts gL_act_L_low rfl rfl rfl (by decide +kernel) ⟨Nat.le_of_ble_eq_true rfl, Nat.le_of_ble_eq_true rfl⟩) rfl hl.1 rfl (Nat.le_of_ble_eq_true rfl) ⟨Nat.zero_le _, Nat.zero_le _⟩ dL_act_42 ?_
  have b_42 := mLow_r (mShr V 4) 62 (by omega)
  refine mw_iadd hx hb dL_act_45 ?_
  refine lv_istore_n (lv' := [(3, .int (mI (1 + (mLow (mShr V 4) 62)))), (2, .int (mI (1))), (0, .ref h0), (1, .int (mI (V)))]) hx hb dL_act_46 rfl hl (by decide) rfl (fun ls hl => ?_)
  refine lv_iload_n hx hb dL_act_47 rfl (lv_at hl 3 rfl) ?_
  refine mw_bipush hx hb (by decide +kernel) dL_act_48 ?_
  refine mw_cSi (rest := []) hC (c_L_low l V 7 (by omega)) (va_cwS 2 hts gL_act_L_low rfl rfl rfl (by decide +kernel) ⟨Nat.le_of_ble_eq_true rfl, Nat.le_of_ble_eq_true rfl⟩) rfl hl.1 rfl (Nat.le_of_ble_eq_true rfl) ⟨Nat.zero_le _, Nat.zero_le _⟩ dL_act_50 ?_
  have b_50 := mLow_r V 7 (by omega)
  refine mw_topi (y := 0) hk9 ?_
  refine lv_tableIn (off := 39) (tgt := 92) hx hb dL_act_53 (by decide +kernel) (by decide +kernel) (by decide +kernel) (by decide) ?_
  refine lv_aload_n hx hb dL_act_92 rfl (lv_at hl 2 rfl) ?_
  refine lv_iload_n hx hb dL_act_93 rfl (lv_at hl 0 rfl) ?_
  refine lv_iload_n hx hb dL_act_94 rfl (lv_at hl 3 rfl) ?_
  refine mw_bipush hx hb (by decide +kernel) dL_act_95 ?_
  refine mw_ishr hx hb dL_act_97 ?_
  refine lv_iload_n hx hb dL_act_98 rfl (lv_at hl 0 rfl) ?_
  refine lv_iload_n hx hb dL_act_99 rfl (lv_at hl 1 rfl) ?_
  refine mw_if_eq (tgt := 107) hx hb (by omega) dL_act_100 (by decide) (fun c => absurd c (by decide)) (fun _ => ?_)
  refine mw_iconst hx hb dL_act_103 ?_
  refine lv_goto (tgt := 108) hx hb dL_act_104 (by decide) ?_
  refine mw_iadd hx hb dL_act_108 ?_
  refine mw_cSi (rest := [.int (mI (1 + (mLow (mShr V 4) 62))), .ref h0]) hC (c_L_low l (mShr V 9) ((1 + (mLow (mShr V 4) 62)) + 1) (by omega)) (va_cwS 2 hts gL_act_L_low rfl rfl rfl (by decide +kernel) ⟨Nat.le_of_ble_eq_true rfl, Nat.le_of_ble_eq_true rfl⟩) rfl hl.1 rfl (Nat.le_of_ble_eq_true rfl) ⟨Nat.zero_le _, Nat.zero_le _⟩ dL_act_109 ?_
  have b_109 := mLow_r (mShr V 9) ((1 + (mLow (mShr V 4) 62)) + 1) (by omega)
  refine mw_cK2 (rest := []) hC (k_addMarket l hfl D h0 a1 a2 cA cJ v L P (1 + (mLow (mShr V 4) 62)) (mLow (mShr V 9) ((1 + (mLow (mShr V 4) 62)) + 1)) (by omega) (by omega) hok hdis) (vx_cwSW 3 hts gL_act_L_addMarket rfl rfl rfl (by decide +kernel) ⟨Nat.le_of_ble_eq_true rfl, Nat.le_of_ble_eq_true rfl⟩) hK hPx ⟨hES, hZ0⟩ hNS rfl hl.1 rfl (Nat.le_of_ble_eq_true rfl) ⟨Nat.le_of_eq (Nat.zero_add _), Nat.le_of_eq (Nat.zero_add _)⟩ dL_act_112 (fun H locs hPx hS hz => ?_)
  have hg : s.heap.size + 0 ≤ H.size := Nat.le_trans (Nat.le_add_right _ _) hz
  refine W.eq (g2 := F0 m 115 ls [.int (mI (mK4 (mEx2 ((1 ≤ (1 + (mLow (mShr V 4) 62)) ∧ (1 + (mLow (mShr V 4) 62)) ≤ 60) ∧ 0 ≤ (mLow (mShr V 9) ((1 + (mLow (mShr V 4) 62)) + 1)) ∧ (mLow (mShr V 9) ((1 + (mLow (mShr V 4) 62)) + 1)) ≤ (1 + (mLow (mShr V 4) 62)) - 1) (v 0 < 16)) (v 0) (-99999) (-99999) (-99999)))]) rfl ?_
  exact mw_gret hx hb hr hlocks dL_act_115 rfl (by omega) hPx hS ⟨Nat.le_of_eq (Nat.zero_add _), Nat.le_of_eq (Nat.zero_add _)⟩
set_option maxHeartbeats 2000000 in
set_option maxRecDepth 100000 in
theorem g_act10 (l : Launch) (hfl : l.flags = flags0) (D : va_G) (h0 a1 a2 : Nat) (cA cJ : ClassId) (v : Nat → Int) (L P : Int → Int) (V : Int) (hV : mRI V) (ho : ¬ mLow (mShr V 24) 9 = 0) (hk9 : mLow V 7 = 1) (hdis : mDis h0 a1 a2) (hok : mOK v L P) : mG l yL_act wsL_act ({ frames := 10, cells := mC (mEx2 ((1 ≤ (1 + (mLow (mShr V 4) (1 + (mLow (mShr V 14) 59)))) ∧ (1 + (mLow (mShr V 4) (1 + (mLow (mShr V 14) 59)))) ≤ 60) ∧ 0 ≤ (mLow (mShr V 9) ((1 + (mLow (mShr V 4) (1 + (mLow (mShr V 14) 59)))) + 0)) ∧ (mLow (mShr V 9) ((1 + (mLow (mShr V 4) (1 + (mLow (mShr V 14) 59)))) + 0)) ≤ (1 + (mLow (mShr V 4) (1 + (mLow (mShr V 14) 59)))) - 1) (v 0 < 16)), slots := 6 * mC (mEx2 ((1 ≤ (1 + (mLow (mShr V 4) (1 + (mLow (mShr V 14) 59)))) ∧ (1 + (mLow (mShr V 4) (1 + (mLow (mShr V 14) 59)))) ≤ 60) ∧ 0 ≤ (mLow (mShr V 9) ((1 + (mLow (mShr V 4) (1 + (mLow (mShr V 14) 59)))) + 0)) ∧ (mLow (mShr V 9) ((1 + (mLow (mShr V 4) (1 + (mLow (mShr V 14) 59)))) + 0)) ≤ (1 + (mLow (mShr V 4) (1 + (mLow (mShr V 14) 59)))) - 1) (v 0 < 16)), locals := 172 }) [.ref h0, .int (mI (V))] D (mXW h0 a1 a2 cA v L P) (mTy cA cJ) (mK4 (mEx2 ((1 ≤ (1 + (mLow (mShr V 4) (1 + (mLow (mShr V 14) 59)))) ∧ (1 + (mLow (mShr V 4) (1 + (mLow (mShr V 14) 59)))) ≤ 60) ∧ 0 ≤ (mLow (mShr V 9) ((1 + (mLow (mShr V 4) (1 + (mLow (mShr V 14) 59)))) + 0)) ∧ (mLow (mShr V 9) ((1 + (mLow (mShr V 4) (1 + (mLow (mShr V 14) 59)))) + 0)) ≤ (1 + (mLow (mShr V 4) (1 + (mLow (mShr V 14) 59)))) - 1) (v 0 < 16)) (v 0) (-99999) (-99999) (-99999)) 0 (mXW h0 a1 a2 cA (mIf (mEx2 ((1 ≤ (1 + (mLow (mShr V 4) (1 + (mLow (mShr V 14) 59)))) ∧ (1 + (mLow (mShr V 4) (1 + (mLow (mShr V 14) 59)))) ≤ 60) ∧ 0 ≤ (mLow (mShr V 9) ((1 + (mLow (mShr V 4) (1 + (mLow (mShr V 14) 59)))) + 0)) ∧ (mLow (mShr V 9) ((1 + (mLow (mShr V 4) (1 + (mLow (mShr V 14) 59)))) + 0)) ≤ (1 + (mLow (mShr V 4) (1 + (mLow (mShr V 14) 59)))) - 1) (v 0 < 16)) (mPut v 0 (v 0 + 1)) v) (mIf (mEx2 ((1 ≤ (1 + (mLow (mShr V 4) (1 + (mLow (mShr V 14) 59)))) ∧ (1 + (mLow (mShr V 4) (1 + (mLow (mShr V 14) 59)))) ≤ 60) ∧ 0 ≤ (mLow (mShr V 9) ((1 + (mLow (mShr V 4) (1 + (mLow (mShr V 14) 59)))) + 0)) ∧ (mLow (mShr V 9) ((1 + (mLow (mShr V 4) (1 + (mLow (mShr V 14) 59)))) + 0)) ≤ (1 + (mLow (mShr V 4) (1 + (mLow (mShr V 14) 59)))) - 1) (v 0 < 16)) (mU L (v 0) (1 + (mLow (mShr V 4) (1 + (mLow (mShr V 14) 59))))) L) (mIf (mEx2 ((1 ≤ (1 + (mLow (mShr V 4) (1 + (mLow (mShr V 14) 59)))) ∧ (1 + (mLow (mShr V 4) (1 + (mLow (mShr V 14) 59)))) ≤ 60) ∧ 0 ≤ (mLow (mShr V 9) ((1 + (mLow (mShr V 4) (1 + (mLow (mShr V 14) 59)))) + 0)) ∧ (mLow (mShr V 9) ((1 + (mLow (mShr V 4) (1 + (mLow (mShr V 14) 59)))) + 0)) ≤ (1 + (mLow (mShr V 4) (1 + (mLow (mShr V 14) 59)))) - 1) (v 0 < 16)) (mU P (v 0) (mLow (mShr V 9) ((1 + (mLow (mShr V 4) (1 + (mLow (mShr V 14) 59)))) + 0))) P)) (mA3 h0 a1 a2) (mC (mEx2 ((1 ≤ (1 + (mLow (mShr V 4) (1 + (mLow (mShr V 14) 59)))) ∧ (1 + (mLow (mShr V 4) (1 + (mLow (mShr V 14) 59)))) ≤ 60) ∧ 0 ≤ (mLow (mShr V 9) ((1 + (mLow (mShr V 4) (1 + (mLow (mShr V 14) 59)))) + 0)) ∧ (mLow (mShr V 9) ((1 + (mLow (mShr V 4) (1 + (mLow (mShr V 14) 59)))) + 0)) ≤ (1 + (mLow (mShr V 4) (1 + (mLow (mShr V 14) 59)))) - 1) (v 0 < 16))) (6 * mC (mEx2 ((1 ≤ (1 + (mLow (mShr V 4) (1 + (mLow (mShr V 14) 59)))) ∧ (1 + (mLow (mShr V 4) (1 + (mLow (mShr V 14) 59)))) ≤ 60) ∧ 0 ≤ (mLow (mShr V 9) ((1 + (mLow (mShr V 4) (1 + (mLow (mShr V 14) 59)))) + 0)) ∧ (mLow (mShr V 9) ((1 + (mLow (mShr V 4) (1 + (mLow (mShr V 14) 59)))) + 0)) ≤ (1 + (mLow (mShr V 4) (1 + (mLow (mShr V 14) 59)))) - 1) (v 0 < 16))) := by
  refine mw_openG (cc := cL_act) (maxL := 5) (ret := (some .int)) (by decide) rfl (Nat.le_of_ble_eq_true rfl) ?_
  intro p e s m below meth c ls hC hr hlocks hB hE hNS hl
  obtain ⟨hx, hb, hml, hown, hts⟩ := id hC
  obtain ⟨hP, hK⟩ := hB
  obtain ⟨hES, hZ0⟩ := hE
  have hS : va_S (mA3 h0 a1 a2) s.heap s.heap [] := va_S.rf
  have hg : s.heap.size + 0 ≤ s.heap.size := Nat.le_refl _
  have hPx := hP.sub (ws' := mXW h0 a1 a2 cA v L P) [0, 1, 2] rfl
  have hl : lv_has ls 5 [(0, .ref h0), (1, .int (mI (V)))] := hl
  have hv9 := hok.1
  refine lv_iload_n hx hb dL_act_0 rfl (lv_at hl 1 rfl) ?_
  refine mw_bipush hx hb (by decide +kernel) dL_act_1 ?_
  refine mw_ishr hx hb dL_act_3 ?_
  refine mw_bipush hx hb (by decide +kernel) dL_act_4 ?_
  refine mw_cSi (rest := []) hC (c_L_low l (mShr V 24) 9 (by omega)) (va_cwS 2 hts gL_act_L_low rfl rfl rfl (by decide +kernel) ⟨Nat.le_of_ble_eq_true rfl, Nat.le_of_ble_eq_true rfl⟩) rfl hl.1 rfl (Nat.le_of_ble_eq_true rfl) ⟨Nat.zero_le _, Nat.zero_le _⟩ dL_act_6 ?_
  have b_6 := mLow_r (mShr V 24) 9 (by omega)
  refine mw_if_ne (tgt := 16) hx hb (by omega) dL_act_9 (by decide) (fun c_9 => ?_) (fun c_9 => False.elim (by exact absurd c_9 ho))
  refine mw_iconst hx hb dL_act_16 ?_
  refine lv_istore_n (lv' := [(2, .int (mI (0))), (0, .ref h0), (1, .int (mI (V)))]) hx hb dL_act_17 rfl hl (by decide) rfl (fun ls hl => ?_)
  refine mw_iconst hx hb dL_act_18 ?_
  refine lv_iload_n hx hb dL_act_19 rfl (lv_at hl 2 rfl) ?_
  refine mw_iconst hx hb dL_act_20 ?_
  refine mw_ishr hx hb dL_act_21 ?_
  refine lv_iload_n hx hb dL_act_22 rfl (lv_at hl 0 rfl) ?_
  refine mw_if_eq (tgt := 31) hx hb (by omega) dL_act_23 (by decide) (fun _ => ?_) (fun c => absurd (by decide) c)
  refine mw_iconst hx hb dL_act_31 ?_
  refine lv_iload_n hx hb dL_act_32 rfl (lv_at hl 2 rfl) ?_
  refine mw_bipush hx hb (by decide +kernel) dL_act_33 ?_
  refine mw_ishr hx hb dL_act_35 ?_
  refine mw_bipush hx hb (by decide +kernel) dL_act_36 ?_
  refine mw_cSi (rest := [.int (mI (1)), .int (mI (mShr V 4)), .int (mI (1))]) hC (c_L_low l (mShr V 14) 59 (by omega)) (va_cwS 2 hts gL_act_L_low rfl rfl rfl (by decide +kernel) ⟨Nat.le_of_ble_eq_true rfl, Nat.le_of_ble_eq_true rfl⟩) rfl hl.1 rfl (Nat.le_of_ble_eq_true rfl) ⟨Nat.zero_le _, Nat.zero_le _⟩ dL_act_38 ?_
  have b_38 := mLow_r (mShr V 14) 59 (by omega)
  refine mw_iadd hx hb dL_act_41 ?_
  refine mw_cSi (rest := [.int (mI (1))]) hC (c_L_low l (mShr V 4) (1 + (mLow (mShr V 14) 59)) (by omega)) (va_cwS 2 hts gL_act_L_low rfl rfl rfl (by decide +kernel) ⟨Nat.le_of_ble_eq_true rfl, Nat.le_of_ble_eq_true rfl⟩) rfl hl.1 rfl (Nat.le_of_ble_eq_true rfl) ⟨Nat.zero_le _, Nat.zero_le _⟩ dL_act_42 ?_
  have b_42 := mLow_r (mShr V 4) (1 + (mLow (mShr V 14) 59)) (by omega)
  refine mw_iadd hx hb dL_act_45 ?_
  refine lv_istore_n (lv' := [(3, .int (mI (1 + (mLow (mShr V 4) (1 + (mLow (mShr V 14) 59)))))), (2, .int (mI (0))), (0, .ref h0), (1, .int (mI (V)))]) hx hb dL_act_46 rfl hl (by decide) rfl (fun ls hl => ?_)
  refine lv_iload_n hx hb dL_act_47 rfl (lv_at hl 3 rfl) ?_
  refine mw_bipush hx hb (by decide +kernel) dL_act_48 ?_
  refine mw_cSi (rest := []) hC (c_L_low l V 7 (by omega)) (va_cwS 2 hts gL_act_L_low rfl rfl rfl (by decide +kernel) ⟨Nat.le_of_ble_eq_true rfl, Nat.le_of_ble_eq_true rfl⟩) rfl hl.1 rfl (Nat.le_of_ble_eq_true rfl) ⟨Nat.zero_le _, Nat.zero_le _⟩ dL_act_50 ?_
  have b_50 := mLow_r V 7 (by omega)
  refine mw_topi (y := 1) hk9 ?_
  refine lv_tableIn (off := 39) (tgt := 92) hx hb dL_act_53 (by decide +kernel) (by decide +kernel) (by decide +kernel) (by decide) ?_
  refine lv_aload_n hx hb dL_act_92 rfl (lv_at hl 2 rfl) ?_
  refine lv_iload_n hx hb dL_act_93 rfl (lv_at hl 0 rfl) ?_
  refine lv_iload_n hx hb dL_act_94 rfl (lv_at hl 3 rfl) ?_
  refine mw_bipush hx hb (by decide +kernel) dL_act_95 ?_
  refine mw_ishr hx hb dL_act_97 ?_
  refine lv_iload_n hx hb dL_act_98 rfl (lv_at hl 0 rfl) ?_
  refine lv_iload_n hx hb dL_act_99 rfl (lv_at hl 1 rfl) ?_
  refine mw_if_eq (tgt := 107) hx hb (by omega) dL_act_100 (by decide) (fun _ => ?_) (fun c => absurd (by decide) c)
  refine mw_iconst hx hb dL_act_107 ?_
  refine mw_iadd hx hb dL_act_108 ?_
  refine mw_cSi (rest := [.int (mI (1 + (mLow (mShr V 4) (1 + (mLow (mShr V 14) 59))))), .ref h0]) hC (c_L_low l (mShr V 9) ((1 + (mLow (mShr V 4) (1 + (mLow (mShr V 14) 59)))) + 0) (by omega)) (va_cwS 2 hts gL_act_L_low rfl rfl rfl (by decide +kernel) ⟨Nat.le_of_ble_eq_true rfl, Nat.le_of_ble_eq_true rfl⟩) rfl hl.1 rfl (Nat.le_of_ble_eq_true rfl) ⟨Nat.zero_le _, Nat.zero_le _⟩ dL_act_109 ?_
  have b_109 := mLow_r (mShr V 9) ((1 + (mLow (mShr V 4) (1 + (mLow (mShr V 14) 59)))) + 0) (by omega)
  refine mw_cK2 (rest := []) hC (k_addMarket l hfl D h0 a1 a2 cA cJ v L P (1 + (mLow (mShr V 4) (1 + (mLow (mShr V 14) 59)))) (mLow (mShr V 9) ((1 + (mLow (mShr V 4) (1 + (mLow (mShr V 14) 59)))) + 0)) (by omega) (by omega) hok hdis) (vx_cwSW 3 hts gL_act_L_addMarket rfl rfl rfl (by decide +kernel) ⟨Nat.le_of_ble_eq_true rfl, Nat.le_of_ble_eq_true rfl⟩) hK hPx ⟨hES, hZ0⟩ hNS rfl hl.1 rfl (Nat.le_of_ble_eq_true rfl) ⟨Nat.le_of_eq (Nat.zero_add _), Nat.le_of_eq (Nat.zero_add _)⟩ dL_act_112 (fun H locs hPx hS hz => ?_)
  have hg : s.heap.size + 0 ≤ H.size := Nat.le_trans (Nat.le_add_right _ _) hz
  refine W.eq (g2 := F0 m 115 ls [.int (mI (mK4 (mEx2 ((1 ≤ (1 + (mLow (mShr V 4) (1 + (mLow (mShr V 14) 59)))) ∧ (1 + (mLow (mShr V 4) (1 + (mLow (mShr V 14) 59)))) ≤ 60) ∧ 0 ≤ (mLow (mShr V 9) ((1 + (mLow (mShr V 4) (1 + (mLow (mShr V 14) 59)))) + 0)) ∧ (mLow (mShr V 9) ((1 + (mLow (mShr V 4) (1 + (mLow (mShr V 14) 59)))) + 0)) ≤ (1 + (mLow (mShr V 4) (1 + (mLow (mShr V 14) 59)))) - 1) (v 0 < 16)) (v 0) (-99999) (-99999) (-99999)))]) rfl ?_
  exact mw_gret hx hb hr hlocks dL_act_115 rfl (by omega) hPx hS ⟨Nat.le_of_eq (Nat.zero_add _), Nat.le_of_eq (Nat.zero_add _)⟩
set_option maxHeartbeats 2000000 in
set_option maxRecDepth 100000 in
theorem g_act11 (l : Launch) (hfl : l.flags = flags0) (D : va_G) (h0 a1 a2 : Nat) (cA cJ : ClassId) (v : Nat → Int) (L P : Int → Int) (V : Int) (hV : mRI V) (ho : mLow (mShr V 24) 9 = 0) (hk9 : mLow V 7 = 1) (hdis : mDis h0 a1 a2) (hok : mOK v L P) : mG l yL_act wsL_act ({ frames := 10, cells := mC (mEx2 ((1 ≤ (1 + (mLow (mShr V 4) 62)) ∧ (1 + (mLow (mShr V 4) 62)) ≤ 60) ∧ 0 ≤ (mLow (mShr V 9) ((1 + (mLow (mShr V 4) 62)) + 1)) ∧ (mLow (mShr V 9) ((1 + (mLow (mShr V 4) 62)) + 1)) ≤ (1 + (mLow (mShr V 4) 62)) - 1) (v 0 < 16)), slots := 6 * mC (mEx2 ((1 ≤ (1 + (mLow (mShr V 4) 62)) ∧ (1 + (mLow (mShr V 4) 62)) ≤ 60) ∧ 0 ≤ (mLow (mShr V 9) ((1 + (mLow (mShr V 4) 62)) + 1)) ∧ (mLow (mShr V 9) ((1 + (mLow (mShr V 4) 62)) + 1)) ≤ (1 + (mLow (mShr V 4) 62)) - 1) (v 0 < 16)), locals := 172 }) [.ref h0, .int (mI (V))] D (mXW h0 a1 a2 cA v L P) (mTy cA cJ) (mK4 (mEx2 ((1 ≤ (1 + (mLow (mShr V 4) 62)) ∧ (1 + (mLow (mShr V 4) 62)) ≤ 60) ∧ 0 ≤ (mLow (mShr V 9) ((1 + (mLow (mShr V 4) 62)) + 1)) ∧ (mLow (mShr V 9) ((1 + (mLow (mShr V 4) 62)) + 1)) ≤ (1 + (mLow (mShr V 4) 62)) - 1) (v 0 < 16)) (v 0) (-99999) (-99999) (-99999)) 0 (mXW h0 a1 a2 cA (mIf (mEx2 ((1 ≤ (1 + (mLow (mShr V 4) 62)) ∧ (1 + (mLow (mShr V 4) 62)) ≤ 60) ∧ 0 ≤ (mLow (mShr V 9) ((1 + (mLow (mShr V 4) 62)) + 1)) ∧ (mLow (mShr V 9) ((1 + (mLow (mShr V 4) 62)) + 1)) ≤ (1 + (mLow (mShr V 4) 62)) - 1) (v 0 < 16)) (mPut v 0 (v 0 + 1)) v) (mIf (mEx2 ((1 ≤ (1 + (mLow (mShr V 4) 62)) ∧ (1 + (mLow (mShr V 4) 62)) ≤ 60) ∧ 0 ≤ (mLow (mShr V 9) ((1 + (mLow (mShr V 4) 62)) + 1)) ∧ (mLow (mShr V 9) ((1 + (mLow (mShr V 4) 62)) + 1)) ≤ (1 + (mLow (mShr V 4) 62)) - 1) (v 0 < 16)) (mU L (v 0) (1 + (mLow (mShr V 4) 62))) L) (mIf (mEx2 ((1 ≤ (1 + (mLow (mShr V 4) 62)) ∧ (1 + (mLow (mShr V 4) 62)) ≤ 60) ∧ 0 ≤ (mLow (mShr V 9) ((1 + (mLow (mShr V 4) 62)) + 1)) ∧ (mLow (mShr V 9) ((1 + (mLow (mShr V 4) 62)) + 1)) ≤ (1 + (mLow (mShr V 4) 62)) - 1) (v 0 < 16)) (mU P (v 0) (mLow (mShr V 9) ((1 + (mLow (mShr V 4) 62)) + 1))) P)) (mA3 h0 a1 a2) (mC (mEx2 ((1 ≤ (1 + (mLow (mShr V 4) 62)) ∧ (1 + (mLow (mShr V 4) 62)) ≤ 60) ∧ 0 ≤ (mLow (mShr V 9) ((1 + (mLow (mShr V 4) 62)) + 1)) ∧ (mLow (mShr V 9) ((1 + (mLow (mShr V 4) 62)) + 1)) ≤ (1 + (mLow (mShr V 4) 62)) - 1) (v 0 < 16))) (6 * mC (mEx2 ((1 ≤ (1 + (mLow (mShr V 4) 62)) ∧ (1 + (mLow (mShr V 4) 62)) ≤ 60) ∧ 0 ≤ (mLow (mShr V 9) ((1 + (mLow (mShr V 4) 62)) + 1)) ∧ (mLow (mShr V 9) ((1 + (mLow (mShr V 4) 62)) + 1)) ≤ (1 + (mLow (mShr V 4) 62)) - 1) (v 0 < 16))) := by
  refine mw_openG (cc := cL_act) (maxL := 5) (ret := (some .int)) (by decide) rfl (Nat.le_of_ble_eq_true rfl) ?_
  intro p e s m below meth c ls hC hr hlocks hB hE hNS hl
  obtain ⟨hx, hb, hml, hown, hts⟩ := id hC
  obtain ⟨hP, hK⟩ := hB
  obtain ⟨hES, hZ0⟩ := hE
  have hS : va_S (mA3 h0 a1 a2) s.heap s.heap [] := va_S.rf
  have hg : s.heap.size + 0 ≤ s.heap.size := Nat.le_refl _
  have hPx := hP.sub (ws' := mXW h0 a1 a2 cA v L P) [0, 1, 2] rfl
  have hl : lv_has ls 5 [(0, .ref h0), (1, .int (mI (V)))] := hl
  have hv9 := hok.1
  refine lv_iload_n hx hb dL_act_0 rfl (lv_at hl 1 rfl) ?_
  refine mw_bipush hx hb (by decide +kernel) dL_act_1 ?_
  refine mw_ishr hx hb dL_act_3 ?_
  refine mw_bipush hx hb (by decide +kernel) dL_act_4 ?_
  refine mw_cSi (rest := []) hC (c_L_low l (mShr V 24) 9 (by omega)) (va_cwS 2 hts gL_act_L_low rfl rfl rfl (by decide +kernel) ⟨Nat.le_of_ble_eq_true rfl, Nat.le_of_ble_eq_true rfl⟩) rfl hl.1 rfl (Nat.le_of_ble_eq_true rfl) ⟨Nat.zero_le _, Nat.zero_le _⟩ dL_act_6 ?_
  have b_6 := mLow_r (mShr V 24) 9 (by omega)
  refine mw_if_ne (tgt := 16) hx hb (by omega) dL_act_9 (by decide) (fun c_9 => False.elim (by exact absurd ho c_9)) (fun c_9 => ?_)
  refine mw_iconst hx hb dL_act_12 ?_
  refine lv_goto (tgt := 17) hx hb dL_act_13 (by decide) ?_
  refine lv_istore_n (lv' := [(2, .int (mI (1))), (0, .ref h0), (1, .int (mI (V)))]) hx hb dL_act_17 rfl hl (by decide) rfl (fun ls hl => ?_)
  refine mw_iconst hx hb dL_act_18 ?_
  refine lv_iload_n hx hb dL_act_19 rfl (lv_at hl 2 rfl) ?_
  refine mw_iconst hx hb dL_act_20 ?_
  refine mw_ishr hx hb dL_act_21 ?_
  refine lv_iload_n hx hb dL_act_22 rfl (lv_at hl 0 rfl) ?_
  refine mw_if_eq (tgt := 31) hx hb (by omega) dL_act_23 (by decide) (fun c => absurd c (by decide)) (fun _ => ?_)
  refine mw_bipush hx hb (by decide +kernel) dL_act_26 ?_
  refine lv_goto (tgt := 42) hx hb dL_act_28 (by decide) ?_
  refine mw_cSi (rest := [.int (mI (1))]) hC (c_L_low l (mShr V 4) 62 (by omega)) (va_cwS 2 hts gL_act_L_low rfl rfl rfl (by decide +kernel) ⟨Nat.le_of_ble_eq_true rfl, Nat.le_of_ble_eq_true rfl⟩) rfl hl.1 rfl (Nat.le_of_ble_eq_true rfl) ⟨Nat.zero_le _, Nat.zero_le _⟩ dL_act_42 ?_
  have b_42 := mLow_r (mShr V 4) 62 (by omega)
  refine mw_iadd hx hb dL_act_45 ?_
  refine lv_istore_n (lv' := [(3, .int (mI (1 + (mLow (mShr V 4) 62)))), (2, .int (mI (1))), (0, .ref h0), (1, .int (mI (V)))]) hx hb dL_act_46 rfl hl (by decide) rfl (fun ls hl => ?_)
  refine lv_iload_n hx hb dL_act_47 rfl (lv_at hl 3 rfl) ?_
  refine mw_bipush hx hb (by decide +kernel) dL_act_48 ?_
  refine mw_cSi (rest := []) hC (c_L_low l V 7 (by omega)) (va_cwS 2 hts gL_act_L_low rfl rfl rfl (by decide +kernel) ⟨Nat.le_of_ble_eq_true rfl, Nat.le_of_ble_eq_true rfl⟩) rfl hl.1 rfl (Nat.le_of_ble_eq_true rfl) ⟨Nat.zero_le _, Nat.zero_le _⟩ dL_act_50 ?_
  have b_50 := mLow_r V 7 (by omega)
  refine mw_topi (y := 1) hk9 ?_
  refine lv_tableIn (off := 39) (tgt := 92) hx hb dL_act_53 (by decide +kernel) (by decide +kernel) (by decide +kernel) (by decide) ?_
  refine lv_aload_n hx hb dL_act_92 rfl (lv_at hl 2 rfl) ?_
  refine lv_iload_n hx hb dL_act_93 rfl (lv_at hl 0 rfl) ?_
  refine lv_iload_n hx hb dL_act_94 rfl (lv_at hl 3 rfl) ?_
  refine mw_bipush hx hb (by decide +kernel) dL_act_95 ?_
  refine mw_ishr hx hb dL_act_97 ?_
  refine lv_iload_n hx hb dL_act_98 rfl (lv_at hl 0 rfl) ?_
  refine lv_iload_n hx hb dL_act_99 rfl (lv_at hl 1 rfl) ?_
  refine mw_if_eq (tgt := 107) hx hb (by omega) dL_act_100 (by decide) (fun c => absurd c (by decide)) (fun _ => ?_)
  refine mw_iconst hx hb dL_act_103 ?_
  refine lv_goto (tgt := 108) hx hb dL_act_104 (by decide) ?_
  refine mw_iadd hx hb dL_act_108 ?_
  refine mw_cSi (rest := [.int (mI (1 + (mLow (mShr V 4) 62))), .ref h0]) hC (c_L_low l (mShr V 9) ((1 + (mLow (mShr V 4) 62)) + 1) (by omega)) (va_cwS 2 hts gL_act_L_low rfl rfl rfl (by decide +kernel) ⟨Nat.le_of_ble_eq_true rfl, Nat.le_of_ble_eq_true rfl⟩) rfl hl.1 rfl (Nat.le_of_ble_eq_true rfl) ⟨Nat.zero_le _, Nat.zero_le _⟩ dL_act_109 ?_
  have b_109 := mLow_r (mShr V 9) ((1 + (mLow (mShr V 4) 62)) + 1) (by omega)
  refine mw_cK2 (rest := []) hC (k_addMarket l hfl D h0 a1 a2 cA cJ v L P (1 + (mLow (mShr V 4) 62)) (mLow (mShr V 9) ((1 + (mLow (mShr V 4) 62)) + 1)) (by omega) (by omega) hok hdis) (vx_cwSW 3 hts gL_act_L_addMarket rfl rfl rfl (by decide +kernel) ⟨Nat.le_of_ble_eq_true rfl, Nat.le_of_ble_eq_true rfl⟩) hK hPx ⟨hES, hZ0⟩ hNS rfl hl.1 rfl (Nat.le_of_ble_eq_true rfl) ⟨Nat.le_of_eq (Nat.zero_add _), Nat.le_of_eq (Nat.zero_add _)⟩ dL_act_112 (fun H locs hPx hS hz => ?_)
  have hg : s.heap.size + 0 ≤ H.size := Nat.le_trans (Nat.le_add_right _ _) hz
  refine W.eq (g2 := F0 m 115 ls [.int (mI (mK4 (mEx2 ((1 ≤ (1 + (mLow (mShr V 4) 62)) ∧ (1 + (mLow (mShr V 4) 62)) ≤ 60) ∧ 0 ≤ (mLow (mShr V 9) ((1 + (mLow (mShr V 4) 62)) + 1)) ∧ (mLow (mShr V 9) ((1 + (mLow (mShr V 4) 62)) + 1)) ≤ (1 + (mLow (mShr V 4) 62)) - 1) (v 0 < 16)) (v 0) (-99999) (-99999) (-99999)))]) rfl ?_
  exact mw_gret hx hb hr hlocks dL_act_115 rfl (by omega) hPx hS ⟨Nat.le_of_eq (Nat.zero_add _), Nat.le_of_eq (Nat.zero_add _)⟩
set_option maxHeartbeats 2000000 in
set_option maxRecDepth 100000 in
theorem g_act20 (l : Launch) (hfl : l.flags = flags0) (D : va_G) (h0 a1 a2 : Nat) (cA cJ : ClassId) (v : Nat → Int) (L P : Int → Int) (V : Int) (hV : mRI V) (ho : ¬ mLow (mShr V 24) 9 = 0) (hk9 : mLow V 7 = 2) (hdis : mDis h0 a1 a2) (hok : mOK v L P) : mG l yL_act wsL_act ({ frames := 10, cells := mC (mEx2 ((1 ≤ (1 + (mLow (mShr V 4) (1 + (mLow (mShr V 14) 59)))) ∧ (1 + (mLow (mShr V 4) (1 + (mLow (mShr V 14) 59)))) ≤ 60) ∧ 0 ≤ (mLow (mShr V 9) ((1 + (mLow (mShr V 4) (1 + (mLow (mShr V 14) 59)))) + 0)) ∧ (mLow (mShr V 9) ((1 + (mLow (mShr V 4) (1 + (mLow (mShr V 14) 59)))) + 0)) ≤ (1 + (mLow (mShr V 4) (1 + (mLow (mShr V 14) 59)))) - 1) (v 0 < 16)), slots := 6 * mC (mEx2 ((1 ≤ (1 + (mLow (mShr V 4) (1 + (mLow (mShr V 14) 59)))) ∧ (1 + (mLow (mShr V 4) (1 + (mLow (mShr V 14) 59)))) ≤ 60) ∧ 0 ≤ (mLow (mShr V 9) ((1 + (mLow (mShr V 4) (1 + (mLow (mShr V 14) 59)))) + 0)) ∧ (mLow (mShr V 9) ((1 + (mLow (mShr V 4) (1 + (mLow (mShr V 14) 59)))) + 0)) ≤ (1 + (mLow (mShr V 4) (1 + (mLow (mShr V 14) 59)))) - 1) (v 0 < 16)), locals := 172 }) [.ref h0, .int (mI (V))] D (mXW h0 a1 a2 cA v L P) (mTy cA cJ) (mK4 (mEx2 ((1 ≤ (1 + (mLow (mShr V 4) (1 + (mLow (mShr V 14) 59)))) ∧ (1 + (mLow (mShr V 4) (1 + (mLow (mShr V 14) 59)))) ≤ 60) ∧ 0 ≤ (mLow (mShr V 9) ((1 + (mLow (mShr V 4) (1 + (mLow (mShr V 14) 59)))) + 0)) ∧ (mLow (mShr V 9) ((1 + (mLow (mShr V 4) (1 + (mLow (mShr V 14) 59)))) + 0)) ≤ (1 + (mLow (mShr V 4) (1 + (mLow (mShr V 14) 59)))) - 1) (v 0 < 16)) (v 0) (-99999) (-99999) (-99999)) 0 (mXW h0 a1 a2 cA (mIf (mEx2 ((1 ≤ (1 + (mLow (mShr V 4) (1 + (mLow (mShr V 14) 59)))) ∧ (1 + (mLow (mShr V 4) (1 + (mLow (mShr V 14) 59)))) ≤ 60) ∧ 0 ≤ (mLow (mShr V 9) ((1 + (mLow (mShr V 4) (1 + (mLow (mShr V 14) 59)))) + 0)) ∧ (mLow (mShr V 9) ((1 + (mLow (mShr V 4) (1 + (mLow (mShr V 14) 59)))) + 0)) ≤ (1 + (mLow (mShr V 4) (1 + (mLow (mShr V 14) 59)))) - 1) (v 0 < 16)) (mPut v 0 (v 0 + 1)) v) (mIf (mEx2 ((1 ≤ (1 + (mLow (mShr V 4) (1 + (mLow (mShr V 14) 59)))) ∧ (1 + (mLow (mShr V 4) (1 + (mLow (mShr V 14) 59)))) ≤ 60) ∧ 0 ≤ (mLow (mShr V 9) ((1 + (mLow (mShr V 4) (1 + (mLow (mShr V 14) 59)))) + 0)) ∧ (mLow (mShr V 9) ((1 + (mLow (mShr V 4) (1 + (mLow (mShr V 14) 59)))) + 0)) ≤ (1 + (mLow (mShr V 4) (1 + (mLow (mShr V 14) 59)))) - 1) (v 0 < 16)) (mU L (v 0) (1 + (mLow (mShr V 4) (1 + (mLow (mShr V 14) 59))))) L) (mIf (mEx2 ((1 ≤ (1 + (mLow (mShr V 4) (1 + (mLow (mShr V 14) 59)))) ∧ (1 + (mLow (mShr V 4) (1 + (mLow (mShr V 14) 59)))) ≤ 60) ∧ 0 ≤ (mLow (mShr V 9) ((1 + (mLow (mShr V 4) (1 + (mLow (mShr V 14) 59)))) + 0)) ∧ (mLow (mShr V 9) ((1 + (mLow (mShr V 4) (1 + (mLow (mShr V 14) 59)))) + 0)) ≤ (1 + (mLow (mShr V 4) (1 + (mLow (mShr V 14) 59)))) - 1) (v 0 < 16)) (mU P (v 0) (mLow (mShr V 9) ((1 + (mLow (mShr V 4) (1 + (mLow (mShr V 14) 59)))) + 0))) P)) (mA3 h0 a1 a2) (mC (mEx2 ((1 ≤ (1 + (mLow (mShr V 4) (1 + (mLow (mShr V 14) 59)))) ∧ (1 + (mLow (mShr V 4) (1 + (mLow (mShr V 14) 59)))) ≤ 60) ∧ 0 ≤ (mLow (mShr V 9) ((1 + (mLow (mShr V 4) (1 + (mLow (mShr V 14) 59)))) + 0)) ∧ (mLow (mShr V 9) ((1 + (mLow (mShr V 4) (1 + (mLow (mShr V 14) 59)))) + 0)) ≤ (1 + (mLow (mShr V 4) (1 + (mLow (mShr V 14) 59)))) - 1) (v 0 < 16))) (6 * mC (mEx2 ((1 ≤ (1 + (mLow (mShr V 4) (1 + (mLow (mShr V 14) 59)))) ∧ (1 + (mLow (mShr V 4) (1 + (mLow (mShr V 14) 59)))) ≤ 60) ∧ 0 ≤ (mLow (mShr V 9) ((1 + (mLow (mShr V 4) (1 + (mLow (mShr V 14) 59)))) + 0)) ∧ (mLow (mShr V 9) ((1 + (mLow (mShr V 4) (1 + (mLow (mShr V 14) 59)))) + 0)) ≤ (1 + (mLow (mShr V 4) (1 + (mLow (mShr V 14) 59)))) - 1) (v 0 < 16))) := by
  refine mw_openG (cc := cL_act) (maxL := 5) (ret := (some .int)) (by decide) rfl (Nat.le_of_ble_eq_true rfl) ?_
  intro p e s m below meth c ls hC hr hlocks hB hE hNS hl
  obtain ⟨hx, hb, hml, hown, hts⟩ := id hC
  obtain ⟨hP, hK⟩ := hB
  obtain ⟨hES, hZ0⟩ := hE
  have hS : va_S (mA3 h0 a1 a2) s.heap s.heap [] := va_S.rf
  have hg : s.heap.size + 0 ≤ s.heap.size := Nat.le_refl _
  have hPx := hP.sub (ws' := mXW h0 a1 a2 cA v L P) [0, 1, 2] rfl
  have hl : lv_has ls 5 [(0, .ref h0), (1, .int (mI (V)))] := hl
  have hv9 := hok.1
  refine lv_iload_n hx hb dL_act_0 rfl (lv_at hl 1 rfl) ?_
  refine mw_bipush hx hb (by decide +kernel) dL_act_1 ?_
  refine mw_ishr hx hb dL_act_3 ?_
  refine mw_bipush hx hb (by decide +kernel) dL_act_4 ?_
  refine mw_cSi (rest := []) hC (c_L_low l (mShr V 24) 9 (by omega)) (va_cwS 2 hts gL_act_L_low rfl rfl rfl (by decide +kernel) ⟨Nat.le_of_ble_eq_true rfl, Nat.le_of_ble_eq_true rfl⟩) rfl hl.1 rfl (Nat.le_of_ble_eq_true rfl) ⟨Nat.zero_le _, Nat.zero_le _⟩ dL_act_6 ?_
  have b_6 := mLow_r (mShr V 24) 9 (by omega)
  refine mw_if_ne (tgt := 16) hx hb (by omega) dL_act_9 (by decide) (fun c_9 => ?_) (fun c_9 => False.elim (by exact absurd c_9 ho))
  refine mw_iconst hx hb dL_act_16 ?_
  refine lv_istore_n (lv' := [(2, .int (mI (0))), (0, .ref h0), (1, .int (mI (V)))]) hx hb dL_act_17 rfl hl (by decide) rfl (fun ls hl => ?_)
  refine mw_iconst hx hb dL_act_18 ?_
  refine lv_iload_n hx hb dL_act_19 rfl (lv_at hl 2 rfl) ?_
  refine mw_iconst hx hb dL_act_20 ?_
  refine mw_ishr hx hb dL_act_21 ?_
  refine lv_iload_n hx hb dL_act_22 rfl (lv_at hl 0 rfl) ?_
  refine mw_if_eq (tgt := 31) hx hb (by omega) dL_act_23 (by decide) (fun _ => ?_) (fun c => absurd (by decide) c)
  refine mw_iconst hx hb dL_act_31 ?_
  refine lv_iload_n hx hb dL_act_32 rfl (lv_at hl 2 rfl) ?_
  refine mw_bipush hx hb (by decide +kernel) dL_act_33 ?_
  refine mw_ishr hx hb dL_act_35 ?_
  refine mw_bipush hx hb (by decide +kernel) dL_act_36 ?_
  refine mw_cSi (rest := [.int (mI (1)), .int (mI (mShr V 4)), .int (mI (1))]) hC (c_L_low l (mShr V 14) 59 (by omega)) (va_cwS 2 hts gL_act_L_low rfl rfl rfl (by decide +kernel) ⟨Nat.le_of_ble_eq_true rfl, Nat.le_of_ble_eq_true rfl⟩) rfl hl.1 rfl (Nat.le_of_ble_eq_true rfl) ⟨Nat.zero_le _, Nat.zero_le _⟩ dL_act_38 ?_
  have b_38 := mLow_r (mShr V 14) 59 (by omega)
  refine mw_iadd hx hb dL_act_41 ?_
  refine mw_cSi (rest := [.int (mI (1))]) hC (c_L_low l (mShr V 4) (1 + (mLow (mShr V 14) 59)) (by omega)) (va_cwS 2 hts gL_act_L_low rfl rfl rfl (by decide +kernel) ⟨Nat.le_of_ble_eq_true rfl, Nat.le_of_ble_eq_true rfl⟩) rfl hl.1 rfl (Nat.le_of_ble_eq_true rfl) ⟨Nat.zero_le _, Nat.zero_le _⟩ dL_act_42 ?_
  have b_42 := mLow_r (mShr V 4) (1 + (mLow (mShr V 14) 59)) (by omega)
  refine mw_iadd hx hb dL_act_45 ?_
  refine lv_istore_n (lv' := [(3, .int (mI (1 + (mLow (mShr V 4) (1 + (mLow (mShr V 14) 59)))))), (2, .int (mI (0))), (0, .ref h0), (1, .int (mI (V)))]) hx hb dL_act_46 rfl hl (by decide) rfl (fun ls hl => ?_)
  refine lv_iload_n hx hb dL_act_47 rfl (lv_at hl 3 rfl) ?_
  refine mw_bipush hx hb (by decide +kernel) dL_act_48 ?_
  refine mw_cSi (rest := []) hC (c_L_low l V 7 (by omega)) (va_cwS 2 hts gL_act_L_low rfl rfl rfl (by decide +kernel) ⟨Nat.le_of_ble_eq_true rfl, Nat.le_of_ble_eq_true rfl⟩) rfl hl.1 rfl (Nat.le_of_ble_eq_true rfl) ⟨Nat.zero_le _, Nat.zero_le _⟩ dL_act_50 ?_
  have b_50 := mLow_r V 7 (by omega)
  refine mw_topi (y := 2) hk9 ?_
  refine lv_tableIn (off := 39) (tgt := 92) hx hb dL_act_53 (by decide +kernel) (by decide +kernel) (by decide +kernel) (by decide) ?_
  refine lv_aload_n hx hb dL_act_92 rfl (lv_at hl 2 rfl) ?_
  refine lv_iload_n hx hb dL_act_93 rfl (lv_at hl 0 rfl) ?_
  refine lv_iload_n hx hb dL_act_94 rfl (lv_at hl 3 rfl) ?_
  refine mw_bipush hx hb (by decide +kernel) dL_act_95 ?_
  refine mw_ishr hx hb dL_act_97 ?_
  refine lv_iload_n hx hb dL_act_98 rfl (lv_at hl 0 rfl) ?_
  refine lv_iload_n hx hb dL_act_99 rfl (lv_at hl 1 rfl) ?_
  refine mw_if_eq (tgt := 107) hx hb (by omega) dL_act_100 (by decide) (fun _ => ?_) (fun c => absurd (by decide) c)
  refine mw_iconst hx hb dL_act_107 ?_
  refine mw_iadd hx hb dL_act_108 ?_
  refine mw_cSi (rest := [.int (mI (1 + (mLow (mShr V 4) (1 + (mLow (mShr V 14) 59))))), .ref h0]) hC (c_L_low l (mShr V 9) ((1 + (mLow (mShr V 4) (1 + (mLow (mShr V 14) 59)))) + 0) (by omega)) (va_cwS 2 hts gL_act_L_low rfl rfl rfl (by decide +kernel) ⟨Nat.le_of_ble_eq_true rfl, Nat.le_of_ble_eq_true rfl⟩) rfl hl.1 rfl (Nat.le_of_ble_eq_true rfl) ⟨Nat.zero_le _, Nat.zero_le _⟩ dL_act_109 ?_
  have b_109 := mLow_r (mShr V 9) ((1 + (mLow (mShr V 4) (1 + (mLow (mShr V 14) 59)))) + 0) (by omega)
  refine mw_cK2 (rest := []) hC (k_addMarket l hfl D h0 a1 a2 cA cJ v L P (1 + (mLow (mShr V 4) (1 + (mLow (mShr V 14) 59)))) (mLow (mShr V 9) ((1 + (mLow (mShr V 4) (1 + (mLow (mShr V 14) 59)))) + 0)) (by omega) (by omega) hok hdis) (vx_cwSW 3 hts gL_act_L_addMarket rfl rfl rfl (by decide +kernel) ⟨Nat.le_of_ble_eq_true rfl, Nat.le_of_ble_eq_true rfl⟩) hK hPx ⟨hES, hZ0⟩ hNS rfl hl.1 rfl (Nat.le_of_ble_eq_true rfl) ⟨Nat.le_of_eq (Nat.zero_add _), Nat.le_of_eq (Nat.zero_add _)⟩ dL_act_112 (fun H locs hPx hS hz => ?_)
  have hg : s.heap.size + 0 ≤ H.size := Nat.le_trans (Nat.le_add_right _ _) hz
  refine W.eq (g2 := F0 m 115 ls [.int (mI (mK4 (mEx2 ((1 ≤ (1 + (mLow (mShr V 4) (1 + (mLow (mShr V 14) 59)))) ∧ (1 + (mLow (mShr V 4) (1 + (mLow (mShr V 14) 59)))) ≤ 60) ∧ 0 ≤ (mLow (mShr V 9) ((1 + (mLow (mShr V 4) (1 + (mLow (mShr V 14) 59)))) + 0)) ∧ (mLow (mShr V 9) ((1 + (mLow (mShr V 4) (1 + (mLow (mShr V 14) 59)))) + 0)) ≤ (1 + (mLow (mShr V 4) (1 + (mLow (mShr V 14) 59)))) - 1) (v 0 < 16)) (v 0) (-99999) (-99999) (-99999)))]) rfl ?_
  exact mw_gret hx hb hr hlocks dL_act_115 rfl (by omega) hPx hS ⟨Nat.le_of_eq (Nat.zero_add _), Nat.le_of_eq (Nat.zero_add _)⟩
set_option maxHeartbeats 2000000 in
set_option maxRecDepth 100000 in
theorem g_act21 (l : Launch) (hfl : l.flags = flags0) (D : va_G) (h0 a1 a2 : Nat) (cA cJ : ClassId) (v : Nat → Int) (L P : Int → Int) (V : Int) (hV : mRI V) (ho : mLow (mShr V 24) 9 = 0) (hk9 : mLow V 7 = 2) (hdis : mDis h0 a1 a2) (hok : mOK v L P) : mG l yL_act wsL_act ({ frames := 10, cells := mC (mEx2 ((1 ≤ (1 + (mLow (mShr V 4) 62)) ∧ (1 + (mLow (mShr V 4) 62)) ≤ 60) ∧ 0 ≤ (mLow (mShr V 9) ((1 + (mLow (mShr V 4) 62)) + 1)) ∧ (mLow (mShr V 9) ((1 + (mLow (mShr V 4) 62)) + 1)) ≤ (1 + (mLow (mShr V 4) 62)) - 1) (v 0 < 16)), slots := 6 * mC (mEx2 ((1 ≤ (1 + (mLow (mShr V 4) 62)) ∧ (1 + (mLow (mShr V 4) 62)) ≤ 60) ∧ 0 ≤ (mLow (mShr V 9) ((1 + (mLow (mShr V 4) 62)) + 1)) ∧ (mLow (mShr V 9) ((1 + (mLow (mShr V 4) 62)) + 1)) ≤ (1 + (mLow (mShr V 4) 62)) - 1) (v 0 < 16)), locals := 172 }) [.ref h0, .int (mI (V))] D (mXW h0 a1 a2 cA v L P) (mTy cA cJ) (mK4 (mEx2 ((1 ≤ (1 + (mLow (mShr V 4) 62)) ∧ (1 + (mLow (mShr V 4) 62)) ≤ 60) ∧ 0 ≤ (mLow (mShr V 9) ((1 + (mLow (mShr V 4) 62)) + 1)) ∧ (mLow (mShr V 9) ((1 + (mLow (mShr V 4) 62)) + 1)) ≤ (1 + (mLow (mShr V 4) 62)) - 1) (v 0 < 16)) (v 0) (-99999) (-99999) (-99999)) 0 (mXW h0 a1 a2 cA (mIf (mEx2 ((1 ≤ (1 + (mLow (mShr V 4) 62)) ∧ (1 + (mLow (mShr V 4) 62)) ≤ 60) ∧ 0 ≤ (mLow (mShr V 9) ((1 + (mLow (mShr V 4) 62)) + 1)) ∧ (mLow (mShr V 9) ((1 + (mLow (mShr V 4) 62)) + 1)) ≤ (1 + (mLow (mShr V 4) 62)) - 1) (v 0 < 16)) (mPut v 0 (v 0 + 1)) v) (mIf (mEx2 ((1 ≤ (1 + (mLow (mShr V 4) 62)) ∧ (1 + (mLow (mShr V 4) 62)) ≤ 60) ∧ 0 ≤ (mLow (mShr V 9) ((1 + (mLow (mShr V 4) 62)) + 1)) ∧ (mLow (mShr V 9) ((1 + (mLow (mShr V 4) 62)) + 1)) ≤ (1 + (mLow (mShr V 4) 62)) - 1) (v 0 < 16)) (mU L (v 0) (1 + (mLow (mShr V 4) 62))) L) (mIf (mEx2 ((1 ≤ (1 + (mLow (mShr V 4) 62)) ∧ (1 + (mLow (mShr V 4) 62)) ≤ 60) ∧ 0 ≤ (mLow (mShr V 9) ((1 + (mLow (mShr V 4) 62)) + 1)) ∧ (mLow (mShr V 9) ((1 + (mLow (mShr V 4) 62)) + 1)) ≤ (1 + (mLow (mShr V 4) 62)) - 1) (v 0 < 16)) (mU P (v 0) (mLow (mShr V 9) ((1 + (mLow (mShr V 4) 62)) + 1))) P)) (mA3 h0 a1 a2) (mC (mEx2 ((1 ≤ (1 + (mLow (mShr V 4) 62)) ∧ (1 + (mLow (mShr V 4) 62)) ≤ 60) ∧ 0 ≤ (mLow (mShr V 9) ((1 + (mLow (mShr V 4) 62)) + 1)) ∧ (mLow (mShr V 9) ((1 + (mLow (mShr V 4) 62)) + 1)) ≤ (1 + (mLow (mShr V 4) 62)) - 1) (v 0 < 16))) (6 * mC (mEx2 ((1 ≤ (1 + (mLow (mShr V 4) 62)) ∧ (1 + (mLow (mShr V 4) 62)) ≤ 60) ∧ 0 ≤ (mLow (mShr V 9) ((1 + (mLow (mShr V 4) 62)) + 1)) ∧ (mLow (mShr V 9) ((1 + (mLow (mShr V 4) 62)) + 1)) ≤ (1 + (mLow (mShr V 4) 62)) - 1) (v 0 < 16))) := by
  refine mw_openG (cc := cL_act) (maxL := 5) (ret := (some .int)) (by decide) rfl (Nat.le_of_ble_eq_true rfl) ?_
  intro p e s m below meth c ls hC hr hlocks hB hE hNS hl
  obtain ⟨hx, hb, hml, hown, hts⟩ := id hC
  obtain ⟨hP, hK⟩ := hB
  obtain ⟨hES, hZ0⟩ := hE
  have hS : va_S (mA3 h0 a1 a2) s.heap s.heap [] := va_S.rf
  have hg : s.heap.size + 0 ≤ s.heap.size := Nat.le_refl _
  have hPx := hP.sub (ws' := mXW h0 a1 a2 cA v L P) [0, 1, 2] rfl
  have hl : lv_has ls 5 [(0, .ref h0), (1, .int (mI (V)))] := hl
  have hv9 := hok.1
  refine lv_iload_n hx hb dL_act_0 rfl (lv_at hl 1 rfl) ?_
  refine mw_bipush hx hb (by decide +kernel) dL_act_1 ?_
  refine mw_ishr hx hb dL_act_3 ?_
  refine mw_bipush hx hb (by decide +kernel) dL_act_4 ?_
  refine mw_cSi (rest := []) hC (c_L_low l (mShr V 24) 9 (by omega)) (va_cwS 2 hts gL_act_L_low rfl rfl rfl (by decide +kernel) ⟨Nat.le_of_ble_eq_true rfl, Nat.le_of_ble_eq_true rfl⟩) rfl hl.1 rfl (Nat.le_of_ble_eq_true rfl) ⟨Nat.zero_le _, Nat.zero_le _⟩ dL_act_6 ?_
  have b_6 := mLow_r (mShr V 24) 9 (by omega)
  refine mw_if_ne (tgt := 16) hx hb (by omega) dL_act_9 (by decide) (fun c_9 => False.elim (by exact absurd ho c_9)) (fun c_9 => ?_)
  refine mw_iconst hx hb dL_act_12 ?_
  refine lv_goto (tgt := 17) hx hb dL_act_13 (by decide) ?_
  refine lv_istore_n (lv' := [(2, .int (mI (1))), (0, .ref h0), (1, .int (mI (V)))]) hx hb dL_act_17 rfl hl (by decide) rfl (fun ls hl => ?_)
  refine mw_iconst hx hb dL_act_18 ?_
  refine lv_iload_n hx hb dL_act_19 rfl (lv_at hl 2 rfl) ?_
  refine mw_iconst hx hb dL_act_20 ?_
  refine mw_ishr hx hb dL_act_21 ?_
  refine lv_iload_n hx hb dL_act_22 rfl (lv_at hl 0 rfl) ?_
  refine mw_if_eq (tgt := 31) hx hb (by omega) dL_act_23 (by decide) (fun c => absurd c (by decide)) (fun _ => ?_)
  refine mw_bipush hx hb (by decide +kernel) dL_act_26 ?_
  refine lv_goto (tgt := 42) hx hb dL_act_28 (by decide) ?_
  refine mw_cSi (rest := [.int (mI (1))]) hC (c_L_low l (mShr V 4) 62 (by omega)) (va_cwS 2 hts gL_act_L_low rfl rfl rfl (by decide +kernel) ⟨Nat.le_of_ble_eq_true rfl, Nat.le_of_ble_eq_true rfl⟩) rfl hl.1 rfl (Nat.le_of_ble_eq_true rfl) ⟨Nat.zero_le _, Nat.zero_le _⟩ dL_act_42 ?_
  have b_42 := mLow_r (mShr V 4) 62 (by omega)
  refine mw_iadd hx hb dL_act_45 ?_
  refine lv_istore_n (lv' := [(3, .int (mI (1 + (mLow (mShr V 4) 62)))), (2, .int (mI (1))), (0, .ref h0), (1, .int (mI (V)))]) hx hb dL_act_46 rfl hl (by decide) rfl (fun ls hl => ?_)
  refine lv_iload_n hx hb dL_act_47 rfl (lv_at hl 3 rfl) ?_
  refine mw_bipush hx hb (by decide +kernel) dL_act_48 ?_
  refine mw_cSi (rest := []) hC (c_L_low l V 7 (by omega)) (va_cwS 2 hts gL_act_L_low rfl rfl rfl (by decide +kernel) ⟨Nat.le_of_ble_eq_true rfl, Nat.le_of_ble_eq_true rfl⟩) rfl hl.1 rfl (Nat.le_of_ble_eq_true rfl) ⟨Nat.zero_le _, Nat.zero_le _⟩ dL_act_50 ?_
  have b_50 := mLow_r V 7 (by omega)
  refine mw_topi (y := 2) hk9 ?_
  refine lv_tableIn (off := 39) (tgt := 92) hx hb dL_act_53 (by decide +kernel) (by decide +kernel) (by decide +kernel) (by decide) ?_
  refine lv_aload_n hx hb dL_act_92 rfl (lv_at hl 2 rfl) ?_
  refine lv_iload_n hx hb dL_act_93 rfl (lv_at hl 0 rfl) ?_
  refine lv_iload_n hx hb dL_act_94 rfl (lv_at hl 3 rfl) ?_
  refine mw_bipush hx hb (by decide +kernel) dL_act_95 ?_
  refine mw_ishr hx hb dL_act_97 ?_
  refine lv_iload_n hx hb dL_act_98 rfl (lv_at hl 0 rfl) ?_
  refine lv_iload_n hx hb dL_act_99 rfl (lv_at hl 1 rfl) ?_
  refine mw_if_eq (tgt := 107) hx hb (by omega) dL_act_100 (by decide) (fun c => absurd c (by decide)) (fun _ => ?_)
  refine mw_iconst hx hb dL_act_103 ?_
  refine lv_goto (tgt := 108) hx hb dL_act_104 (by decide) ?_
  refine mw_iadd hx hb dL_act_108 ?_
  refine mw_cSi (rest := [.int (mI (1 + (mLow (mShr V 4) 62))), .ref h0]) hC (c_L_low l (mShr V 9) ((1 + (mLow (mShr V 4) 62)) + 1) (by omega)) (va_cwS 2 hts gL_act_L_low rfl rfl rfl (by decide +kernel) ⟨Nat.le_of_ble_eq_true rfl, Nat.le_of_ble_eq_true rfl⟩) rfl hl.1 rfl (Nat.le_of_ble_eq_true rfl) ⟨Nat.zero_le _, Nat.zero_le _⟩ dL_act_109 ?_
  have b_109 := mLow_r (mShr V 9) ((1 + (mLow (mShr V 4) 62)) + 1) (by omega)
  refine mw_cK2 (rest := []) hC (k_addMarket l hfl D h0 a1 a2 cA cJ v L P (1 + (mLow (mShr V 4) 62)) (mLow (mShr V 9) ((1 + (mLow (mShr V 4) 62)) + 1)) (by omega) (by omega) hok hdis) (vx_cwSW 3 hts gL_act_L_addMarket rfl rfl rfl (by decide +kernel) ⟨Nat.le_of_ble_eq_true rfl, Nat.le_of_ble_eq_true rfl⟩) hK hPx ⟨hES, hZ0⟩ hNS rfl hl.1 rfl (Nat.le_of_ble_eq_true rfl) ⟨Nat.le_of_eq (Nat.zero_add _), Nat.le_of_eq (Nat.zero_add _)⟩ dL_act_112 (fun H locs hPx hS hz => ?_)
  have hg : s.heap.size + 0 ≤ H.size := Nat.le_trans (Nat.le_add_right _ _) hz
  refine W.eq (g2 := F0 m 115 ls [.int (mI (mK4 (mEx2 ((1 ≤ (1 + (mLow (mShr V 4) 62)) ∧ (1 + (mLow (mShr V 4) 62)) ≤ 60) ∧ 0 ≤ (mLow (mShr V 9) ((1 + (mLow (mShr V 4) 62)) + 1)) ∧ (mLow (mShr V 9) ((1 + (mLow (mShr V 4) 62)) + 1)) ≤ (1 + (mLow (mShr V 4) 62)) - 1) (v 0 < 16)) (v 0) (-99999) (-99999) (-99999)))]) rfl ?_
  exact mw_gret hx hb hr hlocks dL_act_115 rfl (by omega) hPx hS ⟨Nat.le_of_eq (Nat.zero_add _), Nat.le_of_eq (Nat.zero_add _)⟩
set_option maxHeartbeats 2000000 in
set_option maxRecDepth 100000 in
theorem g_act30 (l : Launch) (hfl : l.flags = flags0) (D : va_G) (h0 a1 a2 : Nat) (cA cJ : ClassId) (v : Nat → Int) (L P : Int → Int) (V : Int) (hV : mRI V) (ho : ¬ mLow (mShr V 24) 9 = 0) (hk9 : mLow V 7 = 3) (hdis : mDis h0 a1 a2) (hok : mOK v L P) : mG l yL_act wsL_act ({ frames := 10, cells := mC (mEx2 (mMk v (mLow (mShr V 5) ((v 0) + 1))) (-60 ≤ ((mLow (mShr V 9) 121) - 60) ∧ ((mLow (mShr V 9) 121) - 60) ≤ 60)), slots := 6 * mC (mEx2 (mMk v (mLow (mShr V 5) ((v 0) + 1))) (-60 ≤ ((mLow (mShr V 9) 121) - 60) ∧ ((mLow (mShr V 9) 121) - 60) ≤ 60)), locals := 172 }) [.ref h0, .int (mI (V))] D (mXW h0 a1 a2 cA v L P) (mTy cA cJ) (mK4 (mEx2 (mMk v (mLow (mShr V 5) ((v 0) + 1))) (-60 ≤ ((mLow (mShr V 9) 121) - 60) ∧ ((mLow (mShr V 9) 121) - 60) ≤ 60)) ((P (mLow (mShr V 5) ((v 0) + 1)) + ((mLow (mShr V 9) 121) - 60)) % L (mLow (mShr V 5) ((v 0) + 1))) (-99999) (-99999) (-99999)) 0 (mXW h0 a1 a2 cA (mIf (mEx2 (mMk v (mLow (mShr V 5) ((v 0) + 1))) (-60 ≤ ((mLow (mShr V 9) 121) - 60) ∧ ((mLow (mShr V 9) 121) - 60) ≤ 60)) v v) (mIf (mEx2 (mMk v (mLow (mShr V 5) ((v 0) + 1))) (-60 ≤ ((mLow (mShr V 9) 121) - 60) ∧ ((mLow (mShr V 9) 121) - 60) ≤ 60)) L L) (mIf (mEx2 (mMk v (mLow (mShr V 5) ((v 0) + 1))) (-60 ≤ ((mLow (mShr V 9) 121) - 60) ∧ ((mLow (mShr V 9) 121) - 60) ≤ 60)) (mU P (mLow (mShr V 5) ((v 0) + 1)) ((P (mLow (mShr V 5) ((v 0) + 1)) + ((mLow (mShr V 9) 121) - 60)) % L (mLow (mShr V 5) ((v 0) + 1)))) P)) (mA3 h0 a1 a2) (mC (mEx2 (mMk v (mLow (mShr V 5) ((v 0) + 1))) (-60 ≤ ((mLow (mShr V 9) 121) - 60) ∧ ((mLow (mShr V 9) 121) - 60) ≤ 60))) (6 * mC (mEx2 (mMk v (mLow (mShr V 5) ((v 0) + 1))) (-60 ≤ ((mLow (mShr V 9) 121) - 60) ∧ ((mLow (mShr V 9) 121) - 60) ≤ 60))) := by
  refine mw_openG (cc := cL_act) (maxL := 5) (ret := (some .int)) (by decide) rfl (Nat.le_of_ble_eq_true rfl) ?_
  intro p e s m below meth c ls hC hr hlocks hB hE hNS hl
  obtain ⟨hx, hb, hml, hown, hts⟩ := id hC
  obtain ⟨hP, hK⟩ := hB
  obtain ⟨hES, hZ0⟩ := hE
  have hS : va_S (mA3 h0 a1 a2) s.heap s.heap [] := va_S.rf
  have hg : s.heap.size + 0 ≤ s.heap.size := Nat.le_refl _
  have hPx := hP.sub (ws' := mXW h0 a1 a2 cA v L P) [0, 1, 2] rfl
  have hl : lv_has ls 5 [(0, .ref h0), (1, .int (mI (V)))] := hl
  have hv9 := hok.1
  refine lv_iload_n hx hb dL_act_0 rfl (lv_at hl 1 rfl) ?_
  refine mw_bipush hx hb (by decide +kernel) dL_act_1 ?_
  refine mw_ishr hx hb dL_act_3 ?_
  refine mw_bipush hx hb (by decide +kernel) dL_act_4 ?_
  refine mw_cSi (rest := []) hC (c_L_low l (mShr V 24) 9 (by omega)) (va_cwS 2 hts gL_act_L_low rfl rfl rfl (by decide +kernel) ⟨Nat.le_of_ble_eq_true rfl, Nat.le_of_ble_eq_true rfl⟩) rfl hl.1 rfl (Nat.le_of_ble_eq_true rfl) ⟨Nat.zero_le _, Nat.zero_le _⟩ dL_act_6 ?_
  have b_6 := mLow_r (mShr V 24) 9 (by omega)
  refine mw_if_ne (tgt := 16) hx hb (by omega) dL_act_9 (by decide) (fun c_9 => ?_) (fun c_9 => False.elim (by exact absurd c_9 ho))
  refine mw_iconst hx hb dL_act_16 ?_
  refine lv_istore_n (lv' := [(2, .int (mI (0))), (0, .ref h0), (1, .int (mI (V)))]) hx hb dL_act_17 rfl hl (by decide) rfl (fun ls hl => ?_)
  refine mw_iconst hx hb dL_act_18 ?_
  refine lv_iload_n hx hb dL_act_19 rfl (lv_at hl 2 rfl) ?_
  refine mw_iconst hx hb dL_act_20 ?_
  refine mw_ishr hx hb dL_act_21 ?_
  refine lv_iload_n hx hb dL_act_22 rfl (lv_at hl 0 rfl) ?_
  refine mw_if_eq (tgt := 31) hx hb (by omega) dL_act_23 (by decide) (fun _ => ?_) (fun c => absurd (by decide) c)
  refine mw_iconst hx hb dL_act_31 ?_
  refine lv_iload_n hx hb dL_act_32 rfl (lv_at hl 2 rfl) ?_
  refine mw_bipush hx hb (by decide +kernel) dL_act_33 ?_
  refine mw_ishr hx hb dL_act_35 ?_
  refine mw_bipush hx hb (by decide +kernel) dL_act_36 ?_
  refine mw_cSi (rest := [.int (mI (1)), .int (mI (mShr V 4)), .int (mI (1))]) hC (c_L_low l (mShr V 14) 59 (by omega)) (va_cwS 2 hts gL_act_L_low rfl rfl rfl (by decide +kernel) ⟨Nat.le_of_ble_eq_true rfl, Nat.le_of_ble_eq_true rfl⟩) rfl hl.1 rfl (Nat.le_of_ble_eq_true rfl) ⟨Nat.zero_le _, Nat.zero_le _⟩ dL_act_38 ?_
  have b_38 := mLow_r (mShr V 14) 59 (by omega)
  refine mw_iadd hx hb dL_act_41 ?_
  refine mw_cSi (rest := [.int (mI (1))]) hC (c_L_low l (mShr V 4) (1 + (mLow (mShr V 14) 59)) (by omega)) (va_cwS 2 hts gL_act_L_low rfl rfl rfl (by decide +kernel) ⟨Nat.le_of_ble_eq_true rfl, Nat.le_of_ble_eq_true rfl⟩) rfl hl.1 rfl (Nat.le_of_ble_eq_true rfl) ⟨Nat.zero_le _, Nat.zero_le _⟩ dL_act_42 ?_
  have b_42 := mLow_r (mShr V 4) (1 + (mLow (mShr V 14) 59)) (by omega)
  refine mw_iadd hx hb dL_act_45 ?_
  refine lv_istore_n (lv' := [(3, .int (mI (1 + (mLow (mShr V 4) (1 + (mLow (mShr V 14) 59)))))), (2, .int (mI (0))), (0, .ref h0), (1, .int (mI (V)))]) hx hb dL_act_46 rfl hl (by decide) rfl (fun ls hl => ?_)
  refine lv_iload_n hx hb dL_act_47 rfl (lv_at hl 3 rfl) ?_
  refine mw_bipush hx hb (by decide +kernel) dL_act_48 ?_
  refine mw_cSi (rest := []) hC (c_L_low l V 7 (by omega)) (va_cwS 2 hts gL_act_L_low rfl rfl rfl (by decide +kernel) ⟨Nat.le_of_ble_eq_true rfl, Nat.le_of_ble_eq_true rfl⟩) rfl hl.1 rfl (Nat.le_of_ble_eq_true rfl) ⟨Nat.zero_le _, Nat.zero_le _⟩ dL_act_50 ?_
  have b_50 := mLow_r V 7 (by omega)
  refine mw_topi (y := 3) hk9 ?_
  refine lv_tableIn (off := 63) (tgt := 116) hx hb dL_act_53 (by decide +kernel) (by decide +kernel) (by decide +kernel) (by decide) ?_
  refine lv_aload_n hx hb dL_act_116 rfl (lv_at hl 2 rfl) ?_
  refine lv_iload_n hx hb dL_act_117 rfl (lv_at hl 3 rfl) ?_
  refine mw_iconst hx hb dL_act_118 ?_
  refine mw_ishr hx hb dL_act_119 ?_
  refine lv_iload_n hx hb dL_act_120 rfl (lv_at hl 1 rfl) ?_
  refine mw_if_eq (tgt := 129) hx hb (by omega) dL_act_121 (by decide) (fun _ => ?_) (fun c => absurd (by decide) c)
  refine lv_aload_n hx hb dL_act_129 rfl (lv_at hl 2 rfl) ?_
  refine mw_cVi (rest := [.int (mI (mShr V 5)), .ref h0]) (q := (RX0, TX0, 10)) hC (c_X0_markets l D h0 a1 a2 cA cJ v L P) (cwV 0 hts gL_act_X0_markets rfl rfl rfl (by decide +kernel) ⟨Nat.le_of_ble_eq_true rfl, Nat.le_of_ble_eq_true rfl⟩) hK hPx rfl rfl rfl hl.1 rfl (Nat.le_of_ble_eq_true rfl) ⟨Nat.zero_le _, Nat.zero_le _⟩ dL_act_130 ?_
  refine mw_iconst hx hb dL_act_133 ?_
  refine mw_iadd hx hb dL_act_134 ?_
  refine mw_cSi (rest := [.ref h0]) hC (c_L_low l (mShr V 5) ((v 0) + 1) (by omega)) (va_cwS 2 hts gL_act_L_low rfl rfl rfl (by decide +kernel) ⟨Nat.le_of_ble_eq_true rfl, Nat.le_of_ble_eq_true rfl⟩) rfl hl.1 rfl (Nat.le_of_ble_eq_true rfl) ⟨Nat.zero_le _, Nat.zero_le _⟩ dL_act_135 ?_
  have b_135 := mLow_r (mShr V 5) ((v 0) + 1) (by omega)
  refine lv_iload_n hx hb dL_act_138 rfl (lv_at hl 3 rfl) ?_
  refine mw_bipush hx hb (by decide +kernel) dL_act_139 ?_
  refine mw_ishr hx hb dL_act_141 ?_
  refine lv_iload_n hx hb dL_act_142 rfl (lv_at hl 1 rfl) ?_
  refine mw_if_eq (tgt := 152) hx hb (by omega) dL_act_143 (by decide) (fun _ => ?_) (fun c => absurd (by decide) c)
  refine mw_bipush hx hb (by decide +kernel) dL_act_152 ?_
  refine mw_cSi (rest := [.int (mI (mLow (mShr V 5) ((v 0) + 1))), .ref h0]) hC (c_L_low l (mShr V 9) 121 (by omega)) (va_cwS 2 hts gL_act_L_low rfl rfl rfl (by decide +kernel) ⟨Nat.le_of_ble_eq_true rfl, Nat.le_of_ble_eq_true rfl⟩) rfl hl.1 rfl (Nat.le_of_ble_eq_true rfl) ⟨Nat.zero_le _, Nat.zero_le _⟩ dL_act_154 ?_
  have b_154 := mLow_r (mShr V 9) 121 (by omega)
  refine mw_bipush hx hb (by decide +kernel) dL_act_157 ?_
  refine mw_isub hx hb dL_act_159 ?_
  refine mw_cK2 (rest := []) hC (k_shift l hfl D h0 a1 a2 cA cJ v L P (mLow (mShr V 5) ((v 0) + 1)) ((mLow (mShr V 9) 121) - 60) (by omega) (by omega) hok hdis) (vx_cwSW 3 hts gL_act_L_shift rfl rfl rfl (by decide +kernel) ⟨Nat.le_of_ble_eq_true rfl, Nat.le_of_ble_eq_true rfl⟩) hK hPx ⟨hES, hZ0⟩ hNS rfl hl.1 rfl (Nat.le_of_ble_eq_true rfl) ⟨Nat.le_of_eq (Nat.zero_add _), Nat.le_of_eq (Nat.zero_add _)⟩ dL_act_160 (fun H locs hPx hS hz => ?_)
  have hg : s.heap.size + 0 ≤ H.size := Nat.le_trans (Nat.le_add_right _ _) hz
  refine W.eq (g2 := F0 m 163 ls [.int (mI (mK4 (mEx2 (mMk v (mLow (mShr V 5) ((v 0) + 1))) (-60 ≤ ((mLow (mShr V 9) 121) - 60) ∧ ((mLow (mShr V 9) 121) - 60) ≤ 60)) ((P (mLow (mShr V 5) ((v 0) + 1)) + ((mLow (mShr V 9) 121) - 60)) % L (mLow (mShr V 5) ((v 0) + 1))) (-99999) (-99999) (-99999)))]) rfl ?_
  exact mw_gret hx hb hr hlocks dL_act_163 rfl (by omega) hPx hS ⟨Nat.le_of_eq (Nat.zero_add _), Nat.le_of_eq (Nat.zero_add _)⟩
set_option maxHeartbeats 2000000 in
set_option maxRecDepth 100000 in
theorem g_act31 (l : Launch) (hfl : l.flags = flags0) (D : va_G) (h0 a1 a2 : Nat) (cA cJ : ClassId) (v : Nat → Int) (L P : Int → Int) (V : Int) (hV : mRI V) (ho : mLow (mShr V 24) 9 = 0) (hk9 : mLow V 7 = 3) (hdis : mDis h0 a1 a2) (hok : mOK v L P) : mG l yL_act wsL_act ({ frames := 10, cells := mC (mEx2 (mMk v (mLow (mShr V 5) 17)) (-60 ≤ ((mLow (mShr V 9) 140) - 60) ∧ ((mLow (mShr V 9) 140) - 60) ≤ 60)), slots := 6 * mC (mEx2 (mMk v (mLow (mShr V 5) 17)) (-60 ≤ ((mLow (mShr V 9) 140) - 60) ∧ ((mLow (mShr V 9) 140) - 60) ≤ 60)), locals := 172 }) [.ref h0, .int (mI (V))] D (mXW h0 a1 a2 cA v L P) (mTy cA cJ) (mK4 (mEx2 (mMk v (mLow (mShr V 5) 17)) (-60 ≤ ((mLow (mShr V 9) 140) - 60) ∧ ((mLow (mShr V 9) 140) - 60) ≤ 60)) ((P (mLow (mShr V 5) 17) + ((mLow (mShr V 9) 140) - 60)) % L (mLow (mShr V 5) 17)) (-99999) (-99999) (-99999)) 0 (mXW h0 a1 a2 cA (mIf (mEx2 (mMk v (mLow (mShr V 5) 17)) (-60 ≤ ((mLow (mShr V 9) 140) - 60) ∧ ((mLow (mShr V 9) 140) - 60) ≤ 60)) v v) (mIf (mEx2 (mMk v (mLow (mShr V 5) 17)) (-60 ≤ ((mLow (mShr V 9) 140) - 60) ∧ ((mLow (mShr V 9) 140) - 60) ≤ 60)) L L) (mIf (mEx2 (mMk v (mLow (mShr V 5) 17)) (-60 ≤ ((mLow (mShr V 9) 140) - 60) ∧ ((mLow (mShr V 9) 140) - 60) ≤ 60)) (mU P (mLow (mShr V 5) 17) ((P (mLow (mShr V 5) 17) + ((mLow (mShr V 9) 140) - 60)) % L (mLow (mShr V 5) 17))) P)) (mA3 h0 a1 a2) (mC (mEx2 (mMk v (mLow (mShr V 5) 17)) (-60 ≤ ((mLow (mShr V 9) 140) - 60) ∧ ((mLow (mShr V 9) 140) - 60) ≤ 60))) (6 * mC (mEx2 (mMk v (mLow (mShr V 5) 17)) (-60 ≤ ((mLow (mShr V 9) 140) - 60) ∧ ((mLow (mShr V 9) 140) - 60) ≤ 60))) := by
  refine mw_openG (cc := cL_act) (maxL := 5) (ret := (some .int)) (by decide) rfl (Nat.le_of_ble_eq_true rfl) ?_
  intro p e s m below meth c ls hC hr hlocks hB hE hNS hl
  obtain ⟨hx, hb, hml, hown, hts⟩ := id hC
  obtain ⟨hP, hK⟩ := hB
  obtain ⟨hES, hZ0⟩ := hE
  have hS : va_S (mA3 h0 a1 a2) s.heap s.heap [] := va_S.rf
  have hg : s.heap.size + 0 ≤ s.heap.size := Nat.le_refl _
  have hPx := hP.sub (ws' := mXW h0 a1 a2 cA v L P) [0, 1, 2] rfl
  have hl : lv_has ls 5 [(0, .ref h0), (1, .int (mI (V)))] := hl
  have hv9 := hok.1
  refine lv_iload_n hx hb dL_act_0 rfl (lv_at hl 1 rfl) ?_
  refine mw_bipush hx hb (by decide +kernel) dL_act_1 ?_
  refine mw_ishr hx hb dL_act_3 ?_
  refine mw_bipush hx hb (by decide +kernel) dL_act_4 ?_
  refine mw_cSi (rest := []) hC (c_L_low l (mShr V 24) 9 (by omega)) (va_cwS 2 hts gL_act_L_low rfl rfl rfl (by decide +kernel) ⟨Nat.le_of_ble_eq_true rfl, Nat.le_of_ble_eq_true rfl⟩) rfl hl.1 rfl (Nat.le_of_ble_eq_true rfl) ⟨Nat.zero_le _, Nat.zero_le _⟩ dL_act_6 ?_
  have b_6 := mLow_r (mShr V 24) 9 (by omega)
  refine mw_if_ne (tgt := 16) hx hb (by omega) dL_act_9 (by decide) (fun c_9 => False.elim (by exact absurd ho c_9)) (fun c_9 => ?_)
  refine mw_iconst hx hb dL_act_12 ?_
  refine lv_goto (tgt := 17) hx hb dL_act_13 (by decide) ?_
  refine lv_istore_n (lv' := [(2, .int (mI (1))), (0, .ref h0), (1, .int (mI (V)))]) hx hb dL_act_17 rfl hl (by decide) rfl (fun ls hl => ?_)
  refine mw_iconst hx hb dL_act_18 ?_
  refine lv_iload_n hx hb dL_act_19 rfl (lv_at hl 2 rfl) ?_
  refine mw_iconst hx hb dL_act_20 ?_
  refine mw_ishr hx hb dL_act_21 ?_
  refine lv_iload_n hx hb dL_act_22 rfl (lv_at hl 0 rfl) ?_
  refine mw_if_eq (tgt := 31) hx hb (by omega) dL_act_23 (by decide) (fun c => absurd c (by decide)) (fun _ => ?_)
  refine mw_bipush hx hb (by decide +kernel) dL_act_26 ?_
  refine lv_goto (tgt := 42) hx hb dL_act_28 (by decide) ?_
  refine mw_cSi (rest := [.int (mI (1))]) hC (c_L_low l (mShr V 4) 62 (by omega)) (va_cwS 2 hts gL_act_L_low rfl rfl rfl (by decide +kernel) ⟨Nat.le_of_ble_eq_true rfl, Nat.le_of_ble_eq_true rfl⟩) rfl hl.1 rfl (Nat.le_of_ble_eq_true rfl) ⟨Nat.zero_le _, Nat.zero_le _⟩ dL_act_42 ?_
  have b_42 := mLow_r (mShr V 4) 62 (by omega)
  refine mw_iadd hx hb dL_act_45 ?_
  refine lv_istore_n (lv' := [(3, .int (mI (1 + (mLow (mShr V 4) 62)))), (2, .int (mI (1))), (0, .ref h0), (1, .int (mI (V)))]) hx hb dL_act_46 rfl hl (by decide) rfl (fun ls hl => ?_)
  refine lv_iload_n hx hb dL_act_47 rfl (lv_at hl 3 rfl) ?_
  refine mw_bipush hx hb (by decide +kernel) dL_act_48 ?_
  refine mw_cSi (rest := []) hC (c_L_low l V 7 (by omega)) (va_cwS 2 hts gL_act_L_low rfl rfl rfl (by decide +kernel) ⟨Nat.le_of_ble_eq_true rfl, Nat.le_of_ble_eq_true rfl⟩) rfl hl.1 rfl (Nat.le_of_ble_eq_true rfl) ⟨Nat.zero_le _, Nat.zero_le _⟩ dL_act_50 ?_
  have b_50 := mLow_r V 7 (by omega)
  refine mw_topi (y := 3) hk9 ?_
  refine lv_tableIn (off := 63) (tgt := 116) hx hb dL_act_53 (by decide +kernel) (by decide +kernel) (by decide +kernel) (by decide) ?_
  refine lv_aload_n hx hb dL_act_116 rfl (lv_at hl 2 rfl) ?_
  refine lv_iload_n hx hb dL_act_117 rfl (lv_at hl 3 rfl) ?_
  refine mw_iconst hx hb dL_act_118 ?_
  refine mw_ishr hx hb dL_act_119 ?_
  refine lv_iload_n hx hb dL_act_120 rfl (lv_at hl 1 rfl) ?_
  refine mw_if_eq (tgt := 129) hx hb (by omega) dL_act_121 (by decide) (fun c => absurd c (by decide)) (fun _ => ?_)
  refine mw_bipush hx hb (by decide +kernel) dL_act_124 ?_
  refine lv_goto (tgt := 135) hx hb dL_act_126 (by decide) ?_
  refine mw_cSi (rest := [.ref h0]) hC (c_L_low l (mShr V 5) 17 (by omega)) (va_cwS 2 hts gL_act_L_low rfl rfl rfl (by decide +kernel) ⟨Nat.le_of_ble_eq_true rfl, Nat.le_of_ble_eq_true rfl⟩) rfl hl.1 rfl (Nat.le_of_ble_eq_true rfl) ⟨Nat.zero_le _, Nat.zero_le _⟩ dL_act_135 ?_
  have b_135 := mLow_r (mShr V 5) 17 (by omega)
  refine lv_iload_n hx hb dL_act_138 rfl (lv_at hl 3 rfl) ?_
  refine mw_bipush hx hb (by decide +kernel) dL_act_139 ?_
  refine mw_ishr hx hb dL_act_141 ?_
  refine lv_iload_n hx hb dL_act_142 rfl (lv_at hl 1 rfl) ?_
  refine mw_if_eq (tgt := 152) hx hb (by omega) dL_act_143 (by decide) (fun c => absurd c (by decide)) (fun _ => ?_)
  refine mw_sipush hx hb (by decide +kernel) dL_act_146 ?_
  refine lv_goto (tgt := 154) hx hb dL_act_149 (by decide) ?_
  refine mw_cSi (rest := [.int (mI (mLow (mShr V 5) 17)), .ref h0]) hC (c_L_low l (mShr V 9) 140 (by omega)) (va_cwS 2 hts gL_act_L_low rfl rfl rfl (by decide +kernel) ⟨Nat.le_of_ble_eq_true rfl, Nat.le_of_ble_eq_true rfl⟩) rfl hl.1 rfl (Nat.le_of_ble_eq_true rfl) ⟨Nat.zero_le _, Nat.zero_le _⟩ dL_act_154 ?_
  have b_154 := mLow_r (mShr V 9) 140 (by omega)
  refine mw_bipush hx hb (by decide +kernel) dL_act_157 ?_
  refine mw_isub hx hb dL_act_159 ?_
  refine mw_cK2 (rest := []) hC (k_shift l hfl D h0 a1 a2 cA cJ v L P (mLow (mShr V 5) 17) ((mLow (mShr V 9) 140) - 60) (by omega) (by omega) hok hdis) (vx_cwSW 3 hts gL_act_L_shift rfl rfl rfl (by decide +kernel) ⟨Nat.le_of_ble_eq_true rfl, Nat.le_of_ble_eq_true rfl⟩) hK hPx ⟨hES, hZ0⟩ hNS rfl hl.1 rfl (Nat.le_of_ble_eq_true rfl) ⟨Nat.le_of_eq (Nat.zero_add _), Nat.le_of_eq (Nat.zero_add _)⟩ dL_act_160 (fun H locs hPx hS hz => ?_)
  have hg : s.heap.size + 0 ≤ H.size := Nat.le_trans (Nat.le_add_right _ _) hz
  refine W.eq (g2 := F0 m 163 ls [.int (mI (mK4 (mEx2 (mMk v (mLow (mShr V 5) 17)) (-60 ≤ ((mLow (mShr V 9) 140) - 60) ∧ ((mLow (mShr V 9) 140) - 60) ≤ 60)) ((P (mLow (mShr V 5) 17) + ((mLow (mShr V 9) 140) - 60)) % L (mLow (mShr V 5) 17)) (-99999) (-99999) (-99999)))]) rfl ?_
  exact mw_gret hx hb hr hlocks dL_act_163 rfl (by omega) hPx hS ⟨Nat.le_of_eq (Nat.zero_add _), Nat.le_of_eq (Nat.zero_add _)⟩
set_option maxHeartbeats 2000000 in
set_option maxRecDepth 100000 in
theorem g_act40 (l : Launch) (hfl : l.flags = flags0) (D : va_G) (h0 a1 a2 : Nat) (cA cJ : ClassId) (v : Nat → Int) (L P : Int → Int) (V : Int) (hV : mRI V) (ho : ¬ mLow (mShr V 24) 9 = 0) (hk9 : mLow V 7 = 4) (hdis : mDis h0 a1 a2) (hok : mOK v L P) : mG l yL_act wsL_act ({ frames := 10, cells := mC (mEx1 ((1 ≤ (1 + (mLow (mShr V 7) 100)) ∧ (1 + (mLow (mShr V 7) 100)) ≤ 100) ∧ (2 * (1 + (mLow (mShr V 7) 100)) ≤ (((1 + (mLow (mShr V 7) 100)) * 2) + (mLow (mShr V 3) 400)) ∧ (((1 + (mLow (mShr V 7) 100)) * 2) + (mLow (mShr V 3) 400)) ≤ 100 * (1 + (mLow (mShr V 7) 100))) ∧ -1000 ≤ ((mLow (mShr V 11) 2001) - 1000) ∧ ((mLow (mShr V 11) 2001) - 1000) ≤ 1000)), slots := 6 * mC (mEx1 ((1 ≤ (1 + (mLow (mShr V 7) 100)) ∧ (1 + (mLow (mShr V 7) 100)) ≤ 100) ∧ (2 * (1 + (mLow (mShr V 7) 100)) ≤ (((1 + (mLow (mShr V 7) 100)) * 2) + (mLow (mShr V 3) 400)) ∧ (((1 + (mLow (mShr V 7) 100)) * 2) + (mLow (mShr V 3) 400)) ≤ 100 * (1 + (mLow (mShr V 7) 100))) ∧ -1000 ≤ ((mLow (mShr V 11) 2001) - 1000) ∧ ((mLow (mShr V 11) 2001) - 1000) ≤ 1000)), locals := 172 }) [.ref h0, .int (mI (V))] D (mXW h0 a1 a2 cA v L P) (mTy cA cJ) (mK4 (mEx1 ((1 ≤ (1 + (mLow (mShr V 7) 100)) ∧ (1 + (mLow (mShr V 7) 100)) ≤ 100) ∧ (2 * (1 + (mLow (mShr V 7) 100)) ≤ (((1 + (mLow (mShr V 7) 100)) * 2) + (mLow (mShr V 3) 400)) ∧ (((1 + (mLow (mShr V 7) 100)) * 2) + (mLow (mShr V 3) 400)) ≤ 100 * (1 + (mLow (mShr V 7) 100))) ∧ -1000 ≤ ((mLow (mShr V 11) 2001) - 1000) ∧ ((mLow (mShr V 11) 2001) - 1000) ≤ 1000)) (0) (-99999) (-99999) (-99999)) 0 (mXW h0 a1 a2 cA (mIf (mEx1 ((1 ≤ (1 + (mLow (mShr V 7) 100)) ∧ (1 + (mLow (mShr V 7) 100)) ≤ 100) ∧ (2 * (1 + (mLow (mShr V 7) 100)) ≤ (((1 + (mLow (mShr V 7) 100)) * 2) + (mLow (mShr V 3) 400)) ∧ (((1 + (mLow (mShr V 7) 100)) * 2) + (mLow (mShr V 3) 400)) ≤ 100 * (1 + (mLow (mShr V 7) 100))) ∧ -1000 ≤ ((mLow (mShr V 11) 2001) - 1000) ∧ ((mLow (mShr V 11) 2001) - 1000) ≤ 1000)) (mPut (mPut (mPut v 1 (((1 + (mLow (mShr V 7) 100)) * 2) + (mLow (mShr V 3) 400))) 2 (1 + (mLow (mShr V 7) 100))) 3 ((mLow (mShr V 11) 2001) - 1000)) v) (mIf (mEx1 ((1 ≤ (1 + (mLow (mShr V 7) 100)) ∧ (1 + (mLow (mShr V 7) 100)) ≤ 100) ∧ (2 * (1 + (mLow (mShr V 7) 100)) ≤ (((1 + (mLow (mShr V 7) 100)) * 2) + (mLow (mShr V 3) 400)) ∧ (((1 + (mLow (mShr V 7) 100)) * 2) + (mLow (mShr V 3) 400)) ≤ 100 * (1 + (mLow (mShr V 7) 100))) ∧ -1000 ≤ ((mLow (mShr V 11) 2001) - 1000) ∧ ((mLow (mShr V 11) 2001) - 1000) ≤ 1000)) L L) (mIf (mEx1 ((1 ≤ (1 + (mLow (mShr V 7) 100)) ∧ (1 + (mLow (mShr V 7) 100)) ≤ 100) ∧ (2 * (1 + (mLow (mShr V 7) 100)) ≤ (((1 + (mLow (mShr V 7) 100)) * 2) + (mLow (mShr V 3) 400)) ∧ (((1 + (mLow (mShr V 7) 100)) * 2) + (mLow (mShr V 3) 400)) ≤ 100 * (1 + (mLow (mShr V 7) 100))) ∧ -1000 ≤ ((mLow (mShr V 11) 2001) - 1000) ∧ ((mLow (mShr V 11) 2001) - 1000) ≤ 1000)) P P)) (mA3 h0 a1 a2) (mC (mEx1 ((1 ≤ (1 + (mLow (mShr V 7) 100)) ∧ (1 + (mLow (mShr V 7) 100)) ≤ 100) ∧ (2 * (1 + (mLow (mShr V 7) 100)) ≤ (((1 + (mLow (mShr V 7) 100)) * 2) + (mLow (mShr V 3) 400)) ∧ (((1 + (mLow (mShr V 7) 100)) * 2) + (mLow (mShr V 3) 400)) ≤ 100 * (1 + (mLow (mShr V 7) 100))) ∧ -1000 ≤ ((mLow (mShr V 11) 2001) - 1000) ∧ ((mLow (mShr V 11) 2001) - 1000) ≤ 1000))) (6 * mC (mEx1 ((1 ≤ (1 + (mLow (mShr V 7) 100)) ∧ (1 + (mLow (mShr V 7) 100)) ≤ 100) ∧ (2 * (1 + (mLow (mShr V 7) 100)) ≤ (((1 + (mLow (mShr V 7) 100)) * 2) + (mLow (mShr V 3) 400)) ∧ (((1 + (mLow (mShr V 7) 100)) * 2) + (mLow (mShr V 3) 400)) ≤ 100 * (1 + (mLow (mShr V 7) 100))) ∧ -1000 ≤ ((mLow (mShr V 11) 2001) - 1000) ∧ ((mLow (mShr V 11) 2001) - 1000) ≤ 1000))) := by
  refine mw_openG (cc := cL_act) (maxL := 5) (ret := (some .int)) (by decide) rfl (Nat.le_of_ble_eq_true rfl) ?_
  intro p e s m below meth c ls hC hr hlocks hB hE hNS hl
  obtain ⟨hx, hb, hml, hown, hts⟩ := id hC
  obtain ⟨hP, hK⟩ := hB
  obtain ⟨hES, hZ0⟩ := hE
  have hS : va_S (mA3 h0 a1 a2) s.heap s.heap [] := va_S.rf
  have hg : s.heap.size + 0 ≤ s.heap.size := Nat.le_refl _
  have hPx := hP.sub (ws' := mXW h0 a1 a2 cA v L P) [0, 1, 2] rfl
  have hl : lv_has ls 5 [(0, .ref h0), (1, .int (mI (V)))] := hl
  have hv9 := hok.1
  refine lv_iload_n hx hb dL_act_0 rfl (lv_at hl 1 rfl) ?_
  refine mw_bipush hx hb (by decide +kernel) dL_act_1 ?_
  refine mw_ishr hx hb dL_act_3 ?_
  refine mw_bipush hx hb (by decide +kernel) dL_act_4 ?_
  refine mw_cSi (rest := []) hC (c_L_low l (mShr V 24) 9 (by omega)) (va_cwS 2 hts gL_act_L_low rfl rfl rfl (by decide +kernel) ⟨Nat.le_of_ble_eq_true rfl, Nat.le_of_ble_eq_true rfl⟩) rfl hl.1 rfl (Nat.le_of_ble_eq_true rfl) ⟨Nat.zero_le _, Nat.zero_le _⟩ dL_act_6 ?_
  have b_6 := mLow_r (mShr V 24) 9 (by omega)
  refine mw_if_ne (tgt := 16) hx hb (by omega) dL_act_9 (by decide) (fun c_9 => ?_) (fun c_9 => False.elim (by exact absurd c_9 ho))
  refine mw_iconst hx hb dL_act_16 ?_
  refine lv_istore_n (lv' := [(2, .int (mI (0))), (0, .ref h0), (1, .int (mI (V)))]) hx hb dL_act_17 rfl hl (by decide) rfl (fun ls hl => ?_)
  refine mw_iconst hx hb dL_act_18 ?_
  refine lv_iload_n hx hb dL_act_19 rfl (lv_at hl 2 rfl) ?_
  refine mw_iconst hx hb dL_act_20 ?_
  refine mw_ishr hx hb dL_act_21 ?_
  refine lv_iload_n hx hb dL_act_22 rfl (lv_at hl 0 rfl) ?_
  refine mw_if_eq (tgt := 31) hx hb (by omega) dL_act_23 (by decide) (fun _ => ?_) (fun c => absurd (by decide) c)
  refine mw_iconst hx hb dL_act_31 ?_
  refine lv_iload_n hx hb dL_act_32 rfl (lv_at hl 2 rfl) ?_
  refine mw_bipush hx hb (by decide +kernel) dL_act_33 ?_
  refine mw_ishr hx hb dL_act_35 ?_
  refine mw_bipush hx hb (by decide +kernel) dL_act_36 ?_
  refine mw_cSi (rest := [.int (mI (1)), .int (mI (mShr V 4)), .int (mI (1))]) hC (c_L_low l (mShr V 14) 59 (by omega)) (va_cwS 2 hts gL_act_L_low rfl rfl rfl (by decide +kernel) ⟨Nat.le_of_ble_eq_true rfl, Nat.le_of_ble_eq_true rfl⟩) rfl hl.1 rfl (Nat.le_of_ble_eq_true rfl) ⟨Nat.zero_le _, Nat.zero_le _⟩ dL_act_38 ?_
  have b_38 := mLow_r (mShr V 14) 59 (by omega)
  refine mw_iadd hx hb dL_act_41 ?_
  refine mw_cSi (rest := [.int (mI (1))]) hC (c_L_low l (mShr V 4) (1 + (mLow (mShr V 14) 59)) (by omega)) (va_cwS 2 hts gL_act_L_low rfl rfl rfl (by decide +kernel) ⟨Nat.le_of_ble_eq_true rfl, Nat.le_of_ble_eq_true rfl⟩) rfl hl.1 rfl (Nat.le_of_ble_eq_true rfl) ⟨Nat.zero_le _, Nat.zero_le _⟩ dL_act_42 ?_
  have b_42 := mLow_r (mShr V 4) (1 + (mLow (mShr V 14) 59)) (by omega)
  refine mw_iadd hx hb dL_act_45 ?_
  refine lv_istore_n (lv' := [(3, .int (mI (1 + (mLow (mShr V 4) (1 + (mLow (mShr V 14) 59)))))), (2, .int (mI (0))), (0, .ref h0), (1, .int (mI (V)))]) hx hb dL_act_46 rfl hl (by decide) rfl (fun ls hl => ?_)
  refine lv_iload_n hx hb dL_act_47 rfl (lv_at hl 3 rfl) ?_
  refine mw_bipush hx hb (by decide +kernel) dL_act_48 ?_
  refine mw_cSi (rest := []) hC (c_L_low l V 7 (by omega)) (va_cwS 2 hts gL_act_L_low rfl rfl rfl (by decide +kernel) ⟨Nat.le_of_ble_eq_true rfl, Nat.le_of_ble_eq_true rfl⟩) rfl hl.1 rfl (Nat.le_of_ble_eq_true rfl) ⟨Nat.zero_le _, Nat.zero_le _⟩ dL_act_50 ?_
  have b_50 := mLow_r V 7 (by omega)
  refine mw_topi (y := 4) hk9 ?_
  refine lv_tableIn (off := 111) (tgt := 164) hx hb dL_act_53 (by decide +kernel) (by decide +kernel) (by decide +kernel) (by decide) ?_
  refine lv_aload_n hx hb dL_act_164 rfl (lv_at hl 2 rfl) ?_
  refine mw_iconst hx hb dL_act_165 ?_
  refine lv_iload_n hx hb dL_act_166 rfl (lv_at hl 3 rfl) ?_
  refine mw_bipush hx hb (by decide +kernel) dL_act_167 ?_
  refine mw_ishr hx hb dL_act_169 ?_
  refine mw_bipush hx hb (by decide +kernel) dL_act_170 ?_
  refine mw_cSi (rest := [.int (mI (1)), .ref h0]) hC (c_L_low l (mShr V 7) 100 (by omega)) (va_cwS 2 hts gL_act_L_low rfl rfl rfl (by decide +kernel) ⟨Nat.le_of_ble_eq_true rfl, Nat.le_of_ble_eq_true rfl⟩) rfl hl.1 rfl (Nat.le_of_ble_eq_true rfl) ⟨Nat.zero_le _, Nat.zero_le _⟩ dL_act_172 ?_
  have b_172 := mLow_r (mShr V 7) 100 (by omega)
  refine mw_iadd hx hb dL_act_175 ?_
  refine lv_iload_n hx hb dL_act_176 rfl (lv_at hl 1 rfl) ?_
  refine mw_if_eq (tgt := 184) hx hb (by omega) dL_act_177 (by decide) (fun _ => ?_) (fun c => absurd (by decide) c)
  refine mw_iconst hx hb dL_act_184 ?_
  refine mw_imul hx hb dL_act_185 ?_
  refine lv_iload_n hx hb dL_act_186 rfl (lv_at hl 3 rfl) ?_
  refine mw_iconst hx hb dL_act_187 ?_
  refine mw_ishr hx hb dL_act_188 ?_
  refine mw_sipush hx hb (by decide +kernel) dL_act_189 ?_
  refine mw_cSi (rest := [.int (mI ((1 + (mLow (mShr V 7) 100)) * 2)), .ref h0]) hC (c_L_low l (mShr V 3) 400 (by omega)) (va_cwS 2 hts gL_act_L_low rfl rfl rfl (by decide +kernel) ⟨Nat.le_of_ble_eq_true rfl, Nat.le_of_ble_eq_true rfl⟩) rfl hl.1 rfl (Nat.le_of_ble_eq_true rfl) ⟨Nat.zero_le _, Nat.zero_le _⟩ dL_act_192 ?_
  have b_192 := mLow_r (mShr V 3) 400 (by omega)
  refine mw_iadd hx hb dL_act_195 ?_
  refine mw_iconst hx hb dL_act_196 ?_
  refine lv_iload_n hx hb dL_act_197 rfl (lv_at hl 3 rfl) ?_
  refine mw_bipush hx hb (by decide +kernel) dL_act_198 ?_
  refine mw_ishr hx hb dL_act_200 ?_
  refine lv_iload_n hx hb dL_act_201 rfl (lv_at hl 1 rfl) ?_
  refine mw_if_eq (tgt := 210) hx hb (by omega) dL_act_202 (by decide) (fun _ => ?_) (fun c => absurd (by decide) c)
  refine mw_bipush hx hb (by decide +kernel) dL_act_210 ?_
  refine mw_cSi (rest := [.int (mI (1)), .int (mI (((1 + (mLow (mShr V 7) 100)) * 2) + (mLow (mShr V 3) 400))), .ref h0]) hC (c_L_low l (mShr V 7) 100 (by omega)) (va_cwS 2 hts gL_act_L_low rfl rfl rfl (by decide +kernel) ⟨Nat.le_of_ble_eq_true rfl, Nat.le_of_ble_eq_true rfl⟩) rfl hl.1 rfl (Nat.le_of_ble_eq_true rfl) ⟨Nat.zero_le _, Nat.zero_le _⟩ dL_act_212 ?_
  have b_212 := mLow_r (mShr V 7) 100 (by omega)
  refine mw_iadd hx hb dL_act_215 ?_
  refine lv_iload_n hx hb dL_act_216 rfl (lv_at hl 3 rfl) ?_
  refine mw_bipush hx hb (by decide +kernel) dL_act_217 ?_
  refine mw_ishr hx hb dL_act_219 ?_
  refine lv_iload_n hx hb dL_act_220 rfl (lv_at hl 1 rfl) ?_
  refine mw_if_eq (tgt := 230) hx hb (by omega) dL_act_221 (by decide) (fun _ => ?_) (fun c => absurd (by decide) c)
  refine mw_sipush hx hb (by decide +kernel) dL_act_230 ?_
  refine mw_cSi (rest := [.int (mI (1 + (mLow (mShr V 7) 100))), .int (mI (((1 + (mLow (mShr V 7) 100)) * 2) + (mLow (mShr V 3) 400))), .ref h0]) hC (c_L_low l (mShr V 11) 2001 (by omega)) (va_cwS 2 hts gL_act_L_low rfl rfl rfl (by decide +kernel) ⟨Nat.le_of_ble_eq_true rfl, Nat.le_of_ble_eq_true rfl⟩) rfl hl.1 rfl (Nat.le_of_ble_eq_true rfl) ⟨Nat.zero_le _, Nat.zero_le _⟩ dL_act_233 ?_
  have b_233 := mLow_r (mShr V 11) 2001 (by omega)
  refine mw_sipush hx hb (by decide +kernel) dL_act_236 ?_
  refine mw_isub hx hb dL_act_239 ?_
  refine mw_cK2 (rest := []) hC (k_setMoon l hfl D h0 a1 a2 cA cJ v L P (((1 + (mLow (mShr V 7) 100)) * 2) + (mLow (mShr V 3) 400)) (1 + (mLow (mShr V 7) 100)) ((mLow (mShr V 11) 2001) - 1000) (by omega) (by omega) (by omega) hok hdis) (vx_cwSW 4 hts gL_act_L_setMoon rfl rfl rfl (by decide +kernel) ⟨Nat.le_of_ble_eq_true rfl, Nat.le_of_ble_eq_true rfl⟩) hK hPx ⟨hES, hZ0⟩ hNS rfl hl.1 rfl (Nat.le_of_ble_eq_true rfl) ⟨Nat.le_of_eq (Nat.zero_add _), Nat.le_of_eq (Nat.zero_add _)⟩ dL_act_240 (fun H locs hPx hS hz => ?_)
  have hg : s.heap.size + 0 ≤ H.size := Nat.le_trans (Nat.le_add_right _ _) hz
  refine W.eq (g2 := F0 m 243 ls [.int (mI (mK4 (mEx1 ((1 ≤ (1 + (mLow (mShr V 7) 100)) ∧ (1 + (mLow (mShr V 7) 100)) ≤ 100) ∧ (2 * (1 + (mLow (mShr V 7) 100)) ≤ (((1 + (mLow (mShr V 7) 100)) * 2) + (mLow (mShr V 3) 400)) ∧ (((1 + (mLow (mShr V 7) 100)) * 2) + (mLow (mShr V 3) 400)) ≤ 100 * (1 + (mLow (mShr V 7) 100))) ∧ -1000 ≤ ((mLow (mShr V 11) 2001) - 1000) ∧ ((mLow (mShr V 11) 2001) - 1000) ≤ 1000)) (0) (-99999) (-99999) (-99999)))]) rfl ?_
  exact mw_gret hx hb hr hlocks dL_act_243 rfl (by omega) hPx hS ⟨Nat.le_of_eq (Nat.zero_add _), Nat.le_of_eq (Nat.zero_add _)⟩
set_option maxHeartbeats 2000000 in
set_option maxRecDepth 100000 in
theorem g_act41 (l : Launch) (hfl : l.flags = flags0) (D : va_G) (h0 a1 a2 : Nat) (cA cJ : ClassId) (v : Nat → Int) (L P : Int → Int) (V : Int) (hV : mRI V) (ho : mLow (mShr V 24) 9 = 0) (hk9 : mLow V 7 = 4) (hdis : mDis h0 a1 a2) (hok : mOK v L P) : mG l yL_act wsL_act ({ frames := 10, cells := mC (mEx1 ((1 ≤ (1 + (mLow (mShr V 7) 101)) ∧ (1 + (mLow (mShr V 7) 101)) ≤ 100) ∧ (2 * (1 + (mLow (mShr V 7) 101)) ≤ (((1 + (mLow (mShr V 7) 100)) * 1) + (mLow (mShr V 3) 400)) ∧ (((1 + (mLow (mShr V 7) 100)) * 1) + (mLow (mShr V 3) 400)) ≤ 100 * (1 + (mLow (mShr V 7) 101))) ∧ -1000 ≤ ((mLow (mShr V 11) 2100) - 1000) ∧ ((mLow (mShr V 11) 2100) - 1000) ≤ 1000)), slots := 6 * mC (mEx1 ((1 ≤ (1 + (mLow (mShr V 7) 101)) ∧ (1 + (mLow (mShr V 7) 101)) ≤ 100) ∧ (2 * (1 + (mLow (mShr V 7) 101)) ≤ (((1 + (mLow (mShr V 7) 100)) * 1) + (mLow (mShr V 3) 400)) ∧ (((1 + (mLow (mShr V 7) 100)) * 1) + (mLow (mShr V 3) 400)) ≤ 100 * (1 + (mLow (mShr V 7) 101))) ∧ -1000 ≤ ((mLow (mShr V 11) 2100) - 1000) ∧ ((mLow (mShr V 11) 2100) - 1000) ≤ 1000)), locals := 172 }) [.ref h0, .int (mI (V))] D (mXW h0 a1 a2 cA v L P) (mTy cA cJ) (mK4 (mEx1 ((1 ≤ (1 + (mLow (mShr V 7) 101)) ∧ (1 + (mLow (mShr V 7) 101)) ≤ 100) ∧ (2 * (1 + (mLow (mShr V 7) 101)) ≤ (((1 + (mLow (mShr V 7) 100)) * 1) + (mLow (mShr V 3) 400)) ∧ (((1 + (mLow (mShr V 7) 100)) * 1) + (mLow (mShr V 3) 400)) ≤ 100 * (1 + (mLow (mShr V 7) 101))) ∧ -1000 ≤ ((mLow (mShr V 11) 2100) - 1000) ∧ ((mLow (mShr V 11) 2100) - 1000) ≤ 1000)) (0) (-99999) (-99999) (-99999)) 0 (mXW h0 a1 a2 cA (mIf (mEx1 ((1 ≤ (1 + (mLow (mShr V 7) 101)) ∧ (1 + (mLow (mShr V 7) 101)) ≤ 100) ∧ (2 * (1 + (mLow (mShr V 7) 101)) ≤ (((1 + (mLow (mShr V 7) 100)) * 1) + (mLow (mShr V 3) 400)) ∧ (((1 + (mLow (mShr V 7) 100)) * 1) + (mLow (mShr V 3) 400)) ≤ 100 * (1 + (mLow (mShr V 7) 101))) ∧ -1000 ≤ ((mLow (mShr V 11) 2100) - 1000) ∧ ((mLow (mShr V 11) 2100) - 1000) ≤ 1000)) (mPut (mPut (mPut v 1 (((1 + (mLow (mShr V 7) 100)) * 1) + (mLow (mShr V 3) 400))) 2 (1 + (mLow (mShr V 7) 101))) 3 ((mLow (mShr V 11) 2100) - 1000)) v) (mIf (mEx1 ((1 ≤ (1 + (mLow (mShr V 7) 101)) ∧ (1 + (mLow (mShr V 7) 101)) ≤ 100) ∧ (2 * (1 + (mLow (mShr V 7) 101)) ≤ (((1 + (mLow (mShr V 7) 100)) * 1) + (mLow (mShr V 3) 400)) ∧ (((1 + (mLow (mShr V 7) 100)) * 1) + (mLow (mShr V 3) 400)) ≤ 100 * (1 + (mLow (mShr V 7) 101))) ∧ -1000 ≤ ((mLow (mShr V 11) 2100) - 1000) ∧ ((mLow (mShr V 11) 2100) - 1000) ≤ 1000)) L L) (mIf (mEx1 ((1 ≤ (1 + (mLow (mShr V 7) 101)) ∧ (1 + (mLow (mShr V 7) 101)) ≤ 100) ∧ (2 * (1 + (mLow (mShr V 7) 101)) ≤ (((1 + (mLow (mShr V 7) 100)) * 1) + (mLow (mShr V 3) 400)) ∧ (((1 + (mLow (mShr V 7) 100)) * 1) + (mLow (mShr V 3) 400)) ≤ 100 * (1 + (mLow (mShr V 7) 101))) ∧ -1000 ≤ ((mLow (mShr V 11) 2100) - 1000) ∧ ((mLow (mShr V 11) 2100) - 1000) ≤ 1000)) P P)) (mA3 h0 a1 a2) (mC (mEx1 ((1 ≤ (1 + (mLow (mShr V 7) 101)) ∧ (1 + (mLow (mShr V 7) 101)) ≤ 100) ∧ (2 * (1 + (mLow (mShr V 7) 101)) ≤ (((1 + (mLow (mShr V 7) 100)) * 1) + (mLow (mShr V 3) 400)) ∧ (((1 + (mLow (mShr V 7) 100)) * 1) + (mLow (mShr V 3) 400)) ≤ 100 * (1 + (mLow (mShr V 7) 101))) ∧ -1000 ≤ ((mLow (mShr V 11) 2100) - 1000) ∧ ((mLow (mShr V 11) 2100) - 1000) ≤ 1000))) (6 * mC (mEx1 ((1 ≤ (1 + (mLow (mShr V 7) 101)) ∧ (1 + (mLow (mShr V 7) 101)) ≤ 100) ∧ (2 * (1 + (mLow (mShr V 7) 101)) ≤ (((1 + (mLow (mShr V 7) 100)) * 1) + (mLow (mShr V 3) 400)) ∧ (((1 + (mLow (mShr V 7) 100)) * 1) + (mLow (mShr V 3) 400)) ≤ 100 * (1 + (mLow (mShr V 7) 101))) ∧ -1000 ≤ ((mLow (mShr V 11) 2100) - 1000) ∧ ((mLow (mShr V 11) 2100) - 1000) ≤ 1000))) := by
  refine mw_openG (cc := cL_act) (maxL := 5) (ret := (some .int)) (by decide) rfl (Nat.le_of_ble_eq_true rfl) ?_
  intro p e s m below meth c ls hC hr hlocks hB hE hNS hl
  obtain ⟨hx, hb, hml, hown, hts⟩ := id hC
  obtain ⟨hP, hK⟩ := hB
  obtain ⟨hES, hZ0⟩ := hE
  have hS : va_S (mA3 h0 a1 a2) s.heap s.heap [] := va_S.rf
  have hg : s.heap.size + 0 ≤ s.heap.size := Nat.le_refl _
  have hPx := hP.sub (ws' := mXW h0 a1 a2 cA v L P) [0, 1, 2] rfl
  have hl : lv_has ls 5 [(0, .ref h0), (1, .int (mI (V)))] := hl
  have hv9 := hok.1
  refine lv_iload_n hx hb dL_act_0 rfl (lv_at hl 1 rfl) ?_
  refine mw_bipush hx hb (by decide +kernel) dL_act_1 ?_
  refine mw_ishr hx hb dL_act_3 ?_
  refine mw_bipush hx hb (by decide +kernel) dL_act_4 ?_
  refine mw_cSi (rest := []) hC (c_L_low l (mShr V 24) 9 (by omega)) (va_cwS 2 hts gL_act_L_low rfl rfl rfl (by decide +kernel) ⟨Nat.le_of_ble_eq_true rfl, Nat.le_of_ble_eq_true rfl⟩) rfl hl.1 rfl (Nat.le_of_ble_eq_true rfl) ⟨Nat.zero_le _, Nat.zero_le _⟩ dL_act_6 ?_
  have b_6 := mLow_r (mShr V 24) 9 (by omega)
  refine mw_if_ne (tgt := 16) hx hb (by omega) dL_act_9 (by decide) (fun c_9 => False.elim (by exact absurd ho c_9)) (fun c_9 => ?_)
  refine mw_iconst hx hb dL_act_12 ?_
  refine lv_goto (tgt := 17) hx hb dL_act_13 (by decide) ?_
  refine lv_istore_n (lv' := [(2, .int (mI (1))), (0, .ref h0), (1, .int (mI (V)))]) hx hb dL_act_17 rfl hl (by decide) rfl (fun ls hl => ?_)
  refine mw_iconst hx hb dL_act_18 ?_
  refine lv_iload_n hx hb dL_act_19 rfl (lv_at hl 2 rfl) ?_
  refine mw_iconst hx hb dL_act_20 ?_
  refine mw_ishr hx hb dL_act_21 ?_
  refine lv_iload_n hx hb dL_act_22 rfl (lv_at hl 0 rfl) ?_
  refine mw_if_eq (tgt := 31) hx hb (by omega) dL_act_23 (by decide) (fun c => absurd c (by decide)) (fun _ => ?_)
  refine mw_bipush hx hb (by decide +kernel) dL_act_26 ?_
  refine lv_goto (tgt := 42) hx hb dL_act_28 (by decide) ?_
  refine mw_cSi (rest := [.int (mI (1))]) hC (c_L_low l (mShr V 4) 62 (by omega)) (va_cwS 2 hts gL_act_L_low rfl rfl rfl (by decide +kernel) ⟨Nat.le_of_ble_eq_true rfl, Nat.le_of_ble_eq_true rfl⟩) rfl hl.1 rfl (Nat.le_of_ble_eq_true rfl) ⟨Nat.zero_le _, Nat.zero_le _⟩ dL_act_42 ?_
  have b_42 := mLow_r (mShr V 4) 62 (by omega)
  refine mw_iadd hx hb dL_act_45 ?_
  refine lv_istore_n (lv' := [(3, .int (mI (1 + (mLow (mShr V 4) 62)))), (2, .int (mI (1))), (0, .ref h0), (1, .int (mI (V)))]) hx hb dL_act_46 rfl hl (by decide) rfl (fun ls hl => ?_)
  refine lv_iload_n hx hb dL_act_47 rfl (lv_at hl 3 rfl) ?_
  refine mw_bipush hx hb (by decide +kernel) dL_act_48 ?_
  refine mw_cSi (rest := []) hC (c_L_low l V 7 (by omega)) (va_cwS 2 hts gL_act_L_low rfl rfl rfl (by decide +kernel) ⟨Nat.le_of_ble_eq_true rfl, Nat.le_of_ble_eq_true rfl⟩) rfl hl.1 rfl (Nat.le_of_ble_eq_true rfl) ⟨Nat.zero_le _, Nat.zero_le _⟩ dL_act_50 ?_
  have b_50 := mLow_r V 7 (by omega)
  refine mw_topi (y := 4) hk9 ?_
  refine lv_tableIn (off := 111) (tgt := 164) hx hb dL_act_53 (by decide +kernel) (by decide +kernel) (by decide +kernel) (by decide) ?_
  refine lv_aload_n hx hb dL_act_164 rfl (lv_at hl 2 rfl) ?_
  refine mw_iconst hx hb dL_act_165 ?_
  refine lv_iload_n hx hb dL_act_166 rfl (lv_at hl 3 rfl) ?_
  refine mw_bipush hx hb (by decide +kernel) dL_act_167 ?_
  refine mw_ishr hx hb dL_act_169 ?_
  refine mw_bipush hx hb (by decide +kernel) dL_act_170 ?_
  refine mw_cSi (rest := [.int (mI (1)), .ref h0]) hC (c_L_low l (mShr V 7) 100 (by omega)) (va_cwS 2 hts gL_act_L_low rfl rfl rfl (by decide +kernel) ⟨Nat.le_of_ble_eq_true rfl, Nat.le_of_ble_eq_true rfl⟩) rfl hl.1 rfl (Nat.le_of_ble_eq_true rfl) ⟨Nat.zero_le _, Nat.zero_le _⟩ dL_act_172 ?_
  have b_172 := mLow_r (mShr V 7) 100 (by omega)
  refine mw_iadd hx hb dL_act_175 ?_
  refine lv_iload_n hx hb dL_act_176 rfl (lv_at hl 1 rfl) ?_
  refine mw_if_eq (tgt := 184) hx hb (by omega) dL_act_177 (by decide) (fun c => absurd c (by decide)) (fun _ => ?_)
  refine mw_iconst hx hb dL_act_180 ?_
  refine lv_goto (tgt := 185) hx hb dL_act_181 (by decide) ?_
  refine mw_imul hx hb dL_act_185 ?_
  refine lv_iload_n hx hb dL_act_186 rfl (lv_at hl 3 rfl) ?_
  refine mw_iconst hx hb dL_act_187 ?_
  refine mw_ishr hx hb dL_act_188 ?_
  refine mw_sipush hx hb (by decide +kernel) dL_act_189 ?_
  refine mw_cSi (rest := [.int (mI ((1 + (mLow (mShr V 7) 100)) * 1)), .ref h0]) hC (c_L_low l (mShr V 3) 400 (by omega)) (va_cwS 2 hts gL_act_L_low rfl rfl rfl (by decide +kernel) ⟨Nat.le_of_ble_eq_true rfl, Nat.le_of_ble_eq_true rfl⟩) rfl hl.1 rfl (Nat.le_of_ble_eq_true rfl) ⟨Nat.zero_le _, Nat.zero_le _⟩ dL_act_192 ?_
  have b_192 := mLow_r (mShr V 3) 400 (by omega)
  refine mw_iadd hx hb dL_act_195 ?_
  refine mw_iconst hx hb dL_act_196 ?_
  refine lv_iload_n hx hb dL_act_197 rfl (lv_at hl 3 rfl) ?_
  refine mw_bipush hx hb (by decide +kernel) dL_act_198 ?_
  refine mw_ishr hx hb dL_act_200 ?_
  refine lv_iload_n hx hb dL_act_201 rfl (lv_at hl 1 rfl) ?_
  refine mw_if_eq (tgt := 210) hx hb (by omega) dL_act_202 (by decide) (fun c => absurd c (by decide)) (fun _ => ?_)
  refine mw_bipush hx hb (by decide +kernel) dL_act_205 ?_
  refine lv_goto (tgt := 212) hx hb dL_act_207 (by decide) ?_
  refine mw_cSi (rest := [.int (mI (1)), .int (mI (((1 + (mLow (mShr V 7) 100)) * 1) + (mLow (mShr V 3) 400))), .ref h0]) hC (c_L_low l (mShr V 7) 101 (by omega)) (va_cwS 2 hts gL_act_L_low rfl rfl rfl (by decide +kernel) ⟨Nat.le_of_ble_eq_true rfl, Nat.le_of_ble_eq_true rfl⟩) rfl hl.1 rfl (Nat.le_of_ble_eq_true rfl) ⟨Nat.zero_le _, Nat.zero_le _⟩ dL_act_212 ?_
  have b_212 := mLow_r (mShr V 7) 101 (by omega)
  refine mw_iadd hx hb dL_act_215 ?_
  refine lv_iload_n hx hb dL_act_216 rfl (lv_at hl 3 rfl) ?_
  refine mw_bipush hx hb (by decide +kernel) dL_act_217 ?_
  refine mw_ishr hx hb dL_act_219 ?_
  refine lv_iload_n hx hb dL_act_220 rfl (lv_at hl 1 rfl) ?_
  refine mw_if_eq (tgt := 230) hx hb (by omega) dL_act_221 (by decide) (fun c => absurd c (by decide)) (fun _ => ?_)
  refine mw_sipush hx hb (by decide +kernel) dL_act_224 ?_
  refine lv_goto (tgt := 233) hx hb dL_act_227 (by decide) ?_
  refine mw_cSi (rest := [.int (mI (1 + (mLow (mShr V 7) 101))), .int (mI (((1 + (mLow (mShr V 7) 100)) * 1) + (mLow (mShr V 3) 400))), .ref h0]) hC (c_L_low l (mShr V 11) 2100 (by omega)) (va_cwS 2 hts gL_act_L_low rfl rfl rfl (by decide +kernel) ⟨Nat.le_of_ble_eq_true rfl, Nat.le_of_ble_eq_true rfl⟩) rfl hl.1 rfl (Nat.le_of_ble_eq_true rfl) ⟨Nat.zero_le _, Nat.zero_le _⟩ dL_act_233 ?_
  have b_233 := mLow_r (mShr V 11) 2100 (by omega)
  refine mw_sipush hx hb (by decide +kernel) dL_act_236 ?_
  refine mw_isub hx hb dL_act_239 ?_
  refine mw_cK2 (rest := []) hC (k_setMoon l hfl D h0 a1 a2 cA cJ v L P (((1 + (mLow (mShr V 7) 100)) * 1) + (mLow (mShr V 3) 400)) (1 + (mLow (mShr V 7) 101)) ((mLow (mShr V 11) 2100) - 1000) (by omega) (by omega) (by omega) hok hdis) (vx_cwSW 4 hts gL_act_L_setMoon rfl rfl rfl (by decide +kernel) ⟨Nat.le_of_ble_eq_true rfl, Nat.le_of_ble_eq_true rfl⟩) hK hPx ⟨hES, hZ0⟩ hNS rfl hl.1 rfl (Nat.le_of_ble_eq_true rfl) ⟨Nat.le_of_eq (Nat.zero_add _), Nat.le_of_eq (Nat.zero_add _)⟩ dL_act_240 (fun H locs hPx hS hz => ?_)
  have hg : s.heap.size + 0 ≤ H.size := Nat.le_trans (Nat.le_add_right _ _) hz
  refine W.eq (g2 := F0 m 243 ls [.int (mI (mK4 (mEx1 ((1 ≤ (1 + (mLow (mShr V 7) 101)) ∧ (1 + (mLow (mShr V 7) 101)) ≤ 100) ∧ (2 * (1 + (mLow (mShr V 7) 101)) ≤ (((1 + (mLow (mShr V 7) 100)) * 1) + (mLow (mShr V 3) 400)) ∧ (((1 + (mLow (mShr V 7) 100)) * 1) + (mLow (mShr V 3) 400)) ≤ 100 * (1 + (mLow (mShr V 7) 101))) ∧ -1000 ≤ ((mLow (mShr V 11) 2100) - 1000) ∧ ((mLow (mShr V 11) 2100) - 1000) ≤ 1000)) (0) (-99999) (-99999) (-99999)))]) rfl ?_
  exact mw_gret hx hb hr hlocks dL_act_243 rfl (by omega) hPx hS ⟨Nat.le_of_eq (Nat.zero_add _), Nat.le_of_eq (Nat.zero_add _)⟩
set_option maxHeartbeats 2000000 in
set_option maxRecDepth 100000 in
theorem g_act50 (l : Launch) (hfl : l.flags = flags0) (D : va_G) (h0 a1 a2 : Nat) (cA cJ : ClassId) (v : Nat → Int) (L P : Int → Int) (V : Int) (hV : mRI V) (ho : ¬ mLow (mShr V 24) 9 = 0) (hk9 : mLow V 7 = 5) (hdis : mDis h0 a1 a2) (hok : mOK v L P) : mG l yL_act wsL_act ({ frames := 10, cells := mC (mEx1 ((100 ≤ (100 + (mLow (mShr V 9) 401)) ∧ (100 + (mLow (mShr V 9) 401)) ≤ 500) ∧ (1 ≤ (1 + (mLow (mShr V 5) 400)) ∧ (1 + (mLow (mShr V 5) 400)) ≤ 400) ∧ (0 ≤ (mLow (mShr V 12) ((1 + (mLow (mShr V 5) 400)) + 1)) ∧ (mLow (mShr V 12) ((1 + (mLow (mShr V 5) 400)) + 1)) ≤ (1 + (mLow (mShr V 5) 400))) ∧ 0 ≤ (mLow (mShr V 15) (1 + (mLow (mShr V 5) 400))) ∧ (mLow (mShr V 15) (1 + (mLow (mShr V 5) 400))) ≤ (1 + (mLow (mShr V 5) 400)) - 1)), slots := 6 * mC (mEx1 ((100 ≤ (100 + (mLow (mShr V 9) 401)) ∧ (100 + (mLow (mShr V 9) 401)) ≤ 500) ∧ (1 ≤ (1 + (mLow (mShr V 5) 400)) ∧ (1 + (mLow (mShr V 5) 400)) ≤ 400) ∧ (0 ≤ (mLow (mShr V 12) ((1 + (mLow (mShr V 5) 400)) + 1)) ∧ (mLow (mShr V 12) ((1 + (mLow (mShr V 5) 400)) + 1)) ≤ (1 + (mLow (mShr V 5) 400))) ∧ 0 ≤ (mLow (mShr V 15) (1 + (mLow (mShr V 5) 400))) ∧ (mLow (mShr V 15) (1 + (mLow (mShr V 5) 400))) ≤ (1 + (mLow (mShr V 5) 400)) - 1)), locals := 172 }) [.ref h0, .int (mI (V))] D (mXW h0 a1 a2 cA v L P) (mTy cA cJ) (mK4 (mEx1 ((100 ≤ (100 + (mLow (mShr V 9) 401)) ∧ (100 + (mLow (mShr V 9) 401)) ≤ 500) ∧ (1 ≤ (1 + (mLow (mShr V 5) 400)) ∧ (1 + (mLow (mShr V 5) 400)) ≤ 400) ∧ (0 ≤ (mLow (mShr V 12) ((1 + (mLow (mShr V 5) 400)) + 1)) ∧ (mLow (mShr V 12) ((1 + (mLow (mShr V 5) 400)) + 1)) ≤ (1 + (mLow (mShr V 5) 400))) ∧ 0 ≤ (mLow (mShr V 15) (1 + (mLow (mShr V 5) 400))) ∧ (mLow (mShr V 15) (1 + (mLow (mShr V 5) 400))) ≤ (1 + (mLow (mShr V 5) 400)) - 1)) (0) (-99999) (-99999) (-99999)) 0 (mXW h0 a1 a2 cA (mIf (mEx1 ((100 ≤ (100 + (mLow (mShr V 9) 401)) ∧ (100 + (mLow (mShr V 9) 401)) ≤ 500) ∧ (1 ≤ (1 + (mLow (mShr V 5) 400)) ∧ (1 + (mLow (mShr V 5) 400)) ≤ 400) ∧ (0 ≤ (mLow (mShr V 12) ((1 + (mLow (mShr V 5) 400)) + 1)) ∧ (mLow (mShr V 12) ((1 + (mLow (mShr V 5) 400)) + 1)) ≤ (1 + (mLow (mShr V 5) 400))) ∧ 0 ≤ (mLow (mShr V 15) (1 + (mLow (mShr V 5) 400))) ∧ (mLow (mShr V 15) (1 + (mLow (mShr V 5) 400))) ≤ (1 + (mLow (mShr V 5) 400)) - 1)) (mPut (mPut (mPut (mPut v 4 (100 + (mLow (mShr V 9) 401))) 5 (mLow (mShr V 12) ((1 + (mLow (mShr V 5) 400)) + 1))) 6 (mLow (mShr V 15) (1 + (mLow (mShr V 5) 400)))) 7 (1 + (mLow (mShr V 5) 400))) v) (mIf (mEx1 ((100 ≤ (100 + (mLow (mShr V 9) 401)) ∧ (100 + (mLow (mShr V 9) 401)) ≤ 500) ∧ (1 ≤ (1 + (mLow (mShr V 5) 400)) ∧ (1 + (mLow (mShr V 5) 400)) ≤ 400) ∧ (0 ≤ (mLow (mShr V 12) ((1 + (mLow (mShr V 5) 400)) + 1)) ∧ (mLow (mShr V 12) ((1 + (mLow (mShr V 5) 400)) + 1)) ≤ (1 + (mLow (mShr V 5) 400))) ∧ 0 ≤ (mLow (mShr V 15) (1 + (mLow (mShr V 5) 400))) ∧ (mLow (mShr V 15) (1 + (mLow (mShr V 5) 400))) ≤ (1 + (mLow (mShr V 5) 400)) - 1)) L L) (mIf (mEx1 ((100 ≤ (100 + (mLow (mShr V 9) 401)) ∧ (100 + (mLow (mShr V 9) 401)) ≤ 500) ∧ (1 ≤ (1 + (mLow (mShr V 5) 400)) ∧ (1 + (mLow (mShr V 5) 400)) ≤ 400) ∧ (0 ≤ (mLow (mShr V 12) ((1 + (mLow (mShr V 5) 400)) + 1)) ∧ (mLow (mShr V 12) ((1 + (mLow (mShr V 5) 400)) + 1)) ≤ (1 + (mLow (mShr V 5) 400))) ∧ 0 ≤ (mLow (mShr V 15) (1 + (mLow (mShr V 5) 400))) ∧ (mLow (mShr V 15) (1 + (mLow (mShr V 5) 400))) ≤ (1 + (mLow (mShr V 5) 400)) - 1)) P P)) (mA3 h0 a1 a2) (mC (mEx1 ((100 ≤ (100 + (mLow (mShr V 9) 401)) ∧ (100 + (mLow (mShr V 9) 401)) ≤ 500) ∧ (1 ≤ (1 + (mLow (mShr V 5) 400)) ∧ (1 + (mLow (mShr V 5) 400)) ≤ 400) ∧ (0 ≤ (mLow (mShr V 12) ((1 + (mLow (mShr V 5) 400)) + 1)) ∧ (mLow (mShr V 12) ((1 + (mLow (mShr V 5) 400)) + 1)) ≤ (1 + (mLow (mShr V 5) 400))) ∧ 0 ≤ (mLow (mShr V 15) (1 + (mLow (mShr V 5) 400))) ∧ (mLow (mShr V 15) (1 + (mLow (mShr V 5) 400))) ≤ (1 + (mLow (mShr V 5) 400)) - 1))) (6 * mC (mEx1 ((100 ≤ (100 + (mLow (mShr V 9) 401)) ∧ (100 + (mLow (mShr V 9) 401)) ≤ 500) ∧ (1 ≤ (1 + (mLow (mShr V 5) 400)) ∧ (1 + (mLow (mShr V 5) 400)) ≤ 400) ∧ (0 ≤ (mLow (mShr V 12) ((1 + (mLow (mShr V 5) 400)) + 1)) ∧ (mLow (mShr V 12) ((1 + (mLow (mShr V 5) 400)) + 1)) ≤ (1 + (mLow (mShr V 5) 400))) ∧ 0 ≤ (mLow (mShr V 15) (1 + (mLow (mShr V 5) 400))) ∧ (mLow (mShr V 15) (1 + (mLow (mShr V 5) 400))) ≤ (1 + (mLow (mShr V 5) 400)) - 1))) := by
  refine mw_openG (cc := cL_act) (maxL := 5) (ret := (some .int)) (by decide) rfl (Nat.le_of_ble_eq_true rfl) ?_
  intro p e s m below meth c ls hC hr hlocks hB hE hNS hl
  obtain ⟨hx, hb, hml, hown, hts⟩ := id hC
  obtain ⟨hP, hK⟩ := hB
  obtain ⟨hES, hZ0⟩ := hE
  have hS : va_S (mA3 h0 a1 a2) s.heap s.heap [] := va_S.rf
  have hg : s.heap.size + 0 ≤ s.heap.size := Nat.le_refl _
  have hPx := hP.sub (ws' := mXW h0 a1 a2 cA v L P) [0, 1, 2] rfl
  have hl : lv_has ls 5 [(0, .ref h0), (1, .int (mI (V)))] := hl
  have hv9 := hok.1
  refine lv_iload_n hx hb dL_act_0 rfl (lv_at hl 1 rfl) ?_
  refine mw_bipush hx hb (by decide +kernel) dL_act_1 ?_
  refine mw_ishr hx hb dL_act_3 ?_
  refine mw_bipush hx hb (by decide +kernel) dL_act_4 ?_
  refine mw_cSi (rest := []) hC (c_L_low l (mShr V 24) 9 (by omega)) (va_cwS 2 hts gL_act_L_low rfl rfl rfl (by decide +kernel) ⟨Nat.le_of_ble_eq_true rfl, Nat.le_of_ble_eq_true rfl⟩) rfl hl.1 rfl (Nat.le_of_ble_eq_true rfl) ⟨Nat.zero_le _, Nat.zero_le _⟩ dL_act_6 ?_
  have b_6 := mLow_r (mShr V 24) 9 (by omega)
  refine mw_if_ne (tgt := 16) hx hb (by omega) dL_act_9 (by decide) (fun c_9 => ?_) (fun c_9 => False.elim (by exact absurd c_9 ho))
  refine mw_iconst hx hb dL_act_16 ?_
  refine lv_istore_n (lv' := [(2, .int (mI (0))), (0, .ref h0), (1, .int (mI (V)))]) hx hb dL_act_17 rfl hl (by decide) rfl (fun ls hl => ?_)
  refine mw_iconst hx hb dL_act_18 ?_
  refine lv_iload_n hx hb dL_act_19 rfl (lv_at hl 2 rfl) ?_
  refine mw_iconst hx hb dL_act_20 ?_
  refine mw_ishr hx hb dL_act_21 ?_
  refine lv_iload_n hx hb dL_act_22 rfl (lv_at hl 0 rfl) ?_
  refine mw_if_eq (tgt := 31) hx hb (by omega) dL_act_23 (by decide) (fun _ => ?_) (fun c => absurd (by decide) c)
  refine mw_iconst hx hb dL_act_31 ?_
  refine lv_iload_n hx hb dL_act_32 rfl (lv_at hl 2 rfl) ?_
  refine mw_bipush hx hb (by decide +kernel) dL_act_33 ?_
  refine mw_ishr hx hb dL_act_35 ?_
  refine mw_bipush hx hb (by decide +kernel) dL_act_36 ?_
  refine mw_cSi (rest := [.int (mI (1)), .int (mI (mShr V 4)), .int (mI (1))]) hC (c_L_low l (mShr V 14) 59 (by omega)) (va_cwS 2 hts gL_act_L_low rfl rfl rfl (by decide +kernel) ⟨Nat.le_of_ble_eq_true rfl, Nat.le_of_ble_eq_true rfl⟩) rfl hl.1 rfl (Nat.le_of_ble_eq_true rfl) ⟨Nat.zero_le _, Nat.zero_le _⟩ dL_act_38 ?_
  have b_38 := mLow_r (mShr V 14) 59 (by omega)
  refine mw_iadd hx hb dL_act_41 ?_
  refine mw_cSi (rest := [.int (mI (1))]) hC (c_L_low l (mShr V 4) (1 + (mLow (mShr V 14) 59)) (by omega)) (va_cwS 2 hts gL_act_L_low rfl rfl rfl (by decide +kernel) ⟨Nat.le_of_ble_eq_true rfl, Nat.le_of_ble_eq_true rfl⟩) rfl hl.1 rfl (Nat.le_of_ble_eq_true rfl) ⟨Nat.zero_le _, Nat.zero_le _⟩ dL_act_42 ?_
  have b_42 := mLow_r (mShr V 4) (1 + (mLow (mShr V 14) 59)) (by omega)
  refine mw_iadd hx hb dL_act_45 ?_
  refine lv_istore_n (lv' := [(3, .int (mI (1 + (mLow (mShr V 4) (1 + (mLow (mShr V 14) 59)))))), (2, .int (mI (0))), (0, .ref h0), (1, .int (mI (V)))]) hx hb dL_act_46 rfl hl (by decide) rfl (fun ls hl => ?_)
  refine lv_iload_n hx hb dL_act_47 rfl (lv_at hl 3 rfl) ?_
  refine mw_bipush hx hb (by decide +kernel) dL_act_48 ?_
  refine mw_cSi (rest := []) hC (c_L_low l V 7 (by omega)) (va_cwS 2 hts gL_act_L_low rfl rfl rfl (by decide +kernel) ⟨Nat.le_of_ble_eq_true rfl, Nat.le_of_ble_eq_true rfl⟩) rfl hl.1 rfl (Nat.le_of_ble_eq_true rfl) ⟨Nat.zero_le _, Nat.zero_le _⟩ dL_act_50 ?_
  have b_50 := mLow_r V 7 (by omega)
  refine mw_topi (y := 5) hk9 ?_
  refine lv_tableIn (off := 191) (tgt := 244) hx hb dL_act_53 (by decide +kernel) (by decide +kernel) (by decide +kernel) (by decide) ?_
  refine mw_iconst hx hb dL_act_244 ?_
  refine lv_iload_n hx hb dL_act_245 rfl (lv_at hl 3 rfl) ?_
  refine mw_iconst hx hb dL_act_246 ?_
  refine mw_ishr hx hb dL_act_247 ?_
  refine lv_iload_n hx hb dL_act_248 rfl (lv_at hl 1 rfl) ?_
  refine mw_if_eq (tgt := 258) hx hb (by omega) dL_act_249 (by decide) (fun _ => ?_) (fun c => absurd (by decide) c)
  refine mw_sipush hx hb (by decide +kernel) dL_act_258 ?_
  refine mw_cSi (rest := [.int (mI (1))]) hC (c_L_low l (mShr V 5) 400 (by omega)) (va_cwS 2 hts gL_act_L_low rfl rfl rfl (by decide +kernel) ⟨Nat.le_of_ble_eq_true rfl, Nat.le_of_ble_eq_true rfl⟩) rfl hl.1 rfl (Nat.le_of_ble_eq_true rfl) ⟨Nat.zero_le _, Nat.zero_le _⟩ dL_act_261 ?_
  have b_261 := mLow_r (mShr V 5) 400 (by omega)
  refine mw_iadd hx hb dL_act_264 ?_
  refine lv_istore (lv' := [(4, .int (mI (1 + (mLow (mShr V 5) 400)))), (3, .int (mI (1 + (mLow (mShr V 4) (1 + (mLow (mShr V 14) 59)))))), (2, .int (mI (0))), (0, .ref h0), (1, .int (mI (V)))]) hx hb dL_act_265 hl (by decide) rfl (fun ls hl => ?_)
  refine lv_aload_n hx hb dL_act_267 rfl (lv_at hl 3 rfl) ?_
  refine mw_bipush hx hb (by decide +kernel) dL_act_268 ?_
  refine lv_iload_n hx hb dL_act_270 rfl (lv_at hl 4 rfl) ?_
  refine mw_bipush hx hb (by decide +kernel) dL_act_271 ?_
  refine mw_ishr hx hb dL_act_273 ?_
  refine lv_iload_n hx hb dL_act_274 rfl (lv_at hl 2 rfl) ?_
  refine mw_if_eq (tgt := 284) hx hb (by omega) dL_act_275 (by decide) (fun _ => ?_) (fun c => absurd (by decide) c)
  refine mw_sipush hx hb (by decide +kernel) dL_act_284 ?_
  refine mw_cSi (rest := [.int (mI (100)), .ref h0]) hC (c_L_low l (mShr V 9) 401 (by omega)) (va_cwS 2 hts gL_act_L_low rfl rfl rfl (by decide +kernel) ⟨Nat.le_of_ble_eq_true rfl, Nat.le_of_ble_eq_true rfl⟩) rfl hl.1 rfl (Nat.le_of_ble_eq_true rfl) ⟨Nat.zero_le _, Nat.zero_le _⟩ dL_act_287 ?_
  have b_287 := mLow_r (mShr V 9) 401 (by omega)
  refine mw_iadd hx hb dL_act_290 ?_
  refine lv_iload_n hx hb dL_act_291 rfl (lv_at hl 4 rfl) ?_
  refine mw_bipush hx hb (by decide +kernel) dL_act_292 ?_
  refine mw_ishr hx hb dL_act_294 ?_
  refine lv_iload hx hb dL_act_295 (lv_at hl 0 rfl) ?_
  refine lv_iload_n hx hb dL_act_297 rfl (lv_at hl 2 rfl) ?_
  refine mw_if_eq (tgt := 305) hx hb (by omega) dL_act_298 (by decide) (fun _ => ?_) (fun c => absurd (by decide) c)
  refine mw_iconst hx hb dL_act_305 ?_
  refine mw_iadd hx hb dL_act_306 ?_
  refine mw_cSi (rest := [.int (mI (100 + (mLow (mShr V 9) 401))), .ref h0]) hC (c_L_low l (mShr V 12) ((1 + (mLow (mShr V 5) 400)) + 1) (by omega)) (va_cwS 2 hts gL_act_L_low rfl rfl rfl (by decide +kernel) ⟨Nat.le_of_ble_eq_true rfl, Nat.le_of_ble_eq_true rfl⟩) rfl hl.1 rfl (Nat.le_of_ble_eq_true rfl) ⟨Nat.zero_le _, Nat.zero_le _⟩ dL_act_307 ?_
  have b_307 := mLow_r (mShr V 12) ((1 + (mLow (mShr V 5) 400)) + 1) (by omega)
  refine lv_iload_n hx hb dL_act_310 rfl (lv_at hl 4 rfl) ?_
  refine mw_bipush hx hb (by decide +kernel) dL_act_311 ?_
  refine mw_ishr hx hb dL_act_313 ?_
  refine lv_iload hx hb dL_act_314 (lv_at hl 0 rfl) ?_
  refine mw_cSi (rest := [.int (mI (mLow (mShr V 12) ((1 + (mLow (mShr V 5) 400)) + 1))), .int (mI (100 + (mLow (mShr V 9) 401))), .ref h0]) hC (c_L_low l (mShr V 15) (1 + (mLow (mShr V 5) 400)) (by omega)) (va_cwS 2 hts gL_act_L_low rfl rfl rfl (by decide +kernel) ⟨Nat.le_of_ble_eq_true rfl, Nat.le_of_ble_eq_true rfl⟩) rfl hl.1 rfl (Nat.le_of_ble_eq_true rfl) ⟨Nat.zero_le _, Nat.zero_le _⟩ dL_act_316 ?_
  have b_316 := mLow_r (mShr V 15) (1 + (mLow (mShr V 5) 400)) (by omega)
  refine lv_iload hx hb dL_act_319 (lv_at hl 0 rfl) ?_
  refine mw_cK2 (rest := []) hC (k_setYear l hfl D h0 a1 a2 cA cJ v L P (100 + (mLow (mShr V 9) 401)) (mLow (mShr V 12) ((1 + (mLow (mShr V 5) 400)) + 1)) (mLow (mShr V 15) (1 + (mLow (mShr V 5) 400))) (1 + (mLow (mShr V 5) 400)) (by omega) (by omega) (by omega) (by omega) hok hdis) (vx_cwSW 5 hts gL_act_L_setYear rfl rfl rfl (by decide +kernel) ⟨Nat.le_of_ble_eq_true rfl, Nat.le_of_ble_eq_true rfl⟩) hK hPx ⟨hES, hZ0⟩ hNS rfl hl.1 rfl (Nat.le_of_ble_eq_true rfl) ⟨Nat.le_of_eq (Nat.zero_add _), Nat.le_of_eq (Nat.zero_add _)⟩ dL_act_321 (fun H locs hPx hS hz => ?_)
  have hg : s.heap.size + 0 ≤ H.size := Nat.le_trans (Nat.le_add_right _ _) hz
  refine W.eq (g2 := F0 m 324 ls [.int (mI (mK4 (mEx1 ((100 ≤ (100 + (mLow (mShr V 9) 401)) ∧ (100 + (mLow (mShr V 9) 401)) ≤ 500) ∧ (1 ≤ (1 + (mLow (mShr V 5) 400)) ∧ (1 + (mLow (mShr V 5) 400)) ≤ 400) ∧ (0 ≤ (mLow (mShr V 12) ((1 + (mLow (mShr V 5) 400)) + 1)) ∧ (mLow (mShr V 12) ((1 + (mLow (mShr V 5) 400)) + 1)) ≤ (1 + (mLow (mShr V 5) 400))) ∧ 0 ≤ (mLow (mShr V 15) (1 + (mLow (mShr V 5) 400))) ∧ (mLow (mShr V 15) (1 + (mLow (mShr V 5) 400))) ≤ (1 + (mLow (mShr V 5) 400)) - 1)) (0) (-99999) (-99999) (-99999)))]) rfl ?_
  exact mw_gret hx hb hr hlocks dL_act_324 rfl (by omega) hPx hS ⟨Nat.le_of_eq (Nat.zero_add _), Nat.le_of_eq (Nat.zero_add _)⟩
set_option maxHeartbeats 2000000 in
set_option maxRecDepth 100000 in
theorem g_act51 (l : Launch) (hfl : l.flags = flags0) (D : va_G) (h0 a1 a2 : Nat) (cA cJ : ClassId) (v : Nat → Int) (L P : Int → Int) (V : Int) (hV : mRI V) (ho : mLow (mShr V 24) 9 = 0) (hk9 : mLow V 7 = 5) (hdis : mDis h0 a1 a2) (hok : mOK v L P) : mG l yL_act wsL_act ({ frames := 10, cells := mC (mEx1 ((100 ≤ (100 + (mLow (mShr V 9) 410)) ∧ (100 + (mLow (mShr V 9) 410)) ≤ 500) ∧ (1 ≤ (1 + (mLow (mShr V 5) 402)) ∧ (1 + (mLow (mShr V 5) 402)) ≤ 400) ∧ (0 ≤ (mLow (mShr V 12) ((1 + (mLow (mShr V 5) 402)) + 2)) ∧ (mLow (mShr V 12) ((1 + (mLow (mShr V 5) 402)) + 2)) ≤ (1 + (mLow (mShr V 5) 402))) ∧ 0 ≤ (mLow (mShr V 15) (1 + (mLow (mShr V 5) 402))) ∧ (mLow (mShr V 15) (1 + (mLow (mShr V 5) 402))) ≤ (1 + (mLow (mShr V 5) 402)) - 1)), slots := 6 * mC (mEx1 ((100 ≤ (100 + (mLow (mShr V 9) 410)) ∧ (100 + (mLow (mShr V 9) 410)) ≤ 500) ∧ (1 ≤ (1 + (mLow (mShr V 5) 402)) ∧ (1 + (mLow (mShr V 5) 402)) ≤ 400) ∧ (0 ≤ (mLow (mShr V 12) ((1 + (mLow (mShr V 5) 402)) + 2)) ∧ (mLow (mShr V 12) ((1 + (mLow (mShr V 5) 402)) + 2)) ≤ (1 + (mLow (mShr V 5) 402))) ∧ 0 ≤ (mLow (mShr V 15) (1 + (mLow (mShr V 5) 402))) ∧ (mLow (mShr V 15) (1 + (mLow (mShr V 5) 402))) ≤ (1 + (mLow (mShr V 5) 402)) - 1)), locals := 172 }) [.ref h0, .int (mI (V))] D (mXW h0 a1 a2 cA v L P) (mTy cA cJ) (mK4 (mEx1 ((100 ≤ (100 + (mLow (mShr V 9) 410)) ∧ (100 + (mLow (mShr V 9) 410)) ≤ 500) ∧ (1 ≤ (1 + (mLow (mShr V 5) 402)) ∧ (1 + (mLow (mShr V 5) 402)) ≤ 400) ∧ (0 ≤ (mLow (mShr V 12) ((1 + (mLow (mShr V 5) 402)) + 2)) ∧ (mLow (mShr V 12) ((1 + (mLow (mShr V 5) 402)) + 2)) ≤ (1 + (mLow (mShr V 5) 402))) ∧ 0 ≤ (mLow (mShr V 15) (1 + (mLow (mShr V 5) 402))) ∧ (mLow (mShr V 15) (1 + (mLow (mShr V 5) 402))) ≤ (1 + (mLow (mShr V 5) 402)) - 1)) (0) (-99999) (-99999) (-99999)) 0 (mXW h0 a1 a2 cA (mIf (mEx1 ((100 ≤ (100 + (mLow (mShr V 9) 410)) ∧ (100 + (mLow (mShr V 9) 410)) ≤ 500) ∧ (1 ≤ (1 + (mLow (mShr V 5) 402)) ∧ (1 + (mLow (mShr V 5) 402)) ≤ 400) ∧ (0 ≤ (mLow (mShr V 12) ((1 + (mLow (mShr V 5) 402)) + 2)) ∧ (mLow (mShr V 12) ((1 + (mLow (mShr V 5) 402)) + 2)) ≤ (1 + (mLow (mShr V 5) 402))) ∧ 0 ≤ (mLow (mShr V 15) (1 + (mLow (mShr V 5) 402))) ∧ (mLow (mShr V 15) (1 + (mLow (mShr V 5) 402))) ≤ (1 + (mLow (mShr V 5) 402)) - 1)) (mPut (mPut (mPut (mPut v 4 (100 + (mLow (mShr V 9) 410))) 5 (mLow (mShr V 12) ((1 + (mLow (mShr V 5) 402)) + 2))) 6 (mLow (mShr V 15) (1 + (mLow (mShr V 5) 402)))) 7 (1 + (mLow (mShr V 5) 402))) v) (mIf (mEx1 ((100 ≤ (100 + (mLow (mShr V 9) 410)) ∧ (100 + (mLow (mShr V 9) 410)) ≤ 500) ∧ (1 ≤ (1 + (mLow (mShr V 5) 402)) ∧ (1 + (mLow (mShr V 5) 402)) ≤ 400) ∧ (0 ≤ (mLow (mShr V 12) ((1 + (mLow (mShr V 5) 402)) + 2)) ∧ (mLow (mShr V 12) ((1 + (mLow (mShr V 5) 402)) + 2)) ≤ (1 + (mLow (mShr V 5) 402))) ∧ 0 ≤ (mLow (mShr V 15) (1 + (mLow (mShr V 5) 402))) ∧ (mLow (mShr V 15) (1 + (mLow (mShr V 5) 402))) ≤ (1 + (mLow (mShr V 5) 402)) - 1)) L L) (mIf (mEx1 ((100 ≤ (100 + (mLow (mShr V 9) 410)) ∧ (100 + (mLow (mShr V 9) 410)) ≤ 500) ∧ (1 ≤ (1 + (mLow (mShr V 5) 402)) ∧ (1 + (mLow (mShr V 5) 402)) ≤ 400) ∧ (0 ≤ (mLow (mShr V 12) ((1 + (mLow (mShr V 5) 402)) + 2)) ∧ (mLow (mShr V 12) ((1 + (mLow (mShr V 5) 402)) + 2)) ≤ (1 + (mLow (mShr V 5) 402))) ∧ 0 ≤ (mLow (mShr V 15) (1 + (mLow (mShr V 5) 402))) ∧ (mLow (mShr V 15) (1 + (mLow (mShr V 5) 402))) ≤ (1 + (mLow (mShr V 5) 402)) - 1)) P P)) (mA3 h0 a1 a2) (mC (mEx1 ((100 ≤ (100 + (mLow (mShr V 9) 410)) ∧ (100 + (mLow (mShr V 9) 410)) ≤ 500) ∧ (1 ≤ (1 + (mLow (mShr V 5) 402)) ∧ (1 + (mLow (mShr V 5) 402)) ≤ 400) ∧ (0 ≤ (mLow (mShr V 12) ((1 + (mLow (mShr V 5) 402)) + 2)) ∧ (mLow (mShr V 12) ((1 + (mLow (mShr V 5) 402)) + 2)) ≤ (1 + (mLow (mShr V 5) 402))) ∧ 0 ≤ (mLow (mShr V 15) (1 + (mLow (mShr V 5) 402))) ∧ (mLow (mShr V 15) (1 + (mLow (mShr V 5) 402))) ≤ (1 + (mLow (mShr V 5) 402)) - 1))) (6 * mC (mEx1 ((100 ≤ (100 + (mLow (mShr V 9) 410)) ∧ (100 + (mLow (mShr V 9) 410)) ≤ 500) ∧ (1 ≤ (1 + (mLow (mShr V 5) 402)) ∧ (1 + (mLow (mShr V 5) 402)) ≤ 400) ∧ (0 ≤ (mLow (mShr V 12) ((1 + (mLow (mShr V 5) 402)) + 2)) ∧ (mLow (mShr V 12) ((1 + (mLow (mShr V 5) 402)) + 2)) ≤ (1 + (mLow (mShr V 5) 402))) ∧ 0 ≤ (mLow (mShr V 15) (1 + (mLow (mShr V 5) 402))) ∧ (mLow (mShr V 15) (1 + (mLow (mShr V 5) 402))) ≤ (1 + (mLow (mShr V 5) 402)) - 1))) := by
  refine mw_openG (cc := cL_act) (maxL := 5) (ret := (some .int)) (by decide) rfl (Nat.le_of_ble_eq_true rfl) ?_
  intro p e s m below meth c ls hC hr hlocks hB hE hNS hl
  obtain ⟨hx, hb, hml, hown, hts⟩ := id hC
  obtain ⟨hP, hK⟩ := hB
  obtain ⟨hES, hZ0⟩ := hE
  have hS : va_S (mA3 h0 a1 a2) s.heap s.heap [] := va_S.rf
  have hg : s.heap.size + 0 ≤ s.heap.size := Nat.le_refl _
  have hPx := hP.sub (ws' := mXW h0 a1 a2 cA v L P) [0, 1, 2] rfl
  have hl : lv_has ls 5 [(0, .ref h0), (1, .int (mI (V)))] := hl
  have hv9 := hok.1
  refine lv_iload_n hx hb dL_act_0 rfl (lv_at hl 1 rfl) ?_
  refine mw_bipush hx hb (by decide +kernel) dL_act_1 ?_
  refine mw_ishr hx hb dL_act_3 ?_
  refine mw_bipush hx hb (by decide +kernel) dL_act_4 ?_
  refine mw_cSi (rest := []) hC (c_L_low l (mShr V 24) 9 (by omega)) (va_cwS 2 hts gL_act_L_low rfl rfl rfl (by decide +kernel) ⟨Nat.le_of_ble_eq_true rfl, Nat.le_of_ble_eq_true rfl⟩) rfl hl.1 rfl (Nat.le_of_ble_eq_true rfl) ⟨Nat.zero_le _, Nat.zero_le _⟩ dL_act_6 ?_
  have b_6 := mLow_r (mShr V 24) 9 (by omega)
  refine mw_if_ne (tgt := 16) hx hb (by omega) dL_act_9 (by decide) (fun c_9 => False.elim (by exact absurd ho c_9)) (fun c_9 => ?_)
  refine mw_iconst hx hb dL_act_12 ?_
  refine lv_goto (tgt := 17) hx hb dL_act_13 (by decide) ?_
  refine lv_istore_n (lv' := [(2, .int (mI (1))), (0, .ref h0), (1, .int (mI (V)))]) hx hb dL_act_17 rfl hl (by decide) rfl (fun ls hl => ?_)
  refine mw_iconst hx hb dL_act_18 ?_
  refine lv_iload_n hx hb dL_act_19 rfl (lv_at hl 2 rfl) ?_
  refine mw_iconst hx hb dL_act_20 ?_
  refine mw_ishr hx hb dL_act_21 ?_
  refine lv_iload_n hx hb dL_act_22 rfl (lv_at hl 0 rfl) ?_
  refine mw_if_eq (tgt := 31) hx hb (by omega) dL_act_23 (by decide) (fun c => absurd c (by decide)) (fun _ => ?_)
  refine mw_bipush hx hb (by decide +kernel) dL_act_26 ?_
  refine lv_goto (tgt := 42) hx hb dL_act_28 (by decide) ?_
  refine mw_cSi (rest := [.int (mI (1))]) hC (c_L_low l (mShr V 4) 62 (by omega)) (va_cwS 2 hts gL_act_L_low rfl rfl rfl (by decide +kernel) ⟨Nat.le_of_ble_eq_true rfl, Nat.le_of_ble_eq_true rfl⟩) rfl hl.1 rfl (Nat.le_of_ble_eq_true rfl) ⟨Nat.zero_le _, Nat.zero_le _⟩ dL_act_42 ?_
  have b_42 := mLow_r (mShr V 4) 62 (by omega)
  refine mw_iadd hx hb dL_act_45 ?_
  refine lv_istore_n (lv' := [(3, .int (mI (1 + (mLow (mShr V 4) 62)))), (2, .int (mI (1))), (0, .ref h0), (1, .int (mI (V)))]) hx hb dL_act_46 rfl hl (by decide) rfl (fun ls hl => ?_)
  refine lv_iload_n hx hb dL_act_47 rfl (lv_at hl 3 rfl) ?_
  refine mw_bipush hx hb (by decide +kernel) dL_act_48 ?_
  refine mw_cSi (rest := []) hC (c_L_low l V 7 (by omega)) (va_cwS 2 hts gL_act_L_low rfl rfl rfl (by decide +kernel) ⟨Nat.le_of_ble_eq_true rfl, Nat.le_of_ble_eq_true rfl⟩) rfl hl.1 rfl (Nat.le_of_ble_eq_true rfl) ⟨Nat.zero_le _, Nat.zero_le _⟩ dL_act_50 ?_
  have b_50 := mLow_r V 7 (by omega)
  refine mw_topi (y := 5) hk9 ?_
  refine lv_tableIn (off := 191) (tgt := 244) hx hb dL_act_53 (by decide +kernel) (by decide +kernel) (by decide +kernel) (by decide) ?_
  refine mw_iconst hx hb dL_act_244 ?_
  refine lv_iload_n hx hb dL_act_245 rfl (lv_at hl 3 rfl) ?_
  refine mw_iconst hx hb dL_act_246 ?_
  refine mw_ishr hx hb dL_act_247 ?_
  refine lv_iload_n hx hb dL_act_248 rfl (lv_at hl 1 rfl) ?_
  refine mw_if_eq (tgt := 258) hx hb (by omega) dL_act_249 (by decide) (fun c => absurd c (by decide)) (fun _ => ?_)
  refine mw_sipush hx hb (by decide +kernel) dL_act_252 ?_
  refine lv_goto (tgt := 261) hx hb dL_act_255 (by decide) ?_
  refine mw_cSi (rest := [.int (mI (1))]) hC (c_L_low l (mShr V 5) 402 (by omega)) (va_cwS 2 hts gL_act_L_low rfl rfl rfl (by decide +kernel) ⟨Nat.le_of_ble_eq_true rfl, Nat.le_of_ble_eq_true rfl⟩) rfl hl.1 rfl (Nat.le_of_ble_eq_true rfl) ⟨Nat.zero_le _, Nat.zero_le _⟩ dL_act_261 ?_
  have b_261 := mLow_r (mShr V 5) 402 (by omega)
  refine mw_iadd hx hb dL_act_264 ?_
  refine lv_istore (lv' := [(4, .int (mI (1 + (mLow (mShr V 5) 402)))), (3, .int (mI (1 + (mLow (mShr V 4) 62)))), (2, .int (mI (1))), (0, .ref h0), (1, .int (mI (V)))]) hx hb dL_act_265 hl (by decide) rfl (fun ls hl => ?_)
  refine lv_aload_n hx hb dL_act_267 rfl (lv_at hl 3 rfl) ?_
  refine mw_bipush hx hb (by decide +kernel) dL_act_268 ?_
  refine lv_iload_n hx hb dL_act_270 rfl (lv_at hl 4 rfl) ?_
  refine mw_bipush hx hb (by decide +kernel) dL_act_271 ?_
  refine mw_ishr hx hb dL_act_273 ?_
  refine lv_iload_n hx hb dL_act_274 rfl (lv_at hl 2 rfl) ?_
  refine mw_if_eq (tgt := 284) hx hb (by omega) dL_act_275 (by decide) (fun c => absurd c (by decide)) (fun _ => ?_)
  refine mw_sipush hx hb (by decide +kernel) dL_act_278 ?_
  refine lv_goto (tgt := 287) hx hb dL_act_281 (by decide) ?_
  refine mw_cSi (rest := [.int (mI (100)), .ref h0]) hC (c_L_low l (mShr V 9) 410 (by omega)) (va_cwS 2 hts gL_act_L_low rfl rfl rfl (by decide +kernel) ⟨Nat.le_of_ble_eq_true rfl, Nat.le_of_ble_eq_true rfl⟩) rfl hl.1 rfl (Nat.le_of_ble_eq_true rfl) ⟨Nat.zero_le _, Nat.zero_le _⟩ dL_act_287 ?_
  have b_287 := mLow_r (mShr V 9) 410 (by omega)
  refine mw_iadd hx hb dL_act_290 ?_
  refine lv_iload_n hx hb dL_act_291 rfl (lv_at hl 4 rfl) ?_
  refine mw_bipush hx hb (by decide +kernel) dL_act_292 ?_
  refine mw_ishr hx hb dL_act_294 ?_
  refine lv_iload hx hb dL_act_295 (lv_at hl 0 rfl) ?_
  refine lv_iload_n hx hb dL_act_297 rfl (lv_at hl 2 rfl) ?_
  refine mw_if_eq (tgt := 305) hx hb (by omega) dL_act_298 (by decide) (fun c => absurd c (by decide)) (fun _ => ?_)
  refine mw_iconst hx hb dL_act_301 ?_
  refine lv_goto (tgt := 306) hx hb dL_act_302 (by decide) ?_
  refine mw_iadd hx hb dL_act_306 ?_
  refine mw_cSi (rest := [.int (mI (100 + (mLow (mShr V 9) 410))), .ref h0]) hC (c_L_low l (mShr V 12) ((1 + (mLow (mShr V 5) 402)) + 2) (by omega)) (va_cwS 2 hts gL_act_L_low rfl rfl rfl (by decide +kernel) ⟨Nat.le_of_ble_eq_true rfl, Nat.le_of_ble_eq_true rfl⟩) rfl hl.1 rfl (Nat.le_of_ble_eq_true rfl) ⟨Nat.zero_le _, Nat.zero_le _⟩ dL_act_307 ?_
  have b_307 := mLow_r (mShr V 12) ((1 + (mLow (mShr V 5) 402)) + 2) (by omega)
  refine lv_iload_n hx hb dL_act_310 rfl (lv_at hl 4 rfl) ?_
  refine mw_bipush hx hb (by decide +kernel) dL_act_311 ?_
  refine mw_ishr hx hb dL_act_313 ?_
  refine lv_iload hx hb dL_act_314 (lv_at hl 0 rfl) ?_
  refine mw_cSi (rest := [.int (mI (mLow (mShr V 12) ((1 + (mLow (mShr V 5) 402)) + 2))), .int (mI (100 + (mLow (mShr V 9) 410))), .ref h0]) hC (c_L_low l (mShr V 15) (1 + (mLow (mShr V 5) 402)) (by omega)) (va_cwS 2 hts gL_act_L_low rfl rfl rfl (by decide +kernel) ⟨Nat.le_of_ble_eq_true rfl, Nat.le_of_ble_eq_true rfl⟩) rfl hl.1 rfl (Nat.le_of_ble_eq_true rfl) ⟨Nat.zero_le _, Nat.zero_le _⟩ dL_act_316 ?_
  have b_316 := mLow_r (mShr V 15) (1 + (mLow (mShr V 5) 402)) (by omega)
  refine lv_iload hx hb dL_act_319 (lv_at hl 0 rfl) ?_
  refine mw_cK2 (rest := []) hC (k_setYear l hfl D h0 a1 a2 cA cJ v L P (100 + (mLow (mShr V 9) 410)) (mLow (mShr V 12) ((1 + (mLow (mShr V 5) 402)) + 2)) (mLow (mShr V 15) (1 + (mLow (mShr V 5) 402))) (1 + (mLow (mShr V 5) 402)) (by omega) (by omega) (by omega) (by omega) hok hdis) (vx_cwSW 5 hts gL_act_L_setYear rfl rfl rfl (by decide +kernel) ⟨Nat.le_of_ble_eq_true rfl, Nat.le_of_ble_eq_true rfl⟩) hK hPx ⟨hES, hZ0⟩ hNS rfl hl.1 rfl (Nat.le_of_ble_eq_true rfl) ⟨Nat.le_of_eq (Nat.zero_add _), Nat.le_of_eq (Nat.zero_add _)⟩ dL_act_321 (fun H locs hPx hS hz => ?_)
  have hg : s.heap.size + 0 ≤ H.size := Nat.le_trans (Nat.le_add_right _ _) hz
  refine W.eq (g2 := F0 m 324 ls [.int (mI (mK4 (mEx1 ((100 ≤ (100 + (mLow (mShr V 9) 410)) ∧ (100 + (mLow (mShr V 9) 410)) ≤ 500) ∧ (1 ≤ (1 + (mLow (mShr V 5) 402)) ∧ (1 + (mLow (mShr V 5) 402)) ≤ 400) ∧ (0 ≤ (mLow (mShr V 12) ((1 + (mLow (mShr V 5) 402)) + 2)) ∧ (mLow (mShr V 12) ((1 + (mLow (mShr V 5) 402)) + 2)) ≤ (1 + (mLow (mShr V 5) 402))) ∧ 0 ≤ (mLow (mShr V 15) (1 + (mLow (mShr V 5) 402))) ∧ (mLow (mShr V 15) (1 + (mLow (mShr V 5) 402))) ≤ (1 + (mLow (mShr V 5) 402)) - 1)) (0) (-99999) (-99999) (-99999)))]) rfl ?_
  exact mw_gret hx hb hr hlocks dL_act_324 rfl (by omega) hPx hS ⟨Nat.le_of_eq (Nat.zero_add _), Nat.le_of_eq (Nat.zero_add _)⟩
set_option maxHeartbeats 2000000 in
set_option maxRecDepth 100000 in
theorem g_act60 (l : Launch) (hfl : l.flags = flags0) (D : va_G) (h0 a1 a2 : Nat) (cA cJ : ClassId) (v : Nat → Int) (L P : Int → Int) (V : Int) (hV : mRI V) (ho : ¬ mLow (mShr V 24) 9 = 0) (hk9 : mLow V 7 = 6) (hdis : mDis h0 a1 a2) (hok : mOK v L P) : mG l yL_act wsL_act ({ frames := 10, cells := mC (mEx1 ((100 ≤ (365 : Int) ∧ (365 : Int) ≤ 500) ∧ (1 ≤ (400 : Int) ∧ (400 : Int) ≤ 400) ∧ (0 ≤ (97 : Int) ∧ (97 : Int) ≤ (400 : Int)) ∧ 0 ≤ (0 : Int) ∧ (0 : Int) ≤ (400 : Int) - 1)), slots := 6 * mC (mEx1 ((100 ≤ (365 : Int) ∧ (365 : Int) ≤ 500) ∧ (1 ≤ (400 : Int) ∧ (400 : Int) ≤ 400) ∧ (0 ≤ (97 : Int) ∧ (97 : Int) ≤ (400 : Int)) ∧ 0 ≤ (0 : Int) ∧ (0 : Int) ≤ (400 : Int) - 1)), locals := 172 }) [.ref h0, .int (mI (V))] D (mXW h0 a1 a2 cA v L P) (mTy cA cJ) (mK4 (mEx1 ((100 ≤ (365 : Int) ∧ (365 : Int) ≤ 500) ∧ (1 ≤ (400 : Int) ∧ (400 : Int) ≤ 400) ∧ (0 ≤ (97 : Int) ∧ (97 : Int) ≤ (400 : Int)) ∧ 0 ≤ (0 : Int) ∧ (0 : Int) ≤ (400 : Int) - 1)) (0) (-99999) (-99999) (-99999)) 0 (mXW h0 a1 a2 cA (mIf (mEx1 ((100 ≤ (365 : Int) ∧ (365 : Int) ≤ 500) ∧ (1 ≤ (400 : Int) ∧ (400 : Int) ≤ 400) ∧ (0 ≤ (97 : Int) ∧ (97 : Int) ≤ (400 : Int)) ∧ 0 ≤ (0 : Int) ∧ (0 : Int) ≤ (400 : Int) - 1)) (mPut (mPut (mPut (mPut v 4 (365 : Int)) 5 (97 : Int)) 6 (0 : Int)) 7 (400 : Int)) v) (mIf (mEx1 ((100 ≤ (365 : Int) ∧ (365 : Int) ≤ 500) ∧ (1 ≤ (400 : Int) ∧ (400 : Int) ≤ 400) ∧ (0 ≤ (97 : Int) ∧ (97 : Int) ≤ (400 : Int)) ∧ 0 ≤ (0 : Int) ∧ (0 : Int) ≤ (400 : Int) - 1)) L L) (mIf (mEx1 ((100 ≤ (365 : Int) ∧ (365 : Int) ≤ 500) ∧ (1 ≤ (400 : Int) ∧ (400 : Int) ≤ 400) ∧ (0 ≤ (97 : Int) ∧ (97 : Int) ≤ (400 : Int)) ∧ 0 ≤ (0 : Int) ∧ (0 : Int) ≤ (400 : Int) - 1)) P P)) (mA3 h0 a1 a2) (mC (mEx1 ((100 ≤ (365 : Int) ∧ (365 : Int) ≤ 500) ∧ (1 ≤ (400 : Int) ∧ (400 : Int) ≤ 400) ∧ (0 ≤ (97 : Int) ∧ (97 : Int) ≤ (400 : Int)) ∧ 0 ≤ (0 : Int) ∧ (0 : Int) ≤ (400 : Int) - 1))) (6 * mC (mEx1 ((100 ≤ (365 : Int) ∧ (365 : Int) ≤ 500) ∧ (1 ≤ (400 : Int) ∧ (400 : Int) ≤ 400) ∧ (0 ≤ (97 : Int) ∧ (97 : Int) ≤ (400 : Int)) ∧ 0 ≤ (0 : Int) ∧ (0 : Int) ≤ (400 : Int) - 1))) := by
  refine mw_openG (cc := cL_act) (maxL := 5) (ret := (some .int)) (by decide) rfl (Nat.le_of_ble_eq_true rfl) ?_
  intro p e s m below meth c ls hC hr hlocks hB hE hNS hl
  obtain ⟨hx, hb, hml, hown, hts⟩ := id hC
  obtain ⟨hP, hK⟩ := hB
  obtain ⟨hES, hZ0⟩ := hE
  have hS : va_S (mA3 h0 a1 a2) s.heap s.heap [] := va_S.rf
  have hg : s.heap.size + 0 ≤ s.heap.size := Nat.le_refl _
  have hPx := hP.sub (ws' := mXW h0 a1 a2 cA v L P) [0, 1, 2] rfl
  have hl : lv_has ls 5 [(0, .ref h0), (1, .int (mI (V)))] := hl
  have hv9 := hok.1
  refine lv_iload_n hx hb dL_act_0 rfl (lv_at hl 1 rfl) ?_
  refine mw_bipush hx hb (by decide +kernel) dL_act_1 ?_
  refine mw_ishr hx hb dL_act_3 ?_
  refine mw_bipush hx hb (by decide +kernel) dL_act_4 ?_
  refine mw_cSi (rest := []) hC (c_L_low l (mShr V 24) 9 (by omega)) (va_cwS 2 hts gL_act_L_low rfl rfl rfl (by decide +kernel) ⟨Nat.le_of_ble_eq_true rfl, Nat.le_of_ble_eq_true rfl⟩) rfl hl.1 rfl (Nat.le_of_ble_eq_true rfl) ⟨Nat.zero_le _, Nat.zero_le _⟩ dL_act_6 ?_
  have b_6 := mLow_r (mShr V 24) 9 (by omega)
  refine mw_if_ne (tgt := 16) hx hb (by omega) dL_act_9 (by decide) (fun c_9 => ?_) (fun c_9 => False.elim (by exact absurd c_9 ho))
  refine mw_iconst hx hb dL_act_16 ?_
  refine lv_istore_n (lv' := [(2, .int (mI (0))), (0, .ref h0), (1, .int (mI (V)))]) hx hb dL_act_17 rfl hl (by decide) rfl (fun ls hl => ?_)
  refine mw_iconst hx hb dL_act_18 ?_
  refine lv_iload_n hx hb dL_act_19 rfl (lv_at hl 2 rfl) ?_
  refine mw_iconst hx hb dL_act_20 ?_
  refine mw_ishr hx hb dL_act_21 ?_
  refine lv_iload_n hx hb dL_act_22 rfl (lv_at hl 0 rfl) ?_
  refine mw_if_eq (tgt := 31) hx hb (by omega) dL_act_23 (by decide) (fun _ => ?_) (fun c => absurd (by decide) c)
  refine mw_iconst hx hb dL_act_31 ?_
  refine lv_iload_n hx hb dL_act_32 rfl (lv_at hl 2 rfl) ?_
  refine mw_bipush hx hb (by decide +kernel) dL_act_33 ?_
  refine mw_ishr hx hb dL_act_35 ?_
  refine mw_bipush hx hb (by decide +kernel) dL_act_36 ?_
  refine mw_cSi (rest := [.int (mI (1)), .int (mI (mShr V 4)), .int (mI (1))]) hC (c_L_low l (mShr V 14) 59 (by omega)) (va_cwS 2 hts gL_act_L_low rfl rfl rfl (by decide +kernel) ⟨Nat.le_of_ble_eq_true rfl, Nat.le_of_ble_eq_true rfl⟩) rfl hl.1 rfl (Nat.le_of_ble_eq_true rfl) ⟨Nat.zero_le _, Nat.zero_le _⟩ dL_act_38 ?_
  have b_38 := mLow_r (mShr V 14) 59 (by omega)
  refine mw_iadd hx hb dL_act_41 ?_
  refine mw_cSi (rest := [.int (mI (1))]) hC (c_L_low l (mShr V 4) (1 + (mLow (mShr V 14) 59)) (by omega)) (va_cwS 2 hts gL_act_L_low rfl rfl rfl (by decide +kernel) ⟨Nat.le_of_ble_eq_true rfl, Nat.le_of_ble_eq_true rfl⟩) rfl hl.1 rfl (Nat.le_of_ble_eq_true rfl) ⟨Nat.zero_le _, Nat.zero_le _⟩ dL_act_42 ?_
  have b_42 := mLow_r (mShr V 4) (1 + (mLow (mShr V 14) 59)) (by omega)
  refine mw_iadd hx hb dL_act_45 ?_
  refine lv_istore_n (lv' := [(3, .int (mI (1 + (mLow (mShr V 4) (1 + (mLow (mShr V 14) 59)))))), (2, .int (mI (0))), (0, .ref h0), (1, .int (mI (V)))]) hx hb dL_act_46 rfl hl (by decide) rfl (fun ls hl => ?_)
  refine lv_iload_n hx hb dL_act_47 rfl (lv_at hl 3 rfl) ?_
  refine mw_bipush hx hb (by decide +kernel) dL_act_48 ?_
  refine mw_cSi (rest := []) hC (c_L_low l V 7 (by omega)) (va_cwS 2 hts gL_act_L_low rfl rfl rfl (by decide +kernel) ⟨Nat.le_of_ble_eq_true rfl, Nat.le_of_ble_eq_true rfl⟩) rfl hl.1 rfl (Nat.le_of_ble_eq_true rfl) ⟨Nat.zero_le _, Nat.zero_le _⟩ dL_act_50 ?_
  have b_50 := mLow_r V 7 (by omega)
  refine mw_topi (y := 6) hk9 ?_
  refine lv_tableOut (tgt := 325) hx hb dL_act_53 (Or.inr (by decide +kernel)) (by decide) ?_
  refine lv_aload_n hx hb dL_act_325 rfl (lv_at hl 2 rfl) ?_
  refine mw_sipush hx hb (by decide +kernel) dL_act_326 ?_
  refine lv_iload_n hx hb dL_act_329 rfl (lv_at hl 1 rfl) ?_
  refine mw_if_eq (tgt := 337) hx hb (by omega) dL_act_330 (by decide) (fun _ => ?_) (fun c => absurd (by decide) c)
  refine mw_bipush hx hb (by decide +kernel) dL_act_337 ?_
  refine mw_iconst hx hb dL_act_339 ?_
  refine mw_sipush hx hb (by decide +kernel) dL_act_340 ?_
  refine mw_cK2 (rest := []) hC (k_setYear l hfl D h0 a1 a2 cA cJ v L P 365 97 0 400 (by omega) (by omega) (by omega) (by omega) hok hdis) (vx_cwSW 5 hts gL_act_L_setYear rfl rfl rfl (by decide +kernel) ⟨Nat.le_of_ble_eq_true rfl, Nat.le_of_ble_eq_true rfl⟩) hK hPx ⟨hES, hZ0⟩ hNS rfl hl.1 rfl (Nat.le_of_ble_eq_true rfl) ⟨Nat.le_of_eq (Nat.zero_add _), Nat.le_of_eq (Nat.zero_add _)⟩ dL_act_343 (fun H locs hPx hS hz => ?_)
  have hg : s.heap.size + 0 ≤ H.size := Nat.le_trans (Nat.le_add_right _ _) hz
  refine W.eq (g2 := F0 m 346 ls [.int (mI (mK4 (mEx1 ((100 ≤ (365 : Int) ∧ (365 : Int) ≤ 500) ∧ (1 ≤ (400 : Int) ∧ (400 : Int) ≤ 400) ∧ (0 ≤ (97 : Int) ∧ (97 : Int) ≤ (400 : Int)) ∧ 0 ≤ (0 : Int) ∧ (0 : Int) ≤ (400 : Int) - 1)) (0) (-99999) (-99999) (-99999)))]) rfl ?_
  exact mw_gret hx hb hr hlocks dL_act_346 rfl (by omega) hPx hS ⟨Nat.le_of_eq (Nat.zero_add _), Nat.le_of_eq (Nat.zero_add _)⟩
set_option maxHeartbeats 2000000 in
set_option maxRecDepth 100000 in
theorem g_act61 (l : Launch) (hfl : l.flags = flags0) (D : va_G) (h0 a1 a2 : Nat) (cA cJ : ClassId) (v : Nat → Int) (L P : Int → Int) (V : Int) (hV : mRI V) (ho : mLow (mShr V 24) 9 = 0) (hk9 : mLow V 7 = 6) (hdis : mDis h0 a1 a2) (hok : mOK v L P) : mG l yL_act wsL_act ({ frames := 10, cells := mC (mEx1 ((100 ≤ (365 : Int) ∧ (365 : Int) ≤ 500) ∧ (1 ≤ (400 : Int) ∧ (400 : Int) ≤ 400) ∧ (0 ≤ (-1) ∧ (-1) ≤ (400 : Int)) ∧ 0 ≤ (0 : Int) ∧ (0 : Int) ≤ (400 : Int) - 1)), slots := 6 * mC (mEx1 ((100 ≤ (365 : Int) ∧ (365 : Int) ≤ 500) ∧ (1 ≤ (400 : Int) ∧ (400 : Int) ≤ 400) ∧ (0 ≤ (-1) ∧ (-1) ≤ (400 : Int)) ∧ 0 ≤ (0 : Int) ∧ (0 : Int) ≤ (400 : Int) - 1)), locals := 172 }) [.ref h0, .int (mI (V))] D (mXW h0 a1 a2 cA v L P) (mTy cA cJ) (mK4 (mEx1 ((100 ≤ (365 : Int) ∧ (365 : Int) ≤ 500) ∧ (1 ≤ (400 : Int) ∧ (400 : Int) ≤ 400) ∧ (0 ≤ (-1) ∧ (-1) ≤ (400 : Int)) ∧ 0 ≤ (0 : Int) ∧ (0 : Int) ≤ (400 : Int) - 1)) (0) (-99999) (-99999) (-99999)) 0 (mXW h0 a1 a2 cA (mIf (mEx1 ((100 ≤ (365 : Int) ∧ (365 : Int) ≤ 500) ∧ (1 ≤ (400 : Int) ∧ (400 : Int) ≤ 400) ∧ (0 ≤ (-1) ∧ (-1) ≤ (400 : Int)) ∧ 0 ≤ (0 : Int) ∧ (0 : Int) ≤ (400 : Int) - 1)) (mPut (mPut (mPut (mPut v 4 (365 : Int)) 5 (-1)) 6 (0 : Int)) 7 (400 : Int)) v) (mIf (mEx1 ((100 ≤ (365 : Int) ∧ (365 : Int) ≤ 500) ∧ (1 ≤ (400 : Int) ∧ (400 : Int) ≤ 400) ∧ (0 ≤ (-1) ∧ (-1) ≤ (400 : Int)) ∧ 0 ≤ (0 : Int) ∧ (0 : Int) ≤ (400 : Int) - 1)) L L) (mIf (mEx1 ((100 ≤ (365 : Int) ∧ (365 : Int) ≤ 500) ∧ (1 ≤ (400 : Int) ∧ (400 : Int) ≤ 400) ∧ (0 ≤ (-1) ∧ (-1) ≤ (400 : Int)) ∧ 0 ≤ (0 : Int) ∧ (0 : Int) ≤ (400 : Int) - 1)) P P)) (mA3 h0 a1 a2) (mC (mEx1 ((100 ≤ (365 : Int) ∧ (365 : Int) ≤ 500) ∧ (1 ≤ (400 : Int) ∧ (400 : Int) ≤ 400) ∧ (0 ≤ (-1) ∧ (-1) ≤ (400 : Int)) ∧ 0 ≤ (0 : Int) ∧ (0 : Int) ≤ (400 : Int) - 1))) (6 * mC (mEx1 ((100 ≤ (365 : Int) ∧ (365 : Int) ≤ 500) ∧ (1 ≤ (400 : Int) ∧ (400 : Int) ≤ 400) ∧ (0 ≤ (-1) ∧ (-1) ≤ (400 : Int)) ∧ 0 ≤ (0 : Int) ∧ (0 : Int) ≤ (400 : Int) - 1))) := by
  refine mw_openG (cc := cL_act) (maxL := 5) (ret := (some .int)) (by decide) rfl (Nat.le_of_ble_eq_true rfl) ?_
  intro p e s m below meth c ls hC hr hlocks hB hE hNS hl
  obtain ⟨hx, hb, hml, hown, hts⟩ := id hC
  obtain ⟨hP, hK⟩ := hB
  obtain ⟨hES, hZ0⟩ := hE
  have hS : va_S (mA3 h0 a1 a2) s.heap s.heap [] := va_S.rf
  have hg : s.heap.size + 0 ≤ s.heap.size := Nat.le_refl _
  have hPx := hP.sub (ws' := mXW h0 a1 a2 cA v L P) [0, 1, 2] rfl
  have hl : lv_has ls 5 [(0, .ref h0), (1, .int (mI (V)))] := hl
  have hv9 := hok.1
  refine lv_iload_n hx hb dL_act_0 rfl (lv_at hl 1 rfl) ?_
  refine mw_bipush hx hb (by decide +kernel) dL_act_1 ?_
  refine mw_ishr hx hb dL_act_3 ?_
  refine mw_bipush hx hb (by decide +kernel) dL_act_4 ?_
  refine mw_cSi (rest := []) hC (c_L_low l (mShr V 24) 9 (by omega)) (va_cwS 2 hts gL_act_L_low rfl rfl rfl (by decide +kernel) ⟨Nat.le_of_ble_eq_true rfl, Nat.le_of_ble_eq_true rfl⟩) rfl hl.1 rfl (Nat.le_of_ble_eq_true rfl) ⟨Nat.zero_le _, Nat.zero_le _⟩ dL_act_6 ?_
  have b_6 := mLow_r (mShr V 24) 9 (by omega)
  refine mw_if_ne (tgt := 16) hx hb (by omega) dL_act_9 (by decide) (fun c_9 => False.elim (by exact absurd ho c_9)) (fun c_9 => ?_)
  refine mw_iconst hx hb dL_act_12 ?_
  refine lv_goto (tgt := 17) hx hb dL_act_13 (by decide) ?_
  refine lv_istore_n (lv' := [(2, .int (mI (1))), (0, .ref h0), (1, .int (mI (V)))]) hx hb dL_act_17 rfl hl (by decide) rfl (fun ls hl => ?_)
  refine mw_iconst hx hb dL_act_18 ?_
  refine lv_iload_n hx hb dL_act_19 rfl (lv_at hl 2 rfl) ?_
  refine mw_iconst hx hb dL_act_20 ?_
  refine mw_ishr hx hb dL_act_21 ?_
  refine lv_iload_n hx hb dL_act_22 rfl (lv_at hl 0 rfl) ?_
  refine mw_if_eq (tgt := 31) hx hb (by omega) dL_act_23 (by decide) (fun c => absurd c (by decide)) (fun _ => ?_)
  refine mw_bipush hx hb (by decide +kernel) dL_act_26 ?_
  refine lv_goto (tgt := 42) hx hb dL_act_28 (by decide) ?_
  refine mw_cSi (rest := [.int (mI (1))]) hC (c_L_low l (mShr V 4) 62 (by omega)) (va_cwS 2 hts gL_act_L_low rfl rfl rfl (by decide +kernel) ⟨Nat.le_of_ble_eq_true rfl, Nat.le_of_ble_eq_true rfl⟩) rfl hl.1 rfl (Nat.le_of_ble_eq_true rfl) ⟨Nat.zero_le _, Nat.zero_le _⟩ dL_act_42 ?_
  have b_42 := mLow_r (mShr V 4) 62 (by omega)
  refine mw_iadd hx hb dL_act_45 ?_
  refine lv_istore_n (lv' := [(3, .int (mI (1 + (mLow (mShr V 4) 62)))), (2, .int (mI (1))), (0, .ref h0), (1, .int (mI (V)))]) hx hb dL_act_46 rfl hl (by decide) rfl (fun ls hl => ?_)
  refine lv_iload_n hx hb dL_act_47 rfl (lv_at hl 3 rfl) ?_
  refine mw_bipush hx hb (by decide +kernel) dL_act_48 ?_
  refine mw_cSi (rest := []) hC (c_L_low l V 7 (by omega)) (va_cwS 2 hts gL_act_L_low rfl rfl rfl (by decide +kernel) ⟨Nat.le_of_ble_eq_true rfl, Nat.le_of_ble_eq_true rfl⟩) rfl hl.1 rfl (Nat.le_of_ble_eq_true rfl) ⟨Nat.zero_le _, Nat.zero_le _⟩ dL_act_50 ?_
  have b_50 := mLow_r V 7 (by omega)
  refine mw_topi (y := 6) hk9 ?_
  refine lv_tableOut (tgt := 325) hx hb dL_act_53 (Or.inr (by decide +kernel)) (by decide) ?_
  refine lv_aload_n hx hb dL_act_325 rfl (lv_at hl 2 rfl) ?_
  refine mw_sipush hx hb (by decide +kernel) dL_act_326 ?_
  refine lv_iload_n hx hb dL_act_329 rfl (lv_at hl 1 rfl) ?_
  refine mw_if_eq (tgt := 337) hx hb (by omega) dL_act_330 (by decide) (fun c => absurd c (by decide)) (fun _ => ?_)
  refine mw_iconst hx hb dL_act_333 ?_
  refine lv_goto (tgt := 339) hx hb dL_act_334 (by decide) ?_
  refine mw_iconst hx hb dL_act_339 ?_
  refine mw_sipush hx hb (by decide +kernel) dL_act_340 ?_
  refine mw_cK2 (rest := []) hC (k_setYear l hfl D h0 a1 a2 cA cJ v L P 365 (-1) 0 400 (by omega) (by omega) (by omega) (by omega) hok hdis) (vx_cwSW 5 hts gL_act_L_setYear rfl rfl rfl (by decide +kernel) ⟨Nat.le_of_ble_eq_true rfl, Nat.le_of_ble_eq_true rfl⟩) hK hPx ⟨hES, hZ0⟩ hNS rfl hl.1 rfl (Nat.le_of_ble_eq_true rfl) ⟨Nat.le_of_eq (Nat.zero_add _), Nat.le_of_eq (Nat.zero_add _)⟩ dL_act_343 (fun H locs hPx hS hz => ?_)
  have hg : s.heap.size + 0 ≤ H.size := Nat.le_trans (Nat.le_add_right _ _) hz
  refine W.eq (g2 := F0 m 346 ls [.int (mI (mK4 (mEx1 ((100 ≤ (365 : Int) ∧ (365 : Int) ≤ 500) ∧ (1 ≤ (400 : Int) ∧ (400 : Int) ≤ 400) ∧ (0 ≤ (-1) ∧ (-1) ≤ (400 : Int)) ∧ 0 ≤ (0 : Int) ∧ (0 : Int) ≤ (400 : Int) - 1)) (0) (-99999) (-99999) (-99999)))]) rfl ?_
  exact mw_gret hx hb hr hlocks dL_act_346 rfl (by omega) hPx hS ⟨Nat.le_of_eq (Nat.zero_add _), Nat.le_of_eq (Nat.zero_add _)⟩
