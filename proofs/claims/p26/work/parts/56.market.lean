theorem m_heldbit {v : Nat → Int} {L P : Int → Int} (hok : mOK v L P) {k : Int} (hk : mMk v k) (d : Int) : mAnd (mShr (mSet L P d (v 0).toNat) k) 1 = mB (d % L k = P k) := by
  have hv := hok.1
  obtain ⟨j, rfl⟩ : ∃ j : Nat, k = (j : Int) := ⟨k.toNat, by omega⟩
  have hr := mSet_r L P d (v 0).toNat
  have p16 : (2 : Int) ^ (v 0).toNat ≤ 65536 := by
    have h1 : (2 : Nat) ^ (v 0).toNat ≤ 2 ^ 16 := Nat.pow_le_pow_right (by omega) (by omega)
    have h2 : (((2 : Nat) ^ (v 0).toNat : Nat) : Int) = (2 : Int) ^ (v 0).toNat := by rw [Int.natCast_pow]; rfl
    have h3 : ((2 : Nat) ^ 16) = 65536 := by decide
    omega
  rw [mBit_shr (by omega) j (by omega), m_setbit L P d j (v 0).toNat (by omega) (by omega)]
  rfl
theorem m_split3 {L P : Int → Int} {k d : Int} : mCnt L P k d (d + 500) = mCnt L P k d (d + 77) + mCnt L P k (d + 78) (d + 500) := by
  unfold mCnt
  have e : d + 78 - 1 - P k = d + 77 - P k := by omega
  rw [e]
  omega
set_option maxHeartbeats 2000000 in
set_option maxRecDepth 100000 in
theorem g_isMarketSo (l : Launch) (hfl : l.flags = flags0) (D : va_G) (h0 a1 a2 : Nat) (cA cJ : ClassId) (v : Nat → Int) (L P : Int → Int) (k d : Int) (hd : -900000 ≤ d ∧ d ≤ 900000) (hk9 : mMk v k) (hok : mOK v L P) : mG l yL_isMarketSo wsL_isMarketSo ({ frames := 9, cells := 0, slots := 0, locals := 155 }) [.ref h0, .int (mI (k)), .int (mI (d))] D (mXW h0 a1 a2 cA v L P) (mTy cA cJ) 1 0 (mXW h0 a1 a2 cA v L P) (fun _ => False) 0 0 := by
  refine mw_openG (cc := cL_isMarketSo) (maxL := 7) (ret := (some .boolean)) (by decide) rfl (Nat.le_of_ble_eq_true rfl) ?_
  intro p e s m below meth c ls hC hr hlocks hB hE hNS hl
  obtain ⟨hx, hb, hml, hown, hts⟩ := id hC
  obtain ⟨hP, hK⟩ := hB
  obtain ⟨hES, hZ0⟩ := hE
  have hZS : mwZ (fun _ => False) s s.heap := hZ0
  have hS : va_S (fun _ => False) s.heap s.heap [] := va_S.rf
  have hg : s.heap.size + 0 ≤ s.heap.size := Nat.le_refl _
  have hPx := hP.sub (ws' := mXW h0 a1 a2 cA v L P) [0, 1, 2] rfl
  have hl : lv_has ls 7 [(0, .ref h0), (1, .int (mI (k))), (2, .int (mI (d)))] := hl
  have hv9 := hok.1
  have hLP := hok.2.1 k hk9.1 hk9.2
  have mk := m_mk (L := L k) (P := P k) (d := d) ⟨by omega, by omega⟩ ⟨by omega, by omega⟩
  obtain ⟨nx, hNX⟩ : ∃ nx, nx = d + (P k - d) % L k := ⟨_, rfl⟩
  rw [← hNX] at mk
  obtain ⟨nr, hNR⟩ : ∃ nr, nr = mNear L P k d := ⟨_, rfl⟩
  have nrf := m_nr (L := L k) (P := P k) (d := d) (x := nr) ⟨by omega, by omega⟩ ⟨by omega, by omega⟩ hNR
  obtain ⟨bb, hBB⟩ : ∃ bb, bb = mB (d % L k = P k) := ⟨_, rfl⟩
  have rbb : 0 ≤ bb ∧ bb ≤ 1 := by rw [hBB]; exact mB_r
  obtain ⟨ta, hTA⟩ : ∃ ta, ta = mCnt L P k d (d + 500) := ⟨_, rfl⟩
  obtain ⟨tb, hTB⟩ : ∃ tb, tb = mCnt L P k d (d + 77) := ⟨_, rfl⟩
  obtain ⟨tc, hTC⟩ : ∃ tc, tc = mCnt L P k (d + 78) (d + 500) := ⟨_, rfl⟩
  have rta : mRI ta := by rw [hTA]; exact m_cnt_r (by omega) (by omega) (by omega) (by omega)
  have h3t : ta = tb + tc := by rw [hTA, hTB, hTC]; exact m_split3
  refine lv_aload_n hx hb dL_isMarketSo_0 rfl (lv_at hl 0 rfl) ?_
  refine lv_iload_n hx hb dL_isMarketSo_1 rfl (lv_at hl 1 rfl) ?_
  refine lv_iload_n hx hb dL_isMarketSo_2 rfl (lv_at hl 2 rfl) ?_
  refine mw_cXn (rest := []) (A0 := (fun _ => False)) hC (x_X0_next l hfl D h0 a1 a2 cA cJ v L P k d (by omega) (by omega) hok) (mEx2_0 (by omega) (by omega)) hES hZS (cwV 2 hts gL_isMarketSo_X0_next rfl rfl rfl (by decide +kernel) ⟨Nat.le_of_ble_eq_true rfl, Nat.le_of_ble_eq_true rfl⟩) hK hPx hS rfl rfl hl.1 rfl (Nat.le_of_ble_eq_true rfl) ⟨Nat.le_of_ble_eq_true rfl, Nat.le_of_ble_eq_true rfl⟩ dL_isMarketSo_3 (fun H locs hS hz hk => ?_)
  have hPx := mw_keepP hPx hk
  have hg := Nat.le_trans hg hz
  refine W.eq (g2 := F0 m 6 ls [.int (mI (d + (P k - d) % L k))]) rfl ?_
  refine mw_topi (y := nx) hNX.symm ?_
  refine lv_istore_n (lv' := [(3, .int (mI (nx))), (0, .ref h0), (1, .int (mI (k))), (2, .int (mI (d)))]) hx hb dL_isMarketSo_6 rfl hl (by decide) rfl (fun ls hl => ?_)
  refine lv_aload_n hx hb dL_isMarketSo_7 rfl (lv_at hl 1 rfl) ?_
  refine lv_iload_n hx hb dL_isMarketSo_8 rfl (lv_at hl 2 rfl) ?_
  refine lv_iload_n hx hb dL_isMarketSo_9 rfl (lv_at hl 3 rfl) ?_
  refine mw_cXn (rest := []) (A0 := (fun _ => False)) hC (x_X0_nearest l hfl D h0 a1 a2 cA cJ v L P k d (by omega) (by omega) hok) (mEx2_0 (by omega) (by omega)) hES hZS (cwV 2 hts gL_isMarketSo_X0_nearest rfl rfl rfl (by decide +kernel) ⟨Nat.le_of_ble_eq_true rfl, Nat.le_of_ble_eq_true rfl⟩) hK hPx hS rfl rfl hl.1 rfl (Nat.le_of_ble_eq_true rfl) ⟨Nat.le_of_ble_eq_true rfl, Nat.le_of_ble_eq_true rfl⟩ dL_isMarketSo_10 (fun H locs hS hz hk => ?_)
  have hPx := mw_keepP hPx hk
  have hg := Nat.le_trans hg hz
  refine W.eq (g2 := F0 m 13 ls [.int (mI (mNear L P k d))]) rfl ?_
  refine mw_topi (y := nr) hNR.symm ?_
  refine lv_istore (lv' := [(4, .int (mI (nr))), (3, .int (mI (nx))), (0, .ref h0), (1, .int (mI (k))), (2, .int (mI (d)))]) hx hb dL_isMarketSo_13 hl (by decide) rfl (fun ls hl => ?_)
  refine lv_iload hx hb dL_isMarketSo_15 (lv_at hl 0 rfl) ?_
  refine lv_iload_n hx hb dL_isMarketSo_17 rfl (lv_at hl 4 rfl) ?_
  refine mw_icmp_le (tgt := 28) hx hb (by omega) (by omega) dL_isMarketSo_18 (by decide) (fun c_18 => ?_) (fun c_18 => ?_)
  · refine lv_iload_n hx hb dL_isMarketSo_28 rfl (lv_at hl 4 rfl) ?_
    refine lv_iload hx hb dL_isMarketSo_29 (lv_at hl 0 rfl) ?_
    refine mw_isub hx hb dL_isMarketSo_31 ?_
    refine lv_istore (lv' := [(5, .int (mI (d - nr))), (4, .int (mI (nr))), (3, .int (mI (nx))), (0, .ref h0), (1, .int (mI (k))), (2, .int (mI (d)))]) hx hb dL_isMarketSo_32 hl (by decide) rfl (fun ls hl => ?_)
    refine lv_iload_n hx hb dL_isMarketSo_34 rfl (lv_at hl 2 rfl) ?_
    refine lv_iload_n hx hb dL_isMarketSo_35 rfl (lv_at hl 5 rfl) ?_
    refine mw_icmp_lt (tgt := 98) hx hb (by omega) (by omega) dL_isMarketSo_36 (by decide) (fun c_36 => False.elim (by omega)) (fun c_36 => ?_)
    refine lv_iload_n hx hb dL_isMarketSo_39 rfl (lv_at hl 2 rfl) ?_
    refine lv_iload_n hx hb dL_isMarketSo_40 rfl (lv_at hl 5 rfl) ?_
    refine mw_bipush hx hb (by decide +kernel) dL_isMarketSo_41 ?_
    refine mw_iadd hx hb dL_isMarketSo_43 ?_
    refine mw_icmp_ge (tgt := 98) hx hb (by omega) (by omega) dL_isMarketSo_44 (by decide) (fun c_44 => False.elim (by omega)) (fun c_44 => ?_)
    refine lv_aload_n hx hb dL_isMarketSo_47 rfl (lv_at hl 3 rfl) ?_
    refine lv_iload_n hx hb dL_isMarketSo_48 rfl (lv_at hl 4 rfl) ?_
    refine lv_iload_n hx hb dL_isMarketSo_49 rfl (lv_at hl 2 rfl) ?_
    refine mw_cXn (rest := []) (A0 := (fun _ => False)) hC (x_X0_isHeld l hfl D h0 a1 a2 cA cJ v L P k nx (by omega) (by omega) hok) (mEx2_0 (by omega) (by omega)) hES hZS (cwV 2 hts gL_isMarketSo_X0_isHeld rfl rfl rfl (by decide +kernel) ⟨Nat.le_of_ble_eq_true rfl, Nat.le_of_ble_eq_true rfl⟩) hK hPx hS rfl rfl hl.1 rfl (Nat.le_of_ble_eq_true rfl) ⟨Nat.le_of_ble_eq_true rfl, Nat.le_of_ble_eq_true rfl⟩ dL_isMarketSo_50 (fun H locs hS hz hk => ?_)
    have hPx := mw_keepP hPx hk
    have hg := Nat.le_trans hg hz
    refine W.eq (g2 := F0 m 53 ls [.int (mI (mB (nx % L k = P k)))]) rfl ?_
    refine mw_zeq (tgt := 98) hx hb dL_isMarketSo_53 (by decide) (fun c_53 => False.elim (by exact c_53 mk.2.2.1)) (fun c_53 => ?_)
    refine lv_aload_n hx hb dL_isMarketSo_56 rfl (lv_at hl 3 rfl) ?_
    refine lv_iload_n hx hb dL_isMarketSo_57 rfl (lv_at hl 4 rfl) ?_
    refine lv_iload hx hb dL_isMarketSo_58 (lv_at hl 1 rfl) ?_
    refine mw_cXn (rest := []) (A0 := (fun _ => False)) hC (x_X0_isHeld l hfl D h0 a1 a2 cA cJ v L P k nr (by omega) (by omega) hok) (mEx2_0 (by omega) (by omega)) hES hZS (cwV 2 hts gL_isMarketSo_X0_isHeld rfl rfl rfl (by decide +kernel) ⟨Nat.le_of_ble_eq_true rfl, Nat.le_of_ble_eq_true rfl⟩) hK hPx hS rfl rfl hl.1 rfl (Nat.le_of_ble_eq_true rfl) ⟨Nat.le_of_ble_eq_true rfl, Nat.le_of_ble_eq_true rfl⟩ dL_isMarketSo_60 (fun H locs hS hz hk => ?_)
    have hPx := mw_keepP hPx hk
    have hg := Nat.le_trans hg hz
    refine W.eq (g2 := F0 m 63 ls [.int (mI (mB (nr % L k = P k)))]) rfl ?_
    refine mw_zeq (tgt := 98) hx hb dL_isMarketSo_63 (by decide) (fun c_63 => False.elim (by exact c_63 nrf.1)) (fun c_63 => ?_)
    refine lv_aload_n hx hb dL_isMarketSo_66 rfl (lv_at hl 3 rfl) ?_
    refine lv_iload_n hx hb dL_isMarketSo_67 rfl (lv_at hl 4 rfl) ?_
    refine lv_iload_n hx hb dL_isMarketSo_68 rfl (lv_at hl 5 rfl) ?_
    refine lv_iload_n hx hb dL_isMarketSo_69 rfl (lv_at hl 2 rfl) ?_
    refine mw_cXn (rest := []) (A0 := (fun _ => False)) hC (x_X0_times l hfl D h0 a1 a2 cA cJ v L P k d nx (by omega) (by omega) (by omega) hok) (mEx2_0 (by omega) (by omega)) hES hZS (cwV 3 hts gL_isMarketSo_X0_times rfl rfl rfl (by decide +kernel) ⟨Nat.le_of_ble_eq_true rfl, Nat.le_of_ble_eq_true rfl⟩) hK hPx hS rfl rfl hl.1 rfl (Nat.le_of_ble_eq_true rfl) ⟨Nat.le_of_ble_eq_true rfl, Nat.le_of_ble_eq_true rfl⟩ dL_isMarketSo_70 (fun H locs hS hz hk => ?_)
    have hPx := mw_keepP hPx hk
    have hg := Nat.le_trans hg hz
    refine W.eq (g2 := F0 m 73 ls [.int (mI (mCnt L P k d nx))]) rfl ?_
    refine mw_topi (y := 1) mk.2.2.2.1 ?_
    refine mw_iconst hx hb dL_isMarketSo_73 ?_
    refine mw_icmp_ne (tgt := 98) hx hb (by omega) (by omega) dL_isMarketSo_74 (by decide) (fun c_74 => False.elim (by omega)) (fun c_74 => ?_)
    refine lv_iload_n hx hb dL_isMarketSo_77 rfl (lv_at hl 2 rfl) ?_
    refine lv_iload_n hx hb dL_isMarketSo_78 rfl (lv_at hl 5 rfl) ?_
    refine mw_icmp_eq (tgt := 94) hx hb (by omega) (by omega) dL_isMarketSo_79 (by decide) (fun c_79 => ?_) (fun c_79 => ?_)
    · refine mw_iconst hx hb dL_isMarketSo_94 ?_
      refine lv_goto (tgt := 99) hx hb dL_isMarketSo_95 (by decide) ?_
      refine lv_istore (lv' := [(6, .int (mI (1))), (5, .int (mI (d - nr))), (4, .int (mI (nr))), (3, .int (mI (nx))), (0, .ref h0), (1, .int (mI (k))), (2, .int (mI (d)))]) hx hb dL_isMarketSo_99 hl (by decide) rfl (fun ls hl => ?_)
      refine lv_iload hx hb dL_isMarketSo_101 (lv_at hl 0 rfl) ?_
      refine mw_if_eq (tgt := 153) hx hb (by omega) dL_isMarketSo_103 (by decide) (fun c => absurd c (by decide)) (fun _ => ?_)
      refine lv_iload hx hb dL_isMarketSo_106 (lv_at hl 1 rfl) ?_
      refine mw_if_eq (tgt := 131) hx hb (by omega) dL_isMarketSo_108 (by decide) (fun c_108 => ?_) (fun c_108 => ?_)
      · refine lv_iload hx hb dL_isMarketSo_131 (lv_at hl 2 rfl) ?_
        refine lv_iload_n hx hb dL_isMarketSo_133 rfl (lv_at hl 6 rfl) ?_
        refine mw_icmp_le (tgt := 149) hx hb (by omega) (by omega) dL_isMarketSo_134 (by decide) (fun c_134 => ?_) (fun c_134 => ?_)
        · refine mw_iconst hx hb dL_isMarketSo_149 ?_
          refine lv_goto (tgt := 154) hx hb dL_isMarketSo_150 (by decide) ?_
          refine lv_istore (lv' := [(6, .int (mI (1))), (5, .int (mI (d - nr))), (4, .int (mI (nr))), (3, .int (mI (nx))), (0, .ref h0), (1, .int (mI (k))), (2, .int (mI (d)))]) hx hb dL_isMarketSo_154 hl (by decide) rfl (fun ls hl => ?_)
          refine lv_iload hx hb dL_isMarketSo_156 (lv_at hl 0 rfl) ?_
          refine mw_if_eq (tgt := 230) hx hb (by omega) dL_isMarketSo_158 (by decide) (fun c => absurd c (by decide)) (fun _ => ?_)
          refine lv_aload_n hx hb dL_isMarketSo_161 rfl (lv_at hl 4 rfl) ?_
          refine lv_iload_n hx hb dL_isMarketSo_162 rfl (lv_at hl 6 rfl) ?_
          refine mw_cXn (rest := []) (A0 := (fun _ => False)) hC (x_X0_heldOn l hfl D h0 a1 a2 cA cJ v L P d (by omega) hok) (mEx1_0 (by omega)) hES hZS (cwV 1 hts gL_isMarketSo_X0_heldOn rfl rfl rfl (by decide +kernel) ⟨Nat.le_of_ble_eq_true rfl, Nat.le_of_ble_eq_true rfl⟩) hK hPx hS rfl rfl hl.1 rfl (Nat.le_of_ble_eq_true rfl) ⟨Nat.le_of_ble_eq_true rfl, Nat.le_of_ble_eq_true rfl⟩ dL_isMarketSo_163 (fun H locs hS hz hk => ?_)
          have hPx := mw_keepP hPx hk
          have hg := Nat.le_trans hg hz
          refine W.eq (g2 := F0 m 166 ls [.int (mI (mSet L P d (v 0).toNat))]) rfl ?_
          refine lv_iload_n hx hb dL_isMarketSo_166 rfl (lv_at hl 5 rfl) ?_
          refine mw_ishr hx hb dL_isMarketSo_167 ?_
          refine mw_iconst hx hb dL_isMarketSo_168 ?_
          refine mw_iand hx hb dL_isMarketSo_169 ?_
          refine mw_topi (y := bb) ((m_heldbit hok hk9 d).trans hBB.symm) ?_
          refine lv_aload_n hx hb dL_isMarketSo_170 rfl (lv_at hl 4 rfl) ?_
          refine lv_iload_n hx hb dL_isMarketSo_171 rfl (lv_at hl 5 rfl) ?_
          refine lv_iload_n hx hb dL_isMarketSo_172 rfl (lv_at hl 6 rfl) ?_
          refine mw_cXn (rest := [.int (mI (bb))]) (A0 := (fun _ => False)) hC (x_X0_isHeld l hfl D h0 a1 a2 cA cJ v L P k d (by omega) (by omega) hok) (mEx2_0 (by omega) (by omega)) hES hZS (cwV 2 hts gL_isMarketSo_X0_isHeld rfl rfl rfl (by decide +kernel) ⟨Nat.le_of_ble_eq_true rfl, Nat.le_of_ble_eq_true rfl⟩) hK hPx hS rfl rfl hl.1 rfl (Nat.le_of_ble_eq_true rfl) ⟨Nat.le_of_ble_eq_true rfl, Nat.le_of_ble_eq_true rfl⟩ dL_isMarketSo_173 (fun H locs hS hz hk => ?_)
          have hPx := mw_keepP hPx hk
          have hg := Nat.le_trans hg hz
          refine W.eq (g2 := F0 m 176 ls [.int (mI (mB (d % L k = P k))), .int (mI (bb))]) rfl ?_
          refine mw_zeq (tgt := 183) hx hb dL_isMarketSo_176 (by decide) (fun c_176 => ?_) (fun c_176 => ?_)
          · have q : bb = 0 := hBB.trans (mB_f c_176)
            refine mw_iconst hx hb dL_isMarketSo_183 ?_
            refine mw_icmp_ne (tgt := 230) hx hb (by omega) (by omega) dL_isMarketSo_184 (by decide) (fun c_184 => False.elim (by omega)) (fun c_184 => ?_)
            refine lv_aload_n hx hb dL_isMarketSo_187 rfl (lv_at hl 4 rfl) ?_
            refine lv_iload_n hx hb dL_isMarketSo_188 rfl (lv_at hl 5 rfl) ?_
            refine lv_iload_n hx hb dL_isMarketSo_189 rfl (lv_at hl 6 rfl) ?_
            refine lv_iload_n hx hb dL_isMarketSo_190 rfl (lv_at hl 6 rfl) ?_
            refine mw_sipush hx hb (by decide +kernel) dL_isMarketSo_191 ?_
            refine mw_iadd hx hb dL_isMarketSo_194 ?_
            refine mw_cXn (rest := []) (A0 := (fun _ => False)) hC (x_X0_times l hfl D h0 a1 a2 cA cJ v L P k d (d + 500) (by omega) (by omega) (by omega) hok) (mEx2_0 (by omega) (by omega)) hES hZS (cwV 3 hts gL_isMarketSo_X0_times rfl rfl rfl (by decide +kernel) ⟨Nat.le_of_ble_eq_true rfl, Nat.le_of_ble_eq_true rfl⟩) hK hPx hS rfl rfl hl.1 rfl (Nat.le_of_ble_eq_true rfl) ⟨Nat.le_of_ble_eq_true rfl, Nat.le_of_ble_eq_true rfl⟩ dL_isMarketSo_195 (fun H locs hS hz hk => ?_)
            have hPx := mw_keepP hPx hk
            have hg := Nat.le_trans hg hz
            refine W.eq (g2 := F0 m 198 ls [.int (mI (mCnt L P k d (d + 500)))]) rfl ?_
            refine mw_topi (y := ta) hTA.symm ?_
            refine lv_aload_n hx hb dL_isMarketSo_198 rfl (lv_at hl 4 rfl) ?_
            refine lv_iload_n hx hb dL_isMarketSo_199 rfl (lv_at hl 5 rfl) ?_
            refine lv_iload_n hx hb dL_isMarketSo_200 rfl (lv_at hl 6 rfl) ?_
            refine lv_iload_n hx hb dL_isMarketSo_201 rfl (lv_at hl 6 rfl) ?_
            refine mw_bipush hx hb (by decide +kernel) dL_isMarketSo_202 ?_
            refine mw_iadd hx hb dL_isMarketSo_204 ?_
            refine mw_cXn (rest := [.int (mI (ta))]) (A0 := (fun _ => False)) hC (x_X0_times l hfl D h0 a1 a2 cA cJ v L P k d (d + 77) (by omega) (by omega) (by omega) hok) (mEx2_0 (by omega) (by omega)) hES hZS (cwV 3 hts gL_isMarketSo_X0_times rfl rfl rfl (by decide +kernel) ⟨Nat.le_of_ble_eq_true rfl, Nat.le_of_ble_eq_true rfl⟩) hK hPx hS rfl rfl hl.1 rfl (Nat.le_of_ble_eq_true rfl) ⟨Nat.le_of_ble_eq_true rfl, Nat.le_of_ble_eq_true rfl⟩ dL_isMarketSo_205 (fun H locs hS hz hk => ?_)
            have hPx := mw_keepP hPx hk
            have hg := Nat.le_trans hg hz
            refine W.eq (g2 := F0 m 208 ls [.int (mI (mCnt L P k d (d + 77))), .int (mI (ta))]) rfl ?_
            refine mw_topi (y := tb) hTB.symm ?_
            refine lv_aload_n hx hb dL_isMarketSo_208 rfl (lv_at hl 4 rfl) ?_
            refine lv_iload_n hx hb dL_isMarketSo_209 rfl (lv_at hl 5 rfl) ?_
            refine lv_iload_n hx hb dL_isMarketSo_210 rfl (lv_at hl 6 rfl) ?_
            refine mw_bipush hx hb (by decide +kernel) dL_isMarketSo_211 ?_
            refine mw_iadd hx hb dL_isMarketSo_213 ?_
            refine lv_iload_n hx hb dL_isMarketSo_214 rfl (lv_at hl 6 rfl) ?_
            refine mw_sipush hx hb (by decide +kernel) dL_isMarketSo_215 ?_
            refine mw_iadd hx hb dL_isMarketSo_218 ?_
            refine mw_cXn (rest := [.int (mI (tb)), .int (mI (ta))]) (A0 := (fun _ => False)) hC (x_X0_times l hfl D h0 a1 a2 cA cJ v L P k (d + 78) (d + 500) (by omega) (by omega) (by omega) hok) (mEx2_0 (by omega) (by omega)) hES hZS (cwV 3 hts gL_isMarketSo_X0_times rfl rfl rfl (by decide +kernel) ⟨Nat.le_of_ble_eq_true rfl, Nat.le_of_ble_eq_true rfl⟩) hK hPx hS rfl rfl hl.1 rfl (Nat.le_of_ble_eq_true rfl) ⟨Nat.le_of_ble_eq_true rfl, Nat.le_of_ble_eq_true rfl⟩ dL_isMarketSo_219 (fun H locs hS hz hk => ?_)
            have hPx := mw_keepP hPx hk
            have hg := Nat.le_trans hg hz
            refine W.eq (g2 := F0 m 222 ls [.int (mI (mCnt L P k (d + 78) (d + 500))), .int (mI (tb)), .int (mI (ta))]) rfl ?_
            refine mw_topi (y := tc) hTC.symm ?_
            refine mw_iadd hx hb dL_isMarketSo_222 ?_
            refine mw_icmp_ne (tgt := 230) hx hb (by omega) (by omega) dL_isMarketSo_223 (by decide) (fun c_223 => False.elim (by omega)) (fun c_223 => ?_)
            refine mw_iconst hx hb dL_isMarketSo_226 ?_
            refine lv_goto (tgt := 231) hx hb dL_isMarketSo_227 (by decide) ?_
            exact mw_gretZ hx hb hr hlocks dL_isMarketSo_231 (by decide +kernel) rfl (by omega) hPx hS ⟨Nat.le_of_ble_eq_true rfl, Nat.le_of_ble_eq_true rfl⟩
          · have q : bb = 1 := hBB.trans (mB_t c_176)
            refine mw_iconst hx hb dL_isMarketSo_179 ?_
            refine lv_goto (tgt := 184) hx hb dL_isMarketSo_180 (by decide) ?_
            refine mw_icmp_ne (tgt := 230) hx hb (by omega) (by omega) dL_isMarketSo_184 (by decide) (fun c_184 => False.elim (by omega)) (fun c_184 => ?_)
            refine lv_aload_n hx hb dL_isMarketSo_187 rfl (lv_at hl 4 rfl) ?_
            refine lv_iload_n hx hb dL_isMarketSo_188 rfl (lv_at hl 5 rfl) ?_
            refine lv_iload_n hx hb dL_isMarketSo_189 rfl (lv_at hl 6 rfl) ?_
            refine lv_iload_n hx hb dL_isMarketSo_190 rfl (lv_at hl 6 rfl) ?_
            refine mw_sipush hx hb (by decide +kernel) dL_isMarketSo_191 ?_
            refine mw_iadd hx hb dL_isMarketSo_194 ?_
            refine mw_cXn (rest := []) (A0 := (fun _ => False)) hC (x_X0_times l hfl D h0 a1 a2 cA cJ v L P k d (d + 500) (by omega) (by omega) (by omega) hok) (mEx2_0 (by omega) (by omega)) hES hZS (cwV 3 hts gL_isMarketSo_X0_times rfl rfl rfl (by decide +kernel) ⟨Nat.le_of_ble_eq_true rfl, Nat.le_of_ble_eq_true rfl⟩) hK hPx hS rfl rfl hl.1 rfl (Nat.le_of_ble_eq_true rfl) ⟨Nat.le_of_ble_eq_true rfl, Nat.le_of_ble_eq_true rfl⟩ dL_isMarketSo_195 (fun H locs hS hz hk => ?_)
            have hPx := mw_keepP hPx hk
            have hg := Nat.le_trans hg hz
            refine W.eq (g2 := F0 m 198 ls [.int (mI (mCnt L P k d (d + 500)))]) rfl ?_
            refine mw_topi (y := ta) hTA.symm ?_
            refine lv_aload_n hx hb dL_isMarketSo_198 rfl (lv_at hl 4 rfl) ?_
            refine lv_iload_n hx hb dL_isMarketSo_199 rfl (lv_at hl 5 rfl) ?_
            refine lv_iload_n hx hb dL_isMarketSo_200 rfl (lv_at hl 6 rfl) ?_
            refine lv_iload_n hx hb dL_isMarketSo_201 rfl (lv_at hl 6 rfl) ?_
            refine mw_bipush hx hb (by decide +kernel) dL_isMarketSo_202 ?_
            refine mw_iadd hx hb dL_isMarketSo_204 ?_
            refine mw_cXn (rest := [.int (mI (ta))]) (A0 := (fun _ => False)) hC (x_X0_times l hfl D h0 a1 a2 cA cJ v L P k d (d + 77) (by omega) (by omega) (by omega) hok) (mEx2_0 (by omega) (by omega)) hES hZS (cwV 3 hts gL_isMarketSo_X0_times rfl rfl rfl (by decide +kernel) ⟨Nat.le_of_ble_eq_true rfl, Nat.le_of_ble_eq_true rfl⟩) hK hPx hS rfl rfl hl.1 rfl (Nat.le_of_ble_eq_true rfl) ⟨Nat.le_of_ble_eq_true rfl, Nat.le_of_ble_eq_true rfl⟩ dL_isMarketSo_205 (fun H locs hS hz hk => ?_)
            have hPx := mw_keepP hPx hk
            have hg := Nat.le_trans hg hz
            refine W.eq (g2 := F0 m 208 ls [.int (mI (mCnt L P k d (d + 77))), .int (mI (ta))]) rfl ?_
            refine mw_topi (y := tb) hTB.symm ?_
            refine lv_aload_n hx hb dL_isMarketSo_208 rfl (lv_at hl 4 rfl) ?_
            refine lv_iload_n hx hb dL_isMarketSo_209 rfl (lv_at hl 5 rfl) ?_
            refine lv_iload_n hx hb dL_isMarketSo_210 rfl (lv_at hl 6 rfl) ?_
            refine mw_bipush hx hb (by decide +kernel) dL_isMarketSo_211 ?_
            refine mw_iadd hx hb dL_isMarketSo_213 ?_
            refine lv_iload_n hx hb dL_isMarketSo_214 rfl (lv_at hl 6 rfl) ?_
            refine mw_sipush hx hb (by decide +kernel) dL_isMarketSo_215 ?_
            refine mw_iadd hx hb dL_isMarketSo_218 ?_
            refine mw_cXn (rest := [.int (mI (tb)), .int (mI (ta))]) (A0 := (fun _ => False)) hC (x_X0_times l hfl D h0 a1 a2 cA cJ v L P k (d + 78) (d + 500) (by omega) (by omega) (by omega) hok) (mEx2_0 (by omega) (by omega)) hES hZS (cwV 3 hts gL_isMarketSo_X0_times rfl rfl rfl (by decide +kernel) ⟨Nat.le_of_ble_eq_true rfl, Nat.le_of_ble_eq_true rfl⟩) hK hPx hS rfl rfl hl.1 rfl (Nat.le_of_ble_eq_true rfl) ⟨Nat.le_of_ble_eq_true rfl, Nat.le_of_ble_eq_true rfl⟩ dL_isMarketSo_219 (fun H locs hS hz hk => ?_)
            have hPx := mw_keepP hPx hk
            have hg := Nat.le_trans hg hz
            refine W.eq (g2 := F0 m 222 ls [.int (mI (mCnt L P k (d + 78) (d + 500))), .int (mI (tb)), .int (mI (ta))]) rfl ?_
            refine mw_topi (y := tc) hTC.symm ?_
            refine mw_iadd hx hb dL_isMarketSo_222 ?_
            refine mw_icmp_ne (tgt := 230) hx hb (by omega) (by omega) dL_isMarketSo_223 (by decide) (fun c_223 => False.elim (by omega)) (fun c_223 => ?_)
            refine mw_iconst hx hb dL_isMarketSo_226 ?_
            refine lv_goto (tgt := 231) hx hb dL_isMarketSo_227 (by decide) ?_
            exact mw_gretZ hx hb hr hlocks dL_isMarketSo_231 (by decide +kernel) rfl (by omega) hPx hS ⟨Nat.le_of_ble_eq_true rfl, Nat.le_of_ble_eq_true rfl⟩
        · refine lv_aload_n hx hb dL_isMarketSo_137 rfl (lv_at hl 4 rfl) ?_
          refine lv_iload_n hx hb dL_isMarketSo_138 rfl (lv_at hl 5 rfl) ?_
          refine lv_iload_n hx hb dL_isMarketSo_139 rfl (lv_at hl 6 rfl) ?_
          refine lv_iload hx hb dL_isMarketSo_140 (lv_at hl 1 rfl) ?_
          refine mw_isub hx hb dL_isMarketSo_142 ?_
          refine mw_cXn (rest := []) (A0 := (fun _ => False)) hC (x_X0_isHeld l hfl D h0 a1 a2 cA cJ v L P k (d - (d - nr)) (by omega) (by omega) hok) (mEx2_0 (by omega) (by omega)) hES hZS (cwV 2 hts gL_isMarketSo_X0_isHeld rfl rfl rfl (by decide +kernel) ⟨Nat.le_of_ble_eq_true rfl, Nat.le_of_ble_eq_true rfl⟩) hK hPx hS rfl rfl hl.1 rfl (Nat.le_of_ble_eq_true rfl) ⟨Nat.le_of_ble_eq_true rfl, Nat.le_of_ble_eq_true rfl⟩ dL_isMarketSo_143 (fun H locs hS hz hk => ?_)
          have hPx := mw_keepP hPx hk
          have hg := Nat.le_trans hg hz
          refine W.eq (g2 := F0 m 146 ls [.int (mI (mB ((d - (d - nr)) % L k = P k)))]) rfl ?_
          refine mw_zne (tgt := 153) hx hb dL_isMarketSo_146 (by decide) (fun c_146 => False.elim (by first | exact (nrf.2.2.2.2 (by omega)).2 c_146 | (exfalso; omega))) (fun c_146 => ?_)
          refine mw_iconst hx hb dL_isMarketSo_149 ?_
          refine lv_goto (tgt := 154) hx hb dL_isMarketSo_150 (by decide) ?_
          refine lv_istore (lv' := [(6, .int (mI (1))), (5, .int (mI (d - nr))), (4, .int (mI (nr))), (3, .int (mI (nx))), (0, .ref h0), (1, .int (mI (k))), (2, .int (mI (d)))]) hx hb dL_isMarketSo_154 hl (by decide) rfl (fun ls hl => ?_)
          refine lv_iload hx hb dL_isMarketSo_156 (lv_at hl 0 rfl) ?_
          refine mw_if_eq (tgt := 230) hx hb (by omega) dL_isMarketSo_158 (by decide) (fun c => absurd c (by decide)) (fun _ => ?_)
          refine lv_aload_n hx hb dL_isMarketSo_161 rfl (lv_at hl 4 rfl) ?_
          refine lv_iload_n hx hb dL_isMarketSo_162 rfl (lv_at hl 6 rfl) ?_
          refine mw_cXn (rest := []) (A0 := (fun _ => False)) hC (x_X0_heldOn l hfl D h0 a1 a2 cA cJ v L P d (by omega) hok) (mEx1_0 (by omega)) hES hZS (cwV 1 hts gL_isMarketSo_X0_heldOn rfl rfl rfl (by decide +kernel) ⟨Nat.le_of_ble_eq_true rfl, Nat.le_of_ble_eq_true rfl⟩) hK hPx hS rfl rfl hl.1 rfl (Nat.le_of_ble_eq_true rfl) ⟨Nat.le_of_ble_eq_true rfl, Nat.le_of_ble_eq_true rfl⟩ dL_isMarketSo_163 (fun H locs hS hz hk => ?_)
          have hPx := mw_keepP hPx hk
          have hg := Nat.le_trans hg hz
          refine W.eq (g2 := F0 m 166 ls [.int (mI (mSet L P d (v 0).toNat))]) rfl ?_
          refine lv_iload_n hx hb dL_isMarketSo_166 rfl (lv_at hl 5 rfl) ?_
          refine mw_ishr hx hb dL_isMarketSo_167 ?_
          refine mw_iconst hx hb dL_isMarketSo_168 ?_
          refine mw_iand hx hb dL_isMarketSo_169 ?_
          refine mw_topi (y := bb) ((m_heldbit hok hk9 d).trans hBB.symm) ?_
          refine lv_aload_n hx hb dL_isMarketSo_170 rfl (lv_at hl 4 rfl) ?_
          refine lv_iload_n hx hb dL_isMarketSo_171 rfl (lv_at hl 5 rfl) ?_
          refine lv_iload_n hx hb dL_isMarketSo_172 rfl (lv_at hl 6 rfl) ?_
          refine mw_cXn (rest := [.int (mI (bb))]) (A0 := (fun _ => False)) hC (x_X0_isHeld l hfl D h0 a1 a2 cA cJ v L P k d (by omega) (by omega) hok) (mEx2_0 (by omega) (by omega)) hES hZS (cwV 2 hts gL_isMarketSo_X0_isHeld rfl rfl rfl (by decide +kernel) ⟨Nat.le_of_ble_eq_true rfl, Nat.le_of_ble_eq_true rfl⟩) hK hPx hS rfl rfl hl.1 rfl (Nat.le_of_ble_eq_true rfl) ⟨Nat.le_of_ble_eq_true rfl, Nat.le_of_ble_eq_true rfl⟩ dL_isMarketSo_173 (fun H locs hS hz hk => ?_)
          have hPx := mw_keepP hPx hk
          have hg := Nat.le_trans hg hz
          refine W.eq (g2 := F0 m 176 ls [.int (mI (mB (d % L k = P k))), .int (mI (bb))]) rfl ?_
          refine mw_zeq (tgt := 183) hx hb dL_isMarketSo_176 (by decide) (fun c_176 => ?_) (fun c_176 => ?_)
          · have q : bb = 0 := hBB.trans (mB_f c_176)
            refine mw_iconst hx hb dL_isMarketSo_183 ?_
            refine mw_icmp_ne (tgt := 230) hx hb (by omega) (by omega) dL_isMarketSo_184 (by decide) (fun c_184 => False.elim (by omega)) (fun c_184 => ?_)
            refine lv_aload_n hx hb dL_isMarketSo_187 rfl (lv_at hl 4 rfl) ?_
            refine lv_iload_n hx hb dL_isMarketSo_188 rfl (lv_at hl 5 rfl) ?_
            refine lv_iload_n hx hb dL_isMarketSo_189 rfl (lv_at hl 6 rfl) ?_
            refine lv_iload_n hx hb dL_isMarketSo_190 rfl (lv_at hl 6 rfl) ?_
            refine mw_sipush hx hb (by decide +kernel) dL_isMarketSo_191 ?_
            refine mw_iadd hx hb dL_isMarketSo_194 ?_
            refine mw_cXn (rest := []) (A0 := (fun _ => False)) hC (x_X0_times l hfl D h0 a1 a2 cA cJ v L P k d (d + 500) (by omega) (by omega) (by omega) hok) (mEx2_0 (by omega) (by omega)) hES hZS (cwV 3 hts gL_isMarketSo_X0_times rfl rfl rfl (by decide +kernel) ⟨Nat.le_of_ble_eq_true rfl, Nat.le_of_ble_eq_true rfl⟩) hK hPx hS rfl rfl hl.1 rfl (Nat.le_of_ble_eq_true rfl) ⟨Nat.le_of_ble_eq_true rfl, Nat.le_of_ble_eq_true rfl⟩ dL_isMarketSo_195 (fun H locs hS hz hk => ?_)
            have hPx := mw_keepP hPx hk
            have hg := Nat.le_trans hg hz
            refine W.eq (g2 := F0 m 198 ls [.int (mI (mCnt L P k d (d + 500)))]) rfl ?_
            refine mw_topi (y := ta) hTA.symm ?_
            refine lv_aload_n hx hb dL_isMarketSo_198 rfl (lv_at hl 4 rfl) ?_
            refine lv_iload_n hx hb dL_isMarketSo_199 rfl (lv_at hl 5 rfl) ?_
            refine lv_iload_n hx hb dL_isMarketSo_200 rfl (lv_at hl 6 rfl) ?_
            refine lv_iload_n hx hb dL_isMarketSo_201 rfl (lv_at hl 6 rfl) ?_
            refine mw_bipush hx hb (by decide +kernel) dL_isMarketSo_202 ?_
            refine mw_iadd hx hb dL_isMarketSo_204 ?_
            refine mw_cXn (rest := [.int (mI (ta))]) (A0 := (fun _ => False)) hC (x_X0_times l hfl D h0 a1 a2 cA cJ v L P k d (d + 77) (by omega) (by omega) (by omega) hok) (mEx2_0 (by omega) (by omega)) hES hZS (cwV 3 hts gL_isMarketSo_X0_times rfl rfl rfl (by decide +kernel) ⟨Nat.le_of_ble_eq_true rfl, Nat.le_of_ble_eq_true rfl⟩) hK hPx hS rfl rfl hl.1 rfl (Nat.le_of_ble_eq_true rfl) ⟨Nat.le_of_ble_eq_true rfl, Nat.le_of_ble_eq_true rfl⟩ dL_isMarketSo_205 (fun H locs hS hz hk => ?_)
            have hPx := mw_keepP hPx hk
            have hg := Nat.le_trans hg hz
            refine W.eq (g2 := F0 m 208 ls [.int (mI (mCnt L P k d (d + 77))), .int (mI (ta))]) rfl ?_
            refine mw_topi (y := tb) hTB.symm ?_
            refine lv_aload_n hx hb dL_isMarketSo_208 rfl (lv_at hl 4 rfl) ?_
            refine lv_iload_n hx hb dL_isMarketSo_209 rfl (lv_at hl 5 rfl) ?_
            refine lv_iload_n hx hb dL_isMarketSo_210 rfl (lv_at hl 6 rfl) ?_
            refine mw_bipush hx hb (by decide +kernel) dL_isMarketSo_211 ?_
            refine mw_iadd hx hb dL_isMarketSo_213 ?_
            refine lv_iload_n hx hb dL_isMarketSo_214 rfl (lv_at hl 6 rfl) ?_
            refine mw_sipush hx hb (by decide +kernel) dL_isMarketSo_215 ?_
            refine mw_iadd hx hb dL_isMarketSo_218 ?_
            refine mw_cXn (rest := [.int (mI (tb)), .int (mI (ta))]) (A0 := (fun _ => False)) hC (x_X0_times l hfl D h0 a1 a2 cA cJ v L P k (d + 78) (d + 500) (by omega) (by omega) (by omega) hok) (mEx2_0 (by omega) (by omega)) hES hZS (cwV 3 hts gL_isMarketSo_X0_times rfl rfl rfl (by decide +kernel) ⟨Nat.le_of_ble_eq_true rfl, Nat.le_of_ble_eq_true rfl⟩) hK hPx hS rfl rfl hl.1 rfl (Nat.le_of_ble_eq_true rfl) ⟨Nat.le_of_ble_eq_true rfl, Nat.le_of_ble_eq_true rfl⟩ dL_isMarketSo_219 (fun H locs hS hz hk => ?_)
            have hPx := mw_keepP hPx hk
            have hg := Nat.le_trans hg hz
            refine W.eq (g2 := F0 m 222 ls [.int (mI (mCnt L P k (d + 78) (d + 500))), .int (mI (tb)), .int (mI (ta))]) rfl ?_
            refine mw_topi (y := tc) hTC.symm ?_
            refine mw_iadd hx hb dL_isMarketSo_222 ?_
            refine mw_icmp_ne (tgt := 230) hx hb (by omega) (by omega) dL_isMarketSo_223 (by decide) (fun c_223 => False.elim (by omega)) (fun c_223 => ?_)
            refine mw_iconst hx hb dL_isMarketSo_226 ?_
            refine lv_goto (tgt := 231) hx hb dL_isMarketSo_227 (by decide) ?_
            exact mw_gretZ hx hb hr hlocks dL_isMarketSo_231 (by decide +kernel) rfl (by omega) hPx hS ⟨Nat.le_of_ble_eq_true rfl, Nat.le_of_ble_eq_true rfl⟩
          · have q : bb = 1 := hBB.trans (mB_t c_176)
            refine mw_iconst hx hb dL_isMarketSo_179 ?_
            refine lv_goto (tgt := 184) hx hb dL_isMarketSo_180 (by decide) ?_
            refine mw_icmp_ne (tgt := 230) hx hb (by omega) (by omega) dL_isMarketSo_184 (by decide) (fun c_184 => False.elim (by omega)) (fun c_184 => ?_)
            refine lv_aload_n hx hb dL_isMarketSo_187 rfl (lv_at hl 4 rfl) ?_
            refine lv_iload_n hx hb dL_isMarketSo_188 rfl (lv_at hl 5 rfl) ?_
            refine lv_iload_n hx hb dL_isMarketSo_189 rfl (lv_at hl 6 rfl) ?_
            refine lv_iload_n hx hb dL_isMarketSo_190 rfl (lv_at hl 6 rfl) ?_
            refine mw_sipush hx hb (by decide +kernel) dL_isMarketSo_191 ?_
            refine mw_iadd hx hb dL_isMarketSo_194 ?_
            refine mw_cXn (rest := []) (A0 := (fun _ => False)) hC (x_X0_times l hfl D h0 a1 a2 cA cJ v L P k d (d + 500) (by omega) (by omega) (by omega) hok) (mEx2_0 (by omega) (by omega)) hES hZS (cwV 3 hts gL_isMarketSo_X0_times rfl rfl rfl (by decide +kernel) ⟨Nat.le_of_ble_eq_true rfl, Nat.le_of_ble_eq_true rfl⟩) hK hPx hS rfl rfl hl.1 rfl (Nat.le_of_ble_eq_true rfl) ⟨Nat.le_of_ble_eq_true rfl, Nat.le_of_ble_eq_true rfl⟩ dL_isMarketSo_195 (fun H locs hS hz hk => ?_)
            have hPx := mw_keepP hPx hk
            have hg := Nat.le_trans hg hz
            refine W.eq (g2 := F0 m 198 ls [.int (mI (mCnt L P k d (d + 500)))]) rfl ?_
            refine mw_topi (y := ta) hTA.symm ?_
            refine lv_aload_n hx hb dL_isMarketSo_198 rfl (lv_at hl 4 rfl) ?_
            refine lv_iload_n hx hb dL_isMarketSo_199 rfl (lv_at hl 5 rfl) ?_
            refine lv_iload_n hx hb dL_isMarketSo_200 rfl (lv_at hl 6 rfl) ?_
            refine lv_iload_n hx hb dL_isMarketSo_201 rfl (lv_at hl 6 rfl) ?_
            refine mw_bipush hx hb (by decide +kernel) dL_isMarketSo_202 ?_
            refine mw_iadd hx hb dL_isMarketSo_204 ?_
            refine mw_cXn (rest := [.int (mI (ta))]) (A0 := (fun _ => False)) hC (x_X0_times l hfl D h0 a1 a2 cA cJ v L P k d (d + 77) (by omega) (by omega) (by omega) hok) (mEx2_0 (by omega) (by omega)) hES hZS (cwV 3 hts gL_isMarketSo_X0_times rfl rfl rfl (by decide +kernel) ⟨Nat.le_of_ble_eq_true rfl, Nat.le_of_ble_eq_true rfl⟩) hK hPx hS rfl rfl hl.1 rfl (Nat.le_of_ble_eq_true rfl) ⟨Nat.le_of_ble_eq_true rfl, Nat.le_of_ble_eq_true rfl⟩ dL_isMarketSo_205 (fun H locs hS hz hk => ?_)
            have hPx := mw_keepP hPx hk
            have hg := Nat.le_trans hg hz
            refine W.eq (g2 := F0 m 208 ls [.int (mI (mCnt L P k d (d + 77))), .int (mI (ta))]) rfl ?_
            refine mw_topi (y := tb) hTB.symm ?_
            refine lv_aload_n hx hb dL_isMarketSo_208 rfl (lv_at hl 4 rfl) ?_
            refine lv_iload_n hx hb dL_isMarketSo_209 rfl (lv_at hl 5 rfl) ?_
            refine lv_iload_n hx hb dL_isMarketSo_210 rfl (lv_at hl 6 rfl) ?_
            refine mw_bipush hx hb (by decide +kernel) dL_isMarketSo_211 ?_
            refine mw_iadd hx hb dL_isMarketSo_213 ?_
            refine lv_iload_n hx hb dL_isMarketSo_214 rfl (lv_at hl 6 rfl) ?_
            refine mw_sipush hx hb (by decide +kernel) dL_isMarketSo_215 ?_
            refine mw_iadd hx hb dL_isMarketSo_218 ?_
            refine mw_cXn (rest := [.int (mI (tb)), .int (mI (ta))]) (A0 := (fun _ => False)) hC (x_X0_times l hfl D h0 a1 a2 cA cJ v L P k (d + 78) (d + 500) (by omega) (by omega) (by omega) hok) (mEx2_0 (by omega) (by omega)) hES hZS (cwV 3 hts gL_isMarketSo_X0_times rfl rfl rfl (by decide +kernel) ⟨Nat.le_of_ble_eq_true rfl, Nat.le_of_ble_eq_true rfl⟩) hK hPx hS rfl rfl hl.1 rfl (Nat.le_of_ble_eq_true rfl) ⟨Nat.le_of_ble_eq_true rfl, Nat.le_of_ble_eq_true rfl⟩ dL_isMarketSo_219 (fun H locs hS hz hk => ?_)
            have hPx := mw_keepP hPx hk
            have hg := Nat.le_trans hg hz
            refine W.eq (g2 := F0 m 222 ls [.int (mI (mCnt L P k (d + 78) (d + 500))), .int (mI (tb)), .int (mI (ta))]) rfl ?_
            refine mw_topi (y := tc) hTC.symm ?_
            refine mw_iadd hx hb dL_isMarketSo_222 ?_
            refine mw_icmp_ne (tgt := 230) hx hb (by omega) (by omega) dL_isMarketSo_223 (by decide) (fun c_223 => False.elim (by omega)) (fun c_223 => ?_)
            refine mw_iconst hx hb dL_isMarketSo_226 ?_
            refine lv_goto (tgt := 231) hx hb dL_isMarketSo_227 (by decide) ?_
            exact mw_gretZ hx hb hr hlocks dL_isMarketSo_231 (by decide +kernel) rfl (by omega) hPx hS ⟨Nat.le_of_ble_eq_true rfl, Nat.le_of_ble_eq_true rfl⟩
      · refine lv_aload_n hx hb dL_isMarketSo_111 rfl (lv_at hl 4 rfl) ?_
        refine lv_iload_n hx hb dL_isMarketSo_112 rfl (lv_at hl 5 rfl) ?_
        refine lv_iload_n hx hb dL_isMarketSo_113 rfl (lv_at hl 6 rfl) ?_
        refine lv_iload hx hb dL_isMarketSo_114 (lv_at hl 1 rfl) ?_
        refine mw_isub hx hb dL_isMarketSo_116 ?_
        refine mw_iconst hx hb dL_isMarketSo_117 ?_
        refine mw_iadd hx hb dL_isMarketSo_118 ?_
        refine lv_iload_n hx hb dL_isMarketSo_119 rfl (lv_at hl 6 rfl) ?_
        refine lv_iload hx hb dL_isMarketSo_120 (lv_at hl 1 rfl) ?_
        refine mw_iadd hx hb dL_isMarketSo_122 ?_
        refine mw_iconst hx hb dL_isMarketSo_123 ?_
        refine mw_isub hx hb dL_isMarketSo_124 ?_
        refine mw_cXn (rest := []) (A0 := (fun _ => False)) hC (x_X0_times l hfl D h0 a1 a2 cA cJ v L P k ((d - (d - nr)) + 1) ((d + (d - nr)) - 1) (by omega) (by omega) (by omega) hok) (mEx2_0 (by omega) (by omega)) hES hZS (cwV 3 hts gL_isMarketSo_X0_times rfl rfl rfl (by decide +kernel) ⟨Nat.le_of_ble_eq_true rfl, Nat.le_of_ble_eq_true rfl⟩) hK hPx hS rfl rfl hl.1 rfl (Nat.le_of_ble_eq_true rfl) ⟨Nat.le_of_ble_eq_true rfl, Nat.le_of_ble_eq_true rfl⟩ dL_isMarketSo_125 (fun H locs hS hz hk => ?_)
        have hPx := mw_keepP hPx hk
        have hg := Nat.le_trans hg hz
        refine W.eq (g2 := F0 m 128 ls [.int (mI (mCnt L P k ((d - (d - nr)) + 1) ((d + (d - nr)) - 1)))]) rfl ?_
        refine mw_topi (y := 0) (by first | exact nrf.2.2.2.1 (by omega) (by omega) | exact (nrf.2.2.2.2 (by omega)).1) ?_
        refine mw_if_ne (tgt := 153) hx hb (by omega) dL_isMarketSo_128 (by decide) (fun c => absurd c (by decide)) (fun _ => ?_)
        refine lv_iload hx hb dL_isMarketSo_131 (lv_at hl 2 rfl) ?_
        refine lv_iload_n hx hb dL_isMarketSo_133 rfl (lv_at hl 6 rfl) ?_
        refine mw_icmp_le (tgt := 149) hx hb (by omega) (by omega) dL_isMarketSo_134 (by decide) (fun c_134 => ?_) (fun c_134 => ?_)
        · refine mw_iconst hx hb dL_isMarketSo_149 ?_
          refine lv_goto (tgt := 154) hx hb dL_isMarketSo_150 (by decide) ?_
          refine lv_istore (lv' := [(6, .int (mI (1))), (5, .int (mI (d - nr))), (4, .int (mI (nr))), (3, .int (mI (nx))), (0, .ref h0), (1, .int (mI (k))), (2, .int (mI (d)))]) hx hb dL_isMarketSo_154 hl (by decide) rfl (fun ls hl => ?_)
          refine lv_iload hx hb dL_isMarketSo_156 (lv_at hl 0 rfl) ?_
          refine mw_if_eq (tgt := 230) hx hb (by omega) dL_isMarketSo_158 (by decide) (fun c => absurd c (by decide)) (fun _ => ?_)
          refine lv_aload_n hx hb dL_isMarketSo_161 rfl (lv_at hl 4 rfl) ?_
          refine lv_iload_n hx hb dL_isMarketSo_162 rfl (lv_at hl 6 rfl) ?_
          refine mw_cXn (rest := []) (A0 := (fun _ => False)) hC (x_X0_heldOn l hfl D h0 a1 a2 cA cJ v L P d (by omega) hok) (mEx1_0 (by omega)) hES hZS (cwV 1 hts gL_isMarketSo_X0_heldOn rfl rfl rfl (by decide +kernel) ⟨Nat.le_of_ble_eq_true rfl, Nat.le_of_ble_eq_true rfl⟩) hK hPx hS rfl rfl hl.1 rfl (Nat.le_of_ble_eq_true rfl) ⟨Nat.le_of_ble_eq_true rfl, Nat.le_of_ble_eq_true rfl⟩ dL_isMarketSo_163 (fun H locs hS hz hk => ?_)
          have hPx := mw_keepP hPx hk
          have hg := Nat.le_trans hg hz
          refine W.eq (g2 := F0 m 166 ls [.int (mI (mSet L P d (v 0).toNat))]) rfl ?_
          refine lv_iload_n hx hb dL_isMarketSo_166 rfl (lv_at hl 5 rfl) ?_
          refine mw_ishr hx hb dL_isMarketSo_167 ?_
          refine mw_iconst hx hb dL_isMarketSo_168 ?_
          refine mw_iand hx hb dL_isMarketSo_169 ?_
          refine mw_topi (y := bb) ((m_heldbit hok hk9 d).trans hBB.symm) ?_
          refine lv_aload_n hx hb dL_isMarketSo_170 rfl (lv_at hl 4 rfl) ?_
          refine lv_iload_n hx hb dL_isMarketSo_171 rfl (lv_at hl 5 rfl) ?_
          refine lv_iload_n hx hb dL_isMarketSo_172 rfl (lv_at hl 6 rfl) ?_
          refine mw_cXn (rest := [.int (mI (bb))]) (A0 := (fun _ => False)) hC (x_X0_isHeld l hfl D h0 a1 a2 cA cJ v L P k d (by omega) (by omega) hok) (mEx2_0 (by omega) (by omega)) hES hZS (cwV 2 hts gL_isMarketSo_X0_isHeld rfl rfl rfl (by decide +kernel) ⟨Nat.le_of_ble_eq_true rfl, Nat.le_of_ble_eq_true rfl⟩) hK hPx hS rfl rfl hl.1 rfl (Nat.le_of_ble_eq_true rfl) ⟨Nat.le_of_ble_eq_true rfl, Nat.le_of_ble_eq_true rfl⟩ dL_isMarketSo_173 (fun H locs hS hz hk => ?_)
          have hPx := mw_keepP hPx hk
          have hg := Nat.le_trans hg hz
          refine W.eq (g2 := F0 m 176 ls [.int (mI (mB (d % L k = P k))), .int (mI (bb))]) rfl ?_
          refine mw_zeq (tgt := 183) hx hb dL_isMarketSo_176 (by decide) (fun c_176 => ?_) (fun c_176 => ?_)
          · have q : bb = 0 := hBB.trans (mB_f c_176)
            refine mw_iconst hx hb dL_isMarketSo_183 ?_
            refine mw_icmp_ne (tgt := 230) hx hb (by omega) (by omega) dL_isMarketSo_184 (by decide) (fun c_184 => False.elim (by omega)) (fun c_184 => ?_)
            refine lv_aload_n hx hb dL_isMarketSo_187 rfl (lv_at hl 4 rfl) ?_
            refine lv_iload_n hx hb dL_isMarketSo_188 rfl (lv_at hl 5 rfl) ?_
            refine lv_iload_n hx hb dL_isMarketSo_189 rfl (lv_at hl 6 rfl) ?_
            refine lv_iload_n hx hb dL_isMarketSo_190 rfl (lv_at hl 6 rfl) ?_
            refine mw_sipush hx hb (by decide +kernel) dL_isMarketSo_191 ?_
            refine mw_iadd hx hb dL_isMarketSo_194 ?_
            refine mw_cXn (rest := []) (A0 := (fun _ => False)) hC (x_X0_times l hfl D h0 a1 a2 cA cJ v L P k d (d + 500) (by omega) (by omega) (by omega) hok) (mEx2_0 (by omega) (by omega)) hES hZS (cwV 3 hts gL_isMarketSo_X0_times rfl rfl rfl (by decide +kernel) ⟨Nat.le_of_ble_eq_true rfl, Nat.le_of_ble_eq_true rfl⟩) hK hPx hS rfl rfl hl.1 rfl (Nat.le_of_ble_eq_true rfl) ⟨Nat.le_of_ble_eq_true rfl, Nat.le_of_ble_eq_true rfl⟩ dL_isMarketSo_195 (fun H locs hS hz hk => ?_)
            have hPx := mw_keepP hPx hk
            have hg := Nat.le_trans hg hz
            refine W.eq (g2 := F0 m 198 ls [.int (mI (mCnt L P k d (d + 500)))]) rfl ?_
            refine mw_topi (y := ta) hTA.symm ?_
            refine lv_aload_n hx hb dL_isMarketSo_198 rfl (lv_at hl 4 rfl) ?_
            refine lv_iload_n hx hb dL_isMarketSo_199 rfl (lv_at hl 5 rfl) ?_
            refine lv_iload_n hx hb dL_isMarketSo_200 rfl (lv_at hl 6 rfl) ?_
            refine lv_iload_n hx hb dL_isMarketSo_201 rfl (lv_at hl 6 rfl) ?_
            refine mw_bipush hx hb (by decide +kernel) dL_isMarketSo_202 ?_
            refine mw_iadd hx hb dL_isMarketSo_204 ?_
            refine mw_cXn (rest := [.int (mI (ta))]) (A0 := (fun _ => False)) hC (x_X0_times l hfl D h0 a1 a2 cA cJ v L P k d (d + 77) (by omega) (by omega) (by omega) hok) (mEx2_0 (by omega) (by omega)) hES hZS (cwV 3 hts gL_isMarketSo_X0_times rfl rfl rfl (by decide +kernel) ⟨Nat.le_of_ble_eq_true rfl, Nat.le_of_ble_eq_true rfl⟩) hK hPx hS rfl rfl hl.1 rfl (Nat.le_of_ble_eq_true rfl) ⟨Nat.le_of_ble_eq_true rfl, Nat.le_of_ble_eq_true rfl⟩ dL_isMarketSo_205 (fun H locs hS hz hk => ?_)
            have hPx := mw_keepP hPx hk
            have hg := Nat.le_trans hg hz
            refine W.eq (g2 := F0 m 208 ls [.int (mI (mCnt L P k d (d + 77))), .int (mI (ta))]) rfl ?_
            refine mw_topi (y := tb) hTB.symm ?_
            refine lv_aload_n hx hb dL_isMarketSo_208 rfl (lv_at hl 4 rfl) ?_
            refine lv_iload_n hx hb dL_isMarketSo_209 rfl (lv_at hl 5 rfl) ?_
            refine lv_iload_n hx hb dL_isMarketSo_210 rfl (lv_at hl 6 rfl) ?_
            refine mw_bipush hx hb (by decide +kernel) dL_isMarketSo_211 ?_
            refine mw_iadd hx hb dL_isMarketSo_213 ?_
            refine lv_iload_n hx hb dL_isMarketSo_214 rfl (lv_at hl 6 rfl) ?_
            refine mw_sipush hx hb (by decide +kernel) dL_isMarketSo_215 ?_
            refine mw_iadd hx hb dL_isMarketSo_218 ?_
            refine mw_cXn (rest := [.int (mI (tb)), .int (mI (ta))]) (A0 := (fun _ => False)) hC (x_X0_times l hfl D h0 a1 a2 cA cJ v L P k (d + 78) (d + 500) (by omega) (by omega) (by omega) hok) (mEx2_0 (by omega) (by omega)) hES hZS (cwV 3 hts gL_isMarketSo_X0_times rfl rfl rfl (by decide +kernel) ⟨Nat.le_of_ble_eq_true rfl, Nat.le_of_ble_eq_true rfl⟩) hK hPx hS rfl rfl hl.1 rfl (Nat.le_of_ble_eq_true rfl) ⟨Nat.le_of_ble_eq_true rfl, Nat.le_of_ble_eq_true rfl⟩ dL_isMarketSo_219 (fun H locs hS hz hk => ?_)
            have hPx := mw_keepP hPx hk
            have hg := Nat.le_trans hg hz
            refine W.eq (g2 := F0 m 222 ls [.int (mI (mCnt L P k (d + 78) (d + 500))), .int (mI (tb)), .int (mI (ta))]) rfl ?_
            refine mw_topi (y := tc) hTC.symm ?_
            refine mw_iadd hx hb dL_isMarketSo_222 ?_
            refine mw_icmp_ne (tgt := 230) hx hb (by omega) (by omega) dL_isMarketSo_223 (by decide) (fun c_223 => False.elim (by omega)) (fun c_223 => ?_)
            refine mw_iconst hx hb dL_isMarketSo_226 ?_
            refine lv_goto (tgt := 231) hx hb dL_isMarketSo_227 (by decide) ?_
            exact mw_gretZ hx hb hr hlocks dL_isMarketSo_231 (by decide +kernel) rfl (by omega) hPx hS ⟨Nat.le_of_ble_eq_true rfl, Nat.le_of_ble_eq_true rfl⟩
          · have q : bb = 1 := hBB.trans (mB_t c_176)
            refine mw_iconst hx hb dL_isMarketSo_179 ?_
            refine lv_goto (tgt := 184) hx hb dL_isMarketSo_180 (by decide) ?_
            refine mw_icmp_ne (tgt := 230) hx hb (by omega) (by omega) dL_isMarketSo_184 (by decide) (fun c_184 => False.elim (by omega)) (fun c_184 => ?_)
            refine lv_aload_n hx hb dL_isMarketSo_187 rfl (lv_at hl 4 rfl) ?_
            refine lv_iload_n hx hb dL_isMarketSo_188 rfl (lv_at hl 5 rfl) ?_
            refine lv_iload_n hx hb dL_isMarketSo_189 rfl (lv_at hl 6 rfl) ?_
            refine lv_iload_n hx hb dL_isMarketSo_190 rfl (lv_at hl 6 rfl) ?_
            refine mw_sipush hx hb (by decide +kernel) dL_isMarketSo_191 ?_
            refine mw_iadd hx hb dL_isMarketSo_194 ?_
            refine mw_cXn (rest := []) (A0 := (fun _ => False)) hC (x_X0_times l hfl D h0 a1 a2 cA cJ v L P k d (d + 500) (by omega) (by omega) (by omega) hok) (mEx2_0 (by omega) (by omega)) hES hZS (cwV 3 hts gL_isMarketSo_X0_times rfl rfl rfl (by decide +kernel) ⟨Nat.le_of_ble_eq_true rfl, Nat.le_of_ble_eq_true rfl⟩) hK hPx hS rfl rfl hl.1 rfl (Nat.le_of_ble_eq_true rfl) ⟨Nat.le_of_ble_eq_true rfl, Nat.le_of_ble_eq_true rfl⟩ dL_isMarketSo_195 (fun H locs hS hz hk => ?_)
            have hPx := mw_keepP hPx hk
            have hg := Nat.le_trans hg hz
            refine W.eq (g2 := F0 m 198 ls [.int (mI (mCnt L P k d (d + 500)))]) rfl ?_
            refine mw_topi (y := ta) hTA.symm ?_
            refine lv_aload_n hx hb dL_isMarketSo_198 rfl (lv_at hl 4 rfl) ?_
            refine lv_iload_n hx hb dL_isMarketSo_199 rfl (lv_at hl 5 rfl) ?_
            refine lv_iload_n hx hb dL_isMarketSo_200 rfl (lv_at hl 6 rfl) ?_
            refine lv_iload_n hx hb dL_isMarketSo_201 rfl (lv_at hl 6 rfl) ?_
            refine mw_bipush hx hb (by decide +kernel) dL_isMarketSo_202 ?_
            refine mw_iadd hx hb dL_isMarketSo_204 ?_
            refine mw_cXn (rest := [.int (mI (ta))]) (A0 := (fun _ => False)) hC (x_X0_times l hfl D h0 a1 a2 cA cJ v L P k d (d + 77) (by omega) (by omega) (by omega) hok) (mEx2_0 (by omega) (by omega)) hES hZS (cwV 3 hts gL_isMarketSo_X0_times rfl rfl rfl (by decide +kernel) ⟨Nat.le_of_ble_eq_true rfl, Nat.le_of_ble_eq_true rfl⟩) hK hPx hS rfl rfl hl.1 rfl (Nat.le_of_ble_eq_true rfl) ⟨Nat.le_of_ble_eq_true rfl, Nat.le_of_ble_eq_true rfl⟩ dL_isMarketSo_205 (fun H locs hS hz hk => ?_)
            have hPx := mw_keepP hPx hk
            have hg := Nat.le_trans hg hz
            refine W.eq (g2 := F0 m 208 ls [.int (mI (mCnt L P k d (d + 77))), .int (mI (ta))]) rfl ?_
            refine mw_topi (y := tb) hTB.symm ?_
            refine lv_aload_n hx hb dL_isMarketSo_208 rfl (lv_at hl 4 rfl) ?_
            refine lv_iload_n hx hb dL_isMarketSo_209 rfl (lv_at hl 5 rfl) ?_
            refine lv_iload_n hx hb dL_isMarketSo_210 rfl (lv_at hl 6 rfl) ?_
            refine mw_bipush hx hb (by decide +kernel) dL_isMarketSo_211 ?_
            refine mw_iadd hx hb dL_isMarketSo_213 ?_
            refine lv_iload_n hx hb dL_isMarketSo_214 rfl (lv_at hl 6 rfl) ?_
            refine mw_sipush hx hb (by decide +kernel) dL_isMarketSo_215 ?_
            refine mw_iadd hx hb dL_isMarketSo_218 ?_
            refine mw_cXn (rest := [.int (mI (tb)), .int (mI (ta))]) (A0 := (fun _ => False)) hC (x_X0_times l hfl D h0 a1 a2 cA cJ v L P k (d + 78) (d + 500) (by omega) (by omega) (by omega) hok) (mEx2_0 (by omega) (by omega)) hES hZS (cwV 3 hts gL_isMarketSo_X0_times rfl rfl rfl (by decide +kernel) ⟨Nat.le_of_ble_eq_true rfl, Nat.le_of_ble_eq_true rfl⟩) hK hPx hS rfl rfl hl.1 rfl (Nat.le_of_ble_eq_true rfl) ⟨Nat.le_of_ble_eq_true rfl, Nat.le_of_ble_eq_true rfl⟩ dL_isMarketSo_219 (fun H locs hS hz hk => ?_)
            have hPx := mw_keepP hPx hk
            have hg := Nat.le_trans hg hz
            refine W.eq (g2 := F0 m 222 ls [.int (mI (mCnt L P k (d + 78) (d + 500))), .int (mI (tb)), .int (mI (ta))]) rfl ?_
            refine mw_topi (y := tc) hTC.symm ?_
            refine mw_iadd hx hb dL_isMarketSo_222 ?_
            refine mw_icmp_ne (tgt := 230) hx hb (by omega) (by omega) dL_isMarketSo_223 (by decide) (fun c_223 => False.elim (by omega)) (fun c_223 => ?_)
            refine mw_iconst hx hb dL_isMarketSo_226 ?_
            refine lv_goto (tgt := 231) hx hb dL_isMarketSo_227 (by decide) ?_
            exact mw_gretZ hx hb hr hlocks dL_isMarketSo_231 (by decide +kernel) rfl (by omega) hPx hS ⟨Nat.le_of_ble_eq_true rfl, Nat.le_of_ble_eq_true rfl⟩
        · refine lv_aload_n hx hb dL_isMarketSo_137 rfl (lv_at hl 4 rfl) ?_
          refine lv_iload_n hx hb dL_isMarketSo_138 rfl (lv_at hl 5 rfl) ?_
          refine lv_iload_n hx hb dL_isMarketSo_139 rfl (lv_at hl 6 rfl) ?_
          refine lv_iload hx hb dL_isMarketSo_140 (lv_at hl 1 rfl) ?_
          refine mw_isub hx hb dL_isMarketSo_142 ?_
          refine mw_cXn (rest := []) (A0 := (fun _ => False)) hC (x_X0_isHeld l hfl D h0 a1 a2 cA cJ v L P k (d - (d - nr)) (by omega) (by omega) hok) (mEx2_0 (by omega) (by omega)) hES hZS (cwV 2 hts gL_isMarketSo_X0_isHeld rfl rfl rfl (by decide +kernel) ⟨Nat.le_of_ble_eq_true rfl, Nat.le_of_ble_eq_true rfl⟩) hK hPx hS rfl rfl hl.1 rfl (Nat.le_of_ble_eq_true rfl) ⟨Nat.le_of_ble_eq_true rfl, Nat.le_of_ble_eq_true rfl⟩ dL_isMarketSo_143 (fun H locs hS hz hk => ?_)
          have hPx := mw_keepP hPx hk
          have hg := Nat.le_trans hg hz
          refine W.eq (g2 := F0 m 146 ls [.int (mI (mB ((d - (d - nr)) % L k = P k)))]) rfl ?_
          refine mw_zne (tgt := 153) hx hb dL_isMarketSo_146 (by decide) (fun c_146 => False.elim (by first | exact (nrf.2.2.2.2 (by omega)).2 c_146 | (exfalso; omega))) (fun c_146 => ?_)
          refine mw_iconst hx hb dL_isMarketSo_149 ?_
          refine lv_goto (tgt := 154) hx hb dL_isMarketSo_150 (by decide) ?_
          refine lv_istore (lv' := [(6, .int (mI (1))), (5, .int (mI (d - nr))), (4, .int (mI (nr))), (3, .int (mI (nx))), (0, .ref h0), (1, .int (mI (k))), (2, .int (mI (d)))]) hx hb dL_isMarketSo_154 hl (by decide) rfl (fun ls hl => ?_)
          refine lv_iload hx hb dL_isMarketSo_156 (lv_at hl 0 rfl) ?_
          refine mw_if_eq (tgt := 230) hx hb (by omega) dL_isMarketSo_158 (by decide) (fun c => absurd c (by decide)) (fun _ => ?_)
          refine lv_aload_n hx hb dL_isMarketSo_161 rfl (lv_at hl 4 rfl) ?_
          refine lv_iload_n hx hb dL_isMarketSo_162 rfl (lv_at hl 6 rfl) ?_
          refine mw_cXn (rest := []) (A0 := (fun _ => False)) hC (x_X0_heldOn l hfl D h0 a1 a2 cA cJ v L P d (by omega) hok) (mEx1_0 (by omega)) hES hZS (cwV 1 hts gL_isMarketSo_X0_heldOn rfl rfl rfl (by decide +kernel) ⟨Nat.le_of_ble_eq_true rfl, Nat.le_of_ble_eq_true rfl⟩) hK hPx hS rfl rfl hl.1 rfl (Nat.le_of_ble_eq_true rfl) ⟨Nat.le_of_ble_eq_true rfl, Nat.le_of_ble_eq_true rfl⟩ dL_isMarketSo_163 (fun H locs hS hz hk => ?_)
          have hPx := mw_keepP hPx hk
          have hg := Nat.le_trans hg hz
          refine W.eq (g2 := F0 m 166 ls [.int (mI (mSet L P d (v 0).toNat))]) rfl ?_
          refine lv_iload_n hx hb dL_isMarketSo_166 rfl (lv_at hl 5 rfl) ?_
          refine mw_ishr hx hb dL_isMarketSo_167 ?_
          refine mw_iconst hx hb dL_isMarketSo_168 ?_
          refine mw_iand hx hb dL_isMarketSo_169 ?_
          refine mw_topi (y := bb) ((m_heldbit hok hk9 d).trans hBB.symm) ?_
          refine lv_aload_n hx hb dL_isMarketSo_170 rfl (lv_at hl 4 rfl) ?_
          refine lv_iload_n hx hb dL_isMarketSo_171 rfl (lv_at hl 5 rfl) ?_
          refine lv_iload_n hx hb dL_isMarketSo_172 rfl (lv_at hl 6 rfl) ?_
          refine mw_cXn (rest := [.int (mI (bb))]) (A0 := (fun _ => False)) hC (x_X0_isHeld l hfl D h0 a1 a2 cA cJ v L P k d (by omega) (by omega) hok) (mEx2_0 (by omega) (by omega)) hES hZS (cwV 2 hts gL_isMarketSo_X0_isHeld rfl rfl rfl (by decide +kernel) ⟨Nat.le_of_ble_eq_true rfl, Nat.le_of_ble_eq_true rfl⟩) hK hPx hS rfl rfl hl.1 rfl (Nat.le_of_ble_eq_true rfl) ⟨Nat.le_of_ble_eq_true rfl, Nat.le_of_ble_eq_true rfl⟩ dL_isMarketSo_173 (fun H locs hS hz hk => ?_)
          have hPx := mw_keepP hPx hk
          have hg := Nat.le_trans hg hz
          refine W.eq (g2 := F0 m 176 ls [.int (mI (mB (d % L k = P k))), .int (mI (bb))]) rfl ?_
          refine mw_zeq (tgt := 183) hx hb dL_isMarketSo_176 (by decide) (fun c_176 => ?_) (fun c_176 => ?_)
          · have q : bb = 0 := hBB.trans (mB_f c_176)
            refine mw_iconst hx hb dL_isMarketSo_183 ?_
            refine mw_icmp_ne (tgt := 230) hx hb (by omega) (by omega) dL_isMarketSo_184 (by decide) (fun c_184 => False.elim (by omega)) (fun c_184 => ?_)
            refine lv_aload_n hx hb dL_isMarketSo_187 rfl (lv_at hl 4 rfl) ?_
            refine lv_iload_n hx hb dL_isMarketSo_188 rfl (lv_at hl 5 rfl) ?_
            refine lv_iload_n hx hb dL_isMarketSo_189 rfl (lv_at hl 6 rfl) ?_
            refine lv_iload_n hx hb dL_isMarketSo_190 rfl (lv_at hl 6 rfl) ?_
            refine mw_sipush hx hb (by decide +kernel) dL_isMarketSo_191 ?_
            refine mw_iadd hx hb dL_isMarketSo_194 ?_
            refine mw_cXn (rest := []) (A0 := (fun _ => False)) hC (x_X0_times l hfl D h0 a1 a2 cA cJ v L P k d (d + 500) (by omega) (by omega) (by omega) hok) (mEx2_0 (by omega) (by omega)) hES hZS (cwV 3 hts gL_isMarketSo_X0_times rfl rfl rfl (by decide +kernel) ⟨Nat.le_of_ble_eq_true rfl, Nat.le_of_ble_eq_true rfl⟩) hK hPx hS rfl rfl hl.1 rfl (Nat.le_of_ble_eq_true rfl) ⟨Nat.le_of_ble_eq_true rfl, Nat.le_of_ble_eq_true rfl⟩ dL_isMarketSo_195 (fun H locs hS hz hk => ?_)
            have hPx := mw_keepP hPx hk
            have hg := Nat.le_trans hg hz
            refine W.eq (g2 := F0 m 198 ls [.int (mI (mCnt L P k d (d + 500)))]) rfl ?_
            refine mw_topi (y := ta) hTA.symm ?_
            refine lv_aload_n hx hb dL_isMarketSo_198 rfl (lv_at hl 4 rfl) ?_
            refine lv_iload_n hx hb dL_isMarketSo_199 rfl (lv_at hl 5 rfl) ?_
            refine lv_iload_n hx hb dL_isMarketSo_200 rfl (lv_at hl 6 rfl) ?_
            refine lv_iload_n hx hb dL_isMarketSo_201 rfl (lv_at hl 6 rfl) ?_
            refine mw_bipush hx hb (by decide +kernel) dL_isMarketSo_202 ?_
            refine mw_iadd hx hb dL_isMarketSo_204 ?_
            refine mw_cXn (rest := [.int (mI (ta))]) (A0 := (fun _ => False)) hC (x_X0_times l hfl D h0 a1 a2 cA cJ v L P k d (d + 77) (by omega) (by omega) (by omega) hok) (mEx2_0 (by omega) (by omega)) hES hZS (cwV 3 hts gL_isMarketSo_X0_times rfl rfl rfl (by decide +kernel) ⟨Nat.le_of_ble_eq_true rfl, Nat.le_of_ble_eq_true rfl⟩) hK hPx hS rfl rfl hl.1 rfl (Nat.le_of_ble_eq_true rfl) ⟨Nat.le_of_ble_eq_true rfl, Nat.le_of_ble_eq_true rfl⟩ dL_isMarketSo_205 (fun H locs hS hz hk => ?_)
            have hPx := mw_keepP hPx hk
            have hg := Nat.le_trans hg hz
            refine W.eq (g2 := F0 m 208 ls [.int (mI (mCnt L P k d (d + 77))), .int (mI (ta))]) rfl ?_
            refine mw_topi (y := tb) hTB.symm ?_
            refine lv_aload_n hx hb dL_isMarketSo_208 rfl (lv_at hl 4 rfl) ?_
            refine lv_iload_n hx hb dL_isMarketSo_209 rfl (lv_at hl 5 rfl) ?_
            refine lv_iload_n hx hb dL_isMarketSo_210 rfl (lv_at hl 6 rfl) ?_
            refine mw_bipush hx hb (by decide +kernel) dL_isMarketSo_211 ?_
            refine mw_iadd hx hb dL_isMarketSo_213 ?_
            refine lv_iload_n hx hb dL_isMarketSo_214 rfl (lv_at hl 6 rfl) ?_
            refine mw_sipush hx hb (by decide +kernel) dL_isMarketSo_215 ?_
            refine mw_iadd hx hb dL_isMarketSo_218 ?_
            refine mw_cXn (rest := [.int (mI (tb)), .int (mI (ta))]) (A0 := (fun _ => False)) hC (x_X0_times l hfl D h0 a1 a2 cA cJ v L P k (d + 78) (d + 500) (by omega) (by omega) (by omega) hok) (mEx2_0 (by omega) (by omega)) hES hZS (cwV 3 hts gL_isMarketSo_X0_times rfl rfl rfl (by decide +kernel) ⟨Nat.le_of_ble_eq_true rfl, Nat.le_of_ble_eq_true rfl⟩) hK hPx hS rfl rfl hl.1 rfl (Nat.le_of_ble_eq_true rfl) ⟨Nat.le_of_ble_eq_true rfl, Nat.le_of_ble_eq_true rfl⟩ dL_isMarketSo_219 (fun H locs hS hz hk => ?_)
            have hPx := mw_keepP hPx hk
            have hg := Nat.le_trans hg hz
            refine W.eq (g2 := F0 m 222 ls [.int (mI (mCnt L P k (d + 78) (d + 500))), .int (mI (tb)), .int (mI (ta))]) rfl ?_
            refine mw_topi (y := tc) hTC.symm ?_
            refine mw_iadd hx hb dL_isMarketSo_222 ?_
            refine mw_icmp_ne (tgt := 230) hx hb (by omega) (by omega) dL_isMarketSo_223 (by decide) (fun c_223 => False.elim (by omega)) (fun c_223 => ?_)
            refine mw_iconst hx hb dL_isMarketSo_226 ?_
            refine lv_goto (tgt := 231) hx hb dL_isMarketSo_227 (by decide) ?_
            exact mw_gretZ hx hb hr hlocks dL_isMarketSo_231 (by decide +kernel) rfl (by omega) hPx hS ⟨Nat.le_of_ble_eq_true rfl, Nat.le_of_ble_eq_true rfl⟩
          · have q : bb = 1 := hBB.trans (mB_t c_176)
            refine mw_iconst hx hb dL_isMarketSo_179 ?_
            refine lv_goto (tgt := 184) hx hb dL_isMarketSo_180 (by decide) ?_
            refine mw_icmp_ne (tgt := 230) hx hb (by omega) (by omega) dL_isMarketSo_184 (by decide) (fun c_184 => False.elim (by omega)) (fun c_184 => ?_)
            refine lv_aload_n hx hb dL_isMarketSo_187 rfl (lv_at hl 4 rfl) ?_
            refine lv_iload_n hx hb dL_isMarketSo_188 rfl (lv_at hl 5 rfl) ?_
            refine lv_iload_n hx hb dL_isMarketSo_189 rfl (lv_at hl 6 rfl) ?_
            refine lv_iload_n hx hb dL_isMarketSo_190 rfl (lv_at hl 6 rfl) ?_
            refine mw_sipush hx hb (by decide +kernel) dL_isMarketSo_191 ?_
            refine mw_iadd hx hb dL_isMarketSo_194 ?_
            refine mw_cXn (rest := []) (A0 := (fun _ => False)) hC (x_X0_times l hfl D h0 a1 a2 cA cJ v L P k d (d + 500) (by omega) (by omega) (by omega) hok) (mEx2_0 (by omega) (by omega)) hES hZS (cwV 3 hts gL_isMarketSo_X0_times rfl rfl rfl (by decide +kernel) ⟨Nat.le_of_ble_eq_true rfl, Nat.le_of_ble_eq_true rfl⟩) hK hPx hS rfl rfl hl.1 rfl (Nat.le_of_ble_eq_true rfl) ⟨Nat.le_of_ble_eq_true rfl, Nat.le_of_ble_eq_true rfl⟩ dL_isMarketSo_195 (fun H locs hS hz hk => ?_)
            have hPx := mw_keepP hPx hk
            have hg := Nat.le_trans hg hz
            refine W.eq (g2 := F0 m 198 ls [.int (mI (mCnt L P k d (d + 500)))]) rfl ?_
            refine mw_topi (y := ta) hTA.symm ?_
            refine lv_aload_n hx hb dL_isMarketSo_198 rfl (lv_at hl 4 rfl) ?_
            refine lv_iload_n hx hb dL_isMarketSo_199 rfl (lv_at hl 5 rfl) ?_
            refine lv_iload_n hx hb dL_isMarketSo_200 rfl (lv_at hl 6 rfl) ?_
            refine lv_iload_n hx hb dL_isMarketSo_201 rfl (lv_at hl 6 rfl) ?_
            refine mw_bipush hx hb (by decide +kernel) dL_isMarketSo_202 ?_
            refine mw_iadd hx hb dL_isMarketSo_204 ?_
            refine mw_cXn (rest := [.int (mI (ta))]) (A0 := (fun _ => False)) hC (x_X0_times l hfl D h0 a1 a2 cA cJ v L P k d (d + 77) (by omega) (by omega) (by omega) hok) (mEx2_0 (by omega) (by omega)) hES hZS (cwV 3 hts gL_isMarketSo_X0_times rfl rfl rfl (by decide +kernel) ⟨Nat.le_of_ble_eq_true rfl, Nat.le_of_ble_eq_true rfl⟩) hK hPx hS rfl rfl hl.1 rfl (Nat.le_of_ble_eq_true rfl) ⟨Nat.le_of_ble_eq_true rfl, Nat.le_of_ble_eq_true rfl⟩ dL_isMarketSo_205 (fun H locs hS hz hk => ?_)
            have hPx := mw_keepP hPx hk
            have hg := Nat.le_trans hg hz
            refine W.eq (g2 := F0 m 208 ls [.int (mI (mCnt L P k d (d + 77))), .int (mI (ta))]) rfl ?_
            refine mw_topi (y := tb) hTB.symm ?_
            refine lv_aload_n hx hb dL_isMarketSo_208 rfl (lv_at hl 4 rfl) ?_
            refine lv_iload_n hx hb dL_isMarketSo_209 rfl (lv_at hl 5 rfl) ?_
            refine lv_iload_n hx hb dL_isMarketSo_210 rfl (lv_at hl 6 rfl) ?_
            refine mw_bipush hx hb (by decide +kernel) dL_isMarketSo_211 ?_
            refine mw_iadd hx hb dL_isMarketSo_213 ?_
            refine lv_iload_n hx hb dL_isMarketSo_214 rfl (lv_at hl 6 rfl) ?_
            refine mw_sipush hx hb (by decide +kernel) dL_isMarketSo_215 ?_
            refine mw_iadd hx hb dL_isMarketSo_218 ?_
            refine mw_cXn (rest := [.int (mI (tb)), .int (mI (ta))]) (A0 := (fun _ => False)) hC (x_X0_times l hfl D h0 a1 a2 cA cJ v L P k (d + 78) (d + 500) (by omega) (by omega) (by omega) hok) (mEx2_0 (by omega) (by omega)) hES hZS (cwV 3 hts gL_isMarketSo_X0_times rfl rfl rfl (by decide +kernel) ⟨Nat.le_of_ble_eq_true rfl, Nat.le_of_ble_eq_true rfl⟩) hK hPx hS rfl rfl hl.1 rfl (Nat.le_of_ble_eq_true rfl) ⟨Nat.le_of_ble_eq_true rfl, Nat.le_of_ble_eq_true rfl⟩ dL_isMarketSo_219 (fun H locs hS hz hk => ?_)
            have hPx := mw_keepP hPx hk
            have hg := Nat.le_trans hg hz
            refine W.eq (g2 := F0 m 222 ls [.int (mI (mCnt L P k (d + 78) (d + 500))), .int (mI (tb)), .int (mI (ta))]) rfl ?_
            refine mw_topi (y := tc) hTC.symm ?_
            refine mw_iadd hx hb dL_isMarketSo_222 ?_
            refine mw_icmp_ne (tgt := 230) hx hb (by omega) (by omega) dL_isMarketSo_223 (by decide) (fun c_223 => False.elim (by omega)) (fun c_223 => ?_)
            refine mw_iconst hx hb dL_isMarketSo_226 ?_
            refine lv_goto (tgt := 231) hx hb dL_isMarketSo_227 (by decide) ?_
            exact mw_gretZ hx hb hr hlocks dL_isMarketSo_231 (by decide +kernel) rfl (by omega) hPx hS ⟨Nat.le_of_ble_eq_true rfl, Nat.le_of_ble_eq_true rfl⟩
    · refine lv_aload_n hx hb dL_isMarketSo_82 rfl (lv_at hl 3 rfl) ?_
      refine lv_iload_n hx hb dL_isMarketSo_83 rfl (lv_at hl 4 rfl) ?_
      refine lv_iload_n hx hb dL_isMarketSo_84 rfl (lv_at hl 5 rfl) ?_
      refine lv_iload_n hx hb dL_isMarketSo_85 rfl (lv_at hl 2 rfl) ?_
      refine mw_iconst hx hb dL_isMarketSo_86 ?_
      refine mw_isub hx hb dL_isMarketSo_87 ?_
      refine mw_cXn (rest := []) (A0 := (fun _ => False)) hC (x_X0_times l hfl D h0 a1 a2 cA cJ v L P k d (nx - 1) (by omega) (by omega) (by omega) hok) (mEx2_0 (by omega) (by omega)) hES hZS (cwV 3 hts gL_isMarketSo_X0_times rfl rfl rfl (by decide +kernel) ⟨Nat.le_of_ble_eq_true rfl, Nat.le_of_ble_eq_true rfl⟩) hK hPx hS rfl rfl hl.1 rfl (Nat.le_of_ble_eq_true rfl) ⟨Nat.le_of_ble_eq_true rfl, Nat.le_of_ble_eq_true rfl⟩ dL_isMarketSo_88 (fun H locs hS hz hk => ?_)
      have hPx := mw_keepP hPx hk
      have hg := Nat.le_trans hg hz
      refine W.eq (g2 := F0 m 91 ls [.int (mI (mCnt L P k d (nx - 1)))]) rfl ?_
      refine mw_topi (y := 0) (mk.2.2.2.2 c_79) ?_
      refine mw_if_ne (tgt := 98) hx hb (by omega) dL_isMarketSo_91 (by decide) (fun c => absurd c (by decide)) (fun _ => ?_)
      refine mw_iconst hx hb dL_isMarketSo_94 ?_
      refine lv_goto (tgt := 99) hx hb dL_isMarketSo_95 (by decide) ?_
      refine lv_istore (lv' := [(6, .int (mI (1))), (5, .int (mI (d - nr))), (4, .int (mI (nr))), (3, .int (mI (nx))), (0, .ref h0), (1, .int (mI (k))), (2, .int (mI (d)))]) hx hb dL_isMarketSo_99 hl (by decide) rfl (fun ls hl => ?_)
      refine lv_iload hx hb dL_isMarketSo_101 (lv_at hl 0 rfl) ?_
      refine mw_if_eq (tgt := 153) hx hb (by omega) dL_isMarketSo_103 (by decide) (fun c => absurd c (by decide)) (fun _ => ?_)
      refine lv_iload hx hb dL_isMarketSo_106 (lv_at hl 1 rfl) ?_
      refine mw_if_eq (tgt := 131) hx hb (by omega) dL_isMarketSo_108 (by decide) (fun c_108 => ?_) (fun c_108 => ?_)
      · refine lv_iload hx hb dL_isMarketSo_131 (lv_at hl 2 rfl) ?_
        refine lv_iload_n hx hb dL_isMarketSo_133 rfl (lv_at hl 6 rfl) ?_
        refine mw_icmp_le (tgt := 149) hx hb (by omega) (by omega) dL_isMarketSo_134 (by decide) (fun c_134 => ?_) (fun c_134 => ?_)
        · refine mw_iconst hx hb dL_isMarketSo_149 ?_
          refine lv_goto (tgt := 154) hx hb dL_isMarketSo_150 (by decide) ?_
          refine lv_istore (lv' := [(6, .int (mI (1))), (5, .int (mI (d - nr))), (4, .int (mI (nr))), (3, .int (mI (nx))), (0, .ref h0), (1, .int (mI (k))), (2, .int (mI (d)))]) hx hb dL_isMarketSo_154 hl (by decide) rfl (fun ls hl => ?_)
          refine lv_iload hx hb dL_isMarketSo_156 (lv_at hl 0 rfl) ?_
          refine mw_if_eq (tgt := 230) hx hb (by omega) dL_isMarketSo_158 (by decide) (fun c => absurd c (by decide)) (fun _ => ?_)
          refine lv_aload_n hx hb dL_isMarketSo_161 rfl (lv_at hl 4 rfl) ?_
          refine lv_iload_n hx hb dL_isMarketSo_162 rfl (lv_at hl 6 rfl) ?_
          refine mw_cXn (rest := []) (A0 := (fun _ => False)) hC (x_X0_heldOn l hfl D h0 a1 a2 cA cJ v L P d (by omega) hok) (mEx1_0 (by omega)) hES hZS (cwV 1 hts gL_isMarketSo_X0_heldOn rfl rfl rfl (by decide +kernel) ⟨Nat.le_of_ble_eq_true rfl, Nat.le_of_ble_eq_true rfl⟩) hK hPx hS rfl rfl hl.1 rfl (Nat.le_of_ble_eq_true rfl) ⟨Nat.le_of_ble_eq_true rfl, Nat.le_of_ble_eq_true rfl⟩ dL_isMarketSo_163 (fun H locs hS hz hk => ?_)
          have hPx := mw_keepP hPx hk
          have hg := Nat.le_trans hg hz
          refine W.eq (g2 := F0 m 166 ls [.int (mI (mSet L P d (v 0).toNat))]) rfl ?_
          refine lv_iload_n hx hb dL_isMarketSo_166 rfl (lv_at hl 5 rfl) ?_
          refine mw_ishr hx hb dL_isMarketSo_167 ?_
          refine mw_iconst hx hb dL_isMarketSo_168 ?_
          refine mw_iand hx hb dL_isMarketSo_169 ?_
          refine mw_topi (y := bb) ((m_heldbit hok hk9 d).trans hBB.symm) ?_
          refine lv_aload_n hx hb dL_isMarketSo_170 rfl (lv_at hl 4 rfl) ?_
          refine lv_iload_n hx hb dL_isMarketSo_171 rfl (lv_at hl 5 rfl) ?_
          refine lv_iload_n hx hb dL_isMarketSo_172 rfl (lv_at hl 6 rfl) ?_
          refine mw_cXn (rest := [.int (mI (bb))]) (A0 := (fun _ => False)) hC (x_X0_isHeld l hfl D h0 a1 a2 cA cJ v L P k d (by omega) (by omega) hok) (mEx2_0 (by omega) (by omega)) hES hZS (cwV 2 hts gL_isMarketSo_X0_isHeld rfl rfl rfl (by decide +kernel) ⟨Nat.le_of_ble_eq_true rfl, Nat.le_of_ble_eq_true rfl⟩) hK hPx hS rfl rfl hl.1 rfl (Nat.le_of_ble_eq_true rfl) ⟨Nat.le_of_ble_eq_true rfl, Nat.le_of_ble_eq_true rfl⟩ dL_isMarketSo_173 (fun H locs hS hz hk => ?_)
          have hPx := mw_keepP hPx hk
          have hg := Nat.le_trans hg hz
          refine W.eq (g2 := F0 m 176 ls [.int (mI (mB (d % L k = P k))), .int (mI (bb))]) rfl ?_
          refine mw_zeq (tgt := 183) hx hb dL_isMarketSo_176 (by decide) (fun c_176 => ?_) (fun c_176 => ?_)
          · have q : bb = 0 := hBB.trans (mB_f c_176)
            refine mw_iconst hx hb dL_isMarketSo_183 ?_
            refine mw_icmp_ne (tgt := 230) hx hb (by omega) (by omega) dL_isMarketSo_184 (by decide) (fun c_184 => False.elim (by omega)) (fun c_184 => ?_)
            refine lv_aload_n hx hb dL_isMarketSo_187 rfl (lv_at hl 4 rfl) ?_
            refine lv_iload_n hx hb dL_isMarketSo_188 rfl (lv_at hl 5 rfl) ?_
            refine lv_iload_n hx hb dL_isMarketSo_189 rfl (lv_at hl 6 rfl) ?_
            refine lv_iload_n hx hb dL_isMarketSo_190 rfl (lv_at hl 6 rfl) ?_
            refine mw_sipush hx hb (by decide +kernel) dL_isMarketSo_191 ?_
            refine mw_iadd hx hb dL_isMarketSo_194 ?_
            refine mw_cXn (rest := []) (A0 := (fun _ => False)) hC (x_X0_times l hfl D h0 a1 a2 cA cJ v L P k d (d + 500) (by omega) (by omega) (by omega) hok) (mEx2_0 (by omega) (by omega)) hES hZS (cwV 3 hts gL_isMarketSo_X0_times rfl rfl rfl (by decide +kernel) ⟨Nat.le_of_ble_eq_true rfl, Nat.le_of_ble_eq_true rfl⟩) hK hPx hS rfl rfl hl.1 rfl (Nat.le_of_ble_eq_true rfl) ⟨Nat.le_of_ble_eq_true rfl, Nat.le_of_ble_eq_true rfl⟩ dL_isMarketSo_195 (fun H locs hS hz hk => ?_)
            have hPx := mw_keepP hPx hk
            have hg := Nat.le_trans hg hz
            refine W.eq (g2 := F0 m 198 ls [.int (mI (mCnt L P k d (d + 500)))]) rfl ?_
            refine mw_topi (y := ta) hTA.symm ?_
            refine lv_aload_n hx hb dL_isMarketSo_198 rfl (lv_at hl 4 rfl) ?_
            refine lv_iload_n hx hb dL_isMarketSo_199 rfl (lv_at hl 5 rfl) ?_
            refine lv_iload_n hx hb dL_isMarketSo_200 rfl (lv_at hl 6 rfl) ?_
            refine lv_iload_n hx hb dL_isMarketSo_201 rfl (lv_at hl 6 rfl) ?_
            refine mw_bipush hx hb (by decide +kernel) dL_isMarketSo_202 ?_
            refine mw_iadd hx hb dL_isMarketSo_204 ?_
            refine mw_cXn (rest := [.int (mI (ta))]) (A0 := (fun _ => False)) hC (x_X0_times l hfl D h0 a1 a2 cA cJ v L P k d (d + 77) (by omega) (by omega) (by omega) hok) (mEx2_0 (by omega) (by omega)) hES hZS (cwV 3 hts gL_isMarketSo_X0_times rfl rfl rfl (by decide +kernel) ⟨Nat.le_of_ble_eq_true rfl, Nat.le_of_ble_eq_true rfl⟩) hK hPx hS rfl rfl hl.1 rfl (Nat.le_of_ble_eq_true rfl) ⟨Nat.le_of_ble_eq_true rfl, Nat.le_of_ble_eq_true rfl⟩ dL_isMarketSo_205 (fun H locs hS hz hk => ?_)
            have hPx := mw_keepP hPx hk
            have hg := Nat.le_trans hg hz
            refine W.eq (g2 := F0 m 208 ls [.int (mI (mCnt L P k d (d + 77))), .int (mI (ta))]) rfl ?_
            refine mw_topi (y := tb) hTB.symm ?_
            refine lv_aload_n hx hb dL_isMarketSo_208 rfl (lv_at hl 4 rfl) ?_
            refine lv_iload_n hx hb dL_isMarketSo_209 rfl (lv_at hl 5 rfl) ?_
            refine lv_iload_n hx hb dL_isMarketSo_210 rfl (lv_at hl 6 rfl) ?_
            refine mw_bipush hx hb (by decide +kernel) dL_isMarketSo_211 ?_
            refine mw_iadd hx hb dL_isMarketSo_213 ?_
            refine lv_iload_n hx hb dL_isMarketSo_214 rfl (lv_at hl 6 rfl) ?_
            refine mw_sipush hx hb (by decide +kernel) dL_isMarketSo_215 ?_
            refine mw_iadd hx hb dL_isMarketSo_218 ?_
            refine mw_cXn (rest := [.int (mI (tb)), .int (mI (ta))]) (A0 := (fun _ => False)) hC (x_X0_times l hfl D h0 a1 a2 cA cJ v L P k (d + 78) (d + 500) (by omega) (by omega) (by omega) hok) (mEx2_0 (by omega) (by omega)) hES hZS (cwV 3 hts gL_isMarketSo_X0_times rfl rfl rfl (by decide +kernel) ⟨Nat.le_of_ble_eq_true rfl, Nat.le_of_ble_eq_true rfl⟩) hK hPx hS rfl rfl hl.1 rfl (Nat.le_of_ble_eq_true rfl) ⟨Nat.le_of_ble_eq_true rfl, Nat.le_of_ble_eq_true rfl⟩ dL_isMarketSo_219 (fun H locs hS hz hk => ?_)
            have hPx := mw_keepP hPx hk
            have hg := Nat.le_trans hg hz
            refine W.eq (g2 := F0 m 222 ls [.int (mI (mCnt L P k (d + 78) (d + 500))), .int (mI (tb)), .int (mI (ta))]) rfl ?_
            refine mw_topi (y := tc) hTC.symm ?_
            refine mw_iadd hx hb dL_isMarketSo_222 ?_
            refine mw_icmp_ne (tgt := 230) hx hb (by omega) (by omega) dL_isMarketSo_223 (by decide) (fun c_223 => False.elim (by omega)) (fun c_223 => ?_)
            refine mw_iconst hx hb dL_isMarketSo_226 ?_
            refine lv_goto (tgt := 231) hx hb dL_isMarketSo_227 (by decide) ?_
            exact mw_gretZ hx hb hr hlocks dL_isMarketSo_231 (by decide +kernel) rfl (by omega) hPx hS ⟨Nat.le_of_ble_eq_true rfl, Nat.le_of_ble_eq_true rfl⟩
          · have q : bb = 1 := hBB.trans (mB_t c_176)
            refine mw_iconst hx hb dL_isMarketSo_179 ?_
            refine lv_goto (tgt := 184) hx hb dL_isMarketSo_180 (by decide) ?_
            refine mw_icmp_ne (tgt := 230) hx hb (by omega) (by omega) dL_isMarketSo_184 (by decide) (fun c_184 => False.elim (by omega)) (fun c_184 => ?_)
            refine lv_aload_n hx hb dL_isMarketSo_187 rfl (lv_at hl 4 rfl) ?_
            refine lv_iload_n hx hb dL_isMarketSo_188 rfl (lv_at hl 5 rfl) ?_
            refine lv_iload_n hx hb dL_isMarketSo_189 rfl (lv_at hl 6 rfl) ?_
            refine lv_iload_n hx hb dL_isMarketSo_190 rfl (lv_at hl 6 rfl) ?_
            refine mw_sipush hx hb (by decide +kernel) dL_isMarketSo_191 ?_
            refine mw_iadd hx hb dL_isMarketSo_194 ?_
            refine mw_cXn (rest := []) (A0 := (fun _ => False)) hC (x_X0_times l hfl D h0 a1 a2 cA cJ v L P k d (d + 500) (by omega) (by omega) (by omega) hok) (mEx2_0 (by omega) (by omega)) hES hZS (cwV 3 hts gL_isMarketSo_X0_times rfl rfl rfl (by decide +kernel) ⟨Nat.le_of_ble_eq_true rfl, Nat.le_of_ble_eq_true rfl⟩) hK hPx hS rfl rfl hl.1 rfl (Nat.le_of_ble_eq_true rfl) ⟨Nat.le_of_ble_eq_true rfl, Nat.le_of_ble_eq_true rfl⟩ dL_isMarketSo_195 (fun H locs hS hz hk => ?_)
            have hPx := mw_keepP hPx hk
            have hg := Nat.le_trans hg hz
            refine W.eq (g2 := F0 m 198 ls [.int (mI (mCnt L P k d (d + 500)))]) rfl ?_
            refine mw_topi (y := ta) hTA.symm ?_
            refine lv_aload_n hx hb dL_isMarketSo_198 rfl (lv_at hl 4 rfl) ?_
            refine lv_iload_n hx hb dL_isMarketSo_199 rfl (lv_at hl 5 rfl) ?_
            refine lv_iload_n hx hb dL_isMarketSo_200 rfl (lv_at hl 6 rfl) ?_
            refine lv_iload_n hx hb dL_isMarketSo_201 rfl (lv_at hl 6 rfl) ?_
            refine mw_bipush hx hb (by decide +kernel) dL_isMarketSo_202 ?_
            refine mw_iadd hx hb dL_isMarketSo_204 ?_
            refine mw_cXn (rest := [.int (mI (ta))]) (A0 := (fun _ => False)) hC (x_X0_times l hfl D h0 a1 a2 cA cJ v L P k d (d + 77) (by omega) (by omega) (by omega) hok) (mEx2_0 (by omega) (by omega)) hES hZS (cwV 3 hts gL_isMarketSo_X0_times rfl rfl rfl (by decide +kernel) ⟨Nat.le_of_ble_eq_true rfl, Nat.le_of_ble_eq_true rfl⟩) hK hPx hS rfl rfl hl.1 rfl (Nat.le_of_ble_eq_true rfl) ⟨Nat.le_of_ble_eq_true rfl, Nat.le_of_ble_eq_true rfl⟩ dL_isMarketSo_205 (fun H locs hS hz hk => ?_)
            have hPx := mw_keepP hPx hk
            have hg := Nat.le_trans hg hz
            refine W.eq (g2 := F0 m 208 ls [.int (mI (mCnt L P k d (d + 77))), .int (mI (ta))]) rfl ?_
            refine mw_topi (y := tb) hTB.symm ?_
            refine lv_aload_n hx hb dL_isMarketSo_208 rfl (lv_at hl 4 rfl) ?_
            refine lv_iload_n hx hb dL_isMarketSo_209 rfl (lv_at hl 5 rfl) ?_
            refine lv_iload_n hx hb dL_isMarketSo_210 rfl (lv_at hl 6 rfl) ?_
            refine mw_bipush hx hb (by decide +kernel) dL_isMarketSo_211 ?_
            refine mw_iadd hx hb dL_isMarketSo_213 ?_
            refine lv_iload_n hx hb dL_isMarketSo_214 rfl (lv_at hl 6 rfl) ?_
            refine mw_sipush hx hb (by decide +kernel) dL_isMarketSo_215 ?_
            refine mw_iadd hx hb dL_isMarketSo_218 ?_
            refine mw_cXn (rest := [.int (mI (tb)), .int (mI (ta))]) (A0 := (fun _ => False)) hC (x_X0_times l hfl D h0 a1 a2 cA cJ v L P k (d + 78) (d + 500) (by omega) (by omega) (by omega) hok) (mEx2_0 (by omega) (by omega)) hES hZS (cwV 3 hts gL_isMarketSo_X0_times rfl rfl rfl (by decide +kernel) ⟨Nat.le_of_ble_eq_true rfl, Nat.le_of_ble_eq_true rfl⟩) hK hPx hS rfl rfl hl.1 rfl (Nat.le_of_ble_eq_true rfl) ⟨Nat.le_of_ble_eq_true rfl, Nat.le_of_ble_eq_true rfl⟩ dL_isMarketSo_219 (fun H locs hS hz hk => ?_)
            have hPx := mw_keepP hPx hk
            have hg := Nat.le_trans hg hz
            refine W.eq (g2 := F0 m 222 ls [.int (mI (mCnt L P k (d + 78) (d + 500))), .int (mI (tb)), .int (mI (ta))]) rfl ?_
            refine mw_topi (y := tc) hTC.symm ?_
            refine mw_iadd hx hb dL_isMarketSo_222 ?_
            refine mw_icmp_ne (tgt := 230) hx hb (by omega) (by omega) dL_isMarketSo_223 (by decide) (fun c_223 => False.elim (by omega)) (fun c_223 => ?_)
            refine mw_iconst hx hb dL_isMarketSo_226 ?_
            refine lv_goto (tgt := 231) hx hb dL_isMarketSo_227 (by decide) ?_
            exact mw_gretZ hx hb hr hlocks dL_isMarketSo_231 (by decide +kernel) rfl (by omega) hPx hS ⟨Nat.le_of_ble_eq_true rfl, Nat.le_of_ble_eq_true rfl⟩
        · refine lv_aload_n hx hb dL_isMarketSo_137 rfl (lv_at hl 4 rfl) ?_
          refine lv_iload_n hx hb dL_isMarketSo_138 rfl (lv_at hl 5 rfl) ?_
          refine lv_iload_n hx hb dL_isMarketSo_139 rfl (lv_at hl 6 rfl) ?_
          refine lv_iload hx hb dL_isMarketSo_140 (lv_at hl 1 rfl) ?_
          refine mw_isub hx hb dL_isMarketSo_142 ?_
          refine mw_cXn (rest := []) (A0 := (fun _ => False)) hC (x_X0_isHeld l hfl D h0 a1 a2 cA cJ v L P k (d - (d - nr)) (by omega) (by omega) hok) (mEx2_0 (by omega) (by omega)) hES hZS (cwV 2 hts gL_isMarketSo_X0_isHeld rfl rfl rfl (by decide +kernel) ⟨Nat.le_of_ble_eq_true rfl, Nat.le_of_ble_eq_true rfl⟩) hK hPx hS rfl rfl hl.1 rfl (Nat.le_of_ble_eq_true rfl) ⟨Nat.le_of_ble_eq_true rfl, Nat.le_of_ble_eq_true rfl⟩ dL_isMarketSo_143 (fun H locs hS hz hk => ?_)
          have hPx := mw_keepP hPx hk
          have hg := Nat.le_trans hg hz
          refine W.eq (g2 := F0 m 146 ls [.int (mI (mB ((d - (d - nr)) % L k = P k)))]) rfl ?_
          refine mw_zne (tgt := 153) hx hb dL_isMarketSo_146 (by decide) (fun c_146 => False.elim (by first | exact (nrf.2.2.2.2 (by omega)).2 c_146 | (exfalso; omega))) (fun c_146 => ?_)
          refine mw_iconst hx hb dL_isMarketSo_149 ?_
          refine lv_goto (tgt := 154) hx hb dL_isMarketSo_150 (by decide) ?_
          refine lv_istore (lv' := [(6, .int (mI (1))), (5, .int (mI (d - nr))), (4, .int (mI (nr))), (3, .int (mI (nx))), (0, .ref h0), (1, .int (mI (k))), (2, .int (mI (d)))]) hx hb dL_isMarketSo_154 hl (by decide) rfl (fun ls hl => ?_)
          refine lv_iload hx hb dL_isMarketSo_156 (lv_at hl 0 rfl) ?_
          refine mw_if_eq (tgt := 230) hx hb (by omega) dL_isMarketSo_158 (by decide) (fun c => absurd c (by decide)) (fun _ => ?_)
          refine lv_aload_n hx hb dL_isMarketSo_161 rfl (lv_at hl 4 rfl) ?_
          refine lv_iload_n hx hb dL_isMarketSo_162 rfl (lv_at hl 6 rfl) ?_
          refine mw_cXn (rest := []) (A0 := (fun _ => False)) hC (x_X0_heldOn l hfl D h0 a1 a2 cA cJ v L P d (by omega) hok) (mEx1_0 (by omega)) hES hZS (cwV 1 hts gL_isMarketSo_X0_heldOn rfl rfl rfl (by decide +kernel) ⟨Nat.le_of_ble_eq_true rfl, Nat.le_of_ble_eq_true rfl⟩) hK hPx hS rfl rfl hl.1 rfl (Nat.le_of_ble_eq_true rfl) ⟨Nat.le_of_ble_eq_true rfl, Nat.le_of_ble_eq_true rfl⟩ dL_isMarketSo_163 (fun H locs hS hz hk => ?_)
          have hPx := mw_keepP hPx hk
          have hg := Nat.le_trans hg hz
          refine W.eq (g2 := F0 m 166 ls [.int (mI (mSet L P d (v 0).toNat))]) rfl ?_
          refine lv_iload_n hx hb dL_isMarketSo_166 rfl (lv_at hl 5 rfl) ?_
          refine mw_ishr hx hb dL_isMarketSo_167 ?_
          refine mw_iconst hx hb dL_isMarketSo_168 ?_
          refine mw_iand hx hb dL_isMarketSo_169 ?_
          refine mw_topi (y := bb) ((m_heldbit hok hk9 d).trans hBB.symm) ?_
          refine lv_aload_n hx hb dL_isMarketSo_170 rfl (lv_at hl 4 rfl) ?_
          refine lv_iload_n hx hb dL_isMarketSo_171 rfl (lv_at hl 5 rfl) ?_
          refine lv_iload_n hx hb dL_isMarketSo_172 rfl (lv_at hl 6 rfl) ?_
          refine mw_cXn (rest := [.int (mI (bb))]) (A0 := (fun _ => False)) hC (x_X0_isHeld l hfl D h0 a1 a2 cA cJ v L P k d (by omega) (by omega) hok) (mEx2_0 (by omega) (by omega)) hES hZS (cwV 2 hts gL_isMarketSo_X0_isHeld rfl rfl rfl (by decide +kernel) ⟨Nat.le_of_ble_eq_true rfl, Nat.le_of_ble_eq_true rfl⟩) hK hPx hS rfl rfl hl.1 rfl (Nat.le_of_ble_eq_true rfl) ⟨Nat.le_of_ble_eq_true rfl, Nat.le_of_ble_eq_true rfl⟩ dL_isMarketSo_173 (fun H locs hS hz hk => ?_)
          have hPx := mw_keepP hPx hk
          have hg := Nat.le_trans hg hz
          refine W.eq (g2 := F0 m 176 ls [.int (mI (mB (d % L k = P k))), .int (mI (bb))]) rfl ?_
          refine mw_zeq (tgt := 183) hx hb dL_isMarketSo_176 (by decide) (fun c_176 => ?_) (fun c_176 => ?_)
          · have q : bb = 0 := hBB.trans (mB_f c_176)
            refine mw_iconst hx hb dL_isMarketSo_183 ?_
            refine mw_icmp_ne (tgt := 230) hx hb (by omega) (by omega) dL_isMarketSo_184 (by decide) (fun c_184 => False.elim (by omega)) (fun c_184 => ?_)
            refine lv_aload_n hx hb dL_isMarketSo_187 rfl (lv_at hl 4 rfl) ?_
            refine lv_iload_n hx hb dL_isMarketSo_188 rfl (lv_at hl 5 rfl) ?_
            refine lv_iload_n hx hb dL_isMarketSo_189 rfl (lv_at hl 6 rfl) ?_
            refine lv_iload_n hx hb dL_isMarketSo_190 rfl (lv_at hl 6 rfl) ?_
            refine mw_sipush hx hb (by decide +kernel) dL_isMarketSo_191 ?_
            refine mw_iadd hx hb dL_isMarketSo_194 ?_
            refine mw_cXn (rest := []) (A0 := (fun _ => False)) hC (x_X0_times l hfl D h0 a1 a2 cA cJ v L P k d (d + 500) (by omega) (by omega) (by omega) hok) (mEx2_0 (by omega) (by omega)) hES hZS (cwV 3 hts gL_isMarketSo_X0_times rfl rfl rfl (by decide +kernel) ⟨Nat.le_of_ble_eq_true rfl, Nat.le_of_ble_eq_true rfl⟩) hK hPx hS rfl rfl hl.1 rfl (Nat.le_of_ble_eq_true rfl) ⟨Nat.le_of_ble_eq_true rfl, Nat.le_of_ble_eq_true rfl⟩ dL_isMarketSo_195 (fun H locs hS hz hk => ?_)
            have hPx := mw_keepP hPx hk
            have hg := Nat.le_trans hg hz
            refine W.eq (g2 := F0 m 198 ls [.int (mI (mCnt L P k d (d + 500)))]) rfl ?_
            refine mw_topi (y := ta) hTA.symm ?_
            refine lv_aload_n hx hb dL_isMarketSo_198 rfl (lv_at hl 4 rfl) ?_
            refine lv_iload_n hx hb dL_isMarketSo_199 rfl (lv_at hl 5 rfl) ?_
            refine lv_iload_n hx hb dL_isMarketSo_200 rfl (lv_at hl 6 rfl) ?_
            refine lv_iload_n hx hb dL_isMarketSo_201 rfl (lv_at hl 6 rfl) ?_
            refine mw_bipush hx hb (by decide +kernel) dL_isMarketSo_202 ?_
            refine mw_iadd hx hb dL_isMarketSo_204 ?_
            refine mw_cXn (rest := [.int (mI (ta))]) (A0 := (fun _ => False)) hC (x_X0_times l hfl D h0 a1 a2 cA cJ v L P k d (d + 77) (by omega) (by omega) (by omega) hok) (mEx2_0 (by omega) (by omega)) hES hZS (cwV 3 hts gL_isMarketSo_X0_times rfl rfl rfl (by decide +kernel) ⟨Nat.le_of_ble_eq_true rfl, Nat.le_of_ble_eq_true rfl⟩) hK hPx hS rfl rfl hl.1 rfl (Nat.le_of_ble_eq_true rfl) ⟨Nat.le_of_ble_eq_true rfl, Nat.le_of_ble_eq_true rfl⟩ dL_isMarketSo_205 (fun H locs hS hz hk => ?_)
            have hPx := mw_keepP hPx hk
            have hg := Nat.le_trans hg hz
            refine W.eq (g2 := F0 m 208 ls [.int (mI (mCnt L P k d (d + 77))), .int (mI (ta))]) rfl ?_
            refine mw_topi (y := tb) hTB.symm ?_
            refine lv_aload_n hx hb dL_isMarketSo_208 rfl (lv_at hl 4 rfl) ?_
            refine lv_iload_n hx hb dL_isMarketSo_209 rfl (lv_at hl 5 rfl) ?_
            refine lv_iload_n hx hb dL_isMarketSo_210 rfl (lv_at hl 6 rfl) ?_
            refine mw_bipush hx hb (by decide +kernel) dL_isMarketSo_211 ?_
            refine mw_iadd hx hb dL_isMarketSo_213 ?_
            refine lv_iload_n hx hb dL_isMarketSo_214 rfl (lv_at hl 6 rfl) ?_
            refine mw_sipush hx hb (by decide +kernel) dL_isMarketSo_215 ?_
            refine mw_iadd hx hb dL_isMarketSo_218 ?_
            refine mw_cXn (rest := [.int (mI (tb)), .int (mI (ta))]) (A0 := (fun _ => False)) hC (x_X0_times l hfl D h0 a1 a2 cA cJ v L P k (d + 78) (d + 500) (by omega) (by omega) (by omega) hok) (mEx2_0 (by omega) (by omega)) hES hZS (cwV 3 hts gL_isMarketSo_X0_times rfl rfl rfl (by decide +kernel) ⟨Nat.le_of_ble_eq_true rfl, Nat.le_of_ble_eq_true rfl⟩) hK hPx hS rfl rfl hl.1 rfl (Nat.le_of_ble_eq_true rfl) ⟨Nat.le_of_ble_eq_true rfl, Nat.le_of_ble_eq_true rfl⟩ dL_isMarketSo_219 (fun H locs hS hz hk => ?_)
            have hPx := mw_keepP hPx hk
            have hg := Nat.le_trans hg hz
            refine W.eq (g2 := F0 m 222 ls [.int (mI (mCnt L P k (d + 78) (d + 500))), .int (mI (tb)), .int (mI (ta))]) rfl ?_
            refine mw_topi (y := tc) hTC.symm ?_
            refine mw_iadd hx hb dL_isMarketSo_222 ?_
            refine mw_icmp_ne (tgt := 230) hx hb (by omega) (by omega) dL_isMarketSo_223 (by decide) (fun c_223 => False.elim (by omega)) (fun c_223 => ?_)
            refine mw_iconst hx hb dL_isMarketSo_226 ?_
            refine lv_goto (tgt := 231) hx hb dL_isMarketSo_227 (by decide) ?_
            exact mw_gretZ hx hb hr hlocks dL_isMarketSo_231 (by decide +kernel) rfl (by omega) hPx hS ⟨Nat.le_of_ble_eq_true rfl, Nat.le_of_ble_eq_true rfl⟩
          · have q : bb = 1 := hBB.trans (mB_t c_176)
            refine mw_iconst hx hb dL_isMarketSo_179 ?_
            refine lv_goto (tgt := 184) hx hb dL_isMarketSo_180 (by decide) ?_
            refine mw_icmp_ne (tgt := 230) hx hb (by omega) (by omega) dL_isMarketSo_184 (by decide) (fun c_184 => False.elim (by omega)) (fun c_184 => ?_)
            refine lv_aload_n hx hb dL_isMarketSo_187 rfl (lv_at hl 4 rfl) ?_
            refine lv_iload_n hx hb dL_isMarketSo_188 rfl (lv_at hl 5 rfl) ?_
            refine lv_iload_n hx hb dL_isMarketSo_189 rfl (lv_at hl 6 rfl) ?_
            refine lv_iload_n hx hb dL_isMarketSo_190 rfl (lv_at hl 6 rfl) ?_
            refine mw_sipush hx hb (by decide +kernel) dL_isMarketSo_191 ?_
            refine mw_iadd hx hb dL_isMarketSo_194 ?_
            refine mw_cXn (rest := []) (A0 := (fun _ => False)) hC (x_X0_times l hfl D h0 a1 a2 cA cJ v L P k d (d + 500) (by omega) (by omega) (by omega) hok) (mEx2_0 (by omega) (by omega)) hES hZS (cwV 3 hts gL_isMarketSo_X0_times rfl rfl rfl (by decide +kernel) ⟨Nat.le_of_ble_eq_true rfl, Nat.le_of_ble_eq_true rfl⟩) hK hPx hS rfl rfl hl.1 rfl (Nat.le_of_ble_eq_true rfl) ⟨Nat.le_of_ble_eq_true rfl, Nat.le_of_ble_eq_true rfl⟩ dL_isMarketSo_195 (fun H locs hS hz hk => ?_)
            have hPx := mw_keepP hPx hk
            have hg := Nat.le_trans hg hz
            refine W.eq (g2 := F0 m 198 ls [.int (mI (mCnt L P k d (d + 500)))]) rfl ?_
            refine mw_topi (y := ta) hTA.symm ?_
            refine lv_aload_n hx hb dL_isMarketSo_198 rfl (lv_at hl 4 rfl) ?_
            refine lv_iload_n hx hb dL_isMarketSo_199 rfl (lv_at hl 5 rfl) ?_
            refine lv_iload_n hx hb dL_isMarketSo_200 rfl (lv_at hl 6 rfl) ?_
            refine lv_iload_n hx hb dL_isMarketSo_201 rfl (lv_at hl 6 rfl) ?_
            refine mw_bipush hx hb (by decide +kernel) dL_isMarketSo_202 ?_
            refine mw_iadd hx hb dL_isMarketSo_204 ?_
            refine mw_cXn (rest := [.int (mI (ta))]) (A0 := (fun _ => False)) hC (x_X0_times l hfl D h0 a1 a2 cA cJ v L P k d (d + 77) (by omega) (by omega) (by omega) hok) (mEx2_0 (by omega) (by omega)) hES hZS (cwV 3 hts gL_isMarketSo_X0_times rfl rfl rfl (by decide +kernel) ⟨Nat.le_of_ble_eq_true rfl, Nat.le_of_ble_eq_true rfl⟩) hK hPx hS rfl rfl hl.1 rfl (Nat.le_of_ble_eq_true rfl) ⟨Nat.le_of_ble_eq_true rfl, Nat.le_of_ble_eq_true rfl⟩ dL_isMarketSo_205 (fun H locs hS hz hk => ?_)
            have hPx := mw_keepP hPx hk
            have hg := Nat.le_trans hg hz
            refine W.eq (g2 := F0 m 208 ls [.int (mI (mCnt L P k d (d + 77))), .int (mI (ta))]) rfl ?_
            refine mw_topi (y := tb) hTB.symm ?_
            refine lv_aload_n hx hb dL_isMarketSo_208 rfl (lv_at hl 4 rfl) ?_
            refine lv_iload_n hx hb dL_isMarketSo_209 rfl (lv_at hl 5 rfl) ?_
            refine lv_iload_n hx hb dL_isMarketSo_210 rfl (lv_at hl 6 rfl) ?_
            refine mw_bipush hx hb (by decide +kernel) dL_isMarketSo_211 ?_
            refine mw_iadd hx hb dL_isMarketSo_213 ?_
            refine lv_iload_n hx hb dL_isMarketSo_214 rfl (lv_at hl 6 rfl) ?_
            refine mw_sipush hx hb (by decide +kernel) dL_isMarketSo_215 ?_
            refine mw_iadd hx hb dL_isMarketSo_218 ?_
            refine mw_cXn (rest := [.int (mI (tb)), .int (mI (ta))]) (A0 := (fun _ => False)) hC (x_X0_times l hfl D h0 a1 a2 cA cJ v L P k (d + 78) (d + 500) (by omega) (by omega) (by omega) hok) (mEx2_0 (by omega) (by omega)) hES hZS (cwV 3 hts gL_isMarketSo_X0_times rfl rfl rfl (by decide +kernel) ⟨Nat.le_of_ble_eq_true rfl, Nat.le_of_ble_eq_true rfl⟩) hK hPx hS rfl rfl hl.1 rfl (Nat.le_of_ble_eq_true rfl) ⟨Nat.le_of_ble_eq_true rfl, Nat.le_of_ble_eq_true rfl⟩ dL_isMarketSo_219 (fun H locs hS hz hk => ?_)
            have hPx := mw_keepP hPx hk
            have hg := Nat.le_trans hg hz
            refine W.eq (g2 := F0 m 222 ls [.int (mI (mCnt L P k (d + 78) (d + 500))), .int (mI (tb)), .int (mI (ta))]) rfl ?_
            refine mw_topi (y := tc) hTC.symm ?_
            refine mw_iadd hx hb dL_isMarketSo_222 ?_
            refine mw_icmp_ne (tgt := 230) hx hb (by omega) (by omega) dL_isMarketSo_223 (by decide) (fun c_223 => False.elim (by omega)) (fun c_223 => ?_)
            refine mw_iconst hx hb dL_isMarketSo_226 ?_
            refine lv_goto (tgt := 231) hx hb dL_isMarketSo_227 (by decide) ?_
            exact mw_gretZ hx hb hr hlocks dL_isMarketSo_231 (by decide +kernel) rfl (by omega) hPx hS ⟨Nat.le_of_ble_eq_true rfl, Nat.le_of_ble_eq_true rfl⟩
      · refine lv_aload_n hx hb dL_isMarketSo_111 rfl (lv_at hl 4 rfl) ?_
        refine lv_iload_n hx hb dL_isMarketSo_112 rfl (lv_at hl 5 rfl) ?_
        refine lv_iload_n hx hb dL_isMarketSo_113 rfl (lv_at hl 6 rfl) ?_
        refine lv_iload hx hb dL_isMarketSo_114 (lv_at hl 1 rfl) ?_
        refine mw_isub hx hb dL_isMarketSo_116 ?_
        refine mw_iconst hx hb dL_isMarketSo_117 ?_
        refine mw_iadd hx hb dL_isMarketSo_118 ?_
        refine lv_iload_n hx hb dL_isMarketSo_119 rfl (lv_at hl 6 rfl) ?_
        refine lv_iload hx hb dL_isMarketSo_120 (lv_at hl 1 rfl) ?_
        refine mw_iadd hx hb dL_isMarketSo_122 ?_
        refine mw_iconst hx hb dL_isMarketSo_123 ?_
        refine mw_isub hx hb dL_isMarketSo_124 ?_
        refine mw_cXn (rest := []) (A0 := (fun _ => False)) hC (x_X0_times l hfl D h0 a1 a2 cA cJ v L P k ((d - (d - nr)) + 1) ((d + (d - nr)) - 1) (by omega) (by omega) (by omega) hok) (mEx2_0 (by omega) (by omega)) hES hZS (cwV 3 hts gL_isMarketSo_X0_times rfl rfl rfl (by decide +kernel) ⟨Nat.le_of_ble_eq_true rfl, Nat.le_of_ble_eq_true rfl⟩) hK hPx hS rfl rfl hl.1 rfl (Nat.le_of_ble_eq_true rfl) ⟨Nat.le_of_ble_eq_true rfl, Nat.le_of_ble_eq_true rfl⟩ dL_isMarketSo_125 (fun H locs hS hz hk => ?_)
        have hPx := mw_keepP hPx hk
        have hg := Nat.le_trans hg hz
        refine W.eq (g2 := F0 m 128 ls [.int (mI (mCnt L P k ((d - (d - nr)) + 1) ((d + (d - nr)) - 1)))]) rfl ?_
        refine mw_topi (y := 0) (by first | exact nrf.2.2.2.1 (by omega) (by omega) | exact (nrf.2.2.2.2 (by omega)).1) ?_
        refine mw_if_ne (tgt := 153) hx hb (by omega) dL_isMarketSo_128 (by decide) (fun c => absurd c (by decide)) (fun _ => ?_)
        refine lv_iload hx hb dL_isMarketSo_131 (lv_at hl 2 rfl) ?_
        refine lv_iload_n hx hb dL_isMarketSo_133 rfl (lv_at hl 6 rfl) ?_
        refine mw_icmp_le (tgt := 149) hx hb (by omega) (by omega) dL_isMarketSo_134 (by decide) (fun c_134 => ?_) (fun c_134 => ?_)
        · refine mw_iconst hx hb dL_isMarketSo_149 ?_
          refine lv_goto (tgt := 154) hx hb dL_isMarketSo_150 (by decide) ?_
          refine lv_istore (lv' := [(6, .int (mI (1))), (5, .int (mI (d - nr))), (4, .int (mI (nr))), (3, .int (mI (nx))), (0, .ref h0), (1, .int (mI (k))), (2, .int (mI (d)))]) hx hb dL_isMarketSo_154 hl (by decide) rfl (fun ls hl => ?_)
          refine lv_iload hx hb dL_isMarketSo_156 (lv_at hl 0 rfl) ?_
          refine mw_if_eq (tgt := 230) hx hb (by omega) dL_isMarketSo_158 (by decide) (fun c => absurd c (by decide)) (fun _ => ?_)
          refine lv_aload_n hx hb dL_isMarketSo_161 rfl (lv_at hl 4 rfl) ?_
          refine lv_iload_n hx hb dL_isMarketSo_162 rfl (lv_at hl 6 rfl) ?_
          refine mw_cXn (rest := []) (A0 := (fun _ => False)) hC (x_X0_heldOn l hfl D h0 a1 a2 cA cJ v L P d (by omega) hok) (mEx1_0 (by omega)) hES hZS (cwV 1 hts gL_isMarketSo_X0_heldOn rfl rfl rfl (by decide +kernel) ⟨Nat.le_of_ble_eq_true rfl, Nat.le_of_ble_eq_true rfl⟩) hK hPx hS rfl rfl hl.1 rfl (Nat.le_of_ble_eq_true rfl) ⟨Nat.le_of_ble_eq_true rfl, Nat.le_of_ble_eq_true rfl⟩ dL_isMarketSo_163 (fun H locs hS hz hk => ?_)
          have hPx := mw_keepP hPx hk
          have hg := Nat.le_trans hg hz
          refine W.eq (g2 := F0 m 166 ls [.int (mI (mSet L P d (v 0).toNat))]) rfl ?_
          refine lv_iload_n hx hb dL_isMarketSo_166 rfl (lv_at hl 5 rfl) ?_
          refine mw_ishr hx hb dL_isMarketSo_167 ?_
          refine mw_iconst hx hb dL_isMarketSo_168 ?_
          refine mw_iand hx hb dL_isMarketSo_169 ?_
          refine mw_topi (y := bb) ((m_heldbit hok hk9 d).trans hBB.symm) ?_
          refine lv_aload_n hx hb dL_isMarketSo_170 rfl (lv_at hl 4 rfl) ?_
          refine lv_iload_n hx hb dL_isMarketSo_171 rfl (lv_at hl 5 rfl) ?_
          refine lv_iload_n hx hb dL_isMarketSo_172 rfl (lv_at hl 6 rfl) ?_
          refine mw_cXn (rest := [.int (mI (bb))]) (A0 := (fun _ => False)) hC (x_X0_isHeld l hfl D h0 a1 a2 cA cJ v L P k d (by omega) (by omega) hok) (mEx2_0 (by omega) (by omega)) hES hZS (cwV 2 hts gL_isMarketSo_X0_isHeld rfl rfl rfl (by decide +kernel) ⟨Nat.le_of_ble_eq_true rfl, Nat.le_of_ble_eq_true rfl⟩) hK hPx hS rfl rfl hl.1 rfl (Nat.le_of_ble_eq_true rfl) ⟨Nat.le_of_ble_eq_true rfl, Nat.le_of_ble_eq_true rfl⟩ dL_isMarketSo_173 (fun H locs hS hz hk => ?_)
          have hPx := mw_keepP hPx hk
          have hg := Nat.le_trans hg hz
          refine W.eq (g2 := F0 m 176 ls [.int (mI (mB (d % L k = P k))), .int (mI (bb))]) rfl ?_
          refine mw_zeq (tgt := 183) hx hb dL_isMarketSo_176 (by decide) (fun c_176 => ?_) (fun c_176 => ?_)
          · have q : bb = 0 := hBB.trans (mB_f c_176)
            refine mw_iconst hx hb dL_isMarketSo_183 ?_
            refine mw_icmp_ne (tgt := 230) hx hb (by omega) (by omega) dL_isMarketSo_184 (by decide) (fun c_184 => False.elim (by omega)) (fun c_184 => ?_)
            refine lv_aload_n hx hb dL_isMarketSo_187 rfl (lv_at hl 4 rfl) ?_
            refine lv_iload_n hx hb dL_isMarketSo_188 rfl (lv_at hl 5 rfl) ?_
            refine lv_iload_n hx hb dL_isMarketSo_189 rfl (lv_at hl 6 rfl) ?_
            refine lv_iload_n hx hb dL_isMarketSo_190 rfl (lv_at hl 6 rfl) ?_
            refine mw_sipush hx hb (by decide +kernel) dL_isMarketSo_191 ?_
            refine mw_iadd hx hb dL_isMarketSo_194 ?_
            refine mw_cXn (rest := []) (A0 := (fun _ => False)) hC (x_X0_times l hfl D h0 a1 a2 cA cJ v L P k d (d + 500) (by omega) (by omega) (by omega) hok) (mEx2_0 (by omega) (by omega)) hES hZS (cwV 3 hts gL_isMarketSo_X0_times rfl rfl rfl (by decide +kernel) ⟨Nat.le_of_ble_eq_true rfl, Nat.le_of_ble_eq_true rfl⟩) hK hPx hS rfl rfl hl.1 rfl (Nat.le_of_ble_eq_true rfl) ⟨Nat.le_of_ble_eq_true rfl, Nat.le_of_ble_eq_true rfl⟩ dL_isMarketSo_195 (fun H locs hS hz hk => ?_)
            have hPx := mw_keepP hPx hk
            have hg := Nat.le_trans hg hz
            refine W.eq (g2 := F0 m 198 ls [.int (mI (mCnt L P k d (d + 500)))]) rfl ?_
            refine mw_topi (y := ta) hTA.symm ?_
            refine lv_aload_n hx hb dL_isMarketSo_198 rfl (lv_at hl 4 rfl) ?_
            refine lv_iload_n hx hb dL_isMarketSo_199 rfl (lv_at hl 5 rfl) ?_
            refine lv_iload_n hx hb dL_isMarketSo_200 rfl (lv_at hl 6 rfl) ?_
            refine lv_iload_n hx hb dL_isMarketSo_201 rfl (lv_at hl 6 rfl) ?_
            refine mw_bipush hx hb (by decide +kernel) dL_isMarketSo_202 ?_
            refine mw_iadd hx hb dL_isMarketSo_204 ?_
            refine mw_cXn (rest := [.int (mI (ta))]) (A0 := (fun _ => False)) hC (x_X0_times l hfl D h0 a1 a2 cA cJ v L P k d (d + 77) (by omega) (by omega) (by omega) hok) (mEx2_0 (by omega) (by omega)) hES hZS (cwV 3 hts gL_isMarketSo_X0_times rfl rfl rfl (by decide +kernel) ⟨Nat.le_of_ble_eq_true rfl, Nat.le_of_ble_eq_true rfl⟩) hK hPx hS rfl rfl hl.1 rfl (Nat.le_of_ble_eq_true rfl) ⟨Nat.le_of_ble_eq_true rfl, Nat.le_of_ble_eq_true rfl⟩ dL_isMarketSo_205 (fun H locs hS hz hk => ?_)
            have hPx := mw_keepP hPx hk
            have hg := Nat.le_trans hg hz
            refine W.eq (g2 := F0 m 208 ls [.int (mI (mCnt L P k d (d + 77))), .int (mI (ta))]) rfl ?_
            refine mw_topi (y := tb) hTB.symm ?_
            refine lv_aload_n hx hb dL_isMarketSo_208 rfl (lv_at hl 4 rfl) ?_
            refine lv_iload_n hx hb dL_isMarketSo_209 rfl (lv_at hl 5 rfl) ?_
            refine lv_iload_n hx hb dL_isMarketSo_210 rfl (lv_at hl 6 rfl) ?_
            refine mw_bipush hx hb (by decide +kernel) dL_isMarketSo_211 ?_
            refine mw_iadd hx hb dL_isMarketSo_213 ?_
            refine lv_iload_n hx hb dL_isMarketSo_214 rfl (lv_at hl 6 rfl) ?_
            refine mw_sipush hx hb (by decide +kernel) dL_isMarketSo_215 ?_
            refine mw_iadd hx hb dL_isMarketSo_218 ?_
            refine mw_cXn (rest := [.int (mI (tb)), .int (mI (ta))]) (A0 := (fun _ => False)) hC (x_X0_times l hfl D h0 a1 a2 cA cJ v L P k (d + 78) (d + 500) (by omega) (by omega) (by omega) hok) (mEx2_0 (by omega) (by omega)) hES hZS (cwV 3 hts gL_isMarketSo_X0_times rfl rfl rfl (by decide +kernel) ⟨Nat.le_of_ble_eq_true rfl, Nat.le_of_ble_eq_true rfl⟩) hK hPx hS rfl rfl hl.1 rfl (Nat.le_of_ble_eq_true rfl) ⟨Nat.le_of_ble_eq_true rfl, Nat.le_of_ble_eq_true rfl⟩ dL_isMarketSo_219 (fun H locs hS hz hk => ?_)
            have hPx := mw_keepP hPx hk
            have hg := Nat.le_trans hg hz
            refine W.eq (g2 := F0 m 222 ls [.int (mI (mCnt L P k (d + 78) (d + 500))), .int (mI (tb)), .int (mI (ta))]) rfl ?_
            refine mw_topi (y := tc) hTC.symm ?_
            refine mw_iadd hx hb dL_isMarketSo_222 ?_
            refine mw_icmp_ne (tgt := 230) hx hb (by omega) (by omega) dL_isMarketSo_223 (by decide) (fun c_223 => False.elim (by omega)) (fun c_223 => ?_)
            refine mw_iconst hx hb dL_isMarketSo_226 ?_
            refine lv_goto (tgt := 231) hx hb dL_isMarketSo_227 (by decide) ?_
            exact mw_gretZ hx hb hr hlocks dL_isMarketSo_231 (by decide +kernel) rfl (by omega) hPx hS ⟨Nat.le_of_ble_eq_true rfl, Nat.le_of_ble_eq_true rfl⟩
          · have q : bb = 1 := hBB.trans (mB_t c_176)
            refine mw_iconst hx hb dL_isMarketSo_179 ?_
            refine lv_goto (tgt := 184) hx hb dL_isMarketSo_180 (by decide) ?_
            refine mw_icmp_ne (tgt := 230) hx hb (by omega) (by omega) dL_isMarketSo_184 (by decide) (fun c_184 => False.elim (by omega)) (fun c_184 => ?_)
            refine lv_aload_n hx hb dL_isMarketSo_187 rfl (lv_at hl 4 rfl) ?_
            refine lv_iload_n hx hb dL_isMarketSo_188 rfl (lv_at hl 5 rfl) ?_
            refine lv_iload_n hx hb dL_isMarketSo_189 rfl (lv_at hl 6 rfl) ?_
            refine lv_iload_n hx hb dL_isMarketSo_190 rfl (lv_at hl 6 rfl) ?_
            refine mw_sipush hx hb (by decide +kernel) dL_isMarketSo_191 ?_
            refine mw_iadd hx hb dL_isMarketSo_194 ?_
            refine mw_cXn (rest := []) (A0 := (fun _ => False)) hC (x_X0_times l hfl D h0 a1 a2 cA cJ v L P k d (d + 500) (by omega) (by omega) (by omega) hok) (mEx2_0 (by omega) (by omega)) hES hZS (cwV 3 hts gL_isMarketSo_X0_times rfl rfl rfl (by decide +kernel) ⟨Nat.le_of_ble_eq_true rfl, Nat.le_of_ble_eq_true rfl⟩) hK hPx hS rfl rfl hl.1 rfl (Nat.le_of_ble_eq_true rfl) ⟨Nat.le_of_ble_eq_true rfl, Nat.le_of_ble_eq_true rfl⟩ dL_isMarketSo_195 (fun H locs hS hz hk => ?_)
            have hPx := mw_keepP hPx hk
            have hg := Nat.le_trans hg hz
            refine W.eq (g2 := F0 m 198 ls [.int (mI (mCnt L P k d (d + 500)))]) rfl ?_
            refine mw_topi (y := ta) hTA.symm ?_
            refine lv_aload_n hx hb dL_isMarketSo_198 rfl (lv_at hl 4 rfl) ?_
            refine lv_iload_n hx hb dL_isMarketSo_199 rfl (lv_at hl 5 rfl) ?_
            refine lv_iload_n hx hb dL_isMarketSo_200 rfl (lv_at hl 6 rfl) ?_
            refine lv_iload_n hx hb dL_isMarketSo_201 rfl (lv_at hl 6 rfl) ?_
            refine mw_bipush hx hb (by decide +kernel) dL_isMarketSo_202 ?_
            refine mw_iadd hx hb dL_isMarketSo_204 ?_
            refine mw_cXn (rest := [.int (mI (ta))]) (A0 := (fun _ => False)) hC (x_X0_times l hfl D h0 a1 a2 cA cJ v L P k d (d + 77) (by omega) (by omega) (by omega) hok) (mEx2_0 (by omega) (by omega)) hES hZS (cwV 3 hts gL_isMarketSo_X0_times rfl rfl rfl (by decide +kernel) ⟨Nat.le_of_ble_eq_true rfl, Nat.le_of_ble_eq_true rfl⟩) hK hPx hS rfl rfl hl.1 rfl (Nat.le_of_ble_eq_true rfl) ⟨Nat.le_of_ble_eq_true rfl, Nat.le_of_ble_eq_true rfl⟩ dL_isMarketSo_205 (fun H locs hS hz hk => ?_)
            have hPx := mw_keepP hPx hk
            have hg := Nat.le_trans hg hz
            refine W.eq (g2 := F0 m 208 ls [.int (mI (mCnt L P k d (d + 77))), .int (mI (ta))]) rfl ?_
            refine mw_topi (y := tb) hTB.symm ?_
            refine lv_aload_n hx hb dL_isMarketSo_208 rfl (lv_at hl 4 rfl) ?_
            refine lv_iload_n hx hb dL_isMarketSo_209 rfl (lv_at hl 5 rfl) ?_
            refine lv_iload_n hx hb dL_isMarketSo_210 rfl (lv_at hl 6 rfl) ?_
            refine mw_bipush hx hb (by decide +kernel) dL_isMarketSo_211 ?_
            refine mw_iadd hx hb dL_isMarketSo_213 ?_
            refine lv_iload_n hx hb dL_isMarketSo_214 rfl (lv_at hl 6 rfl) ?_
            refine mw_sipush hx hb (by decide +kernel) dL_isMarketSo_215 ?_
            refine mw_iadd hx hb dL_isMarketSo_218 ?_
            refine mw_cXn (rest := [.int (mI (tb)), .int (mI (ta))]) (A0 := (fun _ => False)) hC (x_X0_times l hfl D h0 a1 a2 cA cJ v L P k (d + 78) (d + 500) (by omega) (by omega) (by omega) hok) (mEx2_0 (by omega) (by omega)) hES hZS (cwV 3 hts gL_isMarketSo_X0_times rfl rfl rfl (by decide +kernel) ⟨Nat.le_of_ble_eq_true rfl, Nat.le_of_ble_eq_true rfl⟩) hK hPx hS rfl rfl hl.1 rfl (Nat.le_of_ble_eq_true rfl) ⟨Nat.le_of_ble_eq_true rfl, Nat.le_of_ble_eq_true rfl⟩ dL_isMarketSo_219 (fun H locs hS hz hk => ?_)
            have hPx := mw_keepP hPx hk
            have hg := Nat.le_trans hg hz
            refine W.eq (g2 := F0 m 222 ls [.int (mI (mCnt L P k (d + 78) (d + 500))), .int (mI (tb)), .int (mI (ta))]) rfl ?_
            refine mw_topi (y := tc) hTC.symm ?_
            refine mw_iadd hx hb dL_isMarketSo_222 ?_
            refine mw_icmp_ne (tgt := 230) hx hb (by omega) (by omega) dL_isMarketSo_223 (by decide) (fun c_223 => False.elim (by omega)) (fun c_223 => ?_)
            refine mw_iconst hx hb dL_isMarketSo_226 ?_
            refine lv_goto (tgt := 231) hx hb dL_isMarketSo_227 (by decide) ?_
            exact mw_gretZ hx hb hr hlocks dL_isMarketSo_231 (by decide +kernel) rfl (by omega) hPx hS ⟨Nat.le_of_ble_eq_true rfl, Nat.le_of_ble_eq_true rfl⟩
        · refine lv_aload_n hx hb dL_isMarketSo_137 rfl (lv_at hl 4 rfl) ?_
          refine lv_iload_n hx hb dL_isMarketSo_138 rfl (lv_at hl 5 rfl) ?_
          refine lv_iload_n hx hb dL_isMarketSo_139 rfl (lv_at hl 6 rfl) ?_
          refine lv_iload hx hb dL_isMarketSo_140 (lv_at hl 1 rfl) ?_
          refine mw_isub hx hb dL_isMarketSo_142 ?_
          refine mw_cXn (rest := []) (A0 := (fun _ => False)) hC (x_X0_isHeld l hfl D h0 a1 a2 cA cJ v L P k (d - (d - nr)) (by omega) (by omega) hok) (mEx2_0 (by omega) (by omega)) hES hZS (cwV 2 hts gL_isMarketSo_X0_isHeld rfl rfl rfl (by decide +kernel) ⟨Nat.le_of_ble_eq_true rfl, Nat.le_of_ble_eq_true rfl⟩) hK hPx hS rfl rfl hl.1 rfl (Nat.le_of_ble_eq_true rfl) ⟨Nat.le_of_ble_eq_true rfl, Nat.le_of_ble_eq_true rfl⟩ dL_isMarketSo_143 (fun H locs hS hz hk => ?_)
          have hPx := mw_keepP hPx hk
          have hg := Nat.le_trans hg hz
          refine W.eq (g2 := F0 m 146 ls [.int (mI (mB ((d - (d - nr)) % L k = P k)))]) rfl ?_
          refine mw_zne (tgt := 153) hx hb dL_isMarketSo_146 (by decide) (fun c_146 => False.elim (by first | exact (nrf.2.2.2.2 (by omega)).2 c_146 | (exfalso; omega))) (fun c_146 => ?_)
          refine mw_iconst hx hb dL_isMarketSo_149 ?_
          refine lv_goto (tgt := 154) hx hb dL_isMarketSo_150 (by decide) ?_
          refine lv_istore (lv' := [(6, .int (mI (1))), (5, .int (mI (d - nr))), (4, .int (mI (nr))), (3, .int (mI (nx))), (0, .ref h0), (1, .int (mI (k))), (2, .int (mI (d)))]) hx hb dL_isMarketSo_154 hl (by decide) rfl (fun ls hl => ?_)
          refine lv_iload hx hb dL_isMarketSo_156 (lv_at hl 0 rfl) ?_
          refine mw_if_eq (tgt := 230) hx hb (by omega) dL_isMarketSo_158 (by decide) (fun c => absurd c (by decide)) (fun _ => ?_)
          refine lv_aload_n hx hb dL_isMarketSo_161 rfl (lv_at hl 4 rfl) ?_
          refine lv_iload_n hx hb dL_isMarketSo_162 rfl (lv_at hl 6 rfl) ?_
          refine mw_cXn (rest := []) (A0 := (fun _ => False)) hC (x_X0_heldOn l hfl D h0 a1 a2 cA cJ v L P d (by omega) hok) (mEx1_0 (by omega)) hES hZS (cwV 1 hts gL_isMarketSo_X0_heldOn rfl rfl rfl (by decide +kernel) ⟨Nat.le_of_ble_eq_true rfl, Nat.le_of_ble_eq_true rfl⟩) hK hPx hS rfl rfl hl.1 rfl (Nat.le_of_ble_eq_true rfl) ⟨Nat.le_of_ble_eq_true rfl, Nat.le_of_ble_eq_true rfl⟩ dL_isMarketSo_163 (fun H locs hS hz hk => ?_)
          have hPx := mw_keepP hPx hk
          have hg := Nat.le_trans hg hz
          refine W.eq (g2 := F0 m 166 ls [.int (mI (mSet L P d (v 0).toNat))]) rfl ?_
          refine lv_iload_n hx hb dL_isMarketSo_166 rfl (lv_at hl 5 rfl) ?_
          refine mw_ishr hx hb dL_isMarketSo_167 ?_
          refine mw_iconst hx hb dL_isMarketSo_168 ?_
          refine mw_iand hx hb dL_isMarketSo_169 ?_
          refine mw_topi (y := bb) ((m_heldbit hok hk9 d).trans hBB.symm) ?_
          refine lv_aload_n hx hb dL_isMarketSo_170 rfl (lv_at hl 4 rfl) ?_
          refine lv_iload_n hx hb dL_isMarketSo_171 rfl (lv_at hl 5 rfl) ?_
          refine lv_iload_n hx hb dL_isMarketSo_172 rfl (lv_at hl 6 rfl) ?_
          refine mw_cXn (rest := [.int (mI (bb))]) (A0 := (fun _ => False)) hC (x_X0_isHeld l hfl D h0 a1 a2 cA cJ v L P k d (by omega) (by omega) hok) (mEx2_0 (by omega) (by omega)) hES hZS (cwV 2 hts gL_isMarketSo_X0_isHeld rfl rfl rfl (by decide +kernel) ⟨Nat.le_of_ble_eq_true rfl, Nat.le_of_ble_eq_true rfl⟩) hK hPx hS rfl rfl hl.1 rfl (Nat.le_of_ble_eq_true rfl) ⟨Nat.le_of_ble_eq_true rfl, Nat.le_of_ble_eq_true rfl⟩ dL_isMarketSo_173 (fun H locs hS hz hk => ?_)
          have hPx := mw_keepP hPx hk
          have hg := Nat.le_trans hg hz
          refine W.eq (g2 := F0 m 176 ls [.int (mI (mB (d % L k = P k))), .int (mI (bb))]) rfl ?_
          refine mw_zeq (tgt := 183) hx hb dL_isMarketSo_176 (by decide) (fun c_176 => ?_) (fun c_176 => ?_)
          · have q : bb = 0 := hBB.trans (mB_f c_176)
            refine mw_iconst hx hb dL_isMarketSo_183 ?_
            refine mw_icmp_ne (tgt := 230) hx hb (by omega) (by omega) dL_isMarketSo_184 (by decide) (fun c_184 => False.elim (by omega)) (fun c_184 => ?_)
            refine lv_aload_n hx hb dL_isMarketSo_187 rfl (lv_at hl 4 rfl) ?_
            refine lv_iload_n hx hb dL_isMarketSo_188 rfl (lv_at hl 5 rfl) ?_
            refine lv_iload_n hx hb dL_isMarketSo_189 rfl (lv_at hl 6 rfl) ?_
            refine lv_iload_n hx hb dL_isMarketSo_190 rfl (lv_at hl 6 rfl) ?_
            refine mw_sipush hx hb (by decide +kernel) dL_isMarketSo_191 ?_
            refine mw_iadd hx hb dL_isMarketSo_194 ?_
            refine mw_cXn (rest := []) (A0 := (fun _ => False)) hC (x_X0_times l hfl D h0 a1 a2 cA cJ v L P k d (d + 500) (by omega) (by omega) (by omega) hok) (mEx2_0 (by omega) (by omega)) hES hZS (cwV 3 hts gL_isMarketSo_X0_times rfl rfl rfl (by decide +kernel) ⟨Nat.le_of_ble_eq_true rfl, Nat.le_of_ble_eq_true rfl⟩) hK hPx hS rfl rfl hl.1 rfl (Nat.le_of_ble_eq_true rfl) ⟨Nat.le_of_ble_eq_true rfl, Nat.le_of_ble_eq_true rfl⟩ dL_isMarketSo_195 (fun H locs hS hz hk => ?_)
            have hPx := mw_keepP hPx hk
            have hg := Nat.le_trans hg hz
            refine W.eq (g2 := F0 m 198 ls [.int (mI (mCnt L P k d (d + 500)))]) rfl ?_
            refine mw_topi (y := ta) hTA.symm ?_
            refine lv_aload_n hx hb dL_isMarketSo_198 rfl (lv_at hl 4 rfl) ?_
            refine lv_iload_n hx hb dL_isMarketSo_199 rfl (lv_at hl 5 rfl) ?_
            refine lv_iload_n hx hb dL_isMarketSo_200 rfl (lv_at hl 6 rfl) ?_
            refine lv_iload_n hx hb dL_isMarketSo_201 rfl (lv_at hl 6 rfl) ?_
            refine mw_bipush hx hb (by decide +kernel) dL_isMarketSo_202 ?_
            refine mw_iadd hx hb dL_isMarketSo_204 ?_
            refine mw_cXn (rest := [.int (mI (ta))]) (A0 := (fun _ => False)) hC (x_X0_times l hfl D h0 a1 a2 cA cJ v L P k d (d + 77) (by omega) (by omega) (by omega) hok) (mEx2_0 (by omega) (by omega)) hES hZS (cwV 3 hts gL_isMarketSo_X0_times rfl rfl rfl (by decide +kernel) ⟨Nat.le_of_ble_eq_true rfl, Nat.le_of_ble_eq_true rfl⟩) hK hPx hS rfl rfl hl.1 rfl (Nat.le_of_ble_eq_true rfl) ⟨Nat.le_of_ble_eq_true rfl, Nat.le_of_ble_eq_true rfl⟩ dL_isMarketSo_205 (fun H locs hS hz hk => ?_)
            have hPx := mw_keepP hPx hk
            have hg := Nat.le_trans hg hz
            refine W.eq (g2 := F0 m 208 ls [.int (mI (mCnt L P k d (d + 77))), .int (mI (ta))]) rfl ?_
            refine mw_topi (y := tb) hTB.symm ?_
            refine lv_aload_n hx hb dL_isMarketSo_208 rfl (lv_at hl 4 rfl) ?_
            refine lv_iload_n hx hb dL_isMarketSo_209 rfl (lv_at hl 5 rfl) ?_
            refine lv_iload_n hx hb dL_isMarketSo_210 rfl (lv_at hl 6 rfl) ?_
            refine mw_bipush hx hb (by decide +kernel) dL_isMarketSo_211 ?_
            refine mw_iadd hx hb dL_isMarketSo_213 ?_
            refine lv_iload_n hx hb dL_isMarketSo_214 rfl (lv_at hl 6 rfl) ?_
            refine mw_sipush hx hb (by decide +kernel) dL_isMarketSo_215 ?_
            refine mw_iadd hx hb dL_isMarketSo_218 ?_
            refine mw_cXn (rest := [.int (mI (tb)), .int (mI (ta))]) (A0 := (fun _ => False)) hC (x_X0_times l hfl D h0 a1 a2 cA cJ v L P k (d + 78) (d + 500) (by omega) (by omega) (by omega) hok) (mEx2_0 (by omega) (by omega)) hES hZS (cwV 3 hts gL_isMarketSo_X0_times rfl rfl rfl (by decide +kernel) ⟨Nat.le_of_ble_eq_true rfl, Nat.le_of_ble_eq_true rfl⟩) hK hPx hS rfl rfl hl.1 rfl (Nat.le_of_ble_eq_true rfl) ⟨Nat.le_of_ble_eq_true rfl, Nat.le_of_ble_eq_true rfl⟩ dL_isMarketSo_219 (fun H locs hS hz hk => ?_)
            have hPx := mw_keepP hPx hk
            have hg := Nat.le_trans hg hz
            refine W.eq (g2 := F0 m 222 ls [.int (mI (mCnt L P k (d + 78) (d + 500))), .int (mI (tb)), .int (mI (ta))]) rfl ?_
            refine mw_topi (y := tc) hTC.symm ?_
            refine mw_iadd hx hb dL_isMarketSo_222 ?_
            refine mw_icmp_ne (tgt := 230) hx hb (by omega) (by omega) dL_isMarketSo_223 (by decide) (fun c_223 => False.elim (by omega)) (fun c_223 => ?_)
            refine mw_iconst hx hb dL_isMarketSo_226 ?_
            refine lv_goto (tgt := 231) hx hb dL_isMarketSo_227 (by decide) ?_
            exact mw_gretZ hx hb hr hlocks dL_isMarketSo_231 (by decide +kernel) rfl (by omega) hPx hS ⟨Nat.le_of_ble_eq_true rfl, Nat.le_of_ble_eq_true rfl⟩
          · have q : bb = 1 := hBB.trans (mB_t c_176)
            refine mw_iconst hx hb dL_isMarketSo_179 ?_
            refine lv_goto (tgt := 184) hx hb dL_isMarketSo_180 (by decide) ?_
            refine mw_icmp_ne (tgt := 230) hx hb (by omega) (by omega) dL_isMarketSo_184 (by decide) (fun c_184 => False.elim (by omega)) (fun c_184 => ?_)
            refine lv_aload_n hx hb dL_isMarketSo_187 rfl (lv_at hl 4 rfl) ?_
            refine lv_iload_n hx hb dL_isMarketSo_188 rfl (lv_at hl 5 rfl) ?_
            refine lv_iload_n hx hb dL_isMarketSo_189 rfl (lv_at hl 6 rfl) ?_
            refine lv_iload_n hx hb dL_isMarketSo_190 rfl (lv_at hl 6 rfl) ?_
            refine mw_sipush hx hb (by decide +kernel) dL_isMarketSo_191 ?_
            refine mw_iadd hx hb dL_isMarketSo_194 ?_
            refine mw_cXn (rest := []) (A0 := (fun _ => False)) hC (x_X0_times l hfl D h0 a1 a2 cA cJ v L P k d (d + 500) (by omega) (by omega) (by omega) hok) (mEx2_0 (by omega) (by omega)) hES hZS (cwV 3 hts gL_isMarketSo_X0_times rfl rfl rfl (by decide +kernel) ⟨Nat.le_of_ble_eq_true rfl, Nat.le_of_ble_eq_true rfl⟩) hK hPx hS rfl rfl hl.1 rfl (Nat.le_of_ble_eq_true rfl) ⟨Nat.le_of_ble_eq_true rfl, Nat.le_of_ble_eq_true rfl⟩ dL_isMarketSo_195 (fun H locs hS hz hk => ?_)
            have hPx := mw_keepP hPx hk
            have hg := Nat.le_trans hg hz
            refine W.eq (g2 := F0 m 198 ls [.int (mI (mCnt L P k d (d + 500)))]) rfl ?_
            refine mw_topi (y := ta) hTA.symm ?_
            refine lv_aload_n hx hb dL_isMarketSo_198 rfl (lv_at hl 4 rfl) ?_
            refine lv_iload_n hx hb dL_isMarketSo_199 rfl (lv_at hl 5 rfl) ?_
            refine lv_iload_n hx hb dL_isMarketSo_200 rfl (lv_at hl 6 rfl) ?_
            refine lv_iload_n hx hb dL_isMarketSo_201 rfl (lv_at hl 6 rfl) ?_
            refine mw_bipush hx hb (by decide +kernel) dL_isMarketSo_202 ?_
            refine mw_iadd hx hb dL_isMarketSo_204 ?_
            refine mw_cXn (rest := [.int (mI (ta))]) (A0 := (fun _ => False)) hC (x_X0_times l hfl D h0 a1 a2 cA cJ v L P k d (d + 77) (by omega) (by omega) (by omega) hok) (mEx2_0 (by omega) (by omega)) hES hZS (cwV 3 hts gL_isMarketSo_X0_times rfl rfl rfl (by decide +kernel) ⟨Nat.le_of_ble_eq_true rfl, Nat.le_of_ble_eq_true rfl⟩) hK hPx hS rfl rfl hl.1 rfl (Nat.le_of_ble_eq_true rfl) ⟨Nat.le_of_ble_eq_true rfl, Nat.le_of_ble_eq_true rfl⟩ dL_isMarketSo_205 (fun H locs hS hz hk => ?_)
            have hPx := mw_keepP hPx hk
            have hg := Nat.le_trans hg hz
            refine W.eq (g2 := F0 m 208 ls [.int (mI (mCnt L P k d (d + 77))), .int (mI (ta))]) rfl ?_
            refine mw_topi (y := tb) hTB.symm ?_
            refine lv_aload_n hx hb dL_isMarketSo_208 rfl (lv_at hl 4 rfl) ?_
            refine lv_iload_n hx hb dL_isMarketSo_209 rfl (lv_at hl 5 rfl) ?_
            refine lv_iload_n hx hb dL_isMarketSo_210 rfl (lv_at hl 6 rfl) ?_
            refine mw_bipush hx hb (by decide +kernel) dL_isMarketSo_211 ?_
            refine mw_iadd hx hb dL_isMarketSo_213 ?_
            refine lv_iload_n hx hb dL_isMarketSo_214 rfl (lv_at hl 6 rfl) ?_
            refine mw_sipush hx hb (by decide +kernel) dL_isMarketSo_215 ?_
            refine mw_iadd hx hb dL_isMarketSo_218 ?_
            refine mw_cXn (rest := [.int (mI (tb)), .int (mI (ta))]) (A0 := (fun _ => False)) hC (x_X0_times l hfl D h0 a1 a2 cA cJ v L P k (d + 78) (d + 500) (by omega) (by omega) (by omega) hok) (mEx2_0 (by omega) (by omega)) hES hZS (cwV 3 hts gL_isMarketSo_X0_times rfl rfl rfl (by decide +kernel) ⟨Nat.le_of_ble_eq_true rfl, Nat.le_of_ble_eq_true rfl⟩) hK hPx hS rfl rfl hl.1 rfl (Nat.le_of_ble_eq_true rfl) ⟨Nat.le_of_ble_eq_true rfl, Nat.le_of_ble_eq_true rfl⟩ dL_isMarketSo_219 (fun H locs hS hz hk => ?_)
            have hPx := mw_keepP hPx hk
            have hg := Nat.le_trans hg hz
            refine W.eq (g2 := F0 m 222 ls [.int (mI (mCnt L P k (d + 78) (d + 500))), .int (mI (tb)), .int (mI (ta))]) rfl ?_
            refine mw_topi (y := tc) hTC.symm ?_
            refine mw_iadd hx hb dL_isMarketSo_222 ?_
            refine mw_icmp_ne (tgt := 230) hx hb (by omega) (by omega) dL_isMarketSo_223 (by decide) (fun c_223 => False.elim (by omega)) (fun c_223 => ?_)
            refine mw_iconst hx hb dL_isMarketSo_226 ?_
            refine lv_goto (tgt := 231) hx hb dL_isMarketSo_227 (by decide) ?_
            exact mw_gretZ hx hb hr hlocks dL_isMarketSo_231 (by decide +kernel) rfl (by omega) hPx hS ⟨Nat.le_of_ble_eq_true rfl, Nat.le_of_ble_eq_true rfl⟩
  · refine lv_iload hx hb dL_isMarketSo_21 (lv_at hl 0 rfl) ?_
    refine lv_iload_n hx hb dL_isMarketSo_23 rfl (lv_at hl 4 rfl) ?_
    refine mw_isub hx hb dL_isMarketSo_24 ?_
    refine lv_goto (tgt := 32) hx hb dL_isMarketSo_25 (by decide) ?_
    refine lv_istore (lv' := [(5, .int (mI (nr - d))), (4, .int (mI (nr))), (3, .int (mI (nx))), (0, .ref h0), (1, .int (mI (k))), (2, .int (mI (d)))]) hx hb dL_isMarketSo_32 hl (by decide) rfl (fun ls hl => ?_)
    refine lv_iload_n hx hb dL_isMarketSo_34 rfl (lv_at hl 2 rfl) ?_
    refine lv_iload_n hx hb dL_isMarketSo_35 rfl (lv_at hl 5 rfl) ?_
    refine mw_icmp_lt (tgt := 98) hx hb (by omega) (by omega) dL_isMarketSo_36 (by decide) (fun c_36 => False.elim (by omega)) (fun c_36 => ?_)
    refine lv_iload_n hx hb dL_isMarketSo_39 rfl (lv_at hl 2 rfl) ?_
    refine lv_iload_n hx hb dL_isMarketSo_40 rfl (lv_at hl 5 rfl) ?_
    refine mw_bipush hx hb (by decide +kernel) dL_isMarketSo_41 ?_
    refine mw_iadd hx hb dL_isMarketSo_43 ?_
    refine mw_icmp_ge (tgt := 98) hx hb (by omega) (by omega) dL_isMarketSo_44 (by decide) (fun c_44 => False.elim (by omega)) (fun c_44 => ?_)
    refine lv_aload_n hx hb dL_isMarketSo_47 rfl (lv_at hl 3 rfl) ?_
    refine lv_iload_n hx hb dL_isMarketSo_48 rfl (lv_at hl 4 rfl) ?_
    refine lv_iload_n hx hb dL_isMarketSo_49 rfl (lv_at hl 2 rfl) ?_
    refine mw_cXn (rest := []) (A0 := (fun _ => False)) hC (x_X0_isHeld l hfl D h0 a1 a2 cA cJ v L P k nx (by omega) (by omega) hok) (mEx2_0 (by omega) (by omega)) hES hZS (cwV 2 hts gL_isMarketSo_X0_isHeld rfl rfl rfl (by decide +kernel) ⟨Nat.le_of_ble_eq_true rfl, Nat.le_of_ble_eq_true rfl⟩) hK hPx hS rfl rfl hl.1 rfl (Nat.le_of_ble_eq_true rfl) ⟨Nat.le_of_ble_eq_true rfl, Nat.le_of_ble_eq_true rfl⟩ dL_isMarketSo_50 (fun H locs hS hz hk => ?_)
    have hPx := mw_keepP hPx hk
    have hg := Nat.le_trans hg hz
    refine W.eq (g2 := F0 m 53 ls [.int (mI (mB (nx % L k = P k)))]) rfl ?_
    refine mw_zeq (tgt := 98) hx hb dL_isMarketSo_53 (by decide) (fun c_53 => False.elim (by exact c_53 mk.2.2.1)) (fun c_53 => ?_)
    refine lv_aload_n hx hb dL_isMarketSo_56 rfl (lv_at hl 3 rfl) ?_
    refine lv_iload_n hx hb dL_isMarketSo_57 rfl (lv_at hl 4 rfl) ?_
    refine lv_iload hx hb dL_isMarketSo_58 (lv_at hl 1 rfl) ?_
    refine mw_cXn (rest := []) (A0 := (fun _ => False)) hC (x_X0_isHeld l hfl D h0 a1 a2 cA cJ v L P k nr (by omega) (by omega) hok) (mEx2_0 (by omega) (by omega)) hES hZS (cwV 2 hts gL_isMarketSo_X0_isHeld rfl rfl rfl (by decide +kernel) ⟨Nat.le_of_ble_eq_true rfl, Nat.le_of_ble_eq_true rfl⟩) hK hPx hS rfl rfl hl.1 rfl (Nat.le_of_ble_eq_true rfl) ⟨Nat.le_of_ble_eq_true rfl, Nat.le_of_ble_eq_true rfl⟩ dL_isMarketSo_60 (fun H locs hS hz hk => ?_)
    have hPx := mw_keepP hPx hk
    have hg := Nat.le_trans hg hz
    refine W.eq (g2 := F0 m 63 ls [.int (mI (mB (nr % L k = P k)))]) rfl ?_
    refine mw_zeq (tgt := 98) hx hb dL_isMarketSo_63 (by decide) (fun c_63 => False.elim (by exact c_63 nrf.1)) (fun c_63 => ?_)
    refine lv_aload_n hx hb dL_isMarketSo_66 rfl (lv_at hl 3 rfl) ?_
    refine lv_iload_n hx hb dL_isMarketSo_67 rfl (lv_at hl 4 rfl) ?_
    refine lv_iload_n hx hb dL_isMarketSo_68 rfl (lv_at hl 5 rfl) ?_
    refine lv_iload_n hx hb dL_isMarketSo_69 rfl (lv_at hl 2 rfl) ?_
    refine mw_cXn (rest := []) (A0 := (fun _ => False)) hC (x_X0_times l hfl D h0 a1 a2 cA cJ v L P k d nx (by omega) (by omega) (by omega) hok) (mEx2_0 (by omega) (by omega)) hES hZS (cwV 3 hts gL_isMarketSo_X0_times rfl rfl rfl (by decide +kernel) ⟨Nat.le_of_ble_eq_true rfl, Nat.le_of_ble_eq_true rfl⟩) hK hPx hS rfl rfl hl.1 rfl (Nat.le_of_ble_eq_true rfl) ⟨Nat.le_of_ble_eq_true rfl, Nat.le_of_ble_eq_true rfl⟩ dL_isMarketSo_70 (fun H locs hS hz hk => ?_)
    have hPx := mw_keepP hPx hk
    have hg := Nat.le_trans hg hz
    refine W.eq (g2 := F0 m 73 ls [.int (mI (mCnt L P k d nx))]) rfl ?_
    refine mw_topi (y := 1) mk.2.2.2.1 ?_
    refine mw_iconst hx hb dL_isMarketSo_73 ?_
    refine mw_icmp_ne (tgt := 98) hx hb (by omega) (by omega) dL_isMarketSo_74 (by decide) (fun c_74 => False.elim (by omega)) (fun c_74 => ?_)
    refine lv_iload_n hx hb dL_isMarketSo_77 rfl (lv_at hl 2 rfl) ?_
    refine lv_iload_n hx hb dL_isMarketSo_78 rfl (lv_at hl 5 rfl) ?_
    refine mw_icmp_eq (tgt := 94) hx hb (by omega) (by omega) dL_isMarketSo_79 (by decide) (fun c_79 => ?_) (fun c_79 => ?_)
    · refine mw_iconst hx hb dL_isMarketSo_94 ?_
      refine lv_goto (tgt := 99) hx hb dL_isMarketSo_95 (by decide) ?_
      refine lv_istore (lv' := [(6, .int (mI (1))), (5, .int (mI (nr - d))), (4, .int (mI (nr))), (3, .int (mI (nx))), (0, .ref h0), (1, .int (mI (k))), (2, .int (mI (d)))]) hx hb dL_isMarketSo_99 hl (by decide) rfl (fun ls hl => ?_)
      refine lv_iload hx hb dL_isMarketSo_101 (lv_at hl 0 rfl) ?_
      refine mw_if_eq (tgt := 153) hx hb (by omega) dL_isMarketSo_103 (by decide) (fun c => absurd c (by decide)) (fun _ => ?_)
      refine lv_iload hx hb dL_isMarketSo_106 (lv_at hl 1 rfl) ?_
      refine mw_if_eq (tgt := 131) hx hb (by omega) dL_isMarketSo_108 (by decide) (fun c_108 => ?_) (fun c_108 => ?_)
      · refine lv_iload hx hb dL_isMarketSo_131 (lv_at hl 2 rfl) ?_
        refine lv_iload_n hx hb dL_isMarketSo_133 rfl (lv_at hl 6 rfl) ?_
        refine mw_icmp_le (tgt := 149) hx hb (by omega) (by omega) dL_isMarketSo_134 (by decide) (fun c_134 => ?_) (fun c_134 => ?_)
        · refine mw_iconst hx hb dL_isMarketSo_149 ?_
          refine lv_goto (tgt := 154) hx hb dL_isMarketSo_150 (by decide) ?_
          refine lv_istore (lv' := [(6, .int (mI (1))), (5, .int (mI (nr - d))), (4, .int (mI (nr))), (3, .int (mI (nx))), (0, .ref h0), (1, .int (mI (k))), (2, .int (mI (d)))]) hx hb dL_isMarketSo_154 hl (by decide) rfl (fun ls hl => ?_)
          refine lv_iload hx hb dL_isMarketSo_156 (lv_at hl 0 rfl) ?_
          refine mw_if_eq (tgt := 230) hx hb (by omega) dL_isMarketSo_158 (by decide) (fun c => absurd c (by decide)) (fun _ => ?_)
          refine lv_aload_n hx hb dL_isMarketSo_161 rfl (lv_at hl 4 rfl) ?_
          refine lv_iload_n hx hb dL_isMarketSo_162 rfl (lv_at hl 6 rfl) ?_
          refine mw_cXn (rest := []) (A0 := (fun _ => False)) hC (x_X0_heldOn l hfl D h0 a1 a2 cA cJ v L P d (by omega) hok) (mEx1_0 (by omega)) hES hZS (cwV 1 hts gL_isMarketSo_X0_heldOn rfl rfl rfl (by decide +kernel) ⟨Nat.le_of_ble_eq_true rfl, Nat.le_of_ble_eq_true rfl⟩) hK hPx hS rfl rfl hl.1 rfl (Nat.le_of_ble_eq_true rfl) ⟨Nat.le_of_ble_eq_true rfl, Nat.le_of_ble_eq_true rfl⟩ dL_isMarketSo_163 (fun H locs hS hz hk => ?_)
          have hPx := mw_keepP hPx hk
          have hg := Nat.le_trans hg hz
          refine W.eq (g2 := F0 m 166 ls [.int (mI (mSet L P d (v 0).toNat))]) rfl ?_
          refine lv_iload_n hx hb dL_isMarketSo_166 rfl (lv_at hl 5 rfl) ?_
          refine mw_ishr hx hb dL_isMarketSo_167 ?_
          refine mw_iconst hx hb dL_isMarketSo_168 ?_
          refine mw_iand hx hb dL_isMarketSo_169 ?_
          refine mw_topi (y := bb) ((m_heldbit hok hk9 d).trans hBB.symm) ?_
          refine lv_aload_n hx hb dL_isMarketSo_170 rfl (lv_at hl 4 rfl) ?_
          refine lv_iload_n hx hb dL_isMarketSo_171 rfl (lv_at hl 5 rfl) ?_
          refine lv_iload_n hx hb dL_isMarketSo_172 rfl (lv_at hl 6 rfl) ?_
          refine mw_cXn (rest := [.int (mI (bb))]) (A0 := (fun _ => False)) hC (x_X0_isHeld l hfl D h0 a1 a2 cA cJ v L P k d (by omega) (by omega) hok) (mEx2_0 (by omega) (by omega)) hES hZS (cwV 2 hts gL_isMarketSo_X0_isHeld rfl rfl rfl (by decide +kernel) ⟨Nat.le_of_ble_eq_true rfl, Nat.le_of_ble_eq_true rfl⟩) hK hPx hS rfl rfl hl.1 rfl (Nat.le_of_ble_eq_true rfl) ⟨Nat.le_of_ble_eq_true rfl, Nat.le_of_ble_eq_true rfl⟩ dL_isMarketSo_173 (fun H locs hS hz hk => ?_)
          have hPx := mw_keepP hPx hk
          have hg := Nat.le_trans hg hz
          refine W.eq (g2 := F0 m 176 ls [.int (mI (mB (d % L k = P k))), .int (mI (bb))]) rfl ?_
          refine mw_zeq (tgt := 183) hx hb dL_isMarketSo_176 (by decide) (fun c_176 => ?_) (fun c_176 => ?_)
          · have q : bb = 0 := hBB.trans (mB_f c_176)
            refine mw_iconst hx hb dL_isMarketSo_183 ?_
            refine mw_icmp_ne (tgt := 230) hx hb (by omega) (by omega) dL_isMarketSo_184 (by decide) (fun c_184 => False.elim (by omega)) (fun c_184 => ?_)
            refine lv_aload_n hx hb dL_isMarketSo_187 rfl (lv_at hl 4 rfl) ?_
            refine lv_iload_n hx hb dL_isMarketSo_188 rfl (lv_at hl 5 rfl) ?_
            refine lv_iload_n hx hb dL_isMarketSo_189 rfl (lv_at hl 6 rfl) ?_
            refine lv_iload_n hx hb dL_isMarketSo_190 rfl (lv_at hl 6 rfl) ?_
            refine mw_sipush hx hb (by decide +kernel) dL_isMarketSo_191 ?_
            refine mw_iadd hx hb dL_isMarketSo_194 ?_
            refine mw_cXn (rest := []) (A0 := (fun _ => False)) hC (x_X0_times l hfl D h0 a1 a2 cA cJ v L P k d (d + 500) (by omega) (by omega) (by omega) hok) (mEx2_0 (by omega) (by omega)) hES hZS (cwV 3 hts gL_isMarketSo_X0_times rfl rfl rfl (by decide +kernel) ⟨Nat.le_of_ble_eq_true rfl, Nat.le_of_ble_eq_true rfl⟩) hK hPx hS rfl rfl hl.1 rfl (Nat.le_of_ble_eq_true rfl) ⟨Nat.le_of_ble_eq_true rfl, Nat.le_of_ble_eq_true rfl⟩ dL_isMarketSo_195 (fun H locs hS hz hk => ?_)
            have hPx := mw_keepP hPx hk
            have hg := Nat.le_trans hg hz
            refine W.eq (g2 := F0 m 198 ls [.int (mI (mCnt L P k d (d + 500)))]) rfl ?_
            refine mw_topi (y := ta) hTA.symm ?_
            refine lv_aload_n hx hb dL_isMarketSo_198 rfl (lv_at hl 4 rfl) ?_
            refine lv_iload_n hx hb dL_isMarketSo_199 rfl (lv_at hl 5 rfl) ?_
            refine lv_iload_n hx hb dL_isMarketSo_200 rfl (lv_at hl 6 rfl) ?_
            refine lv_iload_n hx hb dL_isMarketSo_201 rfl (lv_at hl 6 rfl) ?_
            refine mw_bipush hx hb (by decide +kernel) dL_isMarketSo_202 ?_
            refine mw_iadd hx hb dL_isMarketSo_204 ?_
            refine mw_cXn (rest := [.int (mI (ta))]) (A0 := (fun _ => False)) hC (x_X0_times l hfl D h0 a1 a2 cA cJ v L P k d (d + 77) (by omega) (by omega) (by omega) hok) (mEx2_0 (by omega) (by omega)) hES hZS (cwV 3 hts gL_isMarketSo_X0_times rfl rfl rfl (by decide +kernel) ⟨Nat.le_of_ble_eq_true rfl, Nat.le_of_ble_eq_true rfl⟩) hK hPx hS rfl rfl hl.1 rfl (Nat.le_of_ble_eq_true rfl) ⟨Nat.le_of_ble_eq_true rfl, Nat.le_of_ble_eq_true rfl⟩ dL_isMarketSo_205 (fun H locs hS hz hk => ?_)
            have hPx := mw_keepP hPx hk
            have hg := Nat.le_trans hg hz
            refine W.eq (g2 := F0 m 208 ls [.int (mI (mCnt L P k d (d + 77))), .int (mI (ta))]) rfl ?_
            refine mw_topi (y := tb) hTB.symm ?_
            refine lv_aload_n hx hb dL_isMarketSo_208 rfl (lv_at hl 4 rfl) ?_
            refine lv_iload_n hx hb dL_isMarketSo_209 rfl (lv_at hl 5 rfl) ?_
            refine lv_iload_n hx hb dL_isMarketSo_210 rfl (lv_at hl 6 rfl) ?_
            refine mw_bipush hx hb (by decide +kernel) dL_isMarketSo_211 ?_
            refine mw_iadd hx hb dL_isMarketSo_213 ?_
            refine lv_iload_n hx hb dL_isMarketSo_214 rfl (lv_at hl 6 rfl) ?_
            refine mw_sipush hx hb (by decide +kernel) dL_isMarketSo_215 ?_
            refine mw_iadd hx hb dL_isMarketSo_218 ?_
            refine mw_cXn (rest := [.int (mI (tb)), .int (mI (ta))]) (A0 := (fun _ => False)) hC (x_X0_times l hfl D h0 a1 a2 cA cJ v L P k (d + 78) (d + 500) (by omega) (by omega) (by omega) hok) (mEx2_0 (by omega) (by omega)) hES hZS (cwV 3 hts gL_isMarketSo_X0_times rfl rfl rfl (by decide +kernel) ⟨Nat.le_of_ble_eq_true rfl, Nat.le_of_ble_eq_true rfl⟩) hK hPx hS rfl rfl hl.1 rfl (Nat.le_of_ble_eq_true rfl) ⟨Nat.le_of_ble_eq_true rfl, Nat.le_of_ble_eq_true rfl⟩ dL_isMarketSo_219 (fun H locs hS hz hk => ?_)
            have hPx := mw_keepP hPx hk
            have hg := Nat.le_trans hg hz
            refine W.eq (g2 := F0 m 222 ls [.int (mI (mCnt L P k (d + 78) (d + 500))), .int (mI (tb)), .int (mI (ta))]) rfl ?_
            refine mw_topi (y := tc) hTC.symm ?_
            refine mw_iadd hx hb dL_isMarketSo_222 ?_
            refine mw_icmp_ne (tgt := 230) hx hb (by omega) (by omega) dL_isMarketSo_223 (by decide) (fun c_223 => False.elim (by omega)) (fun c_223 => ?_)
            refine mw_iconst hx hb dL_isMarketSo_226 ?_
            refine lv_goto (tgt := 231) hx hb dL_isMarketSo_227 (by decide) ?_
            exact mw_gretZ hx hb hr hlocks dL_isMarketSo_231 (by decide +kernel) rfl (by omega) hPx hS ⟨Nat.le_of_ble_eq_true rfl, Nat.le_of_ble_eq_true rfl⟩
          · have q : bb = 1 := hBB.trans (mB_t c_176)
            refine mw_iconst hx hb dL_isMarketSo_179 ?_
            refine lv_goto (tgt := 184) hx hb dL_isMarketSo_180 (by decide) ?_
            refine mw_icmp_ne (tgt := 230) hx hb (by omega) (by omega) dL_isMarketSo_184 (by decide) (fun c_184 => False.elim (by omega)) (fun c_184 => ?_)
            refine lv_aload_n hx hb dL_isMarketSo_187 rfl (lv_at hl 4 rfl) ?_
            refine lv_iload_n hx hb dL_isMarketSo_188 rfl (lv_at hl 5 rfl) ?_
            refine lv_iload_n hx hb dL_isMarketSo_189 rfl (lv_at hl 6 rfl) ?_
            refine lv_iload_n hx hb dL_isMarketSo_190 rfl (lv_at hl 6 rfl) ?_
            refine mw_sipush hx hb (by decide +kernel) dL_isMarketSo_191 ?_
            refine mw_iadd hx hb dL_isMarketSo_194 ?_
            refine mw_cXn (rest := []) (A0 := (fun _ => False)) hC (x_X0_times l hfl D h0 a1 a2 cA cJ v L P k d (d + 500) (by omega) (by omega) (by omega) hok) (mEx2_0 (by omega) (by omega)) hES hZS (cwV 3 hts gL_isMarketSo_X0_times rfl rfl rfl (by decide +kernel) ⟨Nat.le_of_ble_eq_true rfl, Nat.le_of_ble_eq_true rfl⟩) hK hPx hS rfl rfl hl.1 rfl (Nat.le_of_ble_eq_true rfl) ⟨Nat.le_of_ble_eq_true rfl, Nat.le_of_ble_eq_true rfl⟩ dL_isMarketSo_195 (fun H locs hS hz hk => ?_)
            have hPx := mw_keepP hPx hk
            have hg := Nat.le_trans hg hz
            refine W.eq (g2 := F0 m 198 ls [.int (mI (mCnt L P k d (d + 500)))]) rfl ?_
            refine mw_topi (y := ta) hTA.symm ?_
            refine lv_aload_n hx hb dL_isMarketSo_198 rfl (lv_at hl 4 rfl) ?_
            refine lv_iload_n hx hb dL_isMarketSo_199 rfl (lv_at hl 5 rfl) ?_
            refine lv_iload_n hx hb dL_isMarketSo_200 rfl (lv_at hl 6 rfl) ?_
            refine lv_iload_n hx hb dL_isMarketSo_201 rfl (lv_at hl 6 rfl) ?_
            refine mw_bipush hx hb (by decide +kernel) dL_isMarketSo_202 ?_
            refine mw_iadd hx hb dL_isMarketSo_204 ?_
            refine mw_cXn (rest := [.int (mI (ta))]) (A0 := (fun _ => False)) hC (x_X0_times l hfl D h0 a1 a2 cA cJ v L P k d (d + 77) (by omega) (by omega) (by omega) hok) (mEx2_0 (by omega) (by omega)) hES hZS (cwV 3 hts gL_isMarketSo_X0_times rfl rfl rfl (by decide +kernel) ⟨Nat.le_of_ble_eq_true rfl, Nat.le_of_ble_eq_true rfl⟩) hK hPx hS rfl rfl hl.1 rfl (Nat.le_of_ble_eq_true rfl) ⟨Nat.le_of_ble_eq_true rfl, Nat.le_of_ble_eq_true rfl⟩ dL_isMarketSo_205 (fun H locs hS hz hk => ?_)
            have hPx := mw_keepP hPx hk
            have hg := Nat.le_trans hg hz
            refine W.eq (g2 := F0 m 208 ls [.int (mI (mCnt L P k d (d + 77))), .int (mI (ta))]) rfl ?_
            refine mw_topi (y := tb) hTB.symm ?_
            refine lv_aload_n hx hb dL_isMarketSo_208 rfl (lv_at hl 4 rfl) ?_
            refine lv_iload_n hx hb dL_isMarketSo_209 rfl (lv_at hl 5 rfl) ?_
            refine lv_iload_n hx hb dL_isMarketSo_210 rfl (lv_at hl 6 rfl) ?_
            refine mw_bipush hx hb (by decide +kernel) dL_isMarketSo_211 ?_
            refine mw_iadd hx hb dL_isMarketSo_213 ?_
            refine lv_iload_n hx hb dL_isMarketSo_214 rfl (lv_at hl 6 rfl) ?_
            refine mw_sipush hx hb (by decide +kernel) dL_isMarketSo_215 ?_
            refine mw_iadd hx hb dL_isMarketSo_218 ?_
            refine mw_cXn (rest := [.int (mI (tb)), .int (mI (ta))]) (A0 := (fun _ => False)) hC (x_X0_times l hfl D h0 a1 a2 cA cJ v L P k (d + 78) (d + 500) (by omega) (by omega) (by omega) hok) (mEx2_0 (by omega) (by omega)) hES hZS (cwV 3 hts gL_isMarketSo_X0_times rfl rfl rfl (by decide +kernel) ⟨Nat.le_of_ble_eq_true rfl, Nat.le_of_ble_eq_true rfl⟩) hK hPx hS rfl rfl hl.1 rfl (Nat.le_of_ble_eq_true rfl) ⟨Nat.le_of_ble_eq_true rfl, Nat.le_of_ble_eq_true rfl⟩ dL_isMarketSo_219 (fun H locs hS hz hk => ?_)
            have hPx := mw_keepP hPx hk
            have hg := Nat.le_trans hg hz
            refine W.eq (g2 := F0 m 222 ls [.int (mI (mCnt L P k (d + 78) (d + 500))), .int (mI (tb)), .int (mI (ta))]) rfl ?_
            refine mw_topi (y := tc) hTC.symm ?_
            refine mw_iadd hx hb dL_isMarketSo_222 ?_
            refine mw_icmp_ne (tgt := 230) hx hb (by omega) (by omega) dL_isMarketSo_223 (by decide) (fun c_223 => False.elim (by omega)) (fun c_223 => ?_)
            refine mw_iconst hx hb dL_isMarketSo_226 ?_
            refine lv_goto (tgt := 231) hx hb dL_isMarketSo_227 (by decide) ?_
            exact mw_gretZ hx hb hr hlocks dL_isMarketSo_231 (by decide +kernel) rfl (by omega) hPx hS ⟨Nat.le_of_ble_eq_true rfl, Nat.le_of_ble_eq_true rfl⟩
        · refine lv_aload_n hx hb dL_isMarketSo_137 rfl (lv_at hl 4 rfl) ?_
          refine lv_iload_n hx hb dL_isMarketSo_138 rfl (lv_at hl 5 rfl) ?_
          refine lv_iload_n hx hb dL_isMarketSo_139 rfl (lv_at hl 6 rfl) ?_
          refine lv_iload hx hb dL_isMarketSo_140 (lv_at hl 1 rfl) ?_
          refine mw_isub hx hb dL_isMarketSo_142 ?_
          refine mw_cXn (rest := []) (A0 := (fun _ => False)) hC (x_X0_isHeld l hfl D h0 a1 a2 cA cJ v L P k (d - (nr - d)) (by omega) (by omega) hok) (mEx2_0 (by omega) (by omega)) hES hZS (cwV 2 hts gL_isMarketSo_X0_isHeld rfl rfl rfl (by decide +kernel) ⟨Nat.le_of_ble_eq_true rfl, Nat.le_of_ble_eq_true rfl⟩) hK hPx hS rfl rfl hl.1 rfl (Nat.le_of_ble_eq_true rfl) ⟨Nat.le_of_ble_eq_true rfl, Nat.le_of_ble_eq_true rfl⟩ dL_isMarketSo_143 (fun H locs hS hz hk => ?_)
          have hPx := mw_keepP hPx hk
          have hg := Nat.le_trans hg hz
          refine W.eq (g2 := F0 m 146 ls [.int (mI (mB ((d - (nr - d)) % L k = P k)))]) rfl ?_
          refine mw_zne (tgt := 153) hx hb dL_isMarketSo_146 (by decide) (fun c_146 => False.elim (by first | exact (nrf.2.2.2.2 (by omega)).2 c_146 | (exfalso; omega))) (fun c_146 => ?_)
          refine mw_iconst hx hb dL_isMarketSo_149 ?_
          refine lv_goto (tgt := 154) hx hb dL_isMarketSo_150 (by decide) ?_
          refine lv_istore (lv' := [(6, .int (mI (1))), (5, .int (mI (nr - d))), (4, .int (mI (nr))), (3, .int (mI (nx))), (0, .ref h0), (1, .int (mI (k))), (2, .int (mI (d)))]) hx hb dL_isMarketSo_154 hl (by decide) rfl (fun ls hl => ?_)
          refine lv_iload hx hb dL_isMarketSo_156 (lv_at hl 0 rfl) ?_
          refine mw_if_eq (tgt := 230) hx hb (by omega) dL_isMarketSo_158 (by decide) (fun c => absurd c (by decide)) (fun _ => ?_)
          refine lv_aload_n hx hb dL_isMarketSo_161 rfl (lv_at hl 4 rfl) ?_
          refine lv_iload_n hx hb dL_isMarketSo_162 rfl (lv_at hl 6 rfl) ?_
          refine mw_cXn (rest := []) (A0 := (fun _ => False)) hC (x_X0_heldOn l hfl D h0 a1 a2 cA cJ v L P d (by omega) hok) (mEx1_0 (by omega)) hES hZS (cwV 1 hts gL_isMarketSo_X0_heldOn rfl rfl rfl (by decide +kernel) ⟨Nat.le_of_ble_eq_true rfl, Nat.le_of_ble_eq_true rfl⟩) hK hPx hS rfl rfl hl.1 rfl (Nat.le_of_ble_eq_true rfl) ⟨Nat.le_of_ble_eq_true rfl, Nat.le_of_ble_eq_true rfl⟩ dL_isMarketSo_163 (fun H locs hS hz hk => ?_)
          have hPx := mw_keepP hPx hk
          have hg := Nat.le_trans hg hz
          refine W.eq (g2 := F0 m 166 ls [.int (mI (mSet L P d (v 0).toNat))]) rfl ?_
          refine lv_iload_n hx hb dL_isMarketSo_166 rfl (lv_at hl 5 rfl) ?_
          refine mw_ishr hx hb dL_isMarketSo_167 ?_
          refine mw_iconst hx hb dL_isMarketSo_168 ?_
          refine mw_iand hx hb dL_isMarketSo_169 ?_
          refine mw_topi (y := bb) ((m_heldbit hok hk9 d).trans hBB.symm) ?_
          refine lv_aload_n hx hb dL_isMarketSo_170 rfl (lv_at hl 4 rfl) ?_
          refine lv_iload_n hx hb dL_isMarketSo_171 rfl (lv_at hl 5 rfl) ?_
          refine lv_iload_n hx hb dL_isMarketSo_172 rfl (lv_at hl 6 rfl) ?_
          refine mw_cXn (rest := [.int (mI (bb))]) (A0 := (fun _ => False)) hC (x_X0_isHeld l hfl D h0 a1 a2 cA cJ v L P k d (by omega) (by omega) hok) (mEx2_0 (by omega) (by omega)) hES hZS (cwV 2 hts gL_isMarketSo_X0_isHeld rfl rfl rfl (by decide +kernel) ⟨Nat.le_of_ble_eq_true rfl, Nat.le_of_ble_eq_true rfl⟩) hK hPx hS rfl rfl hl.1 rfl (Nat.le_of_ble_eq_true rfl) ⟨Nat.le_of_ble_eq_true rfl, Nat.le_of_ble_eq_true rfl⟩ dL_isMarketSo_173 (fun H locs hS hz hk => ?_)
          have hPx := mw_keepP hPx hk
          have hg := Nat.le_trans hg hz
          refine W.eq (g2 := F0 m 176 ls [.int (mI (mB (d % L k = P k))), .int (mI (bb))]) rfl ?_
          refine mw_zeq (tgt := 183) hx hb dL_isMarketSo_176 (by decide) (fun c_176 => ?_) (fun c_176 => ?_)
          · have q : bb = 0 := hBB.trans (mB_f c_176)
            refine mw_iconst hx hb dL_isMarketSo_183 ?_
            refine mw_icmp_ne (tgt := 230) hx hb (by omega) (by omega) dL_isMarketSo_184 (by decide) (fun c_184 => False.elim (by omega)) (fun c_184 => ?_)
            refine lv_aload_n hx hb dL_isMarketSo_187 rfl (lv_at hl 4 rfl) ?_
            refine lv_iload_n hx hb dL_isMarketSo_188 rfl (lv_at hl 5 rfl) ?_
            refine lv_iload_n hx hb dL_isMarketSo_189 rfl (lv_at hl 6 rfl) ?_
            refine lv_iload_n hx hb dL_isMarketSo_190 rfl (lv_at hl 6 rfl) ?_
            refine mw_sipush hx hb (by decide +kernel) dL_isMarketSo_191 ?_
            refine mw_iadd hx hb dL_isMarketSo_194 ?_
            refine mw_cXn (rest := []) (A0 := (fun _ => False)) hC (x_X0_times l hfl D h0 a1 a2 cA cJ v L P k d (d + 500) (by omega) (by omega) (by omega) hok) (mEx2_0 (by omega) (by omega)) hES hZS (cwV 3 hts gL_isMarketSo_X0_times rfl rfl rfl (by decide +kernel) ⟨Nat.le_of_ble_eq_true rfl, Nat.le_of_ble_eq_true rfl⟩) hK hPx hS rfl rfl hl.1 rfl (Nat.le_of_ble_eq_true rfl) ⟨Nat.le_of_ble_eq_true rfl, Nat.le_of_ble_eq_true rfl⟩ dL_isMarketSo_195 (fun H locs hS hz hk => ?_)
            have hPx := mw_keepP hPx hk
            have hg := Nat.le_trans hg hz
            refine W.eq (g2 := F0 m 198 ls [.int (mI (mCnt L P k d (d + 500)))]) rfl ?_
            refine mw_topi (y := ta) hTA.symm ?_
            refine lv_aload_n hx hb dL_isMarketSo_198 rfl (lv_at hl 4 rfl) ?_
            refine lv_iload_n hx hb dL_isMarketSo_199 rfl (lv_at hl 5 rfl) ?_
            refine lv_iload_n hx hb dL_isMarketSo_200 rfl (lv_at hl 6 rfl) ?_
            refine lv_iload_n hx hb dL_isMarketSo_201 rfl (lv_at hl 6 rfl) ?_
            refine mw_bipush hx hb (by decide +kernel) dL_isMarketSo_202 ?_
            refine mw_iadd hx hb dL_isMarketSo_204 ?_
            refine mw_cXn (rest := [.int (mI (ta))]) (A0 := (fun _ => False)) hC (x_X0_times l hfl D h0 a1 a2 cA cJ v L P k d (d + 77) (by omega) (by omega) (by omega) hok) (mEx2_0 (by omega) (by omega)) hES hZS (cwV 3 hts gL_isMarketSo_X0_times rfl rfl rfl (by decide +kernel) ⟨Nat.le_of_ble_eq_true rfl, Nat.le_of_ble_eq_true rfl⟩) hK hPx hS rfl rfl hl.1 rfl (Nat.le_of_ble_eq_true rfl) ⟨Nat.le_of_ble_eq_true rfl, Nat.le_of_ble_eq_true rfl⟩ dL_isMarketSo_205 (fun H locs hS hz hk => ?_)
            have hPx := mw_keepP hPx hk
            have hg := Nat.le_trans hg hz
            refine W.eq (g2 := F0 m 208 ls [.int (mI (mCnt L P k d (d + 77))), .int (mI (ta))]) rfl ?_
            refine mw_topi (y := tb) hTB.symm ?_
            refine lv_aload_n hx hb dL_isMarketSo_208 rfl (lv_at hl 4 rfl) ?_
            refine lv_iload_n hx hb dL_isMarketSo_209 rfl (lv_at hl 5 rfl) ?_
            refine lv_iload_n hx hb dL_isMarketSo_210 rfl (lv_at hl 6 rfl) ?_
            refine mw_bipush hx hb (by decide +kernel) dL_isMarketSo_211 ?_
            refine mw_iadd hx hb dL_isMarketSo_213 ?_
            refine lv_iload_n hx hb dL_isMarketSo_214 rfl (lv_at hl 6 rfl) ?_
            refine mw_sipush hx hb (by decide +kernel) dL_isMarketSo_215 ?_
            refine mw_iadd hx hb dL_isMarketSo_218 ?_
            refine mw_cXn (rest := [.int (mI (tb)), .int (mI (ta))]) (A0 := (fun _ => False)) hC (x_X0_times l hfl D h0 a1 a2 cA cJ v L P k (d + 78) (d + 500) (by omega) (by omega) (by omega) hok) (mEx2_0 (by omega) (by omega)) hES hZS (cwV 3 hts gL_isMarketSo_X0_times rfl rfl rfl (by decide +kernel) ⟨Nat.le_of_ble_eq_true rfl, Nat.le_of_ble_eq_true rfl⟩) hK hPx hS rfl rfl hl.1 rfl (Nat.le_of_ble_eq_true rfl) ⟨Nat.le_of_ble_eq_true rfl, Nat.le_of_ble_eq_true rfl⟩ dL_isMarketSo_219 (fun H locs hS hz hk => ?_)
            have hPx := mw_keepP hPx hk
            have hg := Nat.le_trans hg hz
            refine W.eq (g2 := F0 m 222 ls [.int (mI (mCnt L P k (d + 78) (d + 500))), .int (mI (tb)), .int (mI (ta))]) rfl ?_
            refine mw_topi (y := tc) hTC.symm ?_
            refine mw_iadd hx hb dL_isMarketSo_222 ?_
            refine mw_icmp_ne (tgt := 230) hx hb (by omega) (by omega) dL_isMarketSo_223 (by decide) (fun c_223 => False.elim (by omega)) (fun c_223 => ?_)
            refine mw_iconst hx hb dL_isMarketSo_226 ?_
            refine lv_goto (tgt := 231) hx hb dL_isMarketSo_227 (by decide) ?_
            exact mw_gretZ hx hb hr hlocks dL_isMarketSo_231 (by decide +kernel) rfl (by omega) hPx hS ⟨Nat.le_of_ble_eq_true rfl, Nat.le_of_ble_eq_true rfl⟩
          · have q : bb = 1 := hBB.trans (mB_t c_176)
            refine mw_iconst hx hb dL_isMarketSo_179 ?_
            refine lv_goto (tgt := 184) hx hb dL_isMarketSo_180 (by decide) ?_
            refine mw_icmp_ne (tgt := 230) hx hb (by omega) (by omega) dL_isMarketSo_184 (by decide) (fun c_184 => False.elim (by omega)) (fun c_184 => ?_)
            refine lv_aload_n hx hb dL_isMarketSo_187 rfl (lv_at hl 4 rfl) ?_
            refine lv_iload_n hx hb dL_isMarketSo_188 rfl (lv_at hl 5 rfl) ?_
            refine lv_iload_n hx hb dL_isMarketSo_189 rfl (lv_at hl 6 rfl) ?_
            refine lv_iload_n hx hb dL_isMarketSo_190 rfl (lv_at hl 6 rfl) ?_
            refine mw_sipush hx hb (by decide +kernel) dL_isMarketSo_191 ?_
            refine mw_iadd hx hb dL_isMarketSo_194 ?_
            refine mw_cXn (rest := []) (A0 := (fun _ => False)) hC (x_X0_times l hfl D h0 a1 a2 cA cJ v L P k d (d + 500) (by omega) (by omega) (by omega) hok) (mEx2_0 (by omega) (by omega)) hES hZS (cwV 3 hts gL_isMarketSo_X0_times rfl rfl rfl (by decide +kernel) ⟨Nat.le_of_ble_eq_true rfl, Nat.le_of_ble_eq_true rfl⟩) hK hPx hS rfl rfl hl.1 rfl (Nat.le_of_ble_eq_true rfl) ⟨Nat.le_of_ble_eq_true rfl, Nat.le_of_ble_eq_true rfl⟩ dL_isMarketSo_195 (fun H locs hS hz hk => ?_)
            have hPx := mw_keepP hPx hk
            have hg := Nat.le_trans hg hz
            refine W.eq (g2 := F0 m 198 ls [.int (mI (mCnt L P k d (d + 500)))]) rfl ?_
            refine mw_topi (y := ta) hTA.symm ?_
            refine lv_aload_n hx hb dL_isMarketSo_198 rfl (lv_at hl 4 rfl) ?_
            refine lv_iload_n hx hb dL_isMarketSo_199 rfl (lv_at hl 5 rfl) ?_
            refine lv_iload_n hx hb dL_isMarketSo_200 rfl (lv_at hl 6 rfl) ?_
            refine lv_iload_n hx hb dL_isMarketSo_201 rfl (lv_at hl 6 rfl) ?_
            refine mw_bipush hx hb (by decide +kernel) dL_isMarketSo_202 ?_
            refine mw_iadd hx hb dL_isMarketSo_204 ?_
            refine mw_cXn (rest := [.int (mI (ta))]) (A0 := (fun _ => False)) hC (x_X0_times l hfl D h0 a1 a2 cA cJ v L P k d (d + 77) (by omega) (by omega) (by omega) hok) (mEx2_0 (by omega) (by omega)) hES hZS (cwV 3 hts gL_isMarketSo_X0_times rfl rfl rfl (by decide +kernel) ⟨Nat.le_of_ble_eq_true rfl, Nat.le_of_ble_eq_true rfl⟩) hK hPx hS rfl rfl hl.1 rfl (Nat.le_of_ble_eq_true rfl) ⟨Nat.le_of_ble_eq_true rfl, Nat.le_of_ble_eq_true rfl⟩ dL_isMarketSo_205 (fun H locs hS hz hk => ?_)
            have hPx := mw_keepP hPx hk
            have hg := Nat.le_trans hg hz
            refine W.eq (g2 := F0 m 208 ls [.int (mI (mCnt L P k d (d + 77))), .int (mI (ta))]) rfl ?_
            refine mw_topi (y := tb) hTB.symm ?_
            refine lv_aload_n hx hb dL_isMarketSo_208 rfl (lv_at hl 4 rfl) ?_
            refine lv_iload_n hx hb dL_isMarketSo_209 rfl (lv_at hl 5 rfl) ?_
            refine lv_iload_n hx hb dL_isMarketSo_210 rfl (lv_at hl 6 rfl) ?_
            refine mw_bipush hx hb (by decide +kernel) dL_isMarketSo_211 ?_
            refine mw_iadd hx hb dL_isMarketSo_213 ?_
            refine lv_iload_n hx hb dL_isMarketSo_214 rfl (lv_at hl 6 rfl) ?_
            refine mw_sipush hx hb (by decide +kernel) dL_isMarketSo_215 ?_
            refine mw_iadd hx hb dL_isMarketSo_218 ?_
            refine mw_cXn (rest := [.int (mI (tb)), .int (mI (ta))]) (A0 := (fun _ => False)) hC (x_X0_times l hfl D h0 a1 a2 cA cJ v L P k (d + 78) (d + 500) (by omega) (by omega) (by omega) hok) (mEx2_0 (by omega) (by omega)) hES hZS (cwV 3 hts gL_isMarketSo_X0_times rfl rfl rfl (by decide +kernel) ⟨Nat.le_of_ble_eq_true rfl, Nat.le_of_ble_eq_true rfl⟩) hK hPx hS rfl rfl hl.1 rfl (Nat.le_of_ble_eq_true rfl) ⟨Nat.le_of_ble_eq_true rfl, Nat.le_of_ble_eq_true rfl⟩ dL_isMarketSo_219 (fun H locs hS hz hk => ?_)
            have hPx := mw_keepP hPx hk
            have hg := Nat.le_trans hg hz
            refine W.eq (g2 := F0 m 222 ls [.int (mI (mCnt L P k (d + 78) (d + 500))), .int (mI (tb)), .int (mI (ta))]) rfl ?_
            refine mw_topi (y := tc) hTC.symm ?_
            refine mw_iadd hx hb dL_isMarketSo_222 ?_
            refine mw_icmp_ne (tgt := 230) hx hb (by omega) (by omega) dL_isMarketSo_223 (by decide) (fun c_223 => False.elim (by omega)) (fun c_223 => ?_)
            refine mw_iconst hx hb dL_isMarketSo_226 ?_
            refine lv_goto (tgt := 231) hx hb dL_isMarketSo_227 (by decide) ?_
            exact mw_gretZ hx hb hr hlocks dL_isMarketSo_231 (by decide +kernel) rfl (by omega) hPx hS ⟨Nat.le_of_ble_eq_true rfl, Nat.le_of_ble_eq_true rfl⟩
      · refine lv_aload_n hx hb dL_isMarketSo_111 rfl (lv_at hl 4 rfl) ?_
        refine lv_iload_n hx hb dL_isMarketSo_112 rfl (lv_at hl 5 rfl) ?_
        refine lv_iload_n hx hb dL_isMarketSo_113 rfl (lv_at hl 6 rfl) ?_
        refine lv_iload hx hb dL_isMarketSo_114 (lv_at hl 1 rfl) ?_
        refine mw_isub hx hb dL_isMarketSo_116 ?_
        refine mw_iconst hx hb dL_isMarketSo_117 ?_
        refine mw_iadd hx hb dL_isMarketSo_118 ?_
        refine lv_iload_n hx hb dL_isMarketSo_119 rfl (lv_at hl 6 rfl) ?_
        refine lv_iload hx hb dL_isMarketSo_120 (lv_at hl 1 rfl) ?_
        refine mw_iadd hx hb dL_isMarketSo_122 ?_
        refine mw_iconst hx hb dL_isMarketSo_123 ?_
        refine mw_isub hx hb dL_isMarketSo_124 ?_
        refine mw_cXn (rest := []) (A0 := (fun _ => False)) hC (x_X0_times l hfl D h0 a1 a2 cA cJ v L P k ((d - (nr - d)) + 1) ((d + (nr - d)) - 1) (by omega) (by omega) (by omega) hok) (mEx2_0 (by omega) (by omega)) hES hZS (cwV 3 hts gL_isMarketSo_X0_times rfl rfl rfl (by decide +kernel) ⟨Nat.le_of_ble_eq_true rfl, Nat.le_of_ble_eq_true rfl⟩) hK hPx hS rfl rfl hl.1 rfl (Nat.le_of_ble_eq_true rfl) ⟨Nat.le_of_ble_eq_true rfl, Nat.le_of_ble_eq_true rfl⟩ dL_isMarketSo_125 (fun H locs hS hz hk => ?_)
        have hPx := mw_keepP hPx hk
        have hg := Nat.le_trans hg hz
        refine W.eq (g2 := F0 m 128 ls [.int (mI (mCnt L P k ((d - (nr - d)) + 1) ((d + (nr - d)) - 1)))]) rfl ?_
        refine mw_topi (y := 0) (by first | exact nrf.2.2.2.1 (by omega) (by omega) | exact (nrf.2.2.2.2 (by omega)).1) ?_
        refine mw_if_ne (tgt := 153) hx hb (by omega) dL_isMarketSo_128 (by decide) (fun c => absurd c (by decide)) (fun _ => ?_)
        refine lv_iload hx hb dL_isMarketSo_131 (lv_at hl 2 rfl) ?_
        refine lv_iload_n hx hb dL_isMarketSo_133 rfl (lv_at hl 6 rfl) ?_
        refine mw_icmp_le (tgt := 149) hx hb (by omega) (by omega) dL_isMarketSo_134 (by decide) (fun c_134 => ?_) (fun c_134 => ?_)
        · refine mw_iconst hx hb dL_isMarketSo_149 ?_
          refine lv_goto (tgt := 154) hx hb dL_isMarketSo_150 (by decide) ?_
          refine lv_istore (lv' := [(6, .int (mI (1))), (5, .int (mI (nr - d))), (4, .int (mI (nr))), (3, .int (mI (nx))), (0, .ref h0), (1, .int (mI (k))), (2, .int (mI (d)))]) hx hb dL_isMarketSo_154 hl (by decide) rfl (fun ls hl => ?_)
          refine lv_iload hx hb dL_isMarketSo_156 (lv_at hl 0 rfl) ?_
          refine mw_if_eq (tgt := 230) hx hb (by omega) dL_isMarketSo_158 (by decide) (fun c => absurd c (by decide)) (fun _ => ?_)
          refine lv_aload_n hx hb dL_isMarketSo_161 rfl (lv_at hl 4 rfl) ?_
          refine lv_iload_n hx hb dL_isMarketSo_162 rfl (lv_at hl 6 rfl) ?_
          refine mw_cXn (rest := []) (A0 := (fun _ => False)) hC (x_X0_heldOn l hfl D h0 a1 a2 cA cJ v L P d (by omega) hok) (mEx1_0 (by omega)) hES hZS (cwV 1 hts gL_isMarketSo_X0_heldOn rfl rfl rfl (by decide +kernel) ⟨Nat.le_of_ble_eq_true rfl, Nat.le_of_ble_eq_true rfl⟩) hK hPx hS rfl rfl hl.1 rfl (Nat.le_of_ble_eq_true rfl) ⟨Nat.le_of_ble_eq_true rfl, Nat.le_of_ble_eq_true rfl⟩ dL_isMarketSo_163 (fun H locs hS hz hk => ?_)
          have hPx := mw_keepP hPx hk
          have hg := Nat.le_trans hg hz
          refine W.eq (g2 := F0 m 166 ls [.int (mI (mSet L P d (v 0).toNat))]) rfl ?_
          refine lv_iload_n hx hb dL_isMarketSo_166 rfl (lv_at hl 5 rfl) ?_
          refine mw_ishr hx hb dL_isMarketSo_167 ?_
          refine mw_iconst hx hb dL_isMarketSo_168 ?_
          refine mw_iand hx hb dL_isMarketSo_169 ?_
          refine mw_topi (y := bb) ((m_heldbit hok hk9 d).trans hBB.symm) ?_
          refine lv_aload_n hx hb dL_isMarketSo_170 rfl (lv_at hl 4 rfl) ?_
          refine lv_iload_n hx hb dL_isMarketSo_171 rfl (lv_at hl 5 rfl) ?_
          refine lv_iload_n hx hb dL_isMarketSo_172 rfl (lv_at hl 6 rfl) ?_
          refine mw_cXn (rest := [.int (mI (bb))]) (A0 := (fun _ => False)) hC (x_X0_isHeld l hfl D h0 a1 a2 cA cJ v L P k d (by omega) (by omega) hok) (mEx2_0 (by omega) (by omega)) hES hZS (cwV 2 hts gL_isMarketSo_X0_isHeld rfl rfl rfl (by decide +kernel) ⟨Nat.le_of_ble_eq_true rfl, Nat.le_of_ble_eq_true rfl⟩) hK hPx hS rfl rfl hl.1 rfl (Nat.le_of_ble_eq_true rfl) ⟨Nat.le_of_ble_eq_true rfl, Nat.le_of_ble_eq_true rfl⟩ dL_isMarketSo_173 (fun H locs hS hz hk => ?_)
          have hPx := mw_keepP hPx hk
          have hg := Nat.le_trans hg hz
          refine W.eq (g2 := F0 m 176 ls [.int (mI (mB (d % L k = P k))), .int (mI (bb))]) rfl ?_
          refine mw_zeq (tgt := 183) hx hb dL_isMarketSo_176 (by decide) (fun c_176 => ?_) (fun c_176 => ?_)
          · have q : bb = 0 := hBB.trans (mB_f c_176)
            refine mw_iconst hx hb dL_isMarketSo_183 ?_
            refine mw_icmp_ne (tgt := 230) hx hb (by omega) (by omega) dL_isMarketSo_184 (by decide) (fun c_184 => False.elim (by omega)) (fun c_184 => ?_)
            refine lv_aload_n hx hb dL_isMarketSo_187 rfl (lv_at hl 4 rfl) ?_
            refine lv_iload_n hx hb dL_isMarketSo_188 rfl (lv_at hl 5 rfl) ?_
            refine lv_iload_n hx hb dL_isMarketSo_189 rfl (lv_at hl 6 rfl) ?_
            refine lv_iload_n hx hb dL_isMarketSo_190 rfl (lv_at hl 6 rfl) ?_
            refine mw_sipush hx hb (by decide +kernel) dL_isMarketSo_191 ?_
            refine mw_iadd hx hb dL_isMarketSo_194 ?_
            refine mw_cXn (rest := []) (A0 := (fun _ => False)) hC (x_X0_times l hfl D h0 a1 a2 cA cJ v L P k d (d + 500) (by omega) (by omega) (by omega) hok) (mEx2_0 (by omega) (by omega)) hES hZS (cwV 3 hts gL_isMarketSo_X0_times rfl rfl rfl (by decide +kernel) ⟨Nat.le_of_ble_eq_true rfl, Nat.le_of_ble_eq_true rfl⟩) hK hPx hS rfl rfl hl.1 rfl (Nat.le_of_ble_eq_true rfl) ⟨Nat.le_of_ble_eq_true rfl, Nat.le_of_ble_eq_true rfl⟩ dL_isMarketSo_195 (fun H locs hS hz hk => ?_)
            have hPx := mw_keepP hPx hk
            have hg := Nat.le_trans hg hz
            refine W.eq (g2 := F0 m 198 ls [.int (mI (mCnt L P k d (d + 500)))]) rfl ?_
            refine mw_topi (y := ta) hTA.symm ?_
            refine lv_aload_n hx hb dL_isMarketSo_198 rfl (lv_at hl 4 rfl) ?_
            refine lv_iload_n hx hb dL_isMarketSo_199 rfl (lv_at hl 5 rfl) ?_
            refine lv_iload_n hx hb dL_isMarketSo_200 rfl (lv_at hl 6 rfl) ?_
            refine lv_iload_n hx hb dL_isMarketSo_201 rfl (lv_at hl 6 rfl) ?_
            refine mw_bipush hx hb (by decide +kernel) dL_isMarketSo_202 ?_
            refine mw_iadd hx hb dL_isMarketSo_204 ?_
            refine mw_cXn (rest := [.int (mI (ta))]) (A0 := (fun _ => False)) hC (x_X0_times l hfl D h0 a1 a2 cA cJ v L P k d (d + 77) (by omega) (by omega) (by omega) hok) (mEx2_0 (by omega) (by omega)) hES hZS (cwV 3 hts gL_isMarketSo_X0_times rfl rfl rfl (by decide +kernel) ⟨Nat.le_of_ble_eq_true rfl, Nat.le_of_ble_eq_true rfl⟩) hK hPx hS rfl rfl hl.1 rfl (Nat.le_of_ble_eq_true rfl) ⟨Nat.le_of_ble_eq_true rfl, Nat.le_of_ble_eq_true rfl⟩ dL_isMarketSo_205 (fun H locs hS hz hk => ?_)
            have hPx := mw_keepP hPx hk
            have hg := Nat.le_trans hg hz
            refine W.eq (g2 := F0 m 208 ls [.int (mI (mCnt L P k d (d + 77))), .int (mI (ta))]) rfl ?_
            refine mw_topi (y := tb) hTB.symm ?_
            refine lv_aload_n hx hb dL_isMarketSo_208 rfl (lv_at hl 4 rfl) ?_
            refine lv_iload_n hx hb dL_isMarketSo_209 rfl (lv_at hl 5 rfl) ?_
            refine lv_iload_n hx hb dL_isMarketSo_210 rfl (lv_at hl 6 rfl) ?_
            refine mw_bipush hx hb (by decide +kernel) dL_isMarketSo_211 ?_
            refine mw_iadd hx hb dL_isMarketSo_213 ?_
            refine lv_iload_n hx hb dL_isMarketSo_214 rfl (lv_at hl 6 rfl) ?_
            refine mw_sipush hx hb (by decide +kernel) dL_isMarketSo_215 ?_
            refine mw_iadd hx hb dL_isMarketSo_218 ?_
            refine mw_cXn (rest := [.int (mI (tb)), .int (mI (ta))]) (A0 := (fun _ => False)) hC (x_X0_times l hfl D h0 a1 a2 cA cJ v L P k (d + 78) (d + 500) (by omega) (by omega) (by omega) hok) (mEx2_0 (by omega) (by omega)) hES hZS (cwV 3 hts gL_isMarketSo_X0_times rfl rfl rfl (by decide +kernel) ⟨Nat.le_of_ble_eq_true rfl, Nat.le_of_ble_eq_true rfl⟩) hK hPx hS rfl rfl hl.1 rfl (Nat.le_of_ble_eq_true rfl) ⟨Nat.le_of_ble_eq_true rfl, Nat.le_of_ble_eq_true rfl⟩ dL_isMarketSo_219 (fun H locs hS hz hk => ?_)
            have hPx := mw_keepP hPx hk
            have hg := Nat.le_trans hg hz
            refine W.eq (g2 := F0 m 222 ls [.int (mI (mCnt L P k (d + 78) (d + 500))), .int (mI (tb)), .int (mI (ta))]) rfl ?_
            refine mw_topi (y := tc) hTC.symm ?_
            refine mw_iadd hx hb dL_isMarketSo_222 ?_
            refine mw_icmp_ne (tgt := 230) hx hb (by omega) (by omega) dL_isMarketSo_223 (by decide) (fun c_223 => False.elim (by omega)) (fun c_223 => ?_)
            refine mw_iconst hx hb dL_isMarketSo_226 ?_
            refine lv_goto (tgt := 231) hx hb dL_isMarketSo_227 (by decide) ?_
            exact mw_gretZ hx hb hr hlocks dL_isMarketSo_231 (by decide +kernel) rfl (by omega) hPx hS ⟨Nat.le_of_ble_eq_true rfl, Nat.le_of_ble_eq_true rfl⟩
          · have q : bb = 1 := hBB.trans (mB_t c_176)
            refine mw_iconst hx hb dL_isMarketSo_179 ?_
            refine lv_goto (tgt := 184) hx hb dL_isMarketSo_180 (by decide) ?_
            refine mw_icmp_ne (tgt := 230) hx hb (by omega) (by omega) dL_isMarketSo_184 (by decide) (fun c_184 => False.elim (by omega)) (fun c_184 => ?_)
            refine lv_aload_n hx hb dL_isMarketSo_187 rfl (lv_at hl 4 rfl) ?_
            refine lv_iload_n hx hb dL_isMarketSo_188 rfl (lv_at hl 5 rfl) ?_
            refine lv_iload_n hx hb dL_isMarketSo_189 rfl (lv_at hl 6 rfl) ?_
            refine lv_iload_n hx hb dL_isMarketSo_190 rfl (lv_at hl 6 rfl) ?_
            refine mw_sipush hx hb (by decide +kernel) dL_isMarketSo_191 ?_
            refine mw_iadd hx hb dL_isMarketSo_194 ?_
            refine mw_cXn (rest := []) (A0 := (fun _ => False)) hC (x_X0_times l hfl D h0 a1 a2 cA cJ v L P k d (d + 500) (by omega) (by omega) (by omega) hok) (mEx2_0 (by omega) (by omega)) hES hZS (cwV 3 hts gL_isMarketSo_X0_times rfl rfl rfl (by decide +kernel) ⟨Nat.le_of_ble_eq_true rfl, Nat.le_of_ble_eq_true rfl⟩) hK hPx hS rfl rfl hl.1 rfl (Nat.le_of_ble_eq_true rfl) ⟨Nat.le_of_ble_eq_true rfl, Nat.le_of_ble_eq_true rfl⟩ dL_isMarketSo_195 (fun H locs hS hz hk => ?_)
            have hPx := mw_keepP hPx hk
            have hg := Nat.le_trans hg hz
            refine W.eq (g2 := F0 m 198 ls [.int (mI (mCnt L P k d (d + 500)))]) rfl ?_
            refine mw_topi (y := ta) hTA.symm ?_
            refine lv_aload_n hx hb dL_isMarketSo_198 rfl (lv_at hl 4 rfl) ?_
            refine lv_iload_n hx hb dL_isMarketSo_199 rfl (lv_at hl 5 rfl) ?_
            refine lv_iload_n hx hb dL_isMarketSo_200 rfl (lv_at hl 6 rfl) ?_
            refine lv_iload_n hx hb dL_isMarketSo_201 rfl (lv_at hl 6 rfl) ?_
            refine mw_bipush hx hb (by decide +kernel) dL_isMarketSo_202 ?_
            refine mw_iadd hx hb dL_isMarketSo_204 ?_
            refine mw_cXn (rest := [.int (mI (ta))]) (A0 := (fun _ => False)) hC (x_X0_times l hfl D h0 a1 a2 cA cJ v L P k d (d + 77) (by omega) (by omega) (by omega) hok) (mEx2_0 (by omega) (by omega)) hES hZS (cwV 3 hts gL_isMarketSo_X0_times rfl rfl rfl (by decide +kernel) ⟨Nat.le_of_ble_eq_true rfl, Nat.le_of_ble_eq_true rfl⟩) hK hPx hS rfl rfl hl.1 rfl (Nat.le_of_ble_eq_true rfl) ⟨Nat.le_of_ble_eq_true rfl, Nat.le_of_ble_eq_true rfl⟩ dL_isMarketSo_205 (fun H locs hS hz hk => ?_)
            have hPx := mw_keepP hPx hk
            have hg := Nat.le_trans hg hz
            refine W.eq (g2 := F0 m 208 ls [.int (mI (mCnt L P k d (d + 77))), .int (mI (ta))]) rfl ?_
            refine mw_topi (y := tb) hTB.symm ?_
            refine lv_aload_n hx hb dL_isMarketSo_208 rfl (lv_at hl 4 rfl) ?_
            refine lv_iload_n hx hb dL_isMarketSo_209 rfl (lv_at hl 5 rfl) ?_
            refine lv_iload_n hx hb dL_isMarketSo_210 rfl (lv_at hl 6 rfl) ?_
            refine mw_bipush hx hb (by decide +kernel) dL_isMarketSo_211 ?_
            refine mw_iadd hx hb dL_isMarketSo_213 ?_
            refine lv_iload_n hx hb dL_isMarketSo_214 rfl (lv_at hl 6 rfl) ?_
            refine mw_sipush hx hb (by decide +kernel) dL_isMarketSo_215 ?_
            refine mw_iadd hx hb dL_isMarketSo_218 ?_
            refine mw_cXn (rest := [.int (mI (tb)), .int (mI (ta))]) (A0 := (fun _ => False)) hC (x_X0_times l hfl D h0 a1 a2 cA cJ v L P k (d + 78) (d + 500) (by omega) (by omega) (by omega) hok) (mEx2_0 (by omega) (by omega)) hES hZS (cwV 3 hts gL_isMarketSo_X0_times rfl rfl rfl (by decide +kernel) ⟨Nat.le_of_ble_eq_true rfl, Nat.le_of_ble_eq_true rfl⟩) hK hPx hS rfl rfl hl.1 rfl (Nat.le_of_ble_eq_true rfl) ⟨Nat.le_of_ble_eq_true rfl, Nat.le_of_ble_eq_true rfl⟩ dL_isMarketSo_219 (fun H locs hS hz hk => ?_)
            have hPx := mw_keepP hPx hk
            have hg := Nat.le_trans hg hz
            refine W.eq (g2 := F0 m 222 ls [.int (mI (mCnt L P k (d + 78) (d + 500))), .int (mI (tb)), .int (mI (ta))]) rfl ?_
            refine mw_topi (y := tc) hTC.symm ?_
            refine mw_iadd hx hb dL_isMarketSo_222 ?_
            refine mw_icmp_ne (tgt := 230) hx hb (by omega) (by omega) dL_isMarketSo_223 (by decide) (fun c_223 => False.elim (by omega)) (fun c_223 => ?_)
            refine mw_iconst hx hb dL_isMarketSo_226 ?_
            refine lv_goto (tgt := 231) hx hb dL_isMarketSo_227 (by decide) ?_
            exact mw_gretZ hx hb hr hlocks dL_isMarketSo_231 (by decide +kernel) rfl (by omega) hPx hS ⟨Nat.le_of_ble_eq_true rfl, Nat.le_of_ble_eq_true rfl⟩
        · refine lv_aload_n hx hb dL_isMarketSo_137 rfl (lv_at hl 4 rfl) ?_
          refine lv_iload_n hx hb dL_isMarketSo_138 rfl (lv_at hl 5 rfl) ?_
          refine lv_iload_n hx hb dL_isMarketSo_139 rfl (lv_at hl 6 rfl) ?_
          refine lv_iload hx hb dL_isMarketSo_140 (lv_at hl 1 rfl) ?_
          refine mw_isub hx hb dL_isMarketSo_142 ?_
          refine mw_cXn (rest := []) (A0 := (fun _ => False)) hC (x_X0_isHeld l hfl D h0 a1 a2 cA cJ v L P k (d - (nr - d)) (by omega) (by omega) hok) (mEx2_0 (by omega) (by omega)) hES hZS (cwV 2 hts gL_isMarketSo_X0_isHeld rfl rfl rfl (by decide +kernel) ⟨Nat.le_of_ble_eq_true rfl, Nat.le_of_ble_eq_true rfl⟩) hK hPx hS rfl rfl hl.1 rfl (Nat.le_of_ble_eq_true rfl) ⟨Nat.le_of_ble_eq_true rfl, Nat.le_of_ble_eq_true rfl⟩ dL_isMarketSo_143 (fun H locs hS hz hk => ?_)
          have hPx := mw_keepP hPx hk
          have hg := Nat.le_trans hg hz
          refine W.eq (g2 := F0 m 146 ls [.int (mI (mB ((d - (nr - d)) % L k = P k)))]) rfl ?_
          refine mw_zne (tgt := 153) hx hb dL_isMarketSo_146 (by decide) (fun c_146 => False.elim (by first | exact (nrf.2.2.2.2 (by omega)).2 c_146 | (exfalso; omega))) (fun c_146 => ?_)
          refine mw_iconst hx hb dL_isMarketSo_149 ?_
          refine lv_goto (tgt := 154) hx hb dL_isMarketSo_150 (by decide) ?_
          refine lv_istore (lv' := [(6, .int (mI (1))), (5, .int (mI (nr - d))), (4, .int (mI (nr))), (3, .int (mI (nx))), (0, .ref h0), (1, .int (mI (k))), (2, .int (mI (d)))]) hx hb dL_isMarketSo_154 hl (by decide) rfl (fun ls hl => ?_)
          refine lv_iload hx hb dL_isMarketSo_156 (lv_at hl 0 rfl) ?_
          refine mw_if_eq (tgt := 230) hx hb (by omega) dL_isMarketSo_158 (by decide) (fun c => absurd c (by decide)) (fun _ => ?_)
          refine lv_aload_n hx hb dL_isMarketSo_161 rfl (lv_at hl 4 rfl) ?_
          refine lv_iload_n hx hb dL_isMarketSo_162 rfl (lv_at hl 6 rfl) ?_
          refine mw_cXn (rest := []) (A0 := (fun _ => False)) hC (x_X0_heldOn l hfl D h0 a1 a2 cA cJ v L P d (by omega) hok) (mEx1_0 (by omega)) hES hZS (cwV 1 hts gL_isMarketSo_X0_heldOn rfl rfl rfl (by decide +kernel) ⟨Nat.le_of_ble_eq_true rfl, Nat.le_of_ble_eq_true rfl⟩) hK hPx hS rfl rfl hl.1 rfl (Nat.le_of_ble_eq_true rfl) ⟨Nat.le_of_ble_eq_true rfl, Nat.le_of_ble_eq_true rfl⟩ dL_isMarketSo_163 (fun H locs hS hz hk => ?_)
          have hPx := mw_keepP hPx hk
          have hg := Nat.le_trans hg hz
          refine W.eq (g2 := F0 m 166 ls [.int (mI (mSet L P d (v 0).toNat))]) rfl ?_
          refine lv_iload_n hx hb dL_isMarketSo_166 rfl (lv_at hl 5 rfl) ?_
          refine mw_ishr hx hb dL_isMarketSo_167 ?_
          refine mw_iconst hx hb dL_isMarketSo_168 ?_
          refine mw_iand hx hb dL_isMarketSo_169 ?_
          refine mw_topi (y := bb) ((m_heldbit hok hk9 d).trans hBB.symm) ?_
          refine lv_aload_n hx hb dL_isMarketSo_170 rfl (lv_at hl 4 rfl) ?_
          refine lv_iload_n hx hb dL_isMarketSo_171 rfl (lv_at hl 5 rfl) ?_
          refine lv_iload_n hx hb dL_isMarketSo_172 rfl (lv_at hl 6 rfl) ?_
          refine mw_cXn (rest := [.int (mI (bb))]) (A0 := (fun _ => False)) hC (x_X0_isHeld l hfl D h0 a1 a2 cA cJ v L P k d (by omega) (by omega) hok) (mEx2_0 (by omega) (by omega)) hES hZS (cwV 2 hts gL_isMarketSo_X0_isHeld rfl rfl rfl (by decide +kernel) ⟨Nat.le_of_ble_eq_true rfl, Nat.le_of_ble_eq_true rfl⟩) hK hPx hS rfl rfl hl.1 rfl (Nat.le_of_ble_eq_true rfl) ⟨Nat.le_of_ble_eq_true rfl, Nat.le_of_ble_eq_true rfl⟩ dL_isMarketSo_173 (fun H locs hS hz hk => ?_)
          have hPx := mw_keepP hPx hk
          have hg := Nat.le_trans hg hz
          refine W.eq (g2 := F0 m 176 ls [.int (mI (mB (d % L k = P k))), .int (mI (bb))]) rfl ?_
          refine mw_zeq (tgt := 183) hx hb dL_isMarketSo_176 (by decide) (fun c_176 => ?_) (fun c_176 => ?_)
          · have q : bb = 0 := hBB.trans (mB_f c_176)
            refine mw_iconst hx hb dL_isMarketSo_183 ?_
            refine mw_icmp_ne (tgt := 230) hx hb (by omega) (by omega) dL_isMarketSo_184 (by decide) (fun c_184 => False.elim (by omega)) (fun c_184 => ?_)
            refine lv_aload_n hx hb dL_isMarketSo_187 rfl (lv_at hl 4 rfl) ?_
            refine lv_iload_n hx hb dL_isMarketSo_188 rfl (lv_at hl 5 rfl) ?_
            refine lv_iload_n hx hb dL_isMarketSo_189 rfl (lv_at hl 6 rfl) ?_
            refine lv_iload_n hx hb dL_isMarketSo_190 rfl (lv_at hl 6 rfl) ?_
            refine mw_sipush hx hb (by decide +kernel) dL_isMarketSo_191 ?_
            refine mw_iadd hx hb dL_isMarketSo_194 ?_
            refine mw_cXn (rest := []) (A0 := (fun _ => False)) hC (x_X0_times l hfl D h0 a1 a2 cA cJ v L P k d (d + 500) (by omega) (by omega) (by omega) hok) (mEx2_0 (by omega) (by omega)) hES hZS (cwV 3 hts gL_isMarketSo_X0_times rfl rfl rfl (by decide +kernel) ⟨Nat.le_of_ble_eq_true rfl, Nat.le_of_ble_eq_true rfl⟩) hK hPx hS rfl rfl hl.1 rfl (Nat.le_of_ble_eq_true rfl) ⟨Nat.le_of_ble_eq_true rfl, Nat.le_of_ble_eq_true rfl⟩ dL_isMarketSo_195 (fun H locs hS hz hk => ?_)
            have hPx := mw_keepP hPx hk
            have hg := Nat.le_trans hg hz
            refine W.eq (g2 := F0 m 198 ls [.int (mI (mCnt L P k d (d + 500)))]) rfl ?_
            refine mw_topi (y := ta) hTA.symm ?_
            refine lv_aload_n hx hb dL_isMarketSo_198 rfl (lv_at hl 4 rfl) ?_
            refine lv_iload_n hx hb dL_isMarketSo_199 rfl (lv_at hl 5 rfl) ?_
            refine lv_iload_n hx hb dL_isMarketSo_200 rfl (lv_at hl 6 rfl) ?_
            refine lv_iload_n hx hb dL_isMarketSo_201 rfl (lv_at hl 6 rfl) ?_
            refine mw_bipush hx hb (by decide +kernel) dL_isMarketSo_202 ?_
            refine mw_iadd hx hb dL_isMarketSo_204 ?_
            refine mw_cXn (rest := [.int (mI (ta))]) (A0 := (fun _ => False)) hC (x_X0_times l hfl D h0 a1 a2 cA cJ v L P k d (d + 77) (by omega) (by omega) (by omega) hok) (mEx2_0 (by omega) (by omega)) hES hZS (cwV 3 hts gL_isMarketSo_X0_times rfl rfl rfl (by decide +kernel) ⟨Nat.le_of_ble_eq_true rfl, Nat.le_of_ble_eq_true rfl⟩) hK hPx hS rfl rfl hl.1 rfl (Nat.le_of_ble_eq_true rfl) ⟨Nat.le_of_ble_eq_true rfl, Nat.le_of_ble_eq_true rfl⟩ dL_isMarketSo_205 (fun H locs hS hz hk => ?_)
            have hPx := mw_keepP hPx hk
            have hg := Nat.le_trans hg hz
            refine W.eq (g2 := F0 m 208 ls [.int (mI (mCnt L P k d (d + 77))), .int (mI (ta))]) rfl ?_
            refine mw_topi (y := tb) hTB.symm ?_
            refine lv_aload_n hx hb dL_isMarketSo_208 rfl (lv_at hl 4 rfl) ?_
            refine lv_iload_n hx hb dL_isMarketSo_209 rfl (lv_at hl 5 rfl) ?_
            refine lv_iload_n hx hb dL_isMarketSo_210 rfl (lv_at hl 6 rfl) ?_
            refine mw_bipush hx hb (by decide +kernel) dL_isMarketSo_211 ?_
            refine mw_iadd hx hb dL_isMarketSo_213 ?_
            refine lv_iload_n hx hb dL_isMarketSo_214 rfl (lv_at hl 6 rfl) ?_
            refine mw_sipush hx hb (by decide +kernel) dL_isMarketSo_215 ?_
            refine mw_iadd hx hb dL_isMarketSo_218 ?_
            refine mw_cXn (rest := [.int (mI (tb)), .int (mI (ta))]) (A0 := (fun _ => False)) hC (x_X0_times l hfl D h0 a1 a2 cA cJ v L P k (d + 78) (d + 500) (by omega) (by omega) (by omega) hok) (mEx2_0 (by omega) (by omega)) hES hZS (cwV 3 hts gL_isMarketSo_X0_times rfl rfl rfl (by decide +kernel) ⟨Nat.le_of_ble_eq_true rfl, Nat.le_of_ble_eq_true rfl⟩) hK hPx hS rfl rfl hl.1 rfl (Nat.le_of_ble_eq_true rfl) ⟨Nat.le_of_ble_eq_true rfl, Nat.le_of_ble_eq_true rfl⟩ dL_isMarketSo_219 (fun H locs hS hz hk => ?_)
            have hPx := mw_keepP hPx hk
            have hg := Nat.le_trans hg hz
            refine W.eq (g2 := F0 m 222 ls [.int (mI (mCnt L P k (d + 78) (d + 500))), .int (mI (tb)), .int (mI (ta))]) rfl ?_
            refine mw_topi (y := tc) hTC.symm ?_
            refine mw_iadd hx hb dL_isMarketSo_222 ?_
            refine mw_icmp_ne (tgt := 230) hx hb (by omega) (by omega) dL_isMarketSo_223 (by decide) (fun c_223 => False.elim (by omega)) (fun c_223 => ?_)
            refine mw_iconst hx hb dL_isMarketSo_226 ?_
            refine lv_goto (tgt := 231) hx hb dL_isMarketSo_227 (by decide) ?_
            exact mw_gretZ hx hb hr hlocks dL_isMarketSo_231 (by decide +kernel) rfl (by omega) hPx hS ⟨Nat.le_of_ble_eq_true rfl, Nat.le_of_ble_eq_true rfl⟩
          · have q : bb = 1 := hBB.trans (mB_t c_176)
            refine mw_iconst hx hb dL_isMarketSo_179 ?_
            refine lv_goto (tgt := 184) hx hb dL_isMarketSo_180 (by decide) ?_
            refine mw_icmp_ne (tgt := 230) hx hb (by omega) (by omega) dL_isMarketSo_184 (by decide) (fun c_184 => False.elim (by omega)) (fun c_184 => ?_)
            refine lv_aload_n hx hb dL_isMarketSo_187 rfl (lv_at hl 4 rfl) ?_
            refine lv_iload_n hx hb dL_isMarketSo_188 rfl (lv_at hl 5 rfl) ?_
            refine lv_iload_n hx hb dL_isMarketSo_189 rfl (lv_at hl 6 rfl) ?_
            refine lv_iload_n hx hb dL_isMarketSo_190 rfl (lv_at hl 6 rfl) ?_
            refine mw_sipush hx hb (by decide +kernel) dL_isMarketSo_191 ?_
            refine mw_iadd hx hb dL_isMarketSo_194 ?_
            refine mw_cXn (rest := []) (A0 := (fun _ => False)) hC (x_X0_times l hfl D h0 a1 a2 cA cJ v L P k d (d + 500) (by omega) (by omega) (by omega) hok) (mEx2_0 (by omega) (by omega)) hES hZS (cwV 3 hts gL_isMarketSo_X0_times rfl rfl rfl (by decide +kernel) ⟨Nat.le_of_ble_eq_true rfl, Nat.le_of_ble_eq_true rfl⟩) hK hPx hS rfl rfl hl.1 rfl (Nat.le_of_ble_eq_true rfl) ⟨Nat.le_of_ble_eq_true rfl, Nat.le_of_ble_eq_true rfl⟩ dL_isMarketSo_195 (fun H locs hS hz hk => ?_)
            have hPx := mw_keepP hPx hk
            have hg := Nat.le_trans hg hz
            refine W.eq (g2 := F0 m 198 ls [.int (mI (mCnt L P k d (d + 500)))]) rfl ?_
            refine mw_topi (y := ta) hTA.symm ?_
            refine lv_aload_n hx hb dL_isMarketSo_198 rfl (lv_at hl 4 rfl) ?_
            refine lv_iload_n hx hb dL_isMarketSo_199 rfl (lv_at hl 5 rfl) ?_
            refine lv_iload_n hx hb dL_isMarketSo_200 rfl (lv_at hl 6 rfl) ?_
            refine lv_iload_n hx hb dL_isMarketSo_201 rfl (lv_at hl 6 rfl) ?_
            refine mw_bipush hx hb (by decide +kernel) dL_isMarketSo_202 ?_
            refine mw_iadd hx hb dL_isMarketSo_204 ?_
            refine mw_cXn (rest := [.int (mI (ta))]) (A0 := (fun _ => False)) hC (x_X0_times l hfl D h0 a1 a2 cA cJ v L P k d (d + 77) (by omega) (by omega) (by omega) hok) (mEx2_0 (by omega) (by omega)) hES hZS (cwV 3 hts gL_isMarketSo_X0_times rfl rfl rfl (by decide +kernel) ⟨Nat.le_of_ble_eq_true rfl, Nat.le_of_ble_eq_true rfl⟩) hK hPx hS rfl rfl hl.1 rfl (Nat.le_of_ble_eq_true rfl) ⟨Nat.le_of_ble_eq_true rfl, Nat.le_of_ble_eq_true rfl⟩ dL_isMarketSo_205 (fun H locs hS hz hk => ?_)
            have hPx := mw_keepP hPx hk
            have hg := Nat.le_trans hg hz
            refine W.eq (g2 := F0 m 208 ls [.int (mI (mCnt L P k d (d + 77))), .int (mI (ta))]) rfl ?_
            refine mw_topi (y := tb) hTB.symm ?_
            refine lv_aload_n hx hb dL_isMarketSo_208 rfl (lv_at hl 4 rfl) ?_
            refine lv_iload_n hx hb dL_isMarketSo_209 rfl (lv_at hl 5 rfl) ?_
            refine lv_iload_n hx hb dL_isMarketSo_210 rfl (lv_at hl 6 rfl) ?_
            refine mw_bipush hx hb (by decide +kernel) dL_isMarketSo_211 ?_
            refine mw_iadd hx hb dL_isMarketSo_213 ?_
            refine lv_iload_n hx hb dL_isMarketSo_214 rfl (lv_at hl 6 rfl) ?_
            refine mw_sipush hx hb (by decide +kernel) dL_isMarketSo_215 ?_
            refine mw_iadd hx hb dL_isMarketSo_218 ?_
            refine mw_cXn (rest := [.int (mI (tb)), .int (mI (ta))]) (A0 := (fun _ => False)) hC (x_X0_times l hfl D h0 a1 a2 cA cJ v L P k (d + 78) (d + 500) (by omega) (by omega) (by omega) hok) (mEx2_0 (by omega) (by omega)) hES hZS (cwV 3 hts gL_isMarketSo_X0_times rfl rfl rfl (by decide +kernel) ⟨Nat.le_of_ble_eq_true rfl, Nat.le_of_ble_eq_true rfl⟩) hK hPx hS rfl rfl hl.1 rfl (Nat.le_of_ble_eq_true rfl) ⟨Nat.le_of_ble_eq_true rfl, Nat.le_of_ble_eq_true rfl⟩ dL_isMarketSo_219 (fun H locs hS hz hk => ?_)
            have hPx := mw_keepP hPx hk
            have hg := Nat.le_trans hg hz
            refine W.eq (g2 := F0 m 222 ls [.int (mI (mCnt L P k (d + 78) (d + 500))), .int (mI (tb)), .int (mI (ta))]) rfl ?_
            refine mw_topi (y := tc) hTC.symm ?_
            refine mw_iadd hx hb dL_isMarketSo_222 ?_
            refine mw_icmp_ne (tgt := 230) hx hb (by omega) (by omega) dL_isMarketSo_223 (by decide) (fun c_223 => False.elim (by omega)) (fun c_223 => ?_)
            refine mw_iconst hx hb dL_isMarketSo_226 ?_
            refine lv_goto (tgt := 231) hx hb dL_isMarketSo_227 (by decide) ?_
            exact mw_gretZ hx hb hr hlocks dL_isMarketSo_231 (by decide +kernel) rfl (by omega) hPx hS ⟨Nat.le_of_ble_eq_true rfl, Nat.le_of_ble_eq_true rfl⟩
    · refine lv_aload_n hx hb dL_isMarketSo_82 rfl (lv_at hl 3 rfl) ?_
      refine lv_iload_n hx hb dL_isMarketSo_83 rfl (lv_at hl 4 rfl) ?_
      refine lv_iload_n hx hb dL_isMarketSo_84 rfl (lv_at hl 5 rfl) ?_
      refine lv_iload_n hx hb dL_isMarketSo_85 rfl (lv_at hl 2 rfl) ?_
      refine mw_iconst hx hb dL_isMarketSo_86 ?_
      refine mw_isub hx hb dL_isMarketSo_87 ?_
      refine mw_cXn (rest := []) (A0 := (fun _ => False)) hC (x_X0_times l hfl D h0 a1 a2 cA cJ v L P k d (nx - 1) (by omega) (by omega) (by omega) hok) (mEx2_0 (by omega) (by omega)) hES hZS (cwV 3 hts gL_isMarketSo_X0_times rfl rfl rfl (by decide +kernel) ⟨Nat.le_of_ble_eq_true rfl, Nat.le_of_ble_eq_true rfl⟩) hK hPx hS rfl rfl hl.1 rfl (Nat.le_of_ble_eq_true rfl) ⟨Nat.le_of_ble_eq_true rfl, Nat.le_of_ble_eq_true rfl⟩ dL_isMarketSo_88 (fun H locs hS hz hk => ?_)
      have hPx := mw_keepP hPx hk
      have hg := Nat.le_trans hg hz
      refine W.eq (g2 := F0 m 91 ls [.int (mI (mCnt L P k d (nx - 1)))]) rfl ?_
      refine mw_topi (y := 0) (mk.2.2.2.2 c_79) ?_
      refine mw_if_ne (tgt := 98) hx hb (by omega) dL_isMarketSo_91 (by decide) (fun c => absurd c (by decide)) (fun _ => ?_)
      refine mw_iconst hx hb dL_isMarketSo_94 ?_
      refine lv_goto (tgt := 99) hx hb dL_isMarketSo_95 (by decide) ?_
      refine lv_istore (lv' := [(6, .int (mI (1))), (5, .int (mI (nr - d))), (4, .int (mI (nr))), (3, .int (mI (nx))), (0, .ref h0), (1, .int (mI (k))), (2, .int (mI (d)))]) hx hb dL_isMarketSo_99 hl (by decide) rfl (fun ls hl => ?_)
      refine lv_iload hx hb dL_isMarketSo_101 (lv_at hl 0 rfl) ?_
      refine mw_if_eq (tgt := 153) hx hb (by omega) dL_isMarketSo_103 (by decide) (fun c => absurd c (by decide)) (fun _ => ?_)
      refine lv_iload hx hb dL_isMarketSo_106 (lv_at hl 1 rfl) ?_
      refine mw_if_eq (tgt := 131) hx hb (by omega) dL_isMarketSo_108 (by decide) (fun c_108 => ?_) (fun c_108 => ?_)
      · refine lv_iload hx hb dL_isMarketSo_131 (lv_at hl 2 rfl) ?_
        refine lv_iload_n hx hb dL_isMarketSo_133 rfl (lv_at hl 6 rfl) ?_
        refine mw_icmp_le (tgt := 149) hx hb (by omega) (by omega) dL_isMarketSo_134 (by decide) (fun c_134 => ?_) (fun c_134 => ?_)
        · refine mw_iconst hx hb dL_isMarketSo_149 ?_
          refine lv_goto (tgt := 154) hx hb dL_isMarketSo_150 (by decide) ?_
          refine lv_istore (lv' := [(6, .int (mI (1))), (5, .int (mI (nr - d))), (4, .int (mI (nr))), (3, .int (mI (nx))), (0, .ref h0), (1, .int (mI (k))), (2, .int (mI (d)))]) hx hb dL_isMarketSo_154 hl (by decide) rfl (fun ls hl => ?_)
          refine lv_iload hx hb dL_isMarketSo_156 (lv_at hl 0 rfl) ?_
          refine mw_if_eq (tgt := 230) hx hb (by omega) dL_isMarketSo_158 (by decide) (fun c => absurd c (by decide)) (fun _ => ?_)
          refine lv_aload_n hx hb dL_isMarketSo_161 rfl (lv_at hl 4 rfl) ?_
          refine lv_iload_n hx hb dL_isMarketSo_162 rfl (lv_at hl 6 rfl) ?_
          refine mw_cXn (rest := []) (A0 := (fun _ => False)) hC (x_X0_heldOn l hfl D h0 a1 a2 cA cJ v L P d (by omega) hok) (mEx1_0 (by omega)) hES hZS (cwV 1 hts gL_isMarketSo_X0_heldOn rfl rfl rfl (by decide +kernel) ⟨Nat.le_of_ble_eq_true rfl, Nat.le_of_ble_eq_true rfl⟩) hK hPx hS rfl rfl hl.1 rfl (Nat.le_of_ble_eq_true rfl) ⟨Nat.le_of_ble_eq_true rfl, Nat.le_of_ble_eq_true rfl⟩ dL_isMarketSo_163 (fun H locs hS hz hk => ?_)
          have hPx := mw_keepP hPx hk
          have hg := Nat.le_trans hg hz
          refine W.eq (g2 := F0 m 166 ls [.int (mI (mSet L P d (v 0).toNat))]) rfl ?_
          refine lv_iload_n hx hb dL_isMarketSo_166 rfl (lv_at hl 5 rfl) ?_
          refine mw_ishr hx hb dL_isMarketSo_167 ?_
          refine mw_iconst hx hb dL_isMarketSo_168 ?_
          refine mw_iand hx hb dL_isMarketSo_169 ?_
          refine mw_topi (y := bb) ((m_heldbit hok hk9 d).trans hBB.symm) ?_
          refine lv_aload_n hx hb dL_isMarketSo_170 rfl (lv_at hl 4 rfl) ?_
          refine lv_iload_n hx hb dL_isMarketSo_171 rfl (lv_at hl 5 rfl) ?_
          refine lv_iload_n hx hb dL_isMarketSo_172 rfl (lv_at hl 6 rfl) ?_
          refine mw_cXn (rest := [.int (mI (bb))]) (A0 := (fun _ => False)) hC (x_X0_isHeld l hfl D h0 a1 a2 cA cJ v L P k d (by omega) (by omega) hok) (mEx2_0 (by omega) (by omega)) hES hZS (cwV 2 hts gL_isMarketSo_X0_isHeld rfl rfl rfl (by decide +kernel) ⟨Nat.le_of_ble_eq_true rfl, Nat.le_of_ble_eq_true rfl⟩) hK hPx hS rfl rfl hl.1 rfl (Nat.le_of_ble_eq_true rfl) ⟨Nat.le_of_ble_eq_true rfl, Nat.le_of_ble_eq_true rfl⟩ dL_isMarketSo_173 (fun H locs hS hz hk => ?_)
          have hPx := mw_keepP hPx hk
          have hg := Nat.le_trans hg hz
          refine W.eq (g2 := F0 m 176 ls [.int (mI (mB (d % L k = P k))), .int (mI (bb))]) rfl ?_
          refine mw_zeq (tgt := 183) hx hb dL_isMarketSo_176 (by decide) (fun c_176 => ?_) (fun c_176 => ?_)
          · have q : bb = 0 := hBB.trans (mB_f c_176)
            refine mw_iconst hx hb dL_isMarketSo_183 ?_
            refine mw_icmp_ne (tgt := 230) hx hb (by omega) (by omega) dL_isMarketSo_184 (by decide) (fun c_184 => False.elim (by omega)) (fun c_184 => ?_)
            refine lv_aload_n hx hb dL_isMarketSo_187 rfl (lv_at hl 4 rfl) ?_
            refine lv_iload_n hx hb dL_isMarketSo_188 rfl (lv_at hl 5 rfl) ?_
            refine lv_iload_n hx hb dL_isMarketSo_189 rfl (lv_at hl 6 rfl) ?_
            refine lv_iload_n hx hb dL_isMarketSo_190 rfl (lv_at hl 6 rfl) ?_
            refine mw_sipush hx hb (by decide +kernel) dL_isMarketSo_191 ?_
            refine mw_iadd hx hb dL_isMarketSo_194 ?_
            refine mw_cXn (rest := []) (A0 := (fun _ => False)) hC (x_X0_times l hfl D h0 a1 a2 cA cJ v L P k d (d + 500) (by omega) (by omega) (by omega) hok) (mEx2_0 (by omega) (by omega)) hES hZS (cwV 3 hts gL_isMarketSo_X0_times rfl rfl rfl (by decide +kernel) ⟨Nat.le_of_ble_eq_true rfl, Nat.le_of_ble_eq_true rfl⟩) hK hPx hS rfl rfl hl.1 rfl (Nat.le_of_ble_eq_true rfl) ⟨Nat.le_of_ble_eq_true rfl, Nat.le_of_ble_eq_true rfl⟩ dL_isMarketSo_195 (fun H locs hS hz hk => ?_)
            have hPx := mw_keepP hPx hk
            have hg := Nat.le_trans hg hz
            refine W.eq (g2 := F0 m 198 ls [.int (mI (mCnt L P k d (d + 500)))]) rfl ?_
            refine mw_topi (y := ta) hTA.symm ?_
            refine lv_aload_n hx hb dL_isMarketSo_198 rfl (lv_at hl 4 rfl) ?_
            refine lv_iload_n hx hb dL_isMarketSo_199 rfl (lv_at hl 5 rfl) ?_
            refine lv_iload_n hx hb dL_isMarketSo_200 rfl (lv_at hl 6 rfl) ?_
            refine lv_iload_n hx hb dL_isMarketSo_201 rfl (lv_at hl 6 rfl) ?_
            refine mw_bipush hx hb (by decide +kernel) dL_isMarketSo_202 ?_
            refine mw_iadd hx hb dL_isMarketSo_204 ?_
            refine mw_cXn (rest := [.int (mI (ta))]) (A0 := (fun _ => False)) hC (x_X0_times l hfl D h0 a1 a2 cA cJ v L P k d (d + 77) (by omega) (by omega) (by omega) hok) (mEx2_0 (by omega) (by omega)) hES hZS (cwV 3 hts gL_isMarketSo_X0_times rfl rfl rfl (by decide +kernel) ⟨Nat.le_of_ble_eq_true rfl, Nat.le_of_ble_eq_true rfl⟩) hK hPx hS rfl rfl hl.1 rfl (Nat.le_of_ble_eq_true rfl) ⟨Nat.le_of_ble_eq_true rfl, Nat.le_of_ble_eq_true rfl⟩ dL_isMarketSo_205 (fun H locs hS hz hk => ?_)
            have hPx := mw_keepP hPx hk
            have hg := Nat.le_trans hg hz
            refine W.eq (g2 := F0 m 208 ls [.int (mI (mCnt L P k d (d + 77))), .int (mI (ta))]) rfl ?_
            refine mw_topi (y := tb) hTB.symm ?_
            refine lv_aload_n hx hb dL_isMarketSo_208 rfl (lv_at hl 4 rfl) ?_
            refine lv_iload_n hx hb dL_isMarketSo_209 rfl (lv_at hl 5 rfl) ?_
            refine lv_iload_n hx hb dL_isMarketSo_210 rfl (lv_at hl 6 rfl) ?_
            refine mw_bipush hx hb (by decide +kernel) dL_isMarketSo_211 ?_
            refine mw_iadd hx hb dL_isMarketSo_213 ?_
            refine lv_iload_n hx hb dL_isMarketSo_214 rfl (lv_at hl 6 rfl) ?_
            refine mw_sipush hx hb (by decide +kernel) dL_isMarketSo_215 ?_
            refine mw_iadd hx hb dL_isMarketSo_218 ?_
            refine mw_cXn (rest := [.int (mI (tb)), .int (mI (ta))]) (A0 := (fun _ => False)) hC (x_X0_times l hfl D h0 a1 a2 cA cJ v L P k (d + 78) (d + 500) (by omega) (by omega) (by omega) hok) (mEx2_0 (by omega) (by omega)) hES hZS (cwV 3 hts gL_isMarketSo_X0_times rfl rfl rfl (by decide +kernel) ⟨Nat.le_of_ble_eq_true rfl, Nat.le_of_ble_eq_true rfl⟩) hK hPx hS rfl rfl hl.1 rfl (Nat.le_of_ble_eq_true rfl) ⟨Nat.le_of_ble_eq_true rfl, Nat.le_of_ble_eq_true rfl⟩ dL_isMarketSo_219 (fun H locs hS hz hk => ?_)
            have hPx := mw_keepP hPx hk
            have hg := Nat.le_trans hg hz
            refine W.eq (g2 := F0 m 222 ls [.int (mI (mCnt L P k (d + 78) (d + 500))), .int (mI (tb)), .int (mI (ta))]) rfl ?_
            refine mw_topi (y := tc) hTC.symm ?_
            refine mw_iadd hx hb dL_isMarketSo_222 ?_
            refine mw_icmp_ne (tgt := 230) hx hb (by omega) (by omega) dL_isMarketSo_223 (by decide) (fun c_223 => False.elim (by omega)) (fun c_223 => ?_)
            refine mw_iconst hx hb dL_isMarketSo_226 ?_
            refine lv_goto (tgt := 231) hx hb dL_isMarketSo_227 (by decide) ?_
            exact mw_gretZ hx hb hr hlocks dL_isMarketSo_231 (by decide +kernel) rfl (by omega) hPx hS ⟨Nat.le_of_ble_eq_true rfl, Nat.le_of_ble_eq_true rfl⟩
          · have q : bb = 1 := hBB.trans (mB_t c_176)
            refine mw_iconst hx hb dL_isMarketSo_179 ?_
            refine lv_goto (tgt := 184) hx hb dL_isMarketSo_180 (by decide) ?_
            refine mw_icmp_ne (tgt := 230) hx hb (by omega) (by omega) dL_isMarketSo_184 (by decide) (fun c_184 => False.elim (by omega)) (fun c_184 => ?_)
            refine lv_aload_n hx hb dL_isMarketSo_187 rfl (lv_at hl 4 rfl) ?_
            refine lv_iload_n hx hb dL_isMarketSo_188 rfl (lv_at hl 5 rfl) ?_
            refine lv_iload_n hx hb dL_isMarketSo_189 rfl (lv_at hl 6 rfl) ?_
            refine lv_iload_n hx hb dL_isMarketSo_190 rfl (lv_at hl 6 rfl) ?_
            refine mw_sipush hx hb (by decide +kernel) dL_isMarketSo_191 ?_
            refine mw_iadd hx hb dL_isMarketSo_194 ?_
            refine mw_cXn (rest := []) (A0 := (fun _ => False)) hC (x_X0_times l hfl D h0 a1 a2 cA cJ v L P k d (d + 500) (by omega) (by omega) (by omega) hok) (mEx2_0 (by omega) (by omega)) hES hZS (cwV 3 hts gL_isMarketSo_X0_times rfl rfl rfl (by decide +kernel) ⟨Nat.le_of_ble_eq_true rfl, Nat.le_of_ble_eq_true rfl⟩) hK hPx hS rfl rfl hl.1 rfl (Nat.le_of_ble_eq_true rfl) ⟨Nat.le_of_ble_eq_true rfl, Nat.le_of_ble_eq_true rfl⟩ dL_isMarketSo_195 (fun H locs hS hz hk => ?_)
            have hPx := mw_keepP hPx hk
            have hg := Nat.le_trans hg hz
            refine W.eq (g2 := F0 m 198 ls [.int (mI (mCnt L P k d (d + 500)))]) rfl ?_
            refine mw_topi (y := ta) hTA.symm ?_
            refine lv_aload_n hx hb dL_isMarketSo_198 rfl (lv_at hl 4 rfl) ?_
            refine lv_iload_n hx hb dL_isMarketSo_199 rfl (lv_at hl 5 rfl) ?_
            refine lv_iload_n hx hb dL_isMarketSo_200 rfl (lv_at hl 6 rfl) ?_
            refine lv_iload_n hx hb dL_isMarketSo_201 rfl (lv_at hl 6 rfl) ?_
            refine mw_bipush hx hb (by decide +kernel) dL_isMarketSo_202 ?_
            refine mw_iadd hx hb dL_isMarketSo_204 ?_
            refine mw_cXn (rest := [.int (mI (ta))]) (A0 := (fun _ => False)) hC (x_X0_times l hfl D h0 a1 a2 cA cJ v L P k d (d + 77) (by omega) (by omega) (by omega) hok) (mEx2_0 (by omega) (by omega)) hES hZS (cwV 3 hts gL_isMarketSo_X0_times rfl rfl rfl (by decide +kernel) ⟨Nat.le_of_ble_eq_true rfl, Nat.le_of_ble_eq_true rfl⟩) hK hPx hS rfl rfl hl.1 rfl (Nat.le_of_ble_eq_true rfl) ⟨Nat.le_of_ble_eq_true rfl, Nat.le_of_ble_eq_true rfl⟩ dL_isMarketSo_205 (fun H locs hS hz hk => ?_)
            have hPx := mw_keepP hPx hk
            have hg := Nat.le_trans hg hz
            refine W.eq (g2 := F0 m 208 ls [.int (mI (mCnt L P k d (d + 77))), .int (mI (ta))]) rfl ?_
            refine mw_topi (y := tb) hTB.symm ?_
            refine lv_aload_n hx hb dL_isMarketSo_208 rfl (lv_at hl 4 rfl) ?_
            refine lv_iload_n hx hb dL_isMarketSo_209 rfl (lv_at hl 5 rfl) ?_
            refine lv_iload_n hx hb dL_isMarketSo_210 rfl (lv_at hl 6 rfl) ?_
            refine mw_bipush hx hb (by decide +kernel) dL_isMarketSo_211 ?_
            refine mw_iadd hx hb dL_isMarketSo_213 ?_
            refine lv_iload_n hx hb dL_isMarketSo_214 rfl (lv_at hl 6 rfl) ?_
            refine mw_sipush hx hb (by decide +kernel) dL_isMarketSo_215 ?_
            refine mw_iadd hx hb dL_isMarketSo_218 ?_
            refine mw_cXn (rest := [.int (mI (tb)), .int (mI (ta))]) (A0 := (fun _ => False)) hC (x_X0_times l hfl D h0 a1 a2 cA cJ v L P k (d + 78) (d + 500) (by omega) (by omega) (by omega) hok) (mEx2_0 (by omega) (by omega)) hES hZS (cwV 3 hts gL_isMarketSo_X0_times rfl rfl rfl (by decide +kernel) ⟨Nat.le_of_ble_eq_true rfl, Nat.le_of_ble_eq_true rfl⟩) hK hPx hS rfl rfl hl.1 rfl (Nat.le_of_ble_eq_true rfl) ⟨Nat.le_of_ble_eq_true rfl, Nat.le_of_ble_eq_true rfl⟩ dL_isMarketSo_219 (fun H locs hS hz hk => ?_)
            have hPx := mw_keepP hPx hk
            have hg := Nat.le_trans hg hz
            refine W.eq (g2 := F0 m 222 ls [.int (mI (mCnt L P k (d + 78) (d + 500))), .int (mI (tb)), .int (mI (ta))]) rfl ?_
            refine mw_topi (y := tc) hTC.symm ?_
            refine mw_iadd hx hb dL_isMarketSo_222 ?_
            refine mw_icmp_ne (tgt := 230) hx hb (by omega) (by omega) dL_isMarketSo_223 (by decide) (fun c_223 => False.elim (by omega)) (fun c_223 => ?_)
            refine mw_iconst hx hb dL_isMarketSo_226 ?_
            refine lv_goto (tgt := 231) hx hb dL_isMarketSo_227 (by decide) ?_
            exact mw_gretZ hx hb hr hlocks dL_isMarketSo_231 (by decide +kernel) rfl (by omega) hPx hS ⟨Nat.le_of_ble_eq_true rfl, Nat.le_of_ble_eq_true rfl⟩
        · refine lv_aload_n hx hb dL_isMarketSo_137 rfl (lv_at hl 4 rfl) ?_
          refine lv_iload_n hx hb dL_isMarketSo_138 rfl (lv_at hl 5 rfl) ?_
          refine lv_iload_n hx hb dL_isMarketSo_139 rfl (lv_at hl 6 rfl) ?_
          refine lv_iload hx hb dL_isMarketSo_140 (lv_at hl 1 rfl) ?_
          refine mw_isub hx hb dL_isMarketSo_142 ?_
          refine mw_cXn (rest := []) (A0 := (fun _ => False)) hC (x_X0_isHeld l hfl D h0 a1 a2 cA cJ v L P k (d - (nr - d)) (by omega) (by omega) hok) (mEx2_0 (by omega) (by omega)) hES hZS (cwV 2 hts gL_isMarketSo_X0_isHeld rfl rfl rfl (by decide +kernel) ⟨Nat.le_of_ble_eq_true rfl, Nat.le_of_ble_eq_true rfl⟩) hK hPx hS rfl rfl hl.1 rfl (Nat.le_of_ble_eq_true rfl) ⟨Nat.le_of_ble_eq_true rfl, Nat.le_of_ble_eq_true rfl⟩ dL_isMarketSo_143 (fun H locs hS hz hk => ?_)
          have hPx := mw_keepP hPx hk
          have hg := Nat.le_trans hg hz
          refine W.eq (g2 := F0 m 146 ls [.int (mI (mB ((d - (nr - d)) % L k = P k)))]) rfl ?_
          refine mw_zne (tgt := 153) hx hb dL_isMarketSo_146 (by decide) (fun c_146 => False.elim (by first | exact (nrf.2.2.2.2 (by omega)).2 c_146 | (exfalso; omega))) (fun c_146 => ?_)
          refine mw_iconst hx hb dL_isMarketSo_149 ?_
          refine lv_goto (tgt := 154) hx hb dL_isMarketSo_150 (by decide) ?_
          refine lv_istore (lv' := [(6, .int (mI (1))), (5, .int (mI (nr - d))), (4, .int (mI (nr))), (3, .int (mI (nx))), (0, .ref h0), (1, .int (mI (k))), (2, .int (mI (d)))]) hx hb dL_isMarketSo_154 hl (by decide) rfl (fun ls hl => ?_)
          refine lv_iload hx hb dL_isMarketSo_156 (lv_at hl 0 rfl) ?_
          refine mw_if_eq (tgt := 230) hx hb (by omega) dL_isMarketSo_158 (by decide) (fun c => absurd c (by decide)) (fun _ => ?_)
          refine lv_aload_n hx hb dL_isMarketSo_161 rfl (lv_at hl 4 rfl) ?_
          refine lv_iload_n hx hb dL_isMarketSo_162 rfl (lv_at hl 6 rfl) ?_
          refine mw_cXn (rest := []) (A0 := (fun _ => False)) hC (x_X0_heldOn l hfl D h0 a1 a2 cA cJ v L P d (by omega) hok) (mEx1_0 (by omega)) hES hZS (cwV 1 hts gL_isMarketSo_X0_heldOn rfl rfl rfl (by decide +kernel) ⟨Nat.le_of_ble_eq_true rfl, Nat.le_of_ble_eq_true rfl⟩) hK hPx hS rfl rfl hl.1 rfl (Nat.le_of_ble_eq_true rfl) ⟨Nat.le_of_ble_eq_true rfl, Nat.le_of_ble_eq_true rfl⟩ dL_isMarketSo_163 (fun H locs hS hz hk => ?_)
          have hPx := mw_keepP hPx hk
          have hg := Nat.le_trans hg hz
          refine W.eq (g2 := F0 m 166 ls [.int (mI (mSet L P d (v 0).toNat))]) rfl ?_
          refine lv_iload_n hx hb dL_isMarketSo_166 rfl (lv_at hl 5 rfl) ?_
          refine mw_ishr hx hb dL_isMarketSo_167 ?_
          refine mw_iconst hx hb dL_isMarketSo_168 ?_
          refine mw_iand hx hb dL_isMarketSo_169 ?_
          refine mw_topi (y := bb) ((m_heldbit hok hk9 d).trans hBB.symm) ?_
          refine lv_aload_n hx hb dL_isMarketSo_170 rfl (lv_at hl 4 rfl) ?_
          refine lv_iload_n hx hb dL_isMarketSo_171 rfl (lv_at hl 5 rfl) ?_
          refine lv_iload_n hx hb dL_isMarketSo_172 rfl (lv_at hl 6 rfl) ?_
          refine mw_cXn (rest := [.int (mI (bb))]) (A0 := (fun _ => False)) hC (x_X0_isHeld l hfl D h0 a1 a2 cA cJ v L P k d (by omega) (by omega) hok) (mEx2_0 (by omega) (by omega)) hES hZS (cwV 2 hts gL_isMarketSo_X0_isHeld rfl rfl rfl (by decide +kernel) ⟨Nat.le_of_ble_eq_true rfl, Nat.le_of_ble_eq_true rfl⟩) hK hPx hS rfl rfl hl.1 rfl (Nat.le_of_ble_eq_true rfl) ⟨Nat.le_of_ble_eq_true rfl, Nat.le_of_ble_eq_true rfl⟩ dL_isMarketSo_173 (fun H locs hS hz hk => ?_)
          have hPx := mw_keepP hPx hk
          have hg := Nat.le_trans hg hz
          refine W.eq (g2 := F0 m 176 ls [.int (mI (mB (d % L k = P k))), .int (mI (bb))]) rfl ?_
          refine mw_zeq (tgt := 183) hx hb dL_isMarketSo_176 (by decide) (fun c_176 => ?_) (fun c_176 => ?_)
          · have q : bb = 0 := hBB.trans (mB_f c_176)
            refine mw_iconst hx hb dL_isMarketSo_183 ?_
            refine mw_icmp_ne (tgt := 230) hx hb (by omega) (by omega) dL_isMarketSo_184 (by decide) (fun c_184 => False.elim (by omega)) (fun c_184 => ?_)
            refine lv_aload_n hx hb dL_isMarketSo_187 rfl (lv_at hl 4 rfl) ?_
            refine lv_iload_n hx hb dL_isMarketSo_188 rfl (lv_at hl 5 rfl) ?_
            refine lv_iload_n hx hb dL_isMarketSo_189 rfl (lv_at hl 6 rfl) ?_
            refine lv_iload_n hx hb dL_isMarketSo_190 rfl (lv_at hl 6 rfl) ?_
            refine mw_sipush hx hb (by decide +kernel) dL_isMarketSo_191 ?_
            refine mw_iadd hx hb dL_isMarketSo_194 ?_
            refine mw_cXn (rest := []) (A0 := (fun _ => False)) hC (x_X0_times l hfl D h0 a1 a2 cA cJ v L P k d (d + 500) (by omega) (by omega) (by omega) hok) (mEx2_0 (by omega) (by omega)) hES hZS (cwV 3 hts gL_isMarketSo_X0_times rfl rfl rfl (by decide +kernel) ⟨Nat.le_of_ble_eq_true rfl, Nat.le_of_ble_eq_true rfl⟩) hK hPx hS rfl rfl hl.1 rfl (Nat.le_of_ble_eq_true rfl) ⟨Nat.le_of_ble_eq_true rfl, Nat.le_of_ble_eq_true rfl⟩ dL_isMarketSo_195 (fun H locs hS hz hk => ?_)
            have hPx := mw_keepP hPx hk
            have hg := Nat.le_trans hg hz
            refine W.eq (g2 := F0 m 198 ls [.int (mI (mCnt L P k d (d + 500)))]) rfl ?_
            refine mw_topi (y := ta) hTA.symm ?_
            refine lv_aload_n hx hb dL_isMarketSo_198 rfl (lv_at hl 4 rfl) ?_
            refine lv_iload_n hx hb dL_isMarketSo_199 rfl (lv_at hl 5 rfl) ?_
            refine lv_iload_n hx hb dL_isMarketSo_200 rfl (lv_at hl 6 rfl) ?_
            refine lv_iload_n hx hb dL_isMarketSo_201 rfl (lv_at hl 6 rfl) ?_
            refine mw_bipush hx hb (by decide +kernel) dL_isMarketSo_202 ?_
            refine mw_iadd hx hb dL_isMarketSo_204 ?_
            refine mw_cXn (rest := [.int (mI (ta))]) (A0 := (fun _ => False)) hC (x_X0_times l hfl D h0 a1 a2 cA cJ v L P k d (d + 77) (by omega) (by omega) (by omega) hok) (mEx2_0 (by omega) (by omega)) hES hZS (cwV 3 hts gL_isMarketSo_X0_times rfl rfl rfl (by decide +kernel) ⟨Nat.le_of_ble_eq_true rfl, Nat.le_of_ble_eq_true rfl⟩) hK hPx hS rfl rfl hl.1 rfl (Nat.le_of_ble_eq_true rfl) ⟨Nat.le_of_ble_eq_true rfl, Nat.le_of_ble_eq_true rfl⟩ dL_isMarketSo_205 (fun H locs hS hz hk => ?_)
            have hPx := mw_keepP hPx hk
            have hg := Nat.le_trans hg hz
            refine W.eq (g2 := F0 m 208 ls [.int (mI (mCnt L P k d (d + 77))), .int (mI (ta))]) rfl ?_
            refine mw_topi (y := tb) hTB.symm ?_
            refine lv_aload_n hx hb dL_isMarketSo_208 rfl (lv_at hl 4 rfl) ?_
            refine lv_iload_n hx hb dL_isMarketSo_209 rfl (lv_at hl 5 rfl) ?_
            refine lv_iload_n hx hb dL_isMarketSo_210 rfl (lv_at hl 6 rfl) ?_
            refine mw_bipush hx hb (by decide +kernel) dL_isMarketSo_211 ?_
            refine mw_iadd hx hb dL_isMarketSo_213 ?_
            refine lv_iload_n hx hb dL_isMarketSo_214 rfl (lv_at hl 6 rfl) ?_
            refine mw_sipush hx hb (by decide +kernel) dL_isMarketSo_215 ?_
            refine mw_iadd hx hb dL_isMarketSo_218 ?_
            refine mw_cXn (rest := [.int (mI (tb)), .int (mI (ta))]) (A0 := (fun _ => False)) hC (x_X0_times l hfl D h0 a1 a2 cA cJ v L P k (d + 78) (d + 500) (by omega) (by omega) (by omega) hok) (mEx2_0 (by omega) (by omega)) hES hZS (cwV 3 hts gL_isMarketSo_X0_times rfl rfl rfl (by decide +kernel) ⟨Nat.le_of_ble_eq_true rfl, Nat.le_of_ble_eq_true rfl⟩) hK hPx hS rfl rfl hl.1 rfl (Nat.le_of_ble_eq_true rfl) ⟨Nat.le_of_ble_eq_true rfl, Nat.le_of_ble_eq_true rfl⟩ dL_isMarketSo_219 (fun H locs hS hz hk => ?_)
            have hPx := mw_keepP hPx hk
            have hg := Nat.le_trans hg hz
            refine W.eq (g2 := F0 m 222 ls [.int (mI (mCnt L P k (d + 78) (d + 500))), .int (mI (tb)), .int (mI (ta))]) rfl ?_
            refine mw_topi (y := tc) hTC.symm ?_
            refine mw_iadd hx hb dL_isMarketSo_222 ?_
            refine mw_icmp_ne (tgt := 230) hx hb (by omega) (by omega) dL_isMarketSo_223 (by decide) (fun c_223 => False.elim (by omega)) (fun c_223 => ?_)
            refine mw_iconst hx hb dL_isMarketSo_226 ?_
            refine lv_goto (tgt := 231) hx hb dL_isMarketSo_227 (by decide) ?_
            exact mw_gretZ hx hb hr hlocks dL_isMarketSo_231 (by decide +kernel) rfl (by omega) hPx hS ⟨Nat.le_of_ble_eq_true rfl, Nat.le_of_ble_eq_true rfl⟩
          · have q : bb = 1 := hBB.trans (mB_t c_176)
            refine mw_iconst hx hb dL_isMarketSo_179 ?_
            refine lv_goto (tgt := 184) hx hb dL_isMarketSo_180 (by decide) ?_
            refine mw_icmp_ne (tgt := 230) hx hb (by omega) (by omega) dL_isMarketSo_184 (by decide) (fun c_184 => False.elim (by omega)) (fun c_184 => ?_)
            refine lv_aload_n hx hb dL_isMarketSo_187 rfl (lv_at hl 4 rfl) ?_
            refine lv_iload_n hx hb dL_isMarketSo_188 rfl (lv_at hl 5 rfl) ?_
            refine lv_iload_n hx hb dL_isMarketSo_189 rfl (lv_at hl 6 rfl) ?_
            refine lv_iload_n hx hb dL_isMarketSo_190 rfl (lv_at hl 6 rfl) ?_
            refine mw_sipush hx hb (by decide +kernel) dL_isMarketSo_191 ?_
            refine mw_iadd hx hb dL_isMarketSo_194 ?_
            refine mw_cXn (rest := []) (A0 := (fun _ => False)) hC (x_X0_times l hfl D h0 a1 a2 cA cJ v L P k d (d + 500) (by omega) (by omega) (by omega) hok) (mEx2_0 (by omega) (by omega)) hES hZS (cwV 3 hts gL_isMarketSo_X0_times rfl rfl rfl (by decide +kernel) ⟨Nat.le_of_ble_eq_true rfl, Nat.le_of_ble_eq_true rfl⟩) hK hPx hS rfl rfl hl.1 rfl (Nat.le_of_ble_eq_true rfl) ⟨Nat.le_of_ble_eq_true rfl, Nat.le_of_ble_eq_true rfl⟩ dL_isMarketSo_195 (fun H locs hS hz hk => ?_)
            have hPx := mw_keepP hPx hk
            have hg := Nat.le_trans hg hz
            refine W.eq (g2 := F0 m 198 ls [.int (mI (mCnt L P k d (d + 500)))]) rfl ?_
            refine mw_topi (y := ta) hTA.symm ?_
            refine lv_aload_n hx hb dL_isMarketSo_198 rfl (lv_at hl 4 rfl) ?_
            refine lv_iload_n hx hb dL_isMarketSo_199 rfl (lv_at hl 5 rfl) ?_
            refine lv_iload_n hx hb dL_isMarketSo_200 rfl (lv_at hl 6 rfl) ?_
            refine lv_iload_n hx hb dL_isMarketSo_201 rfl (lv_at hl 6 rfl) ?_
            refine mw_bipush hx hb (by decide +kernel) dL_isMarketSo_202 ?_
            refine mw_iadd hx hb dL_isMarketSo_204 ?_
            refine mw_cXn (rest := [.int (mI (ta))]) (A0 := (fun _ => False)) hC (x_X0_times l hfl D h0 a1 a2 cA cJ v L P k d (d + 77) (by omega) (by omega) (by omega) hok) (mEx2_0 (by omega) (by omega)) hES hZS (cwV 3 hts gL_isMarketSo_X0_times rfl rfl rfl (by decide +kernel) ⟨Nat.le_of_ble_eq_true rfl, Nat.le_of_ble_eq_true rfl⟩) hK hPx hS rfl rfl hl.1 rfl (Nat.le_of_ble_eq_true rfl) ⟨Nat.le_of_ble_eq_true rfl, Nat.le_of_ble_eq_true rfl⟩ dL_isMarketSo_205 (fun H locs hS hz hk => ?_)
            have hPx := mw_keepP hPx hk
            have hg := Nat.le_trans hg hz
            refine W.eq (g2 := F0 m 208 ls [.int (mI (mCnt L P k d (d + 77))), .int (mI (ta))]) rfl ?_
            refine mw_topi (y := tb) hTB.symm ?_
            refine lv_aload_n hx hb dL_isMarketSo_208 rfl (lv_at hl 4 rfl) ?_
            refine lv_iload_n hx hb dL_isMarketSo_209 rfl (lv_at hl 5 rfl) ?_
            refine lv_iload_n hx hb dL_isMarketSo_210 rfl (lv_at hl 6 rfl) ?_
            refine mw_bipush hx hb (by decide +kernel) dL_isMarketSo_211 ?_
            refine mw_iadd hx hb dL_isMarketSo_213 ?_
            refine lv_iload_n hx hb dL_isMarketSo_214 rfl (lv_at hl 6 rfl) ?_
            refine mw_sipush hx hb (by decide +kernel) dL_isMarketSo_215 ?_
            refine mw_iadd hx hb dL_isMarketSo_218 ?_
            refine mw_cXn (rest := [.int (mI (tb)), .int (mI (ta))]) (A0 := (fun _ => False)) hC (x_X0_times l hfl D h0 a1 a2 cA cJ v L P k (d + 78) (d + 500) (by omega) (by omega) (by omega) hok) (mEx2_0 (by omega) (by omega)) hES hZS (cwV 3 hts gL_isMarketSo_X0_times rfl rfl rfl (by decide +kernel) ⟨Nat.le_of_ble_eq_true rfl, Nat.le_of_ble_eq_true rfl⟩) hK hPx hS rfl rfl hl.1 rfl (Nat.le_of_ble_eq_true rfl) ⟨Nat.le_of_ble_eq_true rfl, Nat.le_of_ble_eq_true rfl⟩ dL_isMarketSo_219 (fun H locs hS hz hk => ?_)
            have hPx := mw_keepP hPx hk
            have hg := Nat.le_trans hg hz
            refine W.eq (g2 := F0 m 222 ls [.int (mI (mCnt L P k (d + 78) (d + 500))), .int (mI (tb)), .int (mI (ta))]) rfl ?_
            refine mw_topi (y := tc) hTC.symm ?_
            refine mw_iadd hx hb dL_isMarketSo_222 ?_
            refine mw_icmp_ne (tgt := 230) hx hb (by omega) (by omega) dL_isMarketSo_223 (by decide) (fun c_223 => False.elim (by omega)) (fun c_223 => ?_)
            refine mw_iconst hx hb dL_isMarketSo_226 ?_
            refine lv_goto (tgt := 231) hx hb dL_isMarketSo_227 (by decide) ?_
            exact mw_gretZ hx hb hr hlocks dL_isMarketSo_231 (by decide +kernel) rfl (by omega) hPx hS ⟨Nat.le_of_ble_eq_true rfl, Nat.le_of_ble_eq_true rfl⟩
      · refine lv_aload_n hx hb dL_isMarketSo_111 rfl (lv_at hl 4 rfl) ?_
        refine lv_iload_n hx hb dL_isMarketSo_112 rfl (lv_at hl 5 rfl) ?_
        refine lv_iload_n hx hb dL_isMarketSo_113 rfl (lv_at hl 6 rfl) ?_
        refine lv_iload hx hb dL_isMarketSo_114 (lv_at hl 1 rfl) ?_
        refine mw_isub hx hb dL_isMarketSo_116 ?_
        refine mw_iconst hx hb dL_isMarketSo_117 ?_
        refine mw_iadd hx hb dL_isMarketSo_118 ?_
        refine lv_iload_n hx hb dL_isMarketSo_119 rfl (lv_at hl 6 rfl) ?_
        refine lv_iload hx hb dL_isMarketSo_120 (lv_at hl 1 rfl) ?_
        refine mw_iadd hx hb dL_isMarketSo_122 ?_
        refine mw_iconst hx hb dL_isMarketSo_123 ?_
        refine mw_isub hx hb dL_isMarketSo_124 ?_
        refine mw_cXn (rest := []) (A0 := (fun _ => False)) hC (x_X0_times l hfl D h0 a1 a2 cA cJ v L P k ((d - (nr - d)) + 1) ((d + (nr - d)) - 1) (by omega) (by omega) (by omega) hok) (mEx2_0 (by omega) (by omega)) hES hZS (cwV 3 hts gL_isMarketSo_X0_times rfl rfl rfl (by decide +kernel) ⟨Nat.le_of_ble_eq_true rfl, Nat.le_of_ble_eq_true rfl⟩) hK hPx hS rfl rfl hl.1 rfl (Nat.le_of_ble_eq_true rfl) ⟨Nat.le_of_ble_eq_true rfl, Nat.le_of_ble_eq_true rfl⟩ dL_isMarketSo_125 (fun H locs hS hz hk => ?_)
        have hPx := mw_keepP hPx hk
        have hg := Nat.le_trans hg hz
        refine W.eq (g2 := F0 m 128 ls [.int (mI (mCnt L P k ((d - (nr - d)) + 1) ((d + (nr - d)) - 1)))]) rfl ?_
        refine mw_topi (y := 0) (by first | exact nrf.2.2.2.1 (by omega) (by omega) | exact (nrf.2.2.2.2 (by omega)).1) ?_
        refine mw_if_ne (tgt := 153) hx hb (by omega) dL_isMarketSo_128 (by decide) (fun c => absurd c (by decide)) (fun _ => ?_)
        refine lv_iload hx hb dL_isMarketSo_131 (lv_at hl 2 rfl) ?_
        refine lv_iload_n hx hb dL_isMarketSo_133 rfl (lv_at hl 6 rfl) ?_
        refine mw_icmp_le (tgt := 149) hx hb (by omega) (by omega) dL_isMarketSo_134 (by decide) (fun c_134 => ?_) (fun c_134 => ?_)
        · refine mw_iconst hx hb dL_isMarketSo_149 ?_
          refine lv_goto (tgt := 154) hx hb dL_isMarketSo_150 (by decide) ?_
          refine lv_istore (lv' := [(6, .int (mI (1))), (5, .int (mI (nr - d))), (4, .int (mI (nr))), (3, .int (mI (nx))), (0, .ref h0), (1, .int (mI (k))), (2, .int (mI (d)))]) hx hb dL_isMarketSo_154 hl (by decide) rfl (fun ls hl => ?_)
          refine lv_iload hx hb dL_isMarketSo_156 (lv_at hl 0 rfl) ?_
          refine mw_if_eq (tgt := 230) hx hb (by omega) dL_isMarketSo_158 (by decide) (fun c => absurd c (by decide)) (fun _ => ?_)
          refine lv_aload_n hx hb dL_isMarketSo_161 rfl (lv_at hl 4 rfl) ?_
          refine lv_iload_n hx hb dL_isMarketSo_162 rfl (lv_at hl 6 rfl) ?_
          refine mw_cXn (rest := []) (A0 := (fun _ => False)) hC (x_X0_heldOn l hfl D h0 a1 a2 cA cJ v L P d (by omega) hok) (mEx1_0 (by omega)) hES hZS (cwV 1 hts gL_isMarketSo_X0_heldOn rfl rfl rfl (by decide +kernel) ⟨Nat.le_of_ble_eq_true rfl, Nat.le_of_ble_eq_true rfl⟩) hK hPx hS rfl rfl hl.1 rfl (Nat.le_of_ble_eq_true rfl) ⟨Nat.le_of_ble_eq_true rfl, Nat.le_of_ble_eq_true rfl⟩ dL_isMarketSo_163 (fun H locs hS hz hk => ?_)
          have hPx := mw_keepP hPx hk
          have hg := Nat.le_trans hg hz
          refine W.eq (g2 := F0 m 166 ls [.int (mI (mSet L P d (v 0).toNat))]) rfl ?_
          refine lv_iload_n hx hb dL_isMarketSo_166 rfl (lv_at hl 5 rfl) ?_
          refine mw_ishr hx hb dL_isMarketSo_167 ?_
          refine mw_iconst hx hb dL_isMarketSo_168 ?_
          refine mw_iand hx hb dL_isMarketSo_169 ?_
          refine mw_topi (y := bb) ((m_heldbit hok hk9 d).trans hBB.symm) ?_
          refine lv_aload_n hx hb dL_isMarketSo_170 rfl (lv_at hl 4 rfl) ?_
          refine lv_iload_n hx hb dL_isMarketSo_171 rfl (lv_at hl 5 rfl) ?_
          refine lv_iload_n hx hb dL_isMarketSo_172 rfl (lv_at hl 6 rfl) ?_
          refine mw_cXn (rest := [.int (mI (bb))]) (A0 := (fun _ => False)) hC (x_X0_isHeld l hfl D h0 a1 a2 cA cJ v L P k d (by omega) (by omega) hok) (mEx2_0 (by omega) (by omega)) hES hZS (cwV 2 hts gL_isMarketSo_X0_isHeld rfl rfl rfl (by decide +kernel) ⟨Nat.le_of_ble_eq_true rfl, Nat.le_of_ble_eq_true rfl⟩) hK hPx hS rfl rfl hl.1 rfl (Nat.le_of_ble_eq_true rfl) ⟨Nat.le_of_ble_eq_true rfl, Nat.le_of_ble_eq_true rfl⟩ dL_isMarketSo_173 (fun H locs hS hz hk => ?_)
          have hPx := mw_keepP hPx hk
          have hg := Nat.le_trans hg hz
          refine W.eq (g2 := F0 m 176 ls [.int (mI (mB (d % L k = P k))), .int (mI (bb))]) rfl ?_
          refine mw_zeq (tgt := 183) hx hb dL_isMarketSo_176 (by decide) (fun c_176 => ?_) (fun c_176 => ?_)
          · have q : bb = 0 := hBB.trans (mB_f c_176)
            refine mw_iconst hx hb dL_isMarketSo_183 ?_
            refine mw_icmp_ne (tgt := 230) hx hb (by omega) (by omega) dL_isMarketSo_184 (by decide) (fun c_184 => False.elim (by omega)) (fun c_184 => ?_)
            refine lv_aload_n hx hb dL_isMarketSo_187 rfl (lv_at hl 4 rfl) ?_
            refine lv_iload_n hx hb dL_isMarketSo_188 rfl (lv_at hl 5 rfl) ?_
            refine lv_iload_n hx hb dL_isMarketSo_189 rfl (lv_at hl 6 rfl) ?_
            refine lv_iload_n hx hb dL_isMarketSo_190 rfl (lv_at hl 6 rfl) ?_
            refine mw_sipush hx hb (by decide +kernel) dL_isMarketSo_191 ?_
            refine mw_iadd hx hb dL_isMarketSo_194 ?_
            refine mw_cXn (rest := []) (A0 := (fun _ => False)) hC (x_X0_times l hfl D h0 a1 a2 cA cJ v L P k d (d + 500) (by omega) (by omega) (by omega) hok) (mEx2_0 (by omega) (by omega)) hES hZS (cwV 3 hts gL_isMarketSo_X0_times rfl rfl rfl (by decide +kernel) ⟨Nat.le_of_ble_eq_true rfl, Nat.le_of_ble_eq_true rfl⟩) hK hPx hS rfl rfl hl.1 rfl (Nat.le_of_ble_eq_true rfl) ⟨Nat.le_of_ble_eq_true rfl, Nat.le_of_ble_eq_true rfl⟩ dL_isMarketSo_195 (fun H locs hS hz hk => ?_)
            have hPx := mw_keepP hPx hk
            have hg := Nat.le_trans hg hz
            refine W.eq (g2 := F0 m 198 ls [.int (mI (mCnt L P k d (d + 500)))]) rfl ?_
            refine mw_topi (y := ta) hTA.symm ?_
            refine lv_aload_n hx hb dL_isMarketSo_198 rfl (lv_at hl 4 rfl) ?_
            refine lv_iload_n hx hb dL_isMarketSo_199 rfl (lv_at hl 5 rfl) ?_
            refine lv_iload_n hx hb dL_isMarketSo_200 rfl (lv_at hl 6 rfl) ?_
            refine lv_iload_n hx hb dL_isMarketSo_201 rfl (lv_at hl 6 rfl) ?_
            refine mw_bipush hx hb (by decide +kernel) dL_isMarketSo_202 ?_
            refine mw_iadd hx hb dL_isMarketSo_204 ?_
            refine mw_cXn (rest := [.int (mI (ta))]) (A0 := (fun _ => False)) hC (x_X0_times l hfl D h0 a1 a2 cA cJ v L P k d (d + 77) (by omega) (by omega) (by omega) hok) (mEx2_0 (by omega) (by omega)) hES hZS (cwV 3 hts gL_isMarketSo_X0_times rfl rfl rfl (by decide +kernel) ⟨Nat.le_of_ble_eq_true rfl, Nat.le_of_ble_eq_true rfl⟩) hK hPx hS rfl rfl hl.1 rfl (Nat.le_of_ble_eq_true rfl) ⟨Nat.le_of_ble_eq_true rfl, Nat.le_of_ble_eq_true rfl⟩ dL_isMarketSo_205 (fun H locs hS hz hk => ?_)
            have hPx := mw_keepP hPx hk
            have hg := Nat.le_trans hg hz
            refine W.eq (g2 := F0 m 208 ls [.int (mI (mCnt L P k d (d + 77))), .int (mI (ta))]) rfl ?_
            refine mw_topi (y := tb) hTB.symm ?_
            refine lv_aload_n hx hb dL_isMarketSo_208 rfl (lv_at hl 4 rfl) ?_
            refine lv_iload_n hx hb dL_isMarketSo_209 rfl (lv_at hl 5 rfl) ?_
            refine lv_iload_n hx hb dL_isMarketSo_210 rfl (lv_at hl 6 rfl) ?_
            refine mw_bipush hx hb (by decide +kernel) dL_isMarketSo_211 ?_
            refine mw_iadd hx hb dL_isMarketSo_213 ?_
            refine lv_iload_n hx hb dL_isMarketSo_214 rfl (lv_at hl 6 rfl) ?_
            refine mw_sipush hx hb (by decide +kernel) dL_isMarketSo_215 ?_
            refine mw_iadd hx hb dL_isMarketSo_218 ?_
            refine mw_cXn (rest := [.int (mI (tb)), .int (mI (ta))]) (A0 := (fun _ => False)) hC (x_X0_times l hfl D h0 a1 a2 cA cJ v L P k (d + 78) (d + 500) (by omega) (by omega) (by omega) hok) (mEx2_0 (by omega) (by omega)) hES hZS (cwV 3 hts gL_isMarketSo_X0_times rfl rfl rfl (by decide +kernel) ⟨Nat.le_of_ble_eq_true rfl, Nat.le_of_ble_eq_true rfl⟩) hK hPx hS rfl rfl hl.1 rfl (Nat.le_of_ble_eq_true rfl) ⟨Nat.le_of_ble_eq_true rfl, Nat.le_of_ble_eq_true rfl⟩ dL_isMarketSo_219 (fun H locs hS hz hk => ?_)
            have hPx := mw_keepP hPx hk
            have hg := Nat.le_trans hg hz
            refine W.eq (g2 := F0 m 222 ls [.int (mI (mCnt L P k (d + 78) (d + 500))), .int (mI (tb)), .int (mI (ta))]) rfl ?_
            refine mw_topi (y := tc) hTC.symm ?_
            refine mw_iadd hx hb dL_isMarketSo_222 ?_
            refine mw_icmp_ne (tgt := 230) hx hb (by omega) (by omega) dL_isMarketSo_223 (by decide) (fun c_223 => False.elim (by omega)) (fun c_223 => ?_)
            refine mw_iconst hx hb dL_isMarketSo_226 ?_
            refine lv_goto (tgt := 231) hx hb dL_isMarketSo_227 (by decide) ?_
            exact mw_gretZ hx hb hr hlocks dL_isMarketSo_231 (by decide +kernel) rfl (by omega) hPx hS ⟨Nat.le_of_ble_eq_true rfl, Nat.le_of_ble_eq_true rfl⟩
          · have q : bb = 1 := hBB.trans (mB_t c_176)
            refine mw_iconst hx hb dL_isMarketSo_179 ?_
            refine lv_goto (tgt := 184) hx hb dL_isMarketSo_180 (by decide) ?_
            refine mw_icmp_ne (tgt := 230) hx hb (by omega) (by omega) dL_isMarketSo_184 (by decide) (fun c_184 => False.elim (by omega)) (fun c_184 => ?_)
            refine lv_aload_n hx hb dL_isMarketSo_187 rfl (lv_at hl 4 rfl) ?_
            refine lv_iload_n hx hb dL_isMarketSo_188 rfl (lv_at hl 5 rfl) ?_
            refine lv_iload_n hx hb dL_isMarketSo_189 rfl (lv_at hl 6 rfl) ?_
            refine lv_iload_n hx hb dL_isMarketSo_190 rfl (lv_at hl 6 rfl) ?_
            refine mw_sipush hx hb (by decide +kernel) dL_isMarketSo_191 ?_
            refine mw_iadd hx hb dL_isMarketSo_194 ?_
            refine mw_cXn (rest := []) (A0 := (fun _ => False)) hC (x_X0_times l hfl D h0 a1 a2 cA cJ v L P k d (d + 500) (by omega) (by omega) (by omega) hok) (mEx2_0 (by omega) (by omega)) hES hZS (cwV 3 hts gL_isMarketSo_X0_times rfl rfl rfl (by decide +kernel) ⟨Nat.le_of_ble_eq_true rfl, Nat.le_of_ble_eq_true rfl⟩) hK hPx hS rfl rfl hl.1 rfl (Nat.le_of_ble_eq_true rfl) ⟨Nat.le_of_ble_eq_true rfl, Nat.le_of_ble_eq_true rfl⟩ dL_isMarketSo_195 (fun H locs hS hz hk => ?_)
            have hPx := mw_keepP hPx hk
            have hg := Nat.le_trans hg hz
            refine W.eq (g2 := F0 m 198 ls [.int (mI (mCnt L P k d (d + 500)))]) rfl ?_
            refine mw_topi (y := ta) hTA.symm ?_
            refine lv_aload_n hx hb dL_isMarketSo_198 rfl (lv_at hl 4 rfl) ?_
            refine lv_iload_n hx hb dL_isMarketSo_199 rfl (lv_at hl 5 rfl) ?_
            refine lv_iload_n hx hb dL_isMarketSo_200 rfl (lv_at hl 6 rfl) ?_
            refine lv_iload_n hx hb dL_isMarketSo_201 rfl (lv_at hl 6 rfl) ?_
            refine mw_bipush hx hb (by decide +kernel) dL_isMarketSo_202 ?_
            refine mw_iadd hx hb dL_isMarketSo_204 ?_
            refine mw_cXn (rest := [.int (mI (ta))]) (A0 := (fun _ => False)) hC (x_X0_times l hfl D h0 a1 a2 cA cJ v L P k d (d + 77) (by omega) (by omega) (by omega) hok) (mEx2_0 (by omega) (by omega)) hES hZS (cwV 3 hts gL_isMarketSo_X0_times rfl rfl rfl (by decide +kernel) ⟨Nat.le_of_ble_eq_true rfl, Nat.le_of_ble_eq_true rfl⟩) hK hPx hS rfl rfl hl.1 rfl (Nat.le_of_ble_eq_true rfl) ⟨Nat.le_of_ble_eq_true rfl, Nat.le_of_ble_eq_true rfl⟩ dL_isMarketSo_205 (fun H locs hS hz hk => ?_)
            have hPx := mw_keepP hPx hk
            have hg := Nat.le_trans hg hz
            refine W.eq (g2 := F0 m 208 ls [.int (mI (mCnt L P k d (d + 77))), .int (mI (ta))]) rfl ?_
            refine mw_topi (y := tb) hTB.symm ?_
            refine lv_aload_n hx hb dL_isMarketSo_208 rfl (lv_at hl 4 rfl) ?_
            refine lv_iload_n hx hb dL_isMarketSo_209 rfl (lv_at hl 5 rfl) ?_
            refine lv_iload_n hx hb dL_isMarketSo_210 rfl (lv_at hl 6 rfl) ?_
            refine mw_bipush hx hb (by decide +kernel) dL_isMarketSo_211 ?_
            refine mw_iadd hx hb dL_isMarketSo_213 ?_
            refine lv_iload_n hx hb dL_isMarketSo_214 rfl (lv_at hl 6 rfl) ?_
            refine mw_sipush hx hb (by decide +kernel) dL_isMarketSo_215 ?_
            refine mw_iadd hx hb dL_isMarketSo_218 ?_
            refine mw_cXn (rest := [.int (mI (tb)), .int (mI (ta))]) (A0 := (fun _ => False)) hC (x_X0_times l hfl D h0 a1 a2 cA cJ v L P k (d + 78) (d + 500) (by omega) (by omega) (by omega) hok) (mEx2_0 (by omega) (by omega)) hES hZS (cwV 3 hts gL_isMarketSo_X0_times rfl rfl rfl (by decide +kernel) ⟨Nat.le_of_ble_eq_true rfl, Nat.le_of_ble_eq_true rfl⟩) hK hPx hS rfl rfl hl.1 rfl (Nat.le_of_ble_eq_true rfl) ⟨Nat.le_of_ble_eq_true rfl, Nat.le_of_ble_eq_true rfl⟩ dL_isMarketSo_219 (fun H locs hS hz hk => ?_)
            have hPx := mw_keepP hPx hk
            have hg := Nat.le_trans hg hz
            refine W.eq (g2 := F0 m 222 ls [.int (mI (mCnt L P k (d + 78) (d + 500))), .int (mI (tb)), .int (mI (ta))]) rfl ?_
            refine mw_topi (y := tc) hTC.symm ?_
            refine mw_iadd hx hb dL_isMarketSo_222 ?_
            refine mw_icmp_ne (tgt := 230) hx hb (by omega) (by omega) dL_isMarketSo_223 (by decide) (fun c_223 => False.elim (by omega)) (fun c_223 => ?_)
            refine mw_iconst hx hb dL_isMarketSo_226 ?_
            refine lv_goto (tgt := 231) hx hb dL_isMarketSo_227 (by decide) ?_
            exact mw_gretZ hx hb hr hlocks dL_isMarketSo_231 (by decide +kernel) rfl (by omega) hPx hS ⟨Nat.le_of_ble_eq_true rfl, Nat.le_of_ble_eq_true rfl⟩
        · refine lv_aload_n hx hb dL_isMarketSo_137 rfl (lv_at hl 4 rfl) ?_
          refine lv_iload_n hx hb dL_isMarketSo_138 rfl (lv_at hl 5 rfl) ?_
          refine lv_iload_n hx hb dL_isMarketSo_139 rfl (lv_at hl 6 rfl) ?_
          refine lv_iload hx hb dL_isMarketSo_140 (lv_at hl 1 rfl) ?_
          refine mw_isub hx hb dL_isMarketSo_142 ?_
          refine mw_cXn (rest := []) (A0 := (fun _ => False)) hC (x_X0_isHeld l hfl D h0 a1 a2 cA cJ v L P k (d - (nr - d)) (by omega) (by omega) hok) (mEx2_0 (by omega) (by omega)) hES hZS (cwV 2 hts gL_isMarketSo_X0_isHeld rfl rfl rfl (by decide +kernel) ⟨Nat.le_of_ble_eq_true rfl, Nat.le_of_ble_eq_true rfl⟩) hK hPx hS rfl rfl hl.1 rfl (Nat.le_of_ble_eq_true rfl) ⟨Nat.le_of_ble_eq_true rfl, Nat.le_of_ble_eq_true rfl⟩ dL_isMarketSo_143 (fun H locs hS hz hk => ?_)
          have hPx := mw_keepP hPx hk
          have hg := Nat.le_trans hg hz
          refine W.eq (g2 := F0 m 146 ls [.int (mI (mB ((d - (nr - d)) % L k = P k)))]) rfl ?_
          refine mw_zne (tgt := 153) hx hb dL_isMarketSo_146 (by decide) (fun c_146 => False.elim (by first | exact (nrf.2.2.2.2 (by omega)).2 c_146 | (exfalso; omega))) (fun c_146 => ?_)
          refine mw_iconst hx hb dL_isMarketSo_149 ?_
          refine lv_goto (tgt := 154) hx hb dL_isMarketSo_150 (by decide) ?_
          refine lv_istore (lv' := [(6, .int (mI (1))), (5, .int (mI (nr - d))), (4, .int (mI (nr))), (3, .int (mI (nx))), (0, .ref h0), (1, .int (mI (k))), (2, .int (mI (d)))]) hx hb dL_isMarketSo_154 hl (by decide) rfl (fun ls hl => ?_)
          refine lv_iload hx hb dL_isMarketSo_156 (lv_at hl 0 rfl) ?_
          refine mw_if_eq (tgt := 230) hx hb (by omega) dL_isMarketSo_158 (by decide) (fun c => absurd c (by decide)) (fun _ => ?_)
          refine lv_aload_n hx hb dL_isMarketSo_161 rfl (lv_at hl 4 rfl) ?_
          refine lv_iload_n hx hb dL_isMarketSo_162 rfl (lv_at hl 6 rfl) ?_
          refine mw_cXn (rest := []) (A0 := (fun _ => False)) hC (x_X0_heldOn l hfl D h0 a1 a2 cA cJ v L P d (by omega) hok) (mEx1_0 (by omega)) hES hZS (cwV 1 hts gL_isMarketSo_X0_heldOn rfl rfl rfl (by decide +kernel) ⟨Nat.le_of_ble_eq_true rfl, Nat.le_of_ble_eq_true rfl⟩) hK hPx hS rfl rfl hl.1 rfl (Nat.le_of_ble_eq_true rfl) ⟨Nat.le_of_ble_eq_true rfl, Nat.le_of_ble_eq_true rfl⟩ dL_isMarketSo_163 (fun H locs hS hz hk => ?_)
          have hPx := mw_keepP hPx hk
          have hg := Nat.le_trans hg hz
          refine W.eq (g2 := F0 m 166 ls [.int (mI (mSet L P d (v 0).toNat))]) rfl ?_
          refine lv_iload_n hx hb dL_isMarketSo_166 rfl (lv_at hl 5 rfl) ?_
          refine mw_ishr hx hb dL_isMarketSo_167 ?_
          refine mw_iconst hx hb dL_isMarketSo_168 ?_
          refine mw_iand hx hb dL_isMarketSo_169 ?_
          refine mw_topi (y := bb) ((m_heldbit hok hk9 d).trans hBB.symm) ?_
          refine lv_aload_n hx hb dL_isMarketSo_170 rfl (lv_at hl 4 rfl) ?_
          refine lv_iload_n hx hb dL_isMarketSo_171 rfl (lv_at hl 5 rfl) ?_
          refine lv_iload_n hx hb dL_isMarketSo_172 rfl (lv_at hl 6 rfl) ?_
          refine mw_cXn (rest := [.int (mI (bb))]) (A0 := (fun _ => False)) hC (x_X0_isHeld l hfl D h0 a1 a2 cA cJ v L P k d (by omega) (by omega) hok) (mEx2_0 (by omega) (by omega)) hES hZS (cwV 2 hts gL_isMarketSo_X0_isHeld rfl rfl rfl (by decide +kernel) ⟨Nat.le_of_ble_eq_true rfl, Nat.le_of_ble_eq_true rfl⟩) hK hPx hS rfl rfl hl.1 rfl (Nat.le_of_ble_eq_true rfl) ⟨Nat.le_of_ble_eq_true rfl, Nat.le_of_ble_eq_true rfl⟩ dL_isMarketSo_173 (fun H locs hS hz hk => ?_)
          have hPx := mw_keepP hPx hk
          have hg := Nat.le_trans hg hz
          refine W.eq (g2 := F0 m 176 ls [.int (mI (mB (d % L k = P k))), .int (mI (bb))]) rfl ?_
          refine mw_zeq (tgt := 183) hx hb dL_isMarketSo_176 (by decide) (fun c_176 => ?_) (fun c_176 => ?_)
          · have q : bb = 0 := hBB.trans (mB_f c_176)
            refine mw_iconst hx hb dL_isMarketSo_183 ?_
            refine mw_icmp_ne (tgt := 230) hx hb (by omega) (by omega) dL_isMarketSo_184 (by decide) (fun c_184 => False.elim (by omega)) (fun c_184 => ?_)
            refine lv_aload_n hx hb dL_isMarketSo_187 rfl (lv_at hl 4 rfl) ?_
            refine lv_iload_n hx hb dL_isMarketSo_188 rfl (lv_at hl 5 rfl) ?_
            refine lv_iload_n hx hb dL_isMarketSo_189 rfl (lv_at hl 6 rfl) ?_
            refine lv_iload_n hx hb dL_isMarketSo_190 rfl (lv_at hl 6 rfl) ?_
            refine mw_sipush hx hb (by decide +kernel) dL_isMarketSo_191 ?_
            refine mw_iadd hx hb dL_isMarketSo_194 ?_
            refine mw_cXn (rest := []) (A0 := (fun _ => False)) hC (x_X0_times l hfl D h0 a1 a2 cA cJ v L P k d (d + 500) (by omega) (by omega) (by omega) hok) (mEx2_0 (by omega) (by omega)) hES hZS (cwV 3 hts gL_isMarketSo_X0_times rfl rfl rfl (by decide +kernel) ⟨Nat.le_of_ble_eq_true rfl, Nat.le_of_ble_eq_true rfl⟩) hK hPx hS rfl rfl hl.1 rfl (Nat.le_of_ble_eq_true rfl) ⟨Nat.le_of_ble_eq_true rfl, Nat.le_of_ble_eq_true rfl⟩ dL_isMarketSo_195 (fun H locs hS hz hk => ?_)
            have hPx := mw_keepP hPx hk
            have hg := Nat.le_trans hg hz
            refine W.eq (g2 := F0 m 198 ls [.int (mI (mCnt L P k d (d + 500)))]) rfl ?_
            refine mw_topi (y := ta) hTA.symm ?_
            refine lv_aload_n hx hb dL_isMarketSo_198 rfl (lv_at hl 4 rfl) ?_
            refine lv_iload_n hx hb dL_isMarketSo_199 rfl (lv_at hl 5 rfl) ?_
            refine lv_iload_n hx hb dL_isMarketSo_200 rfl (lv_at hl 6 rfl) ?_
            refine lv_iload_n hx hb dL_isMarketSo_201 rfl (lv_at hl 6 rfl) ?_
            refine mw_bipush hx hb (by decide +kernel) dL_isMarketSo_202 ?_
            refine mw_iadd hx hb dL_isMarketSo_204 ?_
            refine mw_cXn (rest := [.int (mI (ta))]) (A0 := (fun _ => False)) hC (x_X0_times l hfl D h0 a1 a2 cA cJ v L P k d (d + 77) (by omega) (by omega) (by omega) hok) (mEx2_0 (by omega) (by omega)) hES hZS (cwV 3 hts gL_isMarketSo_X0_times rfl rfl rfl (by decide +kernel) ⟨Nat.le_of_ble_eq_true rfl, Nat.le_of_ble_eq_true rfl⟩) hK hPx hS rfl rfl hl.1 rfl (Nat.le_of_ble_eq_true rfl) ⟨Nat.le_of_ble_eq_true rfl, Nat.le_of_ble_eq_true rfl⟩ dL_isMarketSo_205 (fun H locs hS hz hk => ?_)
            have hPx := mw_keepP hPx hk
            have hg := Nat.le_trans hg hz
            refine W.eq (g2 := F0 m 208 ls [.int (mI (mCnt L P k d (d + 77))), .int (mI (ta))]) rfl ?_
            refine mw_topi (y := tb) hTB.symm ?_
            refine lv_aload_n hx hb dL_isMarketSo_208 rfl (lv_at hl 4 rfl) ?_
            refine lv_iload_n hx hb dL_isMarketSo_209 rfl (lv_at hl 5 rfl) ?_
            refine lv_iload_n hx hb dL_isMarketSo_210 rfl (lv_at hl 6 rfl) ?_
            refine mw_bipush hx hb (by decide +kernel) dL_isMarketSo_211 ?_
            refine mw_iadd hx hb dL_isMarketSo_213 ?_
            refine lv_iload_n hx hb dL_isMarketSo_214 rfl (lv_at hl 6 rfl) ?_
            refine mw_sipush hx hb (by decide +kernel) dL_isMarketSo_215 ?_
            refine mw_iadd hx hb dL_isMarketSo_218 ?_
            refine mw_cXn (rest := [.int (mI (tb)), .int (mI (ta))]) (A0 := (fun _ => False)) hC (x_X0_times l hfl D h0 a1 a2 cA cJ v L P k (d + 78) (d + 500) (by omega) (by omega) (by omega) hok) (mEx2_0 (by omega) (by omega)) hES hZS (cwV 3 hts gL_isMarketSo_X0_times rfl rfl rfl (by decide +kernel) ⟨Nat.le_of_ble_eq_true rfl, Nat.le_of_ble_eq_true rfl⟩) hK hPx hS rfl rfl hl.1 rfl (Nat.le_of_ble_eq_true rfl) ⟨Nat.le_of_ble_eq_true rfl, Nat.le_of_ble_eq_true rfl⟩ dL_isMarketSo_219 (fun H locs hS hz hk => ?_)
            have hPx := mw_keepP hPx hk
            have hg := Nat.le_trans hg hz
            refine W.eq (g2 := F0 m 222 ls [.int (mI (mCnt L P k (d + 78) (d + 500))), .int (mI (tb)), .int (mI (ta))]) rfl ?_
            refine mw_topi (y := tc) hTC.symm ?_
            refine mw_iadd hx hb dL_isMarketSo_222 ?_
            refine mw_icmp_ne (tgt := 230) hx hb (by omega) (by omega) dL_isMarketSo_223 (by decide) (fun c_223 => False.elim (by omega)) (fun c_223 => ?_)
            refine mw_iconst hx hb dL_isMarketSo_226 ?_
            refine lv_goto (tgt := 231) hx hb dL_isMarketSo_227 (by decide) ?_
            exact mw_gretZ hx hb hr hlocks dL_isMarketSo_231 (by decide +kernel) rfl (by omega) hPx hS ⟨Nat.le_of_ble_eq_true rfl, Nat.le_of_ble_eq_true rfl⟩
          · have q : bb = 1 := hBB.trans (mB_t c_176)
            refine mw_iconst hx hb dL_isMarketSo_179 ?_
            refine lv_goto (tgt := 184) hx hb dL_isMarketSo_180 (by decide) ?_
            refine mw_icmp_ne (tgt := 230) hx hb (by omega) (by omega) dL_isMarketSo_184 (by decide) (fun c_184 => False.elim (by omega)) (fun c_184 => ?_)
            refine lv_aload_n hx hb dL_isMarketSo_187 rfl (lv_at hl 4 rfl) ?_
            refine lv_iload_n hx hb dL_isMarketSo_188 rfl (lv_at hl 5 rfl) ?_
            refine lv_iload_n hx hb dL_isMarketSo_189 rfl (lv_at hl 6 rfl) ?_
            refine lv_iload_n hx hb dL_isMarketSo_190 rfl (lv_at hl 6 rfl) ?_
            refine mw_sipush hx hb (by decide +kernel) dL_isMarketSo_191 ?_
            refine mw_iadd hx hb dL_isMarketSo_194 ?_
            refine mw_cXn (rest := []) (A0 := (fun _ => False)) hC (x_X0_times l hfl D h0 a1 a2 cA cJ v L P k d (d + 500) (by omega) (by omega) (by omega) hok) (mEx2_0 (by omega) (by omega)) hES hZS (cwV 3 hts gL_isMarketSo_X0_times rfl rfl rfl (by decide +kernel) ⟨Nat.le_of_ble_eq_true rfl, Nat.le_of_ble_eq_true rfl⟩) hK hPx hS rfl rfl hl.1 rfl (Nat.le_of_ble_eq_true rfl) ⟨Nat.le_of_ble_eq_true rfl, Nat.le_of_ble_eq_true rfl⟩ dL_isMarketSo_195 (fun H locs hS hz hk => ?_)
            have hPx := mw_keepP hPx hk
            have hg := Nat.le_trans hg hz
            refine W.eq (g2 := F0 m 198 ls [.int (mI (mCnt L P k d (d + 500)))]) rfl ?_
            refine mw_topi (y := ta) hTA.symm ?_
            refine lv_aload_n hx hb dL_isMarketSo_198 rfl (lv_at hl 4 rfl) ?_
            refine lv_iload_n hx hb dL_isMarketSo_199 rfl (lv_at hl 5 rfl) ?_
            refine lv_iload_n hx hb dL_isMarketSo_200 rfl (lv_at hl 6 rfl) ?_
            refine lv_iload_n hx hb dL_isMarketSo_201 rfl (lv_at hl 6 rfl) ?_
            refine mw_bipush hx hb (by decide +kernel) dL_isMarketSo_202 ?_
            refine mw_iadd hx hb dL_isMarketSo_204 ?_
            refine mw_cXn (rest := [.int (mI (ta))]) (A0 := (fun _ => False)) hC (x_X0_times l hfl D h0 a1 a2 cA cJ v L P k d (d + 77) (by omega) (by omega) (by omega) hok) (mEx2_0 (by omega) (by omega)) hES hZS (cwV 3 hts gL_isMarketSo_X0_times rfl rfl rfl (by decide +kernel) ⟨Nat.le_of_ble_eq_true rfl, Nat.le_of_ble_eq_true rfl⟩) hK hPx hS rfl rfl hl.1 rfl (Nat.le_of_ble_eq_true rfl) ⟨Nat.le_of_ble_eq_true rfl, Nat.le_of_ble_eq_true rfl⟩ dL_isMarketSo_205 (fun H locs hS hz hk => ?_)
            have hPx := mw_keepP hPx hk
            have hg := Nat.le_trans hg hz
            refine W.eq (g2 := F0 m 208 ls [.int (mI (mCnt L P k d (d + 77))), .int (mI (ta))]) rfl ?_
            refine mw_topi (y := tb) hTB.symm ?_
            refine lv_aload_n hx hb dL_isMarketSo_208 rfl (lv_at hl 4 rfl) ?_
            refine lv_iload_n hx hb dL_isMarketSo_209 rfl (lv_at hl 5 rfl) ?_
            refine lv_iload_n hx hb dL_isMarketSo_210 rfl (lv_at hl 6 rfl) ?_
            refine mw_bipush hx hb (by decide +kernel) dL_isMarketSo_211 ?_
            refine mw_iadd hx hb dL_isMarketSo_213 ?_
            refine lv_iload_n hx hb dL_isMarketSo_214 rfl (lv_at hl 6 rfl) ?_
            refine mw_sipush hx hb (by decide +kernel) dL_isMarketSo_215 ?_
            refine mw_iadd hx hb dL_isMarketSo_218 ?_
            refine mw_cXn (rest := [.int (mI (tb)), .int (mI (ta))]) (A0 := (fun _ => False)) hC (x_X0_times l hfl D h0 a1 a2 cA cJ v L P k (d + 78) (d + 500) (by omega) (by omega) (by omega) hok) (mEx2_0 (by omega) (by omega)) hES hZS (cwV 3 hts gL_isMarketSo_X0_times rfl rfl rfl (by decide +kernel) ⟨Nat.le_of_ble_eq_true rfl, Nat.le_of_ble_eq_true rfl⟩) hK hPx hS rfl rfl hl.1 rfl (Nat.le_of_ble_eq_true rfl) ⟨Nat.le_of_ble_eq_true rfl, Nat.le_of_ble_eq_true rfl⟩ dL_isMarketSo_219 (fun H locs hS hz hk => ?_)
            have hPx := mw_keepP hPx hk
            have hg := Nat.le_trans hg hz
            refine W.eq (g2 := F0 m 222 ls [.int (mI (mCnt L P k (d + 78) (d + 500))), .int (mI (tb)), .int (mI (ta))]) rfl ?_
            refine mw_topi (y := tc) hTC.symm ?_
            refine mw_iadd hx hb dL_isMarketSo_222 ?_
            refine mw_icmp_ne (tgt := 230) hx hb (by omega) (by omega) dL_isMarketSo_223 (by decide) (fun c_223 => False.elim (by omega)) (fun c_223 => ?_)
            refine mw_iconst hx hb dL_isMarketSo_226 ?_
            refine lv_goto (tgt := 231) hx hb dL_isMarketSo_227 (by decide) ?_
            exact mw_gretZ hx hb hr hlocks dL_isMarketSo_231 (by decide +kernel) rfl (by omega) hPx hS ⟨Nat.le_of_ble_eq_true rfl, Nat.le_of_ble_eq_true rfl⟩
