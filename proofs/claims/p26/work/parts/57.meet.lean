theorem mEx3_and {a a' b c : Prop} [Decidable a] [Decidable a'] [Decidable b] [Decidable c] (h : a ↔ a') : mEx3 a b c = mEx3 a' b c := by
  unfold mEx3
  by_cases q : a
  · rw [if_pos q, if_pos (h.mp q)]
  · rw [if_neg q, if_neg (fun z => q (h.mpr z))]
theorem mEx3_3z {a b c : Prop} [Decidable a] [Decidable b] [Decidable c] (h : mEx3 a b c = 3) : a ∧ b ∧ ¬ c := by
  by_cases c1 : a
  · by_cases c2 : b
    · by_cases c3 : c
      · rw [mEx3_0 c1 c2 c3] at h; cases h
      · exact ⟨c1, c2, c3⟩
    · rw [mEx3_2 c1 c2] at h; cases h
  · rw [mEx3_1 c1] at h; cases h
theorem m_ush0 {z k : Int} (hz : mRI z) (hk : 0 ≤ k ∧ k ≤ 16) (h : mUsh z k = 0) : (0 ≤ z ∧ z < 2147483648) ∧ z < 2 ^ k.toNat := by
  obtain ⟨j, rfl⟩ : ∃ j : Nat, k = (j : Int) := ⟨k.toNat, by omega⟩
  have h1 := mUsh_e z j (by omega)
  rw [h] at h1
  have e0 : ((j : Int)).toNat = j := by omega
  rw [e0]
  have p16 : (2 : Int) ^ j ≤ 65536 := by
    have h1 : (2 : Nat) ^ j ≤ 2 ^ 16 := Nat.pow_le_pow_right (by omega) (by omega)
    have h2 : (((2 : Nat) ^ j : Nat) : Int) = (2 : Int) ^ j := by rw [Int.natCast_pow]; rfl
    have h3 : ((2 : Nat) ^ 16) = 65536 := by decide
    omega
  have pk := m_pow j
  have h2 : z % 4294967296 < 2 ^ j := by
    have h3 := Int.lt_ediv_add_one_mul_self (z % 4294967296) pk
    rw [← h1] at h3
    omega
  omega
theorem m_me {st d0 x : Int} (hs : 1 ≤ st) : st ∣ (x + (d0 - x) % st) - d0 := by
  have := Int.mul_ediv_add_emod (d0 - x) st
  exact ⟨-((d0 - x) / st), by rw [Int.mul_neg]; omega⟩
theorem m_me2 {st d0 me : Int} (hs : 1 ≤ st) (h : st ∣ me - d0) : (d0 - me) % st = 0 ∧ (d0 - (me + 1)) % st = st - 1 := by
  obtain ⟨q, hq⟩ := h
  constructor
  · exact (m_mod_iff (x := d0 - me) (L := st) (P := 0) (by omega) (by omega) (by omega)).mpr ⟨-q, by rw [Int.mul_neg]; omega⟩
  · exact (m_mod_iff (x := d0 - (me + 1)) (L := st) (P := st - 1) (by omega) (by omega) (by omega)).mpr ⟨-q - 1, by rw [Int.mul_sub, Int.mul_neg]; omega⟩
set_option maxHeartbeats 2000000 in
set_option maxRecDepth 100000 in
theorem g_meet_c (l : Launch) (hfl : l.flags = flags0) (D : va_G) (h0 a1 a2 : Nat) (cA cJ : ClassId) (v : Nat → Int) (L P : Int → Int) (z d : Int) (hd : -900000 ≤ d ∧ d ≤ 900000) (hz : mRI z) (he : mEx3 (1 ≤ mPop z 32 ∧ mPop z 32 ≤ 5) (mUsh z (v 0) = 0) (mMts v L P z) = 0) (hok : mOK v L P) : mG l yL_isMeetingSo wsL_isMeetingSo ({ frames := 10, cells := 2, slots := 12, locals := 179 }) [.ref h0, .int (mI (z)), .int (mI (d))] D (mXW h0 a1 a2 cA v L P) (mTy cA cJ) 1 0 (mXW h0 a1 a2 cA v L P) (fun _ => False) 2 12 := by
  refine mw_openG (cc := cL_isMeetingSo) (maxL := 6) (ret := (some .boolean)) (by decide) rfl (Nat.le_of_ble_eq_true rfl) ?_
  intro p e s m below meth c ls hC hr hlocks hB hE hNS hl
  obtain ⟨hx, hb, hml, hown, hts⟩ := id hC
  obtain ⟨hP, hK⟩ := hB
  obtain ⟨hES, hZ0⟩ := hE
  have hZS : mwZ (fun _ => False) s s.heap := hZ0
  have hS : va_S (fun _ => False) s.heap s.heap [] := va_S.rf
  have hg : s.heap.size + 0 ≤ s.heap.size := Nat.le_refl _
  have hPx := hP.sub (ws' := mXW h0 a1 a2 cA v L P) [0, 1, 2] rfl
  have hl : lv_has ls 6 [(0, .ref h0), (1, .int (mI (z))), (2, .int (mI (d)))] := hl
  have hv9 := hok.1
  have hEd : ∀ x, mDay x → mEx3 (mDay x ∧ 1 ≤ mPop z 32 ∧ mPop z 32 ≤ 5) (mUsh z (v 0) = 0) (mMts v L P z) = mEx3 (1 ≤ mPop z 32 ∧ mPop z 32 ≤ 5) (mUsh z (v 0) = 0) (mMts v L P z) := fun x hx => mEx3_and ⟨fun q => q.2, fun q => ⟨hx, q⟩⟩
  have eed := hEd d (by omega)
  have hx9 := mEx3_z he
  obtain ⟨d0, st, e0, e1, e2, hst, hd0⟩ := (m_mts (z := z) hok (by omega)).2.1 hx9.2.2
  have hu := m_ush0 hz (by omega) hx9.2.1
  have hall := ((m_find (L := L) (P := P) (z := z) (d0 := 0) (v 0).toNat (fun i h1 h2 => hok.2.1 i h1 (by omega))).1 d0 st e0).2.2
  have hme := m_me (st := st) (d0 := d0) (x := d) (by omega)
  have hmr := m_mod_r (a := d0 - d) (b := st) (by omega)
  obtain ⟨me, hME⟩ : ∃ me, me = d + (d0 - d) % st := ⟨_, rfl⟩
  rw [← hME] at hme
  have hq := m_me2 (by omega) hme
  have hin : mAnd (mSet L P me (v 0).toNat) z = z := m_in (by omega) hu.1 hu.2 ((hall me).mpr hme)
  obtain ⟨lm, hLM⟩ : ∃ lm, lm = mLun v d 99 st (3 : Int).toNat ((d0 - d) % st) := ⟨_, rfl⟩
  have rlm : -1 ≤ lm ∧ lm ≤ 4000000000 := by
    have h1 := m_lun_b (v := v) (d := d) (ld := 99) (st := st) (by omega) (3 : Int).toNat ((d0 - d) % st) hmr.1
    have h3 : (((3 : Int).toNat : Nat) : Int) = 3 := by decide
    rw [h3] at h1
    rw [hLM]
    omega
  refine lv_aload_n hx hb dL_isMeetingSo_0 rfl (lv_at hl 0 rfl) ?_
  refine lv_iload_n hx hb dL_isMeetingSo_1 rfl (lv_at hl 1 rfl) ?_
  refine mw_cK (rest := []) (A0 := (fun _ => False)) (k9 := 0) (n9 := 0) hC (k_period l hfl D h0 a1 a2 cA cJ v L P z (by omega) hok) (vx_cwSW 2 hts gL_isMeetingSo_L_period rfl rfl rfl (by decide +kernel) ⟨Nat.le_of_ble_eq_true rfl, Nat.le_of_ble_eq_true rfl⟩) hK hPx hES hZS hNS hS (fun _ h => h.elim) rfl hl.1 rfl (Nat.le_of_ble_eq_true rfl) (by have c9 := mC_0 (ex := mEx3 (1 ≤ mPop z 32 ∧ mPop z 32 ≤ 5) (mUsh z (v 0) = 0) (mMts v L P z)) he; omega) (by have c9 := mC_0 (ex := mEx3 (1 ≤ mPop z 32 ∧ mPop z 32 ≤ 5) (mUsh z (v 0) = 0) (mMts v L P z)) he; omega) ⟨Nat.le_of_ble_eq_true rfl, Nat.le_of_ble_eq_true rfl⟩ dL_isMeetingSo_2 (fun H locs hP1 hS hz hk => ?_)
  have hPx := mw_keepP hPx (fun q h => hk q h (fun z => z))
  have hg := Nat.le_trans hg (Nat.le_trans (Nat.le_add_right _ _) hz)
  refine W.eq (g2 := F0 m 5 ls [.int (mI (mK4 (mEx3 (1 ≤ mPop z 32 ∧ mPop z 32 ≤ 5) (mUsh z (v 0) = 0) (mMts v L P z)) (mSt (mFd L P z 0 (v 0).toNat)) (-99999) (-99999) (-1)))]) rfl ?_
  refine mw_topi (y := st) ((mK4_0 he).trans e2) ?_
  refine lv_istore_n (lv' := [(3, .int (mI (st))), (0, .ref h0), (1, .int (mI (z))), (2, .int (mI (d)))]) hx hb dL_isMeetingSo_5 rfl hl (by decide) rfl (fun ls hl => ?_)
  refine lv_aload_n hx hb dL_isMeetingSo_6 rfl (lv_at hl 1 rfl) ?_
  refine lv_iload_n hx hb dL_isMeetingSo_7 rfl (lv_at hl 2 rfl) ?_
  refine lv_iload_n hx hb dL_isMeetingSo_8 rfl (lv_at hl 3 rfl) ?_
  refine mw_cK (rest := []) (A0 := (fun _ => False)) (k9 := 0) (n9 := 0) hC (k_meeting l hfl D h0 a1 a2 cA cJ v L P z d (by omega) (by omega) hok) (vx_cwSW 3 hts gL_isMeetingSo_L_meeting rfl rfl rfl (by decide +kernel) ⟨Nat.le_of_ble_eq_true rfl, Nat.le_of_ble_eq_true rfl⟩) hK hPx hES hZS hNS hS (fun _ h => h.elim) rfl hl.1 rfl (Nat.le_of_ble_eq_true rfl) (by have c9 := mC_0 (ex := mEx3 (mDay d ∧ 1 ≤ mPop z 32 ∧ mPop z 32 ≤ 5) (mUsh z (v 0) = 0) (mMts v L P z)) (eed.trans he); omega) (by have c9 := mC_0 (ex := mEx3 (mDay d ∧ 1 ≤ mPop z 32 ∧ mPop z 32 ≤ 5) (mUsh z (v 0) = 0) (mMts v L P z)) (eed.trans he); omega) ⟨Nat.le_of_ble_eq_true rfl, Nat.le_of_ble_eq_true rfl⟩ dL_isMeetingSo_9 (fun H locs hP1 hS hz hk => ?_)
  have hPx := mw_keepP hPx (fun q h => hk q h (fun z => z))
  have hg := Nat.le_trans hg (Nat.le_trans (Nat.le_add_right _ _) hz)
  refine W.eq (g2 := F0 m 12 ls [.int (mI (mK4 (mEx3 (mDay d ∧ 1 ≤ mPop z 32 ∧ mPop z 32 ≤ 5) (mUsh z (v 0) = 0) (mMts v L P z)) (d + (mD0 (mFd L P z 0 (v 0).toNat) - d) % mSt (mFd L P z 0 (v 0).toNat)) 2000000000 2000000000 1999999999))]) rfl ?_
  refine mw_topi (y := me) ((mK4_0 (eed.trans he)).trans (by rw [e1, e2]; exact hME.symm)) ?_
  refine lv_istore (lv' := [(4, .int (mI (me))), (3, .int (mI (st))), (0, .ref h0), (1, .int (mI (z))), (2, .int (mI (d)))]) hx hb dL_isMeetingSo_12 hl (by decide) rfl (fun ls hl => ?_)
  refine lv_iload_n hx hb dL_isMeetingSo_14 rfl (lv_at hl 1 rfl) ?_
  refine mw_if_ge (tgt := 59) hx hb (by omega) dL_isMeetingSo_15 (by decide) (fun c_15 => ?_) (fun c_15 => False.elim (by omega))
  refine lv_iload hx hb dL_isMeetingSo_59 (lv_at hl 0 rfl) ?_
  refine lv_iload_n hx hb dL_isMeetingSo_61 rfl (lv_at hl 4 rfl) ?_
  refine mw_icmp_lt (tgt := 120) hx hb (by omega) (by omega) dL_isMeetingSo_62 (by decide) (fun c_62 => False.elim (by omega)) (fun c_62 => ?_)
  refine lv_iload hx hb dL_isMeetingSo_65 (lv_at hl 0 rfl) ?_
  refine lv_iload_n hx hb dL_isMeetingSo_67 rfl (lv_at hl 4 rfl) ?_
  refine mw_isub hx hb dL_isMeetingSo_68 ?_
  refine lv_iload_n hx hb dL_isMeetingSo_69 rfl (lv_at hl 1 rfl) ?_
  refine mw_icmp_ge (tgt := 120) hx hb (by omega) (by omega) dL_isMeetingSo_70 (by decide) (fun c_70 => False.elim (by omega)) (fun c_70 => ?_)
  refine lv_aload_n hx hb dL_isMeetingSo_73 rfl (lv_at hl 2 rfl) ?_
  refine lv_iload_n hx hb dL_isMeetingSo_74 rfl (lv_at hl 3 rfl) ?_
  refine mw_cXn (rest := []) (A0 := (fun _ => False)) hC (x_X0_doMeet l hfl D h0 a1 a2 cA cJ v L P z (by omega) hok) (mEx2_0 (by omega) (by omega)) hES hZS (cwV 1 hts gL_isMeetingSo_X0_doMeet rfl rfl rfl (by decide +kernel) ⟨Nat.le_of_ble_eq_true rfl, Nat.le_of_ble_eq_true rfl⟩) hK hPx hS rfl rfl hl.1 rfl (Nat.le_of_ble_eq_true rfl) ⟨Nat.le_of_ble_eq_true rfl, Nat.le_of_ble_eq_true rfl⟩ dL_isMeetingSo_75 (fun H locs hS hz hk => ?_)
  have hPx := mw_keepP hPx hk
  have hg := Nat.le_trans hg hz
  refine W.eq (g2 := F0 m 78 ls [.int (mI (mB (mMts v L P z)))]) rfl ?_
  refine mw_zeq (tgt := 120) hx hb dL_isMeetingSo_78 (by decide) (fun c_78 => False.elim (by exact c_78 hx9.2.2)) (fun c_78 => ?_)
  refine lv_iload hx hb dL_isMeetingSo_81 (lv_at hl 0 rfl) ?_
  refine mw_ldc hx hb (1000000) (by decide +kernel) hown (hts (.constant RL 102 (1000000)) (by decide +kernel)) dL_isMeetingSo_83 ?_
  refine mw_icmp_gt (tgt := 100) hx hb (by omega) (by omega) dL_isMeetingSo_85 (by decide) (fun c_85 => ?_) (fun c_85 => ?_)
  · refine lv_aload_n hx hb dL_isMeetingSo_100 rfl (lv_at hl 2 rfl) ?_
    refine lv_iload_n hx hb dL_isMeetingSo_101 rfl (lv_at hl 3 rfl) ?_
    refine lv_iload_n hx hb dL_isMeetingSo_102 rfl (lv_at hl 4 rfl) ?_
    refine mw_bipush hx hb (by decide +kernel) dL_isMeetingSo_103 ?_
    refine mw_iconst hx hb dL_isMeetingSo_105 ?_
    refine mw_cXn (rest := []) (A0 := (fun _ => False)) hC (x_X0_lunarMeeting l hfl D h0 a1 a2 cA cJ v L P z d 99 3 (by omega) (by omega) (by omega) (by omega) hok) (mEx3_0 (by omega) hx9.2.1 hx9.2.2) hES hZS (cwV 4 hts gL_isMeetingSo_X0_lunarMeeting rfl rfl rfl (by decide +kernel) ⟨Nat.le_of_ble_eq_true rfl, Nat.le_of_ble_eq_true rfl⟩) hK hPx hS rfl rfl hl.1 rfl (Nat.le_of_ble_eq_true rfl) ⟨Nat.le_of_ble_eq_true rfl, Nat.le_of_ble_eq_true rfl⟩ dL_isMeetingSo_106 (fun H locs hS hz hk => ?_)
    have hPx := mw_keepP hPx hk
    have hg := Nat.le_trans hg hz
    refine W.eq (g2 := F0 m 109 ls [.long (mL (mLun v d (99 : Int) (mSt (mFd L P z 0 (v 0).toNat)) (3 : Int).toNat ((mD0 (mFd L P z 0 (v 0).toNat) - d) % mSt (mFd L P z 0 (v 0).toNat))))]) rfl ?_
    refine mw_topl (y := lm) (by rw [e1, e2]; exact hLM.symm) ?_
    refine mw_ldc2 hx hb (-1) (by decide +kernel) hown (hts (.constantLong RL 107 (-1)) (by decide +kernel)) dL_isMeetingSo_109 ?_
    refine mw_lcmp_lt (tgt := 120) hx hb (by omega) (by omega) dL_isMeetingSo_112 dL_isMeetingSo_113 (by decide) (fun c_113 => False.elim (by omega)) (fun c_113 => ?_)
    refine mw_iconst hx hb dL_isMeetingSo_116 ?_
    refine lv_goto (tgt := 121) hx hb dL_isMeetingSo_117 (by decide) ?_
    refine lv_istore (lv' := [(5, .int (mI (1))), (4, .int (mI (me))), (3, .int (mI (st))), (0, .ref h0), (1, .int (mI (z))), (2, .int (mI (d)))]) hx hb dL_isMeetingSo_121 hl (by decide) rfl (fun ls hl => ?_)
    refine lv_iload hx hb dL_isMeetingSo_123 (lv_at hl 0 rfl) ?_
    refine mw_if_eq (tgt := 167) hx hb (by omega) dL_isMeetingSo_125 (by decide) (fun c => absurd c (by decide)) (fun _ => ?_)
    refine lv_iload hx hb dL_isMeetingSo_128 (lv_at hl 1 rfl) ?_
    refine mw_ldc hx hb (1000000) (by decide +kernel) hown (hts (.constant RL 102 (1000000)) (by decide +kernel)) dL_isMeetingSo_130 ?_
    refine mw_icmp_ge (tgt := 163) hx hb (by omega) (by omega) dL_isMeetingSo_132 (by decide) (fun c_132 => ?_) (fun c_132 => ?_)
    · refine mw_iconst hx hb dL_isMeetingSo_163 ?_
      refine lv_goto (tgt := 168) hx hb dL_isMeetingSo_164 (by decide) ?_
      exact mw_gretZ hx hb hr hlocks dL_isMeetingSo_168 (by decide +kernel) rfl (by omega) hPx hS ⟨Nat.le_of_ble_eq_true rfl, Nat.le_of_ble_eq_true rfl⟩
    · refine lv_aload_n hx hb dL_isMeetingSo_135 rfl (lv_at hl 3 rfl) ?_
      refine lv_iload_n hx hb dL_isMeetingSo_136 rfl (lv_at hl 4 rfl) ?_
      refine lv_iload hx hb dL_isMeetingSo_137 (lv_at hl 1 rfl) ?_
      refine mw_cK (rest := []) (A0 := (fun _ => False)) (k9 := 0) (n9 := 0) hC (k_meeting l hfl D h0 a1 a2 cA cJ v L P z me (by omega) (by omega) hok) (vx_cwSW 3 hts gL_isMeetingSo_L_meeting rfl rfl rfl (by decide +kernel) ⟨Nat.le_of_ble_eq_true rfl, Nat.le_of_ble_eq_true rfl⟩) hK hPx hES hZS hNS hS (fun _ h => h.elim) rfl hl.1 rfl (Nat.le_of_ble_eq_true rfl) (by have c9 := mC_0 (ex := mEx3 (mDay me ∧ 1 ≤ mPop z 32 ∧ mPop z 32 ≤ 5) (mUsh z (v 0) = 0) (mMts v L P z)) ((hEd me (by omega)).trans he); omega) (by have c9 := mC_0 (ex := mEx3 (mDay me ∧ 1 ≤ mPop z 32 ∧ mPop z 32 ≤ 5) (mUsh z (v 0) = 0) (mMts v L P z)) ((hEd me (by omega)).trans he); omega) ⟨Nat.le_of_ble_eq_true rfl, Nat.le_of_ble_eq_true rfl⟩ dL_isMeetingSo_139 (fun H locs hP1 hS hz hk => ?_)
      have hPx := mw_keepP hPx (fun q h => hk q h (fun z => z))
      have hg := Nat.le_trans hg (Nat.le_trans (Nat.le_add_right _ _) hz)
      refine W.eq (g2 := F0 m 142 ls [.int (mI (mK4 (mEx3 (mDay me ∧ 1 ≤ mPop z 32 ∧ mPop z 32 ≤ 5) (mUsh z (v 0) = 0) (mMts v L P z)) (me + (mD0 (mFd L P z 0 (v 0).toNat) - me) % mSt (mFd L P z 0 (v 0).toNat)) 2000000000 2000000000 1999999999))]) rfl ?_
      refine mw_topi (y := me) ((mK4_0 ((hEd me (by omega)).trans he)).trans (by rw [e1, e2, hq.1]; omega)) ?_
      refine lv_iload hx hb dL_isMeetingSo_142 (lv_at hl 1 rfl) ?_
      refine mw_icmp_ne (tgt := 167) hx hb (by omega) (by omega) dL_isMeetingSo_144 (by decide) (fun c_144 => False.elim (by omega)) (fun c_144 => ?_)
      refine lv_aload_n hx hb dL_isMeetingSo_147 rfl (lv_at hl 3 rfl) ?_
      refine lv_iload_n hx hb dL_isMeetingSo_148 rfl (lv_at hl 4 rfl) ?_
      refine lv_iload hx hb dL_isMeetingSo_149 (lv_at hl 1 rfl) ?_
      refine mw_iconst hx hb dL_isMeetingSo_151 ?_
      refine mw_iadd hx hb dL_isMeetingSo_152 ?_
      refine mw_cK (rest := []) (A0 := (fun _ => False)) (k9 := 0) (n9 := 0) hC (k_meeting l hfl D h0 a1 a2 cA cJ v L P z (me + 1) (by omega) (by omega) hok) (vx_cwSW 3 hts gL_isMeetingSo_L_meeting rfl rfl rfl (by decide +kernel) ⟨Nat.le_of_ble_eq_true rfl, Nat.le_of_ble_eq_true rfl⟩) hK hPx hES hZS hNS hS (fun _ h => h.elim) rfl hl.1 rfl (Nat.le_of_ble_eq_true rfl) (by have c9 := mC_0 (ex := mEx3 (mDay (me + 1) ∧ 1 ≤ mPop z 32 ∧ mPop z 32 ≤ 5) (mUsh z (v 0) = 0) (mMts v L P z)) ((hEd (me + 1) (by omega)).trans he); omega) (by have c9 := mC_0 (ex := mEx3 (mDay (me + 1) ∧ 1 ≤ mPop z 32 ∧ mPop z 32 ≤ 5) (mUsh z (v 0) = 0) (mMts v L P z)) ((hEd (me + 1) (by omega)).trans he); omega) ⟨Nat.le_of_ble_eq_true rfl, Nat.le_of_ble_eq_true rfl⟩ dL_isMeetingSo_153 (fun H locs hP1 hS hz hk => ?_)
      have hPx := mw_keepP hPx (fun q h => hk q h (fun z => z))
      have hg := Nat.le_trans hg (Nat.le_trans (Nat.le_add_right _ _) hz)
      refine W.eq (g2 := F0 m 156 ls [.int (mI (mK4 (mEx3 (mDay (me + 1) ∧ 1 ≤ mPop z 32 ∧ mPop z 32 ≤ 5) (mUsh z (v 0) = 0) (mMts v L P z)) ((me + 1) + (mD0 (mFd L P z 0 (v 0).toNat) - (me + 1)) % mSt (mFd L P z 0 (v 0).toNat)) 2000000000 2000000000 1999999999))]) rfl ?_
      refine mw_topi (y := me + st) ((mK4_0 ((hEd (me + 1) (by omega)).trans he)).trans (by rw [e1, e2, hq.2]; omega)) ?_
      refine lv_iload hx hb dL_isMeetingSo_156 (lv_at hl 1 rfl) ?_
      refine lv_iload_n hx hb dL_isMeetingSo_158 rfl (lv_at hl 2 rfl) ?_
      refine mw_iadd hx hb dL_isMeetingSo_159 ?_
      refine mw_icmp_ne (tgt := 167) hx hb (by omega) (by omega) dL_isMeetingSo_160 (by decide) (fun c_160 => False.elim (by omega)) (fun c_160 => ?_)
      refine mw_iconst hx hb dL_isMeetingSo_163 ?_
      refine lv_goto (tgt := 168) hx hb dL_isMeetingSo_164 (by decide) ?_
      exact mw_gretZ hx hb hr hlocks dL_isMeetingSo_168 (by decide +kernel) rfl (by omega) hPx hS ⟨Nat.le_of_ble_eq_true rfl, Nat.le_of_ble_eq_true rfl⟩
  · refine lv_aload_n hx hb dL_isMeetingSo_88 rfl (lv_at hl 2 rfl) ?_
    refine lv_iload hx hb dL_isMeetingSo_89 (lv_at hl 0 rfl) ?_
    refine mw_cXn (rest := []) (A0 := (fun _ => False)) hC (x_X0_heldOn l hfl D h0 a1 a2 cA cJ v L P me (by omega) hok) (mEx1_0 (by omega)) hES hZS (cwV 1 hts gL_isMeetingSo_X0_heldOn rfl rfl rfl (by decide +kernel) ⟨Nat.le_of_ble_eq_true rfl, Nat.le_of_ble_eq_true rfl⟩) hK hPx hS rfl rfl hl.1 rfl (Nat.le_of_ble_eq_true rfl) ⟨Nat.le_of_ble_eq_true rfl, Nat.le_of_ble_eq_true rfl⟩ dL_isMeetingSo_91 (fun H locs hS hz hk => ?_)
    have hPx := mw_keepP hPx hk
    have hg := Nat.le_trans hg hz
    refine W.eq (g2 := F0 m 94 ls [.int (mI (mSet L P me (v 0).toNat))]) rfl ?_
    refine lv_iload_n hx hb dL_isMeetingSo_94 rfl (lv_at hl 3 rfl) ?_
    refine mw_iand hx hb dL_isMeetingSo_95 ?_
    refine mw_topi (y := z) hin ?_
    refine lv_iload_n hx hb dL_isMeetingSo_96 rfl (lv_at hl 3 rfl) ?_
    refine mw_icmp_ne (tgt := 120) hx hb (by omega) (by omega) dL_isMeetingSo_97 (by decide) (fun c_97 => False.elim (by omega)) (fun c_97 => ?_)
    refine lv_aload_n hx hb dL_isMeetingSo_100 rfl (lv_at hl 2 rfl) ?_
    refine lv_iload_n hx hb dL_isMeetingSo_101 rfl (lv_at hl 3 rfl) ?_
    refine lv_iload_n hx hb dL_isMeetingSo_102 rfl (lv_at hl 4 rfl) ?_
    refine mw_bipush hx hb (by decide +kernel) dL_isMeetingSo_103 ?_
    refine mw_iconst hx hb dL_isMeetingSo_105 ?_
    refine mw_cXn (rest := []) (A0 := (fun _ => False)) hC (x_X0_lunarMeeting l hfl D h0 a1 a2 cA cJ v L P z d 99 3 (by omega) (by omega) (by omega) (by omega) hok) (mEx3_0 (by omega) hx9.2.1 hx9.2.2) hES hZS (cwV 4 hts gL_isMeetingSo_X0_lunarMeeting rfl rfl rfl (by decide +kernel) ⟨Nat.le_of_ble_eq_true rfl, Nat.le_of_ble_eq_true rfl⟩) hK hPx hS rfl rfl hl.1 rfl (Nat.le_of_ble_eq_true rfl) ⟨Nat.le_of_ble_eq_true rfl, Nat.le_of_ble_eq_true rfl⟩ dL_isMeetingSo_106 (fun H locs hS hz hk => ?_)
    have hPx := mw_keepP hPx hk
    have hg := Nat.le_trans hg hz
    refine W.eq (g2 := F0 m 109 ls [.long (mL (mLun v d (99 : Int) (mSt (mFd L P z 0 (v 0).toNat)) (3 : Int).toNat ((mD0 (mFd L P z 0 (v 0).toNat) - d) % mSt (mFd L P z 0 (v 0).toNat))))]) rfl ?_
    refine mw_topl (y := lm) (by rw [e1, e2]; exact hLM.symm) ?_
    refine mw_ldc2 hx hb (-1) (by decide +kernel) hown (hts (.constantLong RL 107 (-1)) (by decide +kernel)) dL_isMeetingSo_109 ?_
    refine mw_lcmp_lt (tgt := 120) hx hb (by omega) (by omega) dL_isMeetingSo_112 dL_isMeetingSo_113 (by decide) (fun c_113 => False.elim (by omega)) (fun c_113 => ?_)
    refine mw_iconst hx hb dL_isMeetingSo_116 ?_
    refine lv_goto (tgt := 121) hx hb dL_isMeetingSo_117 (by decide) ?_
    refine lv_istore (lv' := [(5, .int (mI (1))), (4, .int (mI (me))), (3, .int (mI (st))), (0, .ref h0), (1, .int (mI (z))), (2, .int (mI (d)))]) hx hb dL_isMeetingSo_121 hl (by decide) rfl (fun ls hl => ?_)
    refine lv_iload hx hb dL_isMeetingSo_123 (lv_at hl 0 rfl) ?_
    refine mw_if_eq (tgt := 167) hx hb (by omega) dL_isMeetingSo_125 (by decide) (fun c => absurd c (by decide)) (fun _ => ?_)
    refine lv_iload hx hb dL_isMeetingSo_128 (lv_at hl 1 rfl) ?_
    refine mw_ldc hx hb (1000000) (by decide +kernel) hown (hts (.constant RL 102 (1000000)) (by decide +kernel)) dL_isMeetingSo_130 ?_
    refine mw_icmp_ge (tgt := 163) hx hb (by omega) (by omega) dL_isMeetingSo_132 (by decide) (fun c_132 => ?_) (fun c_132 => ?_)
    · refine mw_iconst hx hb dL_isMeetingSo_163 ?_
      refine lv_goto (tgt := 168) hx hb dL_isMeetingSo_164 (by decide) ?_
      exact mw_gretZ hx hb hr hlocks dL_isMeetingSo_168 (by decide +kernel) rfl (by omega) hPx hS ⟨Nat.le_of_ble_eq_true rfl, Nat.le_of_ble_eq_true rfl⟩
    · refine lv_aload_n hx hb dL_isMeetingSo_135 rfl (lv_at hl 3 rfl) ?_
      refine lv_iload_n hx hb dL_isMeetingSo_136 rfl (lv_at hl 4 rfl) ?_
      refine lv_iload hx hb dL_isMeetingSo_137 (lv_at hl 1 rfl) ?_
      refine mw_cK (rest := []) (A0 := (fun _ => False)) (k9 := 0) (n9 := 0) hC (k_meeting l hfl D h0 a1 a2 cA cJ v L P z me (by omega) (by omega) hok) (vx_cwSW 3 hts gL_isMeetingSo_L_meeting rfl rfl rfl (by decide +kernel) ⟨Nat.le_of_ble_eq_true rfl, Nat.le_of_ble_eq_true rfl⟩) hK hPx hES hZS hNS hS (fun _ h => h.elim) rfl hl.1 rfl (Nat.le_of_ble_eq_true rfl) (by have c9 := mC_0 (ex := mEx3 (mDay me ∧ 1 ≤ mPop z 32 ∧ mPop z 32 ≤ 5) (mUsh z (v 0) = 0) (mMts v L P z)) ((hEd me (by omega)).trans he); omega) (by have c9 := mC_0 (ex := mEx3 (mDay me ∧ 1 ≤ mPop z 32 ∧ mPop z 32 ≤ 5) (mUsh z (v 0) = 0) (mMts v L P z)) ((hEd me (by omega)).trans he); omega) ⟨Nat.le_of_ble_eq_true rfl, Nat.le_of_ble_eq_true rfl⟩ dL_isMeetingSo_139 (fun H locs hP1 hS hz hk => ?_)
      have hPx := mw_keepP hPx (fun q h => hk q h (fun z => z))
      have hg := Nat.le_trans hg (Nat.le_trans (Nat.le_add_right _ _) hz)
      refine W.eq (g2 := F0 m 142 ls [.int (mI (mK4 (mEx3 (mDay me ∧ 1 ≤ mPop z 32 ∧ mPop z 32 ≤ 5) (mUsh z (v 0) = 0) (mMts v L P z)) (me + (mD0 (mFd L P z 0 (v 0).toNat) - me) % mSt (mFd L P z 0 (v 0).toNat)) 2000000000 2000000000 1999999999))]) rfl ?_
      refine mw_topi (y := me) ((mK4_0 ((hEd me (by omega)).trans he)).trans (by rw [e1, e2, hq.1]; omega)) ?_
      refine lv_iload hx hb dL_isMeetingSo_142 (lv_at hl 1 rfl) ?_
      refine mw_icmp_ne (tgt := 167) hx hb (by omega) (by omega) dL_isMeetingSo_144 (by decide) (fun c_144 => False.elim (by omega)) (fun c_144 => ?_)
      refine lv_aload_n hx hb dL_isMeetingSo_147 rfl (lv_at hl 3 rfl) ?_
      refine lv_iload_n hx hb dL_isMeetingSo_148 rfl (lv_at hl 4 rfl) ?_
      refine lv_iload hx hb dL_isMeetingSo_149 (lv_at hl 1 rfl) ?_
      refine mw_iconst hx hb dL_isMeetingSo_151 ?_
      refine mw_iadd hx hb dL_isMeetingSo_152 ?_
      refine mw_cK (rest := []) (A0 := (fun _ => False)) (k9 := 0) (n9 := 0) hC (k_meeting l hfl D h0 a1 a2 cA cJ v L P z (me + 1) (by omega) (by omega) hok) (vx_cwSW 3 hts gL_isMeetingSo_L_meeting rfl rfl rfl (by decide +kernel) ⟨Nat.le_of_ble_eq_true rfl, Nat.le_of_ble_eq_true rfl⟩) hK hPx hES hZS hNS hS (fun _ h => h.elim) rfl hl.1 rfl (Nat.le_of_ble_eq_true rfl) (by have c9 := mC_0 (ex := mEx3 (mDay (me + 1) ∧ 1 ≤ mPop z 32 ∧ mPop z 32 ≤ 5) (mUsh z (v 0) = 0) (mMts v L P z)) ((hEd (me + 1) (by omega)).trans he); omega) (by have c9 := mC_0 (ex := mEx3 (mDay (me + 1) ∧ 1 ≤ mPop z 32 ∧ mPop z 32 ≤ 5) (mUsh z (v 0) = 0) (mMts v L P z)) ((hEd (me + 1) (by omega)).trans he); omega) ⟨Nat.le_of_ble_eq_true rfl, Nat.le_of_ble_eq_true rfl⟩ dL_isMeetingSo_153 (fun H locs hP1 hS hz hk => ?_)
      have hPx := mw_keepP hPx (fun q h => hk q h (fun z => z))
      have hg := Nat.le_trans hg (Nat.le_trans (Nat.le_add_right _ _) hz)
      refine W.eq (g2 := F0 m 156 ls [.int (mI (mK4 (mEx3 (mDay (me + 1) ∧ 1 ≤ mPop z 32 ∧ mPop z 32 ≤ 5) (mUsh z (v 0) = 0) (mMts v L P z)) ((me + 1) + (mD0 (mFd L P z 0 (v 0).toNat) - (me + 1)) % mSt (mFd L P z 0 (v 0).toNat)) 2000000000 2000000000 1999999999))]) rfl ?_
      refine mw_topi (y := me + st) ((mK4_0 ((hEd (me + 1) (by omega)).trans he)).trans (by rw [e1, e2, hq.2]; omega)) ?_
      refine lv_iload hx hb dL_isMeetingSo_156 (lv_at hl 1 rfl) ?_
      refine lv_iload_n hx hb dL_isMeetingSo_158 rfl (lv_at hl 2 rfl) ?_
      refine mw_iadd hx hb dL_isMeetingSo_159 ?_
      refine mw_icmp_ne (tgt := 167) hx hb (by omega) (by omega) dL_isMeetingSo_160 (by decide) (fun c_160 => False.elim (by omega)) (fun c_160 => ?_)
      refine mw_iconst hx hb dL_isMeetingSo_163 ?_
      refine lv_goto (tgt := 168) hx hb dL_isMeetingSo_164 (by decide) ?_
      exact mw_gretZ hx hb hr hlocks dL_isMeetingSo_168 (by decide +kernel) rfl (by omega) hPx hS ⟨Nat.le_of_ble_eq_true rfl, Nat.le_of_ble_eq_true rfl⟩

set_option maxHeartbeats 2000000 in
set_option maxRecDepth 100000 in
theorem g_meet_b (l : Launch) (hfl : l.flags = flags0) (D : va_G) (h0 a1 a2 : Nat) (cA cJ : ClassId) (v : Nat → Int) (L P : Int → Int) (z d : Int) (hd : -900000 ≤ d ∧ d ≤ 900000) (hz : mRI z) (he : mEx3 (1 ≤ mPop z 32 ∧ mPop z 32 ≤ 5) (mUsh z (v 0) = 0) (mMts v L P z) = 3) (hok : mOK v L P) : mG l yL_isMeetingSo wsL_isMeetingSo ({ frames := 10, cells := 2, slots := 12, locals := 179 }) [.ref h0, .int (mI (z)), .int (mI (d))] D (mXW h0 a1 a2 cA v L P) (mTy cA cJ) 1 0 (mXW h0 a1 a2 cA v L P) (fun _ => False) 2 12 := by
  refine mw_openG (cc := cL_isMeetingSo) (maxL := 6) (ret := (some .boolean)) (by decide) rfl (Nat.le_of_ble_eq_true rfl) ?_
  intro p e s m below meth c ls hC hr hlocks hB hE hNS hl
  obtain ⟨hx, hb, hml, hown, hts⟩ := id hC
  obtain ⟨hP, hK⟩ := hB
  obtain ⟨hES, hZ0⟩ := hE
  have hZS : mwZ (fun _ => False) s s.heap := hZ0
  have hS : va_S (fun _ => False) s.heap s.heap [] := va_S.rf
  have hg : s.heap.size + 0 ≤ s.heap.size := Nat.le_refl _
  have hPx := hP.sub (ws' := mXW h0 a1 a2 cA v L P) [0, 1, 2] rfl
  have hl : lv_has ls 6 [(0, .ref h0), (1, .int (mI (z))), (2, .int (mI (d)))] := hl
  have hv9 := hok.1
  have hEd : ∀ x, mDay x → mEx3 (mDay x ∧ 1 ≤ mPop z 32 ∧ mPop z 32 ≤ 5) (mUsh z (v 0) = 0) (mMts v L P z) = mEx3 (1 ≤ mPop z 32 ∧ mPop z 32 ≤ 5) (mUsh z (v 0) = 0) (mMts v L P z) := fun x hx => mEx3_and ⟨fun q => q.2, fun q => ⟨hx, q⟩⟩
  have eed := hEd d (by omega)
  have hx9 := mEx3_3z he
  refine lv_aload_n hx hb dL_isMeetingSo_0 rfl (lv_at hl 0 rfl) ?_
  refine lv_iload_n hx hb dL_isMeetingSo_1 rfl (lv_at hl 1 rfl) ?_
  refine mw_cK (rest := []) (A0 := (fun _ => False)) (k9 := 1) (n9 := 6) hC (k_period l hfl D h0 a1 a2 cA cJ v L P z (by omega) hok) (vx_cwSW 2 hts gL_isMeetingSo_L_period rfl rfl rfl (by decide +kernel) ⟨Nat.le_of_ble_eq_true rfl, Nat.le_of_ble_eq_true rfl⟩) hK hPx hES hZS hNS hS (fun _ h => h.elim) rfl hl.1 rfl (Nat.le_of_ble_eq_true rfl) (by have c9 := mC_1 (ex := mEx3 (1 ≤ mPop z 32 ∧ mPop z 32 ≤ 5) (mUsh z (v 0) = 0) (mMts v L P z)) (by omega); omega) (by have c9 := mC_1 (ex := mEx3 (1 ≤ mPop z 32 ∧ mPop z 32 ≤ 5) (mUsh z (v 0) = 0) (mMts v L P z)) (by omega); omega) ⟨Nat.le_of_ble_eq_true rfl, Nat.le_of_ble_eq_true rfl⟩ dL_isMeetingSo_2 (fun H locs hP1 hS hz hk => ?_)
  have hPx := mw_keepP hPx (fun q h => hk q h (fun z => z))
  have hg := Nat.le_trans hg (Nat.le_trans (Nat.le_add_right _ _) hz)
  refine W.eq (g2 := F0 m 5 ls [.int (mI (mK4 (mEx3 (1 ≤ mPop z 32 ∧ mPop z 32 ≤ 5) (mUsh z (v 0) = 0) (mMts v L P z)) (mSt (mFd L P z 0 (v 0).toNat)) (-99999) (-99999) (-1)))]) rfl ?_
  refine mw_topi (y := -1) (mK4_3 he) ?_
  refine lv_istore_n (lv' := [(3, .int (mI (-1))), (0, .ref h0), (1, .int (mI (z))), (2, .int (mI (d)))]) hx hb dL_isMeetingSo_5 rfl hl (by decide) rfl (fun ls hl => ?_)
  refine lv_aload_n hx hb dL_isMeetingSo_6 rfl (lv_at hl 1 rfl) ?_
  refine lv_iload_n hx hb dL_isMeetingSo_7 rfl (lv_at hl 2 rfl) ?_
  refine lv_iload_n hx hb dL_isMeetingSo_8 rfl (lv_at hl 3 rfl) ?_
  refine mw_cK (rest := []) (A0 := (fun _ => False)) (k9 := 2) (n9 := 12) hC (k_meeting l hfl D h0 a1 a2 cA cJ v L P z d (by omega) (by omega) hok) (vx_cwSW 3 hts gL_isMeetingSo_L_meeting rfl rfl rfl (by decide +kernel) ⟨Nat.le_of_ble_eq_true rfl, Nat.le_of_ble_eq_true rfl⟩) hK hPx hES hZS hNS hS (fun _ h => h.elim) rfl hl.1 rfl (Nat.le_of_ble_eq_true rfl) (by have c9 := mC_1 (ex := mEx3 (mDay d ∧ 1 ≤ mPop z 32 ∧ mPop z 32 ≤ 5) (mUsh z (v 0) = 0) (mMts v L P z)) (by omega); omega) (by have c9 := mC_1 (ex := mEx3 (mDay d ∧ 1 ≤ mPop z 32 ∧ mPop z 32 ≤ 5) (mUsh z (v 0) = 0) (mMts v L P z)) (by omega); omega) ⟨Nat.le_of_ble_eq_true rfl, Nat.le_of_ble_eq_true rfl⟩ dL_isMeetingSo_9 (fun H locs hP1 hS hz hk => ?_)
  have hPx := mw_keepP hPx (fun q h => hk q h (fun z => z))
  have hg := Nat.le_trans hg (Nat.le_trans (Nat.le_add_right _ _) hz)
  refine W.eq (g2 := F0 m 12 ls [.int (mI (mK4 (mEx3 (mDay d ∧ 1 ≤ mPop z 32 ∧ mPop z 32 ≤ 5) (mUsh z (v 0) = 0) (mMts v L P z)) (d + (mD0 (mFd L P z 0 (v 0).toNat) - d) % mSt (mFd L P z 0 (v 0).toNat)) 2000000000 2000000000 1999999999))]) rfl ?_
  refine mw_topi (y := 1999999999) (mK4_3 (eed.trans he)) ?_
  refine lv_istore (lv' := [(4, .int (mI (1999999999))), (3, .int (mI (-1))), (0, .ref h0), (1, .int (mI (z))), (2, .int (mI (d)))]) hx hb dL_isMeetingSo_12 hl (by decide) rfl (fun ls hl => ?_)
  refine lv_iload_n hx hb dL_isMeetingSo_14 rfl (lv_at hl 1 rfl) ?_
  refine mw_if_ge (tgt := 59) hx hb (by omega) dL_isMeetingSo_15 (by decide) (fun c_15 => False.elim (by omega)) (fun c_15 => ?_)
  refine lv_iload_n hx hb dL_isMeetingSo_18 rfl (lv_at hl 1 rfl) ?_
  refine mw_iconst hx hb dL_isMeetingSo_19 ?_
  refine mw_icmp_ne (tgt := 46) hx hb (by omega) (by omega) dL_isMeetingSo_20 (by decide) (fun c_20 => False.elim (by omega)) (fun c_20 => ?_)
  refine lv_iload hx hb dL_isMeetingSo_23 (lv_at hl 0 rfl) ?_
  refine mw_ldc hx hb (1999999999) (by decide +kernel) hown (hts (.constant RL 43 (1999999999)) (by decide +kernel)) dL_isMeetingSo_25 ?_
  refine mw_icmp_ne (tgt := 42) hx hb (by omega) (by omega) dL_isMeetingSo_27 (by decide) (fun c_27 => False.elim (by omega)) (fun c_27 => ?_)
  refine lv_aload_n hx hb dL_isMeetingSo_30 rfl (lv_at hl 2 rfl) ?_
  refine lv_iload_n hx hb dL_isMeetingSo_31 rfl (lv_at hl 3 rfl) ?_
  refine mw_cXn (rest := []) (A0 := (fun _ => False)) hC (x_X0_doMeet l hfl D h0 a1 a2 cA cJ v L P z (by omega) hok) (mEx2_0 (by omega) (by omega)) hES hZS (cwV 1 hts gL_isMeetingSo_X0_doMeet rfl rfl rfl (by decide +kernel) ⟨Nat.le_of_ble_eq_true rfl, Nat.le_of_ble_eq_true rfl⟩) hK hPx hS rfl rfl hl.1 rfl (Nat.le_of_ble_eq_true rfl) ⟨Nat.le_of_ble_eq_true rfl, Nat.le_of_ble_eq_true rfl⟩ dL_isMeetingSo_32 (fun H locs hS hz hk => ?_)
  have hPx := mw_keepP hPx hk
  have hg := Nat.le_trans hg hz
  refine W.eq (g2 := F0 m 35 ls [.int (mI (mB (mMts v L P z)))]) rfl ?_
  refine mw_zne (tgt := 42) hx hb dL_isMeetingSo_35 (by decide) (fun c_35 => False.elim (by exact hx9.2.2 c_35)) (fun c_35 => ?_)
  refine mw_iconst hx hb dL_isMeetingSo_38 ?_
  refine lv_goto (tgt := 58) hx hb dL_isMeetingSo_39 (by decide) ?_
  exact mw_gretZ hx hb hr hlocks dL_isMeetingSo_58 (by decide +kernel) rfl (by omega) hPx hS ⟨Nat.le_of_ble_eq_true rfl, Nat.le_of_ble_eq_true rfl⟩

set_option maxHeartbeats 2000000 in
set_option maxRecDepth 100000 in
theorem g_meet_a (l : Launch) (hfl : l.flags = flags0) (D : va_G) (h0 a1 a2 : Nat) (cA cJ : ClassId) (v : Nat → Int) (L P : Int → Int) (z d : Int) (hd : -900000 ≤ d ∧ d ≤ 900000) (hz : mRI z) (he : mEx3 (1 ≤ mPop z 32 ∧ mPop z 32 ≤ 5) (mUsh z (v 0) = 0) (mMts v L P z) = 1 ∨ mEx3 (1 ≤ mPop z 32 ∧ mPop z 32 ≤ 5) (mUsh z (v 0) = 0) (mMts v L P z) = 2) (hok : mOK v L P) : mG l yL_isMeetingSo wsL_isMeetingSo ({ frames := 10, cells := 2, slots := 12, locals := 179 }) [.ref h0, .int (mI (z)), .int (mI (d))] D (mXW h0 a1 a2 cA v L P) (mTy cA cJ) 1 0 (mXW h0 a1 a2 cA v L P) (fun _ => False) 2 12 := by
  refine mw_openG (cc := cL_isMeetingSo) (maxL := 6) (ret := (some .boolean)) (by decide) rfl (Nat.le_of_ble_eq_true rfl) ?_
  intro p e s m below meth c ls hC hr hlocks hB hE hNS hl
  obtain ⟨hx, hb, hml, hown, hts⟩ := id hC
  obtain ⟨hP, hK⟩ := hB
  obtain ⟨hES, hZ0⟩ := hE
  have hZS : mwZ (fun _ => False) s s.heap := hZ0
  have hS : va_S (fun _ => False) s.heap s.heap [] := va_S.rf
  have hg : s.heap.size + 0 ≤ s.heap.size := Nat.le_refl _
  have hPx := hP.sub (ws' := mXW h0 a1 a2 cA v L P) [0, 1, 2] rfl
  have hl : lv_has ls 6 [(0, .ref h0), (1, .int (mI (z))), (2, .int (mI (d)))] := hl
  have hv9 := hok.1
  have hEd : ∀ x, mDay x → mEx3 (mDay x ∧ 1 ≤ mPop z 32 ∧ mPop z 32 ≤ 5) (mUsh z (v 0) = 0) (mMts v L P z) = mEx3 (1 ≤ mPop z 32 ∧ mPop z 32 ≤ 5) (mUsh z (v 0) = 0) (mMts v L P z) := fun x hx => mEx3_and ⟨fun q => q.2, fun q => ⟨hx, q⟩⟩
  have eed := hEd d (by omega)
  refine lv_aload_n hx hb dL_isMeetingSo_0 rfl (lv_at hl 0 rfl) ?_
  refine lv_iload_n hx hb dL_isMeetingSo_1 rfl (lv_at hl 1 rfl) ?_
  refine mw_cK (rest := []) (A0 := (fun _ => False)) (k9 := 1) (n9 := 6) hC (k_period l hfl D h0 a1 a2 cA cJ v L P z (by omega) hok) (vx_cwSW 2 hts gL_isMeetingSo_L_period rfl rfl rfl (by decide +kernel) ⟨Nat.le_of_ble_eq_true rfl, Nat.le_of_ble_eq_true rfl⟩) hK hPx hES hZS hNS hS (fun _ h => h.elim) rfl hl.1 rfl (Nat.le_of_ble_eq_true rfl) (by have c9 := mC_1 (ex := mEx3 (1 ≤ mPop z 32 ∧ mPop z 32 ≤ 5) (mUsh z (v 0) = 0) (mMts v L P z)) (by omega); omega) (by have c9 := mC_1 (ex := mEx3 (1 ≤ mPop z 32 ∧ mPop z 32 ≤ 5) (mUsh z (v 0) = 0) (mMts v L P z)) (by omega); omega) ⟨Nat.le_of_ble_eq_true rfl, Nat.le_of_ble_eq_true rfl⟩ dL_isMeetingSo_2 (fun H locs hP1 hS hz hk => ?_)
  have hPx := mw_keepP hPx (fun q h => hk q h (fun z => z))
  have hg := Nat.le_trans hg (Nat.le_trans (Nat.le_add_right _ _) hz)
  refine W.eq (g2 := F0 m 5 ls [.int (mI (mK4 (mEx3 (1 ≤ mPop z 32 ∧ mPop z 32 ≤ 5) (mUsh z (v 0) = 0) (mMts v L P z)) (mSt (mFd L P z 0 (v 0).toNat)) (-99999) (-99999) (-1)))]) rfl ?_
  refine mw_topi (y := -99999) (by rcases he with h | h; exact mK4_1 h; exact mK4_2 h) ?_
  refine lv_istore_n (lv' := [(3, .int (mI (-99999))), (0, .ref h0), (1, .int (mI (z))), (2, .int (mI (d)))]) hx hb dL_isMeetingSo_5 rfl hl (by decide) rfl (fun ls hl => ?_)
  refine lv_aload_n hx hb dL_isMeetingSo_6 rfl (lv_at hl 1 rfl) ?_
  refine lv_iload_n hx hb dL_isMeetingSo_7 rfl (lv_at hl 2 rfl) ?_
  refine lv_iload_n hx hb dL_isMeetingSo_8 rfl (lv_at hl 3 rfl) ?_
  refine mw_cK (rest := []) (A0 := (fun _ => False)) (k9 := 2) (n9 := 12) hC (k_meeting l hfl D h0 a1 a2 cA cJ v L P z d (by omega) (by omega) hok) (vx_cwSW 3 hts gL_isMeetingSo_L_meeting rfl rfl rfl (by decide +kernel) ⟨Nat.le_of_ble_eq_true rfl, Nat.le_of_ble_eq_true rfl⟩) hK hPx hES hZS hNS hS (fun _ h => h.elim) rfl hl.1 rfl (Nat.le_of_ble_eq_true rfl) (by have c9 := mC_1 (ex := mEx3 (mDay d ∧ 1 ≤ mPop z 32 ∧ mPop z 32 ≤ 5) (mUsh z (v 0) = 0) (mMts v L P z)) (by omega); omega) (by have c9 := mC_1 (ex := mEx3 (mDay d ∧ 1 ≤ mPop z 32 ∧ mPop z 32 ≤ 5) (mUsh z (v 0) = 0) (mMts v L P z)) (by omega); omega) ⟨Nat.le_of_ble_eq_true rfl, Nat.le_of_ble_eq_true rfl⟩ dL_isMeetingSo_9 (fun H locs hP1 hS hz hk => ?_)
  have hPx := mw_keepP hPx (fun q h => hk q h (fun z => z))
  have hg := Nat.le_trans hg (Nat.le_trans (Nat.le_add_right _ _) hz)
  refine W.eq (g2 := F0 m 12 ls [.int (mI (mK4 (mEx3 (mDay d ∧ 1 ≤ mPop z 32 ∧ mPop z 32 ≤ 5) (mUsh z (v 0) = 0) (mMts v L P z)) (d + (mD0 (mFd L P z 0 (v 0).toNat) - d) % mSt (mFd L P z 0 (v 0).toNat)) 2000000000 2000000000 1999999999))]) rfl ?_
  refine mw_topi (y := 2000000000) (by rcases he with h | h; exact mK4_1 (eed.trans h); exact mK4_2 (eed.trans h)) ?_
  refine lv_istore (lv' := [(4, .int (mI (2000000000))), (3, .int (mI (-99999))), (0, .ref h0), (1, .int (mI (z))), (2, .int (mI (d)))]) hx hb dL_isMeetingSo_12 hl (by decide) rfl (fun ls hl => ?_)
  refine lv_iload_n hx hb dL_isMeetingSo_14 rfl (lv_at hl 1 rfl) ?_
  refine mw_if_ge (tgt := 59) hx hb (by omega) dL_isMeetingSo_15 (by decide) (fun c_15 => False.elim (by omega)) (fun c_15 => ?_)
  refine lv_iload_n hx hb dL_isMeetingSo_18 rfl (lv_at hl 1 rfl) ?_
  refine mw_iconst hx hb dL_isMeetingSo_19 ?_
  refine mw_icmp_ne (tgt := 46) hx hb (by omega) (by omega) dL_isMeetingSo_20 (by decide) (fun c_20 => ?_) (fun c_20 => False.elim (by omega))
  refine lv_iload hx hb dL_isMeetingSo_46 (lv_at hl 0 rfl) ?_
  refine mw_ldc hx hb (2000000000) (by decide +kernel) hown (hts (.constant RL 35 (2000000000)) (by decide +kernel)) dL_isMeetingSo_48 ?_
  refine mw_icmp_ne (tgt := 57) hx hb (by omega) (by omega) dL_isMeetingSo_50 (by decide) (fun c_50 => False.elim (by omega)) (fun c_50 => ?_)
  refine mw_iconst hx hb dL_isMeetingSo_53 ?_
  refine lv_goto (tgt := 58) hx hb dL_isMeetingSo_54 (by decide) ?_
  exact mw_gretZ hx hb hr hlocks dL_isMeetingSo_58 (by decide +kernel) rfl (by omega) hPx hS ⟨Nat.le_of_ble_eq_true rfl, Nat.le_of_ble_eq_true rfl⟩

theorem g_isMeetingSo (l : Launch) (hfl : l.flags = flags0) (D : va_G) (h0 a1 a2 : Nat) (cA cJ : ClassId) (v : Nat → Int) (L P : Int → Int) (z d : Int) (hd : -900000 ≤ d ∧ d ≤ 900000) (hz : mRI z) (hok : mOK v L P) : mG l yL_isMeetingSo wsL_isMeetingSo ({ frames := 10, cells := 2, slots := 12, locals := 179 }) [.ref h0, .int (mI (z)), .int (mI (d))] D (mXW h0 a1 a2 cA v L P) (mTy cA cJ) 1 0 (mXW h0 a1 a2 cA v L P) (fun _ => False) 2 12 := by
  have hle : mEx3 (1 ≤ mPop z 32 ∧ mPop z 32 ≤ 5) (mUsh z (v 0) = 0) (mMts v L P z) ≤ 3 := mEx3_le
  rcases (by omega : mEx3 (1 ≤ mPop z 32 ∧ mPop z 32 ≤ 5) (mUsh z (v 0) = 0) (mMts v L P z) = 0 ∨ mEx3 (1 ≤ mPop z 32 ∧ mPop z 32 ≤ 5) (mUsh z (v 0) = 0) (mMts v L P z) = 3 ∨ (mEx3 (1 ≤ mPop z 32 ∧ mPop z 32 ≤ 5) (mUsh z (v 0) = 0) (mMts v L P z) = 1 ∨ mEx3 (1 ≤ mPop z 32 ∧ mPop z 32 ≤ 5) (mUsh z (v 0) = 0) (mMts v L P z) = 2)) with he | he | he
  · exact g_meet_c l hfl D h0 a1 a2 cA cJ v L P z d hd hz he hok
  · exact g_meet_b l hfl D h0 a1 a2 cA cJ v L P z d hd hz he hok
  · exact g_meet_a l hfl D h0 a1 a2 cA cJ v L P z d hd hz he hok