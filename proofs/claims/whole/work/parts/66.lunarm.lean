set_option maxHeartbeats 400000 in
set_option maxRecDepth 100000 in
theorem lc_lunarMeeting {p : Program} {l : Launch} {e : Env} {s : State} {m : MethodId} {below : List Frame} {meth : Method} {c : Code} (hfl : l.flags = flags0) {b Ls : Nat} {xs : Nat → Int32} {D : va_G} {cA cJ : ClassId} {x0 x1 x2 m0 m1 m2 h7 : Nat} (C0 : mLC p s m meth c b Ls xs D cA cJ x0 x1 x2 m0 m1 m2 h7) (hLs : Ls ≤ 2560) {Q : State → Prop} {n7 n88 : Nat} (hc : n7 + 1 ≤ 1036) (hc2 : n88 + 6 ≤ 8310) (i : Int) (hi : 0 ≤ i ∧ i + 5 ≤ (Ls : Int)) {H : Heap} {locs : List Loc} {t f g : Int} {F : Nat → Int64} {v : Nat → Int} {L P : Int → Int} (hS0 : mLS s D cA cJ x0 x1 x2 m0 m1 m2 h7 H locs t f g F v L P) (hnext : ∀ (H1 : Heap) (locs1 : List Loc) (t1 f1 g1 : Int) (F1 : Nat → Int64) (v1 : Nat → Int) (L1 P1 : Int → Int), mLS s D cA cJ x0 x1 x2 m0 m1 m2 h7 H1 locs1 t1 f1 g1 F1 v1 L1 P1 → ∀ ls : Array Slot, lv_has ls 8 [(4, .int (mI (i))), (0, .ref b), (1, .ref x0), (2, .ref m0), (3, .ref h7)] → W p l e room_1 s m #[Value.ref b] below meth c H1 locs1 (n7 + 1) (n88 + 6) Q (F0 m 1609 ls [])) (ls : Array Slot) (hl : lv_has ls 8 [(4, .int (mI (i))), (0, .ref b), (1, .ref x0), (2, .ref m0), (3, .ref h7)]) : W p l e room_1 s m #[Value.ref b] below meth c H locs n7 n88 Q (F0 m 959 ls []) := by
  obtain ⟨hC, ⟨hX, hbl⟩, hK, hES, hZS, hNS, ⟨hdx, hdm, hd1, hd2, hd3⟩, hg0, hg1, hg2, hg3, hg4, hg5, hg6⟩ := C0
  obtain ⟨hx, hb, hml, hown, hts⟩ := id hC
  obtain ⟨hok, hPx, hPm, hPo, hS⟩ := hS0
  have hbA : ¬ (fun q : Nat => s.heap.size ≤ q) b := Nat.not_le.mpr hbl
  have hA4 : ∀ q, mA4 x0 x1 x2 h7 q → s.heap.size ≤ q := fun q h => by unfold mA4 at h; omega
  have hA3 : ∀ q, mA3 m0 m1 m2 q → s.heap.size ≤ q := fun q h => by unfold mA3 at h; omega
  have nm0 : ¬ mA4 x0 x1 x2 h7 m0 := by unfold mA4; omega
  have nm1 : ¬ mA4 x0 x1 x2 h7 m1 := by unfold mA4; omega
  have nm2 : ¬ mA4 x0 x1 x2 h7 m2 := by unfold mA4; omega
  have nx0 : ¬ mA3 m0 m1 m2 x0 := by unfold mA3; omega
  have nx1 : ¬ mA3 m0 m1 m2 x1 := by unfold mA3; omega
  have nx2 : ¬ mA3 m0 m1 m2 x2 := by unfold mA3; omega
  have nx7 : ¬ mA3 m0 m1 m2 h7 := by unfold mA3; omega
  obtain ⟨z1, hz1⟩ : ∃ z, mSc xs (i + 1) = z := ⟨_, rfl⟩
  have r1 : mRI z1 := by rw [← hz1]; exact mSc_r xs _
  obtain ⟨z2, hz2⟩ : ∃ z, mSc xs (i + 2) = z := ⟨_, rfl⟩
  have r2 : mRI z2 := by rw [← hz2]; exact mSc_r xs _
  obtain ⟨z3, hz3⟩ : ∃ z, mSc xs (i + 3) = z := ⟨_, rfl⟩
  have r3 : mRI z3 := by rw [← hz3]; exact mSc_r xs _
  obtain ⟨z4, hz4⟩ : ∃ z, mSc xs (i + 4) = z := ⟨_, rfl⟩
  have r4 : mRI z4 := by rw [← hz4]; exact mSc_r xs _
  have hle : (mEx3 (mDay z2 ∧ (0 ≤ z3 ∧ z3 ≤ 99) ∧ (1 ≤ z4 ∧ z4 ≤ 1000) ∧ 1 ≤ mPop z1 32 ∧ mPop z1 32 ≤ 5) (mUsh z1 (v 0) = 0) (mMts v L P z1)) ≤ 3 := mEx3_le
  refine lv_aload_n hx hb dL_law_959 rfl (lv_at hl 2 rfl) ?_
  refine lv_aload_n hx hb dL_law_960 rfl (lv_at hl 1 rfl) ?_
  refine lv_iload hx hb dL_law_961 (lv_at hl 0 rfl) ?_
  refine mw_iconst hx hb dL_law_963 ?_
  refine mw_iadd hx hb dL_law_964 ?_
  refine mw_sld hx hb hX hbl hbA hS hz1 (by omega) (by omega) dL_law_965 ?_
  refine lv_aload_n hx hb dL_law_966 rfl (lv_at hl 1 rfl) ?_
  refine lv_iload hx hb dL_law_967 (lv_at hl 0 rfl) ?_
  refine mw_iconst hx hb dL_law_969 ?_
  refine mw_iadd hx hb dL_law_970 ?_
  refine mw_sld hx hb hX hbl hbA hS hz2 (by omega) (by omega) dL_law_971 ?_
  refine lv_aload_n hx hb dL_law_972 rfl (lv_at hl 1 rfl) ?_
  refine lv_iload hx hb dL_law_973 (lv_at hl 0 rfl) ?_
  refine mw_iconst hx hb dL_law_975 ?_
  refine mw_iadd hx hb dL_law_976 ?_
  refine mw_sld hx hb hX hbl hbA hS hz3 (by omega) (by omega) dL_law_977 ?_
  refine lv_aload_n hx hb dL_law_978 rfl (lv_at hl 1 rfl) ?_
  refine lv_iload hx hb dL_law_979 (lv_at hl 0 rfl) ?_
  refine mw_iconst hx hb dL_law_981 ?_
  refine mw_iadd hx hb dL_law_982 ?_
  refine mw_sld hx hb hX hbl hbA hS hz4 (by omega) (by omega) dL_law_983 ?_
  refine lv_aload_n hx hb dL_law_984 rfl (lv_at hl 4 rfl) ?_
  refine mw_cW (rest := []) (hh := _) hC (w_lunarMeeting l hfl D x0 x1 x2 h7 cA cJ F v L P z1 z2 z3 z4 r1 r2 r3 r4 hok hdx) (vx_cwSW 6 hts gL_law_L_lunarMeeting rfl rfl rfl (by decide +kernel) ⟨Nat.le_of_ble_eq_true rfl, Nat.le_of_ble_eq_true rfl⟩) hK hPx hPo hES hZS hNS hS hA4 rfl hl.1 rfl (Nat.le_of_ble_eq_true rfl) ⟨hc, hc2⟩ dL_law_985 (fun F1 H locs hv9 hP1 hS hk => ?_)
  have hPm := mw_keep3 hPm hk nm0 nm1 nm2
  have hPx := hP1.sub (ws' := mXW x0 x1 x2 cA (v) (L) (P)) [0, 1, 2] rfl
  have hPo := hP1.sub (ws' := [(h7, mOut cJ F1)]) [3] rfl
  refine lv_istore (lv' := [(5, .int (mI ((((mEx3 (mDay z2 ∧ (0 ≤ z3 ∧ z3 ≤ 99) ∧ (1 ≤ z4 ∧ z4 ≤ 1000) ∧ 1 ≤ mPop z1 32 ∧ mPop z1 32 ≤ 5) (mUsh z1 (v 0) = 0) (mMts v L P z1)) : Nat) : Int)))), (4, .int (mI (i))), (0, .ref b), (1, .ref x0), (2, .ref m0), (3, .ref h7)]) hx hb dL_law_988 hl (by decide) rfl (fun ls hl => ?_)
  refine lv_aload_n hx hb dL_law_990 rfl (lv_at hl 4 rfl) ?_
  refine lv_aload_n hx hb dL_law_991 rfl (lv_at hl 2 rfl) ?_
  refine lv_iload hx hb dL_law_992 (lv_at hl 1 rfl) ?_
  refine mw_iconst hx hb dL_law_994 ?_
  refine mw_iadd hx hb dL_law_995 ?_
  refine mw_sld hx hb hX hbl hbA hS hz1 (by omega) (by omega) dL_law_996 ?_
  refine lv_aload_n hx hb dL_law_997 rfl (lv_at hl 2 rfl) ?_
  refine lv_iload hx hb dL_law_998 (lv_at hl 1 rfl) ?_
  refine mw_iconst hx hb dL_law_1000 ?_
  refine mw_iadd hx hb dL_law_1001 ?_
  refine mw_sld hx hb hX hbl hbA hS hz2 (by omega) (by omega) dL_law_1002 ?_
  refine lv_aload_n hx hb dL_law_1003 rfl (lv_at hl 2 rfl) ?_
  refine lv_iload hx hb dL_law_1004 (lv_at hl 1 rfl) ?_
  refine mw_iconst hx hb dL_law_1006 ?_
  refine mw_iadd hx hb dL_law_1007 ?_
  refine mw_sld hx hb hX hbl hbA hS hz3 (by omega) (by omega) dL_law_1008 ?_
  refine lv_aload_n hx hb dL_law_1009 rfl (lv_at hl 2 rfl) ?_
  refine lv_iload hx hb dL_law_1010 (lv_at hl 1 rfl) ?_
  refine mw_iconst hx hb dL_law_1012 ?_
  refine mw_iadd hx hb dL_law_1013 ?_
  refine mw_sld hx hb hX hbl hbA hS hz4 (by omega) (by omega) dL_law_1014 ?_
  refine mw_cY (rest := []) (q := (RX1, TX1, 13)) hC (y_X1_lunarMeeting l D m0 m1 m2 cA cJ t f g v L P z1 z2 z3 z4 r1 r2 r3 r4 hok hdm) (cwV 4 hts gL_law_X1_lunarMeeting rfl rfl rfl (by decide +kernel) ⟨Nat.le_of_ble_eq_true rfl, Nat.le_of_ble_eq_true rfl⟩) hK hPm hS hA3 rfl rfl rfl hl.1 rfl (Nat.le_of_ble_eq_true rfl) ⟨hc, hc2⟩ dL_law_1015 (fun r f1 g1 H locs hu9 hP1 hS hk => ?_)
  have hPm : va_P D vwCl (mMW m0 m1 m2 cA (((mEx3 (mDay z2 ∧ (0 ≤ z3 ∧ z3 ≤ 99) ∧ (1 ≤ z4 ∧ z4 ≤ 1000) ∧ 1 ≤ mPop z1 32 ∧ mPop z1 32 ≤ 5) (mUsh z1 (v 0) = 0) (mMts v L P z1)) : Nat) : Int) f1 g1 (v) (L) (P)) H := hP1
  have hu9 : (mEx3 (mDay z2 ∧ (0 ≤ z3 ∧ z3 ≤ 99) ∧ (1 ≤ z4 ∧ z4 ≤ 1000) ∧ 1 ≤ mPop z1 32 ∧ mPop z1 32 ≤ 5) (mUsh z1 (v 0) = 0) (mMts v L P z1)) = 0 → r = mLun v z2 z3 (mSt (mFd L P z1 0 (v 0).toNat)) z4.toNat ((mD0 (mFd L P z1 0 (v 0).toNat) - z2) % mSt (mFd L P z1 0 (v 0).toNat)) := hu9
  have hPx := mw_keep3 hPx hk nx0 nx1 nx2
  have hPo := mw_keep1 hPo hk nx7
  refine W.eq (g2 := F0 m 1018 ls [.long (mL (r))]) rfl ?_
  refine lv_lstore (lv' := [(6, .long (mL (r))), (5, .int (mI ((((mEx3 (mDay z2 ∧ (0 ≤ z3 ∧ z3 ≤ 99) ∧ (1 ≤ z4 ∧ z4 ≤ 1000) ∧ 1 ≤ mPop z1 32 ∧ mPop z1 32 ≤ 5) (mUsh z1 (v 0) = 0) (mMts v L P z1)) : Nat) : Int)))), (4, .int (mI (i))), (0, .ref b), (1, .ref x0), (2, .ref m0), (3, .ref h7)]) hx hb dL_law_1018 hl (by decide) rfl (fun ls hl => ?_)
  refine lv_aload_n hx hb dL_law_1020 rfl (lv_at hl 5 rfl) ?_
  refine mw_cVi (rest := []) (q := (RX1, TX1, 13)) hC (c_X1_thrown l D m0 m1 m2 cA cJ ((((mEx3 (mDay z2 ∧ (0 ≤ z3 ∧ z3 ≤ 99) ∧ (1 ≤ z4 ∧ z4 ≤ 1000) ∧ 1 ≤ mPop z1 32 ∧ mPop z1 32 ≤ 5) (mUsh z1 (v 0) = 0) (mMts v L P z1)) : Nat) : Int)) f1 g1 v L P) (cwV 0 hts gL_law_X1_thrown rfl rfl rfl (by decide +kernel) ⟨Nat.le_of_ble_eq_true rfl, Nat.le_of_ble_eq_true rfl⟩) hK hPm rfl rfl rfl hl.1 rfl (Nat.le_of_ble_eq_true rfl) ⟨hc, hc2⟩ dL_law_1021 ?_
  refine lv_iload hx hb dL_law_1024 (lv_at hl 1 rfl) ?_
  refine mw_icmp_eq (tgt := 1031) hx hb (by omega) (by omega) dL_law_1026 (by decide) (fun c_1026 => ?_) (fun c_1026 => False.elim (by omega))
  refine lv_iload hx hb dL_law_1031 (lv_at hl 1 rfl) ?_
  refine mw_if_ne (tgt := 1047) hx hb (by omega) dL_law_1033 (by decide) (fun c_1033 => ?_) (fun c_1033 => ?_)
  · refine lv_goto (tgt := 1609) hx hb dL_law_1047 (by decide) ?_
    exact hnext H locs ((((mEx3 (mDay z2 ∧ (0 ≤ z3 ∧ z3 ≤ 99) ∧ (1 ≤ z4 ∧ z4 ≤ 1000) ∧ 1 ≤ mPop z1 32 ∧ mPop z1 32 ≤ 5) (mUsh z1 (v 0) = 0) (mMts v L P z1)) : Nat) : Int)) f1 g1 F1 v L P ⟨hok, hPx, hPm, hPo, hS⟩ ls (lv_sub hl [2, 3, 4, 5, 6] rfl)
  · have h9 : (mEx3 (mDay z2 ∧ (0 ≤ z3 ∧ z3 ≤ 99) ∧ (1 ≤ z4 ∧ z4 ≤ 1000) ∧ 1 ≤ mPop z1 32 ∧ mPop z1 32 ≤ 5) (mUsh z1 (v 0) = 0) (mMts v L P z1)) = 0 := by omega
    have hrg := m_lun9 hok z1 z2 z3 z4 h9
    refine lv_aload_n hx hb dL_law_1036 rfl (lv_at hl 6 rfl) ?_
    refine mw_iconst hx hb dL_law_1037 ?_
    refine mw_lald0 hx hb hK hPo rfl (hv9 h9) dL_law_1038 ?_
    refine lv_lload hx hb dL_law_1039 (lv_at hl 0 rfl) ?_
    refine mw_topl (y := mLun v z2 z3 (mSt (mFd L P z1 0 (v 0).toNat)) z4.toNat ((mD0 (mFd L P z1 0 (v 0).toNat) - z2) % mSt (mFd L P z1 0 (v 0).toNat))) (hu9 h9) ?_
    refine mw_lcmp_eq (tgt := 1047) hx hb (by omega) (by omega) dL_law_1041 dL_law_1042 (by decide) (fun c_1042 => ?_) (fun c_1042 => False.elim (by omega))
    refine lv_goto (tgt := 1609) hx hb dL_law_1047 (by decide) ?_
    exact hnext H locs ((((mEx3 (mDay z2 ∧ (0 ≤ z3 ∧ z3 ≤ 99) ∧ (1 ≤ z4 ∧ z4 ≤ 1000) ∧ 1 ≤ mPop z1 32 ∧ mPop z1 32 ≤ 5) (mUsh z1 (v 0) = 0) (mMts v L P z1)) : Nat) : Int)) f1 g1 F1 v L P ⟨hok, hPx, hPm, hPo, hS⟩ ls (lv_sub hl [2, 3, 4, 5, 6] rfl)
