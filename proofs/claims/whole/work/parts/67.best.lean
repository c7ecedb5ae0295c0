set_option maxHeartbeats 400000 in
set_option maxRecDepth 100000 in
theorem lc_best {p : Program} {l : Launch} {e : Env} {s : State} {m : MethodId} {below : List Frame} {meth : Method} {c : Code} (hfl : l.flags = flags0) {b Ls : Nat} {xs : Nat → Int32} {D : va_G} {cA cJ : ClassId} {x0 x1 x2 m0 m1 m2 h7 : Nat} (C0 : mLC p s m meth c b Ls xs D cA cJ x0 x1 x2 m0 m1 m2 h7) (hLs : Ls ≤ 2560) {Q : State → Prop} {n7 n88 : Nat} (hc : n7 + 1 ≤ 1036) (hc2 : n88 + 6 ≤ 8310) (i : Int) (hi : 0 ≤ i ∧ i + 5 ≤ (Ls : Int)) {H : Heap} {locs : List Loc} {t f g : Int} {F : Nat → Int64} {v : Nat → Int} {L P : Int → Int} (hS0 : mLS s D cA cJ x0 x1 x2 m0 m1 m2 h7 H locs t f g F v L P) (hnext : ∀ (H1 : Heap) (locs1 : List Loc) (t1 f1 g1 : Int) (F1 : Nat → Int64) (v1 : Nat → Int) (L1 P1 : Int → Int), mLS s D cA cJ x0 x1 x2 m0 m1 m2 h7 H1 locs1 t1 f1 g1 F1 v1 L1 P1 → ∀ ls : Array Slot, lv_has ls 8 [(4, .int (mI (i))), (0, .ref b), (1, .ref x0), (2, .ref m0), (3, .ref h7)] → W p l e room_1 s m #[Value.ref b] below meth c H1 locs1 (n7 + 1) (n88 + 6) Q (F0 m 1609 ls [])) (ls : Array Slot) (hl : lv_has ls 8 [(4, .int (mI (i))), (0, .ref b), (1, .ref x0), (2, .ref m0), (3, .ref h7)]) : W p l e room_1 s m #[Value.ref b] below meth c H locs n7 n88 Q (F0 m 1050 ls []) := by
  obtain ⟨hC, ⟨hX, hbl⟩, hK, hES, hZS, hNS, ⟨hdx, hdm, hd1, hd2, hd3⟩, hg0, hg1, hg2, hg3, hg4, hg5, hg6⟩ := C0
  obtain ⟨hx, hb, hml, hown, hts⟩ := id hC
  obtain ⟨hok, hPx, hPm, hPo, hS⟩ := hS0
  have hbA : ¬ (fun q : Nat => s.heap.size ≤ q) b := Nat.not_le.mpr hbl
  have hA4 : ∀ q, mA4 x0 x1 x2 h7 q → s.heap.size ≤ q := fun q h => by unfold mA4 at h; omega
  have hA3 : ∀ q, mA3 m0 m1 m2 q → s.heap.size ≤ q := fun q h => by unfold mA3 at h; omega
  have nm0 : ¬ mA4 x0 x1 x2 h7 m0 := by unfold mA4; omega
  have nm1 : ¬ mA4 x0 x1 x2 h7 m1 := by unfold mA4; omega
  have nm2 : ¬ mA4 x0 x1 x2 h7 m2 := by unfold mA4; omega
  have nx0 : ¬ mA3 m0 m1 m2 x0 := by unfold mA3; omega
  have nx1 : ¬ mA3 m0 m1 m2 x1 := by unfold mA3; omega
  have nx2 : ¬ mA3 m0 m1 m2 x2 := by unfold mA3; omega
  have nx7 : ¬ mA3 m0 m1 m2 h7 := by unfold mA3; omega
  obtain ⟨z1, hz1⟩ : ∃ z, mSc xs (i + 1) = z := ⟨_, rfl⟩
  have r1 : mRI z1 := by rw [← hz1]; exact mSc_r xs _
  obtain ⟨z2, hz2⟩ : ∃ z, mSc xs (i + 2) = z := ⟨_, rfl⟩
  have r2 : mRI z2 := by rw [← hz2]; exact mSc_r xs _
  obtain ⟨z3, hz3⟩ : ∃ z, mSc xs (i + 3) = z := ⟨_, rfl⟩
  have r3 : mRI z3 := by rw [← hz3]; exact mSc_r xs _
  have hle : (mEx2 (mDay z2 ∧ mDay z3 ∧ z2 ≤ z3 ∧ z3 ≤ z2 + 2000) (mUsh z1 (v 0) = 0)) ≤ 2 := mEx2_le
  refine lv_aload_n hx hb dL_law_1050 rfl (lv_at hl 2 rfl) ?_
  refine lv_aload_n hx hb dL_law_1051 rfl (lv_at hl 1 rfl) ?_
  refine lv_iload hx hb dL_law_1052 (lv_at hl 0 rfl) ?_
  refine mw_iconst hx hb dL_law_1054 ?_
  refine mw_iadd hx hb dL_law_1055 ?_
  refine mw_sld hx hb hX hbl hbA hS hz1 (by omega) (by omega) dL_law_1056 ?_
  refine lv_aload_n hx hb dL_law_1057 rfl (lv_at hl 1 rfl) ?_
  refine lv_iload hx hb dL_law_1058 (lv_at hl 0 rfl) ?_
  refine mw_iconst hx hb dL_law_1060 ?_
  refine mw_iadd hx hb dL_law_1061 ?_
  refine mw_sld hx hb hX hbl hbA hS hz2 (by omega) (by omega) dL_law_1062 ?_
  refine lv_aload_n hx hb dL_law_1063 rfl (lv_at hl 1 rfl) ?_
  refine lv_iload hx hb dL_law_1064 (lv_at hl 0 rfl) ?_
  refine mw_iconst hx hb dL_law_1066 ?_
  refine mw_iadd hx hb dL_law_1067 ?_
  refine mw_sld hx hb hX hbl hbA hS hz3 (by omega) (by omega) dL_law_1068 ?_
  refine lv_aload_n hx hb dL_law_1069 rfl (lv_at hl 4 rfl) ?_
  refine mw_cW (rest := []) (hh := _) hC (w_best l hfl D x0 x1 x2 h7 cA cJ F v L P z1 z2 z3 r1 r2 r3 hok hdx) (vx_cwSW 5 hts gL_law_L_best rfl rfl rfl (by decide +kernel) ⟨Nat.le_of_ble_eq_true rfl, Nat.le_of_ble_eq_true rfl⟩) hK hPx hPo hES hZS hNS hS hA4 rfl hl.1 rfl (Nat.le_of_ble_eq_true rfl) ⟨hc, hc2⟩ dL_law_1070 (fun F1 H locs hv9 hP1 hS hk => ?_)
  have hPm := mw_keep3 hPm hk nm0 nm1 nm2
  have hPx := hP1.sub (ws' := mXW x0 x1 x2 cA (v) (L) (P)) [0, 1, 2] rfl
  have hPo := hP1.sub (ws' := [(h7, mOut cJ F1)]) [3] rfl
  refine lv_istore (lv' := [(5, .int (mI ((((mEx2 (mDay z2 ∧ mDay z3 ∧ z2 ≤ z3 ∧ z3 ≤ z2 + 2000) (mUsh z1 (v 0) = 0)) : Nat) : Int)))), (4, .int (mI (i))), (0, .ref b), (1, .ref x0), (2, .ref m0), (3, .ref h7)]) hx hb dL_law_1073 hl (by decide) rfl (fun ls hl => ?_)
  refine lv_aload_n hx hb dL_law_1075 rfl (lv_at hl 4 rfl) ?_
  refine lv_aload_n hx hb dL_law_1076 rfl (lv_at hl 2 rfl) ?_
  refine lv_iload hx hb dL_law_1077 (lv_at hl 1 rfl) ?_
  refine mw_iconst hx hb dL_law_1079 ?_
  refine mw_iadd hx hb dL_law_1080 ?_
  refine mw_sld hx hb hX hbl hbA hS hz1 (by omega) (by omega) dL_law_1081 ?_
  refine lv_aload_n hx hb dL_law_1082 rfl (lv_at hl 2 rfl) ?_
  refine lv_iload hx hb dL_law_1083 (lv_at hl 1 rfl) ?_
  refine mw_iconst hx hb dL_law_1085 ?_
  refine mw_iadd hx hb dL_law_1086 ?_
  refine mw_sld hx hb hX hbl hbA hS hz2 (by omega) (by omega) dL_law_1087 ?_
  refine lv_aload_n hx hb dL_law_1088 rfl (lv_at hl 2 rfl) ?_
  refine lv_iload hx hb dL_law_1089 (lv_at hl 1 rfl) ?_
  refine mw_iconst hx hb dL_law_1091 ?_
  refine mw_iadd hx hb dL_law_1092 ?_
  refine mw_sld hx hb hX hbl hbA hS hz3 (by omega) (by omega) dL_law_1093 ?_
  refine mw_cY (rest := []) (q := (RX1, TX1, 13)) hC (y_X1_best l D m0 m1 m2 cA cJ t f g v L P z1 z2 z3 r1 r2 r3 hok hdm) (cwV 3 hts gL_law_X1_best rfl rfl rfl (by decide +kernel) ⟨Nat.le_of_ble_eq_true rfl, Nat.le_of_ble_eq_true rfl⟩) hK hPm hS hA3 rfl rfl rfl hl.1 rfl (Nat.le_of_ble_eq_true rfl) ⟨hc, hc2⟩ dL_law_1094 (fun r f1 g1 H locs hu9 hP1 hS hk => ?_)
  have hPm : va_P D vwCl (mMW m0 m1 m2 cA (((mEx2 (mDay z2 ∧ mDay z3 ∧ z2 ≤ z3 ∧ z3 ≤ z2 + 2000) (mUsh z1 (v 0) = 0)) : Nat) : Int) f1 g1 (v) (L) (P)) H := hP1
  have hu9 : (mEx2 (mDay z2 ∧ mDay z3 ∧ z2 ≤ z3 ∧ z3 ≤ z2 + 2000) (mUsh z1 (v 0) = 0)) = 0 → r = mBst L P (v 0).toNat z1 z2 (z3 + 1 - z2).toNat := hu9
  have hPx := mw_keep3 hPx hk nx0 nx1 nx2
  have hPo := mw_keep1 hPo hk nx7
  refine W.eq (g2 := F0 m 1097 ls [.int (mI (r))]) rfl ?_
  refine lv_istore (lv' := [(6, .int (mI (r))), (5, .int (mI ((((mEx2 (mDay z2 ∧ mDay z3 ∧ z2 ≤ z3 ∧ z3 ≤ z2 + 2000) (mUsh z1 (v 0) = 0)) : Nat) : Int)))), (4, .int (mI (i))), (0, .ref b), (1, .ref x0), (2, .ref m0), (3, .ref h7)]) hx hb dL_law_1097 hl (by decide) rfl (fun ls hl => ?_)
  refine lv_aload_n hx hb dL_law_1099 rfl (lv_at hl 5 rfl) ?_
  refine mw_cVi (rest := []) (q := (RX1, TX1, 13)) hC (c_X1_thrown l D m0 m1 m2 cA cJ ((((mEx2 (mDay z2 ∧ mDay z3 ∧ z2 ≤ z3 ∧ z3 ≤ z2 + 2000) (mUsh z1 (v 0) = 0)) : Nat) : Int)) f1 g1 v L P) (cwV 0 hts gL_law_X1_thrown rfl rfl rfl (by decide +kernel) ⟨Nat.le_of_ble_eq_true rfl, Nat.le_of_ble_eq_true rfl⟩) hK hPm rfl rfl rfl hl.1 rfl (Nat.le_of_ble_eq_true rfl) ⟨hc, hc2⟩ dL_law_1100 ?_
  refine lv_iload hx hb dL_law_1103 (lv_at hl 1 rfl) ?_
  refine mw_icmp_eq (tgt := 1110) hx hb (by omega) (by omega) dL_law_1105 (by decide) (fun c_1105 => ?_) (fun c_1105 => False.elim (by omega))
  refine lv_iload hx hb dL_law_1110 (lv_at hl 1 rfl) ?_
  refine mw_if_ne (tgt := 1127) hx hb (by omega) dL_law_1112 (by decide) (fun c_1112 => ?_) (fun c_1112 => ?_)
  · refine lv_goto (tgt := 1609) hx hb dL_law_1127 (by decide) ?_
    exact hnext H locs ((((mEx2 (mDay z2 ∧ mDay z3 ∧ z2 ≤ z3 ∧ z3 ≤ z2 + 2000) (mUsh z1 (v 0) = 0)) : Nat) : Int)) f1 g1 F1 v L P ⟨hok, hPx, hPm, hPo, hS⟩ ls (lv_sub hl [2, 3, 4, 5, 6] rfl)
  · have h9 : (mEx2 (mDay z2 ∧ mDay z3 ∧ z2 ≤ z3 ∧ z3 ≤ z2 + 2000) (mUsh z1 (v 0) = 0)) = 0 := by omega
    have hrg : mRI (mBst L P (v 0).toNat z1 z2 (z3 + 1 - z2).toNat) := rg_best hok z1 z2 z3 r1 r2 r3 h9
    refine lv_aload_n hx hb dL_law_1115 rfl (lv_at hl 6 rfl) ?_
    refine mw_iconst hx hb dL_law_1116 ?_
    refine mw_lald0 hx hb hK hPo rfl (hv9 h9) dL_law_1117 ?_
    refine lv_iload hx hb dL_law_1118 (lv_at hl 0 rfl) ?_
    refine mw_topi (y := mBst L P (v 0).toNat z1 z2 (z3 + 1 - z2).toNat) (hu9 h9) ?_
    refine mw_i2l hx hb (by omega) dL_law_1120 ?_
    refine mw_lcmp_eq (tgt := 1127) hx hb (by omega) (by omega) dL_law_1121 dL_law_1122 (by decide) (fun c_1122 => ?_) (fun c_1122 => False.elim (by omega))
    refine lv_goto (tgt := 1609) hx hb dL_law_1127 (by decide) ?_
    exact hnext H locs ((((mEx2 (mDay z2 ∧ mDay z3 ∧ z2 ≤ z3 ∧ z3 ≤ z2 + 2000) (mUsh z1 (v 0) = 0)) : Nat) : Int)) f1 g1 F1 v L P ⟨hok, hPx, hPm, hPo, hS⟩ ls (lv_sub hl [2, 3, 4, 5, 6] rfl)
