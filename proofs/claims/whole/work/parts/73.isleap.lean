set_option maxHeartbeats 400000 in
set_option maxRecDepth 100000 in
theorem lc_isLeap {p : Program} {l : Launch} {e : Env} {s : State} {m : MethodId} {below : List Frame} {meth : Method} {c : Code} (hfl : l.flags = flags0) {b Ls : Nat} {xs : Nat → Int32} {D : va_G} {cA cJ : ClassId} {x0 x1 x2 m0 m1 m2 h7 : Nat} (C0 : mLC p s m meth c b Ls xs D cA cJ x0 x1 x2 m0 m1 m2 h7) (hLs : Ls ≤ 2560) {Q : State → Prop} {n7 n88 : Nat} (hc : n7 + 1 ≤ 1036) (hc2 : n88 + 6 ≤ 8310) (i : Int) (hi : 0 ≤ i ∧ i + 5 ≤ (Ls : Int)) {H : Heap} {locs : List Loc} {t f g : Int} {F : Nat → Int64} {v : Nat → Int} {L P : Int → Int} (hS0 : mLS s D cA cJ x0 x1 x2 m0 m1 m2 h7 H locs t f g F v L P) (hnext : ∀ (H1 : Heap) (locs1 : List Loc) (t1 f1 g1 : Int) (F1 : Nat → Int64) (v1 : Nat → Int) (L1 P1 : Int → Int), mLS s D cA cJ x0 x1 x2 m0 m1 m2 h7 H1 locs1 t1 f1 g1 F1 v1 L1 P1 → ∀ ls : Array Slot, lv_has ls 8 [(4, .int (mI (i))), (0, .ref b), (1, .ref x0), (2, .ref m0), (3, .ref h7)] → W p l e room_1 s m #[Value.ref b] below meth c H1 locs1 (n7 + 1) (n88 + 6) Q (F0 m 1609 ls [])) (ls : Array Slot) (hl : lv_has ls 8 [(4, .int (mI (i))), (0, .ref b), (1, .ref x0), (2, .ref m0), (3, .ref h7)]) : W p l e room_1 s m #[Value.ref b] below meth c H locs n7 n88 Q (F0 m 1410 ls []) := by
  obtain ⟨hC, ⟨hX, hbl⟩, hK, hES, hZS, hNS, ⟨hdx, hdm, hd1, hd2, hd3⟩, hg0, hg1, hg2, hg3, hg4, hg5, hg6⟩ := C0
  obtain ⟨hx, hb, hml, hown, hts⟩ := id hC
  obtain ⟨hok, hPx, hPm, hPo, hS⟩ := hS0
  have hbA : ¬ (fun q : Nat => s.heap.size ≤ q) b := Nat.not_le.mpr hbl
  have hA4 : ∀ q, mA4 x0 x1 x2 h7 q → s.heap.size ≤ q := fun q h => by unfold mA4 at h; omega
  have hA3 : ∀ q, mA3 m0 m1 m2 q → s.heap.size ≤ q := fun q h => by unfold mA3 at h; omega
  have nm0 : ¬ mA4 x0 x1 x2 h7 m0 := by unfold mA4; omega
  have nm1 : ¬ mA4 x0 x1 x2 h7 m1 := by unfold mA4; omega
  have nm2 : ¬ mA4 x0 x1 x2 h7 m2 := by unfold mA4; omega
  have nx0 : ¬ mA3 m0 m1 m2 x0 := by unfold mA3; omega
  have nx1 : ¬ mA3 m0 m1 m2 x1 := by unfold mA3; omega
  have nx2 : ¬ mA3 m0 m1 m2 x2 := by unfold mA3; omega
  have nx7 : ¬ mA3 m0 m1 m2 h7 := by unfold mA3; omega
  obtain ⟨z1, hz1⟩ : ∃ z, mSc xs (i + 1) = z := ⟨_, rfl⟩
  have r1 : mRI z1 := by rw [← hz1]; exact mSc_r xs _
  have hle : (mEx1 (mYear z1)) ≤ 1 := mEx1_le
  refine lv_aload_n hx hb dL_law_1410 rfl (lv_at hl 2 rfl) ?_
  refine lv_aload_n hx hb dL_law_1411 rfl (lv_at hl 1 rfl) ?_
  refine lv_iload hx hb dL_law_1412 (lv_at hl 0 rfl) ?_
  refine mw_iconst hx hb dL_law_1414 ?_
  refine mw_iadd hx hb dL_law_1415 ?_
  refine mw_sld hx hb hX hbl hbA hS hz1 (by omega) (by omega) dL_law_1416 ?_
  refine lv_aload_n hx hb dL_law_1417 rfl (lv_at hl 4 rfl) ?_
  refine mw_cW (rest := []) (hh := _) hC (w_isLeap l hfl D x0 x1 x2 h7 cA cJ F v L P z1 r1 hok hdx) (vx_cwSW 3 hts gL_law_L_isLeap rfl rfl rfl (by decide +kernel) ⟨Nat.le_of_ble_eq_true rfl, Nat.le_of_ble_eq_true rfl⟩) hK hPx hPo hES hZS hNS hS hA4 rfl hl.1 rfl (Nat.le_of_ble_eq_true rfl) ⟨hc, hc2⟩ dL_law_1418 (fun F1 H locs hv9 hP1 hS hk => ?_)
  have hPm := mw_keep3 hPm hk nm0 nm1 nm2
  have hPx := hP1.sub (ws' := mXW x0 x1 x2 cA (v) (L) (P)) [0, 1, 2] rfl
  have hPo := hP1.sub (ws' := [(h7, mOut cJ F1)]) [3] rfl
  refine lv_istore (lv' := [(5, .int (mI ((((mEx1 (mYear z1)) : Nat) : Int)))), (4, .int (mI (i))), (0, .ref b), (1, .ref x0), (2, .ref m0), (3, .ref h7)]) hx hb dL_law_1421 hl (by decide) rfl (fun ls hl => ?_)
  refine lv_aload_n hx hb dL_law_1423 rfl (lv_at hl 4 rfl) ?_
  refine lv_aload_n hx hb dL_law_1424 rfl (lv_at hl 2 rfl) ?_
  refine lv_iload hx hb dL_law_1425 (lv_at hl 1 rfl) ?_
  refine mw_iconst hx hb dL_law_1427 ?_
  refine mw_iadd hx hb dL_law_1428 ?_
  refine mw_sld hx hb hX hbl hbA hS hz1 (by omega) (by omega) dL_law_1429 ?_
  refine mw_cY (rest := []) (q := (RX1, TX1, 13)) hC (y_X1_isLeap l D m0 m1 m2 cA cJ t f g v L P z1 r1 hok hdm) (cwV 1 hts gL_law_X1_isLeap rfl rfl rfl (by decide +kernel) ⟨Nat.le_of_ble_eq_true rfl, Nat.le_of_ble_eq_true rfl⟩) hK hPm hS hA3 rfl rfl rfl hl.1 rfl (Nat.le_of_ble_eq_true rfl) ⟨hc, hc2⟩ dL_law_1430 (fun r f1 g1 H locs hu9 hP1 hS hk => ?_)
  have hPm : va_P D vwCl (mMW m0 m1 m2 cA (((mEx1 (mYear z1)) : Nat) : Int) f1 g1 (v) (L) (P)) H := hP1
  have hu9 : (mEx1 (mYear z1)) = 0 → r = mB (mLeap v z1) := hu9
  have hPx := mw_keep3 hPx hk nx0 nx1 nx2
  have hPo := mw_keep1 hPo hk nx7
  refine W.eq (g2 := F0 m 1433 ls [.int (mI (r))]) rfl ?_
  refine lv_istore (lv' := [(6, .int (mI (r))), (5, .int (mI ((((mEx1 (mYear z1)) : Nat) : Int)))), (4, .int (mI (i))), (0, .ref b), (1, .ref x0), (2, .ref m0), (3, .ref h7)]) hx hb dL_law_1433 hl (by decide) rfl (fun ls hl => ?_)
  refine lv_aload_n hx hb dL_law_1435 rfl (lv_at hl 5 rfl) ?_
  refine mw_cVi (rest := []) (q := (RX1, TX1, 13)) hC (c_X1_thrown l D m0 m1 m2 cA cJ ((((mEx1 (mYear z1)) : Nat) : Int)) f1 g1 v L P) (cwV 0 hts gL_law_X1_thrown rfl rfl rfl (by decide +kernel) ⟨Nat.le_of_ble_eq_true rfl, Nat.le_of_ble_eq_true rfl⟩) hK hPm rfl rfl rfl hl.1 rfl (Nat.le_of_ble_eq_true rfl) ⟨hc, hc2⟩ dL_law_1436 ?_
  refine lv_iload hx hb dL_law_1439 (lv_at hl 1 rfl) ?_
  refine mw_icmp_eq (tgt := 1446) hx hb (by omega) (by omega) dL_law_1441 (by decide) (fun c_1441 => ?_) (fun c_1441 => False.elim (by omega))
  refine lv_iload hx hb dL_law_1446 (lv_at hl 1 rfl) ?_
  refine mw_if_ne (tgt := 1470) hx hb (by omega) dL_law_1448 (by decide) (fun c_1448 => ?_) (fun c_1448 => ?_)
  · refine lv_goto (tgt := 1609) hx hb dL_law_1470 (by decide) ?_
    exact hnext H locs ((((mEx1 (mYear z1)) : Nat) : Int)) f1 g1 F1 v L P ⟨hok, hPx, hPm, hPo, hS⟩ ls (lv_sub hl [2, 3, 4, 5, 6] rfl)
  · have h9 : (mEx1 (mYear z1)) = 0 := by omega
    refine lv_aload_n hx hb dL_law_1451 rfl (lv_at hl 6 rfl) ?_
    refine mw_iconst hx hb dL_law_1452 ?_
    refine mw_lald0 hx hb hK hPo rfl (hv9 h9) dL_law_1453 ?_
    refine lv_iload hx hb dL_law_1454 (lv_at hl 0 rfl) ?_
    refine mw_topi (y := mB (mLeap v z1)) (hu9 h9) ?_
    refine mw_zeq (tgt := 1463) hx hb dL_law_1456 (by decide) (fun c_1456 => ?_) (fun c_1456 => ?_)
    · have hB9 := mB_f c_1456
      refine mw_lconst hx hb 0 (by decide +kernel) dL_law_1463 ?_
      refine mw_lcmp_eq (tgt := 1470) hx hb (by omega) (by omega) dL_law_1464 dL_law_1465 (by decide) (fun c_1465 => ?_) (fun c_1465 => False.elim (by omega))
      refine lv_goto (tgt := 1609) hx hb dL_law_1470 (by decide) ?_
      exact hnext H locs ((((mEx1 (mYear z1)) : Nat) : Int)) f1 g1 F1 v L P ⟨hok, hPx, hPm, hPo, hS⟩ ls (lv_sub hl [2, 3, 4, 5, 6] rfl)
    · have hB9 := mB_t c_1456
      refine mw_lconst hx hb 1 (by decide +kernel) dL_law_1459 ?_
      refine lv_goto (tgt := 1464) hx hb dL_law_1460 (by decide) ?_
      refine mw_lcmp_eq (tgt := 1470) hx hb (by omega) (by omega) dL_law_1464 dL_law_1465 (by decide) (fun c_1465 => ?_) (fun c_1465 => False.elim (by omega))
      refine lv_goto (tgt := 1609) hx hb dL_law_1470 (by decide) ?_
      exact hnext H locs ((((mEx1 (mYear z1)) : Nat) : Int)) f1 g1 F1 v L P ⟨hok, hPx, hPm, hPo, hS⟩ ls (lv_sub hl [2, 3, 4, 5, 6] rfl)
