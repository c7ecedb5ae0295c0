set_option maxHeartbeats 400000 in
set_option maxRecDepth 100000 in
theorem lc_year {p : Program} {l : Launch} {e : Env} {s : State} {m : MethodId} {below : List Frame} {meth : Method} {c : Code} (hfl : l.flags = flags0) {b Ls : Nat} {xs : Nat → Int32} {D : va_G} {cA cJ : ClassId} {x0 x1 x2 m0 m1 m2 h7 : Nat} (C0 : mLC p s m meth c b Ls xs D cA cJ x0 x1 x2 m0 m1 m2 h7) (hLs : Ls ≤ 2560) {Q : State → Prop} {n7 n88 : Nat} (hc : n7 + 1 ≤ 1036) (hc2 : n88 + 6 ≤ 8310) (i : Int) (hi : 0 ≤ i ∧ i + 5 ≤ (Ls : Int)) {H : Heap} {locs : List Loc} {t f g : Int} {F : Nat → Int64} {v : Nat → Int} {L P : Int → Int} (hS0 : mLS s D cA cJ x0 x1 x2 m0 m1 m2 h7 H locs t f g F v L P) (hnext : ∀ (H1 : Heap) (locs1 : List Loc) (t1 f1 g1 : Int) (F1 : Nat → Int64) (v1 : Nat → Int) (L1 P1 : Int → Int), mLS s D cA cJ x0 x1 x2 m0 m1 m2 h7 H1 locs1 t1 f1 g1 F1 v1 L1 P1 → ∀ ls : Array Slot, lv_has ls 8 [(4, .int (mI (i))), (0, .ref b), (1, .ref x0), (2, .ref m0), (3, .ref h7)] → W p l e room_1 s m #[Value.ref b] below meth c H1 locs1 (n7 + 1) (n88 + 6) Q (F0 m 1609 ls [])) (ls : Array Slot) (hl : lv_has ls 8 [(4, .int (mI (i))), (0, .ref b), (1, .ref x0), (2, .ref m0), (3, .ref h7)]) : W p l e room_1 s m #[Value.ref b] below meth c H locs n7 n88 Q (F0 m 1298 ls []) := by
  obtain ⟨hC, ⟨hX, hbl⟩, hK, hES, hZS, hNS, ⟨hdx, hdm, hd1, hd2, hd3⟩, hg0, hg1, hg2, hg3, hg4, hg5, hg6⟩ := C0
  obtain ⟨hx, hb, hml, hown, hts⟩ := id hC
  obtain ⟨hok, hPx, hPm, hPo, hS⟩ := hS0
  have hbA : ¬ (fun q : Nat => s.heap.size ≤ q) b := Nat.not_le.mpr hbl
  have hA4 : ∀ q, mA4 x0 x1 x2 h7 q → s.heap.size ≤ q := fun q h => by unfold mA4 at h; omega
  have hA3 : ∀ q, mA3 m0 m1 m2 q → s.heap.size ≤ q := fun q h => by unfold mA3 at h; omega
  have nm0 : ¬ mA4 x0 x1 x2 h7 m0 := by unfold mA4; omega
  have nm1 : ¬ mA4 x0 x1 x2 h7 m1 := by unfold mA4; omega
  have nm2 : ¬ mA4 x0 x1 x2 h7 m2 := by unfold mA4; omega
  have nx0 : ¬ mA3 m0 m1 m2 x0 := by unfold mA3; omega
  have nx1 : ¬ mA3 m0 m1 m2 x1 := by unfold mA3; omega
  have nx2 : ¬ mA3 m0 m1 m2 x2 := by unfold mA3; omega
  have nx7 : ¬ mA3 m0 m1 m2 h7 := by unfold mA3; omega
  obtain ⟨z1, hz1⟩ : ∃ z, mSc xs (i + 1) = z := ⟨_, rfl⟩
  have r1 : mRI z1 := by rw [← hz1]; exact mSc_r xs _
  have hle : (mEx1 (mDay z1)) ≤ 1 := mEx1_le
  refine lv_aload_n hx hb dL_law_1298 rfl (lv_at hl 2 rfl) ?_
  refine lv_aload_n hx hb dL_law_1299 rfl (lv_at hl 1 rfl) ?_
  refine lv_iload hx hb dL_law_1300 (lv_at hl 0 rfl) ?_
  refine mw_iconst hx hb dL_law_1302 ?_
  refine mw_iadd hx hb dL_law_1303 ?_
  refine mw_sld hx hb hX hbl hbA hS hz1 (by omega) (by omega) dL_law_1304 ?_
  refine lv_aload_n hx hb dL_law_1305 rfl (lv_at hl 4 rfl) ?_
  refine mw_cW (rest := []) (hh := _) hC (w_year l hfl D x0 x1 x2 h7 cA cJ F v L P z1 r1 hok hdx) (vx_cwSW 3 hts gL_law_L_year rfl rfl rfl (by decide +kernel) ⟨Nat.le_of_ble_eq_true rfl, Nat.le_of_ble_eq_true rfl⟩) hK hPx hPo hES hZS hNS hS hA4 rfl hl.1 rfl (Nat.le_of_ble_eq_true rfl) ⟨hc, hc2⟩ dL_law_1306 (fun F1 H locs hv9 hP1 hS hk => ?_)
  have hPm := mw_keep3 hPm hk nm0 nm1 nm2
  have hPx := hP1.sub (ws' := mXW x0 x1 x2 cA (v) (L) (P)) [0, 1, 2] rfl
  have hPo := hP1.sub (ws' := [(h7, mOut cJ F1)]) [3] rfl
  refine lv_istore (lv' := [(5, .int (mI ((((mEx1 (mDay z1)) : Nat) : Int)))), (4, .int (mI (i))), (0, .ref b), (1, .ref x0), (2, .ref m0), (3, .ref h7)]) hx hb dL_law_1309 hl (by decide) rfl (fun ls hl => ?_)
  refine lv_aload_n hx hb dL_law_1311 rfl (lv_at hl 4 rfl) ?_
  refine lv_aload_n hx hb dL_law_1312 rfl (lv_at hl 2 rfl) ?_
  refine lv_iload hx hb dL_law_1313 (lv_at hl 1 rfl) ?_
  refine mw_iconst hx hb dL_law_1315 ?_
  refine mw_iadd hx hb dL_law_1316 ?_
  refine mw_sld hx hb hX hbl hbA hS hz1 (by omega) (by omega) dL_law_1317 ?_
  refine mw_cY (rest := []) (q := (RX1, TX1, 13)) hC (y_X1_year l D m0 m1 m2 cA cJ t f g v L P z1 r1 hok hdm) (cwV 1 hts gL_law_X1_year rfl rfl rfl (by decide +kernel) ⟨Nat.le_of_ble_eq_true rfl, Nat.le_of_ble_eq_true rfl⟩) hK hPm hS hA3 rfl rfl rfl hl.1 rfl (Nat.le_of_ble_eq_true rfl) ⟨hc, hc2⟩ dL_law_1318 (fun r f1 g1 H locs hu9 hP1 hS hk => ?_)
  have hPm : va_P D vwCl (mMW m0 m1 m2 cA (((mEx1 (mDay z1)) : Nat) : Int) f1 g1 (v) (L) (P)) H := hP1
  have hu9 : (mEx1 (mDay z1)) = 0 → r = mYr v z1 := hu9
  have hPx := mw_keep3 hPx hk nx0 nx1 nx2
  have hPo := mw_keep1 hPo hk nx7
  refine W.eq (g2 := F0 m 1321 ls [.int (mI (r))]) rfl ?_
  refine lv_istore (lv' := [(6, .int (mI (r))), (5, .int (mI ((((mEx1 (mDay z1)) : Nat) : Int)))), (4, .int (mI (i))), (0, .ref b), (1, .ref x0), (2, .ref m0), (3, .ref h7)]) hx hb dL_law_1321 hl (by decide) rfl (fun ls hl => ?_)
  refine lv_aload_n hx hb dL_law_1323 rfl (lv_at hl 5 rfl) ?_
  refine mw_cVi (rest := []) (q := (RX1, TX1, 13)) hC (c_X1_thrown l D m0 m1 m2 cA cJ ((((mEx1 (mDay z1)) : Nat) : Int)) f1 g1 v L P) (cwV 0 hts gL_law_X1_thrown rfl rfl rfl (by decide +kernel) ⟨Nat.le_of_ble_eq_true rfl, Nat.le_of_ble_eq_true rfl⟩) hK hPm rfl rfl rfl hl.1 rfl (Nat.le_of_ble_eq_true rfl) ⟨hc, hc2⟩ dL_law_1324 ?_
  refine lv_iload hx hb dL_law_1327 (lv_at hl 1 rfl) ?_
  refine mw_icmp_eq (tgt := 1334) hx hb (by omega) (by omega) dL_law_1329 (by decide) (fun c_1329 => ?_) (fun c_1329 => False.elim (by omega))
  refine lv_iload hx hb dL_law_1334 (lv_at hl 1 rfl) ?_
  refine mw_if_ne (tgt := 1351) hx hb (by omega) dL_law_1336 (by decide) (fun c_1336 => ?_) (fun c_1336 => ?_)
  · refine lv_goto (tgt := 1609) hx hb dL_law_1351 (by decide) ?_
    exact hnext H locs ((((mEx1 (mDay z1)) : Nat) : Int)) f1 g1 F1 v L P ⟨hok, hPx, hPm, hPo, hS⟩ ls (lv_sub hl [2, 3, 4, 5, 6] rfl)
  · have h9 : (mEx1 (mDay z1)) = 0 := by omega
    have hrg : mRI (mYr v z1) := rg_year hok z1 r1 h9
    refine lv_aload_n hx hb dL_law_1339 rfl (lv_at hl 6 rfl) ?_
    refine mw_iconst hx hb dL_law_1340 ?_
    refine mw_lald0 hx hb hK hPo rfl (hv9 h9) dL_law_1341 ?_
    refine lv_iload hx hb dL_law_1342 (lv_at hl 0 rfl) ?_
    refine mw_topi (y := mYr v z1) (hu9 h9) ?_
    refine mw_i2l hx hb (by omega) dL_law_1344 ?_
    refine mw_lcmp_eq (tgt := 1351) hx hb (by omega) (by omega) dL_law_1345 dL_law_1346 (by decide) (fun c_1346 => ?_) (fun c_1346 => False.elim (by omega))
    refine lv_goto (tgt := 1609) hx hb dL_law_1351 (by decide) ?_
    exact hnext H locs ((((mEx1 (mDay z1)) : Nat) : Int)) f1 g1 F1 v L P ⟨hok, hPx, hPm, hPo, hS⟩ ls (lv_sub hl [2, 3, 4, 5, 6] rfl)
