set_option maxHeartbeats 400000 in
set_option maxRecDepth 100000 in
theorem lc_setMoon {p : Program} {l : Launch} {e : Env} {s : State} {m : MethodId} {below : List Frame} {meth : Method} {c : Code} (hfl : l.flags = flags0) {b Ls : Nat} {xs : Nat → Int32} {D : va_G} {cA cJ : ClassId} {x0 x1 x2 m0 m1 m2 h7 : Nat} (C0 : mLC p s m meth c b Ls xs D cA cJ x0 x1 x2 m0 m1 m2 h7) (hLs : Ls ≤ 2560) {Q : State → Prop} {n7 n88 : Nat} (hc : n7 + 1 ≤ 1036) (hc2 : n88 + 6 ≤ 8310) (i : Int) (hi : 0 ≤ i ∧ i + 5 ≤ (Ls : Int)) {H : Heap} {locs : List Loc} {t f g : Int} {F : Nat → Int64} {v : Nat → Int} {L P : Int → Int} (hS0 : mLS s D cA cJ x0 x1 x2 m0 m1 m2 h7 H locs t f g F v L P) (hnext : ∀ (H1 : Heap) (locs1 : List Loc) (t1 f1 g1 : Int) (F1 : Nat → Int64) (v1 : Nat → Int) (L1 P1 : Int → Int), mLS s D cA cJ x0 x1 x2 m0 m1 m2 h7 H1 locs1 t1 f1 g1 F1 v1 L1 P1 → ∀ ls : Array Slot, lv_has ls 8 [(4, .int (mI (i))), (0, .ref b), (1, .ref x0), (2, .ref m0), (3, .ref h7)] → W p l e room_1 s m #[Value.ref b] below meth c H1 locs1 (n7 + 1) (n88 + 6) Q (F0 m 1609 ls [])) (ls : Array Slot) (hl : lv_has ls 8 [(4, .int (mI (i))), (0, .ref b), (1, .ref x0), (2, .ref m0), (3, .ref h7)]) : W p l e room_1 s m #[Value.ref b] below meth c H locs n7 n88 Q (F0 m 280 ls []) := by
  obtain ⟨hC, ⟨hX, hbl⟩, hK, hES, hZS, hNS, ⟨hdx, hdm, hd1, hd2, hd3⟩, hg0, hg1, hg2, hg3, hg4, hg5, hg6⟩ := C0
  obtain ⟨hx, hb, hml, hown, hts⟩ := id hC
  obtain ⟨hok, hPx, hPm, hPo, hS⟩ := hS0
  have hbA : ¬ (fun q : Nat => s.heap.size ≤ q) b := Nat.not_le.mpr hbl
  have hA4 : ∀ q, mA4 x0 x1 x2 h7 q → s.heap.size ≤ q := fun q h => by unfold mA4 at h; omega
  have hA3 : ∀ q, mA3 m0 m1 m2 q → s.heap.size ≤ q := fun q h => by unfold mA3 at h; omega
  have nm0 : ¬ mA4 x0 x1 x2 h7 m0 := by unfold mA4; omega
  have nm1 : ¬ mA4 x0 x1 x2 h7 m1 := by unfold mA4; omega
  have nm2 : ¬ mA4 x0 x1 x2 h7 m2 := by unfold mA4; omega
  have nx0 : ¬ mA3 m0 m1 m2 x0 := by unfold mA3; omega
  have nx1 : ¬ mA3 m0 m1 m2 x1 := by unfold mA3; omega
  have nx2 : ¬ mA3 m0 m1 m2 x2 := by unfold mA3; omega
  have nx7 : ¬ mA3 m0 m1 m2 h7 := by unfold mA3; omega
  obtain ⟨z1, hz1⟩ : ∃ z, mSc xs (i + 1) = z := ⟨_, rfl⟩
  have r1 : mRI z1 := by rw [← hz1]; exact mSc_r xs _
  obtain ⟨z2, hz2⟩ : ∃ z, mSc xs (i + 2) = z := ⟨_, rfl⟩
  have r2 : mRI z2 := by rw [← hz2]; exact mSc_r xs _
  obtain ⟨z3, hz3⟩ : ∃ z, mSc xs (i + 3) = z := ⟨_, rfl⟩
  have r3 : mRI z3 := by rw [← hz3]; exact mSc_r xs _
  have hle : (mEx1 ((1 ≤ z2 ∧ z2 ≤ 100) ∧ (2 * z2 ≤ z1 ∧ z1 ≤ 100 * z2) ∧ -1000 ≤ z3 ∧ z3 ≤ 1000)) ≤ 1 := mEx1_le
  refine lv_aload_n hx hb dL_law_280 rfl (lv_at hl 2 rfl) ?_
  refine lv_aload_n hx hb dL_law_281 rfl (lv_at hl 1 rfl) ?_
  refine lv_iload hx hb dL_law_282 (lv_at hl 0 rfl) ?_
  refine mw_iconst hx hb dL_law_284 ?_
  refine mw_iadd hx hb dL_law_285 ?_
  refine mw_sld hx hb hX hbl hbA hS hz1 (by omega) (by omega) dL_law_286 ?_
  refine lv_aload_n hx hb dL_law_287 rfl (lv_at hl 1 rfl) ?_
  refine lv_iload hx hb dL_law_288 (lv_at hl 0 rfl) ?_
  refine mw_iconst hx hb dL_law_290 ?_
  refine mw_iadd hx hb dL_law_291 ?_
  refine mw_sld hx hb hX hbl hbA hS hz2 (by omega) (by omega) dL_law_292 ?_
  refine lv_aload_n hx hb dL_law_293 rfl (lv_at hl 1 rfl) ?_
  refine lv_iload hx hb dL_law_294 (lv_at hl 0 rfl) ?_
  refine mw_iconst hx hb dL_law_296 ?_
  refine mw_iadd hx hb dL_law_297 ?_
  refine mw_sld hx hb hX hbl hbA hS hz3 (by omega) (by omega) dL_law_298 ?_
  refine mw_cW (rest := []) (hh := _) hC (w_setMoon l hfl D x0 x1 x2 h7 cA cJ F v L P z1 z2 z3 r1 r2 r3 hok hdx) (vx_cwSW 4 hts gL_law_L_setMoon rfl rfl rfl (by decide +kernel) ⟨Nat.le_of_ble_eq_true rfl, Nat.le_of_ble_eq_true rfl⟩) hK hPx hPo hES hZS hNS hS hA4 rfl hl.1 rfl (Nat.le_of_ble_eq_true rfl) ⟨hc, hc2⟩ dL_law_299 (fun F1 H locs hv9 hP1 hS hk => ?_)
  have hPm := mw_keep3 hPm hk nm0 nm1 nm2
  have hPx := hP1.sub (ws' := mXW x0 x1 x2 cA (mIf (mEx1 ((1 ≤ z2 ∧ z2 ≤ 100) ∧ (2 * z2 ≤ z1 ∧ z1 ≤ 100 * z2) ∧ -1000 ≤ z3 ∧ z3 ≤ 1000)) (mPut (mPut (mPut v 1 z1) 2 z2) 3 z3) v) (mIf (mEx1 ((1 ≤ z2 ∧ z2 ≤ 100) ∧ (2 * z2 ≤ z1 ∧ z1 ≤ 100 * z2) ∧ -1000 ≤ z3 ∧ z3 ≤ 1000)) L L) (mIf (mEx1 ((1 ≤ z2 ∧ z2 ≤ 100) ∧ (2 * z2 ≤ z1 ∧ z1 ≤ 100 * z2) ∧ -1000 ≤ z3 ∧ z3 ≤ 1000)) P P)) [0, 1, 2] rfl
  have hPo := hP1.sub (ws' := [(h7, mOut cJ F1)]) [3] rfl
  refine lv_istore (lv' := [(5, .int (mI ((((mEx1 ((1 ≤ z2 ∧ z2 ≤ 100) ∧ (2 * z2 ≤ z1 ∧ z1 ≤ 100 * z2) ∧ -1000 ≤ z3 ∧ z3 ≤ 1000)) : Nat) : Int)))), (4, .int (mI (i))), (0, .ref b), (1, .ref x0), (2, .ref m0), (3, .ref h7)]) hx hb dL_law_302 hl (by decide) rfl (fun ls hl => ?_)
  refine lv_aload_n hx hb dL_law_304 rfl (lv_at hl 4 rfl) ?_
  refine lv_aload_n hx hb dL_law_305 rfl (lv_at hl 2 rfl) ?_
  refine lv_iload hx hb dL_law_306 (lv_at hl 1 rfl) ?_
  refine mw_iconst hx hb dL_law_308 ?_
  refine mw_iadd hx hb dL_law_309 ?_
  refine mw_sld hx hb hX hbl hbA hS hz1 (by omega) (by omega) dL_law_310 ?_
  refine lv_aload_n hx hb dL_law_311 rfl (lv_at hl 2 rfl) ?_
  refine lv_iload hx hb dL_law_312 (lv_at hl 1 rfl) ?_
  refine mw_iconst hx hb dL_law_314 ?_
  refine mw_iadd hx hb dL_law_315 ?_
  refine mw_sld hx hb hX hbl hbA hS hz2 (by omega) (by omega) dL_law_316 ?_
  refine lv_aload_n hx hb dL_law_317 rfl (lv_at hl 2 rfl) ?_
  refine lv_iload hx hb dL_law_318 (lv_at hl 1 rfl) ?_
  refine mw_iconst hx hb dL_law_320 ?_
  refine mw_iadd hx hb dL_law_321 ?_
  refine mw_sld hx hb hX hbl hbA hS hz3 (by omega) (by omega) dL_law_322 ?_
  refine mw_cY (rest := []) (q := (RX1, TX1, 13)) hC (y_X1_setMoon l D m0 m1 m2 cA cJ t f g v L P z1 z2 z3 r1 r2 r3 hok hdm) (cwV 3 hts gL_law_X1_setMoon rfl rfl rfl (by decide +kernel) ⟨Nat.le_of_ble_eq_true rfl, Nat.le_of_ble_eq_true rfl⟩) hK hPm hS hA3 rfl rfl rfl hl.1 rfl (Nat.le_of_ble_eq_true rfl) ⟨hc, hc2⟩ dL_law_323 (fun r f1 g1 H locs hu9 hP1 hS hk => ?_)
  have hPm : va_P D vwCl (mMW m0 m1 m2 cA (((mEx1 ((1 ≤ z2 ∧ z2 ≤ 100) ∧ (2 * z2 ≤ z1 ∧ z1 ≤ 100 * z2) ∧ -1000 ≤ z3 ∧ z3 ≤ 1000)) : Nat) : Int) f1 g1 (mIf (mEx1 ((1 ≤ z2 ∧ z2 ≤ 100) ∧ (2 * z2 ≤ z1 ∧ z1 ≤ 100 * z2) ∧ -1000 ≤ z3 ∧ z3 ≤ 1000)) (mPut (mPut (mPut v 1 z1) 2 z2) 3 z3) v) (mIf (mEx1 ((1 ≤ z2 ∧ z2 ≤ 100) ∧ (2 * z2 ≤ z1 ∧ z1 ≤ 100 * z2) ∧ -1000 ≤ z3 ∧ z3 ≤ 1000)) L L) (mIf (mEx1 ((1 ≤ z2 ∧ z2 ≤ 100) ∧ (2 * z2 ≤ z1 ∧ z1 ≤ 100 * z2) ∧ -1000 ≤ z3 ∧ z3 ≤ 1000)) P P)) H := hP1
  have hPx := mw_keep3 hPx hk nx0 nx1 nx2
  have hPo := mw_keep1 hPo hk nx7
  refine W.eq (g2 := F0 m 326 ls []) rfl ?_
  refine lv_aload_n hx hb dL_law_326 rfl (lv_at hl 4 rfl) ?_
  refine mw_cVi (rest := []) (q := (RX1, TX1, 13)) hC (c_X1_thrown l D m0 m1 m2 cA cJ ((((mEx1 ((1 ≤ z2 ∧ z2 ≤ 100) ∧ (2 * z2 ≤ z1 ∧ z1 ≤ 100 * z2) ∧ -1000 ≤ z3 ∧ z3 ≤ 1000)) : Nat) : Int)) f1 g1 (mIf (mEx1 ((1 ≤ z2 ∧ z2 ≤ 100) ∧ (2 * z2 ≤ z1 ∧ z1 ≤ 100 * z2) ∧ -1000 ≤ z3 ∧ z3 ≤ 1000)) (mPut (mPut (mPut v 1 z1) 2 z2) 3 z3) v) (mIf (mEx1 ((1 ≤ z2 ∧ z2 ≤ 100) ∧ (2 * z2 ≤ z1 ∧ z1 ≤ 100 * z2) ∧ -1000 ≤ z3 ∧ z3 ≤ 1000)) L L) (mIf (mEx1 ((1 ≤ z2 ∧ z2 ≤ 100) ∧ (2 * z2 ≤ z1 ∧ z1 ≤ 100 * z2) ∧ -1000 ≤ z3 ∧ z3 ≤ 1000)) P P)) (cwV 0 hts gL_law_X1_thrown rfl rfl rfl (by decide +kernel) ⟨Nat.le_of_ble_eq_true rfl, Nat.le_of_ble_eq_true rfl⟩) hK hPm rfl rfl rfl hl.1 rfl (Nat.le_of_ble_eq_true rfl) ⟨hc, hc2⟩ dL_law_327 ?_
  refine lv_iload hx hb dL_law_330 (lv_at hl 0 rfl) ?_
  refine mw_icmp_eq (tgt := 337) hx hb (by omega) (by omega) dL_law_332 (by decide) (fun c_332 => ?_) (fun c_332 => False.elim (by omega))
  refine lv_goto (tgt := 1609) hx hb dL_law_337 (by decide) ?_
  exact hnext H locs ((((mEx1 ((1 ≤ z2 ∧ z2 ≤ 100) ∧ (2 * z2 ≤ z1 ∧ z1 ≤ 100 * z2) ∧ -1000 ≤ z3 ∧ z3 ≤ 1000)) : Nat) : Int)) f1 g1 F1 (mIf (mEx1 ((1 ≤ z2 ∧ z2 ≤ 100) ∧ (2 * z2 ≤ z1 ∧ z1 ≤ 100 * z2) ∧ -1000 ≤ z3 ∧ z3 ≤ 1000)) (mPut (mPut (mPut v 1 z1) 2 z2) 3 z3) v) (mIf (mEx1 ((1 ≤ z2 ∧ z2 ≤ 100) ∧ (2 * z2 ≤ z1 ∧ z1 ≤ 100 * z2) ∧ -1000 ≤ z3 ∧ z3 ≤ 1000)) L L) (mIf (mEx1 ((1 ≤ z2 ∧ z2 ≤ 100) ∧ (2 * z2 ≤ z1 ∧ z1 ≤ 100 * z2) ∧ -1000 ≤ z3 ∧ z3 ≤ 1000)) P P) ⟨(ok_setMoon hok z1 z2 z3), hPx, hPm, hPo, hS⟩ ls (lv_sub hl [1, 2, 3, 4, 5] rfl)
