set_option maxHeartbeats 400000 in
set_option maxRecDepth 100000 in
theorem lc_markets {p : Program} {l : Launch} {e : Env} {s : State} {m : MethodId} {below : List Frame} {meth : Method} {c : Code} (hfl : l.flags = flags0) {b Ls : Nat} {xs : Nat → Int32} {D : va_G} {cA cJ : ClassId} {x0 x1 x2 m0 m1 m2 h7 : Nat} (C0 : mLC p s m meth c b Ls xs D cA cJ x0 x1 x2 m0 m1 m2 h7) (hLs : Ls ≤ 2560) {Q : State → Prop} {n7 n88 : Nat} (hc : n7 + 1 ≤ 1036) (hc2 : n88 + 6 ≤ 8310) (i : Int) (hi : 0 ≤ i ∧ i + 5 ≤ (Ls : Int)) {H : Heap} {locs : List Loc} {t f g : Int} {F : Nat → Int64} {v : Nat → Int} {L P : Int → Int} (hS0 : mLS s D cA cJ x0 x1 x2 m0 m1 m2 h7 H locs t f g F v L P) (hnext : ∀ (H1 : Heap) (locs1 : List Loc) (t1 f1 g1 : Int) (F1 : Nat → Int64) (v1 : Nat → Int) (L1 P1 : Int → Int), mLS s D cA cJ x0 x1 x2 m0 m1 m2 h7 H1 locs1 t1 f1 g1 F1 v1 L1 P1 → ∀ ls : Array Slot, lv_has ls 8 [(4, .int (mI (i))), (0, .ref b), (1, .ref x0), (2, .ref m0), (3, .ref h7)] → W p l e room_1 s m #[Value.ref b] below meth c H1 locs1 (n7 + 1) (n88 + 6) Q (F0 m 1609 ls [])) (ls : Array Slot) (hl : lv_has ls 8 [(4, .int (mI (i))), (0, .ref b), (1, .ref x0), (2, .ref m0), (3, .ref h7)]) : W p l e room_1 s m #[Value.ref b] below meth c H locs n7 n88 Q (F0 m 412 ls []) := by
  obtain ⟨hC, ⟨hX, hbl⟩, hK, hES, hZS, hNS, ⟨hdx, hdm, hd1, hd2, hd3⟩, hg0, hg1, hg2, hg3, hg4, hg5, hg6⟩ := C0
  obtain ⟨hx, hb, hml, hown, hts⟩ := id hC
  obtain ⟨hok, hPx, hPm, hPo, hS⟩ := hS0
  have hbA : ¬ (fun q : Nat => s.heap.size ≤ q) b := Nat.not_le.mpr hbl
  have hA4 : ∀ q, mA4 x0 x1 x2 h7 q → s.heap.size ≤ q := fun q h => by unfold mA4 at h; omega
  have hA3 : ∀ q, mA3 m0 m1 m2 q → s.heap.size ≤ q := fun q h => by unfold mA3 at h; omega
  have nm0 : ¬ mA4 x0 x1 x2 h7 m0 := by unfold mA4; omega
  have nm1 : ¬ mA4 x0 x1 x2 h7 m1 := by unfold mA4; omega
  have nm2 : ¬ mA4 x0 x1 x2 h7 m2 := by unfold mA4; omega
  have nx0 : ¬ mA3 m0 m1 m2 x0 := by unfold mA3; omega
  have nx1 : ¬ mA3 m0 m1 m2 x1 := by unfold mA3; omega
  have nx2 : ¬ mA3 m0 m1 m2 x2 := by unfold mA3; omega
  have nx7 : ¬ mA3 m0 m1 m2 h7 := by unfold mA3; omega
  have ho1 := hok.1
  refine lv_aload_n hx hb dL_law_412 rfl (lv_at hl 2 rfl) ?_
  refine mw_cVi (rest := []) (q := (RX0, TX0, 10)) hC (c_X0_markets l D x0 x1 x2 cA cJ v L P) (cwV 0 hts gL_law_X0_markets rfl rfl rfl (by decide +kernel) ⟨Nat.le_of_ble_eq_true rfl, Nat.le_of_ble_eq_true rfl⟩) hK hPx rfl rfl rfl hl.1 rfl (Nat.le_of_ble_eq_true rfl) ⟨Nat.le_trans (Nat.le_succ _) hc, Nat.le_trans (Nat.le_add_right _ 6) hc2⟩ dL_law_413 ?_
  refine lv_aload_n hx hb dL_law_416 rfl (lv_at hl 3 rfl) ?_
  refine mw_cY (rest := [.int (mI (v 0))]) (q := (RX1, TX1, 13)) hC (y_X1_markets l D m0 m1 m2 cA cJ t f g v L P hdm) (cwV 0 hts gL_law_X1_markets rfl rfl rfl (by decide +kernel) ⟨Nat.le_of_ble_eq_true rfl, Nat.le_of_ble_eq_true rfl⟩) hK hPm hS hA3 rfl rfl rfl hl.1 rfl (Nat.le_of_ble_eq_true rfl) ⟨Nat.le_trans (Nat.le_succ _) hc, Nat.le_trans (Nat.le_add_right _ 6) hc2⟩ dL_law_417 (fun r f1 g1 H locs hu9 hP1 hS hk => ?_)
  have hPm : va_P D vwCl (mMW m0 m1 m2 cA ((0 : Nat) : Int) f1 g1 v L P) H := hP1
  have hr9 : r = v 0 := hu9 rfl
  subst hr9
  have hPx := mw_keep3 hPx hk nx0 nx1 nx2
  have hPo := mw_keep1 hPo hk nx7
  refine W.eq (g2 := F0 m 420 ls [.int (mI (v 0)), .int (mI (v 0))]) rfl ?_
  refine mw_icmp_eq (tgt := 1609) hx hb (by omega) (by omega) dL_law_420 (by decide) (fun c_420 => ?_) (fun c_420 => False.elim (by omega))
  refine W.widen (k := n7 + 1) (n := n88 + 6) (Nat.le_succ _) (Nat.le_add_right _ 6) ?_
  exact hnext H locs (((0 : Nat) : Int)) f1 g1 F v L P ⟨hok, hPx, hPm, hPo, hS⟩ ls (lv_sub hl [0, 1, 2, 3, 4] rfl)
