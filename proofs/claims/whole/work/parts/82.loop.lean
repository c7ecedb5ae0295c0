theorem mAnd_31 (x : Int) : mAnd x 31 = x % 32 := by
  have h := pk_and (mI x) (m := mI 31) 5 (by decide +kernel)
  unfold mAnd
  rw [h, nI_mI]
  have e := mI_toNat x
  have e2 : (((mI x).toBitVec.toNat % 2 ^ 5 : Nat) : Int) = x % 32 := by
    have : ((2 ^ 5 : Nat) : Int) = 32 := by decide
    rw [Int.natCast_emod, e, this]
    omega
  rw [e2, mI_t (by omega)]
set_option maxHeartbeats 4000000 in
set_option maxRecDepth 100000 in
/-- the law's loop, by how many fives are left -/
theorem law_loop {p : Program} {l : Launch} {e : Env} {s : State} {m : MethodId} {below : List Frame} {meth : Method} {c : Code} (hfl : l.flags = flags0) {b Ls : Nat} {xs : Nat → Int32} {D : va_G} {cA cJ : ClassId} {x0 x1 x2 m0 m1 m2 h7 : Nat} (C0 : mLC p s m meth c b Ls xs D cA cJ x0 x1 x2 m0 m1 m2 h7) (hLs : Ls ≤ 2560) (hr : meth.sig.returnType = ret) (hlocks : meth.locks = false) : ∀ (n j : Nat), 5 * j ≤ Ls → Ls < 5 * j + 5 * n → ∀ (H : Heap) (locs : List Loc) (t f g : Int) (F : Nat → Int64) (v : Nat → Int) (L P : Int → Int), mLS s D cA cJ x0 x1 x2 m0 m1 m2 h7 H locs t f g F v L P → ∀ ls : Array Slot, lv_has ls 8 [(4, .int (mI (5 * (j : Int)))), (0, .ref b), (1, .ref x0), (2, .ref m0), (3, .ref h7)] → W p l e room_1 s m #[Value.ref b] below meth c H locs (7 + j) (88 + 6 * j) (lw_Z below #[Value.ref b] s) (F0 m 23 ls []) := by
  obtain ⟨hC, ⟨hX, hbl⟩, -⟩ := id C0
  obtain ⟨hx, hb, hml, hown, hts⟩ := id hC
  have hbA : ¬ (fun q : Nat => s.heap.size ≤ q) b := Nat.not_le.mpr hbl
  intro n
  induction n with
  | zero => intro j h1 h2; exact False.elim (by omega)
  | succ n ih =>
    intro j h1 h2 H locs t f g F v L P hS0 ls hl
    obtain ⟨hok, hPx, hPm, hPo, hS⟩ := id hS0
    refine lv_iload hx hb dL_law_23 (lv_at hl 0 rfl) ?_
    refine lv_aload_n hx hb dL_law_25 rfl (lv_at hl 1 rfl) ?_
    refine mw_slen hx hb hX hbl hbA hS dL_law_26 ?_
    refine mw_iconst hx hb dL_law_27 ?_
    refine mw_isub hx hb dL_law_28 ?_
    refine mw_icmp_gt (tgt := 1615) hx hb (by omega) (by omega) dL_law_29 (by decide) (fun c1 => ?_) (fun c1 => ?_)
    · refine lv_iconst (v := 1) hx hb dL_law_1615 (by decide) ?_
      refine va_forget (fun q hq => hS.2.2 q hq) ?_
      refine W.widen (k := 1036) (n := 8310) (by omega) (by omega) ?_
      exact lw_ret hx hb hr hlocks dL_law_1616
    have hi : 0 ≤ 5 * (j : Int) ∧ 5 * (j : Int) + 5 ≤ (Ls : Int) := by omega
    have hnx : ∀ (H1 : Heap) (locs1 : List Loc) (t1 f1 g1 : Int) (F1 : Nat → Int64) (v1 : Nat → Int) (L1 P1 : Int → Int), mLS s D cA cJ x0 x1 x2 m0 m1 m2 h7 H1 locs1 t1 f1 g1 F1 v1 L1 P1 → ∀ ls : Array Slot, lv_has ls 8 [(4, .int (mI (5 * (j : Int)))), (0, .ref b), (1, .ref x0), (2, .ref m0), (3, .ref h7)] → W p l e room_1 s m #[Value.ref b] below meth c H1 locs1 (7 + j + 1) (88 + 6 * j + 6) (lw_Z below #[Value.ref b] s) (F0 m 1609 ls []) := by
      intro H1 locs1 t1 f1 g1 F1 v1 L1 P1 h9 ls hl
      refine mw_iinc (k := 0) (lv' := [(4, .int (mI (5 * (j : Int) + 5))), (0, .ref b), (1, .ref x0), (2, .ref m0), (3, .ref h7)]) hx hb dL_law_1609 hl rfl (by decide) rfl (fun ls hl => ?_)
      refine lv_goto (tgt := 23) hx hb dL_law_1612 (by decide) ?_
      have e5 : 5 * (j : Int) + 5 = 5 * ((j + 1 : Nat) : Int) := by omega
      rw [e5] at hl
      have h8 := ih (j + 1) (by omega) (by omega) H1 locs1 t1 f1 g1 F1 v1 L1 P1 h9 ls hl
      have e6 : 88 + 6 * (j + 1) = 88 + 6 * j + 6 := by omega
      rw [e6] at h8
      exact h8
    refine lv_aload_n hx hb dL_law_32 rfl (lv_at hl 1 rfl) ?_
    refine lv_iload hx hb dL_law_33 (lv_at hl 0 rfl) ?_
    refine mw_sld hx hb hX hbl hbA hS (w := mSc xs (5 * (j : Int))) rfl (by omega) (by omega) dL_law_35 ?_
    refine mw_bipush hx hb (by decide +kernel) dL_law_36 ?_
    refine mw_iand hx hb dL_law_38 ?_
    refine mw_namei (fun K eK => ?_)
    rw [mAnd_31] at eK
    have hK : 0 ≤ K ∧ K ≤ 31 := by omega
    clear eK
    by_cases h23 : K ≤ 22
    · have hk : K = 0 ∨ K = 1 ∨ K = 2 ∨ K = 3 ∨ K = 4 ∨ K = 5 ∨ K = 6 ∨ K = 7 ∨ K = 8 ∨ K = 9 ∨ K = 10 ∨ K = 11 ∨ K = 12 ∨ K = 13 ∨ K = 14 ∨ K = 15 ∨ K = 16 ∨ K = 17 ∨ K = 18 ∨ K = 19 ∨ K = 20 ∨ K = 21 ∨ K = 22 := by omega
      clear h23
      rcases hk with rfl | rfl | rfl | rfl | rfl | rfl | rfl | rfl | rfl | rfl | rfl | rfl | rfl | rfl | rfl | rfl | rfl | rfl | rfl | rfl | rfl | rfl | rfl
      · refine lv_tableIn (off := 105) (tgt := 144) hx hb dL_law_39 (by decide +kernel) (by decide +kernel) (by decide +kernel) (by decide) ?_
        exact lc_addMarket hfl C0 hLs (by omega) (by omega) (5 * (j : Int)) hi hS0 hnx ls hl
      · refine lv_tableIn (off := 173) (tgt := 212) hx hb dL_law_39 (by decide +kernel) (by decide +kernel) (by decide +kernel) (by decide) ?_
        exact lc_shift hfl C0 hLs (by omega) (by omega) (5 * (j : Int)) hi hS0 hnx ls hl
      · refine lv_tableIn (off := 241) (tgt := 280) hx hb dL_law_39 (by decide +kernel) (by decide +kernel) (by decide +kernel) (by decide) ?_
        exact lc_setMoon hfl C0 hLs (by omega) (by omega) (5 * (j : Int)) hi hS0 hnx ls hl
      · refine lv_tableIn (off := 301) (tgt := 340) hx hb dL_law_39 (by decide +kernel) (by decide +kernel) (by decide +kernel) (by decide) ?_
        exact lc_setYear hfl C0 hLs (by omega) (by omega) (5 * (j : Int)) hi hS0 hnx ls hl
      · refine lv_tableIn (off := 373) (tgt := 412) hx hb dL_law_39 (by decide +kernel) (by decide +kernel) (by decide +kernel) (by decide) ?_
        exact lc_markets hfl C0 hLs (by omega) (by omega) (5 * (j : Int)) hi hS0 hnx ls hl
      · refine lv_tableIn (off := 386) (tgt := 425) hx hb dL_law_39 (by decide +kernel) (by decide +kernel) (by decide +kernel) (by decide) ?_
        exact lc_isHeld hfl C0 hLs (by omega) (by omega) (5 * (j : Int)) hi hS0 hnx ls hl
      · refine lv_tableIn (off := 461) (tgt := 500) hx hb dL_law_39 (by decide +kernel) (by decide +kernel) (by decide +kernel) (by decide) ?_
        exact lc_next hfl C0 hLs (by omega) (by omega) (5 * (j : Int)) hi hS0 hnx ls hl
      · refine lv_tableIn (off := 529) (tgt := 568) hx hb dL_law_39 (by decide +kernel) (by decide +kernel) (by decide +kernel) (by decide) ?_
        exact lc_nearest hfl C0 hLs (by omega) (by omega) (5 * (j : Int)) hi hS0 hnx ls hl
      · refine lv_tableIn (off := 597) (tgt := 636) hx hb dL_law_39 (by decide +kernel) (by decide +kernel) (by decide +kernel) (by decide) ?_
        exact lc_times hfl C0 hLs (by omega) (by omega) (5 * (j : Int)) hi hS0 hnx ls hl
      · refine lv_tableIn (off := 677) (tgt := 716) hx hb dL_law_39 (by decide +kernel) (by decide +kernel) (by decide +kernel) (by decide) ?_
        exact lc_heldOn hfl C0 hLs (by omega) (by omega) (5 * (j : Int)) hi hS0 hnx ls hl
      · refine lv_tableIn (off := 733) (tgt := 772) hx hb dL_law_39 (by decide +kernel) (by decide +kernel) (by decide +kernel) (by decide) ?_
        exact lc_doMeet hfl C0 hLs (by omega) (by omega) (5 * (j : Int)) hi hS0 hnx ls hl
      · refine lv_tableIn (off := 796) (tgt := 835) hx hb dL_law_39 (by decide +kernel) (by decide +kernel) (by decide +kernel) (by decide) ?_
        exact lc_period hfl C0 hLs (by omega) (by omega) (5 * (j : Int)) hi hS0 hnx ls hl
      · refine lv_tableIn (off := 852) (tgt := 891) hx hb dL_law_39 (by decide +kernel) (by decide +kernel) (by decide +kernel) (by decide) ?_
        exact lc_meeting hfl C0 hLs (by omega) (by omega) (5 * (j : Int)) hi hS0 hnx ls hl
      · refine lv_tableIn (off := 920) (tgt := 959) hx hb dL_law_39 (by decide +kernel) (by decide +kernel) (by decide +kernel) (by decide) ?_
        exact lc_lunarMeeting hfl C0 hLs (by omega) (by omega) (5 * (j : Int)) hi hS0 hnx ls hl
      · refine lv_tableIn (off := 1011) (tgt := 1050) hx hb dL_law_39 (by decide +kernel) (by decide +kernel) (by decide +kernel) (by decide) ?_
        exact lc_best hfl C0 hLs (by omega) (by omega) (5 * (j : Int)) hi hS0 hnx ls hl
      · refine lv_tableIn (off := 1091) (tgt := 1130) hx hb dL_law_39 (by decide +kernel) (by decide +kernel) (by decide +kernel) (by decide) ?_
        exact lc_month hfl C0 hLs (by omega) (by omega) (5 * (j : Int)) hi hS0 hnx ls hl
      · refine lv_tableIn (off := 1147) (tgt := 1186) hx hb dL_law_39 (by decide +kernel) (by decide +kernel) (by decide +kernel) (by decide) ?_
        exact lc_lunarDay hfl C0 hLs (by omega) (by omega) (5 * (j : Int)) hi hS0 hnx ls hl
      · refine lv_tableIn (off := 1203) (tgt := 1242) hx hb dL_law_39 (by decide +kernel) (by decide +kernel) (by decide +kernel) (by decide) ?_
        exact lc_monthBegin hfl C0 hLs (by omega) (by omega) (5 * (j : Int)) hi hS0 hnx ls hl
      · refine lv_tableIn (off := 1259) (tgt := 1298) hx hb dL_law_39 (by decide +kernel) (by decide +kernel) (by decide +kernel) (by decide) ?_
        exact lc_year hfl C0 hLs (by omega) (by omega) (5 * (j : Int)) hi hS0 hnx ls hl
      · refine lv_tableIn (off := 1315) (tgt := 1354) hx hb dL_law_39 (by decide +kernel) (by decide +kernel) (by decide +kernel) (by decide) ?_
        exact lc_placeInYear hfl C0 hLs (by omega) (by omega) (5 * (j : Int)) hi hS0 hnx ls hl
      · refine lv_tableIn (off := 1371) (tgt := 1410) hx hb dL_law_39 (by decide +kernel) (by decide +kernel) (by decide +kernel) (by decide) ?_
        exact lc_isLeap hfl C0 hLs (by omega) (by omega) (5 * (j : Int)) hi hS0 hnx ls hl
      · refine lv_tableIn (off := 1434) (tgt := 1473) hx hb dL_law_39 (by decide +kernel) (by decide +kernel) (by decide +kernel) (by decide) ?_
        exact lc_dayOf hfl C0 hLs (by omega) (by omega) (5 * (j : Int)) hi hS0 hnx ls hl
      · refine lv_tableIn (off := 1502) (tgt := 1541) hx hb dL_law_39 (by decide +kernel) (by decide +kernel) (by decide +kernel) (by decide) ?_
        exact lc_timesInYear hfl C0 hLs (by omega) (by omega) (5 * (j : Int)) hi hS0 hnx ls hl
    · have hKi : (mI K).toInt = K := mI_t (by omega)
      refine lv_tableOut (tgt := 1609) hx hb dL_law_39 (Or.inr (by rw [hKi]; omega)) (by decide) ?_
      refine W.widen (k := 7 + j + 1) (n := 88 + 6 * j + 6) (by omega) (by omega) ?_
      exact hnx H locs t f g F v L P hS0 ls hl
