def mA9 (s : State) : Nat → Prop := fun q => s.heap.size ≤ q
/-- what stays while the law runs -/
def mLC (p : Program) (s : State) (m : MethodId) (meth : Method) (c : Code) (b Ls : Nat) (xs : Nat → Int32) (D : va_G) (cA cJ : ClassId) (x0 x1 x2 y0 y1 y2 : Nat) : Prop :=
  CallFix p m c code 8 s #[Value.ref b] wsL_law RL ∧ (va_X b Ls xs s s.heap ∧ b < s.heap.size) ∧ va_K D vwCl (mTy cA cJ) s ∧ mwS s ∧ mwZ (mA9 s) s s.heap ∧ mwN s ∧ (mDis x0 x1 x2 ∧ mDis y0 y1 y2 ∧ (y0 ≠ x0 ∧ y0 ≠ x1 ∧ y0 ≠ x2) ∧ (y1 ≠ x0 ∧ y1 ≠ x1 ∧ y1 ≠ x2) ∧ (y2 ≠ x0 ∧ y2 ≠ x1 ∧ y2 ≠ x2)) ∧ (s.heap.size ≤ x0 ∧ s.heap.size ≤ x1 ∧ s.heap.size ≤ x2 ∧ s.heap.size ≤ y0 ∧ s.heap.size ≤ y1 ∧ s.heap.size ≤ y2)
theorem mw_keep3 {D : va_G} {cl : List vw_C} {A : Nat → Prop} {a b c : Nat} {x y z : va_E} {H H1 : Heap} (hP : va_P D cl [(a, x), (b, y), (c, z)] H) (hk : ∀ q : Nat, q < H.size → ¬ A q → H1[q]? = H[q]?) (ha : ¬ A a) (hb : ¬ A b) (hc : ¬ A c) : va_P D cl [(a, x), (b, y), (c, z)] H1 := hP.kept (fun k q hq => by
  have hl := (hP k q hq).lt
  match k, hq with
  | 0, hq => cases hq; exact hk a hl ha
  | 1, hq => cases hq; exact hk b hl hb
  | 2, hq => cases hq; exact hk c hl hc
  | k + 3, hq => simp at hq)
theorem m_shl {n : Int} (h : 0 ≤ n ∧ n ≤ 16) : 0 < mShl 1 n ∧ mShl 1 n < 2147483648 := by
  obtain ⟨j, rfl⟩ : ∃ j : Nat, n = (j : Int) := ⟨n.toNat, by omega⟩
  rw [mShl_e j (by omega)]
  have h1 : (2 : Nat) ^ j ≤ 2 ^ 16 := Nat.pow_le_pow_right (by omega) (by omega)
  have h2 : (((2 : Nat) ^ j : Nat) : Int) = (2 : Int) ^ j := by rw [Int.natCast_pow]; rfl
  have h3 : ((2 : Nat) ^ 16) = 65536 := by decide
  have h4 := m_pow j
  omega

set_option maxHeartbeats 4000000 in
set_option maxRecDepth 100000 in
theorem law_body {p : Program} {l : Launch} {e : Env} {s : State} {m : MethodId} {below : List Frame} {meth : Method} {c : Code} (hfl : l.flags = flags0) {b Ls : Nat} {xs : Nat → Int32} {D : va_G} {cA cJ : ClassId} {x0 x1 x2 y0 y1 y2 : Nat} (C0 : mLC p s m meth c b Ls xs D cA cJ x0 x1 x2 y0 y1 y2) (hLs : Ls ≤ 260) {Q : State → Prop} {n7 n88 g0 : Nat} (hc : n7 + 9 ≤ 366) (hc2 : n88 + 54 ≤ 2244) (i : Int) (hi : 0 ≤ i ∧ i < 40) {H : Heap} {locs : List Loc} {v : Nat → Int} {L P : Int → Int} (hok : mOK v L P) (hPx : va_P D vwCl (mXW x0 x1 x2 cA v L P) H) (hPy : va_P D vwCl (mXW y0 y1 y2 cA v L P) H) (hS : va_S (mA9 s) s.heap H locs) (hg : s.heap.size + g0 ≤ H.size) (hnext : ∀ (H1 : Heap) (locs1 : List Loc) (v1 : Nat → Int) (L1 P1 : Int → Int), mOK v1 L1 P1 → va_P D vwCl (mXW x0 x1 x2 cA v1 L1 P1) H1 → va_P D vwCl (mXW y0 y1 y2 cA v1 L1 P1) H1 → va_S (mA9 s) s.heap H1 locs1 → s.heap.size + (g0 + 4) ≤ H1.size → ∀ ls : Array Slot, lv_has ls 8 [(3, .int (mI (i))), (0, .ref b), (1, .ref x0), (2, .ref y0)] → W p l e room_9 s m #[Value.ref b] below meth c H1 locs1 (n7 + 9) (n88 + 54) Q (F0 m 223 ls [])) (ls : Array Slot) (hl : lv_has ls 8 [(3, .int (mI (i))), (0, .ref b), (1, .ref x0), (2, .ref y0)]) : W p l e room_9 s m #[Value.ref b] below meth c H locs n7 n88 Q (F0 m 24 ls []) := by
  obtain ⟨hC, ⟨hX, hbl⟩, hK, hES, hZS, hNS, ⟨hdx, hdy, hd1, hd2, hd3⟩, hg0, hg1, hg2, hg3, hg4, hg5⟩ := C0
  obtain ⟨hx, hb, hml, hown, hts⟩ := id hC
  have hbA : ¬ mA9 s b := Nat.not_le.mpr hbl
  have hAx : ∀ q, mA3 x0 x1 x2 q → mA9 s q := fun q h => by unfold mA3 at h; unfold mA9; omega
  have hAy : ∀ q, mA3 y0 y1 y2 q → mA9 s q := fun q h => by unfold mA3 at h; unfold mA9; omega
  have nx0 : ¬ mA3 x0 x1 x2 y0 := by unfold mA3; omega
  have nx1 : ¬ mA3 x0 x1 x2 y1 := by unfold mA3; omega
  have nx2 : ¬ mA3 x0 x1 x2 y2 := by unfold mA3; omega
  have ny0 : ¬ mA3 y0 y1 y2 x0 := by unfold mA3; omega
  have ny1 : ¬ mA3 y0 y1 y2 x1 := by unfold mA3; omega
  have ny2 : ¬ mA3 y0 y1 y2 x2 := by unfold mA3; omega
  refine lv_aload_n hx hb dL_law_24 rfl (lv_at hl 1 rfl) ?_
  refine lv_iload_n hx hb dL_law_25 rfl (lv_at hl 0 rfl) ?_
  refine mw_cSB (rest := []) hC (c_L_cell l b Ls xs i hLs hi) (va_cwS 2 hts gL_law_L_cell rfl rfl rfl (by decide +kernel) ⟨Nat.le_of_ble_eq_true rfl, Nat.le_of_ble_eq_true rfl⟩) (fun U g mk a h => ⟨va_X.moved (u := U) (U := U.calling g mk a) (Vm.Alike.refl U.vm) h.1, h.2⟩) (fun U hU hW => by rw [hU]; exact ⟨va_X.moved hW.alike (hX.kept (hS.2.1 b hbl hbA)), Nat.lt_of_lt_of_le hbl hS.1⟩) rfl hl.1 rfl (Nat.le_of_ble_eq_true rfl) (by show n7 ≤ 366 ∧ n88 ≤ 2244; omega) dL_law_26 ?_
  refine mw_namei (fun V e_V => ?_)
  have hV : mRI V := by rw [e_V]; exact mCell_r _ _ _
  refine lv_istore (lv' := [(4, .int (mI (V))), (3, .int (mI (i))), (0, .ref b), (1, .ref x0), (2, .ref y0)]) hx hb dL_law_29 hl (by decide) rfl (fun ls hl => ?_)
  obtain ⟨r, v', L', P', ec, hr9, hok', hsame, hec, hact⟩ := g_act hok V hV
  have hm9 := mC_le ec
  refine lv_aload_n hx hb dL_law_31 rfl (lv_at hl 3 rfl) ?_
  refine lv_iload hx hb dL_law_32 (lv_at hl 0 rfl) ?_
  refine mw_cG (rest := []) (A0 := (mA9 s)) (k9 := n7 + mC ec + 0) (n9 := n88 + 6 * mC ec + 0) hC (hact l hfl D x0 x1 x2 cA cJ hdx) (va_cwS 2 hts gL_law_L_act rfl rfl rfl (by decide +kernel) ⟨Nat.le_of_ble_eq_true rfl, Nat.le_of_ble_eq_true rfl⟩) hK hPx hES hZS hNS hS hAx rfl hl.1 rfl (Nat.le_of_ble_eq_true rfl) (by omega) (by omega) (by show n7 + mC ec + 0 ≤ 366 ∧ n88 + 6 * mC ec + 0 ≤ 2244; omega) dL_law_34 (fun H locs hP1 hS hz hk => ?_)
  have hg : s.heap.size + (g0 + 0) ≤ H.size := by omega
  have hPx := hP1
  have hPy := mw_keep3 hPy hk nx0 nx1 nx2
  clear hP1 hk hz
  refine W.eq (g2 := F0 m 37 ls [.int (mI (r))]) rfl ?_
  refine lv_istore (lv' := [(5, .int (mI (r))), (4, .int (mI (V))), (3, .int (mI (i))), (0, .ref b), (1, .ref x0), (2, .ref y0)]) hx hb dL_law_37 hl (by decide) rfl (fun ls hl => ?_)
  refine lv_iload hx hb dL_law_39 (lv_at hl 1 rfl) ?_
  refine mw_iconst hx hb dL_law_41 ?_
  refine mw_ishr hx hb dL_law_42 ?_
  refine mw_ldc hx hb (1800001) (by decide +kernel) hown (hts (.constant RL 129 (1800001)) (by decide +kernel)) dL_law_43 ?_
  refine mw_cSi (rest := []) hC (c_L_low l (mShr V 3) 1800001 (by omega)) (va_cwS 2 hts gL_law_L_low rfl rfl rfl (by decide +kernel) ⟨Nat.le_of_ble_eq_true rfl, Nat.le_of_ble_eq_true rfl⟩) rfl hl.1 rfl (Nat.le_of_ble_eq_true rfl) (by show n7 + mC ec + 0 ≤ 366 ∧ n88 + 6 * mC ec + 0 ≤ 2244; omega) dL_law_45 ?_
  have b_45 := mLow_r (mShr V 3) 1800001 (by omega)
  refine mw_ldc hx hb (900000) (by decide +kernel) hown (hts (.constant RL 130 (900000)) (by decide +kernel)) dL_law_48 ?_
  refine mw_isub hx hb dL_law_50 ?_
  refine mw_namei (fun dd e_dd => ?_)
  have hdd : -900000 ≤ dd ∧ dd ≤ 900000 := by omega
  refine lv_istore (lv' := [(6, .int (mI (dd))), (5, .int (mI (r))), (4, .int (mI (V))), (3, .int (mI (i))), (0, .ref b), (1, .ref x0), (2, .ref y0)]) hx hb dL_law_51 hl (by decide) rfl (fun ls hl => ?_)
  refine lv_iload hx hb dL_law_53 (lv_at hl 1 rfl) ?_
  refine mw_ldc hx hb (-99999) (by decide +kernel) hown (hts (.constant RL 16 (-99999)) (by decide +kernel)) dL_law_55 ?_
  refine mw_icmp_eq (tgt := 71) hx hb (by omega) (by omega) dL_law_57 (by decide) (fun c_57 => ?_) (fun c_57 => ?_)
  · have hPy : va_P D vwCl (mXW y0 y1 y2 cA v' L' P') H := by
      obtain ⟨q1, q2, q3⟩ := hsame c_57
      rw [q1, q2, q3]
      exact hPy
    -- the new rules
    have hv9 := hok'.1
    obtain ⟨w9, hw9, hw9r⟩ : ∃ w9, mShl 1 (v' 0) = w9 ∧ 0 < w9 ∧ w9 < 2147483648 := ⟨_, rfl, m_shl (by omega)⟩
    refine lv_aload_n hx hb dL_law_71 rfl (lv_at hl 5 rfl) ?_
    refine lv_aload_n hx hb dL_law_72 rfl (lv_at hl 6 rfl) ?_
    refine lv_iload hx hb dL_law_73 (lv_at hl 0 rfl) ?_
    refine mw_cG (rest := []) (A0 := (mA9 s)) (k9 := n7 + mC ec + 0) (n9 := n88 + 6 * mC ec + 0) hC (g_areAlike l hfl D x0 x1 x2 cA cJ v' L' P' y0 y1 y2 dd (by omega) hok') (va_cwS 3 hts gL_law_L_areAlike rfl rfl rfl (by decide +kernel) ⟨Nat.le_of_ble_eq_true rfl, Nat.le_of_ble_eq_true rfl⟩) hK (va_P.app hPx hPy) hES hZS hNS hS (fun _ h => h.elim) rfl hl.1 rfl (Nat.le_of_ble_eq_true rfl) (by omega) (by omega) (by show n7 + mC ec + 0 ≤ 366 ∧ n88 + 6 * mC ec + 0 ≤ 2244; omega) dL_law_75 (fun H locs hP1 hS hz hk => ?_)
    have hg : s.heap.size + (g0 + 0) ≤ H.size := by omega
    have hPx := mw_keepP hPx (fun q h => hk q h (fun z => z))
    have hPy := mw_keepP hPy (fun q h => hk q h (fun z => z))
    clear hP1 hk hz
    refine W.eq (g2 := F0 m 78 ls [.int (mI (1))]) rfl ?_
    refine mw_if_eq (tgt := 143) hx hb (by omega) dL_law_78 (by decide) (fun c => absurd c (by decide)) (fun _ => ?_)
    refine lv_aload_n hx hb dL_law_81 rfl (lv_at hl 5 rfl) ?_
    refine lv_iload hx hb dL_law_82 (lv_at hl 0 rfl) ?_
    refine mw_cG (rest := []) (A0 := (mA9 s)) (k9 := n7 + mC ec + 2) (n9 := n88 + 6 * mC ec + 12) hC (g_isDaySo l hfl D x0 x1 x2 cA cJ v' L' P' dd (by omega) hok') (va_cwS 2 hts gL_law_L_isDaySo rfl rfl rfl (by decide +kernel) ⟨Nat.le_of_ble_eq_true rfl, Nat.le_of_ble_eq_true rfl⟩) hK hPx hES hZS hNS hS (fun _ h => h.elim) rfl hl.1 rfl (Nat.le_of_ble_eq_true rfl) (by omega) (by omega) (by show n7 + mC ec + 2 ≤ 366 ∧ n88 + 6 * mC ec + 12 ≤ 2244; omega) dL_law_84 (fun H locs hP1 hS hz hk => ?_)
    have hg : s.heap.size + (g0 + 2) ≤ H.size := by omega
    have hPx := mw_keepP hPx (fun q h => hk q h (fun z => z))
    have hPy := mw_keepP hPy (fun q h => hk q h (fun z => z))
    clear hP1 hk hz
    refine W.eq (g2 := F0 m 87 ls [.int (mI (1))]) rfl ?_
    refine mw_if_eq (tgt := 143) hx hb (by omega) dL_law_87 (by decide) (fun c => absurd c (by decide)) (fun _ => ?_)
    refine lv_aload_n hx hb dL_law_90 rfl (lv_at hl 5 rfl) ?_
    refine lv_iload hx hb dL_law_91 (lv_at hl 2 rfl) ?_
    refine mw_bipush hx hb (by decide +kernel) dL_law_93 ?_
    refine mw_ishr hx hb dL_law_95 ?_
    refine mw_sipush hx hb (by decide +kernel) dL_law_96 ?_
    refine mw_cSi (rest := [.ref x0]) hC (c_L_low l (mShr V 8) 2000 (by omega)) (va_cwS 2 hts gL_law_L_low rfl rfl rfl (by decide +kernel) ⟨Nat.le_of_ble_eq_true rfl, Nat.le_of_ble_eq_true rfl⟩) rfl hl.1 rfl (Nat.le_of_ble_eq_true rfl) (by show n7 + mC ec + 2 ≤ 366 ∧ n88 + 6 * mC ec + 12 ≤ 2244; omega) dL_law_99 ?_
    have b_99 := mLow_r (mShr V 8) 2000 (by omega)
    refine mw_sipush hx hb (by decide +kernel) dL_law_102 ?_
    refine mw_isub hx hb dL_law_105 ?_
    refine mw_cG (rest := []) (A0 := (mA9 s)) (k9 := n7 + mC ec + 4) (n9 := n88 + 6 * mC ec + 24) hC (g_isDaySo l hfl D x0 x1 x2 cA cJ v' L' P' ((mLow (mShr V 8) 2000) - 1000) (by omega) hok') (va_cwS 2 hts gL_law_L_isDaySo rfl rfl rfl (by decide +kernel) ⟨Nat.le_of_ble_eq_true rfl, Nat.le_of_ble_eq_true rfl⟩) hK hPx hES hZS hNS hS (fun _ h => h.elim) rfl hl.1 rfl (Nat.le_of_ble_eq_true rfl) (by omega) (by omega) (by show n7 + mC ec + 4 ≤ 366 ∧ n88 + 6 * mC ec + 24 ≤ 2244; omega) dL_law_106 (fun H locs hP1 hS hz hk => ?_)
    have hg : s.heap.size + (g0 + 4) ≤ H.size := by omega
    have hPx := mw_keepP hPx (fun q h => hk q h (fun z => z))
    have hPy := mw_keepP hPy (fun q h => hk q h (fun z => z))
    clear hP1 hk hz
    refine W.eq (g2 := F0 m 109 ls [.int (mI (1))]) rfl ?_
    refine mw_if_eq (tgt := 143) hx hb (by omega) dL_law_109 (by decide) (fun c => absurd c (by decide)) (fun _ => ?_)
    refine lv_aload_n hx hb dL_law_112 rfl (lv_at hl 5 rfl) ?_
    refine lv_iload hx hb dL_law_113 (lv_at hl 0 rfl) ?_
    refine mw_cG (rest := []) (A0 := (mA9 s)) (k9 := n7 + mC ec + 4) (n9 := n88 + 6 * mC ec + 24) hC (g_isMonthSo l hfl D x0 x1 x2 cA cJ v' L' P' dd (by omega) hok') (va_cwS 2 hts gL_law_L_isMonthSo rfl rfl rfl (by decide +kernel) ⟨Nat.le_of_ble_eq_true rfl, Nat.le_of_ble_eq_true rfl⟩) hK hPx hES hZS hNS hS (fun _ h => h.elim) rfl hl.1 rfl (Nat.le_of_ble_eq_true rfl) (by omega) (by omega) (by show n7 + mC ec + 4 ≤ 366 ∧ n88 + 6 * mC ec + 24 ≤ 2244; omega) dL_law_115 (fun H locs hP1 hS hz hk => ?_)
    have hg : s.heap.size + (g0 + 4) ≤ H.size := by omega
    have hPx := mw_keepP hPx (fun q h => hk q h (fun z => z))
    have hPy := mw_keepP hPy (fun q h => hk q h (fun z => z))
    clear hP1 hk hz
    refine W.eq (g2 := F0 m 118 ls [.int (mI (1))]) rfl ?_
    refine mw_if_eq (tgt := 143) hx hb (by omega) dL_law_118 (by decide) (fun c => absurd c (by decide)) (fun _ => ?_)
    refine lv_aload_n hx hb dL_law_121 rfl (lv_at hl 5 rfl) ?_
    refine lv_iload hx hb dL_law_122 (lv_at hl 2 rfl) ?_
    refine mw_bipush hx hb (by decide +kernel) dL_law_124 ?_
    refine mw_ishr hx hb dL_law_126 ?_
    refine mw_sipush hx hb (by decide +kernel) dL_law_127 ?_
    refine mw_cSi (rest := [.ref x0]) hC (c_L_low l (mShr V 8) 2000 (by omega)) (va_cwS 2 hts gL_law_L_low rfl rfl rfl (by decide +kernel) ⟨Nat.le_of_ble_eq_true rfl, Nat.le_of_ble_eq_true rfl⟩) rfl hl.1 rfl (Nat.le_of_ble_eq_true rfl) (by show n7 + mC ec + 4 ≤ 366 ∧ n88 + 6 * mC ec + 24 ≤ 2244; omega) dL_law_130 ?_
    have b_130 := mLow_r (mShr V 8) 2000 (by omega)
    refine mw_sipush hx hb (by decide +kernel) dL_law_133 ?_
    refine mw_isub hx hb dL_law_136 ?_
    refine mw_cG (rest := []) (A0 := (mA9 s)) (k9 := n7 + mC ec + 4) (n9 := n88 + 6 * mC ec + 24) hC (g_isMonthSo l hfl D x0 x1 x2 cA cJ v' L' P' ((mLow (mShr V 8) 2000) - 1000) (by omega) hok') (va_cwS 2 hts gL_law_L_isMonthSo rfl rfl rfl (by decide +kernel) ⟨Nat.le_of_ble_eq_true rfl, Nat.le_of_ble_eq_true rfl⟩) hK hPx hES hZS hNS hS (fun _ h => h.elim) rfl hl.1 rfl (Nat.le_of_ble_eq_true rfl) (by omega) (by omega) (by show n7 + mC ec + 4 ≤ 366 ∧ n88 + 6 * mC ec + 24 ≤ 2244; omega) dL_law_137 (fun H locs hP1 hS hz hk => ?_)
    have hg : s.heap.size + (g0 + 4) ≤ H.size := by omega
    have hPx := mw_keepP hPx (fun q h => hk q h (fun z => z))
    have hPy := mw_keepP hPy (fun q h => hk q h (fun z => z))
    clear hP1 hk hz
    refine W.eq (g2 := F0 m 140 ls [.int (mI (1))]) rfl ?_
    refine mw_if_ne (tgt := 145) hx hb (by omega) dL_law_140 (by decide) (fun _ => ?_) (fun c => absurd c (by decide))
    refine lv_aload_n hx hb dL_law_145 rfl (lv_at hl 5 rfl) ?_
    refine mw_cVi (rest := []) (q := (RX0, TX0, 10)) hC (c_X0_markets l D x0 x1 x2 cA cJ v' L' P') (cwV 0 hts gL_law_X0_markets rfl rfl rfl (by decide +kernel) ⟨Nat.le_of_ble_eq_true rfl, Nat.le_of_ble_eq_true rfl⟩) hK hPx rfl rfl rfl hl.1 rfl (Nat.le_of_ble_eq_true rfl) (by show n7 + mC ec + 4 ≤ 366 ∧ n88 + 6 * mC ec + 24 ≤ 2244; omega) dL_law_146 ?_
    refine lv_istore (lv' := [(7, .int (mI (v' 0))), (6, .int (mI (dd))), (5, .int (mI (r))), (4, .int (mI (V))), (3, .int (mI (i))), (0, .ref b), (1, .ref x0), (2, .ref y0)]) hx hb dL_law_149 hl (by decide) rfl (fun ls hl => ?_)
    refine lv_iload hx hb dL_law_151 (lv_at hl 0 rfl) ?_
    refine mw_if_le (tgt := 208) hx hb (by omega) dL_law_153 (by decide) (fun c_153 => ?_) (fun c_153 => ?_)
    · refine lv_aload_n hx hb dL_law_208 rfl (lv_at hl 6 rfl) ?_
      refine mw_iconst hx hb dL_law_209 ?_
      refine lv_iload hx hb dL_law_210 (lv_at hl 0 rfl) ?_
      refine mw_ishl hx hb dL_law_212 ?_
      refine mw_topi (y := w9) hw9 ?_
      refine lv_iload hx hb dL_law_213 (lv_at hl 1 rfl) ?_
      refine mw_cG (rest := []) (A0 := (mA9 s)) (k9 := n7 + mC ec + 6) (n9 := n88 + 6 * mC ec + 36) hC (g_isMeetingSo l hfl D x0 x1 x2 cA cJ v' L' P' w9 dd (by omega) (by first | omega | exact mAnd_r _ _) hok') (va_cwS 3 hts gL_law_L_isMeetingSo rfl rfl rfl (by decide +kernel) ⟨Nat.le_of_ble_eq_true rfl, Nat.le_of_ble_eq_true rfl⟩) hK hPx hES hZS hNS hS (fun _ h => h.elim) rfl hl.1 rfl (Nat.le_of_ble_eq_true rfl) (by omega) (by omega) (by show n7 + mC ec + 6 ≤ 366 ∧ n88 + 6 * mC ec + 36 ≤ 2244; omega) dL_law_215 (fun H locs hP1 hS hz hk => ?_)
      have hg : s.heap.size + (g0 + 4) ≤ H.size := by omega
      have hPx := mw_keepP hPx (fun q h => hk q h (fun z => z))
      have hPy := mw_keepP hPy (fun q h => hk q h (fun z => z))
      clear hP1 hk hz
      refine W.eq (g2 := F0 m 218 ls [.int (mI (1))]) rfl ?_
      refine mw_if_ne (tgt := 223) hx hb (by omega) dL_law_218 (by decide) (fun _ => ?_) (fun c => absurd c (by decide))
      refine W.widen (k := n7 + 9) (n := n88 + 54) (by omega) (by omega) ?_
      exact hnext H locs v' L' P' hok' hPx hPy hS (by omega) ls (lv_sub hl [4, 5, 6, 7] rfl)
    · refine lv_aload_n hx hb dL_law_156 rfl (lv_at hl 6 rfl) ?_
      refine lv_iload hx hb dL_law_157 (lv_at hl 3 rfl) ?_
      refine mw_bipush hx hb (by decide +kernel) dL_law_159 ?_
      refine mw_ishr hx hb dL_law_161 ?_
      refine lv_iload hx hb dL_law_162 (lv_at hl 0 rfl) ?_
      refine mw_cSi (rest := [.ref x0]) hC (c_L_low l (mShr V 6) (v' 0) (by omega)) (va_cwS 2 hts gL_law_L_low rfl rfl rfl (by decide +kernel) ⟨Nat.le_of_ble_eq_true rfl, Nat.le_of_ble_eq_true rfl⟩) rfl hl.1 rfl (Nat.le_of_ble_eq_true rfl) (by show n7 + mC ec + 4 ≤ 366 ∧ n88 + 6 * mC ec + 24 ≤ 2244; omega) dL_law_164 ?_
      have b_164 := mLow_r (mShr V 6) (v' 0) (by omega)
      refine lv_iload hx hb dL_law_167 (lv_at hl 1 rfl) ?_
      refine mw_cG (rest := []) (A0 := (mA9 s)) (k9 := n7 + mC ec + 4) (n9 := n88 + 6 * mC ec + 24) hC (g_isMarketSo l hfl D x0 x1 x2 cA cJ v' L' P' (mLow (mShr V 6) (v' 0)) dd (by omega) (by omega) hok') (va_cwS 3 hts gL_law_L_isMarketSo rfl rfl rfl (by decide +kernel) ⟨Nat.le_of_ble_eq_true rfl, Nat.le_of_ble_eq_true rfl⟩) hK hPx hES hZS hNS hS (fun _ h => h.elim) rfl hl.1 rfl (Nat.le_of_ble_eq_true rfl) (by omega) (by omega) (by show n7 + mC ec + 4 ≤ 366 ∧ n88 + 6 * mC ec + 24 ≤ 2244; omega) dL_law_169 (fun H locs hP1 hS hz hk => ?_)
      have hg : s.heap.size + (g0 + 4) ≤ H.size := by omega
      have hPx := mw_keepP hPx (fun q h => hk q h (fun z => z))
      have hPy := mw_keepP hPy (fun q h => hk q h (fun z => z))
      clear hP1 hk hz
      refine W.eq (g2 := F0 m 172 ls [.int (mI (1))]) rfl ?_
      refine mw_if_eq (tgt := 221) hx hb (by omega) dL_law_172 (by decide) (fun c => absurd c (by decide)) (fun _ => ?_)
      refine lv_aload_n hx hb dL_law_175 rfl (lv_at hl 6 rfl) ?_
      refine lv_iload hx hb dL_law_176 (lv_at hl 3 rfl) ?_
      refine mw_bipush hx hb (by decide +kernel) dL_law_178 ?_
      refine mw_ishr hx hb dL_law_180 ?_
      refine mw_iconst hx hb dL_law_181 ?_
      refine lv_iload hx hb dL_law_182 (lv_at hl 0 rfl) ?_
      refine mw_ishl hx hb dL_law_184 ?_
      refine mw_topi (y := w9) hw9 ?_
      refine mw_cSi (rest := [.ref x0]) hC (c_L_low l (mShr V 9) w9 (by omega)) (va_cwS 2 hts gL_law_L_low rfl rfl rfl (by decide +kernel) ⟨Nat.le_of_ble_eq_true rfl, Nat.le_of_ble_eq_true rfl⟩) rfl hl.1 rfl (Nat.le_of_ble_eq_true rfl) (by show n7 + mC ec + 4 ≤ 366 ∧ n88 + 6 * mC ec + 24 ≤ 2244; omega) dL_law_185 ?_
      have b_185 := mLow_r (mShr V 9) w9 (by omega)
      refine lv_iload hx hb dL_law_188 (lv_at hl 3 rfl) ?_
      refine mw_iconst hx hb dL_law_190 ?_
      refine mw_ishr hx hb dL_law_191 ?_
      refine mw_iconst hx hb dL_law_192 ?_
      refine lv_iload hx hb dL_law_193 (lv_at hl 0 rfl) ?_
      refine mw_ishl hx hb dL_law_195 ?_
      refine mw_topi (y := w9) hw9 ?_
      refine mw_cSi (rest := [.int (mI (mLow (mShr V 9) w9)), .ref x0]) hC (c_L_low l (mShr V 2) w9 (by omega)) (va_cwS 2 hts gL_law_L_low rfl rfl rfl (by decide +kernel) ⟨Nat.le_of_ble_eq_true rfl, Nat.le_of_ble_eq_true rfl⟩) rfl hl.1 rfl (Nat.le_of_ble_eq_true rfl) (by show n7 + mC ec + 4 ≤ 366 ∧ n88 + 6 * mC ec + 24 ≤ 2244; omega) dL_law_196 ?_
      have b_196 := mLow_r (mShr V 2) w9 (by omega)
      refine mw_iand hx hb dL_law_199 ?_
      refine lv_iload hx hb dL_law_200 (lv_at hl 1 rfl) ?_
      refine mw_cG (rest := []) (A0 := (mA9 s)) (k9 := n7 + mC ec + 6) (n9 := n88 + 6 * mC ec + 36) hC (g_isMeetingSo l hfl D x0 x1 x2 cA cJ v' L' P' (mAnd (mLow (mShr V 9) w9) (mLow (mShr V 2) w9)) dd (by omega) (by first | omega | exact mAnd_r _ _) hok') (va_cwS 3 hts gL_law_L_isMeetingSo rfl rfl rfl (by decide +kernel) ⟨Nat.le_of_ble_eq_true rfl, Nat.le_of_ble_eq_true rfl⟩) hK hPx hES hZS hNS hS (fun _ h => h.elim) rfl hl.1 rfl (Nat.le_of_ble_eq_true rfl) (by omega) (by omega) (by show n7 + mC ec + 6 ≤ 366 ∧ n88 + 6 * mC ec + 36 ≤ 2244; omega) dL_law_202 (fun H locs hP1 hS hz hk => ?_)
      have hg : s.heap.size + (g0 + 4) ≤ H.size := by omega
      have hPx := mw_keepP hPx (fun q h => hk q h (fun z => z))
      have hPy := mw_keepP hPy (fun q h => hk q h (fun z => z))
      clear hP1 hk hz
      refine W.eq (g2 := F0 m 205 ls [.int (mI (1))]) rfl ?_
      refine mw_if_eq (tgt := 221) hx hb (by omega) dL_law_205 (by decide) (fun c => absurd c (by decide)) (fun _ => ?_)
      refine lv_aload_n hx hb dL_law_208 rfl (lv_at hl 6 rfl) ?_
      refine mw_iconst hx hb dL_law_209 ?_
      refine lv_iload hx hb dL_law_210 (lv_at hl 0 rfl) ?_
      refine mw_ishl hx hb dL_law_212 ?_
      refine mw_topi (y := w9) hw9 ?_
      refine lv_iload hx hb dL_law_213 (lv_at hl 1 rfl) ?_
      refine mw_cG (rest := []) (A0 := (mA9 s)) (k9 := n7 + mC ec + 8) (n9 := n88 + 6 * mC ec + 48) hC (g_isMeetingSo l hfl D x0 x1 x2 cA cJ v' L' P' w9 dd (by omega) (by first | omega | exact mAnd_r _ _) hok') (va_cwS 3 hts gL_law_L_isMeetingSo rfl rfl rfl (by decide +kernel) ⟨Nat.le_of_ble_eq_true rfl, Nat.le_of_ble_eq_true rfl⟩) hK hPx hES hZS hNS hS (fun _ h => h.elim) rfl hl.1 rfl (Nat.le_of_ble_eq_true rfl) (by omega) (by omega) (by show n7 + mC ec + 8 ≤ 366 ∧ n88 + 6 * mC ec + 48 ≤ 2244; omega) dL_law_215 (fun H locs hP1 hS hz hk => ?_)
      have hg : s.heap.size + (g0 + 4) ≤ H.size := by omega
      have hPx := mw_keepP hPx (fun q h => hk q h (fun z => z))
      have hPy := mw_keepP hPy (fun q h => hk q h (fun z => z))
      clear hP1 hk hz
      refine W.eq (g2 := F0 m 218 ls [.int (mI (1))]) rfl ?_
      refine mw_if_ne (tgt := 223) hx hb (by omega) dL_law_218 (by decide) (fun _ => ?_) (fun c => absurd c (by decide))
      refine W.widen (k := n7 + 9) (n := n88 + 54) (by omega) (by omega) ?_
      exact hnext H locs v' L' P' hok' hPx hPy hS (by omega) ls (lv_sub hl [4, 5, 6, 7] rfl)
  · have c0 := mC_0 (hec c_57)
    refine lv_aload_n hx hb dL_law_60 rfl (lv_at hl 6 rfl) ?_
    refine lv_iload hx hb dL_law_61 (lv_at hl 2 rfl) ?_
    refine mw_cG (rest := []) (A0 := (mA9 s)) (k9 := n7 + mC ec + 0) (n9 := n88 + 6 * mC ec + 0) hC (hact l hfl D y0 y1 y2 cA cJ hdy) (va_cwS 2 hts gL_law_L_act rfl rfl rfl (by decide +kernel) ⟨Nat.le_of_ble_eq_true rfl, Nat.le_of_ble_eq_true rfl⟩) hK hPy hES hZS hNS hS hAy rfl hl.1 rfl (Nat.le_of_ble_eq_true rfl) (by omega) (by omega) (by show n7 + mC ec + 0 ≤ 366 ∧ n88 + 6 * mC ec + 0 ≤ 2244; omega) dL_law_63 (fun H locs hP1 hS hz hk => ?_)
    have hg : s.heap.size + (g0 + 0) ≤ H.size := by omega
    have hPy := hP1
    have hPx := mw_keep3 hPx hk ny0 ny1 ny2
    clear hP1 hk hz
    refine W.eq (g2 := F0 m 66 ls [.int (mI (r))]) rfl ?_
    refine lv_iload hx hb dL_law_66 (lv_at hl 1 rfl) ?_
    refine mw_icmp_ne (tgt := 143) hx hb (by omega) (by omega) dL_law_68 (by decide) (fun c_68 => False.elim (by omega)) (fun c_68 => ?_)
    -- the new rules
    have hv9 := hok'.1
    obtain ⟨w9, hw9, hw9r⟩ : ∃ w9, mShl 1 (v' 0) = w9 ∧ 0 < w9 ∧ w9 < 2147483648 := ⟨_, rfl, m_shl (by omega)⟩
    refine lv_aload_n hx hb dL_law_71 rfl (lv_at hl 5 rfl) ?_
    refine lv_aload_n hx hb dL_law_72 rfl (lv_at hl 6 rfl) ?_
    refine lv_iload hx hb dL_law_73 (lv_at hl 0 rfl) ?_
    refine mw_cG (rest := []) (A0 := (mA9 s)) (k9 := n7 + mC ec + 0) (n9 := n88 + 6 * mC ec + 0) hC (g_areAlike l hfl D x0 x1 x2 cA cJ v' L' P' y0 y1 y2 dd (by omega) hok') (va_cwS 3 hts gL_law_L_areAlike rfl rfl rfl (by decide +kernel) ⟨Nat.le_of_ble_eq_true rfl, Nat.le_of_ble_eq_true rfl⟩) hK (va_P.app hPx hPy) hES hZS hNS hS (fun _ h => h.elim) rfl hl.1 rfl (Nat.le_of_ble_eq_true rfl) (by omega) (by omega) (by show n7 + mC ec + 0 ≤ 366 ∧ n88 + 6 * mC ec + 0 ≤ 2244; omega) dL_law_75 (fun H locs hP1 hS hz hk => ?_)
    have hg : s.heap.size + (g0 + 0) ≤ H.size := by omega
    have hPx := mw_keepP hPx (fun q h => hk q h (fun z => z))
    have hPy := mw_keepP hPy (fun q h => hk q h (fun z => z))
    clear hP1 hk hz
    refine W.eq (g2 := F0 m 78 ls [.int (mI (1))]) rfl ?_
    refine mw_if_eq (tgt := 143) hx hb (by omega) dL_law_78 (by decide) (fun c => absurd c (by decide)) (fun _ => ?_)
    refine lv_aload_n hx hb dL_law_81 rfl (lv_at hl 5 rfl) ?_
    refine lv_iload hx hb dL_law_82 (lv_at hl 0 rfl) ?_
    refine mw_cG (rest := []) (A0 := (mA9 s)) (k9 := n7 + mC ec + 2) (n9 := n88 + 6 * mC ec + 12) hC (g_isDaySo l hfl D x0 x1 x2 cA cJ v' L' P' dd (by omega) hok') (va_cwS 2 hts gL_law_L_isDaySo rfl rfl rfl (by decide +kernel) ⟨Nat.le_of_ble_eq_true rfl, Nat.le_of_ble_eq_true rfl⟩) hK hPx hES hZS hNS hS (fun _ h => h.elim) rfl hl.1 rfl (Nat.le_of_ble_eq_true rfl) (by omega) (by omega) (by show n7 + mC ec + 2 ≤ 366 ∧ n88 + 6 * mC ec + 12 ≤ 2244; omega) dL_law_84 (fun H locs hP1 hS hz hk => ?_)
    have hg : s.heap.size + (g0 + 2) ≤ H.size := by omega
    have hPx := mw_keepP hPx (fun q h => hk q h (fun z => z))
    have hPy := mw_keepP hPy (fun q h => hk q h (fun z => z))
    clear hP1 hk hz
    refine W.eq (g2 := F0 m 87 ls [.int (mI (1))]) rfl ?_
    refine mw_if_eq (tgt := 143) hx hb (by omega) dL_law_87 (by decide) (fun c => absurd c (by decide)) (fun _ => ?_)
    refine lv_aload_n hx hb dL_law_90 rfl (lv_at hl 5 rfl) ?_
    refine lv_iload hx hb dL_law_91 (lv_at hl 2 rfl) ?_
    refine mw_bipush hx hb (by decide +kernel) dL_law_93 ?_
    refine mw_ishr hx hb dL_law_95 ?_
    refine mw_sipush hx hb (by decide +kernel) dL_law_96 ?_
    refine mw_cSi (rest := [.ref x0]) hC (c_L_low l (mShr V 8) 2000 (by omega)) (va_cwS 2 hts gL_law_L_low rfl rfl rfl (by decide +kernel) ⟨Nat.le_of_ble_eq_true rfl, Nat.le_of_ble_eq_true rfl⟩) rfl hl.1 rfl (Nat.le_of_ble_eq_true rfl) (by show n7 + mC ec + 2 ≤ 366 ∧ n88 + 6 * mC ec + 12 ≤ 2244; omega) dL_law_99 ?_
    have b_99 := mLow_r (mShr V 8) 2000 (by omega)
    refine mw_sipush hx hb (by decide +kernel) dL_law_102 ?_
    refine mw_isub hx hb dL_law_105 ?_
    refine mw_cG (rest := []) (A0 := (mA9 s)) (k9 := n7 + mC ec + 4) (n9 := n88 + 6 * mC ec + 24) hC (g_isDaySo l hfl D x0 x1 x2 cA cJ v' L' P' ((mLow (mShr V 8) 2000) - 1000) (by omega) hok') (va_cwS 2 hts gL_law_L_isDaySo rfl rfl rfl (by decide +kernel) ⟨Nat.le_of_ble_eq_true rfl, Nat.le_of_ble_eq_true rfl⟩) hK hPx hES hZS hNS hS (fun _ h => h.elim) rfl hl.1 rfl (Nat.le_of_ble_eq_true rfl) (by omega) (by omega) (by show n7 + mC ec + 4 ≤ 366 ∧ n88 + 6 * mC ec + 24 ≤ 2244; omega) dL_law_106 (fun H locs hP1 hS hz hk => ?_)
    have hg : s.heap.size + (g0 + 4) ≤ H.size := by omega
    have hPx := mw_keepP hPx (fun q h => hk q h (fun z => z))
    have hPy := mw_keepP hPy (fun q h => hk q h (fun z => z))
    clear hP1 hk hz
    refine W.eq (g2 := F0 m 109 ls [.int (mI (1))]) rfl ?_
    refine mw_if_eq (tgt := 143) hx hb (by omega) dL_law_109 (by decide) (fun c => absurd c (by decide)) (fun _ => ?_)
    refine lv_aload_n hx hb dL_law_112 rfl (lv_at hl 5 rfl) ?_
    refine lv_iload hx hb dL_law_113 (lv_at hl 0 rfl) ?_
    refine mw_cG (rest := []) (A0 := (mA9 s)) (k9 := n7 + mC ec + 4) (n9 := n88 + 6 * mC ec + 24) hC (g_isMonthSo l hfl D x0 x1 x2 cA cJ v' L' P' dd (by omega) hok') (va_cwS 2 hts gL_law_L_isMonthSo rfl rfl rfl (by decide +kernel) ⟨Nat.le_of_ble_eq_true rfl, Nat.le_of_ble_eq_true rfl⟩) hK hPx hES hZS hNS hS (fun _ h => h.elim) rfl hl.1 rfl (Nat.le_of_ble_eq_true rfl) (by omega) (by omega) (by show n7 + mC ec + 4 ≤ 366 ∧ n88 + 6 * mC ec + 24 ≤ 2244; omega) dL_law_115 (fun H locs hP1 hS hz hk => ?_)
    have hg : s.heap.size + (g0 + 4) ≤ H.size := by omega
    have hPx := mw_keepP hPx (fun q h => hk q h (fun z => z))
    have hPy := mw_keepP hPy (fun q h => hk q h (fun z => z))
    clear hP1 hk hz
    refine W.eq (g2 := F0 m 118 ls [.int (mI (1))]) rfl ?_
    refine mw_if_eq (tgt := 143) hx hb (by omega) dL_law_118 (by decide) (fun c => absurd c (by decide)) (fun _ => ?_)
    refine lv_aload_n hx hb dL_law_121 rfl (lv_at hl 5 rfl) ?_
    refine lv_iload hx hb dL_law_122 (lv_at hl 2 rfl) ?_
    refine mw_bipush hx hb (by decide +kernel) dL_law_124 ?_
    refine mw_ishr hx hb dL_law_126 ?_
    refine mw_sipush hx hb (by decide +kernel) dL_law_127 ?_
    refine mw_cSi (rest := [.ref x0]) hC (c_L_low l (mShr V 8) 2000 (by omega)) (va_cwS 2 hts gL_law_L_low rfl rfl rfl (by decide +kernel) ⟨Nat.le_of_ble_eq_true rfl, Nat.le_of_ble_eq_true rfl⟩) rfl hl.1 rfl (Nat.le_of_ble_eq_true rfl) (by show n7 + mC ec + 4 ≤ 366 ∧ n88 + 6 * mC ec + 24 ≤ 2244; omega) dL_law_130 ?_
    have b_130 := mLow_r (mShr V 8) 2000 (by omega)
    refine mw_sipush hx hb (by decide +kernel) dL_law_133 ?_
    refine mw_isub hx hb dL_law_136 ?_
    refine mw_cG (rest := []) (A0 := (mA9 s)) (k9 := n7 + mC ec + 4) (n9 := n88 + 6 * mC ec + 24) hC (g_isMonthSo l hfl D x0 x1 x2 cA cJ v' L' P' ((mLow (mShr V 8) 2000) - 1000) (by omega) hok') (va_cwS 2 hts gL_law_L_isMonthSo rfl rfl rfl (by decide +kernel) ⟨Nat.le_of_ble_eq_true rfl, Nat.le_of_ble_eq_true rfl⟩) hK hPx hES hZS hNS hS (fun _ h => h.elim) rfl hl.1 rfl (Nat.le_of_ble_eq_true rfl) (by omega) (by omega) (by show n7 + mC ec + 4 ≤ 366 ∧ n88 + 6 * mC ec + 24 ≤ 2244; omega) dL_law_137 (fun H locs hP1 hS hz hk => ?_)
    have hg : s.heap.size + (g0 + 4) ≤ H.size := by omega
    have hPx := mw_keepP hPx (fun q h => hk q h (fun z => z))
    have hPy := mw_keepP hPy (fun q h => hk q h (fun z => z))
    clear hP1 hk hz
    refine W.eq (g2 := F0 m 140 ls [.int (mI (1))]) rfl ?_
    refine mw_if_ne (tgt := 145) hx hb (by omega) dL_law_140 (by decide) (fun _ => ?_) (fun c => absurd c (by decide))
    refine lv_aload_n hx hb dL_law_145 rfl (lv_at hl 5 rfl) ?_
    refine mw_cVi (rest := []) (q := (RX0, TX0, 10)) hC (c_X0_markets l D x0 x1 x2 cA cJ v' L' P') (cwV 0 hts gL_law_X0_markets rfl rfl rfl (by decide +kernel) ⟨Nat.le_of_ble_eq_true rfl, Nat.le_of_ble_eq_true rfl⟩) hK hPx rfl rfl rfl hl.1 rfl (Nat.le_of_ble_eq_true rfl) (by show n7 + mC ec + 4 ≤ 366 ∧ n88 + 6 * mC ec + 24 ≤ 2244; omega) dL_law_146 ?_
    refine lv_istore (lv' := [(7, .int (mI (v' 0))), (6, .int (mI (dd))), (5, .int (mI (r))), (4, .int (mI (V))), (3, .int (mI (i))), (0, .ref b), (1, .ref x0), (2, .ref y0)]) hx hb dL_law_149 hl (by decide) rfl (fun ls hl => ?_)
    refine lv_iload hx hb dL_law_151 (lv_at hl 0 rfl) ?_
    refine mw_if_le (tgt := 208) hx hb (by omega) dL_law_153 (by decide) (fun c_153 => ?_) (fun c_153 => ?_)
    · refine lv_aload_n hx hb dL_law_208 rfl (lv_at hl 6 rfl) ?_
      refine mw_iconst hx hb dL_law_209 ?_
      refine lv_iload hx hb dL_law_210 (lv_at hl 0 rfl) ?_
      refine mw_ishl hx hb dL_law_212 ?_
      refine mw_topi (y := w9) hw9 ?_
      refine lv_iload hx hb dL_law_213 (lv_at hl 1 rfl) ?_
      refine mw_cG (rest := []) (A0 := (mA9 s)) (k9 := n7 + mC ec + 6) (n9 := n88 + 6 * mC ec + 36) hC (g_isMeetingSo l hfl D x0 x1 x2 cA cJ v' L' P' w9 dd (by omega) (by first | omega | exact mAnd_r _ _) hok') (va_cwS 3 hts gL_law_L_isMeetingSo rfl rfl rfl (by decide +kernel) ⟨Nat.le_of_ble_eq_true rfl, Nat.le_of_ble_eq_true rfl⟩) hK hPx hES hZS hNS hS (fun _ h => h.elim) rfl hl.1 rfl (Nat.le_of_ble_eq_true rfl) (by omega) (by omega) (by show n7 + mC ec + 6 ≤ 366 ∧ n88 + 6 * mC ec + 36 ≤ 2244; omega) dL_law_215 (fun H locs hP1 hS hz hk => ?_)
      have hg : s.heap.size + (g0 + 4) ≤ H.size := by omega
      have hPx := mw_keepP hPx (fun q h => hk q h (fun z => z))
      have hPy := mw_keepP hPy (fun q h => hk q h (fun z => z))
      clear hP1 hk hz
      refine W.eq (g2 := F0 m 218 ls [.int (mI (1))]) rfl ?_
      refine mw_if_ne (tgt := 223) hx hb (by omega) dL_law_218 (by decide) (fun _ => ?_) (fun c => absurd c (by decide))
      refine W.widen (k := n7 + 9) (n := n88 + 54) (by omega) (by omega) ?_
      exact hnext H locs v' L' P' hok' hPx hPy hS (by omega) ls (lv_sub hl [4, 5, 6, 7] rfl)
    · refine lv_aload_n hx hb dL_law_156 rfl (lv_at hl 6 rfl) ?_
      refine lv_iload hx hb dL_law_157 (lv_at hl 3 rfl) ?_
      refine mw_bipush hx hb (by decide +kernel) dL_law_159 ?_
      refine mw_ishr hx hb dL_law_161 ?_
      refine lv_iload hx hb dL_law_162 (lv_at hl 0 rfl) ?_
      refine mw_cSi (rest := [.ref x0]) hC (c_L_low l (mShr V 6) (v' 0) (by omega)) (va_cwS 2 hts gL_law_L_low rfl rfl rfl (by decide +kernel) ⟨Nat.le_of_ble_eq_true rfl, Nat.le_of_ble_eq_true rfl⟩) rfl hl.1 rfl (Nat.le_of_ble_eq_true rfl) (by show n7 + mC ec + 4 ≤ 366 ∧ n88 + 6 * mC ec + 24 ≤ 2244; omega) dL_law_164 ?_
      have b_164 := mLow_r (mShr V 6) (v' 0) (by omega)
      refine lv_iload hx hb dL_law_167 (lv_at hl 1 rfl) ?_
      refine mw_cG (rest := []) (A0 := (mA9 s)) (k9 := n7 + mC ec + 4) (n9 := n88 + 6 * mC ec + 24) hC (g_isMarketSo l hfl D x0 x1 x2 cA cJ v' L' P' (mLow (mShr V 6) (v' 0)) dd (by omega) (by omega) hok') (va_cwS 3 hts gL_law_L_isMarketSo rfl rfl rfl (by decide +kernel) ⟨Nat.le_of_ble_eq_true rfl, Nat.le_of_ble_eq_true rfl⟩) hK hPx hES hZS hNS hS (fun _ h => h.elim) rfl hl.1 rfl (Nat.le_of_ble_eq_true rfl) (by omega) (by omega) (by show n7 + mC ec + 4 ≤ 366 ∧ n88 + 6 * mC ec + 24 ≤ 2244; omega) dL_law_169 (fun H locs hP1 hS hz hk => ?_)
      have hg : s.heap.size + (g0 + 4) ≤ H.size := by omega
      have hPx := mw_keepP hPx (fun q h => hk q h (fun z => z))
      have hPy := mw_keepP hPy (fun q h => hk q h (fun z => z))
      clear hP1 hk hz
      refine W.eq (g2 := F0 m 172 ls [.int (mI (1))]) rfl ?_
      refine mw_if_eq (tgt := 221) hx hb (by omega) dL_law_172 (by decide) (fun c => absurd c (by decide)) (fun _ => ?_)
      refine lv_aload_n hx hb dL_law_175 rfl (lv_at hl 6 rfl) ?_
      refine lv_iload hx hb dL_law_176 (lv_at hl 3 rfl) ?_
      refine mw_bipush hx hb (by decide +kernel) dL_law_178 ?_
      refine mw_ishr hx hb dL_law_180 ?_
      refine mw_iconst hx hb dL_law_181 ?_
      refine lv_iload hx hb dL_law_182 (lv_at hl 0 rfl) ?_
      refine mw_ishl hx hb dL_law_184 ?_
      refine mw_topi (y := w9) hw9 ?_
      refine mw_cSi (rest := [.ref x0]) hC (c_L_low l (mShr V 9) w9 (by omega)) (va_cwS 2 hts gL_law_L_low rfl rfl rfl (by decide +kernel) ⟨Nat.le_of_ble_eq_true rfl, Nat.le_of_ble_eq_true rfl⟩) rfl hl.1 rfl (Nat.le_of_ble_eq_true rfl) (by show n7 + mC ec + 4 ≤ 366 ∧ n88 + 6 * mC ec + 24 ≤ 2244; omega) dL_law_185 ?_
      have b_185 := mLow_r (mShr V 9) w9 (by omega)
      refine lv_iload hx hb dL_law_188 (lv_at hl 3 rfl) ?_
      refine mw_iconst hx hb dL_law_190 ?_
      refine mw_ishr hx hb dL_law_191 ?_
      refine mw_iconst hx hb dL_law_192 ?_
      refine lv_iload hx hb dL_law_193 (lv_at hl 0 rfl) ?_
      refine mw_ishl hx hb dL_law_195 ?_
      refine mw_topi (y := w9) hw9 ?_
      refine mw_cSi (rest := [.int (mI (mLow (mShr V 9) w9)), .ref x0]) hC (c_L_low l (mShr V 2) w9 (by omega)) (va_cwS 2 hts gL_law_L_low rfl rfl rfl (by decide +kernel) ⟨Nat.le_of_ble_eq_true rfl, Nat.le_of_ble_eq_true rfl⟩) rfl hl.1 rfl (Nat.le_of_ble_eq_true rfl) (by show n7 + mC ec + 4 ≤ 366 ∧ n88 + 6 * mC ec + 24 ≤ 2244; omega) dL_law_196 ?_
      have b_196 := mLow_r (mShr V 2) w9 (by omega)
      refine mw_iand hx hb dL_law_199 ?_
      refine lv_iload hx hb dL_law_200 (lv_at hl 1 rfl) ?_
      refine mw_cG (rest := []) (A0 := (mA9 s)) (k9 := n7 + mC ec + 6) (n9 := n88 + 6 * mC ec + 36) hC (g_isMeetingSo l hfl D x0 x1 x2 cA cJ v' L' P' (mAnd (mLow (mShr V 9) w9) (mLow (mShr V 2) w9)) dd (by omega) (by first | omega | exact mAnd_r _ _) hok') (va_cwS 3 hts gL_law_L_isMeetingSo rfl rfl rfl (by decide +kernel) ⟨Nat.le_of_ble_eq_true rfl, Nat.le_of_ble_eq_true rfl⟩) hK hPx hES hZS hNS hS (fun _ h => h.elim) rfl hl.1 rfl (Nat.le_of_ble_eq_true rfl) (by omega) (by omega) (by show n7 + mC ec + 6 ≤ 366 ∧ n88 + 6 * mC ec + 36 ≤ 2244; omega) dL_law_202 (fun H locs hP1 hS hz hk => ?_)
      have hg : s.heap.size + (g0 + 4) ≤ H.size := by omega
      have hPx := mw_keepP hPx (fun q h => hk q h (fun z => z))
      have hPy := mw_keepP hPy (fun q h => hk q h (fun z => z))
      clear hP1 hk hz
      refine W.eq (g2 := F0 m 205 ls [.int (mI (1))]) rfl ?_
      refine mw_if_eq (tgt := 221) hx hb (by omega) dL_law_205 (by decide) (fun c => absurd c (by decide)) (fun _ => ?_)
      refine lv_aload_n hx hb dL_law_208 rfl (lv_at hl 6 rfl) ?_
      refine mw_iconst hx hb dL_law_209 ?_
      refine lv_iload hx hb dL_law_210 (lv_at hl 0 rfl) ?_
      refine mw_ishl hx hb dL_law_212 ?_
      refine mw_topi (y := w9) hw9 ?_
      refine lv_iload hx hb dL_law_213 (lv_at hl 1 rfl) ?_
      refine mw_cG (rest := []) (A0 := (mA9 s)) (k9 := n7 + mC ec + 8) (n9 := n88 + 6 * mC ec + 48) hC (g_isMeetingSo l hfl D x0 x1 x2 cA cJ v' L' P' w9 dd (by omega) (by first | omega | exact mAnd_r _ _) hok') (va_cwS 3 hts gL_law_L_isMeetingSo rfl rfl rfl (by decide +kernel) ⟨Nat.le_of_ble_eq_true rfl, Nat.le_of_ble_eq_true rfl⟩) hK hPx hES hZS hNS hS (fun _ h => h.elim) rfl hl.1 rfl (Nat.le_of_ble_eq_true rfl) (by omega) (by omega) (by show n7 + mC ec + 8 ≤ 366 ∧ n88 + 6 * mC ec + 48 ≤ 2244; omega) dL_law_215 (fun H locs hP1 hS hz hk => ?_)
      have hg : s.heap.size + (g0 + 4) ≤ H.size := by omega
      have hPx := mw_keepP hPx (fun q h => hk q h (fun z => z))
      have hPy := mw_keepP hPy (fun q h => hk q h (fun z => z))
      clear hP1 hk hz
      refine W.eq (g2 := F0 m 218 ls [.int (mI (1))]) rfl ?_
      refine mw_if_ne (tgt := 223) hx hb (by omega) dL_law_218 (by decide) (fun _ => ?_) (fun c => absurd c (by decide))
      refine W.widen (k := n7 + 9) (n := n88 + 54) (by omega) (by omega) ?_
      exact hnext H locs v' L' P' hok' hPx hPy hS (by omega) ls (lv_sub hl [4, 5, 6, 7] rfl)
