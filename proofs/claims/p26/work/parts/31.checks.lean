set_option maxHeartbeats 400000 in
set_option maxRecDepth 100000 in
theorem c_X0_checkDay (l : Launch) (d : Int) (h1 : mDay d) : mP l yX0_checkDay wsX0_checkDay ({ frames := 1, cells := 0, slots := 0, locals := 22 }) [.int (mI (d))] (fun _ => True) (none) := by
  refine mw_open (cc := cX0_checkDay) (maxL := 1) (ret := none) (by decide +kernel) rfl (Nat.le_of_ble_eq_true rfl) ?_
  intro p e s m below meth c ls hC hr hlocks hB hl
  obtain ⟨hx, hb, hml, hown, hts⟩ := id hC
  have hl : lv_has ls 1 [(0, .int (mI (d)))] := hl
  refine lv_iload_n hx hb dX0_checkDay_0 rfl (lv_at hl 0 rfl) ?_
  refine mw_ldc hx hb (-1000000) (by decide +kernel) hown (hts (.constant RX0 142 (-1000000)) (by decide +kernel)) dX0_checkDay_1 ?_
  refine mw_ldc hx hb (1000000) (by decide +kernel) hown (hts (.constant RX0 143 (1000000)) (by decide +kernel)) dX0_checkDay_3 ?_
  refine mw_cSi (rest := []) hC (c_X0_isWithin l d (-1000000) 1000000 (by omega) (by omega) (by omega)) (va_cwS 3 hts gX0_checkDay_X0_isWithin rfl rfl rfl (by decide +kernel) ⟨Nat.le_of_ble_eq_true rfl, Nat.le_of_ble_eq_true rfl⟩) rfl hl.1 rfl (Nat.le_of_ble_eq_true rfl) ⟨Nat.zero_le _, Nat.zero_le _⟩ dX0_checkDay_5 ?_
  refine mw_topi (y := 1) (mB_t (by omega)) ?_
  refine mw_cSv (rest := []) hC (c_X0_checkArgument l) (va_cwS 1 hts gX0_checkDay_X0_checkArgument rfl rfl rfl (by decide +kernel) ⟨Nat.le_of_ble_eq_true rfl, Nat.le_of_ble_eq_true rfl⟩) rfl hl.1 rfl (Nat.le_of_ble_eq_true rfl) ⟨Nat.zero_le _, Nat.zero_le _⟩ dX0_checkDay_8 ?_
  exact mw_retV hx hb hr hlocks dX0_checkDay_11

set_option maxHeartbeats 400000 in
set_option maxRecDepth 100000 in
theorem t_X0_checkDay_t (l : Launch) (hfl : l.flags = flags0) (d : Int) (h1 : mRI d) (h2 : ¬ mDay d)  : mT l yX0_checkDay wsX0_checkDay ({ frames := 7, cells := 1, slots := 6, locals := 110 }) [.int (mI (d))] (fun _ => True) "java/lang/IllegalArgumentException" := by
  refine mw_openX (cc := cX0_checkDay) (maxL := 1) (ret := none) (by decide) rfl (Nat.le_of_ble_eq_true rfl) ?_
  intro p e s m below meth c ls hC hr hlocks hout hB hE hl
  obtain ⟨hx, hb, hml, hown, hts⟩ := id hC
  have hl : lv_has ls 1 [(0, .int (mI (d)))] := hl
  refine lv_iload_n hx hb dX0_checkDay_0 rfl (lv_at hl 0 rfl) ?_
  refine mw_ldc hx hb (-1000000) (by decide +kernel) hown (hts (.constant RX0 142 (-1000000)) (by decide +kernel)) dX0_checkDay_1 ?_
  refine mw_ldc hx hb (1000000) (by decide +kernel) hown (hts (.constant RX0 143 (1000000)) (by decide +kernel)) dX0_checkDay_3 ?_
  refine mw_cSi (rest := []) hC (c_X0_isWithin l d (-1000000) 1000000 (by omega) (by omega) (by omega)) (va_cwS 3 hts gX0_checkDay_X0_isWithin rfl rfl rfl (by decide +kernel) ⟨Nat.le_of_ble_eq_true rfl, Nat.le_of_ble_eq_true rfl⟩) rfl hl.1 rfl (Nat.le_of_ble_eq_true rfl) ⟨Nat.zero_le _, Nat.zero_le _⟩ dX0_checkDay_5 ?_
  refine mw_topi (y := 0) (mB_f (by omega)) ?_
  exact mw_tS (rest := []) hC (t_X0_checkArgument_t l hfl) hE (va_cwS 1 hts gX0_checkDay_X0_checkArgument rfl rfl rfl (by decide +kernel) ⟨Nat.le_of_ble_eq_true rfl, Nat.le_of_ble_eq_true rfl⟩) rfl hl.1 rfl (Nat.le_of_ble_eq_true rfl) ⟨Nat.le_of_ble_eq_true rfl, Nat.le_of_ble_eq_true rfl⟩ hout hlocks dX0_checkDay_8 (fun t ht => ⟨rfl, ht⟩)

set_option maxHeartbeats 400000 in
set_option maxRecDepth 100000 in
theorem c_X0_checkYear (l : Launch) (d : Int) (h1 : mYear d) : mP l yX0_checkYear wsX0_checkYear ({ frames := 1, cells := 0, slots := 0, locals := 22 }) [.int (mI (d))] (fun _ => True) (none) := by
  refine mw_open (cc := cX0_checkYear) (maxL := 1) (ret := none) (by decide +kernel) rfl (Nat.le_of_ble_eq_true rfl) ?_
  intro p e s m below meth c ls hC hr hlocks hB hl
  obtain ⟨hx, hb, hml, hown, hts⟩ := id hC
  have hl : lv_has ls 1 [(0, .int (mI (d)))] := hl
  refine lv_iload_n hx hb dX0_checkYear_0 rfl (lv_at hl 0 rfl) ?_
  refine mw_sipush hx hb (by decide +kernel) dX0_checkYear_1 ?_
  refine mw_sipush hx hb (by decide +kernel) dX0_checkYear_4 ?_
  refine mw_cSi (rest := []) hC (c_X0_isWithin l d (-10000) 10000 (by omega) (by omega) (by omega)) (va_cwS 3 hts gX0_checkYear_X0_isWithin rfl rfl rfl (by decide +kernel) ⟨Nat.le_of_ble_eq_true rfl, Nat.le_of_ble_eq_true rfl⟩) rfl hl.1 rfl (Nat.le_of_ble_eq_true rfl) ⟨Nat.zero_le _, Nat.zero_le _⟩ dX0_checkYear_7 ?_
  refine mw_topi (y := 1) (mB_t (by omega)) ?_
  refine mw_cSv (rest := []) hC (c_X0_checkArgument l) (va_cwS 1 hts gX0_checkYear_X0_checkArgument rfl rfl rfl (by decide +kernel) ⟨Nat.le_of_ble_eq_true rfl, Nat.le_of_ble_eq_true rfl⟩) rfl hl.1 rfl (Nat.le_of_ble_eq_true rfl) ⟨Nat.zero_le _, Nat.zero_le _⟩ dX0_checkYear_10 ?_
  exact mw_retV hx hb hr hlocks dX0_checkYear_13

set_option maxHeartbeats 400000 in
set_option maxRecDepth 100000 in
theorem t_X0_checkYear_t (l : Launch) (hfl : l.flags = flags0) (d : Int) (h1 : mRI d) (h2 : ¬ mYear d)  : mT l yX0_checkYear wsX0_checkYear ({ frames := 7, cells := 1, slots := 6, locals := 110 }) [.int (mI (d))] (fun _ => True) "java/lang/IllegalArgumentException" := by
  refine mw_openX (cc := cX0_checkYear) (maxL := 1) (ret := none) (by decide) rfl (Nat.le_of_ble_eq_true rfl) ?_
  intro p e s m below meth c ls hC hr hlocks hout hB hE hl
  obtain ⟨hx, hb, hml, hown, hts⟩ := id hC
  have hl : lv_has ls 1 [(0, .int (mI (d)))] := hl
  refine lv_iload_n hx hb dX0_checkYear_0 rfl (lv_at hl 0 rfl) ?_
  refine mw_sipush hx hb (by decide +kernel) dX0_checkYear_1 ?_
  refine mw_sipush hx hb (by decide +kernel) dX0_checkYear_4 ?_
  refine mw_cSi (rest := []) hC (c_X0_isWithin l d (-10000) 10000 (by omega) (by omega) (by omega)) (va_cwS 3 hts gX0_checkYear_X0_isWithin rfl rfl rfl (by decide +kernel) ⟨Nat.le_of_ble_eq_true rfl, Nat.le_of_ble_eq_true rfl⟩) rfl hl.1 rfl (Nat.le_of_ble_eq_true rfl) ⟨Nat.zero_le _, Nat.zero_le _⟩ dX0_checkYear_7 ?_
  refine mw_topi (y := 0) (mB_f (by omega)) ?_
  exact mw_tS (rest := []) hC (t_X0_checkArgument_t l hfl) hE (va_cwS 1 hts gX0_checkYear_X0_checkArgument rfl rfl rfl (by decide +kernel) ⟨Nat.le_of_ble_eq_true rfl, Nat.le_of_ble_eq_true rfl⟩) rfl hl.1 rfl (Nat.le_of_ble_eq_true rfl) ⟨Nat.le_of_ble_eq_true rfl, Nat.le_of_ble_eq_true rfl⟩ hout hlocks dX0_checkYear_10 (fun t ht => ⟨rfl, ht⟩)

set_option maxHeartbeats 400000 in
set_option maxRecDepth 100000 in
theorem c_X0_checkMarket (l : Launch) (D : va_G) (h0 a1 a2 : Nat) (cA cJ : ClassId) (v : Nat → Int) (L P : Int → Int) (m9 : Int) (h1 : mRI m9) (h2 : mMk v m9) (hv : 0 ≤ v 0 ∧ v 0 ≤ 16) : mP l yX0_checkMarket wsX0_checkMarket ({ frames := 1, cells := 0, slots := 0, locals := 22 }) [.ref h0, .int (mI (m9))] (mwB D (mXW h0 a1 a2 cA v L P) (mTy cA cJ)) (none) := by
  refine mw_open (cc := cX0_checkMarket) (maxL := 2) (ret := none) (by decide +kernel) rfl (Nat.le_of_ble_eq_true rfl) ?_
  intro p e s m below meth c ls hC hr hlocks hB hl
  obtain ⟨hx, hb, hml, hown, hts⟩ := id hC
  obtain ⟨hP, hK⟩ := hB
  have hin : ∀ w ∈ wsX00, w ∈ wsX0_checkMarket := by decide +kernel
  have hl : lv_has ls 2 [(0, .ref h0), (1, .int (mI (m9)))] := hl
  refine lv_iload_n hx hb dX0_checkMarket_0 rfl (lv_at hl 1 rfl) ?_
  refine mw_iconst hx hb dX0_checkMarket_1 ?_
  refine lv_aload_n hx hb dX0_checkMarket_2 rfl (lv_at hl 0 rfl) ?_
  refine mw_getX hx hb hts hin hown hK hP rfl 2 (by decide) (by decide +kernel) rfl rfl dX0_checkMarket_3 ?_
  refine mw_iconst hx hb dX0_checkMarket_6 ?_
  refine mw_isub hx hb dX0_checkMarket_7 ?_
  refine mw_cSi (rest := []) hC (c_X0_isWithin l m9 0 ((v 0) - 1) (by omega) (by omega) (by omega)) (va_cwS 3 hts gX0_checkMarket_X0_isWithin rfl rfl rfl (by decide +kernel) ⟨Nat.le_of_ble_eq_true rfl, Nat.le_of_ble_eq_true rfl⟩) rfl hl.1 rfl (Nat.le_of_ble_eq_true rfl) ⟨Nat.zero_le _, Nat.zero_le _⟩ dX0_checkMarket_8 ?_
  refine mw_zne (tgt := 24) hx hb dX0_checkMarket_11 (by decide) (fun c_11 => ?_) (fun c_11 => False.elim (by omega))
  exact mw_retV hx hb hr hlocks dX0_checkMarket_24

set_option maxHeartbeats 400000 in
set_option maxRecDepth 100000 in
theorem t_X0_checkMarket_t (l : Launch) (hfl : l.flags = flags0) (D : va_G) (h0 a1 a2 : Nat) (cA cJ : ClassId) (v : Nat → Int) (L P : Int → Int) (m9 : Int) (h1 : mRI m9) (h2 : ¬ mMk v m9) (hv : 0 ≤ v 0 ∧ v 0 ≤ 16) : mT l yX0_checkMarket wsX0_checkMarket ({ frames := 6, cells := 1, slots := 6, locals := 90 }) [.ref h0, .int (mI (m9))] (mwB D (mXW h0 a1 a2 cA v L P) (mTy cA cJ)) "java/lang/IndexOutOfBoundsException" := by
  refine mw_openX (cc := cX0_checkMarket) (maxL := 2) (ret := none) (by decide) rfl (Nat.le_of_ble_eq_true rfl) ?_
  intro p e s m below meth c ls hC hr hlocks hout hB hE hl
  obtain ⟨hx, hb, hml, hown, hts⟩ := id hC
  obtain ⟨hP, hK⟩ := hB
  have hin : ∀ w ∈ wsX00, w ∈ wsX0_checkMarket := by decide +kernel
  have hl : lv_has ls 2 [(0, .ref h0), (1, .int (mI (m9)))] := hl
  refine lv_iload_n hx hb dX0_checkMarket_0 rfl (lv_at hl 1 rfl) ?_
  refine mw_iconst hx hb dX0_checkMarket_1 ?_
  refine lv_aload_n hx hb dX0_checkMarket_2 rfl (lv_at hl 0 rfl) ?_
  refine mw_getX hx hb hts hin hown hK hP rfl 2 (by decide) (by decide +kernel) rfl rfl dX0_checkMarket_3 ?_
  refine mw_iconst hx hb dX0_checkMarket_6 ?_
  refine mw_isub hx hb dX0_checkMarket_7 ?_
  refine mw_cSi (rest := []) hC (c_X0_isWithin l m9 0 ((v 0) - 1) (by omega) (by omega) (by omega)) (va_cwS 3 hts gX0_checkMarket_X0_isWithin rfl rfl rfl (by decide +kernel) ⟨Nat.le_of_ble_eq_true rfl, Nat.le_of_ble_eq_true rfl⟩) rfl hl.1 rfl (Nat.le_of_ble_eq_true rfl) ⟨Nat.zero_le _, Nat.zero_le _⟩ dX0_checkMarket_8 ?_
  refine mw_zne (tgt := 24) hx hb dX0_checkMarket_11 (by decide) (fun c_11 => False.elim (by omega)) (fun c_11 => ?_)
  exact mw_throw (cls := "java/lang/IndexOutOfBoundsException") (text := "there is no such market") (ik := 144) (is := 146) (ic := 148) hx hb hfl hts hown (by decide +kernel) hE hE.1.2.2.2.2.2.2.2.1 hE.1.2.2.1 (by decide +kernel) (by decide +kernel) (by decide +kernel) (by decide +kernel) (by decide +kernel) (hl.1.trans hml.symm) dX0_checkMarket_14 dX0_checkMarket_17 dX0_checkMarket_18 dX0_checkMarket_20 dX0_checkMarket_23 hout (Nat.le_of_ble_eq_true rfl) ⟨Nat.le_of_ble_eq_true rfl, Nat.le_of_ble_eq_true rfl, Nat.le_of_ble_eq_true rfl, Nat.le_of_ble_eq_true rfl⟩ hlocks (fun t ht => ⟨rfl, ht⟩)

set_option maxHeartbeats 400000 in
set_option maxRecDepth 100000 in
theorem c_X0_checkMarkets (l : Launch) (D : va_G) (h0 a1 a2 : Nat) (cA cJ : ClassId) (v : Nat → Int) (L P : Int → Int) (z : Int) (h2 : mUsh z (v 0) = 0) : mP l yX0_checkMarkets wsX0_checkMarkets ({ frames := 0, cells := 0, slots := 0, locals := 0 }) [.ref h0, .int (mI (z))] (mwB D (mXW h0 a1 a2 cA v L P) (mTy cA cJ)) (none) := by
  refine mw_open (cc := cX0_checkMarkets) (maxL := 2) (ret := none) (by decide +kernel) rfl (Nat.le_of_ble_eq_true rfl) ?_
  intro p e s m below meth c ls hC hr hlocks hB hl
  obtain ⟨hx, hb, hml, hown, hts⟩ := id hC
  obtain ⟨hP, hK⟩ := hB
  have hin : ∀ w ∈ wsX00, w ∈ wsX0_checkMarkets := by decide +kernel
  have hl : lv_has ls 2 [(0, .ref h0), (1, .int (mI (z)))] := hl
  have r1 := mUsh_r z (v 0)
  refine lv_iload_n hx hb dX0_checkMarkets_0 rfl (lv_at hl 1 rfl) ?_
  refine lv_aload_n hx hb dX0_checkMarkets_1 rfl (lv_at hl 0 rfl) ?_
  refine mw_getX hx hb hts hin hown hK hP rfl 2 (by decide) (by decide +kernel) rfl rfl dX0_checkMarkets_2 ?_
  refine mw_iushr hx hb dX0_checkMarkets_5 ?_
  refine mw_if_eq (tgt := 19) hx hb (by omega) dX0_checkMarkets_6 (by decide) (fun c_6 => ?_) (fun c_6 => False.elim (by omega))
  exact mw_retV hx hb hr hlocks dX0_checkMarkets_19

set_option maxHeartbeats 400000 in
set_option maxRecDepth 100000 in
theorem t_X0_checkMarkets_t (l : Launch) (hfl : l.flags = flags0) (D : va_G) (h0 a1 a2 : Nat) (cA cJ : ClassId) (v : Nat → Int) (L P : Int → Int) (z : Int) (h2 : ¬ mUsh z (v 0) = 0)  : mT l yX0_checkMarkets wsX0_checkMarkets ({ frames := 6, cells := 1, slots := 6, locals := 90 }) [.ref h0, .int (mI (z))] (mwB D (mXW h0 a1 a2 cA v L P) (mTy cA cJ)) "java/lang/IndexOutOfBoundsException" := by
  refine mw_openX (cc := cX0_checkMarkets) (maxL := 2) (ret := none) (by decide) rfl (Nat.le_of_ble_eq_true rfl) ?_
  intro p e s m below meth c ls hC hr hlocks hout hB hE hl
  obtain ⟨hx, hb, hml, hown, hts⟩ := id hC
  obtain ⟨hP, hK⟩ := hB
  have hin : ∀ w ∈ wsX00, w ∈ wsX0_checkMarkets := by decide +kernel
  have hl : lv_has ls 2 [(0, .ref h0), (1, .int (mI (z)))] := hl
  have r1 := mUsh_r z (v 0)
  refine lv_iload_n hx hb dX0_checkMarkets_0 rfl (lv_at hl 1 rfl) ?_
  refine lv_aload_n hx hb dX0_checkMarkets_1 rfl (lv_at hl 0 rfl) ?_
  refine mw_getX hx hb hts hin hown hK hP rfl 2 (by decide) (by decide +kernel) rfl rfl dX0_checkMarkets_2 ?_
  refine mw_iushr hx hb dX0_checkMarkets_5 ?_
  refine mw_if_eq (tgt := 19) hx hb (by omega) dX0_checkMarkets_6 (by decide) (fun c_6 => False.elim (by omega)) (fun c_6 => ?_)
  exact mw_throw (cls := "java/lang/IndexOutOfBoundsException") (text := "a bit stands for no market") (ik := 144) (is := 149) (ic := 148) hx hb hfl hts hown (by decide +kernel) hE hE.1.2.2.2.2.2.2.2.1 hE.1.2.2.2.1 (by decide +kernel) (by decide +kernel) (by decide +kernel) (by decide +kernel) (by decide +kernel) (hl.1.trans hml.symm) dX0_checkMarkets_9 dX0_checkMarkets_12 dX0_checkMarkets_13 dX0_checkMarkets_15 dX0_checkMarkets_18 hout (Nat.le_of_ble_eq_true rfl) ⟨Nat.le_of_ble_eq_true rfl, Nat.le_of_ble_eq_true rfl, Nat.le_of_ble_eq_true rfl, Nat.le_of_ble_eq_true rfl⟩ hlocks (fun t ht => ⟨rfl, ht⟩)

set_option maxHeartbeats 400000 in
set_option maxRecDepth 100000 in
theorem c_X0_checkTheyMeet (l : Launch) (d : Int) (h1 : mRL d) (h2 : d ≠ -1) : mP l yX0_checkTheyMeet wsX0_checkTheyMeet ({ frames := 0, cells := 0, slots := 0, locals := 0 }) [.long (mL (d))] (fun _ => True) (none) := by
  refine mw_open (cc := cX0_checkTheyMeet) (maxL := 2) (ret := none) (by decide +kernel) rfl (Nat.le_of_ble_eq_true rfl) ?_
  intro p e s m below meth c ls hC hr hlocks hB hl
  obtain ⟨hx, hb, hml, hown, hts⟩ := id hC
  have hl : lv_has ls 2 [(0, .long (mL (d)))] := hl
  refine lv_lload_n hx hb dX0_checkTheyMeet_0 rfl (lv_at hl 0 rfl) ?_
  refine mw_ldc2 hx hb (-1) (by decide +kernel) hown (hts (.constantLong RX0 96 (-1)) (by decide +kernel)) dX0_checkTheyMeet_1 ?_
  refine mw_lcmp_ne (tgt := 18) hx hb (by omega) (by omega) dX0_checkTheyMeet_4 dX0_checkTheyMeet_5 (by decide) (fun c_5 => ?_) (fun c_5 => False.elim (by omega))
  exact mw_retV hx hb hr hlocks dX0_checkTheyMeet_18

set_option maxHeartbeats 400000 in
set_option maxRecDepth 100000 in
theorem t_X0_checkTheyMeet_t (l : Launch) (hfl : l.flags = flags0) (d : Int) (h1 : mRL d) (h2 : ¬ d ≠ -1)  : mT l yX0_checkTheyMeet wsX0_checkTheyMeet ({ frames := 6, cells := 1, slots := 6, locals := 90 }) [.long (mL (d))] (fun _ => True) "java/lang/IllegalStateException" := by
  refine mw_openX (cc := cX0_checkTheyMeet) (maxL := 2) (ret := none) (by decide) rfl (Nat.le_of_ble_eq_true rfl) ?_
  intro p e s m below meth c ls hC hr hlocks hout hB hE hl
  obtain ⟨hx, hb, hml, hown, hts⟩ := id hC
  have hl : lv_has ls 2 [(0, .long (mL (d)))] := hl
  refine lv_lload_n hx hb dX0_checkTheyMeet_0 rfl (lv_at hl 0 rfl) ?_
  refine mw_ldc2 hx hb (-1) (by decide +kernel) hown (hts (.constantLong RX0 96 (-1)) (by decide +kernel)) dX0_checkTheyMeet_1 ?_
  refine mw_lcmp_ne (tgt := 18) hx hb (by omega) (by omega) dX0_checkTheyMeet_4 dX0_checkTheyMeet_5 (by decide) (fun c_5 => False.elim (by omega)) (fun c_5 => ?_)
  exact mw_throw (cls := "java/lang/IllegalStateException") (text := "they never meet") (ik := 53) (is := 151) (ic := 57) hx hb hfl hts hown (by decide +kernel) hE hE.1.2.2.2.2.2.2.1 hE.1.2.2.2.2.1 (by decide +kernel) (by decide +kernel) (by decide +kernel) (by decide +kernel) (by decide +kernel) (hl.1.trans hml.symm) dX0_checkTheyMeet_8 dX0_checkTheyMeet_11 dX0_checkTheyMeet_12 dX0_checkTheyMeet_14 dX0_checkTheyMeet_17 hout (Nat.le_of_ble_eq_true rfl) ⟨Nat.le_of_ble_eq_true rfl, Nat.le_of_ble_eq_true rfl, Nat.le_of_ble_eq_true rfl, Nat.le_of_ble_eq_true rfl⟩ hlocks (fun t ht => ⟨rfl, ht⟩)

set_option maxHeartbeats 400000 in
set_option maxRecDepth 100000 in
theorem c_J6_bitCount_0f7a4 (l : Launch) (z : Int) (h1 : mRI z) : mP l yJ6_bitCount_0f7a4 wsJ6_bitCount_0f7a4 ({ frames := 0, cells := 0, slots := 0, locals := 0 }) [.int (mI (z))] (fun _ => True) (some (.int (mI (mPop z 32)))) := by
  refine mw_open (cc := cJ6_bitCount_0f7a4) (maxL := 1) (ret := (some .int)) (by decide +kernel) rfl (Nat.le_of_ble_eq_true rfl) ?_
  intro p e s m below meth c ls hC hr hlocks hB hl
  obtain ⟨hx, hb, hml, hown, hts⟩ := id hC
  have hl : lv_has ls 1 [(0, .int (mI (z)))] := hl
  refine lv_iload_n hx hb dJ6_bitCount_0f7a4_0 rfl (lv_at hl 0 rfl) ?_
  refine lv_iload_n hx hb dJ6_bitCount_0f7a4_1 rfl (lv_at hl 0 rfl) ?_
  refine mw_iconst hx hb dJ6_bitCount_0f7a4_2 ?_
  refine mw_iushr hx hb dJ6_bitCount_0f7a4_3 ?_
  refine mw_ldcw hx hb (1431655765) (by decide +kernel) hown (hts (.constant RJ6 265 (1431655765)) (by decide +kernel)) dJ6_bitCount_0f7a4_4 ?_
  refine mw_iand hx hb dJ6_bitCount_0f7a4_7 ?_
  refine mw_isub hx hb dJ6_bitCount_0f7a4_8 ?_
  refine mw_namei (fun x1 e_x1 => ?_)
  refine lv_istore_n (lv' := [(0, .int (mI (x1)))]) hx hb dJ6_bitCount_0f7a4_9 rfl hl (by decide) rfl (fun ls hl => ?_)
  refine lv_iload_n hx hb dJ6_bitCount_0f7a4_10 rfl (lv_at hl 0 rfl) ?_
  refine mw_ldcw hx hb (858993459) (by decide +kernel) hown (hts (.constant RJ6 266 (858993459)) (by decide +kernel)) dJ6_bitCount_0f7a4_11 ?_
  refine mw_iand hx hb dJ6_bitCount_0f7a4_14 ?_
  refine lv_iload_n hx hb dJ6_bitCount_0f7a4_15 rfl (lv_at hl 0 rfl) ?_
  refine mw_iconst hx hb dJ6_bitCount_0f7a4_16 ?_
  refine mw_iushr hx hb dJ6_bitCount_0f7a4_17 ?_
  refine mw_ldcw hx hb (858993459) (by decide +kernel) hown (hts (.constant RJ6 266 (858993459)) (by decide +kernel)) dJ6_bitCount_0f7a4_18 ?_
  refine mw_iand hx hb dJ6_bitCount_0f7a4_21 ?_
  refine mw_iadd hx hb dJ6_bitCount_0f7a4_22 ?_
  refine mw_namei (fun x2 e_x2 => ?_)
  refine lv_istore_n (lv' := [(0, .int (mI (x2)))]) hx hb dJ6_bitCount_0f7a4_23 rfl hl (by decide) rfl (fun ls hl => ?_)
  refine lv_iload_n hx hb dJ6_bitCount_0f7a4_24 rfl (lv_at hl 0 rfl) ?_
  refine lv_iload_n hx hb dJ6_bitCount_0f7a4_25 rfl (lv_at hl 0 rfl) ?_
  refine mw_iconst hx hb dJ6_bitCount_0f7a4_26 ?_
  refine mw_iushr hx hb dJ6_bitCount_0f7a4_27 ?_
  refine mw_iadd hx hb dJ6_bitCount_0f7a4_28 ?_
  refine mw_ldcw hx hb (252645135) (by decide +kernel) hown (hts (.constant RJ6 267 (252645135)) (by decide +kernel)) dJ6_bitCount_0f7a4_29 ?_
  refine mw_iand hx hb dJ6_bitCount_0f7a4_32 ?_
  refine mw_namei (fun x3 e_x3 => ?_)
  refine lv_istore_n (lv' := [(0, .int (mI (x3)))]) hx hb dJ6_bitCount_0f7a4_33 rfl hl (by decide) rfl (fun ls hl => ?_)
  refine lv_iload_n hx hb dJ6_bitCount_0f7a4_34 rfl (lv_at hl 0 rfl) ?_
  refine lv_iload_n hx hb dJ6_bitCount_0f7a4_35 rfl (lv_at hl 0 rfl) ?_
  refine mw_bipush hx hb (by decide +kernel) dJ6_bitCount_0f7a4_36 ?_
  refine mw_iushr hx hb dJ6_bitCount_0f7a4_38 ?_
  refine mw_iadd hx hb dJ6_bitCount_0f7a4_39 ?_
  refine mw_namei (fun x4 e_x4 => ?_)
  refine lv_istore_n (lv' := [(0, .int (mI (x4)))]) hx hb dJ6_bitCount_0f7a4_40 rfl hl (by decide) rfl (fun ls hl => ?_)
  refine lv_iload_n hx hb dJ6_bitCount_0f7a4_41 rfl (lv_at hl 0 rfl) ?_
  refine lv_iload_n hx hb dJ6_bitCount_0f7a4_42 rfl (lv_at hl 0 rfl) ?_
  refine mw_bipush hx hb (by decide +kernel) dJ6_bitCount_0f7a4_43 ?_
  refine mw_iushr hx hb dJ6_bitCount_0f7a4_45 ?_
  refine mw_iadd hx hb dJ6_bitCount_0f7a4_46 ?_
  refine mw_namei (fun x5 e_x5 => ?_)
  refine lv_istore_n (lv' := [(0, .int (mI (x5)))]) hx hb dJ6_bitCount_0f7a4_47 rfl hl (by decide) rfl (fun ls hl => ?_)
  refine lv_iload_n hx hb dJ6_bitCount_0f7a4_48 rfl (lv_at hl 0 rfl) ?_
  refine mw_bipush hx hb (by decide +kernel) dJ6_bitCount_0f7a4_49 ?_
  refine mw_iand hx hb dJ6_bitCount_0f7a4_51 ?_
  exact mw_retI hx hb hr hlocks dJ6_bitCount_0f7a4_52 (m_bitCount e_x1 e_x2 e_x3 e_x4 e_x5)

set_option maxHeartbeats 400000 in
set_option maxRecDepth 100000 in
theorem c_X0_checkMeetingSet (l : Launch) (D : va_G) (h0 a1 a2 : Nat) (cA cJ : ClassId) (v : Nat → Int) (L P : Int → Int) (z : Int) (h1 : mRI z) (h2 : 1 ≤ mPop z 32 ∧ mPop z 32 ≤ 5) (h3 : mUsh z (v 0) = 0) : mP l yX0_checkMeetingSet wsX0_checkMeetingSet ({ frames := 1, cells := 0, slots := 0, locals := 22 }) [.ref h0, .int (mI (z))] (mwB D (mXW h0 a1 a2 cA v L P) (mTy cA cJ)) (none) := by
  refine mw_open (cc := cX0_checkMeetingSet) (maxL := 2) (ret := none) (by decide +kernel) rfl (Nat.le_of_ble_eq_true rfl) ?_
  intro p e s m below meth c ls hC hr hlocks hB hl
  obtain ⟨hx, hb, hml, hown, hts⟩ := id hC
  obtain ⟨hP, hK⟩ := hB
  have hl : lv_has ls 2 [(0, .ref h0), (1, .int (mI (z)))] := hl
  have q1 := mPop_r z 32
  refine lv_iload_n hx hb dX0_checkMeetingSet_0 rfl (lv_at hl 1 rfl) ?_
  refine mw_cSi (rest := []) hC (c_J6_bitCount_0f7a4 l z (by omega)) (va_cwS 1 hts gX0_checkMeetingSet_J6_bitCount_0f7a4 rfl rfl rfl (by decide +kernel) ⟨Nat.le_of_ble_eq_true rfl, Nat.le_of_ble_eq_true rfl⟩) rfl hl.1 rfl (Nat.le_of_ble_eq_true rfl) ⟨Nat.zero_le _, Nat.zero_le _⟩ dX0_checkMeetingSet_1 ?_
  refine mw_iconst hx hb dX0_checkMeetingSet_4 ?_
  refine mw_iconst hx hb dX0_checkMeetingSet_5 ?_
  refine mw_cSi (rest := []) hC (c_X0_isWithin l (mPop z 32) 1 5 (by omega) (by omega) (by omega)) (va_cwS 3 hts gX0_checkMeetingSet_X0_isWithin rfl rfl rfl (by decide +kernel) ⟨Nat.le_of_ble_eq_true rfl, Nat.le_of_ble_eq_true rfl⟩) rfl hl.1 rfl (Nat.le_of_ble_eq_true rfl) ⟨Nat.zero_le _, Nat.zero_le _⟩ dX0_checkMeetingSet_6 ?_
  refine mw_topi (y := 1) (mB_t (by omega)) ?_
  refine mw_cSv (rest := []) hC (c_X0_checkArgument l) (va_cwS 1 hts gX0_checkMeetingSet_X0_checkArgument rfl rfl rfl (by decide +kernel) ⟨Nat.le_of_ble_eq_true rfl, Nat.le_of_ble_eq_true rfl⟩) rfl hl.1 rfl (Nat.le_of_ble_eq_true rfl) ⟨Nat.zero_le _, Nat.zero_le _⟩ dX0_checkMeetingSet_9 ?_
  refine lv_aload_n hx hb dX0_checkMeetingSet_12 rfl (lv_at hl 0 rfl) ?_
  refine lv_iload_n hx hb dX0_checkMeetingSet_13 rfl (lv_at hl 1 rfl) ?_
  refine mw_cVv (rest := []) (q := (RX0, TX0, 10)) hC (c_X0_checkMarkets l D h0 a1 a2 cA cJ v L P z (by omega)) (cwV 1 hts gX0_checkMeetingSet_X0_checkMarkets rfl rfl rfl (by decide +kernel) ⟨Nat.le_of_ble_eq_true rfl, Nat.le_of_ble_eq_true rfl⟩) hK hP rfl rfl rfl hl.1 rfl (Nat.le_of_ble_eq_true rfl) ⟨Nat.zero_le _, Nat.zero_le _⟩ dX0_checkMeetingSet_14 ?_
  exact mw_retV hx hb hr hlocks dX0_checkMeetingSet_17

set_option maxHeartbeats 400000 in
set_option maxRecDepth 100000 in
theorem t_X0_checkMeetingSet_t1 (l : Launch) (hfl : l.flags = flags0) (D : va_G) (h0 a1 a2 : Nat) (cA cJ : ClassId) (v : Nat → Int) (L P : Int → Int) (z : Int) (h1 : mRI z) (h2 : ¬ (1 ≤ mPop z 32 ∧ mPop z 32 ≤ 5))  : mT l yX0_checkMeetingSet wsX0_checkMeetingSet ({ frames := 7, cells := 1, slots := 6, locals := 110 }) [.ref h0, .int (mI (z))] (mwB D (mXW h0 a1 a2 cA v L P) (mTy cA cJ)) "java/lang/IllegalArgumentException" := by
  refine mw_openX (cc := cX0_checkMeetingSet) (maxL := 2) (ret := none) (by decide) rfl (Nat.le_of_ble_eq_true rfl) ?_
  intro p e s m below meth c ls hC hr hlocks hout hB hE hl
  obtain ⟨hx, hb, hml, hown, hts⟩ := id hC
  obtain ⟨hP, hK⟩ := hB
  have hl : lv_has ls 2 [(0, .ref h0), (1, .int (mI (z)))] := hl
  have q1 := mPop_r z 32
  refine lv_iload_n hx hb dX0_checkMeetingSet_0 rfl (lv_at hl 1 rfl) ?_
  refine mw_cSi (rest := []) hC (c_J6_bitCount_0f7a4 l z (by omega)) (va_cwS 1 hts gX0_checkMeetingSet_J6_bitCount_0f7a4 rfl rfl rfl (by decide +kernel) ⟨Nat.le_of_ble_eq_true rfl, Nat.le_of_ble_eq_true rfl⟩) rfl hl.1 rfl (Nat.le_of_ble_eq_true rfl) ⟨Nat.zero_le _, Nat.zero_le _⟩ dX0_checkMeetingSet_1 ?_
  refine mw_iconst hx hb dX0_checkMeetingSet_4 ?_
  refine mw_iconst hx hb dX0_checkMeetingSet_5 ?_
  refine mw_cSi (rest := []) hC (c_X0_isWithin l (mPop z 32) 1 5 (by omega) (by omega) (by omega)) (va_cwS 3 hts gX0_checkMeetingSet_X0_isWithin rfl rfl rfl (by decide +kernel) ⟨Nat.le_of_ble_eq_true rfl, Nat.le_of_ble_eq_true rfl⟩) rfl hl.1 rfl (Nat.le_of_ble_eq_true rfl) ⟨Nat.zero_le _, Nat.zero_le _⟩ dX0_checkMeetingSet_6 ?_
  refine mw_topi (y := 0) (mB_f (by omega)) ?_
  exact mw_tS (rest := []) hC (t_X0_checkArgument_t l hfl) hE (va_cwS 1 hts gX0_checkMeetingSet_X0_checkArgument rfl rfl rfl (by decide +kernel) ⟨Nat.le_of_ble_eq_true rfl, Nat.le_of_ble_eq_true rfl⟩) rfl hl.1 rfl (Nat.le_of_ble_eq_true rfl) ⟨Nat.le_of_ble_eq_true rfl, Nat.le_of_ble_eq_true rfl⟩ hout hlocks dX0_checkMeetingSet_9 (fun t ht => ⟨rfl, ht⟩)

set_option maxHeartbeats 400000 in
set_option maxRecDepth 100000 in
theorem t_X0_checkMeetingSet_t2 (l : Launch) (hfl : l.flags = flags0) (D : va_G) (h0 a1 a2 : Nat) (cA cJ : ClassId) (v : Nat → Int) (L P : Int → Int) (z : Int) (h1 : mRI z) (h2 : 1 ≤ mPop z 32 ∧ mPop z 32 ≤ 5) (h3 : ¬ mUsh z (v 0) = 0)  : mT l yX0_checkMeetingSet wsX0_checkMeetingSet ({ frames := 7, cells := 1, slots := 6, locals := 111 }) [.ref h0, .int (mI (z))] (mwB D (mXW h0 a1 a2 cA v L P) (mTy cA cJ)) "java/lang/IndexOutOfBoundsException" := by
  refine mw_openX (cc := cX0_checkMeetingSet) (maxL := 2) (ret := none) (by decide) rfl (Nat.le_of_ble_eq_true rfl) ?_
  intro p e s m below meth c ls hC hr hlocks hout hB hE hl
  obtain ⟨hx, hb, hml, hown, hts⟩ := id hC
  obtain ⟨hP, hK⟩ := hB
  have hl : lv_has ls 2 [(0, .ref h0), (1, .int (mI (z)))] := hl
  have q1 := mPop_r z 32
  refine lv_iload_n hx hb dX0_checkMeetingSet_0 rfl (lv_at hl 1 rfl) ?_
  refine mw_cSi (rest := []) hC (c_J6_bitCount_0f7a4 l z (by omega)) (va_cwS 1 hts gX0_checkMeetingSet_J6_bitCount_0f7a4 rfl rfl rfl (by decide +kernel) ⟨Nat.le_of_ble_eq_true rfl, Nat.le_of_ble_eq_true rfl⟩) rfl hl.1 rfl (Nat.le_of_ble_eq_true rfl) ⟨Nat.zero_le _, Nat.zero_le _⟩ dX0_checkMeetingSet_1 ?_
  refine mw_iconst hx hb dX0_checkMeetingSet_4 ?_
  refine mw_iconst hx hb dX0_checkMeetingSet_5 ?_
  refine mw_cSi (rest := []) hC (c_X0_isWithin l (mPop z 32) 1 5 (by omega) (by omega) (by omega)) (va_cwS 3 hts gX0_checkMeetingSet_X0_isWithin rfl rfl rfl (by decide +kernel) ⟨Nat.le_of_ble_eq_true rfl, Nat.le_of_ble_eq_true rfl⟩) rfl hl.1 rfl (Nat.le_of_ble_eq_true rfl) ⟨Nat.zero_le _, Nat.zero_le _⟩ dX0_checkMeetingSet_6 ?_
  refine mw_topi (y := 1) (mB_t (by omega)) ?_
  refine mw_cSv (rest := []) hC (c_X0_checkArgument l) (va_cwS 1 hts gX0_checkMeetingSet_X0_checkArgument rfl rfl rfl (by decide +kernel) ⟨Nat.le_of_ble_eq_true rfl, Nat.le_of_ble_eq_true rfl⟩) rfl hl.1 rfl (Nat.le_of_ble_eq_true rfl) ⟨Nat.zero_le _, Nat.zero_le _⟩ dX0_checkMeetingSet_9 ?_
  refine lv_aload_n hx hb dX0_checkMeetingSet_12 rfl (lv_at hl 0 rfl) ?_
  refine lv_iload_n hx hb dX0_checkMeetingSet_13 rfl (lv_at hl 1 rfl) ?_
  exact mw_tV (rest := []) (q := (RX0, TX0, 10)) hC (t_X0_checkMarkets_t l hfl D h0 a1 a2 cA cJ v L P z (by omega)) hE (cwV 1 hts gX0_checkMeetingSet_X0_checkMarkets rfl rfl rfl (by decide +kernel) ⟨Nat.le_of_ble_eq_true rfl, Nat.le_of_ble_eq_true rfl⟩) hK hP rfl rfl rfl hl.1 rfl (Nat.le_of_ble_eq_true rfl) ⟨Nat.le_of_ble_eq_true rfl, Nat.le_of_ble_eq_true rfl⟩ hout hlocks dX0_checkMeetingSet_14 (fun t ht => ⟨rfl, ht⟩)
