set_option maxHeartbeats 400000 in
set_option maxRecDepth 100000 in
theorem k_addMarket (l : Launch) (hfl : l.flags = flags0) (D : va_G) (h0 a1 a2 : Nat) (cA cJ : ClassId) (v : Nat → Int) (L P : Int → Int) (a b : Int) (ha : mRI a) (hb9 : mRI b) (hok : mOK v L P) (hdis : mDis h0 a1 a2) : mG l yL_addMarket wsL_addMarket ({ frames := 8, cells := mC (mEx2 ((1 ≤ a ∧ a ≤ 60) ∧ 0 ≤ b ∧ b ≤ a - 1) (v 0 < 16)), slots := 6 * mC (mEx2 ((1 ≤ a ∧ a ≤ 60) ∧ 0 ≤ b ∧ b ≤ a - 1) (v 0 < 16)), locals := 133 }) [.ref h0, .int (mI (a)), .int (mI (b))] D (mXW h0 a1 a2 cA v L P) (mTy cA cJ) (mK4 (mEx2 ((1 ≤ a ∧ a ≤ 60) ∧ 0 ≤ b ∧ b ≤ a - 1) (v 0 < 16)) (v 0) (-99999) (-99999) (-99999)) (if (mEx2 ((1 ≤ a ∧ a ≤ 60) ∧ 0 ≤ b ∧ b ≤ a - 1) (v 0 < 16)) = 0 then 0 else 1) (mXW h0 a1 a2 cA (mIf (mEx2 ((1 ≤ a ∧ a ≤ 60) ∧ 0 ≤ b ∧ b ≤ a - 1) (v 0 < 16)) (mPut v 0 (v 0 + 1)) v) (mIf (mEx2 ((1 ≤ a ∧ a ≤ 60) ∧ 0 ≤ b ∧ b ≤ a - 1) (v 0 < 16)) (mU L (v 0) a) L) (mIf (mEx2 ((1 ≤ a ∧ a ≤ 60) ∧ 0 ≤ b ∧ b ≤ a - 1) (v 0 < 16)) (mU P (v 0) b) P)) (mA3 h0 a1 a2) (mC (mEx2 ((1 ≤ a ∧ a ≤ 60) ∧ 0 ≤ b ∧ b ≤ a - 1) (v 0 < 16))) (6 * mC (mEx2 ((1 ≤ a ∧ a ≤ 60) ∧ 0 ≤ b ∧ b ≤ a - 1) (v 0 < 16))) := by
  refine mw_openK (cc := cL_addMarket) (maxL := 4) (ret := (some .int)) (hh := [(0, 6, 7, 14), (0, 6, 11, 17)]) (by decide) rfl (Nat.le_of_ble_eq_true rfl) ?_
  intro p e s m below meth c ls hC hr hlocks htab hB hE hN hl
  obtain ⟨hx, hb, hml, hown, hts⟩ := id hC
  obtain ⟨hP, hK⟩ := hB
  have hl : lv_has ls 4 [(0, .ref h0), (1, .int (mI (a))), (2, .int (mI (b)))] := hl
  refine lv_aload_n hx hb dL_addMarket_0 rfl (lv_at hl 0 rfl) ?_
  refine lv_iload_n hx hb dL_addMarket_1 rfl (lv_at hl 1 rfl) ?_
  refine lv_iload_n hx hb dL_addMarket_2 rfl (lv_at hl 2 rfl) ?_
  refine mw_cX (rest := []) (A0 := (mA3 h0 a1 a2)) hC (x_X0_addMarket l hfl D h0 a1 a2 cA cJ v L P a b ha hb9 hok hdis) hE (cwV 2 hts gL_addMarket_X0_addMarket rfl rfl rfl (by decide +kernel) ⟨Nat.le_of_ble_eq_true rfl, Nat.le_of_ble_eq_true rfl⟩) hK hP (fun _ h => h) rfl rfl hl.1 rfl (Nat.le_of_ble_eq_true rfl) ⟨Nat.le_refl _, Nat.le_refl _⟩ dL_addMarket_3 (fun H1 locs1 hex hP1 hS hk => ?_) (fun E ce q9 H1 locs1 k hexk hes hk hS hg hce hcv hcl => ?_)
  · have hP2 : va_P D vwCl (mXW h0 a1 a2 cA (mIf (mEx2 ((1 ≤ a ∧ a ≤ 60) ∧ 0 ≤ b ∧ b ≤ a - 1) (v 0 < 16)) (mPut v 0 (v 0 + 1)) v) (mIf (mEx2 ((1 ≤ a ∧ a ≤ 60) ∧ 0 ≤ b ∧ b ≤ a - 1) (v 0 < 16)) (mU L (v 0) a) L) (mIf (mEx2 ((1 ≤ a ∧ a ≤ 60) ∧ 0 ≤ b ∧ b ≤ a - 1) (v 0 < 16)) (mU P (v 0) b) P)) H1 := by rw [mIf_0 hex, mIf_0 hex, mIf_0 hex]; exact hP1
    refine W.eq (g2 := F0 m 6 ls [.int (mI (v 0))]) rfl ?_
    exact mw_gret hx hb hr hlocks dL_addMarket_6 (by unfold mK4; rw [if_pos hex]) (by rw [if_pos hex]; exact hS.1) hP2 hS ⟨Nat.le_of_eq (Nat.zero_add _), Nat.le_of_eq (Nat.zero_add _)⟩
  · have hP2 : va_P D vwCl (mXW h0 a1 a2 cA (mIf (mEx2 ((1 ≤ a ∧ a ≤ 60) ∧ 0 ≤ b ∧ b ≤ a - 1) (v 0 < 16)) (mPut v 0 (v 0 + 1)) v) (mIf (mEx2 ((1 ≤ a ∧ a ≤ 60) ∧ 0 ≤ b ∧ b ≤ a - 1) (v 0 < 16)) (mU L (v 0) a) L) (mIf (mEx2 ((1 ≤ a ∧ a ≤ 60) ∧ 0 ≤ b ∧ b ≤ a - 1) (v 0 < 16)) (mU P (v 0) b) P)) H1 := by rw [mIf_1 (by omega), mIf_1 (by omega), mIf_1 (by omega)]; exact mw_keepP hP hk
    match k, hexk, hes with
    | 0, hexk, hes =>
      cases hes
      refine vx_catch (own := RL) (name := mEA) (E := mEA) hown [] ⟨0, 6, 7, 14⟩ [⟨0, 6, 11, 17⟩] htab (fun z hz => nomatch hz) (by decide) (by decide) (hts (.classLink RL 14 mEA) (by decide +kernel)) (va_Nw.use rfl hE.1.2.2.2.2.2.1) hce hcv hcl ?_
      refine lv_astore_n (lv' := [(3, .ref q9), (0, .ref h0), (1, .int (mI (a))), (2, .int (mI (b)))]) hx hb dL_addMarket_7 rfl hl (by decide) rfl (fun ls hl => ?_)
      refine mw_ldc hx hb (-99999) (by decide +kernel) hown (hts (.constant RL 16 (-99999)) (by decide +kernel)) dL_addMarket_8 ?_
      exact mw_gret hx hb hr hlocks dL_addMarket_10 (by unfold mK4; rw [if_neg (by omega), if_pos (by omega)]) (by rw [if_neg (by omega)]; exact hg) hP2 hS ⟨Nat.le_of_eq (Nat.zero_add _), Nat.le_of_eq (Nat.zero_add _)⟩
    | 1, hexk, hes =>
      cases hes
      refine vx_catch (own := RL) (name := mES) (E := mES) hown [⟨0, 6, 7, 14⟩] ⟨0, 6, 11, 17⟩ [] htab (fun z hz => by
        cases List.mem_singleton.mp hz; exact Or.inr ⟨by decide, mEA, hts (.classLink RL 14 mEA) (by decide +kernel), hN.2.2.1⟩) (by decide) (by decide) (hts (.classLink RL 17 mES) (by decide +kernel)) (va_Nw.use rfl hE.1.2.2.2.2.2.2.1) hce hcv hcl ?_
      refine lv_astore_n (lv' := [(3, .ref q9), (0, .ref h0), (1, .int (mI (a))), (2, .int (mI (b)))]) hx hb dL_addMarket_11 rfl hl (by decide) rfl (fun ls hl => ?_)
      refine mw_ldc hx hb (-99999) (by decide +kernel) hown (hts (.constant RL 16 (-99999)) (by decide +kernel)) dL_addMarket_12 ?_
      exact mw_gret hx hb hr hlocks dL_addMarket_14 (by unfold mK4; rw [if_neg (by omega), if_neg (by omega), if_pos (by omega)]) (by rw [if_neg (by omega)]; exact hg) hP2 hS ⟨Nat.le_of_eq (Nat.zero_add _), Nat.le_of_eq (Nat.zero_add _)⟩
    | k + 2, hexk, hes => simp at hes

set_option maxHeartbeats 400000 in
set_option maxRecDepth 100000 in
theorem k_shift (l : Launch) (hfl : l.flags = flags0) (D : va_G) (h0 a1 a2 : Nat) (cA cJ : ClassId) (v : Nat → Int) (L P : Int → Int) (m9 b : Int) (hm9 : mRI m9) (hb9 : mRI b) (hok : mOK v L P) (hdis : mDis h0 a1 a2) : mG l yL_shift wsL_shift ({ frames := 8, cells := mC (mEx2 (mMk v m9) (-60 ≤ b ∧ b ≤ 60)), slots := 6 * mC (mEx2 (mMk v m9) (-60 ≤ b ∧ b ≤ 60)), locals := 134 }) [.ref h0, .int (mI (m9)), .int (mI (b))] D (mXW h0 a1 a2 cA v L P) (mTy cA cJ) (mK4 (mEx2 (mMk v m9) (-60 ≤ b ∧ b ≤ 60)) ((P m9 + b) % L m9) (-99999) (-99999) (-99999)) (if (mEx2 (mMk v m9) (-60 ≤ b ∧ b ≤ 60)) = 0 then 0 else 1) (mXW h0 a1 a2 cA (mIf (mEx2 (mMk v m9) (-60 ≤ b ∧ b ≤ 60)) v v) (mIf (mEx2 (mMk v m9) (-60 ≤ b ∧ b ≤ 60)) L L) (mIf (mEx2 (mMk v m9) (-60 ≤ b ∧ b ≤ 60)) (mU P m9 ((P m9 + b) % L m9)) P)) (mA3 h0 a1 a2) (mC (mEx2 (mMk v m9) (-60 ≤ b ∧ b ≤ 60))) (6 * mC (mEx2 (mMk v m9) (-60 ≤ b ∧ b ≤ 60))) := by
  refine mw_openK (cc := cL_shift) (maxL := 4) (ret := (some .int)) (hh := [(0, 6, 7, 22), (0, 6, 11, 14)]) (by decide) rfl (Nat.le_of_ble_eq_true rfl) ?_
  intro p e s m below meth c ls hC hr hlocks htab hB hE hN hl
  obtain ⟨hx, hb, hml, hown, hts⟩ := id hC
  obtain ⟨hP, hK⟩ := hB
  have hl : lv_has ls 4 [(0, .ref h0), (1, .int (mI (m9))), (2, .int (mI (b)))] := hl
  refine lv_aload_n hx hb dL_shift_0 rfl (lv_at hl 0 rfl) ?_
  refine lv_iload_n hx hb dL_shift_1 rfl (lv_at hl 1 rfl) ?_
  refine lv_iload_n hx hb dL_shift_2 rfl (lv_at hl 2 rfl) ?_
  refine mw_cX (rest := []) (A0 := (mA3 h0 a1 a2)) hC (x_X0_shift l hfl D h0 a1 a2 cA cJ v L P m9 b hm9 hb9 hok hdis) hE (cwV 2 hts gL_shift_X0_shift rfl rfl rfl (by decide +kernel) ⟨Nat.le_of_ble_eq_true rfl, Nat.le_of_ble_eq_true rfl⟩) hK hP (fun _ h => h) rfl rfl hl.1 rfl (Nat.le_of_ble_eq_true rfl) ⟨Nat.le_refl _, Nat.le_refl _⟩ dL_shift_3 (fun H1 locs1 hex hP1 hS hk => ?_) (fun E ce q9 H1 locs1 k hexk hes hk hS hg hce hcv hcl => ?_)
  · have hP2 : va_P D vwCl (mXW h0 a1 a2 cA (mIf (mEx2 (mMk v m9) (-60 ≤ b ∧ b ≤ 60)) v v) (mIf (mEx2 (mMk v m9) (-60 ≤ b ∧ b ≤ 60)) L L) (mIf (mEx2 (mMk v m9) (-60 ≤ b ∧ b ≤ 60)) (mU P m9 ((P m9 + b) % L m9)) P)) H1 := by rw [mIf_0 hex, mIf_0 hex, mIf_0 hex]; exact hP1
    refine W.eq (g2 := F0 m 6 ls [.int (mI ((P m9 + b) % L m9))]) rfl ?_
    exact mw_gret hx hb hr hlocks dL_shift_6 (by unfold mK4; rw [if_pos hex]) (by rw [if_pos hex]; exact hS.1) hP2 hS ⟨Nat.le_of_eq (Nat.zero_add _), Nat.le_of_eq (Nat.zero_add _)⟩
  · have hP2 : va_P D vwCl (mXW h0 a1 a2 cA (mIf (mEx2 (mMk v m9) (-60 ≤ b ∧ b ≤ 60)) v v) (mIf (mEx2 (mMk v m9) (-60 ≤ b ∧ b ≤ 60)) L L) (mIf (mEx2 (mMk v m9) (-60 ≤ b ∧ b ≤ 60)) (mU P m9 ((P m9 + b) % L m9)) P)) H1 := by rw [mIf_1 (by omega), mIf_1 (by omega), mIf_1 (by omega)]; exact mw_keepP hP hk
    match k, hexk, hes with
    | 0, hexk, hes =>
      cases hes
      refine vx_catch (own := RL) (name := mEI) (E := mEI) hown [] ⟨0, 6, 7, 22⟩ [⟨0, 6, 11, 14⟩] htab (fun z hz => nomatch hz) (by decide) (by decide) (hts (.classLink RL 22 mEI) (by decide +kernel)) (va_Nw.use rfl hE.1.2.2.2.2.2.2.2.1) hce hcv hcl ?_
      refine lv_astore_n (lv' := [(3, .ref q9), (0, .ref h0), (1, .int (mI (m9))), (2, .int (mI (b)))]) hx hb dL_shift_7 rfl hl (by decide) rfl (fun ls hl => ?_)
      refine mw_ldc hx hb (-99999) (by decide +kernel) hown (hts (.constant RL 16 (-99999)) (by decide +kernel)) dL_shift_8 ?_
      exact mw_gret hx hb hr hlocks dL_shift_10 (by unfold mK4; rw [if_neg (by omega), if_pos (by omega)]) (by rw [if_neg (by omega)]; exact hg) hP2 hS ⟨Nat.le_of_eq (Nat.zero_add _), Nat.le_of_eq (Nat.zero_add _)⟩
    | 1, hexk, hes =>
      cases hes
      refine vx_catch (own := RL) (name := mEA) (E := mEA) hown [⟨0, 6, 7, 22⟩] ⟨0, 6, 11, 14⟩ [] htab (fun z hz => by
        cases List.mem_singleton.mp hz; exact Or.inr ⟨by decide, mEI, hts (.classLink RL 22 mEI) (by decide +kernel), hN.2.1⟩) (by decide) (by decide) (hts (.classLink RL 14 mEA) (by decide +kernel)) (va_Nw.use rfl hE.1.2.2.2.2.2.1) hce hcv hcl ?_
      refine lv_astore_n (lv' := [(3, .ref q9), (0, .ref h0), (1, .int (mI (m9))), (2, .int (mI (b)))]) hx hb dL_shift_11 rfl hl (by decide) rfl (fun ls hl => ?_)
      refine mw_ldc hx hb (-99999) (by decide +kernel) hown (hts (.constant RL 16 (-99999)) (by decide +kernel)) dL_shift_12 ?_
      exact mw_gret hx hb hr hlocks dL_shift_14 (by unfold mK4; rw [if_neg (by omega), if_neg (by omega), if_pos (by omega)]) (by rw [if_neg (by omega)]; exact hg) hP2 hS ⟨Nat.le_of_eq (Nat.zero_add _), Nat.le_of_eq (Nat.zero_add _)⟩
    | k + 2, hexk, hes => simp at hes

set_option maxHeartbeats 400000 in
set_option maxRecDepth 100000 in
theorem k_setMoon (l : Launch) (hfl : l.flags = flags0) (D : va_G) (h0 a1 a2 : Nat) (cA cJ : ClassId) (v : Nat → Int) (L P : Int → Int) (n d s9 : Int) (hn : mRI n) (hd9 : mRI d) (hs9 : mRI s9) (hok : mOK v L P) (hdis : mDis h0 a1 a2) : mG l yL_setMoon wsL_setMoon ({ frames := 8, cells := mC (mEx1 ((1 ≤ d ∧ d ≤ 100) ∧ (2 * d ≤ n ∧ n ≤ 100 * d) ∧ -1000 ≤ s9 ∧ s9 ≤ 1000)), slots := 6 * mC (mEx1 ((1 ≤ d ∧ d ≤ 100) ∧ (2 * d ≤ n ∧ n ≤ 100 * d) ∧ -1000 ≤ s9 ∧ s9 ≤ 1000)), locals := 133 }) [.ref h0, .int (mI (n)), .int (mI (d)), .int (mI (s9))] D (mXW h0 a1 a2 cA v L P) (mTy cA cJ) (mK4 (mEx1 ((1 ≤ d ∧ d ≤ 100) ∧ (2 * d ≤ n ∧ n ≤ 100 * d) ∧ -1000 ≤ s9 ∧ s9 ≤ 1000)) (0) (-99999) (-99999) (-99999)) (if (mEx1 ((1 ≤ d ∧ d ≤ 100) ∧ (2 * d ≤ n ∧ n ≤ 100 * d) ∧ -1000 ≤ s9 ∧ s9 ≤ 1000)) = 0 then 0 else 1) (mXW h0 a1 a2 cA (mIf (mEx1 ((1 ≤ d ∧ d ≤ 100) ∧ (2 * d ≤ n ∧ n ≤ 100 * d) ∧ -1000 ≤ s9 ∧ s9 ≤ 1000)) (mPut (mPut (mPut v 1 n) 2 d) 3 s9) v) (mIf (mEx1 ((1 ≤ d ∧ d ≤ 100) ∧ (2 * d ≤ n ∧ n ≤ 100 * d) ∧ -1000 ≤ s9 ∧ s9 ≤ 1000)) L L) (mIf (mEx1 ((1 ≤ d ∧ d ≤ 100) ∧ (2 * d ≤ n ∧ n ≤ 100 * d) ∧ -1000 ≤ s9 ∧ s9 ≤ 1000)) P P)) (mA3 h0 a1 a2) (mC (mEx1 ((1 ≤ d ∧ d ≤ 100) ∧ (2 * d ≤ n ∧ n ≤ 100 * d) ∧ -1000 ≤ s9 ∧ s9 ≤ 1000))) (6 * mC (mEx1 ((1 ≤ d ∧ d ≤ 100) ∧ (2 * d ≤ n ∧ n ≤ 100 * d) ∧ -1000 ≤ s9 ∧ s9 ≤ 1000))) := by
  refine mw_openK (cc := cL_setMoon) (maxL := 5) (ret := (some .int)) (hh := [(0, 8, 9, 14)]) (by decide) rfl (Nat.le_of_ble_eq_true rfl) ?_
  intro p e s m below meth c ls hC hr hlocks htab hB hE hN hl
  obtain ⟨hx, hb, hml, hown, hts⟩ := id hC
  obtain ⟨hP, hK⟩ := hB
  have hl : lv_has ls 5 [(0, .ref h0), (1, .int (mI (n))), (2, .int (mI (d))), (3, .int (mI (s9)))] := hl
  refine lv_aload_n hx hb dL_setMoon_0 rfl (lv_at hl 0 rfl) ?_
  refine lv_iload_n hx hb dL_setMoon_1 rfl (lv_at hl 1 rfl) ?_
  refine lv_iload_n hx hb dL_setMoon_2 rfl (lv_at hl 2 rfl) ?_
  refine lv_iload_n hx hb dL_setMoon_3 rfl (lv_at hl 3 rfl) ?_
  refine mw_cX (rest := []) (A0 := (mA3 h0 a1 a2)) hC (x_X0_setMoon l hfl D h0 a1 a2 cA cJ v L P n d s9 hn hd9 hs9 hok hdis) hE (cwV 3 hts gL_setMoon_X0_setMoon rfl rfl rfl (by decide +kernel) ⟨Nat.le_of_ble_eq_true rfl, Nat.le_of_ble_eq_true rfl⟩) hK hP (fun _ h => h) rfl rfl hl.1 rfl (Nat.le_of_ble_eq_true rfl) ⟨Nat.le_refl _, Nat.le_refl _⟩ dL_setMoon_4 (fun H1 locs1 hex hP1 hS hk => ?_) (fun E ce q9 H1 locs1 k hexk hes hk hS hg hce hcv hcl => ?_)
  · have hP2 : va_P D vwCl (mXW h0 a1 a2 cA (mIf (mEx1 ((1 ≤ d ∧ d ≤ 100) ∧ (2 * d ≤ n ∧ n ≤ 100 * d) ∧ -1000 ≤ s9 ∧ s9 ≤ 1000)) (mPut (mPut (mPut v 1 n) 2 d) 3 s9) v) (mIf (mEx1 ((1 ≤ d ∧ d ≤ 100) ∧ (2 * d ≤ n ∧ n ≤ 100 * d) ∧ -1000 ≤ s9 ∧ s9 ≤ 1000)) L L) (mIf (mEx1 ((1 ≤ d ∧ d ≤ 100) ∧ (2 * d ≤ n ∧ n ≤ 100 * d) ∧ -1000 ≤ s9 ∧ s9 ≤ 1000)) P P)) H1 := by rw [mIf_0 hex, mIf_0 hex, mIf_0 hex]; exact hP1
    refine W.eq (g2 := F0 m 7 ls []) rfl ?_
    refine mw_iconst hx hb dL_setMoon_7 ?_
    exact mw_gret hx hb hr hlocks dL_setMoon_8 (by unfold mK4; rw [if_pos hex]) (by rw [if_pos hex]; exact hS.1) hP2 hS ⟨Nat.le_of_eq (Nat.zero_add _), Nat.le_of_eq (Nat.zero_add _)⟩
  · have hP2 : va_P D vwCl (mXW h0 a1 a2 cA (mIf (mEx1 ((1 ≤ d ∧ d ≤ 100) ∧ (2 * d ≤ n ∧ n ≤ 100 * d) ∧ -1000 ≤ s9 ∧ s9 ≤ 1000)) (mPut (mPut (mPut v 1 n) 2 d) 3 s9) v) (mIf (mEx1 ((1 ≤ d ∧ d ≤ 100) ∧ (2 * d ≤ n ∧ n ≤ 100 * d) ∧ -1000 ≤ s9 ∧ s9 ≤ 1000)) L L) (mIf (mEx1 ((1 ≤ d ∧ d ≤ 100) ∧ (2 * d ≤ n ∧ n ≤ 100 * d) ∧ -1000 ≤ s9 ∧ s9 ≤ 1000)) P P)) H1 := by rw [mIf_1 (by omega), mIf_1 (by omega), mIf_1 (by omega)]; exact mw_keepP hP hk
    match k, hexk, hes with
    | 0, hexk, hes =>
      cases hes
      refine vx_catch (own := RL) (name := mEA) (E := mEA) hown [] ⟨0, 8, 9, 14⟩ [] htab (fun z hz => nomatch hz) (by decide) (by decide) (hts (.classLink RL 14 mEA) (by decide +kernel)) (va_Nw.use rfl hE.1.2.2.2.2.2.1) hce hcv hcl ?_
      refine lv_astore (lv' := [(4, .ref q9), (0, .ref h0), (1, .int (mI (n))), (2, .int (mI (d))), (3, .int (mI (s9)))]) hx hb dL_setMoon_9 hl (by decide) rfl (fun ls hl => ?_)
      refine mw_ldc hx hb (-99999) (by decide +kernel) hown (hts (.constant RL 16 (-99999)) (by decide +kernel)) dL_setMoon_11 ?_
      exact mw_gret hx hb hr hlocks dL_setMoon_13 (by unfold mK4; rw [if_neg (by omega), if_pos (by omega)]) (by rw [if_neg (by omega)]; exact hg) hP2 hS ⟨Nat.le_of_eq (Nat.zero_add _), Nat.le_of_eq (Nat.zero_add _)⟩
    | k + 1, hexk, hes => simp at hes

set_option maxHeartbeats 400000 in
set_option maxRecDepth 100000 in
theorem k_setYear (l : Launch) (hfl : l.flags = flags0) (D : va_G) (h0 a1 a2 : Nat) (cA cJ : ClassId) (v : Nat → Int) (L P : Int → Int) (y a b c9 : Int) (hy : mRI y) (ha : mRI a) (hb9 : mRI b) (hc9 : mRI c9) (hok : mOK v L P) (hdis : mDis h0 a1 a2) : mG l yL_setYear wsL_setYear ({ frames := 8, cells := mC (mEx1 ((100 ≤ y ∧ y ≤ 500) ∧ (1 ≤ c9 ∧ c9 ≤ 400) ∧ (0 ≤ a ∧ a ≤ c9) ∧ 0 ≤ b ∧ b ≤ c9 - 1)), slots := 6 * mC (mEx1 ((100 ≤ y ∧ y ≤ 500) ∧ (1 ≤ c9 ∧ c9 ≤ 400) ∧ (0 ≤ a ∧ a ≤ c9) ∧ 0 ≤ b ∧ b ≤ c9 - 1)), locals := 134 }) [.ref h0, .int (mI (y)), .int (mI (a)), .int (mI (b)), .int (mI (c9))] D (mXW h0 a1 a2 cA v L P) (mTy cA cJ) (mK4 (mEx1 ((100 ≤ y ∧ y ≤ 500) ∧ (1 ≤ c9 ∧ c9 ≤ 400) ∧ (0 ≤ a ∧ a ≤ c9) ∧ 0 ≤ b ∧ b ≤ c9 - 1)) (0) (-99999) (-99999) (-99999)) (if (mEx1 ((100 ≤ y ∧ y ≤ 500) ∧ (1 ≤ c9 ∧ c9 ≤ 400) ∧ (0 ≤ a ∧ a ≤ c9) ∧ 0 ≤ b ∧ b ≤ c9 - 1)) = 0 then 0 else 1) (mXW h0 a1 a2 cA (mIf (mEx1 ((100 ≤ y ∧ y ≤ 500) ∧ (1 ≤ c9 ∧ c9 ≤ 400) ∧ (0 ≤ a ∧ a ≤ c9) ∧ 0 ≤ b ∧ b ≤ c9 - 1)) (mPut (mPut (mPut (mPut v 4 y) 5 a) 6 b) 7 c9) v) (mIf (mEx1 ((100 ≤ y ∧ y ≤ 500) ∧ (1 ≤ c9 ∧ c9 ≤ 400) ∧ (0 ≤ a ∧ a ≤ c9) ∧ 0 ≤ b ∧ b ≤ c9 - 1)) L L) (mIf (mEx1 ((100 ≤ y ∧ y ≤ 500) ∧ (1 ≤ c9 ∧ c9 ≤ 400) ∧ (0 ≤ a ∧ a ≤ c9) ∧ 0 ≤ b ∧ b ≤ c9 - 1)) P P)) (mA3 h0 a1 a2) (mC (mEx1 ((100 ≤ y ∧ y ≤ 500) ∧ (1 ≤ c9 ∧ c9 ≤ 400) ∧ (0 ≤ a ∧ a ≤ c9) ∧ 0 ≤ b ∧ b ≤ c9 - 1))) (6 * mC (mEx1 ((100 ≤ y ∧ y ≤ 500) ∧ (1 ≤ c9 ∧ c9 ≤ 400) ∧ (0 ≤ a ∧ a ≤ c9) ∧ 0 ≤ b ∧ b ≤ c9 - 1))) := by
  refine mw_openK (cc := cL_setYear) (maxL := 6) (ret := (some .int)) (hh := [(0, 10, 11, 14)]) (by decide) rfl (Nat.le_of_ble_eq_true rfl) ?_
  intro p e s m below meth c ls hC hr hlocks htab hB hE hN hl
  obtain ⟨hx, hb, hml, hown, hts⟩ := id hC
  obtain ⟨hP, hK⟩ := hB
  have hl : lv_has ls 6 [(0, .ref h0), (1, .int (mI (y))), (2, .int (mI (a))), (3, .int (mI (b))), (4, .int (mI (c9)))] := hl
  refine lv_aload_n hx hb dL_setYear_0 rfl (lv_at hl 0 rfl) ?_
  refine lv_iload_n hx hb dL_setYear_1 rfl (lv_at hl 1 rfl) ?_
  refine lv_iload_n hx hb dL_setYear_2 rfl (lv_at hl 2 rfl) ?_
  refine lv_iload_n hx hb dL_setYear_3 rfl (lv_at hl 3 rfl) ?_
  refine lv_iload hx hb dL_setYear_4 (lv_at hl 4 rfl) ?_
  refine mw_cX (rest := []) (A0 := (mA3 h0 a1 a2)) hC (x_X0_setYear l hfl D h0 a1 a2 cA cJ v L P y a b c9 hy ha hb9 hc9 hok hdis) hE (cwV 4 hts gL_setYear_X0_setYear rfl rfl rfl (by decide +kernel) ⟨Nat.le_of_ble_eq_true rfl, Nat.le_of_ble_eq_true rfl⟩) hK hP (fun _ h => h) rfl rfl hl.1 rfl (Nat.le_of_ble_eq_true rfl) ⟨Nat.le_refl _, Nat.le_refl _⟩ dL_setYear_6 (fun H1 locs1 hex hP1 hS hk => ?_) (fun E ce q9 H1 locs1 k hexk hes hk hS hg hce hcv hcl => ?_)
  · have hP2 : va_P D vwCl (mXW h0 a1 a2 cA (mIf (mEx1 ((100 ≤ y ∧ y ≤ 500) ∧ (1 ≤ c9 ∧ c9 ≤ 400) ∧ (0 ≤ a ∧ a ≤ c9) ∧ 0 ≤ b ∧ b ≤ c9 - 1)) (mPut (mPut (mPut (mPut v 4 y) 5 a) 6 b) 7 c9) v) (mIf (mEx1 ((100 ≤ y ∧ y ≤ 500) ∧ (1 ≤ c9 ∧ c9 ≤ 400) ∧ (0 ≤ a ∧ a ≤ c9) ∧ 0 ≤ b ∧ b ≤ c9 - 1)) L L) (mIf (mEx1 ((100 ≤ y ∧ y ≤ 500) ∧ (1 ≤ c9 ∧ c9 ≤ 400) ∧ (0 ≤ a ∧ a ≤ c9) ∧ 0 ≤ b ∧ b ≤ c9 - 1)) P P)) H1 := by rw [mIf_0 hex, mIf_0 hex, mIf_0 hex]; exact hP1
    refine W.eq (g2 := F0 m 9 ls []) rfl ?_
    refine mw_iconst hx hb dL_setYear_9 ?_
    exact mw_gret hx hb hr hlocks dL_setYear_10 (by unfold mK4; rw [if_pos hex]) (by rw [if_pos hex]; exact hS.1) hP2 hS ⟨Nat.le_of_eq (Nat.zero_add _), Nat.le_of_eq (Nat.zero_add _)⟩
  · have hP2 : va_P D vwCl (mXW h0 a1 a2 cA (mIf (mEx1 ((100 ≤ y ∧ y ≤ 500) ∧ (1 ≤ c9 ∧ c9 ≤ 400) ∧ (0 ≤ a ∧ a ≤ c9) ∧ 0 ≤ b ∧ b ≤ c9 - 1)) (mPut (mPut (mPut (mPut v 4 y) 5 a) 6 b) 7 c9) v) (mIf (mEx1 ((100 ≤ y ∧ y ≤ 500) ∧ (1 ≤ c9 ∧ c9 ≤ 400) ∧ (0 ≤ a ∧ a ≤ c9) ∧ 0 ≤ b ∧ b ≤ c9 - 1)) L L) (mIf (mEx1 ((100 ≤ y ∧ y ≤ 500) ∧ (1 ≤ c9 ∧ c9 ≤ 400) ∧ (0 ≤ a ∧ a ≤ c9) ∧ 0 ≤ b ∧ b ≤ c9 - 1)) P P)) H1 := by rw [mIf_1 (by omega), mIf_1 (by omega), mIf_1 (by omega)]; exact mw_keepP hP hk
    match k, hexk, hes with
    | 0, hexk, hes =>
      cases hes
      refine vx_catch (own := RL) (name := mEA) (E := mEA) hown [] ⟨0, 10, 11, 14⟩ [] htab (fun z hz => nomatch hz) (by decide) (by decide) (hts (.classLink RL 14 mEA) (by decide +kernel)) (va_Nw.use rfl hE.1.2.2.2.2.2.1) hce hcv hcl ?_
      refine lv_astore (lv' := [(5, .ref q9), (0, .ref h0), (1, .int (mI (y))), (2, .int (mI (a))), (3, .int (mI (b))), (4, .int (mI (c9)))]) hx hb dL_setYear_11 hl (by decide) rfl (fun ls hl => ?_)
      refine mw_ldc hx hb (-99999) (by decide +kernel) hown (hts (.constant RL 16 (-99999)) (by decide +kernel)) dL_setYear_13 ?_
      exact mw_gret hx hb hr hlocks dL_setYear_15 (by unfold mK4; rw [if_neg (by omega), if_pos (by omega)]) (by rw [if_neg (by omega)]; exact hg) hP2 hS ⟨Nat.le_of_eq (Nat.zero_add _), Nat.le_of_eq (Nat.zero_add _)⟩
    | k + 1, hexk, hes => simp at hes

set_option maxHeartbeats 400000 in
set_option maxRecDepth 100000 in
theorem k_dayOf (l : Launch) (hfl : l.flags = flags0) (D : va_G) (h0 a1 a2 : Nat) (cA cJ : ClassId) (v : Nat → Int) (L P : Int → Int) (y pl : Int) (hy9 : mRI y) (hp9 : mRI pl) (hok : mOK v L P) : mG l yL_dayOf wsL_dayOf ({ frames := 9, cells := mC (mEx1 (mYear y ∧ 0 ≤ pl ∧ pl < mLen v y)), slots := 6 * mC (mEx1 (mYear y ∧ 0 ≤ pl ∧ pl < mLen v y)), locals := 153 }) [.ref h0, .int (mI (y)), .int (mI (pl))] D (mXW h0 a1 a2 cA v L P) (mTy cA cJ) (mK4 (mEx1 (mYear y ∧ 0 ≤ pl ∧ pl < mLen v y)) (mBeg v y + pl) 2000000000 2000000000 2000000000) (if (mEx1 (mYear y ∧ 0 ≤ pl ∧ pl < mLen v y)) = 0 then 0 else 1) (mXW h0 a1 a2 cA v L P) (fun _ => False) (mC (mEx1 (mYear y ∧ 0 ≤ pl ∧ pl < mLen v y))) (6 * mC (mEx1 (mYear y ∧ 0 ≤ pl ∧ pl < mLen v y))) := by
  refine mw_openK (cc := cL_dayOf) (maxL := 4) (ret := (some .int)) (hh := [(0, 6, 7, 14)]) (by decide) rfl (Nat.le_of_ble_eq_true rfl) ?_
  intro p e s m below meth c ls hC hr hlocks htab hB hE hN hl
  obtain ⟨hx, hb, hml, hown, hts⟩ := id hC
  obtain ⟨hP, hK⟩ := hB
  have hl : lv_has ls 4 [(0, .ref h0), (1, .int (mI (y))), (2, .int (mI (pl)))] := hl
  refine lv_aload_n hx hb dL_dayOf_0 rfl (lv_at hl 0 rfl) ?_
  refine lv_iload_n hx hb dL_dayOf_1 rfl (lv_at hl 1 rfl) ?_
  refine lv_iload_n hx hb dL_dayOf_2 rfl (lv_at hl 2 rfl) ?_
  refine mw_cX (rest := []) (A0 := (fun _ => False)) hC (x_X0_dayOf l hfl D h0 a1 a2 cA cJ v L P y pl hy9 hp9 hok) hE (cwV 2 hts gL_dayOf_X0_dayOf rfl rfl rfl (by decide +kernel) ⟨Nat.le_of_ble_eq_true rfl, Nat.le_of_ble_eq_true rfl⟩) hK hP (fun _ h => h) rfl rfl hl.1 rfl (Nat.le_of_ble_eq_true rfl) ⟨Nat.le_refl _, Nat.le_refl _⟩ dL_dayOf_3 (fun H1 locs1 hex hP1 hS hk => ?_) (fun E ce q9 H1 locs1 k hexk hes hk hS hg hce hcv hcl => ?_)
  · have hP2 : va_P D vwCl (mXW h0 a1 a2 cA v L P) H1 := hP1
    refine W.eq (g2 := F0 m 6 ls [.int (mI (mBeg v y + pl))]) rfl ?_
    exact mw_gret hx hb hr hlocks dL_dayOf_6 (by unfold mK4; rw [if_pos hex]) (by rw [if_pos hex]; exact hS.1) hP2 hS ⟨Nat.le_of_eq (Nat.zero_add _), Nat.le_of_eq (Nat.zero_add _)⟩
  · have hP2 : va_P D vwCl (mXW h0 a1 a2 cA v L P) H1 := mw_keepP hP hk
    match k, hexk, hes with
    | 0, hexk, hes =>
      cases hes
      refine vx_catch (own := RL) (name := mEA) (E := mEA) hown [] ⟨0, 6, 7, 14⟩ [] htab (fun z hz => nomatch hz) (by decide) (by decide) (hts (.classLink RL 14 mEA) (by decide +kernel)) (va_Nw.use rfl hE.1.2.2.2.2.2.1) hce hcv hcl ?_
      refine lv_astore_n (lv' := [(3, .ref q9), (0, .ref h0), (1, .int (mI (y))), (2, .int (mI (pl)))]) hx hb dL_dayOf_7 rfl hl (by decide) rfl (fun ls hl => ?_)
      refine mw_ldc hx hb (2000000000) (by decide +kernel) hown (hts (.constant RL 35 (2000000000)) (by decide +kernel)) dL_dayOf_8 ?_
      exact mw_gret hx hb hr hlocks dL_dayOf_10 (by unfold mK4; rw [if_neg (by omega), if_pos (by omega)]) (by rw [if_neg (by omega)]; exact hg) hP2 hS ⟨Nat.le_of_eq (Nat.zero_add _), Nat.le_of_eq (Nat.zero_add _)⟩
    | k + 1, hexk, hes => simp at hes

set_option maxHeartbeats 400000 in
set_option maxRecDepth 100000 in
theorem k_period (l : Launch) (hfl : l.flags = flags0) (D : va_G) (h0 a1 a2 : Nat) (cA cJ : ClassId) (v : Nat → Int) (L P : Int → Int) (z : Int) (hz : mRI z) (hok : mOK v L P) : mG l yL_period wsL_period ({ frames := 9, cells := mC (mEx3 (1 ≤ mPop z 32 ∧ mPop z 32 ≤ 5) (mUsh z (v 0) = 0) (mMts v L P z)), slots := 6 * mC (mEx3 (1 ≤ mPop z 32 ∧ mPop z 32 ≤ 5) (mUsh z (v 0) = 0) (mMts v L P z)), locals := 153 }) [.ref h0, .int (mI (z))] D (mXW h0 a1 a2 cA v L P) (mTy cA cJ) (mK4 (mEx3 (1 ≤ mPop z 32 ∧ mPop z 32 ≤ 5) (mUsh z (v 0) = 0) (mMts v L P z)) (mSt (mFd L P z 0 (v 0).toNat)) (-99999) (-99999) (-1)) (if (mEx3 (1 ≤ mPop z 32 ∧ mPop z 32 ≤ 5) (mUsh z (v 0) = 0) (mMts v L P z)) = 0 then 0 else 1) (mXW h0 a1 a2 cA v L P) (fun _ => False) (mC (mEx3 (1 ≤ mPop z 32 ∧ mPop z 32 ≤ 5) (mUsh z (v 0) = 0) (mMts v L P z))) (6 * mC (mEx3 (1 ≤ mPop z 32 ∧ mPop z 32 ≤ 5) (mUsh z (v 0) = 0) (mMts v L P z))) := by
  refine mw_openK (cc := cL_period) (maxL := 3) (ret := (some .int)) (hh := [(0, 5, 6, 14), (0, 5, 10, 22), (0, 5, 14, 17)]) (by decide) rfl (Nat.le_of_ble_eq_true rfl) ?_
  intro p e s m below meth c ls hC hr hlocks htab hB hE hN hl
  obtain ⟨hx, hb, hml, hown, hts⟩ := id hC
  obtain ⟨hP, hK⟩ := hB
  have hl : lv_has ls 3 [(0, .ref h0), (1, .int (mI (z)))] := hl
  refine lv_aload_n hx hb dL_period_0 rfl (lv_at hl 0 rfl) ?_
  refine lv_iload_n hx hb dL_period_1 rfl (lv_at hl 1 rfl) ?_
  refine mw_cX (rest := []) (A0 := (fun _ => False)) hC (x_X0_period l hfl D h0 a1 a2 cA cJ v L P z hz hok) hE (cwV 1 hts gL_period_X0_period rfl rfl rfl (by decide +kernel) ⟨Nat.le_of_ble_eq_true rfl, Nat.le_of_ble_eq_true rfl⟩) hK hP (fun _ h => h) rfl rfl hl.1 rfl (Nat.le_of_ble_eq_true rfl) ⟨Nat.le_refl _, Nat.le_refl _⟩ dL_period_2 (fun H1 locs1 hex hP1 hS hk => ?_) (fun E ce q9 H1 locs1 k hexk hes hk hS hg hce hcv hcl => ?_)
  · have hP2 : va_P D vwCl (mXW h0 a1 a2 cA v L P) H1 := hP1
    refine W.eq (g2 := F0 m 5 ls [.int (mI (mSt (mFd L P z 0 (v 0).toNat)))]) rfl ?_
    exact mw_gret hx hb hr hlocks dL_period_5 (by unfold mK4; rw [if_pos hex]) (by rw [if_pos hex]; exact hS.1) hP2 hS ⟨Nat.le_of_eq (Nat.zero_add _), Nat.le_of_eq (Nat.zero_add _)⟩
  · have hP2 : va_P D vwCl (mXW h0 a1 a2 cA v L P) H1 := mw_keepP hP hk
    match k, hexk, hes with
    | 0, hexk, hes =>
      cases hes
      refine vx_catch (own := RL) (name := mEA) (E := mEA) hown [] ⟨0, 5, 6, 14⟩ [⟨0, 5, 10, 22⟩, ⟨0, 5, 14, 17⟩] htab (fun z hz => nomatch hz) (by decide) (by decide) (hts (.classLink RL 14 mEA) (by decide +kernel)) (va_Nw.use rfl hE.1.2.2.2.2.2.1) hce hcv hcl ?_
      refine lv_astore_n (lv' := [(2, .ref q9), (0, .ref h0), (1, .int (mI (z)))]) hx hb dL_period_6 rfl hl (by decide) rfl (fun ls hl => ?_)
      refine mw_ldc hx hb (-99999) (by decide +kernel) hown (hts (.constant RL 16 (-99999)) (by decide +kernel)) dL_period_7 ?_
      exact mw_gret hx hb hr hlocks dL_period_9 (by unfold mK4; rw [if_neg (by omega), if_pos (by omega)]) (by rw [if_neg (by omega)]; exact hg) hP2 hS ⟨Nat.le_of_eq (Nat.zero_add _), Nat.le_of_eq (Nat.zero_add _)⟩
    | 1, hexk, hes =>
      cases hes
      refine vx_catch (own := RL) (name := mEI) (E := mEI) hown [⟨0, 5, 6, 14⟩] ⟨0, 5, 10, 22⟩ [⟨0, 5, 14, 17⟩] htab (fun z hz => by
        cases List.mem_singleton.mp hz; exact Or.inr ⟨by decide, mEA, hts (.classLink RL 14 mEA) (by decide +kernel), hN.2.2.2.2.1⟩) (by decide) (by decide) (hts (.classLink RL 22 mEI) (by decide +kernel)) (va_Nw.use rfl hE.1.2.2.2.2.2.2.2.1) hce hcv hcl ?_
      refine lv_astore_n (lv' := [(2, .ref q9), (0, .ref h0), (1, .int (mI (z)))]) hx hb dL_period_10 rfl hl (by decide) rfl (fun ls hl => ?_)
      refine mw_ldc hx hb (-99999) (by decide +kernel) hown (hts (.constant RL 16 (-99999)) (by decide +kernel)) dL_period_11 ?_
      exact mw_gret hx hb hr hlocks dL_period_13 (by unfold mK4; rw [if_neg (by omega), if_neg (by omega), if_pos (by omega)]) (by rw [if_neg (by omega)]; exact hg) hP2 hS ⟨Nat.le_of_eq (Nat.zero_add _), Nat.le_of_eq (Nat.zero_add _)⟩
    | 2, hexk, hes =>
      cases hes
      refine vx_catch (own := RL) (name := mES) (E := mES) hown [⟨0, 5, 6, 14⟩, ⟨0, 5, 10, 22⟩] ⟨0, 5, 14, 17⟩ [] htab (fun z hz => by
        rcases List.mem_cons.mp hz with hz | hz; (cases hz; exact Or.inr ⟨by decide, mEA, hts (.classLink RL 14 mEA) (by decide +kernel), hN.2.2.1⟩); (cases List.mem_singleton.mp hz; exact Or.inr ⟨by decide, mEI, hts (.classLink RL 22 mEI) (by decide +kernel), hN.2.2.2.1⟩)) (by decide) (by decide) (hts (.classLink RL 17 mES) (by decide +kernel)) (va_Nw.use rfl hE.1.2.2.2.2.2.2.1) hce hcv hcl ?_
      refine lv_astore_n (lv' := [(2, .ref q9), (0, .ref h0), (1, .int (mI (z)))]) hx hb dL_period_14 rfl hl (by decide) rfl (fun ls hl => ?_)
      refine mw_iconst hx hb dL_period_15 ?_
      exact mw_gret hx hb hr hlocks dL_period_16 (by unfold mK4; rw [if_neg (by omega), if_neg (by omega), if_neg (by omega)]) (by rw [if_neg (by omega)]; exact hg) hP2 hS ⟨Nat.le_of_eq (Nat.zero_add _), Nat.le_of_eq (Nat.zero_add _)⟩
    | k + 3, hexk, hes => simp at hes

set_option maxHeartbeats 400000 in
set_option maxRecDepth 100000 in
theorem k_meeting (l : Launch) (hfl : l.flags = flags0) (D : va_G) (h0 a1 a2 : Nat) (cA cJ : ClassId) (v : Nat → Int) (L P : Int → Int) (z d : Int) (hz : mRI z) (hd9 : mRI d) (hok : mOK v L P) : mG l yL_meeting wsL_meeting ({ frames := 9, cells := mC (mEx3 (mDay d ∧ 1 ≤ mPop z 32 ∧ mPop z 32 ≤ 5) (mUsh z (v 0) = 0) (mMts v L P z)), slots := 6 * mC (mEx3 (mDay d ∧ 1 ≤ mPop z 32 ∧ mPop z 32 ≤ 5) (mUsh z (v 0) = 0) (mMts v L P z)), locals := 156 }) [.ref h0, .int (mI (z)), .int (mI (d))] D (mXW h0 a1 a2 cA v L P) (mTy cA cJ) (mK4 (mEx3 (mDay d ∧ 1 ≤ mPop z 32 ∧ mPop z 32 ≤ 5) (mUsh z (v 0) = 0) (mMts v L P z)) (d + (mD0 (mFd L P z 0 (v 0).toNat) - d) % mSt (mFd L P z 0 (v 0).toNat)) 2000000000 2000000000 1999999999) (if (mEx3 (mDay d ∧ 1 ≤ mPop z 32 ∧ mPop z 32 ≤ 5) (mUsh z (v 0) = 0) (mMts v L P z)) = 0 then 0 else 1) (mXW h0 a1 a2 cA v L P) (fun _ => False) (mC (mEx3 (mDay d ∧ 1 ≤ mPop z 32 ∧ mPop z 32 ≤ 5) (mUsh z (v 0) = 0) (mMts v L P z))) (6 * mC (mEx3 (mDay d ∧ 1 ≤ mPop z 32 ∧ mPop z 32 ≤ 5) (mUsh z (v 0) = 0) (mMts v L P z))) := by
  refine mw_openK (cc := cL_meeting) (maxL := 4) (ret := (some .int)) (hh := [(0, 6, 7, 14), (0, 6, 11, 22), (0, 6, 15, 17)]) (by decide) rfl (Nat.le_of_ble_eq_true rfl) ?_
  intro p e s m below meth c ls hC hr hlocks htab hB hE hN hl
  obtain ⟨hx, hb, hml, hown, hts⟩ := id hC
  obtain ⟨hP, hK⟩ := hB
  have hl : lv_has ls 4 [(0, .ref h0), (1, .int (mI (z))), (2, .int (mI (d)))] := hl
  refine lv_aload_n hx hb dL_meeting_0 rfl (lv_at hl 0 rfl) ?_
  refine lv_iload_n hx hb dL_meeting_1 rfl (lv_at hl 1 rfl) ?_
  refine lv_iload_n hx hb dL_meeting_2 rfl (lv_at hl 2 rfl) ?_
  refine mw_cX (rest := []) (A0 := (fun _ => False)) hC (x_X0_meeting l hfl D h0 a1 a2 cA cJ v L P z d hz hd9 hok) hE (cwV 2 hts gL_meeting_X0_meeting rfl rfl rfl (by decide +kernel) ⟨Nat.le_of_ble_eq_true rfl, Nat.le_of_ble_eq_true rfl⟩) hK hP (fun _ h => h) rfl rfl hl.1 rfl (Nat.le_of_ble_eq_true rfl) ⟨Nat.le_refl _, Nat.le_refl _⟩ dL_meeting_3 (fun H1 locs1 hex hP1 hS hk => ?_) (fun E ce q9 H1 locs1 k hexk hes hk hS hg hce hcv hcl => ?_)
  · have hP2 : va_P D vwCl (mXW h0 a1 a2 cA v L P) H1 := hP1
    refine W.eq (g2 := F0 m 6 ls [.int (mI (d + (mD0 (mFd L P z 0 (v 0).toNat) - d) % mSt (mFd L P z 0 (v 0).toNat)))]) rfl ?_
    exact mw_gret hx hb hr hlocks dL_meeting_6 (by unfold mK4; rw [if_pos hex]) (by rw [if_pos hex]; exact hS.1) hP2 hS ⟨Nat.le_of_eq (Nat.zero_add _), Nat.le_of_eq (Nat.zero_add _)⟩
  · have hP2 : va_P D vwCl (mXW h0 a1 a2 cA v L P) H1 := mw_keepP hP hk
    match k, hexk, hes with
    | 0, hexk, hes =>
      cases hes
      refine vx_catch (own := RL) (name := mEA) (E := mEA) hown [] ⟨0, 6, 7, 14⟩ [⟨0, 6, 11, 22⟩, ⟨0, 6, 15, 17⟩] htab (fun z hz => nomatch hz) (by decide) (by decide) (hts (.classLink RL 14 mEA) (by decide +kernel)) (va_Nw.use rfl hE.1.2.2.2.2.2.1) hce hcv hcl ?_
      refine lv_astore_n (lv' := [(3, .ref q9), (0, .ref h0), (1, .int (mI (z))), (2, .int (mI (d)))]) hx hb dL_meeting_7 rfl hl (by decide) rfl (fun ls hl => ?_)
      refine mw_ldc hx hb (2000000000) (by decide +kernel) hown (hts (.constant RL 35 (2000000000)) (by decide +kernel)) dL_meeting_8 ?_
      exact mw_gret hx hb hr hlocks dL_meeting_10 (by unfold mK4; rw [if_neg (by omega), if_pos (by omega)]) (by rw [if_neg (by omega)]; exact hg) hP2 hS ⟨Nat.le_of_eq (Nat.zero_add _), Nat.le_of_eq (Nat.zero_add _)⟩
    | 1, hexk, hes =>
      cases hes
      refine vx_catch (own := RL) (name := mEI) (E := mEI) hown [⟨0, 6, 7, 14⟩] ⟨0, 6, 11, 22⟩ [⟨0, 6, 15, 17⟩] htab (fun z hz => by
        cases List.mem_singleton.mp hz; exact Or.inr ⟨by decide, mEA, hts (.classLink RL 14 mEA) (by decide +kernel), hN.2.2.2.2.1⟩) (by decide) (by decide) (hts (.classLink RL 22 mEI) (by decide +kernel)) (va_Nw.use rfl hE.1.2.2.2.2.2.2.2.1) hce hcv hcl ?_
      refine lv_astore_n (lv' := [(3, .ref q9), (0, .ref h0), (1, .int (mI (z))), (2, .int (mI (d)))]) hx hb dL_meeting_11 rfl hl (by decide) rfl (fun ls hl => ?_)
      refine mw_ldc hx hb (2000000000) (by decide +kernel) hown (hts (.constant RL 35 (2000000000)) (by decide +kernel)) dL_meeting_12 ?_
      exact mw_gret hx hb hr hlocks dL_meeting_14 (by unfold mK4; rw [if_neg (by omega), if_neg (by omega), if_pos (by omega)]) (by rw [if_neg (by omega)]; exact hg) hP2 hS ⟨Nat.le_of_eq (Nat.zero_add _), Nat.le_of_eq (Nat.zero_add _)⟩
    | 2, hexk, hes =>
      cases hes
      refine vx_catch (own := RL) (name := mES) (E := mES) hown [⟨0, 6, 7, 14⟩, ⟨0, 6, 11, 22⟩] ⟨0, 6, 15, 17⟩ [] htab (fun z hz => by
        rcases List.mem_cons.mp hz with hz | hz; (cases hz; exact Or.inr ⟨by decide, mEA, hts (.classLink RL 14 mEA) (by decide +kernel), hN.2.2.1⟩); (cases List.mem_singleton.mp hz; exact Or.inr ⟨by decide, mEI, hts (.classLink RL 22 mEI) (by decide +kernel), hN.2.2.2.1⟩)) (by decide) (by decide) (hts (.classLink RL 17 mES) (by decide +kernel)) (va_Nw.use rfl hE.1.2.2.2.2.2.2.1) hce hcv hcl ?_
      refine lv_astore_n (lv' := [(3, .ref q9), (0, .ref h0), (1, .int (mI (z))), (2, .int (mI (d)))]) hx hb dL_meeting_15 rfl hl (by decide) rfl (fun ls hl => ?_)
      refine mw_ldc hx hb (1999999999) (by decide +kernel) hown (hts (.constant RL 43 (1999999999)) (by decide +kernel)) dL_meeting_16 ?_
      exact mw_gret hx hb hr hlocks dL_meeting_18 (by unfold mK4; rw [if_neg (by omega), if_neg (by omega), if_neg (by omega)]) (by rw [if_neg (by omega)]; exact hg) hP2 hS ⟨Nat.le_of_eq (Nat.zero_add _), Nat.le_of_eq (Nat.zero_add _)⟩
    | k + 3, hexk, hes => simp at hes
