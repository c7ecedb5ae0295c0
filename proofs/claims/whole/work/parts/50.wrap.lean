set_option maxHeartbeats 400000 in
set_option maxRecDepth 100000 in
theorem w_addMarket (l : Launch) (hfl : l.flags = flags0) (D : va_G) (h0 a1 a2 h4 : Nat) (cA cJ : ClassId) (G0 : Nat → Int64) (v : Nat → Int) (L P : Int → Int) (a b : Int) (ha : mRI a) (hb9 : mRI b) (hok : mOK v L P) (hdis : mDis4 h0 a1 a2 h4) : mW l yL_addMarket wsL_addMarket ({ frames := 8, cells := 1, slots := 6, locals := 133 }) [.ref h0, .int (mI (a)), .int (mI (b)), .ref h4] D (mXW h0 a1 a2 cA v L P ++ [(h4, mOut cJ G0)]) (mTy cA cJ) (mEx2 ((1 ≤ a ∧ a ≤ 60) ∧ 0 ≤ b ∧ b ≤ a - 1) (v 0 < 16)) (fun r => r = mL (v 0)) (fun F => mXW h0 a1 a2 cA (mIf (mEx2 ((1 ≤ a ∧ a ≤ 60) ∧ 0 ≤ b ∧ b ≤ a - 1) (v 0 < 16)) (mPut v 0 (v 0 + 1)) v) (mIf (mEx2 ((1 ≤ a ∧ a ≤ 60) ∧ 0 ≤ b ∧ b ≤ a - 1) (v 0 < 16)) (mU L (v 0) a) L) (mIf (mEx2 ((1 ≤ a ∧ a ≤ 60) ∧ 0 ≤ b ∧ b ≤ a - 1) (v 0 < 16)) (mU P (v 0) b) P) ++ [(h4, mOut cJ F)]) (mA4 h0 a1 a2 h4) := by
  refine mw_openW (cc := cL_addMarket) (maxL := 5) (ret := (some .int)) (hh := [(0, 10, 13, 13), (0, 10, 17, 15)]) (by decide) rfl (Nat.le_of_ble_eq_true rfl) ?_
  intro p e s m below meth c ls hC hr hlocks htab hB hE hN hl
  obtain ⟨hx, hb, hml, hown, hts⟩ := id hC
  obtain ⟨hP, hK⟩ := hB
  have hPx := hP.sub (ws' := mXW h0 a1 a2 cA v L P) [0, 1, 2] rfl
  obtain ⟨-, d4, d5, d6⟩ := id hdis
  have hl : lv_has ls 5 [(0, .ref h0), (1, .int (mI (a))), (2, .int (mI (b))), (3, .ref h4)] := hl
  refine lv_aload_n hx hb dL_addMarket_0 rfl (lv_at hl 3 rfl) ?_
  refine mw_iconst hx hb dL_addMarket_1 ?_
  refine lv_aload_n hx hb dL_addMarket_2 rfl (lv_at hl 0 rfl) ?_
  refine lv_iload_n hx hb dL_addMarket_3 rfl (lv_at hl 1 rfl) ?_
  refine lv_iload_n hx hb dL_addMarket_4 rfl (lv_at hl 2 rfl) ?_
  refine mw_cX (rest := [.int (mI (0)), .ref h4]) (A0 := mA4 h0 a1 a2 h4) hC (x_X0_addMarket l hfl D h0 a1 a2 cA cJ v L P a b ha hb9 hok hdis.1) hE (cwV 2 hts gL_addMarket_X0_addMarket rfl rfl rfl (by decide +kernel) ⟨Nat.le_of_ble_eq_true rfl, Nat.le_of_ble_eq_true rfl⟩) hK hPx (fun q h => by rcases h with h | h | h; exact Or.inl h; exact Or.inr (Or.inl h); exact Or.inr (Or.inr (Or.inl h))) rfl rfl hl.1 rfl (Nat.le_of_ble_eq_true rfl) ⟨Nat.le_of_ble_eq_true rfl, Nat.le_of_ble_eq_true rfl⟩ dL_addMarket_5 (fun H1 locs1 hex hP1 hS hk => ?_) (fun E ce q9 H1 locs1 k hexk hes hk hS hce hcv hcl => ?_)
  · have hPo : va_P D vwCl [(h4, mOut cJ G0)] H1 := (hP.sub (ws' := [(h4, mOut cJ G0)]) [3] rfl).kept (fun k q hq => by
      match k, hq with
      | 0, hq => cases hq; exact hk h4 (hP 3 _ rfl).lt (fun q => by rcases q with q | q | q; exact d4 q.symm; exact d5 q.symm; exact d6 q.symm)
      | k + 1, hq => simp at hq)
    have hP2 : va_P D vwCl (mXW h0 a1 a2 cA (mIf (mEx2 ((1 ≤ a ∧ a ≤ 60) ∧ 0 ≤ b ∧ b ≤ a - 1) (v 0 < 16)) (mPut v 0 (v 0 + 1)) v) (mIf (mEx2 ((1 ≤ a ∧ a ≤ 60) ∧ 0 ≤ b ∧ b ≤ a - 1) (v 0 < 16)) (mU L (v 0) a) L) (mIf (mEx2 ((1 ≤ a ∧ a ≤ 60) ∧ 0 ≤ b ∧ b ≤ a - 1) (v 0 < 16)) (mU P (v 0) b) P) ++ [(h4, mOut cJ G0)]) H1 := va_P.app (by rw [mIf_0 hex, mIf_0 hex, mIf_0 hex]; exact hP1) hPo
    have hrg : mRI (v 0) := rg_addMarket hok a b ha hb9 hex
    refine W.eq (g2 := F0 m 8 ls [.int (mI (v 0)), .int (mI (0)), .ref h4]) rfl ?_
    refine mw_i2l hx hb hrg dL_addMarket_8 ?_
    refine mw_last hx hb hK hP2 (mD4 hdis (mA4_in h0 a1 a2 h4)) hS 3 rfl rfl dL_addMarket_9 (fun H2 locs2 F1 hF1 hP3 hS => ?_)
    have hP3 : va_P D vwCl (mXW h0 a1 a2 cA (mIf (mEx2 ((1 ≤ a ∧ a ≤ 60) ∧ 0 ≤ b ∧ b ≤ a - 1) (v 0 < 16)) (mPut v 0 (v 0 + 1)) v) (mIf (mEx2 ((1 ≤ a ∧ a ≤ 60) ∧ 0 ≤ b ∧ b ≤ a - 1) (v 0 < 16)) (mU L (v 0) a) L) (mIf (mEx2 ((1 ≤ a ∧ a ≤ 60) ∧ 0 ≤ b ∧ b ≤ a - 1) (v 0 < 16)) (mU P (v 0) b) P) ++ [(h4, mOut cJ F1)]) H2 := hP3
    refine lv_goto (tgt := 21) hx hb dL_addMarket_10 (by decide) ?_
    refine mw_iconst hx hb dL_addMarket_21 ?_
    exact mw_wret hx hb hr hlocks dL_addMarket_22 F1 (by rw [hex]; rfl) (fun _ => hF1) hP3 hS
  · have hP2 : va_P D vwCl (mXW h0 a1 a2 cA (mIf (mEx2 ((1 ≤ a ∧ a ≤ 60) ∧ 0 ≤ b ∧ b ≤ a - 1) (v 0 < 16)) (mPut v 0 (v 0 + 1)) v) (mIf (mEx2 ((1 ≤ a ∧ a ≤ 60) ∧ 0 ≤ b ∧ b ≤ a - 1) (v 0 < 16)) (mU L (v 0) a) L) (mIf (mEx2 ((1 ≤ a ∧ a ≤ 60) ∧ 0 ≤ b ∧ b ≤ a - 1) (v 0 < 16)) (mU P (v 0) b) P) ++ [(h4, mOut cJ G0)]) H1 := by rw [mIf_1 (by omega), mIf_1 (by omega), mIf_1 (by omega)]; exact mw_keepP hP hk
    match k, hexk, hes with
    | 0, hexk, hes =>
      cases hes
      refine vx_catch (own := RL) (name := mEA) (E := mEA) hown [] ⟨0, 10, 13, 13⟩ [⟨0, 10, 17, 15⟩] htab (fun z hz => nomatch hz) (by decide) (by decide) (hts (.classLink RL 13 mEA) (by decide +kernel)) (va_Nw.use rfl hE.1.2.2.2.2.2.1) hce hcv hcl ?_
      refine lv_astore (lv' := [(4, .ref q9), (0, .ref h0), (1, .int (mI (a))), (2, .int (mI (b))), (3, .ref h4)]) hx hb dL_addMarket_13 hl (by decide) rfl (fun ls hl => ?_)
      refine mw_iconst hx hb dL_addMarket_15 ?_
      exact mw_wret hx hb hr hlocks dL_addMarket_16 G0 (by rw [hexk]; rfl) (fun h9 => by omega) hP2 hS
    | 1, hexk, hes =>
      cases hes
      refine vx_catch (own := RL) (name := mES) (E := mES) hown [⟨0, 10, 13, 13⟩] ⟨0, 10, 17, 15⟩ [] htab (fun z hz => by
        cases List.mem_singleton.mp hz; exact Or.inr ⟨by decide, mEA, hts (.classLink RL 13 mEA) (by decide +kernel), hN.2.2.1⟩) (by decide) (by decide) (hts (.classLink RL 15 mES) (by decide +kernel)) (va_Nw.use rfl hE.1.2.2.2.2.2.2.1) hce hcv hcl ?_
      refine lv_astore (lv' := [(4, .ref q9), (0, .ref h0), (1, .int (mI (a))), (2, .int (mI (b))), (3, .ref h4)]) hx hb dL_addMarket_17 hl (by decide) rfl (fun ls hl => ?_)
      refine mw_iconst hx hb dL_addMarket_19 ?_
      exact mw_wret hx hb hr hlocks dL_addMarket_20 G0 (by rw [hexk]; rfl) (fun h9 => by omega) hP2 hS
    | k + 2, hexk, hes => simp at hes

set_option maxHeartbeats 400000 in
set_option maxRecDepth 100000 in
theorem w_shift (l : Launch) (hfl : l.flags = flags0) (D : va_G) (h0 a1 a2 h4 : Nat) (cA cJ : ClassId) (G0 : Nat → Int64) (v : Nat → Int) (L P : Int → Int) (m9 b : Int) (hm9 : mRI m9) (hb9 : mRI b) (hok : mOK v L P) (hdis : mDis4 h0 a1 a2 h4) : mW l yL_shift wsL_shift ({ frames := 8, cells := 1, slots := 6, locals := 134 }) [.ref h0, .int (mI (m9)), .int (mI (b)), .ref h4] D (mXW h0 a1 a2 cA v L P ++ [(h4, mOut cJ G0)]) (mTy cA cJ) (mEx2 (mMk v m9) (-60 ≤ b ∧ b ≤ 60)) (fun r => r = mL ((P m9 + b) % L m9)) (fun F => mXW h0 a1 a2 cA (mIf (mEx2 (mMk v m9) (-60 ≤ b ∧ b ≤ 60)) v v) (mIf (mEx2 (mMk v m9) (-60 ≤ b ∧ b ≤ 60)) L L) (mIf (mEx2 (mMk v m9) (-60 ≤ b ∧ b ≤ 60)) (mU P m9 ((P m9 + b) % L m9)) P) ++ [(h4, mOut cJ F)]) (mA4 h0 a1 a2 h4) := by
  refine mw_openW (cc := cL_shift) (maxL := 5) (ret := (some .int)) (hh := [(0, 10, 13, 20), (0, 10, 17, 13)]) (by decide) rfl (Nat.le_of_ble_eq_true rfl) ?_
  intro p e s m below meth c ls hC hr hlocks htab hB hE hN hl
  obtain ⟨hx, hb, hml, hown, hts⟩ := id hC
  obtain ⟨hP, hK⟩ := hB
  have hPx := hP.sub (ws' := mXW h0 a1 a2 cA v L P) [0, 1, 2] rfl
  obtain ⟨-, d4, d5, d6⟩ := id hdis
  have hl : lv_has ls 5 [(0, .ref h0), (1, .int (mI (m9))), (2, .int (mI (b))), (3, .ref h4)] := hl
  refine lv_aload_n hx hb dL_shift_0 rfl (lv_at hl 3 rfl) ?_
  refine mw_iconst hx hb dL_shift_1 ?_
  refine lv_aload_n hx hb dL_shift_2 rfl (lv_at hl 0 rfl) ?_
  refine lv_iload_n hx hb dL_shift_3 rfl (lv_at hl 1 rfl) ?_
  refine lv_iload_n hx hb dL_shift_4 rfl (lv_at hl 2 rfl) ?_
  refine mw_cX (rest := [.int (mI (0)), .ref h4]) (A0 := mA4 h0 a1 a2 h4) hC (x_X0_shift l hfl D h0 a1 a2 cA cJ v L P m9 b hm9 hb9 hok hdis.1) hE (cwV 2 hts gL_shift_X0_shift rfl rfl rfl (by decide +kernel) ⟨Nat.le_of_ble_eq_true rfl, Nat.le_of_ble_eq_true rfl⟩) hK hPx (fun q h => by rcases h with h | h | h; exact Or.inl h; exact Or.inr (Or.inl h); exact Or.inr (Or.inr (Or.inl h))) rfl rfl hl.1 rfl (Nat.le_of_ble_eq_true rfl) ⟨Nat.le_of_ble_eq_true rfl, Nat.le_of_ble_eq_true rfl⟩ dL_shift_5 (fun H1 locs1 hex hP1 hS hk => ?_) (fun E ce q9 H1 locs1 k hexk hes hk hS hce hcv hcl => ?_)
  · have hPo : va_P D vwCl [(h4, mOut cJ G0)] H1 := (hP.sub (ws' := [(h4, mOut cJ G0)]) [3] rfl).kept (fun k q hq => by
      match k, hq with
      | 0, hq => cases hq; exact hk h4 (hP 3 _ rfl).lt (fun q => by rcases q with q | q | q; exact d4 q.symm; exact d5 q.symm; exact d6 q.symm)
      | k + 1, hq => simp at hq)
    have hP2 : va_P D vwCl (mXW h0 a1 a2 cA (mIf (mEx2 (mMk v m9) (-60 ≤ b ∧ b ≤ 60)) v v) (mIf (mEx2 (mMk v m9) (-60 ≤ b ∧ b ≤ 60)) L L) (mIf (mEx2 (mMk v m9) (-60 ≤ b ∧ b ≤ 60)) (mU P m9 ((P m9 + b) % L m9)) P) ++ [(h4, mOut cJ G0)]) H1 := va_P.app (by rw [mIf_0 hex, mIf_0 hex, mIf_0 hex]; exact hP1) hPo
    have hrg : mRI ((P m9 + b) % L m9) := rg_shift hok m9 b hm9 hb9 hex
    refine W.eq (g2 := F0 m 8 ls [.int (mI ((P m9 + b) % L m9)), .int (mI (0)), .ref h4]) rfl ?_
    refine mw_i2l hx hb hrg dL_shift_8 ?_
    refine mw_last hx hb hK hP2 (mD4 hdis (mA4_in h0 a1 a2 h4)) hS 3 rfl rfl dL_shift_9 (fun H2 locs2 F1 hF1 hP3 hS => ?_)
    have hP3 : va_P D vwCl (mXW h0 a1 a2 cA (mIf (mEx2 (mMk v m9) (-60 ≤ b ∧ b ≤ 60)) v v) (mIf (mEx2 (mMk v m9) (-60 ≤ b ∧ b ≤ 60)) L L) (mIf (mEx2 (mMk v m9) (-60 ≤ b ∧ b ≤ 60)) (mU P m9 ((P m9 + b) % L m9)) P) ++ [(h4, mOut cJ F1)]) H2 := hP3
    refine lv_goto (tgt := 21) hx hb dL_shift_10 (by decide) ?_
    refine mw_iconst hx hb dL_shift_21 ?_
    exact mw_wret hx hb hr hlocks dL_shift_22 F1 (by rw [hex]; rfl) (fun _ => hF1) hP3 hS
  · have hP2 : va_P D vwCl (mXW h0 a1 a2 cA (mIf (mEx2 (mMk v m9) (-60 ≤ b ∧ b ≤ 60)) v v) (mIf (mEx2 (mMk v m9) (-60 ≤ b ∧ b ≤ 60)) L L) (mIf (mEx2 (mMk v m9) (-60 ≤ b ∧ b ≤ 60)) (mU P m9 ((P m9 + b) % L m9)) P) ++ [(h4, mOut cJ G0)]) H1 := by rw [mIf_1 (by omega), mIf_1 (by omega), mIf_1 (by omega)]; exact mw_keepP hP hk
    match k, hexk, hes with
    | 0, hexk, hes =>
      cases hes
      refine vx_catch (own := RL) (name := mEI) (E := mEI) hown [] ⟨0, 10, 13, 20⟩ [⟨0, 10, 17, 13⟩] htab (fun z hz => nomatch hz) (by decide) (by decide) (hts (.classLink RL 20 mEI) (by decide +kernel)) (va_Nw.use rfl hE.1.2.2.2.2.2.2.2.1) hce hcv hcl ?_
      refine lv_astore (lv' := [(4, .ref q9), (0, .ref h0), (1, .int (mI (m9))), (2, .int (mI (b))), (3, .ref h4)]) hx hb dL_shift_13 hl (by decide) rfl (fun ls hl => ?_)
      refine mw_iconst hx hb dL_shift_15 ?_
      exact mw_wret hx hb hr hlocks dL_shift_16 G0 (by rw [hexk]; rfl) (fun h9 => by omega) hP2 hS
    | 1, hexk, hes =>
      cases hes
      refine vx_catch (own := RL) (name := mEA) (E := mEA) hown [⟨0, 10, 13, 20⟩] ⟨0, 10, 17, 13⟩ [] htab (fun z hz => by
        cases List.mem_singleton.mp hz; exact Or.inr ⟨by decide, mEI, hts (.classLink RL 20 mEI) (by decide +kernel), hN.2.1⟩) (by decide) (by decide) (hts (.classLink RL 13 mEA) (by decide +kernel)) (va_Nw.use rfl hE.1.2.2.2.2.2.1) hce hcv hcl ?_
      refine lv_astore (lv' := [(4, .ref q9), (0, .ref h0), (1, .int (mI (m9))), (2, .int (mI (b))), (3, .ref h4)]) hx hb dL_shift_17 hl (by decide) rfl (fun ls hl => ?_)
      refine mw_iconst hx hb dL_shift_19 ?_
      exact mw_wret hx hb hr hlocks dL_shift_20 G0 (by rw [hexk]; rfl) (fun h9 => by omega) hP2 hS
    | k + 2, hexk, hes => simp at hes

set_option maxHeartbeats 400000 in
set_option maxRecDepth 100000 in
theorem w_setMoon (l : Launch) (hfl : l.flags = flags0) (D : va_G) (h0 a1 a2 h4 : Nat) (cA cJ : ClassId) (G0 : Nat → Int64) (v : Nat → Int) (L P : Int → Int) (n d s9 : Int) (hn : mRI n) (hd9 : mRI d) (hs9 : mRI s9) (hok : mOK v L P) (hdis : mDis4 h0 a1 a2 h4) : mW l yL_setMoon wsL_setMoon ({ frames := 8, cells := 1, slots := 6, locals := 133 }) [.ref h0, .int (mI (n)), .int (mI (d)), .int (mI (s9))] D (mXW h0 a1 a2 cA v L P ++ [(h4, mOut cJ G0)]) (mTy cA cJ) (mEx1 ((1 ≤ d ∧ d ≤ 100) ∧ (2 * d ≤ n ∧ n ≤ 100 * d) ∧ -1000 ≤ s9 ∧ s9 ≤ 1000)) (fun _ => True) (fun F => mXW h0 a1 a2 cA (mIf (mEx1 ((1 ≤ d ∧ d ≤ 100) ∧ (2 * d ≤ n ∧ n ≤ 100 * d) ∧ -1000 ≤ s9 ∧ s9 ≤ 1000)) (mPut (mPut (mPut v 1 n) 2 d) 3 s9) v) (mIf (mEx1 ((1 ≤ d ∧ d ≤ 100) ∧ (2 * d ≤ n ∧ n ≤ 100 * d) ∧ -1000 ≤ s9 ∧ s9 ≤ 1000)) L L) (mIf (mEx1 ((1 ≤ d ∧ d ≤ 100) ∧ (2 * d ≤ n ∧ n ≤ 100 * d) ∧ -1000 ≤ s9 ∧ s9 ≤ 1000)) P P) ++ [(h4, mOut cJ F)]) (mA4 h0 a1 a2 h4) := by
  refine mw_openW (cc := cL_setMoon) (maxL := 5) (ret := (some .int)) (hh := [(0, 7, 10, 13)]) (by decide) rfl (Nat.le_of_ble_eq_true rfl) ?_
  intro p e s m below meth c ls hC hr hlocks htab hB hE hN hl
  obtain ⟨hx, hb, hml, hown, hts⟩ := id hC
  obtain ⟨hP, hK⟩ := hB
  have hPx := hP.sub (ws' := mXW h0 a1 a2 cA v L P) [0, 1, 2] rfl
  obtain ⟨-, d4, d5, d6⟩ := id hdis
  have hl : lv_has ls 5 [(0, .ref h0), (1, .int (mI (n))), (2, .int (mI (d))), (3, .int (mI (s9)))] := hl
  refine lv_aload_n hx hb dL_setMoon_0 rfl (lv_at hl 0 rfl) ?_
  refine lv_iload_n hx hb dL_setMoon_1 rfl (lv_at hl 1 rfl) ?_
  refine lv_iload_n hx hb dL_setMoon_2 rfl (lv_at hl 2 rfl) ?_
  refine lv_iload_n hx hb dL_setMoon_3 rfl (lv_at hl 3 rfl) ?_
  refine mw_cX (rest := []) (A0 := mA4 h0 a1 a2 h4) hC (x_X0_setMoon l hfl D h0 a1 a2 cA cJ v L P n d s9 hn hd9 hs9 hok hdis.1) hE (cwV 3 hts gL_setMoon_X0_setMoon rfl rfl rfl (by decide +kernel) ⟨Nat.le_of_ble_eq_true rfl, Nat.le_of_ble_eq_true rfl⟩) hK hPx (fun q h => by rcases h with h | h | h; exact Or.inl h; exact Or.inr (Or.inl h); exact Or.inr (Or.inr (Or.inl h))) rfl rfl hl.1 rfl (Nat.le_of_ble_eq_true rfl) ⟨Nat.le_of_ble_eq_true rfl, Nat.le_of_ble_eq_true rfl⟩ dL_setMoon_4 (fun H1 locs1 hex hP1 hS hk => ?_) (fun E ce q9 H1 locs1 k hexk hes hk hS hce hcv hcl => ?_)
  · have hPo : va_P D vwCl [(h4, mOut cJ G0)] H1 := (hP.sub (ws' := [(h4, mOut cJ G0)]) [3] rfl).kept (fun k q hq => by
      match k, hq with
      | 0, hq => cases hq; exact hk h4 (hP 3 _ rfl).lt (fun q => by rcases q with q | q | q; exact d4 q.symm; exact d5 q.symm; exact d6 q.symm)
      | k + 1, hq => simp at hq)
    have hP2 : va_P D vwCl (mXW h0 a1 a2 cA (mIf (mEx1 ((1 ≤ d ∧ d ≤ 100) ∧ (2 * d ≤ n ∧ n ≤ 100 * d) ∧ -1000 ≤ s9 ∧ s9 ≤ 1000)) (mPut (mPut (mPut v 1 n) 2 d) 3 s9) v) (mIf (mEx1 ((1 ≤ d ∧ d ≤ 100) ∧ (2 * d ≤ n ∧ n ≤ 100 * d) ∧ -1000 ≤ s9 ∧ s9 ≤ 1000)) L L) (mIf (mEx1 ((1 ≤ d ∧ d ≤ 100) ∧ (2 * d ≤ n ∧ n ≤ 100 * d) ∧ -1000 ≤ s9 ∧ s9 ≤ 1000)) P P) ++ [(h4, mOut cJ G0)]) H1 := va_P.app (by rw [mIf_0 hex, mIf_0 hex, mIf_0 hex]; exact hP1) hPo
    refine W.eq (g2 := F0 m 7 ls []) rfl ?_
    refine lv_goto (tgt := 14) hx hb dL_setMoon_7 (by decide) ?_
    refine mw_iconst hx hb dL_setMoon_14 ?_
    exact mw_wret hx hb hr hlocks dL_setMoon_15 G0 (by rw [hex]; rfl) (fun _ => trivial) hP2 hS
  · have hP2 : va_P D vwCl (mXW h0 a1 a2 cA (mIf (mEx1 ((1 ≤ d ∧ d ≤ 100) ∧ (2 * d ≤ n ∧ n ≤ 100 * d) ∧ -1000 ≤ s9 ∧ s9 ≤ 1000)) (mPut (mPut (mPut v 1 n) 2 d) 3 s9) v) (mIf (mEx1 ((1 ≤ d ∧ d ≤ 100) ∧ (2 * d ≤ n ∧ n ≤ 100 * d) ∧ -1000 ≤ s9 ∧ s9 ≤ 1000)) L L) (mIf (mEx1 ((1 ≤ d ∧ d ≤ 100) ∧ (2 * d ≤ n ∧ n ≤ 100 * d) ∧ -1000 ≤ s9 ∧ s9 ≤ 1000)) P P) ++ [(h4, mOut cJ G0)]) H1 := by rw [mIf_1 (by omega), mIf_1 (by omega), mIf_1 (by omega)]; exact mw_keepP hP hk
    match k, hexk, hes with
    | 0, hexk, hes =>
      cases hes
      refine vx_catch (own := RL) (name := mEA) (E := mEA) hown [] ⟨0, 7, 10, 13⟩ [] htab (fun z hz => nomatch hz) (by decide) (by decide) (hts (.classLink RL 13 mEA) (by decide +kernel)) (va_Nw.use rfl hE.1.2.2.2.2.2.1) hce hcv hcl ?_
      refine lv_astore (lv' := [(4, .ref q9), (0, .ref h0), (1, .int (mI (n))), (2, .int (mI (d))), (3, .int (mI (s9)))]) hx hb dL_setMoon_10 hl (by decide) rfl (fun ls hl => ?_)
      refine mw_iconst hx hb dL_setMoon_12 ?_
      exact mw_wret hx hb hr hlocks dL_setMoon_13 G0 (by rw [hexk]; rfl) (fun h9 => by omega) hP2 hS
    | k + 1, hexk, hes => simp at hes

set_option maxHeartbeats 400000 in
set_option maxRecDepth 100000 in
theorem w_setYear (l : Launch) (hfl : l.flags = flags0) (D : va_G) (h0 a1 a2 h4 : Nat) (cA cJ : ClassId) (G0 : Nat → Int64) (v : Nat → Int) (L P : Int → Int) (y a b c9 : Int) (hy : mRI y) (ha : mRI a) (hb9 : mRI b) (hc9 : mRI c9) (hok : mOK v L P) (hdis : mDis4 h0 a1 a2 h4) : mW l yL_setYear wsL_setYear ({ frames := 8, cells := 1, slots := 6, locals := 134 }) [.ref h0, .int (mI (y)), .int (mI (a)), .int (mI (b)), .int (mI (c9))] D (mXW h0 a1 a2 cA v L P ++ [(h4, mOut cJ G0)]) (mTy cA cJ) (mEx1 ((100 ≤ y ∧ y ≤ 500) ∧ (1 ≤ c9 ∧ c9 ≤ 400) ∧ (0 ≤ a ∧ a ≤ c9) ∧ 0 ≤ b ∧ b ≤ c9 - 1)) (fun _ => True) (fun F => mXW h0 a1 a2 cA (mIf (mEx1 ((100 ≤ y ∧ y ≤ 500) ∧ (1 ≤ c9 ∧ c9 ≤ 400) ∧ (0 ≤ a ∧ a ≤ c9) ∧ 0 ≤ b ∧ b ≤ c9 - 1)) (mPut (mPut (mPut (mPut v 4 y) 5 a) 6 b) 7 c9) v) (mIf (mEx1 ((100 ≤ y ∧ y ≤ 500) ∧ (1 ≤ c9 ∧ c9 ≤ 400) ∧ (0 ≤ a ∧ a ≤ c9) ∧ 0 ≤ b ∧ b ≤ c9 - 1)) L L) (mIf (mEx1 ((100 ≤ y ∧ y ≤ 500) ∧ (1 ≤ c9 ∧ c9 ≤ 400) ∧ (0 ≤ a ∧ a ≤ c9) ∧ 0 ≤ b ∧ b ≤ c9 - 1)) P P) ++ [(h4, mOut cJ F)]) (mA4 h0 a1 a2 h4) := by
  refine mw_openW (cc := cL_setYear) (maxL := 6) (ret := (some .int)) (hh := [(0, 9, 12, 13)]) (by decide) rfl (Nat.le_of_ble_eq_true rfl) ?_
  intro p e s m below meth c ls hC hr hlocks htab hB hE hN hl
  obtain ⟨hx, hb, hml, hown, hts⟩ := id hC
  obtain ⟨hP, hK⟩ := hB
  have hPx := hP.sub (ws' := mXW h0 a1 a2 cA v L P) [0, 1, 2] rfl
  obtain ⟨-, d4, d5, d6⟩ := id hdis
  have hl : lv_has ls 6 [(0, .ref h0), (1, .int (mI (y))), (2, .int (mI (a))), (3, .int (mI (b))), (4, .int (mI (c9)))] := hl
  refine lv_aload_n hx hb dL_setYear_0 rfl (lv_at hl 0 rfl) ?_
  refine lv_iload_n hx hb dL_setYear_1 rfl (lv_at hl 1 rfl) ?_
  refine lv_iload_n hx hb dL_setYear_2 rfl (lv_at hl 2 rfl) ?_
  refine lv_iload_n hx hb dL_setYear_3 rfl (lv_at hl 3 rfl) ?_
  refine lv_iload hx hb dL_setYear_4 (lv_at hl 4 rfl) ?_
  refine mw_cX (rest := []) (A0 := mA4 h0 a1 a2 h4) hC (x_X0_setYear l hfl D h0 a1 a2 cA cJ v L P y a b c9 hy ha hb9 hc9 hok hdis.1) hE (cwV 4 hts gL_setYear_X0_setYear rfl rfl rfl (by decide +kernel) ⟨Nat.le_of_ble_eq_true rfl, Nat.le_of_ble_eq_true rfl⟩) hK hPx (fun q h => by rcases h with h | h | h; exact Or.inl h; exact Or.inr (Or.inl h); exact Or.inr (Or.inr (Or.inl h))) rfl rfl hl.1 rfl (Nat.le_of_ble_eq_true rfl) ⟨Nat.le_of_ble_eq_true rfl, Nat.le_of_ble_eq_true rfl⟩ dL_setYear_6 (fun H1 locs1 hex hP1 hS hk => ?_) (fun E ce q9 H1 locs1 k hexk hes hk hS hce hcv hcl => ?_)
  · have hPo : va_P D vwCl [(h4, mOut cJ G0)] H1 := (hP.sub (ws' := [(h4, mOut cJ G0)]) [3] rfl).kept (fun k q hq => by
      match k, hq with
      | 0, hq => cases hq; exact hk h4 (hP 3 _ rfl).lt (fun q => by rcases q with q | q | q; exact d4 q.symm; exact d5 q.symm; exact d6 q.symm)
      | k + 1, hq => simp at hq)
    have hP2 : va_P D vwCl (mXW h0 a1 a2 cA (mIf (mEx1 ((100 ≤ y ∧ y ≤ 500) ∧ (1 ≤ c9 ∧ c9 ≤ 400) ∧ (0 ≤ a ∧ a ≤ c9) ∧ 0 ≤ b ∧ b ≤ c9 - 1)) (mPut (mPut (mPut (mPut v 4 y) 5 a) 6 b) 7 c9) v) (mIf (mEx1 ((100 ≤ y ∧ y ≤ 500) ∧ (1 ≤ c9 ∧ c9 ≤ 400) ∧ (0 ≤ a ∧ a ≤ c9) ∧ 0 ≤ b ∧ b ≤ c9 - 1)) L L) (mIf (mEx1 ((100 ≤ y ∧ y ≤ 500) ∧ (1 ≤ c9 ∧ c9 ≤ 400) ∧ (0 ≤ a ∧ a ≤ c9) ∧ 0 ≤ b ∧ b ≤ c9 - 1)) P P) ++ [(h4, mOut cJ G0)]) H1 := va_P.app (by rw [mIf_0 hex, mIf_0 hex, mIf_0 hex]; exact hP1) hPo
    refine W.eq (g2 := F0 m 9 ls []) rfl ?_
    refine lv_goto (tgt := 16) hx hb dL_setYear_9 (by decide) ?_
    refine mw_iconst hx hb dL_setYear_16 ?_
    exact mw_wret hx hb hr hlocks dL_setYear_17 G0 (by rw [hex]; rfl) (fun _ => trivial) hP2 hS
  · have hP2 : va_P D vwCl (mXW h0 a1 a2 cA (mIf (mEx1 ((100 ≤ y ∧ y ≤ 500) ∧ (1 ≤ c9 ∧ c9 ≤ 400) ∧ (0 ≤ a ∧ a ≤ c9) ∧ 0 ≤ b ∧ b ≤ c9 - 1)) (mPut (mPut (mPut (mPut v 4 y) 5 a) 6 b) 7 c9) v) (mIf (mEx1 ((100 ≤ y ∧ y ≤ 500) ∧ (1 ≤ c9 ∧ c9 ≤ 400) ∧ (0 ≤ a ∧ a ≤ c9) ∧ 0 ≤ b ∧ b ≤ c9 - 1)) L L) (mIf (mEx1 ((100 ≤ y ∧ y ≤ 500) ∧ (1 ≤ c9 ∧ c9 ≤ 400) ∧ (0 ≤ a ∧ a ≤ c9) ∧ 0 ≤ b ∧ b ≤ c9 - 1)) P P) ++ [(h4, mOut cJ G0)]) H1 := by rw [mIf_1 (by omega), mIf_1 (by omega), mIf_1 (by omega)]; exact mw_keepP hP hk
    match k, hexk, hes with
    | 0, hexk, hes =>
      cases hes
      refine vx_catch (own := RL) (name := mEA) (E := mEA) hown [] ⟨0, 9, 12, 13⟩ [] htab (fun z hz => nomatch hz) (by decide) (by decide) (hts (.classLink RL 13 mEA) (by decide +kernel)) (va_Nw.use rfl hE.1.2.2.2.2.2.1) hce hcv hcl ?_
      refine lv_astore (lv' := [(5, .ref q9), (0, .ref h0), (1, .int (mI (y))), (2, .int (mI (a))), (3, .int (mI (b))), (4, .int (mI (c9)))]) hx hb dL_setYear_12 hl (by decide) rfl (fun ls hl => ?_)
      refine mw_iconst hx hb dL_setYear_14 ?_
      exact mw_wret hx hb hr hlocks dL_setYear_15 G0 (by rw [hexk]; rfl) (fun h9 => by omega) hP2 hS
    | k + 1, hexk, hes => simp at hes

set_option maxHeartbeats 400000 in
set_option maxRecDepth 100000 in
theorem w_isHeld (l : Launch) (hfl : l.flags = flags0) (D : va_G) (h0 a1 a2 h4 : Nat) (cA cJ : ClassId) (G0 : Nat → Int64) (v : Nat → Int) (L P : Int → Int) (m9 d : Int) (hm9 : mRI m9) (hd9 : mRI d) (hok : mOK v L P) (hdis : mDis4 h0 a1 a2 h4) : mW l yL_isHeld wsL_isHeld ({ frames := 9, cells := 1, slots := 6, locals := 152 }) [.ref h0, .int (mI (m9)), .int (mI (d)), .ref h4] D (mXW h0 a1 a2 cA v L P ++ [(h4, mOut cJ G0)]) (mTy cA cJ) (mEx2 (mMk v m9) (mDay d)) (fun r => r = mL (mB (d % L m9 = P m9))) (fun F => mXW h0 a1 a2 cA v L P ++ [(h4, mOut cJ F)]) (mA4 h0 a1 a2 h4) := by
  refine mw_openW (cc := cL_isHeld) (maxL := 5) (ret := (some .int)) (hh := [(0, 17, 20, 20), (0, 17, 24, 13)]) (by decide) rfl (Nat.le_of_ble_eq_true rfl) ?_
  intro p e s m below meth c ls hC hr hlocks htab hB hE hN hl
  obtain ⟨hx, hb, hml, hown, hts⟩ := id hC
  obtain ⟨hP, hK⟩ := hB
  have hPx := hP.sub (ws' := mXW h0 a1 a2 cA v L P) [0, 1, 2] rfl
  obtain ⟨-, d4, d5, d6⟩ := id hdis
  have hl : lv_has ls 5 [(0, .ref h0), (1, .int (mI (m9))), (2, .int (mI (d))), (3, .ref h4)] := hl
  refine lv_aload_n hx hb dL_isHeld_0 rfl (lv_at hl 3 rfl) ?_
  refine mw_iconst hx hb dL_isHeld_1 ?_
  refine lv_aload_n hx hb dL_isHeld_2 rfl (lv_at hl 0 rfl) ?_
  refine lv_iload_n hx hb dL_isHeld_3 rfl (lv_at hl 1 rfl) ?_
  refine lv_iload_n hx hb dL_isHeld_4 rfl (lv_at hl 2 rfl) ?_
  refine mw_cX (rest := [.int (mI (0)), .ref h4]) (A0 := mA4 h0 a1 a2 h4) hC (x_X0_isHeld l hfl D h0 a1 a2 cA cJ v L P m9 d hm9 hd9 hok) hE (cwV 2 hts gL_isHeld_X0_isHeld rfl rfl rfl (by decide +kernel) ⟨Nat.le_of_ble_eq_true rfl, Nat.le_of_ble_eq_true rfl⟩) hK hPx (fun _ h => h.elim) rfl rfl hl.1 rfl (Nat.le_of_ble_eq_true rfl) ⟨Nat.le_of_ble_eq_true rfl, Nat.le_of_ble_eq_true rfl⟩ dL_isHeld_5 (fun H1 locs1 hex hP1 hS hk => ?_) (fun E ce q9 H1 locs1 k hexk hes hk hS hce hcv hcl => ?_)
  · have hPo : va_P D vwCl [(h4, mOut cJ G0)] H1 := (hP.sub (ws' := [(h4, mOut cJ G0)]) [3] rfl).kept (fun k q hq => by
      match k, hq with
      | 0, hq => cases hq; exact hk h4 (hP 3 _ rfl).lt (fun q => q)
      | k + 1, hq => simp at hq)
    have hP2 : va_P D vwCl (mXW h0 a1 a2 cA v L P ++ [(h4, mOut cJ G0)]) H1 := va_P.app hP1 hPo
    refine W.eq (g2 := F0 m 8 ls [.int (mI (mB (d % L m9 = P m9))), .int (mI (0)), .ref h4]) rfl ?_
    refine mw_zeq (tgt := 15) hx hb dL_isHeld_8 (by decide) (fun c_8 => ?_) (fun c_8 => ?_)
    · refine mw_lconst hx hb 0 (by decide +kernel) dL_isHeld_15 ?_
      refine mw_last hx hb hK hP2 (mD4 hdis (mA4_in h0 a1 a2 h4)) hS 3 rfl rfl dL_isHeld_16 (fun H2 locs2 F1 hF1 hP3 hS => ?_)
      have hP3 : va_P D vwCl (mXW h0 a1 a2 cA v L P ++ [(h4, mOut cJ F1)]) H2 := hP3
      refine lv_goto (tgt := 28) hx hb dL_isHeld_17 (by decide) ?_
      refine mw_iconst hx hb dL_isHeld_28 ?_
      exact mw_wret hx hb hr hlocks dL_isHeld_29 F1 (by rw [hex]; rfl) (fun _ => (by rw [hF1, mB_f c_8])) hP3 hS
    · refine mw_lconst hx hb 1 (by decide +kernel) dL_isHeld_11 ?_
      refine lv_goto (tgt := 16) hx hb dL_isHeld_12 (by decide) ?_
      refine mw_last hx hb hK hP2 (mD4 hdis (mA4_in h0 a1 a2 h4)) hS 3 rfl rfl dL_isHeld_16 (fun H2 locs2 F1 hF1 hP3 hS => ?_)
      have hP3 : va_P D vwCl (mXW h0 a1 a2 cA v L P ++ [(h4, mOut cJ F1)]) H2 := hP3
      refine lv_goto (tgt := 28) hx hb dL_isHeld_17 (by decide) ?_
      refine mw_iconst hx hb dL_isHeld_28 ?_
      exact mw_wret hx hb hr hlocks dL_isHeld_29 F1 (by rw [hex]; rfl) (fun _ => (by rw [hF1, mB_t c_8])) hP3 hS
  · have hP2 : va_P D vwCl (mXW h0 a1 a2 cA v L P ++ [(h4, mOut cJ G0)]) H1 := mw_keepP hP hk
    match k, hexk, hes with
    | 0, hexk, hes =>
      cases hes
      refine vx_catch (own := RL) (name := mEI) (E := mEI) hown [] ⟨0, 17, 20, 20⟩ [⟨0, 17, 24, 13⟩] htab (fun z hz => nomatch hz) (by decide) (by decide) (hts (.classLink RL 20 mEI) (by decide +kernel)) (va_Nw.use rfl hE.1.2.2.2.2.2.2.2.1) hce hcv hcl ?_
      refine lv_astore (lv' := [(4, .ref q9), (0, .ref h0), (1, .int (mI (m9))), (2, .int (mI (d))), (3, .ref h4)]) hx hb dL_isHeld_20 hl (by decide) rfl (fun ls hl => ?_)
      refine mw_iconst hx hb dL_isHeld_22 ?_
      exact mw_wret hx hb hr hlocks dL_isHeld_23 G0 (by rw [hexk]; rfl) (fun h9 => by omega) hP2 hS
    | 1, hexk, hes =>
      cases hes
      refine vx_catch (own := RL) (name := mEA) (E := mEA) hown [⟨0, 17, 20, 20⟩] ⟨0, 17, 24, 13⟩ [] htab (fun z hz => by
        cases List.mem_singleton.mp hz; exact Or.inr ⟨by decide, mEI, hts (.classLink RL 20 mEI) (by decide +kernel), hN.2.1⟩) (by decide) (by decide) (hts (.classLink RL 13 mEA) (by decide +kernel)) (va_Nw.use rfl hE.1.2.2.2.2.2.1) hce hcv hcl ?_
      refine lv_astore (lv' := [(4, .ref q9), (0, .ref h0), (1, .int (mI (m9))), (2, .int (mI (d))), (3, .ref h4)]) hx hb dL_isHeld_24 hl (by decide) rfl (fun ls hl => ?_)
      refine mw_iconst hx hb dL_isHeld_26 ?_
      exact mw_wret hx hb hr hlocks dL_isHeld_27 G0 (by rw [hexk]; rfl) (fun h9 => by omega) hP2 hS
    | k + 2, hexk, hes => simp at hes

set_option maxHeartbeats 400000 in
set_option maxRecDepth 100000 in
theorem w_next (l : Launch) (hfl : l.flags = flags0) (D : va_G) (h0 a1 a2 h4 : Nat) (cA cJ : ClassId) (G0 : Nat → Int64) (v : Nat → Int) (L P : Int → Int) (m9 d : Int) (hm9 : mRI m9) (hd9 : mRI d) (hok : mOK v L P) (hdis : mDis4 h0 a1 a2 h4) : mW l yL_next wsL_next ({ frames := 9, cells := 1, slots := 6, locals := 152 }) [.ref h0, .int (mI (m9)), .int (mI (d)), .ref h4] D (mXW h0 a1 a2 cA v L P ++ [(h4, mOut cJ G0)]) (mTy cA cJ) (mEx2 (mMk v m9) (mDay d)) (fun r => r = mL (d + (P m9 - d) % L m9)) (fun F => mXW h0 a1 a2 cA v L P ++ [(h4, mOut cJ F)]) (mA4 h0 a1 a2 h4) := by
  refine mw_openW (cc := cL_next) (maxL := 5) (ret := (some .int)) (hh := [(0, 10, 13, 20), (0, 10, 17, 13)]) (by decide) rfl (Nat.le_of_ble_eq_true rfl) ?_
  intro p e s m below meth c ls hC hr hlocks htab hB hE hN hl
  obtain ⟨hx, hb, hml, hown, hts⟩ := id hC
  obtain ⟨hP, hK⟩ := hB
  have hPx := hP.sub (ws' := mXW h0 a1 a2 cA v L P) [0, 1, 2] rfl
  obtain ⟨-, d4, d5, d6⟩ := id hdis
  have hl : lv_has ls 5 [(0, .ref h0), (1, .int (mI (m9))), (2, .int (mI (d))), (3, .ref h4)] := hl
  refine lv_aload_n hx hb dL_next_0 rfl (lv_at hl 3 rfl) ?_
  refine mw_iconst hx hb dL_next_1 ?_
  refine lv_aload_n hx hb dL_next_2 rfl (lv_at hl 0 rfl) ?_
  refine lv_iload_n hx hb dL_next_3 rfl (lv_at hl 1 rfl) ?_
  refine lv_iload_n hx hb dL_next_4 rfl (lv_at hl 2 rfl) ?_
  refine mw_cX (rest := [.int (mI (0)), .ref h4]) (A0 := mA4 h0 a1 a2 h4) hC (x_X0_next l hfl D h0 a1 a2 cA cJ v L P m9 d hm9 hd9 hok) hE (cwV 2 hts gL_next_X0_next rfl rfl rfl (by decide +kernel) ⟨Nat.le_of_ble_eq_true rfl, Nat.le_of_ble_eq_true rfl⟩) hK hPx (fun _ h => h.elim) rfl rfl hl.1 rfl (Nat.le_of_ble_eq_true rfl) ⟨Nat.le_of_ble_eq_true rfl, Nat.le_of_ble_eq_true rfl⟩ dL_next_5 (fun H1 locs1 hex hP1 hS hk => ?_) (fun E ce q9 H1 locs1 k hexk hes hk hS hce hcv hcl => ?_)
  · have hPo : va_P D vwCl [(h4, mOut cJ G0)] H1 := (hP.sub (ws' := [(h4, mOut cJ G0)]) [3] rfl).kept (fun k q hq => by
      match k, hq with
      | 0, hq => cases hq; exact hk h4 (hP 3 _ rfl).lt (fun q => q)
      | k + 1, hq => simp at hq)
    have hP2 : va_P D vwCl (mXW h0 a1 a2 cA v L P ++ [(h4, mOut cJ G0)]) H1 := va_P.app hP1 hPo
    have hrg : mRI (d + (P m9 - d) % L m9) := rg_next hok m9 d hm9 hd9 hex
    refine W.eq (g2 := F0 m 8 ls [.int (mI (d + (P m9 - d) % L m9)), .int (mI (0)), .ref h4]) rfl ?_
    refine mw_i2l hx hb hrg dL_next_8 ?_
    refine mw_last hx hb hK hP2 (mD4 hdis (mA4_in h0 a1 a2 h4)) hS 3 rfl rfl dL_next_9 (fun H2 locs2 F1 hF1 hP3 hS => ?_)
    have hP3 : va_P D vwCl (mXW h0 a1 a2 cA v L P ++ [(h4, mOut cJ F1)]) H2 := hP3
    refine lv_goto (tgt := 21) hx hb dL_next_10 (by decide) ?_
    refine mw_iconst hx hb dL_next_21 ?_
    exact mw_wret hx hb hr hlocks dL_next_22 F1 (by rw [hex]; rfl) (fun _ => hF1) hP3 hS
  · have hP2 : va_P D vwCl (mXW h0 a1 a2 cA v L P ++ [(h4, mOut cJ G0)]) H1 := mw_keepP hP hk
    match k, hexk, hes with
    | 0, hexk, hes =>
      cases hes
      refine vx_catch (own := RL) (name := mEI) (E := mEI) hown [] ⟨0, 10, 13, 20⟩ [⟨0, 10, 17, 13⟩] htab (fun z hz => nomatch hz) (by decide) (by decide) (hts (.classLink RL 20 mEI) (by decide +kernel)) (va_Nw.use rfl hE.1.2.2.2.2.2.2.2.1) hce hcv hcl ?_
      refine lv_astore (lv' := [(4, .ref q9), (0, .ref h0), (1, .int (mI (m9))), (2, .int (mI (d))), (3, .ref h4)]) hx hb dL_next_13 hl (by decide) rfl (fun ls hl => ?_)
      refine mw_iconst hx hb dL_next_15 ?_
      exact mw_wret hx hb hr hlocks dL_next_16 G0 (by rw [hexk]; rfl) (fun h9 => by omega) hP2 hS
    | 1, hexk, hes =>
      cases hes
      refine vx_catch (own := RL) (name := mEA) (E := mEA) hown [⟨0, 10, 13, 20⟩] ⟨0, 10, 17, 13⟩ [] htab (fun z hz => by
        cases List.mem_singleton.mp hz; exact Or.inr ⟨by decide, mEI, hts (.classLink RL 20 mEI) (by decide +kernel), hN.2.1⟩) (by decide) (by decide) (hts (.classLink RL 13 mEA) (by decide +kernel)) (va_Nw.use rfl hE.1.2.2.2.2.2.1) hce hcv hcl ?_
      refine lv_astore (lv' := [(4, .ref q9), (0, .ref h0), (1, .int (mI (m9))), (2, .int (mI (d))), (3, .ref h4)]) hx hb dL_next_17 hl (by decide) rfl (fun ls hl => ?_)
      refine mw_iconst hx hb dL_next_19 ?_
      exact mw_wret hx hb hr hlocks dL_next_20 G0 (by rw [hexk]; rfl) (fun h9 => by omega) hP2 hS
    | k + 2, hexk, hes => simp at hes

set_option maxHeartbeats 400000 in
set_option maxRecDepth 100000 in
theorem w_nearest (l : Launch) (hfl : l.flags = flags0) (D : va_G) (h0 a1 a2 h4 : Nat) (cA cJ : ClassId) (G0 : Nat → Int64) (v : Nat → Int) (L P : Int → Int) (m9 d : Int) (hm9 : mRI m9) (hd9 : mRI d) (hok : mOK v L P) (hdis : mDis4 h0 a1 a2 h4) : mW l yL_nearest wsL_nearest ({ frames := 9, cells := 1, slots := 6, locals := 155 }) [.ref h0, .int (mI (m9)), .int (mI (d)), .ref h4] D (mXW h0 a1 a2 cA v L P ++ [(h4, mOut cJ G0)]) (mTy cA cJ) (mEx2 (mMk v m9) (mDay d)) (fun r => r = mL (mNear L P m9 d)) (fun F => mXW h0 a1 a2 cA v L P ++ [(h4, mOut cJ F)]) (mA4 h0 a1 a2 h4) := by
  refine mw_openW (cc := cL_nearest) (maxL := 5) (ret := (some .int)) (hh := [(0, 10, 13, 20), (0, 10, 17, 13)]) (by decide) rfl (Nat.le_of_ble_eq_true rfl) ?_
  intro p e s m below meth c ls hC hr hlocks htab hB hE hN hl
  obtain ⟨hx, hb, hml, hown, hts⟩ := id hC
  obtain ⟨hP, hK⟩ := hB
  have hPx := hP.sub (ws' := mXW h0 a1 a2 cA v L P) [0, 1, 2] rfl
  obtain ⟨-, d4, d5, d6⟩ := id hdis
  have hl : lv_has ls 5 [(0, .ref h0), (1, .int (mI (m9))), (2, .int (mI (d))), (3, .ref h4)] := hl
  refine lv_aload_n hx hb dL_nearest_0 rfl (lv_at hl 3 rfl) ?_
  refine mw_iconst hx hb dL_nearest_1 ?_
  refine lv_aload_n hx hb dL_nearest_2 rfl (lv_at hl 0 rfl) ?_
  refine lv_iload_n hx hb dL_nearest_3 rfl (lv_at hl 1 rfl) ?_
  refine lv_iload_n hx hb dL_nearest_4 rfl (lv_at hl 2 rfl) ?_
  refine mw_cX (rest := [.int (mI (0)), .ref h4]) (A0 := mA4 h0 a1 a2 h4) hC (x_X0_nearest l hfl D h0 a1 a2 cA cJ v L P m9 d hm9 hd9 hok) hE (cwV 2 hts gL_nearest_X0_nearest rfl rfl rfl (by decide +kernel) ⟨Nat.le_of_ble_eq_true rfl, Nat.le_of_ble_eq_true rfl⟩) hK hPx (fun _ h => h.elim) rfl rfl hl.1 rfl (Nat.le_of_ble_eq_true rfl) ⟨Nat.le_of_ble_eq_true rfl, Nat.le_of_ble_eq_true rfl⟩ dL_nearest_5 (fun H1 locs1 hex hP1 hS hk => ?_) (fun E ce q9 H1 locs1 k hexk hes hk hS hce hcv hcl => ?_)
  · have hPo : va_P D vwCl [(h4, mOut cJ G0)] H1 := (hP.sub (ws' := [(h4, mOut cJ G0)]) [3] rfl).kept (fun k q hq => by
      match k, hq with
      | 0, hq => cases hq; exact hk h4 (hP 3 _ rfl).lt (fun q => q)
      | k + 1, hq => simp at hq)
    have hP2 : va_P D vwCl (mXW h0 a1 a2 cA v L P ++ [(h4, mOut cJ G0)]) H1 := va_P.app hP1 hPo
    have hrg : mRI (mNear L P m9 d) := rg_nearest hok m9 d hm9 hd9 hex
    refine W.eq (g2 := F0 m 8 ls [.int (mI (mNear L P m9 d)), .int (mI (0)), .ref h4]) rfl ?_
    refine mw_i2l hx hb hrg dL_nearest_8 ?_
    refine mw_last hx hb hK hP2 (mD4 hdis (mA4_in h0 a1 a2 h4)) hS 3 rfl rfl dL_nearest_9 (fun H2 locs2 F1 hF1 hP3 hS => ?_)
    have hP3 : va_P D vwCl (mXW h0 a1 a2 cA v L P ++ [(h4, mOut cJ F1)]) H2 := hP3
    refine lv_goto (tgt := 21) hx hb dL_nearest_10 (by decide) ?_
    refine mw_iconst hx hb dL_nearest_21 ?_
    exact mw_wret hx hb hr hlocks dL_nearest_22 F1 (by rw [hex]; rfl) (fun _ => hF1) hP3 hS
  · have hP2 : va_P D vwCl (mXW h0 a1 a2 cA v L P ++ [(h4, mOut cJ G0)]) H1 := mw_keepP hP hk
    match k, hexk, hes with
    | 0, hexk, hes =>
      cases hes
      refine vx_catch (own := RL) (name := mEI) (E := mEI) hown [] ⟨0, 10, 13, 20⟩ [⟨0, 10, 17, 13⟩] htab (fun z hz => nomatch hz) (by decide) (by decide) (hts (.classLink RL 20 mEI) (by decide +kernel)) (va_Nw.use rfl hE.1.2.2.2.2.2.2.2.1) hce hcv hcl ?_
      refine lv_astore (lv' := [(4, .ref q9), (0, .ref h0), (1, .int (mI (m9))), (2, .int (mI (d))), (3, .ref h4)]) hx hb dL_nearest_13 hl (by decide) rfl (fun ls hl => ?_)
      refine mw_iconst hx hb dL_nearest_15 ?_
      exact mw_wret hx hb hr hlocks dL_nearest_16 G0 (by rw [hexk]; rfl) (fun h9 => by omega) hP2 hS
    | 1, hexk, hes =>
      cases hes
      refine vx_catch (own := RL) (name := mEA) (E := mEA) hown [⟨0, 10, 13, 20⟩] ⟨0, 10, 17, 13⟩ [] htab (fun z hz => by
        cases List.mem_singleton.mp hz; exact Or.inr ⟨by decide, mEI, hts (.classLink RL 20 mEI) (by decide +kernel), hN.2.1⟩) (by decide) (by decide) (hts (.classLink RL 13 mEA) (by decide +kernel)) (va_Nw.use rfl hE.1.2.2.2.2.2.1) hce hcv hcl ?_
      refine lv_astore (lv' := [(4, .ref q9), (0, .ref h0), (1, .int (mI (m9))), (2, .int (mI (d))), (3, .ref h4)]) hx hb dL_nearest_17 hl (by decide) rfl (fun ls hl => ?_)
      refine mw_iconst hx hb dL_nearest_19 ?_
      exact mw_wret hx hb hr hlocks dL_nearest_20 G0 (by rw [hexk]; rfl) (fun h9 => by omega) hP2 hS
    | k + 2, hexk, hes => simp at hes

set_option maxHeartbeats 400000 in
set_option maxRecDepth 100000 in
theorem w_times (l : Launch) (hfl : l.flags = flags0) (D : va_G) (h0 a1 a2 h4 : Nat) (cA cJ : ClassId) (G0 : Nat → Int64) (v : Nat → Int) (L P : Int → Int) (m9 a b : Int) (hm9 : mRI m9) (ha : mRI a) (hb9 : mRI b) (hok : mOK v L P) (hdis : mDis4 h0 a1 a2 h4) : mW l yL_times wsL_times ({ frames := 9, cells := 1, slots := 6, locals := 153 }) [.ref h0, .int (mI (m9)), .int (mI (a)), .int (mI (b)), .ref h4] D (mXW h0 a1 a2 cA v L P ++ [(h4, mOut cJ G0)]) (mTy cA cJ) (mEx2 (mMk v m9) (mDay a ∧ mDay b ∧ a ≤ b)) (fun r => r = mL (mCnt L P m9 a b)) (fun F => mXW h0 a1 a2 cA v L P ++ [(h4, mOut cJ F)]) (mA4 h0 a1 a2 h4) := by
  refine mw_openW (cc := cL_times) (maxL := 6) (ret := (some .int)) (hh := [(0, 12, 15, 20), (0, 12, 19, 13)]) (by decide) rfl (Nat.le_of_ble_eq_true rfl) ?_
  intro p e s m below meth c ls hC hr hlocks htab hB hE hN hl
  obtain ⟨hx, hb, hml, hown, hts⟩ := id hC
  obtain ⟨hP, hK⟩ := hB
  have hPx := hP.sub (ws' := mXW h0 a1 a2 cA v L P) [0, 1, 2] rfl
  obtain ⟨-, d4, d5, d6⟩ := id hdis
  have hl : lv_has ls 6 [(0, .ref h0), (1, .int (mI (m9))), (2, .int (mI (a))), (3, .int (mI (b))), (4, .ref h4)] := hl
  refine lv_aload hx hb dL_times_0 (lv_at hl 4 rfl) ?_
  refine mw_iconst hx hb dL_times_2 ?_
  refine lv_aload_n hx hb dL_times_3 rfl (lv_at hl 0 rfl) ?_
  refine lv_iload_n hx hb dL_times_4 rfl (lv_at hl 1 rfl) ?_
  refine lv_iload_n hx hb dL_times_5 rfl (lv_at hl 2 rfl) ?_
  refine lv_iload_n hx hb dL_times_6 rfl (lv_at hl 3 rfl) ?_
  refine mw_cX (rest := [.int (mI (0)), .ref h4]) (A0 := mA4 h0 a1 a2 h4) hC (x_X0_times l hfl D h0 a1 a2 cA cJ v L P m9 a b hm9 ha hb9 hok) hE (cwV 3 hts gL_times_X0_times rfl rfl rfl (by decide +kernel) ⟨Nat.le_of_ble_eq_true rfl, Nat.le_of_ble_eq_true rfl⟩) hK hPx (fun _ h => h.elim) rfl rfl hl.1 rfl (Nat.le_of_ble_eq_true rfl) ⟨Nat.le_of_ble_eq_true rfl, Nat.le_of_ble_eq_true rfl⟩ dL_times_7 (fun H1 locs1 hex hP1 hS hk => ?_) (fun E ce q9 H1 locs1 k hexk hes hk hS hce hcv hcl => ?_)
  · have hPo : va_P D vwCl [(h4, mOut cJ G0)] H1 := (hP.sub (ws' := [(h4, mOut cJ G0)]) [3] rfl).kept (fun k q hq => by
      match k, hq with
      | 0, hq => cases hq; exact hk h4 (hP 3 _ rfl).lt (fun q => q)
      | k + 1, hq => simp at hq)
    have hP2 : va_P D vwCl (mXW h0 a1 a2 cA v L P ++ [(h4, mOut cJ G0)]) H1 := va_P.app hP1 hPo
    have hrg : mRI (mCnt L P m9 a b) := rg_times hok m9 a b hm9 ha hb9 hex
    refine W.eq (g2 := F0 m 10 ls [.int (mI (mCnt L P m9 a b)), .int (mI (0)), .ref h4]) rfl ?_
    refine mw_i2l hx hb hrg dL_times_10 ?_
    refine mw_last hx hb hK hP2 (mD4 hdis (mA4_in h0 a1 a2 h4)) hS 3 rfl rfl dL_times_11 (fun H2 locs2 F1 hF1 hP3 hS => ?_)
    have hP3 : va_P D vwCl (mXW h0 a1 a2 cA v L P ++ [(h4, mOut cJ F1)]) H2 := hP3
    refine lv_goto (tgt := 23) hx hb dL_times_12 (by decide) ?_
    refine mw_iconst hx hb dL_times_23 ?_
    exact mw_wret hx hb hr hlocks dL_times_24 F1 (by rw [hex]; rfl) (fun _ => hF1) hP3 hS
  · have hP2 : va_P D vwCl (mXW h0 a1 a2 cA v L P ++ [(h4, mOut cJ G0)]) H1 := mw_keepP hP hk
    match k, hexk, hes with
    | 0, hexk, hes =>
      cases hes
      refine vx_catch (own := RL) (name := mEI) (E := mEI) hown [] ⟨0, 12, 15, 20⟩ [⟨0, 12, 19, 13⟩] htab (fun z hz => nomatch hz) (by decide) (by decide) (hts (.classLink RL 20 mEI) (by decide +kernel)) (va_Nw.use rfl hE.1.2.2.2.2.2.2.2.1) hce hcv hcl ?_
      refine lv_astore (lv' := [(5, .ref q9), (0, .ref h0), (1, .int (mI (m9))), (2, .int (mI (a))), (3, .int (mI (b))), (4, .ref h4)]) hx hb dL_times_15 hl (by decide) rfl (fun ls hl => ?_)
      refine mw_iconst hx hb dL_times_17 ?_
      exact mw_wret hx hb hr hlocks dL_times_18 G0 (by rw [hexk]; rfl) (fun h9 => by omega) hP2 hS
    | 1, hexk, hes =>
      cases hes
      refine vx_catch (own := RL) (name := mEA) (E := mEA) hown [⟨0, 12, 15, 20⟩] ⟨0, 12, 19, 13⟩ [] htab (fun z hz => by
        cases List.mem_singleton.mp hz; exact Or.inr ⟨by decide, mEI, hts (.classLink RL 20 mEI) (by decide +kernel), hN.2.1⟩) (by decide) (by decide) (hts (.classLink RL 13 mEA) (by decide +kernel)) (va_Nw.use rfl hE.1.2.2.2.2.2.1) hce hcv hcl ?_
      refine lv_astore (lv' := [(5, .ref q9), (0, .ref h0), (1, .int (mI (m9))), (2, .int (mI (a))), (3, .int (mI (b))), (4, .ref h4)]) hx hb dL_times_19 hl (by decide) rfl (fun ls hl => ?_)
      refine mw_iconst hx hb dL_times_21 ?_
      exact mw_wret hx hb hr hlocks dL_times_22 G0 (by rw [hexk]; rfl) (fun h9 => by omega) hP2 hS
    | k + 2, hexk, hes => simp at hes

set_option maxHeartbeats 400000 in
set_option maxRecDepth 100000 in
theorem w_heldOn (l : Launch) (hfl : l.flags = flags0) (D : va_G) (h0 a1 a2 h4 : Nat) (cA cJ : ClassId) (G0 : Nat → Int64) (v : Nat → Int) (L P : Int → Int) (d : Int) (hd9 : mRI d) (hok : mOK v L P) (hdis : mDis4 h0 a1 a2 h4) : mW l yL_heldOn wsL_heldOn ({ frames := 9, cells := 1, slots := 6, locals := 151 }) [.ref h0, .int (mI (d)), .ref h4] D (mXW h0 a1 a2 cA v L P ++ [(h4, mOut cJ G0)]) (mTy cA cJ) (mEx1 (mDay d)) (fun r => r = mL (mSet L P d (v 0).toNat)) (fun F => mXW h0 a1 a2 cA v L P ++ [(h4, mOut cJ F)]) (mA4 h0 a1 a2 h4) := by
  refine mw_openW (cc := cL_heldOn) (maxL := 4) (ret := (some .int)) (hh := [(0, 9, 12, 13)]) (by decide) rfl (Nat.le_of_ble_eq_true rfl) ?_
  intro p e s m below meth c ls hC hr hlocks htab hB hE hN hl
  obtain ⟨hx, hb, hml, hown, hts⟩ := id hC
  obtain ⟨hP, hK⟩ := hB
  have hPx := hP.sub (ws' := mXW h0 a1 a2 cA v L P) [0, 1, 2] rfl
  obtain ⟨-, d4, d5, d6⟩ := id hdis
  have hl : lv_has ls 4 [(0, .ref h0), (1, .int (mI (d))), (2, .ref h4)] := hl
  refine lv_aload_n hx hb dL_heldOn_0 rfl (lv_at hl 2 rfl) ?_
  refine mw_iconst hx hb dL_heldOn_1 ?_
  refine lv_aload_n hx hb dL_heldOn_2 rfl (lv_at hl 0 rfl) ?_
  refine lv_iload_n hx hb dL_heldOn_3 rfl (lv_at hl 1 rfl) ?_
  refine mw_cX (rest := [.int (mI (0)), .ref h4]) (A0 := mA4 h0 a1 a2 h4) hC (x_X0_heldOn l hfl D h0 a1 a2 cA cJ v L P d hd9 hok) hE (cwV 1 hts gL_heldOn_X0_heldOn rfl rfl rfl (by decide +kernel) ⟨Nat.le_of_ble_eq_true rfl, Nat.le_of_ble_eq_true rfl⟩) hK hPx (fun _ h => h.elim) rfl rfl hl.1 rfl (Nat.le_of_ble_eq_true rfl) ⟨Nat.le_of_ble_eq_true rfl, Nat.le_of_ble_eq_true rfl⟩ dL_heldOn_4 (fun H1 locs1 hex hP1 hS hk => ?_) (fun E ce q9 H1 locs1 k hexk hes hk hS hce hcv hcl => ?_)
  · have hPo : va_P D vwCl [(h4, mOut cJ G0)] H1 := (hP.sub (ws' := [(h4, mOut cJ G0)]) [3] rfl).kept (fun k q hq => by
      match k, hq with
      | 0, hq => cases hq; exact hk h4 (hP 3 _ rfl).lt (fun q => q)
      | k + 1, hq => simp at hq)
    have hP2 : va_P D vwCl (mXW h0 a1 a2 cA v L P ++ [(h4, mOut cJ G0)]) H1 := va_P.app hP1 hPo
    have hrg : mRI (mSet L P d (v 0).toNat) := rg_heldOn hok d hd9 hex
    refine W.eq (g2 := F0 m 7 ls [.int (mI (mSet L P d (v 0).toNat)), .int (mI (0)), .ref h4]) rfl ?_
    refine mw_i2l hx hb hrg dL_heldOn_7 ?_
    refine mw_last hx hb hK hP2 (mD4 hdis (mA4_in h0 a1 a2 h4)) hS 3 rfl rfl dL_heldOn_8 (fun H2 locs2 F1 hF1 hP3 hS => ?_)
    have hP3 : va_P D vwCl (mXW h0 a1 a2 cA v L P ++ [(h4, mOut cJ F1)]) H2 := hP3
    refine lv_goto (tgt := 15) hx hb dL_heldOn_9 (by decide) ?_
    refine mw_iconst hx hb dL_heldOn_15 ?_
    exact mw_wret hx hb hr hlocks dL_heldOn_16 F1 (by rw [hex]; rfl) (fun _ => hF1) hP3 hS
  · have hP2 : va_P D vwCl (mXW h0 a1 a2 cA v L P ++ [(h4, mOut cJ G0)]) H1 := mw_keepP hP hk
    match k, hexk, hes with
    | 0, hexk, hes =>
      cases hes
      refine vx_catch (own := RL) (name := mEA) (E := mEA) hown [] ⟨0, 9, 12, 13⟩ [] htab (fun z hz => nomatch hz) (by decide) (by decide) (hts (.classLink RL 13 mEA) (by decide +kernel)) (va_Nw.use rfl hE.1.2.2.2.2.2.1) hce hcv hcl ?_
      refine lv_astore_n (lv' := [(3, .ref q9), (0, .ref h0), (1, .int (mI (d))), (2, .ref h4)]) hx hb dL_heldOn_12 rfl hl (by decide) rfl (fun ls hl => ?_)
      refine mw_iconst hx hb dL_heldOn_13 ?_
      exact mw_wret hx hb hr hlocks dL_heldOn_14 G0 (by rw [hexk]; rfl) (fun h9 => by omega) hP2 hS
    | k + 1, hexk, hes => simp at hes

set_option maxHeartbeats 400000 in
set_option maxRecDepth 100000 in
theorem w_doMeet (l : Launch) (hfl : l.flags = flags0) (D : va_G) (h0 a1 a2 h4 : Nat) (cA cJ : ClassId) (G0 : Nat → Int64) (v : Nat → Int) (L P : Int → Int) (z : Int) (hz : mRI z) (hok : mOK v L P) (hdis : mDis4 h0 a1 a2 h4) : mW l yL_doMeet wsL_doMeet ({ frames := 9, cells := 1, slots := 6, locals := 153 }) [.ref h0, .int (mI (z)), .ref h4] D (mXW h0 a1 a2 cA v L P ++ [(h4, mOut cJ G0)]) (mTy cA cJ) (mEx2 (1 ≤ mPop z 32 ∧ mPop z 32 ≤ 5) (mUsh z (v 0) = 0)) (fun r => r = mL (mB (mMts v L P z))) (fun F => mXW h0 a1 a2 cA v L P ++ [(h4, mOut cJ F)]) (mA4 h0 a1 a2 h4) := by
  refine mw_openW (cc := cL_doMeet) (maxL := 4) (ret := (some .int)) (hh := [(0, 16, 19, 13), (0, 16, 22, 20)]) (by decide) rfl (Nat.le_of_ble_eq_true rfl) ?_
  intro p e s m below meth c ls hC hr hlocks htab hB hE hN hl
  obtain ⟨hx, hb, hml, hown, hts⟩ := id hC
  obtain ⟨hP, hK⟩ := hB
  have hPx := hP.sub (ws' := mXW h0 a1 a2 cA v L P) [0, 1, 2] rfl
  obtain ⟨-, d4, d5, d6⟩ := id hdis
  have hl : lv_has ls 4 [(0, .ref h0), (1, .int (mI (z))), (2, .ref h4)] := hl
  refine lv_aload_n hx hb dL_doMeet_0 rfl (lv_at hl 2 rfl) ?_
  refine mw_iconst hx hb dL_doMeet_1 ?_
  refine lv_aload_n hx hb dL_doMeet_2 rfl (lv_at hl 0 rfl) ?_
  refine lv_iload_n hx hb dL_doMeet_3 rfl (lv_at hl 1 rfl) ?_
  refine mw_cX (rest := [.int (mI (0)), .ref h4]) (A0 := mA4 h0 a1 a2 h4) hC (x_X0_doMeet l hfl D h0 a1 a2 cA cJ v L P z hz hok) hE (cwV 1 hts gL_doMeet_X0_doMeet rfl rfl rfl (by decide +kernel) ⟨Nat.le_of_ble_eq_true rfl, Nat.le_of_ble_eq_true rfl⟩) hK hPx (fun _ h => h.elim) rfl rfl hl.1 rfl (Nat.le_of_ble_eq_true rfl) ⟨Nat.le_of_ble_eq_true rfl, Nat.le_of_ble_eq_true rfl⟩ dL_doMeet_4 (fun H1 locs1 hex hP1 hS hk => ?_) (fun E ce q9 H1 locs1 k hexk hes hk hS hce hcv hcl => ?_)
  · have hPo : va_P D vwCl [(h4, mOut cJ G0)] H1 := (hP.sub (ws' := [(h4, mOut cJ G0)]) [3] rfl).kept (fun k q hq => by
      match k, hq with
      | 0, hq => cases hq; exact hk h4 (hP 3 _ rfl).lt (fun q => q)
      | k + 1, hq => simp at hq)
    have hP2 : va_P D vwCl (mXW h0 a1 a2 cA v L P ++ [(h4, mOut cJ G0)]) H1 := va_P.app hP1 hPo
    refine W.eq (g2 := F0 m 7 ls [.int (mI (mB (mMts v L P z))), .int (mI (0)), .ref h4]) rfl ?_
    refine mw_zeq (tgt := 14) hx hb dL_doMeet_7 (by decide) (fun c_7 => ?_) (fun c_7 => ?_)
    · refine mw_lconst hx hb 0 (by decide +kernel) dL_doMeet_14 ?_
      refine mw_last hx hb hK hP2 (mD4 hdis (mA4_in h0 a1 a2 h4)) hS 3 rfl rfl dL_doMeet_15 (fun H2 locs2 F1 hF1 hP3 hS => ?_)
      have hP3 : va_P D vwCl (mXW h0 a1 a2 cA v L P ++ [(h4, mOut cJ F1)]) H2 := hP3
      refine lv_goto (tgt := 25) hx hb dL_doMeet_16 (by decide) ?_
      refine mw_iconst hx hb dL_doMeet_25 ?_
      exact mw_wret hx hb hr hlocks dL_doMeet_26 F1 (by rw [hex]; rfl) (fun _ => (by rw [hF1, mB_f c_7])) hP3 hS
    · refine mw_lconst hx hb 1 (by decide +kernel) dL_doMeet_10 ?_
      refine lv_goto (tgt := 15) hx hb dL_doMeet_11 (by decide) ?_
      refine mw_last hx hb hK hP2 (mD4 hdis (mA4_in h0 a1 a2 h4)) hS 3 rfl rfl dL_doMeet_15 (fun H2 locs2 F1 hF1 hP3 hS => ?_)
      have hP3 : va_P D vwCl (mXW h0 a1 a2 cA v L P ++ [(h4, mOut cJ F1)]) H2 := hP3
      refine lv_goto (tgt := 25) hx hb dL_doMeet_16 (by decide) ?_
      refine mw_iconst hx hb dL_doMeet_25 ?_
      exact mw_wret hx hb hr hlocks dL_doMeet_26 F1 (by rw [hex]; rfl) (fun _ => (by rw [hF1, mB_t c_7])) hP3 hS
  · have hP2 : va_P D vwCl (mXW h0 a1 a2 cA v L P ++ [(h4, mOut cJ G0)]) H1 := mw_keepP hP hk
    match k, hexk, hes with
    | 0, hexk, hes =>
      cases hes
      refine vx_catch (own := RL) (name := mEA) (E := mEA) hown [] ⟨0, 16, 19, 13⟩ [⟨0, 16, 22, 20⟩] htab (fun z hz => nomatch hz) (by decide) (by decide) (hts (.classLink RL 13 mEA) (by decide +kernel)) (va_Nw.use rfl hE.1.2.2.2.2.2.1) hce hcv hcl ?_
      refine lv_astore_n (lv' := [(3, .ref q9), (0, .ref h0), (1, .int (mI (z))), (2, .ref h4)]) hx hb dL_doMeet_19 rfl hl (by decide) rfl (fun ls hl => ?_)
      refine mw_iconst hx hb dL_doMeet_20 ?_
      exact mw_wret hx hb hr hlocks dL_doMeet_21 G0 (by rw [hexk]; rfl) (fun h9 => by omega) hP2 hS
    | 1, hexk, hes =>
      cases hes
      refine vx_catch (own := RL) (name := mEI) (E := mEI) hown [⟨0, 16, 19, 13⟩] ⟨0, 16, 22, 20⟩ [] htab (fun z hz => by
        cases List.mem_singleton.mp hz; exact Or.inr ⟨by decide, mEA, hts (.classLink RL 13 mEA) (by decide +kernel), hN.2.2.2.2.1⟩) (by decide) (by decide) (hts (.classLink RL 20 mEI) (by decide +kernel)) (va_Nw.use rfl hE.1.2.2.2.2.2.2.2.1) hce hcv hcl ?_
      refine lv_astore_n (lv' := [(3, .ref q9), (0, .ref h0), (1, .int (mI (z))), (2, .ref h4)]) hx hb dL_doMeet_22 rfl hl (by decide) rfl (fun ls hl => ?_)
      refine mw_iconst hx hb dL_doMeet_23 ?_
      exact mw_wret hx hb hr hlocks dL_doMeet_24 G0 (by rw [hexk]; rfl) (fun h9 => by omega) hP2 hS
    | k + 2, hexk, hes => simp at hes

set_option maxHeartbeats 400000 in
set_option maxRecDepth 100000 in
theorem w_period (l : Launch) (hfl : l.flags = flags0) (D : va_G) (h0 a1 a2 h4 : Nat) (cA cJ : ClassId) (G0 : Nat → Int64) (v : Nat → Int) (L P : Int → Int) (z : Int) (hz : mRI z) (hok : mOK v L P) (hdis : mDis4 h0 a1 a2 h4) : mW l yL_period wsL_period ({ frames := 9, cells := 1, slots := 6, locals := 153 }) [.ref h0, .int (mI (z)), .ref h4] D (mXW h0 a1 a2 cA v L P ++ [(h4, mOut cJ G0)]) (mTy cA cJ) (mEx3 (1 ≤ mPop z 32 ∧ mPop z 32 ≤ 5) (mUsh z (v 0) = 0) (mMts v L P z)) (fun r => r = mL (mSt (mFd L P z 0 (v 0).toNat))) (fun F => mXW h0 a1 a2 cA v L P ++ [(h4, mOut cJ F)]) (mA4 h0 a1 a2 h4) := by
  refine mw_openW (cc := cL_period) (maxL := 4) (ret := (some .int)) (hh := [(0, 9, 12, 13), (0, 9, 15, 20), (0, 9, 18, 15)]) (by decide) rfl (Nat.le_of_ble_eq_true rfl) ?_
  intro p e s m below meth c ls hC hr hlocks htab hB hE hN hl
  obtain ⟨hx, hb, hml, hown, hts⟩ := id hC
  obtain ⟨hP, hK⟩ := hB
  have hPx := hP.sub (ws' := mXW h0 a1 a2 cA v L P) [0, 1, 2] rfl
  obtain ⟨-, d4, d5, d6⟩ := id hdis
  have hl : lv_has ls 4 [(0, .ref h0), (1, .int (mI (z))), (2, .ref h4)] := hl
  refine lv_aload_n hx hb dL_period_0 rfl (lv_at hl 2 rfl) ?_
  refine mw_iconst hx hb dL_period_1 ?_
  refine lv_aload_n hx hb dL_period_2 rfl (lv_at hl 0 rfl) ?_
  refine lv_iload_n hx hb dL_period_3 rfl (lv_at hl 1 rfl) ?_
  refine mw_cX (rest := [.int (mI (0)), .ref h4]) (A0 := mA4 h0 a1 a2 h4) hC (x_X0_period l hfl D h0 a1 a2 cA cJ v L P z hz hok) hE (cwV 1 hts gL_period_X0_period rfl rfl rfl (by decide +kernel) ⟨Nat.le_of_ble_eq_true rfl, Nat.le_of_ble_eq_true rfl⟩) hK hPx (fun _ h => h.elim) rfl rfl hl.1 rfl (Nat.le_of_ble_eq_true rfl) ⟨Nat.le_of_ble_eq_true rfl, Nat.le_of_ble_eq_true rfl⟩ dL_period_4 (fun H1 locs1 hex hP1 hS hk => ?_) (fun E ce q9 H1 locs1 k hexk hes hk hS hce hcv hcl => ?_)
  · have hPo : va_P D vwCl [(h4, mOut cJ G0)] H1 := (hP.sub (ws' := [(h4, mOut cJ G0)]) [3] rfl).kept (fun k q hq => by
      match k, hq with
      | 0, hq => cases hq; exact hk h4 (hP 3 _ rfl).lt (fun q => q)
      | k + 1, hq => simp at hq)
    have hP2 : va_P D vwCl (mXW h0 a1 a2 cA v L P ++ [(h4, mOut cJ G0)]) H1 := va_P.app hP1 hPo
    have hrg : mRI (mSt (mFd L P z 0 (v 0).toNat)) := rg_period hok z hz hex
    refine W.eq (g2 := F0 m 7 ls [.int (mI (mSt (mFd L P z 0 (v 0).toNat))), .int (mI (0)), .ref h4]) rfl ?_
    refine mw_i2l hx hb hrg dL_period_7 ?_
    refine mw_last hx hb hK hP2 (mD4 hdis (mA4_in h0 a1 a2 h4)) hS 3 rfl rfl dL_period_8 (fun H2 locs2 F1 hF1 hP3 hS => ?_)
    have hP3 : va_P D vwCl (mXW h0 a1 a2 cA v L P ++ [(h4, mOut cJ F1)]) H2 := hP3
    refine lv_goto (tgt := 21) hx hb dL_period_9 (by decide) ?_
    refine mw_iconst hx hb dL_period_21 ?_
    exact mw_wret hx hb hr hlocks dL_period_22 F1 (by rw [hex]; rfl) (fun _ => hF1) hP3 hS
  · have hP2 : va_P D vwCl (mXW h0 a1 a2 cA v L P ++ [(h4, mOut cJ G0)]) H1 := mw_keepP hP hk
    match k, hexk, hes with
    | 0, hexk, hes =>
      cases hes
      refine vx_catch (own := RL) (name := mEA) (E := mEA) hown [] ⟨0, 9, 12, 13⟩ [⟨0, 9, 15, 20⟩, ⟨0, 9, 18, 15⟩] htab (fun z hz => nomatch hz) (by decide) (by decide) (hts (.classLink RL 13 mEA) (by decide +kernel)) (va_Nw.use rfl hE.1.2.2.2.2.2.1) hce hcv hcl ?_
      refine lv_astore_n (lv' := [(3, .ref q9), (0, .ref h0), (1, .int (mI (z))), (2, .ref h4)]) hx hb dL_period_12 rfl hl (by decide) rfl (fun ls hl => ?_)
      refine mw_iconst hx hb dL_period_13 ?_
      exact mw_wret hx hb hr hlocks dL_period_14 G0 (by rw [hexk]; rfl) (fun h9 => by omega) hP2 hS
    | 1, hexk, hes =>
      cases hes
      refine vx_catch (own := RL) (name := mEI) (E := mEI) hown [⟨0, 9, 12, 13⟩] ⟨0, 9, 15, 20⟩ [⟨0, 9, 18, 15⟩] htab (fun z hz => by
        cases List.mem_singleton.mp hz; exact Or.inr ⟨by decide, mEA, hts (.classLink RL 13 mEA) (by decide +kernel), hN.2.2.2.2.1⟩) (by decide) (by decide) (hts (.classLink RL 20 mEI) (by decide +kernel)) (va_Nw.use rfl hE.1.2.2.2.2.2.2.2.1) hce hcv hcl ?_
      refine lv_astore_n (lv' := [(3, .ref q9), (0, .ref h0), (1, .int (mI (z))), (2, .ref h4)]) hx hb dL_period_15 rfl hl (by decide) rfl (fun ls hl => ?_)
      refine mw_iconst hx hb dL_period_16 ?_
      exact mw_wret hx hb hr hlocks dL_period_17 G0 (by rw [hexk]; rfl) (fun h9 => by omega) hP2 hS
    | 2, hexk, hes =>
      cases hes
      refine vx_catch (own := RL) (name := mES) (E := mES) hown [⟨0, 9, 12, 13⟩, ⟨0, 9, 15, 20⟩] ⟨0, 9, 18, 15⟩ [] htab (fun z hz => by
        rcases List.mem_cons.mp hz with hz | hz; (cases hz; exact Or.inr ⟨by decide, mEA, hts (.classLink RL 13 mEA) (by decide +kernel), hN.2.2.1⟩); (cases List.mem_singleton.mp hz; exact Or.inr ⟨by decide, mEI, hts (.classLink RL 20 mEI) (by decide +kernel), hN.2.2.2.1⟩)) (by decide) (by decide) (hts (.classLink RL 15 mES) (by decide +kernel)) (va_Nw.use rfl hE.1.2.2.2.2.2.2.1) hce hcv hcl ?_
      refine lv_astore_n (lv' := [(3, .ref q9), (0, .ref h0), (1, .int (mI (z))), (2, .ref h4)]) hx hb dL_period_18 rfl hl (by decide) rfl (fun ls hl => ?_)
      refine mw_iconst hx hb dL_period_19 ?_
      exact mw_wret hx hb hr hlocks dL_period_20 G0 (by rw [hexk]; rfl) (fun h9 => by omega) hP2 hS
    | k + 3, hexk, hes => simp at hes

set_option maxHeartbeats 400000 in
set_option maxRecDepth 100000 in
theorem w_meeting (l : Launch) (hfl : l.flags = flags0) (D : va_G) (h0 a1 a2 h4 : Nat) (cA cJ : ClassId) (G0 : Nat → Int64) (v : Nat → Int) (L P : Int → Int) (z d : Int) (hz : mRI z) (hd9 : mRI d) (hok : mOK v L P) (hdis : mDis4 h0 a1 a2 h4) : mW l yL_meeting wsL_meeting ({ frames := 9, cells := 1, slots := 6, locals := 156 }) [.ref h0, .int (mI (z)), .int (mI (d)), .ref h4] D (mXW h0 a1 a2 cA v L P ++ [(h4, mOut cJ G0)]) (mTy cA cJ) (mEx3 (mDay d ∧ 1 ≤ mPop z 32 ∧ mPop z 32 ≤ 5) (mUsh z (v 0) = 0) (mMts v L P z)) (fun r => r = mL (d + (mD0 (mFd L P z 0 (v 0).toNat) - d) % mSt (mFd L P z 0 (v 0).toNat))) (fun F => mXW h0 a1 a2 cA v L P ++ [(h4, mOut cJ F)]) (mA4 h0 a1 a2 h4) := by
  refine mw_openW (cc := cL_meeting) (maxL := 5) (ret := (some .int)) (hh := [(0, 10, 13, 13), (0, 10, 17, 20), (0, 10, 21, 15)]) (by decide) rfl (Nat.le_of_ble_eq_true rfl) ?_
  intro p e s m below meth c ls hC hr hlocks htab hB hE hN hl
  obtain ⟨hx, hb, hml, hown, hts⟩ := id hC
  obtain ⟨hP, hK⟩ := hB
  have hPx := hP.sub (ws' := mXW h0 a1 a2 cA v L P) [0, 1, 2] rfl
  obtain ⟨-, d4, d5, d6⟩ := id hdis
  have hl : lv_has ls 5 [(0, .ref h0), (1, .int (mI (z))), (2, .int (mI (d))), (3, .ref h4)] := hl
  refine lv_aload_n hx hb dL_meeting_0 rfl (lv_at hl 3 rfl) ?_
  refine mw_iconst hx hb dL_meeting_1 ?_
  refine lv_aload_n hx hb dL_meeting_2 rfl (lv_at hl 0 rfl) ?_
  refine lv_iload_n hx hb dL_meeting_3 rfl (lv_at hl 1 rfl) ?_
  refine lv_iload_n hx hb dL_meeting_4 rfl (lv_at hl 2 rfl) ?_
  refine mw_cX (rest := [.int (mI (0)), .ref h4]) (A0 := mA4 h0 a1 a2 h4) hC (x_X0_meeting l hfl D h0 a1 a2 cA cJ v L P z d hz hd9 hok) hE (cwV 2 hts gL_meeting_X0_meeting rfl rfl rfl (by decide +kernel) ⟨Nat.le_of_ble_eq_true rfl, Nat.le_of_ble_eq_true rfl⟩) hK hPx (fun _ h => h.elim) rfl rfl hl.1 rfl (Nat.le_of_ble_eq_true rfl) ⟨Nat.le_of_ble_eq_true rfl, Nat.le_of_ble_eq_true rfl⟩ dL_meeting_5 (fun H1 locs1 hex hP1 hS hk => ?_) (fun E ce q9 H1 locs1 k hexk hes hk hS hce hcv hcl => ?_)
  · have hPo : va_P D vwCl [(h4, mOut cJ G0)] H1 := (hP.sub (ws' := [(h4, mOut cJ G0)]) [3] rfl).kept (fun k q hq => by
      match k, hq with
      | 0, hq => cases hq; exact hk h4 (hP 3 _ rfl).lt (fun q => q)
      | k + 1, hq => simp at hq)
    have hP2 : va_P D vwCl (mXW h0 a1 a2 cA v L P ++ [(h4, mOut cJ G0)]) H1 := va_P.app hP1 hPo
    have hrg : mRI (d + (mD0 (mFd L P z 0 (v 0).toNat) - d) % mSt (mFd L P z 0 (v 0).toNat)) := rg_meeting hok z d hz hd9 hex
    refine W.eq (g2 := F0 m 8 ls [.int (mI (d + (mD0 (mFd L P z 0 (v 0).toNat) - d) % mSt (mFd L P z 0 (v 0).toNat))), .int (mI (0)), .ref h4]) rfl ?_
    refine mw_i2l hx hb hrg dL_meeting_8 ?_
    refine mw_last hx hb hK hP2 (mD4 hdis (mA4_in h0 a1 a2 h4)) hS 3 rfl rfl dL_meeting_9 (fun H2 locs2 F1 hF1 hP3 hS => ?_)
    have hP3 : va_P D vwCl (mXW h0 a1 a2 cA v L P ++ [(h4, mOut cJ F1)]) H2 := hP3
    refine lv_goto (tgt := 25) hx hb dL_meeting_10 (by decide) ?_
    refine mw_iconst hx hb dL_meeting_25 ?_
    exact mw_wret hx hb hr hlocks dL_meeting_26 F1 (by rw [hex]; rfl) (fun _ => hF1) hP3 hS
  · have hP2 : va_P D vwCl (mXW h0 a1 a2 cA v L P ++ [(h4, mOut cJ G0)]) H1 := mw_keepP hP hk
    match k, hexk, hes with
    | 0, hexk, hes =>
      cases hes
      refine vx_catch (own := RL) (name := mEA) (E := mEA) hown [] ⟨0, 10, 13, 13⟩ [⟨0, 10, 17, 20⟩, ⟨0, 10, 21, 15⟩] htab (fun z hz => nomatch hz) (by decide) (by decide) (hts (.classLink RL 13 mEA) (by decide +kernel)) (va_Nw.use rfl hE.1.2.2.2.2.2.1) hce hcv hcl ?_
      refine lv_astore (lv' := [(4, .ref q9), (0, .ref h0), (1, .int (mI (z))), (2, .int (mI (d))), (3, .ref h4)]) hx hb dL_meeting_13 hl (by decide) rfl (fun ls hl => ?_)
      refine mw_iconst hx hb dL_meeting_15 ?_
      exact mw_wret hx hb hr hlocks dL_meeting_16 G0 (by rw [hexk]; rfl) (fun h9 => by omega) hP2 hS
    | 1, hexk, hes =>
      cases hes
      refine vx_catch (own := RL) (name := mEI) (E := mEI) hown [⟨0, 10, 13, 13⟩] ⟨0, 10, 17, 20⟩ [⟨0, 10, 21, 15⟩] htab (fun z hz => by
        cases List.mem_singleton.mp hz; exact Or.inr ⟨by decide, mEA, hts (.classLink RL 13 mEA) (by decide +kernel), hN.2.2.2.2.1⟩) (by decide) (by decide) (hts (.classLink RL 20 mEI) (by decide +kernel)) (va_Nw.use rfl hE.1.2.2.2.2.2.2.2.1) hce hcv hcl ?_
      refine lv_astore (lv' := [(4, .ref q9), (0, .ref h0), (1, .int (mI (z))), (2, .int (mI (d))), (3, .ref h4)]) hx hb dL_meeting_17 hl (by decide) rfl (fun ls hl => ?_)
      refine mw_iconst hx hb dL_meeting_19 ?_
      exact mw_wret hx hb hr hlocks dL_meeting_20 G0 (by rw [hexk]; rfl) (fun h9 => by omega) hP2 hS
    | 2, hexk, hes =>
      cases hes
      refine vx_catch (own := RL) (name := mES) (E := mES) hown [⟨0, 10, 13, 13⟩, ⟨0, 10, 17, 20⟩] ⟨0, 10, 21, 15⟩ [] htab (fun z hz => by
        rcases List.mem_cons.mp hz with hz | hz; (cases hz; exact Or.inr ⟨by decide, mEA, hts (.classLink RL 13 mEA) (by decide +kernel), hN.2.2.1⟩); (cases List.mem_singleton.mp hz; exact Or.inr ⟨by decide, mEI, hts (.classLink RL 20 mEI) (by decide +kernel), hN.2.2.2.1⟩)) (by decide) (by decide) (hts (.classLink RL 15 mES) (by decide +kernel)) (va_Nw.use rfl hE.1.2.2.2.2.2.2.1) hce hcv hcl ?_
      refine lv_astore (lv' := [(4, .ref q9), (0, .ref h0), (1, .int (mI (z))), (2, .int (mI (d))), (3, .ref h4)]) hx hb dL_meeting_21 hl (by decide) rfl (fun ls hl => ?_)
      refine mw_iconst hx hb dL_meeting_23 ?_
      exact mw_wret hx hb hr hlocks dL_meeting_24 G0 (by rw [hexk]; rfl) (fun h9 => by omega) hP2 hS
    | k + 3, hexk, hes => simp at hes

set_option maxHeartbeats 400000 in
set_option maxRecDepth 100000 in
theorem w_lunarMeeting (l : Launch) (hfl : l.flags = flags0) (D : va_G) (h0 a1 a2 h4 : Nat) (cA cJ : ClassId) (G0 : Nat → Int64) (v : Nat → Int) (L P : Int → Int) (z d ld mt : Int) (hz : mRI z) (hd9 : mRI d) (hld : mRI ld) (hmt : mRI mt) (hok : mOK v L P) (hdis : mDis4 h0 a1 a2 h4) : mW l yL_lunarMeeting wsL_lunarMeeting ({ frames := 9, cells := 1, slots := 6, locals := 163 }) [.ref h0, .int (mI (z)), .int (mI (d)), .int (mI (ld)), .int (mI (mt)), .ref h4] D (mXW h0 a1 a2 cA v L P ++ [(h4, mOut cJ G0)]) (mTy cA cJ) (mEx3 (mDay d ∧ (0 ≤ ld ∧ ld ≤ 99) ∧ (1 ≤ mt ∧ mt ≤ 1000) ∧ 1 ≤ mPop z 32 ∧ mPop z 32 ≤ 5) (mUsh z (v 0) = 0) (mMts v L P z)) (fun r => r = mL (mLun v d ld (mSt (mFd L P z 0 (v 0).toNat)) mt.toNat ((mD0 (mFd L P z 0 (v 0).toNat) - d) % mSt (mFd L P z 0 (v 0).toNat)))) (fun F => mXW h0 a1 a2 cA v L P ++ [(h4, mOut cJ F)]) (mA4 h0 a1 a2 h4) := by
  refine mw_openW (cc := cL_lunarMeeting) (maxL := 7) (ret := (some .int)) (hh := [(0, 13, 16, 13), (0, 13, 20, 20), (0, 13, 24, 15)]) (by decide) rfl (Nat.le_of_ble_eq_true rfl) ?_
  intro p e s m below meth c ls hC hr hlocks htab hB hE hN hl
  obtain ⟨hx, hb, hml, hown, hts⟩ := id hC
  obtain ⟨hP, hK⟩ := hB
  have hPx := hP.sub (ws' := mXW h0 a1 a2 cA v L P) [0, 1, 2] rfl
  obtain ⟨-, d4, d5, d6⟩ := id hdis
  have hl : lv_has ls 7 [(0, .ref h0), (1, .int (mI (z))), (2, .int (mI (d))), (3, .int (mI (ld))), (4, .int (mI (mt))), (5, .ref h4)] := hl
  refine lv_aload hx hb dL_lunarMeeting_0 (lv_at hl 5 rfl) ?_
  refine mw_iconst hx hb dL_lunarMeeting_2 ?_
  refine lv_aload_n hx hb dL_lunarMeeting_3 rfl (lv_at hl 0 rfl) ?_
  refine lv_iload_n hx hb dL_lunarMeeting_4 rfl (lv_at hl 1 rfl) ?_
  refine lv_iload_n hx hb dL_lunarMeeting_5 rfl (lv_at hl 2 rfl) ?_
  refine lv_iload_n hx hb dL_lunarMeeting_6 rfl (lv_at hl 3 rfl) ?_
  refine lv_iload hx hb dL_lunarMeeting_7 (lv_at hl 4 rfl) ?_
  refine mw_cX (rest := [.int (mI (0)), .ref h4]) (A0 := mA4 h0 a1 a2 h4) hC (x_X0_lunarMeeting l hfl D h0 a1 a2 cA cJ v L P z d ld mt hz hd9 hld hmt hok) hE (cwV 4 hts gL_lunarMeeting_X0_lunarMeeting rfl rfl rfl (by decide +kernel) ⟨Nat.le_of_ble_eq_true rfl, Nat.le_of_ble_eq_true rfl⟩) hK hPx (fun _ h => h.elim) rfl rfl hl.1 rfl (Nat.le_of_ble_eq_true rfl) ⟨Nat.le_of_ble_eq_true rfl, Nat.le_of_ble_eq_true rfl⟩ dL_lunarMeeting_9 (fun H1 locs1 hex hP1 hS hk => ?_) (fun E ce q9 H1 locs1 k hexk hes hk hS hce hcv hcl => ?_)
  · have hPo : va_P D vwCl [(h4, mOut cJ G0)] H1 := (hP.sub (ws' := [(h4, mOut cJ G0)]) [3] rfl).kept (fun k q hq => by
      match k, hq with
      | 0, hq => cases hq; exact hk h4 (hP 3 _ rfl).lt (fun q => q)
      | k + 1, hq => simp at hq)
    have hP2 : va_P D vwCl (mXW h0 a1 a2 cA v L P ++ [(h4, mOut cJ G0)]) H1 := va_P.app hP1 hPo
    refine W.eq (g2 := F0 m 12 ls [.long (mL (mLun v d ld (mSt (mFd L P z 0 (v 0).toNat)) mt.toNat ((mD0 (mFd L P z 0 (v 0).toNat) - d) % mSt (mFd L P z 0 (v 0).toNat)))), .int (mI (0)), .ref h4]) rfl ?_
    refine mw_last hx hb hK hP2 (mD4 hdis (mA4_in h0 a1 a2 h4)) hS 3 rfl rfl dL_lunarMeeting_12 (fun H2 locs2 F1 hF1 hP3 hS => ?_)
    have hP3 : va_P D vwCl (mXW h0 a1 a2 cA v L P ++ [(h4, mOut cJ F1)]) H2 := hP3
    refine lv_goto (tgt := 28) hx hb dL_lunarMeeting_13 (by decide) ?_
    refine mw_iconst hx hb dL_lunarMeeting_28 ?_
    exact mw_wret hx hb hr hlocks dL_lunarMeeting_29 F1 (by rw [hex]; rfl) (fun _ => hF1) hP3 hS
  · have hP2 : va_P D vwCl (mXW h0 a1 a2 cA v L P ++ [(h4, mOut cJ G0)]) H1 := mw_keepP hP hk
    match k, hexk, hes with
    | 0, hexk, hes =>
      cases hes
      refine vx_catch (own := RL) (name := mEA) (E := mEA) hown [] ⟨0, 13, 16, 13⟩ [⟨0, 13, 20, 20⟩, ⟨0, 13, 24, 15⟩] htab (fun z hz => nomatch hz) (by decide) (by decide) (hts (.classLink RL 13 mEA) (by decide +kernel)) (va_Nw.use rfl hE.1.2.2.2.2.2.1) hce hcv hcl ?_
      refine lv_astore (lv' := [(6, .ref q9), (0, .ref h0), (1, .int (mI (z))), (2, .int (mI (d))), (3, .int (mI (ld))), (4, .int (mI (mt))), (5, .ref h4)]) hx hb dL_lunarMeeting_16 hl (by decide) rfl (fun ls hl => ?_)
      refine mw_iconst hx hb dL_lunarMeeting_18 ?_
      exact mw_wret hx hb hr hlocks dL_lunarMeeting_19 G0 (by rw [hexk]; rfl) (fun h9 => by omega) hP2 hS
    | 1, hexk, hes =>
      cases hes
      refine vx_catch (own := RL) (name := mEI) (E := mEI) hown [⟨0, 13, 16, 13⟩] ⟨0, 13, 20, 20⟩ [⟨0, 13, 24, 15⟩] htab (fun z hz => by
        cases List.mem_singleton.mp hz; exact Or.inr ⟨by decide, mEA, hts (.classLink RL 13 mEA) (by decide +kernel), hN.2.2.2.2.1⟩) (by decide) (by decide) (hts (.classLink RL 20 mEI) (by decide +kernel)) (va_Nw.use rfl hE.1.2.2.2.2.2.2.2.1) hce hcv hcl ?_
      refine lv_astore (lv' := [(6, .ref q9), (0, .ref h0), (1, .int (mI (z))), (2, .int (mI (d))), (3, .int (mI (ld))), (4, .int (mI (mt))), (5, .ref h4)]) hx hb dL_lunarMeeting_20 hl (by decide) rfl (fun ls hl => ?_)
      refine mw_iconst hx hb dL_lunarMeeting_22 ?_
      exact mw_wret hx hb hr hlocks dL_lunarMeeting_23 G0 (by rw [hexk]; rfl) (fun h9 => by omega) hP2 hS
    | 2, hexk, hes =>
      cases hes
      refine vx_catch (own := RL) (name := mES) (E := mES) hown [⟨0, 13, 16, 13⟩, ⟨0, 13, 20, 20⟩] ⟨0, 13, 24, 15⟩ [] htab (fun z hz => by
        rcases List.mem_cons.mp hz with hz | hz; (cases hz; exact Or.inr ⟨by decide, mEA, hts (.classLink RL 13 mEA) (by decide +kernel), hN.2.2.1⟩); (cases List.mem_singleton.mp hz; exact Or.inr ⟨by decide, mEI, hts (.classLink RL 20 mEI) (by decide +kernel), hN.2.2.2.1⟩)) (by decide) (by decide) (hts (.classLink RL 15 mES) (by decide +kernel)) (va_Nw.use rfl hE.1.2.2.2.2.2.2.1) hce hcv hcl ?_
      refine lv_astore (lv' := [(6, .ref q9), (0, .ref h0), (1, .int (mI (z))), (2, .int (mI (d))), (3, .int (mI (ld))), (4, .int (mI (mt))), (5, .ref h4)]) hx hb dL_lunarMeeting_24 hl (by decide) rfl (fun ls hl => ?_)
      refine mw_iconst hx hb dL_lunarMeeting_26 ?_
      exact mw_wret hx hb hr hlocks dL_lunarMeeting_27 G0 (by rw [hexk]; rfl) (fun h9 => by omega) hP2 hS
    | k + 3, hexk, hes => simp at hes

set_option maxHeartbeats 400000 in
set_option maxRecDepth 100000 in
theorem w_best (l : Launch) (hfl : l.flags = flags0) (D : va_G) (h0 a1 a2 h4 : Nat) (cA cJ : ClassId) (G0 : Nat → Int64) (v : Nat → Int) (L P : Int → Int) (z fr to9 : Int) (hz : mRI z) (hf9 : mRI fr) (ht9 : mRI to9) (hok : mOK v L P) (hdis : mDis4 h0 a1 a2 h4) : mW l yL_best wsL_best ({ frames := 9, cells := 1, slots := 6, locals := 157 }) [.ref h0, .int (mI (z)), .int (mI (fr)), .int (mI (to9)), .ref h4] D (mXW h0 a1 a2 cA v L P ++ [(h4, mOut cJ G0)]) (mTy cA cJ) (mEx2 (mDay fr ∧ mDay to9 ∧ fr ≤ to9 ∧ to9 ≤ fr + 2000) (mUsh z (v 0) = 0)) (fun r => r = mL (mBst L P (v 0).toNat z fr (to9 + 1 - fr).toNat)) (fun F => mXW h0 a1 a2 cA v L P ++ [(h4, mOut cJ F)]) (mA4 h0 a1 a2 h4) := by
  refine mw_openW (cc := cL_best) (maxL := 6) (ret := (some .int)) (hh := [(0, 12, 15, 13), (0, 12, 19, 20)]) (by decide) rfl (Nat.le_of_ble_eq_true rfl) ?_
  intro p e s m below meth c ls hC hr hlocks htab hB hE hN hl
  obtain ⟨hx, hb, hml, hown, hts⟩ := id hC
  obtain ⟨hP, hK⟩ := hB
  have hPx := hP.sub (ws' := mXW h0 a1 a2 cA v L P) [0, 1, 2] rfl
  obtain ⟨-, d4, d5, d6⟩ := id hdis
  have hl : lv_has ls 6 [(0, .ref h0), (1, .int (mI (z))), (2, .int (mI (fr))), (3, .int (mI (to9))), (4, .ref h4)] := hl
  refine lv_aload hx hb dL_best_0 (lv_at hl 4 rfl) ?_
  refine mw_iconst hx hb dL_best_2 ?_
  refine lv_aload_n hx hb dL_best_3 rfl (lv_at hl 0 rfl) ?_
  refine lv_iload_n hx hb dL_best_4 rfl (lv_at hl 1 rfl) ?_
  refine lv_iload_n hx hb dL_best_5 rfl (lv_at hl 2 rfl) ?_
  refine lv_iload_n hx hb dL_best_6 rfl (lv_at hl 3 rfl) ?_
  refine mw_cX (rest := [.int (mI (0)), .ref h4]) (A0 := mA4 h0 a1 a2 h4) hC (x_X0_best l hfl D h0 a1 a2 cA cJ v L P z fr to9 hz hf9 ht9 hok) hE (cwV 3 hts gL_best_X0_best rfl rfl rfl (by decide +kernel) ⟨Nat.le_of_ble_eq_true rfl, Nat.le_of_ble_eq_true rfl⟩) hK hPx (fun _ h => h.elim) rfl rfl hl.1 rfl (Nat.le_of_ble_eq_true rfl) ⟨Nat.le_of_ble_eq_true rfl, Nat.le_of_ble_eq_true rfl⟩ dL_best_7 (fun H1 locs1 hex hP1 hS hk => ?_) (fun E ce q9 H1 locs1 k hexk hes hk hS hce hcv hcl => ?_)
  · have hPo : va_P D vwCl [(h4, mOut cJ G0)] H1 := (hP.sub (ws' := [(h4, mOut cJ G0)]) [3] rfl).kept (fun k q hq => by
      match k, hq with
      | 0, hq => cases hq; exact hk h4 (hP 3 _ rfl).lt (fun q => q)
      | k + 1, hq => simp at hq)
    have hP2 : va_P D vwCl (mXW h0 a1 a2 cA v L P ++ [(h4, mOut cJ G0)]) H1 := va_P.app hP1 hPo
    have hrg : mRI (mBst L P (v 0).toNat z fr (to9 + 1 - fr).toNat) := rg_best hok z fr to9 hz hf9 ht9 hex
    refine W.eq (g2 := F0 m 10 ls [.int (mI (mBst L P (v 0).toNat z fr (to9 + 1 - fr).toNat)), .int (mI (0)), .ref h4]) rfl ?_
    refine mw_i2l hx hb hrg dL_best_10 ?_
    refine mw_last hx hb hK hP2 (mD4 hdis (mA4_in h0 a1 a2 h4)) hS 3 rfl rfl dL_best_11 (fun H2 locs2 F1 hF1 hP3 hS => ?_)
    have hP3 : va_P D vwCl (mXW h0 a1 a2 cA v L P ++ [(h4, mOut cJ F1)]) H2 := hP3
    refine lv_goto (tgt := 23) hx hb dL_best_12 (by decide) ?_
    refine mw_iconst hx hb dL_best_23 ?_
    exact mw_wret hx hb hr hlocks dL_best_24 F1 (by rw [hex]; rfl) (fun _ => hF1) hP3 hS
  · have hP2 : va_P D vwCl (mXW h0 a1 a2 cA v L P ++ [(h4, mOut cJ G0)]) H1 := mw_keepP hP hk
    match k, hexk, hes with
    | 0, hexk, hes =>
      cases hes
      refine vx_catch (own := RL) (name := mEA) (E := mEA) hown [] ⟨0, 12, 15, 13⟩ [⟨0, 12, 19, 20⟩] htab (fun z hz => nomatch hz) (by decide) (by decide) (hts (.classLink RL 13 mEA) (by decide +kernel)) (va_Nw.use rfl hE.1.2.2.2.2.2.1) hce hcv hcl ?_
      refine lv_astore (lv' := [(5, .ref q9), (0, .ref h0), (1, .int (mI (z))), (2, .int (mI (fr))), (3, .int (mI (to9))), (4, .ref h4)]) hx hb dL_best_15 hl (by decide) rfl (fun ls hl => ?_)
      refine mw_iconst hx hb dL_best_17 ?_
      exact mw_wret hx hb hr hlocks dL_best_18 G0 (by rw [hexk]; rfl) (fun h9 => by omega) hP2 hS
    | 1, hexk, hes =>
      cases hes
      refine vx_catch (own := RL) (name := mEI) (E := mEI) hown [⟨0, 12, 15, 13⟩] ⟨0, 12, 19, 20⟩ [] htab (fun z hz => by
        cases List.mem_singleton.mp hz; exact Or.inr ⟨by decide, mEA, hts (.classLink RL 13 mEA) (by decide +kernel), hN.2.2.2.2.1⟩) (by decide) (by decide) (hts (.classLink RL 20 mEI) (by decide +kernel)) (va_Nw.use rfl hE.1.2.2.2.2.2.2.2.1) hce hcv hcl ?_
      refine lv_astore (lv' := [(5, .ref q9), (0, .ref h0), (1, .int (mI (z))), (2, .int (mI (fr))), (3, .int (mI (to9))), (4, .ref h4)]) hx hb dL_best_19 hl (by decide) rfl (fun ls hl => ?_)
      refine mw_iconst hx hb dL_best_21 ?_
      exact mw_wret hx hb hr hlocks dL_best_22 G0 (by rw [hexk]; rfl) (fun h9 => by omega) hP2 hS
    | k + 2, hexk, hes => simp at hes

set_option maxHeartbeats 400000 in
set_option maxRecDepth 100000 in
theorem w_month (l : Launch) (hfl : l.flags = flags0) (D : va_G) (h0 a1 a2 h4 : Nat) (cA cJ : ClassId) (G0 : Nat → Int64) (v : Nat → Int) (L P : Int → Int) (d : Int) (hd9 : mRI d) (hok : mOK v L P) (hdis : mDis4 h0 a1 a2 h4) : mW l yL_month wsL_month ({ frames := 9, cells := 1, slots := 6, locals := 151 }) [.ref h0, .int (mI (d)), .ref h4] D (mXW h0 a1 a2 cA v L P ++ [(h4, mOut cJ G0)]) (mTy cA cJ) (mEx1 (mDay d)) (fun r => r = mL (mMonth v d)) (fun F => mXW h0 a1 a2 cA v L P ++ [(h4, mOut cJ F)]) (mA4 h0 a1 a2 h4) := by
  refine mw_openW (cc := cL_month) (maxL := 4) (ret := (some .int)) (hh := [(0, 9, 12, 13)]) (by decide) rfl (Nat.le_of_ble_eq_true rfl) ?_
  intro p e s m below meth c ls hC hr hlocks htab hB hE hN hl
  obtain ⟨hx, hb, hml, hown, hts⟩ := id hC
  obtain ⟨hP, hK⟩ := hB
  have hPx := hP.sub (ws' := mXW h0 a1 a2 cA v L P) [0, 1, 2] rfl
  obtain ⟨-, d4, d5, d6⟩ := id hdis
  have hl : lv_has ls 4 [(0, .ref h0), (1, .int (mI (d))), (2, .ref h4)] := hl
  refine lv_aload_n hx hb dL_month_0 rfl (lv_at hl 2 rfl) ?_
  refine mw_iconst hx hb dL_month_1 ?_
  refine lv_aload_n hx hb dL_month_2 rfl (lv_at hl 0 rfl) ?_
  refine lv_iload_n hx hb dL_month_3 rfl (lv_at hl 1 rfl) ?_
  refine mw_cX (rest := [.int (mI (0)), .ref h4]) (A0 := mA4 h0 a1 a2 h4) hC (x_X0_month l hfl D h0 a1 a2 cA cJ v L P d hd9 hok) hE (cwV 1 hts gL_month_X0_month rfl rfl rfl (by decide +kernel) ⟨Nat.le_of_ble_eq_true rfl, Nat.le_of_ble_eq_true rfl⟩) hK hPx (fun _ h => h.elim) rfl rfl hl.1 rfl (Nat.le_of_ble_eq_true rfl) ⟨Nat.le_of_ble_eq_true rfl, Nat.le_of_ble_eq_true rfl⟩ dL_month_4 (fun H1 locs1 hex hP1 hS hk => ?_) (fun E ce q9 H1 locs1 k hexk hes hk hS hce hcv hcl => ?_)
  · have hPo : va_P D vwCl [(h4, mOut cJ G0)] H1 := (hP.sub (ws' := [(h4, mOut cJ G0)]) [3] rfl).kept (fun k q hq => by
      match k, hq with
      | 0, hq => cases hq; exact hk h4 (hP 3 _ rfl).lt (fun q => q)
      | k + 1, hq => simp at hq)
    have hP2 : va_P D vwCl (mXW h0 a1 a2 cA v L P ++ [(h4, mOut cJ G0)]) H1 := va_P.app hP1 hPo
    have hrg : mRI (mMonth v d) := rg_month hok d hd9 hex
    refine W.eq (g2 := F0 m 7 ls [.int (mI (mMonth v d)), .int (mI (0)), .ref h4]) rfl ?_
    refine mw_i2l hx hb hrg dL_month_7 ?_
    refine mw_last hx hb hK hP2 (mD4 hdis (mA4_in h0 a1 a2 h4)) hS 3 rfl rfl dL_month_8 (fun H2 locs2 F1 hF1 hP3 hS => ?_)
    have hP3 : va_P D vwCl (mXW h0 a1 a2 cA v L P ++ [(h4, mOut cJ F1)]) H2 := hP3
    refine lv_goto (tgt := 15) hx hb dL_month_9 (by decide) ?_
    refine mw_iconst hx hb dL_month_15 ?_
    exact mw_wret hx hb hr hlocks dL_month_16 F1 (by rw [hex]; rfl) (fun _ => hF1) hP3 hS
  · have hP2 : va_P D vwCl (mXW h0 a1 a2 cA v L P ++ [(h4, mOut cJ G0)]) H1 := mw_keepP hP hk
    match k, hexk, hes with
    | 0, hexk, hes =>
      cases hes
      refine vx_catch (own := RL) (name := mEA) (E := mEA) hown [] ⟨0, 9, 12, 13⟩ [] htab (fun z hz => nomatch hz) (by decide) (by decide) (hts (.classLink RL 13 mEA) (by decide +kernel)) (va_Nw.use rfl hE.1.2.2.2.2.2.1) hce hcv hcl ?_
      refine lv_astore_n (lv' := [(3, .ref q9), (0, .ref h0), (1, .int (mI (d))), (2, .ref h4)]) hx hb dL_month_12 rfl hl (by decide) rfl (fun ls hl => ?_)
      refine mw_iconst hx hb dL_month_13 ?_
      exact mw_wret hx hb hr hlocks dL_month_14 G0 (by rw [hexk]; rfl) (fun h9 => by omega) hP2 hS
    | k + 1, hexk, hes => simp at hes

set_option maxHeartbeats 400000 in
set_option maxRecDepth 100000 in
theorem w_lunarDay (l : Launch) (hfl : l.flags = flags0) (D : va_G) (h0 a1 a2 h4 : Nat) (cA cJ : ClassId) (G0 : Nat → Int64) (v : Nat → Int) (L P : Int → Int) (d : Int) (hd9 : mRI d) (hok : mOK v L P) (hdis : mDis4 h0 a1 a2 h4) : mW l yL_lunarDay wsL_lunarDay ({ frames := 9, cells := 1, slots := 6, locals := 151 }) [.ref h0, .int (mI (d)), .ref h4] D (mXW h0 a1 a2 cA v L P ++ [(h4, mOut cJ G0)]) (mTy cA cJ) (mEx1 (mDay d)) (fun r => r = mL (mLunar v d)) (fun F => mXW h0 a1 a2 cA v L P ++ [(h4, mOut cJ F)]) (mA4 h0 a1 a2 h4) := by
  refine mw_openW (cc := cL_lunarDay) (maxL := 4) (ret := (some .int)) (hh := [(0, 9, 12, 13)]) (by decide) rfl (Nat.le_of_ble_eq_true rfl) ?_
  intro p e s m below meth c ls hC hr hlocks htab hB hE hN hl
  obtain ⟨hx, hb, hml, hown, hts⟩ := id hC
  obtain ⟨hP, hK⟩ := hB
  have hPx := hP.sub (ws' := mXW h0 a1 a2 cA v L P) [0, 1, 2] rfl
  obtain ⟨-, d4, d5, d6⟩ := id hdis
  have hl : lv_has ls 4 [(0, .ref h0), (1, .int (mI (d))), (2, .ref h4)] := hl
  refine lv_aload_n hx hb dL_lunarDay_0 rfl (lv_at hl 2 rfl) ?_
  refine mw_iconst hx hb dL_lunarDay_1 ?_
  refine lv_aload_n hx hb dL_lunarDay_2 rfl (lv_at hl 0 rfl) ?_
  refine lv_iload_n hx hb dL_lunarDay_3 rfl (lv_at hl 1 rfl) ?_
  refine mw_cX (rest := [.int (mI (0)), .ref h4]) (A0 := mA4 h0 a1 a2 h4) hC (x_X0_lunarDay l hfl D h0 a1 a2 cA cJ v L P d hd9 hok) hE (cwV 1 hts gL_lunarDay_X0_lunarDay rfl rfl rfl (by decide +kernel) ⟨Nat.le_of_ble_eq_true rfl, Nat.le_of_ble_eq_true rfl⟩) hK hPx (fun _ h => h.elim) rfl rfl hl.1 rfl (Nat.le_of_ble_eq_true rfl) ⟨Nat.le_of_ble_eq_true rfl, Nat.le_of_ble_eq_true rfl⟩ dL_lunarDay_4 (fun H1 locs1 hex hP1 hS hk => ?_) (fun E ce q9 H1 locs1 k hexk hes hk hS hce hcv hcl => ?_)
  · have hPo : va_P D vwCl [(h4, mOut cJ G0)] H1 := (hP.sub (ws' := [(h4, mOut cJ G0)]) [3] rfl).kept (fun k q hq => by
      match k, hq with
      | 0, hq => cases hq; exact hk h4 (hP 3 _ rfl).lt (fun q => q)
      | k + 1, hq => simp at hq)
    have hP2 : va_P D vwCl (mXW h0 a1 a2 cA v L P ++ [(h4, mOut cJ G0)]) H1 := va_P.app hP1 hPo
    have hrg : mRI (mLunar v d) := rg_lunarDay hok d hd9 hex
    refine W.eq (g2 := F0 m 7 ls [.int (mI (mLunar v d)), .int (mI (0)), .ref h4]) rfl ?_
    refine mw_i2l hx hb hrg dL_lunarDay_7 ?_
    refine mw_last hx hb hK hP2 (mD4 hdis (mA4_in h0 a1 a2 h4)) hS 3 rfl rfl dL_lunarDay_8 (fun H2 locs2 F1 hF1 hP3 hS => ?_)
    have hP3 : va_P D vwCl (mXW h0 a1 a2 cA v L P ++ [(h4, mOut cJ F1)]) H2 := hP3
    refine lv_goto (tgt := 15) hx hb dL_lunarDay_9 (by decide) ?_
    refine mw_iconst hx hb dL_lunarDay_15 ?_
    exact mw_wret hx hb hr hlocks dL_lunarDay_16 F1 (by rw [hex]; rfl) (fun _ => hF1) hP3 hS
  · have hP2 : va_P D vwCl (mXW h0 a1 a2 cA v L P ++ [(h4, mOut cJ G0)]) H1 := mw_keepP hP hk
    match k, hexk, hes with
    | 0, hexk, hes =>
      cases hes
      refine vx_catch (own := RL) (name := mEA) (E := mEA) hown [] ⟨0, 9, 12, 13⟩ [] htab (fun z hz => nomatch hz) (by decide) (by decide) (hts (.classLink RL 13 mEA) (by decide +kernel)) (va_Nw.use rfl hE.1.2.2.2.2.2.1) hce hcv hcl ?_
      refine lv_astore_n (lv' := [(3, .ref q9), (0, .ref h0), (1, .int (mI (d))), (2, .ref h4)]) hx hb dL_lunarDay_12 rfl hl (by decide) rfl (fun ls hl => ?_)
      refine mw_iconst hx hb dL_lunarDay_13 ?_
      exact mw_wret hx hb hr hlocks dL_lunarDay_14 G0 (by rw [hexk]; rfl) (fun h9 => by omega) hP2 hS
    | k + 1, hexk, hes => simp at hes

set_option maxHeartbeats 400000 in
set_option maxRecDepth 100000 in
theorem w_monthBegin (l : Launch) (hfl : l.flags = flags0) (D : va_G) (h0 a1 a2 h4 : Nat) (cA cJ : ClassId) (G0 : Nat → Int64) (v : Nat → Int) (L P : Int → Int) (m9 : Int) (hm9 : mRI m9) (hok : mOK v L P) (hdis : mDis4 h0 a1 a2 h4) : mW l yL_monthBegin wsL_monthBegin ({ frames := 8, cells := 1, slots := 6, locals := 131 }) [.ref h0, .int (mI (m9)), .ref h4] D (mXW h0 a1 a2 cA v L P ++ [(h4, mOut cJ G0)]) (mTy cA cJ) (mEx1 (-100000 ≤ m9 ∧ m9 ≤ 100000)) (fun r => r = mL (mMb v m9)) (fun F => mXW h0 a1 a2 cA v L P ++ [(h4, mOut cJ F)]) (mA4 h0 a1 a2 h4) := by
  refine mw_openW (cc := cL_monthBegin) (maxL := 4) (ret := (some .int)) (hh := [(0, 9, 12, 13)]) (by decide) rfl (Nat.le_of_ble_eq_true rfl) ?_
  intro p e s m below meth c ls hC hr hlocks htab hB hE hN hl
  obtain ⟨hx, hb, hml, hown, hts⟩ := id hC
  obtain ⟨hP, hK⟩ := hB
  have hPx := hP.sub (ws' := mXW h0 a1 a2 cA v L P) [0, 1, 2] rfl
  obtain ⟨-, d4, d5, d6⟩ := id hdis
  have hl : lv_has ls 4 [(0, .ref h0), (1, .int (mI (m9))), (2, .ref h4)] := hl
  refine lv_aload_n hx hb dL_monthBegin_0 rfl (lv_at hl 2 rfl) ?_
  refine mw_iconst hx hb dL_monthBegin_1 ?_
  refine lv_aload_n hx hb dL_monthBegin_2 rfl (lv_at hl 0 rfl) ?_
  refine lv_iload_n hx hb dL_monthBegin_3 rfl (lv_at hl 1 rfl) ?_
  refine mw_cX (rest := [.int (mI (0)), .ref h4]) (A0 := mA4 h0 a1 a2 h4) hC (x_X0_monthBegin l hfl D h0 a1 a2 cA cJ v L P m9 hm9 hok) hE (cwV 1 hts gL_monthBegin_X0_monthBegin rfl rfl rfl (by decide +kernel) ⟨Nat.le_of_ble_eq_true rfl, Nat.le_of_ble_eq_true rfl⟩) hK hPx (fun _ h => h.elim) rfl rfl hl.1 rfl (Nat.le_of_ble_eq_true rfl) ⟨Nat.le_of_ble_eq_true rfl, Nat.le_of_ble_eq_true rfl⟩ dL_monthBegin_4 (fun H1 locs1 hex hP1 hS hk => ?_) (fun E ce q9 H1 locs1 k hexk hes hk hS hce hcv hcl => ?_)
  · have hPo : va_P D vwCl [(h4, mOut cJ G0)] H1 := (hP.sub (ws' := [(h4, mOut cJ G0)]) [3] rfl).kept (fun k q hq => by
      match k, hq with
      | 0, hq => cases hq; exact hk h4 (hP 3 _ rfl).lt (fun q => q)
      | k + 1, hq => simp at hq)
    have hP2 : va_P D vwCl (mXW h0 a1 a2 cA v L P ++ [(h4, mOut cJ G0)]) H1 := va_P.app hP1 hPo
    have hrg : mRI (mMb v m9) := rg_monthBegin hok m9 hm9 hex
    refine W.eq (g2 := F0 m 7 ls [.int (mI (mMb v m9)), .int (mI (0)), .ref h4]) rfl ?_
    refine mw_i2l hx hb hrg dL_monthBegin_7 ?_
    refine mw_last hx hb hK hP2 (mD4 hdis (mA4_in h0 a1 a2 h4)) hS 3 rfl rfl dL_monthBegin_8 (fun H2 locs2 F1 hF1 hP3 hS => ?_)
    have hP3 : va_P D vwCl (mXW h0 a1 a2 cA v L P ++ [(h4, mOut cJ F1)]) H2 := hP3
    refine lv_goto (tgt := 15) hx hb dL_monthBegin_9 (by decide) ?_
    refine mw_iconst hx hb dL_monthBegin_15 ?_
    exact mw_wret hx hb hr hlocks dL_monthBegin_16 F1 (by rw [hex]; rfl) (fun _ => hF1) hP3 hS
  · have hP2 : va_P D vwCl (mXW h0 a1 a2 cA v L P ++ [(h4, mOut cJ G0)]) H1 := mw_keepP hP hk
    match k, hexk, hes with
    | 0, hexk, hes =>
      cases hes
      refine vx_catch (own := RL) (name := mEA) (E := mEA) hown [] ⟨0, 9, 12, 13⟩ [] htab (fun z hz => nomatch hz) (by decide) (by decide) (hts (.classLink RL 13 mEA) (by decide +kernel)) (va_Nw.use rfl hE.1.2.2.2.2.2.1) hce hcv hcl ?_
      refine lv_astore_n (lv' := [(3, .ref q9), (0, .ref h0), (1, .int (mI (m9))), (2, .ref h4)]) hx hb dL_monthBegin_12 rfl hl (by decide) rfl (fun ls hl => ?_)
      refine mw_iconst hx hb dL_monthBegin_13 ?_
      exact mw_wret hx hb hr hlocks dL_monthBegin_14 G0 (by rw [hexk]; rfl) (fun h9 => by omega) hP2 hS
    | k + 1, hexk, hes => simp at hes

set_option maxHeartbeats 400000 in
set_option maxRecDepth 100000 in
theorem w_year (l : Launch) (hfl : l.flags = flags0) (D : va_G) (h0 a1 a2 h4 : Nat) (cA cJ : ClassId) (G0 : Nat → Int64) (v : Nat → Int) (L P : Int → Int) (d : Int) (hd9 : mRI d) (hok : mOK v L P) (hdis : mDis4 h0 a1 a2 h4) : mW l yL_year wsL_year ({ frames := 9, cells := 1, slots := 6, locals := 151 }) [.ref h0, .int (mI (d)), .ref h4] D (mXW h0 a1 a2 cA v L P ++ [(h4, mOut cJ G0)]) (mTy cA cJ) (mEx1 (mDay d)) (fun r => r = mL (mYr v d)) (fun F => mXW h0 a1 a2 cA v L P ++ [(h4, mOut cJ F)]) (mA4 h0 a1 a2 h4) := by
  refine mw_openW (cc := cL_year) (maxL := 4) (ret := (some .int)) (hh := [(0, 9, 12, 13)]) (by decide) rfl (Nat.le_of_ble_eq_true rfl) ?_
  intro p e s m below meth c ls hC hr hlocks htab hB hE hN hl
  obtain ⟨hx, hb, hml, hown, hts⟩ := id hC
  obtain ⟨hP, hK⟩ := hB
  have hPx := hP.sub (ws' := mXW h0 a1 a2 cA v L P) [0, 1, 2] rfl
  obtain ⟨-, d4, d5, d6⟩ := id hdis
  have hl : lv_has ls 4 [(0, .ref h0), (1, .int (mI (d))), (2, .ref h4)] := hl
  refine lv_aload_n hx hb dL_year_0 rfl (lv_at hl 2 rfl) ?_
  refine mw_iconst hx hb dL_year_1 ?_
  refine lv_aload_n hx hb dL_year_2 rfl (lv_at hl 0 rfl) ?_
  refine lv_iload_n hx hb dL_year_3 rfl (lv_at hl 1 rfl) ?_
  refine mw_cX (rest := [.int (mI (0)), .ref h4]) (A0 := mA4 h0 a1 a2 h4) hC (x_X0_year l hfl D h0 a1 a2 cA cJ v L P d hd9 hok) hE (cwV 1 hts gL_year_X0_year rfl rfl rfl (by decide +kernel) ⟨Nat.le_of_ble_eq_true rfl, Nat.le_of_ble_eq_true rfl⟩) hK hPx (fun _ h => h.elim) rfl rfl hl.1 rfl (Nat.le_of_ble_eq_true rfl) ⟨Nat.le_of_ble_eq_true rfl, Nat.le_of_ble_eq_true rfl⟩ dL_year_4 (fun H1 locs1 hex hP1 hS hk => ?_) (fun E ce q9 H1 locs1 k hexk hes hk hS hce hcv hcl => ?_)
  · have hPo : va_P D vwCl [(h4, mOut cJ G0)] H1 := (hP.sub (ws' := [(h4, mOut cJ G0)]) [3] rfl).kept (fun k q hq => by
      match k, hq with
      | 0, hq => cases hq; exact hk h4 (hP 3 _ rfl).lt (fun q => q)
      | k + 1, hq => simp at hq)
    have hP2 : va_P D vwCl (mXW h0 a1 a2 cA v L P ++ [(h4, mOut cJ G0)]) H1 := va_P.app hP1 hPo
    have hrg : mRI (mYr v d) := rg_year hok d hd9 hex
    refine W.eq (g2 := F0 m 7 ls [.int (mI (mYr v d)), .int (mI (0)), .ref h4]) rfl ?_
    refine mw_i2l hx hb hrg dL_year_7 ?_
    refine mw_last hx hb hK hP2 (mD4 hdis (mA4_in h0 a1 a2 h4)) hS 3 rfl rfl dL_year_8 (fun H2 locs2 F1 hF1 hP3 hS => ?_)
    have hP3 : va_P D vwCl (mXW h0 a1 a2 cA v L P ++ [(h4, mOut cJ F1)]) H2 := hP3
    refine lv_goto (tgt := 15) hx hb dL_year_9 (by decide) ?_
    refine mw_iconst hx hb dL_year_15 ?_
    exact mw_wret hx hb hr hlocks dL_year_16 F1 (by rw [hex]; rfl) (fun _ => hF1) hP3 hS
  · have hP2 : va_P D vwCl (mXW h0 a1 a2 cA v L P ++ [(h4, mOut cJ G0)]) H1 := mw_keepP hP hk
    match k, hexk, hes with
    | 0, hexk, hes =>
      cases hes
      refine vx_catch (own := RL) (name := mEA) (E := mEA) hown [] ⟨0, 9, 12, 13⟩ [] htab (fun z hz => nomatch hz) (by decide) (by decide) (hts (.classLink RL 13 mEA) (by decide +kernel)) (va_Nw.use rfl hE.1.2.2.2.2.2.1) hce hcv hcl ?_
      refine lv_astore_n (lv' := [(3, .ref q9), (0, .ref h0), (1, .int (mI (d))), (2, .ref h4)]) hx hb dL_year_12 rfl hl (by decide) rfl (fun ls hl => ?_)
      refine mw_iconst hx hb dL_year_13 ?_
      exact mw_wret hx hb hr hlocks dL_year_14 G0 (by rw [hexk]; rfl) (fun h9 => by omega) hP2 hS
    | k + 1, hexk, hes => simp at hes

set_option maxHeartbeats 400000 in
set_option maxRecDepth 100000 in
theorem w_placeInYear (l : Launch) (hfl : l.flags = flags0) (D : va_G) (h0 a1 a2 h4 : Nat) (cA cJ : ClassId) (G0 : Nat → Int64) (v : Nat → Int) (L P : Int → Int) (d : Int) (hd9 : mRI d) (hok : mOK v L P) (hdis : mDis4 h0 a1 a2 h4) : mW l yL_placeInYear wsL_placeInYear ({ frames := 9, cells := 1, slots := 6, locals := 151 }) [.ref h0, .int (mI (d)), .ref h4] D (mXW h0 a1 a2 cA v L P ++ [(h4, mOut cJ G0)]) (mTy cA cJ) (mEx1 (mDay d)) (fun r => r = mL (d - mBeg v (mYr v d))) (fun F => mXW h0 a1 a2 cA v L P ++ [(h4, mOut cJ F)]) (mA4 h0 a1 a2 h4) := by
  refine mw_openW (cc := cL_placeInYear) (maxL := 4) (ret := (some .int)) (hh := [(0, 9, 12, 13)]) (by decide) rfl (Nat.le_of_ble_eq_true rfl) ?_
  intro p e s m below meth c ls hC hr hlocks htab hB hE hN hl
  obtain ⟨hx, hb, hml, hown, hts⟩ := id hC
  obtain ⟨hP, hK⟩ := hB
  have hPx := hP.sub (ws' := mXW h0 a1 a2 cA v L P) [0, 1, 2] rfl
  obtain ⟨-, d4, d5, d6⟩ := id hdis
  have hl : lv_has ls 4 [(0, .ref h0), (1, .int (mI (d))), (2, .ref h4)] := hl
  refine lv_aload_n hx hb dL_placeInYear_0 rfl (lv_at hl 2 rfl) ?_
  refine mw_iconst hx hb dL_placeInYear_1 ?_
  refine lv_aload_n hx hb dL_placeInYear_2 rfl (lv_at hl 0 rfl) ?_
  refine lv_iload_n hx hb dL_placeInYear_3 rfl (lv_at hl 1 rfl) ?_
  refine mw_cX (rest := [.int (mI (0)), .ref h4]) (A0 := mA4 h0 a1 a2 h4) hC (x_X0_placeInYear l hfl D h0 a1 a2 cA cJ v L P d hd9 hok) hE (cwV 1 hts gL_placeInYear_X0_placeInYear rfl rfl rfl (by decide +kernel) ⟨Nat.le_of_ble_eq_true rfl, Nat.le_of_ble_eq_true rfl⟩) hK hPx (fun _ h => h.elim) rfl rfl hl.1 rfl (Nat.le_of_ble_eq_true rfl) ⟨Nat.le_of_ble_eq_true rfl, Nat.le_of_ble_eq_true rfl⟩ dL_placeInYear_4 (fun H1 locs1 hex hP1 hS hk => ?_) (fun E ce q9 H1 locs1 k hexk hes hk hS hce hcv hcl => ?_)
  · have hPo : va_P D vwCl [(h4, mOut cJ G0)] H1 := (hP.sub (ws' := [(h4, mOut cJ G0)]) [3] rfl).kept (fun k q hq => by
      match k, hq with
      | 0, hq => cases hq; exact hk h4 (hP 3 _ rfl).lt (fun q => q)
      | k + 1, hq => simp at hq)
    have hP2 : va_P D vwCl (mXW h0 a1 a2 cA v L P ++ [(h4, mOut cJ G0)]) H1 := va_P.app hP1 hPo
    have hrg : mRI (d - mBeg v (mYr v d)) := rg_placeInYear hok d hd9 hex
    refine W.eq (g2 := F0 m 7 ls [.int (mI (d - mBeg v (mYr v d))), .int (mI (0)), .ref h4]) rfl ?_
    refine mw_i2l hx hb hrg dL_placeInYear_7 ?_
    refine mw_last hx hb hK hP2 (mD4 hdis (mA4_in h0 a1 a2 h4)) hS 3 rfl rfl dL_placeInYear_8 (fun H2 locs2 F1 hF1 hP3 hS => ?_)
    have hP3 : va_P D vwCl (mXW h0 a1 a2 cA v L P ++ [(h4, mOut cJ F1)]) H2 := hP3
    refine lv_goto (tgt := 15) hx hb dL_placeInYear_9 (by decide) ?_
    refine mw_iconst hx hb dL_placeInYear_15 ?_
    exact mw_wret hx hb hr hlocks dL_placeInYear_16 F1 (by rw [hex]; rfl) (fun _ => hF1) hP3 hS
  · have hP2 : va_P D vwCl (mXW h0 a1 a2 cA v L P ++ [(h4, mOut cJ G0)]) H1 := mw_keepP hP hk
    match k, hexk, hes with
    | 0, hexk, hes =>
      cases hes
      refine vx_catch (own := RL) (name := mEA) (E := mEA) hown [] ⟨0, 9, 12, 13⟩ [] htab (fun z hz => nomatch hz) (by decide) (by decide) (hts (.classLink RL 13 mEA) (by decide +kernel)) (va_Nw.use rfl hE.1.2.2.2.2.2.1) hce hcv hcl ?_
      refine lv_astore_n (lv' := [(3, .ref q9), (0, .ref h0), (1, .int (mI (d))), (2, .ref h4)]) hx hb dL_placeInYear_12 rfl hl (by decide) rfl (fun ls hl => ?_)
      refine mw_iconst hx hb dL_placeInYear_13 ?_
      exact mw_wret hx hb hr hlocks dL_placeInYear_14 G0 (by rw [hexk]; rfl) (fun h9 => by omega) hP2 hS
    | k + 1, hexk, hes => simp at hes

set_option maxHeartbeats 400000 in
set_option maxRecDepth 100000 in
theorem w_isLeap (l : Launch) (hfl : l.flags = flags0) (D : va_G) (h0 a1 a2 h4 : Nat) (cA cJ : ClassId) (G0 : Nat → Int64) (v : Nat → Int) (L P : Int → Int) (y : Int) (hy9 : mRI y) (hok : mOK v L P) (hdis : mDis4 h0 a1 a2 h4) : mW l yL_isLeap wsL_isLeap ({ frames := 9, cells := 1, slots := 6, locals := 151 }) [.ref h0, .int (mI (y)), .ref h4] D (mXW h0 a1 a2 cA v L P ++ [(h4, mOut cJ G0)]) (mTy cA cJ) (mEx1 (mYear y)) (fun r => r = mL (mB (mLeap v y))) (fun F => mXW h0 a1 a2 cA v L P ++ [(h4, mOut cJ F)]) (mA4 h0 a1 a2 h4) := by
  refine mw_openW (cc := cL_isLeap) (maxL := 4) (ret := (some .int)) (hh := [(0, 16, 19, 13)]) (by decide) rfl (Nat.le_of_ble_eq_true rfl) ?_
  intro p e s m below meth c ls hC hr hlocks htab hB hE hN hl
  obtain ⟨hx, hb, hml, hown, hts⟩ := id hC
  obtain ⟨hP, hK⟩ := hB
  have hPx := hP.sub (ws' := mXW h0 a1 a2 cA v L P) [0, 1, 2] rfl
  obtain ⟨-, d4, d5, d6⟩ := id hdis
  have hl : lv_has ls 4 [(0, .ref h0), (1, .int (mI (y))), (2, .ref h4)] := hl
  refine lv_aload_n hx hb dL_isLeap_0 rfl (lv_at hl 2 rfl) ?_
  refine mw_iconst hx hb dL_isLeap_1 ?_
  refine lv_aload_n hx hb dL_isLeap_2 rfl (lv_at hl 0 rfl) ?_
  refine lv_iload_n hx hb dL_isLeap_3 rfl (lv_at hl 1 rfl) ?_
  refine mw_cX (rest := [.int (mI (0)), .ref h4]) (A0 := mA4 h0 a1 a2 h4) hC (x_X0_isLeap l hfl D h0 a1 a2 cA cJ v L P y hy9 hok) hE (cwV 1 hts gL_isLeap_X0_isLeap rfl rfl rfl (by decide +kernel) ⟨Nat.le_of_ble_eq_true rfl, Nat.le_of_ble_eq_true rfl⟩) hK hPx (fun _ h => h.elim) rfl rfl hl.1 rfl (Nat.le_of_ble_eq_true rfl) ⟨Nat.le_of_ble_eq_true rfl, Nat.le_of_ble_eq_true rfl⟩ dL_isLeap_4 (fun H1 locs1 hex hP1 hS hk => ?_) (fun E ce q9 H1 locs1 k hexk hes hk hS hce hcv hcl => ?_)
  · have hPo : va_P D vwCl [(h4, mOut cJ G0)] H1 := (hP.sub (ws' := [(h4, mOut cJ G0)]) [3] rfl).kept (fun k q hq => by
      match k, hq with
      | 0, hq => cases hq; exact hk h4 (hP 3 _ rfl).lt (fun q => q)
      | k + 1, hq => simp at hq)
    have hP2 : va_P D vwCl (mXW h0 a1 a2 cA v L P ++ [(h4, mOut cJ G0)]) H1 := va_P.app hP1 hPo
    refine W.eq (g2 := F0 m 7 ls [.int (mI (mB (mLeap v y))), .int (mI (0)), .ref h4]) rfl ?_
    refine mw_zeq (tgt := 14) hx hb dL_isLeap_7 (by decide) (fun c_7 => ?_) (fun c_7 => ?_)
    · refine mw_lconst hx hb 0 (by decide +kernel) dL_isLeap_14 ?_
      refine mw_last hx hb hK hP2 (mD4 hdis (mA4_in h0 a1 a2 h4)) hS 3 rfl rfl dL_isLeap_15 (fun H2 locs2 F1 hF1 hP3 hS => ?_)
      have hP3 : va_P D vwCl (mXW h0 a1 a2 cA v L P ++ [(h4, mOut cJ F1)]) H2 := hP3
      refine lv_goto (tgt := 22) hx hb dL_isLeap_16 (by decide) ?_
      refine mw_iconst hx hb dL_isLeap_22 ?_
      exact mw_wret hx hb hr hlocks dL_isLeap_23 F1 (by rw [hex]; rfl) (fun _ => (by rw [hF1, mB_f c_7])) hP3 hS
    · refine mw_lconst hx hb 1 (by decide +kernel) dL_isLeap_10 ?_
      refine lv_goto (tgt := 15) hx hb dL_isLeap_11 (by decide) ?_
      refine mw_last hx hb hK hP2 (mD4 hdis (mA4_in h0 a1 a2 h4)) hS 3 rfl rfl dL_isLeap_15 (fun H2 locs2 F1 hF1 hP3 hS => ?_)
      have hP3 : va_P D vwCl (mXW h0 a1 a2 cA v L P ++ [(h4, mOut cJ F1)]) H2 := hP3
      refine lv_goto (tgt := 22) hx hb dL_isLeap_16 (by decide) ?_
      refine mw_iconst hx hb dL_isLeap_22 ?_
      exact mw_wret hx hb hr hlocks dL_isLeap_23 F1 (by rw [hex]; rfl) (fun _ => (by rw [hF1, mB_t c_7])) hP3 hS
  · have hP2 : va_P D vwCl (mXW h0 a1 a2 cA v L P ++ [(h4, mOut cJ G0)]) H1 := mw_keepP hP hk
    match k, hexk, hes with
    | 0, hexk, hes =>
      cases hes
      refine vx_catch (own := RL) (name := mEA) (E := mEA) hown [] ⟨0, 16, 19, 13⟩ [] htab (fun z hz => nomatch hz) (by decide) (by decide) (hts (.classLink RL 13 mEA) (by decide +kernel)) (va_Nw.use rfl hE.1.2.2.2.2.2.1) hce hcv hcl ?_
      refine lv_astore_n (lv' := [(3, .ref q9), (0, .ref h0), (1, .int (mI (y))), (2, .ref h4)]) hx hb dL_isLeap_19 rfl hl (by decide) rfl (fun ls hl => ?_)
      refine mw_iconst hx hb dL_isLeap_20 ?_
      exact mw_wret hx hb hr hlocks dL_isLeap_21 G0 (by rw [hexk]; rfl) (fun h9 => by omega) hP2 hS
    | k + 1, hexk, hes => simp at hes

set_option maxHeartbeats 400000 in
set_option maxRecDepth 100000 in
theorem w_dayOf (l : Launch) (hfl : l.flags = flags0) (D : va_G) (h0 a1 a2 h4 : Nat) (cA cJ : ClassId) (G0 : Nat → Int64) (v : Nat → Int) (L P : Int → Int) (y pl : Int) (hy9 : mRI y) (hp9 : mRI pl) (hok : mOK v L P) (hdis : mDis4 h0 a1 a2 h4) : mW l yL_dayOf wsL_dayOf ({ frames := 9, cells := 1, slots := 6, locals := 153 }) [.ref h0, .int (mI (y)), .int (mI (pl)), .ref h4] D (mXW h0 a1 a2 cA v L P ++ [(h4, mOut cJ G0)]) (mTy cA cJ) (mEx1 (mYear y ∧ 0 ≤ pl ∧ pl < mLen v y)) (fun r => r = mL (mBeg v y + pl)) (fun F => mXW h0 a1 a2 cA v L P ++ [(h4, mOut cJ F)]) (mA4 h0 a1 a2 h4) := by
  refine mw_openW (cc := cL_dayOf) (maxL := 5) (ret := (some .int)) (hh := [(0, 10, 13, 13)]) (by decide) rfl (Nat.le_of_ble_eq_true rfl) ?_
  intro p e s m below meth c ls hC hr hlocks htab hB hE hN hl
  obtain ⟨hx, hb, hml, hown, hts⟩ := id hC
  obtain ⟨hP, hK⟩ := hB
  have hPx := hP.sub (ws' := mXW h0 a1 a2 cA v L P) [0, 1, 2] rfl
  obtain ⟨-, d4, d5, d6⟩ := id hdis
  have hl : lv_has ls 5 [(0, .ref h0), (1, .int (mI (y))), (2, .int (mI (pl))), (3, .ref h4)] := hl
  refine lv_aload_n hx hb dL_dayOf_0 rfl (lv_at hl 3 rfl) ?_
  refine mw_iconst hx hb dL_dayOf_1 ?_
  refine lv_aload_n hx hb dL_dayOf_2 rfl (lv_at hl 0 rfl) ?_
  refine lv_iload_n hx hb dL_dayOf_3 rfl (lv_at hl 1 rfl) ?_
  refine lv_iload_n hx hb dL_dayOf_4 rfl (lv_at hl 2 rfl) ?_
  refine mw_cX (rest := [.int (mI (0)), .ref h4]) (A0 := mA4 h0 a1 a2 h4) hC (x_X0_dayOf l hfl D h0 a1 a2 cA cJ v L P y pl hy9 hp9 hok) hE (cwV 2 hts gL_dayOf_X0_dayOf rfl rfl rfl (by decide +kernel) ⟨Nat.le_of_ble_eq_true rfl, Nat.le_of_ble_eq_true rfl⟩) hK hPx (fun _ h => h.elim) rfl rfl hl.1 rfl (Nat.le_of_ble_eq_true rfl) ⟨Nat.le_of_ble_eq_true rfl, Nat.le_of_ble_eq_true rfl⟩ dL_dayOf_5 (fun H1 locs1 hex hP1 hS hk => ?_) (fun E ce q9 H1 locs1 k hexk hes hk hS hce hcv hcl => ?_)
  · have hPo : va_P D vwCl [(h4, mOut cJ G0)] H1 := (hP.sub (ws' := [(h4, mOut cJ G0)]) [3] rfl).kept (fun k q hq => by
      match k, hq with
      | 0, hq => cases hq; exact hk h4 (hP 3 _ rfl).lt (fun q => q)
      | k + 1, hq => simp at hq)
    have hP2 : va_P D vwCl (mXW h0 a1 a2 cA v L P ++ [(h4, mOut cJ G0)]) H1 := va_P.app hP1 hPo
    have hrg : mRI (mBeg v y + pl) := rg_dayOf hok y pl hy9 hp9 hex
    refine W.eq (g2 := F0 m 8 ls [.int (mI (mBeg v y + pl)), .int (mI (0)), .ref h4]) rfl ?_
    refine mw_i2l hx hb hrg dL_dayOf_8 ?_
    refine mw_last hx hb hK hP2 (mD4 hdis (mA4_in h0 a1 a2 h4)) hS 3 rfl rfl dL_dayOf_9 (fun H2 locs2 F1 hF1 hP3 hS => ?_)
    have hP3 : va_P D vwCl (mXW h0 a1 a2 cA v L P ++ [(h4, mOut cJ F1)]) H2 := hP3
    refine lv_goto (tgt := 17) hx hb dL_dayOf_10 (by decide) ?_
    refine mw_iconst hx hb dL_dayOf_17 ?_
    exact mw_wret hx hb hr hlocks dL_dayOf_18 F1 (by rw [hex]; rfl) (fun _ => hF1) hP3 hS
  · have hP2 : va_P D vwCl (mXW h0 a1 a2 cA v L P ++ [(h4, mOut cJ G0)]) H1 := mw_keepP hP hk
    match k, hexk, hes with
    | 0, hexk, hes =>
      cases hes
      refine vx_catch (own := RL) (name := mEA) (E := mEA) hown [] ⟨0, 10, 13, 13⟩ [] htab (fun z hz => nomatch hz) (by decide) (by decide) (hts (.classLink RL 13 mEA) (by decide +kernel)) (va_Nw.use rfl hE.1.2.2.2.2.2.1) hce hcv hcl ?_
      refine lv_astore (lv' := [(4, .ref q9), (0, .ref h0), (1, .int (mI (y))), (2, .int (mI (pl))), (3, .ref h4)]) hx hb dL_dayOf_13 hl (by decide) rfl (fun ls hl => ?_)
      refine mw_iconst hx hb dL_dayOf_15 ?_
      exact mw_wret hx hb hr hlocks dL_dayOf_16 G0 (by rw [hexk]; rfl) (fun h9 => by omega) hP2 hS
    | k + 1, hexk, hes => simp at hes

set_option maxHeartbeats 400000 in
set_option maxRecDepth 100000 in
theorem w_timesInYear (l : Launch) (hfl : l.flags = flags0) (D : va_G) (h0 a1 a2 h4 : Nat) (cA cJ : ClassId) (G0 : Nat → Int64) (v : Nat → Int) (L P : Int → Int) (m9 y : Int) (hm9 : mRI m9) (hy9 : mRI y) (hok : mOK v L P) (hdis : mDis4 h0 a1 a2 h4) : mW l yL_timesInYear wsL_timesInYear ({ frames := 9, cells := 1, slots := 6, locals := 152 }) [.ref h0, .int (mI (m9)), .int (mI (y)), .ref h4] D (mXW h0 a1 a2 cA v L P ++ [(h4, mOut cJ G0)]) (mTy cA cJ) (mEx2 (mMk v m9) (mYear y)) (fun r => r = mL (mCnt L P m9 (mBeg v y) (mBeg v (y + 1) - 1))) (fun F => mXW h0 a1 a2 cA v L P ++ [(h4, mOut cJ F)]) (mA4 h0 a1 a2 h4) := by
  refine mw_openW (cc := cL_timesInYear) (maxL := 5) (ret := (some .int)) (hh := [(0, 10, 13, 20), (0, 10, 17, 13)]) (by decide) rfl (Nat.le_of_ble_eq_true rfl) ?_
  intro p e s m below meth c ls hC hr hlocks htab hB hE hN hl
  obtain ⟨hx, hb, hml, hown, hts⟩ := id hC
  obtain ⟨hP, hK⟩ := hB
  have hPx := hP.sub (ws' := mXW h0 a1 a2 cA v L P) [0, 1, 2] rfl
  obtain ⟨-, d4, d5, d6⟩ := id hdis
  have hl : lv_has ls 5 [(0, .ref h0), (1, .int (mI (m9))), (2, .int (mI (y))), (3, .ref h4)] := hl
  refine lv_aload_n hx hb dL_timesInYear_0 rfl (lv_at hl 3 rfl) ?_
  refine mw_iconst hx hb dL_timesInYear_1 ?_
  refine lv_aload_n hx hb dL_timesInYear_2 rfl (lv_at hl 0 rfl) ?_
  refine lv_iload_n hx hb dL_timesInYear_3 rfl (lv_at hl 1 rfl) ?_
  refine lv_iload_n hx hb dL_timesInYear_4 rfl (lv_at hl 2 rfl) ?_
  refine mw_cX (rest := [.int (mI (0)), .ref h4]) (A0 := mA4 h0 a1 a2 h4) hC (x_X0_timesInYear l hfl D h0 a1 a2 cA cJ v L P m9 y hm9 hy9 hok) hE (cwV 2 hts gL_timesInYear_X0_timesInYear rfl rfl rfl (by decide +kernel) ⟨Nat.le_of_ble_eq_true rfl, Nat.le_of_ble_eq_true rfl⟩) hK hPx (fun _ h => h.elim) rfl rfl hl.1 rfl (Nat.le_of_ble_eq_true rfl) ⟨Nat.le_of_ble_eq_true rfl, Nat.le_of_ble_eq_true rfl⟩ dL_timesInYear_5 (fun H1 locs1 hex hP1 hS hk => ?_) (fun E ce q9 H1 locs1 k hexk hes hk hS hce hcv hcl => ?_)
  · have hPo : va_P D vwCl [(h4, mOut cJ G0)] H1 := (hP.sub (ws' := [(h4, mOut cJ G0)]) [3] rfl).kept (fun k q hq => by
      match k, hq with
      | 0, hq => cases hq; exact hk h4 (hP 3 _ rfl).lt (fun q => q)
      | k + 1, hq => simp at hq)
    have hP2 : va_P D vwCl (mXW h0 a1 a2 cA v L P ++ [(h4, mOut cJ G0)]) H1 := va_P.app hP1 hPo
    have hrg : mRI (mCnt L P m9 (mBeg v y) (mBeg v (y + 1) - 1)) := rg_timesInYear hok m9 y hm9 hy9 hex
    refine W.eq (g2 := F0 m 8 ls [.int (mI (mCnt L P m9 (mBeg v y) (mBeg v (y + 1) - 1))), .int (mI (0)), .ref h4]) rfl ?_
    refine mw_i2l hx hb hrg dL_timesInYear_8 ?_
    refine mw_last hx hb hK hP2 (mD4 hdis (mA4_in h0 a1 a2 h4)) hS 3 rfl rfl dL_timesInYear_9 (fun H2 locs2 F1 hF1 hP3 hS => ?_)
    have hP3 : va_P D vwCl (mXW h0 a1 a2 cA v L P ++ [(h4, mOut cJ F1)]) H2 := hP3
    refine lv_goto (tgt := 21) hx hb dL_timesInYear_10 (by decide) ?_
    refine mw_iconst hx hb dL_timesInYear_21 ?_
    exact mw_wret hx hb hr hlocks dL_timesInYear_22 F1 (by rw [hex]; rfl) (fun _ => hF1) hP3 hS
  · have hP2 : va_P D vwCl (mXW h0 a1 a2 cA v L P ++ [(h4, mOut cJ G0)]) H1 := mw_keepP hP hk
    match k, hexk, hes with
    | 0, hexk, hes =>
      cases hes
      refine vx_catch (own := RL) (name := mEI) (E := mEI) hown [] ⟨0, 10, 13, 20⟩ [⟨0, 10, 17, 13⟩] htab (fun z hz => nomatch hz) (by decide) (by decide) (hts (.classLink RL 20 mEI) (by decide +kernel)) (va_Nw.use rfl hE.1.2.2.2.2.2.2.2.1) hce hcv hcl ?_
      refine lv_astore (lv' := [(4, .ref q9), (0, .ref h0), (1, .int (mI (m9))), (2, .int (mI (y))), (3, .ref h4)]) hx hb dL_timesInYear_13 hl (by decide) rfl (fun ls hl => ?_)
      refine mw_iconst hx hb dL_timesInYear_15 ?_
      exact mw_wret hx hb hr hlocks dL_timesInYear_16 G0 (by rw [hexk]; rfl) (fun h9 => by omega) hP2 hS
    | 1, hexk, hes =>
      cases hes
      refine vx_catch (own := RL) (name := mEA) (E := mEA) hown [⟨0, 10, 13, 20⟩] ⟨0, 10, 17, 13⟩ [] htab (fun z hz => by
        cases List.mem_singleton.mp hz; exact Or.inr ⟨by decide, mEI, hts (.classLink RL 20 mEI) (by decide +kernel), hN.2.1⟩) (by decide) (by decide) (hts (.classLink RL 13 mEA) (by decide +kernel)) (va_Nw.use rfl hE.1.2.2.2.2.2.1) hce hcv hcl ?_
      refine lv_astore (lv' := [(4, .ref q9), (0, .ref h0), (1, .int (mI (m9))), (2, .int (mI (y))), (3, .ref h4)]) hx hb dL_timesInYear_17 hl (by decide) rfl (fun ls hl => ?_)
      refine mw_iconst hx hb dL_timesInYear_19 ?_
      exact mw_wret hx hb hr hlocks dL_timesInYear_20 G0 (by rw [hexk]; rfl) (fun h9 => by omega) hP2 hS
    | k + 2, hexk, hes => simp at hes
