set_option maxHeartbeats 400000 in
set_option maxRecDepth 100000 in
theorem w_next (l : Launch) (hfl : l.flags = flags0) (D : va_G) (h0 a1 a2 h4 : Nat) (cA cJ : ClassId) (G0 : Nat → Int64) (v : Nat → Int) (L P : Int → Int) (m9 d : Int) (hm9 : mRI m9) (hd9 : mRI d) (hok : mOK v L P) (hdis : mDis4 h0 a1 a2 h4) : mW l yL_next wsL_next ({ frames := 9, cells := 1, slots := 6, locals := 152 }) [.ref h0, .int (mI (m9)), .int (mI (d)), .ref h4] D (mXW h0 a1 a2 cA v L P ++ [(h4, mOut cJ G0)]) (mTy cA cJ) (mEx2 (mMk v m9) (mDay d)) (fun r => r = mL (d + (P m9 - d) % L m9)) (fun F => mXW h0 a1 a2 cA v L P ++ [(h4, mOut cJ F)]) (mA4 h0 a1 a2 h4) := by
  refine mw_openW (cc := cL_next) (maxL := 5) (ret := (some .int)) (hh := [(0, 10, 13, 20), (0, 10, 17, 13)]) (by decide) rfl (Nat.le_of_ble_eq_true rfl) ?_
  intro p e s m below meth c ls hC hr hlocks htab hB hE hN hl
  obtain ⟨hx, hb, hml, hown, hts⟩ := id hC
  obtain ⟨hP, hK⟩ := hB
  have hPx := hP.sub (ws' := mXW h0 a1 a2 cA v L P) [0, 1, 2] rfl
  obtain ⟨-, d4, d5, d6⟩ := id hdis
  have hl : lv_has ls 5 [(0, .ref h0), (1, .int (mI (m9))), (2, .int (mI (d))), (3, .ref h4)] := hl
  refine lv_aload_n hx hb dL_next_0 rfl (lv_at hl 3 rfl) ?_
  refine mw_iconst hx hb dL_next_1 ?_
  refine lv_aload_n hx hb dL_next_2 rfl (lv_at hl 0 rfl) ?_
  refine lv_iload_n hx hb dL_next_3 rfl (lv_at hl 1 rfl) ?_
  refine lv_iload_n hx hb dL_next_4 rfl (lv_at hl 2 rfl) ?_
  refine mw_cX (rest := [.int (mI (0)), .ref h4]) (A0 := mA4 h0 a1 a2 h4) hC (x_X0_next l hfl D h0 a1 a2 cA cJ v L P m9 d hm9 hd9 hok) hE (cwV 2 hts gL_next_X0_next rfl rfl rfl (by decide +kernel) ⟨Nat.le_of_ble_eq_true rfl, Nat.le_of_ble_eq_true rfl⟩) hK hPx (fun _ h => h.elim) rfl rfl hl.1 rfl (Nat.le_of_ble_eq_true rfl) ⟨Nat.le_of_ble_eq_true rfl, Nat.le_of_ble_eq_true rfl⟩ dL_next_5 (fun H1 locs1 hex hP1 hS hk => ?_) (fun E ce q9 H1 locs1 k hexk hes hk hS hce hcv hcl => ?_)
  · have hPo : va_P D vwCl [(h4, mOut cJ G0)] H1 := (hP.sub (ws' := [(h4, mOut cJ G0)]) [3] rfl).kept (fun k q hq => by
      match k, hq with
      | 0, hq => cases hq; exact hk h4 (hP 3 _ rfl).lt (fun q => q)
      | k + 1, hq => simp at hq)
    have hP2 : va_P D vwCl (mXW h0 a1 a2 cA v L P ++ [(h4, mOut cJ G0)]) H1 := va_P.app hP1 hPo
    have hrg : mRI (d + (P m9 - d) % L m9) := rg_next hok m9 d hm9 hd9 hex
    refine W.eq (g2 := F0 m 8 ls [.int (mI (d + (P m9 - d) % L m9)), .int (mI (0)), .ref h4]) rfl ?_
    refine mw_i2l hx hb hrg dL_next_8 ?_
    refine mw_last hx hb hK hP2 (mD4 hdis (mA4_in h0 a1 a2 h4)) hS 3 rfl rfl dL_next_9 (fun H2 locs2 F1 hF1 hP3 hS => ?_)
    have hP3 : va_P D vwCl (mXW h0 a1 a2 cA v L P ++ [(h4, mOut cJ F1)]) H2 := hP3
    refine lv_goto (tgt := 21) hx hb dL_next_10 (by decide) ?_
    refine mw_iconst hx hb dL_next_21 ?_
    exact mw_wret hx hb hr hlocks dL_next_22 F1 (by rw [hex]; rfl) (fun _ => hF1) hP3 hS
  · have hP2 : va_P D vwCl (mXW h0 a1 a2 cA v L P ++ [(h4, mOut cJ G0)]) H1 := mw_keepP hP hk
    match k, hexk, hes with
    | 0, hexk, hes =>
      cases hes
      refine vx_catch (own := RL) (name := mEI) (E := mEI) hown [] ⟨0, 10, 13, 20⟩ [⟨0, 10, 17, 13⟩] htab (fun z hz => nomatch hz) (by decide) (by decide) (hts (.classLink RL 20 mEI) (by decide +kernel)) (va_Nw.use rfl hE.1.2.2.2.2.2.2.2.1) hce hcv hcl ?_
      refine lv_astore (lv' := [(4, .ref q9), (0, .ref h0), (1, .int (mI (m9))), (2, .int (mI (d))), (3, .ref h4)]) hx hb dL_next_13 hl (by decide) rfl (fun ls hl => ?_)
      refine mw_iconst hx hb dL_next_15 ?_
      exact mw_wret hx hb hr hlocks dL_next_16 G0 (by rw [hexk]; rfl) (fun h9 => by omega) hP2 hS
    | 1, hexk, hes =>
      cases hes
      refine vx_catch (own := RL) (name := mEA) (E := mEA) hown [⟨0, 10, 13, 20⟩] ⟨0, 10, 17, 13⟩ [] htab (fun z hz => by
        cases List.mem_singleton.mp hz; exact Or.inr ⟨by decide, mEI, hts (.classLink RL 20 mEI) (by decide +kernel), hN.2.1⟩) (by decide) (by decide) (hts (.classLink RL 13 mEA) (by decide +kernel)) (va_Nw.use rfl hE.1.2.2.2.2.2.1) hce hcv hcl ?_
      refine lv_astore (lv' := [(4, .ref q9), (0, .ref h0), (1, .int (mI (m9))), (2, .int (mI (d))), (3, .ref h4)]) hx hb dL_next_17 hl (by decide) rfl (fun ls hl => ?_)
      refine mw_iconst hx hb dL_next_19 ?_
      exact mw_wret hx hb hr hlocks dL_next_20 G0 (by rw [hexk]; rfl) (fun h9 => by omega) hP2 hS
    | k + 2, hexk, hes => simp at hes
