theorem g_act {v : Nat → Int} {L P : Int → Int} (hok : mOK v L P) (V : Int) (hV : mRI V) : ∃ (r : Int) (v' : Nat → Int) (L' P' : Int → Int) (ec : Nat), mRI r ∧ mOK v' L' P' ∧ (r = -99999 → v' = v ∧ L' = L ∧ P' = P) ∧ (¬ r = -99999 → ec = 0) ∧ ∀ (l : Launch) (hfl : l.flags = flags0) (D : va_G) (h0 a1 a2 : Nat) (cA cJ : ClassId) (hdis : mDis h0 a1 a2), mG l yL_act wsL_act ({ frames := 10, cells := mC ec, slots := 6 * mC ec, locals := 172 }) [.ref h0, .int (mI (V))] D (mXW h0 a1 a2 cA v L P) (mTy cA cJ) r 0 (mXW h0 a1 a2 cA v' L' P') (mA3 h0 a1 a2) (mC ec) (6 * mC ec) := by
  have b7 := mLow_r V 7 (by omega)
  have hv9 := hok.1
  have key : ∀ (ex : Nat) (a : Int) (v1 : Nat → Int) (L1 P1 : Int → Int), mOK (mIf ex v1 v) (mIf ex L1 L) (mIf ex P1 P) → (ex = 0 → 0 ≤ a ∧ a < 2147483648) → mRI (mK4 ex a (-99999) (-99999) (-99999)) ∧ mOK (mIf ex v1 v) (mIf ex L1 L) (mIf ex P1 P) ∧ (mK4 ex a (-99999) (-99999) (-99999) = -99999 → mIf ex v1 v = v ∧ mIf ex L1 L = L ∧ mIf ex P1 P = P) ∧ (¬ mK4 ex a (-99999) (-99999) (-99999) = -99999 → ex = 0) := by
    intro ex a v1 L1 P1 h1 h2
    by_cases c : ex = 0
    · have h3 := h2 c
      rw [mK4_0 c]
      exact ⟨by omega, h1, fun h => by omega, fun _ => c⟩
    · have e : mK4 ex a (-99999) (-99999) (-99999) = -99999 := by
        unfold mK4
        rw [if_neg c]
        split
        · rfl
        · split <;> rfl
      rw [e]
      exact ⟨by omega, h1, fun _ => ⟨mIf_1 c, mIf_1 c, mIf_1 c⟩, fun h => absurd rfl h⟩
  by_cases ho : mLow (mShr V 24) 9 = 0
  · rcases (by omega : mLow V 7 = 0 ∨ mLow V 7 = 1 ∨ mLow V 7 = 2 ∨ mLow V 7 = 3 ∨ mLow V 7 = 4 ∨ mLow V 7 = 5 ∨ mLow V 7 = 6) with hk9 | hk9 | hk9 | hk9 | hk9 | hk9 | hk9
    · obtain ⟨k1, k2, k3, k4⟩ := key _ (v 0) _ _ _ (ok_addMarket hok ((1 + (mLow (mShr V 4) 62))) ((mLow (mShr V 9) ((1 + (mLow (mShr V 4) 62)) + 1)))) (fun _ => by omega)
      exact ⟨_, _, _, _, _, k1, k2, k3, k4, fun l hfl D h0 a1 a2 cA cJ hdis => g_act01 l hfl D h0 a1 a2 cA cJ v L P V hV ho hk9 hdis hok⟩
    · obtain ⟨k1, k2, k3, k4⟩ := key _ (v 0) _ _ _ (ok_addMarket hok ((1 + (mLow (mShr V 4) 62))) ((mLow (mShr V 9) ((1 + (mLow (mShr V 4) 62)) + 1)))) (fun _ => by omega)
      exact ⟨_, _, _, _, _, k1, k2, k3, k4, fun l hfl D h0 a1 a2 cA cJ hdis => g_act11 l hfl D h0 a1 a2 cA cJ v L P V hV ho hk9 hdis hok⟩
    · obtain ⟨k1, k2, k3, k4⟩ := key _ (v 0) _ _ _ (ok_addMarket hok ((1 + (mLow (mShr V 4) 62))) ((mLow (mShr V 9) ((1 + (mLow (mShr V 4) 62)) + 1)))) (fun _ => by omega)
      exact ⟨_, _, _, _, _, k1, k2, k3, k4, fun l hfl D h0 a1 a2 cA cJ hdis => g_act21 l hfl D h0 a1 a2 cA cJ v L P V hV ho hk9 hdis hok⟩
    · obtain ⟨k1, k2, k3, k4⟩ := key _ ((P (mLow (mShr V 5) 17) + ((mLow (mShr V 9) 140) - 60)) % L (mLow (mShr V 5) 17)) _ _ _ (ok_shift hok ((mLow (mShr V 5) 17)) (((mLow (mShr V 9) 140) - 60))) (fun h => by
        have hx := mEx2_z h
        have hl := hok.2.1 ((mLow (mShr V 5) 17)) (by omega) (by omega)
        have := m_mod_r (a := P ((mLow (mShr V 5) 17)) + (((mLow (mShr V 9) 140) - 60))) (b := L ((mLow (mShr V 5) 17))) (by omega)
        omega)
      exact ⟨_, _, _, _, _, k1, k2, k3, k4, fun l hfl D h0 a1 a2 cA cJ hdis => g_act31 l hfl D h0 a1 a2 cA cJ v L P V hV ho hk9 hdis hok⟩
    · obtain ⟨k1, k2, k3, k4⟩ := key _ (0) _ _ _ (ok_setMoon hok ((((1 + (mLow (mShr V 7) 100)) * 1) + (mLow (mShr V 3) 400))) ((1 + (mLow (mShr V 7) 101))) (((mLow (mShr V 11) 2100) - 1000))) (fun _ => by omega)
      exact ⟨_, _, _, _, _, k1, k2, k3, k4, fun l hfl D h0 a1 a2 cA cJ hdis => g_act41 l hfl D h0 a1 a2 cA cJ v L P V hV ho hk9 hdis hok⟩
    · obtain ⟨k1, k2, k3, k4⟩ := key _ (0) _ _ _ (ok_setYear hok ((100 + (mLow (mShr V 9) 410))) ((mLow (mShr V 12) ((1 + (mLow (mShr V 5) 402)) + 2))) ((mLow (mShr V 15) (1 + (mLow (mShr V 5) 402)))) ((1 + (mLow (mShr V 5) 402)))) (fun _ => by omega)
      exact ⟨_, _, _, _, _, k1, k2, k3, k4, fun l hfl D h0 a1 a2 cA cJ hdis => g_act51 l hfl D h0 a1 a2 cA cJ v L P V hV ho hk9 hdis hok⟩
    · obtain ⟨k1, k2, k3, k4⟩ := key _ (0) _ _ _ (ok_setYear hok ((365 : Int)) ((-1)) ((0 : Int)) ((400 : Int))) (fun _ => by omega)
      exact ⟨_, _, _, _, _, k1, k2, k3, k4, fun l hfl D h0 a1 a2 cA cJ hdis => g_act61 l hfl D h0 a1 a2 cA cJ v L P V hV ho hk9 hdis hok⟩
  · rcases (by omega : mLow V 7 = 0 ∨ mLow V 7 = 1 ∨ mLow V 7 = 2 ∨ mLow V 7 = 3 ∨ mLow V 7 = 4 ∨ mLow V 7 = 5 ∨ mLow V 7 = 6) with hk9 | hk9 | hk9 | hk9 | hk9 | hk9 | hk9
    · obtain ⟨k1, k2, k3, k4⟩ := key _ (v 0) _ _ _ (ok_addMarket hok ((1 + (mLow (mShr V 4) (1 + (mLow (mShr V 14) 59))))) ((mLow (mShr V 9) ((1 + (mLow (mShr V 4) (1 + (mLow (mShr V 14) 59)))) + 0)))) (fun _ => by omega)
      exact ⟨_, _, _, _, _, k1, k2, k3, k4, fun l hfl D h0 a1 a2 cA cJ hdis => g_act00 l hfl D h0 a1 a2 cA cJ v L P V hV ho hk9 hdis hok⟩
    · obtain ⟨k1, k2, k3, k4⟩ := key _ (v 0) _ _ _ (ok_addMarket hok ((1 + (mLow (mShr V 4) (1 + (mLow (mShr V 14) 59))))) ((mLow (mShr V 9) ((1 + (mLow (mShr V 4) (1 + (mLow (mShr V 14) 59)))) + 0)))) (fun _ => by omega)
      exact ⟨_, _, _, _, _, k1, k2, k3, k4, fun l hfl D h0 a1 a2 cA cJ hdis => g_act10 l hfl D h0 a1 a2 cA cJ v L P V hV ho hk9 hdis hok⟩
    · obtain ⟨k1, k2, k3, k4⟩ := key _ (v 0) _ _ _ (ok_addMarket hok ((1 + (mLow (mShr V 4) (1 + (mLow (mShr V 14) 59))))) ((mLow (mShr V 9) ((1 + (mLow (mShr V 4) (1 + (mLow (mShr V 14) 59)))) + 0)))) (fun _ => by omega)
      exact ⟨_, _, _, _, _, k1, k2, k3, k4, fun l hfl D h0 a1 a2 cA cJ hdis => g_act20 l hfl D h0 a1 a2 cA cJ v L P V hV ho hk9 hdis hok⟩
    · obtain ⟨k1, k2, k3, k4⟩ := key _ ((P (mLow (mShr V 5) ((v 0) + 1)) + ((mLow (mShr V 9) 121) - 60)) % L (mLow (mShr V 5) ((v 0) + 1))) _ _ _ (ok_shift hok ((mLow (mShr V 5) ((v 0) + 1))) (((mLow (mShr V 9) 121) - 60))) (fun h => by
        have hx := mEx2_z h
        have hl := hok.2.1 ((mLow (mShr V 5) ((v 0) + 1))) (by omega) (by omega)
        have := m_mod_r (a := P ((mLow (mShr V 5) ((v 0) + 1))) + (((mLow (mShr V 9) 121) - 60))) (b := L ((mLow (mShr V 5) ((v 0) + 1)))) (by omega)
        omega)
      exact ⟨_, _, _, _, _, k1, k2, k3, k4, fun l hfl D h0 a1 a2 cA cJ hdis => g_act30 l hfl D h0 a1 a2 cA cJ v L P V hV ho hk9 hdis hok⟩
    · obtain ⟨k1, k2, k3, k4⟩ := key _ (0) _ _ _ (ok_setMoon hok ((((1 + (mLow (mShr V 7) 100)) * 2) + (mLow (mShr V 3) 400))) ((1 + (mLow (mShr V 7) 100))) (((mLow (mShr V 11) 2001) - 1000))) (fun _ => by omega)
      exact ⟨_, _, _, _, _, k1, k2, k3, k4, fun l hfl D h0 a1 a2 cA cJ hdis => g_act40 l hfl D h0 a1 a2 cA cJ v L P V hV ho hk9 hdis hok⟩
    · obtain ⟨k1, k2, k3, k4⟩ := key _ (0) _ _ _ (ok_setYear hok ((100 + (mLow (mShr V 9) 401))) ((mLow (mShr V 12) ((1 + (mLow (mShr V 5) 400)) + 1))) ((mLow (mShr V 15) (1 + (mLow (mShr V 5) 400)))) ((1 + (mLow (mShr V 5) 400)))) (fun _ => by omega)
      exact ⟨_, _, _, _, _, k1, k2, k3, k4, fun l hfl D h0 a1 a2 cA cJ hdis => g_act50 l hfl D h0 a1 a2 cA cJ v L P V hV ho hk9 hdis hok⟩
    · obtain ⟨k1, k2, k3, k4⟩ := key _ (0) _ _ _ (ok_setYear hok ((365 : Int)) ((97 : Int)) ((0 : Int)) ((400 : Int))) (fun _ => by omega)
      exact ⟨_, _, _, _, _, k1, k2, k3, k4, fun l hfl D h0 a1 a2 cA cJ hdis => g_act60 l hfl D h0 a1 a2 cA cJ v L P V hV ho hk9 hdis hok⟩
