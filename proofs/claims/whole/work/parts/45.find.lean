theorem mFd_bitR {L P : Int → Int} {z d0 d st i : Int} (h0 : 0 ≤ i) (h : mFd L P z d0 i.toNat = some (d, st)) (hb : mBit z i.toNat = 1) : ((mJ (L i) (P i) st d : Int) < L i → mFd L P z d0 (i + 1).toNat = some (d + (mJ (L i) (P i) st d : Int) * st, st * (mFac st (L i) : Int))) ∧ (¬ (mJ (L i) (P i) st d : Int) < L i → mFd L P z d0 (i + 1).toNat = none) := by
  have e : ((i.toNat : Nat) : Int) = i := by omega
  have e2 : (i + 1).toNat = i.toNat + 1 := by omega
  have h2 := mFd_bit h hb
  rw [e] at h2
  rw [e2, h2]
  exact ⟨fun c => if_pos c, fun c => if_neg c⟩
set_option maxHeartbeats 400000 in
set_option maxRecDepth 100000 in
theorem c_X1_find (l : Launch) (D : va_G) (h0 a1 a2 : Nat) (cA cJ : ClassId) (t f g : Int) (v : Nat → Int) (L P : Int → Int) (z d : Int) (hok : mOK v L P) (hz : mRI z) (hd : mDay d) (h5 : 1 ≤ mPop z 32 ∧ mPop z 32 ≤ 5) (hdis : mDis h0 a1 a2) : mM (S := Int × Int) l yX1_find wsX1_find ({ frames := 2, cells := 0, slots := 0, locals := 48 }) [.ref h0, .int (mI (z)), .int (mI (d))] D (mMW h0 a1 a2 cA t f g v L P) (mTy cA cJ) (some (.int (mI (mB ((mFd L P z d (v 0).toNat).isSome = true))))) (fun u => (mFd L P z d (v 0).toNat).isSome = true → mFd L P z d (v 0).toNat = some u) (fun u => mMW h0 a1 a2 cA t u.1 u.2 v L P) (mA3 h0 a1 a2) := by
  refine mw_openM (cc := cX1_find) (maxL := 7) (ret := (some .boolean)) (by decide) rfl (Nat.le_of_ble_eq_true rfl) ?_
  intro p e s m below meth c ls hC hr hlocks hB hl
  obtain ⟨hx, hb, hml, hown, hts⟩ := id hC
  obtain ⟨hP, hK⟩ := hB
  have hin : ∀ w ∈ wsX10, w ∈ wsX1_find := by decide +kernel
  have hl : lv_has ls 7 [(0, .ref h0), (1, .int (mI (z))), (2, .int (mI (d)))] := hl
  have hS : va_S (mA3 h0 a1 a2) s.heap s.heap [] := va_S.rf
  have hDD : ∀ (t f g : Int) (v : Nat → Int) (L P : Int → Int), va_D (mA3 h0 a1 a2) (mMW h0 a1 a2 cA t f g v L P) := fun t f g v L P => mD3 hdis (mA3_in h0 a1 a2)
  have hD := hDD t f g v L P
  have hok9 := hok
  obtain ⟨⟨o1, o2⟩, oL, ⟨o3, o4, o5, o6, o7, o8⟩, ⟨o9, o10, o11, o12, o13, o14, o15, o16⟩⟩ := hok9
  refine lv_aload_n hx hb dX1_find_0 rfl (lv_at hl 0 rfl) ?_
  refine lv_iload_n hx hb dX1_find_1 rfl (lv_at hl 2 rfl) ?_
  refine mw_i2l hx hb (by omega) dX1_find_2 ?_
  refine mw_putMl hx hb hts hin hown hK hP hD hS rfl 11 (by decide) (Nat.le_of_ble_eq_true rfl) (by decide +kernel) rfl rfl (by decide +kernel) dX1_find_3 (fun H locs hP hS => ?_)
  have hP : va_P D vwCl (mMW h0 a1 a2 cA t d g v L P) H := hP
  have hD := hDD t d g v L P
  refine lv_aload_n hx hb dX1_find_6 rfl (lv_at hl 0 rfl) ?_
  refine mw_lconst hx hb 1 (by decide +kernel) dX1_find_7 ?_
  refine mw_putMl hx hb hts hin hown hK hP hD hS rfl 12 (by decide) (Nat.le_of_ble_eq_true rfl) (by decide +kernel) rfl rfl (by decide +kernel) dX1_find_8 (fun H locs hP hS => ?_)
  have hP : va_P D vwCl (mMW h0 a1 a2 cA t d 1 v L P) H := hP
  have hD := hDD t d 1 v L P
  refine mw_iconst hx hb dX1_find_11 ?_
  refine lv_istore_n (lv' := [(3, .int (mI (0))), (0, .ref h0), (1, .int (mI (z))), (2, .int (mI (d)))]) hx hb dX1_find_12 rfl hl (by decide) rfl (fun ls hl => ?_)
  refine mw_loopM (T := Int × Int × Int) (nL := 7) (fun x => (0 ≤ x.1 ∧ x.1 ≤ v 0) ∧ mFd L P z d (x.1).toNat = some (x.2.1, x.2.2)) (fun x => (v 0 - (x.1)).toNat) 13 (fun x => [(3, .int (mI (x.1))), (0, .ref h0), (1, .int (mI (z)))]) (fun x H locs => va_P D vwCl (mMW h0 a1 a2 cA t (x.2.1) (x.2.2) v L P) H ∧ va_S (mA3 h0 a1 a2) s.heap H locs) ?_ ((0 : Int), (d : Int), (1 : Int)) (show (0 ≤ (0 : Int) ∧ (0 : Int) ≤ v 0) ∧ mFd L P z d ((0 : Int)).toNat = some ((d : Int), (1 : Int)) from ⟨⟨by omega, by omega⟩, rfl⟩) ⟨hP, hS⟩ ls (lv_sub hl [0, 1, 2] rfl)
  intro x hI ih1 H locs hPS ls hl
  obtain ⟨i, fd, st⟩ := x
  have hl : lv_has ls 7 [(3, .int (mI (i))), (0, .ref h0), (1, .int (mI (z)))] := hl
  have hI : (0 ≤ i ∧ i ≤ v 0) ∧ mFd L P z d (i).toNat = some (fd, st) := hI
  obtain ⟨hP, hS⟩ := hPS
  have hP : va_P D vwCl (mMW h0 a1 a2 cA t fd st v L P) H := hP
  have hS : va_S (mA3 h0 a1 a2) s.heap H locs := hS
  have hD := hDD t fd st v L P
  obtain ⟨⟨i1, i2⟩, i3⟩ := hI
  have f1 := m_bd hok (by omega) h5.2 i3
  have f2 := mBit_shrI hz (i := i) i1 (by omega)
  have f4 := mAnd_r (mShr z i) 1
  have f5 : ((i.toNat : Nat) : Int) = i := by omega
  rw [f5] at f1
  refine lv_iload_n hx hb dX1_find_13 rfl (lv_at hl 0 rfl) ?_
  refine lv_aload_n hx hb dX1_find_14 rfl (lv_at hl 1 rfl) ?_
  refine mw_getM hx hb hts hin hown hK hP rfl 3 (by decide) (by decide +kernel) rfl rfl dX1_find_15 ?_
  refine mw_icmp_ge (tgt := 134) hx hb (by omega) (by omega) dX1_find_18 (by decide) (fun c_18 => ?_) (fun c_18 => ?_)
  · refine mw_iconst hx hb dX1_find_134 ?_
    exact mw_mretZ hx hb hr hlocks dX1_find_135 (fd, st) (fun _ => by have e : i = v 0 := (by omega); rw [← e]; exact i3) hP hS (mB_t (by have e : i = v 0 := (by omega); rw [← e, i3]; rfl)).symm
  · refine lv_iload_n hx hb dX1_find_21 rfl (lv_at hl 2 rfl) ?_
    refine lv_iload_n hx hb dX1_find_22 rfl (lv_at hl 0 rfl) ?_
    refine mw_ishr hx hb dX1_find_23 ?_
    refine mw_iconst hx hb dX1_find_24 ?_
    refine mw_iand hx hb dX1_find_25 ?_
    refine mw_iconst hx hb dX1_find_26 ?_
    refine mw_icmp_ne (tgt := 128) hx hb (by omega) (by omega) dX1_find_27 (by decide) (fun c_27 => ?_) (fun c_27 => ?_)
    · refine mw_iinc (k := 0) (lv' := [(3, .int (mI (i + 1))), (0, .ref h0), (1, .int (mI (z)))]) hx hb dX1_find_128 hl rfl (by decide) rfl (fun ls hl => ?_)
      refine lv_goto (tgt := 13) hx hb dX1_find_131 (by decide) ?_
      exact ih1 ((i + 1), fd, st) (show (0 ≤ (i + 1) ∧ (i + 1) ≤ v 0) ∧ mFd L P z d ((i + 1)).toNat = some (fd, st) from ⟨⟨by omega, by omega⟩, mFd_noI i1 i3 (by omega)⟩) (show (v 0 - ((i + 1))).toNat < (v 0 - i).toNat from (by omega)) _ _ ⟨hP, hS⟩ ls (lv_sub hl [0, 1, 2] rfl)
    · have f6 : mBit z i.toNat = 1 := by omega
      obtain ⟨b1, b3⟩ := mFd_bitR i1 i3 f6
      obtain ⟨l1, l2, l3, l4⟩ := oL i (by omega) (by omega)
      refine mw_iconst hx hb dX1_find_30 ?_
      refine lv_istore (lv' := [(4, .int (mI (0))), (3, .int (mI (i))), (0, .ref h0), (1, .int (mI (z)))]) hx hb dX1_find_31 hl (by decide) rfl (fun ls hl => ?_)
      refine mw_loopM (T := Int × Int) (nL := 7) (fun x => (0 ≤ x.1 ∧ x.1 ≤ L i) ∧ x.2 = fd + (x.1) * st ∧ ∀ k : Nat, (k : Int) < x.1 → ¬ (fd + (k : Int) * st) % L i = P i) (fun x => (L i - (x.1)).toNat) 33 (fun x => [(4, .int (mI (x.1))), (0, .ref h0), (1, .int (mI (z))), (3, .int (mI (i)))]) (fun x H locs => va_P D vwCl (mMW h0 a1 a2 cA t (x.2) st v L P) H ∧ va_S (mA3 h0 a1 a2) s.heap H locs) ?_ ((0 : Int), (fd : Int)) (show (0 ≤ (0 : Int) ∧ (0 : Int) ≤ L i) ∧ (fd : Int) = fd + ((0 : Int)) * st ∧ ∀ k : Nat, (k : Int) < (0 : Int) → ¬ (fd + (k : Int) * st) % L i = P i from ⟨⟨by omega, by omega⟩, (by omega), fun k hk => by omega⟩) ⟨hP, hS⟩ ls (lv_sub hl [0, 2, 3, 1] rfl)
      intro x hJ ih2 H locs hPS ls hl
      obtain ⟨tr, ff⟩ := x
      have hl : lv_has ls 7 [(4, .int (mI (tr))), (0, .ref h0), (1, .int (mI (z))), (3, .int (mI (i)))] := hl
      have hJ : (0 ≤ tr ∧ tr ≤ L i) ∧ ff = fd + tr * st ∧ ∀ k : Nat, (k : Int) < tr → ¬ (fd + (k : Int) * st) % L i = P i := hJ
      obtain ⟨hP, hS⟩ := hPS
      have hP : va_P D vwCl (mMW h0 a1 a2 cA t ff st v L P) H := hP
      have hS : va_S (mA3 h0 a1 a2) s.heap H locs := hS
      have hD := hDD t ff st v L P
      obtain ⟨⟨j1, j2⟩, j3, j4⟩ := hJ
      have j6 := m_bound tr st (A := 60) (B := 12960000) (by omega) (by omega)
      have j5 : ∀ k : Nat, (k : Int) < tr + 1 → ¬ ff % L i = P i → ¬ (fd + (k : Int) * st) % L i = P i := fun k hk hc => by
        rcases (by omega : (k : Int) < tr ∨ (k : Int) = tr) with q | q
        · exact j4 k q
        · rw [q, ← j3]; exact hc
      have k4 : L i ≤ tr → ¬ (mFd L P z d (v 0).toNat).isSome = true := fun h hs => by
        have g8 : ¬ (mJ (L i) (P i) st fd : Int) < L i := fun q => by
          have q2 := ((m_j (d := fd) (by omega : 1 ≤ st) l1 l3 l4).1 q).1
          exact j4 (mJ (L i) (P i) st fd) (by omega) q2
        have g12 := mFd_nil (b3 g8) ((v 0).toNat - (i + 1).toNat)
        have g13 : (i + 1).toNat + ((v 0).toNat - (i + 1).toNat) = (v 0).toNat := by omega
        rw [g13] at g12
        rw [g12] at hs
        cases hs
      have k1 : ff % L i = P i → tr < L i := fun h => by
        rcases (by omega : tr < L i ∨ tr = L i) with q | q
        · exact q
        · exfalso
          refine j4 0 (by omega) ?_
          have e : fd + ((0 : Nat) : Int) * st = fd := by omega
          rw [e]
          rw [j3, q, Int.add_mul_emod_self_left] at h
          exact h
      have k2 : ff % L i = P i → mFd L P z d (i + 1).toNat = some (ff, st * (mFac st (L i) : Int)) := fun h => by
        have e : mFst (fun j => decide ((fd + (j : Int) * st) % L i = P i)) (L i).toNat = tr.toNat := mFst_eq _ (by omega) (fun j hj => decide_eq_false (j4 j (by omega))) (fun h2 => decide_eq_true (by
          have e2 : ((tr.toNat : Nat) : Int) = tr := by omega
          rw [e2, ← j3]; exact h))
        have e3 : (mJ (L i) (P i) st fd : Int) = tr := by unfold mJ; rw [e]; omega
        have e4 := b1 (by rw [e3]; exact k1 h)
        rw [e3, ← j3] at e4
        exact e4
      refine lv_aload_n hx hb dX1_find_33 rfl (lv_at hl 1 rfl) ?_
      refine lv_iload_n hx hb dX1_find_34 rfl (lv_at hl 3 rfl) ?_
      refine lv_aload_n hx hb dX1_find_35 rfl (lv_at hl 1 rfl) ?_
      refine mw_getM hx hb hts hin hown hK hP rfl 11 (by decide) (by decide +kernel) rfl rfl dX1_find_36 ?_
      refine mw_cVi (rest := []) (q := (RX1, TX1, 13)) hC (c_X1_holds l D h0 a1 a2 cA cJ t ff st v L P i ff (id hok) (by omega) (by omega)) (cwV 2 hts gX1_find_X1_holds rfl rfl rfl (by decide +kernel) ⟨Nat.le_of_ble_eq_true rfl, Nat.le_of_ble_eq_true rfl⟩) hK hP rfl rfl rfl hl.1 rfl (Nat.le_of_ble_eq_true rfl) ⟨Nat.zero_le _, Nat.zero_le _⟩ dX1_find_39 ?_
      refine mw_zne (tgt := 75) hx hb dX1_find_42 (by decide) (fun c_42 => ?_) (fun c_42 => ?_)
      · refine lv_aload_n hx hb dX1_find_75 rfl (lv_at hl 1 rfl) ?_
        refine lv_iload_n hx hb dX1_find_76 rfl (lv_at hl 3 rfl) ?_
        refine lv_aload_n hx hb dX1_find_77 rfl (lv_at hl 1 rfl) ?_
        refine mw_getM hx hb hts hin hown hK hP rfl 11 (by decide) (by decide +kernel) rfl rfl dX1_find_78 ?_
        refine mw_cVi (rest := []) (q := (RX1, TX1, 13)) hC (c_X1_holds l D h0 a1 a2 cA cJ t ff st v L P i ff (id hok) (by omega) (by omega)) (cwV 2 hts gX1_find_X1_holds rfl rfl rfl (by decide +kernel) ⟨Nat.le_of_ble_eq_true rfl, Nat.le_of_ble_eq_true rfl⟩) hK hP rfl rfl rfl hl.1 rfl (Nat.le_of_ble_eq_true rfl) ⟨Nat.zero_le _, Nat.zero_le _⟩ dX1_find_81 ?_
        refine mw_zne (tgt := 89) hx hb dX1_find_84 (by decide) (fun c_84 => ?_) (fun c_84 => ?_)
        · refine lv_aload_n hx hb dX1_find_89 rfl (lv_at hl 1 rfl) ?_
          refine mw_getM hx hb hts hin hown hK hP rfl 12 (by decide) (by decide +kernel) rfl rfl dX1_find_90 ?_
          refine lv_lstore (lv' := [(5, .long (mL (st))), (4, .int (mI (tr))), (0, .ref h0), (1, .int (mI (z))), (3, .int (mI (i)))]) hx hb dX1_find_93 hl (by decide) rfl (fun ls hl => ?_)
          refine mw_loop (T := Int × Int) (nL := 7) (fun x => (1 ≤ x.2 ∧ x.2 ≤ L i) ∧ x.1 = st * (x.2) ∧ ∀ k : Nat, (k : Int) + 1 < x.2 → ¬ (st * ((k : Int) + 1)) % L i = 0) (fun x => (L i - (x.2)).toNat) 95 (fun x => [(5, .long (mL (x.1))), (0, .ref h0), (1, .int (mI (z))), (3, .int (mI (i)))]) ?_ ((st : Int), (1 : Int)) (show (1 ≤ (1 : Int) ∧ (1 : Int) ≤ L i) ∧ (st : Int) = st * ((1 : Int)) ∧ ∀ k : Nat, (k : Int) + 1 < (1 : Int) → ¬ (st * ((k : Int) + 1)) % L i = 0 from ⟨⟨by omega, by omega⟩, (Int.mul_one st).symm, fun k hk => by omega⟩) ls (lv_sub hl [0, 2, 3, 4] rfl)
          intro x hQ ih3 ls hl
          obtain ⟨w, q⟩ := x
          have hl : lv_has ls 7 [(5, .long (mL (w))), (0, .ref h0), (1, .int (mI (z))), (3, .int (mI (i)))] := hl
          have hQ : (1 ≤ q ∧ q ≤ L i) ∧ w = st * q ∧ ∀ k : Nat, (k : Int) + 1 < q → ¬ (st * ((k : Int) + 1)) % L i = 0 := hQ
          obtain ⟨⟨q1, q2⟩, q3, q4⟩ := hQ
          have q5 := m_bound st q (A := 12960000) (B := 60) (by omega) (by omega)
          have q8 : 0 ≤ w := by rw [q3]; exact Int.mul_nonneg (by omega) (by omega)
          have r1 : w.tmod (L i) = w % L i := Int.tmod_eq_emod_of_nonneg q8
          have r0 := m_mod_r (a := w) (b := L i) (by omega)
          have r2 : q = L i → w % L i = 0 := fun h => by rw [q3, h]; exact Int.mul_emod_left _ _
          have q6 : ∀ k : Nat, (k : Int) + 1 < q + 1 → ¬ w % L i = 0 → ¬ (st * ((k : Int) + 1)) % L i = 0 := fun k hk hc => by
            rcases (by omega : (k : Int) + 1 < q ∨ (k : Int) + 1 = q) with c | c
            · exact q4 k c
            · rw [c, ← q3]; exact hc
          have r3 : w % L i = 0 → w = st * (mFac st (L i) : Int) := fun h => by
            have e : mFst (fun f => decide ((st * ((f : Int) + 1)) % L i = 0)) ((L i).toNat - 1) = (q - 1).toNat := mFst_eq _ (by omega) (fun j hj => decide_eq_false (q4 j (by omega))) (fun h2 => decide_eq_true (by
              have e2 : (((q - 1).toNat : Nat) : Int) + 1 = q := by omega
              rw [e2, ← q3]; exact h))
            have e3 : (mFac st (L i) : Int) = q := by
              unfold mFac
              rw [e]
              omega
            rw [e3]
            exact q3
          have s1 : w % L i = 0 → mFd L P z d (i + 1).toNat = some (ff, w) := fun h => by
            rw [k2 (by omega)]
            exact congrArg (fun y => some (ff, y)) (r3 h).symm
          refine lv_lload hx hb dX1_find_95 (lv_at hl 0 rfl) ?_
          refine lv_aload_n hx hb dX1_find_97 rfl (lv_at hl 1 rfl) ?_
          refine mw_getM hx hb hts hin hown hK hP rfl 1 (by decide) (by decide +kernel) rfl rfl dX1_find_98 ?_
          refine lv_iload_n hx hb dX1_find_101 rfl (lv_at hl 3 rfl) ?_
          refine mw_iald hx hb hK hP 1 rfl rfl (by omega) dX1_find_102 ?_
          refine mw_i2l hx hb (by omega) dX1_find_103 ?_
          refine mw_lrem hx hb (by omega) (by omega) (by omega) dX1_find_104 ?_
          refine mw_lconst hx hb 0 (by decide +kernel) dX1_find_105 ?_
          refine mw_lcmp_eq (tgt := 122) hx hb (by omega) (by omega) dX1_find_106 dX1_find_107 (by decide) (fun c_107 => ?_) (fun c_107 => ?_)
          · refine lv_aload_n hx hb dX1_find_122 rfl (lv_at hl 1 rfl) ?_
            refine lv_lload hx hb dX1_find_123 (lv_at hl 0 rfl) ?_
            refine mw_putMl hx hb hts hin hown hK hP hD hS rfl 12 (by decide) (Nat.le_of_ble_eq_true rfl) (by decide +kernel) rfl rfl (by decide +kernel) dX1_find_125 (fun H locs hP hS => ?_)
            have hP : va_P D vwCl (mMW h0 a1 a2 cA t ff w v L P) H := hP
            have hD := hDD t ff w v L P
            refine mw_iinc (k := 3) (lv' := [(3, .int (mI (i + 1))), (5, .long (mL (w))), (0, .ref h0), (1, .int (mI (z)))]) hx hb dX1_find_128 hl rfl (by decide) rfl (fun ls hl => ?_)
            refine lv_goto (tgt := 13) hx hb dX1_find_131 (by decide) ?_
            exact ih1 ((i + 1), ff, w) (show (0 ≤ (i + 1) ∧ (i + 1) ≤ v 0) ∧ mFd L P z d ((i + 1)).toNat = some (ff, w) from ⟨⟨by omega, by omega⟩, s1 (by omega)⟩) (show (v 0 - ((i + 1))).toNat < (v 0 - i).toNat from (by omega)) _ _ ⟨hP, hS⟩ ls (lv_sub hl [0, 2, 3] rfl)
          · refine lv_lload hx hb dX1_find_110 (lv_at hl 0 rfl) ?_
            refine lv_aload_n hx hb dX1_find_112 rfl (lv_at hl 1 rfl) ?_
            refine mw_getM hx hb hts hin hown hK hP rfl 12 (by decide) (by decide +kernel) rfl rfl dX1_find_113 ?_
            refine mw_ladd hx hb dX1_find_116 ?_
            refine lv_lstore (lv' := [(5, .long (mL (w + st))), (0, .ref h0), (1, .int (mI (z))), (3, .int (mI (i)))]) hx hb dX1_find_117 hl (by decide) rfl (fun ls hl => ?_)
            refine lv_goto (tgt := 95) hx hb dX1_find_119 (by decide) ?_
            exact ih3 ((w + st), (q + 1)) (show (1 ≤ (q + 1) ∧ (q + 1) ≤ L i) ∧ (w + st) = st * ((q + 1)) ∧ ∀ k : Nat, (k : Int) + 1 < (q + 1) → ¬ (st * ((k : Int) + 1)) % L i = 0 from ⟨⟨by omega, by omega⟩, (by rw [q3, Int.mul_add, Int.mul_one]), fun k hk => q6 k hk (by omega)⟩) (show (L i - ((q + 1))).toNat < (L i - q).toNat from (by omega)) ls (lv_sub hl [0, 1, 2, 3] rfl)
        · refine mw_iconst hx hb dX1_find_87 ?_
          exact mw_mretZ hx hb hr hlocks dX1_find_88 (ff, st) (by first | exact fun hs => absurd hs (k4 (by omega)) | (exfalso; omega)) hP hS (by first | exact (mB_f (k4 (by omega))).symm | (exfalso; omega))
      · refine lv_iload hx hb dX1_find_45 (lv_at hl 0 rfl) ?_
        refine lv_aload_n hx hb dX1_find_47 rfl (lv_at hl 1 rfl) ?_
        refine mw_getM hx hb hts hin hown hK hP rfl 1 (by decide) (by decide +kernel) rfl rfl dX1_find_48 ?_
        refine lv_iload_n hx hb dX1_find_51 rfl (lv_at hl 3 rfl) ?_
        refine mw_iald hx hb hK hP 1 rfl rfl (by omega) dX1_find_52 ?_
        refine mw_icmp_ge (tgt := 75) hx hb (by omega) (by omega) dX1_find_53 (by decide) (fun c_53 => ?_) (fun c_53 => ?_)
        · refine lv_aload_n hx hb dX1_find_75 rfl (lv_at hl 1 rfl) ?_
          refine lv_iload_n hx hb dX1_find_76 rfl (lv_at hl 3 rfl) ?_
          refine lv_aload_n hx hb dX1_find_77 rfl (lv_at hl 1 rfl) ?_
          refine mw_getM hx hb hts hin hown hK hP rfl 11 (by decide) (by decide +kernel) rfl rfl dX1_find_78 ?_
          refine mw_cVi (rest := []) (q := (RX1, TX1, 13)) hC (c_X1_holds l D h0 a1 a2 cA cJ t ff st v L P i ff (id hok) (by omega) (by omega)) (cwV 2 hts gX1_find_X1_holds rfl rfl rfl (by decide +kernel) ⟨Nat.le_of_ble_eq_true rfl, Nat.le_of_ble_eq_true rfl⟩) hK hP rfl rfl rfl hl.1 rfl (Nat.le_of_ble_eq_true rfl) ⟨Nat.zero_le _, Nat.zero_le _⟩ dX1_find_81 ?_
          refine mw_zne (tgt := 89) hx hb dX1_find_84 (by decide) (fun c_84 => ?_) (fun c_84 => ?_)
          · refine lv_aload_n hx hb dX1_find_89 rfl (lv_at hl 1 rfl) ?_
            refine mw_getM hx hb hts hin hown hK hP rfl 12 (by decide) (by decide +kernel) rfl rfl dX1_find_90 ?_
            refine lv_lstore (lv' := [(5, .long (mL (st))), (4, .int (mI (tr))), (0, .ref h0), (1, .int (mI (z))), (3, .int (mI (i)))]) hx hb dX1_find_93 hl (by decide) rfl (fun ls hl => ?_)
            refine mw_loop (T := Int × Int) (nL := 7) (fun x => (1 ≤ x.2 ∧ x.2 ≤ L i) ∧ x.1 = st * (x.2) ∧ ∀ k : Nat, (k : Int) + 1 < x.2 → ¬ (st * ((k : Int) + 1)) % L i = 0) (fun x => (L i - (x.2)).toNat) 95 (fun x => [(5, .long (mL (x.1))), (0, .ref h0), (1, .int (mI (z))), (3, .int (mI (i)))]) ?_ ((st : Int), (1 : Int)) (show (1 ≤ (1 : Int) ∧ (1 : Int) ≤ L i) ∧ (st : Int) = st * ((1 : Int)) ∧ ∀ k : Nat, (k : Int) + 1 < (1 : Int) → ¬ (st * ((k : Int) + 1)) % L i = 0 from ⟨⟨by omega, by omega⟩, (Int.mul_one st).symm, fun k hk => by omega⟩) ls (lv_sub hl [0, 2, 3, 4] rfl)
            intro x hQ ih3 ls hl
            obtain ⟨w, q⟩ := x
            have hl : lv_has ls 7 [(5, .long (mL (w))), (0, .ref h0), (1, .int (mI (z))), (3, .int (mI (i)))] := hl
            have hQ : (1 ≤ q ∧ q ≤ L i) ∧ w = st * q ∧ ∀ k : Nat, (k : Int) + 1 < q → ¬ (st * ((k : Int) + 1)) % L i = 0 := hQ
            obtain ⟨⟨q1, q2⟩, q3, q4⟩ := hQ
            have q5 := m_bound st q (A := 12960000) (B := 60) (by omega) (by omega)
            have q8 : 0 ≤ w := by rw [q3]; exact Int.mul_nonneg (by omega) (by omega)
            have r1 : w.tmod (L i) = w % L i := Int.tmod_eq_emod_of_nonneg q8
            have r0 := m_mod_r (a := w) (b := L i) (by omega)
            have r2 : q = L i → w % L i = 0 := fun h => by rw [q3, h]; exact Int.mul_emod_left _ _
            have q6 : ∀ k : Nat, (k : Int) + 1 < q + 1 → ¬ w % L i = 0 → ¬ (st * ((k : Int) + 1)) % L i = 0 := fun k hk hc => by
              rcases (by omega : (k : Int) + 1 < q ∨ (k : Int) + 1 = q) with c | c
              · exact q4 k c
              · rw [c, ← q3]; exact hc
            have r3 : w % L i = 0 → w = st * (mFac st (L i) : Int) := fun h => by
              have e : mFst (fun f => decide ((st * ((f : Int) + 1)) % L i = 0)) ((L i).toNat - 1) = (q - 1).toNat := mFst_eq _ (by omega) (fun j hj => decide_eq_false (q4 j (by omega))) (fun h2 => decide_eq_true (by
                have e2 : (((q - 1).toNat : Nat) : Int) + 1 = q := by omega
                rw [e2, ← q3]; exact h))
              have e3 : (mFac st (L i) : Int) = q := by
                unfold mFac
                rw [e]
                omega
              rw [e3]
              exact q3
            have s1 : w % L i = 0 → mFd L P z d (i + 1).toNat = some (ff, w) := fun h => by
              rw [k2 (by omega)]
              exact congrArg (fun y => some (ff, y)) (r3 h).symm
            refine lv_lload hx hb dX1_find_95 (lv_at hl 0 rfl) ?_
            refine lv_aload_n hx hb dX1_find_97 rfl (lv_at hl 1 rfl) ?_
            refine mw_getM hx hb hts hin hown hK hP rfl 1 (by decide) (by decide +kernel) rfl rfl dX1_find_98 ?_
            refine lv_iload_n hx hb dX1_find_101 rfl (lv_at hl 3 rfl) ?_
            refine mw_iald hx hb hK hP 1 rfl rfl (by omega) dX1_find_102 ?_
            refine mw_i2l hx hb (by omega) dX1_find_103 ?_
            refine mw_lrem hx hb (by omega) (by omega) (by omega) dX1_find_104 ?_
            refine mw_lconst hx hb 0 (by decide +kernel) dX1_find_105 ?_
            refine mw_lcmp_eq (tgt := 122) hx hb (by omega) (by omega) dX1_find_106 dX1_find_107 (by decide) (fun c_107 => ?_) (fun c_107 => ?_)
            · refine lv_aload_n hx hb dX1_find_122 rfl (lv_at hl 1 rfl) ?_
              refine lv_lload hx hb dX1_find_123 (lv_at hl 0 rfl) ?_
              refine mw_putMl hx hb hts hin hown hK hP hD hS rfl 12 (by decide) (Nat.le_of_ble_eq_true rfl) (by decide +kernel) rfl rfl (by decide +kernel) dX1_find_125 (fun H locs hP hS => ?_)
              have hP : va_P D vwCl (mMW h0 a1 a2 cA t ff w v L P) H := hP
              have hD := hDD t ff w v L P
              refine mw_iinc (k := 3) (lv' := [(3, .int (mI (i + 1))), (5, .long (mL (w))), (0, .ref h0), (1, .int (mI (z)))]) hx hb dX1_find_128 hl rfl (by decide) rfl (fun ls hl => ?_)
              refine lv_goto (tgt := 13) hx hb dX1_find_131 (by decide) ?_
              exact ih1 ((i + 1), ff, w) (show (0 ≤ (i + 1) ∧ (i + 1) ≤ v 0) ∧ mFd L P z d ((i + 1)).toNat = some (ff, w) from ⟨⟨by omega, by omega⟩, s1 (by omega)⟩) (show (v 0 - ((i + 1))).toNat < (v 0 - i).toNat from (by omega)) _ _ ⟨hP, hS⟩ ls (lv_sub hl [0, 2, 3] rfl)
            · refine lv_lload hx hb dX1_find_110 (lv_at hl 0 rfl) ?_
              refine lv_aload_n hx hb dX1_find_112 rfl (lv_at hl 1 rfl) ?_
              refine mw_getM hx hb hts hin hown hK hP rfl 12 (by decide) (by decide +kernel) rfl rfl dX1_find_113 ?_
              refine mw_ladd hx hb dX1_find_116 ?_
              refine lv_lstore (lv' := [(5, .long (mL (w + st))), (0, .ref h0), (1, .int (mI (z))), (3, .int (mI (i)))]) hx hb dX1_find_117 hl (by decide) rfl (fun ls hl => ?_)
              refine lv_goto (tgt := 95) hx hb dX1_find_119 (by decide) ?_
              exact ih3 ((w + st), (q + 1)) (show (1 ≤ (q + 1) ∧ (q + 1) ≤ L i) ∧ (w + st) = st * ((q + 1)) ∧ ∀ k : Nat, (k : Int) + 1 < (q + 1) → ¬ (st * ((k : Int) + 1)) % L i = 0 from ⟨⟨by omega, by omega⟩, (by rw [q3, Int.mul_add, Int.mul_one]), fun k hk => q6 k hk (by omega)⟩) (show (L i - ((q + 1))).toNat < (L i - q).toNat from (by omega)) ls (lv_sub hl [0, 1, 2, 3] rfl)
          · refine mw_iconst hx hb dX1_find_87 ?_
            exact mw_mretZ hx hb hr hlocks dX1_find_88 (ff, st) (by first | exact fun hs => absurd hs (k4 (by omega)) | (exfalso; omega)) hP hS (by first | exact (mB_f (k4 (by omega))).symm | (exfalso; omega))
        · refine lv_aload_n hx hb dX1_find_56 rfl (lv_at hl 1 rfl) ?_
          refine lv_dup hx hb dX1_find_57 rfl ?_
          refine mw_getM hx hb hts hin hown hK hP rfl 11 (by decide) (by decide +kernel) rfl rfl dX1_find_58 ?_
          refine lv_aload_n hx hb dX1_find_61 rfl (lv_at hl 1 rfl) ?_
          refine mw_getM hx hb hts hin hown hK hP rfl 12 (by decide) (by decide +kernel) rfl rfl dX1_find_62 ?_
          refine mw_ladd hx hb dX1_find_65 ?_
          refine mw_putMl hx hb hts hin hown hK hP hD hS rfl 11 (by decide) (Nat.le_of_ble_eq_true rfl) (by decide +kernel) rfl rfl (by decide +kernel) dX1_find_66 (fun H locs hP hS => ?_)
          have hP : va_P D vwCl (mMW h0 a1 a2 cA t (ff + st) st v L P) H := hP
          have hD := hDD t (ff + st) st v L P
          refine mw_iinc (k := 0) (lv' := [(4, .int (mI (tr + 1))), (0, .ref h0), (1, .int (mI (z))), (3, .int (mI (i)))]) hx hb dX1_find_69 hl rfl (by decide) rfl (fun ls hl => ?_)
          refine lv_goto (tgt := 33) hx hb dX1_find_72 (by decide) ?_
          exact ih2 ((tr + 1), (ff + st)) (show (0 ≤ (tr + 1) ∧ (tr + 1) ≤ L i) ∧ (ff + st) = fd + ((tr + 1)) * st ∧ ∀ k : Nat, (k : Int) < (tr + 1) → ¬ (fd + (k : Int) * st) % L i = P i from ⟨⟨by omega, by omega⟩, (by rw [j3, Int.add_mul, Int.one_mul]; omega), fun k hk => j5 k hk (by omega)⟩) (show (L i - ((tr + 1))).toNat < (L i - tr).toNat from (by omega)) _ _ ⟨hP, hS⟩ ls (lv_sub hl [0, 1, 2, 3] rfl)
