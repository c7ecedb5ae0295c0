def mPut (v : Nat → Int) (k : Nat) (x : Int) : Nat → Int := fun j => if j = k then x else v j
def mEx1 (a : Prop) [Decidable a] : Nat := if a then 0 else 1
def mEx2 (a b : Prop) [Decidable a] [Decidable b] : Nat := if a then (if b then 0 else 2) else 1
def mEx3 (a b c : Prop) [Decidable a] [Decidable b] [Decidable c] : Nat := if a then (if b then (if c then 0 else 3) else 2) else 1
theorem mEx1_0 {a : Prop} [Decidable a] (h : a) : mEx1 a = 0 := if_pos h
theorem mEx1_1 {a : Prop} [Decidable a] (h : ¬ a) : mEx1 a = 1 := if_neg h
theorem mEx2_0 {a b : Prop} [Decidable a] [Decidable b] (h : a) (h2 : b) : mEx2 a b = 0 := by unfold mEx2; rw [if_pos h, if_pos h2]
theorem mEx2_1 {a b : Prop} [Decidable a] [Decidable b] (h : ¬ a) : mEx2 a b = 1 := by unfold mEx2; rw [if_neg h]
theorem mEx2_2 {a b : Prop} [Decidable a] [Decidable b] (h : a) (h2 : ¬ b) : mEx2 a b = 2 := by unfold mEx2; rw [if_pos h, if_neg h2]
theorem mEx3_0 {a b c : Prop} [Decidable a] [Decidable b] [Decidable c] (h : a) (h2 : b) (h3 : c) : mEx3 a b c = 0 := by unfold mEx3; rw [if_pos h, if_pos h2, if_pos h3]
theorem mEx3_1 {a b c : Prop} [Decidable a] [Decidable b] [Decidable c] (h : ¬ a) : mEx3 a b c = 1 := by unfold mEx3; rw [if_neg h]
theorem mEx3_2 {a b c : Prop} [Decidable a] [Decidable b] [Decidable c] (h : a) (h2 : ¬ b) : mEx3 a b c = 2 := by unfold mEx3; rw [if_pos h, if_neg h2]
theorem mEx3_3 {a b c : Prop} [Decidable a] [Decidable b] [Decidable c] (h : a) (h2 : b) (h3 : ¬ c) : mEx3 a b c = 3 := by unfold mEx3; rw [if_pos h, if_pos h2, if_neg h3]
def mNear (L P : Int → Int) (m d : Int) : Int := if (d - P m) % L m ≤ L m - (d - P m) % L m then d - (d - P m) % L m else (d - (d - P m) % L m) + L m
abbrev mMts (v : Nat → Int) (L P : Int → Int) (z : Int) : Prop := (mFd L P z 0 (v 0).toNat).isSome = true
/-- the first of so many days on which they meet with a lunar day, as an offset -/
def mLun (v : Nat → Int) (d ld st : Int) : Nat → Int → Int
  | 0, _ => -1
  | k + 1, off => if mLunar v (d + off) = ld then off else mLun v d ld st k (off + st)
def mCt (L P : Int → Int) (n : Nat) (z d : Int) : Int := mPop (mAnd (mSet L P d n) z) 32
def mBst (L P : Int → Int) (n : Nat) (z fr : Int) : Nat → Int
  | 0 => fr
  | k + 1 => if mCt L P n z (mBst L P n z fr k) < mCt L P n z (fr + (k : Int)) then fr + (k : Int) else mBst L P n z fr k
theorem mLun_s (v : Nat → Int) (d ld st off : Int) (k : Nat) : mLun v d ld st (k + 1) off = if mLunar v (d + off) = ld then off else mLun v d ld st k (off + st) := rfl
theorem mBst_s (L P : Int → Int) (n : Nat) (z fr : Int) (k : Nat) : mBst L P n z fr (k + 1) = if mCt L P n z (mBst L P n z fr k) < mCt L P n z (fr + (k : Int)) then fr + (k : Int) else mBst L P n z fr k := rfl
/-- whether they meet, by the first day -/
theorem m_mts {v : Nat → Int} {L P : Int → Int} {z : Int} (hok : mOK v L P) (h5 : mPop z 32 ≤ 5) : (mD0 (mFd L P z 0 (v 0).toNat) ≠ -1 ↔ mMts v L P z) ∧ (mMts v L P z → ∃ d st, mFd L P z 0 (v 0).toNat = some (d, st) ∧ mD0 (mFd L P z 0 (v 0).toNat) = d ∧ mSt (mFd L P z 0 (v 0).toNat) = st ∧ (1 ≤ st ∧ st ≤ 777600000) ∧ (0 ≤ d ∧ d < st)) ∧ mRL (mD0 (mFd L P z 0 (v 0).toNat)) := by
  have hv := hok.1
  cases e : mFd L P z 0 (v 0).toNat with
  | none =>
    refine ⟨⟨fun h => absurd rfl h, fun h => ?_⟩, fun h => ?_, ?_⟩
    · unfold mMts at h; rw [e] at h; cases h
    · unfold mMts at h; rw [e] at h; cases h
    · show mRL (-1); omega
  | some y =>
    obtain ⟨d, st⟩ := y
    have h := m_bd hok (by omega) h5 e
    refine ⟨⟨fun _ => by unfold mMts; rw [e]; rfl, fun _ => by show d ≠ -1; omega⟩, fun _ => ⟨d, st, rfl, rfl, rfl, h.1, by omega, by omega⟩, ?_⟩
    show mRL d
    omega
set_option maxHeartbeats 400000 in
set_option maxRecDepth 100000 in
theorem x_X0_addMarket (l : Launch) (hfl : l.flags = flags0) (D : va_G) (h0 a1 a2 : Nat) (cA cJ : ClassId) (v : Nat → Int) (L P : Int → Int) (a b : Int) (ha : mRI a) (hb9 : mRI b) (hok : mOK v L P) (hdis : mDis h0 a1 a2) : mX l yX0_addMarket wsX0_addMarket ({ frames := 7, cells := mC (mEx2 ((1 ≤ a ∧ a ≤ 60) ∧ 0 ≤ b ∧ b ≤ a - 1) (v 0 < 16)), slots := 6 * mC (mEx2 ((1 ≤ a ∧ a ≤ 60) ∧ 0 ≤ b ∧ b ≤ a - 1) (v 0 < 16)), locals := 110 }) [.ref h0, .int (mI (a)), .int (mI (b))] D (mXW h0 a1 a2 cA v L P) (mTy cA cJ) ["java/lang/IllegalArgumentException", "java/lang/IllegalStateException"] (mEx2 ((1 ≤ a ∧ a ≤ 60) ∧ 0 ≤ b ∧ b ≤ a - 1) (v 0 < 16)) (some (.int (mI (v 0)))) (mXW h0 a1 a2 cA (mPut v 0 (v 0 + 1)) (mU L (v 0) a) (mU P (v 0) b)) (mA3 h0 a1 a2) := by
  refine mw_openXX (cc := cX0_addMarket) (maxL := 4) (ret := (some .int)) (by decide) rfl (Nat.le_of_ble_eq_true rfl) ?_
  intro p e s m below meth c ls hC hr hlocks hout hB hE hl
  obtain ⟨hx, hb, hml, hown, hts⟩ := id hC
  obtain ⟨hP, hK⟩ := hB
  have hin : ∀ w ∈ wsX00, w ∈ wsX0_addMarket := by decide +kernel
  have hl : lv_has ls 4 [(0, .ref h0), (1, .int (mI (a))), (2, .int (mI (b)))] := hl
  have hS : va_S (mA3 h0 a1 a2) s.heap s.heap [] := va_S.rf
  have hDD : ∀ (v : Nat → Int) (L P : Int → Int), va_D (mA3 h0 a1 a2) (mXW h0 a1 a2 cA v L P) := fun v L P => mD3 hdis (mA3_in h0 a1 a2)
  have hD := hDD v L P
  have hok9 := hok
  obtain ⟨⟨o1, o2⟩, oL, ⟨o3, o4, o5, o6, o7, o8⟩, ⟨o9, o10, o11, o12, o13, o14, o15, o16⟩⟩ := hok9
  refine lv_iload_n hx hb dX0_addMarket_0 rfl (lv_at hl 1 rfl) ?_
  refine mw_iconst hx hb dX0_addMarket_1 ?_
  refine mw_bipush hx hb (by decide +kernel) dX0_addMarket_2 ?_
  refine mw_cSi (rest := []) hC (c_X0_isWithin l a 1 60 (by omega) (by omega) (by omega)) (va_cwS 3 hts gX0_addMarket_X0_isWithin rfl rfl rfl (by decide +kernel) ⟨Nat.le_of_ble_eq_true rfl, Nat.le_of_ble_eq_true rfl⟩) rfl hl.1 rfl (Nat.le_of_ble_eq_true rfl) ⟨Nat.zero_le _, Nat.zero_le _⟩ dX0_addMarket_4 ?_
  refine mw_zeq (tgt := 25) hx hb dX0_addMarket_7 (by decide) (fun c_7 => ?_) (fun c_7 => ?_)
  · refine mw_iconst hx hb dX0_addMarket_25 ?_
    exact mw_tSX (rest := []) hC (t_X0_checkArgument_t l hfl) hE (va_cwS 1 hts gX0_addMarket_X0_checkArgument rfl rfl rfl (by decide +kernel) ⟨Nat.le_of_ble_eq_true rfl, Nat.le_of_ble_eq_true rfl⟩) rfl hl.1 rfl (Nat.le_of_ble_eq_true rfl) (mC_hm (mEx2_1 (by omega))) (mC_hm (mEx2_1 (by omega))) hout hlocks dX0_addMarket_26 (fun t ht => ⟨⟨0, (mEx2_1 (by omega)), rfl⟩, ht⟩)
  · refine lv_iload_n hx hb dX0_addMarket_10 rfl (lv_at hl 2 rfl) ?_
    refine mw_iconst hx hb dX0_addMarket_11 ?_
    refine lv_iload_n hx hb dX0_addMarket_12 rfl (lv_at hl 1 rfl) ?_
    refine mw_iconst hx hb dX0_addMarket_13 ?_
    refine mw_isub hx hb dX0_addMarket_14 ?_
    refine mw_cSi (rest := []) hC (c_X0_isWithin l b 0 (a - 1) (by omega) (by omega) (by omega)) (va_cwS 3 hts gX0_addMarket_X0_isWithin rfl rfl rfl (by decide +kernel) ⟨Nat.le_of_ble_eq_true rfl, Nat.le_of_ble_eq_true rfl⟩) rfl hl.1 rfl (Nat.le_of_ble_eq_true rfl) ⟨Nat.zero_le _, Nat.zero_le _⟩ dX0_addMarket_15 ?_
    refine mw_zeq (tgt := 25) hx hb dX0_addMarket_18 (by decide) (fun c_18 => ?_) (fun c_18 => ?_)
    · refine mw_iconst hx hb dX0_addMarket_25 ?_
      exact mw_tSX (rest := []) hC (t_X0_checkArgument_t l hfl) hE (va_cwS 1 hts gX0_addMarket_X0_checkArgument rfl rfl rfl (by decide +kernel) ⟨Nat.le_of_ble_eq_true rfl, Nat.le_of_ble_eq_true rfl⟩) rfl hl.1 rfl (Nat.le_of_ble_eq_true rfl) (mC_hm (mEx2_1 (by omega))) (mC_hm (mEx2_1 (by omega))) hout hlocks dX0_addMarket_26 (fun t ht => ⟨⟨0, (mEx2_1 (by omega)), rfl⟩, ht⟩)
    · refine mw_iconst hx hb dX0_addMarket_21 ?_
      refine lv_goto (tgt := 26) hx hb dX0_addMarket_22 (by decide) ?_
      refine mw_cSv (rest := []) hC (c_X0_checkArgument l) (va_cwS 1 hts gX0_addMarket_X0_checkArgument rfl rfl rfl (by decide +kernel) ⟨Nat.le_of_ble_eq_true rfl, Nat.le_of_ble_eq_true rfl⟩) rfl hl.1 rfl (Nat.le_of_ble_eq_true rfl) ⟨Nat.zero_le _, Nat.zero_le _⟩ dX0_addMarket_26 ?_
      refine lv_aload_n hx hb dX0_addMarket_29 rfl (lv_at hl 0 rfl) ?_
      refine mw_getX hx hb hts hin hown hK hP rfl 2 (by decide) (by decide +kernel) rfl rfl dX0_addMarket_30 ?_
      refine lv_istore_n (lv' := [(3, .int (mI (v 0))), (0, .ref h0), (1, .int (mI (a))), (2, .int (mI (b)))]) hx hb dX0_addMarket_33 rfl hl (by decide) rfl (fun ls hl => ?_)
      refine lv_aload_n hx hb dX0_addMarket_34 rfl (lv_at hl 1 rfl) ?_
      refine lv_iload_n hx hb dX0_addMarket_35 rfl (lv_at hl 0 rfl) ?_
      refine mw_cVi (rest := []) (q := (RX0, TX0, 10)) hC (c_X0_isPlace l D h0 a1 a2 cA cJ v L P (v 0) (by omega)) (cwV 1 hts gX0_addMarket_X0_isPlace rfl rfl rfl (by decide +kernel) ⟨Nat.le_of_ble_eq_true rfl, Nat.le_of_ble_eq_true rfl⟩) hK hP rfl rfl rfl hl.1 rfl (Nat.le_of_ble_eq_true rfl) ⟨Nat.zero_le _, Nat.zero_le _⟩ dX0_addMarket_36 ?_
      refine mw_zne (tgt := 52) hx hb dX0_addMarket_39 (by decide) (fun c_39 => ?_) (fun c_39 => ?_)
      · refine lv_aload_n hx hb dX0_addMarket_52 rfl (lv_at hl 1 rfl) ?_
        refine mw_getX hx hb hts hin hown hK hP rfl 0 (by decide) (by decide +kernel) rfl rfl dX0_addMarket_53 ?_
        refine lv_iload_n hx hb dX0_addMarket_56 rfl (lv_at hl 0 rfl) ?_
        refine lv_iload_n hx hb dX0_addMarket_57 rfl (lv_at hl 2 rfl) ?_
        refine mw_iast hx hb hK hP hD hS 1 rfl rfl (by omega) dX0_addMarket_58 (fun H locs hP hS => ?_)
        have hP : va_P D vwCl (mXW h0 a1 a2 cA v (mU L (v 0) a) P) H := hP
        have hD := hDD v (mU L (v 0) a) P
        refine lv_aload_n hx hb dX0_addMarket_59 rfl (lv_at hl 1 rfl) ?_
        refine mw_getX hx hb hts hin hown hK hP rfl 1 (by decide) (by decide +kernel) rfl rfl dX0_addMarket_60 ?_
        refine lv_iload_n hx hb dX0_addMarket_63 rfl (lv_at hl 0 rfl) ?_
        refine lv_iload_n hx hb dX0_addMarket_64 rfl (lv_at hl 3 rfl) ?_
        refine mw_iast hx hb hK hP hD hS 2 rfl rfl (by omega) dX0_addMarket_65 (fun H locs hP hS => ?_)
        have hP : va_P D vwCl (mXW h0 a1 a2 cA v (mU L (v 0) a) (mU P (v 0) b)) H := hP
        have hD := hDD v (mU L (v 0) a) (mU P (v 0) b)
        refine lv_aload_n hx hb dX0_addMarket_66 rfl (lv_at hl 1 rfl) ?_
        refine lv_iload_n hx hb dX0_addMarket_67 rfl (lv_at hl 0 rfl) ?_
        refine mw_iconst hx hb dX0_addMarket_68 ?_
        refine mw_iadd hx hb dX0_addMarket_69 ?_
        refine mw_putX hx hb hts hin hown hK hP hD hS rfl 2 (by decide) (Nat.le_of_ble_eq_true rfl) (by decide +kernel) rfl rfl (by decide +kernel) dX0_addMarket_70 (fun H locs hP hS => ?_)
        have hP : va_P D vwCl (mXW h0 a1 a2 cA (mPut v 0 ((v 0) + 1)) (mU L (v 0) a) (mU P (v 0) b)) H := hP
        have hD := hDD (mPut v 0 ((v 0) + 1)) (mU L (v 0) a) (mU P (v 0) b)
        refine lv_iload_n hx hb dX0_addMarket_73 rfl (lv_at hl 0 rfl) ?_
        exact mw_xretI hx hb hr hlocks dX0_addMarket_74 (mEx2_0 (by omega) (by omega)) hP hS rfl
      · exact mw_throwX (cls := "java/lang/IllegalStateException") (text := "there are as many markets as can be") (ik := 53) (is := 55) (ic := 57) hx hb hfl hts hown (by decide +kernel) hE hE.1.2.2.2.2.2.2.1 hE.1.1 (by decide +kernel) (by decide +kernel) (by decide +kernel) (by decide +kernel) (by decide +kernel) (hl.1.trans hml.symm) dX0_addMarket_42 dX0_addMarket_45 dX0_addMarket_46 dX0_addMarket_48 dX0_addMarket_51 hout (Nat.le_of_ble_eq_true rfl) ⟨Nat.le_of_ble_eq_true rfl, Nat.le_of_ble_eq_true rfl, (mC_hm (mEx2_2 (by omega) (by omega))).1, (mC_hm (mEx2_2 (by omega) (by omega))).2⟩ (mC_hm (mEx2_2 (by omega) (by omega))) hlocks (fun t ht => ⟨⟨1, (mEx2_2 (by omega) (by omega)), rfl⟩, ht⟩)
