theorem m_near1 {L P d x : Int} (hL : 0 < L) (h0 : 0 ≤ P) (h1 : P < L) (h2 : 0 ≤ x) (h3 : x < L) : ((d - x) % L = P ↔ x = (d - P) % L) ∧ ((d + x) % L = P ↔ x = (P - d) % L) := by
  constructor
  · rw [m_mod_iff hL h0 h1]
    constructor
    · rintro ⟨q, hq⟩
      exact ((m_mod_iff (x := d - P) (L := L) (P := x) hL h2 h3).mpr ⟨q, by omega⟩).symm
    · intro h
      have := Int.mul_ediv_add_emod (d - P) L
      exact ⟨(d - P) / L, by omega⟩
  · rw [m_mod_iff hL h0 h1]
    constructor
    · rintro ⟨q, hq⟩
      exact ((m_mod_iff (x := P - d) (L := L) (P := x) hL h2 h3).mpr ⟨-q, by rw [Int.mul_neg]; omega⟩).symm
    · intro h
      have := Int.mul_ediv_add_emod (P - d) L
      exact ⟨-((P - d) / L), by rw [Int.mul_neg]; omega⟩
theorem m_near2 {L P d : Int} (hL : 0 < L) : ((d - P) % L = 0 → (P - d) % L = 0) ∧ (¬ (d - P) % L = 0 → (P - d) % L = L - (d - P) % L) := by
  have a1 := Int.mul_ediv_add_emod (d - P) L
  have a2 := m_mod_r (a := d - P) (b := L) hL
  constructor
  · intro h
    exact (m_mod_iff (x := P - d) (L := L) (P := 0) hL (by omega) (by omega)).mpr ⟨-((d - P) / L), by rw [Int.mul_neg]; omega⟩
  · intro h
    exact (m_mod_iff (x := P - d) (L := L) (P := L - (d - P) % L) hL (by omega) (by omega)).mpr ⟨-((d - P) / L) - 1, by rw [Int.mul_sub, Int.mul_neg]; omega⟩
set_option maxHeartbeats 400000 in
set_option maxRecDepth 100000 in
theorem y_X1_nearest (l : Launch) (D : va_G) (h0 a1 a2 : Nat) (cA cJ : ClassId) (t f g : Int) (v : Nat → Int) (L P : Int → Int) (m9 d : Int) (hm9 : mRI m9) (hd9 : mRI d) (hok : mOK v L P) (hdis : mDis h0 a1 a2) : mY l yX1_nearest wsX1_nearest ({ frames := 2, cells := 0, slots := 0, locals := 48 }) [.ref h0, .int (mI (m9)), .int (mI (d))] D (mMW h0 a1 a2 cA t f g v L P) (mTy cA cJ) (fun r => some (.int (mI r))) (fun u => (mEx2 (mMk v m9) (mDay d)) = 0 → u.1 = mNear L P m9 d) (fun u => mMW h0 a1 a2 cA (((mEx2 (mMk v m9) (mDay d) : Nat)) : Int) u.2.1 u.2.2 (v) (L) (P)) (mA3 h0 a1 a2) := by
  refine mw_openY (cc := cX1_nearest) (maxL := 4) (ret := (some .int)) (by decide) rfl (Nat.le_of_ble_eq_true rfl) ?_
  intro p e s m below meth c ls hC hr hlocks hB hl
  obtain ⟨hx, hb, hml, hown, hts⟩ := id hC
  obtain ⟨hP, hK⟩ := hB
  have hl : lv_has ls 4 [(0, .ref h0), (1, .int (mI (m9))), (2, .int (mI (d)))] := hl
  have hS : va_S (mA3 h0 a1 a2) s.heap s.heap [] := va_S.rf
  have hDD : ∀ (t f g : Int) (v : Nat → Int) (L P : Int → Int), va_D (mA3 h0 a1 a2) (mMW h0 a1 a2 cA t f g v L P) := fun t f g v L P => mD3 hdis (mA3_in h0 a1 a2)
  have hD := hDD t f g v L P
  have hok9 := hok
  obtain ⟨⟨o1, o2⟩, oL, ⟨o3, o4, o5, o6, o7, o8⟩, ⟨o9, o10, o11, o12, o13, o14, o15, o16⟩⟩ := hok9
  refine lv_aload_n hx hb dX1_nearest_0 rfl (lv_at hl 0 rfl) ?_
  refine lv_aload_n hx hb dX1_nearest_1 rfl (lv_at hl 0 rfl) ?_
  refine lv_iload_n hx hb dX1_nearest_2 rfl (lv_at hl 1 rfl) ?_
  refine mw_cVi (rest := [.ref h0]) (q := (RX1, TX1, 13)) hC (c_X1_isMarket l D h0 a1 a2 cA cJ t f g v L P m9 (by omega) (by omega)) (cwV 1 hts gX1_nearest_X1_isMarket rfl rfl rfl (by decide +kernel) ⟨Nat.le_of_ble_eq_true rfl, Nat.le_of_ble_eq_true rfl⟩) hK hP rfl rfl rfl hl.1 rfl (Nat.le_of_ble_eq_true rfl) ⟨Nat.zero_le _, Nat.zero_le _⟩ dX1_nearest_3 ?_
  refine mw_zne (tgt := 13) hx hb dX1_nearest_6 (by decide) (fun c_6 => ?_) (fun c_6 => ?_)
  · refine lv_iload_n hx hb dX1_nearest_13 rfl (lv_at hl 2 rfl) ?_
    refine mw_cSi (rest := [.ref h0]) hC (c_X1_isDay l d (by omega)) (va_cwS 1 hts gX1_nearest_X1_isDay rfl rfl rfl (by decide +kernel) ⟨Nat.le_of_ble_eq_true rfl, Nat.le_of_ble_eq_true rfl⟩) rfl hl.1 rfl (Nat.le_of_ble_eq_true rfl) ⟨Nat.zero_le _, Nat.zero_le _⟩ dX1_nearest_14 ?_
    refine mw_zeq (tgt := 24) hx hb dX1_nearest_17 (by decide) (fun c_17 => ?_) (fun c_17 => ?_)
    · refine mw_iconst hx hb dX1_nearest_24 ?_
      refine mw_cM (rest := []) (q := (RX1, TX1, 13)) hC (c_X1_goesWell l D h0 a1 a2 cA cJ t f g v L P 2 (by omega) hdis) (cwV 1 hts gX1_nearest_X1_goesWell rfl rfl rfl (by decide +kernel) ⟨Nat.le_of_ble_eq_true rfl, Nat.le_of_ble_eq_true rfl⟩) hK hP hS (fun _ h => h) rfl rfl rfl hl.1 rfl (Nat.le_of_ble_eq_true rfl) ⟨Nat.zero_le _, Nat.zero_le _⟩ dX1_nearest_25 (fun _ H locs _ hP hS _ _ => ?_)
      have hP : va_P D vwCl (mMW h0 a1 a2 cA 2 f g v L P) H := hP
      have hD := hDD 2 f g v L P
      refine W.eq (g2 := F0 m 28 ls [.int (mI (mB (2 = 0)))]) rfl ?_
      refine mw_topi (y := 0) (mB_f (by omega)) ?_
      refine mw_if_ne (tgt := 33) hx hb (by omega) dX1_nearest_28 (by decide) (fun c => absurd c (by decide)) (fun _ => ?_)
      refine mw_iconst hx hb dX1_nearest_31 ?_
      exact mw_yretI hx hb hr hlocks dX1_nearest_32 f g (fun h9 => by first | rfl | exact (mB_t (by omega)).symm | exact (mB_f (by omega)).symm | omega | (rw [mEx2_1 (by omega)] at h9; omega) | (rw [mEx2_2 (by omega) (by omega)] at h9; omega) | (exfalso; omega)) (mw_wk (by first | rfl | (rw [mEx2_0 (by omega) (by omega)]; omega) | (rw [mEx2_1 (by omega)]; omega) | (rw [mEx2_2 (by omega) (by omega)]; omega) | (exfalso; omega)) rfl rfl rfl hP) hS
    · refine mw_iconst hx hb dX1_nearest_20 ?_
      refine lv_goto (tgt := 25) hx hb dX1_nearest_21 (by decide) ?_
      refine mw_cM (rest := []) (q := (RX1, TX1, 13)) hC (c_X1_goesWell l D h0 a1 a2 cA cJ t f g v L P 0 (by omega) hdis) (cwV 1 hts gX1_nearest_X1_goesWell rfl rfl rfl (by decide +kernel) ⟨Nat.le_of_ble_eq_true rfl, Nat.le_of_ble_eq_true rfl⟩) hK hP hS (fun _ h => h) rfl rfl rfl hl.1 rfl (Nat.le_of_ble_eq_true rfl) ⟨Nat.zero_le _, Nat.zero_le _⟩ dX1_nearest_25 (fun _ H locs _ hP hS _ _ => ?_)
      have hP : va_P D vwCl (mMW h0 a1 a2 cA 0 f g v L P) H := hP
      have hD := hDD 0 f g v L P
      refine W.eq (g2 := F0 m 28 ls [.int (mI (mB (0 = 0)))]) rfl ?_
      refine mw_topi (y := 1) (mB_t rfl) ?_
      refine mw_if_ne (tgt := 33) hx hb (by omega) dX1_nearest_28 (by decide) (fun _ => ?_) (fun c => absurd c (by decide))
      obtain ⟨l1, l2, l3, l4⟩ := oL m9 (by omega) (by omega)
      have n3 := m_mod_r (a := d - P m9) (b := L m9) (by omega)
      obtain ⟨n4, n5⟩ := m_near2 (L := L m9) (P := P m9) (d := d) (by omega)
      have n1 : (d - P m9) % L m9 ≤ L m9 - (d - P m9) % L m9 → mNear L P m9 d = d - (d - P m9) % L m9 := fun h => if_pos h
      have n2 : ¬ (d - P m9) % L m9 ≤ L m9 - (d - P m9) % L m9 → mNear L P m9 d = (d - (d - P m9) % L m9) + L m9 := fun h => if_neg h
      refine mw_iconst hx hb dX1_nearest_33 ?_
      refine lv_istore_n (lv' := [(3, .int (mI (0))), (0, .ref h0), (1, .int (mI (m9))), (2, .int (mI (d)))]) hx hb dX1_nearest_34 rfl hl (by decide) rfl (fun ls hl => ?_)
      refine mw_loop (T := Int) (nL := 4) (fun x => (0 ≤ x ∧ x ≤ (d - P m9) % L m9) ∧ ((d - P m9) % L m9 = 0 ∨ x ≤ L m9 - (d - P m9) % L m9)) (fun x => (L m9 - x).toNat) 35 (fun x => [(3, .int (mI (x))), (0, .ref h0), (1, .int (mI (m9))), (2, .int (mI (d)))]) ?_ ((0 : Int)) (show (0 ≤ (0 : Int) ∧ (0 : Int) ≤ (d - P m9) % L m9) ∧ ((d - P m9) % L m9 = 0 ∨ (0 : Int) ≤ L m9 - (d - P m9) % L m9) from ⟨⟨by omega, by omega⟩, by omega⟩) ls (lv_sub hl [0, 1, 2, 3] rfl)
      intro x hI ih ls hl
      obtain ⟨o, rfl⟩ : ∃ y, y = x := ⟨_, rfl⟩
      have hl : lv_has ls 4 [(3, .int (mI (o))), (0, .ref h0), (1, .int (mI (m9))), (2, .int (mI (d)))] := hl
      have hI : (0 ≤ o ∧ o ≤ (d - P m9) % L m9) ∧ ((d - P m9) % L m9 = 0 ∨ o ≤ L m9 - (d - P m9) % L m9) := hI
      obtain ⟨⟨i1, i2⟩, i3⟩ := hI
      obtain ⟨w1, w2⟩ := m_near1 (L := L m9) (P := P m9) (d := d) (x := o) (by omega) (by omega) (by omega) (by omega) (by omega)
      refine lv_aload_n hx hb dX1_nearest_35 rfl (lv_at hl 1 rfl) ?_
      refine lv_iload_n hx hb dX1_nearest_36 rfl (lv_at hl 2 rfl) ?_
      refine lv_iload_n hx hb dX1_nearest_37 rfl (lv_at hl 3 rfl) ?_
      refine lv_iload_n hx hb dX1_nearest_38 rfl (lv_at hl 0 rfl) ?_
      refine mw_isub hx hb dX1_nearest_39 ?_
      refine mw_i2l hx hb (by omega) dX1_nearest_40 ?_
      refine mw_cVi (rest := []) (q := (RX1, TX1, 13)) hC (c_X1_holds l D h0 a1 a2 cA cJ 0 f g v L P m9 (d - o) (id hok) (by omega) (by omega)) (cwV 2 hts gX1_nearest_X1_holds rfl rfl rfl (by decide +kernel) ⟨Nat.le_of_ble_eq_true rfl, Nat.le_of_ble_eq_true rfl⟩) hK hP rfl rfl rfl hl.1 rfl (Nat.le_of_ble_eq_true rfl) ⟨Nat.zero_le _, Nat.zero_le _⟩ dX1_nearest_41 ?_
      refine mw_zne (tgt := 65) hx hb dX1_nearest_44 (by decide) (fun c_44 => ?_) (fun c_44 => ?_)
      · refine lv_aload_n hx hb dX1_nearest_65 rfl (lv_at hl 1 rfl) ?_
        refine lv_iload_n hx hb dX1_nearest_66 rfl (lv_at hl 2 rfl) ?_
        refine lv_iload_n hx hb dX1_nearest_67 rfl (lv_at hl 3 rfl) ?_
        refine lv_iload_n hx hb dX1_nearest_68 rfl (lv_at hl 0 rfl) ?_
        refine mw_isub hx hb dX1_nearest_69 ?_
        refine mw_i2l hx hb (by omega) dX1_nearest_70 ?_
        refine mw_cVi (rest := []) (q := (RX1, TX1, 13)) hC (c_X1_holds l D h0 a1 a2 cA cJ 0 f g v L P m9 (d - o) (id hok) (by omega) (by omega)) (cwV 2 hts gX1_nearest_X1_holds rfl rfl rfl (by decide +kernel) ⟨Nat.le_of_ble_eq_true rfl, Nat.le_of_ble_eq_true rfl⟩) hK hP rfl rfl rfl hl.1 rfl (Nat.le_of_ble_eq_true rfl) ⟨Nat.zero_le _, Nat.zero_le _⟩ dX1_nearest_71 ?_
        refine mw_zeq (tgt := 83) hx hb dX1_nearest_74 (by decide) (fun c_74 => ?_) (fun c_74 => ?_)
        · refine lv_iload_n hx hb dX1_nearest_83 rfl (lv_at hl 3 rfl) ?_
          refine lv_iload_n hx hb dX1_nearest_84 rfl (lv_at hl 0 rfl) ?_
          refine mw_iadd hx hb dX1_nearest_85 ?_
          exact mw_yretI hx hb hr hlocks dX1_nearest_86 f g (fun h9 => by first | omega | rfl | exact (mB_t (by omega)).symm | exact (mB_f (by omega)).symm | omega | (rw [mEx2_1 (by omega)] at h9; omega) | (rw [mEx2_2 (by omega) (by omega)] at h9; omega) | (exfalso; omega)) (mw_wk (by first | rfl | (rw [mEx2_0 (by omega) (by omega)]; omega) | (rw [mEx2_1 (by omega)]; omega) | (rw [mEx2_2 (by omega) (by omega)]; omega) | (exfalso; omega)) rfl rfl rfl hP) hS
        · refine lv_iload_n hx hb dX1_nearest_77 rfl (lv_at hl 3 rfl) ?_
          refine lv_iload_n hx hb dX1_nearest_78 rfl (lv_at hl 0 rfl) ?_
          refine mw_isub hx hb dX1_nearest_79 ?_
          refine lv_goto (tgt := 86) hx hb dX1_nearest_80 (by decide) ?_
          exact mw_yretI hx hb hr hlocks dX1_nearest_86 f g (fun h9 => by first | omega | rfl | exact (mB_t (by omega)).symm | exact (mB_f (by omega)).symm | omega | (rw [mEx2_1 (by omega)] at h9; omega) | (rw [mEx2_2 (by omega) (by omega)] at h9; omega) | (exfalso; omega)) (mw_wk (by first | rfl | (rw [mEx2_0 (by omega) (by omega)]; omega) | (rw [mEx2_1 (by omega)]; omega) | (rw [mEx2_2 (by omega) (by omega)]; omega) | (exfalso; omega)) rfl rfl rfl hP) hS
      · refine lv_aload_n hx hb dX1_nearest_47 rfl (lv_at hl 1 rfl) ?_
        refine lv_iload_n hx hb dX1_nearest_48 rfl (lv_at hl 2 rfl) ?_
        refine lv_iload_n hx hb dX1_nearest_49 rfl (lv_at hl 3 rfl) ?_
        refine lv_iload_n hx hb dX1_nearest_50 rfl (lv_at hl 0 rfl) ?_
        refine mw_iadd hx hb dX1_nearest_51 ?_
        refine mw_i2l hx hb (by omega) dX1_nearest_52 ?_
        refine mw_cVi (rest := []) (q := (RX1, TX1, 13)) hC (c_X1_holds l D h0 a1 a2 cA cJ 0 f g v L P m9 (d + o) (id hok) (by omega) (by omega)) (cwV 2 hts gX1_nearest_X1_holds rfl rfl rfl (by decide +kernel) ⟨Nat.le_of_ble_eq_true rfl, Nat.le_of_ble_eq_true rfl⟩) hK hP rfl rfl rfl hl.1 rfl (Nat.le_of_ble_eq_true rfl) ⟨Nat.zero_le _, Nat.zero_le _⟩ dX1_nearest_53 ?_
        refine mw_zne (tgt := 65) hx hb dX1_nearest_56 (by decide) (fun c_56 => ?_) (fun c_56 => ?_)
        · refine lv_aload_n hx hb dX1_nearest_65 rfl (lv_at hl 1 rfl) ?_
          refine lv_iload_n hx hb dX1_nearest_66 rfl (lv_at hl 2 rfl) ?_
          refine lv_iload_n hx hb dX1_nearest_67 rfl (lv_at hl 3 rfl) ?_
          refine lv_iload_n hx hb dX1_nearest_68 rfl (lv_at hl 0 rfl) ?_
          refine mw_isub hx hb dX1_nearest_69 ?_
          refine mw_i2l hx hb (by omega) dX1_nearest_70 ?_
          refine mw_cVi (rest := []) (q := (RX1, TX1, 13)) hC (c_X1_holds l D h0 a1 a2 cA cJ 0 f g v L P m9 (d - o) (id hok) (by omega) (by omega)) (cwV 2 hts gX1_nearest_X1_holds rfl rfl rfl (by decide +kernel) ⟨Nat.le_of_ble_eq_true rfl, Nat.le_of_ble_eq_true rfl⟩) hK hP rfl rfl rfl hl.1 rfl (Nat.le_of_ble_eq_true rfl) ⟨Nat.zero_le _, Nat.zero_le _⟩ dX1_nearest_71 ?_
          refine mw_zeq (tgt := 83) hx hb dX1_nearest_74 (by decide) (fun c_74 => ?_) (fun c_74 => ?_)
          · refine lv_iload_n hx hb dX1_nearest_83 rfl (lv_at hl 3 rfl) ?_
            refine lv_iload_n hx hb dX1_nearest_84 rfl (lv_at hl 0 rfl) ?_
            refine mw_iadd hx hb dX1_nearest_85 ?_
            exact mw_yretI hx hb hr hlocks dX1_nearest_86 f g (fun h9 => by first | omega | rfl | exact (mB_t (by omega)).symm | exact (mB_f (by omega)).symm | omega | (rw [mEx2_1 (by omega)] at h9; omega) | (rw [mEx2_2 (by omega) (by omega)] at h9; omega) | (exfalso; omega)) (mw_wk (by first | rfl | (rw [mEx2_0 (by omega) (by omega)]; omega) | (rw [mEx2_1 (by omega)]; omega) | (rw [mEx2_2 (by omega) (by omega)]; omega) | (exfalso; omega)) rfl rfl rfl hP) hS
          · refine lv_iload_n hx hb dX1_nearest_77 rfl (lv_at hl 3 rfl) ?_
            refine lv_iload_n hx hb dX1_nearest_78 rfl (lv_at hl 0 rfl) ?_
            refine mw_isub hx hb dX1_nearest_79 ?_
            refine lv_goto (tgt := 86) hx hb dX1_nearest_80 (by decide) ?_
            exact mw_yretI hx hb hr hlocks dX1_nearest_86 f g (fun h9 => by first | omega | rfl | exact (mB_t (by omega)).symm | exact (mB_f (by omega)).symm | omega | (rw [mEx2_1 (by omega)] at h9; omega) | (rw [mEx2_2 (by omega) (by omega)] at h9; omega) | (exfalso; omega)) (mw_wk (by first | rfl | (rw [mEx2_0 (by omega) (by omega)]; omega) | (rw [mEx2_1 (by omega)]; omega) | (rw [mEx2_2 (by omega) (by omega)]; omega) | (exfalso; omega)) rfl rfl rfl hP) hS
        · refine mw_iinc (k := 0) (lv' := [(3, .int (mI (o + 1))), (0, .ref h0), (1, .int (mI (m9))), (2, .int (mI (d)))]) hx hb dX1_nearest_59 hl rfl (by decide) rfl (fun ls hl => ?_)
          refine lv_goto (tgt := 35) hx hb dX1_nearest_62 (by decide) ?_
          exact ih ((o + 1)) (show (0 ≤ (o + 1) ∧ (o + 1) ≤ (d - P m9) % L m9) ∧ ((d - P m9) % L m9 = 0 ∨ (o + 1) ≤ L m9 - (d - P m9) % L m9) from ⟨⟨by omega, by omega⟩, by omega⟩) (show (L m9 - ((o + 1))).toNat < (L m9 - o).toNat from (by omega)) ls (lv_sub hl [0, 1, 2, 3] rfl)
  · refine mw_iconst hx hb dX1_nearest_9 ?_
    refine lv_goto (tgt := 25) hx hb dX1_nearest_10 (by decide) ?_
    refine mw_cM (rest := []) (q := (RX1, TX1, 13)) hC (c_X1_goesWell l D h0 a1 a2 cA cJ t f g v L P 1 (by omega) hdis) (cwV 1 hts gX1_nearest_X1_goesWell rfl rfl rfl (by decide +kernel) ⟨Nat.le_of_ble_eq_true rfl, Nat.le_of_ble_eq_true rfl⟩) hK hP hS (fun _ h => h) rfl rfl rfl hl.1 rfl (Nat.le_of_ble_eq_true rfl) ⟨Nat.zero_le _, Nat.zero_le _⟩ dX1_nearest_25 (fun _ H locs _ hP hS _ _ => ?_)
    have hP : va_P D vwCl (mMW h0 a1 a2 cA 1 f g v L P) H := hP
    have hD := hDD 1 f g v L P
    refine W.eq (g2 := F0 m 28 ls [.int (mI (mB (1 = 0)))]) rfl ?_
    refine mw_topi (y := 0) (mB_f (by omega)) ?_
    refine mw_if_ne (tgt := 33) hx hb (by omega) dX1_nearest_28 (by decide) (fun c => absurd c (by decide)) (fun _ => ?_)
    refine mw_iconst hx hb dX1_nearest_31 ?_
    exact mw_yretI hx hb hr hlocks dX1_nearest_32 f g (fun h9 => by first | rfl | exact (mB_t (by omega)).symm | exact (mB_f (by omega)).symm | omega | (rw [mEx2_1 (by omega)] at h9; omega) | (rw [mEx2_2 (by omega) (by omega)] at h9; omega) | (exfalso; omega)) (mw_wk (by first | rfl | (rw [mEx2_0 (by omega) (by omega)]; omega) | (rw [mEx2_1 (by omega)]; omega) | (rw [mEx2_2 (by omega) (by omega)]; omega) | (exfalso; omega)) rfl rfl rfl hP) hS

set_option maxHeartbeats 400000 in
set_option maxRecDepth 100000 in
theorem y_X1_best (l : Launch) (D : va_G) (h0 a1 a2 : Nat) (cA cJ : ClassId) (t f g : Int) (v : Nat → Int) (L P : Int → Int) (z fr to9 : Int) (hz : mRI z) (hf9 : mRI fr) (ht9 : mRI to9) (hok : mOK v L P) (hdis : mDis h0 a1 a2) : mY l yX1_best wsX1_best ({ frames := 3, cells := 0, slots := 0, locals := 71 }) [.ref h0, .int (mI (z)), .int (mI (fr)), .int (mI (to9))] D (mMW h0 a1 a2 cA t f g v L P) (mTy cA cJ) (fun r => some (.int (mI r))) (fun u => (mEx2 (mDay fr ∧ mDay to9 ∧ fr ≤ to9 ∧ to9 ≤ fr + 2000) (mUsh z (v 0) = 0)) = 0 → u.1 = mBst L P (v 0).toNat z fr (to9 + 1 - fr).toNat) (fun u => mMW h0 a1 a2 cA (((mEx2 (mDay fr ∧ mDay to9 ∧ fr ≤ to9 ∧ to9 ≤ fr + 2000) (mUsh z (v 0) = 0) : Nat)) : Int) u.2.1 u.2.2 (v) (L) (P)) (mA3 h0 a1 a2) := by
  refine mw_openY (cc := cX1_best) (maxL := 7) (ret := (some .int)) (by decide) rfl (Nat.le_of_ble_eq_true rfl) ?_
  intro p e s m below meth c ls hC hr hlocks hB hl
  obtain ⟨hx, hb, hml, hown, hts⟩ := id hC
  obtain ⟨hP, hK⟩ := hB
  have hin : ∀ w ∈ wsX10, w ∈ wsX1_best := by decide +kernel
  have hl : lv_has ls 7 [(0, .ref h0), (1, .int (mI (z))), (2, .int (mI (fr))), (3, .int (mI (to9)))] := hl
  have hS : va_S (mA3 h0 a1 a2) s.heap s.heap [] := va_S.rf
  have hDD : ∀ (t f g : Int) (v : Nat → Int) (L P : Int → Int), va_D (mA3 h0 a1 a2) (mMW h0 a1 a2 cA t f g v L P) := fun t f g v L P => mD3 hdis (mA3_in h0 a1 a2)
  have hD := hDD t f g v L P
  have hok9 := hok
  obtain ⟨⟨o1, o2⟩, oL, ⟨o3, o4, o5, o6, o7, o8⟩, ⟨o9, o10, o11, o12, o13, o14, o15, o16⟩⟩ := hok9
  have q2 := mUsh_r z (v 0)
  refine lv_iload_n hx hb dX1_best_0 rfl (lv_at hl 2 rfl) ?_
  refine mw_cSi (rest := []) hC (c_X1_isDay l fr (by omega)) (va_cwS 1 hts gX1_best_X1_isDay rfl rfl rfl (by decide +kernel) ⟨Nat.le_of_ble_eq_true rfl, Nat.le_of_ble_eq_true rfl⟩) rfl hl.1 rfl (Nat.le_of_ble_eq_true rfl) ⟨Nat.zero_le _, Nat.zero_le _⟩ dX1_best_1 ?_
  refine mw_zeq (tgt := 33) hx hb dX1_best_4 (by decide) (fun c_4 => ?_) (fun c_4 => ?_)
  · refine mw_iconst hx hb dX1_best_33 ?_
    refine lv_istore (lv' := [(4, .int (mI (0))), (0, .ref h0), (1, .int (mI (z))), (2, .int (mI (fr))), (3, .int (mI (to9)))]) hx hb dX1_best_34 hl (by decide) rfl (fun ls hl => ?_)
    refine lv_aload_n hx hb dX1_best_36 rfl (lv_at hl 1 rfl) ?_
    refine lv_iload hx hb dX1_best_37 (lv_at hl 0 rfl) ?_
    refine mw_if_ne (tgt := 46) hx hb (by omega) dX1_best_39 (by decide) (fun c => absurd c (by decide)) (fun _ => ?_)
    refine mw_iconst hx hb dX1_best_42 ?_
    refine lv_goto (tgt := 60) hx hb dX1_best_43 (by decide) ?_
    refine mw_cM (rest := []) (q := (RX1, TX1, 13)) hC (c_X1_goesWell l D h0 a1 a2 cA cJ t f g v L P 1 (by omega) hdis) (cwV 1 hts gX1_best_X1_goesWell rfl rfl rfl (by decide +kernel) ⟨Nat.le_of_ble_eq_true rfl, Nat.le_of_ble_eq_true rfl⟩) hK hP hS (fun _ h => h) rfl rfl rfl hl.1 rfl (Nat.le_of_ble_eq_true rfl) ⟨Nat.zero_le _, Nat.zero_le _⟩ dX1_best_60 (fun _ H locs _ hP hS _ _ => ?_)
    have hP : va_P D vwCl (mMW h0 a1 a2 cA 1 f g v L P) H := hP
    have hD := hDD 1 f g v L P
    refine W.eq (g2 := F0 m 63 ls [.int (mI (mB (1 = 0)))]) rfl ?_
    refine mw_topi (y := 0) (mB_f (by omega)) ?_
    refine mw_if_ne (tgt := 68) hx hb (by omega) dX1_best_63 (by decide) (fun c => absurd c (by decide)) (fun _ => ?_)
    refine mw_iconst hx hb dX1_best_66 ?_
    exact mw_yretI hx hb hr hlocks dX1_best_67 f g (fun h9 => by first | rfl | exact (mB_t (by omega)).symm | exact (mB_f (by omega)).symm | omega | (rw [mEx2_1 (by omega)] at h9; omega) | (rw [mEx2_2 (by omega) (by omega)] at h9; omega) | (exfalso; omega)) (mw_wk (by first | rfl | (rw [mEx2_0 (by omega) (by omega)]; omega) | (rw [mEx2_1 (by omega)]; omega) | (rw [mEx2_2 (by omega) (by omega)]; omega) | (exfalso; omega)) rfl rfl rfl hP) hS
  · refine lv_iload_n hx hb dX1_best_7 rfl (lv_at hl 3 rfl) ?_
    refine mw_cSi (rest := []) hC (c_X1_isDay l to9 (by omega)) (va_cwS 1 hts gX1_best_X1_isDay rfl rfl rfl (by decide +kernel) ⟨Nat.le_of_ble_eq_true rfl, Nat.le_of_ble_eq_true rfl⟩) rfl hl.1 rfl (Nat.le_of_ble_eq_true rfl) ⟨Nat.zero_le _, Nat.zero_le _⟩ dX1_best_8 ?_
    refine mw_zeq (tgt := 33) hx hb dX1_best_11 (by decide) (fun c_11 => ?_) (fun c_11 => ?_)
    · refine mw_iconst hx hb dX1_best_33 ?_
      refine lv_istore (lv' := [(4, .int (mI (0))), (0, .ref h0), (1, .int (mI (z))), (2, .int (mI (fr))), (3, .int (mI (to9)))]) hx hb dX1_best_34 hl (by decide) rfl (fun ls hl => ?_)
      refine lv_aload_n hx hb dX1_best_36 rfl (lv_at hl 1 rfl) ?_
      refine lv_iload hx hb dX1_best_37 (lv_at hl 0 rfl) ?_
      refine mw_if_ne (tgt := 46) hx hb (by omega) dX1_best_39 (by decide) (fun c => absurd c (by decide)) (fun _ => ?_)
      refine mw_iconst hx hb dX1_best_42 ?_
      refine lv_goto (tgt := 60) hx hb dX1_best_43 (by decide) ?_
      refine mw_cM (rest := []) (q := (RX1, TX1, 13)) hC (c_X1_goesWell l D h0 a1 a2 cA cJ t f g v L P 1 (by omega) hdis) (cwV 1 hts gX1_best_X1_goesWell rfl rfl rfl (by decide +kernel) ⟨Nat.le_of_ble_eq_true rfl, Nat.le_of_ble_eq_true rfl⟩) hK hP hS (fun _ h => h) rfl rfl rfl hl.1 rfl (Nat.le_of_ble_eq_true rfl) ⟨Nat.zero_le _, Nat.zero_le _⟩ dX1_best_60 (fun _ H locs _ hP hS _ _ => ?_)
      have hP : va_P D vwCl (mMW h0 a1 a2 cA 1 f g v L P) H := hP
      have hD := hDD 1 f g v L P
      refine W.eq (g2 := F0 m 63 ls [.int (mI (mB (1 = 0)))]) rfl ?_
      refine mw_topi (y := 0) (mB_f (by omega)) ?_
      refine mw_if_ne (tgt := 68) hx hb (by omega) dX1_best_63 (by decide) (fun c => absurd c (by decide)) (fun _ => ?_)
      refine mw_iconst hx hb dX1_best_66 ?_
      exact mw_yretI hx hb hr hlocks dX1_best_67 f g (fun h9 => by first | rfl | exact (mB_t (by omega)).symm | exact (mB_f (by omega)).symm | omega | (rw [mEx2_1 (by omega)] at h9; omega) | (rw [mEx2_2 (by omega) (by omega)] at h9; omega) | (exfalso; omega)) (mw_wk (by first | rfl | (rw [mEx2_0 (by omega) (by omega)]; omega) | (rw [mEx2_1 (by omega)]; omega) | (rw [mEx2_2 (by omega) (by omega)]; omega) | (exfalso; omega)) rfl rfl rfl hP) hS
    · refine lv_iload_n hx hb dX1_best_14 rfl (lv_at hl 3 rfl) ?_
      refine mw_i2l hx hb (by omega) dX1_best_15 ?_
      refine lv_iload_n hx hb dX1_best_16 rfl (lv_at hl 2 rfl) ?_
      refine mw_i2l hx hb (by omega) dX1_best_17 ?_
      refine mw_lsub hx hb dX1_best_18 ?_
      refine mw_lconst hx hb 0 (by decide +kernel) dX1_best_19 ?_
      refine mw_ldc2 hx hb (2000) (by decide +kernel) hown (hts (.constantLong RX1 132 (2000)) (by decide +kernel)) dX1_best_20 ?_
      refine mw_cSi (rest := []) hC (c_X1_in l (to9 - fr) 0 2000 (by omega) (by omega) (by omega)) (va_cwS 3 hts gX1_best_X1_in rfl rfl rfl (by decide +kernel) ⟨Nat.le_of_ble_eq_true rfl, Nat.le_of_ble_eq_true rfl⟩) rfl hl.1 rfl (Nat.le_of_ble_eq_true rfl) ⟨Nat.zero_le _, Nat.zero_le _⟩ dX1_best_23 ?_
      refine mw_zeq (tgt := 33) hx hb dX1_best_26 (by decide) (fun c_26 => ?_) (fun c_26 => ?_)
      · refine mw_iconst hx hb dX1_best_33 ?_
        refine lv_istore (lv' := [(4, .int (mI (0))), (0, .ref h0), (1, .int (mI (z))), (2, .int (mI (fr))), (3, .int (mI (to9)))]) hx hb dX1_best_34 hl (by decide) rfl (fun ls hl => ?_)
        refine lv_aload_n hx hb dX1_best_36 rfl (lv_at hl 1 rfl) ?_
        refine lv_iload hx hb dX1_best_37 (lv_at hl 0 rfl) ?_
        refine mw_if_ne (tgt := 46) hx hb (by omega) dX1_best_39 (by decide) (fun c => absurd c (by decide)) (fun _ => ?_)
        refine mw_iconst hx hb dX1_best_42 ?_
        refine lv_goto (tgt := 60) hx hb dX1_best_43 (by decide) ?_
        refine mw_cM (rest := []) (q := (RX1, TX1, 13)) hC (c_X1_goesWell l D h0 a1 a2 cA cJ t f g v L P 1 (by omega) hdis) (cwV 1 hts gX1_best_X1_goesWell rfl rfl rfl (by decide +kernel) ⟨Nat.le_of_ble_eq_true rfl, Nat.le_of_ble_eq_true rfl⟩) hK hP hS (fun _ h => h) rfl rfl rfl hl.1 rfl (Nat.le_of_ble_eq_true rfl) ⟨Nat.zero_le _, Nat.zero_le _⟩ dX1_best_60 (fun _ H locs _ hP hS _ _ => ?_)
        have hP : va_P D vwCl (mMW h0 a1 a2 cA 1 f g v L P) H := hP
        have hD := hDD 1 f g v L P
        refine W.eq (g2 := F0 m 63 ls [.int (mI (mB (1 = 0)))]) rfl ?_
        refine mw_topi (y := 0) (mB_f (by omega)) ?_
        refine mw_if_ne (tgt := 68) hx hb (by omega) dX1_best_63 (by decide) (fun c => absurd c (by decide)) (fun _ => ?_)
        refine mw_iconst hx hb dX1_best_66 ?_
        exact mw_yretI hx hb hr hlocks dX1_best_67 f g (fun h9 => by first | rfl | exact (mB_t (by omega)).symm | exact (mB_f (by omega)).symm | omega | (rw [mEx2_1 (by omega)] at h9; omega) | (rw [mEx2_2 (by omega) (by omega)] at h9; omega) | (exfalso; omega)) (mw_wk (by first | rfl | (rw [mEx2_0 (by omega) (by omega)]; omega) | (rw [mEx2_1 (by omega)]; omega) | (rw [mEx2_2 (by omega) (by omega)]; omega) | (exfalso; omega)) rfl rfl rfl hP) hS
      · refine mw_iconst hx hb dX1_best_29 ?_
        refine lv_goto (tgt := 34) hx hb dX1_best_30 (by decide) ?_
        refine lv_istore (lv' := [(4, .int (mI (1))), (0, .ref h0), (1, .int (mI (z))), (2, .int (mI (fr))), (3, .int (mI (to9)))]) hx hb dX1_best_34 hl (by decide) rfl (fun ls hl => ?_)
        refine lv_aload_n hx hb dX1_best_36 rfl (lv_at hl 1 rfl) ?_
        refine lv_iload hx hb dX1_best_37 (lv_at hl 0 rfl) ?_
        refine mw_if_ne (tgt := 46) hx hb (by omega) dX1_best_39 (by decide) (fun _ => ?_) (fun c => absurd c (by decide))
        refine lv_iload_n hx hb dX1_best_46 rfl (lv_at hl 2 rfl) ?_
        refine lv_aload_n hx hb dX1_best_47 rfl (lv_at hl 1 rfl) ?_
        refine mw_getM hx hb hts hin hown hK hP rfl 3 (by decide) (by decide +kernel) rfl rfl dX1_best_48 ?_
        refine mw_iushr hx hb dX1_best_51 ?_
        refine mw_if_eq (tgt := 59) hx hb (by omega) dX1_best_52 (by decide) (fun c_52 => ?_) (fun c_52 => ?_)
        · refine mw_iconst hx hb dX1_best_59 ?_
          refine mw_cM (rest := []) (q := (RX1, TX1, 13)) hC (c_X1_goesWell l D h0 a1 a2 cA cJ t f g v L P 0 (by omega) hdis) (cwV 1 hts gX1_best_X1_goesWell rfl rfl rfl (by decide +kernel) ⟨Nat.le_of_ble_eq_true rfl, Nat.le_of_ble_eq_true rfl⟩) hK hP hS (fun _ h => h) rfl rfl rfl hl.1 rfl (Nat.le_of_ble_eq_true rfl) ⟨Nat.zero_le _, Nat.zero_le _⟩ dX1_best_60 (fun _ H locs _ hP hS _ _ => ?_)
          have hP : va_P D vwCl (mMW h0 a1 a2 cA 0 f g v L P) H := hP
          have hD := hDD 0 f g v L P
          refine W.eq (g2 := F0 m 63 ls [.int (mI (mB (0 = 0)))]) rfl ?_
          refine mw_topi (y := 1) (mB_t rfl) ?_
          refine mw_if_ne (tgt := 68) hx hb (by omega) dX1_best_63 (by decide) (fun _ => ?_) (fun c => absurd c (by decide))
          refine lv_iload_n hx hb dX1_best_68 rfl (lv_at hl 3 rfl) ?_
          refine lv_istore (lv' := [(5, .int (mI (fr))), (4, .int (mI (1))), (0, .ref h0), (1, .int (mI (z))), (2, .int (mI (fr))), (3, .int (mI (to9)))]) hx hb dX1_best_69 hl (by decide) rfl (fun ls hl => ?_)
          refine lv_iload_n hx hb dX1_best_71 rfl (lv_at hl 4 rfl) ?_
          refine lv_istore (lv' := [(6, .int (mI (fr))), (5, .int (mI (fr))), (4, .int (mI (1))), (0, .ref h0), (1, .int (mI (z))), (2, .int (mI (fr))), (3, .int (mI (to9)))]) hx hb dX1_best_72 hl (by decide) rfl (fun ls hl => ?_)
          refine mw_loop (T := Int × Int) (nL := 7) (fun x => (fr ≤ x.1 ∧ x.1 ≤ to9 + 1) ∧ (fr ≤ x.2 ∧ x.2 ≤ to9) ∧ x.2 = mBst L P (v 0).toNat z fr (x.1 - fr).toNat) (fun x => (to9 + 1 - (x.1)).toNat) 74 (fun x => [(6, .int (mI (x.1))), (5, .int (mI (x.2))), (0, .ref h0), (1, .int (mI (z))), (2, .int (mI (fr))), (3, .int (mI (to9)))]) ?_ ((fr : Int), (fr : Int)) (show (fr ≤ (fr : Int) ∧ (fr : Int) ≤ to9 + 1) ∧ (fr ≤ (fr : Int) ∧ (fr : Int) ≤ to9) ∧ (fr : Int) = mBst L P (v 0).toNat z fr ((fr : Int) - fr).toNat from ⟨⟨by omega, by omega⟩, ⟨by omega, by omega⟩, (by rw [Int.sub_self]; rfl)⟩) ls (lv_sub hl [0, 1, 3, 4, 5, 6] rfl)
          intro x hI ih ls hl
          obtain ⟨dy, b⟩ := x
          have hl : lv_has ls 7 [(6, .int (mI (dy))), (5, .int (mI (b))), (0, .ref h0), (1, .int (mI (z))), (2, .int (mI (fr))), (3, .int (mI (to9)))] := hl
          have hI : (fr ≤ dy ∧ dy ≤ to9 + 1) ∧ (fr ≤ b ∧ b ≤ to9) ∧ b = mBst L P (v 0).toNat z fr (dy - fr).toNat := hI
          obtain ⟨⟨i1, i2⟩, ⟨i4, i5⟩, i3⟩ := hI
          have f1 : fr + ((dy - fr).toNat : Int) = dy := by omega
          have f2 : (dy + 1 - fr).toNat = (dy - fr).toNat + 1 := by omega
          have f3 := mPop_r (mAnd (mSet L P dy (v 0).toNat) z) 32
          have f8 := mPop_r (mAnd (mSet L P b (v 0).toNat) z) 32
          have f4 := mBst_s L P (v 0).toNat z fr (dy - fr).toNat
          rw [f1, ← i3] at f4
          have f5 : mCt L P (v 0).toNat z dy = mPop (mAnd (mSet L P dy (v 0).toNat) z) 32 := rfl
          have f6 : mCt L P (v 0).toNat z b = mPop (mAnd (mSet L P b (v 0).toNat) z) 32 := rfl
          have f7 := mAnd_r (mSet L P dy (v 0).toNat) z
          have f9 := mAnd_r (mSet L P b (v 0).toNat) z
          have g1 : ¬ mPop (mAnd (mSet L P dy (v 0).toNat) z) 32 ≤ mPop (mAnd (mSet L P b (v 0).toNat) z) 32 → dy = mBst L P (v 0).toNat z fr (dy + 1 - fr).toNat := fun h => by
            rw [f2, f4, if_pos (by omega)]
          have g2 : mPop (mAnd (mSet L P dy (v 0).toNat) z) 32 ≤ mPop (mAnd (mSet L P b (v 0).toNat) z) 32 → b = mBst L P (v 0).toNat z fr (dy + 1 - fr).toNat := fun h => by
            rw [f2, f4, if_neg (by omega)]
          refine lv_iload hx hb dX1_best_74 (lv_at hl 0 rfl) ?_
          refine lv_iload_n hx hb dX1_best_76 rfl (lv_at hl 5 rfl) ?_
          refine mw_icmp_gt (tgt := 120) hx hb (by omega) (by omega) dX1_best_77 (by decide) (fun c_77 => ?_) (fun c_77 => ?_)
          · refine lv_iload hx hb dX1_best_120 (lv_at hl 1 rfl) ?_
            exact mw_yretI hx hb hr hlocks dX1_best_122 f g (fun h9 => by first | exact (by have e : dy = to9 + 1 := (by omega); rw [i3, e]) | rfl | exact (mB_t (by omega)).symm | exact (mB_f (by omega)).symm | omega | (rw [mEx2_1 (by omega)] at h9; omega) | (rw [mEx2_2 (by omega) (by omega)] at h9; omega) | (exfalso; omega)) (mw_wk (by first | rfl | (rw [mEx2_0 (by omega) (by omega)]; omega) | (rw [mEx2_1 (by omega)]; omega) | (rw [mEx2_2 (by omega) (by omega)]; omega) | (exfalso; omega)) rfl rfl rfl hP) hS
          · refine lv_aload_n hx hb dX1_best_80 rfl (lv_at hl 2 rfl) ?_
            refine lv_iload hx hb dX1_best_81 (lv_at hl 0 rfl) ?_
            refine mw_cVi (rest := []) (q := (RX1, TX1, 13)) hC (c_X1_held l D h0 a1 a2 cA cJ 0 f g v L P dy (id hok) (by omega)) (cwV 1 hts gX1_best_X1_held rfl rfl rfl (by decide +kernel) ⟨Nat.le_of_ble_eq_true rfl, Nat.le_of_ble_eq_true rfl⟩) hK hP rfl rfl rfl hl.1 rfl (Nat.le_of_ble_eq_true rfl) ⟨Nat.zero_le _, Nat.zero_le _⟩ dX1_best_83 ?_
            refine lv_iload_n hx hb dX1_best_86 rfl (lv_at hl 3 rfl) ?_
            refine mw_iand hx hb dX1_best_87 ?_
            refine mw_cSi (rest := []) hC (c_X1_sizeOf l (mAnd (mSet L P dy (v 0).toNat) z) (by omega)) (va_cwS 1 hts gX1_best_X1_sizeOf rfl rfl rfl (by decide +kernel) ⟨Nat.le_of_ble_eq_true rfl, Nat.le_of_ble_eq_true rfl⟩) rfl hl.1 rfl (Nat.le_of_ble_eq_true rfl) ⟨Nat.zero_le _, Nat.zero_le _⟩ dX1_best_88 ?_
            refine lv_aload_n hx hb dX1_best_91 rfl (lv_at hl 2 rfl) ?_
            refine lv_iload hx hb dX1_best_92 (lv_at hl 1 rfl) ?_
            refine mw_cVi (rest := [.int (mI (mPop (mAnd (mSet L P dy (v 0).toNat) z) 32))]) (q := (RX1, TX1, 13)) hC (c_X1_held l D h0 a1 a2 cA cJ 0 f g v L P b (id hok) (by omega)) (cwV 1 hts gX1_best_X1_held rfl rfl rfl (by decide +kernel) ⟨Nat.le_of_ble_eq_true rfl, Nat.le_of_ble_eq_true rfl⟩) hK hP rfl rfl rfl hl.1 rfl (Nat.le_of_ble_eq_true rfl) ⟨Nat.zero_le _, Nat.zero_le _⟩ dX1_best_94 ?_
            refine lv_iload_n hx hb dX1_best_97 rfl (lv_at hl 3 rfl) ?_
            refine mw_iand hx hb dX1_best_98 ?_
            refine mw_cSi (rest := [.int (mI (mPop (mAnd (mSet L P dy (v 0).toNat) z) 32))]) hC (c_X1_sizeOf l (mAnd (mSet L P b (v 0).toNat) z) (by omega)) (va_cwS 1 hts gX1_best_X1_sizeOf rfl rfl rfl (by decide +kernel) ⟨Nat.le_of_ble_eq_true rfl, Nat.le_of_ble_eq_true rfl⟩) rfl hl.1 rfl (Nat.le_of_ble_eq_true rfl) ⟨Nat.zero_le _, Nat.zero_le _⟩ dX1_best_99 ?_
            refine mw_icmp_le (tgt := 110) hx hb (by omega) (by omega) dX1_best_102 (by decide) (fun c_102 => ?_) (fun c_102 => ?_)
            · refine lv_iload hx hb dX1_best_110 (lv_at hl 1 rfl) ?_
              refine lv_istore (lv' := [(5, .int (mI (b))), (6, .int (mI (dy))), (0, .ref h0), (1, .int (mI (z))), (2, .int (mI (fr))), (3, .int (mI (to9)))]) hx hb dX1_best_112 hl (by decide) rfl (fun ls hl => ?_)
              refine mw_iinc (k := 1) (lv' := [(6, .int (mI (dy + 1))), (5, .int (mI (b))), (0, .ref h0), (1, .int (mI (z))), (2, .int (mI (fr))), (3, .int (mI (to9)))]) hx hb dX1_best_114 hl rfl (by decide) rfl (fun ls hl => ?_)
              refine lv_goto (tgt := 74) hx hb dX1_best_117 (by decide) ?_
              exact ih ((dy + 1), b) (show (fr ≤ (dy + 1) ∧ (dy + 1) ≤ to9 + 1) ∧ (fr ≤ b ∧ b ≤ to9) ∧ b = mBst L P (v 0).toNat z fr ((dy + 1) - fr).toNat from ⟨⟨by omega, by omega⟩, ⟨by omega, by omega⟩, g2 (by omega)⟩) (show (to9 + 1 - ((dy + 1))).toNat < (to9 + 1 - dy).toNat from (by omega)) ls (lv_sub hl [0, 1, 2, 3, 4, 5] rfl)
            · refine lv_iload hx hb dX1_best_105 (lv_at hl 0 rfl) ?_
              refine lv_goto (tgt := 112) hx hb dX1_best_107 (by decide) ?_
              refine lv_istore (lv' := [(5, .int (mI (dy))), (6, .int (mI (dy))), (0, .ref h0), (1, .int (mI (z))), (2, .int (mI (fr))), (3, .int (mI (to9)))]) hx hb dX1_best_112 hl (by decide) rfl (fun ls hl => ?_)
              refine mw_iinc (k := 1) (lv' := [(6, .int (mI (dy + 1))), (5, .int (mI (dy))), (0, .ref h0), (1, .int (mI (z))), (2, .int (mI (fr))), (3, .int (mI (to9)))]) hx hb dX1_best_114 hl rfl (by decide) rfl (fun ls hl => ?_)
              refine lv_goto (tgt := 74) hx hb dX1_best_117 (by decide) ?_
              exact ih ((dy + 1), dy) (show (fr ≤ (dy + 1) ∧ (dy + 1) ≤ to9 + 1) ∧ (fr ≤ dy ∧ dy ≤ to9) ∧ dy = mBst L P (v 0).toNat z fr ((dy + 1) - fr).toNat from ⟨⟨by omega, by omega⟩, ⟨by omega, by omega⟩, g1 (by omega)⟩) (show (to9 + 1 - ((dy + 1))).toNat < (to9 + 1 - dy).toNat from (by omega)) ls (lv_sub hl [0, 1, 2, 3, 4, 5] rfl)
        · refine mw_iconst hx hb dX1_best_55 ?_
          refine lv_goto (tgt := 60) hx hb dX1_best_56 (by decide) ?_
          refine mw_cM (rest := []) (q := (RX1, TX1, 13)) hC (c_X1_goesWell l D h0 a1 a2 cA cJ t f g v L P 2 (by omega) hdis) (cwV 1 hts gX1_best_X1_goesWell rfl rfl rfl (by decide +kernel) ⟨Nat.le_of_ble_eq_true rfl, Nat.le_of_ble_eq_true rfl⟩) hK hP hS (fun _ h => h) rfl rfl rfl hl.1 rfl (Nat.le_of_ble_eq_true rfl) ⟨Nat.zero_le _, Nat.zero_le _⟩ dX1_best_60 (fun _ H locs _ hP hS _ _ => ?_)
          have hP : va_P D vwCl (mMW h0 a1 a2 cA 2 f g v L P) H := hP
          have hD := hDD 2 f g v L P
          refine W.eq (g2 := F0 m 63 ls [.int (mI (mB (2 = 0)))]) rfl ?_
          refine mw_topi (y := 0) (mB_f (by omega)) ?_
          refine mw_if_ne (tgt := 68) hx hb (by omega) dX1_best_63 (by decide) (fun c => absurd c (by decide)) (fun _ => ?_)
          refine mw_iconst hx hb dX1_best_66 ?_
          exact mw_yretI hx hb hr hlocks dX1_best_67 f g (fun h9 => by first | rfl | exact (mB_t (by omega)).symm | exact (mB_f (by omega)).symm | omega | (rw [mEx2_1 (by omega)] at h9; omega) | (rw [mEx2_2 (by omega) (by omega)] at h9; omega) | (exfalso; omega)) (mw_wk (by first | rfl | (rw [mEx2_0 (by omega) (by omega)]; omega) | (rw [mEx2_1 (by omega)]; omega) | (rw [mEx2_2 (by omega) (by omega)]; omega) | (exfalso; omega)) rfl rfl rfl hP) hS

set_option maxHeartbeats 400000 in
set_option maxRecDepth 100000 in
theorem y_X1_monthBegin (l : Launch) (D : va_G) (h0 a1 a2 : Nat) (cA cJ : ClassId) (t f g : Int) (v : Nat → Int) (L P : Int → Int) (m9 : Int) (hm9 : mRI m9) (hok : mOK v L P) (hdis : mDis h0 a1 a2) : mY l yX1_monthBegin wsX1_monthBegin ({ frames := 3, cells := 0, slots := 0, locals := 72 }) [.ref h0, .int (mI (m9))] D (mMW h0 a1 a2 cA t f g v L P) (mTy cA cJ) (fun r => some (.int (mI r))) (fun u => (mEx1 (-100000 ≤ m9 ∧ m9 ≤ 100000)) = 0 → u.1 = mMb v m9) (fun u => mMW h0 a1 a2 cA (((mEx1 (-100000 ≤ m9 ∧ m9 ≤ 100000) : Nat)) : Int) u.2.1 u.2.2 (v) (L) (P)) (mA3 h0 a1 a2) := by
  refine mw_openY (cc := cX1_monthBegin) (maxL := 4) (ret := (some .int)) (by decide) rfl (Nat.le_of_ble_eq_true rfl) ?_
  intro p e s m below meth c ls hC hr hlocks hB hl
  obtain ⟨hx, hb, hml, hown, hts⟩ := id hC
  obtain ⟨hP, hK⟩ := hB
  have hin : ∀ w ∈ wsX10, w ∈ wsX1_monthBegin := by decide +kernel
  have hl : lv_has ls 4 [(0, .ref h0), (1, .int (mI (m9)))] := hl
  have hS : va_S (mA3 h0 a1 a2) s.heap s.heap [] := va_S.rf
  have hDD : ∀ (t f g : Int) (v : Nat → Int) (L P : Int → Int), va_D (mA3 h0 a1 a2) (mMW h0 a1 a2 cA t f g v L P) := fun t f g v L P => mD3 hdis (mA3_in h0 a1 a2)
  have hD := hDD t f g v L P
  have hok9 := hok
  obtain ⟨⟨o1, o2⟩, oL, ⟨o3, o4, o5, o6, o7, o8⟩, ⟨o9, o10, o11, o12, o13, o14, o15, o16⟩⟩ := hok9
  refine lv_aload_n hx hb dX1_monthBegin_0 rfl (lv_at hl 0 rfl) ?_
  refine lv_iload_n hx hb dX1_monthBegin_1 rfl (lv_at hl 1 rfl) ?_
  refine mw_i2l hx hb (by omega) dX1_monthBegin_2 ?_
  refine mw_ldc2 hx hb (-100000) (by decide +kernel) hown (hts (.constantLong RX1 137 (-100000)) (by decide +kernel)) dX1_monthBegin_3 ?_
  refine mw_ldc2 hx hb (100000) (by decide +kernel) hown (hts (.constantLong RX1 139 (100000)) (by decide +kernel)) dX1_monthBegin_6 ?_
  refine mw_cSi (rest := [.ref h0]) hC (c_X1_in l m9 (-100000) 100000 (by omega) (by omega) (by omega)) (va_cwS 3 hts gX1_monthBegin_X1_in rfl rfl rfl (by decide +kernel) ⟨Nat.le_of_ble_eq_true rfl, Nat.le_of_ble_eq_true rfl⟩) rfl hl.1 rfl (Nat.le_of_ble_eq_true rfl) ⟨Nat.zero_le _, Nat.zero_le _⟩ dX1_monthBegin_9 ?_
  refine mw_zeq (tgt := 19) hx hb dX1_monthBegin_12 (by decide) (fun c_12 => ?_) (fun c_12 => ?_)
  · refine mw_iconst hx hb dX1_monthBegin_19 ?_
    refine mw_cM (rest := []) (q := (RX1, TX1, 13)) hC (c_X1_goesWell l D h0 a1 a2 cA cJ t f g v L P 1 (by omega) hdis) (cwV 1 hts gX1_monthBegin_X1_goesWell rfl rfl rfl (by decide +kernel) ⟨Nat.le_of_ble_eq_true rfl, Nat.le_of_ble_eq_true rfl⟩) hK hP hS (fun _ h => h) rfl rfl rfl hl.1 rfl (Nat.le_of_ble_eq_true rfl) ⟨Nat.zero_le _, Nat.zero_le _⟩ dX1_monthBegin_20 (fun _ H locs _ hP hS _ _ => ?_)
    have hP : va_P D vwCl (mMW h0 a1 a2 cA 1 f g v L P) H := hP
    have hD := hDD 1 f g v L P
    refine W.eq (g2 := F0 m 23 ls [.int (mI (mB (1 = 0)))]) rfl ?_
    refine mw_topi (y := 0) (mB_f (by omega)) ?_
    refine mw_if_ne (tgt := 28) hx hb (by omega) dX1_monthBegin_23 (by decide) (fun c => absurd c (by decide)) (fun _ => ?_)
    refine mw_iconst hx hb dX1_monthBegin_26 ?_
    exact mw_yretI hx hb hr hlocks dX1_monthBegin_27 f g (fun h9 => by first | rfl | exact (mB_t (by omega)).symm | exact (mB_f (by omega)).symm | omega | (rw [mEx1_1 (by omega)] at h9; omega) | (exfalso; omega)) (mw_wk (by first | rfl | (rw [mEx1_0 (by omega)]; omega) | (rw [mEx1_1 (by omega)]; omega) | (exfalso; omega)) rfl rfl rfl hP) hS
  · refine mw_iconst hx hb dX1_monthBegin_15 ?_
    refine lv_goto (tgt := 20) hx hb dX1_monthBegin_16 (by decide) ?_
    refine mw_cM (rest := []) (q := (RX1, TX1, 13)) hC (c_X1_goesWell l D h0 a1 a2 cA cJ t f g v L P 0 (by omega) hdis) (cwV 1 hts gX1_monthBegin_X1_goesWell rfl rfl rfl (by decide +kernel) ⟨Nat.le_of_ble_eq_true rfl, Nat.le_of_ble_eq_true rfl⟩) hK hP hS (fun _ h => h) rfl rfl rfl hl.1 rfl (Nat.le_of_ble_eq_true rfl) ⟨Nat.zero_le _, Nat.zero_le _⟩ dX1_monthBegin_20 (fun _ H locs _ hP hS _ _ => ?_)
    have hP : va_P D vwCl (mMW h0 a1 a2 cA 0 f g v L P) H := hP
    have hD := hDD 0 f g v L P
    refine W.eq (g2 := F0 m 23 ls [.int (mI (mB (0 = 0)))]) rfl ?_
    refine mw_topi (y := 1) (mB_t rfl) ?_
    refine mw_if_ne (tgt := 28) hx hb (by omega) dX1_monthBegin_23 (by decide) (fun _ => ?_) (fun c => absurd c (by decide))
    have g1 := m_bound m9 (v 1) (A := 100000) (B := 10000) (by omega) (by omega)
    have g2 := m_mb0 hok (m := m9)
    have g3 : -20000000 ≤ mMb v m9 ∧ mMb v m9 ≤ 20000000 := by
      have k1 := m_mb hok (m := m9) (x := 20000000)
      have k2 := m_mb hok (m := m9) (x := -20000001)
      have k3 : m9 ≤ mMonth v 20000000 := by
        show m9 ≤ (20000000 + v 3) * v 2 / v 1
        rw [Int.le_ediv_iff_mul_le (by omega)]
        have k4 : m9 * v 1 ≤ 100000 * v 1 := Int.mul_le_mul_of_nonneg_right (by omega) (by omega)
        have k5 : 19999000 * v 2 ≤ (20000000 + v 3) * v 2 := Int.mul_le_mul_of_nonneg_right (by omega) (by omega)
        omega
      have k6 : mMonth v (-20000001) < m9 := by
        show (-20000001 + v 3) * v 2 / v 1 < m9
        rw [Int.ediv_lt_iff_lt_mul (by omega)]
        have k4 : -100000 * v 1 ≤ m9 * v 1 := Int.mul_le_mul_of_nonneg_right (by omega) (by omega)
        have k5 : (-20000001 + v 3) * v 2 ≤ -19999001 * v 2 := Int.mul_le_mul_of_nonneg_right (by omega) (by omega)
        omega
      omega
    have g4 := m_div_r (a := m9 * v 1) (b := v 2) (by omega)
    have g9 : -20000000 ≤ m9 * v 1 / v 2 := by
      rw [Int.le_ediv_iff_mul_le (by omega)]
      have k4 : -100000 * v 1 ≤ m9 * v 1 := Int.mul_le_mul_of_nonneg_right (by omega) (by omega)
      omega
    refine lv_iload_n hx hb dX1_monthBegin_28 rfl (lv_at hl 1 rfl) ?_
    refine mw_i2l hx hb (by omega) dX1_monthBegin_29 ?_
    refine lv_aload_n hx hb dX1_monthBegin_30 rfl (lv_at hl 0 rfl) ?_
    refine mw_getM hx hb hts hin hown hK hP rfl 4 (by decide) (by decide +kernel) rfl rfl dX1_monthBegin_31 ?_
    refine mw_i2l hx hb (by omega) dX1_monthBegin_34 ?_
    refine mw_lmul hx hb dX1_monthBegin_35 ?_
    refine lv_aload_n hx hb dX1_monthBegin_36 rfl (lv_at hl 0 rfl) ?_
    refine mw_getM hx hb hts hin hown hK hP rfl 5 (by decide) (by decide +kernel) rfl rfl dX1_monthBegin_37 ?_
    refine mw_i2l hx hb (by omega) dX1_monthBegin_40 ?_
    refine mw_cSl (rest := []) hC (c_X1_part l (m9 * (v 1)) (v 2) (by omega) (by omega) (by omega)) (va_cwS 2 hts gX1_monthBegin_X1_part rfl rfl rfl (by decide +kernel) ⟨Nat.le_of_ble_eq_true rfl, Nat.le_of_ble_eq_true rfl⟩) rfl hl.1 rfl (Nat.le_of_ble_eq_true rfl) ⟨Nat.zero_le _, Nat.zero_le _⟩ dX1_monthBegin_41 ?_
    refine lv_aload_n hx hb dX1_monthBegin_44 rfl (lv_at hl 0 rfl) ?_
    refine mw_getM hx hb hts hin hown hK hP rfl 6 (by decide) (by decide +kernel) rfl rfl dX1_monthBegin_45 ?_
    refine mw_i2l hx hb (by omega) dX1_monthBegin_48 ?_
    refine mw_lsub hx hb dX1_monthBegin_49 ?_
    refine mw_ldc2 hx hb (2) (by decide +kernel) hown (hts (.constantLong RX1 63 (2)) (by decide +kernel)) dX1_monthBegin_50 ?_
    refine mw_lsub hx hb dX1_monthBegin_53 ?_
    refine lv_lstore_n (lv' := [(2, .long (mL ((((m9 * (v 1)) / (v 2)) - (v 3)) - 2))), (0, .ref h0), (1, .int (mI (m9)))]) hx hb dX1_monthBegin_54 rfl hl (by decide) rfl (fun ls hl => ?_)
    refine mw_loop (T := Int) (nL := 4) (fun x => ((m9 * v 1) / v 2 - v 3 - 2 ≤ x ∧ x ≤ mMb v m9) ∧ -100000000 ≤ x ∧ x ≤ 100000000) (fun x => (mMb v m9 - x).toNat) 55 (fun x => [(2, .long (mL (x))), (0, .ref h0), (1, .int (mI (m9)))]) ?_ (((((m9 * (v 1)) / (v 2)) - (v 3)) - 2 : Int)) (show ((m9 * v 1) / v 2 - v 3 - 2 ≤ ((((m9 * (v 1)) / (v 2)) - (v 3)) - 2 : Int) ∧ ((((m9 * (v 1)) / (v 2)) - (v 3)) - 2 : Int) ≤ mMb v m9) ∧ -100000000 ≤ ((((m9 * (v 1)) / (v 2)) - (v 3)) - 2 : Int) ∧ ((((m9 * (v 1)) / (v 2)) - (v 3)) - 2 : Int) ≤ 100000000 from ⟨⟨by omega, by omega⟩, by omega, by omega⟩) ls (lv_sub hl [0, 1, 2] rfl)
    intro x hI ih ls hl
    obtain ⟨x9, rfl⟩ : ∃ y, y = x := ⟨_, rfl⟩
    have hl : lv_has ls 4 [(2, .long (mL (x9))), (0, .ref h0), (1, .int (mI (m9)))] := hl
    have hI : ((m9 * v 1) / v 2 - v 3 - 2 ≤ x9 ∧ x9 ≤ mMb v m9) ∧ -100000000 ≤ x9 ∧ x9 ≤ 100000000 := hI
    obtain ⟨⟨i1, i2⟩, i3, i4⟩ := hI
    have g5 := m_mb hok (m := m9) (x := x9)
    have g6 := m_bound (x9 + v 3) (v 2) (A := 100001000) (B := 100) (by omega) (by omega)
    have g7 := m_div_r (a := (x9 + v 3) * v 2) (b := v 1) (by omega)
    have g8 : mMonth v x9 = (x9 + v 3) * v 2 / v 1 := rfl
    refine lv_aload_n hx hb dX1_monthBegin_55 rfl (lv_at hl 1 rfl) ?_
    refine lv_lload_n hx hb dX1_monthBegin_56 rfl (lv_at hl 0 rfl) ?_
    refine mw_cVl (rest := []) (q := (RX1, TX1, 13)) hC (c_X1_monthOf l D h0 a1 a2 cA cJ 0 f g v L P x9 (id hok) (by omega)) (cwV 1 hts gX1_monthBegin_X1_monthOf rfl rfl rfl (by decide +kernel) ⟨Nat.le_of_ble_eq_true rfl, Nat.le_of_ble_eq_true rfl⟩) hK hP rfl rfl rfl hl.1 rfl (Nat.le_of_ble_eq_true rfl) ⟨Nat.zero_le _, Nat.zero_le _⟩ dX1_monthBegin_57 ?_
    refine lv_iload_n hx hb dX1_monthBegin_60 rfl (lv_at hl 2 rfl) ?_
    refine mw_i2l hx hb (by omega) dX1_monthBegin_61 ?_
    refine mw_lcmp_ge (tgt := 73) hx hb (by omega) (by omega) dX1_monthBegin_62 dX1_monthBegin_63 (by decide) (fun c_63 => ?_) (fun c_63 => ?_)
    · refine lv_lload_n hx hb dX1_monthBegin_73 rfl (lv_at hl 0 rfl) ?_
      refine mw_l2i hx hb dX1_monthBegin_74 ?_
      exact mw_yretI hx hb hr hlocks dX1_monthBegin_75 f g (fun h9 => by first | omega | rfl | exact (mB_t (by omega)).symm | exact (mB_f (by omega)).symm | omega | (rw [mEx1_1 (by omega)] at h9; omega) | (exfalso; omega)) (mw_wk (by first | rfl | (rw [mEx1_0 (by omega)]; omega) | (rw [mEx1_1 (by omega)]; omega) | (exfalso; omega)) rfl rfl rfl hP) hS
    · refine lv_lload_n hx hb dX1_monthBegin_66 rfl (lv_at hl 0 rfl) ?_
      refine mw_lconst hx hb 1 (by decide +kernel) dX1_monthBegin_67 ?_
      refine mw_ladd hx hb dX1_monthBegin_68 ?_
      refine lv_lstore_n (lv' := [(2, .long (mL (x9 + 1))), (0, .ref h0), (1, .int (mI (m9)))]) hx hb dX1_monthBegin_69 rfl hl (by decide) rfl (fun ls hl => ?_)
      refine lv_goto (tgt := 55) hx hb dX1_monthBegin_70 (by decide) ?_
      exact ih ((x9 + 1)) (show ((m9 * v 1) / v 2 - v 3 - 2 ≤ (x9 + 1) ∧ (x9 + 1) ≤ mMb v m9) ∧ -100000000 ≤ (x9 + 1) ∧ (x9 + 1) ≤ 100000000 from ⟨⟨by omega, by omega⟩, by omega, by omega⟩) (show (mMb v m9 - ((x9 + 1))).toNat < (mMb v m9 - x9).toNat from (by omega)) ls (lv_sub hl [0, 1, 2] rfl)

set_option maxHeartbeats 400000 in
set_option maxRecDepth 100000 in
theorem y_X1_dayOf (l : Launch) (D : va_G) (h0 a1 a2 : Nat) (cA cJ : ClassId) (t f g : Int) (v : Nat → Int) (L P : Int → Int) (y pl : Int) (hy9 : mRI y) (hp9 : mRI pl) (hok : mOK v L P) (hdis : mDis h0 a1 a2) : mY l yX1_dayOf wsX1_dayOf ({ frames := 3, cells := 0, slots := 0, locals := 72 }) [.ref h0, .int (mI (y)), .int (mI (pl))] D (mMW h0 a1 a2 cA t f g v L P) (mTy cA cJ) (fun r => some (.int (mI r))) (fun u => (mEx1 (mYear y ∧ 0 ≤ pl ∧ pl < mLen v y)) = 0 → u.1 = mBeg v y + pl) (fun u => mMW h0 a1 a2 cA (((mEx1 (mYear y ∧ 0 ≤ pl ∧ pl < mLen v y) : Nat)) : Int) u.2.1 u.2.2 (v) (L) (P)) (mA3 h0 a1 a2) := by
  refine mw_openY (cc := cX1_dayOf) (maxL := 4) (ret := (some .int)) (by decide) rfl (Nat.le_of_ble_eq_true rfl) ?_
  intro p e s m below meth c ls hC hr hlocks hB hl
  obtain ⟨hx, hb, hml, hown, hts⟩ := id hC
  obtain ⟨hP, hK⟩ := hB
  have hl : lv_has ls 4 [(0, .ref h0), (1, .int (mI (y))), (2, .int (mI (pl)))] := hl
  have hS : va_S (mA3 h0 a1 a2) s.heap s.heap [] := va_S.rf
  have hDD : ∀ (t f g : Int) (v : Nat → Int) (L P : Int → Int), va_D (mA3 h0 a1 a2) (mMW h0 a1 a2 cA t f g v L P) := fun t f g v L P => mD3 hdis (mA3_in h0 a1 a2)
  have hD := hDD t f g v L P
  have hok9 := hok
  obtain ⟨⟨o1, o2⟩, oL, ⟨o3, o4, o5, o6, o7, o8⟩, ⟨o9, o10, o11, o12, o13, o14, o15, o16⟩⟩ := hok9
  have n1 : mLeap v y → mLen v y = v 4 + 1 := fun h => if_pos h
  have n2 : ¬ mLeap v y → mLen v y = v 4 := fun h => if_neg h
  refine lv_iload_n hx hb dX1_dayOf_0 rfl (lv_at hl 1 rfl) ?_
  refine mw_cSi (rest := []) hC (c_X1_isYear l y (by omega)) (va_cwS 1 hts gX1_dayOf_X1_isYear rfl rfl rfl (by decide +kernel) ⟨Nat.le_of_ble_eq_true rfl, Nat.le_of_ble_eq_true rfl⟩) rfl hl.1 rfl (Nat.le_of_ble_eq_true rfl) ⟨Nat.zero_le _, Nat.zero_le _⟩ dX1_dayOf_1 ?_
  refine mw_zeq (tgt := 27) hx hb dX1_dayOf_4 (by decide) (fun c_4 => ?_) (fun c_4 => ?_)
  · refine mw_iconst hx hb dX1_dayOf_27 ?_
    refine lv_istore_n (lv' := [(3, .int (mI (0))), (0, .ref h0), (1, .int (mI (y))), (2, .int (mI (pl)))]) hx hb dX1_dayOf_28 rfl hl (by decide) rfl (fun ls hl => ?_)
    refine lv_aload_n hx hb dX1_dayOf_29 rfl (lv_at hl 1 rfl) ?_
    refine lv_iload_n hx hb dX1_dayOf_30 rfl (lv_at hl 0 rfl) ?_
    refine mw_if_eq (tgt := 38) hx hb (by omega) dX1_dayOf_31 (by decide) (fun _ => ?_) (fun c => absurd (by decide) c)
    refine mw_iconst hx hb dX1_dayOf_38 ?_
    refine mw_cM (rest := []) (q := (RX1, TX1, 13)) hC (c_X1_goesWell l D h0 a1 a2 cA cJ t f g v L P 1 (by omega) hdis) (cwV 1 hts gX1_dayOf_X1_goesWell rfl rfl rfl (by decide +kernel) ⟨Nat.le_of_ble_eq_true rfl, Nat.le_of_ble_eq_true rfl⟩) hK hP hS (fun _ h => h) rfl rfl rfl hl.1 rfl (Nat.le_of_ble_eq_true rfl) ⟨Nat.zero_le _, Nat.zero_le _⟩ dX1_dayOf_39 (fun _ H locs _ hP hS _ _ => ?_)
    have hP : va_P D vwCl (mMW h0 a1 a2 cA 1 f g v L P) H := hP
    have hD := hDD 1 f g v L P
    refine W.eq (g2 := F0 m 42 ls [.int (mI (mB (1 = 0)))]) rfl ?_
    refine mw_topi (y := 0) (mB_f (by omega)) ?_
    refine mw_if_eq (tgt := 57) hx hb (by omega) dX1_dayOf_42 (by decide) (fun _ => ?_) (fun c => absurd (by decide) c)
    refine mw_iconst hx hb dX1_dayOf_57 ?_
    exact mw_yretI hx hb hr hlocks dX1_dayOf_58 f g (fun h9 => by first | rfl | exact (mB_t (by omega)).symm | exact (mB_f (by omega)).symm | omega | (rw [mEx1_1 (by omega)] at h9; omega) | (exfalso; omega)) (mw_wk (by first | rfl | (rw [mEx1_0 (by omega)]; omega) | (rw [mEx1_1 (by omega)]; omega) | (exfalso; omega)) rfl rfl rfl hP) hS
  · refine lv_iload_n hx hb dX1_dayOf_7 rfl (lv_at hl 2 rfl) ?_
    refine mw_i2l hx hb (by omega) dX1_dayOf_8 ?_
    refine mw_lconst hx hb 0 (by decide +kernel) dX1_dayOf_9 ?_
    refine lv_aload_n hx hb dX1_dayOf_10 rfl (lv_at hl 0 rfl) ?_
    refine lv_iload_n hx hb dX1_dayOf_11 rfl (lv_at hl 1 rfl) ?_
    refine mw_cVl (rest := [.long (mL (0)), .long (mL (pl))]) (q := (RX1, TX1, 13)) hC (c_X1_lengthOf l D h0 a1 a2 cA cJ t f g v L P y (id hok) (by omega)) (cwV 1 hts gX1_dayOf_X1_lengthOf rfl rfl rfl (by decide +kernel) ⟨Nat.le_of_ble_eq_true rfl, Nat.le_of_ble_eq_true rfl⟩) hK hP rfl rfl rfl hl.1 rfl (Nat.le_of_ble_eq_true rfl) ⟨Nat.zero_le _, Nat.zero_le _⟩ dX1_dayOf_12 ?_
    refine mw_lconst hx hb 1 (by decide +kernel) dX1_dayOf_15 ?_
    refine mw_lsub hx hb dX1_dayOf_16 ?_
    refine mw_cSi (rest := []) hC (c_X1_in l pl 0 ((mLen v y) - 1) (by omega) (by omega) (by omega)) (va_cwS 3 hts gX1_dayOf_X1_in rfl rfl rfl (by decide +kernel) ⟨Nat.le_of_ble_eq_true rfl, Nat.le_of_ble_eq_true rfl⟩) rfl hl.1 rfl (Nat.le_of_ble_eq_true rfl) ⟨Nat.zero_le _, Nat.zero_le _⟩ dX1_dayOf_17 ?_
    refine mw_zeq (tgt := 27) hx hb dX1_dayOf_20 (by decide) (fun c_20 => ?_) (fun c_20 => ?_)
    · refine mw_iconst hx hb dX1_dayOf_27 ?_
      refine lv_istore_n (lv' := [(3, .int (mI (0))), (0, .ref h0), (1, .int (mI (y))), (2, .int (mI (pl)))]) hx hb dX1_dayOf_28 rfl hl (by decide) rfl (fun ls hl => ?_)
      refine lv_aload_n hx hb dX1_dayOf_29 rfl (lv_at hl 1 rfl) ?_
      refine lv_iload_n hx hb dX1_dayOf_30 rfl (lv_at hl 0 rfl) ?_
      refine mw_if_eq (tgt := 38) hx hb (by omega) dX1_dayOf_31 (by decide) (fun _ => ?_) (fun c => absurd (by decide) c)
      refine mw_iconst hx hb dX1_dayOf_38 ?_
      refine mw_cM (rest := []) (q := (RX1, TX1, 13)) hC (c_X1_goesWell l D h0 a1 a2 cA cJ t f g v L P 1 (by omega) hdis) (cwV 1 hts gX1_dayOf_X1_goesWell rfl rfl rfl (by decide +kernel) ⟨Nat.le_of_ble_eq_true rfl, Nat.le_of_ble_eq_true rfl⟩) hK hP hS (fun _ h => h) rfl rfl rfl hl.1 rfl (Nat.le_of_ble_eq_true rfl) ⟨Nat.zero_le _, Nat.zero_le _⟩ dX1_dayOf_39 (fun _ H locs _ hP hS _ _ => ?_)
      have hP : va_P D vwCl (mMW h0 a1 a2 cA 1 f g v L P) H := hP
      have hD := hDD 1 f g v L P
      refine W.eq (g2 := F0 m 42 ls [.int (mI (mB (1 = 0)))]) rfl ?_
      refine mw_topi (y := 0) (mB_f (by omega)) ?_
      refine mw_if_eq (tgt := 57) hx hb (by omega) dX1_dayOf_42 (by decide) (fun _ => ?_) (fun c => absurd (by decide) c)
      refine mw_iconst hx hb dX1_dayOf_57 ?_
      exact mw_yretI hx hb hr hlocks dX1_dayOf_58 f g (fun h9 => by first | rfl | exact (mB_t (by omega)).symm | exact (mB_f (by omega)).symm | omega | (rw [mEx1_1 (by omega)] at h9; omega) | (exfalso; omega)) (mw_wk (by first | rfl | (rw [mEx1_0 (by omega)]; omega) | (rw [mEx1_1 (by omega)]; omega) | (exfalso; omega)) rfl rfl rfl hP) hS
    · refine mw_iconst hx hb dX1_dayOf_23 ?_
      refine lv_goto (tgt := 28) hx hb dX1_dayOf_24 (by decide) ?_
      refine lv_istore_n (lv' := [(3, .int (mI (1))), (0, .ref h0), (1, .int (mI (y))), (2, .int (mI (pl)))]) hx hb dX1_dayOf_28 rfl hl (by decide) rfl (fun ls hl => ?_)
      refine lv_aload_n hx hb dX1_dayOf_29 rfl (lv_at hl 1 rfl) ?_
      refine lv_iload_n hx hb dX1_dayOf_30 rfl (lv_at hl 0 rfl) ?_
      refine mw_if_eq (tgt := 38) hx hb (by omega) dX1_dayOf_31 (by decide) (fun c => absurd c (by decide)) (fun _ => ?_)
      refine mw_iconst hx hb dX1_dayOf_34 ?_
      refine lv_goto (tgt := 39) hx hb dX1_dayOf_35 (by decide) ?_
      refine mw_cM (rest := []) (q := (RX1, TX1, 13)) hC (c_X1_goesWell l D h0 a1 a2 cA cJ t f g v L P 0 (by omega) hdis) (cwV 1 hts gX1_dayOf_X1_goesWell rfl rfl rfl (by decide +kernel) ⟨Nat.le_of_ble_eq_true rfl, Nat.le_of_ble_eq_true rfl⟩) hK hP hS (fun _ h => h) rfl rfl rfl hl.1 rfl (Nat.le_of_ble_eq_true rfl) ⟨Nat.zero_le _, Nat.zero_le _⟩ dX1_dayOf_39 (fun _ H locs _ hP hS _ _ => ?_)
      have hP : va_P D vwCl (mMW h0 a1 a2 cA 0 f g v L P) H := hP
      have hD := hDD 0 f g v L P
      refine W.eq (g2 := F0 m 42 ls [.int (mI (mB (0 = 0)))]) rfl ?_
      refine mw_topi (y := 1) (mB_t rfl) ?_
      refine mw_if_eq (tgt := 57) hx hb (by omega) dX1_dayOf_42 (by decide) (fun c => absurd c (by decide)) (fun _ => ?_)
      refine lv_aload_n hx hb dX1_dayOf_45 rfl (lv_at hl 1 rfl) ?_
      refine lv_iload_n hx hb dX1_dayOf_46 rfl (lv_at hl 2 rfl) ?_
      refine mw_i2l hx hb (by omega) dX1_dayOf_47 ?_
      refine mw_cVl (rest := []) (q := (RX1, TX1, 13)) hC (c_X1_beginOf l D h0 a1 a2 cA cJ 0 f g v L P y (id hok) (by omega)) (cwV 1 hts gX1_dayOf_X1_beginOf rfl rfl rfl (by decide +kernel) ⟨Nat.le_of_ble_eq_true rfl, Nat.le_of_ble_eq_true rfl⟩) hK hP rfl rfl rfl hl.1 rfl (Nat.le_of_ble_eq_true rfl) ⟨Nat.zero_le _, Nat.zero_le _⟩ dX1_dayOf_48 ?_
      refine mw_l2i hx hb dX1_dayOf_51 ?_
      refine lv_iload_n hx hb dX1_dayOf_52 rfl (lv_at hl 3 rfl) ?_
      refine mw_iadd hx hb dX1_dayOf_53 ?_
      refine lv_goto (tgt := 58) hx hb dX1_dayOf_54 (by decide) ?_
      exact mw_yretI hx hb hr hlocks dX1_dayOf_58 f g (fun h9 => by first | rfl | exact (mB_t (by omega)).symm | exact (mB_f (by omega)).symm | omega | (rw [mEx1_1 (by omega)] at h9; omega) | (exfalso; omega)) (mw_wk (by first | rfl | (rw [mEx1_0 (by omega)]; omega) | (rw [mEx1_1 (by omega)]; omega) | (exfalso; omega)) rfl rfl rfl hP) hS

theorem m_len {v : Nat → Int} {L P : Int → Int} (hok : mOK v L P) (y : Int) : mBeg v (y + 1) = mBeg v y + mLen v y := by
  obtain ⟨-, -, -, ⟨o9, o10, o11, o12, o13, o14, o15, o16⟩⟩ := hok
  have h1 := m_mod_r (a := v 5 * y + v 6) (b := v 7) (by omega)
  have h2 := Int.mul_ediv_add_emod (v 5 * y + v 6) (v 7)
  have h3 : v 5 * (y + 1) = v 5 * y + v 5 := by rw [Int.mul_add, Int.mul_one]
  have h4 : v 4 * (y + 1) = v 4 * y + v 4 := by rw [Int.mul_add, Int.mul_one]
  unfold mBeg mLen
  rw [h3, h4]
  obtain ⟨q, hq⟩ : ∃ q, q = (v 5 * y + v 6) / v 7 := ⟨_, rfl⟩
  rw [← hq] at h2 ⊢
  by_cases c : mLeap v y
  · rw [if_pos c]
    have e : v 5 * y + v 5 + v 6 = ((v 5 * y + v 6) % v 7 + v 5 - v 7) + v 7 * (q + 1) := by rw [Int.mul_add, Int.mul_one]; omega
    have e2 : (v 5 * y + v 5 + v 6) / v 7 = q + 1 := by
      rw [e, Int.add_mul_ediv_left _ _ (by omega), Int.ediv_eq_zero_of_lt (by omega) (by omega)]
      omega
    rw [e2]
    omega
  · rw [if_neg c]
    have e : v 5 * y + v 5 + v 6 = ((v 5 * y + v 6) % v 7 + v 5) + v 7 * q := by omega
    have e2 : (v 5 * y + v 5 + v 6) / v 7 = q := by
      rw [e, Int.add_mul_ediv_left _ _ (by omega), Int.ediv_eq_zero_of_lt (by omega) (by omega)]
      omega
    rw [e2]
    omega
set_option maxHeartbeats 400000 in
set_option maxRecDepth 100000 in
theorem y_X1_timesInYear (l : Launch) (D : va_G) (h0 a1 a2 : Nat) (cA cJ : ClassId) (t f g : Int) (v : Nat → Int) (L P : Int → Int) (m9 y : Int) (hm9 : mRI m9) (hy9 : mRI y) (hok : mOK v L P) (hdis : mDis h0 a1 a2) : mY l yX1_timesInYear wsX1_timesInYear ({ frames := 4, cells := 0, slots := 0, locals := 98 }) [.ref h0, .int (mI (m9)), .int (mI (y))] D (mMW h0 a1 a2 cA t f g v L P) (mTy cA cJ) (fun r => some (.int (mI r))) (fun u => (mEx2 (mMk v m9) (mYear y)) = 0 → u.1 = mCnt L P m9 (mBeg v y) (mBeg v (y + 1) - 1)) (fun u => mMW h0 a1 a2 cA (((mEx2 (mMk v m9) (mYear y) : Nat)) : Int) u.2.1 u.2.2 (v) (L) (P)) (mA3 h0 a1 a2) := by
  refine mw_openY (cc := cX1_timesInYear) (maxL := 3) (ret := (some .int)) (by decide) rfl (Nat.le_of_ble_eq_true rfl) ?_
  intro p e s m below meth c ls hC hr hlocks hB hl
  obtain ⟨hx, hb, hml, hown, hts⟩ := id hC
  obtain ⟨hP, hK⟩ := hB
  have hl : lv_has ls 3 [(0, .ref h0), (1, .int (mI (m9))), (2, .int (mI (y)))] := hl
  have hS : va_S (mA3 h0 a1 a2) s.heap s.heap [] := va_S.rf
  have hDD : ∀ (t f g : Int) (v : Nat → Int) (L P : Int → Int), va_D (mA3 h0 a1 a2) (mMW h0 a1 a2 cA t f g v L P) := fun t f g v L P => mD3 hdis (mA3_in h0 a1 a2)
  have hD := hDD t f g v L P
  have hok9 := hok
  obtain ⟨⟨o1, o2⟩, oL, ⟨o3, o4, o5, o6, o7, o8⟩, ⟨o9, o10, o11, o12, o13, o14, o15, o16⟩⟩ := hok9
  refine lv_aload_n hx hb dX1_timesInYear_0 rfl (lv_at hl 0 rfl) ?_
  refine lv_aload_n hx hb dX1_timesInYear_1 rfl (lv_at hl 0 rfl) ?_
  refine lv_iload_n hx hb dX1_timesInYear_2 rfl (lv_at hl 1 rfl) ?_
  refine mw_cVi (rest := [.ref h0]) (q := (RX1, TX1, 13)) hC (c_X1_isMarket l D h0 a1 a2 cA cJ t f g v L P m9 (by omega) (by omega)) (cwV 1 hts gX1_timesInYear_X1_isMarket rfl rfl rfl (by decide +kernel) ⟨Nat.le_of_ble_eq_true rfl, Nat.le_of_ble_eq_true rfl⟩) hK hP rfl rfl rfl hl.1 rfl (Nat.le_of_ble_eq_true rfl) ⟨Nat.zero_le _, Nat.zero_le _⟩ dX1_timesInYear_3 ?_
  refine mw_zne (tgt := 13) hx hb dX1_timesInYear_6 (by decide) (fun c_6 => ?_) (fun c_6 => ?_)
  · refine lv_iload_n hx hb dX1_timesInYear_13 rfl (lv_at hl 2 rfl) ?_
    refine mw_cSi (rest := [.ref h0]) hC (c_X1_isYear l y (by omega)) (va_cwS 1 hts gX1_timesInYear_X1_isYear rfl rfl rfl (by decide +kernel) ⟨Nat.le_of_ble_eq_true rfl, Nat.le_of_ble_eq_true rfl⟩) rfl hl.1 rfl (Nat.le_of_ble_eq_true rfl) ⟨Nat.zero_le _, Nat.zero_le _⟩ dX1_timesInYear_14 ?_
    refine mw_zeq (tgt := 24) hx hb dX1_timesInYear_17 (by decide) (fun c_17 => ?_) (fun c_17 => ?_)
    · refine mw_iconst hx hb dX1_timesInYear_24 ?_
      refine mw_cM (rest := []) (q := (RX1, TX1, 13)) hC (c_X1_goesWell l D h0 a1 a2 cA cJ t f g v L P 2 (by omega) hdis) (cwV 1 hts gX1_timesInYear_X1_goesWell rfl rfl rfl (by decide +kernel) ⟨Nat.le_of_ble_eq_true rfl, Nat.le_of_ble_eq_true rfl⟩) hK hP hS (fun _ h => h) rfl rfl rfl hl.1 rfl (Nat.le_of_ble_eq_true rfl) ⟨Nat.zero_le _, Nat.zero_le _⟩ dX1_timesInYear_25 (fun _ H locs _ hP hS _ _ => ?_)
      have hP : va_P D vwCl (mMW h0 a1 a2 cA 2 f g v L P) H := hP
      have hD := hDD 2 f g v L P
      refine W.eq (g2 := F0 m 28 ls [.int (mI (mB (2 = 0)))]) rfl ?_
      refine mw_topi (y := 0) (mB_f (by omega)) ?_
      refine mw_if_ne (tgt := 33) hx hb (by omega) dX1_timesInYear_28 (by decide) (fun c => absurd c (by decide)) (fun _ => ?_)
      refine mw_iconst hx hb dX1_timesInYear_31 ?_
      exact mw_yretI hx hb hr hlocks dX1_timesInYear_32 f g (fun h9 => by first | rfl | exact (mB_t (by omega)).symm | exact (mB_f (by omega)).symm | omega | (rw [mEx2_1 (by omega)] at h9; omega) | (rw [mEx2_2 (by omega) (by omega)] at h9; omega) | (exfalso; omega)) (mw_wk (by first | rfl | (rw [mEx2_0 (by omega) (by omega)]; omega) | (rw [mEx2_1 (by omega)]; omega) | (rw [mEx2_2 (by omega) (by omega)]; omega) | (exfalso; omega)) rfl rfl rfl hP) hS
    · refine mw_iconst hx hb dX1_timesInYear_20 ?_
      refine lv_goto (tgt := 25) hx hb dX1_timesInYear_21 (by decide) ?_
      refine mw_cM (rest := []) (q := (RX1, TX1, 13)) hC (c_X1_goesWell l D h0 a1 a2 cA cJ t f g v L P 0 (by omega) hdis) (cwV 1 hts gX1_timesInYear_X1_goesWell rfl rfl rfl (by decide +kernel) ⟨Nat.le_of_ble_eq_true rfl, Nat.le_of_ble_eq_true rfl⟩) hK hP hS (fun _ h => h) rfl rfl rfl hl.1 rfl (Nat.le_of_ble_eq_true rfl) ⟨Nat.zero_le _, Nat.zero_le _⟩ dX1_timesInYear_25 (fun _ H locs _ hP hS _ _ => ?_)
      have hP : va_P D vwCl (mMW h0 a1 a2 cA 0 f g v L P) H := hP
      have hD := hDD 0 f g v L P
      refine W.eq (g2 := F0 m 28 ls [.int (mI (mB (0 = 0)))]) rfl ?_
      refine mw_topi (y := 1) (mB_t rfl) ?_
      refine mw_if_ne (tgt := 33) hx hb (by omega) dX1_timesInYear_28 (by decide) (fun _ => ?_) (fun c => absurd c (by decide))
      have f1 := m_beg_r hok (y := y) (by omega)
      have f2 := m_beg_r hok (y := y + 1) (by omega)
      have f3 := m_len hok y
      refine lv_aload_n hx hb dX1_timesInYear_33 rfl (lv_at hl 0 rfl) ?_
      refine lv_iload_n hx hb dX1_timesInYear_34 rfl (lv_at hl 1 rfl) ?_
      refine lv_aload_n hx hb dX1_timesInYear_35 rfl (lv_at hl 0 rfl) ?_
      refine lv_iload_n hx hb dX1_timesInYear_36 rfl (lv_at hl 2 rfl) ?_
      refine mw_i2l hx hb (by omega) dX1_timesInYear_37 ?_
      refine mw_cVl (rest := [.int (mI (m9)), .ref h0]) (q := (RX1, TX1, 13)) hC (c_X1_beginOf l D h0 a1 a2 cA cJ 0 f g v L P y (id hok) (by omega)) (cwV 1 hts gX1_timesInYear_X1_beginOf rfl rfl rfl (by decide +kernel) ⟨Nat.le_of_ble_eq_true rfl, Nat.le_of_ble_eq_true rfl⟩) hK hP rfl rfl rfl hl.1 rfl (Nat.le_of_ble_eq_true rfl) ⟨Nat.zero_le _, Nat.zero_le _⟩ dX1_timesInYear_38 ?_
      refine lv_aload_n hx hb dX1_timesInYear_41 rfl (lv_at hl 0 rfl) ?_
      refine lv_iload_n hx hb dX1_timesInYear_42 rfl (lv_at hl 2 rfl) ?_
      refine mw_i2l hx hb (by omega) dX1_timesInYear_43 ?_
      refine mw_cVl (rest := [.long (mL (mBeg v y)), .int (mI (m9)), .ref h0]) (q := (RX1, TX1, 13)) hC (c_X1_beginOf l D h0 a1 a2 cA cJ 0 f g v L P y (id hok) (by omega)) (cwV 1 hts gX1_timesInYear_X1_beginOf rfl rfl rfl (by decide +kernel) ⟨Nat.le_of_ble_eq_true rfl, Nat.le_of_ble_eq_true rfl⟩) hK hP rfl rfl rfl hl.1 rfl (Nat.le_of_ble_eq_true rfl) ⟨Nat.zero_le _, Nat.zero_le _⟩ dX1_timesInYear_44 ?_
      refine lv_aload_n hx hb dX1_timesInYear_47 rfl (lv_at hl 0 rfl) ?_
      refine lv_iload_n hx hb dX1_timesInYear_48 rfl (lv_at hl 2 rfl) ?_
      refine mw_cVl (rest := [.long (mL (mBeg v y)), .long (mL (mBeg v y)), .int (mI (m9)), .ref h0]) (q := (RX1, TX1, 13)) hC (c_X1_lengthOf l D h0 a1 a2 cA cJ 0 f g v L P y (id hok) (by omega)) (cwV 1 hts gX1_timesInYear_X1_lengthOf rfl rfl rfl (by decide +kernel) ⟨Nat.le_of_ble_eq_true rfl, Nat.le_of_ble_eq_true rfl⟩) hK hP rfl rfl rfl hl.1 rfl (Nat.le_of_ble_eq_true rfl) ⟨Nat.zero_le _, Nat.zero_le _⟩ dX1_timesInYear_49 ?_
      refine mw_ladd hx hb dX1_timesInYear_52 ?_
      refine mw_lconst hx hb 1 (by decide +kernel) dX1_timesInYear_53 ?_
      refine mw_lsub hx hb dX1_timesInYear_54 ?_
      refine mw_cVi (rest := []) (q := (RX1, TX1, 13)) hC (c_X1_count l D h0 a1 a2 cA cJ 0 f g v L P m9 (mBeg v y) (((mBeg v y) + (mLen v y)) - 1) (id hok) (by omega) (by omega) (by omega)) (cwV 3 hts gX1_timesInYear_X1_count rfl rfl rfl (by decide +kernel) ⟨Nat.le_of_ble_eq_true rfl, Nat.le_of_ble_eq_true rfl⟩) hK hP rfl rfl rfl hl.1 rfl (Nat.le_of_ble_eq_true rfl) ⟨Nat.zero_le _, Nat.zero_le _⟩ dX1_timesInYear_55 ?_
      exact mw_yretI hx hb hr hlocks dX1_timesInYear_58 f g (fun h9 => by first | exact (by rw [f3]) | rfl | exact (mB_t (by omega)).symm | exact (mB_f (by omega)).symm | omega | (rw [mEx2_1 (by omega)] at h9; omega) | (rw [mEx2_2 (by omega) (by omega)] at h9; omega) | (exfalso; omega)) (mw_wk (by first | rfl | (rw [mEx2_0 (by omega) (by omega)]; omega) | (rw [mEx2_1 (by omega)]; omega) | (rw [mEx2_2 (by omega) (by omega)]; omega) | (exfalso; omega)) rfl rfl rfl hP) hS
  · refine mw_iconst hx hb dX1_timesInYear_9 ?_
    refine lv_goto (tgt := 25) hx hb dX1_timesInYear_10 (by decide) ?_
    refine mw_cM (rest := []) (q := (RX1, TX1, 13)) hC (c_X1_goesWell l D h0 a1 a2 cA cJ t f g v L P 1 (by omega) hdis) (cwV 1 hts gX1_timesInYear_X1_goesWell rfl rfl rfl (by decide +kernel) ⟨Nat.le_of_ble_eq_true rfl, Nat.le_of_ble_eq_true rfl⟩) hK hP hS (fun _ h => h) rfl rfl rfl hl.1 rfl (Nat.le_of_ble_eq_true rfl) ⟨Nat.zero_le _, Nat.zero_le _⟩ dX1_timesInYear_25 (fun _ H locs _ hP hS _ _ => ?_)
    have hP : va_P D vwCl (mMW h0 a1 a2 cA 1 f g v L P) H := hP
    have hD := hDD 1 f g v L P
    refine W.eq (g2 := F0 m 28 ls [.int (mI (mB (1 = 0)))]) rfl ?_
    refine mw_topi (y := 0) (mB_f (by omega)) ?_
    refine mw_if_ne (tgt := 33) hx hb (by omega) dX1_timesInYear_28 (by decide) (fun c => absurd c (by decide)) (fun _ => ?_)
    refine mw_iconst hx hb dX1_timesInYear_31 ?_
    exact mw_yretI hx hb hr hlocks dX1_timesInYear_32 f g (fun h9 => by first | rfl | exact (mB_t (by omega)).symm | exact (mB_f (by omega)).symm | omega | (rw [mEx2_1 (by omega)] at h9; omega) | (rw [mEx2_2 (by omega) (by omega)] at h9; omega) | (exfalso; omega)) (mw_wk (by first | rfl | (rw [mEx2_0 (by omega) (by omega)]; omega) | (rw [mEx2_1 (by omega)]; omega) | (rw [mEx2_2 (by omega) (by omega)]; omega) | (exfalso; omega)) rfl rfl rfl hP) hS
