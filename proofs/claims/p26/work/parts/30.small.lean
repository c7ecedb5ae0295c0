set_option maxHeartbeats 4000000 in
set_option maxRecDepth 100000 in
theorem c_J9_floorDiv_f86c9 (l : Launch) (x y : Int) (h0 : 0 < y) (h1 : mR2 x) (h2 : mR2 y) : mP l yJ9_floorDiv_f86c9 wsJ9_floorDiv_f86c9 ({ frames := 0, cells := 0, slots := 0, locals := 0 }) [.long (mL (x)), .long (mL (y))] (fun _ => True) (some (.long (mL (x / y)))) := by
  refine mw_open (cc := cJ9_floorDiv_f86c9) (maxL := 6) (ret := (some .long)) (by decide +kernel) rfl (Nat.le_of_ble_eq_true rfl) ?_
  intro p e s m below meth c ls hC hr hlocks hB hl
  obtain ⟨hx, hb, hml, hown, hts⟩ := id hC
  have hl : lv_has ls 6 [(0, .long (mL (x))), (2, .long (mL (y)))] := hl
  have f1 := Int.mul_tdiv_add_tmod x y
  have f2 := m_tmod_r (a := x) h0
  have f3 := m_tdiv_r (a := x) h0
  have f4 := m_fdiv (a := x) h0
  have f5 := m_fmod (a := x) h0
  have f6 := mXor_ge (x := x) (y := y) (by omega) (by omega) h0
  have f7 : x.tdiv y * y = y * x.tdiv y := Int.mul_comm _ _
  have f8 := mXor_r x y
  have f9 := m_tmod_neg (a := x) h0
  refine lv_lload_n hx hb dJ9_floorDiv_f86c9_0 rfl (lv_at hl 0 rfl) ?_
  refine lv_lload_n hx hb dJ9_floorDiv_f86c9_1 rfl (lv_at hl 1 rfl) ?_
  refine mw_ldiv hx hb (by omega) (by omega) (by omega) dJ9_floorDiv_f86c9_2 ?_
  refine lv_lstore (lv' := [(4, .long (mL (x.tdiv y))), (0, .long (mL (x))), (2, .long (mL (y)))]) hx hb dJ9_floorDiv_f86c9_3 hl (by decide) rfl (fun ls hl => ?_)
  refine lv_lload_n hx hb dJ9_floorDiv_f86c9_5 rfl (lv_at hl 1 rfl) ?_
  refine lv_lload_n hx hb dJ9_floorDiv_f86c9_6 rfl (lv_at hl 2 rfl) ?_
  refine mw_lxor hx hb dJ9_floorDiv_f86c9_7 ?_
  refine mw_lconst hx hb 0 (by decide +kernel) dJ9_floorDiv_f86c9_8 ?_
  refine mw_lcmp_ge (tgt := 27) hx hb (by omega) (by omega) dJ9_floorDiv_f86c9_9 dJ9_floorDiv_f86c9_10 (by decide) (fun c_10 => ?_) (fun c_10 => ?_)
  · refine lv_lload hx hb dJ9_floorDiv_f86c9_27 (lv_at hl 0 rfl) ?_
    exact mw_retL hx hb hr hlocks dJ9_floorDiv_f86c9_29 (by rw [f4]; first | rw [if_pos ⟨by omega, by omega⟩] | rw [if_neg (by omega)])
  · refine lv_lload hx hb dJ9_floorDiv_f86c9_13 (lv_at hl 0 rfl) ?_
    refine lv_lload_n hx hb dJ9_floorDiv_f86c9_15 rfl (lv_at hl 2 rfl) ?_
    refine mw_lmul hx hb dJ9_floorDiv_f86c9_16 ?_
    refine lv_lload_n hx hb dJ9_floorDiv_f86c9_17 rfl (lv_at hl 1 rfl) ?_
    refine mw_lcmp_eq (tgt := 27) hx hb (by omega) (by omega) dJ9_floorDiv_f86c9_18 dJ9_floorDiv_f86c9_19 (by decide) (fun c_19 => ?_) (fun c_19 => ?_)
    · refine lv_lload hx hb dJ9_floorDiv_f86c9_27 (lv_at hl 0 rfl) ?_
      exact mw_retL hx hb hr hlocks dJ9_floorDiv_f86c9_29 (by rw [f4]; first | rw [if_pos ⟨by omega, by omega⟩] | rw [if_neg (by omega)])
    · refine lv_lload hx hb dJ9_floorDiv_f86c9_22 (lv_at hl 0 rfl) ?_
      refine mw_lconst hx hb 1 (by decide +kernel) dJ9_floorDiv_f86c9_24 ?_
      refine mw_lsub hx hb dJ9_floorDiv_f86c9_25 ?_
      exact mw_retL hx hb hr hlocks dJ9_floorDiv_f86c9_26 (by rw [f4]; first | rw [if_pos ⟨by omega, by omega⟩] | rw [if_neg (by omega)])

set_option maxHeartbeats 4000000 in
set_option maxRecDepth 100000 in
theorem c_J9_floorMod_f86c9 (l : Launch) (x y : Int) (h0 : 0 < y) (h1 : mR2 x) (h2 : mR2 y) : mP l yJ9_floorMod_f86c9 wsJ9_floorMod_f86c9 ({ frames := 0, cells := 0, slots := 0, locals := 0 }) [.long (mL (x)), .long (mL (y))] (fun _ => True) (some (.long (mL (x % y)))) := by
  refine mw_open (cc := cJ9_floorMod_f86c9) (maxL := 6) (ret := (some .long)) (by decide +kernel) rfl (Nat.le_of_ble_eq_true rfl) ?_
  intro p e s m below meth c ls hC hr hlocks hB hl
  obtain ⟨hx, hb, hml, hown, hts⟩ := id hC
  have hl : lv_has ls 6 [(0, .long (mL (x))), (2, .long (mL (y)))] := hl
  have f1 := Int.mul_tdiv_add_tmod x y
  have f2 := m_tmod_r (a := x) h0
  have f3 := m_tdiv_r (a := x) h0
  have f4 := m_fdiv (a := x) h0
  have f5 := m_fmod (a := x) h0
  have f6 := mXor_ge (x := x) (y := y) (by omega) (by omega) h0
  have f7 : x.tdiv y * y = y * x.tdiv y := Int.mul_comm _ _
  have f8 := mXor_r x y
  have f9 := m_tmod_neg (a := x) h0
  refine lv_lload_n hx hb dJ9_floorMod_f86c9_0 rfl (lv_at hl 0 rfl) ?_
  refine lv_lload_n hx hb dJ9_floorMod_f86c9_1 rfl (lv_at hl 1 rfl) ?_
  refine mw_lrem hx hb (by omega) (by omega) (by omega) dJ9_floorMod_f86c9_2 ?_
  refine lv_lstore (lv' := [(4, .long (mL (x.tmod y))), (0, .long (mL (x))), (2, .long (mL (y)))]) hx hb dJ9_floorMod_f86c9_3 hl (by decide) rfl (fun ls hl => ?_)
  refine lv_lload_n hx hb dJ9_floorMod_f86c9_5 rfl (lv_at hl 1 rfl) ?_
  refine lv_lload_n hx hb dJ9_floorMod_f86c9_6 rfl (lv_at hl 2 rfl) ?_
  refine mw_lxor hx hb dJ9_floorMod_f86c9_7 ?_
  refine mw_lconst hx hb 0 (by decide +kernel) dJ9_floorMod_f86c9_8 ?_
  refine mw_lcmp_ge (tgt := 25) hx hb (by omega) (by omega) dJ9_floorMod_f86c9_9 dJ9_floorMod_f86c9_10 (by decide) (fun c_10 => ?_) (fun c_10 => ?_)
  · refine lv_lload hx hb dJ9_floorMod_f86c9_25 (lv_at hl 0 rfl) ?_
    exact mw_retL hx hb hr hlocks dJ9_floorMod_f86c9_27 (by rw [f5]; first | rw [if_pos ⟨by omega, by omega⟩] | rw [if_neg (by omega)])
  · refine lv_lload hx hb dJ9_floorMod_f86c9_13 (lv_at hl 0 rfl) ?_
    refine mw_lconst hx hb 0 (by decide +kernel) dJ9_floorMod_f86c9_15 ?_
    refine mw_lcmp_eq (tgt := 25) hx hb (by omega) (by omega) dJ9_floorMod_f86c9_16 dJ9_floorMod_f86c9_17 (by decide) (fun c_17 => ?_) (fun c_17 => ?_)
    · refine lv_lload hx hb dJ9_floorMod_f86c9_25 (lv_at hl 0 rfl) ?_
      exact mw_retL hx hb hr hlocks dJ9_floorMod_f86c9_27 (by rw [f5]; first | rw [if_pos ⟨by omega, by omega⟩] | rw [if_neg (by omega)])
    · refine lv_lload hx hb dJ9_floorMod_f86c9_20 (lv_at hl 0 rfl) ?_
      refine lv_lload_n hx hb dJ9_floorMod_f86c9_22 rfl (lv_at hl 2 rfl) ?_
      refine mw_ladd hx hb dJ9_floorMod_f86c9_23 ?_
      exact mw_retL hx hb hr hlocks dJ9_floorMod_f86c9_24 (by rw [f5]; first | rw [if_pos ⟨by omega, by omega⟩] | rw [if_neg (by omega)])

set_option maxHeartbeats 4000000 in
set_option maxRecDepth 100000 in
theorem c_X0_divide (l : Launch) (x y : Int) (h0 : 0 < y) (h1 : mR2 x) (h2 : mR2 y) : mP l yX0_divide wsX0_divide ({ frames := 1, cells := 0, slots := 0, locals := 25 }) [.long (mL (x)), .long (mL (y))] (fun _ => True) (some (.long (mL (x / y)))) := by
  refine mw_open (cc := cX0_divide) (maxL := 4) (ret := (some .long)) (by decide +kernel) rfl (Nat.le_of_ble_eq_true rfl) ?_
  intro p e s m below meth c ls hC hr hlocks hB hl
  obtain ⟨hx, hb, hml, hown, hts⟩ := id hC
  have hl : lv_has ls 4 [(0, .long (mL (x))), (2, .long (mL (y)))] := hl
  refine lv_lload_n hx hb dX0_divide_0 rfl (lv_at hl 1 rfl) ?_
  refine mw_lconst hx hb 0 (by decide +kernel) dX0_divide_1 ?_
  refine mw_lcmp_le (tgt := 14) hx hb (by omega) (by omega) dX0_divide_2 dX0_divide_3 (by decide) (fun c_3 => absurd c_3 (by omega)) (fun c_3 => ?_)
  refine lv_lload_n hx hb dX0_divide_6 rfl (lv_at hl 0 rfl) ?_
  refine lv_lload_n hx hb dX0_divide_7 rfl (lv_at hl 1 rfl) ?_
  refine mw_cSl (rest := []) hC (c_J9_floorDiv_f86c9 l x y (by omega) (by omega) (by omega)) (va_cwS 2 hts gX0_divide_J9_floorDiv_f86c9 rfl rfl rfl (by decide +kernel) ⟨Nat.le_of_ble_eq_true rfl, Nat.le_of_ble_eq_true rfl⟩) rfl hl.1 rfl (Nat.le_of_ble_eq_true rfl) ⟨Nat.zero_le _, Nat.zero_le _⟩ dX0_divide_8 ?_
  refine lv_goto (tgt := 15) hx hb dX0_divide_11 (by decide) ?_
  exact mw_retL hx hb hr hlocks dX0_divide_15 (by first | rfl | exact (mB_t (by omega)).symm | exact (mB_f (by omega)).symm | exact mB_iff (by omega) | omega)

set_option maxHeartbeats 4000000 in
set_option maxRecDepth 100000 in
theorem c_X0_modulo (l : Launch) (x y : Int) (h0 : 0 < y) (h1 : mR2 x) (h2 : mR2 y) : mP l yX0_modulo wsX0_modulo ({ frames := 1, cells := 0, slots := 0, locals := 25 }) [.long (mL (x)), .long (mL (y))] (fun _ => True) (some (.long (mL (x % y)))) := by
  refine mw_open (cc := cX0_modulo) (maxL := 4) (ret := (some .long)) (by decide +kernel) rfl (Nat.le_of_ble_eq_true rfl) ?_
  intro p e s m below meth c ls hC hr hlocks hB hl
  obtain ⟨hx, hb, hml, hown, hts⟩ := id hC
  have hl : lv_has ls 4 [(0, .long (mL (x))), (2, .long (mL (y)))] := hl
  refine lv_lload_n hx hb dX0_modulo_0 rfl (lv_at hl 1 rfl) ?_
  refine mw_lconst hx hb 0 (by decide +kernel) dX0_modulo_1 ?_
  refine mw_lcmp_le (tgt := 14) hx hb (by omega) (by omega) dX0_modulo_2 dX0_modulo_3 (by decide) (fun c_3 => absurd c_3 (by omega)) (fun c_3 => ?_)
  refine lv_lload_n hx hb dX0_modulo_6 rfl (lv_at hl 0 rfl) ?_
  refine lv_lload_n hx hb dX0_modulo_7 rfl (lv_at hl 1 rfl) ?_
  refine mw_cSl (rest := []) hC (c_J9_floorMod_f86c9 l x y (by omega) (by omega) (by omega)) (va_cwS 2 hts gX0_modulo_J9_floorMod_f86c9 rfl rfl rfl (by decide +kernel) ⟨Nat.le_of_ble_eq_true rfl, Nat.le_of_ble_eq_true rfl⟩) rfl hl.1 rfl (Nat.le_of_ble_eq_true rfl) ⟨Nat.zero_le _, Nat.zero_le _⟩ dX0_modulo_8 ?_
  refine lv_goto (tgt := 15) hx hb dX0_modulo_11 (by decide) ?_
  exact mw_retL hx hb hr hlocks dX0_modulo_15 (by first | rfl | exact (mB_t (by omega)).symm | exact (mB_f (by omega)).symm | exact mB_iff (by omega) | omega)

set_option maxHeartbeats 4000000 in
set_option maxRecDepth 100000 in
theorem c_X0_isWithin (l : Launch) (a b c9 : Int) (h1 : mRI a) (h2 : mRI b) (h3 : mRI c9) : mP l yX0_isWithin wsX0_isWithin ({ frames := 0, cells := 0, slots := 0, locals := 0 }) [.int (mI (a)), .int (mI (b)), .int (mI (c9))] (fun _ => True) (some (.int (mI (mB (b ≤ a ∧ a ≤ c9))))) := by
  refine mw_open (cc := cX0_isWithin) (maxL := 3) (ret := (some .boolean)) (by decide +kernel) rfl (Nat.le_of_ble_eq_true rfl) ?_
  intro p e s m below meth c ls hC hr hlocks hB hl
  obtain ⟨hx, hb, hml, hown, hts⟩ := id hC
  have hl : lv_has ls 3 [(0, .int (mI (a))), (1, .int (mI (b))), (2, .int (mI (c9)))] := hl
  refine lv_iload_n hx hb dX0_isWithin_0 rfl (lv_at hl 0 rfl) ?_
  refine lv_iload_n hx hb dX0_isWithin_1 rfl (lv_at hl 1 rfl) ?_
  refine mw_icmp_lt (tgt := 14) hx hb (by omega) (by omega) dX0_isWithin_2 (by decide) (fun c_2 => ?_) (fun c_2 => ?_)
  · refine mw_iconst hx hb dX0_isWithin_14 ?_
    exact mw_retZ hx hb hr hlocks dX0_isWithin_15 (by first | rfl | exact (mB_t (by omega)).symm | exact (mB_f (by omega)).symm | exact mB_iff (by omega) | omega)
  · refine lv_iload_n hx hb dX0_isWithin_5 rfl (lv_at hl 0 rfl) ?_
    refine lv_iload_n hx hb dX0_isWithin_6 rfl (lv_at hl 2 rfl) ?_
    refine mw_icmp_gt (tgt := 14) hx hb (by omega) (by omega) dX0_isWithin_7 (by decide) (fun c_7 => ?_) (fun c_7 => ?_)
    · refine mw_iconst hx hb dX0_isWithin_14 ?_
      exact mw_retZ hx hb hr hlocks dX0_isWithin_15 (by first | rfl | exact (mB_t (by omega)).symm | exact (mB_f (by omega)).symm | exact mB_iff (by omega) | omega)
    · refine mw_iconst hx hb dX0_isWithin_10 ?_
      refine lv_goto (tgt := 15) hx hb dX0_isWithin_11 (by decide) ?_
      exact mw_retZ hx hb hr hlocks dX0_isWithin_15 (by first | rfl | exact (mB_t (by omega)).symm | exact (mB_f (by omega)).symm | exact mB_iff (by omega) | omega)

set_option maxHeartbeats 4000000 in
set_option maxRecDepth 100000 in
theorem c_X0_isPlace (l : Launch) (D : va_G) (h0 a1 a2 : Nat) (cA cJ : ClassId) (v : Nat → Int) (L P : Int → Int) (m9 : Int) (h1 : mRI m9) : mP l yX0_isPlace wsX0_isPlace ({ frames := 0, cells := 0, slots := 0, locals := 0 }) [.ref h0, .int (mI (m9))] (mwB D (mXW h0 a1 a2 cA v L P) (mTy cA cJ)) (some (.int (mI (mB (0 ≤ m9 ∧ m9 < 16))))) := by
  refine mw_open (cc := cX0_isPlace) (maxL := 2) (ret := (some .boolean)) (by decide +kernel) rfl (Nat.le_of_ble_eq_true rfl) ?_
  intro p e s m below meth c ls hC hr hlocks hB hl
  obtain ⟨hx, hb, hml, hown, hts⟩ := id hC
  obtain ⟨hP, hK⟩ := hB
  have hin : ∀ w ∈ wsX00, w ∈ wsX0_isPlace := by decide +kernel
  have hl : lv_has ls 2 [(0, .ref h0), (1, .int (mI (m9)))] := hl
  refine lv_iload_n hx hb dX0_isPlace_0 rfl (lv_at hl 1 rfl) ?_
  refine mw_if_lt (tgt := 26) hx hb (by omega) dX0_isPlace_1 (by decide) (fun c_1 => ?_) (fun c_1 => ?_)
  · refine mw_iconst hx hb dX0_isPlace_26 ?_
    exact mw_retZ hx hb hr hlocks dX0_isPlace_27 (by first | rfl | exact (mB_t (by omega)).symm | exact (mB_f (by omega)).symm | exact mB_iff (by omega) | omega)
  · refine lv_iload_n hx hb dX0_isPlace_4 rfl (lv_at hl 1 rfl) ?_
    refine lv_aload_n hx hb dX0_isPlace_5 rfl (lv_at hl 0 rfl) ?_
    refine mw_getX hx hb hts hin hown hK hP rfl 0 (by decide) (by decide +kernel) rfl rfl dX0_isPlace_6 ?_
    refine mw_alen hx hb hK hP 1 rfl rfl dX0_isPlace_9 ?_
    refine mw_icmp_ge (tgt := 26) hx hb (by omega) (by omega) dX0_isPlace_10 (by decide) (fun c_10 => ?_) (fun c_10 => ?_)
    · refine mw_iconst hx hb dX0_isPlace_26 ?_
      exact mw_retZ hx hb hr hlocks dX0_isPlace_27 (by first | rfl | exact (mB_t (by omega)).symm | exact (mB_f (by omega)).symm | exact mB_iff (by omega) | omega)
    · refine lv_iload_n hx hb dX0_isPlace_13 rfl (lv_at hl 1 rfl) ?_
      refine lv_aload_n hx hb dX0_isPlace_14 rfl (lv_at hl 0 rfl) ?_
      refine mw_getX hx hb hts hin hown hK hP rfl 1 (by decide) (by decide +kernel) rfl rfl dX0_isPlace_15 ?_
      refine mw_alen hx hb hK hP 2 rfl rfl dX0_isPlace_18 ?_
      refine mw_icmp_ge (tgt := 26) hx hb (by omega) (by omega) dX0_isPlace_19 (by decide) (fun c_19 => ?_) (fun c_19 => ?_)
      · refine mw_iconst hx hb dX0_isPlace_26 ?_
        exact mw_retZ hx hb hr hlocks dX0_isPlace_27 (by first | rfl | exact (mB_t (by omega)).symm | exact (mB_f (by omega)).symm | exact mB_iff (by omega) | omega)
      · refine mw_iconst hx hb dX0_isPlace_22 ?_
        refine lv_goto (tgt := 27) hx hb dX0_isPlace_23 (by decide) ?_
        exact mw_retZ hx hb hr hlocks dX0_isPlace_27 (by first | rfl | exact (mB_t (by omega)).symm | exact (mB_f (by omega)).symm | exact mB_iff (by omega) | omega)

set_option maxHeartbeats 4000000 in
set_option maxRecDepth 100000 in
theorem c_X0_lengthOf (l : Launch) (D : va_G) (h0 a1 a2 : Nat) (cA cJ : ClassId) (v : Nat → Int) (L P : Int → Int) (m9 : Int) (h1 : 0 ≤ m9 ∧ m9 < 16) : mP l yX0_lengthOf wsX0_lengthOf ({ frames := 1, cells := 0, slots := 0, locals := 21 }) [.ref h0, .int (mI (m9))] (mwB D (mXW h0 a1 a2 cA v L P) (mTy cA cJ)) (some (.int (mI (L m9)))) := by
  refine mw_open (cc := cX0_lengthOf) (maxL := 2) (ret := (some .int)) (by decide +kernel) rfl (Nat.le_of_ble_eq_true rfl) ?_
  intro p e s m below meth c ls hC hr hlocks hB hl
  obtain ⟨hx, hb, hml, hown, hts⟩ := id hC
  obtain ⟨hP, hK⟩ := hB
  have hin : ∀ w ∈ wsX00, w ∈ wsX0_lengthOf := by decide +kernel
  have hl : lv_has ls 2 [(0, .ref h0), (1, .int (mI (m9)))] := hl
  refine lv_aload_n hx hb dX0_lengthOf_0 rfl (lv_at hl 0 rfl) ?_
  refine lv_iload_n hx hb dX0_lengthOf_1 rfl (lv_at hl 1 rfl) ?_
  refine mw_cVi (rest := []) (q := (RX0, TX0, 10)) hC (c_X0_isPlace l D h0 a1 a2 cA cJ v L P m9 (by omega)) (cwV 1 hts gX0_lengthOf_X0_isPlace rfl rfl rfl (by decide +kernel) ⟨Nat.le_of_ble_eq_true rfl, Nat.le_of_ble_eq_true rfl⟩) hK hP rfl rfl rfl hl.1 rfl (Nat.le_of_ble_eq_true rfl) ⟨Nat.zero_le _, Nat.zero_le _⟩ dX0_lengthOf_2 ?_
  refine mw_zeq (tgt := 17) hx hb dX0_lengthOf_5 (by decide) (fun c_5 => absurd c_5 (by omega)) (fun c_5 => ?_)
  refine lv_aload_n hx hb dX0_lengthOf_8 rfl (lv_at hl 0 rfl) ?_
  refine mw_getX hx hb hts hin hown hK hP rfl 0 (by decide) (by decide +kernel) rfl rfl dX0_lengthOf_9 ?_
  refine lv_iload_n hx hb dX0_lengthOf_12 rfl (lv_at hl 1 rfl) ?_
  refine mw_iald hx hb hK hP 1 rfl rfl (by omega) dX0_lengthOf_13 ?_
  refine lv_goto (tgt := 18) hx hb dX0_lengthOf_14 (by decide) ?_
  exact mw_retI hx hb hr hlocks dX0_lengthOf_18 (by first | rfl | exact (mB_t (by omega)).symm | exact (mB_f (by omega)).symm | exact mB_iff (by omega) | omega)

set_option maxHeartbeats 4000000 in
set_option maxRecDepth 100000 in
theorem c_X0_placeOf (l : Launch) (D : va_G) (h0 a1 a2 : Nat) (cA cJ : ClassId) (v : Nat → Int) (L P : Int → Int) (m9 : Int) (h1 : 0 ≤ m9 ∧ m9 < 16) : mP l yX0_placeOf wsX0_placeOf ({ frames := 1, cells := 0, slots := 0, locals := 21 }) [.ref h0, .int (mI (m9))] (mwB D (mXW h0 a1 a2 cA v L P) (mTy cA cJ)) (some (.int (mI (P m9)))) := by
  refine mw_open (cc := cX0_placeOf) (maxL := 2) (ret := (some .int)) (by decide +kernel) rfl (Nat.le_of_ble_eq_true rfl) ?_
  intro p e s m below meth c ls hC hr hlocks hB hl
  obtain ⟨hx, hb, hml, hown, hts⟩ := id hC
  obtain ⟨hP, hK⟩ := hB
  have hin : ∀ w ∈ wsX00, w ∈ wsX0_placeOf := by decide +kernel
  have hl : lv_has ls 2 [(0, .ref h0), (1, .int (mI (m9)))] := hl
  refine lv_aload_n hx hb dX0_placeOf_0 rfl (lv_at hl 0 rfl) ?_
  refine lv_iload_n hx hb dX0_placeOf_1 rfl (lv_at hl 1 rfl) ?_
  refine mw_cVi (rest := []) (q := (RX0, TX0, 10)) hC (c_X0_isPlace l D h0 a1 a2 cA cJ v L P m9 (by omega)) (cwV 1 hts gX0_placeOf_X0_isPlace rfl rfl rfl (by decide +kernel) ⟨Nat.le_of_ble_eq_true rfl, Nat.le_of_ble_eq_true rfl⟩) hK hP rfl rfl rfl hl.1 rfl (Nat.le_of_ble_eq_true rfl) ⟨Nat.zero_le _, Nat.zero_le _⟩ dX0_placeOf_2 ?_
  refine mw_zeq (tgt := 17) hx hb dX0_placeOf_5 (by decide) (fun c_5 => absurd c_5 (by omega)) (fun c_5 => ?_)
  refine lv_aload_n hx hb dX0_placeOf_8 rfl (lv_at hl 0 rfl) ?_
  refine mw_getX hx hb hts hin hown hK hP rfl 1 (by decide) (by decide +kernel) rfl rfl dX0_placeOf_9 ?_
  refine lv_iload_n hx hb dX0_placeOf_12 rfl (lv_at hl 1 rfl) ?_
  refine mw_iald hx hb hK hP 2 rfl rfl (by omega) dX0_placeOf_13 ?_
  refine lv_goto (tgt := 18) hx hb dX0_placeOf_14 (by decide) ?_
  exact mw_retI hx hb hr hlocks dX0_placeOf_18 (by first | rfl | exact (mB_t (by omega)).symm | exact (mB_f (by omega)).symm | exact mB_iff (by omega) | omega)

set_option maxHeartbeats 4000000 in
set_option maxRecDepth 100000 in
theorem c_X0_checkArgument (l : Launch)  : mP l yX0_checkArgument wsX0_checkArgument ({ frames := 0, cells := 0, slots := 0, locals := 0 }) [.int (mI (1))] (fun _ => True) (none) := by
  refine mw_open (cc := cX0_checkArgument) (maxL := 1) (ret := none) (by decide +kernel) rfl (Nat.le_of_ble_eq_true rfl) ?_
  intro p e s m below meth c ls hC hr hlocks hB hl
  obtain ⟨hx, hb, hml, hown, hts⟩ := id hC
  have hl : lv_has ls 1 [(0, .int (mI (1)))] := hl
  refine lv_iload_n hx hb dX0_checkArgument_0 rfl (lv_at hl 0 rfl) ?_
  refine mw_if_ne (tgt := 14) hx hb (by omega) dX0_checkArgument_1 (by decide) (fun _ => ?_) (fun c => absurd c (by decide))
  exact mw_retV hx hb hr hlocks dX0_checkArgument_14

set_option maxHeartbeats 4000000 in
set_option maxRecDepth 100000 in
theorem t_X0_checkArgument_t (l : Launch) (hfl : l.flags = flags0)  : mT l yX0_checkArgument wsX0_checkArgument ({ frames := 6, cells := 1, slots := 6, locals := 90 }) [.int (mI (0))] (fun _ => True) "java/lang/IllegalArgumentException" := by
  refine mw_openX (cc := cX0_checkArgument) (maxL := 1) (ret := none) (by decide) rfl (Nat.le_of_ble_eq_true rfl) ?_
  intro p e s m below meth c ls hC hr hlocks hout hB hE hl
  obtain ⟨hx, hb, hml, hown, hts⟩ := id hC
  have hl : lv_has ls 1 [(0, .int (mI (0)))] := hl
  refine lv_iload_n hx hb dX0_checkArgument_0 rfl (lv_at hl 0 rfl) ?_
  refine mw_if_ne (tgt := 14) hx hb (by omega) dX0_checkArgument_1 (by decide) (fun c => absurd c (by decide)) (fun _ => ?_)
  exact mw_throw (cls := "java/lang/IllegalArgumentException") (text := "an argument is out of range") (ik := 137) (is := 139) (ic := 141) hx hb hfl hts hown (by decide +kernel) hE hE.1.2.2.2.2.2.1 hE.1.2.1 (by decide +kernel) (by decide +kernel) (by decide +kernel) (by decide +kernel) (by decide +kernel) (hl.1.trans hml.symm) dX0_checkArgument_4 dX0_checkArgument_7 dX0_checkArgument_8 dX0_checkArgument_10 dX0_checkArgument_13 hout (Nat.le_of_ble_eq_true rfl) ⟨Nat.le_of_ble_eq_true rfl, Nat.le_of_ble_eq_true rfl, Nat.le_of_ble_eq_true rfl, Nat.le_of_ble_eq_true rfl⟩ hlocks (fun t ht => ⟨rfl, ht⟩)
