def mV0 : Nat → Int := fun k => match k with
  | 1 => 1447
  | 2 => 49
  | 4 => 365
  | 5 => 8
  | 7 => 33
  | _ => 0
def mZ : Int → Int := fun _ => 0
theorem mZ_row : (fun k : Nat => mI (mZ (k : Int))) = fun _ => (0 : Int32) := funext fun _ => mI_0
theorem va_cA_eq {D : va_G} {cl : List vw_C} {c1 c2 : ClassId} {tys : List (ClassId × FieldType)} {s : State} (h : va_K D cl tys s) {i j : Nat} (hi : tys[i]? = some (c1, .int)) (hj : tys[j]? = some (c2, .int)) : c1 = c2 := by
  have a : s.vm.findClass ("[" ++ FieldType.int.toString) = some c1 := (h.2 i _ hi).2
  have b : s.vm.findClass ("[" ++ FieldType.int.toString) = some c2 := (h.2 j _ hj).2
  exact Option.some.inj (a.symm.trans b)
abbrev mXF0 : List Value := [.null, .null, .int (mI 0), .int (mI 0), .int (mI 0), .int (mI 0), .int (mI 0), .int (mI 0), .int (mI 0), .int (mI 0)]
set_option maxHeartbeats 400000 in
set_option maxRecDepth 100000 in
theorem c_X0_init (l : Launch) (D : va_G) (h0 sz : Nat) : Met l yX0_init wsX0_init ({ frames := 1, cells := 2, slots := 32, locals := 12 }) (va_Pc [.ref h0] (fun U => U.heap.size = sz ∧ va_P D vwCl [(h0, .inr (0, mXF0))] U.heap ∧ va_K D vwCl [] U ∧ va_D (fun _ => True) [(h0, .inr (0, mXF0))])) (va_Qv (fun _ : Nat × Nat × ClassId => True) (fun u t => va_P D vwCl (mXW h0 (u.1) (u.2.1) (u.2.2) mV0 mZ mZ) t.heap ∧ va_K D vwCl [(u.2.2, .int)] t ∧ va_D (va_A [(h0, .inr (0, mXF0))] sz) (mXW h0 (u.1) (u.2.1) (u.2.2) mV0 mZ mZ)) (va_A [(h0, .inr (0, mXF0))] sz)) 2 32 (va_A [(h0, .inr (0, mXF0))] sz) := by
  refine Met.ofW (cc := cX0_init) (maxL := 1) (ret := none) (by decide) rfl ?_
  intro p e s m args below meth c s₁ B hml hv
  obtain ⟨rfl, hsz, hP, hK, hD0⟩ := hv
  have hx := B.exec
  have hb := B.bytes
  have hr := B.returns
  have hts := atoms_spec (ws := wsX0_init) B.pre
  have hown : s.vm.findClass RX0 = some m.cls := findClass_of_methodNamed B.named
  have hlocks := B.notSynchronized
  have hin9 : meth.name = "<init>" := (name_of_methodNamed B.named B.method).1
  have hin : ∀ w ∈ wsX00, w ∈ wsX0_init := by decide +kernel
  subst hsz
  have hD := hD0.self (sz := s.heap.size)
  generalize hAe : va_A [(h0, .inr (0, mXF0))] s.heap.size = A at hD ⊢
  have hA : ∀ q : Nat, s.heap.size ≤ q → A q := fun q h => by rw [← hAe]; exact Or.inr h
  have hS : va_S A s.heap s.heap [] := va_S.rf
  have hP : va_P D vwCl [(h0, .inr (0, mXF0))] s.heap := hP
  have hl := lv_entry ([.ref h0]) (n := 1) (Nat.le_of_ble_eq_true rfl)
  rw [lg_entry_eq]
  generalize (lg_sl ([.ref h0]) ++ List.replicate (1 - (lg_sl ([.ref h0])).length) Slot.unset).toArray = ls at hl ⊢
  have hl : lv_has ls 1 [(0, .ref h0)] := hl
  refine lv_aload_n hx hb dX0_init_0 rfl (lv_at hl 0 rfl) ?_
  refine W.objInit hx hb hown (hts (.methodLink RX0 1 objectInit) (by decide +kernel)) (hts (.instanceMethod objectInit) (by decide +kernel)) (hts (.code objectInit ⟨#[0xb1]⟩ 1 none) (by decide +kernel)) rfl (by rw [hml]; exact hl.1) rfl dX0_init_1 (Nat.le_of_ble_eq_true rfl) (Nat.le_of_ble_eq_true rfl) ?_
  refine W.eq (g2 := F0 m 4 ls []) rfl ?_
  refine lv_aload_n hx hb dX0_init_4 rfl (lv_at hl 0 rfl) ?_
  refine mw_bipush hx hb (by decide +kernel) dX0_init_5 ?_
  refine va_newa (atype := .int) (ty := .int) (N' := 16) (a0 := (16, .inl (fun _ => 0))) hx hb (hts (.arrayClass .int) (by decide +kernel)) rfl hK hP hD hS hA (fun cA => rfl) (by decide +kernel) (by decide +kernel) (by decide +kernel) (Nat.le_of_ble_eq_true rfl) (Nat.le_of_ble_eq_true rfl) dX0_init_7 (fun b1 cB1 H hK hP hD hS => ?_)
  rw [← mZ_row] at hP hD
  have hP : va_P D vwCl [(h0, .inr (0, [.null, .null, .int (mI 0), .int (mI 0), .int (mI 0), .int (mI 0), .int (mI 0), .int (mI 0), .int (mI 0), .int (mI 0)])), (b1, mA16 cB1 mZ)] H := hP
  have hD : va_D A [(h0, .inr (0, [.null, .null, .int (mI 0), .int (mI 0), .int (mI 0), .int (mI 0), .int (mI 0), .int (mI 0), .int (mI 0), .int (mI 0)])), (b1, mA16 cB1 mZ)] := hD
  refine va_putF (D := D) (ci := 0) (v := .ref b1) (ty := .array .int) (C := RX0) (T := TX0) (N := 10) hx hb hts hin tyX0 tyX0_ok nmX0 hown hK hP hD hS 0 rfl rfl 0 (by decide) (hts (.fieldLink RX0 9 "MarketWeeks" "lengths" "[I") (by decide +kernel)) (fun _ h9 => h9) rfl hin9 rfl (by decide +kernel) rfl rfl (Nat.le_of_ble_eq_true rfl) dX0_init_9 (fun H locs hP hD hS => ?_)
  have hP : va_P D vwCl [(h0, .inr (0, [.ref b1, .null, .int (mI 0), .int (mI 0), .int (mI 0), .int (mI 0), .int (mI 0), .int (mI 0), .int (mI 0), .int (mI 0)])), (b1, mA16 cB1 mZ)] H := hP
  have hD : va_D A [(h0, .inr (0, [.ref b1, .null, .int (mI 0), .int (mI 0), .int (mI 0), .int (mI 0), .int (mI 0), .int (mI 0), .int (mI 0), .int (mI 0)])), (b1, mA16 cB1 mZ)] := hD
  refine lv_aload_n hx hb dX0_init_12 rfl (lv_at hl 0 rfl) ?_
  refine mw_bipush hx hb (by decide +kernel) dX0_init_13 ?_
  refine va_newa (atype := .int) (ty := .int) (N' := 16) (a0 := (16, .inl (fun _ => 0))) hx hb (hts (.arrayClass .int) (by decide +kernel)) rfl hK hP hD hS hA (fun cA => rfl) (by decide +kernel) (by decide +kernel) (by decide +kernel) (Nat.le_of_ble_eq_true rfl) (Nat.le_of_ble_eq_true rfl) dX0_init_15 (fun b2 cB2 H hK hP hD hS => ?_)
  have e12 : cB2 = cB1 := va_cA_eq hK (i := 1) (j := 0) rfl rfl
  subst e12
  rw [← mZ_row] at hP hD
  have hP : va_P D vwCl [(h0, .inr (0, [.ref b1, .null, .int (mI 0), .int (mI 0), .int (mI 0), .int (mI 0), .int (mI 0), .int (mI 0), .int (mI 0), .int (mI 0)])), (b1, mA16 cB2 mZ), (b2, mA16 cB2 mZ)] H := hP
  have hD : va_D A [(h0, .inr (0, [.ref b1, .null, .int (mI 0), .int (mI 0), .int (mI 0), .int (mI 0), .int (mI 0), .int (mI 0), .int (mI 0), .int (mI 0)])), (b1, mA16 cB2 mZ), (b2, mA16 cB2 mZ)] := hD
  refine va_putF (D := D) (ci := 0) (v := .ref b2) (ty := .array .int) (C := RX0) (T := TX0) (N := 10) hx hb hts hin tyX0 tyX0_ok nmX0 hown hK hP hD hS 0 rfl rfl 1 (by decide) (hts (.fieldLink RX0 13 "MarketWeeks" "places" "[I") (by decide +kernel)) (fun _ h9 => h9) rfl hin9 rfl (by decide +kernel) rfl rfl (Nat.le_of_ble_eq_true rfl) dX0_init_17 (fun H locs hP hD hS => ?_)
  have hP : va_P D vwCl [(h0, .inr (0, [.ref b1, .ref b2, .int (mI 0), .int (mI 0), .int (mI 0), .int (mI 0), .int (mI 0), .int (mI 0), .int (mI 0), .int (mI 0)])), (b1, mA16 cB2 mZ), (b2, mA16 cB2 mZ)] H := hP
  have hD : va_D A [(h0, .inr (0, [.ref b1, .ref b2, .int (mI 0), .int (mI 0), .int (mI 0), .int (mI 0), .int (mI 0), .int (mI 0), .int (mI 0), .int (mI 0)])), (b1, mA16 cB2 mZ), (b2, mA16 cB2 mZ)] := hD
  refine lv_aload_n hx hb dX0_init_20 rfl (lv_at hl 0 rfl) ?_
  refine mw_iconst hx hb dX0_init_21 ?_
  refine va_put (D := D) (ci := 0) (v := .int (mI 0)) (ty := .int) (C := RX0) (T := TX0) (N := 10) hx hb hts hin tyX0 tyX0_ok nmX0 hown hK hP hD hS 0 rfl rfl 2 (by decide) (hts (.fieldLink RX0 16 "MarketWeeks" "count" "I") (by decide +kernel)) (fun _ h9 => h9) rfl (by decide +kernel) rfl rfl (Nat.le_of_ble_eq_true rfl) dX0_init_22 (fun H locs hP hD hS => ?_)
  have hP : va_P D vwCl [(h0, .inr (0, [.ref b1, .ref b2, .int (mI 0), .int (mI 0), .int (mI 0), .int (mI 0), .int (mI 0), .int (mI 0), .int (mI 0), .int (mI 0)])), (b1, mA16 cB2 mZ), (b2, mA16 cB2 mZ)] H := hP
  have hD : va_D A [(h0, .inr (0, [.ref b1, .ref b2, .int (mI 0), .int (mI 0), .int (mI 0), .int (mI 0), .int (mI 0), .int (mI 0), .int (mI 0), .int (mI 0)])), (b1, mA16 cB2 mZ), (b2, mA16 cB2 mZ)] := hD
  refine lv_aload_n hx hb dX0_init_25 rfl (lv_at hl 0 rfl) ?_
  refine mw_sipush hx hb (by decide +kernel) dX0_init_26 ?_
  refine va_put (D := D) (ci := 0) (v := .int (mI 1447)) (ty := .int) (C := RX0) (T := TX0) (N := 10) hx hb hts hin tyX0 tyX0_ok nmX0 hown hK hP hD hS 0 rfl rfl 3 (by decide) (hts (.fieldLink RX0 20 "MarketWeeks" "moonNum" "I") (by decide +kernel)) (fun _ h9 => h9) rfl (by decide +kernel) rfl rfl (Nat.le_of_ble_eq_true rfl) dX0_init_29 (fun H locs hP hD hS => ?_)
  have hP : va_P D vwCl [(h0, .inr (0, [.ref b1, .ref b2, .int (mI 0), .int (mI 1447), .int (mI 0), .int (mI 0), .int (mI 0), .int (mI 0), .int (mI 0), .int (mI 0)])), (b1, mA16 cB2 mZ), (b2, mA16 cB2 mZ)] H := hP
  have hD : va_D A [(h0, .inr (0, [.ref b1, .ref b2, .int (mI 0), .int (mI 1447), .int (mI 0), .int (mI 0), .int (mI 0), .int (mI 0), .int (mI 0), .int (mI 0)])), (b1, mA16 cB2 mZ), (b2, mA16 cB2 mZ)] := hD
  refine lv_aload_n hx hb dX0_init_32 rfl (lv_at hl 0 rfl) ?_
  refine mw_bipush hx hb (by decide +kernel) dX0_init_33 ?_
  refine va_put (D := D) (ci := 0) (v := .int (mI 49)) (ty := .int) (C := RX0) (T := TX0) (N := 10) hx hb hts hin tyX0 tyX0_ok nmX0 hown hK hP hD hS 0 rfl rfl 4 (by decide) (hts (.fieldLink RX0 23 "MarketWeeks" "moonDen" "I") (by decide +kernel)) (fun _ h9 => h9) rfl (by decide +kernel) rfl rfl (Nat.le_of_ble_eq_true rfl) dX0_init_35 (fun H locs hP hD hS => ?_)
  have hP : va_P D vwCl [(h0, .inr (0, [.ref b1, .ref b2, .int (mI 0), .int (mI 1447), .int (mI 49), .int (mI 0), .int (mI 0), .int (mI 0), .int (mI 0), .int (mI 0)])), (b1, mA16 cB2 mZ), (b2, mA16 cB2 mZ)] H := hP
  have hD : va_D A [(h0, .inr (0, [.ref b1, .ref b2, .int (mI 0), .int (mI 1447), .int (mI 49), .int (mI 0), .int (mI 0), .int (mI 0), .int (mI 0), .int (mI 0)])), (b1, mA16 cB2 mZ), (b2, mA16 cB2 mZ)] := hD
  refine lv_aload_n hx hb dX0_init_38 rfl (lv_at hl 0 rfl) ?_
  refine mw_iconst hx hb dX0_init_39 ?_
  refine va_put (D := D) (ci := 0) (v := .int (mI 0)) (ty := .int) (C := RX0) (T := TX0) (N := 10) hx hb hts hin tyX0 tyX0_ok nmX0 hown hK hP hD hS 0 rfl rfl 5 (by decide) (hts (.fieldLink RX0 26 "MarketWeeks" "moonShift" "I") (by decide +kernel)) (fun _ h9 => h9) rfl (by decide +kernel) rfl rfl (Nat.le_of_ble_eq_true rfl) dX0_init_40 (fun H locs hP hD hS => ?_)
  have hP : va_P D vwCl [(h0, .inr (0, [.ref b1, .ref b2, .int (mI 0), .int (mI 1447), .int (mI 49), .int (mI 0), .int (mI 0), .int (mI 0), .int (mI 0), .int (mI 0)])), (b1, mA16 cB2 mZ), (b2, mA16 cB2 mZ)] H := hP
  have hD : va_D A [(h0, .inr (0, [.ref b1, .ref b2, .int (mI 0), .int (mI 1447), .int (mI 49), .int (mI 0), .int (mI 0), .int (mI 0), .int (mI 0), .int (mI 0)])), (b1, mA16 cB2 mZ), (b2, mA16 cB2 mZ)] := hD
  refine lv_aload_n hx hb dX0_init_43 rfl (lv_at hl 0 rfl) ?_
  refine mw_sipush hx hb (by decide +kernel) dX0_init_44 ?_
  refine va_put (D := D) (ci := 0) (v := .int (mI 365)) (ty := .int) (C := RX0) (T := TX0) (N := 10) hx hb hts hin tyX0 tyX0_ok nmX0 hown hK hP hD hS 0 rfl rfl 6 (by decide) (hts (.fieldLink RX0 29 "MarketWeeks" "yearCommon" "I") (by decide +kernel)) (fun _ h9 => h9) rfl (by decide +kernel) rfl rfl (Nat.le_of_ble_eq_true rfl) dX0_init_47 (fun H locs hP hD hS => ?_)
  have hP : va_P D vwCl [(h0, .inr (0, [.ref b1, .ref b2, .int (mI 0), .int (mI 1447), .int (mI 49), .int (mI 0), .int (mI 365), .int (mI 0), .int (mI 0), .int (mI 0)])), (b1, mA16 cB2 mZ), (b2, mA16 cB2 mZ)] H := hP
  have hD : va_D A [(h0, .inr (0, [.ref b1, .ref b2, .int (mI 0), .int (mI 1447), .int (mI 49), .int (mI 0), .int (mI 365), .int (mI 0), .int (mI 0), .int (mI 0)])), (b1, mA16 cB2 mZ), (b2, mA16 cB2 mZ)] := hD
  refine lv_aload_n hx hb dX0_init_50 rfl (lv_at hl 0 rfl) ?_
  refine mw_bipush hx hb (by decide +kernel) dX0_init_51 ?_
  refine va_put (D := D) (ci := 0) (v := .int (mI 8)) (ty := .int) (C := RX0) (T := TX0) (N := 10) hx hb hts hin tyX0 tyX0_ok nmX0 hown hK hP hD hS 0 rfl rfl 7 (by decide) (hts (.fieldLink RX0 32 "MarketWeeks" "leapA" "I") (by decide +kernel)) (fun _ h9 => h9) rfl (by decide +kernel) rfl rfl (Nat.le_of_ble_eq_true rfl) dX0_init_53 (fun H locs hP hD hS => ?_)
  have hP : va_P D vwCl [(h0, .inr (0, [.ref b1, .ref b2, .int (mI 0), .int (mI 1447), .int (mI 49), .int (mI 0), .int (mI 365), .int (mI 8), .int (mI 0), .int (mI 0)])), (b1, mA16 cB2 mZ), (b2, mA16 cB2 mZ)] H := hP
  have hD : va_D A [(h0, .inr (0, [.ref b1, .ref b2, .int (mI 0), .int (mI 1447), .int (mI 49), .int (mI 0), .int (mI 365), .int (mI 8), .int (mI 0), .int (mI 0)])), (b1, mA16 cB2 mZ), (b2, mA16 cB2 mZ)] := hD
  refine lv_aload_n hx hb dX0_init_56 rfl (lv_at hl 0 rfl) ?_
  refine mw_iconst hx hb dX0_init_57 ?_
  refine va_put (D := D) (ci := 0) (v := .int (mI 0)) (ty := .int) (C := RX0) (T := TX0) (N := 10) hx hb hts hin tyX0 tyX0_ok nmX0 hown hK hP hD hS 0 rfl rfl 8 (by decide) (hts (.fieldLink RX0 35 "MarketWeeks" "leapB" "I") (by decide +kernel)) (fun _ h9 => h9) rfl (by decide +kernel) rfl rfl (Nat.le_of_ble_eq_true rfl) dX0_init_58 (fun H locs hP hD hS => ?_)
  have hP : va_P D vwCl [(h0, .inr (0, [.ref b1, .ref b2, .int (mI 0), .int (mI 1447), .int (mI 49), .int (mI 0), .int (mI 365), .int (mI 8), .int (mI 0), .int (mI 0)])), (b1, mA16 cB2 mZ), (b2, mA16 cB2 mZ)] H := hP
  have hD : va_D A [(h0, .inr (0, [.ref b1, .ref b2, .int (mI 0), .int (mI 1447), .int (mI 49), .int (mI 0), .int (mI 365), .int (mI 8), .int (mI 0), .int (mI 0)])), (b1, mA16 cB2 mZ), (b2, mA16 cB2 mZ)] := hD
  refine lv_aload_n hx hb dX0_init_61 rfl (lv_at hl 0 rfl) ?_
  refine mw_bipush hx hb (by decide +kernel) dX0_init_62 ?_
  refine va_put (D := D) (ci := 0) (v := .int (mI 33)) (ty := .int) (C := RX0) (T := TX0) (N := 10) hx hb hts hin tyX0 tyX0_ok nmX0 hown hK hP hD hS 0 rfl rfl 9 (by decide) (hts (.fieldLink RX0 38 "MarketWeeks" "leapC" "I") (by decide +kernel)) (fun _ h9 => h9) rfl (by decide +kernel) rfl rfl (Nat.le_of_ble_eq_true rfl) dX0_init_64 (fun H locs hP hD hS => ?_)
  have hP : va_P D vwCl [(h0, .inr (0, [.ref b1, .ref b2, .int (mI 0), .int (mI 1447), .int (mI 49), .int (mI 0), .int (mI 365), .int (mI 8), .int (mI 0), .int (mI 33)])), (b1, mA16 cB2 mZ), (b2, mA16 cB2 mZ)] H := hP
  have hD : va_D A [(h0, .inr (0, [.ref b1, .ref b2, .int (mI 0), .int (mI 1447), .int (mI 49), .int (mI 0), .int (mI 365), .int (mI 8), .int (mI 0), .int (mI 33)])), (b1, mA16 cB2 mZ), (b2, mA16 cB2 mZ)] := hD
  refine W.widen (k := 2) (n := 32) (Nat.le_of_ble_eq_true rfl) (Nat.le_of_ble_eq_true rfl) ?_
  exact W.vret hx hb hr (fun t ht hW => ⟨⟨(b1, b2, cB2), rfl, trivial, by rw [ht]; exact hP, va_K.moved hW.alike (hK.sub (tys' := [(cB2, .int)]) [0] rfl), hD⟩, hS.F ht⟩) hS.2.2 dX0_init_67
