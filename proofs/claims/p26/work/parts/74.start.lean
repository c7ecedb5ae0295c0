theorem mOK_0 : mOK mV0 mZ mZ := by
  refine ⟨⟨by decide, by decide⟩, fun k k1 k2 => ?_, ?_, ?_⟩
  · have k3 : k < 0 := k2
    exact False.elim (by omega)
  · show (1 : Int) ≤ 49 ∧ (49 : Int) ≤ 100 ∧ 2 * (49 : Int) ≤ 1447 ∧ (1447 : Int) ≤ 100 * 49 ∧ -1000 ≤ (0 : Int) ∧ (0 : Int) ≤ 1000
    omega
  · show (100 : Int) ≤ 365 ∧ (365 : Int) ≤ 500 ∧ (1 : Int) ≤ 33 ∧ (33 : Int) ≤ 400 ∧ (0 : Int) ≤ 8 ∧ (8 : Int) ≤ 33 ∧ (0 : Int) ≤ 0 ∧ (0 : Int) < 33
    omega
set_option maxHeartbeats 4000000 in
set_option maxRecDepth 100000 in
/-- the law, from its entry, in a room that is large enough: it returns true, whatever the script -/
theorem whole_start9 {p : Program} {e : Env} {s : State} {m : MethodId} {below : List Frame} {meth : Method} {c : Code} (l : Launch) (hflags : l.flags = flags0) {b L : Nat} {xs : Nat → Int32} (hL : L ≤ 260) (C0 : lw_At p s m meth c b L xs) : W p l e room_9 s m #[Value.ref b] below meth c s.heap [] 0 0 (lw_Z below #[Value.ref b] s) (entryFrame m ([Value.ref b] : List Value).toArray 8) := by
  obtain ⟨hx, hb, hr, hml, hown, htl, hX, hbl, hlocks, hgv⟩ := id C0
  obtain ⟨hES, hZS, hNS⟩ := mw_env htl hgv
  clear hgv
  have hts : ∀ w ∈ wsL_law, w.before #[Value.ref b] s = true := fun w h => htl w (wsL_law_in w h)
  have hown : s.vm.findClass RL = some m.cls := hown
  have hA : ∀ q : Nat, s.heap.size ≤ q → mA9 s q := fun _ h => h
  obtain ⟨c0, iS0, hKn0⟩ := u_known (C := RX0) (T := TX0) (N := 10) (n := 10) hts inlX0 (htl (.instantiable RX0 10) (by decide +kernel))
  obtain ⟨D, hK⟩ : ∃ D : va_G, va_K D vwCl [] s := by
    refine ⟨(fun k => c0, fun k => iS0), ?_, fun k q h => by simp at h⟩
    intro k q hq
    match k, hq with
    | 0, hq => cases hq; exact hKn0
    | k + 1, hq => simp [vwCl] at hq
  have hS : va_S (mA9 s) s.heap s.heap [] := va_S.rf
  have hP : va_P D vwCl [] s.heap := fun k q h => by simp at h
  have hD : va_D (mA9 s) [] := ⟨fun i j p q h => by simp at h, fun k q h => by simp at h⟩
  have hl := lv_entry ([.ref b]) (n := 8) (Nat.le_of_ble_eq_true rfl)
  rw [lg_entry_eq]
  generalize (lg_sl ([.ref b]) ++ List.replicate (8 - (lg_sl ([.ref b])).length) Slot.unset).toArray = ls at hl ⊢
  have hl : lv_has ls 8 [(0, .ref b)] := hl
  have f0 : ∀ j : Fin 10, defaultValue (tyX0 j.val) = vp_V mXF0 j.val := by decide +kernel
  refine va_new (ci := 0) (fs := mXF0) (C := RX0) (T := TX0) (N := 10) hx hb hts inlX0 tyX0 tyX0_ok hown (htl (.classLink RL 9 RX0) (by decide +kernel)) (htl (.instantiable RX0 10) (by decide +kernel)) (htl (.initialized RX0) (by decide +kernel)) hK hP hD hS hA rfl (fun j hj => f0 ⟨j, hj⟩) (Nat.le_of_ble_eq_true rfl) (Nat.le_of_ble_eq_true rfl) dL_law_0 (fun x0 H hP hD hS => ?_)
  have hP : va_P D vwCl [(x0, .inr (0, mXF0))] H := hP
  have hD : va_D (mA9 s) [(x0, .inr (0, mXF0))] := hD
  refine W.widen (k := 1) (n := 10) (by omega) (by omega) ?_
  refine lv_dup hx hb dL_law_3 rfl ?_
  have hPc := hP.sub (ws' := [(x0, .inr (0, mXF0))]) [0] rfl
  have hDc := hD.sub (ws' := [(x0, .inr (0, mXF0))]) [0] (by decide) rfl
  have hKc := hK.sub (tys' := []) [] rfl
  have hFc := va_free (wc := [(x0, .inr (0, mXF0))]) hD hS hA [0] rfl
  refine va_callv (va_runI (As := []) (rest := [.ref x0]) ⟨hx, hb, hml, hown, hts⟩ (c_X0_init l D x0 H.size) (cwI 0 hts gL_law_X0_init rfl rfl rfl (htl (.initialized RX0) (by decide +kernel)) (htl (.methodLink RL 121 yX0_init) (by decide +kernel)) (htl (.instanceMethod yX0_init) (by decide +kernel)) rfl (by decide +kernel) ⟨Nat.le_of_ble_eq_true rfl, Nat.le_of_ble_eq_true rfl⟩) ⟨fun a U g mk q => by obtain ⟨q0, q1, qP, qK, qD⟩ := q; exact ⟨q0, q1, qP, va_K.moved (u := U) (U := U.calling g mk a) (Vm.Alike.refl U.vm) qK, qD⟩, fun U hU hW => ⟨rfl, by rw [hU], by rw [hU]; exact hPc, va_K.moved hW.alike hKc, hDc.weaken (fun _ _ _ _ => trivial)⟩⟩ rfl rfl hl.1 rfl (lv_room (Nat.le_of_ble_eq_true rfl)) dL_law_4 ⟨Nat.le_of_ble_eq_true rfl, Nat.le_of_ble_eq_true rfl⟩) hS (fun q _ h => hFc q h) hFc (fun u t9 H1 locs ht hvm hw hB hz1 hk1 hS => ?_)
  obtain ⟨x1, x2, cA⟩ := u
  obtain ⟨hP1, hK1, hD1⟩ := hB
  rw [ht] at hP1
  have hK1 := va_K.moved hvm.symm hK1
  obtain ⟨hP, hD⟩ := va_join (wr := []) (w1 := mXW x0 x1 x2 cA mV0 mZ mZ) hP hD [0] [] rfl rfl (by decide) (by decide) hk1 hFc hP1 hD1
  have hK := (hK.sub (tys' := []) [] rfl).app hK1
  generalize H1 = H at hP hS ⊢
  have hP : va_P D vwCl (mXW x0 x1 x2 cA mV0 mZ mZ) H := hP
  have hD : va_D (mA9 s) (mXW x0 x1 x2 cA mV0 mZ mZ) := hD
  have hK : va_K D vwCl [(cA, .int)] s := hK
  clear hP1 hK1 hD1 hPc hDc hKc hFc hk1
  refine W.widen (k := 3) (n := 42) (by omega) (by omega) ?_
  refine lv_astore_n (lv' := [(1, .ref x0), (0, .ref b)]) hx hb dL_law_7 rfl hl (by decide) rfl (fun ls hl => ?_)
  refine va_new (ci := 0) (fs := mXF0) (C := RX0) (T := TX0) (N := 10) hx hb hts inlX0 tyX0 tyX0_ok hown (htl (.classLink RL 9 RX0) (by decide +kernel)) (htl (.instantiable RX0 10) (by decide +kernel)) (htl (.initialized RX0) (by decide +kernel)) hK hP hD hS hA rfl (fun j hj => f0 ⟨j, hj⟩) (Nat.le_of_ble_eq_true rfl) (Nat.le_of_ble_eq_true rfl) dL_law_8 (fun y0 H hP hD hS => ?_)
  have hP : va_P D vwCl (mXW x0 x1 x2 cA mV0 mZ mZ ++ [(y0, .inr (0, mXF0))]) H := hP
  refine W.widen (k := 4) (n := 52) (by omega) (by omega) ?_
  refine lv_dup hx hb dL_law_11 rfl ?_
  have hPc := hP.sub (ws' := [(y0, .inr (0, mXF0))]) [3] rfl
  have hDc := hD.sub (ws' := [(y0, .inr (0, mXF0))]) [3] (by decide) rfl
  have hKc := hK.sub (tys' := []) [] rfl
  have hFc := va_free (wc := [(y0, .inr (0, mXF0))]) hD hS hA [3] rfl
  refine va_callv (va_runI (As := []) (rest := [.ref y0]) ⟨hx, hb, hml, hown, hts⟩ (c_X0_init l D y0 H.size) (cwI 0 hts gL_law_X0_init rfl rfl rfl (htl (.initialized RX0) (by decide +kernel)) (htl (.methodLink RL 121 yX0_init) (by decide +kernel)) (htl (.instanceMethod yX0_init) (by decide +kernel)) rfl (by decide +kernel) ⟨Nat.le_of_ble_eq_true rfl, Nat.le_of_ble_eq_true rfl⟩) ⟨fun a U g mk q => by obtain ⟨q0, q1, qP, qK, qD⟩ := q; exact ⟨q0, q1, qP, va_K.moved (u := U) (U := U.calling g mk a) (Vm.Alike.refl U.vm) qK, qD⟩, fun U hU hW => ⟨rfl, by rw [hU], by rw [hU]; exact hPc, va_K.moved hW.alike hKc, hDc.weaken (fun _ _ _ _ => trivial)⟩⟩ rfl rfl hl.1 rfl (lv_room (Nat.le_of_ble_eq_true rfl)) dL_law_12 ⟨Nat.le_of_ble_eq_true rfl, Nat.le_of_ble_eq_true rfl⟩) hS (fun q _ h => hFc q h) hFc (fun u t9 H1 locs ht hvm hw hB hz1 hk1 hS => ?_)
  obtain ⟨y1, y2, cB⟩ := u
  obtain ⟨hP1, hK1, hD1⟩ := hB
  rw [ht] at hP1
  have hK1 := va_K.moved hvm.symm hK1
  obtain ⟨hP, hD⟩ := va_join (wr := mXW x0 x1 x2 cA mV0 mZ mZ) (w1 := mXW y0 y1 y2 cB mV0 mZ mZ) hP hD [3] [0, 1, 2] rfl rfl (by decide) (by decide) hk1 hFc hP1 hD1
  have hK := hK.app hK1
  have eBA : cB = cA := va_cA_eq hK (i := 1) (j := 0) rfl rfl
  subst eBA
  generalize H1 = H at hP hS ⊢
  have hK : va_K D vwCl [(cB, .int), (cB, .int)] s := hK
  clear hP1 hK1 hD1 hPc hDc hKc hFc hk1
  refine W.widen (k := 6) (n := 84) (by omega) (by omega) ?_
  refine lv_astore_n (lv' := [(2, .ref y0), (1, .ref x0), (0, .ref b)]) hx hb dL_law_15 rfl hl (by decide) rfl (fun ls hl => ?_)
  have hK := hK.sub (tys' := mTy cB cB) [0] rfl
  have hPx := hP.sub (ws' := mXW x0 x1 x2 cB mV0 mZ mZ) [0, 1, 2] rfl
  have hPy := hP.sub (ws' := mXW y0 y1 y2 cB mV0 mZ mZ) [3, 4, 5] rfl
  have d01 : x0 ≠ x1 := fun h => absurd (hD.1 0 1 _ _ rfl rfl h) (by decide)
  have d02 : x0 ≠ x2 := fun h => absurd (hD.1 0 2 _ _ rfl rfl h) (by decide)
  have d03 : x0 ≠ y0 := fun h => absurd (hD.1 0 3 _ _ rfl rfl h) (by decide)
  have d04 : x0 ≠ y1 := fun h => absurd (hD.1 0 4 _ _ rfl rfl h) (by decide)
  have d05 : x0 ≠ y2 := fun h => absurd (hD.1 0 5 _ _ rfl rfl h) (by decide)
  have d12 : x1 ≠ x2 := fun h => absurd (hD.1 1 2 _ _ rfl rfl h) (by decide)
  have d13 : x1 ≠ y0 := fun h => absurd (hD.1 1 3 _ _ rfl rfl h) (by decide)
  have d14 : x1 ≠ y1 := fun h => absurd (hD.1 1 4 _ _ rfl rfl h) (by decide)
  have d15 : x1 ≠ y2 := fun h => absurd (hD.1 1 5 _ _ rfl rfl h) (by decide)
  have d23 : x2 ≠ y0 := fun h => absurd (hD.1 2 3 _ _ rfl rfl h) (by decide)
  have d24 : x2 ≠ y1 := fun h => absurd (hD.1 2 4 _ _ rfl rfl h) (by decide)
  have d25 : x2 ≠ y2 := fun h => absurd (hD.1 2 5 _ _ rfl rfl h) (by decide)
  have d34 : y0 ≠ y1 := fun h => absurd (hD.1 3 4 _ _ rfl rfl h) (by decide)
  have d35 : y0 ≠ y2 := fun h => absurd (hD.1 3 5 _ _ rfl rfl h) (by decide)
  have d45 : y1 ≠ y2 := fun h => absurd (hD.1 4 5 _ _ rfl rfl h) (by decide)
  have g0 : s.heap.size ≤ x0 := hD.2 0 _ rfl
  have g1 : s.heap.size ≤ x1 := hD.2 1 _ rfl
  have g2 : s.heap.size ≤ x2 := hD.2 2 _ rfl
  have g3 : s.heap.size ≤ y0 := hD.2 3 _ rfl
  have g4 : s.heap.size ≤ y1 := hD.2 4 _ rfl
  have g5 : s.heap.size ≤ y2 := hD.2 5 _ rfl
  clear hP hD
  refine mw_iconst hx hb dL_law_16 ?_
  refine lv_istore_n (lv' := [(3, .int (mI 0)), (2, .ref y0), (1, .ref x0), (0, .ref b)]) hx hb dL_law_17 rfl hl (by decide) rfl (fun ls hl => ?_)
  have hl : lv_has ls 8 [(3, .int (mI ((0 : Nat) : Int))), (0, .ref b), (1, .ref x0), (2, .ref y0)] := lv_sub hl [0, 3, 2, 1] rfl
  have hLC : mLC p s m meth c b L xs D cB cB x0 x1 x2 y0 y1 y2 := ⟨⟨hx, hb, hml, hown, hts⟩, ⟨hX, hbl⟩, hK, hES, hZS, hNS, ⟨⟨d01, d02, d12⟩, ⟨d34, d35, d45⟩, ⟨d03.symm, d13.symm, d23.symm⟩, ⟨d04.symm, d14.symm, d24.symm⟩, d05.symm, d15.symm, d25.symm⟩, g0, g1, g2, g3, g4, g5⟩
  refine law_loop hflags hLC hL (fun H locs hS hH ls => ?_) 40 0 (by omega) H _ mV0 mZ mZ mOK_0 hPx hPy hS (by have := hS.1; omega) ls hl
  refine lv_iconst (v := 1) hx hb dL_law_229 (by decide) ?_
  refine va_forget (fun q hq => hS.2.2 q hq) ?_
  exact lw_ret hx hb hr hlocks hH dL_law_230
