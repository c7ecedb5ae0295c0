theorem mOK_0 : mOK mV0 mZ mZ := by
  refine ⟨⟨by decide, by decide⟩, fun k k1 k2 => ?_, ?_, ?_⟩
  · have k3 : k < 0 := k2
    exact False.elim (by omega)
  · show (1 : Int) ≤ 49 ∧ (49 : Int) ≤ 100 ∧ 2 * (49 : Int) ≤ 1447 ∧ (1447 : Int) ≤ 100 * 49 ∧ -1000 ≤ (0 : Int) ∧ (0 : Int) ≤ 1000
    omega
  · show (100 : Int) ≤ 365 ∧ (365 : Int) ≤ 500 ∧ (1 : Int) ≤ 33 ∧ (33 : Int) ≤ 400 ∧ (0 : Int) ≤ 8 ∧ (8 : Int) ≤ 33 ∧ (0 : Int) ≤ 0 ∧ (0 : Int) < 33
    omega
set_option maxHeartbeats 4000000 in
set_option maxRecDepth 100000 in
/-- the law, from its entry -/
theorem whole_start {p : Program} {e : Env} {s : State} {m : MethodId} {below : List Frame} {meth : Method} {c : Code} (l : Launch) (hflags : l.flags = flags0) {b L : Nat} {xs : Nat → Int32} (hL : L ≤ 2560) (C0 : lw_At p s m meth c b L xs) : W p l e room_1 s m #[Value.ref b] below meth c s.heap [] 0 0 (lw_Z below #[Value.ref b] s) (entryFrame m ([Value.ref b] : List Value).toArray 8) := by
  obtain ⟨hx, hb, hr, hml, hown, htl, hX, hbl, hlocks, hgv⟩ := id C0
  obtain ⟨hES, hZS, hNS⟩ := mw_env htl hgv
  clear hgv
  have hts : ∀ w ∈ wsL_law, w.before #[Value.ref b] s = true := fun w h => htl w (wsL_law_in w h)
  have hown : s.vm.findClass RL = some m.cls := hown
  have hA : ∀ q : Nat, s.heap.size ≤ q → (fun q : Nat => s.heap.size ≤ q) q := fun _ h => h
  obtain ⟨c0, iS0, hKn0⟩ := u_known (C := RX0) (T := TX0) (N := 10) (n := 10) hts inlX0 (htl (.instantiable RX0 10) (by decide +kernel))
  obtain ⟨c1, iS1, hKn1⟩ := u_known (C := RX1) (T := TX1) (N := 13) (n := 13) hts inlX1 (htl (.instantiable RX1 13) (by decide +kernel))
  obtain ⟨D, hK⟩ : ∃ D : va_G, va_K D vwCl [] s := by
    refine ⟨(fun k => if k = 0 then c0 else c1, fun k => if k = 0 then iS0 else iS1), ?_, fun k q h => by simp at h⟩
    intro k q hq
    match k, hq with
    | 0, hq => cases hq; exact hKn0
    | 1, hq => cases hq; exact hKn1
    | k + 2, hq => simp [vwCl] at hq
  have hS : va_S (fun q : Nat => s.heap.size ≤ q) s.heap s.heap [] := va_S.rf
  have hP : va_P D vwCl [] s.heap := fun k q h => by simp at h
  have hD : va_D (fun q : Nat => s.heap.size ≤ q) [] := ⟨fun i j p q h => by simp at h, fun k q h => by simp at h⟩
  have hl := lv_entry ([.ref b]) (n := 8) (Nat.le_of_ble_eq_true rfl)
  rw [lg_entry_eq]
  generalize (lg_sl ([.ref b]) ++ List.replicate (8 - (lg_sl ([.ref b])).length) Slot.unset).toArray = ls at hl ⊢
  have hl : lv_has ls 8 [(0, .ref b)] := hl
  have f0 : ∀ j : Fin 10, defaultValue (tyX0 j.val) = vp_V mXF0 j.val := by decide +kernel
  have f1 : ∀ j : Fin 13, defaultValue (tyX1 j.val) = vp_V mMF0 j.val := by decide +kernel
  refine va_new (ci := 0) (fs := mXF0) (C := RX0) (T := TX0) (N := 10) hx hb hts inlX0 tyX0 tyX0_ok hown (htl (.classLink RL 8 RX0) (by decide +kernel)) (htl (.instantiable RX0 10) (by decide +kernel)) (htl (.initialized RX0) (by decide +kernel)) hK hP hD hS hA rfl (fun j hj => f0 ⟨j, hj⟩) (Nat.le_of_ble_eq_true rfl) (Nat.le_of_ble_eq_true rfl) dL_law_0 (fun x0 H hP hD hS => ?_)
  have hP : va_P D vwCl [(x0, .inr (0, mXF0))] H := hP
  have hD : va_D (fun q : Nat => s.heap.size ≤ q) [(x0, .inr (0, mXF0))] := hD
  refine W.widen (k := 1) (n := 10) (by omega) (by omega) ?_
  refine lv_dup hx hb dL_law_3 rfl ?_
  have hPc := hP.sub (ws' := [(x0, .inr (0, mXF0))]) [0] rfl
  have hDc := hD.sub (ws' := [(x0, .inr (0, mXF0))]) [0] (by decide) rfl
  have hKc := hK.sub (tys' := []) [] rfl
  have hFc := va_free (wc := [(x0, .inr (0, mXF0))]) hD hS hA [0] rfl
  refine va_callv (va_runI (As := []) (rest := [.ref x0]) ⟨hx, hb, hml, hown, hts⟩ (c_X0_init l D x0 H.size) (cwI 0 hts gL_law_X0_init rfl rfl rfl (htl (.initialized RX0) (by decide +kernel)) (htl (.methodLink RL 89 yX0_init) (by decide +kernel)) (htl (.instanceMethod yX0_init) (by decide +kernel)) rfl (by decide +kernel) ⟨Nat.le_of_ble_eq_true rfl, Nat.le_of_ble_eq_true rfl⟩) ⟨fun a U g mk q => by obtain ⟨q0, q1, qP, qK, qD⟩ := q; exact ⟨q0, q1, qP, va_K.moved (u := U) (U := U.calling g mk a) (Vm.Alike.refl U.vm) qK, qD⟩, fun U hU hW => ⟨rfl, by rw [hU], by rw [hU]; exact hPc, va_K.moved hW.alike hKc, hDc.weaken (fun _ _ _ _ => trivial)⟩⟩ rfl rfl hl.1 rfl (lv_room (Nat.le_of_ble_eq_true rfl)) dL_law_4 ⟨Nat.le_of_ble_eq_true rfl, Nat.le_of_ble_eq_true rfl⟩) hS (fun q _ h => hFc q h) hFc (fun u t9 H1 locs ht hvm hw hB hz1 hk1 hS => ?_)
  obtain ⟨x1, x2, cA⟩ := u
  obtain ⟨hP1, hK1, hD1⟩ := hB
  rw [ht] at hP1
  have hK1 := va_K.moved hvm.symm hK1
  obtain ⟨hP, hD⟩ := va_join (wr := []) (w1 := mXW x0 x1 x2 cA mV0 mZ mZ) hP hD [0] [] rfl rfl (by decide) (by decide) hk1 hFc hP1 hD1
  have hK := (hK.sub (tys' := []) [] rfl).app hK1
  generalize H1 = H at hP hS ⊢
  have hP : va_P D vwCl (mXW x0 x1 x2 cA mV0 mZ mZ) H := hP
  have hD : va_D (fun q : Nat => s.heap.size ≤ q) (mXW x0 x1 x2 cA mV0 mZ mZ) := hD
  have hK : va_K D vwCl [(cA, .int)] s := hK
  clear hP1 hK1 hD1 hPc hDc hKc hFc hk1
  refine W.widen (k := 3) (n := 42) (by omega) (by omega) ?_
  refine lv_astore_n (lv' := [(1, .ref x0), (0, .ref b)]) hx hb dL_law_7 rfl hl (by decide) rfl (fun ls hl => ?_)
  refine va_new (ci := 1) (fs := mMF0) (C := RX1) (T := TX1) (N := 13) hx hb hts inlX1 tyX1 tyX1_ok hown (htl (.classLink RL 90 RX1) (by decide +kernel)) (htl (.instantiable RX1 13) (by decide +kernel)) (htl (.initialized RX1) (by decide +kernel)) hK hP hD hS hA rfl (fun j hj => f1 ⟨j, hj⟩) (Nat.le_of_ble_eq_true rfl) (Nat.le_of_ble_eq_true rfl) dL_law_8 (fun m0 H hP hD hS => ?_)
  have hP : va_P D vwCl (mXW x0 x1 x2 cA mV0 mZ mZ ++ [(m0, .inr (1, mMF0))]) H := hP
  refine W.widen (k := 4) (n := 55) (by omega) (by omega) ?_
  refine lv_dup hx hb dL_law_11 rfl ?_
  have hPc := hP.sub (ws' := [(m0, .inr (1, mMF0))]) [3] rfl
  have hDc := hD.sub (ws' := [(m0, .inr (1, mMF0))]) [3] (by decide) rfl
  have hKc := hK.sub (tys' := []) [] rfl
  have hFc := va_free (wc := [(m0, .inr (1, mMF0))]) hD hS hA [3] rfl
  refine va_callv (va_runI (As := []) (rest := [.ref m0]) ⟨hx, hb, hml, hown, hts⟩ (c_X1_init l D m0 H.size) (cwI 0 hts gL_law_X1_init rfl rfl rfl (htl (.initialized RX1) (by decide +kernel)) (htl (.methodLink RL 92 yX1_init) (by decide +kernel)) (htl (.instanceMethod yX1_init) (by decide +kernel)) rfl (by decide +kernel) ⟨Nat.le_of_ble_eq_true rfl, Nat.le_of_ble_eq_true rfl⟩) ⟨fun a U g mk q => by obtain ⟨q0, q1, qP, qK, qD⟩ := q; exact ⟨q0, q1, qP, va_K.moved (u := U) (U := U.calling g mk a) (Vm.Alike.refl U.vm) qK, qD⟩, fun U hU hW => ⟨rfl, by rw [hU], by rw [hU]; exact hPc, va_K.moved hW.alike hKc, hDc.weaken (fun _ _ _ _ => trivial)⟩⟩ rfl rfl hl.1 rfl (lv_room (Nat.le_of_ble_eq_true rfl)) dL_law_12 ⟨Nat.le_of_ble_eq_true rfl, Nat.le_of_ble_eq_true rfl⟩) hS (fun q _ h => hFc q h) hFc (fun u t9 H1 locs ht hvm hw hB hz1 hk1 hS => ?_)
  obtain ⟨m1, m2, cB⟩ := u
  obtain ⟨hP1, hK1, hD1⟩ := hB
  rw [ht] at hP1
  have hK1 := va_K.moved hvm.symm hK1
  obtain ⟨hP, hD⟩ := va_join (wr := mXW x0 x1 x2 cA mV0 mZ mZ) (w1 := mMW m0 m1 m2 cB 0 0 0 mV0 mZ mZ) hP hD [3] [0, 1, 2] rfl rfl (by decide) (by decide) hk1 hFc hP1 hD1
  have hK := hK.app hK1
  have eBA : cB = cA := va_cA_eq hK (i := 1) (j := 0) rfl rfl
  subst eBA
  generalize H1 = H at hP hS ⊢
  have hK : va_K D vwCl [(cB, .int), (cB, .int)] s := hK
  clear hP1 hK1 hD1 hPc hDc hKc hFc hk1
  refine W.widen (k := 6) (n := 87) (by omega) (by omega) ?_
  refine lv_astore_n (lv' := [(2, .ref m0), (1, .ref x0), (0, .ref b)]) hx hb dL_law_15 rfl hl (by decide) rfl (fun ls hl => ?_)
  refine mw_iconst hx hb dL_law_16 ?_
  refine va_newa (atype := .long) (ty := .long) (N' := 1) (a0 := (1, .inr (.inl (fun _ => 0)))) hx hb (htl (.arrayClass .long) (by decide +kernel)) rfl hK hP hD hS hA (fun cA => rfl) (by decide +kernel) (by decide +kernel) (by decide +kernel) (Nat.le_of_ble_eq_true rfl) (Nat.le_of_ble_eq_true rfl) dL_law_17 (fun h7 cJ H hK hP hD hS => ?_)
  have hK := hK.sub (tys' := mTy cB cJ) [0, 2] rfl
  have hPx := hP.sub (ws' := mXW x0 x1 x2 cB mV0 mZ mZ) [0, 1, 2] rfl
  have hPm := hP.sub (ws' := mMW m0 m1 m2 cB 0 0 0 mV0 mZ mZ) [3, 4, 5] rfl
  have hPo := hP.sub (ws' := [(h7, mOut cJ (fun _ => 0))]) [6] rfl
  have d01 : x0 ≠ x1 := fun h => absurd (hD.1 0 1 _ _ rfl rfl h) (by decide)
  have d02 : x0 ≠ x2 := fun h => absurd (hD.1 0 2 _ _ rfl rfl h) (by decide)
  have d03 : x0 ≠ m0 := fun h => absurd (hD.1 0 3 _ _ rfl rfl h) (by decide)
  have d04 : x0 ≠ m1 := fun h => absurd (hD.1 0 4 _ _ rfl rfl h) (by decide)
  have d05 : x0 ≠ m2 := fun h => absurd (hD.1 0 5 _ _ rfl rfl h) (by decide)
  have d06 : x0 ≠ h7 := fun h => absurd (hD.1 0 6 _ _ rfl rfl h) (by decide)
  have d12 : x1 ≠ x2 := fun h => absurd (hD.1 1 2 _ _ rfl rfl h) (by decide)
  have d13 : x1 ≠ m0 := fun h => absurd (hD.1 1 3 _ _ rfl rfl h) (by decide)
  have d14 : x1 ≠ m1 := fun h => absurd (hD.1 1 4 _ _ rfl rfl h) (by decide)
  have d15 : x1 ≠ m2 := fun h => absurd (hD.1 1 5 _ _ rfl rfl h) (by decide)
  have d16 : x1 ≠ h7 := fun h => absurd (hD.1 1 6 _ _ rfl rfl h) (by decide)
  have d23 : x2 ≠ m0 := fun h => absurd (hD.1 2 3 _ _ rfl rfl h) (by decide)
  have d24 : x2 ≠ m1 := fun h => absurd (hD.1 2 4 _ _ rfl rfl h) (by decide)
  have d25 : x2 ≠ m2 := fun h => absurd (hD.1 2 5 _ _ rfl rfl h) (by decide)
  have d26 : x2 ≠ h7 := fun h => absurd (hD.1 2 6 _ _ rfl rfl h) (by decide)
  have d34 : m0 ≠ m1 := fun h => absurd (hD.1 3 4 _ _ rfl rfl h) (by decide)
  have d35 : m0 ≠ m2 := fun h => absurd (hD.1 3 5 _ _ rfl rfl h) (by decide)
  have d36 : m0 ≠ h7 := fun h => absurd (hD.1 3 6 _ _ rfl rfl h) (by decide)
  have d45 : m1 ≠ m2 := fun h => absurd (hD.1 4 5 _ _ rfl rfl h) (by decide)
  have d46 : m1 ≠ h7 := fun h => absurd (hD.1 4 6 _ _ rfl rfl h) (by decide)
  have d56 : m2 ≠ h7 := fun h => absurd (hD.1 5 6 _ _ rfl rfl h) (by decide)
  have g0 : s.heap.size ≤ x0 := hD.2 0 _ rfl
  have g1 : s.heap.size ≤ x1 := hD.2 1 _ rfl
  have g2 : s.heap.size ≤ x2 := hD.2 2 _ rfl
  have g3 : s.heap.size ≤ m0 := hD.2 3 _ rfl
  have g4 : s.heap.size ≤ m1 := hD.2 4 _ rfl
  have g5 : s.heap.size ≤ m2 := hD.2 5 _ rfl
  have g6 : s.heap.size ≤ h7 := hD.2 6 _ rfl
  clear hP hD
  refine W.widen (k := 7) (n := 88) (by omega) (by omega) ?_
  refine lv_astore_n (lv' := [(3, .ref h7), (2, .ref m0), (1, .ref x0), (0, .ref b)]) hx hb dL_law_19 rfl hl (by decide) rfl (fun ls hl => ?_)
  refine mw_iconst hx hb dL_law_20 ?_
  refine lv_istore (lv' := [(4, .int (mI 0)), (3, .ref h7), (2, .ref m0), (1, .ref x0), (0, .ref b)]) hx hb dL_law_21 hl (by decide) rfl (fun ls hl => ?_)
  have hl : lv_has ls 8 [(4, .int (mI (5 * ((0 : Nat) : Int)))), (0, .ref b), (1, .ref x0), (2, .ref m0), (3, .ref h7)] := lv_sub hl [0, 4, 3, 2, 1] rfl
  have hLC : mLC p s m meth c b L xs D cB cJ x0 x1 x2 m0 m1 m2 h7 := ⟨⟨hx, hb, hml, hown, hts⟩, ⟨hX, hbl⟩, hK, hES, hZS, hNS, ⟨⟨⟨d01, d02, d12⟩, d06, d16, d26⟩, ⟨d34, d35, d45⟩, ⟨d03.symm, d13.symm, d23.symm, d36⟩, ⟨d04.symm, d14.symm, d24.symm, d46⟩, d05.symm, d15.symm, d25.symm, d56⟩, g0, g1, g2, g3, g4, g5, g6⟩
  have hLS : mLS s D cB cJ x0 x1 x2 m0 m1 m2 h7 H _ 0 0 0 (fun _ => 0) mV0 mZ mZ := ⟨mOK_0, hPx, hPm, hPo, hS⟩
  exact law_loop hflags hLC hL hr hlocks (L + 1) 0 (by omega) (by omega) H _ 0 0 0 (fun _ => 0) mV0 mZ mZ hLS ls hl
