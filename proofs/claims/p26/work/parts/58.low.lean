def mSc (xs : Nat → Int32) (z : Int) : Int := (xs z.toNat).toInt
theorem mSc_r (xs : Nat → Int32) (z : Int) : mRI (mSc xs z) := mI_rng _
section MWLOW
variable {p : Program} {l : Launch} {e : Env} {R : Room} {s : State} {m : MethodId} {args : Array Value} {below : List Frame} {meth : Method} {c : Code} {H : Heap} {locs : List Loc} {cells slots : Nat} {Q : State → Prop}
variable {cc : ByteArray} {pc : Nat} {ls : Array Slot} {rest st0 : List Value}
variable {y : MethodName} {bytes : ByteArray} {maxL nL n index : Nat} {ret : Option FieldType} {hh : List (Nat × Nat × Nat × Nat)} {ws Ts : List Cond} {rm : Room} {own : String} {b : Addr} {As : List Value} {D : va_G} {W0 W1 : va_W} {tys : List (ClassId × FieldType)}
theorem mw_sld (hx : p.tables.exec = Jvm.exec) (hb : c.code = cc) {A : Nat → Prop} {b L : Nat} {xs : Nat → Int32} (hX : va_X b L xs s s.heap) (hbl : b < s.heap.size) (hbA : ¬ A b) (hS : va_S A s.heap H locs) {z w : Int} (hw : mSc xs z = w) (h0 : 0 ≤ z ∧ z < L) (hL : L < 2 ^ 31) (hdg : decode cc pc = .ok (.iaload, 1)) (kk : W p l e R s m args below meth c H locs cells slots Q (F0 m (pc + 1) ls (.int (mI w) :: rest))) : W p l e R s m args below meth c H locs cells slots Q (F0 m pc ls (.int (mI z) :: .ref b :: rest)) := by
  refine va_sld hx hb hX hbl hbA hS (mI_in h0.1 h0.2 hL) hdg ?_
  have h : ((mI z).toNatClampNeg : Int) = z := mI_clamp h0.1 (by omega)
  have h2 : (mI z).toNatClampNeg = z.toNat := by omega
  rw [h2, ← mI_self (xs z.toNat)]
  have h3 : (xs z.toNat).toInt = w := hw
  rw [h3]
  exact kk
theorem mw_slen (hx : p.tables.exec = Jvm.exec) (hb : c.code = cc) {A : Nat → Prop} {b L : Nat} {xs : Nat → Int32} (hX : va_X b L xs s s.heap) (hbl : b < s.heap.size) (hbA : ¬ A b) (hS : va_S A s.heap H locs) (hdg : decode cc pc = .ok (.arraylength, 1)) (kk : W p l e R s m args below meth c H locs cells slots Q (F0 m (pc + 1) ls (.int (mI (L : Int)) :: rest))) : W p l e R s m args below meth c H locs cells slots Q (F0 m pc ls (.ref b :: rest)) := by
  refine va_slen hx hb hX hbl hbA hS hdg ?_
  have h : Int32.ofNat L = mI (L : Int) := nI_mI L
  rw [h]
  exact kk
/-- a call of a method that only reads, with what it needs of the state -/
theorem mw_cSB {B : State → Prop} {r : Int32} (S : CallFix p m c cc nL s args Ts own) (hM : mP l y ws rm As B (some (.int r))) (cw : CallB R s args own index y bytes maxL ret ws rm 0 0 n ∧ (Cond.static y).before args s = true) (hbl : ∀ (U : State) (g : JFrame) (mk : MethodId) (a : Array Value), B U → B (U.calling g mk a)) (hB : ∀ U : State, U.heap = H → s.WarmedH U.vm → B U) (hn : As.length = n) (hsz : ls.size = nL) (hst : st0 = As.reverse ++ rest) (hW : (rest.map fun v => v.category).sum ≤ 8) (hf : cells ≤ R.cells ∧ slots ≤ R.slots) (hdg : decode cc pc = .ok (.invokestatic index, 3)) (kk : W p l e R s m args below meth c H locs cells slots Q (F0 m (pc + 3) ls (.int r :: rest))) : W p l e R s m args below meth c H locs cells slots Q (F0 m pc ls st0) :=
  mw_run (W.runS S hM cw ⟨fun a U g mk h => ⟨h.1, hbl U g mk _ h.2⟩, fun U hU hW1 => ⟨rfl, hB U hU hW1⟩⟩ rfl hn hsz hst (lv_room hW) hdg hf) kk
/-- a catching method is called, ahead of any change -/
theorem mw_cK2 {r : Int} {g : Nat} {A : Nat → Prop} {mc ms : Nat} (S : CallFix p m c cc nL s args Ts own) (hM : mG l y ws rm As D W0 tys r g W1 A mc ms) (cw : vx_CSW R s args own index y bytes maxL ret hh ws rm mc ms n) (hK : va_K D vwCl tys s) (hP : va_P D vwCl W0 s.heap) (hE : mwE s) (hNS : mwN s) (hn : As.length = n) (hsz : ls.size = nL) (hst : st0 = As.reverse ++ rest) (hW : (rest.map fun v => v.category).sum ≤ 8) (hf : 0 + mc ≤ R.cells ∧ 0 + ms ≤ R.slots) (hdg : decode cc pc = .ok (.invokestatic index, 3))
    (kk : ∀ (H1 : Heap) (locs1 : List Loc), va_P D vwCl W1 H1 → va_S A s.heap H1 locs1 → s.heap.size + g ≤ H1.size → W p l e R s m args below meth c H1 locs1 (0 + mc) (0 + ms) Q (F0 m (pc + 3) ls (.int (mI r) :: rest))) : W p l e R s m args below meth c s.heap [] 0 0 Q (F0 m pc ls st0) := by
  have hr := vx_runSW (e := e) (below := below) (meth := meth) (locs := []) (cells := 0) (slots := 0) (rest := rest) S hM cw ⟨fun a U g mk h => ⟨h.1, mwB_blind h.2.1, mwE_blind h.2.2.1, mwN_moved (u := U) (U := U.calling g mk a) (Vm.Alike.refl U.vm) h.2.2.2⟩, fun U hU hW1 => ⟨rfl, ⟨by rw [hU]; exact hP, va_K.moved hW1.alike hK⟩, mwE_warm hU hW1 hE, mwN_moved hW1.alike hNS⟩⟩ (g := F0 m pc ls st0) rfl hn hsz hst (lv_room hW) hdg hf
  intro T hT X
  obtain ⟨v1, st₀, t, T', L, h0, X', hL, e1, e2, ⟨hv, hP1, ⟨hz, hk⟩, hg⟩, st⟩ := hr T hT X
  cases hv
  rw [h0] at hz hk hg
  obtain ⟨t2, a1, b1⟩ := kk T'.heap ([] ++ L) (by rw [e1]; exact hP1) (mw_grow (A := A) va_S.rf (fun _ h => h) (by rw [e1]; exact hz) (fun q h1 h2 => by rw [e1]; exact hk q h1 h2) hL) (by rw [e1]; exact hg) T' rfl X'
  exact ⟨t2, st t2 a1, b1⟩
end MWLOW
def mLow (x n : Int) : Int := (x % 2147483648) % n
theorem mLow_r (x n : Int) (h : 0 < n) : 0 ≤ mLow x n ∧ mLow x n < n := m_mod_r h
theorem mAnd_low (x : Int) : mAnd x 2147483647 = x % 2147483648 := by
  have h := pk_and (mI x) (m := mI 2147483647) 31 (by decide +kernel)
  unfold mAnd
  rw [h, nI_mI]
  have e := mI_toNat x
  have e2 : (((mI x).toBitVec.toNat % 2 ^ 31 : Nat) : Int) = x % 2147483648 := by
    have : ((2 ^ 31 : Nat) : Int) = 2147483648 := by decide
    rw [Int.natCast_emod, e, this]
    omega
  rw [e2, mI_t (by omega)]
/-- the script's int at k, or the law's own beyond its end -/
def mCell (Ls : Nat) (xs : Nat → Int32) (k : Int) : Int := if k < (Ls : Int) then mSc xs k else (mI (7919 * (k + 241) * (k + 1663))).toInt
theorem mCell_r (Ls : Nat) (xs : Nat → Int32) (k : Int) : mRI (mCell Ls xs k) := by
  unfold mCell
  split
  · exact mSc_r xs k
  · exact mI_rng _
set_option maxHeartbeats 400000 in
set_option maxRecDepth 100000 in
theorem c_L_low (l : Launch) (x n : Int) (hn : 0 < n ∧ n < 2147483648) : mP l yL_low wsL_low ({ frames := 0, cells := 0, slots := 0, locals := 0 }) [.int (mI (x)), .int (mI (n))] (fun _ => True) (some (.int (mI (mLow x n)))) := by
  refine mw_open (cc := cL_low) (maxL := 2) (ret := (some .int)) (by decide +kernel) rfl (Nat.le_of_ble_eq_true rfl) ?_
  intro p e s m below meth c ls hC hr hlocks hB hl
  obtain ⟨hx, hb, hml, hown, hts⟩ := id hC
  have hl : lv_has ls 2 [(0, .int (mI (x))), (1, .int (mI (n)))] := hl
  refine lv_iload_n hx hb dL_low_0 rfl (lv_at hl 0 rfl) ?_
  refine mw_ldc hx hb (2147483647) (by decide +kernel) hown (hts (.constant RL 7 (2147483647)) (by decide +kernel)) dL_low_1 ?_
  refine mw_iand hx hb dL_low_3 ?_
  refine mw_topi (y := x % 2147483648) (mAnd_low x) ?_
  refine lv_iload_n hx hb dL_low_4 rfl (lv_at hl 1 rfl) ?_
  refine mw_irem hx hb (by omega) (by omega) dL_low_5 ?_
  exact mw_retI hx hb hr hlocks dL_low_6 rfl

set_option maxHeartbeats 400000 in
set_option maxRecDepth 100000 in
theorem c_L_cell (l : Launch) (b Ls : Nat) (xs : Nat → Int32) (k : Int) (hLs : Ls ≤ 260) (hk : 0 ≤ k ∧ k < 40) : mP l yL_cell wsL_cell ({ frames := 0, cells := 0, slots := 0, locals := 0 }) [.ref b, .int (mI (k))] (fun U => va_X b Ls xs U U.heap ∧ b < U.heap.size) (some (.int (mI (mCell Ls xs k)))) := by
  refine mw_open (cc := cL_cell) (maxL := 2) (ret := (some .int)) (by decide +kernel) rfl (Nat.le_of_ble_eq_true rfl) ?_
  intro p e s m below meth c ls hC hr hlocks hB hl
  obtain ⟨hx, hb, hml, hown, hts⟩ := id hC
  obtain ⟨hX, hbl⟩ := hB
  have hl : lv_has ls 2 [(0, .ref b), (1, .int (mI k))] := hl
  have hS : va_S (fun _ => False) s.heap s.heap [] := va_S.rf
  refine lv_iload_n hx hb dL_cell_0 rfl (lv_at hl 1 rfl) ?_
  refine lv_aload_n hx hb dL_cell_1 rfl (lv_at hl 0 rfl) ?_
  refine mw_slen hx hb hX hbl (fun h => h) hS dL_cell_2 ?_
  refine mw_icmp_ge (tgt := 12) hx hb (by omega) (by omega) dL_cell_3 (by decide) (fun c_3 => ?_) (fun c_3 => ?_)
  · refine mw_sipush hx hb (by decide +kernel) dL_cell_12 ?_
    refine lv_iload_n hx hb dL_cell_15 rfl (lv_at hl 1 rfl) ?_
    refine mw_sipush hx hb (by decide +kernel) dL_cell_16 ?_
    refine mw_iadd hx hb dL_cell_19 ?_
    refine mw_imul hx hb dL_cell_20 ?_
    refine lv_iload_n hx hb dL_cell_21 rfl (lv_at hl 1 rfl) ?_
    refine mw_sipush hx hb (by decide +kernel) dL_cell_22 ?_
    refine mw_iadd hx hb dL_cell_25 ?_
    refine mw_imul hx hb dL_cell_26 ?_
    have e9 : mI (7919 * (k + 241) * (k + 1663)) = mI (mCell Ls xs k) := by
      unfold mCell
      rw [if_neg (by omega)]
      exact (mI_self _).symm
    refine W.eq (g2 := F0 m 27 ls [.int (mI (mCell Ls xs k))]) (by rw [e9]) ?_
    exact mw_retI hx hb hr hlocks dL_cell_27 rfl
  · refine lv_aload_n hx hb dL_cell_6 rfl (lv_at hl 0 rfl) ?_
    refine lv_iload_n hx hb dL_cell_7 rfl (lv_at hl 1 rfl) ?_
    refine mw_sld hx hb hX hbl (fun h => h) hS (w := mSc xs k) rfl (by omega) (by omega) dL_cell_8 ?_
    refine lv_goto (tgt := 27) hx hb dL_cell_9 (by decide) ?_
    exact mw_retI hx hb hr hlocks dL_cell_27 (by unfold mCell; rw [if_pos (by omega)])