/-! the law's own rows: the script as numbers; calls between the three -/
def mSc (xs : Nat → Int32) (z : Int) : Int := (xs z.toNat).toInt
theorem mSc_r (xs : Nat → Int32) (z : Int) : mRI (mSc xs z) := mI_rng _
theorem mw_keep3 {D : va_G} {cl : List vw_C} {A : Nat → Prop} {a b c : Nat} {x y z : va_E} {H H1 : Heap} (hP : va_P D cl [(a, x), (b, y), (c, z)] H) (hk : ∀ q : Nat, q < H.size → ¬ A q → H1[q]? = H[q]?) (ha : ¬ A a) (hb : ¬ A b) (hc : ¬ A c) : va_P D cl [(a, x), (b, y), (c, z)] H1 := hP.kept (fun k q hq => by
  have hl := (hP k q hq).lt
  match k, hq with
  | 0, hq => cases hq; exact hk a hl ha
  | 1, hq => cases hq; exact hk b hl hb
  | 2, hq => cases hq; exact hk c hl hc
  | k + 3, hq => simp at hq)
theorem mw_keep1 {D : va_G} {cl : List vw_C} {A : Nat → Prop} {a : Nat} {x : va_E} {H H1 : Heap} (hP : va_P D cl [(a, x)] H) (hk : ∀ q : Nat, q < H.size → ¬ A q → H1[q]? = H[q]?) (ha : ¬ A a) : va_P D cl [(a, x)] H1 := hP.kept (fun k q hq => by
  have hl := (hP k q hq).lt
  match k, hq with
  | 0, hq => cases hq; exact hk a hl ha
  | k + 1, hq => simp at hq)
theorem mwZ_use {s U : State} {H : Heap} {locs : List Loc} (h : mwZ (fun q => s.heap.size ≤ q) s s.heap) (hS : va_S (fun q => s.heap.size ≤ q) s.heap H locs) (hU : U.heap = H) (hW : s.WarmedH U.vm) : mwZ (fun _ => False) U U.heap := by
  subst hU
  have h2 : mwZ (fun q => s.heap.size ≤ q) s U.heap := ⟨h.1.kept (fun a ha hn => hS.2.1 a ha hn), h.2.kept (fun a ha hn => hS.2.1 a ha hn)⟩
  have h3 := mwZ_moved hW.alike h2
  exact ⟨h3.1.narrow (fun _ q => q.elim), h3.2.narrow (fun _ q => q.elim)⟩
/-- what stays while the law runs -/
def mDis7 (x0 x1 x2 m0 m1 m2 h7 : Nat) : Prop := mDis4 x0 x1 x2 h7 ∧ mDis m0 m1 m2 ∧ (m0 ≠ x0 ∧ m0 ≠ x1 ∧ m0 ≠ x2 ∧ m0 ≠ h7) ∧ (m1 ≠ x0 ∧ m1 ≠ x1 ∧ m1 ≠ x2 ∧ m1 ≠ h7) ∧ (m2 ≠ x0 ∧ m2 ≠ x1 ∧ m2 ≠ x2 ∧ m2 ≠ h7)
def mLC (p : Program) (s : State) (m : MethodId) (meth : Method) (c : Code) (b Ls : Nat) (xs : Nat → Int32) (D : va_G) (cA cJ : ClassId) (x0 x1 x2 m0 m1 m2 h7 : Nat) : Prop :=
  CallFix p m c code 8 s #[Value.ref b] wsL_law RL ∧ (va_X b Ls xs s s.heap ∧ b < s.heap.size) ∧ va_K D vwCl (mTy cA cJ) s ∧ mwS s ∧ mwZ (fun q => s.heap.size ≤ q) s s.heap ∧ mwN s ∧ mDis7 x0 x1 x2 m0 m1 m2 h7 ∧ (s.heap.size ≤ x0 ∧ s.heap.size ≤ x1 ∧ s.heap.size ≤ x2 ∧ s.heap.size ≤ m0 ∧ s.heap.size ≤ m1 ∧ s.heap.size ≤ m2 ∧ s.heap.size ≤ h7)
/-- what holds of the heap between two calls -/
def mLS (s : State) (D : va_G) (cA cJ : ClassId) (x0 x1 x2 m0 m1 m2 h7 : Nat) (H : Heap) (locs : List Loc) (t f g : Int) (F : Nat → Int64) (v : Nat → Int) (L P : Int → Int) : Prop :=
  mOK v L P ∧ va_P D vwCl (mXW x0 x1 x2 cA v L P) H ∧ va_P D vwCl (mMW m0 m1 m2 cA t f g v L P) H ∧ va_P D vwCl [(h7, mOut cJ F)] H ∧ va_S (fun q => s.heap.size ≤ q) s.heap H locs
section MWLW
variable {p : Program} {l : Launch} {e : Env} {R : Room} {s : State} {m : MethodId} {args : Array Value} {below : List Frame} {meth : Method} {c : Code} {H : Heap} {locs : List Loc} {cells slots : Nat} {Q : State → Prop}
variable {cc : ByteArray} {pc : Nat} {ls : Array Slot} {rest st0 : List Value}
theorem mw_sld (hx : p.tables.exec = Jvm.exec) (hb : c.code = cc) {A : Nat → Prop} {b L : Nat} {xs : Nat → Int32} (hX : va_X b L xs s s.heap) (hbl : b < s.heap.size) (hbA : ¬ A b) (hS : va_S A s.heap H locs) {z w : Int} (hw : mSc xs z = w) (h0 : 0 ≤ z ∧ z < L) (hL : L < 2 ^ 31) (hdg : decode cc pc = .ok (.iaload, 1)) (kk : W p l e R s m args below meth c H locs cells slots Q (F0 m (pc + 1) ls (.int (mI w) :: rest))) : W p l e R s m args below meth c H locs cells slots Q (F0 m pc ls (.int (mI z) :: .ref b :: rest)) := by
  refine va_sld hx hb hX hbl hbA hS (mI_in h0.1 h0.2 hL) hdg ?_
  have h : ((mI z).toNatClampNeg : Int) = z := mI_clamp h0.1 (by omega)
  have h2 : (mI z).toNatClampNeg = z.toNat := by omega
  rw [h2, ← mI_self (xs z.toNat)]
  have h3 : (xs z.toNat).toInt = w := hw
  rw [h3]
  exact kk
theorem mw_slen (hx : p.tables.exec = Jvm.exec) (hb : c.code = cc) {A : Nat → Prop} {b L : Nat} {xs : Nat → Int32} (hX : va_X b L xs s s.heap) (hbl : b < s.heap.size) (hbA : ¬ A b) (hS : va_S A s.heap H locs) (hdg : decode cc pc = .ok (.arraylength, 1)) (kk : W p l e R s m args below meth c H locs cells slots Q (F0 m (pc + 1) ls (.int (mI (L : Int)) :: rest))) : W p l e R s m args below meth c H locs cells slots Q (F0 m pc ls (.ref b :: rest)) := by
  refine va_slen hx hb hX hbl hbA hS hdg ?_
  have h : Int32.ofNat L = mI (L : Int) := nI_mI L
  rw [h]
  exact kk
theorem mw_lald0 (hx : p.tables.exec = Jvm.exec) (hb : c.code = cc) {D : va_G} {tys : List (ClassId × FieldType)} {a : Nat} {cJ : ClassId} {F : Nat → Int64} {V : Int} (hK : va_K D vwCl tys s) (hP : va_P D vwCl [(a, mOut cJ F)] H) (ht : tys[1]? = some (cJ, .long)) (hF : F 0 = mL V) (hdg : decode cc pc = .ok (.laload, 1)) (kk : W p l e R s m args below meth c H locs cells slots Q (F0 m (pc + 1) ls (.long (mL V) :: rest))) : W p l e R s m args below meth c H locs cells slots Q (F0 m pc ls (.int (mI 0) :: .ref a :: rest)) := by
  refine va_lald hx hb hK hP 0 1 rfl ht (mI_in (Int.le_refl 0) (by decide) (by decide)) hdg ?_
  have h2 : (mI 0).toNatClampNeg = 0 := by decide +kernel
  rw [h2, hF]
  exact kk
variable {y : MethodName} {bytes : ByteArray} {maxL nL n index : Nat} {ret : Option FieldType} {hh : List (Nat × Nat × Nat × Nat)} {ws Ts : List Cond} {rm : Room} {own : String} {b : Addr} {As : List Value} {D : va_G} {W0 Wa Wb : va_W} {tys : List (ClassId × FieldType)}
/-- the law calls a wrapper -/
theorem mw_cW {ex : Nat} {val : Int64 → Prop} {W1 : (Nat → Int64) → va_W} {A : Nat → Prop} (S : CallFix p m c cc nL s args Ts own) (hM : mW l y ws rm As D (Wa ++ Wb) tys ex val W1 A) (cw : vx_CSW R s args own index y bytes maxL ret hh ws rm 1 6 n) (hK : va_K D vwCl tys s) (hPa : va_P D vwCl Wa H) (hPb : va_P D vwCl Wb H) (hES : mwS s) (hZS : mwZ (fun q => s.heap.size ≤ q) s s.heap) (hNS : mwN s) (hS : va_S (fun q => s.heap.size ≤ q) s.heap H locs) (hA : ∀ q, A q → s.heap.size ≤ q) (hn : As.length = n) (hsz : ls.size = nL) (hst : st0 = As.reverse ++ rest) (hW : (rest.map fun v => v.category).sum ≤ 8) (hf : cells + 1 ≤ R.cells ∧ slots + 6 ≤ R.slots) (hdg : decode cc pc = .ok (.invokestatic index, 3))
    (kk : ∀ (F : Nat → Int64) (H1 : Heap) (locs1 : List Loc), (ex = 0 → val (F 0)) → va_P D vwCl (W1 F) H1 → va_S (fun q => s.heap.size ≤ q) s.heap H1 locs1 → (∀ q : Nat, q < H.size → ¬ A q → H1[q]? = H[q]?) → W p l e R s m args below meth c H1 locs1 (cells + 1) (slots + 6) Q (F0 m (pc + 3) ls (.int (mI (ex : Int)) :: rest))) : W p l e R s m args below meth c H locs cells slots Q (F0 m pc ls st0) := by
  have hr := vx_runSW (e := e) (below := below) (meth := meth) (locs := locs) (cells := cells) (slots := slots) (rest := rest) S hM cw ⟨fun a U g mk h => ⟨h.1, mwB_blind h.2.1, mwE_blind h.2.2.1, mwN_moved (u := U) (U := U.calling g mk a) (Vm.Alike.refl U.vm) h.2.2.2⟩, fun U hU hW1 => ⟨rfl, ⟨by rw [hU]; exact va_P.app hPa hPb, va_K.moved hW1.alike hK⟩, ⟨mwS_warm hW1 hES, mwZ_use hZS hS hU hW1⟩, mwN_moved hW1.alike hNS⟩⟩ (g := F0 m pc ls st0) rfl hn hsz hst (lv_room hW) hdg hf
  intro T hT X
  obtain ⟨v1, st₀, t, T', L, h0, X', hL, e1, e2, ⟨F, hv, hval, hP1, hz, hk⟩, st⟩ := hr T hT X
  cases hv
  rw [h0] at hz hk
  obtain ⟨t2, a1, b1⟩ := kk F T'.heap (locs ++ L) hval (by rw [e1]; exact hP1) ⟨Nat.le_trans hS.1 (by rw [e1]; exact hz), fun q h1 h2 => by rw [e1, hk q (Nat.lt_of_lt_of_le h1 hS.1) (fun z => h2 (hA q z))]; exact hS.2.1 q h1 h2, fun q hq => by
      rcases List.mem_append.mp hq with h | h
      · exact hS.2.2 q h
      · exact hA _ (hL q h)⟩ (fun q h1 h2 => by rw [e1]; exact hk q h1 h2) T' rfl X'
  exact ⟨t2, st t2 a1, b1⟩
/-- the law calls a method of the check -/
theorem mw_cY {mk : Int → Option Value} {post : Int × Int × Int → Prop} {W1 : Int × Int × Int → va_W} {A : Nat → Prop} {q : vw_C} {ci : Nat} {fs : List Value} (S : CallFix p m c cc nL s args Ts own) (hM : mY l y ws rm (.ref b :: As) D W0 tys mk post W1 A) (cw : CallW R s args own q.1 index y bytes maxL ret ws rm 0 0 n) (hK : va_K D vwCl tys s) (hP : va_P D vwCl W0 H) (hS : va_S (fun q => s.heap.size ≤ q) s.heap H locs) (hA : ∀ q, A q → s.heap.size ≤ q) (hc : vwCl[ci]? = some q) (he : W0[0]? = some (b, .inr (ci, fs))) (hn : As.length = n) (hsz : ls.size = nL) (hst : st0 = As.reverse ++ .ref b :: rest) (hW : (rest.map fun v => v.category).sum ≤ 8) (hf : cells ≤ R.cells ∧ slots ≤ R.slots) (hdg : decode cc pc = .ok (.invokevirtual index, 3))
    (kk : ∀ (r f g : Int) (H1 : Heap) (locs1 : List Loc), post (r, f, g) → va_P D vwCl (W1 (r, f, g)) H1 → va_S (fun q => s.heap.size ≤ q) s.heap H1 locs1 → (∀ q : Nat, q < H.size → ¬ A q → H1[q]? = H[q]?) → W p l e R s m args below meth c H1 locs1 cells slots Q (F0 m (pc + 3) ls ((mk r).toList ++ rest))) : W p l e R s m args below meth c H locs cells slots Q (F0 m pc ls st0) := by
  have hr := va_runV (e := e) (below := below) (meth := meth) (locs := locs) (cells := cells) (slots := slots) (rest := rest) S hM cw ⟨fun a U g mk h => ⟨h.1, mwB_blind h.2⟩, va_recv hK hP hc he, fun U hU hW1 => ⟨rfl, by rw [hU]; exact hP, va_K.moved hW1.alike hK⟩⟩ (g := F0 m pc ls st0) rfl hn hsz hst (lv_room hW) hdg hf
  intro T hT X
  obtain ⟨v1, st₀, t, T', L, h0, X', hL, e1, e2, ⟨u, hv, hp, hP1, hz, hk⟩, st⟩ := hr T hT X
  obtain ⟨r, f, g⟩ := u
  cases hv
  rw [h0] at hz hk
  obtain ⟨t2, a1, b1⟩ := kk r f g T'.heap (locs ++ L) hp (by rw [e1]; exact hP1) ⟨Nat.le_trans hS.1 (by rw [e1]; exact hz), fun q h1 h2 => by rw [e1, hk q (Nat.lt_of_lt_of_le h1 hS.1) (fun z => h2 (hA q z))]; exact hS.2.1 q h1 h2, fun q hq => by
      rcases List.mem_append.mp hq with h | h
      · exact hS.2.2 q h
      · exact hA _ (hL q h)⟩ (fun q h1 h2 => by rw [e1]; exact hk q h1 h2) T' rfl X'
  exact ⟨t2, st t2 a1, b1⟩
end MWLW
/-! the rules that are told keep the bounds -/
theorem ok_addMarket {v : Nat → Int} {L P : Int → Int} (hok : mOK v L P) (a b : Int) : mOK (mIf (mEx2 ((1 ≤ a ∧ a ≤ 60) ∧ 0 ≤ b ∧ b ≤ a - 1) (v 0 < 16)) (mPut v 0 (v 0 + 1)) v) (mIf (mEx2 ((1 ≤ a ∧ a ≤ 60) ∧ 0 ≤ b ∧ b ≤ a - 1) (v 0 < 16)) (mU L (v 0) a) L) (mIf (mEx2 ((1 ≤ a ∧ a ≤ 60) ∧ 0 ≤ b ∧ b ≤ a - 1) (v 0 < 16)) (mU P (v 0) b) P) := by
  by_cases h : mEx2 ((1 ≤ a ∧ a ≤ 60) ∧ 0 ≤ b ∧ b ≤ a - 1) (v 0 < 16) = 0
  · rw [mIf_0 h, mIf_0 h, mIf_0 h]
    have hx := mEx2_z h
    obtain ⟨⟨o1, o2⟩, oL, o3, o4⟩ := hok
    refine ⟨⟨?_, ?_⟩, fun k k1 k2 => ?_, o3, o4⟩
    · show 0 ≤ v 0 + 1; omega
    · show v 0 + 1 ≤ 16; omega
    · have k3 : k < v 0 + 1 := k2
      unfold mU
      by_cases c : k = v 0
      · rw [if_pos c, if_pos c]; omega
      · rw [if_neg c, if_neg c]; exact oL k k1 (by omega)
  · rw [mIf_1 h, mIf_1 h, mIf_1 h]; exact hok
theorem ok_shift {v : Nat → Int} {L P : Int → Int} (hok : mOK v L P) (m9 b : Int) : mOK (mIf (mEx2 (mMk v m9) (-60 ≤ b ∧ b ≤ 60)) v v) (mIf (mEx2 (mMk v m9) (-60 ≤ b ∧ b ≤ 60)) L L) (mIf (mEx2 (mMk v m9) (-60 ≤ b ∧ b ≤ 60)) (mU P m9 ((P m9 + b) % L m9)) P) := by
  by_cases h : mEx2 (mMk v m9) (-60 ≤ b ∧ b ≤ 60) = 0
  · rw [mIf_0 h, mIf_0 h, mIf_0 h]
    have hx := mEx2_z h
    obtain ⟨o1, oL, o3, o4⟩ := hok
    refine ⟨o1, fun k k1 k2 => ?_, o3, o4⟩
    have l := oL k k1 k2
    unfold mU
    by_cases c : k = m9
    · rw [if_pos c]
      subst c
      have := m_mod_r (a := P k + b) (b := L k) (by omega)
      omega
    · rw [if_neg c]; exact l
  · rw [mIf_1 h, mIf_1 h, mIf_1 h]; exact hok
theorem ok_setMoon {v : Nat → Int} {L P : Int → Int} (hok : mOK v L P) (n d s9 : Int) : mOK (mIf (mEx1 ((1 ≤ d ∧ d ≤ 100) ∧ (2 * d ≤ n ∧ n ≤ 100 * d) ∧ -1000 ≤ s9 ∧ s9 ≤ 1000)) (mPut (mPut (mPut v 1 n) 2 d) 3 s9) v) (mIf (mEx1 ((1 ≤ d ∧ d ≤ 100) ∧ (2 * d ≤ n ∧ n ≤ 100 * d) ∧ -1000 ≤ s9 ∧ s9 ≤ 1000)) L L) (mIf (mEx1 ((1 ≤ d ∧ d ≤ 100) ∧ (2 * d ≤ n ∧ n ≤ 100 * d) ∧ -1000 ≤ s9 ∧ s9 ≤ 1000)) P P) := by
  by_cases h : mEx1 ((1 ≤ d ∧ d ≤ 100) ∧ (2 * d ≤ n ∧ n ≤ 100 * d) ∧ -1000 ≤ s9 ∧ s9 ≤ 1000) = 0
  · rw [mIf_0 h, mIf_0 h, mIf_0 h]
    have hx := mEx1_z h
    obtain ⟨o1, oL, o3, o4⟩ := hok
    refine ⟨o1, oL, ?_, o4⟩
    show 1 ≤ d ∧ d ≤ 100 ∧ 2 * d ≤ n ∧ n ≤ 100 * d ∧ -1000 ≤ s9 ∧ s9 ≤ 1000
    omega
  · rw [mIf_1 h, mIf_1 h, mIf_1 h]; exact hok
theorem ok_setYear {v : Nat → Int} {L P : Int → Int} (hok : mOK v L P) (y a b c9 : Int) : mOK (mIf (mEx1 ((100 ≤ y ∧ y ≤ 500) ∧ (1 ≤ c9 ∧ c9 ≤ 400) ∧ (0 ≤ a ∧ a ≤ c9) ∧ 0 ≤ b ∧ b ≤ c9 - 1)) (mPut (mPut (mPut (mPut v 4 y) 5 a) 6 b) 7 c9) v) (mIf (mEx1 ((100 ≤ y ∧ y ≤ 500) ∧ (1 ≤ c9 ∧ c9 ≤ 400) ∧ (0 ≤ a ∧ a ≤ c9) ∧ 0 ≤ b ∧ b ≤ c9 - 1)) L L) (mIf (mEx1 ((100 ≤ y ∧ y ≤ 500) ∧ (1 ≤ c9 ∧ c9 ≤ 400) ∧ (0 ≤ a ∧ a ≤ c9) ∧ 0 ≤ b ∧ b ≤ c9 - 1)) P P) := by
  by_cases h : mEx1 ((100 ≤ y ∧ y ≤ 500) ∧ (1 ≤ c9 ∧ c9 ≤ 400) ∧ (0 ≤ a ∧ a ≤ c9) ∧ 0 ≤ b ∧ b ≤ c9 - 1) = 0
  · rw [mIf_0 h, mIf_0 h, mIf_0 h]
    have hx := mEx1_z h
    obtain ⟨o1, oL, o3, o4⟩ := hok
    refine ⟨o1, oL, o3, ?_⟩
    show 100 ≤ y ∧ y ≤ 500 ∧ 1 ≤ c9 ∧ c9 ≤ 400 ∧ 0 ≤ a ∧ a ≤ c9 ∧ 0 ≤ b ∧ b < c9
    omega
  · rw [mIf_1 h, mIf_1 h, mIf_1 h]; exact hok
