/-! what a throw needs of the state: the texts, the words that the tables alone decide, Throwable's two statics -/
def mEA : String := "java/lang/IllegalArgumentException"
def mES : String := "java/lang/IllegalStateException"
def mEI : String := "java/lang/IndexOutOfBoundsException"
def mwS (U : State) : Prop := (∃ a, vk_R RX0 55 "there are as many markets as can be" a U) ∧ (∃ a, vk_R RX0 139 "an argument is out of range" a U) ∧ (∃ a, vk_R RX0 146 "there is no such market" a U) ∧ (∃ a, vk_R RX0 149 "a bit stands for no market" a U) ∧ (∃ a, vk_R RX0 151 "they never meet" a U) ∧ va_Nw (.castable "java/lang/IllegalArgumentException" "java/lang/IllegalArgumentException") U ∧ va_Nw (.castable "java/lang/IllegalStateException" "java/lang/IllegalStateException") U ∧ va_Nw (.castable "java/lang/IndexOutOfBoundsException" "java/lang/IndexOutOfBoundsException") U ∧ va_Nw (.declares ⟨"java/lang/RuntimeException", "<init>", "(Ljava/lang/String;)V"⟩) U ∧ va_Nw (.declares ⟨"java/lang/Exception", "<init>", "(Ljava/lang/String;)V"⟩) U ∧ va_Nw (.declares ⟨"java/lang/Throwable", "<init>", "(Ljava/lang/String;)V"⟩) U
def mwZ (A : Nat → Prop) (U : State) (H : Heap) : Prop := vx_Zq Bundle.tN "UNASSIGNED_STACK" Bundle.steD A U H ∧ vx_Zq Bundle.tN "SUPPRESSED_SENTINEL" Bundle.listD A U H
def mwE (U : State) : Prop := mwS U ∧ mwZ (fun _ => False) U U.heap
theorem mwS_same {u U : State} (hv : U.vm = u.vm) (h : mwS u) : mwS U := by
  obtain ⟨⟨a1, h1⟩, ⟨a2, h2⟩, ⟨a3, h3⟩, ⟨a4, h4⟩, ⟨a5, h5⟩, h6, h7, h8, h9, h10, h11⟩ := h
  exact ⟨⟨a1, h1.same hv⟩, ⟨a2, h2.same hv⟩, ⟨a3, h3.same hv⟩, ⟨a4, h4.same hv⟩, ⟨a5, h5.same hv⟩, va_Nw.same rfl hv.symm h6, va_Nw.same rfl hv.symm h7, va_Nw.same rfl hv.symm h8, va_Nw.same rfl hv.symm h9, va_Nw.same rfl hv.symm h10, va_Nw.same rfl hv.symm h11⟩
theorem mwS_warm {s U : State} (hW : s.WarmedH U.vm) (h : mwS s) : mwS U := by
  obtain ⟨⟨a1, h1⟩, ⟨a2, h2⟩, ⟨a3, h3⟩, ⟨a4, h4⟩, ⟨a5, h5⟩, h6, h7, h8, h9, h10, h11⟩ := h
  exact ⟨⟨a1, h1.warm hW⟩, ⟨a2, h2.warm hW⟩, ⟨a3, h3.warm hW⟩, ⟨a4, h4.warm hW⟩, ⟨a5, h5.warm hW⟩, h6.warmC hW, h7.warmC hW, h8.warmC hW, h9.warmD hW, h10.warmD hW, h11.warmD hW⟩
theorem mwZ_moved {A : Nat → Prop} {u U : State} {H : Heap} (hv : u.vm.Alike U.vm) (h : mwZ A u H) : mwZ A U H := ⟨h.1.moved hv, h.2.moved hv⟩
theorem mwE_blind {U : State} {g : JFrame} {mk : MethodId} {a : Array Value} (h : mwE U) : mwE (U.calling g mk a) := ⟨mwS_same (u := U) rfl h.1, mwZ_moved (u := U) (U := U.calling g mk a) (Vm.Alike.refl U.vm) h.2⟩
theorem mwE_warm {s U : State} (hh : U.heap = s.heap) (hW : s.WarmedH U.vm) (h : mwE s) : mwE U := ⟨mwS_warm hW h.1, by rw [hh]; exact mwZ_moved hW.alike h.2⟩
/-- nothing old is changed, and something is new -/
def mFx (st t : State) : Prop := va_F (fun _ => False) st t ∧ st.heap.size < t.heap.size
/-- a method that throws E and leaves what is there -/
def mT (l : Launch) (y : MethodName) (ws : List Cond) (rm : Room) (av : List Value) (B : State → Prop) (E : String) : Prop := vx_Met l y ws rm (va_Pc av (fun U => B U ∧ mwE U)) (fun _ _ _ _ => False) (fun E1 st t => E1 = E ∧ mFx st t) 1 6 (fun _ => False)
/-- how much a call makes, by its exception's place: nothing, or the exception -/
def mC (ex : Nat) : Nat := if ex = 0 then 0 else 1
theorem mC_0 {ex : Nat} (h : ex = 0) : mC ex = 0 := if_pos h
theorem mC_1 {ex : Nat} (h : ¬ ex = 0) : mC ex = 1 := if_neg h
theorem mC_le (ex : Nat) : mC ex ≤ 1 := by unfold mC; split <;> omega
theorem mC_hm {ex k : Nat} (h : ex = k + 1) : 1 ≤ mC ex ∧ 6 ≤ 6 * mC ex := by rw [mC_1 (by omega)]; exact ⟨Nat.le_refl _, Nat.le_refl _⟩
/-- a method of the face: its exception by its place (0: none), its answer, the world behind it -/
def mXC (es : List String) (ex : Nat) : String → State → State → Prop := fun E st t => (∃ k, ex = k + 1 ∧ es[k]? = some E) ∧ mFx st t
def mXQ (D : va_G) (ex : Nat) (v : Option Value) (W1 : va_W) (A : Nat → Prop) : Array Value → State → Outcome → State → Prop := fun _ st o t => ex = 0 ∧ o = .returned v ∧ va_P D vwCl W1 t.heap ∧ va_F A st t
def mX (l : Launch) (y : MethodName) (ws : List Cond) (rm : Room) (av : List Value) (D : va_G) (W0 : va_W) (tys : List (ClassId × FieldType)) (es : List String) (ex : Nat) (v : Option Value) (W1 : va_W) (A : Nat → Prop) : Prop := vx_Met l y ws rm (va_Pc av (fun U => mwB D W0 tys U ∧ mwE U)) (mXQ D ex v W1 A) (mXC es ex) (mC ex) (6 * mC ex) A
theorem mw_openX {l : Launch} {y : MethodName} {ws ws' : List Cond} {rm : Room} {av : List Value} {B : State → Prop} {Qc : Array Value → State → Outcome → State → Prop} {XC : String → State → State → Prop} {A : Nat → Prop} {cc : ByteArray} {maxL : Nat} {ret : Option FieldType} (hy : plainName y.cls = true) (hw : ws = Cond.code y cc maxL ret :: ws') (hlen : (lg_sl av).length ≤ maxL)
    (body : ∀ (p : Program) (e : Env) (s : State) (m : MethodId) (below : List Frame) (meth : Method) (c : Code) (ls : Array Slot), CallFix p m c cc maxL s av.toArray ws y.cls → meth.sig.returnType = ret → meth.locks = false → (∀ x ∈ c.exceptionTable.toList, False) → B s → mwE s → lv_has ls maxL (lv_args 0 av) → W p l e rm s m av.toArray below meth c s.heap [] 0 0 (vx_MQ below Qc XC av.toArray s 1 6 A) (F0 m 0 ls [])) : vx_Met l y ws rm (va_Pc av (fun U => B U ∧ mwE U)) Qc XC 1 6 A := by
  refine vx_ofW (cc := cc) (maxL := maxL) (ret := ret) hy hw ?_
  intro p e s m args below meth c s₁ B1 hml ht hv
  obtain ⟨rfl, hB, hE⟩ := hv
  have hl := lv_entry av (n := maxL) hlen
  rw [lg_entry_eq]
  exact body p e s m below meth c _ ⟨B1.exec, B1.bytes, hml, findClass_of_methodNamed B1.named, atoms_spec (ws := ws) B1.pre⟩ B1.returns B1.notSynchronized ht hB hE hl
theorem mw_openXX {l : Launch} {y : MethodName} {ws ws' : List Cond} {rm : Room} {av : List Value} {B : State → Prop} {Qc : Array Value → State → Outcome → State → Prop} {XC : String → State → State → Prop} {A : Nat → Prop} {mc ms : Nat} {cc : ByteArray} {maxL : Nat} {ret : Option FieldType} (hy : plainName y.cls = true) (hw : ws = Cond.code y cc maxL ret :: ws') (hlen : (lg_sl av).length ≤ maxL)
    (body : ∀ (p : Program) (e : Env) (s : State) (m : MethodId) (below : List Frame) (meth : Method) (c : Code) (ls : Array Slot), CallFix p m c cc maxL s av.toArray ws y.cls → meth.sig.returnType = ret → meth.locks = false → (∀ x ∈ c.exceptionTable.toList, False) → B s → mwE s → lv_has ls maxL (lv_args 0 av) → W p l e rm s m av.toArray below meth c s.heap [] 0 0 (vx_MQ below Qc XC av.toArray s mc ms A) (F0 m 0 ls [])) : vx_Met l y ws rm (va_Pc av (fun U => B U ∧ mwE U)) Qc XC mc ms A := by
  refine vx_ofW (cc := cc) (maxL := maxL) (ret := ret) hy hw ?_
  intro p e s m args below meth c s₁ B1 hml ht hv
  obtain ⟨rfl, hB, hE⟩ := hv
  have hl := lv_entry av (n := maxL) hlen
  rw [lg_entry_eq]
  exact body p e s m below meth c _ ⟨B1.exec, B1.bytes, hml, findClass_of_methodNamed B1.named, atoms_spec (ws := ws) B1.pre⟩ B1.returns B1.notSynchronized ht hB hE hl
section MWT
variable {p : Program} {l : Launch} {e : Env} {R : Room} {s : State} {m : MethodId} {args : Array Value} {below : List Frame} {meth : Method} {c : Code} {H : Heap} {locs : List Loc} {cells slots : Nat} {Q : State → Prop}
variable {cc : ByteArray} {pc : Nat} {ls : Array Slot} {rest st0 : List Value}
variable {Qc : Array Value → State → Outcome → State → Prop} {XC : String → State → State → Prop} {A : Nat → Prop}
/-- a call that throws, and the throw goes on to the caller -/
theorem mw_thr {E : String} (hr : vx_Run p l e R s m args below meth c s.heap [] 0 0 1 6 (F0 m pc ls st0) rest (fun _ _ _ => False) (fun E1 st t => E1 = E ∧ mFx st t) (fun _ => False)) (hout : ∀ x ∈ c.exceptionTable.toList, False) (hlocks : meth.locks = false) (hx : ∀ t : State, mFx s t → XC E s t) : W p l e R s m args below meth c s.heap [] 0 0 (vx_MQ below Qc XC args s 1 6 A) (F0 m pc ls st0) := by
  intro T hT X
  rcases hr T hT X with ⟨v, st₀, t, T', L, h0, X', hL, e1, e2, hq, st⟩ | ⟨q, st₀, t, T', L, E1, ce, h0, X', hL, e1, e2, ⟨he, hF⟩, hce, hcv, hcl, st⟩
  · exact hq.elim
  · subst he
    have hF2 : mFx s t := by
      obtain ⟨⟨f1, f2⟩, f3⟩ := hF
      rw [h0] at f1 f2 f3
      exact ⟨⟨f1, f2⟩, f3⟩
    have k := vx_out (p := p) (l := l) (e := e) (m := m) (R := R) (args := args) (below := below) (locs := [] ++ L) (cells := 0 + 1) (slots := 0 + 6) (free := A) (ls := ls) (rest := rest) (Qc := Qc) (XC := XC) (pc := pc) (mc := 1) (ms := 6) (H := T'.heap) (s := s) (fun x hx1 => (hout x hx1).elim) hlocks (by rw [e1]; exact hce) hcv hcl (fun t2 ht2 _ => hx t2 ⟨⟨by rw [ht2, e1]; exact hF2.1.1, fun z h1 h2 => by rw [ht2, e1]; exact hF2.1.2 z h1 h2⟩, by rw [ht2, e1]; exact hF2.2⟩) (fun z hz => (hL z hz).elim) (Nat.le_refl 1) (Nat.le_refl 6)
    obtain ⟨t2, a1, b1⟩ := k T' rfl X'
    exact ⟨t2, st.trans a1, b1⟩
theorem mw_thrX {E : String} {mc ms : Nat} (hm : 1 ≤ mc ∧ 6 ≤ ms) (hr : vx_Run p l e R s m args below meth c s.heap [] 0 0 1 6 (F0 m pc ls st0) rest (fun _ _ _ => False) (fun E1 st t => E1 = E ∧ mFx st t) (fun _ => False)) (hout : ∀ x ∈ c.exceptionTable.toList, False) (hlocks : meth.locks = false) (hx : ∀ t : State, mFx s t → XC E s t) : W p l e R s m args below meth c s.heap [] 0 0 (vx_MQ below Qc XC args s mc ms A) (F0 m pc ls st0) := by
  intro T hT X
  rcases hr T hT X with ⟨v, st₀, t, T', L, h0, X', hL, e1, e2, hq, st⟩ | ⟨q, st₀, t, T', L, E1, ce, h0, X', hL, e1, e2, ⟨he, hF⟩, hce, hcv, hcl, st⟩
  · exact hq.elim
  · subst he
    have hF2 : mFx s t := by
      obtain ⟨⟨f1, f2⟩, f3⟩ := hF
      rw [h0] at f1 f2 f3
      exact ⟨⟨f1, f2⟩, f3⟩
    have k := vx_out (p := p) (l := l) (e := e) (m := m) (R := R) (args := args) (below := below) (locs := [] ++ L) (cells := 0 + 1) (slots := 0 + 6) (free := A) (ls := ls) (rest := rest) (Qc := Qc) (XC := XC) (pc := pc) (mc := mc) (ms := ms) (H := T'.heap) (s := s) (fun x hx1 => (hout x hx1).elim) hlocks (by rw [e1]; exact hce) hcv hcl (fun t2 ht2 _ => hx t2 ⟨⟨by rw [ht2, e1]; exact hF2.1.1, fun z h1 h2 => by rw [ht2, e1]; exact hF2.1.2 z h1 h2⟩, by rw [ht2, e1]; exact hF2.2⟩) (fun z hz => (hL z hz).elim) (by omega) (by omega)
    obtain ⟨t2, a1, b1⟩ := k T' rfl X'
    exact ⟨t2, st.trans a1, b1⟩
section MWTC
variable {y : MethodName} {bytes : ByteArray} {maxL nL n index : Nat} {ret : Option FieldType} {ws Ts : List Cond} {rm : Room} {own : String} {b : Addr} {As : List Value} {D : va_G} {W0 : va_W} {tys : List (ClassId × FieldType)}
theorem mw_tS {E : String} (S : CallFix p m c cc nL s args Ts own) (hM : mT l y ws rm As (fun _ => True) E) (hE : mwE s) (cw : CallB R s args own index y bytes maxL ret ws rm 1 6 n ∧ (Cond.static y).before args s = true) (hn : As.length = n) (hsz : ls.size = nL) (hst : st0 = As.reverse ++ rest) (hW : (rest.map fun v => v.category).sum ≤ 8) (hR : 1 ≤ R.cells ∧ 6 ≤ R.slots) (hout : ∀ x ∈ c.exceptionTable.toList, False) (hlocks : meth.locks = false) (hdg : decode cc pc = .ok (.invokestatic index, 3)) (hx : ∀ t : State, mFx s t → XC E s t) : W p l e R s m args below meth c s.heap [] 0 0 (vx_MQ below Qc XC args s 1 6 A) (F0 m pc ls st0) :=
  mw_thr (vx_runS (rest := rest) S hM cw ⟨fun a U g mk h => ⟨h.1, trivial, mwE_blind h.2.2⟩, fun U hU hW1 => ⟨rfl, trivial, mwE_warm hU hW1 hE⟩⟩ (g := F0 m pc ls st0) rfl hn hsz hst (lv_room hW) hdg ⟨by rw [Nat.zero_add]; exact hR.1, by rw [Nat.zero_add]; exact hR.2⟩) hout hlocks hx
theorem mw_tV {E : String} {q : vw_C} {ci : Nat} {fs : List Value} (S : CallFix p m c cc nL s args Ts own) (hM : mT l y ws rm (.ref b :: As) (mwB D W0 tys) E) (hE : mwE s) (cw : CallW R s args own q.1 index y bytes maxL ret ws rm 1 6 n) (hK : va_K D vwCl tys s) (hP : va_P D vwCl W0 s.heap) (hc : vwCl[ci]? = some q) (he : W0[0]? = some (b, .inr (ci, fs))) (hn : As.length = n) (hsz : ls.size = nL) (hst : st0 = As.reverse ++ .ref b :: rest) (hW : (rest.map fun v => v.category).sum ≤ 8) (hR : 1 ≤ R.cells ∧ 6 ≤ R.slots) (hout : ∀ x ∈ c.exceptionTable.toList, False) (hlocks : meth.locks = false) (hdg : decode cc pc = .ok (.invokevirtual index, 3)) (hx : ∀ t : State, mFx s t → XC E s t) : W p l e R s m args below meth c s.heap [] 0 0 (vx_MQ below Qc XC args s 1 6 A) (F0 m pc ls st0) :=
  mw_thr (vx_runV (rest := rest) S hM cw ⟨fun a U g mk h => ⟨h.1, mwB_blind h.2.1, mwE_blind h.2.2⟩, va_recv hK hP hc he, fun U hU hW1 => ⟨rfl, ⟨by rw [hU]; exact hP, va_K.moved hW1.alike hK⟩, mwE_warm hU hW1 hE⟩⟩ (g := F0 m pc ls st0) rfl hn hsz hst (lv_room hW) hdg ⟨by rw [Nat.zero_add]; exact hR.1, by rw [Nat.zero_add]; exact hR.2⟩) hout hlocks hx
theorem mw_tSX {E : String} {mc ms : Nat} (S : CallFix p m c cc nL s args Ts own) (hM : mT l y ws rm As (fun _ => True) E) (hE : mwE s) (cw : CallB R s args own index y bytes maxL ret ws rm 1 6 n ∧ (Cond.static y).before args s = true) (hn : As.length = n) (hsz : ls.size = nL) (hst : st0 = As.reverse ++ rest) (hW : (rest.map fun v => v.category).sum ≤ 8) (hR : 1 ≤ R.cells ∧ 6 ≤ R.slots) (hm : 1 ≤ mc ∧ 6 ≤ ms) (hout : ∀ x ∈ c.exceptionTable.toList, False) (hlocks : meth.locks = false) (hdg : decode cc pc = .ok (.invokestatic index, 3)) (hx : ∀ t : State, mFx s t → XC E s t) : W p l e R s m args below meth c s.heap [] 0 0 (vx_MQ below Qc XC args s mc ms A) (F0 m pc ls st0) :=
  mw_thrX hm (vx_runS (rest := rest) S hM cw ⟨fun a U g mk h => ⟨h.1, trivial, mwE_blind h.2.2⟩, fun U hU hW1 => ⟨rfl, trivial, mwE_warm hU hW1 hE⟩⟩ (g := F0 m pc ls st0) rfl hn hsz hst (lv_room hW) hdg ⟨by rw [Nat.zero_add]; exact hR.1, by rw [Nat.zero_add]; exact hR.2⟩) hout hlocks hx
theorem mw_tVX {E : String} {mc ms : Nat} {q : vw_C} {ci : Nat} {fs : List Value} (S : CallFix p m c cc nL s args Ts own) (hM : mT l y ws rm (.ref b :: As) (mwB D W0 tys) E) (hE : mwE s) (cw : CallW R s args own q.1 index y bytes maxL ret ws rm 1 6 n) (hK : va_K D vwCl tys s) (hP : va_P D vwCl W0 s.heap) (hc : vwCl[ci]? = some q) (he : W0[0]? = some (b, .inr (ci, fs))) (hn : As.length = n) (hsz : ls.size = nL) (hst : st0 = As.reverse ++ .ref b :: rest) (hW : (rest.map fun v => v.category).sum ≤ 8) (hR : 1 ≤ R.cells ∧ 6 ≤ R.slots) (hm : 1 ≤ mc ∧ 6 ≤ ms) (hout : ∀ x ∈ c.exceptionTable.toList, False) (hlocks : meth.locks = false) (hdg : decode cc pc = .ok (.invokevirtual index, 3)) (hx : ∀ t : State, mFx s t → XC E s t) : W p l e R s m args below meth c s.heap [] 0 0 (vx_MQ below Qc XC args s mc ms A) (F0 m pc ls st0) :=
  mw_thrX hm (vx_runV (rest := rest) S hM cw ⟨fun a U g mk h => ⟨h.1, mwB_blind h.2.1, mwE_blind h.2.2⟩, va_recv hK hP hc he, fun U hU hW1 => ⟨rfl, ⟨by rw [hU]; exact hP, va_K.moved hW1.alike hK⟩, mwE_warm hU hW1 hE⟩⟩ (g := F0 m pc ls st0) rfl hn hsz hst (lv_room hW) hdg ⟨by rw [Nat.zero_add]; exact hR.1, by rw [Nat.zero_add]; exact hR.2⟩) hout hlocks hx
end MWTC
/-- 'throw new E("text")' -/
theorem mw_throw {cls text : String} {ik is ic : Nat} {Ts : List Cond} (hx : p.tables.exec = Jvm.exec) (hb : c.code = cc) (hl : l.flags = flags0) (hts : ∀ w ∈ Ts, w.before args s = true) (hown : s.vm.findClass RX0 = some m.cls) (hcls : Bundle.fit cls = true) (hE : mwE s) (hcast : va_Nw (.castable cls cls) s) (hstr : ∃ a, vk_R RX0 is text a s)
    (hk : Cond.classLink RX0 ik cls ∈ Ts) (hini : Cond.initialized cls ∈ Ts) (hat : ∀ w ∈ (vx_atS RX0 ic cls ["java/lang/RuntimeException", "java/lang/Exception"]).filter goodWord, w ∈ Ts)
    (hbad : ∀ w ∈ (vx_atS RX0 ic cls ["java/lang/RuntimeException", "java/lang/Exception"]).filter (fun w => !goodWord w), w ∈ [Cond.castable cls cls, .declares ⟨"java/lang/RuntimeException", "<init>", "(Ljava/lang/String;)V"⟩, .declares ⟨"java/lang/Exception", "<init>", "(Ljava/lang/String;)V"⟩, .declares ⟨"java/lang/Throwable", "<init>", "(Ljava/lang/String;)V"⟩])
    (hgood : ∀ w ∈ Cond.classLink RX0 ik cls :: Cond.initialized cls :: vx_atS RX0 ic cls ["java/lang/RuntimeException", "java/lang/Exception"], vx_ot w = true)
    (hsize : ls.size = c.maxLocals) (d0 : decode cc pc = .ok (.new ik, 3)) (d3 : decode cc (pc + 3) = .ok (.dup, 1)) (d4 : decode cc (pc + 4) = .ok (.ldc is, 2)) (d6 : decode cc (pc + 6) = .ok (.invokespecial ic, 3)) (d9 : decode cc (pc + 9) = .ok (.athrow, 1))
    (hout : ∀ x ∈ c.exceptionTable.toList, False) (hW : (rest.map fun v => v.category).sum ≤ 8) (hR : 6 ≤ R.frames ∧ 90 ≤ R.locals ∧ 1 ≤ R.cells ∧ 6 ≤ R.slots) (hlocks : meth.locks = false)
    (hxc : ∀ t : State, mFx s t → XC cls s t) : W p l e R s m args below meth c s.heap [] 0 0 (vx_MQ below Qc XC args s 1 6 A) (F0 m pc ls rest) := by
  obtain ⟨sa, hsa⟩ := hstr
  have htr : l.stackTraces = false := by
    unfold Launch.stackTraces
    rw [hl]
    decide +kernel
  obtain ⟨⟨-, -, -, -, -, -, -, -, h9, h10, h11⟩, hU, hN⟩ := hE
  exact vx_throwS (names := ["java/lang/RuntimeException", "java/lang/Exception"]) (A := fun _ => False) hx hb htr hown hcls (by decide +kernel) (hts _ hk) (hts _ hini) hsa
    (vx_hat (fun w hw => hts w (hat w hw)) hbad (vx_c (va_Nw.use rfl hcast) (vx_c (va_Nw.use rfl h9) (vx_c (va_Nw.use rfl h10) (vx_c (va_Nw.use rfl h11) vx_n))))) hgood hU hN va_S.rf hsize d0 d3 d4 d6 d9 (fun x hx1 => (hout x hx1).elim)
    (by simp only [List.length_cons, List.length_nil]; omega) (by simp only [List.length_cons, List.length_nil]; omega) (by rw [Nat.zero_add]; exact hR.2.2.1) (by rw [Nat.zero_add]; exact hR.2.2.2) hlocks (fun t _ h1 h2 => hxc t ⟨⟨Nat.le_of_lt h1, fun q hq _ => h2 q hq⟩, h1⟩) (fun z hz => nomatch hz) (Nat.le_refl _) (Nat.le_refl _)
/-- 'throw new E("text")' -/
theorem mw_throwX {mc ms : Nat} {cls text : String} {ik is ic : Nat} {Ts : List Cond} (hx : p.tables.exec = Jvm.exec) (hb : c.code = cc) (hl : l.flags = flags0) (hts : ∀ w ∈ Ts, w.before args s = true) (hown : s.vm.findClass RX0 = some m.cls) (hcls : Bundle.fit cls = true) (hE : mwE s) (hcast : va_Nw (.castable cls cls) s) (hstr : ∃ a, vk_R RX0 is text a s)
    (hk : Cond.classLink RX0 ik cls ∈ Ts) (hini : Cond.initialized cls ∈ Ts) (hat : ∀ w ∈ (vx_atS RX0 ic cls ["java/lang/RuntimeException", "java/lang/Exception"]).filter goodWord, w ∈ Ts)
    (hbad : ∀ w ∈ (vx_atS RX0 ic cls ["java/lang/RuntimeException", "java/lang/Exception"]).filter (fun w => !goodWord w), w ∈ [Cond.castable cls cls, .declares ⟨"java/lang/RuntimeException", "<init>", "(Ljava/lang/String;)V"⟩, .declares ⟨"java/lang/Exception", "<init>", "(Ljava/lang/String;)V"⟩, .declares ⟨"java/lang/Throwable", "<init>", "(Ljava/lang/String;)V"⟩])
    (hgood : ∀ w ∈ Cond.classLink RX0 ik cls :: Cond.initialized cls :: vx_atS RX0 ic cls ["java/lang/RuntimeException", "java/lang/Exception"], vx_ot w = true)
    (hsize : ls.size = c.maxLocals) (d0 : decode cc pc = .ok (.new ik, 3)) (d3 : decode cc (pc + 3) = .ok (.dup, 1)) (d4 : decode cc (pc + 4) = .ok (.ldc is, 2)) (d6 : decode cc (pc + 6) = .ok (.invokespecial ic, 3)) (d9 : decode cc (pc + 9) = .ok (.athrow, 1))
    (hout : ∀ x ∈ c.exceptionTable.toList, False) (hW : (rest.map fun v => v.category).sum ≤ 8) (hR : 6 ≤ R.frames ∧ 90 ≤ R.locals ∧ 1 ≤ R.cells ∧ 6 ≤ R.slots) (hm : 1 ≤ mc ∧ 6 ≤ ms) (hlocks : meth.locks = false)
    (hxc : ∀ t : State, mFx s t → XC cls s t) : W p l e R s m args below meth c s.heap [] 0 0 (vx_MQ below Qc XC args s mc ms A) (F0 m pc ls rest) := by
  obtain ⟨sa, hsa⟩ := hstr
  have htr : l.stackTraces = false := by
    unfold Launch.stackTraces
    rw [hl]
    decide +kernel
  obtain ⟨⟨-, -, -, -, -, -, -, -, h9, h10, h11⟩, hU, hN⟩ := hE
  exact vx_throwS (names := ["java/lang/RuntimeException", "java/lang/Exception"]) (A := fun _ => False) hx hb htr hown hcls (by decide +kernel) (hts _ hk) (hts _ hini) hsa
    (vx_hat (fun w hw => hts w (hat w hw)) hbad (vx_c (va_Nw.use rfl hcast) (vx_c (va_Nw.use rfl h9) (vx_c (va_Nw.use rfl h10) (vx_c (va_Nw.use rfl h11) vx_n))))) hgood hU hN va_S.rf hsize d0 d3 d4 d6 d9 (fun x hx1 => (hout x hx1).elim)
    (by simp only [List.length_cons, List.length_nil]; omega) (by simp only [List.length_cons, List.length_nil]; omega) (by rw [Nat.zero_add]; exact hR.2.2.1) (by rw [Nat.zero_add]; exact hR.2.2.2) hlocks (fun t _ h1 h2 => hxc t ⟨⟨Nat.le_of_lt h1, fun q hq _ => h2 q hq⟩, h1⟩) (fun z hz => nomatch hz) (by omega) (by omega)
/-! ends of the methods of the face -/
theorem mw_xretI {mc ms : Nat} {D : va_G} {ex : Nat} {W1 : va_W} {v v' : Int} (hx : p.tables.exec = Jvm.exec) (hb : c.code = cc) (hr : meth.sig.returnType = some .int) (hlocks : meth.locks = false) (hdg : decode cc pc = .ok (.ireturn, 1)) (hex : ex = 0) (hP : va_P D vwCl W1 H) (hS : va_S A s.heap H locs) (hv : v = v') : W p l e R s m args below meth c H locs 0 0 (vx_MQ below (mXQ D ex (some (.int (mI v'))) W1 A) XC args s mc ms A) (F0 m pc ls [.int (mI v)]) := by
  subst hv
  exact W.widen (Nat.zero_le _) (Nat.zero_le _) (vx_ret (W.iret hx hb hr (fun t ht _ => ⟨hex, rfl, by rw [ht]; exact hP, hS.F ht⟩) hS.2.2 hdg hlocks))
theorem mw_xretL {mc ms : Nat} {D : va_G} {ex : Nat} {W1 : va_W} {v v' : Int} (hx : p.tables.exec = Jvm.exec) (hb : c.code = cc) (hr : meth.sig.returnType = some .long) (hlocks : meth.locks = false) (hdg : decode cc pc = .ok (.lreturn, 1)) (hex : ex = 0) (hP : va_P D vwCl W1 H) (hS : va_S A s.heap H locs) (hv : v = v') : W p l e R s m args below meth c H locs 0 0 (vx_MQ below (mXQ D ex (some (.long (mL v'))) W1 A) XC args s mc ms A) (F0 m pc ls [.long (mL v)]) := by
  subst hv
  exact W.widen (Nat.zero_le _) (Nat.zero_le _) (vx_ret (W.lret hx hb hr (fun t ht _ => ⟨hex, rfl, by rw [ht]; exact hP, hS.F ht⟩) hS.2.2 hdg hlocks))
theorem mw_xretZ {mc ms : Nat} {D : va_G} {ex : Nat} {W1 : va_W} {v : Int} {q : Prop} [Decidable q] (hx : p.tables.exec = Jvm.exec) (hb : c.code = cc) (hr : meth.sig.returnType = some .boolean) (hlocks : meth.locks = false) (hdg : decode cc pc = .ok (.ireturn, 1)) (hex : ex = 0) (hP : va_P D vwCl W1 H) (hS : va_S A s.heap H locs) (hv : v = mB q) : W p l e R s m args below meth c H locs 0 0 (vx_MQ below (mXQ D ex (some (.int (mI (mB q)))) W1 A) XC args s mc ms A) (F0 m pc ls [.int (mI v)]) := by
  subst hv
  exact W.widen (Nat.zero_le _) (Nat.zero_le _) (vx_ret (W.zret hx hb hr mB_nar (fun t ht _ => ⟨hex, rfl, by rw [ht]; exact hP, hS.F ht⟩) hS.2.2 hdg hlocks))
theorem mw_xretV {mc ms : Nat} {D : va_G} {ex : Nat} {W1 : va_W} (hx : p.tables.exec = Jvm.exec) (hb : c.code = cc) (hr : meth.sig.returnType = none) (hlocks : meth.locks = false) (hdg : decode cc pc = .ok (.return_, 1)) (hex : ex = 0) (hP : va_P D vwCl W1 H) (hS : va_S A s.heap H locs) : W p l e R s m args below meth c H locs 0 0 (vx_MQ below (mXQ D ex none W1 A) XC args s mc ms A) (F0 m pc ls []) :=
  W.widen (Nat.zero_le _) (Nat.zero_le _) (vx_ret (W.vret hx hb hr (fun t ht _ => ⟨hex, rfl, by rw [ht]; exact hP, hS.F ht⟩) hS.2.2 hdg hlocks))
end MWT
