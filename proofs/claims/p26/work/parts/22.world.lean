/-! the two objects and their cells: v: count, moon's num, den, shift, year's common, a, b, c; L, P: lengths and places -/
abbrev mXO (a1 a2 : Nat) (v : Nat → Int) : List Value := [.ref a1, .ref a2, .int (mI (v 0)), .int (mI (v 1)), .int (mI (v 2)), .int (mI (v 3)), .int (mI (v 4)), .int (mI (v 5)), .int (mI (v 6)), .int (mI (v 7))]
abbrev mA16 (cA : ClassId) (L : Int → Int) : va_E := .inl (cA, 16, .inl (fun k : Nat => mI (L (k : Int))))
abbrev mXW (h0 a1 a2 : Nat) (cA : ClassId) (v : Nat → Int) (L P : Int → Int) : va_W := [(h0, .inr (0, mXO a1 a2 v)), (a1, mA16 cA L), (a2, mA16 cA P)]
abbrev mTy (cA cJ : ClassId) : List (ClassId × FieldType) := [(cA, .int)]
def mA3 (h0 a1 a2 : Nat) : Nat → Prop := fun q => q = h0 ∨ q = a1 ∨ q = a2
def mDis (h0 a1 a2 : Nat) : Prop := h0 ≠ a1 ∧ h0 ≠ a2 ∧ a1 ≠ a2
theorem mD3 {A : Nat → Prop} {h0 a1 a2 : Nat} {x y z : va_E} (hd : mDis h0 a1 a2) (hA : A h0 ∧ A a1 ∧ A a2) : va_D A [(h0, x), (a1, y), (a2, z)] := by
  have key : ∀ (i : Nat) (p : Nat × va_E), [(h0, x), (a1, y), (a2, z)][i]? = some p → (i = 0 ∧ p.1 = h0) ∨ (i = 1 ∧ p.1 = a1) ∨ (i = 2 ∧ p.1 = a2) := by
    intro i p hp
    match i, hp with
    | 0, hp => cases hp; exact Or.inl ⟨rfl, rfl⟩
    | 1, hp => cases hp; exact Or.inr (Or.inl ⟨rfl, rfl⟩)
    | 2, hp => cases hp; exact Or.inr (Or.inr ⟨rfl, rfl⟩)
    | i + 3, hp => simp at hp
  obtain ⟨d1, d2, d3⟩ := hd
  refine ⟨fun i j p q hp hq hpq => ?_, fun k q hk => ?_⟩
  · rcases key i p hp with ⟨e1, e2⟩ | ⟨e1, e2⟩ | ⟨e1, e2⟩ <;> rcases key j q hq with ⟨e3, e4⟩ | ⟨e3, e4⟩ | ⟨e3, e4⟩ <;> omega
  · rcases key k q hk with ⟨e1, e2⟩ | ⟨e1, e2⟩ | ⟨e1, e2⟩
    · rw [e2]; exact hA.1
    · rw [e2]; exact hA.2.1
    · rw [e2]; exact hA.2.2
theorem mA3_in (h0 a1 a2 : Nat) : mA3 h0 a1 a2 h0 ∧ mA3 h0 a1 a2 a1 ∧ mA3 h0 a1 a2 a2 := ⟨Or.inl rfl, Or.inr (Or.inl rfl), Or.inr (Or.inr rfl)⟩
/-- what holds where a method begins -/
def mwB (D : va_G) (W0 : va_W) (tys : List (ClassId × FieldType)) (U : State) : Prop := va_P D vwCl W0 U.heap ∧ va_K D vwCl tys U
theorem mwB_blind {D : va_G} {W0 : va_W} {tys : List (ClassId × FieldType)} {U : State} {g : JFrame} {mk : MethodId} {a : Array Value} (h : mwB D W0 tys U) : mwB D W0 tys (U.calling g mk a) := ⟨h.1, va_K.moved (u := U) (U := U.calling g mk a) (Vm.Alike.refl U.vm) h.2⟩
/-- a method that only reads: its answer is v, the heap stays -/
def mQ (v : Option Value) : Array Value → State → Outcome → State → Prop := fun _ st o t => o = .returned v ∧ t.heap = st.heap
def mP (l : Launch) (y : MethodName) (ws : List Cond) (rm : Room) (av : List Value) (B : State → Prop) (v : Option Value) : Prop := Met l y ws rm (va_Pc av B) (mQ v) 0 0 (fun _ => False)
/-- a method that writes its three cells -/
def mQM {S : Type} (D : va_G) (v : Option Value) (post : S → Prop) (W1 : S → va_W) (A : Nat → Prop) : Array Value → State → Outcome → State → Prop := fun _ st o t => ∃ u : S, o = .returned v ∧ post u ∧ va_P D vwCl (W1 u) t.heap ∧ va_F A st t
def mM {S : Type} (l : Launch) (y : MethodName) (ws : List Cond) (rm : Room) (av : List Value) (D : va_G) (W0 : va_W) (tys : List (ClassId × FieldType)) (v : Option Value) (post : S → Prop) (W1 : S → va_W) (A : Nat → Prop) : Prop := Met l y ws rm (va_Pc av (mwB D W0 tys)) (mQM D v post W1 A) 0 0 A
theorem mw_ofW {l : Launch} {y : MethodName} {ws ws' : List Cond} {rm : Room} {Pc : Array Value → State → Prop} {Qc : Array Value → State → Outcome → State → Prop} {mc ms : Nat} {free : Addr → Prop} {cc : ByteArray} {maxL : Nat} {ret : Option FieldType}
    (hy : plainFor y = true) (hw : ws = Cond.code y cc maxL ret :: ws')
    (body : ∀ p e s m args below meth c s₁, BodyLoose p l y (headSpec ws rm) cc maxL ret e s m args below meth c s₁ → c.maxLocals = maxL → Pc args s →
      W p l e (headSpec ws rm).room s m args below meth c s.heap [] 0 0 (MQ below Qc args s mc ms free) (entryFrame m args maxL)) : Met l y ws rm Pc Qc mc ms free := by
  refine MetFree.of_bodySF (code := cc) (maxLocals := maxL) (ret := ret) hy ?_ ?_
  · intro args s m h hn
    obtain ⟨meth, c, h1, h2, h3, h4, h5, h6, -, -⟩ := Cond.code_spec hn (atoms_spec (ws := ws) h _ (by rw [hw]; exact List.mem_cons_self))
    exact ⟨meth, c, h1, h2, h3, h4, h5, h6⟩
  · intro p e s m args below meth c s₁ B hml hP _
    have hh0 : s₁.heap = s.heap := by rw [B.state]; rfl
    obtain ⟨t, a1, o, b1, b2, b3⟩ := body p e s m args below meth c s₁ B hml hP s₁ hh0 (Stand.of_body B)
    exact ⟨t, o, a1, b1, b2, ⟨b3.1, b3.2⟩⟩
theorem mw_open {l : Launch} {y : MethodName} {ws ws' : List Cond} {rm : Room} {av : List Value} {B : State → Prop} {v : Option Value} {cc : ByteArray} {maxL : Nat} {ret : Option FieldType} (hy : plainFor y = true) (hw : ws = Cond.code y cc maxL ret :: ws') (hlen : (lg_sl av).length ≤ maxL)
    (body : ∀ (p : Program) (e : Env) (s : State) (m : MethodId) (below : List Frame) (meth : Method) (c : Code) (ls : Array Slot), CallFix p m c cc maxL s av.toArray ws y.cls → meth.sig.returnType = ret → meth.locks = false → B s → lv_has ls maxL (lv_args 0 av) → W p l e rm s m av.toArray below meth c s.heap [] 0 0 (MQ below (mQ v) av.toArray s 0 0 (fun _ => False)) (F0 m 0 ls [])) : mP l y ws rm av B v := by
  refine mw_ofW (cc := cc) (maxL := maxL) (ret := ret) hy hw ?_
  intro p e s m args below meth c s₁ B1 hml hv
  obtain ⟨rfl, hB⟩ := hv
  have hl := lv_entry av (n := maxL) hlen
  rw [lg_entry_eq]
  exact body p e s m below meth c _ ⟨B1.exec, B1.bytes, hml, findClass_of_methodNamed B1.named, atoms_spec (ws := ws) B1.pre⟩ B1.returns B1.notSynchronized hB hl
theorem mw_openM {S : Type} {l : Launch} {y : MethodName} {ws ws' : List Cond} {rm : Room} {av : List Value} {D : va_G} {W0 : va_W} {tys : List (ClassId × FieldType)} {v : Option Value} {post : S → Prop} {W1 : S → va_W} {A : Nat → Prop} {cc : ByteArray} {maxL : Nat} {ret : Option FieldType} (hy : plainName y.cls = true) (hw : ws = Cond.code y cc maxL ret :: ws') (hlen : (lg_sl av).length ≤ maxL)
    (body : ∀ (p : Program) (e : Env) (s : State) (m : MethodId) (below : List Frame) (meth : Method) (c : Code) (ls : Array Slot), CallFix p m c cc maxL s av.toArray ws y.cls → meth.sig.returnType = ret → meth.locks = false → mwB D W0 tys s → lv_has ls maxL (lv_args 0 av) → W p l e rm s m av.toArray below meth c s.heap [] 0 0 (MQ below (mQM D v post W1 A) av.toArray s 0 0 A) (F0 m 0 ls [])) : mM l y ws rm av D W0 tys v post W1 A := by
  refine Met.ofW (cc := cc) (maxL := maxL) (ret := ret) hy hw ?_
  intro p e s m args below meth c s₁ B1 hml hv
  obtain ⟨rfl, hB⟩ := hv
  have hl := lv_entry av (n := maxL) hlen
  rw [lg_entry_eq]
  exact body p e s m below meth c _ ⟨B1.exec, B1.bytes, hml, findClass_of_methodNamed B1.named, atoms_spec (ws := ws) B1.pre⟩ B1.returns B1.notSynchronized hB hl
section MWC
variable {p : Program} {l : Launch} {e : Env} {R : Room} {s : State} {m : MethodId} {args : Array Value} {below : List Frame} {meth : Method} {c : Code} {H : Heap} {locs : List Loc} {cells slots : Nat} {Q : State → Prop}
variable {cc : ByteArray} {pc : Nat} {ls : Array Slot} {rest st0 : List Value}
theorem mw_run {v : Option Value} {a : Array Value} (hr : CallRun p l e R s m args below meth c H locs cells slots 0 0 (F0 m pc ls st0) rest (mQ v a) (fun _ => False)) (kk : W p l e R s m args below meth c H locs cells slots Q (F0 m (pc + 3) ls (v.toList ++ rest))) : W p l e R s m args below meth c H locs cells slots Q (F0 m pc ls st0) := by
  intro T hT X
  obtain ⟨v1, st₀, t, T', L, h0, X', hL, e1, ⟨hv, hh⟩, st⟩ := hr T hT X
  cases hv
  obtain ⟨t2, a1, b1⟩ := kk T' (by rw [e1, hh, h0]) (Stand.forget X' (fun q h => (hL q h).elim))
  exact ⟨t2, st t2 a1, b1⟩
section MWCV
variable {y : MethodName} {bytes : ByteArray} {maxL nL n index : Nat} {ret : Option FieldType} {ws Ts : List Cond} {rm : Room} {own : String} {b : Addr} {As : List Value} {D : va_G} {W0 : va_W} {tys : List (ClassId × FieldType)}
theorem mw_cV {v : Option Value} {q : vw_C} {ci : Nat} {fs : List Value} (S : CallFix p m c cc nL s args Ts own) (hM : mP l y ws rm (.ref b :: As) (mwB D W0 tys) v) (cw : CallW R s args own q.1 index y bytes maxL ret ws rm 0 0 n) (hK : va_K D vwCl tys s) (hP : va_P D vwCl W0 H) (hc : vwCl[ci]? = some q) (he : W0[0]? = some (b, .inr (ci, fs))) (hn : As.length = n) (hsz : ls.size = nL) (hst : st0 = As.reverse ++ .ref b :: rest) (hW : (rest.map fun v => v.category).sum ≤ 8) (hf : cells ≤ R.cells ∧ slots ≤ R.slots) (hdg : decode cc pc = .ok (.invokevirtual index, 3)) (kk : W p l e R s m args below meth c H locs cells slots Q (F0 m (pc + 3) ls (v.toList ++ rest))) : W p l e R s m args below meth c H locs cells slots Q (F0 m pc ls st0) := by
  refine mw_run (W.runV S hM cw ⟨fun a U g mk h => ⟨h.1, mwB_blind h.2⟩, va_recv hK hP hc he, fun U hU hW1 => ⟨rfl, by rw [hU]; exact hP, va_K.moved hW1.alike hK⟩⟩ rfl hn hsz hst (lv_room hW) hdg hf) kk
theorem mw_cVi {r : Int32} {q : vw_C} {ci : Nat} {fs : List Value} (S : CallFix p m c cc nL s args Ts own) (hM : mP l y ws rm (.ref b :: As) (mwB D W0 tys) (some (.int r))) (cw : CallW R s args own q.1 index y bytes maxL ret ws rm 0 0 n) (hK : va_K D vwCl tys s) (hP : va_P D vwCl W0 H) (hc : vwCl[ci]? = some q) (he : W0[0]? = some (b, .inr (ci, fs))) (hn : As.length = n) (hsz : ls.size = nL) (hst : st0 = As.reverse ++ .ref b :: rest) (hW : (rest.map fun v => v.category).sum ≤ 8) (hf : cells ≤ R.cells ∧ slots ≤ R.slots) (hdg : decode cc pc = .ok (.invokevirtual index, 3)) (kk : W p l e R s m args below meth c H locs cells slots Q (F0 m (pc + 3) ls (.int r :: rest))) : W p l e R s m args below meth c H locs cells slots Q (F0 m pc ls st0) := mw_cV S hM cw hK hP hc he hn hsz hst hW hf hdg kk
theorem mw_cVl {r : Int64} {q : vw_C} {ci : Nat} {fs : List Value} (S : CallFix p m c cc nL s args Ts own) (hM : mP l y ws rm (.ref b :: As) (mwB D W0 tys) (some (.long r))) (cw : CallW R s args own q.1 index y bytes maxL ret ws rm 0 0 n) (hK : va_K D vwCl tys s) (hP : va_P D vwCl W0 H) (hc : vwCl[ci]? = some q) (he : W0[0]? = some (b, .inr (ci, fs))) (hn : As.length = n) (hsz : ls.size = nL) (hst : st0 = As.reverse ++ .ref b :: rest) (hW : (rest.map fun v => v.category).sum ≤ 8) (hf : cells ≤ R.cells ∧ slots ≤ R.slots) (hdg : decode cc pc = .ok (.invokevirtual index, 3)) (kk : W p l e R s m args below meth c H locs cells slots Q (F0 m (pc + 3) ls (.long r :: rest))) : W p l e R s m args below meth c H locs cells slots Q (F0 m pc ls st0) := mw_cV S hM cw hK hP hc he hn hsz hst hW hf hdg kk
theorem mw_cVv {q : vw_C} {ci : Nat} {fs : List Value} (S : CallFix p m c cc nL s args Ts own) (hM : mP l y ws rm (.ref b :: As) (mwB D W0 tys) none) (cw : CallW R s args own q.1 index y bytes maxL ret ws rm 0 0 n) (hK : va_K D vwCl tys s) (hP : va_P D vwCl W0 H) (hc : vwCl[ci]? = some q) (he : W0[0]? = some (b, .inr (ci, fs))) (hn : As.length = n) (hsz : ls.size = nL) (hst : st0 = As.reverse ++ .ref b :: rest) (hW : (rest.map fun v => v.category).sum ≤ 8) (hf : cells ≤ R.cells ∧ slots ≤ R.slots) (hdg : decode cc pc = .ok (.invokevirtual index, 3)) (kk : W p l e R s m args below meth c H locs cells slots Q (F0 m (pc + 3) ls rest)) : W p l e R s m args below meth c H locs cells slots Q (F0 m pc ls st0) := mw_cV S hM cw hK hP hc he hn hsz hst hW hf hdg kk
theorem mw_cS {v : Option Value} (S : CallFix p m c cc nL s args Ts own) (hM : mP l y ws rm As (fun _ => True) v) (cw : CallB R s args own index y bytes maxL ret ws rm 0 0 n ∧ (Cond.static y).before args s = true) (hn : As.length = n) (hsz : ls.size = nL) (hst : st0 = As.reverse ++ rest) (hW : (rest.map fun v => v.category).sum ≤ 8) (hf : cells ≤ R.cells ∧ slots ≤ R.slots) (hdg : decode cc pc = .ok (.invokestatic index, 3)) (kk : W p l e R s m args below meth c H locs cells slots Q (F0 m (pc + 3) ls (v.toList ++ rest))) : W p l e R s m args below meth c H locs cells slots Q (F0 m pc ls st0) := by
  refine mw_run (W.runS S hM cw ⟨fun a U g mk h => h, fun U hU hW1 => ⟨rfl, trivial⟩⟩ rfl hn hsz hst (lv_room hW) hdg hf) kk
theorem mw_cSi {r : Int32} (S : CallFix p m c cc nL s args Ts own) (hM : mP l y ws rm As (fun _ => True) (some (.int r))) (cw : CallB R s args own index y bytes maxL ret ws rm 0 0 n ∧ (Cond.static y).before args s = true) (hn : As.length = n) (hsz : ls.size = nL) (hst : st0 = As.reverse ++ rest) (hW : (rest.map fun v => v.category).sum ≤ 8) (hf : cells ≤ R.cells ∧ slots ≤ R.slots) (hdg : decode cc pc = .ok (.invokestatic index, 3)) (kk : W p l e R s m args below meth c H locs cells slots Q (F0 m (pc + 3) ls (.int r :: rest))) : W p l e R s m args below meth c H locs cells slots Q (F0 m pc ls st0) := mw_cS S hM cw hn hsz hst hW hf hdg kk
theorem mw_cSl {r : Int64} (S : CallFix p m c cc nL s args Ts own) (hM : mP l y ws rm As (fun _ => True) (some (.long r))) (cw : CallB R s args own index y bytes maxL ret ws rm 0 0 n ∧ (Cond.static y).before args s = true) (hn : As.length = n) (hsz : ls.size = nL) (hst : st0 = As.reverse ++ rest) (hW : (rest.map fun v => v.category).sum ≤ 8) (hf : cells ≤ R.cells ∧ slots ≤ R.slots) (hdg : decode cc pc = .ok (.invokestatic index, 3)) (kk : W p l e R s m args below meth c H locs cells slots Q (F0 m (pc + 3) ls (.long r :: rest))) : W p l e R s m args below meth c H locs cells slots Q (F0 m pc ls st0) := mw_cS S hM cw hn hsz hst hW hf hdg kk
theorem mw_cSv (S : CallFix p m c cc nL s args Ts own) (hM : mP l y ws rm As (fun _ => True) none) (cw : CallB R s args own index y bytes maxL ret ws rm 0 0 n ∧ (Cond.static y).before args s = true) (hn : As.length = n) (hsz : ls.size = nL) (hst : st0 = As.reverse ++ rest) (hW : (rest.map fun v => v.category).sum ≤ 8) (hf : cells ≤ R.cells ∧ slots ≤ R.slots) (hdg : decode cc pc = .ok (.invokestatic index, 3)) (kk : W p l e R s m args below meth c H locs cells slots Q (F0 m (pc + 3) ls rest)) : W p l e R s m args below meth c H locs cells slots Q (F0 m pc ls st0) := mw_cS S hM cw hn hsz hst hW hf hdg kk
/-- a call of a method that writes its cells -/
theorem mw_cM {S1 : Type} {v : Option Value} {post : S1 → Prop} {W1 : S1 → va_W} {A A0 : Nat → Prop} {H0 : Heap} {q : vw_C} {ci : Nat} {fs : List Value} (S : CallFix p m c cc nL s args Ts own) (hM : mM l y ws rm (.ref b :: As) D W0 tys v post W1 A) (cw : CallW R s args own q.1 index y bytes maxL ret ws rm 0 0 n) (hK : va_K D vwCl tys s) (hP : va_P D vwCl W0 H) (hS : va_S A0 H0 H locs) (hA : ∀ q, A q → A0 q) (hc : vwCl[ci]? = some q) (he : W0[0]? = some (b, .inr (ci, fs))) (hn : As.length = n) (hsz : ls.size = nL) (hst : st0 = As.reverse ++ .ref b :: rest) (hW : (rest.map fun v => v.category).sum ≤ 8) (hf : cells ≤ R.cells ∧ slots ≤ R.slots) (hdg : decode cc pc = .ok (.invokevirtual index, 3))
    (kk : ∀ (u : S1) (H1 : Heap) (locs1 : List Loc), post u → va_P D vwCl (W1 u) H1 → va_S A0 H0 H1 locs1 → H.size ≤ H1.size → (∀ q : Nat, q < H.size → ¬ A q → H1[q]? = H[q]?) → W p l e R s m args below meth c H1 locs1 cells slots Q (F0 m (pc + 3) ls (v.toList ++ rest))) : W p l e R s m args below meth c H locs cells slots Q (F0 m pc ls st0) := by
  have hr := va_runV (e := e) (below := below) (meth := meth) (locs := locs) (rest := rest) S hM cw ⟨fun a U g mk h => ⟨h.1, mwB_blind h.2⟩, va_recv hK hP hc he, fun U hU hW1 => ⟨rfl, by rw [hU]; exact hP, va_K.moved hW1.alike hK⟩⟩ (g := F0 m pc ls st0) rfl hn hsz hst (lv_room hW) hdg hf
  intro T hT X
  obtain ⟨v1, st₀, t, T', L, h0, X', hL, e1, e2, ⟨u, hv, hp, hP1, hz, hk⟩, st⟩ := hr T hT X
  cases hv
  rw [h0] at hz hk
  obtain ⟨t2, a1, b1⟩ := kk u T'.heap (locs ++ L) hp (by rw [e1]; exact hP1) ⟨Nat.le_trans hS.1 (by rw [e1]; exact hz), fun q h1 h2 => by rw [e1, hk q (Nat.lt_of_lt_of_le h1 hS.1) (fun z => h2 (hA q z))]; exact hS.2.1 q h1 h2, fun q hq => by
      rcases List.mem_append.mp hq with h | h
      · exact hS.2.2 q h
      · exact hA _ (hL q h)⟩ (by rw [e1]; exact hz) (fun q h1 h2 => by rw [e1]; exact hk q h1 h2) T' rfl X'
  exact ⟨t2, st t2 a1, b1⟩
end MWCV
/-! ends -/
theorem mw_retI {v v' : Int} (hx : p.tables.exec = Jvm.exec) (hb : c.code = cc) (hr : meth.sig.returnType = some .int) (hlocks : meth.locks = false) (hdg : decode cc pc = .ok (.ireturn, 1)) (hv : v = v') : W p l e R s m args below meth c s.heap [] 0 0 (MQ below (mQ (some (.int (mI v')))) args s 0 0 (fun _ => False)) (F0 m pc ls [.int (mI v)]) := by
  subst hv
  exact W.iret hx hb hr (fun t ht _ => ⟨rfl, ht⟩) (fun q h => nomatch h) hdg hlocks
theorem mw_retZ {v : Int} {q : Prop} [Decidable q] (hx : p.tables.exec = Jvm.exec) (hb : c.code = cc) (hr : meth.sig.returnType = some .boolean) (hlocks : meth.locks = false) (hdg : decode cc pc = .ok (.ireturn, 1)) (hv : v = mB q) : W p l e R s m args below meth c s.heap [] 0 0 (MQ below (mQ (some (.int (mI (mB q))))) args s 0 0 (fun _ => False)) (F0 m pc ls [.int (mI v)]) := by
  subst hv
  exact W.zret hx hb hr mB_nar (fun t ht _ => ⟨rfl, ht⟩) (fun q h => nomatch h) hdg hlocks
theorem mw_retL {v v' : Int} (hx : p.tables.exec = Jvm.exec) (hb : c.code = cc) (hr : meth.sig.returnType = some .long) (hlocks : meth.locks = false) (hdg : decode cc pc = .ok (.lreturn, 1)) (hv : v = v') : W p l e R s m args below meth c s.heap [] 0 0 (MQ below (mQ (some (.long (mL v')))) args s 0 0 (fun _ => False)) (F0 m pc ls [.long (mL v)]) := by
  subst hv
  exact W.lret hx hb hr (fun t ht _ => ⟨rfl, ht⟩) (fun q h => nomatch h) hdg hlocks
theorem mw_retV (hx : p.tables.exec = Jvm.exec) (hb : c.code = cc) (hr : meth.sig.returnType = none) (hlocks : meth.locks = false) (hdg : decode cc pc = .ok (.return_, 1)) : W p l e R s m args below meth c s.heap [] 0 0 (MQ below (mQ none) args s 0 0 (fun _ => False)) (F0 m pc ls []) :=
  W.vret hx hb hr (fun t ht _ => ⟨rfl, ht⟩) (fun q h => nomatch h) hdg hlocks
theorem mw_mretI {S : Type} {D : va_G} {post : S → Prop} {W1 : S → va_W} {A : Nat → Prop} {v v' : Int} (hx : p.tables.exec = Jvm.exec) (hb : c.code = cc) (hr : meth.sig.returnType = some .int) (hlocks : meth.locks = false) (hdg : decode cc pc = .ok (.ireturn, 1)) (u : S) (hu : post u) (hP : va_P D vwCl (W1 u) H) (hS : va_S A s.heap H locs) (hv : v = v') : W p l e R s m args below meth c H locs 0 0 (MQ below (mQM D (some (.int (mI v'))) post W1 A) args s 0 0 A) (F0 m pc ls [.int (mI v)]) := by
  subst hv
  exact W.iret hx hb hr (fun t ht _ => ⟨u, rfl, hu, by rw [ht]; exact hP, hS.F ht⟩) hS.2.2 hdg hlocks
theorem mw_mretL {S : Type} {D : va_G} {post : S → Prop} {W1 : S → va_W} {A : Nat → Prop} {v v' : Int} (hx : p.tables.exec = Jvm.exec) (hb : c.code = cc) (hr : meth.sig.returnType = some .long) (hlocks : meth.locks = false) (hdg : decode cc pc = .ok (.lreturn, 1)) (u : S) (hu : post u) (hP : va_P D vwCl (W1 u) H) (hS : va_S A s.heap H locs) (hv : v = v') : W p l e R s m args below meth c H locs 0 0 (MQ below (mQM D (some (.long (mL v'))) post W1 A) args s 0 0 A) (F0 m pc ls [.long (mL v)]) := by
  subst hv
  exact W.lret hx hb hr (fun t ht _ => ⟨u, rfl, hu, by rw [ht]; exact hP, hS.F ht⟩) hS.2.2 hdg hlocks
theorem mw_mretZ {S : Type} {D : va_G} {post : S → Prop} {W1 : S → va_W} {A : Nat → Prop} {v : Int} {q : Prop} [Decidable q] (hx : p.tables.exec = Jvm.exec) (hb : c.code = cc) (hr : meth.sig.returnType = some .boolean) (hlocks : meth.locks = false) (hdg : decode cc pc = .ok (.ireturn, 1)) (u : S) (hu : post u) (hP : va_P D vwCl (W1 u) H) (hS : va_S A s.heap H locs) (hv : v = mB q) : W p l e R s m args below meth c H locs 0 0 (MQ below (mQM D (some (.int (mI (mB q)))) post W1 A) args s 0 0 A) (F0 m pc ls [.int (mI v)]) := by
  subst hv
  exact W.zret hx hb hr mB_nar (fun t ht _ => ⟨u, rfl, hu, by rw [ht]; exact hP, hS.F ht⟩) hS.2.2 hdg hlocks
theorem mw_mretV {S : Type} {D : va_G} {post : S → Prop} {W1 : S → va_W} {A : Nat → Prop} (hx : p.tables.exec = Jvm.exec) (hb : c.code = cc) (hr : meth.sig.returnType = none) (hlocks : meth.locks = false) (hdg : decode cc pc = .ok (.return_, 1)) (u : S) (hu : post u) (hP : va_P D vwCl (W1 u) H) (hS : va_S A s.heap H locs) : W p l e R s m args below meth c H locs 0 0 (MQ below (mQM D none post W1 A) args s 0 0 A) (F0 m pc ls []) :=
  W.vret hx hb hr (fun t ht _ => ⟨u, rfl, hu, by rw [ht]; exact hP, hS.F ht⟩) hS.2.2 hdg hlocks
/-! fields and rows -/
theorem mw_iald (hx : p.tables.exec = Jvm.exec) (hb : c.code = cc) {D : va_G} {W0 : va_W} {tys : List (ClassId × FieldType)} {a : Nat} {cA : ClassId} {L : Int → Int} {z : Int} (hK : va_K D vwCl tys s) (hP : va_P D vwCl W0 H) (q0 : Nat) (ha : W0[q0]? = some (a, mA16 cA L)) (ht : tys[0]? = some (cA, .int)) (hz : 0 ≤ z ∧ z < 16) (hdg : decode cc pc = .ok (.iaload, 1)) (kk : W p l e R s m args below meth c H locs cells slots Q (F0 m (pc + 1) ls (.int (mI (L z)) :: rest))) : W p l e R s m args below meth c H locs cells slots Q (F0 m pc ls (.int (mI z) :: .ref a :: rest)) := by
  refine va_iald hx hb hK hP q0 0 ha ht (mI_in hz.1 (by omega) (by decide)) hdg ?_
  have h : ((mI z).toNatClampNeg : Int) = z := mI_clamp hz.1 (by omega)
  rw [h]
  exact kk
theorem mw_iast (hx : p.tables.exec = Jvm.exec) (hb : c.code = cc) {D : va_G} {W0 : va_W} {A : Nat → Prop} {H0 : Heap} {tys : List (ClassId × FieldType)} {a : Nat} {cA : ClassId} {L : Int → Int} {z x : Int} (hK : va_K D vwCl tys s) (hP : va_P D vwCl W0 H) (hD : va_D A W0) (hS : va_S A H0 H locs) (q0 : Nat) (ha : W0[q0]? = some (a, mA16 cA L)) (ht : tys[0]? = some (cA, .int)) (hz : 0 ≤ z ∧ z < 16) (hdg : decode cc pc = .ok (.iastore, 1)) (kk : ∀ (H1 : Heap) (locs1 : List Loc), va_P D vwCl (W0.set q0 (a, mA16 cA (mU L z x))) H1 → va_S A H0 H1 locs1 → W p l e R s m args below meth c H1 locs1 cells slots Q (F0 m (pc + 1) ls rest)) : W p l e R s m args below meth c H locs cells slots Q (F0 m pc ls (.int (mI x) :: .int (mI z) :: .ref a :: rest)) := by
  refine va_iast hx hb hK hP hD hS q0 0 ha ht (mI_in hz.1 (by omega) (by decide)) hdg (fun H1 locs1 h1 _ h2 => kk H1 locs1 ?_ h2)
  rw [mU_upd L hz.1 (by omega)] at h1
  exact h1
theorem mw_alen (hx : p.tables.exec = Jvm.exec) (hb : c.code = cc) {D : va_G} {W0 : va_W} {tys : List (ClassId × FieldType)} {a : Nat} {cA : ClassId} {L : Int → Int} (hK : va_K D vwCl tys s) (hP : va_P D vwCl W0 H) (q0 : Nat) (ha : W0[q0]? = some (a, mA16 cA L)) (ht : tys[0]? = some (cA, .int)) (hdg : decode cc pc = .ok (.arraylength, 1)) (kk : W p l e R s m args below meth c H locs cells slots Q (F0 m (pc + 1) ls (.int (mI 16) :: rest))) : W p l e R s m args below meth c H locs cells slots Q (F0 m pc ls (.ref a :: rest)) := va_alen hx hb hK hP q0 0 ha ht rfl hdg kk
theorem mw_getX (hx : p.tables.exec = Jvm.exec) (hb : c.code = cc) {Ts : List Cond} (hts : ∀ w ∈ Ts, w.before args s = true) (hin : ∀ w ∈ wsX00, w ∈ Ts) (hown : s.vm.findClass RX0 = some m.cls) {D : va_G} {W0 : va_W} {tys : List (ClassId × FieldType)} {a index : Nat} {fs : List Value} (hK : va_K D vwCl tys s) (hP : va_P D vwCl W0 H) (he : W0[0]? = some (a, .inr (0, fs))) (k : Nat) (hk : k < 10) (hlink : (Cond.fieldLink RX0 index "MarketWeeks" (TX0 k).2.1 (TX0 k).2.2.1) ∈ Ts) (h1 : (TX0 k).1 = "MarketWeeks") {v : Value} (hv : fs[k]? = some v) (hdg : decode cc pc = .ok (.getfield index, 3)) (kk : W p l e R s m args below meth c H locs cells slots Q (F0 m (pc + 3) ls (v :: rest))) : W p l e R s m args below meth c H locs cells slots Q (F0 m pc ls (.ref a :: rest)) := va_get (D := D) (ci := 0) (C := RX0) (T := TX0) (N := 10) hx hb hts hin hown hK hP 0 he rfl k hk (hts _ hlink) (by rw [h1]; exact fun _ h9 => h9) hv hdg kk
theorem mw_putX (hx : p.tables.exec = Jvm.exec) (hb : c.code = cc) {Ts : List Cond} (hts : ∀ w ∈ Ts, w.before args s = true) (hin : ∀ w ∈ wsX00, w ∈ Ts) (hown : s.vm.findClass RX0 = some m.cls) {D : va_G} {A : Nat → Prop} {H0 : Heap} {W0 : va_W} {tys : List (ClassId × FieldType)} {a index : Nat} {fs : List Value} {x : Int32} (hK : va_K D vwCl tys s) (hP : va_P D vwCl W0 H) (hD : va_D A W0) (hS : va_S A H0 H locs) (he : W0[0]? = some (a, .inr (0, fs))) (k : Nat) (hk : k < 10) (hl : k < fs.length) (hlink : (Cond.fieldLink RX0 index "MarketWeeks" (TX0 k).2.1 (TX0 k).2.2.1) ∈ Ts) (h1 : (TX0 k).1 = "MarketWeeks") (h2 : (TX0 k).2.2.2 = false) (h3 : parseFieldDescriptor (TX0 k).2.2.1 = some .int) (hdg : decode cc pc = .ok (.putfield index, 3)) (kk : ∀ (H1 : Heap) (locs1 : List Loc), va_P D vwCl (W0.set 0 (a, .inr (0, fs.set k (.int x)))) H1 → va_S A H0 H1 locs1 → W p l e R s m args below meth c H1 locs1 cells slots Q (F0 m (pc + 3) ls rest)) : W p l e R s m args below meth c H locs cells slots Q (F0 m pc ls (.int x :: .ref a :: rest)) := va_put (D := D) (ci := 0) (C := RX0) (T := TX0) (N := 10) hx hb hts hin tyX0 tyX0_ok nmX0 hown hK hP hD hS 0 he rfl k hk (hts _ hlink) (by rw [h1]; exact fun _ h9 => h9) h2 h3 rfl rfl hl hdg (fun H1 locs1 h4 _ h5 => kk H1 locs1 h4 h5)
end MWC
