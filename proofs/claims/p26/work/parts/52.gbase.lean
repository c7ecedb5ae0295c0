theorem mw_keepP {D : va_G} {cl : List vw_C} {ws : va_W} {H H1 : Heap} (hP : va_P D cl ws H) (hk : ∀ q : Nat, q < H.size → H1[q]? = H[q]?) : va_P D cl ws H1 := hP.kept (fun k q hq => hk q.1 (hP k q hq).lt)
/-- which classes of exceptions are no others -/
def mwN (U : State) : Prop := va_Nc mEA mES U ∧ va_Nc mEA mEI U ∧ va_Nc mES mEA U ∧ va_Nc mES mEI U ∧ va_Nc mEI mEA U ∧ va_Nc mEI mES U
theorem mwN_moved {u U : State} (hv : u.vm.Alike U.vm) (h : mwN u) : mwN U := ⟨h.1.moved hv, h.2.1.moved hv, h.2.2.1.moved hv, h.2.2.2.1.moved hv, h.2.2.2.2.1.moved hv, h.2.2.2.2.2.moved hv⟩
/-- one of four numbers -/
def mK4 (ex : Nat) (a b c d : Int) : Int := if ex = 0 then a else if ex = 1 then b else if ex = 2 then c else d
/-- a method of the law: its answer, the world behind it, how much is new at the least -/
def mQR (D : va_G) (r : Int) (g : Nat) (W1 : va_W) (A : Nat → Prop) : Array Value → State → Outcome → State → Prop := fun _ st o t => o = .returned (some (.int (mI r))) ∧ va_P D vwCl W1 t.heap ∧ va_F A st t ∧ st.heap.size + g ≤ t.heap.size
def mG (l : Launch) (y : MethodName) (ws : List Cond) (rm : Room) (av : List Value) (D : va_G) (W0 : va_W) (tys : List (ClassId × FieldType)) (r : Int) (g : Nat) (W1 : va_W) (A : Nat → Prop) (mc ms : Nat) : Prop := Met l y ws rm (va_Pc av (fun U => mwB D W0 tys U ∧ mwE U ∧ mwN U)) (mQR D r g W1 A) mc ms A
theorem mw_openK {l : Launch} {y : MethodName} {ws ws' : List Cond} {rm : Room} {av : List Value} {D : va_G} {W0 : va_W} {tys : List (ClassId × FieldType)} {r : Int} {g : Nat} {W1 : va_W} {A : Nat → Prop} {mc ms : Nat} {cc : ByteArray} {maxL : Nat} {ret : Option FieldType} {hh : List (Nat × Nat × Nat × Nat)} (hy : plainName y.cls = true) (hw : ws = Cond.codeWith y cc maxL ret hh :: ws') (hlen : (lg_sl av).length ≤ maxL)
    (body : ∀ (p : Program) (e : Env) (s : State) (m : MethodId) (below : List Frame) (meth : Method) (c : Code) (ls : Array Slot), CallFix p m c cc maxL s av.toArray ws y.cls → meth.sig.returnType = ret → meth.locks = false → c.exceptionTable.toList = tableOf hh → mwB D W0 tys s → mwE s → mwN s → lv_has ls maxL (lv_args 0 av) → W p l e rm s m av.toArray below meth c s.heap [] 0 0 (MQ below (mQR D r g W1 A) av.toArray s mc ms A) (F0 m 0 ls [])) : mG l y ws rm av D W0 tys r g W1 A mc ms := by
  refine va_MetW (cc := cc) (maxL := maxL) (ret := ret) (hh := hh) hy hw ?_
  intro p e s m args below meth c s₁ B1 hml hv
  obtain ⟨rfl, hB, hE, hN⟩ := hv
  have hl := lv_entry av (n := maxL) hlen
  have hts := atoms_spec (ws := ws) B1.pre
  rw [lg_entry_eq]
  exact body p e s m below meth c _ ⟨B1.exec, B1.bytes, hml, findClass_of_methodNamed B1.named, hts⟩ B1.returns B1.notSynchronized (vx_table (x := y) B1 (hts _ (by rw [hw]; exact List.mem_cons_self))) hB hE hN hl
theorem mw_openG {l : Launch} {y : MethodName} {ws ws' : List Cond} {rm : Room} {av : List Value} {D : va_G} {W0 : va_W} {tys : List (ClassId × FieldType)} {r : Int} {g : Nat} {W1 : va_W} {A : Nat → Prop} {mc ms : Nat} {cc : ByteArray} {maxL : Nat} {ret : Option FieldType} (hy : plainName y.cls = true) (hw : ws = Cond.code y cc maxL ret :: ws') (hlen : (lg_sl av).length ≤ maxL)
    (body : ∀ (p : Program) (e : Env) (s : State) (m : MethodId) (below : List Frame) (meth : Method) (c : Code) (ls : Array Slot), CallFix p m c cc maxL s av.toArray ws y.cls → meth.sig.returnType = ret → meth.locks = false → mwB D W0 tys s → mwE s → mwN s → lv_has ls maxL (lv_args 0 av) → W p l e rm s m av.toArray below meth c s.heap [] 0 0 (MQ below (mQR D r g W1 A) av.toArray s mc ms A) (F0 m 0 ls [])) : mG l y ws rm av D W0 tys r g W1 A mc ms := by
  refine Met.ofW (cc := cc) (maxL := maxL) (ret := ret) hy hw ?_
  intro p e s m args below meth c s₁ B1 hml hv
  obtain ⟨rfl, hB, hE, hN⟩ := hv
  have hl := lv_entry av (n := maxL) hlen
  rw [lg_entry_eq]
  exact body p e s m below meth c _ ⟨B1.exec, B1.bytes, hml, findClass_of_methodNamed B1.named, atoms_spec (ws := ws) B1.pre⟩ B1.returns B1.notSynchronized hB hE hN hl
theorem mwZ_useA {A0 : Nat → Prop} {s U : State} {H : Heap} {locs : List Loc} (h : mwZ A0 s s.heap) (hS : va_S A0 s.heap H locs) (hU : U.heap = H) (hW : s.WarmedH U.vm) : mwZ (fun _ => False) U U.heap := by
  subst hU
  have h2 : mwZ A0 s U.heap := ⟨h.1.kept (fun a ha hn => hS.2.1 a ha hn), h.2.kept (fun a ha hn => hS.2.1 a ha hn)⟩
  have h3 := mwZ_moved hW.alike h2
  exact ⟨h3.1.narrow (fun _ q => q.elim), h3.2.narrow (fun _ q => q.elim)⟩
theorem mwZ_wide {A0 : Nat → Prop} {s : State} {H : Heap} (h : mwZ (fun _ => False) s H) (hA : ∀ q, A0 q → False) : mwZ A0 s H := ⟨h.1.narrow hA, h.2.narrow hA⟩
theorem mw_grow {A A0 : Nat → Prop} {H0 H H1 : Heap} {locs L : List Loc} (hS : va_S A0 H0 H locs) (hA : ∀ q, A q → A0 q) (hz : H.size ≤ H1.size) (hk : ∀ q : Nat, q < H.size → ¬ A q → H1[q]? = H[q]?) (hL : ∀ q ∈ L, A q.base) : va_S A0 H0 H1 (locs ++ L) := ⟨Nat.le_trans hS.1 hz, fun q h1 h2 => by rw [hk q (Nat.lt_of_lt_of_le h1 hS.1) (fun z => h2 (hA q z))]; exact hS.2.1 q h1 h2, fun q hq => by
  rcases List.mem_append.mp hq with h | h
  · exact hS.2.2 q h
  · exact hA _ (hL q h)⟩
section MWW
variable {p : Program} {l : Launch} {e : Env} {R : Room} {s : State} {m : MethodId} {args : Array Value} {below : List Frame} {meth : Method} {c : Code} {H : Heap} {locs : List Loc} {cells slots : Nat} {Q : State → Prop}
variable {cc : ByteArray} {pc : Nat} {ls : Array Slot} {rest st0 : List Value}
variable {y : MethodName} {bytes : ByteArray} {maxL nL n index : Nat} {ret : Option FieldType} {hh : List (Nat × Nat × Nat × Nat)} {ws Ts : List Cond} {rm : Room} {own : String} {b : Addr} {As : List Value} {D : va_G} {W0 W1 : va_W} {tys : List (ClassId × FieldType)}
theorem mw_cX {es : List String} {ex : Nat} {v : Option Value} {A A0 : Nat → Prop} {fs : List Value} (S : CallFix p m c cc nL s args Ts own) (hM : mX l y ws rm (.ref b :: As) D W0 tys es ex v W1 A) (hE : mwE s) (cw : CallW R s args own RX0 index y bytes maxL ret ws rm (mC ex) (6 * mC ex) n) (hK : va_K D vwCl tys s) (hP : va_P D vwCl W0 s.heap) (hA : ∀ q, A q → A0 q) (he : W0[0]? = some (b, .inr (0, fs))) (hn : As.length = n) (hsz : ls.size = nL) (hst : st0 = As.reverse ++ .ref b :: rest) (hW : (rest.map fun v => v.category).sum ≤ 8) (hR : mC ex ≤ R.cells ∧ 6 * mC ex ≤ R.slots) (hdg : decode cc pc = .ok (.invokevirtual index, 3))
    (kk : ∀ (H1 : Heap) (locs1 : List Loc), ex = 0 → va_P D vwCl W1 H1 → va_S A0 s.heap H1 locs1 → (∀ q : Nat, q < s.heap.size → ¬ A q → H1[q]? = s.heap[q]?) → W p l e R s m args below meth c H1 locs1 (0 + mC ex) (0 + 6 * mC ex) Q (F0 m (pc + 3) ls (v.toList ++ rest)))
    (kx : ∀ (E : String) (ce : Cell) (q9 : Addr) (H1 : Heap) (locs1 : List Loc) (k : Nat), ex = k + 1 → es[k]? = some E → (∀ q : Nat, q < s.heap.size → H1[q]? = s.heap[q]?) → va_S A0 s.heap H1 locs1 → s.heap.size < H1.size → H1[q9]? = some ce → ce.vm = .none → s.vm.findClass E = some ce.cls → vx_W p l e R s m args below meth c H1 locs1 (0 + mC ex) (0 + 6 * mC ex) Q (F0 m pc ls rest) q9) : W p l e R s m args below meth c s.heap [] 0 0 Q (F0 m pc ls st0) := by
  have hr := vx_runV (e := e) (below := below) (meth := meth) (locs := []) (cells := 0) (slots := 0) (rest := rest) S hM cw ⟨fun a U g mk h => ⟨h.1, mwB_blind h.2.1, mwE_blind h.2.2⟩, va_recv (ci := 0) (q := (RX0, TX0, 10)) hK hP rfl he, fun U hU hW1 => ⟨rfl, ⟨by rw [hU]; exact hP, va_K.moved hW1.alike hK⟩, mwE_warm hU hW1 hE⟩⟩ (g := F0 m pc ls st0) rfl hn hsz hst (lv_room hW) hdg ⟨by rw [Nat.zero_add]; exact hR.1, by rw [Nat.zero_add]; exact hR.2⟩
  intro T hT X
  rcases hr T hT X with ⟨v1, st₀, t, T', L, h0, X', hL, e1, e2, ⟨hex, hv, hP1, hz, hk⟩, st⟩ | ⟨q, st₀, t, T', L, E1, ce, h0, X', hL, e1, e2, ⟨⟨k, hk1, hk2⟩, ⟨hz, hk⟩, hg⟩, hce, hcv, hcl, st⟩
  · cases hv
    rw [h0] at hz hk
    obtain ⟨t2, a1, b1⟩ := kk T'.heap ([] ++ L) hex (by rw [e1]; exact hP1) ⟨by rw [e1]; exact hz, fun q h1 h2 => by rw [e1]; exact hk q h1 (fun z => h2 (hA q z)), fun q hq => hA _ (hL q (by simpa using hq))⟩ (fun q h1 h2 => by rw [e1]; exact hk q h1 h2) T' rfl X'
    exact ⟨t2, st t2 a1, b1⟩
  · rw [h0] at hz hk hg
    obtain ⟨t2, a1, b1⟩ := kx E1 ce q T'.heap ([] ++ L) k hk1 hk2 (fun q h1 => by rw [e1]; exact hk q h1 (fun z => z)) ⟨by rw [e1]; exact hz, fun q h1 _ => by rw [e1]; exact hk q h1 (fun z => z), fun q hq => hA _ (hL q (by simpa using hq))⟩ (by rw [e1]; exact hg) (by rw [e1]; exact hce) hcv hcl T' rfl X'
    exact ⟨t2, st.trans a1, b1⟩
theorem mw_gret {r r' : Int} {g : Nat} {A : Nat → Prop} {mc ms : Nat} (hx : p.tables.exec = Jvm.exec) (hb : c.code = cc) (hr : meth.sig.returnType = some .int) (hlocks : meth.locks = false) (hdg : decode cc pc = .ok (.ireturn, 1)) (hr9 : r' = r) (hg : s.heap.size + g ≤ H.size) (hP : va_P D vwCl W1 H) (hS : va_S A s.heap H locs) (hc : cells ≤ mc ∧ slots ≤ ms) : W p l e R s m args below meth c H locs cells slots (MQ below (mQR D r g W1 A) args s mc ms A) (F0 m pc ls [.int (mI r')]) := by
  subst hr9
  exact W.widen hc.1 hc.2 (W.iret hx hb hr (fun t ht _ => ⟨rfl, by rw [ht]; exact hP, hS.F ht, by rw [ht]; exact hg⟩) hS.2.2 hdg hlocks)
theorem mw_gretZ {r r' : Int} {g : Nat} {A : Nat → Prop} {mc ms : Nat} (hx : p.tables.exec = Jvm.exec) (hb : c.code = cc) (hr : meth.sig.returnType = some .boolean) (hlocks : meth.locks = false) (hdg : decode cc pc = .ok (.ireturn, 1)) (hn9 : narrow .boolean (.int (mI r)) = .int (mI r)) (hr9 : r' = r) (hg : s.heap.size + g ≤ H.size) (hP : va_P D vwCl W1 H) (hS : va_S A s.heap H locs) (hc : cells ≤ mc ∧ slots ≤ ms) : W p l e R s m args below meth c H locs cells slots (MQ below (mQR D r g W1 A) args s mc ms A) (F0 m pc ls [.int (mI r')]) := by
  subst hr9
  exact W.widen hc.1 hc.2 (W.zret hx hb hr hn9 (fun t ht _ => ⟨rfl, by rw [ht]; exact hP, hS.F ht, by rw [ht]; exact hg⟩) hS.2.2 hdg hlocks)
/-- a method of the face is called, which doesn't throw -/
theorem mw_cXn {es : List String} {ex : Nat} {v : Option Value} {A0 : Nat → Prop} {fs : List Value} (S : CallFix p m c cc nL s args Ts own) (hM : mX l y ws rm (.ref b :: As) D W0 tys es ex v W1 (fun _ => False)) (hex : ex = 0) (hES : mwS s) (hZS : mwZ A0 s s.heap) (cw : CallW R s args own RX0 index y bytes maxL ret ws rm (mC ex) (6 * mC ex) n) (hK : va_K D vwCl tys s) (hP : va_P D vwCl W0 H) (hS : va_S A0 s.heap H locs) (he : W0[0]? = some (b, .inr (0, fs))) (hn : As.length = n) (hsz : ls.size = nL) (hst : st0 = As.reverse ++ .ref b :: rest) (hW : (rest.map fun v => v.category).sum ≤ 8) (hf : cells ≤ R.cells ∧ slots ≤ R.slots) (hdg : decode cc pc = .ok (.invokevirtual index, 3))
    (kk : ∀ (H1 : Heap) (locs1 : List Loc), va_S A0 s.heap H1 locs1 → H.size ≤ H1.size → (∀ q : Nat, q < H.size → H1[q]? = H[q]?) → W p l e R s m args below meth c H1 locs1 cells slots Q (F0 m (pc + 3) ls (v.toList ++ rest))) : W p l e R s m args below meth c H locs cells slots Q (F0 m pc ls st0) := by
  have c0 := mC_0 hex
  have c1 : cells + mC ex = cells := by rw [c0]; rfl
  have c2 : slots + 6 * mC ex = slots := by rw [c0]; rfl
  have hr := vx_runV (e := e) (below := below) (meth := meth) (locs := locs) (cells := cells) (slots := slots) (rest := rest) S hM cw ⟨fun a U g mk h => ⟨h.1, mwB_blind h.2.1, mwE_blind h.2.2⟩, va_recv (ci := 0) (q := (RX0, TX0, 10)) hK hP rfl he, fun U hU hW1 => ⟨rfl, ⟨by rw [hU]; exact hP, va_K.moved hW1.alike hK⟩, ⟨mwS_warm hW1 hES, mwZ_useA hZS hS hU hW1⟩⟩⟩ (g := F0 m pc ls st0) rfl hn hsz hst (lv_room hW) hdg (by rw [c1, c2]; exact hf)
  intro T hT X
  rcases hr T hT X with ⟨v1, st₀, t, T', L, h0, X', hL, e1, e2, ⟨-, hv, hP1, hz, hk⟩, st⟩ | ⟨q, st₀, t, T', L, E1, ce, h0, X', hL, e1, e2, ⟨⟨k, hk1, hk2⟩, -⟩, hce, hcv, hcl, st⟩
  · cases hv
    rw [h0] at hz hk
    rw [c1, c2] at X'
    obtain ⟨t2, a1, b1⟩ := kk T'.heap (locs ++ L) (mw_grow (A := fun _ => False) hS (fun _ h => h.elim) (by rw [e1]; exact hz) (fun q h1 _ => by rw [e1]; exact hk q h1 (fun z => z)) hL) (by rw [e1]; exact hz) (fun q h1 => by rw [e1]; exact hk q h1 (fun z => z)) T' rfl X'
    exact ⟨t2, st t2 a1, b1⟩
  · exact absurd hex (by omega)
/-- a catching method of the law is called -/
theorem mw_cK {r : Int} {g : Nat} {A A0 : Nat → Prop} {mc ms k9 n9 : Nat} (S : CallFix p m c cc nL s args Ts own) (hM : mG l y ws rm As D W0 tys r g W1 A mc ms) (cw : vx_CSW R s args own index y bytes maxL ret hh ws rm mc ms n) (hK : va_K D vwCl tys s) (hP : va_P D vwCl W0 H) (hES : mwS s) (hZS : mwZ A0 s s.heap) (hNS : mwN s) (hS : va_S A0 s.heap H locs) (hA : ∀ q, A q → A0 q) (hn : As.length = n) (hsz : ls.size = nL) (hst : st0 = As.reverse ++ rest) (hW : (rest.map fun v => v.category).sum ≤ 8) (hk9 : k9 = cells + mc) (hn9 : n9 = slots + ms) (hf : k9 ≤ R.cells ∧ n9 ≤ R.slots) (hdg : decode cc pc = .ok (.invokestatic index, 3))
    (kk : ∀ (H1 : Heap) (locs1 : List Loc), va_P D vwCl W1 H1 → va_S A0 s.heap H1 locs1 → H.size + g ≤ H1.size → (∀ q : Nat, q < H.size → ¬ A q → H1[q]? = H[q]?) → W p l e R s m args below meth c H1 locs1 k9 n9 Q (F0 m (pc + 3) ls (.int (mI r) :: rest))) : W p l e R s m args below meth c H locs cells slots Q (F0 m pc ls st0) := by
  subst hk9 hn9
  have hr := vx_runSW (e := e) (below := below) (meth := meth) (locs := locs) (cells := cells) (slots := slots) (rest := rest) S hM cw ⟨fun a U g mk h => ⟨h.1, mwB_blind h.2.1, mwE_blind h.2.2.1, mwN_moved (u := U) (U := U.calling g mk a) (Vm.Alike.refl U.vm) h.2.2.2⟩, fun U hU hW1 => ⟨rfl, ⟨by rw [hU]; exact hP, va_K.moved hW1.alike hK⟩, ⟨mwS_warm hW1 hES, mwZ_useA hZS hS hU hW1⟩, mwN_moved hW1.alike hNS⟩⟩ (g := F0 m pc ls st0) rfl hn hsz hst (lv_room hW) hdg hf
  intro T hT X
  obtain ⟨v1, st₀, t, T', L, h0, X', hL, e1, e2, ⟨hv, hP1, ⟨hz, hk⟩, hg⟩, st⟩ := hr T hT X
  cases hv
  rw [h0] at hz hk hg
  obtain ⟨t2, a1, b1⟩ := kk T'.heap (locs ++ L) (by rw [e1]; exact hP1) (mw_grow hS hA (by rw [e1]; exact hz) (fun q h1 h2 => by rw [e1]; exact hk q h1 h2) hL) (by rw [e1]; exact hg) (fun q h1 h2 => by rw [e1]; exact hk q h1 h2) T' rfl X'
  exact ⟨t2, st t2 a1, b1⟩
/-- another method of the law is called -/
theorem mw_cG {r : Int} {g : Nat} {A A0 : Nat → Prop} {mc ms k9 n9 : Nat} (S : CallFix p m c cc nL s args Ts own) (hM : mG l y ws rm As D W0 tys r g W1 A mc ms) (cw : CallB R s args own index y bytes maxL ret ws rm mc ms n ∧ (Cond.static y).before args s = true) (hK : va_K D vwCl tys s) (hP : va_P D vwCl W0 H) (hES : mwS s) (hZS : mwZ A0 s s.heap) (hNS : mwN s) (hS : va_S A0 s.heap H locs) (hA : ∀ q, A q → A0 q) (hn : As.length = n) (hsz : ls.size = nL) (hst : st0 = As.reverse ++ rest) (hW : (rest.map fun v => v.category).sum ≤ 8) (hk9 : k9 = cells + mc) (hn9 : n9 = slots + ms) (hf : k9 ≤ R.cells ∧ n9 ≤ R.slots) (hdg : decode cc pc = .ok (.invokestatic index, 3))
    (kk : ∀ (H1 : Heap) (locs1 : List Loc), va_P D vwCl W1 H1 → va_S A0 s.heap H1 locs1 → H.size + g ≤ H1.size → (∀ q : Nat, q < H.size → ¬ A q → H1[q]? = H[q]?) → W p l e R s m args below meth c H1 locs1 k9 n9 Q (F0 m (pc + 3) ls (.int (mI r) :: rest))) : W p l e R s m args below meth c H locs cells slots Q (F0 m pc ls st0) := by
  subst hk9 hn9
  have hr := va_runS (e := e) (below := below) (meth := meth) (locs := locs) (cells := cells) (slots := slots) (rest := rest) S hM cw ⟨fun a U g mk h => ⟨h.1, mwB_blind h.2.1, mwE_blind h.2.2.1, mwN_moved (u := U) (U := U.calling g mk a) (Vm.Alike.refl U.vm) h.2.2.2⟩, fun U hU hW1 => ⟨rfl, ⟨by rw [hU]; exact hP, va_K.moved hW1.alike hK⟩, ⟨mwS_warm hW1 hES, mwZ_useA hZS hS hU hW1⟩, mwN_moved hW1.alike hNS⟩⟩ (g := F0 m pc ls st0) rfl hn hsz hst (lv_room hW) hdg hf
  intro T hT X
  obtain ⟨v1, st₀, t, T', L, h0, X', hL, e1, e2, ⟨hv, hP1, ⟨hz, hk⟩, hg⟩, st⟩ := hr T hT X
  cases hv
  rw [h0] at hz hk hg
  obtain ⟨t2, a1, b1⟩ := kk T'.heap (locs ++ L) (by rw [e1]; exact hP1) (mw_grow hS hA (by rw [e1]; exact hz) (fun q h1 h2 => by rw [e1]; exact hk q h1 h2) hL) (by rw [e1]; exact hg) (fun q h1 h2 => by rw [e1]; exact hk q h1 h2) T' rfl X'
  exact ⟨t2, st t2 a1, b1⟩
theorem mw_irem (hx : p.tables.exec = Jvm.exec) (hb : c.code = cc) {x y : Int} (h0 : 0 ≤ x ∧ x < 2147483648) (h1 : 0 < y ∧ y < 2147483648) (hdg : decode cc pc = .ok (.irem, 1)) (k : W p l e R s m args below meth c H locs cells slots Q (F0 m (pc + 1) ls (.int (mI (x % y)) :: rest))) : W p l e R s m args below meth c H locs cells slots Q (F0 m pc ls (.int (mI y) :: .int (mI x) :: rest)) := by
  refine lv_irem hx hb hdg (fun h => ?_) ?_
  · rw [← mI_0, mI_eq (by omega) mI_r0] at h
    omega
  · have e1 : mI x / mI y = mI (x / y) := by
      apply Int32.toInt_inj.mp
      have hne : mI y ≠ -1 := by
        intro h
        have h2 : (mI y).toInt = (-1 : Int32).toInt := by rw [h]
        rw [mI_t (by omega)] at h2
        have h3 : (-1 : Int32).toInt = -1 := by decide +kernel
        omega
      have q1 : 0 ≤ x / y := Int.ediv_nonneg h0.1 (by omega)
      have q2 : x / y ≤ x := Int.ediv_le_self _ h0.1
      rw [Int32.toInt_div_of_ne_right _ _ hne, mI_t (by omega), mI_t (by omega), mI_t (by omega), Int.tdiv_eq_ediv_of_nonneg h0.1]
    rw [e1, mI_mul, mI_sub]
    have e2 : x - x / y * y = x % y := by
      have := Int.mul_ediv_add_emod x y
      have h2 : x / y * y = y * (x / y) := Int.mul_comm _ _
      omega
    rw [e2]
    exact k
end MWW
