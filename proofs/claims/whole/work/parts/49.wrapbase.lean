abbrev mOut (cJ : ClassId) (F : Nat → Int64) : va_E := .inl (cJ, 1, .inr (.inl F))
def mA4 (h0 a1 a2 h4 : Nat) : Nat → Prop := fun q => q = h0 ∨ q = a1 ∨ q = a2 ∨ q = h4
def mDis4 (h0 a1 a2 h4 : Nat) : Prop := mDis h0 a1 a2 ∧ h0 ≠ h4 ∧ a1 ≠ h4 ∧ a2 ≠ h4
theorem mD4 {A : Nat → Prop} {h0 a1 a2 h4 : Nat} {x y z w : va_E} (hd : mDis4 h0 a1 a2 h4) (hA : A h0 ∧ A a1 ∧ A a2 ∧ A h4) : va_D A [(h0, x), (a1, y), (a2, z), (h4, w)] := by
  have key : ∀ (i : Nat) (p : Nat × va_E), [(h0, x), (a1, y), (a2, z), (h4, w)][i]? = some p → (i = 0 ∧ p.1 = h0) ∨ (i = 1 ∧ p.1 = a1) ∨ (i = 2 ∧ p.1 = a2) ∨ (i = 3 ∧ p.1 = h4) := by
    intro i p hp
    match i, hp with
    | 0, hp => cases hp; exact Or.inl ⟨rfl, rfl⟩
    | 1, hp => cases hp; exact Or.inr (Or.inl ⟨rfl, rfl⟩)
    | 2, hp => cases hp; exact Or.inr (Or.inr (Or.inl ⟨rfl, rfl⟩))
    | 3, hp => cases hp; exact Or.inr (Or.inr (Or.inr ⟨rfl, rfl⟩))
    | i + 4, hp => simp at hp
  obtain ⟨⟨d1, d2, d3⟩, d4, d5, d6⟩ := hd
  refine ⟨fun i j p q hp hq hpq => ?_, fun k q hk => ?_⟩
  · rcases key i p hp with ⟨e1, e2⟩ | ⟨e1, e2⟩ | ⟨e1, e2⟩ | ⟨e1, e2⟩ <;> rcases key j q hq with ⟨e3, e4⟩ | ⟨e3, e4⟩ | ⟨e3, e4⟩ | ⟨e3, e4⟩ <;> omega
  · rcases key k q hk with ⟨e1, e2⟩ | ⟨e1, e2⟩ | ⟨e1, e2⟩ | ⟨e1, e2⟩
    · rw [e2]; exact hA.1
    · rw [e2]; exact hA.2.1
    · rw [e2]; exact hA.2.2.1
    · rw [e2]; exact hA.2.2.2
theorem mA4_in (h0 a1 a2 h4 : Nat) : mA4 h0 a1 a2 h4 h0 ∧ mA4 h0 a1 a2 h4 a1 ∧ mA4 h0 a1 a2 h4 a2 ∧ mA4 h0 a1 a2 h4 h4 := ⟨Or.inl rfl, Or.inr (Or.inl rfl), Or.inr (Or.inr (Or.inl rfl)), Or.inr (Or.inr (Or.inr rfl))⟩
theorem mw_keepP {D : va_G} {cl : List vw_C} {ws : va_W} {H H1 : Heap} (hP : va_P D cl ws H) (hk : ∀ q : Nat, q < H.size → H1[q]? = H[q]?) : va_P D cl ws H1 := hP.kept (fun k q hq => hk q.1 (hP k q hq).lt)
/-- which classes of exceptions are no others -/
def mwN (U : State) : Prop := va_Nc mEA mES U ∧ va_Nc mEA mEI U ∧ va_Nc mES mEA U ∧ va_Nc mES mEI U ∧ va_Nc mEI mEA U ∧ va_Nc mEI mES U
theorem mwN_moved {u U : State} (hv : u.vm.Alike U.vm) (h : mwN u) : mwN U := ⟨h.1.moved hv, h.2.1.moved hv, h.2.2.1.moved hv, h.2.2.2.1.moved hv, h.2.2.2.2.1.moved hv, h.2.2.2.2.2.moved hv⟩
/-- the law's call of a method of the face: its number of the exception, its answer in the first place of the row -/
def mQW (D : va_G) (ex : Nat) (val : Int64 → Prop) (W1 : (Nat → Int64) → va_W) (A : Nat → Prop) : Array Value → State → Outcome → State → Prop := fun _ st o t => ∃ F : Nat → Int64, o = .returned (some (.int (mI (ex : Int)))) ∧ (ex = 0 → val (F 0)) ∧ va_P D vwCl (W1 F) t.heap ∧ va_F A st t
def mW (l : Launch) (y : MethodName) (ws : List Cond) (rm : Room) (av : List Value) (D : va_G) (W0 : va_W) (tys : List (ClassId × FieldType)) (ex : Nat) (val : Int64 → Prop) (W1 : (Nat → Int64) → va_W) (A : Nat → Prop) : Prop := Met l y ws rm (va_Pc av (fun U => mwB D W0 tys U ∧ mwE U ∧ mwN U)) (mQW D ex val W1 A) 1 6 A
theorem mw_openW {l : Launch} {y : MethodName} {ws ws' : List Cond} {rm : Room} {av : List Value} {D : va_G} {W0 : va_W} {tys : List (ClassId × FieldType)} {ex : Nat} {val : Int64 → Prop} {W1 : (Nat → Int64) → va_W} {A : Nat → Prop} {cc : ByteArray} {maxL : Nat} {ret : Option FieldType} {hh : List (Nat × Nat × Nat × Nat)} (hy : plainName y.cls = true) (hw : ws = Cond.codeWith y cc maxL ret hh :: ws') (hlen : (lg_sl av).length ≤ maxL)
    (body : ∀ (p : Program) (e : Env) (s : State) (m : MethodId) (below : List Frame) (meth : Method) (c : Code) (ls : Array Slot), CallFix p m c cc maxL s av.toArray ws y.cls → meth.sig.returnType = ret → meth.locks = false → c.exceptionTable.toList = tableOf hh → mwB D W0 tys s → mwE s → mwN s → lv_has ls maxL (lv_args 0 av) → W p l e rm s m av.toArray below meth c s.heap [] 0 0 (MQ below (mQW D ex val W1 A) av.toArray s 1 6 A) (F0 m 0 ls [])) : mW l y ws rm av D W0 tys ex val W1 A := by
  refine va_MetW (cc := cc) (maxL := maxL) (ret := ret) (hh := hh) hy hw ?_
  intro p e s m args below meth c s₁ B1 hml hv
  obtain ⟨rfl, hB, hE, hN⟩ := hv
  have hl := lv_entry av (n := maxL) hlen
  have hts := atoms_spec (ws := ws) B1.pre
  rw [lg_entry_eq]
  exact body p e s m below meth c _ ⟨B1.exec, B1.bytes, hml, findClass_of_methodNamed B1.named, hts⟩ B1.returns B1.notSynchronized (vx_table (x := y) B1 (hts _ (by rw [hw]; exact List.mem_cons_self))) hB hE hN hl
section MWW
variable {p : Program} {l : Launch} {e : Env} {R : Room} {s : State} {m : MethodId} {args : Array Value} {below : List Frame} {meth : Method} {c : Code} {H : Heap} {locs : List Loc} {cells slots : Nat} {Q : State → Prop}
variable {cc : ByteArray} {pc : Nat} {ls : Array Slot} {rest st0 : List Value}
variable {y : MethodName} {bytes : ByteArray} {maxL nL n index : Nat} {ret : Option FieldType} {ws Ts : List Cond} {rm : Room} {own : String} {b : Addr} {As : List Value} {D : va_G} {W0 W1 : va_W} {tys : List (ClassId × FieldType)}
theorem mw_cX {es : List String} {ex : Nat} {v : Option Value} {A A0 : Nat → Prop} {fs : List Value} (S : CallFix p m c cc nL s args Ts own) (hM : mX l y ws rm (.ref b :: As) D W0 tys es ex v W1 A) (hE : mwE s) (cw : CallW R s args own RX0 index y bytes maxL ret ws rm 1 6 n) (hK : va_K D vwCl tys s) (hP : va_P D vwCl W0 s.heap) (hA : ∀ q, A q → A0 q) (he : W0[0]? = some (b, .inr (0, fs))) (hn : As.length = n) (hsz : ls.size = nL) (hst : st0 = As.reverse ++ .ref b :: rest) (hW : (rest.map fun v => v.category).sum ≤ 8) (hR : 1 ≤ R.cells ∧ 6 ≤ R.slots) (hdg : decode cc pc = .ok (.invokevirtual index, 3))
    (kk : ∀ (H1 : Heap) (locs1 : List Loc), ex = 0 → va_P D vwCl W1 H1 → va_S A0 s.heap H1 locs1 → (∀ q : Nat, q < s.heap.size → ¬ A q → H1[q]? = s.heap[q]?) → W p l e R s m args below meth c H1 locs1 1 6 Q (F0 m (pc + 3) ls (v.toList ++ rest)))
    (kx : ∀ (E : String) (ce : Cell) (q9 : Addr) (H1 : Heap) (locs1 : List Loc) (k : Nat), ex = k + 1 → es[k]? = some E → (∀ q : Nat, q < s.heap.size → H1[q]? = s.heap[q]?) → va_S A0 s.heap H1 locs1 → H1[q9]? = some ce → ce.vm = .none → s.vm.findClass E = some ce.cls → vx_W p l e R s m args below meth c H1 locs1 1 6 Q (F0 m pc ls rest) q9) : W p l e R s m args below meth c s.heap [] 0 0 Q (F0 m pc ls st0) := by
  have hr := vx_runV (e := e) (below := below) (meth := meth) (locs := []) (cells := 0) (slots := 0) (rest := rest) S hM cw ⟨fun a U g mk h => ⟨h.1, mwB_blind h.2.1, mwE_blind h.2.2⟩, va_recv (ci := 0) (q := (RX0, TX0, 10)) hK hP rfl he, fun U hU hW1 => ⟨rfl, ⟨by rw [hU]; exact hP, va_K.moved hW1.alike hK⟩, mwE_warm hU hW1 hE⟩⟩ (g := F0 m pc ls st0) rfl hn hsz hst (lv_room hW) hdg ⟨by rw [Nat.zero_add]; exact hR.1, by rw [Nat.zero_add]; exact hR.2⟩
  intro T hT X
  rcases hr T hT X with ⟨v1, st₀, t, T', L, h0, X', hL, e1, e2, ⟨hex, hv, hP1, hz, hk⟩, st⟩ | ⟨q, st₀, t, T', L, E1, ce, h0, X', hL, e1, e2, ⟨⟨k, hk1, hk2⟩, hz, hk⟩, hce, hcv, hcl, st⟩
  · cases hv
    rw [h0] at hz hk
    obtain ⟨t2, a1, b1⟩ := kk T'.heap ([] ++ L) hex (by rw [e1]; exact hP1) ⟨by rw [e1]; exact hz, fun q h1 h2 => by rw [e1]; exact hk q h1 (fun z => h2 (hA q z)), fun q hq => hA _ (hL q (by simpa using hq))⟩ (fun q h1 h2 => by rw [e1]; exact hk q h1 h2) T' rfl X'
    exact ⟨t2, st t2 a1, b1⟩
  · rw [h0] at hz hk
    obtain ⟨t2, a1, b1⟩ := kx E1 ce q T'.heap ([] ++ L) k hk1 hk2 (fun q h1 => by rw [e1]; exact hk q h1 (fun z => z)) ⟨by rw [e1]; exact hz, fun q h1 _ => by rw [e1]; exact hk q h1 (fun z => z), fun q hq => hA _ (hL q (by simpa using hq))⟩ (by rw [e1]; exact hce) hcv hcl T' rfl X'
    exact ⟨t2, st.trans a1, b1⟩
theorem mw_wret {ex : Nat} {val : Int64 → Prop} {V1 : (Nat → Int64) → va_W} {A : Nat → Prop} {v : Int} (hx : p.tables.exec = Jvm.exec) (hb : c.code = cc) (hr : meth.sig.returnType = some .int) (hlocks : meth.locks = false) (hdg : decode cc pc = .ok (.ireturn, 1)) (F : Nat → Int64) (hex : v = (ex : Int)) (hu : ex = 0 → val (F 0)) (hP : va_P D vwCl (V1 F) H) (hS : va_S A s.heap H locs) : W p l e R s m args below meth c H locs 1 6 (MQ below (mQW D ex val V1 A) args s 1 6 A) (F0 m pc ls [.int (mI v)]) := by
  subst hex
  exact W.iret hx hb hr (fun t ht _ => ⟨F, rfl, hu, by rw [ht]; exact hP, hS.F ht⟩) hS.2.2 hdg hlocks
/-- putting a long into the row's first place -/
theorem mw_last (hx : p.tables.exec = Jvm.exec) (hb : c.code = cc) {A : Nat → Prop} {H0 : Heap} {a : Nat} {cJ : ClassId} {F : Nat → Int64} {x : Int64} (hK : va_K D vwCl tys s) (hP : va_P D vwCl W0 H) (hD : va_D A W0) (hS : va_S A H0 H locs) (q0 : Nat) (ha : W0[q0]? = some (a, mOut cJ F)) (ht : tys[1]? = some (cJ, .long)) (hdg : decode cc pc = .ok (.lastore, 1)) (kk : ∀ (H1 : Heap) (locs1 : List Loc) (F1 : Nat → Int64), F1 0 = x → va_P D vwCl (W0.set q0 (a, mOut cJ F1)) H1 → va_S A H0 H1 locs1 → W p l e R s m args below meth c H1 locs1 cells slots Q (F0 m (pc + 1) ls rest)) : W p l e R s m args below meth c H locs cells slots Q (F0 m pc ls (.long x :: .int (mI 0) :: .ref a :: rest)) := by
  refine va_last hx hb hK hP hD hS q0 1 ha ht (mI_in (Int.le_refl 0) (by decide) (by decide)) hdg (fun H1 locs1 h1 _ h2 => kk H1 locs1 _ ?_ h1 h2)
  show (if 0 = (mI 0).toNatClampNeg then x else F 0) = x
  exact if_pos (by decide +kernel)
end MWW