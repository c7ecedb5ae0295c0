def mIf {α : Type} (e : Nat) (x y : α) : α := if e = 0 then x else y
theorem mIf_0 {α : Type} {e : Nat} {x y : α} (h : e = 0) : mIf e x y = x := if_pos h
theorem mIf_1 {α : Type} {e : Nat} {x y : α} (h : e ≠ 0) : mIf e x y = y := if_neg h
def mQX (D : va_G) (mk : Int → Option Value) (post : Int × Int × Int → Prop) (W1 : Int × Int × Int → va_W) (A : Nat → Prop) : Array Value → State → Outcome → State → Prop := fun _ st o t => ∃ u : Int × Int × Int, o = .returned (mk u.1) ∧ post u ∧ va_P D vwCl (W1 u) t.heap ∧ va_F A st t
def mY (l : Launch) (y : MethodName) (ws : List Cond) (rm : Room) (av : List Value) (D : va_G) (W0 : va_W) (tys : List (ClassId × FieldType)) (mk : Int → Option Value) (post : Int × Int × Int → Prop) (W1 : Int × Int × Int → va_W) (A : Nat → Prop) : Prop := Met l y ws rm (va_Pc av (mwB D W0 tys)) (mQX D mk post W1 A) 0 0 A
theorem mw_openY {l : Launch} {y : MethodName} {ws ws' : List Cond} {rm : Room} {av : List Value} {D : va_G} {W0 : va_W} {tys : List (ClassId × FieldType)} {mk : Int → Option Value} {post : Int × Int × Int → Prop} {W1 : Int × Int × Int → va_W} {A : Nat → Prop} {cc : ByteArray} {maxL : Nat} {ret : Option FieldType} (hy : plainName y.cls = true) (hw : ws = Cond.code y cc maxL ret :: ws') (hlen : (lg_sl av).length ≤ maxL)
    (body : ∀ (p : Program) (e : Env) (s : State) (m : MethodId) (below : List Frame) (meth : Method) (c : Code) (ls : Array Slot), CallFix p m c cc maxL s av.toArray ws y.cls → meth.sig.returnType = ret → meth.locks = false → mwB D W0 tys s → lv_has ls maxL (lv_args 0 av) → W p l e rm s m av.toArray below meth c s.heap [] 0 0 (MQ below (mQX D mk post W1 A) av.toArray s 0 0 A) (F0 m 0 ls [])) : mY l y ws rm av D W0 tys mk post W1 A := by
  refine Met.ofW (cc := cc) (maxL := maxL) (ret := ret) hy hw ?_
  intro p e s m args below meth c s₁ B1 hml hv
  obtain ⟨rfl, hB⟩ := hv
  have hl := lv_entry av (n := maxL) hlen
  rw [lg_entry_eq]
  exact body p e s m below meth c _ ⟨B1.exec, B1.bytes, hml, findClass_of_methodNamed B1.named, atoms_spec (ws := ws) B1.pre⟩ B1.returns B1.notSynchronized hB hl
theorem mw_wk {D : va_G} {h0 a1 a2 : Nat} {cA : ClassId} {t t' f g : Int} {v v' : Nat → Int} {L L' P P' : Int → Int} {H : Heap} (h1 : t = t') (h2 : v = v') (h3 : L = L') (h4 : P = P') (hP : va_P D vwCl (mMW h0 a1 a2 cA t f g v L P) H) : va_P D vwCl (mMW h0 a1 a2 cA t' f g v' L' P') H := by
  subst h1; subst h2; subst h3; subst h4; exact hP
section MWY
variable {p : Program} {l : Launch} {e : Env} {R : Room} {s : State} {m : MethodId} {args : Array Value} {below : List Frame} {meth : Method} {c : Code} {H : Heap} {locs : List Loc}
variable {cc : ByteArray} {pc : Nat} {ls : Array Slot} {D : va_G} {post : Int × Int × Int → Prop} {W1 : Int × Int × Int → va_W} {A : Nat → Prop} {v : Int}
theorem mw_yretI (hx : p.tables.exec = Jvm.exec) (hb : c.code = cc) (hr : meth.sig.returnType = some .int) (hlocks : meth.locks = false) (hdg : decode cc pc = .ok (.ireturn, 1)) (f g : Int) (hu : post (v, f, g)) (hP : va_P D vwCl (W1 (v, f, g)) H) (hS : va_S A s.heap H locs) : W p l e R s m args below meth c H locs 0 0 (MQ below (mQX D (fun r => some (.int (mI r))) post W1 A) args s 0 0 A) (F0 m pc ls [.int (mI v)]) :=
  W.iret hx hb hr (fun t ht _ => ⟨(v, f, g), rfl, hu, by rw [ht]; exact hP, hS.F ht⟩) hS.2.2 hdg hlocks
theorem mw_yretZ (hx : p.tables.exec = Jvm.exec) (hb : c.code = cc) (hr : meth.sig.returnType = some .boolean) (hlocks : meth.locks = false) (hdg : decode cc pc = .ok (.ireturn, 1)) (hn : narrow .boolean (.int (mI v)) = .int (mI v)) (f g : Int) (hu : post (v, f, g)) (hP : va_P D vwCl (W1 (v, f, g)) H) (hS : va_S A s.heap H locs) : W p l e R s m args below meth c H locs 0 0 (MQ below (mQX D (fun r => some (.int (mI r))) post W1 A) args s 0 0 A) (F0 m pc ls [.int (mI v)]) :=
  W.zret hx hb hr hn (fun t ht _ => ⟨(v, f, g), rfl, hu, by rw [ht]; exact hP, hS.F ht⟩) hS.2.2 hdg hlocks
theorem mw_yretL (hx : p.tables.exec = Jvm.exec) (hb : c.code = cc) (hr : meth.sig.returnType = some .long) (hlocks : meth.locks = false) (hdg : decode cc pc = .ok (.lreturn, 1)) (f g : Int) (hu : post (v, f, g)) (hP : va_P D vwCl (W1 (v, f, g)) H) (hS : va_S A s.heap H locs) : W p l e R s m args below meth c H locs 0 0 (MQ below (mQX D (fun r => some (.long (mL r))) post W1 A) args s 0 0 A) (F0 m pc ls [.long (mL v)]) :=
  W.lret hx hb hr (fun t ht _ => ⟨(v, f, g), rfl, hu, by rw [ht]; exact hP, hS.F ht⟩) hS.2.2 hdg hlocks
theorem mw_yretV (hx : p.tables.exec = Jvm.exec) (hb : c.code = cc) (hr : meth.sig.returnType = none) (hlocks : meth.locks = false) (hdg : decode cc pc = .ok (.return_, 1)) (f g : Int) (hu : post (0, f, g)) (hP : va_P D vwCl (W1 (0, f, g)) H) (hS : va_S A s.heap H locs) : W p l e R s m args below meth c H locs 0 0 (MQ below (mQX D (fun _ => none) post W1 A) args s 0 0 A) (F0 m pc ls []) :=
  W.vret hx hb hr (fun t ht _ => ⟨(0, f, g), rfl, hu, by rw [ht]; exact hP, hS.F ht⟩) hS.2.2 hdg hlocks
end MWY
theorem m_flt (v : Nat → Int) (z : Int) : (¬ (1 ≤ mPop z 32 ∧ mPop z 32 ≤ 5) ∧ mFlt v z = 1) ∨ ((1 ≤ mPop z 32 ∧ mPop z 32 ≤ 5) ∧ ¬ mUsh z (v 0) = 0 ∧ mFlt v z = 2) ∨ ((1 ≤ mPop z 32 ∧ mPop z 32 ≤ 5) ∧ mUsh z (v 0) = 0 ∧ mFlt v z = 0) := by
  unfold mFlt
  by_cases h : 1 ≤ mPop z 32 ∧ mPop z 32 ≤ 5
  · by_cases h2 : mUsh z (v 0) = 0
    · exact Or.inr (Or.inr ⟨h, h2, by rw [mEx2_0 h h2]; rfl⟩)
    · exact Or.inr (Or.inl ⟨h, h2, by rw [mEx2_2 h h2]; rfl⟩)
  · exact Or.inl ⟨h, by rw [mEx2_1 h]; rfl⟩
theorem m_flt3 {v : Nat → Int} {z : Int} {a c : Prop} [Decidable a] [Decidable c] (h : mFlt v z ≠ 0) (ha : (1 ≤ mPop z 32 ∧ mPop z 32 ≤ 5) ↔ a) : mFlt v z = ((mEx3 a (mUsh z (v 0) = 0) c : Nat) : Int) := by
  rcases m_flt v z with ⟨h1, h2⟩ | ⟨h1, h2, h3⟩ | ⟨h1, h2, h3⟩
  · rw [mEx3_1 (fun q => h1 (ha.mpr q)), h2]; rfl
  · rw [mEx3_2 (ha.mp h1) h2, h3]; rfl
  · exact absurd h3 h
set_option maxHeartbeats 400000 in
set_option maxRecDepth 100000 in
theorem c_X1_goesWell (l : Launch) (D : va_G) (h0 a1 a2 : Nat) (cA cJ : ClassId) (t f g : Int) (v : Nat → Int) (L P : Int → Int) (k : Int) (hk : mRI k) (hdis : mDis h0 a1 a2) : mM (S := Unit) l yX1_goesWell wsX1_goesWell ({ frames := 0, cells := 0, slots := 0, locals := 0 }) [.ref h0, .int (mI (k))] D (mMW h0 a1 a2 cA t f g v L P) (mTy cA cJ) (some (.int (mI (mB (k = 0))))) (fun _ => True) (fun _ => mMW h0 a1 a2 cA k f g v L P) (mA3 h0 a1 a2) := by
  refine mw_openM (cc := cX1_goesWell) (maxL := 2) (ret := (some .boolean)) (by decide) rfl (Nat.le_of_ble_eq_true rfl) ?_
  intro p e s m below meth c ls hC hr hlocks hB hl
  obtain ⟨hx, hb, hml, hown, hts⟩ := id hC
  obtain ⟨hP, hK⟩ := hB
  have hin : ∀ w ∈ wsX10, w ∈ wsX1_goesWell := by decide +kernel
  have hl : lv_has ls 2 [(0, .ref h0), (1, .int (mI (k)))] := hl
  have hS : va_S (mA3 h0 a1 a2) s.heap s.heap [] := va_S.rf
  have hDD : ∀ (t f g : Int) (v : Nat → Int) (L P : Int → Int), va_D (mA3 h0 a1 a2) (mMW h0 a1 a2 cA t f g v L P) := fun t f g v L P => mD3 hdis (mA3_in h0 a1 a2)
  have hD := hDD t f g v L P
  refine lv_aload_n hx hb dX1_goesWell_0 rfl (lv_at hl 0 rfl) ?_
  refine lv_iload_n hx hb dX1_goesWell_1 rfl (lv_at hl 1 rfl) ?_
  refine mw_putM hx hb hts hin hown hK hP hD hS rfl 0 (by decide) (Nat.le_of_ble_eq_true rfl) (by decide +kernel) rfl rfl (by decide +kernel) dX1_goesWell_2 (fun H locs hP hS => ?_)
  have hP : va_P D vwCl (mMW h0 a1 a2 cA k f g v L P) H := hP
  have hD := hDD k f g v L P
  refine lv_iload_n hx hb dX1_goesWell_5 rfl (lv_at hl 1 rfl) ?_
  refine mw_if_ne (tgt := 13) hx hb (by omega) dX1_goesWell_6 (by decide) (fun c_6 => ?_) (fun c_6 => ?_)
  · refine mw_iconst hx hb dX1_goesWell_13 ?_
    exact mw_mretZ hx hb hr hlocks dX1_goesWell_14 () trivial hP hS (by first | rfl | exact (mB_t (by omega)).symm | exact (mB_f (by omega)).symm | exact mB_iff (by omega) | omega)
  · refine mw_iconst hx hb dX1_goesWell_9 ?_
    refine lv_goto (tgt := 14) hx hb dX1_goesWell_10 (by decide) ?_
    exact mw_mretZ hx hb hr hlocks dX1_goesWell_14 () trivial hP hS (by first | rfl | exact (mB_t (by omega)).symm | exact (mB_f (by omega)).symm | exact mB_iff (by omega) | omega)
