section
-- ===== PART A: goes FIRST, ahead of the names: the tables' words, and 'selects' of the private methods out of them =====
/-- a private method of a class that the tables say can be made, by its rows of tables_1 -/
def lw_okq (q : MethodName × Nat) : Prop := (q.1.cls ≠ "java/lang/invoke/MethodHandle" ∧ q.1.cls ≠ "java/lang/invoke/VarHandle") ∧ Cond.instantiable q.1.cls q.2 ∈ tables_1 ∧ Cond.privateMethod q.1 ∈ tables_1 ∧ Cond.instanceMethod q.1 ∈ tables_1
theorem lw_p0 : lw_okq (⟨"java/lang/Throwable", "fillInStackTrace", "(I)Ljava/lang/Throwable;"⟩, 6) := ⟨⟨by decide +kernel, by decide +kernel⟩, List.mem_of_getElem? (i := 118) (by decide +kernel), List.mem_of_getElem? (i := 116) (by decide +kernel), List.mem_of_getElem? (i := 117) (by decide +kernel)⟩
theorem lw_p1 : lw_okq (⟨"MarketWeeks", "isPlace", "(I)Z"⟩, 10) := ⟨⟨by decide +kernel, by decide +kernel⟩, List.mem_of_getElem? (i := 11) (by decide +kernel), List.mem_of_getElem? (i := 148) (by decide +kernel), List.mem_of_getElem? (i := 149) (by decide +kernel)⟩
theorem lw_p2 : lw_okq (⟨"MarketWeeks", "checkMarket", "(I)V"⟩, 10) := ⟨⟨by decide +kernel, by decide +kernel⟩, List.mem_of_getElem? (i := 11) (by decide +kernel), List.mem_of_getElem? (i := 177) (by decide +kernel), List.mem_of_getElem? (i := 178) (by decide +kernel)⟩
theorem lw_p3 : lw_okq (⟨"MarketWeeks", "placeOf", "(I)I"⟩, 10) := ⟨⟨by decide +kernel, by decide +kernel⟩, List.mem_of_getElem? (i := 11) (by decide +kernel), List.mem_of_getElem? (i := 197) (by decide +kernel), List.mem_of_getElem? (i := 198) (by decide +kernel)⟩
theorem lw_p4 : lw_okq (⟨"MarketWeeks", "lengthOf", "(I)I"⟩, 10) := ⟨⟨by decide +kernel, by decide +kernel⟩, List.mem_of_getElem? (i := 11) (by decide +kernel), List.mem_of_getElem? (i := 201) (by decide +kernel), List.mem_of_getElem? (i := 202) (by decide +kernel)⟩
theorem lw_p5 : lw_okq (⟨"MarketWeeks", "setOn", "(I)I"⟩, 10) := ⟨⟨by decide +kernel, by decide +kernel⟩, List.mem_of_getElem? (i := 11) (by decide +kernel), List.mem_of_getElem? (i := 237) (by decide +kernel), List.mem_of_getElem? (i := 238) (by decide +kernel)⟩
theorem lw_p6 : lw_okq (⟨"MarketWeeks", "isOn", "(IJ)Z"⟩, 10) := ⟨⟨by decide +kernel, by decide +kernel⟩, List.mem_of_getElem? (i := 11) (by decide +kernel), List.mem_of_getElem? (i := 241) (by decide +kernel), List.mem_of_getElem? (i := 242) (by decide +kernel)⟩
theorem lw_p7 : lw_okq (⟨"MarketWeeks", "moonParts", "(J)J"⟩, 10) := ⟨⟨by decide +kernel, by decide +kernel⟩, List.mem_of_getElem? (i := 11) (by decide +kernel), List.mem_of_getElem? (i := 249) (by decide +kernel), List.mem_of_getElem? (i := 250) (by decide +kernel)⟩
theorem lw_p8 : lw_okq (⟨"MarketWeeks", "lunarDayOf", "(J)J"⟩, 10) := ⟨⟨by decide +kernel, by decide +kernel⟩, List.mem_of_getElem? (i := 11) (by decide +kernel), List.mem_of_getElem? (i := 263) (by decide +kernel), List.mem_of_getElem? (i := 264) (by decide +kernel)⟩
theorem lw_p9 : lw_okq (⟨"MarketWeeks", "yearOf", "(I)I"⟩, 10) := ⟨⟨by decide +kernel, by decide +kernel⟩, List.mem_of_getElem? (i := 11) (by decide +kernel), List.mem_of_getElem? (i := 271) (by decide +kernel), List.mem_of_getElem? (i := 272) (by decide +kernel)⟩
theorem lw_p10 : lw_okq (⟨"MarketWeeks", "yearBegin", "(I)I"⟩, 10) := ⟨⟨by decide +kernel, by decide +kernel⟩, List.mem_of_getElem? (i := 11) (by decide +kernel), List.mem_of_getElem? (i := 279) (by decide +kernel), List.mem_of_getElem? (i := 280) (by decide +kernel)⟩
theorem lw_p11 : lw_okq (⟨"MarketWeeks", "countHeld", "(III)I"⟩, 10) := ⟨⟨by decide +kernel, by decide +kernel⟩, List.mem_of_getElem? (i := 11) (by decide +kernel), List.mem_of_getElem? (i := 302) (by decide +kernel), List.mem_of_getElem? (i := 303) (by decide +kernel)⟩
theorem lw_p12 : lw_okq (⟨"MarketWeeks", "checkMeetingSet", "(I)V"⟩, 10) := ⟨⟨by decide +kernel, by decide +kernel⟩, List.mem_of_getElem? (i := 11) (by decide +kernel), List.mem_of_getElem? (i := 316) (by decide +kernel), List.mem_of_getElem? (i := 317) (by decide +kernel)⟩
theorem lw_p13 : lw_okq (⟨"MarketWeeks", "checkMarkets", "(I)V"⟩, 10) := ⟨⟨by decide +kernel, by decide +kernel⟩, List.mem_of_getElem? (i := 11) (by decide +kernel), List.mem_of_getElem? (i := 326) (by decide +kernel), List.mem_of_getElem? (i := 327) (by decide +kernel)⟩
theorem lw_p14 : lw_okq (⟨"MarketWeeks", "firstMeeting", "(I)J"⟩, 10) := ⟨⟨by decide +kernel, by decide +kernel⟩, List.mem_of_getElem? (i := 11) (by decide +kernel), List.mem_of_getElem? (i := 331) (by decide +kernel), List.mem_of_getElem? (i := 332) (by decide +kernel)⟩
theorem lw_p15 : lw_okq (⟨"MarketWeeks", "firstHeldInSteps", "(IJJ)J"⟩, 10) := ⟨⟨by decide +kernel, by decide +kernel⟩, List.mem_of_getElem? (i := 11) (by decide +kernel), List.mem_of_getElem? (i := 335) (by decide +kernel), List.mem_of_getElem? (i := 336) (by decide +kernel)⟩
def lw_privs_1 : List (MethodName × Nat) := [(⟨"java/lang/Throwable", "fillInStackTrace", "(I)Ljava/lang/Throwable;"⟩, 6), (⟨"MarketWeeks", "isPlace", "(I)Z"⟩, 10), (⟨"MarketWeeks", "checkMarket", "(I)V"⟩, 10), (⟨"MarketWeeks", "placeOf", "(I)I"⟩, 10), (⟨"MarketWeeks", "lengthOf", "(I)I"⟩, 10), (⟨"MarketWeeks", "setOn", "(I)I"⟩, 10), (⟨"MarketWeeks", "isOn", "(IJ)Z"⟩, 10), (⟨"MarketWeeks", "moonParts", "(J)J"⟩, 10), (⟨"MarketWeeks", "lunarDayOf", "(J)J"⟩, 10), (⟨"MarketWeeks", "yearOf", "(I)I"⟩, 10), (⟨"MarketWeeks", "yearBegin", "(I)I"⟩, 10), (⟨"MarketWeeks", "countHeld", "(III)I"⟩, 10), (⟨"MarketWeeks", "checkMeetingSet", "(I)V"⟩, 10), (⟨"MarketWeeks", "checkMarkets", "(I)V"⟩, 10), (⟨"MarketWeeks", "firstMeeting", "(I)J"⟩, 10), (⟨"MarketWeeks", "firstHeldInSteps", "(IJJ)J"⟩, 10)]
theorem lw_r1 : ∀ q ∈ lw_privs_1, lw_okq q := List.forall_mem_cons.mpr ⟨lw_p0, List.forall_mem_cons.mpr ⟨lw_p1, List.forall_mem_cons.mpr ⟨lw_p2, List.forall_mem_cons.mpr ⟨lw_p3, List.forall_mem_cons.mpr ⟨lw_p4, List.forall_mem_cons.mpr ⟨lw_p5, List.forall_mem_cons.mpr ⟨lw_p6, List.forall_mem_cons.mpr ⟨lw_p7, List.forall_mem_cons.mpr ⟨lw_p8, List.forall_mem_cons.mpr ⟨lw_p9, List.forall_mem_cons.mpr ⟨lw_p10, List.forall_mem_cons.mpr ⟨lw_p11, List.forall_mem_cons.mpr ⟨lw_p12, List.forall_mem_cons.mpr ⟨lw_p13, List.forall_mem_cons.mpr ⟨lw_p14, List.forall_mem_cons.mpr ⟨lw_p15, fun _ h => absurd h List.not_mem_nil⟩⟩⟩⟩⟩⟩⟩⟩⟩⟩⟩⟩⟩⟩⟩⟩
theorem lw_p16 : lw_okq (⟨"MarketWeeks", "commonLength", "(I)J"⟩, 10) := ⟨⟨by decide +kernel, by decide +kernel⟩, List.mem_of_getElem? (i := 11) (by decide +kernel), List.mem_of_getElem? (i := 347) (by decide +kernel), List.mem_of_getElem? (i := 348) (by decide +kernel)⟩
theorem lw_p17 : lw_okq (⟨"MarketWeeks", "hasLeapDay", "(I)Z"⟩, 10) := ⟨⟨by decide +kernel, by decide +kernel⟩, List.mem_of_getElem? (i := 11) (by decide +kernel), List.mem_of_getElem? (i := 390) (by decide +kernel), List.mem_of_getElem? (i := 391) (by decide +kernel)⟩
def lw_privs_2 : List (MethodName × Nat) := [(⟨"MarketWeeks", "commonLength", "(I)J"⟩, 10), (⟨"MarketWeeks", "hasLeapDay", "(I)Z"⟩, 10)]
theorem lw_r2 : ∀ q ∈ lw_privs_2, lw_okq q := List.forall_mem_cons.mpr ⟨lw_p16, List.forall_mem_cons.mpr ⟨lw_p17, fun _ h => absurd h List.not_mem_nil⟩⟩
def lw_privs : List (MethodName × Nat) := lw_privs_1 ++ (lw_privs_2)
def lw_tbl : List Cond := k2_sels lw_privs ++ tables_1
theorem lw_privs_ok : ∀ q ∈ lw_privs, lw_okq q := by
  show ∀ q ∈ lw_privs_1 ++ (lw_privs_2), lw_okq q
  exact List.forall_mem_append.mpr ⟨lw_r1, lw_r2⟩
end
section
/-! ===== BEGIN words of one list among another's, by their places ===== -/
theorem goodIn_r {big : List Cond} (ws : List Cond) (ps : List Nat) (hp : ws = ps.filterMap (fun i => big[i]?)) (h : ws.all goodWord = true) : GoodIn big ws := by
  intro w hw
  have h1 := List.all_eq_true.mp h w hw
  rw [hp] at hw
  obtain ⟨i, -, hi⟩ := List.mem_filterMap.mp hw
  have hm : w ∈ big := by first | exact List.mem_of_getElem? hi | exact List.getElem?_mem hi
  exact ⟨hm, good_of_word h1⟩
theorem goodIn_app {big a b : List Cond} (ha : GoodIn big a) (hb : GoodIn big b) : GoodIn big (a ++ b) := fun w h => (List.mem_append.mp h).elim (ha w) (hb w)
theorem goodIn_ca {big a b : List Cond} {c : Cond} (ha : GoodIn big (c :: a)) (hb : GoodIn big b) : GoodIn big (c :: (a ++ b)) := fun w h => (List.mem_cons.mp h).elim (fun e => ha w (List.mem_cons.mpr (Or.inl e))) (fun h => (List.mem_append.mp h).elim (fun h => ha w (List.mem_cons.mpr (Or.inr h))) (hb w))
theorem goodIn_sub {big ws : List Cond} (hm : ∀ w ∈ ws, w ∈ big) (h : ws.all goodWord = true) : GoodIn big ws := fun w hw => ⟨hm w hw, good_of_word (List.all_eq_true.mp h w hw)⟩
/-! ===== END ===== -/

/-! ===== BEGIN exceptions that leave a method, and their catching by the caller (launches without stack traces) ===== -/
section VXA
/-! The laws vx_back, vx_callV, vx_callS, vx_callSW, vx_throw0, vx_throwS follow proofs of the library, with one case more: JvmDerived/Free/Laws.lean (Back.of_free), Shelf42/LK1.lean (callV, callS), Shelf/KitTraced.lean (throwNew0V, throwNewS). -/
/-- where a method has thrown q: the class by its name, the cell, what was written, the world -/
def vx_T (XC : String → State → State → Prop) (st : State) (q : Addr) (t : State) (mc ms : Nat) (free : Addr → Prop) : Prop :=
  ∃ (E : String) (ce : Cell) (L : List Loc), XC E st t ∧ t.heap[q]? = some ce ∧ ce.vm = .none ∧ st.vm.findClass E = some ce.cls ∧ st.WarmedH t.vm ∧ st.sameButNew ({ t with vm := st.vm } : State) L mc ms ∧ ∀ z ∈ L, free z.base
def vx_Q (Qc : Array Value → State → Outcome → State → Prop) (XC : String → State → State → Prop) (mc ms : Nat) (free : Addr → Prop) : Array Value → State → Outcome → State → Prop := fun a st o t =>
  (Qc a st o t ∧ ∃ L, FrameEnd st o t L mc ms ∧ ∀ q ∈ L, free q.base) ∨ ∃ q, o = .threw q ∧ vx_T XC st q t mc ms free
/-- a callee that returns or throws -/
def vx_Met (l : Launch) (y : MethodName) (ws : List Cond) (rm : Room) (Pc : Array Value → State → Prop) (Qc : Array Value → State → Outcome → State → Prop) (XC : String → State → State → Prop) (mc ms : Nat) (free : Addr → Prop) : Prop :=
  MetFree l y (headSpec ws rm) Pc (fun _ _ _ _ _ => True) (vx_Q Qc XC mc ms free)
def vx_Post (XC : String → State → State → Prop) (mc ms : Nat) (free : Addr → Prop) : Pt → Array Value → Addr → Pt → Prop := fun A a q B =>
  ∃ (g : JFrame) (mk : MethodId) (t : State) (L : List Loc) (E : String) (ce : Cell), B.U.heap = t.heap ∧ B.U.vm = t.vm ∧ XC E (A.U.calling g mk a) t ∧ t.heap[q]? = some ce ∧ ce.vm = .none ∧ A.U.vm.findClass E = some ce.cls ∧ B.locs = A.locs ++ L ∧ (∀ z ∈ L, free z.base) ∧ B.cells = A.cells + mc ∧ B.slots = A.slots + ms
def vx_Back (l : Launch) (R : Room) (p : Program) (e : Env) (below : List Frame) (s : State) (sargs : Array Value) (y : MethodName) (len W9 : Nat)
    (Pre : Pt → Array Value → Prop) (Post : Pt → Array Value → Option Value → Pt → Prop) (PostX : Pt → Array Value → Addr → Pt → Prop) : Prop :=
  ∀ (m : MethodId) (meth : Method) (c : Code) (A : Pt) (g : JFrame) (ig : Instr) (mk : MethodId) (a : Array Value),
    Stand p l e R s m sargs below meth c A.U A.locs A.cells A.slots → g.method = m → g.locals.size = c.maxLocals → decode c.code g.pc = .ok (ig, len) →
    2 * g.monitorRoom + (g.stack.map fun v => v.category).sum ≤ W9 → A.U.methodNamed? y = some mk → Pre A a →
    (∃ (v : Option Value) (B : Pt), Stand p l e R s m sargs below meth c B.U B.locs B.cells B.slots ∧ Post A a v B ∧
      Steps p.tables e below (doInvoke e (A.U.setTop g) [] mk a).1 (B.U.setTop { g with pc := g.pc + len, stack := v.toList ++ g.stack })) ∨
    (∃ (q : Addr) (B : Pt), Stand p l e R s m sargs below meth c B.U B.locs B.cells B.slots ∧ PostX A a q B ∧
      Steps p.tables e below (doInvoke e (A.U.setTop g) [] mk a).1 ((B.U.setTop g).pushFrame (.throwing q)))
section Payer
variable {l : Launch} {R : Room} {p : Program} {e : Env} {below : List Frame} {s : State} {sargs : Array Value} {y : MethodName} {len W9 : Nat}
theorem vx_back {ws : List Cond} {rm : Room} {Pc : Array Value → State → Prop} {Qc : Array Value → State → Outcome → State → Prop} {XC : String → State → State → Prop} {mc ms : Nat} {free : Addr → Prop} {bytes : ByteArray} {maxL : Nat} {ret : Option FieldType}
    (hM : vx_Met l y ws rm Pc Qc XC mc ms free) (hblind : FrameBlind Pc) (hrc : rm.cells = mc) (hrs : rm.slots = ms)
    (hframes : rm.frames + 1 ≤ R.frames) (hlocals : W9 + (maxL + 11) + rm.locals ≤ R.locals)
    (hws : ∀ w ∈ ws, ∀ a' U, s.WarmedH U.vm → w.before a' U = true) (hcode : Cond.code y bytes maxL ret ∈ ws) (hinit : ∀ a' U, s.WarmedH U.vm → (Cond.initialized y.cls).before a' U = true) :
    vx_Back l R p e below s sargs y len W9 (PreOf R mc ms Pc) (PostOf Qc mc ms free) (vx_Post XC mc ms free) := by
  intro m meth c A g ig mk a X hg hsize hdg hW hn hp
  have h1 : (headSpec ws rm).pre.before a A.U = true := atoms_intro fun w hw => hws w hw _ _ X.warmed
  have h2 : (Cond.code y bytes maxL ret).before a A.U = true := hws _ hcode _ _ X.warmed
  have h3 : (Cond.initialized y.cls).before a A.U = true := hinit _ _ X.warmed
  have h4 : A.cells + (headSpec ws rm).room.cells ≤ R.cells := by rw [show (headSpec ws rm).room.cells = mc from hrc]; exact hp.1
  have h5 : A.slots + (headSpec ws rm).room.slots ≤ R.slots := by rw [show (headSpec ws rm).room.slots = ms from hrs]; exact hp.2.1
  have hPc : Pc a (A.U.calling g mk a) := hblind _ _ _ _ hp.2.2
  obtain ⟨U, Ls, c0, s0⟩ := A
  dsimp only [Pt.U, Pt.locs, Pt.cells, Pt.slots] at h1 h2 h3 h4 h5 X hn hPc ⊢
  obtain ⟨methY, cY, hmY, hcY, -, hlY, -, -, -, -⟩ := Cond.code_spec hn h2
  obtain ⟨kY, hkY, -⟩ := className_of_methodNamed hn
  have hinitY : kY.init = .initialized := Cond.initialized_spec (findClass_of_methodNamed hn) hkY h3
  have h : At U g.method c below := by rw [hg]; exact X.here
  have hlocals9 : W9 + (maxL + 11) + (headSpec ws rm).room.locals ≤ R.locals := hlocals
  have happ : (headSpec ws rm).appliesLoose y e.platform (U.calling g mk a) = true :=
    Spec.appliesLoose_calling (g := g) h hdg hn hkY hinitY
      (X.room_calling (g := g) (R' := (headSpec ws rm).room) hsize hmY hcY hframes (by rw [hlY]; omega) h4 h5) h1
  obtain ⟨mid, hmid⟩ := h.above
  have hfr : (U.setTop g).frames = (.java g :: mid) ++ below := by rw [State.frames_setTop' g h.top, hmid]; rfl
  obtain ⟨o, s₂, hsteps, -, hend, hq⟩ := Steps.callFree hM p X.admits X.cas X.clock (acts := []) hfr happ hPc trivial
  have hq' : vx_Q Qc XC mc ms free a (U.calling g mk a) o s₂ := hq
  rw [State.frames_setTop' g h.top] at hend
  obtain ⟨g₀, hg0⟩ := Option.isSome_iff_exists.mp h.top
  obtain ⟨r, hr⟩ := State.topJava?_eq_some.mp hg0
  have hr' : (({ U with heap := s₂.heap, slotsUsed := s₂.slotsUsed } : State).setVm s₂.vm).frames = .java g₀ :: r := hr
  rcases hq' with ⟨hqc, L, hfe, hL⟩ | ⟨q, rfl, E, ce, L, hx, hce, hcv, hcl, hW₂, hsm, hL⟩
  · obtain ⟨⟨v, rfl⟩, hW₂, e2, q2, q3, q4, q5, q6⟩ := id hfe
    have e3 : s₂ = ({ (U.calling g mk a).setFrames s₂.frames with heap := s₂.heap, slotsUsed := s₂.slotsUsed } : State).setVm s₂.vm := by
      have : s₂ = ({ s₂ with vm := (U.calling g mk a).vm } : State).setVm s₂.vm := rfl
      rw [e2] at this
      exact this
    obtain ⟨c₂, i₂, len₂, hc₂, hd₂, hf₂⟩ := hend
    have hW' : U.WarmedH s₂.vm := hW₂
    have hcc : c₂ = c := by
      have h1 : s₂.code? g.method = U.code? g.method := by
        rw [State.code?_eq, State.code?_eq, hW'.alike.method?]
      exact Option.some.inj (hc₂.symm.trans (h1.trans h.code))
    subst hcc
    have hlen : len₂ = len := by rw [hdg] at hd₂; cases hd₂; rfl
    subst hlen
    have hs₂ : s₂ = (({ U with heap := s₂.heap, slotsUsed := s₂.slotsUsed } : State).setVm s₂.vm).setTop { g with pc := g.pc + len₂, stack := v.toList ++ g.stack } := by
      refine e3.trans ?_
      rw [hf₂, State.calling_eq h.top, State.setFrames_setFrames, State.setTop_of_frames _ hr', hr]
      rfl
    have hsame : U.sameButNew ({ U with heap := s₂.heap, slotsUsed := s₂.slotsUsed } : State) L mc ms := by
      refine ⟨?_, q2, q3, q4, q5, q6⟩
      obtain ⟨t, ht, -⟩ := State.frames_cons hr
      show ({ U with heap := s₂.heap, slotsUsed := s₂.slotsUsed } : State) = { U.setFrames U.frames with heap := s₂.heap, slotsUsed := s₂.slotsUsed }
      rw [State.setFrames_self ht]
    subst hg
    refine Or.inl ⟨v, ⟨(({ U with heap := s₂.heap, slotsUsed := s₂.slotsUsed } : State).setVm s₂.vm), Ls ++ L, c0 + mc, s0 + ms⟩,
      ⟨X.admits, X.cas, X.clock, X.frames, X.room, X.hears, X.method, X.code, (X.here.setHeapUsed s₂.heap s₂.slotsUsed).setVm hW'.alike, X.tail, State.WarmedH.trans X.warmed hW', X.limits, X.bytes, X.same.trans (hsame.setVm s.vm)⟩,
      ⟨g, mk, s₂, L, rfl, rfl, hqc, rfl, hL, rfl, rfl⟩, ?_⟩
    show Steps p.tables e below _ ((({ U with heap := s₂.heap, slotsUsed := s₂.slotsUsed } : State).setVm s₂.vm).setTop { g with pc := g.pc + len₂, stack := v.toList ++ g.stack })
    rw [← hs₂]
    exact hsteps
  · obtain ⟨e2, q2, q3, q4, q5, q6⟩ := id hsm
    have e3 : s₂ = ({ (U.calling g mk a).setFrames s₂.frames with heap := s₂.heap, slotsUsed := s₂.slotsUsed } : State).setVm s₂.vm := by
      have : s₂ = ({ s₂ with vm := (U.calling g mk a).vm } : State).setVm s₂.vm := rfl
      rw [e2] at this
      exact this
    have hf₂ : s₂.frames = .throwing q :: .java g :: U.frames.tail := hend
    have hW' : U.WarmedH s₂.vm := hW₂
    have hs₂ : s₂ = ((({ U with heap := s₂.heap, slotsUsed := s₂.slotsUsed } : State).setVm s₂.vm).setTop g).pushFrame (.throwing q) := by
      refine e3.trans ?_
      rw [hf₂, State.calling_eq h.top, State.setFrames_setFrames, State.pushFrame, State.frames_setTop _ hr', State.setTop_of_frames _ hr', State.setFrames_setFrames, hr]
      rfl
    have hsame : U.sameButNew ({ U with heap := s₂.heap, slotsUsed := s₂.slotsUsed } : State) L mc ms := by
      refine ⟨?_, q2, q3, q4, q5, q6⟩
      obtain ⟨t, ht, -⟩ := State.frames_cons hr
      show ({ U with heap := s₂.heap, slotsUsed := s₂.slotsUsed } : State) = { U.setFrames U.frames with heap := s₂.heap, slotsUsed := s₂.slotsUsed }
      rw [State.setFrames_self ht]
    subst hg
    refine Or.inr ⟨q, ⟨(({ U with heap := s₂.heap, slotsUsed := s₂.slotsUsed } : State).setVm s₂.vm), Ls ++ L, c0 + mc, s0 + ms⟩,
      ⟨X.admits, X.cas, X.clock, X.frames, X.room, X.hears, X.method, X.code, (X.here.setHeapUsed s₂.heap s₂.slotsUsed).setVm hW'.alike, X.tail, State.WarmedH.trans X.warmed hW', X.limits, X.bytes, X.same.trans (hsame.setVm s.vm)⟩,
      ⟨g, mk, s₂, L, E, ce, rfl, rfl, hx, hce, hcv, hcl, rfl, hL, rfl, rfl⟩, ?_⟩
    show Steps p.tables e below _ (((({ U with heap := s₂.heap, slotsUsed := s₂.slotsUsed } : State).setVm s₂.vm).setTop g).pushFrame (.throwing q))
    rw [← hs₂]
    exact hsteps
end Payer
section Calls
variable {p : Program} {l : Launch} {e : Env} {R : Room} {s : State} {m : MethodId} {args : Array Value} {below : List Frame} {meth : Method} {c : Code} {T : State} {locs : List Loc} {cells slots : Nat}
theorem vx_callV (X : Stand p l e R s m args below meth c T locs cells slots) (hexec : p.tables.exec = Jvm.exec) {own C : String} {index : Nat} {y : MethodName} {bytes : ByteArray} {maxL : Nat} {ret : Option FieldType}
    (hown : s.vm.findClass own = some m.cls) (hlink : (Cond.methodLink own index y).before args s = true) (hinst : (Cond.instanceMethod y).before args s = true) (hsel : (Cond.selects C y y).before args s = true)
    (hcode : (Cond.code y bytes maxL ret).before args s = true) (hy : y.cls ≠ "java/lang/invoke/MethodHandle" ∧ y.cls ≠ "java/lang/invoke/VarHandle")
    {W9 : Nat} {Pre : Pt → Array Value → Prop} {Post : Pt → Array Value → Option Value → Pt → Prop} {PostX : Pt → Array Value → Addr → Pt → Prop} (hK : vx_Back l R p e below s args y 3 W9 Pre Post PostX)
    {b : Addr} {cellB : Cell} (hcell : T.heap[b]? = some cellB) (hobj : cellB.vm.isStatics = false) (hcls : s.vm.findClass C = some cellB.cls)
    {g : JFrame} (hg : g.method = m) (hsize : g.locals.size = c.maxLocals) {argsL rest : List Value} (hlen : ∀ sig, parseMethodDescriptor y.desc = some sig → argsL.length = sig.parameters.length)
    (hstack : g.stack = argsL.reverse ++ .ref b :: rest) (hW : 2 * g.monitorRoom + (rest.map fun v => v.category).sum ≤ W9) (hdg : decode c.code g.pc = .ok (.invokevirtual index, 3))
    (hpre : ∀ vm₁, s.WarmedH vm₁ → Pre ⟨T.setVm vm₁, locs, cells, slots⟩ (Value.ref b :: argsL).toArray) :
    (∃ (v : Option Value) (vm₁ : Vm) (B : Pt), s.WarmedH vm₁ ∧ Stand p l e R s m args below meth c B.U B.locs B.cells B.slots ∧ Post ⟨T.setVm vm₁, locs, cells, slots⟩ (Value.ref b :: argsL).toArray v B ∧
      ∀ target, Steps p.tables e below (B.U.setTop { g with pc := g.pc + 3, stack := v.toList ++ rest }) target → Steps p.tables e below (T.setTop g) target) ∨
    (∃ (q : Addr) (vm₁ : Vm) (B : Pt), s.WarmedH vm₁ ∧ Stand p l e R s m args below meth c B.U B.locs B.cells B.slots ∧ PostX ⟨T.setVm vm₁, locs, cells, slots⟩ (Value.ref b :: argsL).toArray q B ∧
      Steps p.tables e below (T.setTop g) ((B.U.setTop { g with stack := rest }).pushFrame (.throwing q))) := by
  obtain ⟨mk, methM, hnamed, hmethM, hstM, habM⟩ := Cond.instanceMethod_spec hinst
  obtain ⟨methM', cM, hmethM', -, -, -, -, -, -, hsigM⟩ := Cond.code_spec hnamed hcode
  cases hmethM.symm.trans hmethM'
  obtain ⟨c2, r2, m2, q1, q2, q3, q4, kP, hkP, hkPi⟩ := Cond.selects_spec hsel
  cases hcls.symm.trans q1
  cases (State.methodFound?_of_named hnamed hy).symm.trans q2
  cases hnamed.symm.trans q3
  have hselP : selectMethod e.platform s.vm cellB.cls mk = .method mk := by rw [Launch.admits_selectMethod X.admits]; exact q4
  obtain ⟨vm₁, X₁, hstep₁⟩ := X.invokevirtual hexec hown hlink hnamed hmethM hstM hkP hkPi hy (a := b) (cell := cellB) hcell
    (fun z h => by rw [h] at hobj; cases hobj) hselP hmethM habM hkP hkPi (g := g) hg (argsL := argsL) (rest := rest) (hlen _ hsigM) hstack hdg
  rcases hK m meth c ⟨T.setVm vm₁, locs, cells, slots⟩ { g with stack := rest } (.invokevirtual index) mk (Value.ref b :: argsL).toArray X₁ hg hsize hdg hW (X₁.named hnamed) (hpre vm₁ X₁.warmed) with ⟨v, B, X', hpost, hsteps⟩ | ⟨q, B, X', hpost, hsteps⟩
  · exact Or.inl ⟨v, vm₁, B, X₁.warmed, X', hpost, fun target h => hstep₁ _ fun acts => by rw [doInvoke_state]; exact hsteps.trans h⟩
  · exact Or.inr ⟨q, vm₁, B, X₁.warmed, X', hpost, hstep₁ _ fun acts => by rw [doInvoke_state]; exact hsteps⟩
theorem vx_callS (X : Stand p l e R s m args below meth c T locs cells slots) (hexec : p.tables.exec = Jvm.exec) {own : String} {index : Nat} {y : MethodName} {bytes : ByteArray} {maxL : Nat} {ret : Option FieldType}
    (hown : s.vm.findClass own = some m.cls) (hlink : (Cond.methodLink own index y).before args s = true) (hstat : (Cond.static y).before args s = true) (hinit : (Cond.initialized y.cls).before args s = true)
    (hcode : (Cond.code y bytes maxL ret).before args s = true) (hy : y.cls ≠ "java/lang/invoke/MethodHandle" ∧ y.cls ≠ "java/lang/invoke/VarHandle")
    {W9 : Nat} {Pre : Pt → Array Value → Prop} {Post : Pt → Array Value → Option Value → Pt → Prop} {PostX : Pt → Array Value → Addr → Pt → Prop} (hK : vx_Back l R p e below s args y 3 W9 Pre Post PostX)
    {g : JFrame} (hg : g.method = m) (hsize : g.locals.size = c.maxLocals) {argsL rest : List Value} (hlen : ∀ sig, parseMethodDescriptor y.desc = some sig → argsL.length = sig.parameters.length)
    (hstack : g.stack = argsL.reverse ++ rest) (hW : 2 * g.monitorRoom + (rest.map fun v => v.category).sum ≤ W9) (hdg : decode c.code g.pc = .ok (.invokestatic index, 3))
    (hpre : ∀ vm₁, s.WarmedH vm₁ → Pre ⟨T.setVm vm₁, locs, cells, slots⟩ argsL.toArray) :
    (∃ (v : Option Value) (vm₁ : Vm) (B : Pt), s.WarmedH vm₁ ∧ Stand p l e R s m args below meth c B.U B.locs B.cells B.slots ∧ Post ⟨T.setVm vm₁, locs, cells, slots⟩ argsL.toArray v B ∧
      ∀ target, Steps p.tables e below (B.U.setTop { g with pc := g.pc + 3, stack := v.toList ++ rest }) target → Steps p.tables e below (T.setTop g) target) ∨
    (∃ (q : Addr) (vm₁ : Vm) (B : Pt), s.WarmedH vm₁ ∧ Stand p l e R s m args below meth c B.U B.locs B.cells B.slots ∧ PostX ⟨T.setVm vm₁, locs, cells, slots⟩ argsL.toArray q B ∧
      Steps p.tables e below (T.setTop g) ((B.U.setTop { g with stack := rest }).pushFrame (.throwing q))) := by
  obtain ⟨mk, hnamed⟩ := Cond.code_named hcode
  obtain ⟨methM, cM, hmethM, -, -, -, -, -, -, hsigM⟩ := Cond.code_spec hnamed hcode
  have hstatic : methM.isStatic = true := Cond.static_spec hnamed hmethM hstat
  obtain ⟨kP, hkP, -⟩ := className_of_methodNamed hnamed
  have hinitP : kP.init = .initialized := Cond.initialized_spec (findClass_of_methodNamed hnamed) hkP hinit
  obtain ⟨vm₁, X₁, hstep₁⟩ := X.invokestatic hexec hown hlink hnamed hmethM hstatic hkP hinitP hy (g := g) hg (argsL := argsL) (rest := rest) (hlen _ hsigM) hstack hdg
  rcases hK m meth c ⟨T.setVm vm₁, locs, cells, slots⟩ { g with stack := rest } (.invokestatic index) mk argsL.toArray X₁ hg hsize hdg hW (X₁.named hnamed) (hpre vm₁ X₁.warmed) with ⟨v, B, X', hpost, hsteps⟩ | ⟨q, B, X', hpost, hsteps⟩
  · exact Or.inl ⟨v, vm₁, B, X₁.warmed, X', hpost, fun target h => hstep₁ _ fun acts => by rw [doInvoke_state]; exact hsteps.trans h⟩
  · exact Or.inr ⟨q, vm₁, B, X₁.warmed, X', hpost, hstep₁ _ fun acts => by rw [doInvoke_state]; exact hsteps⟩
end Calls
theorem vx_cls {s : State} {T : State} {vm₁ : Vm} {E : String} {k : ClassId} (hW : s.WarmedH vm₁) (h : (T.setVm vm₁).vm.findClass E = some k) : s.vm.findClass E = some k := by
  have h1 : vm₁.findClass E = some k := h
  rw [hW.alike.findClass] at h1
  exact h1
/-- the method's frame g, with q thrown over it -/
def vx_W (p : Program) (l : Launch) (e : Env) (R : Room) (s : State) (m : MethodId) (args : Array Value) (below : List Frame) (meth : Method) (c : Code) (H : Heap) (locs : List Loc) (cells slots : Nat) (Q : State → Prop) (g : JFrame) (q : Addr) : Prop :=
  ∀ T : State, T.heap = H → Stand p l e R s m args below meth c T locs cells slots → ∃ t, Steps p.tables e below ((T.setTop g).pushFrame (.throwing q)) t ∧ Q t
def vx_Run (p : Program) (l : Launch) (e : Env) (R : Room) (s : State) (m : MethodId) (args : Array Value) (below : List Frame) (meth : Method) (c : Code) (H : Heap) (locs : List Loc) (cells slots mc ms : Nat) (g : JFrame) (rest : List Value) (Qa : State → Outcome → State → Prop) (XC : String → State → State → Prop) (free : Addr → Prop) : Prop :=
  ∀ T : State, T.heap = H → Stand p l e R s m args below meth c T locs cells slots →
    (∃ (v : Option Value) (st₀ t T' : State) (L : List Loc), st₀.heap = H ∧ Stand p l e R s m args below meth c T' (locs ++ L) (cells + mc) (slots + ms) ∧ (∀ q ∈ L, free q.base) ∧ T'.heap = t.heap ∧ T'.vm = t.vm ∧ Qa st₀ (.returned v) t ∧
      Goes p e below T g T' { g with pc := g.pc + 3, stack := v.toList ++ rest }) ∨
    (∃ (q : Addr) (st₀ t T' : State) (L : List Loc) (E : String) (ce : Cell), st₀.heap = H ∧ Stand p l e R s m args below meth c T' (locs ++ L) (cells + mc) (slots + ms) ∧ (∀ z ∈ L, free z.base) ∧ T'.heap = t.heap ∧ T'.vm = t.vm ∧ XC E st₀ t ∧ t.heap[q]? = some ce ∧ ce.vm = .none ∧ s.vm.findClass E = some ce.cls ∧
      Steps p.tables e below (T.setTop g) ((T'.setTop { g with stack := rest }).pushFrame (.throwing q)))
def vx_X {S : Type} (px : S → Prop) (B : String → S → State → Prop) (A : Nat → Prop) : String → State → State → Prop := fun E st t => ∃ u : S, px u ∧ B E u t ∧ va_F A st t
section Runs
variable {p : Program} {l : Launch} {e : Env} {R : Room} {s : State} {m : MethodId} {args : Array Value} {below : List Frame} {meth : Method} {c : Code} {H : Heap} {locs : List Loc} {cells slots : Nat}
variable {y : MethodName} {bytes cc : ByteArray} {maxL nL mc ms n index : Nat} {ret : Option FieldType} {ws : List Cond} {rm : Room} {Pc : Array Value → State → Prop} {Qc : Array Value → State → Outcome → State → Prop} {XC : String → State → State → Prop} {free : Addr → Prop} {Ts : List Cond} {own C : String} {b : Addr} {As rest : List Value} {g : JFrame}
theorem vx_callBack (cb : CallB R s args own index y bytes maxL ret ws rm mc ms n) (hM : vx_Met l y ws rm Pc Qc XC mc ms free) (hbl : FrameBlind Pc) : vx_Back l R p e below s args y 3 8 (PreOf R mc ms Pc) (PostOf Qc mc ms free) (vx_Post XC mc ms free) := by
  obtain ⟨hrc, hrs, hfr, hlo, hws, hcw, -, hini, -⟩ := cb
  exact vx_back (bytes := bytes) (maxL := maxL) (ret := ret) hM hbl hrc hrs hfr hlo hws hcw (fun a' U hW => word_at hW (Or.inl (by first | rfl | simp [Cond.onTables, Cond.keeps, Cond.steady])) hini)
theorem vx_runV (S : CallFix p m c cc nL s args Ts own) (hM : vx_Met l y ws rm Pc Qc XC mc ms free) (cw : CallW R s args own C index y bytes maxL ret ws rm mc ms n) (hp : PreV s H C b Pc As)
    (hg : g.method = m) (hn : As.length = n) (hsize : g.locals.size = nL) (hstack : g.stack = As.reverse ++ .ref b :: rest) (hW : 2 * g.monitorRoom + (rest.map fun v => v.category).sum ≤ 8) (hdg : decode cc g.pc = .ok (.invokevirtual index, 3)) (hf : cells + mc ≤ R.cells ∧ slots + ms ≤ R.slots) :
    vx_Run p l e R s m args below meth c H locs cells slots mc ms g rest (Qc (Value.ref b :: As).toArray) XC free := by
  have hK : vx_Back l R p e below s args y 3 8 (PreOf R mc ms Pc) (PostOf Qc mc ms free) (vx_Post XC mc ms free) := vx_callBack cw.1 hM hp.1
  obtain ⟨⟨-, -, -, -, -, -, hcode, -, hy, hlen, hl⟩, hin, hse⟩ := cw
  obtain ⟨hx, hb, hml, ho, -⟩ := S
  obtain ⟨-, ⟨cellB, hcB, hoB, hclB⟩, hPc⟩ := hp
  intro T hT X
  rcases vx_callV X hx (C := C) (bytes := bytes) (maxL := maxL) (ret := ret) ho hl hin hse hcode hy hK (by rw [hT]; exact hcB) hoB hclB hg (hsize.trans hml.symm) (argsL := As) (rest := rest) (fun sig h => hn.trans (hlen sig h)) hstack hW (by rw [hb]; exact hdg)
    (fun vm₁ hW₁ => ⟨hf.1, hf.2, hPc (T.setVm vm₁) hT hW₁⟩) with ⟨v, vm₁, ⟨U', l2, c2, s2⟩, hW₁, X', ⟨g', mk, t, L, e1, e2, hq, h1, hL, h2, h3⟩, st⟩ | ⟨q, vm₁, ⟨U', l2, c2, s2⟩, hW₁, X', ⟨g', mk, t, L, E, ce, e1, e2, hq, hce, hcv, hcl, h1, hL, h2, h3⟩, st⟩
  · dsimp only [Pt.U, Pt.locs, Pt.cells, Pt.slots] at X' e1 e2 h1 h2 h3 st
    subst h1; subst h2; subst h3
    exact Or.inl ⟨v, (T.setVm vm₁).calling g' mk (Value.ref b :: As).toArray, t, U', L, hT, X', hL, e1, e2, hq, st⟩
  · dsimp only [Pt.U, Pt.locs, Pt.cells, Pt.slots] at X' e1 e2 h1 h2 h3 st hcl
    subst h1; subst h2; subst h3
    exact Or.inr ⟨q, (T.setVm vm₁).calling g' mk (Value.ref b :: As).toArray, t, U', L, E, ce, hT, X', hL, e1, e2, hq, hce, hcv, vx_cls hW₁ hcl, st⟩
theorem vx_runS (S : CallFix p m c cc nL s args Ts own) (hM : vx_Met l y ws rm Pc Qc XC mc ms free) (cw : CallB R s args own index y bytes maxL ret ws rm mc ms n ∧ (Cond.static y).before args s = true) (hp : PreS s H Pc As)
    (hg : g.method = m) (hn : As.length = n) (hsize : g.locals.size = nL) (hstack : g.stack = As.reverse ++ rest) (hW : 2 * g.monitorRoom + (rest.map fun v => v.category).sum ≤ 8) (hdg : decode cc g.pc = .ok (.invokestatic index, 3)) (hf : cells + mc ≤ R.cells ∧ slots + ms ≤ R.slots) :
    vx_Run p l e R s m args below meth c H locs cells slots mc ms g rest (Qc As.toArray) XC free := by
  have hK : vx_Back l R p e below s args y 3 8 (PreOf R mc ms Pc) (PostOf Qc mc ms free) (vx_Post XC mc ms free) := vx_callBack cw.1 hM hp.1
  obtain ⟨⟨-, -, -, -, -, -, hcode, hini, hy, hlen, hl⟩, hstt⟩ := cw
  obtain ⟨hx, hb, hml, ho, -⟩ := S
  intro T hT X
  rcases vx_callS X hx (bytes := bytes) (maxL := maxL) (ret := ret) ho hl hstt hini hcode hy hK hg (hsize.trans hml.symm) (argsL := As) (rest := rest) (fun sig h => hn.trans (hlen sig h)) hstack hW (by rw [hb]; exact hdg)
    (fun vm₁ hW₁ => ⟨hf.1, hf.2, hp.2 (T.setVm vm₁) hT hW₁⟩) with ⟨v, vm₁, ⟨U', l2, c2, s2⟩, hW₁, X', ⟨g', mk, t, L, e1, e2, hq, h1, hL, h2, h3⟩, st⟩ | ⟨q, vm₁, ⟨U', l2, c2, s2⟩, hW₁, X', ⟨g', mk, t, L, E, ce, e1, e2, hq, hce, hcv, hcl, h1, hL, h2, h3⟩, st⟩
  · dsimp only [Pt.U, Pt.locs, Pt.cells, Pt.slots] at X' e1 e2 h1 h2 h3 st
    subst h1; subst h2; subst h3
    exact Or.inl ⟨v, (T.setVm vm₁).calling g' mk As.toArray, t, U', L, hT, X', hL, e1, e2, hq, st⟩
  · dsimp only [Pt.U, Pt.locs, Pt.cells, Pt.slots] at X' e1 e2 h1 h2 h3 st hcl
    subst h1; subst h2; subst h3
    exact Or.inr ⟨q, (T.setVm vm₁).calling g' mk As.toArray, t, U', L, E, ce, hT, X', hL, e1, e2, hq, hce, hcv, vx_cls hW₁ hcl, st⟩
end Runs
section Rows
variable {p : Program} {l : Launch} {e : Env} {R : Room} {s : State} {m : MethodId} {args : Array Value} {below : List Frame} {meth : Method} {c : Code} {H : Heap} {locs : List Loc} {cells slots : Nat} {Q : State → Prop}
variable {mc ms : Nat} {free : Addr → Prop} {A0 A1 : Nat → Prop} {H0 : Heap} {a : Array Value} {pc : Nat} {ls : Array Slot} {st0 rest : List Value}
theorem vx_keep {st₀ t T' : State} {L : List Loc} (h0 : st₀.heap = H) (e1 : T'.heap = t.heap) (hS : va_S A0 H0 H locs) (hA : ∀ q, q < H.size → A1 q → A0 q) (hf : ∀ q, free q → A0 q) (hL : ∀ q ∈ L, free q.base) (hF : va_F A1 st₀ t) :
    H.size ≤ T'.heap.size ∧ (∀ q : Nat, q < H.size → ¬ A1 q → T'.heap[q]? = H[q]?) ∧ va_S A0 H0 T'.heap (locs ++ L) := by
  obtain ⟨hz, hk⟩ := hF
  rw [h0] at hz hk
  exact ⟨by rw [e1]; exact hz, fun q h1 h2 => by rw [e1]; exact hk q h1 h2,
    ⟨Nat.le_trans hS.1 (by rw [e1]; exact hz), fun q h1 h2 => by rw [e1, hk q (Nat.lt_of_lt_of_le h1 hS.1) (fun z => h2 (hA q (Nat.lt_of_lt_of_le h1 hS.1) z))]; exact hS.2.1 q h1 h2, fun q hq => by
      rcases List.mem_append.mp hq with h | h
      · exact hS.2.2 q h
      · exact hf _ (hL q h)⟩⟩
theorem vx_calli {S SX : Type} {post : Int32 → S → Prop} {px : SX → Prop} {B : S → State → Prop} {BX : String → SX → State → Prop} {AX : Nat → Prop} (hr : vx_Run p l e R s m args below meth c H locs cells slots mc ms (F0 m pc ls st0) rest (va_Qi post B A1 a) (vx_X px BX AX) free) (hS : va_S A0 H0 H locs) (hA : ∀ q, q < H.size → A1 q → A0 q) (hf : ∀ q, free q → A0 q) (hAX : ∀ q, q < H.size → AX q → A0 q)
    (kx : ∀ (E : String) (ce : Cell) (q9 : Addr) (u : SX) (t : State) (H1 : Heap) (locs1 : List Loc), t.heap = H1 → s.vm.Alike t.vm → px u → BX E u t → H.size ≤ H1.size → (∀ q : Nat, q < H.size → ¬ AX q → H1[q]? = H[q]?) → va_S A0 H0 H1 locs1 → H1[q9]? = some ce → ce.vm = .none → s.vm.findClass E = some ce.cls → vx_W p l e R s m args below meth c H1 locs1 (cells + mc) (slots + ms) Q (F0 m pc ls rest) q9)
    (kk : ∀ (r : Int32) (u : S) (t : State) (H1 : Heap) (locs1 : List Loc), t.heap = H1 → s.vm.Alike t.vm → post r u → B u t → H.size ≤ H1.size → (∀ q : Nat, q < H.size → ¬ A1 q → H1[q]? = H[q]?) → va_S A0 H0 H1 locs1 → W p l e R s m args below meth c H1 locs1 (cells + mc) (slots + ms) Q (F0 m (pc + 3) ls (.int r :: rest))) : W p l e R s m args below meth c H locs cells slots Q (F0 m pc ls st0) := by
  intro T hT X
  rcases hr T hT X with ⟨v, st₀, t, T', L, h0, X', hL, e1, e2, ⟨⟨r, u, hv, hp, hb⟩, hF⟩, st⟩ | ⟨q, st₀, t, T', L, E, ce, h0, X', hL, e1, e2, ⟨u, hp, hb, hF⟩, hce, hcv, hcl, st⟩
  · cases hv
    obtain ⟨k1, k2, k3⟩ := vx_keep h0 e1 hS hA hf hL hF
    obtain ⟨t2, a1, b1⟩ := kk r u t T'.heap (locs ++ L) e1.symm (by rw [← e2]; exact X'.warmed.alike) hp hb k1 k2 k3 T' rfl X'
    exact ⟨t2, st t2 a1, b1⟩
  · obtain ⟨k1, k2, k3⟩ := vx_keep h0 e1 hS hAX hf hL hF
    obtain ⟨t2, a1, b1⟩ := kx E ce q u t T'.heap (locs ++ L) e1.symm (by rw [← e2]; exact X'.warmed.alike) hp hb k1 k2 k3 (by rw [e1]; exact hce) hcv hcl T' rfl X'
    exact ⟨t2, st.trans a1, b1⟩
theorem vx_calll {S SX : Type} {post : Int64 → S → Prop} {px : SX → Prop} {B : S → State → Prop} {BX : String → SX → State → Prop} {AX : Nat → Prop} (hr : vx_Run p l e R s m args below meth c H locs cells slots mc ms (F0 m pc ls st0) rest (va_Ql post B A1 a) (vx_X px BX AX) free) (hS : va_S A0 H0 H locs) (hA : ∀ q, q < H.size → A1 q → A0 q) (hf : ∀ q, free q → A0 q) (hAX : ∀ q, q < H.size → AX q → A0 q)
    (kx : ∀ (E : String) (ce : Cell) (q9 : Addr) (u : SX) (t : State) (H1 : Heap) (locs1 : List Loc), t.heap = H1 → s.vm.Alike t.vm → px u → BX E u t → H.size ≤ H1.size → (∀ q : Nat, q < H.size → ¬ AX q → H1[q]? = H[q]?) → va_S A0 H0 H1 locs1 → H1[q9]? = some ce → ce.vm = .none → s.vm.findClass E = some ce.cls → vx_W p l e R s m args below meth c H1 locs1 (cells + mc) (slots + ms) Q (F0 m pc ls rest) q9)
    (kk : ∀ (r : Int64) (u : S) (t : State) (H1 : Heap) (locs1 : List Loc), t.heap = H1 → s.vm.Alike t.vm → post r u → B u t → H.size ≤ H1.size → (∀ q : Nat, q < H.size → ¬ A1 q → H1[q]? = H[q]?) → va_S A0 H0 H1 locs1 → W p l e R s m args below meth c H1 locs1 (cells + mc) (slots + ms) Q (F0 m (pc + 3) ls (.long r :: rest))) : W p l e R s m args below meth c H locs cells slots Q (F0 m pc ls st0) := by
  intro T hT X
  rcases hr T hT X with ⟨v, st₀, t, T', L, h0, X', hL, e1, e2, ⟨⟨r, u, hv, hp, hb⟩, hF⟩, st⟩ | ⟨q, st₀, t, T', L, E, ce, h0, X', hL, e1, e2, ⟨u, hp, hb, hF⟩, hce, hcv, hcl, st⟩
  · cases hv
    obtain ⟨k1, k2, k3⟩ := vx_keep h0 e1 hS hA hf hL hF
    obtain ⟨t2, a1, b1⟩ := kk r u t T'.heap (locs ++ L) e1.symm (by rw [← e2]; exact X'.warmed.alike) hp hb k1 k2 k3 T' rfl X'
    exact ⟨t2, st t2 a1, b1⟩
  · obtain ⟨k1, k2, k3⟩ := vx_keep h0 e1 hS hAX hf hL hF
    obtain ⟨t2, a1, b1⟩ := kx E ce q u t T'.heap (locs ++ L) e1.symm (by rw [← e2]; exact X'.warmed.alike) hp hb k1 k2 k3 (by rw [e1]; exact hce) hcv hcl T' rfl X'
    exact ⟨t2, st.trans a1, b1⟩
theorem vx_callf {S SX : Type} {post : UInt32 → S → Prop} {px : SX → Prop} {B : S → State → Prop} {BX : String → SX → State → Prop} {AX : Nat → Prop} (hr : vx_Run p l e R s m args below meth c H locs cells slots mc ms (F0 m pc ls st0) rest (va_Qf post B A1 a) (vx_X px BX AX) free) (hS : va_S A0 H0 H locs) (hA : ∀ q, q < H.size → A1 q → A0 q) (hf : ∀ q, free q → A0 q) (hAX : ∀ q, q < H.size → AX q → A0 q)
    (kx : ∀ (E : String) (ce : Cell) (q9 : Addr) (u : SX) (t : State) (H1 : Heap) (locs1 : List Loc), t.heap = H1 → s.vm.Alike t.vm → px u → BX E u t → H.size ≤ H1.size → (∀ q : Nat, q < H.size → ¬ AX q → H1[q]? = H[q]?) → va_S A0 H0 H1 locs1 → H1[q9]? = some ce → ce.vm = .none → s.vm.findClass E = some ce.cls → vx_W p l e R s m args below meth c H1 locs1 (cells + mc) (slots + ms) Q (F0 m pc ls rest) q9)
    (kk : ∀ (r : UInt32) (u : S) (t : State) (H1 : Heap) (locs1 : List Loc), t.heap = H1 → s.vm.Alike t.vm → post r u → B u t → H.size ≤ H1.size → (∀ q : Nat, q < H.size → ¬ A1 q → H1[q]? = H[q]?) → va_S A0 H0 H1 locs1 → W p l e R s m args below meth c H1 locs1 (cells + mc) (slots + ms) Q (F0 m (pc + 3) ls (.float r :: rest))) : W p l e R s m args below meth c H locs cells slots Q (F0 m pc ls st0) := by
  intro T hT X
  rcases hr T hT X with ⟨v, st₀, t, T', L, h0, X', hL, e1, e2, ⟨⟨r, u, hv, hp, hb⟩, hF⟩, st⟩ | ⟨q, st₀, t, T', L, E, ce, h0, X', hL, e1, e2, ⟨u, hp, hb, hF⟩, hce, hcv, hcl, st⟩
  · cases hv
    obtain ⟨k1, k2, k3⟩ := vx_keep h0 e1 hS hA hf hL hF
    obtain ⟨t2, a1, b1⟩ := kk r u t T'.heap (locs ++ L) e1.symm (by rw [← e2]; exact X'.warmed.alike) hp hb k1 k2 k3 T' rfl X'
    exact ⟨t2, st t2 a1, b1⟩
  · obtain ⟨k1, k2, k3⟩ := vx_keep h0 e1 hS hAX hf hL hF
    obtain ⟨t2, a1, b1⟩ := kx E ce q u t T'.heap (locs ++ L) e1.symm (by rw [← e2]; exact X'.warmed.alike) hp hb k1 k2 k3 (by rw [e1]; exact hce) hcv hcl T' rfl X'
    exact ⟨t2, st.trans a1, b1⟩
theorem vx_calld {S SX : Type} {post : UInt64 → S → Prop} {px : SX → Prop} {B : S → State → Prop} {BX : String → SX → State → Prop} {AX : Nat → Prop} (hr : vx_Run p l e R s m args below meth c H locs cells slots mc ms (F0 m pc ls st0) rest (va_Qd post B A1 a) (vx_X px BX AX) free) (hS : va_S A0 H0 H locs) (hA : ∀ q, q < H.size → A1 q → A0 q) (hf : ∀ q, free q → A0 q) (hAX : ∀ q, q < H.size → AX q → A0 q)
    (kx : ∀ (E : String) (ce : Cell) (q9 : Addr) (u : SX) (t : State) (H1 : Heap) (locs1 : List Loc), t.heap = H1 → s.vm.Alike t.vm → px u → BX E u t → H.size ≤ H1.size → (∀ q : Nat, q < H.size → ¬ AX q → H1[q]? = H[q]?) → va_S A0 H0 H1 locs1 → H1[q9]? = some ce → ce.vm = .none → s.vm.findClass E = some ce.cls → vx_W p l e R s m args below meth c H1 locs1 (cells + mc) (slots + ms) Q (F0 m pc ls rest) q9)
    (kk : ∀ (r : UInt64) (u : S) (t : State) (H1 : Heap) (locs1 : List Loc), t.heap = H1 → s.vm.Alike t.vm → post r u → B u t → H.size ≤ H1.size → (∀ q : Nat, q < H.size → ¬ A1 q → H1[q]? = H[q]?) → va_S A0 H0 H1 locs1 → W p l e R s m args below meth c H1 locs1 (cells + mc) (slots + ms) Q (F0 m (pc + 3) ls (.double r :: rest))) : W p l e R s m args below meth c H locs cells slots Q (F0 m pc ls st0) := by
  intro T hT X
  rcases hr T hT X with ⟨v, st₀, t, T', L, h0, X', hL, e1, e2, ⟨⟨r, u, hv, hp, hb⟩, hF⟩, st⟩ | ⟨q, st₀, t, T', L, E, ce, h0, X', hL, e1, e2, ⟨u, hp, hb, hF⟩, hce, hcv, hcl, st⟩
  · cases hv
    obtain ⟨k1, k2, k3⟩ := vx_keep h0 e1 hS hA hf hL hF
    obtain ⟨t2, a1, b1⟩ := kk r u t T'.heap (locs ++ L) e1.symm (by rw [← e2]; exact X'.warmed.alike) hp hb k1 k2 k3 T' rfl X'
    exact ⟨t2, st t2 a1, b1⟩
  · obtain ⟨k1, k2, k3⟩ := vx_keep h0 e1 hS hAX hf hL hF
    obtain ⟨t2, a1, b1⟩ := kx E ce q u t T'.heap (locs ++ L) e1.symm (by rw [← e2]; exact X'.warmed.alike) hp hb k1 k2 k3 (by rw [e1]; exact hce) hcv hcl T' rfl X'
    exact ⟨t2, st.trans a1, b1⟩
theorem vx_callv {S SX : Type} {post : S → Prop} {px : SX → Prop} {B : S → State → Prop} {BX : String → SX → State → Prop} {AX : Nat → Prop} (hr : vx_Run p l e R s m args below meth c H locs cells slots mc ms (F0 m pc ls st0) rest (va_Qv post B A1 a) (vx_X px BX AX) free) (hS : va_S A0 H0 H locs) (hA : ∀ q, q < H.size → A1 q → A0 q) (hf : ∀ q, free q → A0 q) (hAX : ∀ q, q < H.size → AX q → A0 q)
    (kx : ∀ (E : String) (ce : Cell) (q9 : Addr) (u : SX) (t : State) (H1 : Heap) (locs1 : List Loc), t.heap = H1 → s.vm.Alike t.vm → px u → BX E u t → H.size ≤ H1.size → (∀ q : Nat, q < H.size → ¬ AX q → H1[q]? = H[q]?) → va_S A0 H0 H1 locs1 → H1[q9]? = some ce → ce.vm = .none → s.vm.findClass E = some ce.cls → vx_W p l e R s m args below meth c H1 locs1 (cells + mc) (slots + ms) Q (F0 m pc ls rest) q9)
    (kk : ∀ (u : S) (t : State) (H1 : Heap) (locs1 : List Loc), t.heap = H1 → s.vm.Alike t.vm → post u → B u t → H.size ≤ H1.size → (∀ q : Nat, q < H.size → ¬ A1 q → H1[q]? = H[q]?) → va_S A0 H0 H1 locs1 → W p l e R s m args below meth c H1 locs1 (cells + mc) (slots + ms) Q (F0 m (pc + 3) ls (rest))) : W p l e R s m args below meth c H locs cells slots Q (F0 m pc ls st0) := by
  intro T hT X
  rcases hr T hT X with ⟨v, st₀, t, T', L, h0, X', hL, e1, e2, ⟨⟨u, hv, hp, hb⟩, hF⟩, st⟩ | ⟨q, st₀, t, T', L, E, ce, h0, X', hL, e1, e2, ⟨u, hp, hb, hF⟩, hce, hcv, hcl, st⟩
  · cases hv
    obtain ⟨k1, k2, k3⟩ := vx_keep h0 e1 hS hA hf hL hF
    obtain ⟨t2, a1, b1⟩ := kk u t T'.heap (locs ++ L) e1.symm (by rw [← e2]; exact X'.warmed.alike) hp hb k1 k2 k3 T' rfl X'
    exact ⟨t2, st t2 a1, b1⟩
  · obtain ⟨k1, k2, k3⟩ := vx_keep h0 e1 hS hAX hf hL hF
    obtain ⟨t2, a1, b1⟩ := kx E ce q u t T'.heap (locs ++ L) e1.symm (by rw [← e2]; exact X'.warmed.alike) hp hb k1 k2 k3 (by rw [e1]; exact hce) hcv hcl T' rfl X'
    exact ⟨t2, st.trans a1, b1⟩
/-- caught by the row x of this method's table; the rows ahead don't take it -/
theorem vx_catch {own name : String} {E : String} {ce : Cell} {q : Addr} (hown : s.vm.findClass own = some m.cls) (pre : List ExceptionTableEntry) (x : ExceptionTableEntry) (suf : List ExceptionTableEntry) (hsplit : c.exceptionTable.toList = pre ++ x :: suf)
    (hpass : ∀ z ∈ pre, covers z pc = false ∨ (z.catchType ≠ 0 ∧ ∃ nm : String, (Cond.classLink own z.catchType nm).before args s = true ∧ va_Nc E nm s)) (hx : covers x pc = true) (h0 : x.catchType ≠ 0)
    (hlink : (Cond.classLink own x.catchType name).before args s = true) (hcast : (Cond.castable E name).before args s = true) (hcell : H[q]? = some ce) (hv : ce.vm = .none) (hcl : s.vm.findClass E = some ce.cls)
    (kk : W p l e R s m args below meth c H locs cells slots Q (F0 m x.handlerPc ls [.ref q])) : vx_W p l e R s m args below meth c H locs cells slots Q (F0 m pc ls rest) q := by
  intro T hT X
  have hpl : e.platform.magicAccessors = ({} : Platform).magicAccessors := by rw [X.admits.platform]
  obtain ⟨c3, c4, hc3, hc4, hasg⟩ := Cond.castable_spec hcast
  cases Option.some.inj (hc3.symm.trans hcl)
  obtain ⟨c5, hc5, hcl5⟩ := Cond.classLink_spec hown hlink e.platform hpl
  cases Option.some.inj (hc4.symm.trans hc5)
  obtain ⟨vm', X', st⟩ := X.thenCaughtThrough q (g := F0 m pc ls rest) rfl (Steps.refl _) (by rw [hT]; exact hcell) (by rw [hv]; rfl) (by obtain ⟨k9, h9, -⟩ := Vm.findClass_spec hcl; exact ⟨k9, h9⟩) pre x suf hsplit
    (fun z hz => by
      rcases hpass z hz with h | ⟨hz0, nm, hl1, hn1⟩
      · exact Or.inl h
      · obtain ⟨c6, hc6, hcl6⟩ := Cond.classLink_spec hown hl1 e.platform hpl
        obtain ⟨a8, b8, h1, h2, h3⟩ := hn1
        cases Option.some.inj (h1.symm.trans hcl)
        cases Option.some.inj (h2.symm.trans hc6)
        exact Or.inr ⟨hz0, _, hcl6, h3⟩) hx (Or.inr ⟨h0, c4, hcl5, hasg⟩)
  obtain ⟨t, a1, b1⟩ := kk (T.setVm vm') hT X'
  exact ⟨t, st.trans a1, b1⟩
end Rows
section Ends
variable {p : Program} {l : Launch} {e : Env} {R : Room} {s : State} {m : MethodId} {args : Array Value} {below : List Frame} {meth : Method} {c : Code} {H : Heap} {locs : List Loc} {cells slots : Nat} {Q : State → Prop}
variable {mc ms : Nat} {free : Addr → Prop} {A0 A1 : Nat → Prop} {H0 : Heap} {a : Array Value} {ls : Array Slot} {st0 rest : List Value}
variable {Qc : Array Value → State → Outcome → State → Prop} {XC : String → State → State → Prop}
/-- what a body that may throw owes at its end -/
def vx_MQ (below : List Frame) (Qc : Array Value → State → Outcome → State → Prop) (XC : String → State → State → Prop) (a : Array Value) (s : State) (mc ms : Nat) (free : Addr → Prop) : State → Prop := fun t =>
  ∃ o, t.status = .running ∧ Ended t below o ∧ vx_Q Qc XC mc ms free a s o t
theorem vx_ret {g : JFrame} {mc ms : Nat} (k : W p l e R s m args below meth c H locs cells slots (MQ below Qc args s mc ms free) g) : W p l e R s m args below meth c H locs cells slots (vx_MQ below Qc XC args s mc ms free) g := by
  intro T hT X
  obtain ⟨t, a1, o, b1, b2, b3, b4⟩ := k T hT X
  exact ⟨t, a1, o, b1, b2, Or.inl ⟨b3, b4⟩⟩
/-- not caught here: it goes on to the caller -/
theorem vx_widen {g : JFrame} {q : Addr} {k n : Nat} (h1 : cells ≤ k) (h2 : slots ≤ n) (kk : vx_W p l e R s m args below meth c H locs k n Q g q) : vx_W p l e R s m args below meth c H locs cells slots Q g q := fun T hT X => kk T hT (stand_widen X h1 h2)
theorem vx_out {pc : Nat} {E : String} {ce : Cell} {q : Addr} {mc ms : Nat} (hout : ∀ x ∈ c.exceptionTable.toList, covers x pc = false) (hlocks : meth.locks = false) (hcell : H[q]? = some ce) (hv : ce.vm = .none) (hcl : s.vm.findClass E = some ce.cls)
    (hx : ∀ t : State, t.heap = H → s.vm.Alike t.vm → XC E s t) (hf : ∀ z ∈ locs, free z.base) (hc : cells ≤ mc) (hs : slots ≤ ms) :
    vx_W p l e R s m args below meth c H locs cells slots (vx_MQ below Qc XC args s mc ms free) (F0 m pc ls rest) q := by
  intro T hT X
  obtain ⟨st1, hrun, hend, hW, hsm⟩ := X.leaveThrown q (g := F0 m pc ls rest) rfl rfl rfl hout hlocks
  have hcell9 : (T.setFrames (.throwing q :: below)).heap[q]? = some ce := by
    show T.heap[q]? = some ce
    rw [hT]; exact hcell
  exact ⟨_, st1, .threw q, hrun, hend, Or.inr ⟨q, rfl, E, ce, locs, hx _ hT hW.alike, hcell9, hv, hcl, hW, hsm.mono hc hs, hf⟩⟩
theorem vx_frame {U : State} {k n : Nat} (h : s.sameButNew ({ U with vm := s.vm } : State) locs k n) : s.heap.size ≤ U.heap.size ∧ ∀ q : Nat, q < s.heap.size → (∀ z ∈ locs, z.base ≠ q) → U.heap[q]? = s.heap[q]? := by
  obtain ⟨-, h2, -, -, -, h6⟩ := h
  refine ⟨h2, fun q hq hz => ?_⟩
  obtain ⟨c9, e1, e2, e3, e4⟩ := h6 q _ (Array.getElem?_eq_getElem hq)
  have hs : c9.slots = (s.heap[q]).slots := Array.ext_getElem? fun i => e4 i fun hm => hz _ hm rfl
  have h9 : c9 = s.heap[q] := by
    rw [hs] at e2
    exact e2
  have e5 : U.heap[q]? = some c9 := e1
  rw [e5, h9, Array.getElem?_eq_getElem hq]
/-- the words of a throw but the four that speak of the heap -/
def vx_no (w : Cond) : Bool := decide (w ≠ .isRef (.static Bundle.tN "UNASSIGNED_STACK" Bundle.steD)) && decide (w ≠ .isRef (.static Bundle.tN "SUPPRESSED_SENTINEL" Bundle.listD)) && decide (w ≠ .laysStatic Bundle.tN "UNASSIGNED_STACK" Bundle.steD) && decide (w ≠ .laysStatic Bundle.tN "SUPPRESSED_SENTINEL" Bundle.listD)
def vx_at0 (own : String) (ic : Nat) (X : String) (names : List String) : List Cond := (Bundle.ownAtoms0 own ic X names).filter vx_no
def vx_atS (own : String) (ic : Nat) (X : String) (names : List String) : List Cond := (Bundle.ownAtoms own ic X names).filter vx_no
/-- a word that the tables alone decide, or a good one -/
def vx_ot (w : Cond) : Bool := w.onTables || goodWord w
theorem vx_ot_at {args a' : Array Value} {s U : State} {w : Cond} (hW : s.WarmedH U.vm) (hvm : s.vm = U.vm) (hg : vx_ot w = true) (h : w.before args s = true) : w.before a' U = true := by
  simp only [vx_ot, Bool.or_eq_true] at hg
  rcases hg with hg | hg
  · exact va_tabs hg hvm h
  · exact word_at hW (good_of_word hg) h
/-- a list's words: the good ones out of the method's own list, the others by premises of their own -/
theorem vx_hat {args : Array Value} {s : State} {L B : List Cond} (h1 : ∀ w ∈ L.filter goodWord, w.before args s = true) (h2 : ∀ w ∈ L.filter (fun w => !goodWord w), w ∈ B) (h3 : ∀ w ∈ B, w.before args s = true) : ∀ w ∈ L, w.before args s = true := by
  intro w hw
  by_cases g : goodWord w = true
  · exact h1 w (List.mem_filter.mpr ⟨hw, g⟩)
  · refine h3 w (h2 w (List.mem_filter.mpr ⟨hw, ?_⟩))
    show (!goodWord w) = true
    cases hgw : goodWord w
    · rfl
    · exact absurd hgw g
theorem vx_c {args : Array Value} {s : State} {w : Cond} {B : List Cond} (h : w.before args s = true) (t : ∀ w ∈ B, w.before args s = true) : ∀ w' ∈ w :: B, w'.before args s = true := fun w' h' => (List.mem_cons.mp h').elim (fun e => by rw [e]; exact h) (t w')
theorem vx_n {args : Array Value} {s : State} : ∀ w ∈ ([] : List Cond), w.before args s = true := fun _ h => nomatch h
theorem vx_own {args : Array Value} {s : State} {L : List Cond} (h1 : ∀ w ∈ L.filter vx_no, w.before args s = true)
    (hU : (Cond.isRef (.static Bundle.tN "UNASSIGNED_STACK" Bundle.steD)).before args s = true) (hN : (Cond.isRef (.static Bundle.tN "SUPPRESSED_SENTINEL" Bundle.listD)).before args s = true)
    (lU : (Cond.laysStatic Bundle.tN "UNASSIGNED_STACK" Bundle.steD).before args s = true) (lN : (Cond.laysStatic Bundle.tN "SUPPRESSED_SENTINEL" Bundle.listD).before args s = true) : ∀ w ∈ L, w.before args s = true := by
  intro w hw
  by_cases e1 : w = .isRef (.static Bundle.tN "UNASSIGNED_STACK" Bundle.steD)
  · rw [e1]; exact hU
  · by_cases e2 : w = .isRef (.static Bundle.tN "SUPPRESSED_SENTINEL" Bundle.listD)
    · rw [e2]; exact hN
    · by_cases e3 : w = .laysStatic Bundle.tN "UNASSIGNED_STACK" Bundle.steD
      · rw [e3]; exact lU
      · by_cases e4 : w = .laysStatic Bundle.tN "SUPPRESSED_SENTINEL" Bundle.listD
        · rw [e4]; exact lN
        · exact h1 w (List.mem_filter.mpr ⟨hw, by unfold vx_no; rw [decide_eq_true e1, decide_eq_true e2, decide_eq_true e3, decide_eq_true e4]; rfl⟩)
/-- where a static field lies, its class's statics cell in H -/
def vx_L (C n d : String) (A : Nat → Prop) (U : State) (H : Heap) : Prop := ∃ (c : ClassId) (k : Class) (i : Nat) (f : Field) (a : Nat) (cell : Cell), U.vm.findClass C = some c ∧ U.fieldFound? C n d = some (c, k, i, f) ∧ f.isStatic = true ∧ k.statics = some a ∧ H[a]? = some cell ∧ cell.vm.isStatics = true ∧ cell.cls = c ∧ f.slot < cell.slots.size ∧ k.staticTypes[f.slot]? = some f.type ∧ ¬ A a
theorem vx_L.moved {C n d : String} {A : Nat → Prop} {u U : State} {H : Heap} (hvm : u.vm.Alike U.vm) (h : vx_L C n d A u H) : vx_L C n d A U H := by
  obtain ⟨c, k, i, f, a, cell, h1, h2, h3, h4, h5, h6, h7, h8, h9, h10⟩ := h
  obtain ⟨k', hi', he⟩ := State.fieldFound?_setVm hvm h2
  exact ⟨c, k', i, f, a, cell, by rw [hvm.findClass]; exact h1, hi', h3, by rw [he]; exact h4, h5, h6, h7, h8, by rw [he]; exact h9, h10⟩
theorem vx_L.kept {C n d : String} {A : Nat → Prop} {U : State} {H H1 : Heap} (h : vx_L C n d A U H) (hq : ∀ a : Nat, a < H.size → ¬ A a → H1[a]? = H[a]?) : vx_L C n d A U H1 := by
  obtain ⟨c, k, i, f, a, cell, h1, h2, h3, h4, h5, h6, h7, h8, h9, h10⟩ := h
  exact ⟨c, k, i, f, a, cell, h1, h2, h3, h4, by rw [hq a (Array.getElem?_eq_some_iff.mp h5).1 h10]; exact h5, h6, h7, h8, h9, h10⟩
theorem vx_L.narrow {C n d : String} {A B : Nat → Prop} {U : State} {H : Heap} (h : vx_L C n d A U H) (hAB : ∀ q, B q → A q) : vx_L C n d B U H := by
  obtain ⟨c, k, i, f, a, cell, h1, h2, h3, h4, h5, h6, h7, h8, h9, h10⟩ := h
  exact ⟨c, k, i, f, a, cell, h1, h2, h3, h4, h5, h6, h7, h8, h9, fun z => h10 (hAB _ z)⟩
theorem vx_L.word {C n d : String} {A : Nat → Prop} {s : State} {args : Array Value} (h : vx_L C n d A s s.heap) : (Cond.laysStatic C n d).before args s = true := by
  obtain ⟨c, k, i, f, a, cell, h1, h2, h3, h4, h5, h6, h7, h8, h9, -⟩ := h
  show (Cond.laysStatic C n d).holds args s none s [] = true
  exact Cond.laysStatic_of h1 h2 h3 h4 h5 h6 h7 h8 h9
/-- .. and what it holds: null or some reference -/
def vx_Zq (C n d : String) (A : Nat → Prop) (U : State) (H : Heap) : Prop := va_Zq C n d A U H ∧ vx_L C n d A U H
theorem vx_Zq.moved {C n d : String} {A : Nat → Prop} {u U : State} {H : Heap} (hvm : u.vm.Alike U.vm) (h : vx_Zq C n d A u H) : vx_Zq C n d A U H := ⟨va_Zq.moved hvm h.1, vx_L.moved hvm h.2⟩
theorem vx_Zq.kept {C n d : String} {A : Nat → Prop} {U : State} {H H1 : Heap} (h : vx_Zq C n d A U H) (hq : ∀ a : Nat, a < H.size → ¬ A a → H1[a]? = H[a]?) : vx_Zq C n d A U H1 := ⟨va_Zq.kept h.1 hq, vx_L.kept h.2 hq⟩
theorem vx_Zq.narrow {C n d : String} {A B : Nat → Prop} {U : State} {H : Heap} (h : vx_Zq C n d A U H) (hAB : ∀ q, B q → A q) : vx_Zq C n d B U H := ⟨va_Zq.narrow h.1 hAB, vx_L.narrow h.2 hAB⟩
theorem vx_Zqof {args : Array Value} {s : State} {C n d : String} {A : Nat → Prop} (hl : (Cond.laysStatic C n d).before args s = true) (hini : (Cond.initialized C).before args s = true) (h : (Cond.isRef (.static C n d)).before args s = true) (hA : ∀ a : Nat, a < s.heap.size → ¬ A a) : vx_Zq C n d A s s.heap := by
  refine ⟨va_Zqof hl hini h hA, ?_⟩
  obtain ⟨c, k, i, f, a, cell, h1, h2, h3, h4, h5, h6, h7, h8, h9⟩ := Cond.laysStatic_spec hl
  exact ⟨c, k, i, f, a, cell, h1, h2, h3, h4, h5, h6, h7, h8, h9, hA a (Array.getElem?_eq_some_iff.mp h5).1⟩
theorem vx_isRef {C n d : String} {v : Value} {A : Nat → Prop} {s : State} {args : Array Value} (h : va_Z C n d v A s s.heap) (hv : v.isRef = true) : (Cond.isRef (.static C n d)).before args s = true := by
  obtain ⟨cf, kf, fi, f, a, cell, h1, h2, h3, h4, h5, h6, h7, -⟩ := h
  have he : (Term.static C n d).eval args s none [] s = some v := by
    simp [Term.eval, State.fieldNamed?, h1, h2, h4, h5, h6, h7]
  simp only [Cond.before, Cond.holds, Cond.value, he]
  cases v <;> simp_all [Value.isRef]
theorem vx_isRefq {C n d : String} {A : Nat → Prop} {s : State} {args : Array Value} (h : va_Zq C n d A s s.heap) : (Cond.isRef (.static C n d)).before args s = true := by
  rcases h with h | ⟨t, h⟩
  · exact vx_isRef h rfl
  · exact vx_isRef h rfl
/-- the same frame, seen from here: as if the method were called anew in this heap -/
theorem vx_rebase {T : State} (X : Stand p l e R s m args below meth c T locs cells slots) {R' : Room} (hf : R'.frames ≤ R.frames) (hl : R'.locals ≤ R.locals) (hc : cells + R'.cells ≤ R.cells) (hs : slots + R'.slots ≤ R.slots) :
    Stand p l e R' ((T.setVm s.vm).setFrames (.invoking m args :: below)) m args below meth c T [] 0 0 := by
  have htop : (T.setVm s.vm).topJava?.isSome := X.here.top
  have hF : ((T.setVm s.vm).setFrames (.invoking m args :: below)).frames = .invoking m args :: below := State.frames_setFrames _ (State.cur_lt_of_top htop)
  obtain ⟨g₀, hg0⟩ := Option.isSome_iff_exists.mp htop
  obtain ⟨r, hr⟩ := State.topJava?_eq_some.mp hg0
  have hl9 : e.platform.stackLimits (T.setVm s.vm).me = e.platform.stackLimits s.me := X.limits
  have hb9 : (T.setVm s.vm).me.stackBytes = s.me.stackBytes := X.bytes
  refine ⟨X.admits, X.cas, X.clock, hF, ?_, X.hears, X.method, X.code, X.here, X.tail, X.warmed, ?_, ?_, ?_⟩
  · have h := X.room
    have hU : ((T.setVm s.vm).setFrames (.invoking m args :: below)).localsInUse = s.localsInUse := by
      rw [State.localsInUse_invoking hF (meth := meth) (c := c) X.method X.code, State.localsInUse_invoking X.frames X.method X.code]
    simp only [State.hasRoom, Bool.and_eq_true, decide_eq_true_eq] at h ⊢
    obtain ⟨⟨⟨⟨h1, h2, h3, h4, h5, h6⟩, h7⟩, h8⟩, h9⟩ := h
    rw [X.frames, List.length_cons] at h2 h3
    have q1 := X.heapSize
    have q2 := X.used
    simp only [hF, hU, List.length_cons, State.stackLimits_setFrames, State.stackBytes_setFrames, hl9, hb9]
    refine ⟨⟨⟨⟨by omega, by omega, by omega, by omega, by omega, h6⟩, ?_⟩, ?_⟩, X.book⟩
    · show T.heap.size + R'.cells ≤ e.platform.maxCells
      omega
    · show T.slotsUsed + R'.slots ≤ e.platform.maxSlots
      omega
  · rw [State.stackLimits_setFrames]; rfl
  · rw [State.stackBytes_setFrames]; rfl
  · refine ⟨?_, Nat.le_refl _, Nat.le_refl _, ?_, ?_, fun a c9 h9 => ⟨c9, h9, rfl, rfl, fun _ _ => rfl⟩⟩
    · obtain ⟨t, ht, -⟩ := State.frames_cons hr
      show T.setVm s.vm = { ((T.setVm s.vm).setFrames (.invoking m args :: below)).setFrames (T.setVm s.vm).frames with heap := T.heap, slotsUsed := T.slotsUsed }
      rw [State.setFrames_setFrames, State.setFrames_self ht]
      rfl
    · show T.slotsUsed = T.slotsUsed + ((T.heap.toList.drop T.heap.size).map (·.slots.size)).sum
      rw [List.drop_eq_nil_of_le (Nat.le_of_eq Array.length_toList)]
      rfl
    · show ((T.heap.toList.drop T.heap.size).map (·.slots.size)).sum ≤ 0
      rw [List.drop_eq_nil_of_le (Nat.le_of_eq Array.length_toList)]
      exact Nat.le_refl _
/-- 'throw new E()': new; dup; invokespecial; athrow -/
theorem vx_throw0 {cc : ByteArray} {pc : Nat} (hexec : p.tables.exec = Jvm.exec) (hb : c.code = cc) (hl : l.stackTraces = false) {own cls : String} {names : List String} {ik ic mc ms : Nat} {A : Nat → Prop}
    (hown : s.vm.findClass own = some m.cls) (hcls : Bundle.fit cls = true) (hnames : ∀ n ∈ names, Bundle.fit n = true)
    (hk : (Cond.classLink own ik cls).before args s = true) (hini : (Cond.initialized cls).before args s = true) (hat : ∀ w ∈ vx_at0 own ic cls names, w.before args s = true)
    (hgood : ∀ w ∈ Cond.classLink own ik cls :: Cond.initialized cls :: vx_at0 own ic cls names, vx_ot w = true)
    (hU : vx_Zq Bundle.tN "UNASSIGNED_STACK" Bundle.steD A s s.heap) (hN : vx_Zq Bundle.tN "SUPPRESSED_SENTINEL" Bundle.listD A s s.heap) (hS : va_S A s.heap H locs) (hsize : ls.size = c.maxLocals)
    (d0 : decode cc pc = .ok (.new ik, 3)) (d3 : decode cc (pc + 3) = .ok (.dup, 1)) (d4 : decode cc (pc + 4) = .ok (.invokespecial ic, 3)) (d7 : decode cc (pc + 7) = .ok (.athrow, 1))
    (hout : ∀ x ∈ c.exceptionTable.toList, covers x (pc + 7) = false)
    (hRframes : names.length + 3 < R.frames) (hRlocals : (rest.map fun v => v.category).sum + (13 * (names.length + 1) + 42) ≤ R.locals) (hRcells : cells + 1 ≤ R.cells) (hRslots : slots + 6 ≤ R.slots) (hlocks : meth.locks = false)
    (hx : ∀ t : State, s.vm.Alike t.vm → H.size ≤ t.heap.size → (∀ q : Nat, q < H.size → t.heap[q]? = H[q]?) → XC cls s t)
    (hf : ∀ z ∈ locs, free z.base) (hc : cells + 1 ≤ mc) (hs : slots + 6 ≤ ms) :
    W p l e R s m args below meth c H locs cells slots (vx_MQ below Qc XC args s mc ms free) (F0 m pc ls rest) := by
  intro T hT X
  have htr : e.platform.stackTraces = false := (show e.platform.stackTraces = l.stackTraces by rw [X.admits.platform]).trans hl
  have Y := vx_rebase X (R' := { frames := R.frames, locals := R.locals, cells := 1, slots := 6 }) (Nat.le_refl _) (Nat.le_refl _) hRcells hRslots
  obtain ⟨s', hA⟩ : ∃ z, z = (T.setVm s.vm).setFrames (.invoking m args :: below) := ⟨_, rfl⟩
  rw [← hA] at Y
  have hvm : s'.vm = s.vm := by rw [hA]; rfl
  have hhp : s'.heap = H := by rw [hA]; exact hT
  have hW0 : s.WarmedH s'.vm := by rw [hvm]; exact State.WarmedH.refl s
  have hat' : ∀ w ∈ vx_at0 own ic cls names, w.before args s' = true := fun w hw => vx_ot_at hW0 hvm.symm (hgood w (List.mem_cons_of_mem _ (List.mem_cons_of_mem _ hw))) (hat w hw)
  have hk' : (Cond.classLink own ik cls).before args s' = true := vx_ot_at hW0 hvm.symm (hgood _ List.mem_cons_self) hk
  have hini' : (Cond.initialized cls).before args s' = true := vx_ot_at hW0 hvm.symm (hgood _ (List.mem_cons_of_mem _ List.mem_cons_self)) hini
  have hU' : vx_Zq Bundle.tN "UNASSIGNED_STACK" Bundle.steD A s' s'.heap := by rw [hhp]; exact vx_Zq.moved hW0.alike (hU.kept hS.2.1)
  have hN' : vx_Zq Bundle.tN "SUPPRESSED_SENTINEL" Bundle.listD A s' s'.heap := by rw [hhp]; exact vx_Zq.moved hW0.alike (hN.kept hS.2.1)
  have h : ∀ w ∈ Bundle.ownAtoms0 own ic cls names, w.before args s' = true := vx_own hat' (vx_isRefq hU'.1) (vx_isRefq hN'.1) hU'.2.word hN'.2.word
  have hown' : s'.vm.findClass own = some m.cls := by rw [hvm]; exact hown
  have hins : (Cond.instantiable cls 6).before args s' = true := h _ (by simp [Bundle.ownAtoms0])
  obtain ⟨vm₁, cX, kX, hfX, hkX, -, -, X₁, st1⟩ := Y.newCold hexec (own := own) (C := cls) (index := ik) (n := 6) hown' hk' hins hini'
    (g := F0 m pc ls rest) rfl (by rw [hb]; exact d0) (Nat.le_refl _) (Nat.le_refl _)
  generalize hT1 : (T.setVm vm₁).pushCell { cls := cX, slots := kX.instanceTypes.map defaultValue, vm := .none } = T1 at X₁ st1
  have hcat : (Value.ref T.heap.size).category = 1 := rfl
  have hcellA : T1.heap[T.heap.size]? = some (freshCell cX kX) := by rw [← hT1]; exact State.heap_pushCell_size _ _
  have d3' : decode c.code (pc + 3) = .ok (.dup, 1) := by rw [hb]; exact d3
  obtain ⟨U, hsteps, hrun, hend, hW, hsame, ce, hce, hO⟩ := X₁.ctorThrow0 hexec htr (own := own) (cls := cls) (names := names) (ic := ic) hown' hcls hnames h (fun x hx => nomatch hx) hfX hkX hcellA (by rw [hhp, hT]; exact Nat.le_refl _)
    (g := { method := m, pc := pc + 4, locals := ls, stack := .ref T.heap.size :: .ref T.heap.size :: rest, locked := none }) rfl hsize rfl rfl (rest := rest) rfl
    (by rw [hb]; exact d4) (by rw [hb]; exact d7) hout hRframes (by simp only [List.map_cons, List.sum_cons, hcat]; omega) hlocks
  obtain ⟨f1, f2⟩ := vx_frame hsame
  rw [hhp] at f1 f2
  have hWs : s.WarmedH U.vm := State.WarmedH.trans hW0 hW
  have hcl : s.vm.findClass cls = some ce.cls := by
    have h9 := hO.cls
    rw [hvm] at h9
    exact h9
  have hall : s.sameButNew ({ U with vm := s.vm } : State) locs mc ms := by
    subst hA
    obtain ⟨e1, e2⟩ := hsame
    rw [State.setFrames_setFrames] at e1
    have h2 : (T.setVm s.vm).sameButNew ({ U with vm := s.vm } : State) [] (0 + 1) (0 + 6) := ⟨e1, e2⟩
    have h3 := X.same.trans h2
    rw [List.append_nil] at h3
    exact h3.mono hc hs
  refine ⟨U, ?_, .threw T.heap.size, hrun, hend, Or.inr ⟨T.heap.size, rfl, cls, ce, locs, hx U hWs.alike f1 (fun q hq => f2 q hq (fun z hz => nomatch hz)), hce, hO.vm, hcl, hWs, hall, hf⟩⟩
  refine st1 _ ?_
  show Steps p.tables e below (T1.setTop { method := m, pc := pc + 3, locals := ls, stack := .ref T.heap.size :: rest, locked := none }) _
  jvm_step X₁.here [X₁.here.top, hexec, d3', Value.category]
  exact hsteps
/-- 'throw new E("text")': new; dup; ldc; invokespecial; athrow -/
theorem vx_throwS {cc : ByteArray} {pc : Nat} (hexec : p.tables.exec = Jvm.exec) (hb : c.code = cc) (hl : l.stackTraces = false) {own cls text : String} {names : List String} {ik is ic mc ms sa : Nat} {A : Nat → Prop}
    (hown : s.vm.findClass own = some m.cls) (hcls : Bundle.fit cls = true) (hnames : ∀ n ∈ names, Bundle.fit n = true)
    (hk : (Cond.classLink own ik cls).before args s = true) (hini : (Cond.initialized cls).before args s = true) (hstr : vk_R own is text sa s) (hat : ∀ w ∈ vx_atS own ic cls names, w.before args s = true)
    (hgood : ∀ w ∈ Cond.classLink own ik cls :: Cond.initialized cls :: vx_atS own ic cls names, vx_ot w = true)
    (hU : vx_Zq Bundle.tN "UNASSIGNED_STACK" Bundle.steD A s s.heap) (hN : vx_Zq Bundle.tN "SUPPRESSED_SENTINEL" Bundle.listD A s s.heap) (hS : va_S A s.heap H locs) (hsize : ls.size = c.maxLocals)
    (d0 : decode cc pc = .ok (.new ik, 3)) (d3 : decode cc (pc + 3) = .ok (.dup, 1)) (d4 : decode cc (pc + 4) = .ok (.ldc is, 2)) (d6 : decode cc (pc + 6) = .ok (.invokespecial ic, 3)) (d9 : decode cc (pc + 9) = .ok (.athrow, 1))
    (hout : ∀ x ∈ c.exceptionTable.toList, covers x (pc + 9) = false)
    (hRframes : names.length + 3 < R.frames) (hRlocals : (rest.map fun v => v.category).sum + (13 * (names.length + 1) + 43) ≤ R.locals) (hRcells : cells + 1 ≤ R.cells) (hRslots : slots + 6 ≤ R.slots) (hlocks : meth.locks = false)
    (hx : ∀ t : State, s.vm.Alike t.vm → H.size < t.heap.size → (∀ q : Nat, q < H.size → t.heap[q]? = H[q]?) → XC cls s t)
    (hf : ∀ z ∈ locs, free z.base) (hc : cells + 1 ≤ mc) (hs : slots + 6 ≤ ms) :
    W p l e R s m args below meth c H locs cells slots (vx_MQ below Qc XC args s mc ms free) (F0 m pc ls rest) := by
  intro T hT X
  have htr : e.platform.stackTraces = false := (show e.platform.stackTraces = l.stackTraces by rw [X.admits.platform]).trans hl
  have Y := vx_rebase X (R' := { frames := R.frames, locals := R.locals, cells := 1, slots := 6 }) (Nat.le_refl _) (Nat.le_refl _) hRcells hRslots
  obtain ⟨s', hA⟩ : ∃ z, z = (T.setVm s.vm).setFrames (.invoking m args :: below) := ⟨_, rfl⟩
  rw [← hA] at Y
  have hvm : s'.vm = s.vm := by rw [hA]; rfl
  have hhp : s'.heap = H := by rw [hA]; exact hT
  have hW0 : s.WarmedH s'.vm := by rw [hvm]; exact State.WarmedH.refl s
  have hat' : ∀ w ∈ vx_atS own ic cls names, w.before args s' = true := fun w hw => vx_ot_at hW0 hvm.symm (hgood w (List.mem_cons_of_mem _ (List.mem_cons_of_mem _ hw))) (hat w hw)
  have hk' : (Cond.classLink own ik cls).before args s' = true := vx_ot_at hW0 hvm.symm (hgood _ List.mem_cons_self) hk
  have hini' : (Cond.initialized cls).before args s' = true := vx_ot_at hW0 hvm.symm (hgood _ (List.mem_cons_of_mem _ List.mem_cons_self)) hini
  have hU' : vx_Zq Bundle.tN "UNASSIGNED_STACK" Bundle.steD A s' s'.heap := by rw [hhp]; exact vx_Zq.moved hW0.alike (hU.kept hS.2.1)
  have hN' : vx_Zq Bundle.tN "SUPPRESSED_SENTINEL" Bundle.listD A s' s'.heap := by rw [hhp]; exact vx_Zq.moved hW0.alike (hN.kept hS.2.1)
  have h : ∀ w ∈ Bundle.ownAtoms own ic cls names, w.before args s' = true := vx_own hat' (vx_isRefq hU'.1) (vx_isRefq hN'.1) hU'.2.word hN'.2.word
  have hown' : s'.vm.findClass own = some m.cls := by rw [hvm]; exact hown
  have hins : (Cond.instantiable cls 6).before args s' = true := h _ (by simp [Bundle.ownAtoms])
  obtain ⟨vm₁, cX, kX, hfX, hkX, -, -, X₁, st1⟩ := Y.newCold hexec (own := own) (C := cls) (index := ik) (n := 6) hown' hk' hins hini'
    (g := F0 m pc ls rest) rfl (by rw [hb]; exact d0) (Nat.le_refl _) (Nat.le_refl _)
  generalize hT1 : (T.setVm vm₁).pushCell { cls := cX, slots := kX.instanceTypes.map defaultValue, vm := .none } = T1 at X₁ st1
  have hcat : (Value.ref T.heap.size).category = 1 := rfl
  have hcellA : T1.heap[T.heap.size]? = some (freshCell cX kX) := by rw [← hT1]; exact State.heap_pushCell_size _ _
  have d3' : decode c.code (pc + 3) = .ok (.dup, 1) := by rw [hb]; exact d3
  have d4' : decode c.code (pc + 4) = .ok (.ldc is, 2) := by rw [hb]; exact d4
  have hstr' : vk_R own is text sa s' := vk_R.warm hW0 hstr
  obtain ⟨U, hsteps, hrun, hend, hW, hsame, ce, hce, hO⟩ := X₁.ctorThrowS hexec htr (own := own) (cls := cls) (names := names) (ic := ic) hown' hcls hnames h (fun x hx => nomatch hx) hfX hkX hcellA (by rw [hhp, hT]; exact Nat.le_refl _) (msg := .ref sa) rfl
    (g := { method := m, pc := pc + 6, locals := ls, stack := .ref sa :: .ref T.heap.size :: .ref T.heap.size :: rest, locked := none }) rfl hsize rfl rfl (rest := rest) rfl
    (by rw [hb]; exact d6) (by rw [hb]; exact d9) hout hRframes (by simp only [List.map_cons, List.sum_cons, hcat]; omega) hlocks
  obtain ⟨f1, f2⟩ := vx_frame hsame
  rw [hhp] at f1 f2
  have hWs : s.WarmedH U.vm := State.WarmedH.trans hW0 hW
  have hcl : s.vm.findClass cls = some ce.cls := by
    have h9 := hO.cls
    rw [hvm] at h9
    exact h9
  have hall : s.sameButNew ({ U with vm := s.vm } : State) locs mc ms := by
    subst hA
    obtain ⟨e1, e2⟩ := hsame
    rw [State.setFrames_setFrames] at e1
    have h2 : (T.setVm s.vm).sameButNew ({ U with vm := s.vm } : State) [] (0 + 1) (0 + 6) := ⟨e1, e2⟩
    have h3 := X.same.trans h2
    rw [List.append_nil] at h3
    exact h3.mono hc hs
  have hfresh : H.size < U.heap.size := by
    have h9 := (Array.getElem?_eq_some_iff.mp hce).1
    rw [hT] at h9
    exact h9
  refine ⟨U, ?_, .threw T.heap.size, hrun, hend, Or.inr ⟨T.heap.size, rfl, cls, ce, locs, hx U hWs.alike hfresh (fun q hq => f2 q hq (fun z hz => nomatch hz)), hce, hO.vm, hcl, hWs, hall, hf⟩⟩
  refine st1 _ ?_
  show Steps p.tables e below (T1.setTop { method := m, pc := pc + 3, locals := ls, stack := .ref T.heap.size :: rest, locked := none }) _
  jvm_step X₁.here [X₁.here.top, hexec, d3', Value.category]
  exact X₁.ldcString hexec (own := own) (text := text) (index := is) (a := sa) hown' hstr'.1 hstr'.2
    (g := { method := m, pc := pc + 4, locals := ls, stack := .ref T.heap.size :: .ref T.heap.size :: rest, locked := none }) rfl d4' _ hsteps
/-- 'throw new E("text")', the text by a wide index -/
theorem vx_throwSW {cc : ByteArray} {pc : Nat} (hexec : p.tables.exec = Jvm.exec) (hb : c.code = cc) (hl : l.stackTraces = false) {own cls text : String} {names : List String} {ik is ic mc ms sa : Nat} {A : Nat → Prop}
    (hown : s.vm.findClass own = some m.cls) (hcls : Bundle.fit cls = true) (hnames : ∀ n ∈ names, Bundle.fit n = true)
    (hk : (Cond.classLink own ik cls).before args s = true) (hini : (Cond.initialized cls).before args s = true) (hstr : vk_R own is text sa s) (hat : ∀ w ∈ vx_atS own ic cls names, w.before args s = true)
    (hgood : ∀ w ∈ Cond.classLink own ik cls :: Cond.initialized cls :: vx_atS own ic cls names, vx_ot w = true)
    (hU : vx_Zq Bundle.tN "UNASSIGNED_STACK" Bundle.steD A s s.heap) (hN : vx_Zq Bundle.tN "SUPPRESSED_SENTINEL" Bundle.listD A s s.heap) (hS : va_S A s.heap H locs) (hsize : ls.size = c.maxLocals)
    (d0 : decode cc pc = .ok (.new ik, 3)) (d3 : decode cc (pc + 3) = .ok (.dup, 1)) (d4 : decode cc (pc + 4) = .ok (.ldc_w is, 3)) (d7 : decode cc (pc + 7) = .ok (.invokespecial ic, 3)) (d10 : decode cc (pc + 10) = .ok (.athrow, 1))
    (hout : ∀ x ∈ c.exceptionTable.toList, covers x (pc + 10) = false)
    (hRframes : names.length + 3 < R.frames) (hRlocals : (rest.map fun v => v.category).sum + (13 * (names.length + 1) + 43) ≤ R.locals) (hRcells : cells + 1 ≤ R.cells) (hRslots : slots + 6 ≤ R.slots) (hlocks : meth.locks = false)
    (hx : ∀ t : State, s.vm.Alike t.vm → H.size ≤ t.heap.size → (∀ q : Nat, q < H.size → t.heap[q]? = H[q]?) → XC cls s t)
    (hf : ∀ z ∈ locs, free z.base) (hc : cells + 1 ≤ mc) (hs : slots + 6 ≤ ms) :
    W p l e R s m args below meth c H locs cells slots (vx_MQ below Qc XC args s mc ms free) (F0 m pc ls rest) := by
  intro T hT X
  have htr : e.platform.stackTraces = false := (show e.platform.stackTraces = l.stackTraces by rw [X.admits.platform]).trans hl
  have Y := vx_rebase X (R' := { frames := R.frames, locals := R.locals, cells := 1, slots := 6 }) (Nat.le_refl _) (Nat.le_refl _) hRcells hRslots
  obtain ⟨s', hA⟩ : ∃ z, z = (T.setVm s.vm).setFrames (.invoking m args :: below) := ⟨_, rfl⟩
  rw [← hA] at Y
  have hvm : s'.vm = s.vm := by rw [hA]; rfl
  have hhp : s'.heap = H := by rw [hA]; exact hT
  have hW0 : s.WarmedH s'.vm := by rw [hvm]; exact State.WarmedH.refl s
  have hat' : ∀ w ∈ vx_atS own ic cls names, w.before args s' = true := fun w hw => vx_ot_at hW0 hvm.symm (hgood w (List.mem_cons_of_mem _ (List.mem_cons_of_mem _ hw))) (hat w hw)
  have hk' : (Cond.classLink own ik cls).before args s' = true := vx_ot_at hW0 hvm.symm (hgood _ List.mem_cons_self) hk
  have hini' : (Cond.initialized cls).before args s' = true := vx_ot_at hW0 hvm.symm (hgood _ (List.mem_cons_of_mem _ List.mem_cons_self)) hini
  have hU' : vx_Zq Bundle.tN "UNASSIGNED_STACK" Bundle.steD A s' s'.heap := by rw [hhp]; exact vx_Zq.moved hW0.alike (hU.kept hS.2.1)
  have hN' : vx_Zq Bundle.tN "SUPPRESSED_SENTINEL" Bundle.listD A s' s'.heap := by rw [hhp]; exact vx_Zq.moved hW0.alike (hN.kept hS.2.1)
  have h : ∀ w ∈ Bundle.ownAtoms own ic cls names, w.before args s' = true := vx_own hat' (vx_isRefq hU'.1) (vx_isRefq hN'.1) hU'.2.word hN'.2.word
  have hown' : s'.vm.findClass own = some m.cls := by rw [hvm]; exact hown
  have hins : (Cond.instantiable cls 6).before args s' = true := h _ (by simp [Bundle.ownAtoms])
  obtain ⟨vm₁, cX, kX, hfX, hkX, -, -, X₁, st1⟩ := Y.newCold hexec (own := own) (C := cls) (index := ik) (n := 6) hown' hk' hins hini'
    (g := F0 m pc ls rest) rfl (by rw [hb]; exact d0) (Nat.le_refl _) (Nat.le_refl _)
  generalize hT1 : (T.setVm vm₁).pushCell { cls := cX, slots := kX.instanceTypes.map defaultValue, vm := .none } = T1 at X₁ st1
  have hcat : (Value.ref T.heap.size).category = 1 := rfl
  have hcellA : T1.heap[T.heap.size]? = some (freshCell cX kX) := by rw [← hT1]; exact State.heap_pushCell_size _ _
  have d3' : decode c.code (pc + 3) = .ok (.dup, 1) := by rw [hb]; exact d3
  have d4' : decode c.code (pc + 4) = .ok (.ldc_w is, 3) := by rw [hb]; exact d4
  have hstr' : vk_R own is text sa s' := vk_R.warm hW0 hstr
  obtain ⟨U, hsteps, hrun, hend, hW, hsame, ce, hce, hO⟩ := X₁.ctorThrowS hexec htr (own := own) (cls := cls) (names := names) (ic := ic) hown' hcls hnames h (fun x hx => nomatch hx) hfX hkX hcellA (by rw [hhp, hT]; exact Nat.le_refl _) (msg := .ref sa) rfl
    (g := { method := m, pc := pc + 7, locals := ls, stack := .ref sa :: .ref T.heap.size :: .ref T.heap.size :: rest, locked := none }) rfl hsize rfl rfl (rest := rest) rfl
    (by rw [hb]; exact d7) (by rw [hb]; exact d10) hout hRframes (by simp only [List.map_cons, List.sum_cons, hcat]; omega) hlocks
  obtain ⟨f1, f2⟩ := vx_frame hsame
  rw [hhp] at f1 f2
  have hWs : s.WarmedH U.vm := State.WarmedH.trans hW0 hW
  have hcl : s.vm.findClass cls = some ce.cls := by
    have h9 := hO.cls
    rw [hvm] at h9
    exact h9
  have hall : s.sameButNew ({ U with vm := s.vm } : State) locs mc ms := by
    subst hA
    obtain ⟨e1, e2⟩ := hsame
    rw [State.setFrames_setFrames] at e1
    have h2 : (T.setVm s.vm).sameButNew ({ U with vm := s.vm } : State) [] (0 + 1) (0 + 6) := ⟨e1, e2⟩
    have h3 := X.same.trans h2
    rw [List.append_nil] at h3
    exact h3.mono hc hs
  refine ⟨U, ?_, .threw T.heap.size, hrun, hend, Or.inr ⟨T.heap.size, rfl, cls, ce, locs, hx U hWs.alike f1 (fun q hq => f2 q hq (fun z hz => nomatch hz)), hce, hO.vm, hcl, hWs, hall, hf⟩⟩
  refine st1 _ ?_
  show Steps p.tables e below (T1.setTop { method := m, pc := pc + 3, locals := ls, stack := .ref T.heap.size :: rest, locked := none }) _
  jvm_step X₁.here [X₁.here.top, hexec, d3', Value.category]
  exact X₁.ldcStringW hexec (own := own) (text := text) (index := is) (a := sa) hown' hstr'.1 hstr'.2
    (g := { method := m, pc := pc + 4, locals := ls, stack := .ref T.heap.size :: .ref T.heap.size :: rest, locked := none }) rfl d4' _ hsteps
end Ends
section Bodies
variable {l : Launch}
theorem vx_ofW {y : MethodName} {ws ws' : List Cond} {rm : Room} {Pc : Array Value → State → Prop} {Qc : Array Value → State → Outcome → State → Prop} {XC : String → State → State → Prop} {mc ms : Nat} {free : Addr → Prop} {cc : ByteArray} {maxL : Nat} {ret : Option FieldType}
    (hy : plainName y.cls = true) (hw : ws = Cond.code y cc maxL ret :: ws')
    (body : ∀ p e s m args below meth c s₁, BodyLoose p l y (headSpec ws rm) cc maxL ret e s m args below meth c s₁ → c.maxLocals = maxL → (∀ x ∈ c.exceptionTable.toList, False) → Pc args s →
      W p l e (headSpec ws rm).room s m args below meth c s.heap [] 0 0 (vx_MQ below Qc XC args s mc ms free) (entryFrame m args maxL)) : vx_Met l y ws rm Pc Qc XC mc ms free := by
  refine MetFree.of_bodyS (code := cc) (maxLocals := maxL) (ret := ret) hy ?_ ?_
  · intro args s m h hn
    obtain ⟨meth, c, h1, h2, h3, h4, h5, h6, -, -⟩ := Cond.code_spec hn (atoms_spec (ws := ws) h _ (by rw [hw]; exact List.mem_cons_self))
    exact ⟨meth, c, h1, h2, h3, h4, h5, h6⟩
  · intro p e s m args below meth c s₁ B hml hP _
    have hh0 : s₁.heap = s.heap := by rw [B.state]; rfl
    have ht : ∀ x ∈ c.exceptionTable.toList, False := by
      obtain ⟨meth9, c9, h1, h2, -, -, -, -, h7, -⟩ := Cond.code_spec B.named (atoms_spec (ws := ws) B.pre _ (by rw [hw]; exact List.mem_cons_self))
      cases Option.some.inj (h1.symm.trans B.method)
      cases Option.some.inj (h2.symm.trans (Stand.of_body B).code)
      intro x hx
      rw [Array.isEmpty_iff.mp h7] at hx
      cases hx
    obtain ⟨t, a1, o, b1, b2, b3⟩ := body p e s m args below meth c s₁ B hml ht hP s₁ hh0 (Stand.of_body B)
    exact ⟨t, o, a1, b1, b2, b3⟩
/-- the table of a body with handlers -/
theorem vx_table {p : Program} {x y : MethodName} {S : Spec} {cc bytes : ByteArray} {maxL maxL' : Nat} {ret ret' : Option FieldType} {e : Env} {s s₁ : State} {m : MethodId} {args : Array Value} {below : List Frame} {meth : Method} {c : Code} {hh : List (Nat × Nat × Nat × Nat)}
    (B : BodyLoose p l y S cc maxL ret e s m args below meth c s₁) (h : (Cond.codeWith y bytes maxL' ret' hh).before args s = true) : c.exceptionTable.toList = tableOf hh := by
  obtain ⟨m9, meth9, c9, hn9, h1, h2, -, -, h6, -⟩ := Cond.codeWith_spec h
  cases Option.some.inj (hn9.symm.trans B.named)
  cases Option.some.inj (h1.symm.trans B.method)
  cases Option.some.inj (h2.symm.trans (Stand.of_body B).code)
  rw [← h6, table_eq]
end Bodies
end VXA
/-! ===== END ===== -/
/-! ===== BEGIN a static call of a method with an exception table ===== -/
section VXS
variable {p : Program} {l : Launch} {e : Env} {R : Room} {s : State} {m : MethodId} {args : Array Value} {below : List Frame} {meth : Method} {c : Code} {T : State} {H : Heap} {locs : List Loc} {cells slots : Nat}
abbrev vx_CSW (R : Room) (s : State) (args : Array Value) (own : String) (index : Nat) (y : MethodName) (bytes : ByteArray) (maxL : Nat) (ret : Option FieldType) (hh : List (Nat × Nat × Nat × Nat)) (ws : List Cond) (rm : Room) (mc ms n : Nat) : Prop :=
  (rm.cells = mc ∧ rm.slots = ms ∧ rm.frames + 1 ≤ R.frames ∧ 8 + (maxL + 11) + rm.locals ≤ R.locals ∧ (∀ w ∈ ws, ∀ (a' : Array Value) (U : State), s.WarmedH U.vm → w.before a' U = true) ∧ Cond.codeWith y bytes maxL ret hh ∈ ws) ∧
  (Cond.codeWith y bytes maxL ret hh).before args s = true ∧ (Cond.initialized y.cls).before args s = true ∧ (y.cls ≠ "java/lang/invoke/MethodHandle" ∧ y.cls ≠ "java/lang/invoke/VarHandle") ∧
  (∀ sig, parseMethodDescriptor y.desc = some sig → n = sig.parameters.length) ∧ (Cond.methodLink own index y).before args s = true ∧ (Cond.static y).before args s = true
theorem vx_cwSW {own : String} {index maxL mc ms : Nat} {y : MethodName} {bytes : ByteArray} {ret : Option FieldType} {hh : List (Nat × Nat × Nat × Nat)} {Ts ws ws' : List Cond} {rm : Room} (n : Nat) (ht : ∀ w ∈ Ts, w.before args s = true) (hT : GoodIn Ts (va_wsS own index y ws)) (hw : ws = Cond.codeWith y bytes maxL ret hh :: ws') (hrc : rm.cells = mc) (hrs : rm.slots = ms)
    (hd : y.cls ≠ "java/lang/invoke/MethodHandle" ∧ y.cls ≠ "java/lang/invoke/VarHandle" ∧ (parseMethodDescriptor y.desc).map (fun d => d.parameters.length) = some n) (hR : rm.frames + 1 ≤ R.frames ∧ 8 + (maxL + 11) + rm.locals ≤ R.locals) :
    vx_CSW R s args own index y bytes maxL ret hh ws rm mc ms n := by
  have ok : ∀ w ∈ va_wsS own index y ws, w.before args s = true := fun w h => ht w (hT w h).1
  have hG : GoodIn Ts ws := fun w h => hT w (by unfold va_wsS; exact List.mem_append_right _ h)
  have hc : Cond.codeWith y bytes maxL ret hh ∈ ws := by rw [hw]; exact List.mem_cons_self
  refine ⟨⟨hrc, hrs, hR.1, hR.2, pay_in ht hG, hc⟩, ht _ (hG _ hc).1, ok _ (by simp [va_wsS]), ⟨hd.1, hd.2.1⟩, fun sig h => ?_, ok _ (by simp [va_wsS]), ok _ (by simp [va_wsS])⟩
  have h2 := hd.2.2
  rw [h] at h2
  exact (Option.some.inj h2).symm
theorem vx_callSW (X : Stand p l e R s m args below meth c T locs cells slots) (hexec : p.tables.exec = Jvm.exec) {own : String} {index : Nat} {y : MethodName} {bytes : ByteArray} {maxL : Nat} {ret : Option FieldType} {hh : List (Nat × Nat × Nat × Nat)}
    (hown : s.vm.findClass own = some m.cls) (hlink : (Cond.methodLink own index y).before args s = true) (hstat : (Cond.static y).before args s = true) (hinit : (Cond.initialized y.cls).before args s = true)
    (hcode : (Cond.codeWith y bytes maxL ret hh).before args s = true) (hy : y.cls ≠ "java/lang/invoke/MethodHandle" ∧ y.cls ≠ "java/lang/invoke/VarHandle")
    {W9 : Nat} {Pre : Pt → Array Value → Prop} {Post : Pt → Array Value → Option Value → Pt → Prop} (hK : Back l R p e below s args y 3 W9 Pre Post)
    {g : JFrame} (hg : g.method = m) (hsize : g.locals.size = c.maxLocals) {argsL rest : List Value} (hlen : ∀ sig, parseMethodDescriptor y.desc = some sig → argsL.length = sig.parameters.length)
    (hstack : g.stack = argsL.reverse ++ rest) (hW : 2 * g.monitorRoom + (rest.map fun v => v.category).sum ≤ W9) (hdg : decode c.code g.pc = .ok (.invokestatic index, 3))
    (hpre : ∀ vm₁, s.WarmedH vm₁ → Pre ⟨T.setVm vm₁, locs, cells, slots⟩ argsL.toArray) :
    ∃ (v : Option Value) (vm₁ : Vm) (B : Pt), s.WarmedH vm₁ ∧ Stand p l e R s m args below meth c B.U B.locs B.cells B.slots ∧ Post ⟨T.setVm vm₁, locs, cells, slots⟩ argsL.toArray v B ∧
      ∀ target, Steps p.tables e below (B.U.setTop { g with pc := g.pc + 3, stack := v.toList ++ rest }) target → Steps p.tables e below (T.setTop g) target := by
  obtain ⟨mk, methM, cM, hnamed, hmethM, -, -, -, -, -, -, hsigM⟩ := Cond.codeWith_spec hcode
  have hstatic : methM.isStatic = true := Cond.static_spec hnamed hmethM hstat
  obtain ⟨kP, hkP, -⟩ := className_of_methodNamed hnamed
  have hinitP : kP.init = .initialized := Cond.initialized_spec (findClass_of_methodNamed hnamed) hkP hinit
  obtain ⟨vm₁, X₁, hstep₁⟩ := X.invokestatic hexec hown hlink hnamed hmethM hstatic hkP hinitP hy (g := g) hg (argsL := argsL) (rest := rest) (hlen _ hsigM) hstack hdg
  obtain ⟨v, B, X', hpost, hsteps⟩ := hK m meth c ⟨T.setVm vm₁, locs, cells, slots⟩ { g with stack := rest } (.invokestatic index) mk argsL.toArray X₁ hg hsize hdg hW (X₁.named hnamed) (hpre vm₁ X₁.warmed)
  exact ⟨v, vm₁, B, X₁.warmed, X', hpost, fun target h => hstep₁ _ fun acts => by rw [doInvoke_state]; exact hsteps.trans h⟩
theorem vx_runSW {y : MethodName} {bytes cc : ByteArray} {maxL nL mc ms n index : Nat} {ret : Option FieldType} {hh : List (Nat × Nat × Nat × Nat)} {ws : List Cond} {rm : Room} {Pc : Array Value → State → Prop} {Qc : Array Value → State → Outcome → State → Prop} {free : Addr → Prop} {Ts : List Cond} {own : String} {As rest : List Value} {g : JFrame}
    (S : CallFix p m c cc nL s args Ts own) (hM : Met l y ws rm Pc Qc mc ms free) (cw : vx_CSW R s args own index y bytes maxL ret hh ws rm mc ms n) (hp : PreS s H Pc As)
    (hg : g.method = m) (hn : As.length = n) (hsize : g.locals.size = nL) (hstack : g.stack = As.reverse ++ rest) (hW : 2 * g.monitorRoom + (rest.map fun v => v.category).sum ≤ 8) (hdg : decode cc g.pc = .ok (.invokestatic index, 3)) (hf : cells + mc ≤ R.cells ∧ slots + ms ≤ R.slots) :
    va_Run p l e R s m args below meth c H locs cells slots mc ms g rest (Qc As.toArray) (free) := by
  obtain ⟨⟨hrc, hrs, hfr, hlo, hws, hcw⟩, hcode, hini, hy, hlen, hl, hstt⟩ := cw
  have hK : Back l R p e below s args y 3 8 (PreOf R mc ms Pc) (PostOf Qc mc ms free) := va_backW (hh := hh) (bytes := bytes) (maxL := maxL) (ret := ret) hM hp.1 hrc hrs hfr hlo hws hcw (fun a' U hW => word_at hW (Or.inl (by first | rfl | simp [Cond.onTables, Cond.keeps, Cond.steady])) hini)
  obtain ⟨hx, hb, hml, ho, -⟩ := S
  intro T hT X
  obtain ⟨v, vm₁, ⟨U', l2, c2, s2⟩, hW₁, X', ⟨g', mk, t, L, e1, e2, hq, h1, hL, h2, h3⟩, st⟩ := vx_callSW X hx (hh := hh) (bytes := bytes) (maxL := maxL) (ret := ret) ho hl hstt hini hcode hy hK hg (hsize.trans hml.symm) (argsL := As) (rest := rest) (fun sig h => hn.trans (hlen sig h)) hstack hW (by rw [hb]; exact hdg)
    (fun vm₁ hW₁ => ⟨hf.1, hf.2, hp.2 (T.setVm vm₁) hT hW₁⟩)
  dsimp only [Pt.U, Pt.locs, Pt.cells, Pt.slots] at X' e1 e2 h1 h2 h3 st
  subst h1; subst h2; subst h3
  exact ⟨v, (T.setVm vm₁).calling g' mk As.toArray, t, U', L, hT, X', hL, e1, e2, hq, st⟩
/-- not caught here, past rows that name other classes: it goes on to the caller -/
theorem vx_outP {p : Program} {l : Launch} {e : Env} {R : Room} {s : State} {m : MethodId} {args : Array Value} {below : List Frame} {meth : Method} {c : Code} {H : Heap} {locs : List Loc} {cells slots : Nat} {free : Addr → Prop} {ls : Array Slot} {rest : List Value} {Qc : Array Value → State → Outcome → State → Prop} {XC : String → State → State → Prop}
    {pc : Nat} {own E : String} {ce : Cell} {q : Addr} {mc ms : Nat} (hown : s.vm.findClass own = some m.cls) (hlocks : meth.locks = false)
    (hpass : ∀ z ∈ c.exceptionTable.toList, covers z pc = false ∨ (z.catchType ≠ 0 ∧ ∃ nm : String, (Cond.classLink own z.catchType nm).before args s = true ∧ va_Nc E nm s)) (hcell : H[q]? = some ce) (hv : ce.vm = .none) (hcl : s.vm.findClass E = some ce.cls)
    (hx : ∀ t : State, t.heap = H → s.vm.Alike t.vm → XC E s t) (hf : ∀ z ∈ locs, free z.base) (hc : cells ≤ mc) (hs : slots ≤ ms) :
    vx_W p l e R s m args below meth c H locs cells slots (vx_MQ below Qc XC args s mc ms free) (F0 m pc ls rest) q := by
  intro T hT X
  have hpl : e.platform.magicAccessors = ({} : Platform).magicAccessors := by rw [X.admits.platform]
  obtain ⟨vm', hW', X', st⟩ := X.outThrough hlocks q (g := F0 m pc ls rest) rfl rfl rfl (cell := ce) (by rw [hT]; exact hcell) (by rw [hv]; rfl)
    (by obtain ⟨k9, h9, -⟩ := Vm.findClass_spec hcl; exact ⟨k9, h9⟩) (fun z hz => by
      rcases hpass z hz with h | ⟨hz0, nm, hl1, hn1⟩
      · exact Or.inl h
      · obtain ⟨c6, hc6, hcl6⟩ := Cond.classLink_spec hown hl1 e.platform hpl
        obtain ⟨a8, b8, h1, h2, h3⟩ := hn1
        cases Option.some.inj (h1.symm.trans hcl)
        cases Option.some.inj (h2.symm.trans hc6)
        exact Or.inr ⟨hz0, _, hcl6, h3⟩)
  obtain ⟨g₀, hfr⟩ := X'.frames_eq
  have hcell9 : ((T.setVm vm').setFrames (.throwing q :: below)).heap[q]? = some ce := by
    show T.heap[q]? = some ce
    rw [hT]; exact hcell
  have hend : Ended ((T.setVm vm').setFrames (.throwing q :: below)) below (.threw q) := State.frames_setFrames _ (State.cur_lt_of_frames hfr)
  refine ⟨(T.setVm vm').setFrames (.throwing q :: below), ?_, .threw q, X'.here.running, hend, Or.inr ⟨q, rfl, E, ce, locs, hx _ hT (X'.ends _).1.alike, hcell9, hv, hcl, (X'.ends _).1, (X'.ends _).2.mono hc hs, hf⟩⟩
  rw [X.pushThrowing_eq]
  exact st
/-- a thing of a world lies in the heap -/
theorem vx_lt {D : va_G} {cl : List vw_C} {ws : va_W} {H1 : Heap} (h : va_P D cl ws H1) {k : Nat} {q : Nat × va_E} (hk : ws[k]? = some q) : q.1 < H1.size := (h k q hk).lt
end VXS
/-! ===== END ===== -/
/-! ===== BEGIN methods with a table of their own: called by a name, returning or throwing ===== -/
section VXH
/-! vx_backW, vx_callVX, vx_callSX, vx_callVW, vx_runVW, vx_runVX, vx_runSX, vx_ofWH follow the same proofs as their sisters above (Free/Laws.lean, Shelf42/LK1.lean); vx_outP calls Shelf42/NT130.lean (outThrough). -/
section
variable {l : Launch} {R : Room} {p : Program} {e : Env} {below : List Frame} {s : State} {sargs : Array Value} {y : MethodName} {len W9 : Nat}
theorem vx_backW {ws : List Cond} {rm : Room} {Pc : Array Value → State → Prop} {Qc : Array Value → State → Outcome → State → Prop} {XC : String → State → State → Prop} {mc ms : Nat} {free : Addr → Prop} {bytes : ByteArray} {maxL : Nat} {ret : Option FieldType} {hh : List (Nat × Nat × Nat × Nat)}
    (hM : vx_Met l y ws rm Pc Qc XC mc ms free) (hblind : FrameBlind Pc) (hrc : rm.cells = mc) (hrs : rm.slots = ms)
    (hframes : rm.frames + 1 ≤ R.frames) (hlocals : W9 + (maxL + 11) + rm.locals ≤ R.locals)
    (hws : ∀ w ∈ ws, ∀ a' U, s.WarmedH U.vm → w.before a' U = true) (hcode : Cond.codeWith y bytes maxL ret hh ∈ ws) (hinit : ∀ a' U, s.WarmedH U.vm → (Cond.initialized y.cls).before a' U = true) :
    vx_Back l R p e below s sargs y len W9 (PreOf R mc ms Pc) (PostOf Qc mc ms free) (vx_Post XC mc ms free) := by
  intro m meth c A g ig mk a X hg hsize hdg hW hn hp
  have h1 : (headSpec ws rm).pre.before a A.U = true := atoms_intro fun w hw => hws w hw _ _ X.warmed
  have h2 : (Cond.codeWith y bytes maxL ret hh).before a A.U = true := hws _ hcode _ _ X.warmed
  have h3 : (Cond.initialized y.cls).before a A.U = true := hinit _ _ X.warmed
  have h4 : A.cells + (headSpec ws rm).room.cells ≤ R.cells := by rw [show (headSpec ws rm).room.cells = mc from hrc]; exact hp.1
  have h5 : A.slots + (headSpec ws rm).room.slots ≤ R.slots := by rw [show (headSpec ws rm).room.slots = ms from hrs]; exact hp.2.1
  have hPc : Pc a (A.U.calling g mk a) := hblind _ _ _ _ hp.2.2
  obtain ⟨U, Ls, c0, s0⟩ := A
  dsimp only [Pt.U, Pt.locs, Pt.cells, Pt.slots] at h1 h2 h3 h4 h5 X hn hPc ⊢
  obtain ⟨m9, methY, cY, hn9, hmY, hcY, -, hlY, -⟩ := Cond.codeWith_spec h2
  cases Option.some.inj (hn9.symm.trans hn)
  obtain ⟨kY, hkY, -⟩ := className_of_methodNamed hn
  have hinitY : kY.init = .initialized := Cond.initialized_spec (findClass_of_methodNamed hn) hkY h3
  have h : At U g.method c below := by rw [hg]; exact X.here
  have hlocals9 : W9 + (maxL + 11) + (headSpec ws rm).room.locals ≤ R.locals := hlocals
  have happ : (headSpec ws rm).appliesLoose y e.platform (U.calling g mk a) = true :=
    Spec.appliesLoose_calling (g := g) h hdg hn hkY hinitY
      (X.room_calling (g := g) (R' := (headSpec ws rm).room) hsize hmY hcY hframes (by rw [hlY]; omega) h4 h5) h1
  obtain ⟨mid, hmid⟩ := h.above
  have hfr : (U.setTop g).frames = (.java g :: mid) ++ below := by rw [State.frames_setTop' g h.top, hmid]; rfl
  obtain ⟨o, s₂, hsteps, -, hend, hq⟩ := Steps.callFree hM p X.admits X.cas X.clock (acts := []) hfr happ hPc trivial
  have hq' : vx_Q Qc XC mc ms free a (U.calling g mk a) o s₂ := hq
  rw [State.frames_setTop' g h.top] at hend
  obtain ⟨g₀, hg0⟩ := Option.isSome_iff_exists.mp h.top
  obtain ⟨r, hr⟩ := State.topJava?_eq_some.mp hg0
  have hr' : (({ U with heap := s₂.heap, slotsUsed := s₂.slotsUsed } : State).setVm s₂.vm).frames = .java g₀ :: r := hr
  rcases hq' with ⟨hqc, L, hfe, hL⟩ | ⟨q, rfl, E, ce, L, hx, hce, hcv, hcl, hW₂, hsm, hL⟩
  · obtain ⟨⟨v, rfl⟩, hW₂, e2, q2, q3, q4, q5, q6⟩ := id hfe
    have e3 : s₂ = ({ (U.calling g mk a).setFrames s₂.frames with heap := s₂.heap, slotsUsed := s₂.slotsUsed } : State).setVm s₂.vm := by
      have : s₂ = ({ s₂ with vm := (U.calling g mk a).vm } : State).setVm s₂.vm := rfl
      rw [e2] at this
      exact this
    obtain ⟨c₂, i₂, len₂, hc₂, hd₂, hf₂⟩ := hend
    have hW' : U.WarmedH s₂.vm := hW₂
    have hcc : c₂ = c := by
      have h1 : s₂.code? g.method = U.code? g.method := by
        rw [State.code?_eq, State.code?_eq, hW'.alike.method?]
      exact Option.some.inj (hc₂.symm.trans (h1.trans h.code))
    subst hcc
    have hlen : len₂ = len := by rw [hdg] at hd₂; cases hd₂; rfl
    subst hlen
    have hs₂ : s₂ = (({ U with heap := s₂.heap, slotsUsed := s₂.slotsUsed } : State).setVm s₂.vm).setTop { g with pc := g.pc + len₂, stack := v.toList ++ g.stack } := by
      refine e3.trans ?_
      rw [hf₂, State.calling_eq h.top, State.setFrames_setFrames, State.setTop_of_frames _ hr', hr]
      rfl
    have hsame : U.sameButNew ({ U with heap := s₂.heap, slotsUsed := s₂.slotsUsed } : State) L mc ms := by
      refine ⟨?_, q2, q3, q4, q5, q6⟩
      obtain ⟨t, ht, -⟩ := State.frames_cons hr
      show ({ U with heap := s₂.heap, slotsUsed := s₂.slotsUsed } : State) = { U.setFrames U.frames with heap := s₂.heap, slotsUsed := s₂.slotsUsed }
      rw [State.setFrames_self ht]
    subst hg
    refine Or.inl ⟨v, ⟨(({ U with heap := s₂.heap, slotsUsed := s₂.slotsUsed } : State).setVm s₂.vm), Ls ++ L, c0 + mc, s0 + ms⟩,
      ⟨X.admits, X.cas, X.clock, X.frames, X.room, X.hears, X.method, X.code, (X.here.setHeapUsed s₂.heap s₂.slotsUsed).setVm hW'.alike, X.tail, State.WarmedH.trans X.warmed hW', X.limits, X.bytes, X.same.trans (hsame.setVm s.vm)⟩,
      ⟨g, mk, s₂, L, rfl, rfl, hqc, rfl, hL, rfl, rfl⟩, ?_⟩
    show Steps p.tables e below _ ((({ U with heap := s₂.heap, slotsUsed := s₂.slotsUsed } : State).setVm s₂.vm).setTop { g with pc := g.pc + len₂, stack := v.toList ++ g.stack })
    rw [← hs₂]
    exact hsteps
  · obtain ⟨e2, q2, q3, q4, q5, q6⟩ := id hsm
    have e3 : s₂ = ({ (U.calling g mk a).setFrames s₂.frames with heap := s₂.heap, slotsUsed := s₂.slotsUsed } : State).setVm s₂.vm := by
      have : s₂ = ({ s₂ with vm := (U.calling g mk a).vm } : State).setVm s₂.vm := rfl
      rw [e2] at this
      exact this
    have hf₂ : s₂.frames = .throwing q :: .java g :: U.frames.tail := hend
    have hW' : U.WarmedH s₂.vm := hW₂
    have hs₂ : s₂ = ((({ U with heap := s₂.heap, slotsUsed := s₂.slotsUsed } : State).setVm s₂.vm).setTop g).pushFrame (.throwing q) := by
      refine e3.trans ?_
      rw [hf₂, State.calling_eq h.top, State.setFrames_setFrames, State.pushFrame, State.frames_setTop _ hr', State.setTop_of_frames _ hr', State.setFrames_setFrames, hr]
      rfl
    have hsame : U.sameButNew ({ U with heap := s₂.heap, slotsUsed := s₂.slotsUsed } : State) L mc ms := by
      refine ⟨?_, q2, q3, q4, q5, q6⟩
      obtain ⟨t, ht, -⟩ := State.frames_cons hr
      show ({ U with heap := s₂.heap, slotsUsed := s₂.slotsUsed } : State) = { U.setFrames U.frames with heap := s₂.heap, slotsUsed := s₂.slotsUsed }
      rw [State.setFrames_self ht]
    subst hg
    refine Or.inr ⟨q, ⟨(({ U with heap := s₂.heap, slotsUsed := s₂.slotsUsed } : State).setVm s₂.vm), Ls ++ L, c0 + mc, s0 + ms⟩,
      ⟨X.admits, X.cas, X.clock, X.frames, X.room, X.hears, X.method, X.code, (X.here.setHeapUsed s₂.heap s₂.slotsUsed).setVm hW'.alike, X.tail, State.WarmedH.trans X.warmed hW', X.limits, X.bytes, X.same.trans (hsame.setVm s.vm)⟩,
      ⟨g, mk, s₂, L, E, ce, rfl, rfl, hx, hce, hcv, hcl, rfl, hL, rfl, rfl⟩, ?_⟩
    show Steps p.tables e below _ (((({ U with heap := s₂.heap, slotsUsed := s₂.slotsUsed } : State).setVm s₂.vm).setTop g).pushFrame (.throwing q))
    rw [← hs₂]
    exact hsteps
end
variable {p : Program} {l : Launch} {e : Env} {R : Room} {s : State} {m : MethodId} {args : Array Value} {below : List Frame} {meth : Method} {c : Code} {T : State} {H : Heap} {locs : List Loc} {cells slots : Nat}
theorem vx_callVX (X : Stand p l e R s m args below meth c T locs cells slots) (hexec : p.tables.exec = Jvm.exec) {own C : String} {index : Nat} {y : MethodName} {bytes : ByteArray} {maxL : Nat} {ret : Option FieldType} {hh : List (Nat × Nat × Nat × Nat)}
    (hown : s.vm.findClass own = some m.cls) (hlink : (Cond.methodLink own index y).before args s = true) (hinst : (Cond.instanceMethod y).before args s = true) (hsel : (Cond.selects C y y).before args s = true)
    (hcode : (Cond.codeWith y bytes maxL ret hh).before args s = true) (hy : y.cls ≠ "java/lang/invoke/MethodHandle" ∧ y.cls ≠ "java/lang/invoke/VarHandle")
    {W9 : Nat} {Pre : Pt → Array Value → Prop} {Post : Pt → Array Value → Option Value → Pt → Prop} {PostX : Pt → Array Value → Addr → Pt → Prop} (hK : vx_Back l R p e below s args y 3 W9 Pre Post PostX)
    {b : Addr} {cellB : Cell} (hcell : T.heap[b]? = some cellB) (hobj : cellB.vm.isStatics = false) (hcls : s.vm.findClass C = some cellB.cls)
    {g : JFrame} (hg : g.method = m) (hsize : g.locals.size = c.maxLocals) {argsL rest : List Value} (hlen : ∀ sig, parseMethodDescriptor y.desc = some sig → argsL.length = sig.parameters.length)
    (hstack : g.stack = argsL.reverse ++ .ref b :: rest) (hW : 2 * g.monitorRoom + (rest.map fun v => v.category).sum ≤ W9) (hdg : decode c.code g.pc = .ok (.invokevirtual index, 3))
    (hpre : ∀ vm₁, s.WarmedH vm₁ → Pre ⟨T.setVm vm₁, locs, cells, slots⟩ (Value.ref b :: argsL).toArray) :
    (∃ (v : Option Value) (vm₁ : Vm) (B : Pt), s.WarmedH vm₁ ∧ Stand p l e R s m args below meth c B.U B.locs B.cells B.slots ∧ Post ⟨T.setVm vm₁, locs, cells, slots⟩ (Value.ref b :: argsL).toArray v B ∧
      ∀ target, Steps p.tables e below (B.U.setTop { g with pc := g.pc + 3, stack := v.toList ++ rest }) target → Steps p.tables e below (T.setTop g) target) ∨
    (∃ (q : Addr) (vm₁ : Vm) (B : Pt), s.WarmedH vm₁ ∧ Stand p l e R s m args below meth c B.U B.locs B.cells B.slots ∧ PostX ⟨T.setVm vm₁, locs, cells, slots⟩ (Value.ref b :: argsL).toArray q B ∧
      Steps p.tables e below (T.setTop g) ((B.U.setTop { g with stack := rest }).pushFrame (.throwing q))) := by
  obtain ⟨mk, methM, hnamed, hmethM, hstM, habM⟩ := Cond.instanceMethod_spec hinst
  obtain ⟨m8, methM', cM, hn8, hmethM', -, -, -, -, -, -, hsigM⟩ := Cond.codeWith_spec hcode
  cases Option.some.inj (hn8.symm.trans hnamed)
  cases hmethM.symm.trans hmethM'
  obtain ⟨c2, r2, m2, q1, q2, q3, q4, kP, hkP, hkPi⟩ := Cond.selects_spec hsel
  cases hcls.symm.trans q1
  cases (State.methodFound?_of_named hnamed hy).symm.trans q2
  cases hnamed.symm.trans q3
  have hselP : selectMethod e.platform s.vm cellB.cls mk = .method mk := by rw [Launch.admits_selectMethod X.admits]; exact q4
  obtain ⟨vm₁, X₁, hstep₁⟩ := X.invokevirtual hexec hown hlink hnamed hmethM hstM hkP hkPi hy (a := b) (cell := cellB) hcell
    (fun z h => by rw [h] at hobj; cases hobj) hselP hmethM habM hkP hkPi (g := g) hg (argsL := argsL) (rest := rest) (hlen _ hsigM) hstack hdg
  rcases hK m meth c ⟨T.setVm vm₁, locs, cells, slots⟩ { g with stack := rest } (.invokevirtual index) mk (Value.ref b :: argsL).toArray X₁ hg hsize hdg hW (X₁.named hnamed) (hpre vm₁ X₁.warmed) with ⟨v, B, X', hpost, hsteps⟩ | ⟨q, B, X', hpost, hsteps⟩
  · exact Or.inl ⟨v, vm₁, B, X₁.warmed, X', hpost, fun target h => hstep₁ _ fun acts => by rw [doInvoke_state]; exact hsteps.trans h⟩
  · exact Or.inr ⟨q, vm₁, B, X₁.warmed, X', hpost, hstep₁ _ fun acts => by rw [doInvoke_state]; exact hsteps⟩
theorem vx_callSX (X : Stand p l e R s m args below meth c T locs cells slots) (hexec : p.tables.exec = Jvm.exec) {own : String} {index : Nat} {y : MethodName} {bytes : ByteArray} {maxL : Nat} {ret : Option FieldType} {hh : List (Nat × Nat × Nat × Nat)}
    (hown : s.vm.findClass own = some m.cls) (hlink : (Cond.methodLink own index y).before args s = true) (hstat : (Cond.static y).before args s = true) (hinit : (Cond.initialized y.cls).before args s = true)
    (hcode : (Cond.codeWith y bytes maxL ret hh).before args s = true) (hy : y.cls ≠ "java/lang/invoke/MethodHandle" ∧ y.cls ≠ "java/lang/invoke/VarHandle")
    {W9 : Nat} {Pre : Pt → Array Value → Prop} {Post : Pt → Array Value → Option Value → Pt → Prop} {PostX : Pt → Array Value → Addr → Pt → Prop} (hK : vx_Back l R p e below s args y 3 W9 Pre Post PostX)
    {g : JFrame} (hg : g.method = m) (hsize : g.locals.size = c.maxLocals) {argsL rest : List Value} (hlen : ∀ sig, parseMethodDescriptor y.desc = some sig → argsL.length = sig.parameters.length)
    (hstack : g.stack = argsL.reverse ++ rest) (hW : 2 * g.monitorRoom + (rest.map fun v => v.category).sum ≤ W9) (hdg : decode c.code g.pc = .ok (.invokestatic index, 3))
    (hpre : ∀ vm₁, s.WarmedH vm₁ → Pre ⟨T.setVm vm₁, locs, cells, slots⟩ argsL.toArray) :
    (∃ (v : Option Value) (vm₁ : Vm) (B : Pt), s.WarmedH vm₁ ∧ Stand p l e R s m args below meth c B.U B.locs B.cells B.slots ∧ Post ⟨T.setVm vm₁, locs, cells, slots⟩ argsL.toArray v B ∧
      ∀ target, Steps p.tables e below (B.U.setTop { g with pc := g.pc + 3, stack := v.toList ++ rest }) target → Steps p.tables e below (T.setTop g) target) ∨
    (∃ (q : Addr) (vm₁ : Vm) (B : Pt), s.WarmedH vm₁ ∧ Stand p l e R s m args below meth c B.U B.locs B.cells B.slots ∧ PostX ⟨T.setVm vm₁, locs, cells, slots⟩ argsL.toArray q B ∧
      Steps p.tables e below (T.setTop g) ((B.U.setTop { g with stack := rest }).pushFrame (.throwing q))) := by
  obtain ⟨mk, methM, cM, hnamed, hmethM, -, -, -, -, -, -, hsigM⟩ := Cond.codeWith_spec hcode
  have hstatic : methM.isStatic = true := Cond.static_spec hnamed hmethM hstat
  obtain ⟨kP, hkP, -⟩ := className_of_methodNamed hnamed
  have hinitP : kP.init = .initialized := Cond.initialized_spec (findClass_of_methodNamed hnamed) hkP hinit
  obtain ⟨vm₁, X₁, hstep₁⟩ := X.invokestatic hexec hown hlink hnamed hmethM hstatic hkP hinitP hy (g := g) hg (argsL := argsL) (rest := rest) (hlen _ hsigM) hstack hdg
  rcases hK m meth c ⟨T.setVm vm₁, locs, cells, slots⟩ { g with stack := rest } (.invokestatic index) mk argsL.toArray X₁ hg hsize hdg hW (X₁.named hnamed) (hpre vm₁ X₁.warmed) with ⟨v, B, X', hpost, hsteps⟩ | ⟨q, B, X', hpost, hsteps⟩
  · exact Or.inl ⟨v, vm₁, B, X₁.warmed, X', hpost, fun target h => hstep₁ _ fun acts => by rw [doInvoke_state]; exact hsteps.trans h⟩
  · exact Or.inr ⟨q, vm₁, B, X₁.warmed, X', hpost, hstep₁ _ fun acts => by rw [doInvoke_state]; exact hsteps⟩
theorem vx_callVW (X : Stand p l e R s m args below meth c T locs cells slots) (hexec : p.tables.exec = Jvm.exec) {own C : String} {index : Nat} {y : MethodName} {bytes : ByteArray} {maxL : Nat} {ret : Option FieldType} {hh : List (Nat × Nat × Nat × Nat)}
    (hown : s.vm.findClass own = some m.cls) (hlink : (Cond.methodLink own index y).before args s = true) (hinst : (Cond.instanceMethod y).before args s = true) (hsel : (Cond.selects C y y).before args s = true)
    (hcode : (Cond.codeWith y bytes maxL ret hh).before args s = true) (hy : y.cls ≠ "java/lang/invoke/MethodHandle" ∧ y.cls ≠ "java/lang/invoke/VarHandle")
    {W9 : Nat} {Pre : Pt → Array Value → Prop} {Post : Pt → Array Value → Option Value → Pt → Prop} (hK : Back l R p e below s args y 3 W9 Pre Post)
    {b : Addr} {cellB : Cell} (hcell : T.heap[b]? = some cellB) (hobj : cellB.vm.isStatics = false) (hcls : s.vm.findClass C = some cellB.cls)
    {g : JFrame} (hg : g.method = m) (hsize : g.locals.size = c.maxLocals) {argsL rest : List Value} (hlen : ∀ sig, parseMethodDescriptor y.desc = some sig → argsL.length = sig.parameters.length)
    (hstack : g.stack = argsL.reverse ++ .ref b :: rest) (hW : 2 * g.monitorRoom + (rest.map fun v => v.category).sum ≤ W9) (hdg : decode c.code g.pc = .ok (.invokevirtual index, 3))
    (hpre : ∀ vm₁, s.WarmedH vm₁ → Pre ⟨T.setVm vm₁, locs, cells, slots⟩ (Value.ref b :: argsL).toArray) :
    ∃ (v : Option Value) (vm₁ : Vm) (B : Pt), s.WarmedH vm₁ ∧ Stand p l e R s m args below meth c B.U B.locs B.cells B.slots ∧ Post ⟨T.setVm vm₁, locs, cells, slots⟩ (Value.ref b :: argsL).toArray v B ∧
      ∀ target, Steps p.tables e below (B.U.setTop { g with pc := g.pc + 3, stack := v.toList ++ rest }) target → Steps p.tables e below (T.setTop g) target := by
  obtain ⟨mk, methM, hnamed, hmethM, hstM, habM⟩ := Cond.instanceMethod_spec hinst
  obtain ⟨m8, methM', cM, hn8, hmethM', -, -, -, -, -, -, hsigM⟩ := Cond.codeWith_spec hcode
  cases Option.some.inj (hn8.symm.trans hnamed)
  cases hmethM.symm.trans hmethM'
  obtain ⟨c2, r2, m2, q1, q2, q3, q4, kP, hkP, hkPi⟩ := Cond.selects_spec hsel
  cases hcls.symm.trans q1
  cases (State.methodFound?_of_named hnamed hy).symm.trans q2
  cases hnamed.symm.trans q3
  have hselP : selectMethod e.platform s.vm cellB.cls mk = .method mk := by rw [Launch.admits_selectMethod X.admits]; exact q4
  obtain ⟨vm₁, X₁, hstep₁⟩ := X.invokevirtual hexec hown hlink hnamed hmethM hstM hkP hkPi hy (a := b) (cell := cellB) hcell
    (fun z h => by rw [h] at hobj; cases hobj) hselP hmethM habM hkP hkPi (g := g) hg (argsL := argsL) (rest := rest) (hlen _ hsigM) hstack hdg
  obtain ⟨v, B, X', hpost, hsteps⟩ := hK m meth c ⟨T.setVm vm₁, locs, cells, slots⟩ { g with stack := rest } (.invokevirtual index) mk (Value.ref b :: argsL).toArray X₁ hg hsize hdg hW (X₁.named hnamed) (hpre vm₁ X₁.warmed)
  exact ⟨v, vm₁, B, X₁.warmed, X', hpost, fun target h => hstep₁ _ fun acts => by rw [doInvoke_state]; exact hsteps.trans h⟩
abbrev vx_CVW (R : Room) (s : State) (args : Array Value) (own C : String) (index : Nat) (y : MethodName) (bytes : ByteArray) (maxL : Nat) (ret : Option FieldType) (hh : List (Nat × Nat × Nat × Nat)) (ws : List Cond) (rm : Room) (mc ms n : Nat) : Prop :=
  (rm.cells = mc ∧ rm.slots = ms ∧ rm.frames + 1 ≤ R.frames ∧ 8 + (maxL + 11) + rm.locals ≤ R.locals ∧ (∀ w ∈ ws, ∀ (a' : Array Value) (U : State), s.WarmedH U.vm → w.before a' U = true) ∧ Cond.codeWith y bytes maxL ret hh ∈ ws) ∧
  (Cond.codeWith y bytes maxL ret hh).before args s = true ∧ (Cond.initialized y.cls).before args s = true ∧ (y.cls ≠ "java/lang/invoke/MethodHandle" ∧ y.cls ≠ "java/lang/invoke/VarHandle") ∧
  (∀ sig, parseMethodDescriptor y.desc = some sig → n = sig.parameters.length) ∧ (Cond.methodLink own index y).before args s = true ∧ (Cond.instanceMethod y).before args s = true ∧ (Cond.selects C y y).before args s = true
theorem vx_cwVW {own C : String} {index maxL mc ms : Nat} {y : MethodName} {bytes : ByteArray} {ret : Option FieldType} {hh : List (Nat × Nat × Nat × Nat)} {Ts ws ws' : List Cond} {rm : Room} (n : Nat) (ht : ∀ w ∈ Ts, w.before args s = true) (hT : GoodIn Ts (wsV own index C y ws)) (hw : ws = Cond.codeWith y bytes maxL ret hh :: ws') (hrc : rm.cells = mc) (hrs : rm.slots = ms)
    (hd : y.cls = C ∧ y.cls ≠ "java/lang/invoke/MethodHandle" ∧ y.cls ≠ "java/lang/invoke/VarHandle" ∧ (parseMethodDescriptor y.desc).map (fun d => d.parameters.length) = some n) (hR : rm.frames + 1 ≤ R.frames ∧ 8 + (maxL + 11) + rm.locals ≤ R.locals) :
    vx_CVW R s args own C index y bytes maxL ret hh ws rm mc ms n := by
  obtain ⟨hC, hd⟩ := hd
  subst hC
  have ok : ∀ w ∈ wsV own index y.cls y ws, w.before args s = true := fun w h => ht w (hT w h).1
  have hG : GoodIn Ts ws := fun w h => hT w (by unfold wsV; exact List.mem_append_right _ h)
  have hc : Cond.codeWith y bytes maxL ret hh ∈ ws := by rw [hw]; exact List.mem_cons_self
  refine ⟨⟨hrc, hrs, hR.1, hR.2, pay_in ht hG, hc⟩, ht _ (hG _ hc).1, ok _ (by simp [wsV]), ⟨hd.1, hd.2.1⟩, fun sig h => ?_, ok _ (by simp [wsV]), ok _ (by simp [wsV]), ok _ (by simp [wsV])⟩
  have h2 := hd.2.2
  rw [h] at h2
  exact (Option.some.inj h2).symm
theorem vx_runVW {y : MethodName} {bytes cc : ByteArray} {maxL nL mc ms n index : Nat} {ret : Option FieldType} {hh : List (Nat × Nat × Nat × Nat)} {ws : List Cond} {rm : Room} {Pc : Array Value → State → Prop} {Qc : Array Value → State → Outcome → State → Prop} {free : Addr → Prop} {Ts : List Cond} {own C : String} {b : Addr} {As rest : List Value} {g : JFrame}
    (S : CallFix p m c cc nL s args Ts own) (hM : Met l y ws rm Pc Qc mc ms free) (cw : vx_CVW R s args own C index y bytes maxL ret hh ws rm mc ms n) (hp : PreV s H C b Pc As)
    (hg : g.method = m) (hn : As.length = n) (hsize : g.locals.size = nL) (hstack : g.stack = As.reverse ++ .ref b :: rest) (hW : 2 * g.monitorRoom + (rest.map fun v => v.category).sum ≤ 8) (hdg : decode cc g.pc = .ok (.invokevirtual index, 3)) (hf : cells + mc ≤ R.cells ∧ slots + ms ≤ R.slots) :
    va_Run p l e R s m args below meth c H locs cells slots mc ms g rest (Qc (Value.ref b :: As).toArray) free := by
  obtain ⟨⟨hrc, hrs, hfr, hlo, hws, hcw⟩, hcode, hini, hy, hlen, hl, hin, hse⟩ := cw
  have hK : Back l R p e below s args y 3 8 (PreOf R mc ms Pc) (PostOf Qc mc ms free) := va_backW (hh := hh) (bytes := bytes) (maxL := maxL) (ret := ret) hM hp.1 hrc hrs hfr hlo hws hcw (fun a' U hW => word_at hW (Or.inl (by first | rfl | simp [Cond.onTables, Cond.keeps, Cond.steady])) hini)
  obtain ⟨hx, hb, hml, ho, -⟩ := S
  obtain ⟨-, ⟨cellB, hcB, hoB, hclB⟩, hPc⟩ := hp
  intro T hT X
  obtain ⟨v, vm₁, ⟨U', l2, c2, s2⟩, hW₁, X', ⟨g', mk, t, L, e1, e2, hq, h1, hL, h2, h3⟩, st⟩ := vx_callVW X hx (C := C) (hh := hh) (bytes := bytes) (maxL := maxL) (ret := ret) ho hl hin hse hcode hy hK (by rw [hT]; exact hcB) hoB hclB hg (hsize.trans hml.symm) (argsL := As) (rest := rest) (fun sig h => hn.trans (hlen sig h)) hstack hW (by rw [hb]; exact hdg)
    (fun vm₁ hW₁ => ⟨hf.1, hf.2, hPc (T.setVm vm₁) hT hW₁⟩)
  dsimp only [Pt.U, Pt.locs, Pt.cells, Pt.slots] at X' e1 e2 h1 h2 h3 st
  subst h1; subst h2; subst h3
  exact ⟨v, (T.setVm vm₁).calling g' mk (Value.ref b :: As).toArray, t, U', L, hT, X', hL, e1, e2, hq, st⟩
section
variable {y : MethodName} {bytes cc : ByteArray} {maxL nL mc ms n index : Nat} {ret : Option FieldType} {ws : List Cond} {rm : Room} {Pc : Array Value → State → Prop} {Qc : Array Value → State → Outcome → State → Prop} {XC : String → State → State → Prop} {free : Addr → Prop} {Ts : List Cond} {own C : String} {b : Addr} {As rest : List Value} {g : JFrame}
theorem vx_runVX {hh : List (Nat × Nat × Nat × Nat)} (S : CallFix p m c cc nL s args Ts own) (hM : vx_Met l y ws rm Pc Qc XC mc ms free) (cw : vx_CVW R s args own C index y bytes maxL ret hh ws rm mc ms n) (hp : PreV s H C b Pc As)
    (hg : g.method = m) (hn : As.length = n) (hsize : g.locals.size = nL) (hstack : g.stack = As.reverse ++ .ref b :: rest) (hW : 2 * g.monitorRoom + (rest.map fun v => v.category).sum ≤ 8) (hdg : decode cc g.pc = .ok (.invokevirtual index, 3)) (hf : cells + mc ≤ R.cells ∧ slots + ms ≤ R.slots) :
    vx_Run p l e R s m args below meth c H locs cells slots mc ms g rest (Qc (Value.ref b :: As).toArray) XC free := by
  obtain ⟨⟨hrc, hrs, hfr, hlo, hws, hcw⟩, hcode, hini, hy, hlen, hl, hin, hse⟩ := cw
  have hK : vx_Back l R p e below s args y 3 8 (PreOf R mc ms Pc) (PostOf Qc mc ms free) (vx_Post XC mc ms free) := vx_backW (hh := hh) (bytes := bytes) (maxL := maxL) (ret := ret) hM hp.1 hrc hrs hfr hlo hws hcw (fun a' U hW => word_at hW (Or.inl (by first | rfl | simp [Cond.onTables, Cond.keeps, Cond.steady])) hini)
  obtain ⟨hx, hb, hml, ho, -⟩ := S
  obtain ⟨-, ⟨cellB, hcB, hoB, hclB⟩, hPc⟩ := hp
  intro T hT X
  rcases vx_callVX X hx (C := C) (hh := hh) (bytes := bytes) (maxL := maxL) (ret := ret) ho hl hin hse hcode hy hK (by rw [hT]; exact hcB) hoB hclB hg (hsize.trans hml.symm) (argsL := As) (rest := rest) (fun sig h => hn.trans (hlen sig h)) hstack hW (by rw [hb]; exact hdg)
    (fun vm₁ hW₁ => ⟨hf.1, hf.2, hPc (T.setVm vm₁) hT hW₁⟩) with ⟨v, vm₁, ⟨U', l2, c2, s2⟩, hW₁, X', ⟨g', mk, t, L, e1, e2, hq, h1, hL, h2, h3⟩, st⟩ | ⟨q, vm₁, ⟨U', l2, c2, s2⟩, hW₁, X', ⟨g', mk, t, L, E, ce, e1, e2, hq, hce, hcv, hcl, h1, hL, h2, h3⟩, st⟩
  · dsimp only [Pt.U, Pt.locs, Pt.cells, Pt.slots] at X' e1 e2 h1 h2 h3 st
    subst h1; subst h2; subst h3
    exact Or.inl ⟨v, (T.setVm vm₁).calling g' mk (Value.ref b :: As).toArray, t, U', L, hT, X', hL, e1, e2, hq, st⟩
  · dsimp only [Pt.U, Pt.locs, Pt.cells, Pt.slots] at X' e1 e2 h1 h2 h3 st hcl
    subst h1; subst h2; subst h3
    exact Or.inr ⟨q, (T.setVm vm₁).calling g' mk (Value.ref b :: As).toArray, t, U', L, E, ce, hT, X', hL, e1, e2, hq, hce, hcv, vx_cls hW₁ hcl, st⟩
theorem vx_runSX {hh : List (Nat × Nat × Nat × Nat)} (S : CallFix p m c cc nL s args Ts own) (hM : vx_Met l y ws rm Pc Qc XC mc ms free) (cw : vx_CSW R s args own index y bytes maxL ret hh ws rm mc ms n) (hp : PreS s H Pc As)
    (hg : g.method = m) (hn : As.length = n) (hsize : g.locals.size = nL) (hstack : g.stack = As.reverse ++ rest) (hW : 2 * g.monitorRoom + (rest.map fun v => v.category).sum ≤ 8) (hdg : decode cc g.pc = .ok (.invokestatic index, 3)) (hf : cells + mc ≤ R.cells ∧ slots + ms ≤ R.slots) :
    vx_Run p l e R s m args below meth c H locs cells slots mc ms g rest (Qc As.toArray) XC free := by
  obtain ⟨⟨hrc, hrs, hfr, hlo, hws, hcw⟩, hcode, hini, hy, hlen, hl, hstt⟩ := cw
  have hK : vx_Back l R p e below s args y 3 8 (PreOf R mc ms Pc) (PostOf Qc mc ms free) (vx_Post XC mc ms free) := vx_backW (hh := hh) (bytes := bytes) (maxL := maxL) (ret := ret) hM hp.1 hrc hrs hfr hlo hws hcw (fun a' U hW => word_at hW (Or.inl (by first | rfl | simp [Cond.onTables, Cond.keeps, Cond.steady])) hini)
  obtain ⟨hx, hb, hml, ho, -⟩ := S
  intro T hT X
  rcases vx_callSX X hx (hh := hh) (bytes := bytes) (maxL := maxL) (ret := ret) ho hl hstt hini hcode hy hK hg (hsize.trans hml.symm) (argsL := As) (rest := rest) (fun sig h => hn.trans (hlen sig h)) hstack hW (by rw [hb]; exact hdg)
    (fun vm₁ hW₁ => ⟨hf.1, hf.2, hp.2 (T.setVm vm₁) hT hW₁⟩) with ⟨v, vm₁, ⟨U', l2, c2, s2⟩, hW₁, X', ⟨g', mk, t, L, e1, e2, hq, h1, hL, h2, h3⟩, st⟩ | ⟨q, vm₁, ⟨U', l2, c2, s2⟩, hW₁, X', ⟨g', mk, t, L, E, ce, e1, e2, hq, hce, hcv, hcl, h1, hL, h2, h3⟩, st⟩
  · dsimp only [Pt.U, Pt.locs, Pt.cells, Pt.slots] at X' e1 e2 h1 h2 h3 st
    subst h1; subst h2; subst h3
    exact Or.inl ⟨v, (T.setVm vm₁).calling g' mk As.toArray, t, U', L, hT, X', hL, e1, e2, hq, st⟩
  · dsimp only [Pt.U, Pt.locs, Pt.cells, Pt.slots] at X' e1 e2 h1 h2 h3 st hcl
    subst h1; subst h2; subst h3
    exact Or.inr ⟨q, (T.setVm vm₁).calling g' mk As.toArray, t, U', L, E, ce, hT, X', hL, e1, e2, hq, hce, hcv, vx_cls hW₁ hcl, st⟩
end
end VXH
theorem vx_ofWH {l : Launch} {y : MethodName} {ws ws' : List Cond} {rm : Room} {Pc : Array Value → State → Prop} {Qc : Array Value → State → Outcome → State → Prop} {XC : String → State → State → Prop} {mc ms : Nat} {free : Addr → Prop} {cc : ByteArray} {maxL : Nat} {ret : Option FieldType} {hh : List (Nat × Nat × Nat × Nat)}
    (hy : plainName y.cls = true) (hw : ws = Cond.codeWith y cc maxL ret hh :: ws')
    (body : ∀ p e s m args below meth c s₁, BodyLoose p l y (headSpec ws rm) cc maxL ret e s m args below meth c s₁ → c.maxLocals = maxL → Pc args s →
      W p l e (headSpec ws rm).room s m args below meth c s.heap [] 0 0 (vx_MQ below Qc XC args s mc ms free) (entryFrame m args maxL)) : vx_Met l y ws rm Pc Qc XC mc ms free := by
  refine MetFree.of_bodyS (code := cc) (maxLocals := maxL) (ret := ret) hy ?_ ?_
  · intro args s m h hn
    obtain ⟨m9, meth, c, hn9, h1, h2, h3, h4, -, h5, h6, -⟩ := Cond.codeWith_spec (atoms_spec (ws := ws) h _ (by rw [hw]; exact List.mem_cons_self))
    cases hn.symm.trans hn9
    exact ⟨meth, c, h1, h2, h3, h4, h5, h6⟩
  · intro p e s m args below meth c s₁ B hml hP _
    have hh0 : s₁.heap = s.heap := by rw [B.state]; rfl
    obtain ⟨t, a1, o, b1, b2, b3⟩ := body p e s m args below meth c s₁ B hml hP s₁ hh0 (Stand.of_body B)
    exact ⟨t, o, a1, b1, b2, b3⟩
/-! ===== END ===== -/
end
section
/-! ===== BEGIN printed: names, fields, word lists, decode rows ===== -/
def RX0 : String := "MarketWeeks"
def TX0 : u_T := fun k => match k with
  | 0 => ("MarketWeeks", "lengths", "[I", true)
  | 1 => ("MarketWeeks", "places", "[I", true)
  | 2 => ("MarketWeeks", "count", "I", false)
  | 3 => ("MarketWeeks", "moonNum", "I", false)
  | 4 => ("MarketWeeks", "moonDen", "I", false)
  | 5 => ("MarketWeeks", "moonShift", "I", false)
  | 6 => ("MarketWeeks", "yearCommon", "I", false)
  | 7 => ("MarketWeeks", "leapA", "I", false)
  | 8 => ("MarketWeeks", "leapB", "I", false)
  | _ => ("MarketWeeks", "leapC", "I", false)
def tyX0 : Nat → FieldType := fun k => match k with
  | 0 => .array .int
  | 1 => .array .int
  | 2 => .int
  | 3 => .int
  | 4 => .int
  | 5 => .int
  | 6 => .int
  | 7 => .int
  | 8 => .int
  | _ => .int
abbrev wsX00 : List Cond := u_ws RX0 TX0 10
theorem nmX0 : ∀ a, a < 10 → ∀ b, b < 10 → a ≠ b → (TX0 a).2.1 ≠ (TX0 b).2.1 := by decide +kernel
theorem tyX0_ok : ∀ k, k < 10 → parseFieldDescriptor (TX0 k).2.2.1 = some (tyX0 k) := by decide +kernel
abbrev cX0_init : ByteArray := prog_1_method_1_code
def yX0_init : MethodName := ⟨RX0, "<init>", "()V"⟩
abbrev cX0_addMarket : ByteArray := prog_1_method_2_code
def yX0_addMarket : MethodName := ⟨RX0, "addMarket", "(II)I"⟩
abbrev cX0_shift : ByteArray := prog_1_method_3_code
def yX0_shift : MethodName := ⟨RX0, "shift", "(II)I"⟩
abbrev cX0_setMoon : ByteArray := prog_1_method_4_code
def yX0_setMoon : MethodName := ⟨RX0, "setMoon", "(III)V"⟩
abbrev cX0_setYear : ByteArray := prog_1_method_5_code
def yX0_setYear : MethodName := ⟨RX0, "setYear", "(IIII)V"⟩
abbrev cX0_markets : ByteArray := prog_1_method_6_code
def yX0_markets : MethodName := ⟨RX0, "markets", "()I"⟩
abbrev cX0_isHeld : ByteArray := prog_1_method_7_code
def yX0_isHeld : MethodName := ⟨RX0, "isHeld", "(II)Z"⟩
abbrev cX0_next : ByteArray := prog_1_method_8_code
def yX0_next : MethodName := ⟨RX0, "next", "(II)I"⟩
abbrev cX0_nearest : ByteArray := prog_1_method_9_code
def yX0_nearest : MethodName := ⟨RX0, "nearest", "(II)I"⟩
abbrev cX0_times : ByteArray := prog_1_method_10_code
def yX0_times : MethodName := ⟨RX0, "times", "(III)I"⟩
abbrev cX0_heldOn : ByteArray := prog_1_method_11_code
def yX0_heldOn : MethodName := ⟨RX0, "heldOn", "(I)I"⟩
abbrev cX0_doMeet : ByteArray := prog_1_method_12_code
def yX0_doMeet : MethodName := ⟨RX0, "doMeet", "(I)Z"⟩
abbrev cX0_period : ByteArray := prog_1_method_13_code
def yX0_period : MethodName := ⟨RX0, "period", "(I)I"⟩
abbrev cX0_meeting : ByteArray := prog_1_method_14_code
def yX0_meeting : MethodName := ⟨RX0, "meeting", "(II)I"⟩
abbrev cX0_lunarMeeting : ByteArray := prog_1_method_15_code
def yX0_lunarMeeting : MethodName := ⟨RX0, "lunarMeeting", "(IIII)J"⟩
abbrev cX0_month : ByteArray := prog_1_method_17_code
def yX0_month : MethodName := ⟨RX0, "month", "(I)I"⟩
abbrev cX0_lunarDay : ByteArray := prog_1_method_18_code
def yX0_lunarDay : MethodName := ⟨RX0, "lunarDay", "(I)I"⟩
abbrev cX0_monthBegin : ByteArray := prog_1_method_19_code
def yX0_monthBegin : MethodName := ⟨RX0, "monthBegin", "(I)I"⟩
abbrev cX0_year : ByteArray := prog_1_method_20_code
def yX0_year : MethodName := ⟨RX0, "year", "(I)I"⟩
abbrev cX0_placeInYear : ByteArray := prog_1_method_21_code
def yX0_placeInYear : MethodName := ⟨RX0, "placeInYear", "(I)I"⟩
abbrev cX0_isLeap : ByteArray := prog_1_method_22_code
def yX0_isLeap : MethodName := ⟨RX0, "isLeap", "(I)Z"⟩
abbrev cX0_dayOf : ByteArray := prog_1_method_23_code
def yX0_dayOf : MethodName := ⟨RX0, "dayOf", "(II)I"⟩
abbrev cX0_timesInYear : ByteArray := prog_1_method_24_code
def yX0_timesInYear : MethodName := ⟨RX0, "timesInYear", "(II)I"⟩
abbrev cX0_checkArgument : ByteArray := prog_1_method_25_code
def yX0_checkArgument : MethodName := ⟨RX0, "checkArgument", "(Z)V"⟩
abbrev cX0_checkDay : ByteArray := prog_1_method_26_code
def yX0_checkDay : MethodName := ⟨RX0, "checkDay", "(I)V"⟩
abbrev cX0_checkYear : ByteArray := prog_1_method_27_code
def yX0_checkYear : MethodName := ⟨RX0, "checkYear", "(I)V"⟩
abbrev cX0_checkMarket : ByteArray := prog_1_method_28_code
def yX0_checkMarket : MethodName := ⟨RX0, "checkMarket", "(I)V"⟩
abbrev cX0_checkMarkets : ByteArray := prog_1_method_29_code
def yX0_checkMarkets : MethodName := ⟨RX0, "checkMarkets", "(I)V"⟩
abbrev cX0_checkMeetingSet : ByteArray := prog_1_method_30_code
def yX0_checkMeetingSet : MethodName := ⟨RX0, "checkMeetingSet", "(I)V"⟩
abbrev cX0_checkTheyMeet : ByteArray := prog_1_method_31_code
def yX0_checkTheyMeet : MethodName := ⟨RX0, "checkTheyMeet", "(J)V"⟩
abbrev cX0_isPlace : ByteArray := prog_1_method_32_code
def yX0_isPlace : MethodName := ⟨RX0, "isPlace", "(I)Z"⟩
abbrev cX0_lengthOf : ByteArray := prog_1_method_33_code
def yX0_lengthOf : MethodName := ⟨RX0, "lengthOf", "(I)I"⟩
abbrev cX0_placeOf : ByteArray := prog_1_method_34_code
def yX0_placeOf : MethodName := ⟨RX0, "placeOf", "(I)I"⟩
abbrev cX0_isOn : ByteArray := prog_1_method_35_code
def yX0_isOn : MethodName := ⟨RX0, "isOn", "(IJ)Z"⟩
abbrev cX0_setOn : ByteArray := prog_1_method_36_code
def yX0_setOn : MethodName := ⟨RX0, "setOn", "(I)I"⟩
abbrev cX0_countHeld : ByteArray := prog_1_method_37_code
def yX0_countHeld : MethodName := ⟨RX0, "countHeld", "(III)I"⟩
abbrev cX0_firstMeeting : ByteArray := prog_1_method_38_code
def yX0_firstMeeting : MethodName := ⟨RX0, "firstMeeting", "(I)J"⟩
abbrev cX0_firstHeldInSteps : ByteArray := prog_1_method_39_code
def yX0_firstHeldInSteps : MethodName := ⟨RX0, "firstHeldInSteps", "(IJJ)J"⟩
abbrev cX0_commonLength : ByteArray := prog_1_method_40_code
def yX0_commonLength : MethodName := ⟨RX0, "commonLength", "(I)J"⟩
abbrev cX0_commonMultiple : ByteArray := prog_1_method_41_code
def yX0_commonMultiple : MethodName := ⟨RX0, "commonMultiple", "(JI)J"⟩
abbrev cX0_moonParts : ByteArray := prog_1_method_42_code
def yX0_moonParts : MethodName := ⟨RX0, "moonParts", "(J)J"⟩
abbrev cX0_lunarDayOf : ByteArray := prog_1_method_43_code
def yX0_lunarDayOf : MethodName := ⟨RX0, "lunarDayOf", "(J)J"⟩
abbrev cX0_yearBegin : ByteArray := prog_1_method_44_code
def yX0_yearBegin : MethodName := ⟨RX0, "yearBegin", "(I)I"⟩
abbrev cX0_yearOf : ByteArray := prog_1_method_45_code
def yX0_yearOf : MethodName := ⟨RX0, "yearOf", "(I)I"⟩
abbrev cX0_hasLeapDay : ByteArray := prog_1_method_46_code
def yX0_hasLeapDay : MethodName := ⟨RX0, "hasLeapDay", "(I)Z"⟩
abbrev cX0_isWithin : ByteArray := prog_1_method_47_code
def yX0_isWithin : MethodName := ⟨RX0, "isWithin", "(III)Z"⟩
abbrev cX0_divide : ByteArray := prog_1_method_48_code
def yX0_divide : MethodName := ⟨RX0, "divide", "(JJ)J"⟩
abbrev cX0_modulo : ByteArray := prog_1_method_49_code
def yX0_modulo : MethodName := ⟨RX0, "modulo", "(JJ)J"⟩
def RX1 : String := "MarketWeeksModel"
def TX1 : u_T := fun k => match k with
  | _ => ("", "", "", false)
def tyX1 : Nat → FieldType := fun k => match k with
  | _ => .int
abbrev wsX10 : List Cond := u_ws RX1 TX1 0
theorem nmX1 : ∀ a, a < 0 → ∀ b, b < 0 → a ≠ b → (TX1 a).2.1 ≠ (TX1 b).2.1 := by decide +kernel
theorem tyX1_ok : ∀ k, k < 0 → parseFieldDescriptor (TX1 k).2.2.1 = some (tyX1 k) := by decide +kernel
def RJ6 : String := "java/lang/Integer"
def TJ6 : u_T := fun k => match k with
  | _ => ("", "", "", false)
def tyJ6 : Nat → FieldType := fun k => match k with
  | _ => .int
abbrev wsJ60 : List Cond := u_ws RJ6 TJ6 0
theorem nmJ6 : ∀ a, a < 0 → ∀ b, b < 0 → a ≠ b → (TJ6 a).2.1 ≠ (TJ6 b).2.1 := by decide +kernel
theorem tyJ6_ok : ∀ k, k < 0 → parseFieldDescriptor (TJ6 k).2.2.1 = some (tyJ6 k) := by decide +kernel
abbrev cJ6_bitCount_0f7a4 : ByteArray := prog_8_method_49_code
def yJ6_bitCount_0f7a4 : MethodName := ⟨RJ6, "bitCount", "(I)I"⟩
def RJ9 : String := "java/lang/Math"
def TJ9 : u_T := fun k => match k with
  | _ => ("", "", "", false)
def tyJ9 : Nat → FieldType := fun k => match k with
  | _ => .int
abbrev wsJ90 : List Cond := u_ws RJ9 TJ9 0
theorem nmJ9 : ∀ a, a < 0 → ∀ b, b < 0 → a ≠ b → (TJ9 a).2.1 ≠ (TJ9 b).2.1 := by decide +kernel
theorem tyJ9_ok : ∀ k, k < 0 → parseFieldDescriptor (TJ9 k).2.2.1 = some (tyJ9 k) := by decide +kernel
abbrev cJ9_floorDiv_f86c9 : ByteArray := prog_9_method_49_code
def yJ9_floorDiv_f86c9 : MethodName := ⟨RJ9, "floorDiv", "(JJ)J"⟩
abbrev cJ9_floorMod_f86c9 : ByteArray := prog_9_method_52_code
def yJ9_floorMod_f86c9 : MethodName := ⟨RJ9, "floorMod", "(JJ)J"⟩
def RJ0 : String := "java/lang/String"
def TJ0 : u_T := fun k => match k with
  | _ => ("", "", "", false)
def tyJ0 : Nat → FieldType := fun k => match k with
  | _ => .int
abbrev wsJ00 : List Cond := u_ws RJ0 TJ0 0
theorem nmJ0 : ∀ a, a < 0 → ∀ b, b < 0 → a ≠ b → (TJ0 a).2.1 ≠ (TJ0 b).2.1 := by decide +kernel
theorem tyJ0_ok : ∀ k, k < 0 → parseFieldDescriptor (TJ0 k).2.2.1 = some (tyJ0 k) := by decide +kernel
def RL : String := "MarketWeeksLaw"
abbrev cL_cell : ByteArray := method_2_code
def yL_cell : MethodName := ⟨RL, "cell", "([II)I"⟩
abbrev cL_low : ByteArray := method_3_code
def yL_low : MethodName := ⟨RL, "low", "(II)I"⟩
abbrev cL_addMarket : ByteArray := method_4_code
def yL_addMarket : MethodName := ⟨RL, "addMarket", "(LMarketWeeks;II)I"⟩
abbrev cL_shift : ByteArray := method_5_code
def yL_shift : MethodName := ⟨RL, "shift", "(LMarketWeeks;II)I"⟩
abbrev cL_setMoon : ByteArray := method_6_code
def yL_setMoon : MethodName := ⟨RL, "setMoon", "(LMarketWeeks;III)I"⟩
abbrev cL_setYear : ByteArray := method_7_code
def yL_setYear : MethodName := ⟨RL, "setYear", "(LMarketWeeks;IIII)I"⟩
abbrev cL_dayOf : ByteArray := method_8_code
def yL_dayOf : MethodName := ⟨RL, "dayOf", "(LMarketWeeks;II)I"⟩
abbrev cL_period : ByteArray := method_9_code
def yL_period : MethodName := ⟨RL, "period", "(LMarketWeeks;I)I"⟩
abbrev cL_meeting : ByteArray := method_10_code
def yL_meeting : MethodName := ⟨RL, "meeting", "(LMarketWeeks;II)I"⟩
abbrev cL_act : ByteArray := method_11_code
def yL_act : MethodName := ⟨RL, "act", "(LMarketWeeks;I)I"⟩
abbrev cL_areAlike : ByteArray := method_12_code
def yL_areAlike : MethodName := ⟨RL, "areAlike", "(LMarketWeeks;LMarketWeeks;I)Z"⟩
abbrev cL_isMarketSo : ByteArray := method_13_code
def yL_isMarketSo : MethodName := ⟨RL, "isMarketSo", "(LMarketWeeks;II)Z"⟩
abbrev cL_isMeetingSo : ByteArray := method_14_code
def yL_isMeetingSo : MethodName := ⟨RL, "isMeetingSo", "(LMarketWeeks;II)Z"⟩
abbrev cL_isMonthSo : ByteArray := method_15_code
def yL_isMonthSo : MethodName := ⟨RL, "isMonthSo", "(LMarketWeeks;I)Z"⟩
abbrev cL_isDaySo : ByteArray := method_16_code
def yL_isDaySo : MethodName := ⟨RL, "isDaySo", "(LMarketWeeks;I)Z"⟩
abbrev cL_law : ByteArray := code
def yL_law : MethodName := ⟨RL, "law", "([I)Z"⟩
def wsX0_init : List Cond := .code yX0_init cX0_init 1 none :: ([.methodLink RX0 1 objectInit, .instanceMethod objectInit, .code objectInit ⟨#[0xb1]⟩ 1 none, .arrayClass .int, .fieldLink RX0 9 "MarketWeeks" "lengths" "[I", .fieldLink RX0 13 "MarketWeeks" "places" "[I", .fieldLink RX0 16 "MarketWeeks" "count" "I", .fieldLink RX0 20 "MarketWeeks" "moonNum" "I", .fieldLink RX0 23 "MarketWeeks" "moonDen" "I", .fieldLink RX0 26 "MarketWeeks" "moonShift" "I", .fieldLink RX0 29 "MarketWeeks" "yearCommon" "I", .fieldLink RX0 32 "MarketWeeks" "leapA" "I", .fieldLink RX0 35 "MarketWeeks" "leapB" "I", .fieldLink RX0 38 "MarketWeeks" "leapC" "I"] ++ wsX00)
def wsX0_isWithin : List Cond := .code yX0_isWithin cX0_isWithin 3 (some .boolean) :: ([])
def wsX0_checkArgument : List Cond := .code yX0_checkArgument cX0_checkArgument 1 none :: ([.classLink RX0 137 "java/lang/IllegalArgumentException", .initialized "java/lang/IllegalArgumentException"] ++ (vx_atS RX0 141 "java/lang/IllegalArgumentException" ["java/lang/RuntimeException", "java/lang/Exception"]).filter goodWord)
def wsX0_isPlace : List Cond := .code yX0_isPlace cX0_isPlace 2 (some .boolean) :: ([.fieldLink RX0 9 "MarketWeeks" "lengths" "[I", .fieldLink RX0 13 "MarketWeeks" "places" "[I"] ++ wsX00)
def wsX0_addMarket : List Cond := .code yX0_addMarket cX0_addMarket 4 (some .int) :: ([.classLink RX0 53 "java/lang/IllegalStateException", .initialized "java/lang/IllegalStateException", .fieldLink RX0 16 "MarketWeeks" "count" "I", .fieldLink RX0 9 "MarketWeeks" "lengths" "[I", .fieldLink RX0 13 "MarketWeeks" "places" "[I", .methodLink RX0 41 yX0_isWithin, .static yX0_isWithin, .initialized RX0, .code yX0_isWithin cX0_isWithin 3 (some .boolean), .methodLink RX0 45 yX0_checkArgument, .static yX0_checkArgument, .code yX0_checkArgument cX0_checkArgument 1 none, .classLink RX0 137 "java/lang/IllegalArgumentException", .initialized "java/lang/IllegalArgumentException", .methodLink RX0 49 yX0_isPlace, .instanceMethod yX0_isPlace, .selects RX0 yX0_isPlace yX0_isPlace, .code yX0_isPlace cX0_isPlace 2 (some .boolean)] ++ wsX00 ++ (vx_atS RX0 57 "java/lang/IllegalStateException" ["java/lang/RuntimeException", "java/lang/Exception"]).filter goodWord ++ (vx_atS RX0 141 "java/lang/IllegalArgumentException" ["java/lang/RuntimeException", "java/lang/Exception"]).filter goodWord)
def wsX0_checkMarket : List Cond := .code yX0_checkMarket cX0_checkMarket 2 none :: ([.classLink RX0 144 "java/lang/IndexOutOfBoundsException", .initialized "java/lang/IndexOutOfBoundsException", .fieldLink RX0 16 "MarketWeeks" "count" "I", .methodLink RX0 41 yX0_isWithin, .static yX0_isWithin, .initialized RX0, .code yX0_isWithin cX0_isWithin 3 (some .boolean)] ++ wsX00 ++ (vx_atS RX0 148 "java/lang/IndexOutOfBoundsException" ["java/lang/RuntimeException", "java/lang/Exception"]).filter goodWord)
def wsX0_placeOf : List Cond := .code yX0_placeOf cX0_placeOf 2 (some .int) :: ([.fieldLink RX0 13 "MarketWeeks" "places" "[I", .methodLink RX0 49 yX0_isPlace, .instanceMethod yX0_isPlace, .selects RX0 yX0_isPlace yX0_isPlace, .initialized RX0, .code yX0_isPlace cX0_isPlace 2 (some .boolean), .fieldLink RX0 9 "MarketWeeks" "lengths" "[I"] ++ wsX00)
def wsX0_lengthOf : List Cond := .code yX0_lengthOf cX0_lengthOf 2 (some .int) :: ([.fieldLink RX0 9 "MarketWeeks" "lengths" "[I", .methodLink RX0 49 yX0_isPlace, .instanceMethod yX0_isPlace, .selects RX0 yX0_isPlace yX0_isPlace, .initialized RX0, .code yX0_isPlace cX0_isPlace 2 (some .boolean), .fieldLink RX0 13 "MarketWeeks" "places" "[I"] ++ wsX00)
def wsJ9_floorMod_f86c9 : List Cond := .code yJ9_floorMod_f86c9 cJ9_floorMod_f86c9 6 (some .long) :: ([])
def wsX0_modulo : List Cond := .code yX0_modulo cX0_modulo 4 (some .long) :: ([.methodLink RX0 166 yJ9_floorMod_f86c9, .static yJ9_floorMod_f86c9, .initialized RJ9, .code yJ9_floorMod_f86c9 cJ9_floorMod_f86c9 6 (some .long)])
def wsX0_shift_r1 : List Cond := [Cond.fieldLink RX0 13 "MarketWeeks" "places" "[I", Cond.methodLink RX0 60 yX0_checkMarket, Cond.instanceMethod yX0_checkMarket, Cond.selects RX0 yX0_checkMarket yX0_checkMarket, Cond.initialized RX0, Cond.code yX0_checkMarket cX0_checkMarket 2 none, Cond.classLink RX0 144 "java/lang/IndexOutOfBoundsException", Cond.initialized "java/lang/IndexOutOfBoundsException", Cond.fieldLink RX0 16 "MarketWeeks" "count" "I", Cond.methodLink RX0 41 yX0_isWithin, Cond.static yX0_isWithin, Cond.code yX0_isWithin cX0_isWithin 3 (some .boolean), Cond.methodLink RX0 45 yX0_checkArgument, Cond.static yX0_checkArgument, Cond.code yX0_checkArgument cX0_checkArgument 1 none, Cond.classLink RX0 137 "java/lang/IllegalArgumentException", Cond.initialized "java/lang/IllegalArgumentException", Cond.methodLink RX0 64 yX0_placeOf, Cond.instanceMethod yX0_placeOf, Cond.selects RX0 yX0_placeOf yX0_placeOf, Cond.code yX0_placeOf cX0_placeOf 2 (some .int), Cond.methodLink RX0 49 yX0_isPlace, Cond.instanceMethod yX0_isPlace, Cond.selects RX0 yX0_isPlace yX0_isPlace]
def wsX0_shift_r2 : List Cond := [Cond.code yX0_isPlace cX0_isPlace 2 (some .boolean), Cond.fieldLink RX0 9 "MarketWeeks" "lengths" "[I", Cond.methodLink RX0 68 yX0_lengthOf, Cond.instanceMethod yX0_lengthOf, Cond.selects RX0 yX0_lengthOf yX0_lengthOf, Cond.code yX0_lengthOf cX0_lengthOf 2 (some .int), Cond.methodLink RX0 71 yX0_modulo, Cond.static yX0_modulo, Cond.code yX0_modulo cX0_modulo 4 (some .long), Cond.methodLink RX0 166 yJ9_floorMod_f86c9, Cond.static yJ9_floorMod_f86c9, Cond.initialized RJ9, Cond.code yJ9_floorMod_f86c9 cJ9_floorMod_f86c9 6 (some .long)]
def wsX0_shift : List Cond := .code yX0_shift cX0_shift 4 (some .int) :: ((wsX0_shift_r1 ++ wsX0_shift_r2) ++ wsX00 ++ (vx_atS RX0 148 "java/lang/IndexOutOfBoundsException" ["java/lang/RuntimeException", "java/lang/Exception"]).filter goodWord ++ (vx_atS RX0 141 "java/lang/IllegalArgumentException" ["java/lang/RuntimeException", "java/lang/Exception"]).filter goodWord)
def wsX0_setMoon : List Cond := .code yX0_setMoon cX0_setMoon 4 none :: ([.fieldLink RX0 20 "MarketWeeks" "moonNum" "I", .fieldLink RX0 23 "MarketWeeks" "moonDen" "I", .fieldLink RX0 26 "MarketWeeks" "moonShift" "I", .methodLink RX0 41 yX0_isWithin, .static yX0_isWithin, .initialized RX0, .code yX0_isWithin cX0_isWithin 3 (some .boolean), .methodLink RX0 45 yX0_checkArgument, .static yX0_checkArgument, .code yX0_checkArgument cX0_checkArgument 1 none, .classLink RX0 137 "java/lang/IllegalArgumentException", .initialized "java/lang/IllegalArgumentException"] ++ wsX00 ++ (vx_atS RX0 141 "java/lang/IllegalArgumentException" ["java/lang/RuntimeException", "java/lang/Exception"]).filter goodWord)
def wsX0_setYear : List Cond := .code yX0_setYear cX0_setYear 5 none :: ([.fieldLink RX0 29 "MarketWeeks" "yearCommon" "I", .fieldLink RX0 32 "MarketWeeks" "leapA" "I", .fieldLink RX0 35 "MarketWeeks" "leapB" "I", .fieldLink RX0 38 "MarketWeeks" "leapC" "I", .methodLink RX0 41 yX0_isWithin, .static yX0_isWithin, .initialized RX0, .code yX0_isWithin cX0_isWithin 3 (some .boolean), .methodLink RX0 45 yX0_checkArgument, .static yX0_checkArgument, .code yX0_checkArgument cX0_checkArgument 1 none, .classLink RX0 137 "java/lang/IllegalArgumentException", .initialized "java/lang/IllegalArgumentException"] ++ wsX00 ++ (vx_atS RX0 141 "java/lang/IllegalArgumentException" ["java/lang/RuntimeException", "java/lang/Exception"]).filter goodWord)
def wsX0_markets : List Cond := .code yX0_markets cX0_markets 1 (some .int) :: ([.fieldLink RX0 16 "MarketWeeks" "count" "I"] ++ wsX00)
def wsX0_checkDay : List Cond := .code yX0_checkDay cX0_checkDay 1 none :: ([.constant RX0 142 (-1000000), .constant RX0 143 (1000000), .methodLink RX0 41 yX0_isWithin, .static yX0_isWithin, .initialized RX0, .code yX0_isWithin cX0_isWithin 3 (some .boolean), .methodLink RX0 45 yX0_checkArgument, .static yX0_checkArgument, .code yX0_checkArgument cX0_checkArgument 1 none, .classLink RX0 137 "java/lang/IllegalArgumentException", .initialized "java/lang/IllegalArgumentException"] ++ (vx_atS RX0 141 "java/lang/IllegalArgumentException" ["java/lang/RuntimeException", "java/lang/Exception"]).filter goodWord)
def wsX0_isOn : List Cond := .code yX0_isOn cX0_isOn 4 (some .boolean) :: ([.methodLink RX0 68 yX0_lengthOf, .instanceMethod yX0_lengthOf, .selects RX0 yX0_lengthOf yX0_lengthOf, .initialized RX0, .code yX0_lengthOf cX0_lengthOf 2 (some .int), .fieldLink RX0 9 "MarketWeeks" "lengths" "[I", .methodLink RX0 49 yX0_isPlace, .instanceMethod yX0_isPlace, .selects RX0 yX0_isPlace yX0_isPlace, .code yX0_isPlace cX0_isPlace 2 (some .boolean), .fieldLink RX0 13 "MarketWeeks" "places" "[I", .methodLink RX0 71 yX0_modulo, .static yX0_modulo, .code yX0_modulo cX0_modulo 4 (some .long), .methodLink RX0 166 yJ9_floorMod_f86c9, .static yJ9_floorMod_f86c9, .initialized RJ9, .code yJ9_floorMod_f86c9 cJ9_floorMod_f86c9 6 (some .long), .methodLink RX0 64 yX0_placeOf, .instanceMethod yX0_placeOf, .selects RX0 yX0_placeOf yX0_placeOf, .code yX0_placeOf cX0_placeOf 2 (some .int)] ++ wsX00)
def wsX0_isHeld_r1 : List Cond := [Cond.methodLink RX0 60 yX0_checkMarket, Cond.instanceMethod yX0_checkMarket, Cond.selects RX0 yX0_checkMarket yX0_checkMarket, Cond.initialized RX0, Cond.code yX0_checkMarket cX0_checkMarket 2 none, Cond.classLink RX0 144 "java/lang/IndexOutOfBoundsException", Cond.initialized "java/lang/IndexOutOfBoundsException", Cond.fieldLink RX0 16 "MarketWeeks" "count" "I", Cond.methodLink RX0 41 yX0_isWithin, Cond.static yX0_isWithin, Cond.code yX0_isWithin cX0_isWithin 3 (some .boolean), Cond.methodLink RX0 75 yX0_checkDay, Cond.static yX0_checkDay, Cond.code yX0_checkDay cX0_checkDay 1 none, Cond.constant RX0 142 (-1000000), Cond.constant RX0 143 (1000000), Cond.methodLink RX0 45 yX0_checkArgument, Cond.static yX0_checkArgument, Cond.code yX0_checkArgument cX0_checkArgument 1 none, Cond.classLink RX0 137 "java/lang/IllegalArgumentException", Cond.initialized "java/lang/IllegalArgumentException", Cond.methodLink RX0 78 yX0_isOn, Cond.instanceMethod yX0_isOn, Cond.selects RX0 yX0_isOn yX0_isOn]
def wsX0_isHeld_r2 : List Cond := [Cond.code yX0_isOn cX0_isOn 4 (some .boolean), Cond.methodLink RX0 68 yX0_lengthOf, Cond.instanceMethod yX0_lengthOf, Cond.selects RX0 yX0_lengthOf yX0_lengthOf, Cond.code yX0_lengthOf cX0_lengthOf 2 (some .int), Cond.fieldLink RX0 9 "MarketWeeks" "lengths" "[I", Cond.methodLink RX0 49 yX0_isPlace, Cond.instanceMethod yX0_isPlace, Cond.selects RX0 yX0_isPlace yX0_isPlace, Cond.code yX0_isPlace cX0_isPlace 2 (some .boolean), Cond.fieldLink RX0 13 "MarketWeeks" "places" "[I", Cond.methodLink RX0 71 yX0_modulo, Cond.static yX0_modulo, Cond.code yX0_modulo cX0_modulo 4 (some .long), Cond.methodLink RX0 166 yJ9_floorMod_f86c9, Cond.static yJ9_floorMod_f86c9, Cond.initialized RJ9, Cond.code yJ9_floorMod_f86c9 cJ9_floorMod_f86c9 6 (some .long), Cond.methodLink RX0 64 yX0_placeOf, Cond.instanceMethod yX0_placeOf, Cond.selects RX0 yX0_placeOf yX0_placeOf, Cond.code yX0_placeOf cX0_placeOf 2 (some .int)]
def wsX0_isHeld : List Cond := .code yX0_isHeld cX0_isHeld 3 (some .boolean) :: ((wsX0_isHeld_r1 ++ wsX0_isHeld_r2) ++ wsX00 ++ (vx_atS RX0 148 "java/lang/IndexOutOfBoundsException" ["java/lang/RuntimeException", "java/lang/Exception"]).filter goodWord ++ (vx_atS RX0 141 "java/lang/IllegalArgumentException" ["java/lang/RuntimeException", "java/lang/Exception"]).filter goodWord)
def wsX0_next_r1 : List Cond := [Cond.methodLink RX0 60 yX0_checkMarket, Cond.instanceMethod yX0_checkMarket, Cond.selects RX0 yX0_checkMarket yX0_checkMarket, Cond.initialized RX0, Cond.code yX0_checkMarket cX0_checkMarket 2 none, Cond.classLink RX0 144 "java/lang/IndexOutOfBoundsException", Cond.initialized "java/lang/IndexOutOfBoundsException", Cond.fieldLink RX0 16 "MarketWeeks" "count" "I", Cond.methodLink RX0 41 yX0_isWithin, Cond.static yX0_isWithin, Cond.code yX0_isWithin cX0_isWithin 3 (some .boolean), Cond.methodLink RX0 75 yX0_checkDay, Cond.static yX0_checkDay, Cond.code yX0_checkDay cX0_checkDay 1 none, Cond.constant RX0 142 (-1000000), Cond.constant RX0 143 (1000000), Cond.methodLink RX0 45 yX0_checkArgument, Cond.static yX0_checkArgument, Cond.code yX0_checkArgument cX0_checkArgument 1 none, Cond.classLink RX0 137 "java/lang/IllegalArgumentException", Cond.initialized "java/lang/IllegalArgumentException", Cond.methodLink RX0 64 yX0_placeOf, Cond.instanceMethod yX0_placeOf, Cond.selects RX0 yX0_placeOf yX0_placeOf]
def wsX0_next_r2 : List Cond := [Cond.code yX0_placeOf cX0_placeOf 2 (some .int), Cond.fieldLink RX0 13 "MarketWeeks" "places" "[I", Cond.methodLink RX0 49 yX0_isPlace, Cond.instanceMethod yX0_isPlace, Cond.selects RX0 yX0_isPlace yX0_isPlace, Cond.code yX0_isPlace cX0_isPlace 2 (some .boolean), Cond.fieldLink RX0 9 "MarketWeeks" "lengths" "[I", Cond.methodLink RX0 68 yX0_lengthOf, Cond.instanceMethod yX0_lengthOf, Cond.selects RX0 yX0_lengthOf yX0_lengthOf, Cond.code yX0_lengthOf cX0_lengthOf 2 (some .int), Cond.methodLink RX0 71 yX0_modulo, Cond.static yX0_modulo, Cond.code yX0_modulo cX0_modulo 4 (some .long), Cond.methodLink RX0 166 yJ9_floorMod_f86c9, Cond.static yJ9_floorMod_f86c9, Cond.initialized RJ9, Cond.code yJ9_floorMod_f86c9 cJ9_floorMod_f86c9 6 (some .long)]
def wsX0_next : List Cond := .code yX0_next cX0_next 3 (some .int) :: ((wsX0_next_r1 ++ wsX0_next_r2) ++ wsX00 ++ (vx_atS RX0 148 "java/lang/IndexOutOfBoundsException" ["java/lang/RuntimeException", "java/lang/Exception"]).filter goodWord ++ (vx_atS RX0 141 "java/lang/IllegalArgumentException" ["java/lang/RuntimeException", "java/lang/Exception"]).filter goodWord)
def wsX0_nearest_r1 : List Cond := [Cond.methodLink RX0 60 yX0_checkMarket, Cond.instanceMethod yX0_checkMarket, Cond.selects RX0 yX0_checkMarket yX0_checkMarket, Cond.initialized RX0, Cond.code yX0_checkMarket cX0_checkMarket 2 none, Cond.classLink RX0 144 "java/lang/IndexOutOfBoundsException", Cond.initialized "java/lang/IndexOutOfBoundsException", Cond.fieldLink RX0 16 "MarketWeeks" "count" "I", Cond.methodLink RX0 41 yX0_isWithin, Cond.static yX0_isWithin, Cond.code yX0_isWithin cX0_isWithin 3 (some .boolean), Cond.methodLink RX0 75 yX0_checkDay, Cond.static yX0_checkDay, Cond.code yX0_checkDay cX0_checkDay 1 none, Cond.constant RX0 142 (-1000000), Cond.constant RX0 143 (1000000), Cond.methodLink RX0 45 yX0_checkArgument, Cond.static yX0_checkArgument, Cond.code yX0_checkArgument cX0_checkArgument 1 none, Cond.classLink RX0 137 "java/lang/IllegalArgumentException", Cond.initialized "java/lang/IllegalArgumentException", Cond.methodLink RX0 68 yX0_lengthOf, Cond.instanceMethod yX0_lengthOf, Cond.selects RX0 yX0_lengthOf yX0_lengthOf]
def wsX0_nearest_r2 : List Cond := [Cond.code yX0_lengthOf cX0_lengthOf 2 (some .int), Cond.fieldLink RX0 9 "MarketWeeks" "lengths" "[I", Cond.methodLink RX0 49 yX0_isPlace, Cond.instanceMethod yX0_isPlace, Cond.selects RX0 yX0_isPlace yX0_isPlace, Cond.code yX0_isPlace cX0_isPlace 2 (some .boolean), Cond.fieldLink RX0 13 "MarketWeeks" "places" "[I", Cond.methodLink RX0 64 yX0_placeOf, Cond.instanceMethod yX0_placeOf, Cond.selects RX0 yX0_placeOf yX0_placeOf, Cond.code yX0_placeOf cX0_placeOf 2 (some .int), Cond.methodLink RX0 71 yX0_modulo, Cond.static yX0_modulo, Cond.code yX0_modulo cX0_modulo 4 (some .long), Cond.methodLink RX0 166 yJ9_floorMod_f86c9, Cond.static yJ9_floorMod_f86c9, Cond.initialized RJ9, Cond.code yJ9_floorMod_f86c9 cJ9_floorMod_f86c9 6 (some .long)]
def wsX0_nearest : List Cond := .code yX0_nearest cX0_nearest 6 (some .int) :: ((wsX0_nearest_r1 ++ wsX0_nearest_r2) ++ wsX00 ++ (vx_atS RX0 148 "java/lang/IndexOutOfBoundsException" ["java/lang/RuntimeException", "java/lang/Exception"]).filter goodWord ++ (vx_atS RX0 141 "java/lang/IllegalArgumentException" ["java/lang/RuntimeException", "java/lang/Exception"]).filter goodWord)
def wsJ9_floorDiv_f86c9 : List Cond := .code yJ9_floorDiv_f86c9 cJ9_floorDiv_f86c9 6 (some .long) :: ([])
def wsX0_divide : List Cond := .code yX0_divide cX0_divide 4 (some .long) :: ([.methodLink RX0 161 yJ9_floorDiv_f86c9, .static yJ9_floorDiv_f86c9, .initialized RJ9, .code yJ9_floorDiv_f86c9 cJ9_floorDiv_f86c9 6 (some .long)])
def wsX0_countHeld : List Cond := .code yX0_countHeld cX0_countHeld 6 (some .int) :: ([.methodLink RX0 68 yX0_lengthOf, .instanceMethod yX0_lengthOf, .selects RX0 yX0_lengthOf yX0_lengthOf, .initialized RX0, .code yX0_lengthOf cX0_lengthOf 2 (some .int), .fieldLink RX0 9 "MarketWeeks" "lengths" "[I", .methodLink RX0 49 yX0_isPlace, .instanceMethod yX0_isPlace, .selects RX0 yX0_isPlace yX0_isPlace, .code yX0_isPlace cX0_isPlace 2 (some .boolean), .fieldLink RX0 13 "MarketWeeks" "places" "[I", .methodLink RX0 64 yX0_placeOf, .instanceMethod yX0_placeOf, .selects RX0 yX0_placeOf yX0_placeOf, .code yX0_placeOf cX0_placeOf 2 (some .int), .methodLink RX0 120 yX0_divide, .static yX0_divide, .code yX0_divide cX0_divide 4 (some .long), .methodLink RX0 161 yJ9_floorDiv_f86c9, .static yJ9_floorDiv_f86c9, .initialized RJ9, .code yJ9_floorDiv_f86c9 cJ9_floorDiv_f86c9 6 (some .long)] ++ wsX00)
def wsX0_times_r1 : List Cond := [Cond.methodLink RX0 60 yX0_checkMarket, Cond.instanceMethod yX0_checkMarket, Cond.selects RX0 yX0_checkMarket yX0_checkMarket, Cond.initialized RX0, Cond.code yX0_checkMarket cX0_checkMarket 2 none, Cond.classLink RX0 144 "java/lang/IndexOutOfBoundsException", Cond.initialized "java/lang/IndexOutOfBoundsException", Cond.fieldLink RX0 16 "MarketWeeks" "count" "I", Cond.methodLink RX0 41 yX0_isWithin, Cond.static yX0_isWithin, Cond.code yX0_isWithin cX0_isWithin 3 (some .boolean), Cond.methodLink RX0 75 yX0_checkDay, Cond.static yX0_checkDay, Cond.code yX0_checkDay cX0_checkDay 1 none, Cond.constant RX0 142 (-1000000), Cond.constant RX0 143 (1000000), Cond.methodLink RX0 45 yX0_checkArgument, Cond.static yX0_checkArgument, Cond.code yX0_checkArgument cX0_checkArgument 1 none, Cond.classLink RX0 137 "java/lang/IllegalArgumentException", Cond.initialized "java/lang/IllegalArgumentException", Cond.methodLink RX0 82 yX0_countHeld, Cond.instanceMethod yX0_countHeld, Cond.selects RX0 yX0_countHeld yX0_countHeld]
def wsX0_times_r2 : List Cond := [Cond.code yX0_countHeld cX0_countHeld 6 (some .int), Cond.methodLink RX0 68 yX0_lengthOf, Cond.instanceMethod yX0_lengthOf, Cond.selects RX0 yX0_lengthOf yX0_lengthOf, Cond.code yX0_lengthOf cX0_lengthOf 2 (some .int), Cond.fieldLink RX0 9 "MarketWeeks" "lengths" "[I", Cond.methodLink RX0 49 yX0_isPlace, Cond.instanceMethod yX0_isPlace, Cond.selects RX0 yX0_isPlace yX0_isPlace, Cond.code yX0_isPlace cX0_isPlace 2 (some .boolean), Cond.fieldLink RX0 13 "MarketWeeks" "places" "[I", Cond.methodLink RX0 64 yX0_placeOf, Cond.instanceMethod yX0_placeOf, Cond.selects RX0 yX0_placeOf yX0_placeOf, Cond.code yX0_placeOf cX0_placeOf 2 (some .int), Cond.methodLink RX0 120 yX0_divide, Cond.static yX0_divide, Cond.code yX0_divide cX0_divide 4 (some .long), Cond.methodLink RX0 161 yJ9_floorDiv_f86c9, Cond.static yJ9_floorDiv_f86c9, Cond.initialized RJ9, Cond.code yJ9_floorDiv_f86c9 cJ9_floorDiv_f86c9 6 (some .long)]
def wsX0_times : List Cond := .code yX0_times cX0_times 4 (some .int) :: ((wsX0_times_r1 ++ wsX0_times_r2) ++ wsX00 ++ (vx_atS RX0 148 "java/lang/IndexOutOfBoundsException" ["java/lang/RuntimeException", "java/lang/Exception"]).filter goodWord ++ (vx_atS RX0 141 "java/lang/IllegalArgumentException" ["java/lang/RuntimeException", "java/lang/Exception"]).filter goodWord)
def wsX0_setOn_r1 : List Cond := [Cond.fieldLink RX0 16 "MarketWeeks" "count" "I", Cond.methodLink RX0 78 yX0_isOn, Cond.instanceMethod yX0_isOn, Cond.selects RX0 yX0_isOn yX0_isOn, Cond.initialized RX0, Cond.code yX0_isOn cX0_isOn 4 (some .boolean), Cond.methodLink RX0 68 yX0_lengthOf, Cond.instanceMethod yX0_lengthOf, Cond.selects RX0 yX0_lengthOf yX0_lengthOf, Cond.code yX0_lengthOf cX0_lengthOf 2 (some .int), Cond.fieldLink RX0 9 "MarketWeeks" "lengths" "[I", Cond.methodLink RX0 49 yX0_isPlace, Cond.instanceMethod yX0_isPlace, Cond.selects RX0 yX0_isPlace yX0_isPlace, Cond.code yX0_isPlace cX0_isPlace 2 (some .boolean), Cond.fieldLink RX0 13 "MarketWeeks" "places" "[I", Cond.methodLink RX0 71 yX0_modulo, Cond.static yX0_modulo, Cond.code yX0_modulo cX0_modulo 4 (some .long), Cond.methodLink RX0 166 yJ9_floorMod_f86c9, Cond.static yJ9_floorMod_f86c9, Cond.initialized RJ9, Cond.code yJ9_floorMod_f86c9 cJ9_floorMod_f86c9 6 (some .long), Cond.methodLink RX0 64 yX0_placeOf]
def wsX0_setOn_r2 : List Cond := [Cond.instanceMethod yX0_placeOf, Cond.selects RX0 yX0_placeOf yX0_placeOf, Cond.code yX0_placeOf cX0_placeOf 2 (some .int)]
def wsX0_setOn : List Cond := .code yX0_setOn cX0_setOn 4 (some .int) :: ((wsX0_setOn_r1 ++ wsX0_setOn_r2) ++ wsX00)
def wsX0_heldOn_r1 : List Cond := [Cond.methodLink RX0 75 yX0_checkDay, Cond.static yX0_checkDay, Cond.initialized RX0, Cond.code yX0_checkDay cX0_checkDay 1 none, Cond.constant RX0 142 (-1000000), Cond.constant RX0 143 (1000000), Cond.methodLink RX0 41 yX0_isWithin, Cond.static yX0_isWithin, Cond.code yX0_isWithin cX0_isWithin 3 (some .boolean), Cond.methodLink RX0 45 yX0_checkArgument, Cond.static yX0_checkArgument, Cond.code yX0_checkArgument cX0_checkArgument 1 none, Cond.classLink RX0 137 "java/lang/IllegalArgumentException", Cond.initialized "java/lang/IllegalArgumentException", Cond.methodLink RX0 86 yX0_setOn, Cond.instanceMethod yX0_setOn, Cond.selects RX0 yX0_setOn yX0_setOn, Cond.code yX0_setOn cX0_setOn 4 (some .int), Cond.fieldLink RX0 16 "MarketWeeks" "count" "I", Cond.methodLink RX0 78 yX0_isOn, Cond.instanceMethod yX0_isOn, Cond.selects RX0 yX0_isOn yX0_isOn, Cond.code yX0_isOn cX0_isOn 4 (some .boolean), Cond.methodLink RX0 68 yX0_lengthOf]
def wsX0_heldOn_r2 : List Cond := [Cond.instanceMethod yX0_lengthOf, Cond.selects RX0 yX0_lengthOf yX0_lengthOf, Cond.code yX0_lengthOf cX0_lengthOf 2 (some .int), Cond.fieldLink RX0 9 "MarketWeeks" "lengths" "[I", Cond.methodLink RX0 49 yX0_isPlace, Cond.instanceMethod yX0_isPlace, Cond.selects RX0 yX0_isPlace yX0_isPlace, Cond.code yX0_isPlace cX0_isPlace 2 (some .boolean), Cond.fieldLink RX0 13 "MarketWeeks" "places" "[I", Cond.methodLink RX0 71 yX0_modulo, Cond.static yX0_modulo, Cond.code yX0_modulo cX0_modulo 4 (some .long), Cond.methodLink RX0 166 yJ9_floorMod_f86c9, Cond.static yJ9_floorMod_f86c9, Cond.initialized RJ9, Cond.code yJ9_floorMod_f86c9 cJ9_floorMod_f86c9 6 (some .long), Cond.methodLink RX0 64 yX0_placeOf, Cond.instanceMethod yX0_placeOf, Cond.selects RX0 yX0_placeOf yX0_placeOf, Cond.code yX0_placeOf cX0_placeOf 2 (some .int)]
def wsX0_heldOn : List Cond := .code yX0_heldOn cX0_heldOn 2 (some .int) :: ((wsX0_heldOn_r1 ++ wsX0_heldOn_r2) ++ wsX00 ++ (vx_atS RX0 141 "java/lang/IllegalArgumentException" ["java/lang/RuntimeException", "java/lang/Exception"]).filter goodWord)
def wsJ6_bitCount_0f7a4 : List Cond := .code yJ6_bitCount_0f7a4 cJ6_bitCount_0f7a4 1 (some .int) :: ([.constant RJ6 265 (1431655765), .constant RJ6 266 (858993459), .constant RJ6 267 (252645135)])
def wsX0_checkMarkets : List Cond := .code yX0_checkMarkets cX0_checkMarkets 2 none :: ([.classLink RX0 144 "java/lang/IndexOutOfBoundsException", .initialized "java/lang/IndexOutOfBoundsException", .fieldLink RX0 16 "MarketWeeks" "count" "I"] ++ wsX00 ++ (vx_atS RX0 148 "java/lang/IndexOutOfBoundsException" ["java/lang/RuntimeException", "java/lang/Exception"]).filter goodWord)
def wsX0_checkMeetingSet : List Cond := .code yX0_checkMeetingSet cX0_checkMeetingSet 2 none :: ([.methodLink RX0 112 yJ6_bitCount_0f7a4, .static yJ6_bitCount_0f7a4, .initialized RJ6, .code yJ6_bitCount_0f7a4 cJ6_bitCount_0f7a4 1 (some .int), .constant RJ6 265 (1431655765), .constant RJ6 266 (858993459), .constant RJ6 267 (252645135), .methodLink RX0 41 yX0_isWithin, .static yX0_isWithin, .initialized RX0, .code yX0_isWithin cX0_isWithin 3 (some .boolean), .methodLink RX0 45 yX0_checkArgument, .static yX0_checkArgument, .code yX0_checkArgument cX0_checkArgument 1 none, .classLink RX0 137 "java/lang/IllegalArgumentException", .initialized "java/lang/IllegalArgumentException", .methodLink RX0 109 yX0_checkMarkets, .instanceMethod yX0_checkMarkets, .selects RX0 yX0_checkMarkets yX0_checkMarkets, .code yX0_checkMarkets cX0_checkMarkets 2 none, .classLink RX0 144 "java/lang/IndexOutOfBoundsException", .initialized "java/lang/IndexOutOfBoundsException", .fieldLink RX0 16 "MarketWeeks" "count" "I"] ++ wsX00 ++ (vx_atS RX0 141 "java/lang/IllegalArgumentException" ["java/lang/RuntimeException", "java/lang/Exception"]).filter goodWord ++ (vx_atS RX0 148 "java/lang/IndexOutOfBoundsException" ["java/lang/RuntimeException", "java/lang/Exception"]).filter goodWord)
def wsX0_firstHeldInSteps_r1 : List Cond := [Cond.constantLong RX0 96 (-1), Cond.methodLink RX0 68 yX0_lengthOf, Cond.instanceMethod yX0_lengthOf, Cond.selects RX0 yX0_lengthOf yX0_lengthOf, Cond.initialized RX0, Cond.code yX0_lengthOf cX0_lengthOf 2 (some .int), Cond.fieldLink RX0 9 "MarketWeeks" "lengths" "[I", Cond.methodLink RX0 49 yX0_isPlace, Cond.instanceMethod yX0_isPlace, Cond.selects RX0 yX0_isPlace yX0_isPlace, Cond.code yX0_isPlace cX0_isPlace 2 (some .boolean), Cond.fieldLink RX0 13 "MarketWeeks" "places" "[I", Cond.methodLink RX0 78 yX0_isOn, Cond.instanceMethod yX0_isOn, Cond.selects RX0 yX0_isOn yX0_isOn, Cond.code yX0_isOn cX0_isOn 4 (some .boolean), Cond.methodLink RX0 71 yX0_modulo, Cond.static yX0_modulo, Cond.code yX0_modulo cX0_modulo 4 (some .long), Cond.methodLink RX0 166 yJ9_floorMod_f86c9, Cond.static yJ9_floorMod_f86c9, Cond.initialized RJ9, Cond.code yJ9_floorMod_f86c9 cJ9_floorMod_f86c9 6 (some .long), Cond.methodLink RX0 64 yX0_placeOf]
def wsX0_firstHeldInSteps_r2 : List Cond := [Cond.instanceMethod yX0_placeOf, Cond.selects RX0 yX0_placeOf yX0_placeOf, Cond.code yX0_placeOf cX0_placeOf 2 (some .int)]
def wsX0_firstHeldInSteps : List Cond := .code yX0_firstHeldInSteps cX0_firstHeldInSteps 10 (some .long) :: ((wsX0_firstHeldInSteps_r1 ++ wsX0_firstHeldInSteps_r2) ++ wsX00)
def wsX0_commonMultiple : List Cond := .code yX0_commonMultiple cX0_commonMultiple 4 (some .long) :: ([.methodLink RX0 71 yX0_modulo, .static yX0_modulo, .initialized RX0, .code yX0_modulo cX0_modulo 4 (some .long), .methodLink RX0 166 yJ9_floorMod_f86c9, .static yJ9_floorMod_f86c9, .initialized RJ9, .code yJ9_floorMod_f86c9 cJ9_floorMod_f86c9 6 (some .long)])
def wsX0_firstMeeting_r1 : List Cond := [Cond.fieldLink RX0 16 "MarketWeeks" "count" "I", Cond.constantLong RX0 96 (-1), Cond.methodLink RX0 153 yX0_firstHeldInSteps, Cond.instanceMethod yX0_firstHeldInSteps, Cond.selects RX0 yX0_firstHeldInSteps yX0_firstHeldInSteps, Cond.initialized RX0, Cond.code yX0_firstHeldInSteps cX0_firstHeldInSteps 10 (some .long), Cond.methodLink RX0 68 yX0_lengthOf, Cond.instanceMethod yX0_lengthOf, Cond.selects RX0 yX0_lengthOf yX0_lengthOf, Cond.code yX0_lengthOf cX0_lengthOf 2 (some .int), Cond.fieldLink RX0 9 "MarketWeeks" "lengths" "[I", Cond.methodLink RX0 49 yX0_isPlace, Cond.instanceMethod yX0_isPlace, Cond.selects RX0 yX0_isPlace yX0_isPlace, Cond.code yX0_isPlace cX0_isPlace 2 (some .boolean), Cond.fieldLink RX0 13 "MarketWeeks" "places" "[I", Cond.methodLink RX0 78 yX0_isOn, Cond.instanceMethod yX0_isOn, Cond.selects RX0 yX0_isOn yX0_isOn, Cond.code yX0_isOn cX0_isOn 4 (some .boolean), Cond.methodLink RX0 71 yX0_modulo, Cond.static yX0_modulo, Cond.code yX0_modulo cX0_modulo 4 (some .long)]
def wsX0_firstMeeting_r2 : List Cond := [Cond.methodLink RX0 166 yJ9_floorMod_f86c9, Cond.static yJ9_floorMod_f86c9, Cond.initialized RJ9, Cond.code yJ9_floorMod_f86c9 cJ9_floorMod_f86c9 6 (some .long), Cond.methodLink RX0 64 yX0_placeOf, Cond.instanceMethod yX0_placeOf, Cond.selects RX0 yX0_placeOf yX0_placeOf, Cond.code yX0_placeOf cX0_placeOf 2 (some .int), Cond.methodLink RX0 157 yX0_commonMultiple, Cond.static yX0_commonMultiple, Cond.code yX0_commonMultiple cX0_commonMultiple 4 (some .long)]
def wsX0_firstMeeting : List Cond := .code yX0_firstMeeting cX0_firstMeeting 7 (some .long) :: ((wsX0_firstMeeting_r1 ++ wsX0_firstMeeting_r2) ++ wsX00)
def wsX0_doMeet_r1 : List Cond := [Cond.constantLong RX0 96 (-1), Cond.methodLink RX0 89 yX0_checkMeetingSet, Cond.instanceMethod yX0_checkMeetingSet, Cond.selects RX0 yX0_checkMeetingSet yX0_checkMeetingSet, Cond.initialized RX0, Cond.code yX0_checkMeetingSet cX0_checkMeetingSet 2 none, Cond.methodLink RX0 112 yJ6_bitCount_0f7a4, Cond.static yJ6_bitCount_0f7a4, Cond.initialized RJ6, Cond.code yJ6_bitCount_0f7a4 cJ6_bitCount_0f7a4 1 (some .int), Cond.constant RJ6 265 (1431655765), Cond.constant RJ6 266 (858993459), Cond.constant RJ6 267 (252645135), Cond.methodLink RX0 41 yX0_isWithin, Cond.static yX0_isWithin, Cond.code yX0_isWithin cX0_isWithin 3 (some .boolean), Cond.methodLink RX0 45 yX0_checkArgument, Cond.static yX0_checkArgument, Cond.code yX0_checkArgument cX0_checkArgument 1 none, Cond.classLink RX0 137 "java/lang/IllegalArgumentException", Cond.initialized "java/lang/IllegalArgumentException", Cond.methodLink RX0 109 yX0_checkMarkets, Cond.instanceMethod yX0_checkMarkets, Cond.selects RX0 yX0_checkMarkets yX0_checkMarkets]
def wsX0_doMeet_r2 : List Cond := [Cond.code yX0_checkMarkets cX0_checkMarkets 2 none, Cond.classLink RX0 144 "java/lang/IndexOutOfBoundsException", Cond.initialized "java/lang/IndexOutOfBoundsException", Cond.fieldLink RX0 16 "MarketWeeks" "count" "I", Cond.methodLink RX0 92 yX0_firstMeeting, Cond.instanceMethod yX0_firstMeeting, Cond.selects RX0 yX0_firstMeeting yX0_firstMeeting, Cond.code yX0_firstMeeting cX0_firstMeeting 7 (some .long), Cond.methodLink RX0 153 yX0_firstHeldInSteps, Cond.instanceMethod yX0_firstHeldInSteps, Cond.selects RX0 yX0_firstHeldInSteps yX0_firstHeldInSteps, Cond.code yX0_firstHeldInSteps cX0_firstHeldInSteps 10 (some .long), Cond.methodLink RX0 68 yX0_lengthOf, Cond.instanceMethod yX0_lengthOf, Cond.selects RX0 yX0_lengthOf yX0_lengthOf, Cond.code yX0_lengthOf cX0_lengthOf 2 (some .int), Cond.fieldLink RX0 9 "MarketWeeks" "lengths" "[I", Cond.methodLink RX0 49 yX0_isPlace, Cond.instanceMethod yX0_isPlace, Cond.selects RX0 yX0_isPlace yX0_isPlace, Cond.code yX0_isPlace cX0_isPlace 2 (some .boolean), Cond.fieldLink RX0 13 "MarketWeeks" "places" "[I", Cond.methodLink RX0 78 yX0_isOn, Cond.instanceMethod yX0_isOn]
def wsX0_doMeet_r3 : List Cond := [Cond.selects RX0 yX0_isOn yX0_isOn, Cond.code yX0_isOn cX0_isOn 4 (some .boolean), Cond.methodLink RX0 71 yX0_modulo, Cond.static yX0_modulo, Cond.code yX0_modulo cX0_modulo 4 (some .long), Cond.methodLink RX0 166 yJ9_floorMod_f86c9, Cond.static yJ9_floorMod_f86c9, Cond.initialized RJ9, Cond.code yJ9_floorMod_f86c9 cJ9_floorMod_f86c9 6 (some .long), Cond.methodLink RX0 64 yX0_placeOf, Cond.instanceMethod yX0_placeOf, Cond.selects RX0 yX0_placeOf yX0_placeOf, Cond.code yX0_placeOf cX0_placeOf 2 (some .int), Cond.methodLink RX0 157 yX0_commonMultiple, Cond.static yX0_commonMultiple, Cond.code yX0_commonMultiple cX0_commonMultiple 4 (some .long)]
def wsX0_doMeet : List Cond := .code yX0_doMeet cX0_doMeet 2 (some .boolean) :: ((wsX0_doMeet_r1 ++ (wsX0_doMeet_r2 ++ wsX0_doMeet_r3)) ++ wsX00 ++ (vx_atS RX0 141 "java/lang/IllegalArgumentException" ["java/lang/RuntimeException", "java/lang/Exception"]).filter goodWord ++ (vx_atS RX0 148 "java/lang/IndexOutOfBoundsException" ["java/lang/RuntimeException", "java/lang/Exception"]).filter goodWord)
def wsX0_checkTheyMeet : List Cond := .code yX0_checkTheyMeet cX0_checkTheyMeet 2 none :: ([.classLink RX0 53 "java/lang/IllegalStateException", .initialized "java/lang/IllegalStateException", .constantLong RX0 96 (-1)] ++ (vx_atS RX0 57 "java/lang/IllegalStateException" ["java/lang/RuntimeException", "java/lang/Exception"]).filter goodWord)
def wsX0_commonLength : List Cond := .code yX0_commonLength cX0_commonLength 5 (some .long) :: ([.fieldLink RX0 16 "MarketWeeks" "count" "I", .methodLink RX0 68 yX0_lengthOf, .instanceMethod yX0_lengthOf, .selects RX0 yX0_lengthOf yX0_lengthOf, .initialized RX0, .code yX0_lengthOf cX0_lengthOf 2 (some .int), .fieldLink RX0 9 "MarketWeeks" "lengths" "[I", .methodLink RX0 49 yX0_isPlace, .instanceMethod yX0_isPlace, .selects RX0 yX0_isPlace yX0_isPlace, .code yX0_isPlace cX0_isPlace 2 (some .boolean), .fieldLink RX0 13 "MarketWeeks" "places" "[I", .methodLink RX0 157 yX0_commonMultiple, .static yX0_commonMultiple, .code yX0_commonMultiple cX0_commonMultiple 4 (some .long), .methodLink RX0 71 yX0_modulo, .static yX0_modulo, .code yX0_modulo cX0_modulo 4 (some .long), .methodLink RX0 166 yJ9_floorMod_f86c9, .static yJ9_floorMod_f86c9, .initialized RJ9, .code yJ9_floorMod_f86c9 cJ9_floorMod_f86c9 6 (some .long)] ++ wsX00)
def wsX0_period_r1 : List Cond := [Cond.methodLink RX0 89 yX0_checkMeetingSet, Cond.instanceMethod yX0_checkMeetingSet, Cond.selects RX0 yX0_checkMeetingSet yX0_checkMeetingSet, Cond.initialized RX0, Cond.code yX0_checkMeetingSet cX0_checkMeetingSet 2 none, Cond.methodLink RX0 112 yJ6_bitCount_0f7a4, Cond.static yJ6_bitCount_0f7a4, Cond.initialized RJ6, Cond.code yJ6_bitCount_0f7a4 cJ6_bitCount_0f7a4 1 (some .int), Cond.constant RJ6 265 (1431655765), Cond.constant RJ6 266 (858993459), Cond.constant RJ6 267 (252645135), Cond.methodLink RX0 41 yX0_isWithin, Cond.static yX0_isWithin, Cond.code yX0_isWithin cX0_isWithin 3 (some .boolean), Cond.methodLink RX0 45 yX0_checkArgument, Cond.static yX0_checkArgument, Cond.code yX0_checkArgument cX0_checkArgument 1 none, Cond.classLink RX0 137 "java/lang/IllegalArgumentException", Cond.initialized "java/lang/IllegalArgumentException", Cond.methodLink RX0 109 yX0_checkMarkets, Cond.instanceMethod yX0_checkMarkets, Cond.selects RX0 yX0_checkMarkets yX0_checkMarkets, Cond.code yX0_checkMarkets cX0_checkMarkets 2 none]
def wsX0_period_r2 : List Cond := [Cond.classLink RX0 144 "java/lang/IndexOutOfBoundsException", Cond.initialized "java/lang/IndexOutOfBoundsException", Cond.fieldLink RX0 16 "MarketWeeks" "count" "I", Cond.methodLink RX0 92 yX0_firstMeeting, Cond.instanceMethod yX0_firstMeeting, Cond.selects RX0 yX0_firstMeeting yX0_firstMeeting, Cond.code yX0_firstMeeting cX0_firstMeeting 7 (some .long), Cond.constantLong RX0 96 (-1), Cond.methodLink RX0 153 yX0_firstHeldInSteps, Cond.instanceMethod yX0_firstHeldInSteps, Cond.selects RX0 yX0_firstHeldInSteps yX0_firstHeldInSteps, Cond.code yX0_firstHeldInSteps cX0_firstHeldInSteps 10 (some .long), Cond.methodLink RX0 68 yX0_lengthOf, Cond.instanceMethod yX0_lengthOf, Cond.selects RX0 yX0_lengthOf yX0_lengthOf, Cond.code yX0_lengthOf cX0_lengthOf 2 (some .int), Cond.fieldLink RX0 9 "MarketWeeks" "lengths" "[I", Cond.methodLink RX0 49 yX0_isPlace, Cond.instanceMethod yX0_isPlace, Cond.selects RX0 yX0_isPlace yX0_isPlace, Cond.code yX0_isPlace cX0_isPlace 2 (some .boolean), Cond.fieldLink RX0 13 "MarketWeeks" "places" "[I", Cond.methodLink RX0 78 yX0_isOn, Cond.instanceMethod yX0_isOn]
def wsX0_period_r3 : List Cond := [Cond.selects RX0 yX0_isOn yX0_isOn, Cond.code yX0_isOn cX0_isOn 4 (some .boolean), Cond.methodLink RX0 71 yX0_modulo, Cond.static yX0_modulo, Cond.code yX0_modulo cX0_modulo 4 (some .long), Cond.methodLink RX0 166 yJ9_floorMod_f86c9, Cond.static yJ9_floorMod_f86c9, Cond.initialized RJ9, Cond.code yJ9_floorMod_f86c9 cJ9_floorMod_f86c9 6 (some .long), Cond.methodLink RX0 64 yX0_placeOf, Cond.instanceMethod yX0_placeOf, Cond.selects RX0 yX0_placeOf yX0_placeOf, Cond.code yX0_placeOf cX0_placeOf 2 (some .int), Cond.methodLink RX0 157 yX0_commonMultiple, Cond.static yX0_commonMultiple, Cond.code yX0_commonMultiple cX0_commonMultiple 4 (some .long), Cond.methodLink RX0 98 yX0_checkTheyMeet, Cond.static yX0_checkTheyMeet, Cond.code yX0_checkTheyMeet cX0_checkTheyMeet 2 none, Cond.classLink RX0 53 "java/lang/IllegalStateException", Cond.initialized "java/lang/IllegalStateException", Cond.methodLink RX0 102 yX0_commonLength, Cond.instanceMethod yX0_commonLength, Cond.selects RX0 yX0_commonLength yX0_commonLength]
def wsX0_period_r4 : List Cond := [Cond.code yX0_commonLength cX0_commonLength 5 (some .long)]
def wsX0_period : List Cond := .code yX0_period cX0_period 2 (some .int) :: ((wsX0_period_r1 ++ (wsX0_period_r2 ++ (wsX0_period_r3 ++ wsX0_period_r4))) ++ wsX00 ++ (vx_atS RX0 141 "java/lang/IllegalArgumentException" ["java/lang/RuntimeException", "java/lang/Exception"]).filter goodWord ++ (vx_atS RX0 148 "java/lang/IndexOutOfBoundsException" ["java/lang/RuntimeException", "java/lang/Exception"]).filter goodWord ++ (vx_atS RX0 57 "java/lang/IllegalStateException" ["java/lang/RuntimeException", "java/lang/Exception"]).filter goodWord)
def wsX0_meeting_r1 : List Cond := [Cond.methodLink RX0 75 yX0_checkDay, Cond.static yX0_checkDay, Cond.initialized RX0, Cond.code yX0_checkDay cX0_checkDay 1 none, Cond.constant RX0 142 (-1000000), Cond.constant RX0 143 (1000000), Cond.methodLink RX0 41 yX0_isWithin, Cond.static yX0_isWithin, Cond.code yX0_isWithin cX0_isWithin 3 (some .boolean), Cond.methodLink RX0 45 yX0_checkArgument, Cond.static yX0_checkArgument, Cond.code yX0_checkArgument cX0_checkArgument 1 none, Cond.classLink RX0 137 "java/lang/IllegalArgumentException", Cond.initialized "java/lang/IllegalArgumentException", Cond.methodLink RX0 89 yX0_checkMeetingSet, Cond.instanceMethod yX0_checkMeetingSet, Cond.selects RX0 yX0_checkMeetingSet yX0_checkMeetingSet, Cond.code yX0_checkMeetingSet cX0_checkMeetingSet 2 none, Cond.methodLink RX0 112 yJ6_bitCount_0f7a4, Cond.static yJ6_bitCount_0f7a4, Cond.initialized RJ6, Cond.code yJ6_bitCount_0f7a4 cJ6_bitCount_0f7a4 1 (some .int), Cond.constant RJ6 265 (1431655765), Cond.constant RJ6 266 (858993459)]
def wsX0_meeting_r2 : List Cond := [Cond.constant RJ6 267 (252645135), Cond.methodLink RX0 109 yX0_checkMarkets, Cond.instanceMethod yX0_checkMarkets, Cond.selects RX0 yX0_checkMarkets yX0_checkMarkets, Cond.code yX0_checkMarkets cX0_checkMarkets 2 none, Cond.classLink RX0 144 "java/lang/IndexOutOfBoundsException", Cond.initialized "java/lang/IndexOutOfBoundsException", Cond.fieldLink RX0 16 "MarketWeeks" "count" "I", Cond.methodLink RX0 92 yX0_firstMeeting, Cond.instanceMethod yX0_firstMeeting, Cond.selects RX0 yX0_firstMeeting yX0_firstMeeting, Cond.code yX0_firstMeeting cX0_firstMeeting 7 (some .long), Cond.constantLong RX0 96 (-1), Cond.methodLink RX0 153 yX0_firstHeldInSteps, Cond.instanceMethod yX0_firstHeldInSteps, Cond.selects RX0 yX0_firstHeldInSteps yX0_firstHeldInSteps, Cond.code yX0_firstHeldInSteps cX0_firstHeldInSteps 10 (some .long), Cond.methodLink RX0 68 yX0_lengthOf, Cond.instanceMethod yX0_lengthOf, Cond.selects RX0 yX0_lengthOf yX0_lengthOf, Cond.code yX0_lengthOf cX0_lengthOf 2 (some .int), Cond.fieldLink RX0 9 "MarketWeeks" "lengths" "[I", Cond.methodLink RX0 49 yX0_isPlace, Cond.instanceMethod yX0_isPlace]
def wsX0_meeting_r3 : List Cond := [Cond.selects RX0 yX0_isPlace yX0_isPlace, Cond.code yX0_isPlace cX0_isPlace 2 (some .boolean), Cond.fieldLink RX0 13 "MarketWeeks" "places" "[I", Cond.methodLink RX0 78 yX0_isOn, Cond.instanceMethod yX0_isOn, Cond.selects RX0 yX0_isOn yX0_isOn, Cond.code yX0_isOn cX0_isOn 4 (some .boolean), Cond.methodLink RX0 71 yX0_modulo, Cond.static yX0_modulo, Cond.code yX0_modulo cX0_modulo 4 (some .long), Cond.methodLink RX0 166 yJ9_floorMod_f86c9, Cond.static yJ9_floorMod_f86c9, Cond.initialized RJ9, Cond.code yJ9_floorMod_f86c9 cJ9_floorMod_f86c9 6 (some .long), Cond.methodLink RX0 64 yX0_placeOf, Cond.instanceMethod yX0_placeOf, Cond.selects RX0 yX0_placeOf yX0_placeOf, Cond.code yX0_placeOf cX0_placeOf 2 (some .int), Cond.methodLink RX0 157 yX0_commonMultiple, Cond.static yX0_commonMultiple, Cond.code yX0_commonMultiple cX0_commonMultiple 4 (some .long), Cond.methodLink RX0 98 yX0_checkTheyMeet, Cond.static yX0_checkTheyMeet, Cond.code yX0_checkTheyMeet cX0_checkTheyMeet 2 none]
def wsX0_meeting_r4 : List Cond := [Cond.classLink RX0 53 "java/lang/IllegalStateException", Cond.initialized "java/lang/IllegalStateException", Cond.methodLink RX0 102 yX0_commonLength, Cond.instanceMethod yX0_commonLength, Cond.selects RX0 yX0_commonLength yX0_commonLength, Cond.code yX0_commonLength cX0_commonLength 5 (some .long)]
def wsX0_meeting : List Cond := .code yX0_meeting cX0_meeting 5 (some .int) :: ((wsX0_meeting_r1 ++ (wsX0_meeting_r2 ++ (wsX0_meeting_r3 ++ wsX0_meeting_r4))) ++ wsX00 ++ (vx_atS RX0 141 "java/lang/IllegalArgumentException" ["java/lang/RuntimeException", "java/lang/Exception"]).filter goodWord ++ (vx_atS RX0 148 "java/lang/IndexOutOfBoundsException" ["java/lang/RuntimeException", "java/lang/Exception"]).filter goodWord ++ (vx_atS RX0 57 "java/lang/IllegalStateException" ["java/lang/RuntimeException", "java/lang/Exception"]).filter goodWord)
def wsX0_moonParts : List Cond := .code yX0_moonParts cX0_moonParts 3 (some .long) :: ([.fieldLink RX0 26 "MarketWeeks" "moonShift" "I", .fieldLink RX0 23 "MarketWeeks" "moonDen" "I"] ++ wsX00)
def wsX0_lunarDayOf : List Cond := .code yX0_lunarDayOf cX0_lunarDayOf 3 (some .long) :: ([.fieldLink RX0 20 "MarketWeeks" "moonNum" "I", .fieldLink RX0 23 "MarketWeeks" "moonDen" "I", .methodLink RX0 117 yX0_moonParts, .instanceMethod yX0_moonParts, .selects RX0 yX0_moonParts yX0_moonParts, .initialized RX0, .code yX0_moonParts cX0_moonParts 3 (some .long), .fieldLink RX0 26 "MarketWeeks" "moonShift" "I", .methodLink RX0 71 yX0_modulo, .static yX0_modulo, .code yX0_modulo cX0_modulo 4 (some .long), .methodLink RX0 166 yJ9_floorMod_f86c9, .static yJ9_floorMod_f86c9, .initialized RJ9, .code yJ9_floorMod_f86c9 cJ9_floorMod_f86c9 6 (some .long), .methodLink RX0 120 yX0_divide, .static yX0_divide, .code yX0_divide cX0_divide 4 (some .long), .methodLink RX0 161 yJ9_floorDiv_f86c9, .static yJ9_floorDiv_f86c9, .code yJ9_floorDiv_f86c9 cJ9_floorDiv_f86c9 6 (some .long)] ++ wsX00)
def wsX0_lunarMeeting_r1 : List Cond := [Cond.constantLong RX0 96 (-1), Cond.methodLink RX0 75 yX0_checkDay, Cond.static yX0_checkDay, Cond.initialized RX0, Cond.code yX0_checkDay cX0_checkDay 1 none, Cond.constant RX0 142 (-1000000), Cond.constant RX0 143 (1000000), Cond.methodLink RX0 41 yX0_isWithin, Cond.static yX0_isWithin, Cond.code yX0_isWithin cX0_isWithin 3 (some .boolean), Cond.methodLink RX0 45 yX0_checkArgument, Cond.static yX0_checkArgument, Cond.code yX0_checkArgument cX0_checkArgument 1 none, Cond.classLink RX0 137 "java/lang/IllegalArgumentException", Cond.initialized "java/lang/IllegalArgumentException", Cond.methodLink RX0 89 yX0_checkMeetingSet, Cond.instanceMethod yX0_checkMeetingSet, Cond.selects RX0 yX0_checkMeetingSet yX0_checkMeetingSet, Cond.code yX0_checkMeetingSet cX0_checkMeetingSet 2 none, Cond.methodLink RX0 112 yJ6_bitCount_0f7a4, Cond.static yJ6_bitCount_0f7a4, Cond.initialized RJ6, Cond.code yJ6_bitCount_0f7a4 cJ6_bitCount_0f7a4 1 (some .int), Cond.constant RJ6 265 (1431655765)]
def wsX0_lunarMeeting_r2 : List Cond := [Cond.constant RJ6 266 (858993459), Cond.constant RJ6 267 (252645135), Cond.methodLink RX0 109 yX0_checkMarkets, Cond.instanceMethod yX0_checkMarkets, Cond.selects RX0 yX0_checkMarkets yX0_checkMarkets, Cond.code yX0_checkMarkets cX0_checkMarkets 2 none, Cond.classLink RX0 144 "java/lang/IndexOutOfBoundsException", Cond.initialized "java/lang/IndexOutOfBoundsException", Cond.fieldLink RX0 16 "MarketWeeks" "count" "I", Cond.methodLink RX0 92 yX0_firstMeeting, Cond.instanceMethod yX0_firstMeeting, Cond.selects RX0 yX0_firstMeeting yX0_firstMeeting, Cond.code yX0_firstMeeting cX0_firstMeeting 7 (some .long), Cond.methodLink RX0 153 yX0_firstHeldInSteps, Cond.instanceMethod yX0_firstHeldInSteps, Cond.selects RX0 yX0_firstHeldInSteps yX0_firstHeldInSteps, Cond.code yX0_firstHeldInSteps cX0_firstHeldInSteps 10 (some .long), Cond.methodLink RX0 68 yX0_lengthOf, Cond.instanceMethod yX0_lengthOf, Cond.selects RX0 yX0_lengthOf yX0_lengthOf, Cond.code yX0_lengthOf cX0_lengthOf 2 (some .int), Cond.fieldLink RX0 9 "MarketWeeks" "lengths" "[I", Cond.methodLink RX0 49 yX0_isPlace, Cond.instanceMethod yX0_isPlace]
def wsX0_lunarMeeting_r3 : List Cond := [Cond.selects RX0 yX0_isPlace yX0_isPlace, Cond.code yX0_isPlace cX0_isPlace 2 (some .boolean), Cond.fieldLink RX0 13 "MarketWeeks" "places" "[I", Cond.methodLink RX0 78 yX0_isOn, Cond.instanceMethod yX0_isOn, Cond.selects RX0 yX0_isOn yX0_isOn, Cond.code yX0_isOn cX0_isOn 4 (some .boolean), Cond.methodLink RX0 71 yX0_modulo, Cond.static yX0_modulo, Cond.code yX0_modulo cX0_modulo 4 (some .long), Cond.methodLink RX0 166 yJ9_floorMod_f86c9, Cond.static yJ9_floorMod_f86c9, Cond.initialized RJ9, Cond.code yJ9_floorMod_f86c9 cJ9_floorMod_f86c9 6 (some .long), Cond.methodLink RX0 64 yX0_placeOf, Cond.instanceMethod yX0_placeOf, Cond.selects RX0 yX0_placeOf yX0_placeOf, Cond.code yX0_placeOf cX0_placeOf 2 (some .int), Cond.methodLink RX0 157 yX0_commonMultiple, Cond.static yX0_commonMultiple, Cond.code yX0_commonMultiple cX0_commonMultiple 4 (some .long), Cond.methodLink RX0 98 yX0_checkTheyMeet, Cond.static yX0_checkTheyMeet, Cond.code yX0_checkTheyMeet cX0_checkTheyMeet 2 none]
def wsX0_lunarMeeting_r4 : List Cond := [Cond.classLink RX0 53 "java/lang/IllegalStateException", Cond.initialized "java/lang/IllegalStateException", Cond.methodLink RX0 102 yX0_commonLength, Cond.instanceMethod yX0_commonLength, Cond.selects RX0 yX0_commonLength yX0_commonLength, Cond.code yX0_commonLength cX0_commonLength 5 (some .long), Cond.methodLink RX0 105 yX0_lunarDayOf, Cond.instanceMethod yX0_lunarDayOf, Cond.selects RX0 yX0_lunarDayOf yX0_lunarDayOf, Cond.code yX0_lunarDayOf cX0_lunarDayOf 3 (some .long), Cond.fieldLink RX0 20 "MarketWeeks" "moonNum" "I", Cond.fieldLink RX0 23 "MarketWeeks" "moonDen" "I", Cond.methodLink RX0 117 yX0_moonParts, Cond.instanceMethod yX0_moonParts, Cond.selects RX0 yX0_moonParts yX0_moonParts, Cond.code yX0_moonParts cX0_moonParts 3 (some .long), Cond.fieldLink RX0 26 "MarketWeeks" "moonShift" "I", Cond.methodLink RX0 120 yX0_divide, Cond.static yX0_divide, Cond.code yX0_divide cX0_divide 4 (some .long), Cond.methodLink RX0 161 yJ9_floorDiv_f86c9, Cond.static yJ9_floorDiv_f86c9, Cond.code yJ9_floorDiv_f86c9 cJ9_floorDiv_f86c9 6 (some .long)]
def wsX0_lunarMeeting : List Cond := .code yX0_lunarMeeting cX0_lunarMeeting 12 (some .long) :: ((wsX0_lunarMeeting_r1 ++ (wsX0_lunarMeeting_r2 ++ (wsX0_lunarMeeting_r3 ++ wsX0_lunarMeeting_r4))) ++ wsX00 ++ (vx_atS RX0 141 "java/lang/IllegalArgumentException" ["java/lang/RuntimeException", "java/lang/Exception"]).filter goodWord ++ (vx_atS RX0 148 "java/lang/IndexOutOfBoundsException" ["java/lang/RuntimeException", "java/lang/Exception"]).filter goodWord ++ (vx_atS RX0 57 "java/lang/IllegalStateException" ["java/lang/RuntimeException", "java/lang/Exception"]).filter goodWord)
def wsX0_month_r1 : List Cond := [Cond.fieldLink RX0 20 "MarketWeeks" "moonNum" "I", Cond.methodLink RX0 75 yX0_checkDay, Cond.static yX0_checkDay, Cond.initialized RX0, Cond.code yX0_checkDay cX0_checkDay 1 none, Cond.constant RX0 142 (-1000000), Cond.constant RX0 143 (1000000), Cond.methodLink RX0 41 yX0_isWithin, Cond.static yX0_isWithin, Cond.code yX0_isWithin cX0_isWithin 3 (some .boolean), Cond.methodLink RX0 45 yX0_checkArgument, Cond.static yX0_checkArgument, Cond.code yX0_checkArgument cX0_checkArgument 1 none, Cond.classLink RX0 137 "java/lang/IllegalArgumentException", Cond.initialized "java/lang/IllegalArgumentException", Cond.methodLink RX0 117 yX0_moonParts, Cond.instanceMethod yX0_moonParts, Cond.selects RX0 yX0_moonParts yX0_moonParts, Cond.code yX0_moonParts cX0_moonParts 3 (some .long), Cond.fieldLink RX0 26 "MarketWeeks" "moonShift" "I", Cond.fieldLink RX0 23 "MarketWeeks" "moonDen" "I", Cond.methodLink RX0 120 yX0_divide, Cond.static yX0_divide, Cond.code yX0_divide cX0_divide 4 (some .long)]
def wsX0_month_r2 : List Cond := [Cond.methodLink RX0 161 yJ9_floorDiv_f86c9, Cond.static yJ9_floorDiv_f86c9, Cond.initialized RJ9, Cond.code yJ9_floorDiv_f86c9 cJ9_floorDiv_f86c9 6 (some .long)]
def wsX0_month : List Cond := .code yX0_month cX0_month 2 (some .int) :: ((wsX0_month_r1 ++ wsX0_month_r2) ++ wsX00 ++ (vx_atS RX0 141 "java/lang/IllegalArgumentException" ["java/lang/RuntimeException", "java/lang/Exception"]).filter goodWord)
def wsX0_lunarDay_r1 : List Cond := [Cond.methodLink RX0 75 yX0_checkDay, Cond.static yX0_checkDay, Cond.initialized RX0, Cond.code yX0_checkDay cX0_checkDay 1 none, Cond.constant RX0 142 (-1000000), Cond.constant RX0 143 (1000000), Cond.methodLink RX0 41 yX0_isWithin, Cond.static yX0_isWithin, Cond.code yX0_isWithin cX0_isWithin 3 (some .boolean), Cond.methodLink RX0 45 yX0_checkArgument, Cond.static yX0_checkArgument, Cond.code yX0_checkArgument cX0_checkArgument 1 none, Cond.classLink RX0 137 "java/lang/IllegalArgumentException", Cond.initialized "java/lang/IllegalArgumentException", Cond.methodLink RX0 105 yX0_lunarDayOf, Cond.instanceMethod yX0_lunarDayOf, Cond.selects RX0 yX0_lunarDayOf yX0_lunarDayOf, Cond.code yX0_lunarDayOf cX0_lunarDayOf 3 (some .long), Cond.fieldLink RX0 20 "MarketWeeks" "moonNum" "I", Cond.fieldLink RX0 23 "MarketWeeks" "moonDen" "I", Cond.methodLink RX0 117 yX0_moonParts, Cond.instanceMethod yX0_moonParts, Cond.selects RX0 yX0_moonParts yX0_moonParts, Cond.code yX0_moonParts cX0_moonParts 3 (some .long)]
def wsX0_lunarDay_r2 : List Cond := [Cond.fieldLink RX0 26 "MarketWeeks" "moonShift" "I", Cond.methodLink RX0 71 yX0_modulo, Cond.static yX0_modulo, Cond.code yX0_modulo cX0_modulo 4 (some .long), Cond.methodLink RX0 166 yJ9_floorMod_f86c9, Cond.static yJ9_floorMod_f86c9, Cond.initialized RJ9, Cond.code yJ9_floorMod_f86c9 cJ9_floorMod_f86c9 6 (some .long), Cond.methodLink RX0 120 yX0_divide, Cond.static yX0_divide, Cond.code yX0_divide cX0_divide 4 (some .long), Cond.methodLink RX0 161 yJ9_floorDiv_f86c9, Cond.static yJ9_floorDiv_f86c9, Cond.code yJ9_floorDiv_f86c9 cJ9_floorDiv_f86c9 6 (some .long)]
def wsX0_lunarDay : List Cond := .code yX0_lunarDay cX0_lunarDay 2 (some .int) :: ((wsX0_lunarDay_r1 ++ wsX0_lunarDay_r2) ++ wsX00 ++ (vx_atS RX0 141 "java/lang/IllegalArgumentException" ["java/lang/RuntimeException", "java/lang/Exception"]).filter goodWord)
def wsX0_monthBegin : List Cond := .code yX0_monthBegin cX0_monthBegin 2 (some .int) :: ([.constant RX0 123 (-100000), .constant RX0 124 (100000), .fieldLink RX0 20 "MarketWeeks" "moonNum" "I", .fieldLink RX0 23 "MarketWeeks" "moonDen" "I", .fieldLink RX0 26 "MarketWeeks" "moonShift" "I", .methodLink RX0 41 yX0_isWithin, .static yX0_isWithin, .initialized RX0, .code yX0_isWithin cX0_isWithin 3 (some .boolean), .methodLink RX0 45 yX0_checkArgument, .static yX0_checkArgument, .code yX0_checkArgument cX0_checkArgument 1 none, .classLink RX0 137 "java/lang/IllegalArgumentException", .initialized "java/lang/IllegalArgumentException", .methodLink RX0 120 yX0_divide, .static yX0_divide, .code yX0_divide cX0_divide 4 (some .long), .methodLink RX0 161 yJ9_floorDiv_f86c9, .static yJ9_floorDiv_f86c9, .initialized RJ9, .code yJ9_floorDiv_f86c9 cJ9_floorDiv_f86c9 6 (some .long)] ++ wsX00 ++ (vx_atS RX0 141 "java/lang/IllegalArgumentException" ["java/lang/RuntimeException", "java/lang/Exception"]).filter goodWord)
def wsX0_yearOf : List Cond := .code yX0_yearOf cX0_yearOf 4 (some .int) :: ([.fieldLink RX0 38 "MarketWeeks" "leapC" "I", .fieldLink RX0 35 "MarketWeeks" "leapB" "I", .fieldLink RX0 29 "MarketWeeks" "yearCommon" "I", .fieldLink RX0 32 "MarketWeeks" "leapA" "I", .methodLink RX0 120 yX0_divide, .static yX0_divide, .initialized RX0, .code yX0_divide cX0_divide 4 (some .long), .methodLink RX0 161 yJ9_floorDiv_f86c9, .static yJ9_floorDiv_f86c9, .initialized RJ9, .code yJ9_floorDiv_f86c9 cJ9_floorDiv_f86c9 6 (some .long)] ++ wsX00)
def wsX0_year_r1 : List Cond := [Cond.methodLink RX0 75 yX0_checkDay, Cond.static yX0_checkDay, Cond.initialized RX0, Cond.code yX0_checkDay cX0_checkDay 1 none, Cond.constant RX0 142 (-1000000), Cond.constant RX0 143 (1000000), Cond.methodLink RX0 41 yX0_isWithin, Cond.static yX0_isWithin, Cond.code yX0_isWithin cX0_isWithin 3 (some .boolean), Cond.methodLink RX0 45 yX0_checkArgument, Cond.static yX0_checkArgument, Cond.code yX0_checkArgument cX0_checkArgument 1 none, Cond.classLink RX0 137 "java/lang/IllegalArgumentException", Cond.initialized "java/lang/IllegalArgumentException", Cond.methodLink RX0 125 yX0_yearOf, Cond.instanceMethod yX0_yearOf, Cond.selects RX0 yX0_yearOf yX0_yearOf, Cond.code yX0_yearOf cX0_yearOf 4 (some .int), Cond.fieldLink RX0 38 "MarketWeeks" "leapC" "I", Cond.fieldLink RX0 35 "MarketWeeks" "leapB" "I", Cond.fieldLink RX0 29 "MarketWeeks" "yearCommon" "I", Cond.fieldLink RX0 32 "MarketWeeks" "leapA" "I", Cond.methodLink RX0 120 yX0_divide, Cond.static yX0_divide]
def wsX0_year_r2 : List Cond := [Cond.code yX0_divide cX0_divide 4 (some .long), Cond.methodLink RX0 161 yJ9_floorDiv_f86c9, Cond.static yJ9_floorDiv_f86c9, Cond.initialized RJ9, Cond.code yJ9_floorDiv_f86c9 cJ9_floorDiv_f86c9 6 (some .long)]
def wsX0_year : List Cond := .code yX0_year cX0_year 2 (some .int) :: ((wsX0_year_r1 ++ wsX0_year_r2) ++ wsX00 ++ (vx_atS RX0 141 "java/lang/IllegalArgumentException" ["java/lang/RuntimeException", "java/lang/Exception"]).filter goodWord)
def wsX0_yearBegin : List Cond := .code yX0_yearBegin cX0_yearBegin 2 (some .int) :: ([.fieldLink RX0 29 "MarketWeeks" "yearCommon" "I", .fieldLink RX0 32 "MarketWeeks" "leapA" "I", .fieldLink RX0 35 "MarketWeeks" "leapB" "I", .fieldLink RX0 38 "MarketWeeks" "leapC" "I", .methodLink RX0 120 yX0_divide, .static yX0_divide, .initialized RX0, .code yX0_divide cX0_divide 4 (some .long), .methodLink RX0 161 yJ9_floorDiv_f86c9, .static yJ9_floorDiv_f86c9, .initialized RJ9, .code yJ9_floorDiv_f86c9 cJ9_floorDiv_f86c9 6 (some .long)] ++ wsX00)
def wsX0_placeInYear_r1 : List Cond := [Cond.methodLink RX0 75 yX0_checkDay, Cond.static yX0_checkDay, Cond.initialized RX0, Cond.code yX0_checkDay cX0_checkDay 1 none, Cond.constant RX0 142 (-1000000), Cond.constant RX0 143 (1000000), Cond.methodLink RX0 41 yX0_isWithin, Cond.static yX0_isWithin, Cond.code yX0_isWithin cX0_isWithin 3 (some .boolean), Cond.methodLink RX0 45 yX0_checkArgument, Cond.static yX0_checkArgument, Cond.code yX0_checkArgument cX0_checkArgument 1 none, Cond.classLink RX0 137 "java/lang/IllegalArgumentException", Cond.initialized "java/lang/IllegalArgumentException", Cond.methodLink RX0 125 yX0_yearOf, Cond.instanceMethod yX0_yearOf, Cond.selects RX0 yX0_yearOf yX0_yearOf, Cond.code yX0_yearOf cX0_yearOf 4 (some .int), Cond.fieldLink RX0 38 "MarketWeeks" "leapC" "I", Cond.fieldLink RX0 35 "MarketWeeks" "leapB" "I", Cond.fieldLink RX0 29 "MarketWeeks" "yearCommon" "I", Cond.fieldLink RX0 32 "MarketWeeks" "leapA" "I", Cond.methodLink RX0 120 yX0_divide, Cond.static yX0_divide]
def wsX0_placeInYear_r2 : List Cond := [Cond.code yX0_divide cX0_divide 4 (some .long), Cond.methodLink RX0 161 yJ9_floorDiv_f86c9, Cond.static yJ9_floorDiv_f86c9, Cond.initialized RJ9, Cond.code yJ9_floorDiv_f86c9 cJ9_floorDiv_f86c9 6 (some .long), Cond.methodLink RX0 128 yX0_yearBegin, Cond.instanceMethod yX0_yearBegin, Cond.selects RX0 yX0_yearBegin yX0_yearBegin, Cond.code yX0_yearBegin cX0_yearBegin 2 (some .int)]
def wsX0_placeInYear : List Cond := .code yX0_placeInYear cX0_placeInYear 2 (some .int) :: ((wsX0_placeInYear_r1 ++ wsX0_placeInYear_r2) ++ wsX00 ++ (vx_atS RX0 141 "java/lang/IllegalArgumentException" ["java/lang/RuntimeException", "java/lang/Exception"]).filter goodWord)
def wsX0_checkYear : List Cond := .code yX0_checkYear cX0_checkYear 1 none :: ([.methodLink RX0 41 yX0_isWithin, .static yX0_isWithin, .initialized RX0, .code yX0_isWithin cX0_isWithin 3 (some .boolean), .methodLink RX0 45 yX0_checkArgument, .static yX0_checkArgument, .code yX0_checkArgument cX0_checkArgument 1 none, .classLink RX0 137 "java/lang/IllegalArgumentException", .initialized "java/lang/IllegalArgumentException"] ++ (vx_atS RX0 141 "java/lang/IllegalArgumentException" ["java/lang/RuntimeException", "java/lang/Exception"]).filter goodWord)
def wsX0_hasLeapDay : List Cond := .code yX0_hasLeapDay cX0_hasLeapDay 2 (some .boolean) :: ([.fieldLink RX0 32 "MarketWeeks" "leapA" "I", .fieldLink RX0 35 "MarketWeeks" "leapB" "I", .fieldLink RX0 38 "MarketWeeks" "leapC" "I", .methodLink RX0 71 yX0_modulo, .static yX0_modulo, .initialized RX0, .code yX0_modulo cX0_modulo 4 (some .long), .methodLink RX0 166 yJ9_floorMod_f86c9, .static yJ9_floorMod_f86c9, .initialized RJ9, .code yJ9_floorMod_f86c9 cJ9_floorMod_f86c9 6 (some .long)] ++ wsX00)
def wsX0_isLeap_r1 : List Cond := [Cond.methodLink RX0 131 yX0_checkYear, Cond.static yX0_checkYear, Cond.initialized RX0, Cond.code yX0_checkYear cX0_checkYear 1 none, Cond.methodLink RX0 41 yX0_isWithin, Cond.static yX0_isWithin, Cond.code yX0_isWithin cX0_isWithin 3 (some .boolean), Cond.methodLink RX0 45 yX0_checkArgument, Cond.static yX0_checkArgument, Cond.code yX0_checkArgument cX0_checkArgument 1 none, Cond.classLink RX0 137 "java/lang/IllegalArgumentException", Cond.initialized "java/lang/IllegalArgumentException", Cond.methodLink RX0 134 yX0_hasLeapDay, Cond.instanceMethod yX0_hasLeapDay, Cond.selects RX0 yX0_hasLeapDay yX0_hasLeapDay, Cond.code yX0_hasLeapDay cX0_hasLeapDay 2 (some .boolean), Cond.fieldLink RX0 32 "MarketWeeks" "leapA" "I", Cond.fieldLink RX0 35 "MarketWeeks" "leapB" "I", Cond.fieldLink RX0 38 "MarketWeeks" "leapC" "I", Cond.methodLink RX0 71 yX0_modulo, Cond.static yX0_modulo, Cond.code yX0_modulo cX0_modulo 4 (some .long), Cond.methodLink RX0 166 yJ9_floorMod_f86c9, Cond.static yJ9_floorMod_f86c9]
def wsX0_isLeap_r2 : List Cond := [Cond.initialized RJ9, Cond.code yJ9_floorMod_f86c9 cJ9_floorMod_f86c9 6 (some .long)]
def wsX0_isLeap : List Cond := .code yX0_isLeap cX0_isLeap 2 (some .boolean) :: ((wsX0_isLeap_r1 ++ wsX0_isLeap_r2) ++ wsX00 ++ (vx_atS RX0 141 "java/lang/IllegalArgumentException" ["java/lang/RuntimeException", "java/lang/Exception"]).filter goodWord)
def wsX0_dayOf_r1 : List Cond := [Cond.fieldLink RX0 29 "MarketWeeks" "yearCommon" "I", Cond.methodLink RX0 131 yX0_checkYear, Cond.static yX0_checkYear, Cond.initialized RX0, Cond.code yX0_checkYear cX0_checkYear 1 none, Cond.methodLink RX0 41 yX0_isWithin, Cond.static yX0_isWithin, Cond.code yX0_isWithin cX0_isWithin 3 (some .boolean), Cond.methodLink RX0 45 yX0_checkArgument, Cond.static yX0_checkArgument, Cond.code yX0_checkArgument cX0_checkArgument 1 none, Cond.classLink RX0 137 "java/lang/IllegalArgumentException", Cond.initialized "java/lang/IllegalArgumentException", Cond.methodLink RX0 134 yX0_hasLeapDay, Cond.instanceMethod yX0_hasLeapDay, Cond.selects RX0 yX0_hasLeapDay yX0_hasLeapDay, Cond.code yX0_hasLeapDay cX0_hasLeapDay 2 (some .boolean), Cond.fieldLink RX0 32 "MarketWeeks" "leapA" "I", Cond.fieldLink RX0 35 "MarketWeeks" "leapB" "I", Cond.fieldLink RX0 38 "MarketWeeks" "leapC" "I", Cond.methodLink RX0 71 yX0_modulo, Cond.static yX0_modulo, Cond.code yX0_modulo cX0_modulo 4 (some .long), Cond.methodLink RX0 166 yJ9_floorMod_f86c9]
def wsX0_dayOf_r2 : List Cond := [Cond.static yJ9_floorMod_f86c9, Cond.initialized RJ9, Cond.code yJ9_floorMod_f86c9 cJ9_floorMod_f86c9 6 (some .long), Cond.methodLink RX0 128 yX0_yearBegin, Cond.instanceMethod yX0_yearBegin, Cond.selects RX0 yX0_yearBegin yX0_yearBegin, Cond.code yX0_yearBegin cX0_yearBegin 2 (some .int), Cond.methodLink RX0 120 yX0_divide, Cond.static yX0_divide, Cond.code yX0_divide cX0_divide 4 (some .long), Cond.methodLink RX0 161 yJ9_floorDiv_f86c9, Cond.static yJ9_floorDiv_f86c9, Cond.code yJ9_floorDiv_f86c9 cJ9_floorDiv_f86c9 6 (some .long)]
def wsX0_dayOf : List Cond := .code yX0_dayOf cX0_dayOf 4 (some .int) :: ((wsX0_dayOf_r1 ++ wsX0_dayOf_r2) ++ wsX00 ++ (vx_atS RX0 141 "java/lang/IllegalArgumentException" ["java/lang/RuntimeException", "java/lang/Exception"]).filter goodWord)
def wsX0_timesInYear_r1 : List Cond := [Cond.methodLink RX0 60 yX0_checkMarket, Cond.instanceMethod yX0_checkMarket, Cond.selects RX0 yX0_checkMarket yX0_checkMarket, Cond.initialized RX0, Cond.code yX0_checkMarket cX0_checkMarket 2 none, Cond.classLink RX0 144 "java/lang/IndexOutOfBoundsException", Cond.initialized "java/lang/IndexOutOfBoundsException", Cond.fieldLink RX0 16 "MarketWeeks" "count" "I", Cond.methodLink RX0 41 yX0_isWithin, Cond.static yX0_isWithin, Cond.code yX0_isWithin cX0_isWithin 3 (some .boolean), Cond.methodLink RX0 131 yX0_checkYear, Cond.static yX0_checkYear, Cond.code yX0_checkYear cX0_checkYear 1 none, Cond.methodLink RX0 45 yX0_checkArgument, Cond.static yX0_checkArgument, Cond.code yX0_checkArgument cX0_checkArgument 1 none, Cond.classLink RX0 137 "java/lang/IllegalArgumentException", Cond.initialized "java/lang/IllegalArgumentException", Cond.methodLink RX0 128 yX0_yearBegin, Cond.instanceMethod yX0_yearBegin, Cond.selects RX0 yX0_yearBegin yX0_yearBegin, Cond.code yX0_yearBegin cX0_yearBegin 2 (some .int), Cond.fieldLink RX0 29 "MarketWeeks" "yearCommon" "I"]
def wsX0_timesInYear_r2 : List Cond := [Cond.fieldLink RX0 32 "MarketWeeks" "leapA" "I", Cond.fieldLink RX0 35 "MarketWeeks" "leapB" "I", Cond.fieldLink RX0 38 "MarketWeeks" "leapC" "I", Cond.methodLink RX0 120 yX0_divide, Cond.static yX0_divide, Cond.code yX0_divide cX0_divide 4 (some .long), Cond.methodLink RX0 161 yJ9_floorDiv_f86c9, Cond.static yJ9_floorDiv_f86c9, Cond.initialized RJ9, Cond.code yJ9_floorDiv_f86c9 cJ9_floorDiv_f86c9 6 (some .long), Cond.methodLink RX0 82 yX0_countHeld, Cond.instanceMethod yX0_countHeld, Cond.selects RX0 yX0_countHeld yX0_countHeld, Cond.code yX0_countHeld cX0_countHeld 6 (some .int), Cond.methodLink RX0 68 yX0_lengthOf, Cond.instanceMethod yX0_lengthOf, Cond.selects RX0 yX0_lengthOf yX0_lengthOf, Cond.code yX0_lengthOf cX0_lengthOf 2 (some .int), Cond.fieldLink RX0 9 "MarketWeeks" "lengths" "[I", Cond.methodLink RX0 49 yX0_isPlace, Cond.instanceMethod yX0_isPlace, Cond.selects RX0 yX0_isPlace yX0_isPlace, Cond.code yX0_isPlace cX0_isPlace 2 (some .boolean), Cond.fieldLink RX0 13 "MarketWeeks" "places" "[I"]
def wsX0_timesInYear_r3 : List Cond := [Cond.methodLink RX0 64 yX0_placeOf, Cond.instanceMethod yX0_placeOf, Cond.selects RX0 yX0_placeOf yX0_placeOf, Cond.code yX0_placeOf cX0_placeOf 2 (some .int)]
def wsX0_timesInYear : List Cond := .code yX0_timesInYear cX0_timesInYear 3 (some .int) :: ((wsX0_timesInYear_r1 ++ (wsX0_timesInYear_r2 ++ wsX0_timesInYear_r3)) ++ wsX00 ++ (vx_atS RX0 148 "java/lang/IndexOutOfBoundsException" ["java/lang/RuntimeException", "java/lang/Exception"]).filter goodWord ++ (vx_atS RX0 141 "java/lang/IllegalArgumentException" ["java/lang/RuntimeException", "java/lang/Exception"]).filter goodWord)
def wsL_cell : List Cond := .code yL_cell cL_cell 2 (some .int) :: ([])
def wsL_low : List Cond := .code yL_low cL_low 2 (some .int) :: ([.constant RL 7 (2147483647)])
def wsL_addMarket_r1 : List Cond := [Cond.classLink RL 14 "java/lang/IllegalArgumentException", Cond.classLink RL 17 "java/lang/IllegalStateException", Cond.constant RL 16 (-99999), Cond.methodLink RL 8 yX0_addMarket, Cond.instanceMethod yX0_addMarket, Cond.selects RX0 yX0_addMarket yX0_addMarket, Cond.initialized RX0, Cond.code yX0_addMarket cX0_addMarket 4 (some .int), Cond.classLink RX0 53 "java/lang/IllegalStateException", Cond.initialized "java/lang/IllegalStateException", Cond.fieldLink RX0 16 "MarketWeeks" "count" "I", Cond.fieldLink RX0 9 "MarketWeeks" "lengths" "[I", Cond.fieldLink RX0 13 "MarketWeeks" "places" "[I", Cond.methodLink RX0 41 yX0_isWithin, Cond.static yX0_isWithin, Cond.code yX0_isWithin cX0_isWithin 3 (some .boolean), Cond.methodLink RX0 45 yX0_checkArgument, Cond.static yX0_checkArgument, Cond.code yX0_checkArgument cX0_checkArgument 1 none, Cond.classLink RX0 137 "java/lang/IllegalArgumentException", Cond.initialized "java/lang/IllegalArgumentException", Cond.methodLink RX0 49 yX0_isPlace, Cond.instanceMethod yX0_isPlace, Cond.selects RX0 yX0_isPlace yX0_isPlace]
def wsL_addMarket_r2 : List Cond := [Cond.code yX0_isPlace cX0_isPlace 2 (some .boolean)]
def wsL_addMarket : List Cond := .codeWith yL_addMarket cL_addMarket 4 (some .int) [(0, 6, 7, 14), (0, 6, 11, 17)] :: ((wsL_addMarket_r1 ++ wsL_addMarket_r2) ++ wsX00 ++ (vx_atS RX0 57 "java/lang/IllegalStateException" ["java/lang/RuntimeException", "java/lang/Exception"]).filter goodWord ++ (vx_atS RX0 141 "java/lang/IllegalArgumentException" ["java/lang/RuntimeException", "java/lang/Exception"]).filter goodWord)
def wsL_shift_r1 : List Cond := [Cond.classLink RL 22 "java/lang/IndexOutOfBoundsException", Cond.classLink RL 14 "java/lang/IllegalArgumentException", Cond.constant RL 16 (-99999), Cond.methodLink RL 19 yX0_shift, Cond.instanceMethod yX0_shift, Cond.selects RX0 yX0_shift yX0_shift, Cond.initialized RX0, Cond.code yX0_shift cX0_shift 4 (some .int), Cond.fieldLink RX0 13 "MarketWeeks" "places" "[I", Cond.methodLink RX0 60 yX0_checkMarket, Cond.instanceMethod yX0_checkMarket, Cond.selects RX0 yX0_checkMarket yX0_checkMarket, Cond.code yX0_checkMarket cX0_checkMarket 2 none, Cond.classLink RX0 144 "java/lang/IndexOutOfBoundsException", Cond.initialized "java/lang/IndexOutOfBoundsException", Cond.fieldLink RX0 16 "MarketWeeks" "count" "I", Cond.methodLink RX0 41 yX0_isWithin, Cond.static yX0_isWithin, Cond.code yX0_isWithin cX0_isWithin 3 (some .boolean), Cond.methodLink RX0 45 yX0_checkArgument, Cond.static yX0_checkArgument, Cond.code yX0_checkArgument cX0_checkArgument 1 none, Cond.classLink RX0 137 "java/lang/IllegalArgumentException", Cond.initialized "java/lang/IllegalArgumentException"]
def wsL_shift_r2 : List Cond := [Cond.methodLink RX0 64 yX0_placeOf, Cond.instanceMethod yX0_placeOf, Cond.selects RX0 yX0_placeOf yX0_placeOf, Cond.code yX0_placeOf cX0_placeOf 2 (some .int), Cond.methodLink RX0 49 yX0_isPlace, Cond.instanceMethod yX0_isPlace, Cond.selects RX0 yX0_isPlace yX0_isPlace, Cond.code yX0_isPlace cX0_isPlace 2 (some .boolean), Cond.fieldLink RX0 9 "MarketWeeks" "lengths" "[I", Cond.methodLink RX0 68 yX0_lengthOf, Cond.instanceMethod yX0_lengthOf, Cond.selects RX0 yX0_lengthOf yX0_lengthOf, Cond.code yX0_lengthOf cX0_lengthOf 2 (some .int), Cond.methodLink RX0 71 yX0_modulo, Cond.static yX0_modulo, Cond.code yX0_modulo cX0_modulo 4 (some .long), Cond.methodLink RX0 166 yJ9_floorMod_f86c9, Cond.static yJ9_floorMod_f86c9, Cond.initialized RJ9, Cond.code yJ9_floorMod_f86c9 cJ9_floorMod_f86c9 6 (some .long)]
def wsL_shift : List Cond := .codeWith yL_shift cL_shift 4 (some .int) [(0, 6, 7, 22), (0, 6, 11, 14)] :: ((wsL_shift_r1 ++ wsL_shift_r2) ++ wsX00 ++ (vx_atS RX0 148 "java/lang/IndexOutOfBoundsException" ["java/lang/RuntimeException", "java/lang/Exception"]).filter goodWord ++ (vx_atS RX0 141 "java/lang/IllegalArgumentException" ["java/lang/RuntimeException", "java/lang/Exception"]).filter goodWord)
def wsL_setMoon : List Cond := .codeWith yL_setMoon cL_setMoon 5 (some .int) [(0, 8, 9, 14)] :: ([.classLink RL 14 "java/lang/IllegalArgumentException", .constant RL 16 (-99999), .methodLink RL 24 yX0_setMoon, .instanceMethod yX0_setMoon, .selects RX0 yX0_setMoon yX0_setMoon, .initialized RX0, .code yX0_setMoon cX0_setMoon 4 none, .fieldLink RX0 20 "MarketWeeks" "moonNum" "I", .fieldLink RX0 23 "MarketWeeks" "moonDen" "I", .fieldLink RX0 26 "MarketWeeks" "moonShift" "I", .methodLink RX0 41 yX0_isWithin, .static yX0_isWithin, .code yX0_isWithin cX0_isWithin 3 (some .boolean), .methodLink RX0 45 yX0_checkArgument, .static yX0_checkArgument, .code yX0_checkArgument cX0_checkArgument 1 none, .classLink RX0 137 "java/lang/IllegalArgumentException", .initialized "java/lang/IllegalArgumentException"] ++ wsX00 ++ (vx_atS RX0 141 "java/lang/IllegalArgumentException" ["java/lang/RuntimeException", "java/lang/Exception"]).filter goodWord)
def wsL_setYear : List Cond := .codeWith yL_setYear cL_setYear 6 (some .int) [(0, 10, 11, 14)] :: ([.classLink RL 14 "java/lang/IllegalArgumentException", .constant RL 16 (-99999), .methodLink RL 28 yX0_setYear, .instanceMethod yX0_setYear, .selects RX0 yX0_setYear yX0_setYear, .initialized RX0, .code yX0_setYear cX0_setYear 5 none, .fieldLink RX0 29 "MarketWeeks" "yearCommon" "I", .fieldLink RX0 32 "MarketWeeks" "leapA" "I", .fieldLink RX0 35 "MarketWeeks" "leapB" "I", .fieldLink RX0 38 "MarketWeeks" "leapC" "I", .methodLink RX0 41 yX0_isWithin, .static yX0_isWithin, .code yX0_isWithin cX0_isWithin 3 (some .boolean), .methodLink RX0 45 yX0_checkArgument, .static yX0_checkArgument, .code yX0_checkArgument cX0_checkArgument 1 none, .classLink RX0 137 "java/lang/IllegalArgumentException", .initialized "java/lang/IllegalArgumentException"] ++ wsX00 ++ (vx_atS RX0 141 "java/lang/IllegalArgumentException" ["java/lang/RuntimeException", "java/lang/Exception"]).filter goodWord)
def wsL_dayOf_r1 : List Cond := [Cond.classLink RL 14 "java/lang/IllegalArgumentException", Cond.constant RL 35 (2000000000), Cond.methodLink RL 32 yX0_dayOf, Cond.instanceMethod yX0_dayOf, Cond.selects RX0 yX0_dayOf yX0_dayOf, Cond.initialized RX0, Cond.code yX0_dayOf cX0_dayOf 4 (some .int), Cond.fieldLink RX0 29 "MarketWeeks" "yearCommon" "I", Cond.methodLink RX0 131 yX0_checkYear, Cond.static yX0_checkYear, Cond.code yX0_checkYear cX0_checkYear 1 none, Cond.methodLink RX0 41 yX0_isWithin, Cond.static yX0_isWithin, Cond.code yX0_isWithin cX0_isWithin 3 (some .boolean), Cond.methodLink RX0 45 yX0_checkArgument, Cond.static yX0_checkArgument, Cond.code yX0_checkArgument cX0_checkArgument 1 none, Cond.classLink RX0 137 "java/lang/IllegalArgumentException", Cond.initialized "java/lang/IllegalArgumentException", Cond.methodLink RX0 134 yX0_hasLeapDay, Cond.instanceMethod yX0_hasLeapDay, Cond.selects RX0 yX0_hasLeapDay yX0_hasLeapDay, Cond.code yX0_hasLeapDay cX0_hasLeapDay 2 (some .boolean), Cond.fieldLink RX0 32 "MarketWeeks" "leapA" "I"]
def wsL_dayOf_r2 : List Cond := [Cond.fieldLink RX0 35 "MarketWeeks" "leapB" "I", Cond.fieldLink RX0 38 "MarketWeeks" "leapC" "I", Cond.methodLink RX0 71 yX0_modulo, Cond.static yX0_modulo, Cond.code yX0_modulo cX0_modulo 4 (some .long), Cond.methodLink RX0 166 yJ9_floorMod_f86c9, Cond.static yJ9_floorMod_f86c9, Cond.initialized RJ9, Cond.code yJ9_floorMod_f86c9 cJ9_floorMod_f86c9 6 (some .long), Cond.methodLink RX0 128 yX0_yearBegin, Cond.instanceMethod yX0_yearBegin, Cond.selects RX0 yX0_yearBegin yX0_yearBegin, Cond.code yX0_yearBegin cX0_yearBegin 2 (some .int), Cond.methodLink RX0 120 yX0_divide, Cond.static yX0_divide, Cond.code yX0_divide cX0_divide 4 (some .long), Cond.methodLink RX0 161 yJ9_floorDiv_f86c9, Cond.static yJ9_floorDiv_f86c9, Cond.code yJ9_floorDiv_f86c9 cJ9_floorDiv_f86c9 6 (some .long)]
def wsL_dayOf : List Cond := .codeWith yL_dayOf cL_dayOf 4 (some .int) [(0, 6, 7, 14)] :: ((wsL_dayOf_r1 ++ wsL_dayOf_r2) ++ wsX00 ++ (vx_atS RX0 141 "java/lang/IllegalArgumentException" ["java/lang/RuntimeException", "java/lang/Exception"]).filter goodWord)
def wsL_period_r1 : List Cond := [Cond.classLink RL 14 "java/lang/IllegalArgumentException", Cond.classLink RL 22 "java/lang/IndexOutOfBoundsException", Cond.classLink RL 17 "java/lang/IllegalStateException", Cond.constant RL 16 (-99999), Cond.methodLink RL 36 yX0_period, Cond.instanceMethod yX0_period, Cond.selects RX0 yX0_period yX0_period, Cond.initialized RX0, Cond.code yX0_period cX0_period 2 (some .int), Cond.methodLink RX0 89 yX0_checkMeetingSet, Cond.instanceMethod yX0_checkMeetingSet, Cond.selects RX0 yX0_checkMeetingSet yX0_checkMeetingSet, Cond.code yX0_checkMeetingSet cX0_checkMeetingSet 2 none, Cond.methodLink RX0 112 yJ6_bitCount_0f7a4, Cond.static yJ6_bitCount_0f7a4, Cond.initialized RJ6, Cond.code yJ6_bitCount_0f7a4 cJ6_bitCount_0f7a4 1 (some .int), Cond.constant RJ6 265 (1431655765), Cond.constant RJ6 266 (858993459), Cond.constant RJ6 267 (252645135), Cond.methodLink RX0 41 yX0_isWithin, Cond.static yX0_isWithin, Cond.code yX0_isWithin cX0_isWithin 3 (some .boolean), Cond.methodLink RX0 45 yX0_checkArgument]
def wsL_period_r2 : List Cond := [Cond.static yX0_checkArgument, Cond.code yX0_checkArgument cX0_checkArgument 1 none, Cond.classLink RX0 137 "java/lang/IllegalArgumentException", Cond.initialized "java/lang/IllegalArgumentException", Cond.methodLink RX0 109 yX0_checkMarkets, Cond.instanceMethod yX0_checkMarkets, Cond.selects RX0 yX0_checkMarkets yX0_checkMarkets, Cond.code yX0_checkMarkets cX0_checkMarkets 2 none, Cond.classLink RX0 144 "java/lang/IndexOutOfBoundsException", Cond.initialized "java/lang/IndexOutOfBoundsException", Cond.fieldLink RX0 16 "MarketWeeks" "count" "I", Cond.methodLink RX0 92 yX0_firstMeeting, Cond.instanceMethod yX0_firstMeeting, Cond.selects RX0 yX0_firstMeeting yX0_firstMeeting, Cond.code yX0_firstMeeting cX0_firstMeeting 7 (some .long), Cond.constantLong RX0 96 (-1), Cond.methodLink RX0 153 yX0_firstHeldInSteps, Cond.instanceMethod yX0_firstHeldInSteps, Cond.selects RX0 yX0_firstHeldInSteps yX0_firstHeldInSteps, Cond.code yX0_firstHeldInSteps cX0_firstHeldInSteps 10 (some .long), Cond.methodLink RX0 68 yX0_lengthOf, Cond.instanceMethod yX0_lengthOf, Cond.selects RX0 yX0_lengthOf yX0_lengthOf, Cond.code yX0_lengthOf cX0_lengthOf 2 (some .int)]
def wsL_period_r3 : List Cond := [Cond.fieldLink RX0 9 "MarketWeeks" "lengths" "[I", Cond.methodLink RX0 49 yX0_isPlace, Cond.instanceMethod yX0_isPlace, Cond.selects RX0 yX0_isPlace yX0_isPlace, Cond.code yX0_isPlace cX0_isPlace 2 (some .boolean), Cond.fieldLink RX0 13 "MarketWeeks" "places" "[I", Cond.methodLink RX0 78 yX0_isOn, Cond.instanceMethod yX0_isOn, Cond.selects RX0 yX0_isOn yX0_isOn, Cond.code yX0_isOn cX0_isOn 4 (some .boolean), Cond.methodLink RX0 71 yX0_modulo, Cond.static yX0_modulo, Cond.code yX0_modulo cX0_modulo 4 (some .long), Cond.methodLink RX0 166 yJ9_floorMod_f86c9, Cond.static yJ9_floorMod_f86c9, Cond.initialized RJ9, Cond.code yJ9_floorMod_f86c9 cJ9_floorMod_f86c9 6 (some .long), Cond.methodLink RX0 64 yX0_placeOf, Cond.instanceMethod yX0_placeOf, Cond.selects RX0 yX0_placeOf yX0_placeOf, Cond.code yX0_placeOf cX0_placeOf 2 (some .int), Cond.methodLink RX0 157 yX0_commonMultiple, Cond.static yX0_commonMultiple, Cond.code yX0_commonMultiple cX0_commonMultiple 4 (some .long)]
def wsL_period_r4 : List Cond := [Cond.methodLink RX0 98 yX0_checkTheyMeet, Cond.static yX0_checkTheyMeet, Cond.code yX0_checkTheyMeet cX0_checkTheyMeet 2 none, Cond.classLink RX0 53 "java/lang/IllegalStateException", Cond.initialized "java/lang/IllegalStateException", Cond.methodLink RX0 102 yX0_commonLength, Cond.instanceMethod yX0_commonLength, Cond.selects RX0 yX0_commonLength yX0_commonLength, Cond.code yX0_commonLength cX0_commonLength 5 (some .long)]
def wsL_period : List Cond := .codeWith yL_period cL_period 3 (some .int) [(0, 5, 6, 14), (0, 5, 10, 22), (0, 5, 14, 17)] :: ((wsL_period_r1 ++ (wsL_period_r2 ++ (wsL_period_r3 ++ wsL_period_r4))) ++ wsX00 ++ (vx_atS RX0 141 "java/lang/IllegalArgumentException" ["java/lang/RuntimeException", "java/lang/Exception"]).filter goodWord ++ (vx_atS RX0 148 "java/lang/IndexOutOfBoundsException" ["java/lang/RuntimeException", "java/lang/Exception"]).filter goodWord ++ (vx_atS RX0 57 "java/lang/IllegalStateException" ["java/lang/RuntimeException", "java/lang/Exception"]).filter goodWord)
def wsL_meeting_r1 : List Cond := [Cond.classLink RL 14 "java/lang/IllegalArgumentException", Cond.classLink RL 22 "java/lang/IndexOutOfBoundsException", Cond.classLink RL 17 "java/lang/IllegalStateException", Cond.constant RL 35 (2000000000), Cond.constant RL 43 (1999999999), Cond.methodLink RL 40 yX0_meeting, Cond.instanceMethod yX0_meeting, Cond.selects RX0 yX0_meeting yX0_meeting, Cond.initialized RX0, Cond.code yX0_meeting cX0_meeting 5 (some .int), Cond.methodLink RX0 75 yX0_checkDay, Cond.static yX0_checkDay, Cond.code yX0_checkDay cX0_checkDay 1 none, Cond.constant RX0 142 (-1000000), Cond.constant RX0 143 (1000000), Cond.methodLink RX0 41 yX0_isWithin, Cond.static yX0_isWithin, Cond.code yX0_isWithin cX0_isWithin 3 (some .boolean), Cond.methodLink RX0 45 yX0_checkArgument, Cond.static yX0_checkArgument, Cond.code yX0_checkArgument cX0_checkArgument 1 none, Cond.classLink RX0 137 "java/lang/IllegalArgumentException", Cond.initialized "java/lang/IllegalArgumentException", Cond.methodLink RX0 89 yX0_checkMeetingSet]
def wsL_meeting_r2 : List Cond := [Cond.instanceMethod yX0_checkMeetingSet, Cond.selects RX0 yX0_checkMeetingSet yX0_checkMeetingSet, Cond.code yX0_checkMeetingSet cX0_checkMeetingSet 2 none, Cond.methodLink RX0 112 yJ6_bitCount_0f7a4, Cond.static yJ6_bitCount_0f7a4, Cond.initialized RJ6, Cond.code yJ6_bitCount_0f7a4 cJ6_bitCount_0f7a4 1 (some .int), Cond.constant RJ6 265 (1431655765), Cond.constant RJ6 266 (858993459), Cond.constant RJ6 267 (252645135), Cond.methodLink RX0 109 yX0_checkMarkets, Cond.instanceMethod yX0_checkMarkets, Cond.selects RX0 yX0_checkMarkets yX0_checkMarkets, Cond.code yX0_checkMarkets cX0_checkMarkets 2 none, Cond.classLink RX0 144 "java/lang/IndexOutOfBoundsException", Cond.initialized "java/lang/IndexOutOfBoundsException", Cond.fieldLink RX0 16 "MarketWeeks" "count" "I", Cond.methodLink RX0 92 yX0_firstMeeting, Cond.instanceMethod yX0_firstMeeting, Cond.selects RX0 yX0_firstMeeting yX0_firstMeeting, Cond.code yX0_firstMeeting cX0_firstMeeting 7 (some .long), Cond.constantLong RX0 96 (-1), Cond.methodLink RX0 153 yX0_firstHeldInSteps, Cond.instanceMethod yX0_firstHeldInSteps]
def wsL_meeting_r3 : List Cond := [Cond.selects RX0 yX0_firstHeldInSteps yX0_firstHeldInSteps, Cond.code yX0_firstHeldInSteps cX0_firstHeldInSteps 10 (some .long), Cond.methodLink RX0 68 yX0_lengthOf, Cond.instanceMethod yX0_lengthOf, Cond.selects RX0 yX0_lengthOf yX0_lengthOf, Cond.code yX0_lengthOf cX0_lengthOf 2 (some .int), Cond.fieldLink RX0 9 "MarketWeeks" "lengths" "[I", Cond.methodLink RX0 49 yX0_isPlace, Cond.instanceMethod yX0_isPlace, Cond.selects RX0 yX0_isPlace yX0_isPlace, Cond.code yX0_isPlace cX0_isPlace 2 (some .boolean), Cond.fieldLink RX0 13 "MarketWeeks" "places" "[I", Cond.methodLink RX0 78 yX0_isOn, Cond.instanceMethod yX0_isOn, Cond.selects RX0 yX0_isOn yX0_isOn, Cond.code yX0_isOn cX0_isOn 4 (some .boolean), Cond.methodLink RX0 71 yX0_modulo, Cond.static yX0_modulo, Cond.code yX0_modulo cX0_modulo 4 (some .long), Cond.methodLink RX0 166 yJ9_floorMod_f86c9, Cond.static yJ9_floorMod_f86c9, Cond.initialized RJ9, Cond.code yJ9_floorMod_f86c9 cJ9_floorMod_f86c9 6 (some .long), Cond.methodLink RX0 64 yX0_placeOf]
def wsL_meeting_r4 : List Cond := [Cond.instanceMethod yX0_placeOf, Cond.selects RX0 yX0_placeOf yX0_placeOf, Cond.code yX0_placeOf cX0_placeOf 2 (some .int), Cond.methodLink RX0 157 yX0_commonMultiple, Cond.static yX0_commonMultiple, Cond.code yX0_commonMultiple cX0_commonMultiple 4 (some .long), Cond.methodLink RX0 98 yX0_checkTheyMeet, Cond.static yX0_checkTheyMeet, Cond.code yX0_checkTheyMeet cX0_checkTheyMeet 2 none, Cond.classLink RX0 53 "java/lang/IllegalStateException", Cond.initialized "java/lang/IllegalStateException", Cond.methodLink RX0 102 yX0_commonLength, Cond.instanceMethod yX0_commonLength, Cond.selects RX0 yX0_commonLength yX0_commonLength, Cond.code yX0_commonLength cX0_commonLength 5 (some .long)]
def wsL_meeting : List Cond := .codeWith yL_meeting cL_meeting 4 (some .int) [(0, 6, 7, 14), (0, 6, 11, 22), (0, 6, 15, 17)] :: ((wsL_meeting_r1 ++ (wsL_meeting_r2 ++ (wsL_meeting_r3 ++ wsL_meeting_r4))) ++ wsX00 ++ (vx_atS RX0 141 "java/lang/IllegalArgumentException" ["java/lang/RuntimeException", "java/lang/Exception"]).filter goodWord ++ (vx_atS RX0 148 "java/lang/IndexOutOfBoundsException" ["java/lang/RuntimeException", "java/lang/Exception"]).filter goodWord ++ (vx_atS RX0 57 "java/lang/IllegalStateException" ["java/lang/RuntimeException", "java/lang/Exception"]).filter goodWord)
def wsL_act_r1 : List Cond := [Cond.methodLink RL 44 yL_low, Cond.static yL_low, Cond.initialized RL, Cond.code yL_low cL_low 2 (some .int), Cond.constant RL 7 (2147483647), Cond.methodLink RL 49 yL_addMarket, Cond.static yL_addMarket, Cond.codeWith yL_addMarket cL_addMarket 4 (some .int) [(0, 6, 7, 14), (0, 6, 11, 17)], Cond.classLink RL 14 "java/lang/IllegalArgumentException", Cond.classLink RL 17 "java/lang/IllegalStateException", Cond.constant RL 16 (-99999), Cond.methodLink RL 8 yX0_addMarket, Cond.instanceMethod yX0_addMarket, Cond.selects RX0 yX0_addMarket yX0_addMarket, Cond.initialized RX0, Cond.code yX0_addMarket cX0_addMarket 4 (some .int), Cond.classLink RX0 53 "java/lang/IllegalStateException", Cond.initialized "java/lang/IllegalStateException", Cond.fieldLink RX0 16 "MarketWeeks" "count" "I", Cond.fieldLink RX0 9 "MarketWeeks" "lengths" "[I", Cond.fieldLink RX0 13 "MarketWeeks" "places" "[I", Cond.methodLink RX0 41 yX0_isWithin, Cond.static yX0_isWithin, Cond.code yX0_isWithin cX0_isWithin 3 (some .boolean)]
def wsL_act_r2 : List Cond := [Cond.methodLink RX0 45 yX0_checkArgument, Cond.static yX0_checkArgument, Cond.code yX0_checkArgument cX0_checkArgument 1 none, Cond.classLink RX0 137 "java/lang/IllegalArgumentException", Cond.initialized "java/lang/IllegalArgumentException", Cond.methodLink RX0 49 yX0_isPlace, Cond.instanceMethod yX0_isPlace, Cond.selects RX0 yX0_isPlace yX0_isPlace, Cond.code yX0_isPlace cX0_isPlace 2 (some .boolean), Cond.methodLink RL 52 yX0_markets, Cond.instanceMethod yX0_markets, Cond.selects RX0 yX0_markets yX0_markets, Cond.code yX0_markets cX0_markets 1 (some .int), Cond.methodLink RL 56 yL_shift, Cond.static yL_shift, Cond.codeWith yL_shift cL_shift 4 (some .int) [(0, 6, 7, 22), (0, 6, 11, 14)], Cond.classLink RL 22 "java/lang/IndexOutOfBoundsException", Cond.methodLink RL 19 yX0_shift, Cond.instanceMethod yX0_shift, Cond.selects RX0 yX0_shift yX0_shift, Cond.code yX0_shift cX0_shift 4 (some .int), Cond.methodLink RX0 60 yX0_checkMarket, Cond.instanceMethod yX0_checkMarket, Cond.selects RX0 yX0_checkMarket yX0_checkMarket]
def wsL_act_r3 : List Cond := [Cond.code yX0_checkMarket cX0_checkMarket 2 none, Cond.classLink RX0 144 "java/lang/IndexOutOfBoundsException", Cond.initialized "java/lang/IndexOutOfBoundsException", Cond.methodLink RX0 64 yX0_placeOf, Cond.instanceMethod yX0_placeOf, Cond.selects RX0 yX0_placeOf yX0_placeOf, Cond.code yX0_placeOf cX0_placeOf 2 (some .int), Cond.methodLink RX0 68 yX0_lengthOf, Cond.instanceMethod yX0_lengthOf, Cond.selects RX0 yX0_lengthOf yX0_lengthOf, Cond.code yX0_lengthOf cX0_lengthOf 2 (some .int), Cond.methodLink RX0 71 yX0_modulo, Cond.static yX0_modulo, Cond.code yX0_modulo cX0_modulo 4 (some .long), Cond.methodLink RX0 166 yJ9_floorMod_f86c9, Cond.static yJ9_floorMod_f86c9, Cond.initialized RJ9, Cond.code yJ9_floorMod_f86c9 cJ9_floorMod_f86c9 6 (some .long), Cond.methodLink RL 58 yL_setMoon, Cond.static yL_setMoon, Cond.codeWith yL_setMoon cL_setMoon 5 (some .int) [(0, 8, 9, 14)], Cond.methodLink RL 24 yX0_setMoon, Cond.instanceMethod yX0_setMoon, Cond.selects RX0 yX0_setMoon yX0_setMoon]
def wsL_act_r4 : List Cond := [Cond.code yX0_setMoon cX0_setMoon 4 none, Cond.fieldLink RX0 20 "MarketWeeks" "moonNum" "I", Cond.fieldLink RX0 23 "MarketWeeks" "moonDen" "I", Cond.fieldLink RX0 26 "MarketWeeks" "moonShift" "I", Cond.methodLink RL 61 yL_setYear, Cond.static yL_setYear, Cond.codeWith yL_setYear cL_setYear 6 (some .int) [(0, 10, 11, 14)], Cond.methodLink RL 28 yX0_setYear, Cond.instanceMethod yX0_setYear, Cond.selects RX0 yX0_setYear yX0_setYear, Cond.code yX0_setYear cX0_setYear 5 none, Cond.fieldLink RX0 29 "MarketWeeks" "yearCommon" "I", Cond.fieldLink RX0 32 "MarketWeeks" "leapA" "I", Cond.fieldLink RX0 35 "MarketWeeks" "leapB" "I", Cond.fieldLink RX0 38 "MarketWeeks" "leapC" "I"]
def wsL_act : List Cond := .code yL_act cL_act 5 (some .int) :: ((wsL_act_r1 ++ (wsL_act_r2 ++ (wsL_act_r3 ++ wsL_act_r4))) ++ wsX00 ++ (vx_atS RX0 57 "java/lang/IllegalStateException" ["java/lang/RuntimeException", "java/lang/Exception"]).filter goodWord ++ (vx_atS RX0 141 "java/lang/IllegalArgumentException" ["java/lang/RuntimeException", "java/lang/Exception"]).filter goodWord ++ (vx_atS RX0 148 "java/lang/IndexOutOfBoundsException" ["java/lang/RuntimeException", "java/lang/Exception"]).filter goodWord)
def wsL_areAlike_r1 : List Cond := [Cond.methodLink RL 52 yX0_markets, Cond.instanceMethod yX0_markets, Cond.selects RX0 yX0_markets yX0_markets, Cond.initialized RX0, Cond.code yX0_markets cX0_markets 1 (some .int), Cond.fieldLink RX0 16 "MarketWeeks" "count" "I", Cond.methodLink RL 64 yX0_heldOn, Cond.instanceMethod yX0_heldOn, Cond.selects RX0 yX0_heldOn yX0_heldOn, Cond.code yX0_heldOn cX0_heldOn 2 (some .int), Cond.methodLink RX0 75 yX0_checkDay, Cond.static yX0_checkDay, Cond.code yX0_checkDay cX0_checkDay 1 none, Cond.constant RX0 142 (-1000000), Cond.constant RX0 143 (1000000), Cond.methodLink RX0 41 yX0_isWithin, Cond.static yX0_isWithin, Cond.code yX0_isWithin cX0_isWithin 3 (some .boolean), Cond.methodLink RX0 45 yX0_checkArgument, Cond.static yX0_checkArgument, Cond.code yX0_checkArgument cX0_checkArgument 1 none, Cond.classLink RX0 137 "java/lang/IllegalArgumentException", Cond.initialized "java/lang/IllegalArgumentException", Cond.methodLink RX0 86 yX0_setOn]
def wsL_areAlike_r2 : List Cond := [Cond.instanceMethod yX0_setOn, Cond.selects RX0 yX0_setOn yX0_setOn, Cond.code yX0_setOn cX0_setOn 4 (some .int), Cond.methodLink RX0 78 yX0_isOn, Cond.instanceMethod yX0_isOn, Cond.selects RX0 yX0_isOn yX0_isOn, Cond.code yX0_isOn cX0_isOn 4 (some .boolean), Cond.methodLink RX0 68 yX0_lengthOf, Cond.instanceMethod yX0_lengthOf, Cond.selects RX0 yX0_lengthOf yX0_lengthOf, Cond.code yX0_lengthOf cX0_lengthOf 2 (some .int), Cond.fieldLink RX0 9 "MarketWeeks" "lengths" "[I", Cond.methodLink RX0 49 yX0_isPlace, Cond.instanceMethod yX0_isPlace, Cond.selects RX0 yX0_isPlace yX0_isPlace, Cond.code yX0_isPlace cX0_isPlace 2 (some .boolean), Cond.fieldLink RX0 13 "MarketWeeks" "places" "[I", Cond.methodLink RX0 71 yX0_modulo, Cond.static yX0_modulo, Cond.code yX0_modulo cX0_modulo 4 (some .long), Cond.methodLink RX0 166 yJ9_floorMod_f86c9, Cond.static yJ9_floorMod_f86c9, Cond.initialized RJ9, Cond.code yJ9_floorMod_f86c9 cJ9_floorMod_f86c9 6 (some .long)]
def wsL_areAlike_r3 : List Cond := [Cond.methodLink RX0 64 yX0_placeOf, Cond.instanceMethod yX0_placeOf, Cond.selects RX0 yX0_placeOf yX0_placeOf, Cond.code yX0_placeOf cX0_placeOf 2 (some .int), Cond.methodLink RL 67 yX0_month, Cond.instanceMethod yX0_month, Cond.selects RX0 yX0_month yX0_month, Cond.code yX0_month cX0_month 2 (some .int), Cond.fieldLink RX0 20 "MarketWeeks" "moonNum" "I", Cond.methodLink RX0 117 yX0_moonParts, Cond.instanceMethod yX0_moonParts, Cond.selects RX0 yX0_moonParts yX0_moonParts, Cond.code yX0_moonParts cX0_moonParts 3 (some .long), Cond.fieldLink RX0 26 "MarketWeeks" "moonShift" "I", Cond.fieldLink RX0 23 "MarketWeeks" "moonDen" "I", Cond.methodLink RX0 120 yX0_divide, Cond.static yX0_divide, Cond.code yX0_divide cX0_divide 4 (some .long), Cond.methodLink RX0 161 yJ9_floorDiv_f86c9, Cond.static yJ9_floorDiv_f86c9, Cond.code yJ9_floorDiv_f86c9 cJ9_floorDiv_f86c9 6 (some .long), Cond.methodLink RL 70 yX0_lunarDay, Cond.instanceMethod yX0_lunarDay, Cond.selects RX0 yX0_lunarDay yX0_lunarDay]
def wsL_areAlike_r4 : List Cond := [Cond.code yX0_lunarDay cX0_lunarDay 2 (some .int), Cond.methodLink RX0 105 yX0_lunarDayOf, Cond.instanceMethod yX0_lunarDayOf, Cond.selects RX0 yX0_lunarDayOf yX0_lunarDayOf, Cond.code yX0_lunarDayOf cX0_lunarDayOf 3 (some .long), Cond.methodLink RL 73 yX0_year, Cond.instanceMethod yX0_year, Cond.selects RX0 yX0_year yX0_year, Cond.code yX0_year cX0_year 2 (some .int), Cond.methodLink RX0 125 yX0_yearOf, Cond.instanceMethod yX0_yearOf, Cond.selects RX0 yX0_yearOf yX0_yearOf, Cond.code yX0_yearOf cX0_yearOf 4 (some .int), Cond.fieldLink RX0 38 "MarketWeeks" "leapC" "I", Cond.fieldLink RX0 35 "MarketWeeks" "leapB" "I", Cond.fieldLink RX0 29 "MarketWeeks" "yearCommon" "I", Cond.fieldLink RX0 32 "MarketWeeks" "leapA" "I", Cond.methodLink RL 76 yX0_placeInYear, Cond.instanceMethod yX0_placeInYear, Cond.selects RX0 yX0_placeInYear yX0_placeInYear, Cond.code yX0_placeInYear cX0_placeInYear 2 (some .int), Cond.methodLink RX0 128 yX0_yearBegin, Cond.instanceMethod yX0_yearBegin, Cond.selects RX0 yX0_yearBegin yX0_yearBegin]
def wsL_areAlike_r5 : List Cond := [Cond.code yX0_yearBegin cX0_yearBegin 2 (some .int)]
def wsL_areAlike : List Cond := .code yL_areAlike cL_areAlike 4 (some .boolean) :: ((wsL_areAlike_r1 ++ (wsL_areAlike_r2 ++ (wsL_areAlike_r3 ++ (wsL_areAlike_r4 ++ wsL_areAlike_r5)))) ++ wsX00 ++ (vx_atS RX0 141 "java/lang/IllegalArgumentException" ["java/lang/RuntimeException", "java/lang/Exception"]).filter goodWord)
def wsL_isMarketSo_r1 : List Cond := [Cond.methodLink RL 79 yX0_next, Cond.instanceMethod yX0_next, Cond.selects RX0 yX0_next yX0_next, Cond.initialized RX0, Cond.code yX0_next cX0_next 3 (some .int), Cond.methodLink RX0 60 yX0_checkMarket, Cond.instanceMethod yX0_checkMarket, Cond.selects RX0 yX0_checkMarket yX0_checkMarket, Cond.code yX0_checkMarket cX0_checkMarket 2 none, Cond.classLink RX0 144 "java/lang/IndexOutOfBoundsException", Cond.initialized "java/lang/IndexOutOfBoundsException", Cond.fieldLink RX0 16 "MarketWeeks" "count" "I", Cond.methodLink RX0 41 yX0_isWithin, Cond.static yX0_isWithin, Cond.code yX0_isWithin cX0_isWithin 3 (some .boolean), Cond.methodLink RX0 75 yX0_checkDay, Cond.static yX0_checkDay, Cond.code yX0_checkDay cX0_checkDay 1 none, Cond.constant RX0 142 (-1000000), Cond.constant RX0 143 (1000000), Cond.methodLink RX0 45 yX0_checkArgument, Cond.static yX0_checkArgument, Cond.code yX0_checkArgument cX0_checkArgument 1 none, Cond.classLink RX0 137 "java/lang/IllegalArgumentException"]
def wsL_isMarketSo_r2 : List Cond := [Cond.initialized "java/lang/IllegalArgumentException", Cond.methodLink RX0 64 yX0_placeOf, Cond.instanceMethod yX0_placeOf, Cond.selects RX0 yX0_placeOf yX0_placeOf, Cond.code yX0_placeOf cX0_placeOf 2 (some .int), Cond.fieldLink RX0 13 "MarketWeeks" "places" "[I", Cond.methodLink RX0 49 yX0_isPlace, Cond.instanceMethod yX0_isPlace, Cond.selects RX0 yX0_isPlace yX0_isPlace, Cond.code yX0_isPlace cX0_isPlace 2 (some .boolean), Cond.fieldLink RX0 9 "MarketWeeks" "lengths" "[I", Cond.methodLink RX0 68 yX0_lengthOf, Cond.instanceMethod yX0_lengthOf, Cond.selects RX0 yX0_lengthOf yX0_lengthOf, Cond.code yX0_lengthOf cX0_lengthOf 2 (some .int), Cond.methodLink RX0 71 yX0_modulo, Cond.static yX0_modulo, Cond.code yX0_modulo cX0_modulo 4 (some .long), Cond.methodLink RX0 166 yJ9_floorMod_f86c9, Cond.static yJ9_floorMod_f86c9, Cond.initialized RJ9, Cond.code yJ9_floorMod_f86c9 cJ9_floorMod_f86c9 6 (some .long), Cond.methodLink RL 82 yX0_nearest, Cond.instanceMethod yX0_nearest]
def wsL_isMarketSo_r3 : List Cond := [Cond.selects RX0 yX0_nearest yX0_nearest, Cond.code yX0_nearest cX0_nearest 6 (some .int), Cond.methodLink RL 85 yX0_isHeld, Cond.instanceMethod yX0_isHeld, Cond.selects RX0 yX0_isHeld yX0_isHeld, Cond.code yX0_isHeld cX0_isHeld 3 (some .boolean), Cond.methodLink RX0 78 yX0_isOn, Cond.instanceMethod yX0_isOn, Cond.selects RX0 yX0_isOn yX0_isOn, Cond.code yX0_isOn cX0_isOn 4 (some .boolean), Cond.methodLink RL 89 yX0_times, Cond.instanceMethod yX0_times, Cond.selects RX0 yX0_times yX0_times, Cond.code yX0_times cX0_times 4 (some .int), Cond.methodLink RX0 82 yX0_countHeld, Cond.instanceMethod yX0_countHeld, Cond.selects RX0 yX0_countHeld yX0_countHeld, Cond.code yX0_countHeld cX0_countHeld 6 (some .int), Cond.methodLink RX0 120 yX0_divide, Cond.static yX0_divide, Cond.code yX0_divide cX0_divide 4 (some .long), Cond.methodLink RX0 161 yJ9_floorDiv_f86c9, Cond.static yJ9_floorDiv_f86c9, Cond.code yJ9_floorDiv_f86c9 cJ9_floorDiv_f86c9 6 (some .long)]
def wsL_isMarketSo_r4 : List Cond := [Cond.methodLink RL 64 yX0_heldOn, Cond.instanceMethod yX0_heldOn, Cond.selects RX0 yX0_heldOn yX0_heldOn, Cond.code yX0_heldOn cX0_heldOn 2 (some .int), Cond.methodLink RX0 86 yX0_setOn, Cond.instanceMethod yX0_setOn, Cond.selects RX0 yX0_setOn yX0_setOn, Cond.code yX0_setOn cX0_setOn 4 (some .int)]
def wsL_isMarketSo : List Cond := .code yL_isMarketSo cL_isMarketSo 7 (some .boolean) :: ((wsL_isMarketSo_r1 ++ (wsL_isMarketSo_r2 ++ (wsL_isMarketSo_r3 ++ wsL_isMarketSo_r4))) ++ wsX00 ++ (vx_atS RX0 148 "java/lang/IndexOutOfBoundsException" ["java/lang/RuntimeException", "java/lang/Exception"]).filter goodWord ++ (vx_atS RX0 141 "java/lang/IllegalArgumentException" ["java/lang/RuntimeException", "java/lang/Exception"]).filter goodWord)
def wsL_isMeetingSo_r1 : List Cond := [Cond.constant RL 43 (1999999999), Cond.constant RL 35 (2000000000), Cond.constant RL 102 (1000000), Cond.constantLong RL 107 (-1), Cond.methodLink RL 93 yL_period, Cond.static yL_period, Cond.initialized RL, Cond.codeWith yL_period cL_period 3 (some .int) [(0, 5, 6, 14), (0, 5, 10, 22), (0, 5, 14, 17)], Cond.classLink RL 14 "java/lang/IllegalArgumentException", Cond.classLink RL 22 "java/lang/IndexOutOfBoundsException", Cond.classLink RL 17 "java/lang/IllegalStateException", Cond.constant RL 16 (-99999), Cond.methodLink RL 36 yX0_period, Cond.instanceMethod yX0_period, Cond.selects RX0 yX0_period yX0_period, Cond.initialized RX0, Cond.code yX0_period cX0_period 2 (some .int), Cond.methodLink RX0 89 yX0_checkMeetingSet, Cond.instanceMethod yX0_checkMeetingSet, Cond.selects RX0 yX0_checkMeetingSet yX0_checkMeetingSet, Cond.code yX0_checkMeetingSet cX0_checkMeetingSet 2 none, Cond.methodLink RX0 112 yJ6_bitCount_0f7a4, Cond.static yJ6_bitCount_0f7a4, Cond.initialized RJ6]
def wsL_isMeetingSo_r2 : List Cond := [Cond.code yJ6_bitCount_0f7a4 cJ6_bitCount_0f7a4 1 (some .int), Cond.constant RJ6 265 (1431655765), Cond.constant RJ6 266 (858993459), Cond.constant RJ6 267 (252645135), Cond.methodLink RX0 41 yX0_isWithin, Cond.static yX0_isWithin, Cond.code yX0_isWithin cX0_isWithin 3 (some .boolean), Cond.methodLink RX0 45 yX0_checkArgument, Cond.static yX0_checkArgument, Cond.code yX0_checkArgument cX0_checkArgument 1 none, Cond.classLink RX0 137 "java/lang/IllegalArgumentException", Cond.initialized "java/lang/IllegalArgumentException", Cond.methodLink RX0 109 yX0_checkMarkets, Cond.instanceMethod yX0_checkMarkets, Cond.selects RX0 yX0_checkMarkets yX0_checkMarkets, Cond.code yX0_checkMarkets cX0_checkMarkets 2 none, Cond.classLink RX0 144 "java/lang/IndexOutOfBoundsException", Cond.initialized "java/lang/IndexOutOfBoundsException", Cond.fieldLink RX0 16 "MarketWeeks" "count" "I", Cond.methodLink RX0 92 yX0_firstMeeting, Cond.instanceMethod yX0_firstMeeting, Cond.selects RX0 yX0_firstMeeting yX0_firstMeeting, Cond.code yX0_firstMeeting cX0_firstMeeting 7 (some .long), Cond.constantLong RX0 96 (-1)]
def wsL_isMeetingSo_r3 : List Cond := [Cond.methodLink RX0 153 yX0_firstHeldInSteps, Cond.instanceMethod yX0_firstHeldInSteps, Cond.selects RX0 yX0_firstHeldInSteps yX0_firstHeldInSteps, Cond.code yX0_firstHeldInSteps cX0_firstHeldInSteps 10 (some .long), Cond.methodLink RX0 68 yX0_lengthOf, Cond.instanceMethod yX0_lengthOf, Cond.selects RX0 yX0_lengthOf yX0_lengthOf, Cond.code yX0_lengthOf cX0_lengthOf 2 (some .int), Cond.fieldLink RX0 9 "MarketWeeks" "lengths" "[I", Cond.methodLink RX0 49 yX0_isPlace, Cond.instanceMethod yX0_isPlace, Cond.selects RX0 yX0_isPlace yX0_isPlace, Cond.code yX0_isPlace cX0_isPlace 2 (some .boolean), Cond.fieldLink RX0 13 "MarketWeeks" "places" "[I", Cond.methodLink RX0 78 yX0_isOn, Cond.instanceMethod yX0_isOn, Cond.selects RX0 yX0_isOn yX0_isOn, Cond.code yX0_isOn cX0_isOn 4 (some .boolean), Cond.methodLink RX0 71 yX0_modulo, Cond.static yX0_modulo, Cond.code yX0_modulo cX0_modulo 4 (some .long), Cond.methodLink RX0 166 yJ9_floorMod_f86c9, Cond.static yJ9_floorMod_f86c9, Cond.initialized RJ9]
def wsL_isMeetingSo_r4 : List Cond := [Cond.code yJ9_floorMod_f86c9 cJ9_floorMod_f86c9 6 (some .long), Cond.methodLink RX0 64 yX0_placeOf, Cond.instanceMethod yX0_placeOf, Cond.selects RX0 yX0_placeOf yX0_placeOf, Cond.code yX0_placeOf cX0_placeOf 2 (some .int), Cond.methodLink RX0 157 yX0_commonMultiple, Cond.static yX0_commonMultiple, Cond.code yX0_commonMultiple cX0_commonMultiple 4 (some .long), Cond.methodLink RX0 98 yX0_checkTheyMeet, Cond.static yX0_checkTheyMeet, Cond.code yX0_checkTheyMeet cX0_checkTheyMeet 2 none, Cond.classLink RX0 53 "java/lang/IllegalStateException", Cond.initialized "java/lang/IllegalStateException", Cond.methodLink RX0 102 yX0_commonLength, Cond.instanceMethod yX0_commonLength, Cond.selects RX0 yX0_commonLength yX0_commonLength, Cond.code yX0_commonLength cX0_commonLength 5 (some .long), Cond.methodLink RL 96 yL_meeting, Cond.static yL_meeting, Cond.codeWith yL_meeting cL_meeting 4 (some .int) [(0, 6, 7, 14), (0, 6, 11, 22), (0, 6, 15, 17)], Cond.methodLink RL 40 yX0_meeting, Cond.instanceMethod yX0_meeting, Cond.selects RX0 yX0_meeting yX0_meeting, Cond.code yX0_meeting cX0_meeting 5 (some .int)]
def wsL_isMeetingSo_r5 : List Cond := [Cond.methodLink RX0 75 yX0_checkDay, Cond.static yX0_checkDay, Cond.code yX0_checkDay cX0_checkDay 1 none, Cond.constant RX0 142 (-1000000), Cond.constant RX0 143 (1000000), Cond.methodLink RL 98 yX0_doMeet, Cond.instanceMethod yX0_doMeet, Cond.selects RX0 yX0_doMeet yX0_doMeet, Cond.code yX0_doMeet cX0_doMeet 2 (some .boolean), Cond.methodLink RL 64 yX0_heldOn, Cond.instanceMethod yX0_heldOn, Cond.selects RX0 yX0_heldOn yX0_heldOn, Cond.code yX0_heldOn cX0_heldOn 2 (some .int), Cond.methodLink RX0 86 yX0_setOn, Cond.instanceMethod yX0_setOn, Cond.selects RX0 yX0_setOn yX0_setOn, Cond.code yX0_setOn cX0_setOn 4 (some .int), Cond.methodLink RL 103 yX0_lunarMeeting, Cond.instanceMethod yX0_lunarMeeting, Cond.selects RX0 yX0_lunarMeeting yX0_lunarMeeting, Cond.code yX0_lunarMeeting cX0_lunarMeeting 12 (some .long), Cond.methodLink RX0 105 yX0_lunarDayOf, Cond.instanceMethod yX0_lunarDayOf, Cond.selects RX0 yX0_lunarDayOf yX0_lunarDayOf]
def wsL_isMeetingSo_r6 : List Cond := [Cond.code yX0_lunarDayOf cX0_lunarDayOf 3 (some .long), Cond.fieldLink RX0 20 "MarketWeeks" "moonNum" "I", Cond.fieldLink RX0 23 "MarketWeeks" "moonDen" "I", Cond.methodLink RX0 117 yX0_moonParts, Cond.instanceMethod yX0_moonParts, Cond.selects RX0 yX0_moonParts yX0_moonParts, Cond.code yX0_moonParts cX0_moonParts 3 (some .long), Cond.fieldLink RX0 26 "MarketWeeks" "moonShift" "I", Cond.methodLink RX0 120 yX0_divide, Cond.static yX0_divide, Cond.code yX0_divide cX0_divide 4 (some .long), Cond.methodLink RX0 161 yJ9_floorDiv_f86c9, Cond.static yJ9_floorDiv_f86c9, Cond.code yJ9_floorDiv_f86c9 cJ9_floorDiv_f86c9 6 (some .long)]
def wsL_isMeetingSo : List Cond := .code yL_isMeetingSo cL_isMeetingSo 6 (some .boolean) :: ((wsL_isMeetingSo_r1 ++ (wsL_isMeetingSo_r2 ++ (wsL_isMeetingSo_r3 ++ (wsL_isMeetingSo_r4 ++ (wsL_isMeetingSo_r5 ++ wsL_isMeetingSo_r6))))) ++ wsX00 ++ (vx_atS RX0 141 "java/lang/IllegalArgumentException" ["java/lang/RuntimeException", "java/lang/Exception"]).filter goodWord ++ (vx_atS RX0 148 "java/lang/IndexOutOfBoundsException" ["java/lang/RuntimeException", "java/lang/Exception"]).filter goodWord ++ (vx_atS RX0 57 "java/lang/IllegalStateException" ["java/lang/RuntimeException", "java/lang/Exception"]).filter goodWord)
def wsL_isMonthSo_r1 : List Cond := [Cond.constant RL 16 (-99999), Cond.constant RL 109 (99999), Cond.methodLink RL 67 yX0_month, Cond.instanceMethod yX0_month, Cond.selects RX0 yX0_month yX0_month, Cond.initialized RX0, Cond.code yX0_month cX0_month 2 (some .int), Cond.fieldLink RX0 20 "MarketWeeks" "moonNum" "I", Cond.methodLink RX0 75 yX0_checkDay, Cond.static yX0_checkDay, Cond.code yX0_checkDay cX0_checkDay 1 none, Cond.constant RX0 142 (-1000000), Cond.constant RX0 143 (1000000), Cond.methodLink RX0 41 yX0_isWithin, Cond.static yX0_isWithin, Cond.code yX0_isWithin cX0_isWithin 3 (some .boolean), Cond.methodLink RX0 45 yX0_checkArgument, Cond.static yX0_checkArgument, Cond.code yX0_checkArgument cX0_checkArgument 1 none, Cond.classLink RX0 137 "java/lang/IllegalArgumentException", Cond.initialized "java/lang/IllegalArgumentException", Cond.methodLink RX0 117 yX0_moonParts, Cond.instanceMethod yX0_moonParts, Cond.selects RX0 yX0_moonParts yX0_moonParts]
def wsL_isMonthSo_r2 : List Cond := [Cond.code yX0_moonParts cX0_moonParts 3 (some .long), Cond.fieldLink RX0 26 "MarketWeeks" "moonShift" "I", Cond.fieldLink RX0 23 "MarketWeeks" "moonDen" "I", Cond.methodLink RX0 120 yX0_divide, Cond.static yX0_divide, Cond.code yX0_divide cX0_divide 4 (some .long), Cond.methodLink RX0 161 yJ9_floorDiv_f86c9, Cond.static yJ9_floorDiv_f86c9, Cond.initialized RJ9, Cond.code yJ9_floorDiv_f86c9 cJ9_floorDiv_f86c9 6 (some .long), Cond.methodLink RL 110 yX0_monthBegin, Cond.instanceMethod yX0_monthBegin, Cond.selects RX0 yX0_monthBegin yX0_monthBegin, Cond.code yX0_monthBegin cX0_monthBegin 2 (some .int), Cond.constant RX0 123 (-100000), Cond.constant RX0 124 (100000), Cond.methodLink RL 70 yX0_lunarDay, Cond.instanceMethod yX0_lunarDay, Cond.selects RX0 yX0_lunarDay yX0_lunarDay, Cond.code yX0_lunarDay cX0_lunarDay 2 (some .int), Cond.methodLink RX0 105 yX0_lunarDayOf, Cond.instanceMethod yX0_lunarDayOf, Cond.selects RX0 yX0_lunarDayOf yX0_lunarDayOf, Cond.code yX0_lunarDayOf cX0_lunarDayOf 3 (some .long)]
def wsL_isMonthSo_r3 : List Cond := [Cond.methodLink RX0 71 yX0_modulo, Cond.static yX0_modulo, Cond.code yX0_modulo cX0_modulo 4 (some .long), Cond.methodLink RX0 166 yJ9_floorMod_f86c9, Cond.static yJ9_floorMod_f86c9, Cond.code yJ9_floorMod_f86c9 cJ9_floorMod_f86c9 6 (some .long)]
def wsL_isMonthSo : List Cond := .code yL_isMonthSo cL_isMonthSo 4 (some .boolean) :: ((wsL_isMonthSo_r1 ++ (wsL_isMonthSo_r2 ++ wsL_isMonthSo_r3)) ++ wsX00 ++ (vx_atS RX0 141 "java/lang/IllegalArgumentException" ["java/lang/RuntimeException", "java/lang/Exception"]).filter goodWord)
def wsL_isDaySo_r1 : List Cond := [Cond.constant RL 35 (2000000000), Cond.methodLink RL 73 yX0_year, Cond.instanceMethod yX0_year, Cond.selects RX0 yX0_year yX0_year, Cond.initialized RX0, Cond.code yX0_year cX0_year 2 (some .int), Cond.methodLink RX0 75 yX0_checkDay, Cond.static yX0_checkDay, Cond.code yX0_checkDay cX0_checkDay 1 none, Cond.constant RX0 142 (-1000000), Cond.constant RX0 143 (1000000), Cond.methodLink RX0 41 yX0_isWithin, Cond.static yX0_isWithin, Cond.code yX0_isWithin cX0_isWithin 3 (some .boolean), Cond.methodLink RX0 45 yX0_checkArgument, Cond.static yX0_checkArgument, Cond.code yX0_checkArgument cX0_checkArgument 1 none, Cond.classLink RX0 137 "java/lang/IllegalArgumentException", Cond.initialized "java/lang/IllegalArgumentException", Cond.methodLink RX0 125 yX0_yearOf, Cond.instanceMethod yX0_yearOf, Cond.selects RX0 yX0_yearOf yX0_yearOf, Cond.code yX0_yearOf cX0_yearOf 4 (some .int), Cond.fieldLink RX0 38 "MarketWeeks" "leapC" "I"]
def wsL_isDaySo_r2 : List Cond := [Cond.fieldLink RX0 35 "MarketWeeks" "leapB" "I", Cond.fieldLink RX0 29 "MarketWeeks" "yearCommon" "I", Cond.fieldLink RX0 32 "MarketWeeks" "leapA" "I", Cond.methodLink RX0 120 yX0_divide, Cond.static yX0_divide, Cond.code yX0_divide cX0_divide 4 (some .long), Cond.methodLink RX0 161 yJ9_floorDiv_f86c9, Cond.static yJ9_floorDiv_f86c9, Cond.initialized RJ9, Cond.code yJ9_floorDiv_f86c9 cJ9_floorDiv_f86c9 6 (some .long), Cond.methodLink RL 32 yX0_dayOf, Cond.instanceMethod yX0_dayOf, Cond.selects RX0 yX0_dayOf yX0_dayOf, Cond.code yX0_dayOf cX0_dayOf 4 (some .int), Cond.methodLink RX0 131 yX0_checkYear, Cond.static yX0_checkYear, Cond.code yX0_checkYear cX0_checkYear 1 none, Cond.methodLink RX0 134 yX0_hasLeapDay, Cond.instanceMethod yX0_hasLeapDay, Cond.selects RX0 yX0_hasLeapDay yX0_hasLeapDay, Cond.code yX0_hasLeapDay cX0_hasLeapDay 2 (some .boolean), Cond.methodLink RX0 71 yX0_modulo, Cond.static yX0_modulo, Cond.code yX0_modulo cX0_modulo 4 (some .long)]
def wsL_isDaySo_r3 : List Cond := [Cond.methodLink RX0 166 yJ9_floorMod_f86c9, Cond.static yJ9_floorMod_f86c9, Cond.code yJ9_floorMod_f86c9 cJ9_floorMod_f86c9 6 (some .long), Cond.methodLink RX0 128 yX0_yearBegin, Cond.instanceMethod yX0_yearBegin, Cond.selects RX0 yX0_yearBegin yX0_yearBegin, Cond.code yX0_yearBegin cX0_yearBegin 2 (some .int), Cond.methodLink RL 76 yX0_placeInYear, Cond.instanceMethod yX0_placeInYear, Cond.selects RX0 yX0_placeInYear yX0_placeInYear, Cond.code yX0_placeInYear cX0_placeInYear 2 (some .int), Cond.methodLink RL 113 yL_dayOf, Cond.static yL_dayOf, Cond.initialized RL, Cond.codeWith yL_dayOf cL_dayOf 4 (some .int) [(0, 6, 7, 14)], Cond.classLink RL 14 "java/lang/IllegalArgumentException", Cond.methodLink RL 115 yX0_isLeap, Cond.instanceMethod yX0_isLeap, Cond.selects RX0 yX0_isLeap yX0_isLeap, Cond.code yX0_isLeap cX0_isLeap 2 (some .boolean), Cond.methodLink RL 52 yX0_markets, Cond.instanceMethod yX0_markets, Cond.selects RX0 yX0_markets yX0_markets, Cond.code yX0_markets cX0_markets 1 (some .int)]
def wsL_isDaySo_r4 : List Cond := [Cond.fieldLink RX0 16 "MarketWeeks" "count" "I", Cond.methodLink RL 118 yX0_timesInYear, Cond.instanceMethod yX0_timesInYear, Cond.selects RX0 yX0_timesInYear yX0_timesInYear, Cond.code yX0_timesInYear cX0_timesInYear 3 (some .int), Cond.methodLink RX0 60 yX0_checkMarket, Cond.instanceMethod yX0_checkMarket, Cond.selects RX0 yX0_checkMarket yX0_checkMarket, Cond.code yX0_checkMarket cX0_checkMarket 2 none, Cond.classLink RX0 144 "java/lang/IndexOutOfBoundsException", Cond.initialized "java/lang/IndexOutOfBoundsException", Cond.methodLink RX0 82 yX0_countHeld, Cond.instanceMethod yX0_countHeld, Cond.selects RX0 yX0_countHeld yX0_countHeld, Cond.code yX0_countHeld cX0_countHeld 6 (some .int), Cond.methodLink RX0 68 yX0_lengthOf, Cond.instanceMethod yX0_lengthOf, Cond.selects RX0 yX0_lengthOf yX0_lengthOf, Cond.code yX0_lengthOf cX0_lengthOf 2 (some .int), Cond.fieldLink RX0 9 "MarketWeeks" "lengths" "[I", Cond.methodLink RX0 49 yX0_isPlace, Cond.instanceMethod yX0_isPlace, Cond.selects RX0 yX0_isPlace yX0_isPlace, Cond.code yX0_isPlace cX0_isPlace 2 (some .boolean)]
def wsL_isDaySo_r5 : List Cond := [Cond.fieldLink RX0 13 "MarketWeeks" "places" "[I", Cond.methodLink RX0 64 yX0_placeOf, Cond.instanceMethod yX0_placeOf, Cond.selects RX0 yX0_placeOf yX0_placeOf, Cond.code yX0_placeOf cX0_placeOf 2 (some .int), Cond.methodLink RL 89 yX0_times, Cond.instanceMethod yX0_times, Cond.selects RX0 yX0_times yX0_times, Cond.code yX0_times cX0_times 4 (some .int)]
def wsL_isDaySo : List Cond := .code yL_isDaySo cL_isDaySo 8 (some .boolean) :: ((wsL_isDaySo_r1 ++ (wsL_isDaySo_r2 ++ (wsL_isDaySo_r3 ++ (wsL_isDaySo_r4 ++ wsL_isDaySo_r5)))) ++ wsX00 ++ (vx_atS RX0 141 "java/lang/IllegalArgumentException" ["java/lang/RuntimeException", "java/lang/Exception"]).filter goodWord ++ (vx_atS RX0 148 "java/lang/IndexOutOfBoundsException" ["java/lang/RuntimeException", "java/lang/Exception"]).filter goodWord)
def wsL_law0_r1 : List Cond := [Cond.classLink RL 9 RX0, Cond.instantiable RX0 10, Cond.initialized RX0, Cond.constant RL 129 (1800001), Cond.constant RL 130 (900000), Cond.constant RL 16 (-99999), Cond.methodLink RL 121 yX0_init, Cond.instanceMethod yX0_init, Cond.code yX0_init cX0_init 1 none, Cond.methodLink RX0 1 objectInit, Cond.instanceMethod objectInit, Cond.code objectInit ⟨#[0xb1]⟩ 1 none, Cond.arrayClass .int, Cond.fieldLink RX0 9 "MarketWeeks" "lengths" "[I", Cond.fieldLink RX0 13 "MarketWeeks" "places" "[I", Cond.fieldLink RX0 16 "MarketWeeks" "count" "I", Cond.fieldLink RX0 20 "MarketWeeks" "moonNum" "I", Cond.fieldLink RX0 23 "MarketWeeks" "moonDen" "I", Cond.fieldLink RX0 26 "MarketWeeks" "moonShift" "I", Cond.fieldLink RX0 29 "MarketWeeks" "yearCommon" "I", Cond.fieldLink RX0 32 "MarketWeeks" "leapA" "I", Cond.fieldLink RX0 35 "MarketWeeks" "leapB" "I", Cond.fieldLink RX0 38 "MarketWeeks" "leapC" "I", Cond.methodLink RL 122 yL_cell]
def wsL_law0_r2 : List Cond := [Cond.static yL_cell, Cond.initialized RL, Cond.code yL_cell cL_cell 2 (some .int), Cond.methodLink RL 126 yL_act, Cond.static yL_act, Cond.code yL_act cL_act 5 (some .int), Cond.methodLink RL 44 yL_low, Cond.static yL_low, Cond.code yL_low cL_low 2 (some .int), Cond.constant RL 7 (2147483647), Cond.methodLink RL 49 yL_addMarket, Cond.static yL_addMarket, Cond.codeWith yL_addMarket cL_addMarket 4 (some .int) [(0, 6, 7, 14), (0, 6, 11, 17)], Cond.classLink RL 14 "java/lang/IllegalArgumentException", Cond.classLink RL 17 "java/lang/IllegalStateException", Cond.methodLink RL 8 yX0_addMarket, Cond.instanceMethod yX0_addMarket, Cond.selects RX0 yX0_addMarket yX0_addMarket, Cond.code yX0_addMarket cX0_addMarket 4 (some .int), Cond.classLink RX0 53 "java/lang/IllegalStateException", Cond.initialized "java/lang/IllegalStateException", Cond.methodLink RX0 41 yX0_isWithin, Cond.static yX0_isWithin, Cond.code yX0_isWithin cX0_isWithin 3 (some .boolean)]
def wsL_law0_r3 : List Cond := [Cond.methodLink RX0 45 yX0_checkArgument, Cond.static yX0_checkArgument, Cond.code yX0_checkArgument cX0_checkArgument 1 none, Cond.classLink RX0 137 "java/lang/IllegalArgumentException", Cond.initialized "java/lang/IllegalArgumentException", Cond.methodLink RX0 49 yX0_isPlace, Cond.instanceMethod yX0_isPlace, Cond.selects RX0 yX0_isPlace yX0_isPlace, Cond.code yX0_isPlace cX0_isPlace 2 (some .boolean), Cond.methodLink RL 52 yX0_markets, Cond.instanceMethod yX0_markets, Cond.selects RX0 yX0_markets yX0_markets, Cond.code yX0_markets cX0_markets 1 (some .int), Cond.methodLink RL 56 yL_shift, Cond.static yL_shift, Cond.codeWith yL_shift cL_shift 4 (some .int) [(0, 6, 7, 22), (0, 6, 11, 14)], Cond.classLink RL 22 "java/lang/IndexOutOfBoundsException", Cond.methodLink RL 19 yX0_shift, Cond.instanceMethod yX0_shift, Cond.selects RX0 yX0_shift yX0_shift, Cond.code yX0_shift cX0_shift 4 (some .int), Cond.methodLink RX0 60 yX0_checkMarket, Cond.instanceMethod yX0_checkMarket, Cond.selects RX0 yX0_checkMarket yX0_checkMarket]
def wsL_law0_r4 : List Cond := [Cond.code yX0_checkMarket cX0_checkMarket 2 none, Cond.classLink RX0 144 "java/lang/IndexOutOfBoundsException", Cond.initialized "java/lang/IndexOutOfBoundsException", Cond.methodLink RX0 64 yX0_placeOf, Cond.instanceMethod yX0_placeOf, Cond.selects RX0 yX0_placeOf yX0_placeOf, Cond.code yX0_placeOf cX0_placeOf 2 (some .int), Cond.methodLink RX0 68 yX0_lengthOf, Cond.instanceMethod yX0_lengthOf, Cond.selects RX0 yX0_lengthOf yX0_lengthOf, Cond.code yX0_lengthOf cX0_lengthOf 2 (some .int), Cond.methodLink RX0 71 yX0_modulo, Cond.static yX0_modulo, Cond.code yX0_modulo cX0_modulo 4 (some .long), Cond.methodLink RX0 166 yJ9_floorMod_f86c9, Cond.static yJ9_floorMod_f86c9, Cond.initialized RJ9, Cond.code yJ9_floorMod_f86c9 cJ9_floorMod_f86c9 6 (some .long), Cond.methodLink RL 58 yL_setMoon, Cond.static yL_setMoon, Cond.codeWith yL_setMoon cL_setMoon 5 (some .int) [(0, 8, 9, 14)], Cond.methodLink RL 24 yX0_setMoon, Cond.instanceMethod yX0_setMoon, Cond.selects RX0 yX0_setMoon yX0_setMoon]
def wsL_law0_r5 : List Cond := [Cond.code yX0_setMoon cX0_setMoon 4 none, Cond.methodLink RL 61 yL_setYear, Cond.static yL_setYear, Cond.codeWith yL_setYear cL_setYear 6 (some .int) [(0, 10, 11, 14)], Cond.methodLink RL 28 yX0_setYear, Cond.instanceMethod yX0_setYear, Cond.selects RX0 yX0_setYear yX0_setYear, Cond.code yX0_setYear cX0_setYear 5 none, Cond.methodLink RL 131 yL_areAlike, Cond.static yL_areAlike, Cond.code yL_areAlike cL_areAlike 4 (some .boolean), Cond.methodLink RL 64 yX0_heldOn, Cond.instanceMethod yX0_heldOn, Cond.selects RX0 yX0_heldOn yX0_heldOn, Cond.code yX0_heldOn cX0_heldOn 2 (some .int), Cond.methodLink RX0 75 yX0_checkDay, Cond.static yX0_checkDay, Cond.code yX0_checkDay cX0_checkDay 1 none, Cond.constant RX0 142 (-1000000), Cond.constant RX0 143 (1000000), Cond.methodLink RX0 86 yX0_setOn, Cond.instanceMethod yX0_setOn, Cond.selects RX0 yX0_setOn yX0_setOn, Cond.code yX0_setOn cX0_setOn 4 (some .int)]
def wsL_law0_r6 : List Cond := [Cond.methodLink RX0 78 yX0_isOn, Cond.instanceMethod yX0_isOn, Cond.selects RX0 yX0_isOn yX0_isOn, Cond.code yX0_isOn cX0_isOn 4 (some .boolean), Cond.methodLink RL 67 yX0_month, Cond.instanceMethod yX0_month, Cond.selects RX0 yX0_month yX0_month, Cond.code yX0_month cX0_month 2 (some .int), Cond.methodLink RX0 117 yX0_moonParts, Cond.instanceMethod yX0_moonParts, Cond.selects RX0 yX0_moonParts yX0_moonParts, Cond.code yX0_moonParts cX0_moonParts 3 (some .long), Cond.methodLink RX0 120 yX0_divide, Cond.static yX0_divide, Cond.code yX0_divide cX0_divide 4 (some .long), Cond.methodLink RX0 161 yJ9_floorDiv_f86c9, Cond.static yJ9_floorDiv_f86c9, Cond.code yJ9_floorDiv_f86c9 cJ9_floorDiv_f86c9 6 (some .long), Cond.methodLink RL 70 yX0_lunarDay, Cond.instanceMethod yX0_lunarDay, Cond.selects RX0 yX0_lunarDay yX0_lunarDay, Cond.code yX0_lunarDay cX0_lunarDay 2 (some .int), Cond.methodLink RX0 105 yX0_lunarDayOf, Cond.instanceMethod yX0_lunarDayOf]
def wsL_law0_r7 : List Cond := [Cond.selects RX0 yX0_lunarDayOf yX0_lunarDayOf, Cond.code yX0_lunarDayOf cX0_lunarDayOf 3 (some .long), Cond.methodLink RL 73 yX0_year, Cond.instanceMethod yX0_year, Cond.selects RX0 yX0_year yX0_year, Cond.code yX0_year cX0_year 2 (some .int), Cond.methodLink RX0 125 yX0_yearOf, Cond.instanceMethod yX0_yearOf, Cond.selects RX0 yX0_yearOf yX0_yearOf, Cond.code yX0_yearOf cX0_yearOf 4 (some .int), Cond.methodLink RL 76 yX0_placeInYear, Cond.instanceMethod yX0_placeInYear, Cond.selects RX0 yX0_placeInYear yX0_placeInYear, Cond.code yX0_placeInYear cX0_placeInYear 2 (some .int), Cond.methodLink RX0 128 yX0_yearBegin, Cond.instanceMethod yX0_yearBegin, Cond.selects RX0 yX0_yearBegin yX0_yearBegin, Cond.code yX0_yearBegin cX0_yearBegin 2 (some .int), Cond.methodLink RL 135 yL_isDaySo, Cond.static yL_isDaySo, Cond.code yL_isDaySo cL_isDaySo 8 (some .boolean), Cond.constant RL 35 (2000000000), Cond.methodLink RL 32 yX0_dayOf, Cond.instanceMethod yX0_dayOf]
def wsL_law0_r8 : List Cond := [Cond.selects RX0 yX0_dayOf yX0_dayOf, Cond.code yX0_dayOf cX0_dayOf 4 (some .int), Cond.methodLink RX0 131 yX0_checkYear, Cond.static yX0_checkYear, Cond.code yX0_checkYear cX0_checkYear 1 none, Cond.methodLink RX0 134 yX0_hasLeapDay, Cond.instanceMethod yX0_hasLeapDay, Cond.selects RX0 yX0_hasLeapDay yX0_hasLeapDay, Cond.code yX0_hasLeapDay cX0_hasLeapDay 2 (some .boolean), Cond.methodLink RL 113 yL_dayOf, Cond.static yL_dayOf, Cond.codeWith yL_dayOf cL_dayOf 4 (some .int) [(0, 6, 7, 14)], Cond.methodLink RL 115 yX0_isLeap, Cond.instanceMethod yX0_isLeap, Cond.selects RX0 yX0_isLeap yX0_isLeap, Cond.code yX0_isLeap cX0_isLeap 2 (some .boolean), Cond.methodLink RL 118 yX0_timesInYear, Cond.instanceMethod yX0_timesInYear, Cond.selects RX0 yX0_timesInYear yX0_timesInYear, Cond.code yX0_timesInYear cX0_timesInYear 3 (some .int), Cond.methodLink RX0 82 yX0_countHeld, Cond.instanceMethod yX0_countHeld, Cond.selects RX0 yX0_countHeld yX0_countHeld, Cond.code yX0_countHeld cX0_countHeld 6 (some .int)]
def wsL_law0_r9 : List Cond := [Cond.methodLink RL 89 yX0_times, Cond.instanceMethod yX0_times, Cond.selects RX0 yX0_times yX0_times, Cond.code yX0_times cX0_times 4 (some .int), Cond.methodLink RL 139 yL_isMonthSo, Cond.static yL_isMonthSo, Cond.code yL_isMonthSo cL_isMonthSo 4 (some .boolean), Cond.constant RL 109 (99999), Cond.methodLink RL 110 yX0_monthBegin, Cond.instanceMethod yX0_monthBegin, Cond.selects RX0 yX0_monthBegin yX0_monthBegin, Cond.code yX0_monthBegin cX0_monthBegin 2 (some .int), Cond.constant RX0 123 (-100000), Cond.constant RX0 124 (100000), Cond.methodLink RL 142 yL_isMarketSo, Cond.static yL_isMarketSo, Cond.code yL_isMarketSo cL_isMarketSo 7 (some .boolean), Cond.methodLink RL 79 yX0_next, Cond.instanceMethod yX0_next, Cond.selects RX0 yX0_next yX0_next, Cond.code yX0_next cX0_next 3 (some .int), Cond.methodLink RL 82 yX0_nearest, Cond.instanceMethod yX0_nearest, Cond.selects RX0 yX0_nearest yX0_nearest]
def wsL_law0_r10 : List Cond := [Cond.code yX0_nearest cX0_nearest 6 (some .int), Cond.methodLink RL 85 yX0_isHeld, Cond.instanceMethod yX0_isHeld, Cond.selects RX0 yX0_isHeld yX0_isHeld, Cond.code yX0_isHeld cX0_isHeld 3 (some .boolean), Cond.methodLink RL 146 yL_isMeetingSo, Cond.static yL_isMeetingSo, Cond.code yL_isMeetingSo cL_isMeetingSo 6 (some .boolean), Cond.constant RL 43 (1999999999), Cond.constant RL 102 (1000000), Cond.constantLong RL 107 (-1), Cond.methodLink RL 93 yL_period, Cond.static yL_period, Cond.codeWith yL_period cL_period 3 (some .int) [(0, 5, 6, 14), (0, 5, 10, 22), (0, 5, 14, 17)], Cond.methodLink RL 36 yX0_period, Cond.instanceMethod yX0_period, Cond.selects RX0 yX0_period yX0_period, Cond.code yX0_period cX0_period 2 (some .int), Cond.methodLink RX0 89 yX0_checkMeetingSet, Cond.instanceMethod yX0_checkMeetingSet, Cond.selects RX0 yX0_checkMeetingSet yX0_checkMeetingSet, Cond.code yX0_checkMeetingSet cX0_checkMeetingSet 2 none, Cond.methodLink RX0 112 yJ6_bitCount_0f7a4, Cond.static yJ6_bitCount_0f7a4]
def wsL_law0_r11 : List Cond := [Cond.initialized RJ6, Cond.code yJ6_bitCount_0f7a4 cJ6_bitCount_0f7a4 1 (some .int), Cond.constant RJ6 265 (1431655765), Cond.constant RJ6 266 (858993459), Cond.constant RJ6 267 (252645135), Cond.methodLink RX0 109 yX0_checkMarkets, Cond.instanceMethod yX0_checkMarkets, Cond.selects RX0 yX0_checkMarkets yX0_checkMarkets, Cond.code yX0_checkMarkets cX0_checkMarkets 2 none, Cond.methodLink RX0 92 yX0_firstMeeting, Cond.instanceMethod yX0_firstMeeting, Cond.selects RX0 yX0_firstMeeting yX0_firstMeeting, Cond.code yX0_firstMeeting cX0_firstMeeting 7 (some .long), Cond.constantLong RX0 96 (-1), Cond.methodLink RX0 153 yX0_firstHeldInSteps, Cond.instanceMethod yX0_firstHeldInSteps, Cond.selects RX0 yX0_firstHeldInSteps yX0_firstHeldInSteps, Cond.code yX0_firstHeldInSteps cX0_firstHeldInSteps 10 (some .long), Cond.methodLink RX0 157 yX0_commonMultiple, Cond.static yX0_commonMultiple, Cond.code yX0_commonMultiple cX0_commonMultiple 4 (some .long), Cond.methodLink RX0 98 yX0_checkTheyMeet, Cond.static yX0_checkTheyMeet, Cond.code yX0_checkTheyMeet cX0_checkTheyMeet 2 none]
def wsL_law0_r12 : List Cond := [Cond.methodLink RX0 102 yX0_commonLength, Cond.instanceMethod yX0_commonLength, Cond.selects RX0 yX0_commonLength yX0_commonLength, Cond.code yX0_commonLength cX0_commonLength 5 (some .long), Cond.methodLink RL 96 yL_meeting, Cond.static yL_meeting, Cond.codeWith yL_meeting cL_meeting 4 (some .int) [(0, 6, 7, 14), (0, 6, 11, 22), (0, 6, 15, 17)], Cond.methodLink RL 40 yX0_meeting, Cond.instanceMethod yX0_meeting, Cond.selects RX0 yX0_meeting yX0_meeting, Cond.code yX0_meeting cX0_meeting 5 (some .int), Cond.methodLink RL 98 yX0_doMeet, Cond.instanceMethod yX0_doMeet, Cond.selects RX0 yX0_doMeet yX0_doMeet, Cond.code yX0_doMeet cX0_doMeet 2 (some .boolean), Cond.methodLink RL 103 yX0_lunarMeeting, Cond.instanceMethod yX0_lunarMeeting, Cond.selects RX0 yX0_lunarMeeting yX0_lunarMeeting, Cond.code yX0_lunarMeeting cX0_lunarMeeting 12 (some .long)]
def wsL_law0 : List Cond := (wsL_law0_r1 ++ (wsL_law0_r2 ++ (wsL_law0_r3 ++ (wsL_law0_r4 ++ (wsL_law0_r5 ++ (wsL_law0_r6 ++ (wsL_law0_r7 ++ (wsL_law0_r8 ++ (wsL_law0_r9 ++ (wsL_law0_r10 ++ (wsL_law0_r11 ++ wsL_law0_r12))))))))))) ++ wsX00 ++ ([] : List Cond)
def wsL_law : List Cond := wsL_law0 ++ (vx_atS RX0 57 "java/lang/IllegalStateException" ["java/lang/RuntimeException", "java/lang/Exception"]).filter goodWord ++ (vx_atS RX0 141 "java/lang/IllegalArgumentException" ["java/lang/RuntimeException", "java/lang/Exception"]).filter goodWord ++ (vx_atS RX0 148 "java/lang/IndexOutOfBoundsException" ["java/lang/RuntimeException", "java/lang/Exception"]).filter goodWord
end
section
set_option maxRecDepth 20000 in
theorem in_wsL_law0_r1 : ∀ w ∈ wsL_law0_r1, w ∈ lw_tbl := fun w h => (goodIn_p wsL_law0_r1 [32, 35] (by decide +kernel) (by decide +kernel) w h).1
set_option maxRecDepth 20000 in
theorem in_wsL_law0_r2 : ∀ w ∈ wsL_law0_r2, w ∈ lw_tbl := fun w h => (goodIn_p wsL_law0_r2 [74, 81, 77, 90, 93] (by decide +kernel) (by decide +kernel) w h).1
set_option maxRecDepth 20000 in
theorem in_wsL_law0_r3 : ∀ w ∈ wsL_law0_r3, w ∈ lw_tbl := fun w h => (goodIn_p wsL_law0_r3 [96, 168, 71, 193] (by decide +kernel) (by decide +kernel) w h).1
set_option maxRecDepth 20000 in
theorem in_wsL_law0_r4 : ∀ w ∈ wsL_law0_r4, w ∈ lw_tbl := fun w h => (goodIn_p wsL_law0_r4 [197, 217, 221, 224, 227] (by decide +kernel) (by decide +kernel) w h).1
set_option maxRecDepth 20000 in
theorem in_wsL_law0_r5 : ∀ w ∈ wsL_law0_r5, w ∈ lw_tbl := fun w h => (goodIn_p wsL_law0_r5 [234, 241, 244, 248, 251, 257] (by decide +kernel) (by decide +kernel) w h).1
set_option maxRecDepth 20000 in
theorem in_wsL_law0_r6 : ∀ w ∈ wsL_law0_r6, w ∈ lw_tbl := fun w h => (goodIn_p wsL_law0_r6 [261, 265, 269, 272, 275, 279] (by decide +kernel) (by decide +kernel) w h).1
set_option maxRecDepth 20000 in
theorem in_wsL_law0_r7 : ∀ w ∈ wsL_law0_r7, w ∈ lw_tbl := fun w h => (goodIn_p wsL_law0_r7 [283, 287, 291, 295, 299, 399] (by decide +kernel) (by decide +kernel) w h).1
set_option maxRecDepth 20000 in
theorem in_wsL_law0_r8 : ∀ w ∈ wsL_law0_r8, w ∈ lw_tbl := fun w h => (goodIn_p wsL_law0_r8 [403, 406, 410, 417, 421, 322] (by decide +kernel) (by decide +kernel) w h).1
set_option maxRecDepth 20000 in
theorem in_wsL_law0_r9 : ∀ w ∈ wsL_law0_r9, w ∈ lw_tbl := fun w h => (goodIn_p wsL_law0_r9 [318, 389, 394, 302, 306] (by decide +kernel) (by decide +kernel) w h).1
set_option maxRecDepth 20000 in
theorem in_wsL_law0_r10 : ∀ w ∈ wsL_law0_r10, w ∈ lw_tbl := fun w h => (goodIn_p wsL_law0_r10 [310, 314, 325, 332, 336] (by decide +kernel) (by decide +kernel) w h).1
set_option maxRecDepth 20000 in
theorem in_wsL_law0_r11 : ∀ w ∈ wsL_law0_r11, w ∈ lw_tbl := fun w h => (goodIn_p wsL_law0_r11 [339, 346, 351, 355, 359, 362] (by decide +kernel) (by decide +kernel) w h).1
set_option maxRecDepth 20000 in
theorem in_wsL_law0_r12 : ∀ w ∈ wsL_law0_r12, w ∈ lw_tbl := fun w h => (goodIn_p wsL_law0_r12 [367, 374, 380, 385] (by decide +kernel) (by decide +kernel) w h).1
end
section
theorem in_wsX00 : ∀ w ∈ wsX00, w ∈ lw_tbl := by decide +kernel
theorem wsL_law_in0 : ∀ w ∈ wsL_law0, w ∈ lw_tbl := List.forall_mem_append.mpr ⟨List.forall_mem_append.mpr ⟨List.forall_mem_append.mpr ⟨in_wsL_law0_r1, List.forall_mem_append.mpr ⟨in_wsL_law0_r2, List.forall_mem_append.mpr ⟨in_wsL_law0_r3, List.forall_mem_append.mpr ⟨in_wsL_law0_r4, List.forall_mem_append.mpr ⟨in_wsL_law0_r5, List.forall_mem_append.mpr ⟨in_wsL_law0_r6, List.forall_mem_append.mpr ⟨in_wsL_law0_r7, List.forall_mem_append.mpr ⟨in_wsL_law0_r8, List.forall_mem_append.mpr ⟨in_wsL_law0_r9, List.forall_mem_append.mpr ⟨in_wsL_law0_r10, List.forall_mem_append.mpr ⟨in_wsL_law0_r11, in_wsL_law0_r12⟩⟩⟩⟩⟩⟩⟩⟩⟩⟩⟩, in_wsX00⟩, fun _ h => absurd h List.not_mem_nil⟩
end
section
theorem wsL_law_x0 : ∀ w ∈ (vx_atS RX0 57 "java/lang/IllegalStateException" ["java/lang/RuntimeException", "java/lang/Exception"]).filter goodWord, w ∈ lw_tbl := by decide +kernel
theorem wsL_law_x1 : ∀ w ∈ (vx_atS RX0 141 "java/lang/IllegalArgumentException" ["java/lang/RuntimeException", "java/lang/Exception"]).filter goodWord, w ∈ lw_tbl := by decide +kernel
theorem wsL_law_x2 : ∀ w ∈ (vx_atS RX0 148 "java/lang/IndexOutOfBoundsException" ["java/lang/RuntimeException", "java/lang/Exception"]).filter goodWord, w ∈ lw_tbl := by decide +kernel
theorem wsL_law_in : ∀ w ∈ wsL_law, w ∈ lw_tbl := fun w h => (List.mem_append.mp h).elim (fun h => (List.mem_append.mp h).elim (fun h => (List.mem_append.mp h).elim (fun h => wsL_law_in0 w h) (fun h => wsL_law_x0 w h)) (fun h => wsL_law_x1 w h)) (fun h => wsL_law_x2 w h)
theorem inlX0 : ∀ w ∈ wsX00, w ∈ wsL_law := fun _ h => List.mem_append_left _ (List.mem_append_left _ (List.mem_append_left _ (List.mem_append_left _ (List.mem_append_right _ h))))
theorem inX0 : ∀ w ∈ wsX00, w ∈ lw_tbl := fun w h => wsL_law_in w (inlX0 w h)
theorem inX1 : ∀ w ∈ wsX10, w ∈ lw_tbl := by decide +kernel
theorem inJ6 : ∀ w ∈ wsJ60, w ∈ lw_tbl := by decide +kernel
theorem inJ9 : ∀ w ∈ wsJ90, w ∈ lw_tbl := by decide +kernel
theorem inJ0 : ∀ w ∈ wsJ00, w ∈ lw_tbl := by decide +kernel
theorem dX0_init_0 : decode cX0_init 0 = .ok (.aload_n 0, 1) := by decide +kernel
theorem dX0_init_1 : decode cX0_init 1 = .ok (.invokespecial 1, 3) := by decide +kernel
theorem dX0_init_4 : decode cX0_init 4 = .ok (.aload_n 0, 1) := by decide +kernel
theorem dX0_init_5 : decode cX0_init 5 = .ok (.bipush 16, 2) := by decide +kernel
theorem dX0_init_7 : decode cX0_init 7 = .ok (.newarray .int, 2) := by decide +kernel
theorem dX0_init_9 : decode cX0_init 9 = .ok (.putfield 9, 3) := by decide +kernel
theorem dX0_init_12 : decode cX0_init 12 = .ok (.aload_n 0, 1) := by decide +kernel
theorem dX0_init_13 : decode cX0_init 13 = .ok (.bipush 16, 2) := by decide +kernel
theorem dX0_init_15 : decode cX0_init 15 = .ok (.newarray .int, 2) := by decide +kernel
theorem dX0_init_17 : decode cX0_init 17 = .ok (.putfield 13, 3) := by decide +kernel
theorem dX0_init_20 : decode cX0_init 20 = .ok (.aload_n 0, 1) := by decide +kernel
theorem dX0_init_21 : decode cX0_init 21 = .ok (.iconst 0, 1) := by decide +kernel
theorem dX0_init_22 : decode cX0_init 22 = .ok (.putfield 16, 3) := by decide +kernel
theorem dX0_init_25 : decode cX0_init 25 = .ok (.aload_n 0, 1) := by decide +kernel
theorem dX0_init_26 : decode cX0_init 26 = .ok (.sipush 1447, 3) := by decide +kernel
theorem dX0_init_29 : decode cX0_init 29 = .ok (.putfield 20, 3) := by decide +kernel
theorem dX0_init_32 : decode cX0_init 32 = .ok (.aload_n 0, 1) := by decide +kernel
theorem dX0_init_33 : decode cX0_init 33 = .ok (.bipush 49, 2) := by decide +kernel
theorem dX0_init_35 : decode cX0_init 35 = .ok (.putfield 23, 3) := by decide +kernel
theorem dX0_init_38 : decode cX0_init 38 = .ok (.aload_n 0, 1) := by decide +kernel
theorem dX0_init_39 : decode cX0_init 39 = .ok (.iconst 0, 1) := by decide +kernel
theorem dX0_init_40 : decode cX0_init 40 = .ok (.putfield 26, 3) := by decide +kernel
theorem dX0_init_43 : decode cX0_init 43 = .ok (.aload_n 0, 1) := by decide +kernel
theorem dX0_init_44 : decode cX0_init 44 = .ok (.sipush 365, 3) := by decide +kernel
theorem dX0_init_47 : decode cX0_init 47 = .ok (.putfield 29, 3) := by decide +kernel
theorem dX0_init_50 : decode cX0_init 50 = .ok (.aload_n 0, 1) := by decide +kernel
theorem dX0_init_51 : decode cX0_init 51 = .ok (.bipush 8, 2) := by decide +kernel
theorem dX0_init_53 : decode cX0_init 53 = .ok (.putfield 32, 3) := by decide +kernel
theorem dX0_init_56 : decode cX0_init 56 = .ok (.aload_n 0, 1) := by decide +kernel
theorem dX0_init_57 : decode cX0_init 57 = .ok (.iconst 0, 1) := by decide +kernel
theorem dX0_init_58 : decode cX0_init 58 = .ok (.putfield 35, 3) := by decide +kernel
theorem dX0_init_61 : decode cX0_init 61 = .ok (.aload_n 0, 1) := by decide +kernel
theorem dX0_init_62 : decode cX0_init 62 = .ok (.bipush 33, 2) := by decide +kernel
theorem dX0_init_64 : decode cX0_init 64 = .ok (.putfield 38, 3) := by decide +kernel
theorem dX0_init_67 : decode cX0_init 67 = .ok (.return_, 1) := by decide +kernel
set_option maxRecDepth 20000 in
theorem ggX0_addMarket_X0_isWithin : GoodIn wsX0_addMarket wsX0_isWithin := goodIn_r _ [9] (by decide +kernel) (by decide +kernel)
set_option maxRecDepth 20000 in
theorem gX0_addMarket_X0_isWithin : GoodIn wsX0_addMarket (va_wsS RX0 41 yX0_isWithin wsX0_isWithin) := goodIn_app (goodIn_of _ (by decide +kernel)) ggX0_addMarket_X0_isWithin
set_option maxRecDepth 20000 in
theorem ggX0_addMarket_X0_checkArgument : GoodIn wsX0_addMarket wsX0_checkArgument := goodIn_ca (goodIn_r _ [12, 13, 14] (by decide +kernel) (by decide +kernel)) (goodIn_sub (fun _ h => List.mem_cons_of_mem _ (List.mem_append_right _ h)) (by decide +kernel))
set_option maxRecDepth 20000 in
theorem gX0_addMarket_X0_checkArgument : GoodIn wsX0_addMarket (va_wsS RX0 45 yX0_checkArgument wsX0_checkArgument) := goodIn_app (goodIn_of _ (by decide +kernel)) ggX0_addMarket_X0_checkArgument
set_option maxRecDepth 20000 in
theorem ggX0_addMarket_X0_isPlace : GoodIn wsX0_addMarket wsX0_isPlace := goodIn_r _ [18, 4, 5, 19, 20, 21, 22, 23, 24, 25, 26, 27, 28] (by decide +kernel) (by decide +kernel)
set_option maxRecDepth 20000 in
theorem gX0_addMarket_X0_isPlace : GoodIn wsX0_addMarket (wsV RX0 49 RX0 yX0_isPlace wsX0_isPlace) := goodIn_app (goodIn_of _ (by decide +kernel)) ggX0_addMarket_X0_isPlace
theorem dX0_addMarket_0 : decode cX0_addMarket 0 = .ok (.iload_n 1, 1) := by decide +kernel
theorem dX0_addMarket_1 : decode cX0_addMarket 1 = .ok (.iconst 1, 1) := by decide +kernel
theorem dX0_addMarket_2 : decode cX0_addMarket 2 = .ok (.bipush 60, 2) := by decide +kernel
theorem dX0_addMarket_4 : decode cX0_addMarket 4 = .ok (.invokestatic 41, 3) := by decide +kernel
theorem dX0_addMarket_7 : decode cX0_addMarket 7 = .ok (.ifCond .eq 18, 3) := by decide +kernel
theorem dX0_addMarket_10 : decode cX0_addMarket 10 = .ok (.iload_n 2, 1) := by decide +kernel
theorem dX0_addMarket_11 : decode cX0_addMarket 11 = .ok (.iconst 0, 1) := by decide +kernel
theorem dX0_addMarket_12 : decode cX0_addMarket 12 = .ok (.iload_n 1, 1) := by decide +kernel
theorem dX0_addMarket_13 : decode cX0_addMarket 13 = .ok (.iconst 1, 1) := by decide +kernel
theorem dX0_addMarket_14 : decode cX0_addMarket 14 = .ok (.isub, 1) := by decide +kernel
theorem dX0_addMarket_15 : decode cX0_addMarket 15 = .ok (.invokestatic 41, 3) := by decide +kernel
theorem dX0_addMarket_18 : decode cX0_addMarket 18 = .ok (.ifCond .eq 7, 3) := by decide +kernel
theorem dX0_addMarket_21 : decode cX0_addMarket 21 = .ok (.iconst 1, 1) := by decide +kernel
theorem dX0_addMarket_22 : decode cX0_addMarket 22 = .ok (.goto 4, 3) := by decide +kernel
theorem dX0_addMarket_25 : decode cX0_addMarket 25 = .ok (.iconst 0, 1) := by decide +kernel
theorem dX0_addMarket_26 : decode cX0_addMarket 26 = .ok (.invokestatic 45, 3) := by decide +kernel
theorem dX0_addMarket_29 : decode cX0_addMarket 29 = .ok (.aload_n 0, 1) := by decide +kernel
theorem dX0_addMarket_30 : decode cX0_addMarket 30 = .ok (.getfield 16, 3) := by decide +kernel
theorem dX0_addMarket_33 : decode cX0_addMarket 33 = .ok (.istore_n 3, 1) := by decide +kernel
theorem dX0_addMarket_34 : decode cX0_addMarket 34 = .ok (.aload_n 0, 1) := by decide +kernel
theorem dX0_addMarket_35 : decode cX0_addMarket 35 = .ok (.iload_n 3, 1) := by decide +kernel
theorem dX0_addMarket_36 : decode cX0_addMarket 36 = .ok (.invokevirtual 49, 3) := by decide +kernel
theorem dX0_addMarket_39 : decode cX0_addMarket 39 = .ok (.ifCond .ne 13, 3) := by decide +kernel
theorem dX0_addMarket_42 : decode cX0_addMarket 42 = .ok (.new 53, 3) := by decide +kernel
theorem dX0_addMarket_45 : decode cX0_addMarket 45 = .ok (.dup, 1) := by decide +kernel
theorem dX0_addMarket_46 : decode cX0_addMarket 46 = .ok (.ldc 55, 2) := by decide +kernel
theorem dX0_addMarket_48 : decode cX0_addMarket 48 = .ok (.invokespecial 57, 3) := by decide +kernel
theorem dX0_addMarket_51 : decode cX0_addMarket 51 = .ok (.athrow, 1) := by decide +kernel
theorem dX0_addMarket_52 : decode cX0_addMarket 52 = .ok (.aload_n 0, 1) := by decide +kernel
theorem dX0_addMarket_53 : decode cX0_addMarket 53 = .ok (.getfield 9, 3) := by decide +kernel
theorem dX0_addMarket_56 : decode cX0_addMarket 56 = .ok (.iload_n 3, 1) := by decide +kernel
theorem dX0_addMarket_57 : decode cX0_addMarket 57 = .ok (.iload_n 1, 1) := by decide +kernel
theorem dX0_addMarket_58 : decode cX0_addMarket 58 = .ok (.iastore, 1) := by decide +kernel
theorem dX0_addMarket_59 : decode cX0_addMarket 59 = .ok (.aload_n 0, 1) := by decide +kernel
theorem dX0_addMarket_60 : decode cX0_addMarket 60 = .ok (.getfield 13, 3) := by decide +kernel
theorem dX0_addMarket_63 : decode cX0_addMarket 63 = .ok (.iload_n 3, 1) := by decide +kernel
theorem dX0_addMarket_64 : decode cX0_addMarket 64 = .ok (.iload_n 2, 1) := by decide +kernel
theorem dX0_addMarket_65 : decode cX0_addMarket 65 = .ok (.iastore, 1) := by decide +kernel
theorem dX0_addMarket_66 : decode cX0_addMarket 66 = .ok (.aload_n 0, 1) := by decide +kernel
theorem dX0_addMarket_67 : decode cX0_addMarket 67 = .ok (.iload_n 3, 1) := by decide +kernel
theorem dX0_addMarket_68 : decode cX0_addMarket 68 = .ok (.iconst 1, 1) := by decide +kernel
theorem dX0_addMarket_69 : decode cX0_addMarket 69 = .ok (.iadd, 1) := by decide +kernel
theorem dX0_addMarket_70 : decode cX0_addMarket 70 = .ok (.putfield 16, 3) := by decide +kernel
theorem dX0_addMarket_73 : decode cX0_addMarket 73 = .ok (.iload_n 3, 1) := by decide +kernel
theorem dX0_addMarket_74 : decode cX0_addMarket 74 = .ok (.ireturn, 1) := by decide +kernel
set_option maxRecDepth 20000 in
theorem ggX0_shift_X0_checkMarket : GoodIn wsX0_shift wsX0_checkMarket := goodIn_ca (goodIn_r _ [6, 7, 8, 9, 10, 11, 5, 12, 38, 39, 40, 41, 42, 43, 44, 45, 46, 47] (by decide +kernel) (by decide +kernel)) (goodIn_sub (fun _ h => List.mem_cons_of_mem _ (List.mem_append_left _ (List.mem_append_right _ h))) (by decide +kernel))
set_option maxRecDepth 20000 in
theorem gX0_shift_X0_checkMarket : GoodIn wsX0_shift (wsV RX0 60 RX0 yX0_checkMarket wsX0_checkMarket) := goodIn_app (goodIn_of _ (by decide +kernel)) ggX0_shift_X0_checkMarket
set_option maxRecDepth 20000 in
theorem ggX0_shift_X0_isWithin : GoodIn wsX0_shift wsX0_isWithin := goodIn_r _ [12] (by decide +kernel) (by decide +kernel)
set_option maxRecDepth 20000 in
theorem gX0_shift_X0_isWithin : GoodIn wsX0_shift (va_wsS RX0 41 yX0_isWithin wsX0_isWithin) := goodIn_app (goodIn_of _ (by decide +kernel)) ggX0_shift_X0_isWithin
set_option maxRecDepth 20000 in
theorem ggX0_shift_X0_checkArgument : GoodIn wsX0_shift wsX0_checkArgument := goodIn_ca (goodIn_r _ [15, 16, 17] (by decide +kernel) (by decide +kernel)) (goodIn_sub (fun _ h => List.mem_cons_of_mem _ (List.mem_append_right _ h)) (by decide +kernel))
set_option maxRecDepth 20000 in
theorem gX0_shift_X0_checkArgument : GoodIn wsX0_shift (va_wsS RX0 45 yX0_checkArgument wsX0_checkArgument) := goodIn_app (goodIn_of _ (by decide +kernel)) ggX0_shift_X0_checkArgument
set_option maxRecDepth 20000 in
theorem ggX0_shift_X0_placeOf : GoodIn wsX0_shift wsX0_placeOf := goodIn_r _ [21, 1, 22, 23, 24, 5, 25, 26, 38, 39, 40, 41, 42, 43, 44, 45, 46, 47] (by decide +kernel) (by decide +kernel)
set_option maxRecDepth 20000 in
theorem gX0_shift_X0_placeOf : GoodIn wsX0_shift (wsV RX0 64 RX0 yX0_placeOf wsX0_placeOf) := goodIn_app (goodIn_of _ (by decide +kernel)) ggX0_shift_X0_placeOf
set_option maxRecDepth 20000 in
theorem ggX0_shift_X0_lengthOf : GoodIn wsX0_shift wsX0_lengthOf := goodIn_r _ [30, 26, 22, 23, 24, 5, 25, 1, 38, 39, 40, 41, 42, 43, 44, 45, 46, 47] (by decide +kernel) (by decide +kernel)
set_option maxRecDepth 20000 in
theorem gX0_shift_X0_lengthOf : GoodIn wsX0_shift (wsV RX0 68 RX0 yX0_lengthOf wsX0_lengthOf) := goodIn_app (goodIn_of _ (by decide +kernel)) ggX0_shift_X0_lengthOf
set_option maxRecDepth 20000 in
theorem ggX0_shift_X0_modulo : GoodIn wsX0_shift wsX0_modulo := goodIn_r _ [33, 34, 35, 36, 37] (by decide +kernel) (by decide +kernel)
set_option maxRecDepth 20000 in
theorem gX0_shift_X0_modulo : GoodIn wsX0_shift (va_wsS RX0 71 yX0_modulo wsX0_modulo) := goodIn_app (goodIn_of _ (by decide +kernel)) ggX0_shift_X0_modulo
set_option maxRecDepth 20000 in
theorem ggX0_shift_X0_isPlace : GoodIn wsX0_shift wsX0_isPlace := goodIn_r _ [25, 26, 1, 38, 39, 40, 41, 42, 43, 44, 45, 46, 47] (by decide +kernel) (by decide +kernel)
set_option maxRecDepth 20000 in
theorem gX0_shift_X0_isPlace : GoodIn wsX0_shift (wsV RX0 49 RX0 yX0_isPlace wsX0_isPlace) := goodIn_app (goodIn_of _ (by decide +kernel)) ggX0_shift_X0_isPlace
theorem dX0_shift_0 : decode cX0_shift 0 = .ok (.aload_n 0, 1) := by decide +kernel
theorem dX0_shift_1 : decode cX0_shift 1 = .ok (.iload_n 1, 1) := by decide +kernel
theorem dX0_shift_2 : decode cX0_shift 2 = .ok (.invokevirtual 60, 3) := by decide +kernel
theorem dX0_shift_5 : decode cX0_shift 5 = .ok (.iload_n 2, 1) := by decide +kernel
theorem dX0_shift_6 : decode cX0_shift 6 = .ok (.bipush (-60), 2) := by decide +kernel
theorem dX0_shift_8 : decode cX0_shift 8 = .ok (.bipush 60, 2) := by decide +kernel
theorem dX0_shift_10 : decode cX0_shift 10 = .ok (.invokestatic 41, 3) := by decide +kernel
theorem dX0_shift_13 : decode cX0_shift 13 = .ok (.invokestatic 45, 3) := by decide +kernel
theorem dX0_shift_16 : decode cX0_shift 16 = .ok (.aload_n 0, 1) := by decide +kernel
theorem dX0_shift_17 : decode cX0_shift 17 = .ok (.iload_n 1, 1) := by decide +kernel
theorem dX0_shift_18 : decode cX0_shift 18 = .ok (.invokevirtual 64, 3) := by decide +kernel
theorem dX0_shift_21 : decode cX0_shift 21 = .ok (.iload_n 2, 1) := by decide +kernel
theorem dX0_shift_22 : decode cX0_shift 22 = .ok (.iadd, 1) := by decide +kernel
theorem dX0_shift_23 : decode cX0_shift 23 = .ok (.i2l, 1) := by decide +kernel
theorem dX0_shift_24 : decode cX0_shift 24 = .ok (.aload_n 0, 1) := by decide +kernel
theorem dX0_shift_25 : decode cX0_shift 25 = .ok (.iload_n 1, 1) := by decide +kernel
theorem dX0_shift_26 : decode cX0_shift 26 = .ok (.invokevirtual 68, 3) := by decide +kernel
theorem dX0_shift_29 : decode cX0_shift 29 = .ok (.i2l, 1) := by decide +kernel
theorem dX0_shift_30 : decode cX0_shift 30 = .ok (.invokestatic 71, 3) := by decide +kernel
theorem dX0_shift_33 : decode cX0_shift 33 = .ok (.l2i, 1) := by decide +kernel
theorem dX0_shift_34 : decode cX0_shift 34 = .ok (.istore_n 3, 1) := by decide +kernel
theorem dX0_shift_35 : decode cX0_shift 35 = .ok (.aload_n 0, 1) := by decide +kernel
theorem dX0_shift_36 : decode cX0_shift 36 = .ok (.iload_n 1, 1) := by decide +kernel
theorem dX0_shift_37 : decode cX0_shift 37 = .ok (.invokevirtual 49, 3) := by decide +kernel
theorem dX0_shift_40 : decode cX0_shift 40 = .ok (.ifCond .eq 10, 3) := by decide +kernel
theorem dX0_shift_43 : decode cX0_shift 43 = .ok (.aload_n 0, 1) := by decide +kernel
theorem dX0_shift_44 : decode cX0_shift 44 = .ok (.getfield 13, 3) := by decide +kernel
theorem dX0_shift_47 : decode cX0_shift 47 = .ok (.iload_n 1, 1) := by decide +kernel
theorem dX0_shift_48 : decode cX0_shift 48 = .ok (.iload_n 3, 1) := by decide +kernel
theorem dX0_shift_49 : decode cX0_shift 49 = .ok (.iastore, 1) := by decide +kernel
theorem dX0_shift_50 : decode cX0_shift 50 = .ok (.iload_n 3, 1) := by decide +kernel
theorem dX0_shift_51 : decode cX0_shift 51 = .ok (.ireturn, 1) := by decide +kernel
set_option maxRecDepth 20000 in
theorem ggX0_setMoon_X0_isWithin : GoodIn wsX0_setMoon wsX0_isWithin := goodIn_r _ [7] (by decide +kernel) (by decide +kernel)
set_option maxRecDepth 20000 in
theorem gX0_setMoon_X0_isWithin : GoodIn wsX0_setMoon (va_wsS RX0 41 yX0_isWithin wsX0_isWithin) := goodIn_app (goodIn_of _ (by decide +kernel)) ggX0_setMoon_X0_isWithin
set_option maxRecDepth 20000 in
theorem ggX0_setMoon_X0_checkArgument : GoodIn wsX0_setMoon wsX0_checkArgument := goodIn_ca (goodIn_r _ [10, 11, 12] (by decide +kernel) (by decide +kernel)) (goodIn_sub (fun _ h => List.mem_cons_of_mem _ (List.mem_append_right _ h)) (by decide +kernel))
set_option maxRecDepth 20000 in
theorem gX0_setMoon_X0_checkArgument : GoodIn wsX0_setMoon (va_wsS RX0 45 yX0_checkArgument wsX0_checkArgument) := goodIn_app (goodIn_of _ (by decide +kernel)) ggX0_setMoon_X0_checkArgument
theorem dX0_setMoon_0 : decode cX0_setMoon 0 = .ok (.iload_n 2, 1) := by decide +kernel
theorem dX0_setMoon_1 : decode cX0_setMoon 1 = .ok (.iconst 1, 1) := by decide +kernel
theorem dX0_setMoon_2 : decode cX0_setMoon 2 = .ok (.bipush 100, 2) := by decide +kernel
theorem dX0_setMoon_4 : decode cX0_setMoon 4 = .ok (.invokestatic 41, 3) := by decide +kernel
theorem dX0_setMoon_7 : decode cX0_setMoon 7 = .ok (.ifCond .eq 21, 3) := by decide +kernel
theorem dX0_setMoon_10 : decode cX0_setMoon 10 = .ok (.iload_n 1, 1) := by decide +kernel
theorem dX0_setMoon_11 : decode cX0_setMoon 11 = .ok (.iconst 2, 1) := by decide +kernel
theorem dX0_setMoon_12 : decode cX0_setMoon 12 = .ok (.iload_n 2, 1) := by decide +kernel
theorem dX0_setMoon_13 : decode cX0_setMoon 13 = .ok (.imul, 1) := by decide +kernel
theorem dX0_setMoon_14 : decode cX0_setMoon 14 = .ok (.bipush 100, 2) := by decide +kernel
theorem dX0_setMoon_16 : decode cX0_setMoon 16 = .ok (.iload_n 2, 1) := by decide +kernel
theorem dX0_setMoon_17 : decode cX0_setMoon 17 = .ok (.imul, 1) := by decide +kernel
theorem dX0_setMoon_18 : decode cX0_setMoon 18 = .ok (.invokestatic 41, 3) := by decide +kernel
theorem dX0_setMoon_21 : decode cX0_setMoon 21 = .ok (.ifCond .eq 7, 3) := by decide +kernel
theorem dX0_setMoon_24 : decode cX0_setMoon 24 = .ok (.iconst 1, 1) := by decide +kernel
theorem dX0_setMoon_25 : decode cX0_setMoon 25 = .ok (.goto 4, 3) := by decide +kernel
theorem dX0_setMoon_28 : decode cX0_setMoon 28 = .ok (.iconst 0, 1) := by decide +kernel
theorem dX0_setMoon_29 : decode cX0_setMoon 29 = .ok (.invokestatic 45, 3) := by decide +kernel
theorem dX0_setMoon_32 : decode cX0_setMoon 32 = .ok (.iload_n 3, 1) := by decide +kernel
theorem dX0_setMoon_33 : decode cX0_setMoon 33 = .ok (.sipush (-1000), 3) := by decide +kernel
theorem dX0_setMoon_36 : decode cX0_setMoon 36 = .ok (.sipush 1000, 3) := by decide +kernel
theorem dX0_setMoon_39 : decode cX0_setMoon 39 = .ok (.invokestatic 41, 3) := by decide +kernel
theorem dX0_setMoon_42 : decode cX0_setMoon 42 = .ok (.invokestatic 45, 3) := by decide +kernel
theorem dX0_setMoon_45 : decode cX0_setMoon 45 = .ok (.aload_n 0, 1) := by decide +kernel
theorem dX0_setMoon_46 : decode cX0_setMoon 46 = .ok (.iload_n 1, 1) := by decide +kernel
theorem dX0_setMoon_47 : decode cX0_setMoon 47 = .ok (.putfield 20, 3) := by decide +kernel
theorem dX0_setMoon_50 : decode cX0_setMoon 50 = .ok (.aload_n 0, 1) := by decide +kernel
theorem dX0_setMoon_51 : decode cX0_setMoon 51 = .ok (.iload_n 2, 1) := by decide +kernel
theorem dX0_setMoon_52 : decode cX0_setMoon 52 = .ok (.putfield 23, 3) := by decide +kernel
theorem dX0_setMoon_55 : decode cX0_setMoon 55 = .ok (.aload_n 0, 1) := by decide +kernel
theorem dX0_setMoon_56 : decode cX0_setMoon 56 = .ok (.iload_n 3, 1) := by decide +kernel
theorem dX0_setMoon_57 : decode cX0_setMoon 57 = .ok (.putfield 26, 3) := by decide +kernel
theorem dX0_setMoon_60 : decode cX0_setMoon 60 = .ok (.return_, 1) := by decide +kernel
set_option maxRecDepth 20000 in
theorem ggX0_setYear_X0_isWithin : GoodIn wsX0_setYear wsX0_isWithin := goodIn_r _ [8] (by decide +kernel) (by decide +kernel)
set_option maxRecDepth 20000 in
theorem gX0_setYear_X0_isWithin : GoodIn wsX0_setYear (va_wsS RX0 41 yX0_isWithin wsX0_isWithin) := goodIn_app (goodIn_of _ (by decide +kernel)) ggX0_setYear_X0_isWithin
set_option maxRecDepth 20000 in
theorem ggX0_setYear_X0_checkArgument : GoodIn wsX0_setYear wsX0_checkArgument := goodIn_ca (goodIn_r _ [11, 12, 13] (by decide +kernel) (by decide +kernel)) (goodIn_sub (fun _ h => List.mem_cons_of_mem _ (List.mem_append_right _ h)) (by decide +kernel))
set_option maxRecDepth 20000 in
theorem gX0_setYear_X0_checkArgument : GoodIn wsX0_setYear (va_wsS RX0 45 yX0_checkArgument wsX0_checkArgument) := goodIn_app (goodIn_of _ (by decide +kernel)) ggX0_setYear_X0_checkArgument
theorem dX0_setYear_0 : decode cX0_setYear 0 = .ok (.iload_n 1, 1) := by decide +kernel
theorem dX0_setYear_1 : decode cX0_setYear 1 = .ok (.bipush 100, 2) := by decide +kernel
theorem dX0_setYear_3 : decode cX0_setYear 3 = .ok (.sipush 500, 3) := by decide +kernel
theorem dX0_setYear_6 : decode cX0_setYear 6 = .ok (.invokestatic 41, 3) := by decide +kernel
theorem dX0_setYear_9 : decode cX0_setYear 9 = .ok (.ifCond .eq 19, 3) := by decide +kernel
theorem dX0_setYear_12 : decode cX0_setYear 12 = .ok (.iload 4, 2) := by decide +kernel
theorem dX0_setYear_14 : decode cX0_setYear 14 = .ok (.iconst 1, 1) := by decide +kernel
theorem dX0_setYear_15 : decode cX0_setYear 15 = .ok (.sipush 400, 3) := by decide +kernel
theorem dX0_setYear_18 : decode cX0_setYear 18 = .ok (.invokestatic 41, 3) := by decide +kernel
theorem dX0_setYear_21 : decode cX0_setYear 21 = .ok (.ifCond .eq 7, 3) := by decide +kernel
theorem dX0_setYear_24 : decode cX0_setYear 24 = .ok (.iconst 1, 1) := by decide +kernel
theorem dX0_setYear_25 : decode cX0_setYear 25 = .ok (.goto 4, 3) := by decide +kernel
theorem dX0_setYear_28 : decode cX0_setYear 28 = .ok (.iconst 0, 1) := by decide +kernel
theorem dX0_setYear_29 : decode cX0_setYear 29 = .ok (.invokestatic 45, 3) := by decide +kernel
theorem dX0_setYear_32 : decode cX0_setYear 32 = .ok (.iload_n 2, 1) := by decide +kernel
theorem dX0_setYear_33 : decode cX0_setYear 33 = .ok (.iconst 0, 1) := by decide +kernel
theorem dX0_setYear_34 : decode cX0_setYear 34 = .ok (.iload 4, 2) := by decide +kernel
theorem dX0_setYear_36 : decode cX0_setYear 36 = .ok (.invokestatic 41, 3) := by decide +kernel
theorem dX0_setYear_39 : decode cX0_setYear 39 = .ok (.ifCond .eq 19, 3) := by decide +kernel
theorem dX0_setYear_42 : decode cX0_setYear 42 = .ok (.iload_n 3, 1) := by decide +kernel
theorem dX0_setYear_43 : decode cX0_setYear 43 = .ok (.iconst 0, 1) := by decide +kernel
theorem dX0_setYear_44 : decode cX0_setYear 44 = .ok (.iload 4, 2) := by decide +kernel
theorem dX0_setYear_46 : decode cX0_setYear 46 = .ok (.iconst 1, 1) := by decide +kernel
theorem dX0_setYear_47 : decode cX0_setYear 47 = .ok (.isub, 1) := by decide +kernel
theorem dX0_setYear_48 : decode cX0_setYear 48 = .ok (.invokestatic 41, 3) := by decide +kernel
theorem dX0_setYear_51 : decode cX0_setYear 51 = .ok (.ifCond .eq 7, 3) := by decide +kernel
theorem dX0_setYear_54 : decode cX0_setYear 54 = .ok (.iconst 1, 1) := by decide +kernel
theorem dX0_setYear_55 : decode cX0_setYear 55 = .ok (.goto 4, 3) := by decide +kernel
theorem dX0_setYear_58 : decode cX0_setYear 58 = .ok (.iconst 0, 1) := by decide +kernel
theorem dX0_setYear_59 : decode cX0_setYear 59 = .ok (.invokestatic 45, 3) := by decide +kernel
theorem dX0_setYear_62 : decode cX0_setYear 62 = .ok (.aload_n 0, 1) := by decide +kernel
theorem dX0_setYear_63 : decode cX0_setYear 63 = .ok (.iload_n 1, 1) := by decide +kernel
theorem dX0_setYear_64 : decode cX0_setYear 64 = .ok (.putfield 29, 3) := by decide +kernel
theorem dX0_setYear_67 : decode cX0_setYear 67 = .ok (.aload_n 0, 1) := by decide +kernel
theorem dX0_setYear_68 : decode cX0_setYear 68 = .ok (.iload_n 2, 1) := by decide +kernel
theorem dX0_setYear_69 : decode cX0_setYear 69 = .ok (.putfield 32, 3) := by decide +kernel
theorem dX0_setYear_72 : decode cX0_setYear 72 = .ok (.aload_n 0, 1) := by decide +kernel
theorem dX0_setYear_73 : decode cX0_setYear 73 = .ok (.iload_n 3, 1) := by decide +kernel
theorem dX0_setYear_74 : decode cX0_setYear 74 = .ok (.putfield 35, 3) := by decide +kernel
theorem dX0_setYear_77 : decode cX0_setYear 77 = .ok (.aload_n 0, 1) := by decide +kernel
theorem dX0_setYear_78 : decode cX0_setYear 78 = .ok (.iload 4, 2) := by decide +kernel
theorem dX0_setYear_80 : decode cX0_setYear 80 = .ok (.putfield 38, 3) := by decide +kernel
theorem dX0_setYear_83 : decode cX0_setYear 83 = .ok (.return_, 1) := by decide +kernel
theorem dX0_markets_0 : decode cX0_markets 0 = .ok (.aload_n 0, 1) := by decide +kernel
theorem dX0_markets_1 : decode cX0_markets 1 = .ok (.getfield 16, 3) := by decide +kernel
theorem dX0_markets_4 : decode cX0_markets 4 = .ok (.ireturn, 1) := by decide +kernel
set_option maxRecDepth 20000 in
theorem ggX0_isHeld_X0_checkMarket : GoodIn wsX0_isHeld wsX0_checkMarket := goodIn_ca (goodIn_r _ [5, 6, 7, 8, 9, 10, 4, 11, 47, 48, 49, 50, 51, 52, 53, 54, 55, 56] (by decide +kernel) (by decide +kernel)) (goodIn_sub (fun _ h => List.mem_cons_of_mem _ (List.mem_append_left _ (List.mem_append_right _ h))) (by decide +kernel))
set_option maxRecDepth 20000 in
theorem gX0_isHeld_X0_checkMarket : GoodIn wsX0_isHeld (wsV RX0 60 RX0 yX0_checkMarket wsX0_checkMarket) := goodIn_app (goodIn_of _ (by decide +kernel)) ggX0_isHeld_X0_checkMarket
set_option maxRecDepth 20000 in
theorem ggX0_isHeld_X0_checkDay : GoodIn wsX0_isHeld wsX0_checkDay := goodIn_ca (goodIn_r _ [14, 15, 16, 9, 10, 4, 11, 17, 18, 19, 20, 21] (by decide +kernel) (by decide +kernel)) (goodIn_sub (fun _ h => List.mem_cons_of_mem _ (List.mem_append_right _ h)) (by decide +kernel))
set_option maxRecDepth 20000 in
theorem gX0_isHeld_X0_checkDay : GoodIn wsX0_isHeld (va_wsS RX0 75 yX0_checkDay wsX0_checkDay) := goodIn_app (goodIn_of _ (by decide +kernel)) ggX0_isHeld_X0_checkDay
set_option maxRecDepth 20000 in
theorem ggX0_isHeld_X0_isOn : GoodIn wsX0_isHeld wsX0_isOn := goodIn_r _ [25, 26, 27, 28, 4, 29, 30, 31, 32, 33, 34, 35, 36, 37, 38, 39, 40, 41, 42, 43, 44, 45, 46, 47, 48, 49, 50, 51, 52, 53, 54, 55, 56] (by decide +kernel) (by decide +kernel)
set_option maxRecDepth 20000 in
theorem gX0_isHeld_X0_isOn : GoodIn wsX0_isHeld (wsV RX0 78 RX0 yX0_isOn wsX0_isOn) := goodIn_app (goodIn_of _ (by decide +kernel)) ggX0_isHeld_X0_isOn
theorem dX0_isHeld_0 : decode cX0_isHeld 0 = .ok (.aload_n 0, 1) := by decide +kernel
theorem dX0_isHeld_1 : decode cX0_isHeld 1 = .ok (.iload_n 1, 1) := by decide +kernel
theorem dX0_isHeld_2 : decode cX0_isHeld 2 = .ok (.invokevirtual 60, 3) := by decide +kernel
theorem dX0_isHeld_5 : decode cX0_isHeld 5 = .ok (.iload_n 2, 1) := by decide +kernel
theorem dX0_isHeld_6 : decode cX0_isHeld 6 = .ok (.invokestatic 75, 3) := by decide +kernel
theorem dX0_isHeld_9 : decode cX0_isHeld 9 = .ok (.aload_n 0, 1) := by decide +kernel
theorem dX0_isHeld_10 : decode cX0_isHeld 10 = .ok (.iload_n 1, 1) := by decide +kernel
theorem dX0_isHeld_11 : decode cX0_isHeld 11 = .ok (.iload_n 2, 1) := by decide +kernel
theorem dX0_isHeld_12 : decode cX0_isHeld 12 = .ok (.i2l, 1) := by decide +kernel
theorem dX0_isHeld_13 : decode cX0_isHeld 13 = .ok (.invokevirtual 78, 3) := by decide +kernel
theorem dX0_isHeld_16 : decode cX0_isHeld 16 = .ok (.ireturn, 1) := by decide +kernel
set_option maxRecDepth 20000 in
theorem ggX0_next_X0_checkMarket : GoodIn wsX0_next wsX0_checkMarket := goodIn_ca (goodIn_r _ [5, 6, 7, 8, 9, 10, 4, 11, 43, 44, 45, 46, 47, 48, 49, 50, 51, 52] (by decide +kernel) (by decide +kernel)) (goodIn_sub (fun _ h => List.mem_cons_of_mem _ (List.mem_append_left _ (List.mem_append_right _ h))) (by decide +kernel))
set_option maxRecDepth 20000 in
theorem gX0_next_X0_checkMarket : GoodIn wsX0_next (wsV RX0 60 RX0 yX0_checkMarket wsX0_checkMarket) := goodIn_app (goodIn_of _ (by decide +kernel)) ggX0_next_X0_checkMarket
set_option maxRecDepth 20000 in
theorem ggX0_next_X0_checkDay : GoodIn wsX0_next wsX0_checkDay := goodIn_ca (goodIn_r _ [14, 15, 16, 9, 10, 4, 11, 17, 18, 19, 20, 21] (by decide +kernel) (by decide +kernel)) (goodIn_sub (fun _ h => List.mem_cons_of_mem _ (List.mem_append_right _ h)) (by decide +kernel))
set_option maxRecDepth 20000 in
theorem gX0_next_X0_checkDay : GoodIn wsX0_next (va_wsS RX0 75 yX0_checkDay wsX0_checkDay) := goodIn_app (goodIn_of _ (by decide +kernel)) ggX0_next_X0_checkDay
set_option maxRecDepth 20000 in
theorem ggX0_next_X0_placeOf : GoodIn wsX0_next wsX0_placeOf := goodIn_r _ [25, 26, 27, 28, 29, 4, 30, 31, 43, 44, 45, 46, 47, 48, 49, 50, 51, 52] (by decide +kernel) (by decide +kernel)
set_option maxRecDepth 20000 in
theorem gX0_next_X0_placeOf : GoodIn wsX0_next (wsV RX0 64 RX0 yX0_placeOf wsX0_placeOf) := goodIn_app (goodIn_of _ (by decide +kernel)) ggX0_next_X0_placeOf
set_option maxRecDepth 20000 in
theorem ggX0_next_X0_lengthOf : GoodIn wsX0_next wsX0_lengthOf := goodIn_r _ [35, 31, 27, 28, 29, 4, 30, 26, 43, 44, 45, 46, 47, 48, 49, 50, 51, 52] (by decide +kernel) (by decide +kernel)
set_option maxRecDepth 20000 in
theorem gX0_next_X0_lengthOf : GoodIn wsX0_next (wsV RX0 68 RX0 yX0_lengthOf wsX0_lengthOf) := goodIn_app (goodIn_of _ (by decide +kernel)) ggX0_next_X0_lengthOf
set_option maxRecDepth 20000 in
theorem ggX0_next_X0_modulo : GoodIn wsX0_next wsX0_modulo := goodIn_r _ [38, 39, 40, 41, 42] (by decide +kernel) (by decide +kernel)
set_option maxRecDepth 20000 in
theorem gX0_next_X0_modulo : GoodIn wsX0_next (va_wsS RX0 71 yX0_modulo wsX0_modulo) := goodIn_app (goodIn_of _ (by decide +kernel)) ggX0_next_X0_modulo
theorem dX0_next_0 : decode cX0_next 0 = .ok (.aload_n 0, 1) := by decide +kernel
theorem dX0_next_1 : decode cX0_next 1 = .ok (.iload_n 1, 1) := by decide +kernel
theorem dX0_next_2 : decode cX0_next 2 = .ok (.invokevirtual 60, 3) := by decide +kernel
theorem dX0_next_5 : decode cX0_next 5 = .ok (.iload_n 2, 1) := by decide +kernel
theorem dX0_next_6 : decode cX0_next 6 = .ok (.invokestatic 75, 3) := by decide +kernel
theorem dX0_next_9 : decode cX0_next 9 = .ok (.iload_n 2, 1) := by decide +kernel
theorem dX0_next_10 : decode cX0_next 10 = .ok (.i2l, 1) := by decide +kernel
theorem dX0_next_11 : decode cX0_next 11 = .ok (.aload_n 0, 1) := by decide +kernel
theorem dX0_next_12 : decode cX0_next 12 = .ok (.iload_n 1, 1) := by decide +kernel
theorem dX0_next_13 : decode cX0_next 13 = .ok (.invokevirtual 64, 3) := by decide +kernel
theorem dX0_next_16 : decode cX0_next 16 = .ok (.iload_n 2, 1) := by decide +kernel
theorem dX0_next_17 : decode cX0_next 17 = .ok (.isub, 1) := by decide +kernel
theorem dX0_next_18 : decode cX0_next 18 = .ok (.i2l, 1) := by decide +kernel
theorem dX0_next_19 : decode cX0_next 19 = .ok (.aload_n 0, 1) := by decide +kernel
theorem dX0_next_20 : decode cX0_next 20 = .ok (.iload_n 1, 1) := by decide +kernel
theorem dX0_next_21 : decode cX0_next 21 = .ok (.invokevirtual 68, 3) := by decide +kernel
theorem dX0_next_24 : decode cX0_next 24 = .ok (.i2l, 1) := by decide +kernel
theorem dX0_next_25 : decode cX0_next 25 = .ok (.invokestatic 71, 3) := by decide +kernel
theorem dX0_next_28 : decode cX0_next 28 = .ok (.ladd, 1) := by decide +kernel
theorem dX0_next_29 : decode cX0_next 29 = .ok (.l2i, 1) := by decide +kernel
theorem dX0_next_30 : decode cX0_next 30 = .ok (.ireturn, 1) := by decide +kernel
set_option maxRecDepth 20000 in
theorem ggX0_nearest_X0_checkMarket : GoodIn wsX0_nearest wsX0_checkMarket := goodIn_ca (goodIn_r _ [5, 6, 7, 8, 9, 10, 4, 11, 43, 44, 45, 46, 47, 48, 49, 50, 51, 52] (by decide +kernel) (by decide +kernel)) (goodIn_sub (fun _ h => List.mem_cons_of_mem _ (List.mem_append_left _ (List.mem_append_right _ h))) (by decide +kernel))
set_option maxRecDepth 20000 in
theorem gX0_nearest_X0_checkMarket : GoodIn wsX0_nearest (wsV RX0 60 RX0 yX0_checkMarket wsX0_checkMarket) := goodIn_app (goodIn_of _ (by decide +kernel)) ggX0_nearest_X0_checkMarket
set_option maxRecDepth 20000 in
theorem ggX0_nearest_X0_checkDay : GoodIn wsX0_nearest wsX0_checkDay := goodIn_ca (goodIn_r _ [14, 15, 16, 9, 10, 4, 11, 17, 18, 19, 20, 21] (by decide +kernel) (by decide +kernel)) (goodIn_sub (fun _ h => List.mem_cons_of_mem _ (List.mem_append_right _ h)) (by decide +kernel))
set_option maxRecDepth 20000 in
theorem gX0_nearest_X0_checkDay : GoodIn wsX0_nearest (va_wsS RX0 75 yX0_checkDay wsX0_checkDay) := goodIn_app (goodIn_of _ (by decide +kernel)) ggX0_nearest_X0_checkDay
set_option maxRecDepth 20000 in
theorem ggX0_nearest_X0_lengthOf : GoodIn wsX0_nearest wsX0_lengthOf := goodIn_r _ [25, 26, 27, 28, 29, 4, 30, 31, 43, 44, 45, 46, 47, 48, 49, 50, 51, 52] (by decide +kernel) (by decide +kernel)
set_option maxRecDepth 20000 in
theorem gX0_nearest_X0_lengthOf : GoodIn wsX0_nearest (wsV RX0 68 RX0 yX0_lengthOf wsX0_lengthOf) := goodIn_app (goodIn_of _ (by decide +kernel)) ggX0_nearest_X0_lengthOf
set_option maxRecDepth 20000 in
theorem ggX0_nearest_X0_placeOf : GoodIn wsX0_nearest wsX0_placeOf := goodIn_r _ [35, 31, 27, 28, 29, 4, 30, 26, 43, 44, 45, 46, 47, 48, 49, 50, 51, 52] (by decide +kernel) (by decide +kernel)
set_option maxRecDepth 20000 in
theorem gX0_nearest_X0_placeOf : GoodIn wsX0_nearest (wsV RX0 64 RX0 yX0_placeOf wsX0_placeOf) := goodIn_app (goodIn_of _ (by decide +kernel)) ggX0_nearest_X0_placeOf
set_option maxRecDepth 20000 in
theorem ggX0_nearest_X0_modulo : GoodIn wsX0_nearest wsX0_modulo := goodIn_r _ [38, 39, 40, 41, 42] (by decide +kernel) (by decide +kernel)
set_option maxRecDepth 20000 in
theorem gX0_nearest_X0_modulo : GoodIn wsX0_nearest (va_wsS RX0 71 yX0_modulo wsX0_modulo) := goodIn_app (goodIn_of _ (by decide +kernel)) ggX0_nearest_X0_modulo
theorem dX0_nearest_0 : decode cX0_nearest 0 = .ok (.aload_n 0, 1) := by decide +kernel
theorem dX0_nearest_1 : decode cX0_nearest 1 = .ok (.iload_n 1, 1) := by decide +kernel
theorem dX0_nearest_2 : decode cX0_nearest 2 = .ok (.invokevirtual 60, 3) := by decide +kernel
theorem dX0_nearest_5 : decode cX0_nearest 5 = .ok (.iload_n 2, 1) := by decide +kernel
theorem dX0_nearest_6 : decode cX0_nearest 6 = .ok (.invokestatic 75, 3) := by decide +kernel
theorem dX0_nearest_9 : decode cX0_nearest 9 = .ok (.aload_n 0, 1) := by decide +kernel
theorem dX0_nearest_10 : decode cX0_nearest 10 = .ok (.iload_n 1, 1) := by decide +kernel
theorem dX0_nearest_11 : decode cX0_nearest 11 = .ok (.invokevirtual 68, 3) := by decide +kernel
theorem dX0_nearest_14 : decode cX0_nearest 14 = .ok (.istore_n 3, 1) := by decide +kernel
theorem dX0_nearest_15 : decode cX0_nearest 15 = .ok (.iload_n 2, 1) := by decide +kernel
theorem dX0_nearest_16 : decode cX0_nearest 16 = .ok (.aload_n 0, 1) := by decide +kernel
theorem dX0_nearest_17 : decode cX0_nearest 17 = .ok (.iload_n 1, 1) := by decide +kernel
theorem dX0_nearest_18 : decode cX0_nearest 18 = .ok (.invokevirtual 64, 3) := by decide +kernel
theorem dX0_nearest_21 : decode cX0_nearest 21 = .ok (.isub, 1) := by decide +kernel
theorem dX0_nearest_22 : decode cX0_nearest 22 = .ok (.i2l, 1) := by decide +kernel
theorem dX0_nearest_23 : decode cX0_nearest 23 = .ok (.iload_n 3, 1) := by decide +kernel
theorem dX0_nearest_24 : decode cX0_nearest 24 = .ok (.i2l, 1) := by decide +kernel
theorem dX0_nearest_25 : decode cX0_nearest 25 = .ok (.invokestatic 71, 3) := by decide +kernel
theorem dX0_nearest_28 : decode cX0_nearest 28 = .ok (.l2i, 1) := by decide +kernel
theorem dX0_nearest_29 : decode cX0_nearest 29 = .ok (.istore 4, 2) := by decide +kernel
theorem dX0_nearest_31 : decode cX0_nearest 31 = .ok (.iload_n 2, 1) := by decide +kernel
theorem dX0_nearest_32 : decode cX0_nearest 32 = .ok (.iload 4, 2) := by decide +kernel
theorem dX0_nearest_34 : decode cX0_nearest 34 = .ok (.isub, 1) := by decide +kernel
theorem dX0_nearest_35 : decode cX0_nearest 35 = .ok (.istore 5, 2) := by decide +kernel
theorem dX0_nearest_37 : decode cX0_nearest 37 = .ok (.iload 4, 2) := by decide +kernel
theorem dX0_nearest_39 : decode cX0_nearest 39 = .ok (.iload_n 3, 1) := by decide +kernel
theorem dX0_nearest_40 : decode cX0_nearest 40 = .ok (.iload 4, 2) := by decide +kernel
theorem dX0_nearest_42 : decode cX0_nearest 42 = .ok (.isub, 1) := by decide +kernel
theorem dX0_nearest_43 : decode cX0_nearest 43 = .ok (.if_icmp .gt 8, 3) := by decide +kernel
theorem dX0_nearest_46 : decode cX0_nearest 46 = .ok (.iload 5, 2) := by decide +kernel
theorem dX0_nearest_48 : decode cX0_nearest 48 = .ok (.goto 7, 3) := by decide +kernel
theorem dX0_nearest_51 : decode cX0_nearest 51 = .ok (.iload 5, 2) := by decide +kernel
theorem dX0_nearest_53 : decode cX0_nearest 53 = .ok (.iload_n 3, 1) := by decide +kernel
theorem dX0_nearest_54 : decode cX0_nearest 54 = .ok (.iadd, 1) := by decide +kernel
theorem dX0_nearest_55 : decode cX0_nearest 55 = .ok (.ireturn, 1) := by decide +kernel
set_option maxRecDepth 20000 in
theorem ggX0_times_X0_checkMarket : GoodIn wsX0_times wsX0_checkMarket := goodIn_ca (goodIn_r _ [5, 6, 7, 8, 9, 10, 4, 11, 47, 48, 49, 50, 51, 52, 53, 54, 55, 56] (by decide +kernel) (by decide +kernel)) (goodIn_sub (fun _ h => List.mem_cons_of_mem _ (List.mem_append_left _ (List.mem_append_right _ h))) (by decide +kernel))
set_option maxRecDepth 20000 in
theorem gX0_times_X0_checkMarket : GoodIn wsX0_times (wsV RX0 60 RX0 yX0_checkMarket wsX0_checkMarket) := goodIn_app (goodIn_of _ (by decide +kernel)) ggX0_times_X0_checkMarket
set_option maxRecDepth 20000 in
theorem ggX0_times_X0_checkDay : GoodIn wsX0_times wsX0_checkDay := goodIn_ca (goodIn_r _ [14, 15, 16, 9, 10, 4, 11, 17, 18, 19, 20, 21] (by decide +kernel) (by decide +kernel)) (goodIn_sub (fun _ h => List.mem_cons_of_mem _ (List.mem_append_right _ h)) (by decide +kernel))
set_option maxRecDepth 20000 in
theorem gX0_times_X0_checkDay : GoodIn wsX0_times (va_wsS RX0 75 yX0_checkDay wsX0_checkDay) := goodIn_app (goodIn_of _ (by decide +kernel)) ggX0_times_X0_checkDay
set_option maxRecDepth 20000 in
theorem ggX0_times_X0_checkArgument : GoodIn wsX0_times wsX0_checkArgument := goodIn_ca (goodIn_r _ [19, 20, 21] (by decide +kernel) (by decide +kernel)) (goodIn_sub (fun _ h => List.mem_cons_of_mem _ (List.mem_append_right _ h)) (by decide +kernel))
set_option maxRecDepth 20000 in
theorem gX0_times_X0_checkArgument : GoodIn wsX0_times (va_wsS RX0 45 yX0_checkArgument wsX0_checkArgument) := goodIn_app (goodIn_of _ (by decide +kernel)) ggX0_times_X0_checkArgument
set_option maxRecDepth 20000 in
theorem ggX0_times_X0_countHeld : GoodIn wsX0_times wsX0_countHeld := goodIn_r _ [25, 26, 27, 28, 4, 29, 30, 31, 32, 33, 34, 35, 36, 37, 38, 39, 40, 41, 42, 43, 44, 45, 46, 47, 48, 49, 50, 51, 52, 53, 54, 55, 56] (by decide +kernel) (by decide +kernel)
set_option maxRecDepth 20000 in
theorem gX0_times_X0_countHeld : GoodIn wsX0_times (wsV RX0 82 RX0 yX0_countHeld wsX0_countHeld) := goodIn_app (goodIn_of _ (by decide +kernel)) ggX0_times_X0_countHeld
theorem dX0_times_0 : decode cX0_times 0 = .ok (.aload_n 0, 1) := by decide +kernel
theorem dX0_times_1 : decode cX0_times 1 = .ok (.iload_n 1, 1) := by decide +kernel
theorem dX0_times_2 : decode cX0_times 2 = .ok (.invokevirtual 60, 3) := by decide +kernel
theorem dX0_times_5 : decode cX0_times 5 = .ok (.iload_n 2, 1) := by decide +kernel
theorem dX0_times_6 : decode cX0_times 6 = .ok (.invokestatic 75, 3) := by decide +kernel
theorem dX0_times_9 : decode cX0_times 9 = .ok (.iload_n 3, 1) := by decide +kernel
theorem dX0_times_10 : decode cX0_times 10 = .ok (.invokestatic 75, 3) := by decide +kernel
theorem dX0_times_13 : decode cX0_times 13 = .ok (.iload_n 3, 1) := by decide +kernel
theorem dX0_times_14 : decode cX0_times 14 = .ok (.iload_n 2, 1) := by decide +kernel
theorem dX0_times_15 : decode cX0_times 15 = .ok (.if_icmp .lt 7, 3) := by decide +kernel
theorem dX0_times_18 : decode cX0_times 18 = .ok (.iconst 1, 1) := by decide +kernel
theorem dX0_times_19 : decode cX0_times 19 = .ok (.goto 4, 3) := by decide +kernel
theorem dX0_times_22 : decode cX0_times 22 = .ok (.iconst 0, 1) := by decide +kernel
theorem dX0_times_23 : decode cX0_times 23 = .ok (.invokestatic 45, 3) := by decide +kernel
theorem dX0_times_26 : decode cX0_times 26 = .ok (.aload_n 0, 1) := by decide +kernel
theorem dX0_times_27 : decode cX0_times 27 = .ok (.iload_n 1, 1) := by decide +kernel
theorem dX0_times_28 : decode cX0_times 28 = .ok (.iload_n 2, 1) := by decide +kernel
theorem dX0_times_29 : decode cX0_times 29 = .ok (.iload_n 3, 1) := by decide +kernel
theorem dX0_times_30 : decode cX0_times 30 = .ok (.invokevirtual 82, 3) := by decide +kernel
theorem dX0_times_33 : decode cX0_times 33 = .ok (.ireturn, 1) := by decide +kernel
set_option maxRecDepth 20000 in
theorem ggX0_heldOn_X0_checkDay : GoodIn wsX0_heldOn wsX0_checkDay := goodIn_ca (goodIn_r _ [4, 5, 6, 7, 8, 3, 9, 10, 11, 12, 13, 14] (by decide +kernel) (by decide +kernel)) (goodIn_sub (fun _ h => List.mem_cons_of_mem _ (List.mem_append_right _ h)) (by decide +kernel))
set_option maxRecDepth 20000 in
theorem gX0_heldOn_X0_checkDay : GoodIn wsX0_heldOn (va_wsS RX0 75 yX0_checkDay wsX0_checkDay) := goodIn_app (goodIn_of _ (by decide +kernel)) ggX0_heldOn_X0_checkDay
set_option maxRecDepth 20000 in
theorem ggX0_heldOn_X0_setOn : GoodIn wsX0_heldOn wsX0_setOn := goodIn_r _ [18, 19, 20, 21, 22, 3, 23, 24, 25, 26, 27, 28, 29, 30, 31, 32, 33, 34, 35, 36, 37, 38, 39, 40, 41, 42, 43, 44, 45, 46, 47, 48, 49, 50, 51, 52, 53, 54] (by decide +kernel) (by decide +kernel)
set_option maxRecDepth 20000 in
theorem gX0_heldOn_X0_setOn : GoodIn wsX0_heldOn (wsV RX0 86 RX0 yX0_setOn wsX0_setOn) := goodIn_app (goodIn_of _ (by decide +kernel)) ggX0_heldOn_X0_setOn
theorem dX0_heldOn_0 : decode cX0_heldOn 0 = .ok (.iload_n 1, 1) := by decide +kernel
theorem dX0_heldOn_1 : decode cX0_heldOn 1 = .ok (.invokestatic 75, 3) := by decide +kernel
theorem dX0_heldOn_4 : decode cX0_heldOn 4 = .ok (.aload_n 0, 1) := by decide +kernel
theorem dX0_heldOn_5 : decode cX0_heldOn 5 = .ok (.iload_n 1, 1) := by decide +kernel
theorem dX0_heldOn_6 : decode cX0_heldOn 6 = .ok (.invokevirtual 86, 3) := by decide +kernel
theorem dX0_heldOn_9 : decode cX0_heldOn 9 = .ok (.ireturn, 1) := by decide +kernel
set_option maxRecDepth 20000 in
theorem ggX0_doMeet_X0_checkMeetingSet : GoodIn wsX0_doMeet wsX0_checkMeetingSet := goodIn_ca (goodIn_ca (goodIn_r _ [6, 7, 8, 9, 10, 11, 12, 13, 14, 15, 5, 16, 17, 18, 19, 20, 21, 22, 23, 24, 25, 26, 27, 28, 65, 66, 67, 68, 69, 70, 71, 72, 73, 74] (by decide +kernel) (by decide +kernel)) (goodIn_sub (fun _ h => List.mem_cons_of_mem _ (List.mem_append_left _ (List.mem_append_right _ h))) (by decide +kernel))) (goodIn_sub (fun _ h => List.mem_cons_of_mem _ (List.mem_append_right _ h)) (by decide +kernel))
set_option maxRecDepth 20000 in
theorem gX0_doMeet_X0_checkMeetingSet : GoodIn wsX0_doMeet (wsV RX0 89 RX0 yX0_checkMeetingSet wsX0_checkMeetingSet) := goodIn_app (goodIn_of _ (by decide +kernel)) ggX0_doMeet_X0_checkMeetingSet
set_option maxRecDepth 20000 in
theorem ggX0_doMeet_X0_firstMeeting : GoodIn wsX0_doMeet wsX0_firstMeeting := goodIn_r _ [32, 28, 1, 33, 34, 35, 5, 36, 37, 38, 39, 40, 41, 42, 43, 44, 45, 46, 47, 48, 49, 50, 51, 52, 53, 54, 55, 56, 57, 58, 59, 60, 61, 62, 63, 64, 65, 66, 67, 68, 69, 70, 71, 72, 73, 74] (by decide +kernel) (by decide +kernel)
set_option maxRecDepth 20000 in
theorem gX0_doMeet_X0_firstMeeting : GoodIn wsX0_doMeet (wsV RX0 92 RX0 yX0_firstMeeting wsX0_firstMeeting) := goodIn_app (goodIn_of _ (by decide +kernel)) ggX0_doMeet_X0_firstMeeting
theorem dX0_doMeet_0 : decode cX0_doMeet 0 = .ok (.aload_n 0, 1) := by decide +kernel
theorem dX0_doMeet_1 : decode cX0_doMeet 1 = .ok (.iload_n 1, 1) := by decide +kernel
theorem dX0_doMeet_2 : decode cX0_doMeet 2 = .ok (.invokevirtual 89, 3) := by decide +kernel
theorem dX0_doMeet_5 : decode cX0_doMeet 5 = .ok (.aload_n 0, 1) := by decide +kernel
theorem dX0_doMeet_6 : decode cX0_doMeet 6 = .ok (.iload_n 1, 1) := by decide +kernel
theorem dX0_doMeet_7 : decode cX0_doMeet 7 = .ok (.invokevirtual 92, 3) := by decide +kernel
theorem dX0_doMeet_10 : decode cX0_doMeet 10 = .ok (.ldc2_w 96, 3) := by decide +kernel
theorem dX0_doMeet_13 : decode cX0_doMeet 13 = .ok (.lcmp, 1) := by decide +kernel
theorem dX0_doMeet_14 : decode cX0_doMeet 14 = .ok (.ifCond .eq 7, 3) := by decide +kernel
theorem dX0_doMeet_17 : decode cX0_doMeet 17 = .ok (.iconst 1, 1) := by decide +kernel
theorem dX0_doMeet_18 : decode cX0_doMeet 18 = .ok (.goto 4, 3) := by decide +kernel
theorem dX0_doMeet_21 : decode cX0_doMeet 21 = .ok (.iconst 0, 1) := by decide +kernel
theorem dX0_doMeet_22 : decode cX0_doMeet 22 = .ok (.ireturn, 1) := by decide +kernel
set_option maxRecDepth 20000 in
theorem ggX0_period_X0_checkMeetingSet : GoodIn wsX0_period wsX0_checkMeetingSet := goodIn_ca (goodIn_ca (goodIn_r _ [5, 6, 7, 8, 9, 10, 11, 12, 13, 14, 4, 15, 16, 17, 18, 19, 20, 21, 22, 23, 24, 25, 26, 27, 74, 75, 76, 77, 78, 79, 80, 81, 82, 83] (by decide +kernel) (by decide +kernel)) (goodIn_sub (fun _ h => List.mem_cons_of_mem _ (List.mem_append_left _ (List.mem_append_left _ (List.mem_append_right _ h)))) (by decide +kernel))) (goodIn_sub (fun _ h => List.mem_cons_of_mem _ (List.mem_append_left _ (List.mem_append_right _ h))) (by decide +kernel))
set_option maxRecDepth 20000 in
theorem gX0_period_X0_checkMeetingSet : GoodIn wsX0_period (wsV RX0 89 RX0 yX0_checkMeetingSet wsX0_checkMeetingSet) := goodIn_app (goodIn_of _ (by decide +kernel)) ggX0_period_X0_checkMeetingSet
set_option maxRecDepth 20000 in
theorem ggX0_period_X0_firstMeeting : GoodIn wsX0_period wsX0_firstMeeting := goodIn_r _ [31, 27, 32, 33, 34, 35, 4, 36, 37, 38, 39, 40, 41, 42, 43, 44, 45, 46, 47, 48, 49, 50, 51, 52, 53, 54, 55, 56, 57, 58, 59, 60, 61, 62, 63, 64, 74, 75, 76, 77, 78, 79, 80, 81, 82, 83] (by decide +kernel) (by decide +kernel)
set_option maxRecDepth 20000 in
theorem gX0_period_X0_firstMeeting : GoodIn wsX0_period (wsV RX0 92 RX0 yX0_firstMeeting wsX0_firstMeeting) := goodIn_app (goodIn_of _ (by decide +kernel)) ggX0_period_X0_firstMeeting
set_option maxRecDepth 20000 in
theorem ggX0_period_X0_checkTheyMeet : GoodIn wsX0_period wsX0_checkTheyMeet := goodIn_ca (goodIn_r _ [67, 68, 69, 32] (by decide +kernel) (by decide +kernel)) (goodIn_sub (fun _ h => List.mem_cons_of_mem _ (List.mem_append_right _ h)) (by decide +kernel))
set_option maxRecDepth 20000 in
theorem gX0_period_X0_checkTheyMeet : GoodIn wsX0_period (va_wsS RX0 98 yX0_checkTheyMeet wsX0_checkTheyMeet) := goodIn_app (goodIn_of _ (by decide +kernel)) ggX0_period_X0_checkTheyMeet
set_option maxRecDepth 20000 in
theorem ggX0_period_X0_commonLength : GoodIn wsX0_period wsX0_commonLength := goodIn_r _ [73, 27, 37, 38, 39, 4, 40, 41, 42, 43, 44, 45, 46, 62, 63, 64, 51, 52, 53, 54, 55, 56, 57, 74, 75, 76, 77, 78, 79, 80, 81, 82, 83] (by decide +kernel) (by decide +kernel)
set_option maxRecDepth 20000 in
theorem gX0_period_X0_commonLength : GoodIn wsX0_period (wsV RX0 102 RX0 yX0_commonLength wsX0_commonLength) := goodIn_app (goodIn_of _ (by decide +kernel)) ggX0_period_X0_commonLength
theorem dX0_period_0 : decode cX0_period 0 = .ok (.aload_n 0, 1) := by decide +kernel
theorem dX0_period_1 : decode cX0_period 1 = .ok (.iload_n 1, 1) := by decide +kernel
theorem dX0_period_2 : decode cX0_period 2 = .ok (.invokevirtual 89, 3) := by decide +kernel
theorem dX0_period_5 : decode cX0_period 5 = .ok (.aload_n 0, 1) := by decide +kernel
theorem dX0_period_6 : decode cX0_period 6 = .ok (.iload_n 1, 1) := by decide +kernel
theorem dX0_period_7 : decode cX0_period 7 = .ok (.invokevirtual 92, 3) := by decide +kernel
theorem dX0_period_10 : decode cX0_period 10 = .ok (.invokestatic 98, 3) := by decide +kernel
theorem dX0_period_13 : decode cX0_period 13 = .ok (.aload_n 0, 1) := by decide +kernel
theorem dX0_period_14 : decode cX0_period 14 = .ok (.iload_n 1, 1) := by decide +kernel
theorem dX0_period_15 : decode cX0_period 15 = .ok (.invokevirtual 102, 3) := by decide +kernel
theorem dX0_period_18 : decode cX0_period 18 = .ok (.l2i, 1) := by decide +kernel
theorem dX0_period_19 : decode cX0_period 19 = .ok (.ireturn, 1) := by decide +kernel
set_option maxRecDepth 20000 in
theorem ggX0_meeting_X0_checkDay : GoodIn wsX0_meeting wsX0_checkDay := goodIn_ca (goodIn_r _ [4, 5, 6, 7, 8, 3, 9, 10, 11, 12, 13, 14] (by decide +kernel) (by decide +kernel)) (goodIn_sub (fun _ h => List.mem_cons_of_mem _ (List.mem_append_left _ (List.mem_append_left _ (List.mem_append_right _ h)))) (by decide +kernel))
set_option maxRecDepth 20000 in
theorem gX0_meeting_X0_checkDay : GoodIn wsX0_meeting (va_wsS RX0 75 yX0_checkDay wsX0_checkDay) := goodIn_app (goodIn_of _ (by decide +kernel)) ggX0_meeting_X0_checkDay
set_option maxRecDepth 20000 in
theorem ggX0_meeting_X0_checkMeetingSet : GoodIn wsX0_meeting wsX0_checkMeetingSet := goodIn_ca (goodIn_ca (goodIn_r _ [18, 19, 20, 21, 22, 23, 24, 25, 7, 8, 3, 9, 10, 11, 12, 13, 14, 26, 27, 28, 29, 30, 31, 32, 79, 80, 81, 82, 83, 84, 85, 86, 87, 88] (by decide +kernel) (by decide +kernel)) (goodIn_sub (fun _ h => List.mem_cons_of_mem _ (List.mem_append_left _ (List.mem_append_left _ (List.mem_append_right _ h)))) (by decide +kernel))) (goodIn_sub (fun _ h => List.mem_cons_of_mem _ (List.mem_append_left _ (List.mem_append_right _ h))) (by decide +kernel))
set_option maxRecDepth 20000 in
theorem gX0_meeting_X0_checkMeetingSet : GoodIn wsX0_meeting (wsV RX0 89 RX0 yX0_checkMeetingSet wsX0_checkMeetingSet) := goodIn_app (goodIn_of _ (by decide +kernel)) ggX0_meeting_X0_checkMeetingSet
set_option maxRecDepth 20000 in
theorem ggX0_meeting_X0_firstMeeting : GoodIn wsX0_meeting wsX0_firstMeeting := goodIn_r _ [36, 32, 37, 38, 39, 40, 3, 41, 42, 43, 44, 45, 46, 47, 48, 49, 50, 51, 52, 53, 54, 55, 56, 57, 58, 59, 60, 61, 62, 63, 64, 65, 66, 67, 68, 69, 79, 80, 81, 82, 83, 84, 85, 86, 87, 88] (by decide +kernel) (by decide +kernel)
set_option maxRecDepth 20000 in
theorem gX0_meeting_X0_firstMeeting : GoodIn wsX0_meeting (wsV RX0 92 RX0 yX0_firstMeeting wsX0_firstMeeting) := goodIn_app (goodIn_of _ (by decide +kernel)) ggX0_meeting_X0_firstMeeting
set_option maxRecDepth 20000 in
theorem ggX0_meeting_X0_checkTheyMeet : GoodIn wsX0_meeting wsX0_checkTheyMeet := goodIn_ca (goodIn_r _ [72, 73, 74, 37] (by decide +kernel) (by decide +kernel)) (goodIn_sub (fun _ h => List.mem_cons_of_mem _ (List.mem_append_right _ h)) (by decide +kernel))
set_option maxRecDepth 20000 in
theorem gX0_meeting_X0_checkTheyMeet : GoodIn wsX0_meeting (va_wsS RX0 98 yX0_checkTheyMeet wsX0_checkTheyMeet) := goodIn_app (goodIn_of _ (by decide +kernel)) ggX0_meeting_X0_checkTheyMeet
set_option maxRecDepth 20000 in
theorem ggX0_meeting_X0_commonLength : GoodIn wsX0_meeting wsX0_commonLength := goodIn_r _ [78, 32, 42, 43, 44, 3, 45, 46, 47, 48, 49, 50, 51, 67, 68, 69, 56, 57, 58, 59, 60, 61, 62, 79, 80, 81, 82, 83, 84, 85, 86, 87, 88] (by decide +kernel) (by decide +kernel)
set_option maxRecDepth 20000 in
theorem gX0_meeting_X0_commonLength : GoodIn wsX0_meeting (wsV RX0 102 RX0 yX0_commonLength wsX0_commonLength) := goodIn_app (goodIn_of _ (by decide +kernel)) ggX0_meeting_X0_commonLength
set_option maxRecDepth 20000 in
theorem ggX0_meeting_X0_modulo : GoodIn wsX0_meeting wsX0_modulo := goodIn_r _ [58, 59, 60, 61, 62] (by decide +kernel) (by decide +kernel)
set_option maxRecDepth 20000 in
theorem gX0_meeting_X0_modulo : GoodIn wsX0_meeting (va_wsS RX0 71 yX0_modulo wsX0_modulo) := goodIn_app (goodIn_of _ (by decide +kernel)) ggX0_meeting_X0_modulo
theorem dX0_meeting_0 : decode cX0_meeting 0 = .ok (.iload_n 2, 1) := by decide +kernel
theorem dX0_meeting_1 : decode cX0_meeting 1 = .ok (.invokestatic 75, 3) := by decide +kernel
theorem dX0_meeting_4 : decode cX0_meeting 4 = .ok (.aload_n 0, 1) := by decide +kernel
theorem dX0_meeting_5 : decode cX0_meeting 5 = .ok (.iload_n 1, 1) := by decide +kernel
theorem dX0_meeting_6 : decode cX0_meeting 6 = .ok (.invokevirtual 89, 3) := by decide +kernel
theorem dX0_meeting_9 : decode cX0_meeting 9 = .ok (.aload_n 0, 1) := by decide +kernel
theorem dX0_meeting_10 : decode cX0_meeting 10 = .ok (.iload_n 1, 1) := by decide +kernel
theorem dX0_meeting_11 : decode cX0_meeting 11 = .ok (.invokevirtual 92, 3) := by decide +kernel
theorem dX0_meeting_14 : decode cX0_meeting 14 = .ok (.lstore_n 3, 1) := by decide +kernel
theorem dX0_meeting_15 : decode cX0_meeting 15 = .ok (.lload_n 3, 1) := by decide +kernel
theorem dX0_meeting_16 : decode cX0_meeting 16 = .ok (.invokestatic 98, 3) := by decide +kernel
theorem dX0_meeting_19 : decode cX0_meeting 19 = .ok (.iload_n 2, 1) := by decide +kernel
theorem dX0_meeting_20 : decode cX0_meeting 20 = .ok (.i2l, 1) := by decide +kernel
theorem dX0_meeting_21 : decode cX0_meeting 21 = .ok (.lload_n 3, 1) := by decide +kernel
theorem dX0_meeting_22 : decode cX0_meeting 22 = .ok (.iload_n 2, 1) := by decide +kernel
theorem dX0_meeting_23 : decode cX0_meeting 23 = .ok (.i2l, 1) := by decide +kernel
theorem dX0_meeting_24 : decode cX0_meeting 24 = .ok (.lsub, 1) := by decide +kernel
theorem dX0_meeting_25 : decode cX0_meeting 25 = .ok (.aload_n 0, 1) := by decide +kernel
theorem dX0_meeting_26 : decode cX0_meeting 26 = .ok (.iload_n 1, 1) := by decide +kernel
theorem dX0_meeting_27 : decode cX0_meeting 27 = .ok (.invokevirtual 102, 3) := by decide +kernel
theorem dX0_meeting_30 : decode cX0_meeting 30 = .ok (.invokestatic 71, 3) := by decide +kernel
theorem dX0_meeting_33 : decode cX0_meeting 33 = .ok (.ladd, 1) := by decide +kernel
theorem dX0_meeting_34 : decode cX0_meeting 34 = .ok (.l2i, 1) := by decide +kernel
theorem dX0_meeting_35 : decode cX0_meeting 35 = .ok (.ireturn, 1) := by decide +kernel
set_option maxRecDepth 20000 in
theorem ggX0_lunarMeeting_X0_checkDay : GoodIn wsX0_lunarMeeting wsX0_checkDay := goodIn_ca (goodIn_r _ [5, 6, 7, 8, 9, 4, 10, 11, 12, 13, 14, 15] (by decide +kernel) (by decide +kernel)) (goodIn_sub (fun _ h => List.mem_cons_of_mem _ (List.mem_append_left _ (List.mem_append_left _ (List.mem_append_right _ h)))) (by decide +kernel))
set_option maxRecDepth 20000 in
theorem gX0_lunarMeeting_X0_checkDay : GoodIn wsX0_lunarMeeting (va_wsS RX0 75 yX0_checkDay wsX0_checkDay) := goodIn_app (goodIn_of _ (by decide +kernel)) ggX0_lunarMeeting_X0_checkDay
set_option maxRecDepth 20000 in
theorem ggX0_lunarMeeting_X0_isWithin : GoodIn wsX0_lunarMeeting wsX0_isWithin := goodIn_r _ [10] (by decide +kernel) (by decide +kernel)
set_option maxRecDepth 20000 in
theorem gX0_lunarMeeting_X0_isWithin : GoodIn wsX0_lunarMeeting (va_wsS RX0 41 yX0_isWithin wsX0_isWithin) := goodIn_app (goodIn_of _ (by decide +kernel)) ggX0_lunarMeeting_X0_isWithin
set_option maxRecDepth 20000 in
theorem ggX0_lunarMeeting_X0_checkArgument : GoodIn wsX0_lunarMeeting wsX0_checkArgument := goodIn_ca (goodIn_r _ [13, 14, 15] (by decide +kernel) (by decide +kernel)) (goodIn_sub (fun _ h => List.mem_cons_of_mem _ (List.mem_append_left _ (List.mem_append_left _ (List.mem_append_right _ h)))) (by decide +kernel))
set_option maxRecDepth 20000 in
theorem gX0_lunarMeeting_X0_checkArgument : GoodIn wsX0_lunarMeeting (va_wsS RX0 45 yX0_checkArgument wsX0_checkArgument) := goodIn_app (goodIn_of _ (by decide +kernel)) ggX0_lunarMeeting_X0_checkArgument
set_option maxRecDepth 20000 in
theorem ggX0_lunarMeeting_X0_checkMeetingSet : GoodIn wsX0_lunarMeeting wsX0_checkMeetingSet := goodIn_ca (goodIn_ca (goodIn_r _ [19, 20, 21, 22, 23, 24, 25, 26, 8, 9, 4, 10, 11, 12, 13, 14, 15, 27, 28, 29, 30, 31, 32, 33, 96, 97, 98, 99, 100, 101, 102, 103, 104, 105] (by decide +kernel) (by decide +kernel)) (goodIn_sub (fun _ h => List.mem_cons_of_mem _ (List.mem_append_left _ (List.mem_append_left _ (List.mem_append_right _ h)))) (by decide +kernel))) (goodIn_sub (fun _ h => List.mem_cons_of_mem _ (List.mem_append_left _ (List.mem_append_right _ h))) (by decide +kernel))
set_option maxRecDepth 20000 in
theorem gX0_lunarMeeting_X0_checkMeetingSet : GoodIn wsX0_lunarMeeting (wsV RX0 89 RX0 yX0_checkMeetingSet wsX0_checkMeetingSet) := goodIn_app (goodIn_of _ (by decide +kernel)) ggX0_lunarMeeting_X0_checkMeetingSet
set_option maxRecDepth 20000 in
theorem ggX0_lunarMeeting_X0_firstMeeting : GoodIn wsX0_lunarMeeting wsX0_firstMeeting := goodIn_r _ [37, 33, 1, 38, 39, 40, 4, 41, 42, 43, 44, 45, 46, 47, 48, 49, 50, 51, 52, 53, 54, 55, 56, 57, 58, 59, 60, 61, 62, 63, 64, 65, 66, 67, 68, 69, 96, 97, 98, 99, 100, 101, 102, 103, 104, 105] (by decide +kernel) (by decide +kernel)
set_option maxRecDepth 20000 in
theorem gX0_lunarMeeting_X0_firstMeeting : GoodIn wsX0_lunarMeeting (wsV RX0 92 RX0 yX0_firstMeeting wsX0_firstMeeting) := goodIn_app (goodIn_of _ (by decide +kernel)) ggX0_lunarMeeting_X0_firstMeeting
set_option maxRecDepth 20000 in
theorem ggX0_lunarMeeting_X0_checkTheyMeet : GoodIn wsX0_lunarMeeting wsX0_checkTheyMeet := goodIn_ca (goodIn_r _ [72, 73, 74, 1] (by decide +kernel) (by decide +kernel)) (goodIn_sub (fun _ h => List.mem_cons_of_mem _ (List.mem_append_right _ h)) (by decide +kernel))
set_option maxRecDepth 20000 in
theorem gX0_lunarMeeting_X0_checkTheyMeet : GoodIn wsX0_lunarMeeting (va_wsS RX0 98 yX0_checkTheyMeet wsX0_checkTheyMeet) := goodIn_app (goodIn_of _ (by decide +kernel)) ggX0_lunarMeeting_X0_checkTheyMeet
set_option maxRecDepth 20000 in
theorem ggX0_lunarMeeting_X0_commonLength : GoodIn wsX0_lunarMeeting wsX0_commonLength := goodIn_r _ [78, 33, 42, 43, 44, 4, 45, 46, 47, 48, 49, 50, 51, 67, 68, 69, 56, 57, 58, 59, 60, 61, 62, 96, 97, 98, 99, 100, 101, 102, 103, 104, 105] (by decide +kernel) (by decide +kernel)
set_option maxRecDepth 20000 in
theorem gX0_lunarMeeting_X0_commonLength : GoodIn wsX0_lunarMeeting (wsV RX0 102 RX0 yX0_commonLength wsX0_commonLength) := goodIn_app (goodIn_of _ (by decide +kernel)) ggX0_lunarMeeting_X0_commonLength
set_option maxRecDepth 20000 in
theorem ggX0_lunarMeeting_X0_modulo : GoodIn wsX0_lunarMeeting wsX0_modulo := goodIn_r _ [58, 59, 60, 61, 62] (by decide +kernel) (by decide +kernel)
set_option maxRecDepth 20000 in
theorem gX0_lunarMeeting_X0_modulo : GoodIn wsX0_lunarMeeting (va_wsS RX0 71 yX0_modulo wsX0_modulo) := goodIn_app (goodIn_of _ (by decide +kernel)) ggX0_lunarMeeting_X0_modulo
set_option maxRecDepth 20000 in
theorem ggX0_lunarMeeting_X0_lunarDayOf : GoodIn wsX0_lunarMeeting wsX0_lunarDayOf := goodIn_r _ [82, 83, 84, 85, 86, 87, 4, 88, 89, 56, 57, 58, 59, 60, 61, 62, 90, 91, 92, 93, 94, 95, 96, 97, 98, 99, 100, 101, 102, 103, 104, 105] (by decide +kernel) (by decide +kernel)
set_option maxRecDepth 20000 in
theorem gX0_lunarMeeting_X0_lunarDayOf : GoodIn wsX0_lunarMeeting (wsV RX0 105 RX0 yX0_lunarDayOf wsX0_lunarDayOf) := goodIn_app (goodIn_of _ (by decide +kernel)) ggX0_lunarMeeting_X0_lunarDayOf
theorem dX0_lunarMeeting_0 : decode cX0_lunarMeeting 0 = .ok (.iload_n 2, 1) := by decide +kernel
theorem dX0_lunarMeeting_1 : decode cX0_lunarMeeting 1 = .ok (.invokestatic 75, 3) := by decide +kernel
theorem dX0_lunarMeeting_4 : decode cX0_lunarMeeting 4 = .ok (.iload_n 3, 1) := by decide +kernel
theorem dX0_lunarMeeting_5 : decode cX0_lunarMeeting 5 = .ok (.iconst 0, 1) := by decide +kernel
theorem dX0_lunarMeeting_6 : decode cX0_lunarMeeting 6 = .ok (.bipush 99, 2) := by decide +kernel
theorem dX0_lunarMeeting_8 : decode cX0_lunarMeeting 8 = .ok (.invokestatic 41, 3) := by decide +kernel
theorem dX0_lunarMeeting_11 : decode cX0_lunarMeeting 11 = .ok (.ifCond .eq 19, 3) := by decide +kernel
theorem dX0_lunarMeeting_14 : decode cX0_lunarMeeting 14 = .ok (.iload 4, 2) := by decide +kernel
theorem dX0_lunarMeeting_16 : decode cX0_lunarMeeting 16 = .ok (.iconst 1, 1) := by decide +kernel
theorem dX0_lunarMeeting_17 : decode cX0_lunarMeeting 17 = .ok (.sipush 1000, 3) := by decide +kernel
theorem dX0_lunarMeeting_20 : decode cX0_lunarMeeting 20 = .ok (.invokestatic 41, 3) := by decide +kernel
theorem dX0_lunarMeeting_23 : decode cX0_lunarMeeting 23 = .ok (.ifCond .eq 7, 3) := by decide +kernel
theorem dX0_lunarMeeting_26 : decode cX0_lunarMeeting 26 = .ok (.iconst 1, 1) := by decide +kernel
theorem dX0_lunarMeeting_27 : decode cX0_lunarMeeting 27 = .ok (.goto 4, 3) := by decide +kernel
theorem dX0_lunarMeeting_30 : decode cX0_lunarMeeting 30 = .ok (.iconst 0, 1) := by decide +kernel
theorem dX0_lunarMeeting_31 : decode cX0_lunarMeeting 31 = .ok (.invokestatic 45, 3) := by decide +kernel
theorem dX0_lunarMeeting_34 : decode cX0_lunarMeeting 34 = .ok (.aload_n 0, 1) := by decide +kernel
theorem dX0_lunarMeeting_35 : decode cX0_lunarMeeting 35 = .ok (.iload_n 1, 1) := by decide +kernel
theorem dX0_lunarMeeting_36 : decode cX0_lunarMeeting 36 = .ok (.invokevirtual 89, 3) := by decide +kernel
theorem dX0_lunarMeeting_39 : decode cX0_lunarMeeting 39 = .ok (.aload_n 0, 1) := by decide +kernel
theorem dX0_lunarMeeting_40 : decode cX0_lunarMeeting 40 = .ok (.iload_n 1, 1) := by decide +kernel
theorem dX0_lunarMeeting_41 : decode cX0_lunarMeeting 41 = .ok (.invokevirtual 92, 3) := by decide +kernel
theorem dX0_lunarMeeting_44 : decode cX0_lunarMeeting 44 = .ok (.lstore 5, 2) := by decide +kernel
theorem dX0_lunarMeeting_46 : decode cX0_lunarMeeting 46 = .ok (.lload 5, 2) := by decide +kernel
theorem dX0_lunarMeeting_48 : decode cX0_lunarMeeting 48 = .ok (.invokestatic 98, 3) := by decide +kernel
theorem dX0_lunarMeeting_51 : decode cX0_lunarMeeting 51 = .ok (.aload_n 0, 1) := by decide +kernel
theorem dX0_lunarMeeting_52 : decode cX0_lunarMeeting 52 = .ok (.iload_n 1, 1) := by decide +kernel
theorem dX0_lunarMeeting_53 : decode cX0_lunarMeeting 53 = .ok (.invokevirtual 102, 3) := by decide +kernel
theorem dX0_lunarMeeting_56 : decode cX0_lunarMeeting 56 = .ok (.lstore 7, 2) := by decide +kernel
theorem dX0_lunarMeeting_58 : decode cX0_lunarMeeting 58 = .ok (.lload 5, 2) := by decide +kernel
theorem dX0_lunarMeeting_60 : decode cX0_lunarMeeting 60 = .ok (.iload_n 2, 1) := by decide +kernel
theorem dX0_lunarMeeting_61 : decode cX0_lunarMeeting 61 = .ok (.i2l, 1) := by decide +kernel
theorem dX0_lunarMeeting_62 : decode cX0_lunarMeeting 62 = .ok (.lsub, 1) := by decide +kernel
theorem dX0_lunarMeeting_63 : decode cX0_lunarMeeting 63 = .ok (.lload 7, 2) := by decide +kernel
theorem dX0_lunarMeeting_65 : decode cX0_lunarMeeting 65 = .ok (.invokestatic 71, 3) := by decide +kernel
theorem dX0_lunarMeeting_68 : decode cX0_lunarMeeting 68 = .ok (.lstore 9, 2) := by decide +kernel
theorem dX0_lunarMeeting_70 : decode cX0_lunarMeeting 70 = .ok (.iconst 0, 1) := by decide +kernel
theorem dX0_lunarMeeting_71 : decode cX0_lunarMeeting 71 = .ok (.istore 11, 2) := by decide +kernel
theorem dX0_lunarMeeting_73 : decode cX0_lunarMeeting 73 = .ok (.iload 11, 2) := by decide +kernel
theorem dX0_lunarMeeting_75 : decode cX0_lunarMeeting 75 = .ok (.iload 4, 2) := by decide +kernel
theorem dX0_lunarMeeting_77 : decode cX0_lunarMeeting 77 = .ok (.if_icmp .ge 34, 3) := by decide +kernel
theorem dX0_lunarMeeting_80 : decode cX0_lunarMeeting 80 = .ok (.aload_n 0, 1) := by decide +kernel
theorem dX0_lunarMeeting_81 : decode cX0_lunarMeeting 81 = .ok (.iload_n 2, 1) := by decide +kernel
theorem dX0_lunarMeeting_82 : decode cX0_lunarMeeting 82 = .ok (.i2l, 1) := by decide +kernel
theorem dX0_lunarMeeting_83 : decode cX0_lunarMeeting 83 = .ok (.lload 9, 2) := by decide +kernel
theorem dX0_lunarMeeting_85 : decode cX0_lunarMeeting 85 = .ok (.ladd, 1) := by decide +kernel
theorem dX0_lunarMeeting_86 : decode cX0_lunarMeeting 86 = .ok (.invokevirtual 105, 3) := by decide +kernel
theorem dX0_lunarMeeting_89 : decode cX0_lunarMeeting 89 = .ok (.iload_n 3, 1) := by decide +kernel
theorem dX0_lunarMeeting_90 : decode cX0_lunarMeeting 90 = .ok (.i2l, 1) := by decide +kernel
theorem dX0_lunarMeeting_91 : decode cX0_lunarMeeting 91 = .ok (.lcmp, 1) := by decide +kernel
theorem dX0_lunarMeeting_92 : decode cX0_lunarMeeting 92 = .ok (.ifCond .ne 6, 3) := by decide +kernel
theorem dX0_lunarMeeting_95 : decode cX0_lunarMeeting 95 = .ok (.lload 9, 2) := by decide +kernel
theorem dX0_lunarMeeting_97 : decode cX0_lunarMeeting 97 = .ok (.lreturn, 1) := by decide +kernel
theorem dX0_lunarMeeting_98 : decode cX0_lunarMeeting 98 = .ok (.lload 9, 2) := by decide +kernel
theorem dX0_lunarMeeting_100 : decode cX0_lunarMeeting 100 = .ok (.lload 7, 2) := by decide +kernel
theorem dX0_lunarMeeting_102 : decode cX0_lunarMeeting 102 = .ok (.ladd, 1) := by decide +kernel
theorem dX0_lunarMeeting_103 : decode cX0_lunarMeeting 103 = .ok (.lstore 9, 2) := by decide +kernel
theorem dX0_lunarMeeting_105 : decode cX0_lunarMeeting 105 = .ok (.iinc 11 1, 3) := by decide +kernel
theorem dX0_lunarMeeting_108 : decode cX0_lunarMeeting 108 = .ok (.goto (-35), 3) := by decide +kernel
theorem dX0_lunarMeeting_111 : decode cX0_lunarMeeting 111 = .ok (.ldc2_w 96, 3) := by decide +kernel
theorem dX0_lunarMeeting_114 : decode cX0_lunarMeeting 114 = .ok (.lreturn, 1) := by decide +kernel
set_option maxRecDepth 20000 in
theorem ggX0_month_X0_checkDay : GoodIn wsX0_month wsX0_checkDay := goodIn_ca (goodIn_r _ [5, 6, 7, 8, 9, 4, 10, 11, 12, 13, 14, 15] (by decide +kernel) (by decide +kernel)) (goodIn_sub (fun _ h => List.mem_cons_of_mem _ (List.mem_append_right _ h)) (by decide +kernel))
set_option maxRecDepth 20000 in
theorem gX0_month_X0_checkDay : GoodIn wsX0_month (va_wsS RX0 75 yX0_checkDay wsX0_checkDay) := goodIn_app (goodIn_of _ (by decide +kernel)) ggX0_month_X0_checkDay
set_option maxRecDepth 20000 in
theorem ggX0_month_X0_moonParts : GoodIn wsX0_month wsX0_moonParts := goodIn_r _ [19, 20, 21, 29, 30, 31, 32, 33, 34, 35, 36, 37, 38] (by decide +kernel) (by decide +kernel)
set_option maxRecDepth 20000 in
theorem gX0_month_X0_moonParts : GoodIn wsX0_month (wsV RX0 117 RX0 yX0_moonParts wsX0_moonParts) := goodIn_app (goodIn_of _ (by decide +kernel)) ggX0_month_X0_moonParts
set_option maxRecDepth 20000 in
theorem ggX0_month_X0_divide : GoodIn wsX0_month wsX0_divide := goodIn_r _ [24, 25, 26, 27, 28] (by decide +kernel) (by decide +kernel)
set_option maxRecDepth 20000 in
theorem gX0_month_X0_divide : GoodIn wsX0_month (va_wsS RX0 120 yX0_divide wsX0_divide) := goodIn_app (goodIn_of _ (by decide +kernel)) ggX0_month_X0_divide
theorem dX0_month_0 : decode cX0_month 0 = .ok (.iload_n 1, 1) := by decide +kernel
theorem dX0_month_1 : decode cX0_month 1 = .ok (.invokestatic 75, 3) := by decide +kernel
theorem dX0_month_4 : decode cX0_month 4 = .ok (.aload_n 0, 1) := by decide +kernel
theorem dX0_month_5 : decode cX0_month 5 = .ok (.iload_n 1, 1) := by decide +kernel
theorem dX0_month_6 : decode cX0_month 6 = .ok (.i2l, 1) := by decide +kernel
theorem dX0_month_7 : decode cX0_month 7 = .ok (.invokevirtual 117, 3) := by decide +kernel
theorem dX0_month_10 : decode cX0_month 10 = .ok (.aload_n 0, 1) := by decide +kernel
theorem dX0_month_11 : decode cX0_month 11 = .ok (.getfield 20, 3) := by decide +kernel
theorem dX0_month_14 : decode cX0_month 14 = .ok (.i2l, 1) := by decide +kernel
theorem dX0_month_15 : decode cX0_month 15 = .ok (.invokestatic 120, 3) := by decide +kernel
theorem dX0_month_18 : decode cX0_month 18 = .ok (.l2i, 1) := by decide +kernel
theorem dX0_month_19 : decode cX0_month 19 = .ok (.ireturn, 1) := by decide +kernel
set_option maxRecDepth 20000 in
theorem ggX0_lunarDay_X0_checkDay : GoodIn wsX0_lunarDay wsX0_checkDay := goodIn_ca (goodIn_r _ [4, 5, 6, 7, 8, 3, 9, 10, 11, 12, 13, 14] (by decide +kernel) (by decide +kernel)) (goodIn_sub (fun _ h => List.mem_cons_of_mem _ (List.mem_append_right _ h)) (by decide +kernel))
set_option maxRecDepth 20000 in
theorem gX0_lunarDay_X0_checkDay : GoodIn wsX0_lunarDay (va_wsS RX0 75 yX0_checkDay wsX0_checkDay) := goodIn_app (goodIn_of _ (by decide +kernel)) ggX0_lunarDay_X0_checkDay
set_option maxRecDepth 20000 in
theorem ggX0_lunarDay_X0_lunarDayOf : GoodIn wsX0_lunarDay wsX0_lunarDayOf := goodIn_r _ [18, 19, 20, 21, 22, 23, 3, 24, 25, 26, 27, 28, 29, 30, 31, 32, 33, 34, 35, 36, 37, 38, 39, 40, 41, 42, 43, 44, 45, 46, 47, 48] (by decide +kernel) (by decide +kernel)
set_option maxRecDepth 20000 in
theorem gX0_lunarDay_X0_lunarDayOf : GoodIn wsX0_lunarDay (wsV RX0 105 RX0 yX0_lunarDayOf wsX0_lunarDayOf) := goodIn_app (goodIn_of _ (by decide +kernel)) ggX0_lunarDay_X0_lunarDayOf
theorem dX0_lunarDay_0 : decode cX0_lunarDay 0 = .ok (.iload_n 1, 1) := by decide +kernel
theorem dX0_lunarDay_1 : decode cX0_lunarDay 1 = .ok (.invokestatic 75, 3) := by decide +kernel
theorem dX0_lunarDay_4 : decode cX0_lunarDay 4 = .ok (.aload_n 0, 1) := by decide +kernel
theorem dX0_lunarDay_5 : decode cX0_lunarDay 5 = .ok (.iload_n 1, 1) := by decide +kernel
theorem dX0_lunarDay_6 : decode cX0_lunarDay 6 = .ok (.i2l, 1) := by decide +kernel
theorem dX0_lunarDay_7 : decode cX0_lunarDay 7 = .ok (.invokevirtual 105, 3) := by decide +kernel
theorem dX0_lunarDay_10 : decode cX0_lunarDay 10 = .ok (.l2i, 1) := by decide +kernel
theorem dX0_lunarDay_11 : decode cX0_lunarDay 11 = .ok (.ireturn, 1) := by decide +kernel
set_option maxRecDepth 20000 in
theorem ggX0_monthBegin_X0_isWithin : GoodIn wsX0_monthBegin wsX0_isWithin := goodIn_r _ [9] (by decide +kernel) (by decide +kernel)
set_option maxRecDepth 20000 in
theorem gX0_monthBegin_X0_isWithin : GoodIn wsX0_monthBegin (va_wsS RX0 41 yX0_isWithin wsX0_isWithin) := goodIn_app (goodIn_of _ (by decide +kernel)) ggX0_monthBegin_X0_isWithin
set_option maxRecDepth 20000 in
theorem ggX0_monthBegin_X0_checkArgument : GoodIn wsX0_monthBegin wsX0_checkArgument := goodIn_ca (goodIn_r _ [12, 13, 14] (by decide +kernel) (by decide +kernel)) (goodIn_sub (fun _ h => List.mem_cons_of_mem _ (List.mem_append_right _ h)) (by decide +kernel))
set_option maxRecDepth 20000 in
theorem gX0_monthBegin_X0_checkArgument : GoodIn wsX0_monthBegin (va_wsS RX0 45 yX0_checkArgument wsX0_checkArgument) := goodIn_app (goodIn_of _ (by decide +kernel)) ggX0_monthBegin_X0_checkArgument
set_option maxRecDepth 20000 in
theorem ggX0_monthBegin_X0_divide : GoodIn wsX0_monthBegin wsX0_divide := goodIn_r _ [17, 18, 19, 20, 21] (by decide +kernel) (by decide +kernel)
set_option maxRecDepth 20000 in
theorem gX0_monthBegin_X0_divide : GoodIn wsX0_monthBegin (va_wsS RX0 120 yX0_divide wsX0_divide) := goodIn_app (goodIn_of _ (by decide +kernel)) ggX0_monthBegin_X0_divide
theorem dX0_monthBegin_0 : decode cX0_monthBegin 0 = .ok (.iload_n 1, 1) := by decide +kernel
theorem dX0_monthBegin_1 : decode cX0_monthBegin 1 = .ok (.ldc 123, 2) := by decide +kernel
theorem dX0_monthBegin_3 : decode cX0_monthBegin 3 = .ok (.ldc 124, 2) := by decide +kernel
theorem dX0_monthBegin_5 : decode cX0_monthBegin 5 = .ok (.invokestatic 41, 3) := by decide +kernel
theorem dX0_monthBegin_8 : decode cX0_monthBegin 8 = .ok (.invokestatic 45, 3) := by decide +kernel
theorem dX0_monthBegin_11 : decode cX0_monthBegin 11 = .ok (.iload_n 1, 1) := by decide +kernel
theorem dX0_monthBegin_12 : decode cX0_monthBegin 12 = .ok (.i2l, 1) := by decide +kernel
theorem dX0_monthBegin_13 : decode cX0_monthBegin 13 = .ok (.lneg, 1) := by decide +kernel
theorem dX0_monthBegin_14 : decode cX0_monthBegin 14 = .ok (.aload_n 0, 1) := by decide +kernel
theorem dX0_monthBegin_15 : decode cX0_monthBegin 15 = .ok (.getfield 20, 3) := by decide +kernel
theorem dX0_monthBegin_18 : decode cX0_monthBegin 18 = .ok (.i2l, 1) := by decide +kernel
theorem dX0_monthBegin_19 : decode cX0_monthBegin 19 = .ok (.lmul, 1) := by decide +kernel
theorem dX0_monthBegin_20 : decode cX0_monthBegin 20 = .ok (.aload_n 0, 1) := by decide +kernel
theorem dX0_monthBegin_21 : decode cX0_monthBegin 21 = .ok (.getfield 23, 3) := by decide +kernel
theorem dX0_monthBegin_24 : decode cX0_monthBegin 24 = .ok (.i2l, 1) := by decide +kernel
theorem dX0_monthBegin_25 : decode cX0_monthBegin 25 = .ok (.invokestatic 120, 3) := by decide +kernel
theorem dX0_monthBegin_28 : decode cX0_monthBegin 28 = .ok (.lneg, 1) := by decide +kernel
theorem dX0_monthBegin_29 : decode cX0_monthBegin 29 = .ok (.aload_n 0, 1) := by decide +kernel
theorem dX0_monthBegin_30 : decode cX0_monthBegin 30 = .ok (.getfield 26, 3) := by decide +kernel
theorem dX0_monthBegin_33 : decode cX0_monthBegin 33 = .ok (.i2l, 1) := by decide +kernel
theorem dX0_monthBegin_34 : decode cX0_monthBegin 34 = .ok (.lsub, 1) := by decide +kernel
theorem dX0_monthBegin_35 : decode cX0_monthBegin 35 = .ok (.l2i, 1) := by decide +kernel
theorem dX0_monthBegin_36 : decode cX0_monthBegin 36 = .ok (.ireturn, 1) := by decide +kernel
set_option maxRecDepth 20000 in
theorem ggX0_year_X0_checkDay : GoodIn wsX0_year wsX0_checkDay := goodIn_ca (goodIn_r _ [4, 5, 6, 7, 8, 3, 9, 10, 11, 12, 13, 14] (by decide +kernel) (by decide +kernel)) (goodIn_sub (fun _ h => List.mem_cons_of_mem _ (List.mem_append_right _ h)) (by decide +kernel))
set_option maxRecDepth 20000 in
theorem gX0_year_X0_checkDay : GoodIn wsX0_year (va_wsS RX0 75 yX0_checkDay wsX0_checkDay) := goodIn_app (goodIn_of _ (by decide +kernel)) ggX0_year_X0_checkDay
set_option maxRecDepth 20000 in
theorem ggX0_year_X0_yearOf : GoodIn wsX0_year wsX0_yearOf := goodIn_r _ [18, 19, 20, 21, 22, 23, 24, 3, 25, 26, 27, 28, 29, 30, 31, 32, 33, 34, 35, 36, 37, 38, 39] (by decide +kernel) (by decide +kernel)
set_option maxRecDepth 20000 in
theorem gX0_year_X0_yearOf : GoodIn wsX0_year (wsV RX0 125 RX0 yX0_yearOf wsX0_yearOf) := goodIn_app (goodIn_of _ (by decide +kernel)) ggX0_year_X0_yearOf
theorem dX0_year_0 : decode cX0_year 0 = .ok (.iload_n 1, 1) := by decide +kernel
theorem dX0_year_1 : decode cX0_year 1 = .ok (.invokestatic 75, 3) := by decide +kernel
theorem dX0_year_4 : decode cX0_year 4 = .ok (.aload_n 0, 1) := by decide +kernel
theorem dX0_year_5 : decode cX0_year 5 = .ok (.iload_n 1, 1) := by decide +kernel
theorem dX0_year_6 : decode cX0_year 6 = .ok (.invokevirtual 125, 3) := by decide +kernel
theorem dX0_year_9 : decode cX0_year 9 = .ok (.ireturn, 1) := by decide +kernel
set_option maxRecDepth 20000 in
theorem ggX0_placeInYear_X0_checkDay : GoodIn wsX0_placeInYear wsX0_checkDay := goodIn_ca (goodIn_r _ [4, 5, 6, 7, 8, 3, 9, 10, 11, 12, 13, 14] (by decide +kernel) (by decide +kernel)) (goodIn_sub (fun _ h => List.mem_cons_of_mem _ (List.mem_append_right _ h)) (by decide +kernel))
set_option maxRecDepth 20000 in
theorem gX0_placeInYear_X0_checkDay : GoodIn wsX0_placeInYear (va_wsS RX0 75 yX0_checkDay wsX0_checkDay) := goodIn_app (goodIn_of _ (by decide +kernel)) ggX0_placeInYear_X0_checkDay
set_option maxRecDepth 20000 in
theorem ggX0_placeInYear_X0_yearOf : GoodIn wsX0_placeInYear wsX0_yearOf := goodIn_r _ [18, 19, 20, 21, 22, 23, 24, 3, 25, 26, 27, 28, 29, 34, 35, 36, 37, 38, 39, 40, 41, 42, 43] (by decide +kernel) (by decide +kernel)
set_option maxRecDepth 20000 in
theorem gX0_placeInYear_X0_yearOf : GoodIn wsX0_placeInYear (wsV RX0 125 RX0 yX0_yearOf wsX0_yearOf) := goodIn_app (goodIn_of _ (by decide +kernel)) ggX0_placeInYear_X0_yearOf
set_option maxRecDepth 20000 in
theorem ggX0_placeInYear_X0_yearBegin : GoodIn wsX0_placeInYear wsX0_yearBegin := goodIn_r _ [33, 21, 22, 20, 19, 23, 24, 3, 25, 26, 27, 28, 29, 34, 35, 36, 37, 38, 39, 40, 41, 42, 43] (by decide +kernel) (by decide +kernel)
set_option maxRecDepth 20000 in
theorem gX0_placeInYear_X0_yearBegin : GoodIn wsX0_placeInYear (wsV RX0 128 RX0 yX0_yearBegin wsX0_yearBegin) := goodIn_app (goodIn_of _ (by decide +kernel)) ggX0_placeInYear_X0_yearBegin
theorem dX0_placeInYear_0 : decode cX0_placeInYear 0 = .ok (.iload_n 1, 1) := by decide +kernel
theorem dX0_placeInYear_1 : decode cX0_placeInYear 1 = .ok (.invokestatic 75, 3) := by decide +kernel
theorem dX0_placeInYear_4 : decode cX0_placeInYear 4 = .ok (.iload_n 1, 1) := by decide +kernel
theorem dX0_placeInYear_5 : decode cX0_placeInYear 5 = .ok (.aload_n 0, 1) := by decide +kernel
theorem dX0_placeInYear_6 : decode cX0_placeInYear 6 = .ok (.aload_n 0, 1) := by decide +kernel
theorem dX0_placeInYear_7 : decode cX0_placeInYear 7 = .ok (.iload_n 1, 1) := by decide +kernel
theorem dX0_placeInYear_8 : decode cX0_placeInYear 8 = .ok (.invokevirtual 125, 3) := by decide +kernel
theorem dX0_placeInYear_11 : decode cX0_placeInYear 11 = .ok (.invokevirtual 128, 3) := by decide +kernel
theorem dX0_placeInYear_14 : decode cX0_placeInYear 14 = .ok (.isub, 1) := by decide +kernel
theorem dX0_placeInYear_15 : decode cX0_placeInYear 15 = .ok (.ireturn, 1) := by decide +kernel
set_option maxRecDepth 20000 in
theorem ggX0_isLeap_X0_checkYear : GoodIn wsX0_isLeap wsX0_checkYear := goodIn_ca (goodIn_r _ [4, 5, 6, 3, 7, 8, 9, 10, 11, 12] (by decide +kernel) (by decide +kernel)) (goodIn_sub (fun _ h => List.mem_cons_of_mem _ (List.mem_append_right _ h)) (by decide +kernel))
set_option maxRecDepth 20000 in
theorem gX0_isLeap_X0_checkYear : GoodIn wsX0_isLeap (va_wsS RX0 131 yX0_checkYear wsX0_checkYear) := goodIn_app (goodIn_of _ (by decide +kernel)) ggX0_isLeap_X0_checkYear
set_option maxRecDepth 20000 in
theorem ggX0_isLeap_X0_hasLeapDay : GoodIn wsX0_isLeap wsX0_hasLeapDay := goodIn_r _ [16, 17, 18, 19, 20, 21, 3, 22, 23, 24, 25, 26, 27, 28, 29, 30, 31, 32, 33, 34, 35, 36] (by decide +kernel) (by decide +kernel)
set_option maxRecDepth 20000 in
theorem gX0_isLeap_X0_hasLeapDay : GoodIn wsX0_isLeap (wsV RX0 134 RX0 yX0_hasLeapDay wsX0_hasLeapDay) := goodIn_app (goodIn_of _ (by decide +kernel)) ggX0_isLeap_X0_hasLeapDay
theorem dX0_isLeap_0 : decode cX0_isLeap 0 = .ok (.iload_n 1, 1) := by decide +kernel
theorem dX0_isLeap_1 : decode cX0_isLeap 1 = .ok (.invokestatic 131, 3) := by decide +kernel
theorem dX0_isLeap_4 : decode cX0_isLeap 4 = .ok (.aload_n 0, 1) := by decide +kernel
theorem dX0_isLeap_5 : decode cX0_isLeap 5 = .ok (.iload_n 1, 1) := by decide +kernel
theorem dX0_isLeap_6 : decode cX0_isLeap 6 = .ok (.invokevirtual 134, 3) := by decide +kernel
theorem dX0_isLeap_9 : decode cX0_isLeap 9 = .ok (.ireturn, 1) := by decide +kernel
set_option maxRecDepth 20000 in
theorem ggX0_dayOf_X0_checkYear : GoodIn wsX0_dayOf wsX0_checkYear := goodIn_ca (goodIn_r _ [5, 6, 7, 4, 8, 9, 10, 11, 12, 13] (by decide +kernel) (by decide +kernel)) (goodIn_sub (fun _ h => List.mem_cons_of_mem _ (List.mem_append_right _ h)) (by decide +kernel))
set_option maxRecDepth 20000 in
theorem gX0_dayOf_X0_checkYear : GoodIn wsX0_dayOf (va_wsS RX0 131 yX0_checkYear wsX0_checkYear) := goodIn_app (goodIn_of _ (by decide +kernel)) ggX0_dayOf_X0_checkYear
set_option maxRecDepth 20000 in
theorem ggX0_dayOf_X0_hasLeapDay : GoodIn wsX0_dayOf wsX0_hasLeapDay := goodIn_r _ [17, 18, 19, 20, 21, 22, 4, 23, 24, 25, 26, 27, 38, 39, 40, 41, 42, 43, 44, 45, 46, 47] (by decide +kernel) (by decide +kernel)
set_option maxRecDepth 20000 in
theorem gX0_dayOf_X0_hasLeapDay : GoodIn wsX0_dayOf (wsV RX0 134 RX0 yX0_hasLeapDay wsX0_hasLeapDay) := goodIn_app (goodIn_of _ (by decide +kernel)) ggX0_dayOf_X0_hasLeapDay
set_option maxRecDepth 20000 in
theorem ggX0_dayOf_X0_isWithin : GoodIn wsX0_dayOf wsX0_isWithin := goodIn_r _ [8] (by decide +kernel) (by decide +kernel)
set_option maxRecDepth 20000 in
theorem gX0_dayOf_X0_isWithin : GoodIn wsX0_dayOf (va_wsS RX0 41 yX0_isWithin wsX0_isWithin) := goodIn_app (goodIn_of _ (by decide +kernel)) ggX0_dayOf_X0_isWithin
set_option maxRecDepth 20000 in
theorem ggX0_dayOf_X0_checkArgument : GoodIn wsX0_dayOf wsX0_checkArgument := goodIn_ca (goodIn_r _ [11, 12, 13] (by decide +kernel) (by decide +kernel)) (goodIn_sub (fun _ h => List.mem_cons_of_mem _ (List.mem_append_right _ h)) (by decide +kernel))
set_option maxRecDepth 20000 in
theorem gX0_dayOf_X0_checkArgument : GoodIn wsX0_dayOf (va_wsS RX0 45 yX0_checkArgument wsX0_checkArgument) := goodIn_app (goodIn_of _ (by decide +kernel)) ggX0_dayOf_X0_checkArgument
set_option maxRecDepth 20000 in
theorem ggX0_dayOf_X0_yearBegin : GoodIn wsX0_dayOf wsX0_yearBegin := goodIn_r _ [31, 1, 18, 19, 20, 32, 33, 4, 34, 35, 36, 26, 37, 38, 39, 40, 41, 42, 43, 44, 45, 46, 47] (by decide +kernel) (by decide +kernel)
set_option maxRecDepth 20000 in
theorem gX0_dayOf_X0_yearBegin : GoodIn wsX0_dayOf (wsV RX0 128 RX0 yX0_yearBegin wsX0_yearBegin) := goodIn_app (goodIn_of _ (by decide +kernel)) ggX0_dayOf_X0_yearBegin
theorem dX0_dayOf_0 : decode cX0_dayOf 0 = .ok (.iload_n 1, 1) := by decide +kernel
theorem dX0_dayOf_1 : decode cX0_dayOf 1 = .ok (.invokestatic 131, 3) := by decide +kernel
theorem dX0_dayOf_4 : decode cX0_dayOf 4 = .ok (.aload_n 0, 1) := by decide +kernel
theorem dX0_dayOf_5 : decode cX0_dayOf 5 = .ok (.iload_n 1, 1) := by decide +kernel
theorem dX0_dayOf_6 : decode cX0_dayOf 6 = .ok (.invokevirtual 134, 3) := by decide +kernel
theorem dX0_dayOf_9 : decode cX0_dayOf 9 = .ok (.ifCond .eq 12, 3) := by decide +kernel
theorem dX0_dayOf_12 : decode cX0_dayOf 12 = .ok (.aload_n 0, 1) := by decide +kernel
theorem dX0_dayOf_13 : decode cX0_dayOf 13 = .ok (.getfield 29, 3) := by decide +kernel
theorem dX0_dayOf_16 : decode cX0_dayOf 16 = .ok (.iconst 1, 1) := by decide +kernel
theorem dX0_dayOf_17 : decode cX0_dayOf 17 = .ok (.iadd, 1) := by decide +kernel
theorem dX0_dayOf_18 : decode cX0_dayOf 18 = .ok (.goto 7, 3) := by decide +kernel
theorem dX0_dayOf_21 : decode cX0_dayOf 21 = .ok (.aload_n 0, 1) := by decide +kernel
theorem dX0_dayOf_22 : decode cX0_dayOf 22 = .ok (.getfield 29, 3) := by decide +kernel
theorem dX0_dayOf_25 : decode cX0_dayOf 25 = .ok (.istore_n 3, 1) := by decide +kernel
theorem dX0_dayOf_26 : decode cX0_dayOf 26 = .ok (.iload_n 2, 1) := by decide +kernel
theorem dX0_dayOf_27 : decode cX0_dayOf 27 = .ok (.iconst 0, 1) := by decide +kernel
theorem dX0_dayOf_28 : decode cX0_dayOf 28 = .ok (.iload_n 3, 1) := by decide +kernel
theorem dX0_dayOf_29 : decode cX0_dayOf 29 = .ok (.iconst 1, 1) := by decide +kernel
theorem dX0_dayOf_30 : decode cX0_dayOf 30 = .ok (.isub, 1) := by decide +kernel
theorem dX0_dayOf_31 : decode cX0_dayOf 31 = .ok (.invokestatic 41, 3) := by decide +kernel
theorem dX0_dayOf_34 : decode cX0_dayOf 34 = .ok (.invokestatic 45, 3) := by decide +kernel
theorem dX0_dayOf_37 : decode cX0_dayOf 37 = .ok (.aload_n 0, 1) := by decide +kernel
theorem dX0_dayOf_38 : decode cX0_dayOf 38 = .ok (.iload_n 1, 1) := by decide +kernel
end
section
theorem dX0_dayOf_39 : decode cX0_dayOf 39 = .ok (.invokevirtual 128, 3) := by decide +kernel
theorem dX0_dayOf_42 : decode cX0_dayOf 42 = .ok (.iload_n 2, 1) := by decide +kernel
theorem dX0_dayOf_43 : decode cX0_dayOf 43 = .ok (.iadd, 1) := by decide +kernel
theorem dX0_dayOf_44 : decode cX0_dayOf 44 = .ok (.ireturn, 1) := by decide +kernel
set_option maxRecDepth 20000 in
theorem ggX0_timesInYear_X0_checkMarket : GoodIn wsX0_timesInYear wsX0_checkMarket := goodIn_ca (goodIn_r _ [5, 6, 7, 8, 9, 10, 4, 11, 53, 54, 55, 56, 57, 58, 59, 60, 61, 62] (by decide +kernel) (by decide +kernel)) (goodIn_sub (fun _ h => List.mem_cons_of_mem _ (List.mem_append_left _ (List.mem_append_right _ h))) (by decide +kernel))
set_option maxRecDepth 20000 in
theorem gX0_timesInYear_X0_checkMarket : GoodIn wsX0_timesInYear (wsV RX0 60 RX0 yX0_checkMarket wsX0_checkMarket) := goodIn_app (goodIn_of _ (by decide +kernel)) ggX0_timesInYear_X0_checkMarket
set_option maxRecDepth 20000 in
theorem ggX0_timesInYear_X0_checkYear : GoodIn wsX0_timesInYear wsX0_checkYear := goodIn_ca (goodIn_r _ [14, 9, 10, 4, 11, 15, 16, 17, 18, 19] (by decide +kernel) (by decide +kernel)) (goodIn_sub (fun _ h => List.mem_cons_of_mem _ (List.mem_append_right _ h)) (by decide +kernel))
set_option maxRecDepth 20000 in
theorem gX0_timesInYear_X0_checkYear : GoodIn wsX0_timesInYear (va_wsS RX0 131 yX0_checkYear wsX0_checkYear) := goodIn_app (goodIn_of _ (by decide +kernel)) ggX0_timesInYear_X0_checkYear
set_option maxRecDepth 20000 in
theorem ggX0_timesInYear_X0_yearBegin : GoodIn wsX0_timesInYear wsX0_yearBegin := goodIn_r _ [23, 24, 25, 26, 27, 28, 29, 4, 30, 31, 32, 33, 34, 53, 54, 55, 56, 57, 58, 59, 60, 61, 62] (by decide +kernel) (by decide +kernel)
set_option maxRecDepth 20000 in
theorem gX0_timesInYear_X0_yearBegin : GoodIn wsX0_timesInYear (wsV RX0 128 RX0 yX0_yearBegin wsX0_yearBegin) := goodIn_app (goodIn_of _ (by decide +kernel)) ggX0_timesInYear_X0_yearBegin
set_option maxRecDepth 20000 in
theorem ggX0_timesInYear_X0_countHeld : GoodIn wsX0_timesInYear wsX0_countHeld := goodIn_r _ [38, 39, 40, 41, 4, 42, 43, 44, 45, 46, 47, 48, 49, 50, 51, 52, 28, 29, 30, 31, 32, 33, 34, 53, 54, 55, 56, 57, 58, 59, 60, 61, 62] (by decide +kernel) (by decide +kernel)
set_option maxRecDepth 20000 in
theorem gX0_timesInYear_X0_countHeld : GoodIn wsX0_timesInYear (wsV RX0 82 RX0 yX0_countHeld wsX0_countHeld) := goodIn_app (goodIn_of _ (by decide +kernel)) ggX0_timesInYear_X0_countHeld
theorem dX0_timesInYear_0 : decode cX0_timesInYear 0 = .ok (.aload_n 0, 1) := by decide +kernel
theorem dX0_timesInYear_1 : decode cX0_timesInYear 1 = .ok (.iload_n 1, 1) := by decide +kernel
theorem dX0_timesInYear_2 : decode cX0_timesInYear 2 = .ok (.invokevirtual 60, 3) := by decide +kernel
theorem dX0_timesInYear_5 : decode cX0_timesInYear 5 = .ok (.iload_n 2, 1) := by decide +kernel
theorem dX0_timesInYear_6 : decode cX0_timesInYear 6 = .ok (.invokestatic 131, 3) := by decide +kernel
theorem dX0_timesInYear_9 : decode cX0_timesInYear 9 = .ok (.aload_n 0, 1) := by decide +kernel
theorem dX0_timesInYear_10 : decode cX0_timesInYear 10 = .ok (.iload_n 1, 1) := by decide +kernel
theorem dX0_timesInYear_11 : decode cX0_timesInYear 11 = .ok (.aload_n 0, 1) := by decide +kernel
theorem dX0_timesInYear_12 : decode cX0_timesInYear 12 = .ok (.iload_n 2, 1) := by decide +kernel
theorem dX0_timesInYear_13 : decode cX0_timesInYear 13 = .ok (.invokevirtual 128, 3) := by decide +kernel
theorem dX0_timesInYear_16 : decode cX0_timesInYear 16 = .ok (.aload_n 0, 1) := by decide +kernel
theorem dX0_timesInYear_17 : decode cX0_timesInYear 17 = .ok (.iload_n 2, 1) := by decide +kernel
theorem dX0_timesInYear_18 : decode cX0_timesInYear 18 = .ok (.iconst 1, 1) := by decide +kernel
theorem dX0_timesInYear_19 : decode cX0_timesInYear 19 = .ok (.iadd, 1) := by decide +kernel
theorem dX0_timesInYear_20 : decode cX0_timesInYear 20 = .ok (.invokevirtual 128, 3) := by decide +kernel
theorem dX0_timesInYear_23 : decode cX0_timesInYear 23 = .ok (.iconst 1, 1) := by decide +kernel
theorem dX0_timesInYear_24 : decode cX0_timesInYear 24 = .ok (.isub, 1) := by decide +kernel
theorem dX0_timesInYear_25 : decode cX0_timesInYear 25 = .ok (.invokevirtual 82, 3) := by decide +kernel
theorem dX0_timesInYear_28 : decode cX0_timesInYear 28 = .ok (.ireturn, 1) := by decide +kernel
theorem dX0_checkArgument_0 : decode cX0_checkArgument 0 = .ok (.iload_n 0, 1) := by decide +kernel
theorem dX0_checkArgument_1 : decode cX0_checkArgument 1 = .ok (.ifCond .ne 13, 3) := by decide +kernel
theorem dX0_checkArgument_4 : decode cX0_checkArgument 4 = .ok (.new 137, 3) := by decide +kernel
theorem dX0_checkArgument_7 : decode cX0_checkArgument 7 = .ok (.dup, 1) := by decide +kernel
theorem dX0_checkArgument_8 : decode cX0_checkArgument 8 = .ok (.ldc 139, 2) := by decide +kernel
theorem dX0_checkArgument_10 : decode cX0_checkArgument 10 = .ok (.invokespecial 141, 3) := by decide +kernel
theorem dX0_checkArgument_13 : decode cX0_checkArgument 13 = .ok (.athrow, 1) := by decide +kernel
theorem dX0_checkArgument_14 : decode cX0_checkArgument 14 = .ok (.return_, 1) := by decide +kernel
set_option maxRecDepth 20000 in
theorem ggX0_checkDay_X0_isWithin : GoodIn wsX0_checkDay wsX0_isWithin := goodIn_r _ [6] (by decide +kernel) (by decide +kernel)
set_option maxRecDepth 20000 in
theorem gX0_checkDay_X0_isWithin : GoodIn wsX0_checkDay (va_wsS RX0 41 yX0_isWithin wsX0_isWithin) := goodIn_app (goodIn_of _ (by decide +kernel)) ggX0_checkDay_X0_isWithin
set_option maxRecDepth 20000 in
theorem ggX0_checkDay_X0_checkArgument : GoodIn wsX0_checkDay wsX0_checkArgument := goodIn_ca (goodIn_r _ [9, 10, 11] (by decide +kernel) (by decide +kernel)) (goodIn_sub (fun _ h => List.mem_cons_of_mem _ (List.mem_append_right _ h)) (by decide +kernel))
set_option maxRecDepth 20000 in
theorem gX0_checkDay_X0_checkArgument : GoodIn wsX0_checkDay (va_wsS RX0 45 yX0_checkArgument wsX0_checkArgument) := goodIn_app (goodIn_of _ (by decide +kernel)) ggX0_checkDay_X0_checkArgument
theorem dX0_checkDay_0 : decode cX0_checkDay 0 = .ok (.iload_n 0, 1) := by decide +kernel
theorem dX0_checkDay_1 : decode cX0_checkDay 1 = .ok (.ldc 142, 2) := by decide +kernel
theorem dX0_checkDay_3 : decode cX0_checkDay 3 = .ok (.ldc 143, 2) := by decide +kernel
theorem dX0_checkDay_5 : decode cX0_checkDay 5 = .ok (.invokestatic 41, 3) := by decide +kernel
theorem dX0_checkDay_8 : decode cX0_checkDay 8 = .ok (.invokestatic 45, 3) := by decide +kernel
theorem dX0_checkDay_11 : decode cX0_checkDay 11 = .ok (.return_, 1) := by decide +kernel
set_option maxRecDepth 20000 in
theorem ggX0_checkYear_X0_isWithin : GoodIn wsX0_checkYear wsX0_isWithin := goodIn_r _ [4] (by decide +kernel) (by decide +kernel)
set_option maxRecDepth 20000 in
theorem gX0_checkYear_X0_isWithin : GoodIn wsX0_checkYear (va_wsS RX0 41 yX0_isWithin wsX0_isWithin) := goodIn_app (goodIn_of _ (by decide +kernel)) ggX0_checkYear_X0_isWithin
set_option maxRecDepth 20000 in
theorem ggX0_checkYear_X0_checkArgument : GoodIn wsX0_checkYear wsX0_checkArgument := goodIn_ca (goodIn_r _ [7, 8, 9] (by decide +kernel) (by decide +kernel)) (goodIn_sub (fun _ h => List.mem_cons_of_mem _ (List.mem_append_right _ h)) (by decide +kernel))
set_option maxRecDepth 20000 in
theorem gX0_checkYear_X0_checkArgument : GoodIn wsX0_checkYear (va_wsS RX0 45 yX0_checkArgument wsX0_checkArgument) := goodIn_app (goodIn_of _ (by decide +kernel)) ggX0_checkYear_X0_checkArgument
theorem dX0_checkYear_0 : decode cX0_checkYear 0 = .ok (.iload_n 0, 1) := by decide +kernel
theorem dX0_checkYear_1 : decode cX0_checkYear 1 = .ok (.sipush (-10000), 3) := by decide +kernel
theorem dX0_checkYear_4 : decode cX0_checkYear 4 = .ok (.sipush 10000, 3) := by decide +kernel
theorem dX0_checkYear_7 : decode cX0_checkYear 7 = .ok (.invokestatic 41, 3) := by decide +kernel
theorem dX0_checkYear_10 : decode cX0_checkYear 10 = .ok (.invokestatic 45, 3) := by decide +kernel
theorem dX0_checkYear_13 : decode cX0_checkYear 13 = .ok (.return_, 1) := by decide +kernel
set_option maxRecDepth 20000 in
theorem ggX0_checkMarket_X0_isWithin : GoodIn wsX0_checkMarket wsX0_isWithin := goodIn_r _ [7] (by decide +kernel) (by decide +kernel)
set_option maxRecDepth 20000 in
theorem gX0_checkMarket_X0_isWithin : GoodIn wsX0_checkMarket (va_wsS RX0 41 yX0_isWithin wsX0_isWithin) := goodIn_app (goodIn_of _ (by decide +kernel)) ggX0_checkMarket_X0_isWithin
theorem dX0_checkMarket_0 : decode cX0_checkMarket 0 = .ok (.iload_n 1, 1) := by decide +kernel
theorem dX0_checkMarket_1 : decode cX0_checkMarket 1 = .ok (.iconst 0, 1) := by decide +kernel
theorem dX0_checkMarket_2 : decode cX0_checkMarket 2 = .ok (.aload_n 0, 1) := by decide +kernel
theorem dX0_checkMarket_3 : decode cX0_checkMarket 3 = .ok (.getfield 16, 3) := by decide +kernel
theorem dX0_checkMarket_6 : decode cX0_checkMarket 6 = .ok (.iconst 1, 1) := by decide +kernel
theorem dX0_checkMarket_7 : decode cX0_checkMarket 7 = .ok (.isub, 1) := by decide +kernel
theorem dX0_checkMarket_8 : decode cX0_checkMarket 8 = .ok (.invokestatic 41, 3) := by decide +kernel
theorem dX0_checkMarket_11 : decode cX0_checkMarket 11 = .ok (.ifCond .ne 13, 3) := by decide +kernel
theorem dX0_checkMarket_14 : decode cX0_checkMarket 14 = .ok (.new 144, 3) := by decide +kernel
theorem dX0_checkMarket_17 : decode cX0_checkMarket 17 = .ok (.dup, 1) := by decide +kernel
theorem dX0_checkMarket_18 : decode cX0_checkMarket 18 = .ok (.ldc 146, 2) := by decide +kernel
theorem dX0_checkMarket_20 : decode cX0_checkMarket 20 = .ok (.invokespecial 148, 3) := by decide +kernel
theorem dX0_checkMarket_23 : decode cX0_checkMarket 23 = .ok (.athrow, 1) := by decide +kernel
theorem dX0_checkMarket_24 : decode cX0_checkMarket 24 = .ok (.return_, 1) := by decide +kernel
theorem dX0_checkMarkets_0 : decode cX0_checkMarkets 0 = .ok (.iload_n 1, 1) := by decide +kernel
theorem dX0_checkMarkets_1 : decode cX0_checkMarkets 1 = .ok (.aload_n 0, 1) := by decide +kernel
theorem dX0_checkMarkets_2 : decode cX0_checkMarkets 2 = .ok (.getfield 16, 3) := by decide +kernel
theorem dX0_checkMarkets_5 : decode cX0_checkMarkets 5 = .ok (.iushr, 1) := by decide +kernel
theorem dX0_checkMarkets_6 : decode cX0_checkMarkets 6 = .ok (.ifCond .eq 13, 3) := by decide +kernel
theorem dX0_checkMarkets_9 : decode cX0_checkMarkets 9 = .ok (.new 144, 3) := by decide +kernel
theorem dX0_checkMarkets_12 : decode cX0_checkMarkets 12 = .ok (.dup, 1) := by decide +kernel
theorem dX0_checkMarkets_13 : decode cX0_checkMarkets 13 = .ok (.ldc 149, 2) := by decide +kernel
theorem dX0_checkMarkets_15 : decode cX0_checkMarkets 15 = .ok (.invokespecial 148, 3) := by decide +kernel
theorem dX0_checkMarkets_18 : decode cX0_checkMarkets 18 = .ok (.athrow, 1) := by decide +kernel
theorem dX0_checkMarkets_19 : decode cX0_checkMarkets 19 = .ok (.return_, 1) := by decide +kernel
set_option maxRecDepth 20000 in
theorem ggX0_checkMeetingSet_J6_bitCount_0f7a4 : GoodIn wsX0_checkMeetingSet wsJ6_bitCount_0f7a4 := goodIn_r _ [4, 5, 6, 7] (by decide +kernel) (by decide +kernel)
set_option maxRecDepth 20000 in
theorem gX0_checkMeetingSet_J6_bitCount_0f7a4 : GoodIn wsX0_checkMeetingSet (va_wsS RX0 112 yJ6_bitCount_0f7a4 wsJ6_bitCount_0f7a4) := goodIn_app (goodIn_of _ (by decide +kernel)) ggX0_checkMeetingSet_J6_bitCount_0f7a4
set_option maxRecDepth 20000 in
theorem ggX0_checkMeetingSet_X0_isWithin : GoodIn wsX0_checkMeetingSet wsX0_isWithin := goodIn_r _ [11] (by decide +kernel) (by decide +kernel)
set_option maxRecDepth 20000 in
theorem gX0_checkMeetingSet_X0_isWithin : GoodIn wsX0_checkMeetingSet (va_wsS RX0 41 yX0_isWithin wsX0_isWithin) := goodIn_app (goodIn_of _ (by decide +kernel)) ggX0_checkMeetingSet_X0_isWithin
set_option maxRecDepth 20000 in
theorem ggX0_checkMeetingSet_X0_checkArgument : GoodIn wsX0_checkMeetingSet wsX0_checkArgument := goodIn_ca (goodIn_r _ [14, 15, 16] (by decide +kernel) (by decide +kernel)) (goodIn_sub (fun _ h => List.mem_cons_of_mem _ (List.mem_append_left _ (List.mem_append_right _ h))) (by decide +kernel))
set_option maxRecDepth 20000 in
theorem gX0_checkMeetingSet_X0_checkArgument : GoodIn wsX0_checkMeetingSet (va_wsS RX0 45 yX0_checkArgument wsX0_checkArgument) := goodIn_app (goodIn_of _ (by decide +kernel)) ggX0_checkMeetingSet_X0_checkArgument
set_option maxRecDepth 20000 in
theorem ggX0_checkMeetingSet_X0_checkMarkets : GoodIn wsX0_checkMeetingSet wsX0_checkMarkets := goodIn_ca (goodIn_r _ [20, 21, 22, 23, 24, 25, 26, 27, 28, 29, 30, 31, 32, 33] (by decide +kernel) (by decide +kernel)) (goodIn_sub (fun _ h => List.mem_cons_of_mem _ (List.mem_append_right _ h)) (by decide +kernel))
set_option maxRecDepth 20000 in
theorem gX0_checkMeetingSet_X0_checkMarkets : GoodIn wsX0_checkMeetingSet (wsV RX0 109 RX0 yX0_checkMarkets wsX0_checkMarkets) := goodIn_app (goodIn_of _ (by decide +kernel)) ggX0_checkMeetingSet_X0_checkMarkets
theorem dX0_checkMeetingSet_0 : decode cX0_checkMeetingSet 0 = .ok (.iload_n 1, 1) := by decide +kernel
theorem dX0_checkMeetingSet_1 : decode cX0_checkMeetingSet 1 = .ok (.invokestatic 112, 3) := by decide +kernel
theorem dX0_checkMeetingSet_4 : decode cX0_checkMeetingSet 4 = .ok (.iconst 1, 1) := by decide +kernel
theorem dX0_checkMeetingSet_5 : decode cX0_checkMeetingSet 5 = .ok (.iconst 5, 1) := by decide +kernel
theorem dX0_checkMeetingSet_6 : decode cX0_checkMeetingSet 6 = .ok (.invokestatic 41, 3) := by decide +kernel
theorem dX0_checkMeetingSet_9 : decode cX0_checkMeetingSet 9 = .ok (.invokestatic 45, 3) := by decide +kernel
theorem dX0_checkMeetingSet_12 : decode cX0_checkMeetingSet 12 = .ok (.aload_n 0, 1) := by decide +kernel
theorem dX0_checkMeetingSet_13 : decode cX0_checkMeetingSet 13 = .ok (.iload_n 1, 1) := by decide +kernel
theorem dX0_checkMeetingSet_14 : decode cX0_checkMeetingSet 14 = .ok (.invokevirtual 109, 3) := by decide +kernel
theorem dX0_checkMeetingSet_17 : decode cX0_checkMeetingSet 17 = .ok (.return_, 1) := by decide +kernel
theorem dX0_checkTheyMeet_0 : decode cX0_checkTheyMeet 0 = .ok (.lload_n 0, 1) := by decide +kernel
theorem dX0_checkTheyMeet_1 : decode cX0_checkTheyMeet 1 = .ok (.ldc2_w 96, 3) := by decide +kernel
theorem dX0_checkTheyMeet_4 : decode cX0_checkTheyMeet 4 = .ok (.lcmp, 1) := by decide +kernel
theorem dX0_checkTheyMeet_5 : decode cX0_checkTheyMeet 5 = .ok (.ifCond .ne 13, 3) := by decide +kernel
theorem dX0_checkTheyMeet_8 : decode cX0_checkTheyMeet 8 = .ok (.new 53, 3) := by decide +kernel
theorem dX0_checkTheyMeet_11 : decode cX0_checkTheyMeet 11 = .ok (.dup, 1) := by decide +kernel
theorem dX0_checkTheyMeet_12 : decode cX0_checkTheyMeet 12 = .ok (.ldc 151, 2) := by decide +kernel
theorem dX0_checkTheyMeet_14 : decode cX0_checkTheyMeet 14 = .ok (.invokespecial 57, 3) := by decide +kernel
theorem dX0_checkTheyMeet_17 : decode cX0_checkTheyMeet 17 = .ok (.athrow, 1) := by decide +kernel
theorem dX0_checkTheyMeet_18 : decode cX0_checkTheyMeet 18 = .ok (.return_, 1) := by decide +kernel
theorem dX0_isPlace_0 : decode cX0_isPlace 0 = .ok (.iload_n 1, 1) := by decide +kernel
theorem dX0_isPlace_1 : decode cX0_isPlace 1 = .ok (.ifCond .lt 25, 3) := by decide +kernel
theorem dX0_isPlace_4 : decode cX0_isPlace 4 = .ok (.iload_n 1, 1) := by decide +kernel
theorem dX0_isPlace_5 : decode cX0_isPlace 5 = .ok (.aload_n 0, 1) := by decide +kernel
theorem dX0_isPlace_6 : decode cX0_isPlace 6 = .ok (.getfield 9, 3) := by decide +kernel
theorem dX0_isPlace_9 : decode cX0_isPlace 9 = .ok (.arraylength, 1) := by decide +kernel
theorem dX0_isPlace_10 : decode cX0_isPlace 10 = .ok (.if_icmp .ge 16, 3) := by decide +kernel
theorem dX0_isPlace_13 : decode cX0_isPlace 13 = .ok (.iload_n 1, 1) := by decide +kernel
theorem dX0_isPlace_14 : decode cX0_isPlace 14 = .ok (.aload_n 0, 1) := by decide +kernel
theorem dX0_isPlace_15 : decode cX0_isPlace 15 = .ok (.getfield 13, 3) := by decide +kernel
theorem dX0_isPlace_18 : decode cX0_isPlace 18 = .ok (.arraylength, 1) := by decide +kernel
theorem dX0_isPlace_19 : decode cX0_isPlace 19 = .ok (.if_icmp .ge 7, 3) := by decide +kernel
theorem dX0_isPlace_22 : decode cX0_isPlace 22 = .ok (.iconst 1, 1) := by decide +kernel
theorem dX0_isPlace_23 : decode cX0_isPlace 23 = .ok (.goto 4, 3) := by decide +kernel
theorem dX0_isPlace_26 : decode cX0_isPlace 26 = .ok (.iconst 0, 1) := by decide +kernel
theorem dX0_isPlace_27 : decode cX0_isPlace 27 = .ok (.ireturn, 1) := by decide +kernel
set_option maxRecDepth 20000 in
theorem ggX0_lengthOf_X0_isPlace : GoodIn wsX0_lengthOf wsX0_isPlace := goodIn_r _ [6, 1, 7, 8, 9, 10, 11, 12, 13, 14, 15, 16, 17] (by decide +kernel) (by decide +kernel)
set_option maxRecDepth 20000 in
theorem gX0_lengthOf_X0_isPlace : GoodIn wsX0_lengthOf (wsV RX0 49 RX0 yX0_isPlace wsX0_isPlace) := goodIn_app (goodIn_of _ (by decide +kernel)) ggX0_lengthOf_X0_isPlace
theorem dX0_lengthOf_0 : decode cX0_lengthOf 0 = .ok (.aload_n 0, 1) := by decide +kernel
theorem dX0_lengthOf_1 : decode cX0_lengthOf 1 = .ok (.iload_n 1, 1) := by decide +kernel
theorem dX0_lengthOf_2 : decode cX0_lengthOf 2 = .ok (.invokevirtual 49, 3) := by decide +kernel
theorem dX0_lengthOf_5 : decode cX0_lengthOf 5 = .ok (.ifCond .eq 12, 3) := by decide +kernel
theorem dX0_lengthOf_8 : decode cX0_lengthOf 8 = .ok (.aload_n 0, 1) := by decide +kernel
theorem dX0_lengthOf_9 : decode cX0_lengthOf 9 = .ok (.getfield 9, 3) := by decide +kernel
theorem dX0_lengthOf_12 : decode cX0_lengthOf 12 = .ok (.iload_n 1, 1) := by decide +kernel
theorem dX0_lengthOf_13 : decode cX0_lengthOf 13 = .ok (.iaload, 1) := by decide +kernel
theorem dX0_lengthOf_14 : decode cX0_lengthOf 14 = .ok (.goto 4, 3) := by decide +kernel
theorem dX0_lengthOf_17 : decode cX0_lengthOf 17 = .ok (.iconst 1, 1) := by decide +kernel
theorem dX0_lengthOf_18 : decode cX0_lengthOf 18 = .ok (.ireturn, 1) := by decide +kernel
set_option maxRecDepth 20000 in
theorem ggX0_placeOf_X0_isPlace : GoodIn wsX0_placeOf wsX0_isPlace := goodIn_r _ [6, 7, 1, 8, 9, 10, 11, 12, 13, 14, 15, 16, 17] (by decide +kernel) (by decide +kernel)
set_option maxRecDepth 20000 in
theorem gX0_placeOf_X0_isPlace : GoodIn wsX0_placeOf (wsV RX0 49 RX0 yX0_isPlace wsX0_isPlace) := goodIn_app (goodIn_of _ (by decide +kernel)) ggX0_placeOf_X0_isPlace
theorem dX0_placeOf_0 : decode cX0_placeOf 0 = .ok (.aload_n 0, 1) := by decide +kernel
theorem dX0_placeOf_1 : decode cX0_placeOf 1 = .ok (.iload_n 1, 1) := by decide +kernel
theorem dX0_placeOf_2 : decode cX0_placeOf 2 = .ok (.invokevirtual 49, 3) := by decide +kernel
theorem dX0_placeOf_5 : decode cX0_placeOf 5 = .ok (.ifCond .eq 12, 3) := by decide +kernel
theorem dX0_placeOf_8 : decode cX0_placeOf 8 = .ok (.aload_n 0, 1) := by decide +kernel
theorem dX0_placeOf_9 : decode cX0_placeOf 9 = .ok (.getfield 13, 3) := by decide +kernel
theorem dX0_placeOf_12 : decode cX0_placeOf 12 = .ok (.iload_n 1, 1) := by decide +kernel
theorem dX0_placeOf_13 : decode cX0_placeOf 13 = .ok (.iaload, 1) := by decide +kernel
theorem dX0_placeOf_14 : decode cX0_placeOf 14 = .ok (.goto 4, 3) := by decide +kernel
theorem dX0_placeOf_17 : decode cX0_placeOf 17 = .ok (.iconst 0, 1) := by decide +kernel
theorem dX0_placeOf_18 : decode cX0_placeOf 18 = .ok (.ireturn, 1) := by decide +kernel
set_option maxRecDepth 20000 in
theorem ggX0_isOn_X0_lengthOf : GoodIn wsX0_isOn wsX0_lengthOf := goodIn_r _ [5, 6, 7, 8, 9, 4, 10, 11, 23, 24, 25, 26, 27, 28, 29, 30, 31, 32] (by decide +kernel) (by decide +kernel)
set_option maxRecDepth 20000 in
theorem gX0_isOn_X0_lengthOf : GoodIn wsX0_isOn (wsV RX0 68 RX0 yX0_lengthOf wsX0_lengthOf) := goodIn_app (goodIn_of _ (by decide +kernel)) ggX0_isOn_X0_lengthOf
set_option maxRecDepth 20000 in
theorem ggX0_isOn_X0_modulo : GoodIn wsX0_isOn wsX0_modulo := goodIn_r _ [14, 15, 16, 17, 18] (by decide +kernel) (by decide +kernel)
set_option maxRecDepth 20000 in
theorem gX0_isOn_X0_modulo : GoodIn wsX0_isOn (va_wsS RX0 71 yX0_modulo wsX0_modulo) := goodIn_app (goodIn_of _ (by decide +kernel)) ggX0_isOn_X0_modulo
set_option maxRecDepth 20000 in
theorem ggX0_isOn_X0_placeOf : GoodIn wsX0_isOn wsX0_placeOf := goodIn_r _ [22, 11, 7, 8, 9, 4, 10, 6, 23, 24, 25, 26, 27, 28, 29, 30, 31, 32] (by decide +kernel) (by decide +kernel)
set_option maxRecDepth 20000 in
theorem gX0_isOn_X0_placeOf : GoodIn wsX0_isOn (wsV RX0 64 RX0 yX0_placeOf wsX0_placeOf) := goodIn_app (goodIn_of _ (by decide +kernel)) ggX0_isOn_X0_placeOf
theorem dX0_isOn_0 : decode cX0_isOn 0 = .ok (.lload_n 2, 1) := by decide +kernel
theorem dX0_isOn_1 : decode cX0_isOn 1 = .ok (.aload_n 0, 1) := by decide +kernel
theorem dX0_isOn_2 : decode cX0_isOn 2 = .ok (.iload_n 1, 1) := by decide +kernel
theorem dX0_isOn_3 : decode cX0_isOn 3 = .ok (.invokevirtual 68, 3) := by decide +kernel
theorem dX0_isOn_6 : decode cX0_isOn 6 = .ok (.i2l, 1) := by decide +kernel
theorem dX0_isOn_7 : decode cX0_isOn 7 = .ok (.invokestatic 71, 3) := by decide +kernel
theorem dX0_isOn_10 : decode cX0_isOn 10 = .ok (.aload_n 0, 1) := by decide +kernel
theorem dX0_isOn_11 : decode cX0_isOn 11 = .ok (.iload_n 1, 1) := by decide +kernel
theorem dX0_isOn_12 : decode cX0_isOn 12 = .ok (.invokevirtual 64, 3) := by decide +kernel
theorem dX0_isOn_15 : decode cX0_isOn 15 = .ok (.i2l, 1) := by decide +kernel
theorem dX0_isOn_16 : decode cX0_isOn 16 = .ok (.lcmp, 1) := by decide +kernel
theorem dX0_isOn_17 : decode cX0_isOn 17 = .ok (.ifCond .ne 7, 3) := by decide +kernel
theorem dX0_isOn_20 : decode cX0_isOn 20 = .ok (.iconst 1, 1) := by decide +kernel
theorem dX0_isOn_21 : decode cX0_isOn 21 = .ok (.goto 4, 3) := by decide +kernel
theorem dX0_isOn_24 : decode cX0_isOn 24 = .ok (.iconst 0, 1) := by decide +kernel
theorem dX0_isOn_25 : decode cX0_isOn 25 = .ok (.ireturn, 1) := by decide +kernel
set_option maxRecDepth 20000 in
theorem ggX0_setOn_X0_isOn : GoodIn wsX0_setOn wsX0_isOn := goodIn_r _ [6, 7, 8, 9, 5, 10, 11, 12, 13, 14, 15, 16, 17, 18, 19, 20, 21, 22, 23, 24, 25, 26, 27, 28, 29, 30, 31, 32, 33, 34, 35, 36, 37] (by decide +kernel) (by decide +kernel)
set_option maxRecDepth 20000 in
theorem gX0_setOn_X0_isOn : GoodIn wsX0_setOn (wsV RX0 78 RX0 yX0_isOn wsX0_isOn) := goodIn_app (goodIn_of _ (by decide +kernel)) ggX0_setOn_X0_isOn
theorem dX0_setOn_0 : decode cX0_setOn 0 = .ok (.iconst 0, 1) := by decide +kernel
theorem dX0_setOn_1 : decode cX0_setOn 1 = .ok (.istore_n 2, 1) := by decide +kernel
theorem dX0_setOn_2 : decode cX0_setOn 2 = .ok (.iconst 0, 1) := by decide +kernel
theorem dX0_setOn_3 : decode cX0_setOn 3 = .ok (.istore_n 3, 1) := by decide +kernel
theorem dX0_setOn_4 : decode cX0_setOn 4 = .ok (.iload_n 3, 1) := by decide +kernel
theorem dX0_setOn_5 : decode cX0_setOn 5 = .ok (.aload_n 0, 1) := by decide +kernel
theorem dX0_setOn_6 : decode cX0_setOn 6 = .ok (.getfield 16, 3) := by decide +kernel
theorem dX0_setOn_9 : decode cX0_setOn 9 = .ok (.if_icmp .ge 25, 3) := by decide +kernel
theorem dX0_setOn_12 : decode cX0_setOn 12 = .ok (.aload_n 0, 1) := by decide +kernel
theorem dX0_setOn_13 : decode cX0_setOn 13 = .ok (.iload_n 3, 1) := by decide +kernel
theorem dX0_setOn_14 : decode cX0_setOn 14 = .ok (.iload_n 1, 1) := by decide +kernel
theorem dX0_setOn_15 : decode cX0_setOn 15 = .ok (.i2l, 1) := by decide +kernel
theorem dX0_setOn_16 : decode cX0_setOn 16 = .ok (.invokevirtual 78, 3) := by decide +kernel
theorem dX0_setOn_19 : decode cX0_setOn 19 = .ok (.ifCond .eq 9, 3) := by decide +kernel
theorem dX0_setOn_22 : decode cX0_setOn 22 = .ok (.iload_n 2, 1) := by decide +kernel
theorem dX0_setOn_23 : decode cX0_setOn 23 = .ok (.iconst 1, 1) := by decide +kernel
theorem dX0_setOn_24 : decode cX0_setOn 24 = .ok (.iload_n 3, 1) := by decide +kernel
theorem dX0_setOn_25 : decode cX0_setOn 25 = .ok (.ishl, 1) := by decide +kernel
theorem dX0_setOn_26 : decode cX0_setOn 26 = .ok (.ior, 1) := by decide +kernel
theorem dX0_setOn_27 : decode cX0_setOn 27 = .ok (.istore_n 2, 1) := by decide +kernel
theorem dX0_setOn_28 : decode cX0_setOn 28 = .ok (.iinc 3 1, 3) := by decide +kernel
theorem dX0_setOn_31 : decode cX0_setOn 31 = .ok (.goto (-27), 3) := by decide +kernel
theorem dX0_setOn_34 : decode cX0_setOn 34 = .ok (.iload_n 2, 1) := by decide +kernel
theorem dX0_setOn_35 : decode cX0_setOn 35 = .ok (.ireturn, 1) := by decide +kernel
set_option maxRecDepth 20000 in
theorem ggX0_countHeld_X0_lengthOf : GoodIn wsX0_countHeld wsX0_lengthOf := goodIn_r _ [5, 6, 7, 8, 9, 4, 10, 11, 23, 24, 25, 26, 27, 28, 29, 30, 31, 32] (by decide +kernel) (by decide +kernel)
set_option maxRecDepth 20000 in
theorem gX0_countHeld_X0_lengthOf : GoodIn wsX0_countHeld (wsV RX0 68 RX0 yX0_lengthOf wsX0_lengthOf) := goodIn_app (goodIn_of _ (by decide +kernel)) ggX0_countHeld_X0_lengthOf
set_option maxRecDepth 20000 in
theorem ggX0_countHeld_X0_placeOf : GoodIn wsX0_countHeld wsX0_placeOf := goodIn_r _ [15, 11, 7, 8, 9, 4, 10, 6, 23, 24, 25, 26, 27, 28, 29, 30, 31, 32] (by decide +kernel) (by decide +kernel)
set_option maxRecDepth 20000 in
theorem gX0_countHeld_X0_placeOf : GoodIn wsX0_countHeld (wsV RX0 64 RX0 yX0_placeOf wsX0_placeOf) := goodIn_app (goodIn_of _ (by decide +kernel)) ggX0_countHeld_X0_placeOf
set_option maxRecDepth 20000 in
theorem ggX0_countHeld_X0_divide : GoodIn wsX0_countHeld wsX0_divide := goodIn_r _ [18, 19, 20, 21, 22] (by decide +kernel) (by decide +kernel)
set_option maxRecDepth 20000 in
theorem gX0_countHeld_X0_divide : GoodIn wsX0_countHeld (va_wsS RX0 120 yX0_divide wsX0_divide) := goodIn_app (goodIn_of _ (by decide +kernel)) ggX0_countHeld_X0_divide
theorem dX0_countHeld_0 : decode cX0_countHeld 0 = .ok (.aload_n 0, 1) := by decide +kernel
theorem dX0_countHeld_1 : decode cX0_countHeld 1 = .ok (.iload_n 1, 1) := by decide +kernel
theorem dX0_countHeld_2 : decode cX0_countHeld 2 = .ok (.invokevirtual 68, 3) := by decide +kernel
theorem dX0_countHeld_5 : decode cX0_countHeld 5 = .ok (.istore 4, 2) := by decide +kernel
theorem dX0_countHeld_7 : decode cX0_countHeld 7 = .ok (.aload_n 0, 1) := by decide +kernel
theorem dX0_countHeld_8 : decode cX0_countHeld 8 = .ok (.iload_n 1, 1) := by decide +kernel
theorem dX0_countHeld_9 : decode cX0_countHeld 9 = .ok (.invokevirtual 64, 3) := by decide +kernel
theorem dX0_countHeld_12 : decode cX0_countHeld 12 = .ok (.istore 5, 2) := by decide +kernel
theorem dX0_countHeld_14 : decode cX0_countHeld 14 = .ok (.iload_n 3, 1) := by decide +kernel
theorem dX0_countHeld_15 : decode cX0_countHeld 15 = .ok (.iload 5, 2) := by decide +kernel
theorem dX0_countHeld_17 : decode cX0_countHeld 17 = .ok (.isub, 1) := by decide +kernel
theorem dX0_countHeld_18 : decode cX0_countHeld 18 = .ok (.i2l, 1) := by decide +kernel
theorem dX0_countHeld_19 : decode cX0_countHeld 19 = .ok (.iload 4, 2) := by decide +kernel
theorem dX0_countHeld_21 : decode cX0_countHeld 21 = .ok (.i2l, 1) := by decide +kernel
theorem dX0_countHeld_22 : decode cX0_countHeld 22 = .ok (.invokestatic 120, 3) := by decide +kernel
theorem dX0_countHeld_25 : decode cX0_countHeld 25 = .ok (.iload_n 2, 1) := by decide +kernel
theorem dX0_countHeld_26 : decode cX0_countHeld 26 = .ok (.iconst 1, 1) := by decide +kernel
theorem dX0_countHeld_27 : decode cX0_countHeld 27 = .ok (.isub, 1) := by decide +kernel
theorem dX0_countHeld_28 : decode cX0_countHeld 28 = .ok (.iload 5, 2) := by decide +kernel
theorem dX0_countHeld_30 : decode cX0_countHeld 30 = .ok (.isub, 1) := by decide +kernel
theorem dX0_countHeld_31 : decode cX0_countHeld 31 = .ok (.i2l, 1) := by decide +kernel
theorem dX0_countHeld_32 : decode cX0_countHeld 32 = .ok (.iload 4, 2) := by decide +kernel
theorem dX0_countHeld_34 : decode cX0_countHeld 34 = .ok (.i2l, 1) := by decide +kernel
theorem dX0_countHeld_35 : decode cX0_countHeld 35 = .ok (.invokestatic 120, 3) := by decide +kernel
theorem dX0_countHeld_38 : decode cX0_countHeld 38 = .ok (.lsub, 1) := by decide +kernel
theorem dX0_countHeld_39 : decode cX0_countHeld 39 = .ok (.l2i, 1) := by decide +kernel
theorem dX0_countHeld_40 : decode cX0_countHeld 40 = .ok (.ireturn, 1) := by decide +kernel
set_option maxRecDepth 20000 in
theorem ggX0_firstMeeting_X0_firstHeldInSteps : GoodIn wsX0_firstMeeting wsX0_firstHeldInSteps := goodIn_r _ [7, 2, 8, 9, 10, 6, 11, 12, 13, 14, 15, 16, 17, 18, 19, 20, 21, 22, 23, 24, 25, 26, 27, 28, 29, 30, 31, 32, 36, 37, 38, 39, 40, 41, 42, 43, 44, 45] (by decide +kernel) (by decide +kernel)
set_option maxRecDepth 20000 in
theorem gX0_firstMeeting_X0_firstHeldInSteps : GoodIn wsX0_firstMeeting (wsV RX0 153 RX0 yX0_firstHeldInSteps wsX0_firstHeldInSteps) := goodIn_app (goodIn_of _ (by decide +kernel)) ggX0_firstMeeting_X0_firstHeldInSteps
set_option maxRecDepth 20000 in
theorem ggX0_firstMeeting_X0_lengthOf : GoodIn wsX0_firstMeeting wsX0_lengthOf := goodIn_r _ [11, 12, 13, 14, 15, 6, 16, 17, 36, 37, 38, 39, 40, 41, 42, 43, 44, 45] (by decide +kernel) (by decide +kernel)
set_option maxRecDepth 20000 in
theorem gX0_firstMeeting_X0_lengthOf : GoodIn wsX0_firstMeeting (wsV RX0 68 RX0 yX0_lengthOf wsX0_lengthOf) := goodIn_app (goodIn_of _ (by decide +kernel)) ggX0_firstMeeting_X0_lengthOf
set_option maxRecDepth 20000 in
theorem ggX0_firstMeeting_X0_commonMultiple : GoodIn wsX0_firstMeeting wsX0_commonMultiple := goodIn_r _ [35, 22, 23, 6, 24, 25, 26, 27, 28] (by decide +kernel) (by decide +kernel)
set_option maxRecDepth 20000 in
theorem gX0_firstMeeting_X0_commonMultiple : GoodIn wsX0_firstMeeting (va_wsS RX0 157 yX0_commonMultiple wsX0_commonMultiple) := goodIn_app (goodIn_of _ (by decide +kernel)) ggX0_firstMeeting_X0_commonMultiple
theorem dX0_firstMeeting_0 : decode cX0_firstMeeting 0 = .ok (.lconst 0, 1) := by decide +kernel
theorem dX0_firstMeeting_1 : decode cX0_firstMeeting 1 = .ok (.lstore_n 2, 1) := by decide +kernel
theorem dX0_firstMeeting_2 : decode cX0_firstMeeting 2 = .ok (.lconst 1, 1) := by decide +kernel
theorem dX0_firstMeeting_3 : decode cX0_firstMeeting 3 = .ok (.lstore 4, 2) := by decide +kernel
theorem dX0_firstMeeting_5 : decode cX0_firstMeeting 5 = .ok (.iconst 0, 1) := by decide +kernel
theorem dX0_firstMeeting_6 : decode cX0_firstMeeting 6 = .ok (.istore 6, 2) := by decide +kernel
theorem dX0_firstMeeting_8 : decode cX0_firstMeeting 8 = .ok (.iload 6, 2) := by decide +kernel
theorem dX0_firstMeeting_10 : decode cX0_firstMeeting 10 = .ok (.aload_n 0, 1) := by decide +kernel
theorem dX0_firstMeeting_11 : decode cX0_firstMeeting 11 = .ok (.getfield 16, 3) := by decide +kernel
theorem dX0_firstMeeting_14 : decode cX0_firstMeeting 14 = .ok (.if_icmp .ge 54, 3) := by decide +kernel
theorem dX0_firstMeeting_17 : decode cX0_firstMeeting 17 = .ok (.iload_n 1, 1) := by decide +kernel
theorem dX0_firstMeeting_18 : decode cX0_firstMeeting 18 = .ok (.iload 6, 2) := by decide +kernel
theorem dX0_firstMeeting_20 : decode cX0_firstMeeting 20 = .ok (.iushr, 1) := by decide +kernel
theorem dX0_firstMeeting_21 : decode cX0_firstMeeting 21 = .ok (.iconst 1, 1) := by decide +kernel
theorem dX0_firstMeeting_22 : decode cX0_firstMeeting 22 = .ok (.iand, 1) := by decide +kernel
theorem dX0_firstMeeting_23 : decode cX0_firstMeeting 23 = .ok (.iconst 1, 1) := by decide +kernel
theorem dX0_firstMeeting_24 : decode cX0_firstMeeting 24 = .ok (.if_icmp .ne 38, 3) := by decide +kernel
theorem dX0_firstMeeting_27 : decode cX0_firstMeeting 27 = .ok (.aload_n 0, 1) := by decide +kernel
theorem dX0_firstMeeting_28 : decode cX0_firstMeeting 28 = .ok (.iload 6, 2) := by decide +kernel
theorem dX0_firstMeeting_30 : decode cX0_firstMeeting 30 = .ok (.lload_n 2, 1) := by decide +kernel
theorem dX0_firstMeeting_31 : decode cX0_firstMeeting 31 = .ok (.lload 4, 2) := by decide +kernel
theorem dX0_firstMeeting_33 : decode cX0_firstMeeting 33 = .ok (.invokevirtual 153, 3) := by decide +kernel
theorem dX0_firstMeeting_36 : decode cX0_firstMeeting 36 = .ok (.lstore_n 2, 1) := by decide +kernel
theorem dX0_firstMeeting_37 : decode cX0_firstMeeting 37 = .ok (.lload_n 2, 1) := by decide +kernel
theorem dX0_firstMeeting_38 : decode cX0_firstMeeting 38 = .ok (.ldc2_w 96, 3) := by decide +kernel
theorem dX0_firstMeeting_41 : decode cX0_firstMeeting 41 = .ok (.lcmp, 1) := by decide +kernel
theorem dX0_firstMeeting_42 : decode cX0_firstMeeting 42 = .ok (.ifCond .ne 7, 3) := by decide +kernel
theorem dX0_firstMeeting_45 : decode cX0_firstMeeting 45 = .ok (.ldc2_w 96, 3) := by decide +kernel
theorem dX0_firstMeeting_48 : decode cX0_firstMeeting 48 = .ok (.lreturn, 1) := by decide +kernel
theorem dX0_firstMeeting_49 : decode cX0_firstMeeting 49 = .ok (.lload 4, 2) := by decide +kernel
theorem dX0_firstMeeting_51 : decode cX0_firstMeeting 51 = .ok (.aload_n 0, 1) := by decide +kernel
theorem dX0_firstMeeting_52 : decode cX0_firstMeeting 52 = .ok (.iload 6, 2) := by decide +kernel
theorem dX0_firstMeeting_54 : decode cX0_firstMeeting 54 = .ok (.invokevirtual 68, 3) := by decide +kernel
theorem dX0_firstMeeting_57 : decode cX0_firstMeeting 57 = .ok (.invokestatic 157, 3) := by decide +kernel
theorem dX0_firstMeeting_60 : decode cX0_firstMeeting 60 = .ok (.lstore 4, 2) := by decide +kernel
theorem dX0_firstMeeting_62 : decode cX0_firstMeeting 62 = .ok (.iinc 6 1, 3) := by decide +kernel
theorem dX0_firstMeeting_65 : decode cX0_firstMeeting 65 = .ok (.goto (-57), 3) := by decide +kernel
theorem dX0_firstMeeting_68 : decode cX0_firstMeeting 68 = .ok (.lload_n 2, 1) := by decide +kernel
theorem dX0_firstMeeting_69 : decode cX0_firstMeeting 69 = .ok (.lreturn, 1) := by decide +kernel
set_option maxRecDepth 20000 in
theorem ggX0_firstHeldInSteps_X0_lengthOf : GoodIn wsX0_firstHeldInSteps wsX0_lengthOf := goodIn_r _ [6, 7, 8, 9, 10, 5, 11, 12, 28, 29, 30, 31, 32, 33, 34, 35, 36, 37] (by decide +kernel) (by decide +kernel)
set_option maxRecDepth 20000 in
theorem gX0_firstHeldInSteps_X0_lengthOf : GoodIn wsX0_firstHeldInSteps (wsV RX0 68 RX0 yX0_lengthOf wsX0_lengthOf) := goodIn_app (goodIn_of _ (by decide +kernel)) ggX0_firstHeldInSteps_X0_lengthOf
set_option maxRecDepth 20000 in
theorem ggX0_firstHeldInSteps_X0_isOn : GoodIn wsX0_firstHeldInSteps wsX0_isOn := goodIn_r _ [16, 2, 3, 4, 5, 6, 7, 8, 9, 10, 11, 12, 17, 18, 19, 20, 21, 22, 23, 24, 25, 26, 27, 28, 29, 30, 31, 32, 33, 34, 35, 36, 37] (by decide +kernel) (by decide +kernel)
set_option maxRecDepth 20000 in
theorem gX0_firstHeldInSteps_X0_isOn : GoodIn wsX0_firstHeldInSteps (wsV RX0 78 RX0 yX0_isOn wsX0_isOn) := goodIn_app (goodIn_of _ (by decide +kernel)) ggX0_firstHeldInSteps_X0_isOn
theorem dX0_firstHeldInSteps_0 : decode cX0_firstHeldInSteps 0 = .ok (.aload_n 0, 1) := by decide +kernel
theorem dX0_firstHeldInSteps_1 : decode cX0_firstHeldInSteps 1 = .ok (.iload_n 1, 1) := by decide +kernel
theorem dX0_firstHeldInSteps_2 : decode cX0_firstHeldInSteps 2 = .ok (.invokevirtual 68, 3) := by decide +kernel
theorem dX0_firstHeldInSteps_5 : decode cX0_firstHeldInSteps 5 = .ok (.istore 6, 2) := by decide +kernel
theorem dX0_firstHeldInSteps_7 : decode cX0_firstHeldInSteps 7 = .ok (.iconst 0, 1) := by decide +kernel
theorem dX0_firstHeldInSteps_8 : decode cX0_firstHeldInSteps 8 = .ok (.istore 7, 2) := by decide +kernel
theorem dX0_firstHeldInSteps_10 : decode cX0_firstHeldInSteps 10 = .ok (.iload 7, 2) := by decide +kernel
theorem dX0_firstHeldInSteps_12 : decode cX0_firstHeldInSteps 12 = .ok (.iload 6, 2) := by decide +kernel
theorem dX0_firstHeldInSteps_14 : decode cX0_firstHeldInSteps 14 = .ok (.if_icmp .ge 32, 3) := by decide +kernel
theorem dX0_firstHeldInSteps_17 : decode cX0_firstHeldInSteps 17 = .ok (.lload_n 2, 1) := by decide +kernel
theorem dX0_firstHeldInSteps_18 : decode cX0_firstHeldInSteps 18 = .ok (.iload 7, 2) := by decide +kernel
theorem dX0_firstHeldInSteps_20 : decode cX0_firstHeldInSteps 20 = .ok (.i2l, 1) := by decide +kernel
theorem dX0_firstHeldInSteps_21 : decode cX0_firstHeldInSteps 21 = .ok (.lload 4, 2) := by decide +kernel
theorem dX0_firstHeldInSteps_23 : decode cX0_firstHeldInSteps 23 = .ok (.lmul, 1) := by decide +kernel
theorem dX0_firstHeldInSteps_24 : decode cX0_firstHeldInSteps 24 = .ok (.ladd, 1) := by decide +kernel
theorem dX0_firstHeldInSteps_25 : decode cX0_firstHeldInSteps 25 = .ok (.lstore 8, 2) := by decide +kernel
theorem dX0_firstHeldInSteps_27 : decode cX0_firstHeldInSteps 27 = .ok (.aload_n 0, 1) := by decide +kernel
theorem dX0_firstHeldInSteps_28 : decode cX0_firstHeldInSteps 28 = .ok (.iload_n 1, 1) := by decide +kernel
theorem dX0_firstHeldInSteps_29 : decode cX0_firstHeldInSteps 29 = .ok (.lload 8, 2) := by decide +kernel
theorem dX0_firstHeldInSteps_31 : decode cX0_firstHeldInSteps 31 = .ok (.invokevirtual 78, 3) := by decide +kernel
theorem dX0_firstHeldInSteps_34 : decode cX0_firstHeldInSteps 34 = .ok (.ifCond .eq 6, 3) := by decide +kernel
theorem dX0_firstHeldInSteps_37 : decode cX0_firstHeldInSteps 37 = .ok (.lload 8, 2) := by decide +kernel
theorem dX0_firstHeldInSteps_39 : decode cX0_firstHeldInSteps 39 = .ok (.lreturn, 1) := by decide +kernel
theorem dX0_firstHeldInSteps_40 : decode cX0_firstHeldInSteps 40 = .ok (.iinc 7 1, 3) := by decide +kernel
theorem dX0_firstHeldInSteps_43 : decode cX0_firstHeldInSteps 43 = .ok (.goto (-33), 3) := by decide +kernel
theorem dX0_firstHeldInSteps_46 : decode cX0_firstHeldInSteps 46 = .ok (.ldc2_w 96, 3) := by decide +kernel
theorem dX0_firstHeldInSteps_49 : decode cX0_firstHeldInSteps 49 = .ok (.lreturn, 1) := by decide +kernel
set_option maxRecDepth 20000 in
theorem ggX0_commonLength_X0_lengthOf : GoodIn wsX0_commonLength wsX0_lengthOf := goodIn_r _ [6, 7, 8, 9, 10, 5, 11, 12, 23, 24, 25, 26, 27, 28, 29, 30, 31, 32] (by decide +kernel) (by decide +kernel)
set_option maxRecDepth 20000 in
theorem gX0_commonLength_X0_lengthOf : GoodIn wsX0_commonLength (wsV RX0 68 RX0 yX0_lengthOf wsX0_lengthOf) := goodIn_app (goodIn_of _ (by decide +kernel)) ggX0_commonLength_X0_lengthOf
set_option maxRecDepth 20000 in
theorem ggX0_commonLength_X0_commonMultiple : GoodIn wsX0_commonLength wsX0_commonMultiple := goodIn_r _ [15, 16, 17, 5, 18, 19, 20, 21, 22] (by decide +kernel) (by decide +kernel)
set_option maxRecDepth 20000 in
theorem gX0_commonLength_X0_commonMultiple : GoodIn wsX0_commonLength (va_wsS RX0 157 yX0_commonMultiple wsX0_commonMultiple) := goodIn_app (goodIn_of _ (by decide +kernel)) ggX0_commonLength_X0_commonMultiple
theorem dX0_commonLength_0 : decode cX0_commonLength 0 = .ok (.lconst 1, 1) := by decide +kernel
theorem dX0_commonLength_1 : decode cX0_commonLength 1 = .ok (.lstore_n 2, 1) := by decide +kernel
theorem dX0_commonLength_2 : decode cX0_commonLength 2 = .ok (.iconst 0, 1) := by decide +kernel
theorem dX0_commonLength_3 : decode cX0_commonLength 3 = .ok (.istore 4, 2) := by decide +kernel
theorem dX0_commonLength_5 : decode cX0_commonLength 5 = .ok (.iload 4, 2) := by decide +kernel
theorem dX0_commonLength_7 : decode cX0_commonLength 7 = .ok (.aload_n 0, 1) := by decide +kernel
theorem dX0_commonLength_8 : decode cX0_commonLength 8 = .ok (.getfield 16, 3) := by decide +kernel
theorem dX0_commonLength_11 : decode cX0_commonLength 11 = .ok (.if_icmp .ge 30, 3) := by decide +kernel
theorem dX0_commonLength_14 : decode cX0_commonLength 14 = .ok (.iload_n 1, 1) := by decide +kernel
theorem dX0_commonLength_15 : decode cX0_commonLength 15 = .ok (.iload 4, 2) := by decide +kernel
theorem dX0_commonLength_17 : decode cX0_commonLength 17 = .ok (.iushr, 1) := by decide +kernel
theorem dX0_commonLength_18 : decode cX0_commonLength 18 = .ok (.iconst 1, 1) := by decide +kernel
theorem dX0_commonLength_19 : decode cX0_commonLength 19 = .ok (.iand, 1) := by decide +kernel
theorem dX0_commonLength_20 : decode cX0_commonLength 20 = .ok (.iconst 1, 1) := by decide +kernel
theorem dX0_commonLength_21 : decode cX0_commonLength 21 = .ok (.if_icmp .ne 14, 3) := by decide +kernel
theorem dX0_commonLength_24 : decode cX0_commonLength 24 = .ok (.lload_n 2, 1) := by decide +kernel
theorem dX0_commonLength_25 : decode cX0_commonLength 25 = .ok (.aload_n 0, 1) := by decide +kernel
theorem dX0_commonLength_26 : decode cX0_commonLength 26 = .ok (.iload 4, 2) := by decide +kernel
theorem dX0_commonLength_28 : decode cX0_commonLength 28 = .ok (.invokevirtual 68, 3) := by decide +kernel
theorem dX0_commonLength_31 : decode cX0_commonLength 31 = .ok (.invokestatic 157, 3) := by decide +kernel
theorem dX0_commonLength_34 : decode cX0_commonLength 34 = .ok (.lstore_n 2, 1) := by decide +kernel
theorem dX0_commonLength_35 : decode cX0_commonLength 35 = .ok (.iinc 4 1, 3) := by decide +kernel
theorem dX0_commonLength_38 : decode cX0_commonLength 38 = .ok (.goto (-33), 3) := by decide +kernel
theorem dX0_commonLength_41 : decode cX0_commonLength 41 = .ok (.lload_n 2, 1) := by decide +kernel
theorem dX0_commonLength_42 : decode cX0_commonLength 42 = .ok (.lreturn, 1) := by decide +kernel
set_option maxRecDepth 20000 in
theorem ggX0_commonMultiple_X0_modulo : GoodIn wsX0_commonMultiple wsX0_modulo := goodIn_r _ [4, 5, 6, 7, 8] (by decide +kernel) (by decide +kernel)
set_option maxRecDepth 20000 in
theorem gX0_commonMultiple_X0_modulo : GoodIn wsX0_commonMultiple (va_wsS RX0 71 yX0_modulo wsX0_modulo) := goodIn_app (goodIn_of _ (by decide +kernel)) ggX0_commonMultiple_X0_modulo
theorem dX0_commonMultiple_0 : decode cX0_commonMultiple 0 = .ok (.iconst 1, 1) := by decide +kernel
theorem dX0_commonMultiple_1 : decode cX0_commonMultiple 1 = .ok (.istore_n 3, 1) := by decide +kernel
theorem dX0_commonMultiple_2 : decode cX0_commonMultiple 2 = .ok (.iload_n 3, 1) := by decide +kernel
theorem dX0_commonMultiple_3 : decode cX0_commonMultiple 3 = .ok (.iload_n 2, 1) := by decide +kernel
theorem dX0_commonMultiple_4 : decode cX0_commonMultiple 4 = .ok (.if_icmp .ge 28, 3) := by decide +kernel
theorem dX0_commonMultiple_7 : decode cX0_commonMultiple 7 = .ok (.lload_n 0, 1) := by decide +kernel
theorem dX0_commonMultiple_8 : decode cX0_commonMultiple 8 = .ok (.iload_n 3, 1) := by decide +kernel
theorem dX0_commonMultiple_9 : decode cX0_commonMultiple 9 = .ok (.i2l, 1) := by decide +kernel
theorem dX0_commonMultiple_10 : decode cX0_commonMultiple 10 = .ok (.lmul, 1) := by decide +kernel
theorem dX0_commonMultiple_11 : decode cX0_commonMultiple 11 = .ok (.iload_n 2, 1) := by decide +kernel
theorem dX0_commonMultiple_12 : decode cX0_commonMultiple 12 = .ok (.i2l, 1) := by decide +kernel
theorem dX0_commonMultiple_13 : decode cX0_commonMultiple 13 = .ok (.invokestatic 71, 3) := by decide +kernel
theorem dX0_commonMultiple_16 : decode cX0_commonMultiple 16 = .ok (.lconst 0, 1) := by decide +kernel
theorem dX0_commonMultiple_17 : decode cX0_commonMultiple 17 = .ok (.lcmp, 1) := by decide +kernel
theorem dX0_commonMultiple_18 : decode cX0_commonMultiple 18 = .ok (.ifCond .ne 8, 3) := by decide +kernel
theorem dX0_commonMultiple_21 : decode cX0_commonMultiple 21 = .ok (.lload_n 0, 1) := by decide +kernel
theorem dX0_commonMultiple_22 : decode cX0_commonMultiple 22 = .ok (.iload_n 3, 1) := by decide +kernel
theorem dX0_commonMultiple_23 : decode cX0_commonMultiple 23 = .ok (.i2l, 1) := by decide +kernel
theorem dX0_commonMultiple_24 : decode cX0_commonMultiple 24 = .ok (.lmul, 1) := by decide +kernel
theorem dX0_commonMultiple_25 : decode cX0_commonMultiple 25 = .ok (.lreturn, 1) := by decide +kernel
theorem dX0_commonMultiple_26 : decode cX0_commonMultiple 26 = .ok (.iinc 3 1, 3) := by decide +kernel
theorem dX0_commonMultiple_29 : decode cX0_commonMultiple 29 = .ok (.goto (-27), 3) := by decide +kernel
theorem dX0_commonMultiple_32 : decode cX0_commonMultiple 32 = .ok (.lload_n 0, 1) := by decide +kernel
theorem dX0_commonMultiple_33 : decode cX0_commonMultiple 33 = .ok (.iload_n 2, 1) := by decide +kernel
theorem dX0_commonMultiple_34 : decode cX0_commonMultiple 34 = .ok (.i2l, 1) := by decide +kernel
theorem dX0_commonMultiple_35 : decode cX0_commonMultiple 35 = .ok (.lmul, 1) := by decide +kernel
theorem dX0_commonMultiple_36 : decode cX0_commonMultiple 36 = .ok (.lreturn, 1) := by decide +kernel
theorem dX0_moonParts_0 : decode cX0_moonParts 0 = .ok (.lload_n 1, 1) := by decide +kernel
theorem dX0_moonParts_1 : decode cX0_moonParts 1 = .ok (.aload_n 0, 1) := by decide +kernel
theorem dX0_moonParts_2 : decode cX0_moonParts 2 = .ok (.getfield 26, 3) := by decide +kernel
theorem dX0_moonParts_5 : decode cX0_moonParts 5 = .ok (.i2l, 1) := by decide +kernel
theorem dX0_moonParts_6 : decode cX0_moonParts 6 = .ok (.ladd, 1) := by decide +kernel
theorem dX0_moonParts_7 : decode cX0_moonParts 7 = .ok (.aload_n 0, 1) := by decide +kernel
theorem dX0_moonParts_8 : decode cX0_moonParts 8 = .ok (.getfield 23, 3) := by decide +kernel
theorem dX0_moonParts_11 : decode cX0_moonParts 11 = .ok (.i2l, 1) := by decide +kernel
theorem dX0_moonParts_12 : decode cX0_moonParts 12 = .ok (.lmul, 1) := by decide +kernel
theorem dX0_moonParts_13 : decode cX0_moonParts 13 = .ok (.lreturn, 1) := by decide +kernel
set_option maxRecDepth 20000 in
theorem ggX0_lunarDayOf_X0_moonParts : GoodIn wsX0_lunarDayOf wsX0_moonParts := goodIn_r _ [7, 8, 2, 22, 23, 24, 25, 26, 27, 28, 29, 30, 31] (by decide +kernel) (by decide +kernel)
set_option maxRecDepth 20000 in
theorem gX0_lunarDayOf_X0_moonParts : GoodIn wsX0_lunarDayOf (wsV RX0 117 RX0 yX0_moonParts wsX0_moonParts) := goodIn_app (goodIn_of _ (by decide +kernel)) ggX0_lunarDayOf_X0_moonParts
set_option maxRecDepth 20000 in
theorem ggX0_lunarDayOf_X0_modulo : GoodIn wsX0_lunarDayOf wsX0_modulo := goodIn_r _ [11, 12, 13, 14, 15] (by decide +kernel) (by decide +kernel)
set_option maxRecDepth 20000 in
theorem gX0_lunarDayOf_X0_modulo : GoodIn wsX0_lunarDayOf (va_wsS RX0 71 yX0_modulo wsX0_modulo) := goodIn_app (goodIn_of _ (by decide +kernel)) ggX0_lunarDayOf_X0_modulo
set_option maxRecDepth 20000 in
theorem ggX0_lunarDayOf_X0_divide : GoodIn wsX0_lunarDayOf wsX0_divide := goodIn_r _ [18, 19, 20, 14, 21] (by decide +kernel) (by decide +kernel)
set_option maxRecDepth 20000 in
theorem gX0_lunarDayOf_X0_divide : GoodIn wsX0_lunarDayOf (va_wsS RX0 120 yX0_divide wsX0_divide) := goodIn_app (goodIn_of _ (by decide +kernel)) ggX0_lunarDayOf_X0_divide
theorem dX0_lunarDayOf_0 : decode cX0_lunarDayOf 0 = .ok (.aload_n 0, 1) := by decide +kernel
theorem dX0_lunarDayOf_1 : decode cX0_lunarDayOf 1 = .ok (.lload_n 1, 1) := by decide +kernel
theorem dX0_lunarDayOf_2 : decode cX0_lunarDayOf 2 = .ok (.invokevirtual 117, 3) := by decide +kernel
theorem dX0_lunarDayOf_5 : decode cX0_lunarDayOf 5 = .ok (.aload_n 0, 1) := by decide +kernel
theorem dX0_lunarDayOf_6 : decode cX0_lunarDayOf 6 = .ok (.getfield 20, 3) := by decide +kernel
theorem dX0_lunarDayOf_9 : decode cX0_lunarDayOf 9 = .ok (.i2l, 1) := by decide +kernel
theorem dX0_lunarDayOf_10 : decode cX0_lunarDayOf 10 = .ok (.invokestatic 71, 3) := by decide +kernel
theorem dX0_lunarDayOf_13 : decode cX0_lunarDayOf 13 = .ok (.aload_n 0, 1) := by decide +kernel
theorem dX0_lunarDayOf_14 : decode cX0_lunarDayOf 14 = .ok (.getfield 23, 3) := by decide +kernel
theorem dX0_lunarDayOf_17 : decode cX0_lunarDayOf 17 = .ok (.i2l, 1) := by decide +kernel
theorem dX0_lunarDayOf_18 : decode cX0_lunarDayOf 18 = .ok (.invokestatic 120, 3) := by decide +kernel
theorem dX0_lunarDayOf_21 : decode cX0_lunarDayOf 21 = .ok (.lreturn, 1) := by decide +kernel
set_option maxRecDepth 20000 in
theorem ggX0_yearBegin_X0_divide : GoodIn wsX0_yearBegin wsX0_divide := goodIn_r _ [8, 9, 10, 11, 12] (by decide +kernel) (by decide +kernel)
set_option maxRecDepth 20000 in
theorem gX0_yearBegin_X0_divide : GoodIn wsX0_yearBegin (va_wsS RX0 120 yX0_divide wsX0_divide) := goodIn_app (goodIn_of _ (by decide +kernel)) ggX0_yearBegin_X0_divide
theorem dX0_yearBegin_0 : decode cX0_yearBegin 0 = .ok (.aload_n 0, 1) := by decide +kernel
theorem dX0_yearBegin_1 : decode cX0_yearBegin 1 = .ok (.getfield 29, 3) := by decide +kernel
theorem dX0_yearBegin_4 : decode cX0_yearBegin 4 = .ok (.iload_n 1, 1) := by decide +kernel
theorem dX0_yearBegin_5 : decode cX0_yearBegin 5 = .ok (.imul, 1) := by decide +kernel
theorem dX0_yearBegin_6 : decode cX0_yearBegin 6 = .ok (.aload_n 0, 1) := by decide +kernel
theorem dX0_yearBegin_7 : decode cX0_yearBegin 7 = .ok (.getfield 32, 3) := by decide +kernel
theorem dX0_yearBegin_10 : decode cX0_yearBegin 10 = .ok (.iload_n 1, 1) := by decide +kernel
theorem dX0_yearBegin_11 : decode cX0_yearBegin 11 = .ok (.imul, 1) := by decide +kernel
theorem dX0_yearBegin_12 : decode cX0_yearBegin 12 = .ok (.aload_n 0, 1) := by decide +kernel
theorem dX0_yearBegin_13 : decode cX0_yearBegin 13 = .ok (.getfield 35, 3) := by decide +kernel
theorem dX0_yearBegin_16 : decode cX0_yearBegin 16 = .ok (.iadd, 1) := by decide +kernel
theorem dX0_yearBegin_17 : decode cX0_yearBegin 17 = .ok (.i2l, 1) := by decide +kernel
theorem dX0_yearBegin_18 : decode cX0_yearBegin 18 = .ok (.aload_n 0, 1) := by decide +kernel
theorem dX0_yearBegin_19 : decode cX0_yearBegin 19 = .ok (.getfield 38, 3) := by decide +kernel
theorem dX0_yearBegin_22 : decode cX0_yearBegin 22 = .ok (.i2l, 1) := by decide +kernel
theorem dX0_yearBegin_23 : decode cX0_yearBegin 23 = .ok (.invokestatic 120, 3) := by decide +kernel
theorem dX0_yearBegin_26 : decode cX0_yearBegin 26 = .ok (.l2i, 1) := by decide +kernel
theorem dX0_yearBegin_27 : decode cX0_yearBegin 27 = .ok (.iadd, 1) := by decide +kernel
theorem dX0_yearBegin_28 : decode cX0_yearBegin 28 = .ok (.ireturn, 1) := by decide +kernel
set_option maxRecDepth 20000 in
theorem ggX0_yearOf_X0_divide : GoodIn wsX0_yearOf wsX0_divide := goodIn_r _ [8, 9, 10, 11, 12] (by decide +kernel) (by decide +kernel)
set_option maxRecDepth 20000 in
theorem gX0_yearOf_X0_divide : GoodIn wsX0_yearOf (va_wsS RX0 120 yX0_divide wsX0_divide) := goodIn_app (goodIn_of _ (by decide +kernel)) ggX0_yearOf_X0_divide
theorem dX0_yearOf_0 : decode cX0_yearOf 0 = .ok (.aload_n 0, 1) := by decide +kernel
theorem dX0_yearOf_1 : decode cX0_yearOf 1 = .ok (.getfield 38, 3) := by decide +kernel
theorem dX0_yearOf_4 : decode cX0_yearOf 4 = .ok (.i2l, 1) := by decide +kernel
theorem dX0_yearOf_5 : decode cX0_yearOf 5 = .ok (.iload_n 1, 1) := by decide +kernel
theorem dX0_yearOf_6 : decode cX0_yearOf 6 = .ok (.iconst 1, 1) := by decide +kernel
theorem dX0_yearOf_7 : decode cX0_yearOf 7 = .ok (.iadd, 1) := by decide +kernel
theorem dX0_yearOf_8 : decode cX0_yearOf 8 = .ok (.i2l, 1) := by decide +kernel
theorem dX0_yearOf_9 : decode cX0_yearOf 9 = .ok (.lmul, 1) := by decide +kernel
theorem dX0_yearOf_10 : decode cX0_yearOf 10 = .ok (.lconst 1, 1) := by decide +kernel
theorem dX0_yearOf_11 : decode cX0_yearOf 11 = .ok (.lsub, 1) := by decide +kernel
theorem dX0_yearOf_12 : decode cX0_yearOf 12 = .ok (.aload_n 0, 1) := by decide +kernel
theorem dX0_yearOf_13 : decode cX0_yearOf 13 = .ok (.getfield 35, 3) := by decide +kernel
theorem dX0_yearOf_16 : decode cX0_yearOf 16 = .ok (.i2l, 1) := by decide +kernel
theorem dX0_yearOf_17 : decode cX0_yearOf 17 = .ok (.lsub, 1) := by decide +kernel
theorem dX0_yearOf_18 : decode cX0_yearOf 18 = .ok (.lstore_n 2, 1) := by decide +kernel
theorem dX0_yearOf_19 : decode cX0_yearOf 19 = .ok (.lload_n 2, 1) := by decide +kernel
theorem dX0_yearOf_20 : decode cX0_yearOf 20 = .ok (.aload_n 0, 1) := by decide +kernel
theorem dX0_yearOf_21 : decode cX0_yearOf 21 = .ok (.getfield 29, 3) := by decide +kernel
theorem dX0_yearOf_24 : decode cX0_yearOf 24 = .ok (.i2l, 1) := by decide +kernel
theorem dX0_yearOf_25 : decode cX0_yearOf 25 = .ok (.aload_n 0, 1) := by decide +kernel
theorem dX0_yearOf_26 : decode cX0_yearOf 26 = .ok (.getfield 38, 3) := by decide +kernel
theorem dX0_yearOf_29 : decode cX0_yearOf 29 = .ok (.i2l, 1) := by decide +kernel
theorem dX0_yearOf_30 : decode cX0_yearOf 30 = .ok (.lmul, 1) := by decide +kernel
theorem dX0_yearOf_31 : decode cX0_yearOf 31 = .ok (.aload_n 0, 1) := by decide +kernel
theorem dX0_yearOf_32 : decode cX0_yearOf 32 = .ok (.getfield 32, 3) := by decide +kernel
theorem dX0_yearOf_35 : decode cX0_yearOf 35 = .ok (.i2l, 1) := by decide +kernel
theorem dX0_yearOf_36 : decode cX0_yearOf 36 = .ok (.ladd, 1) := by decide +kernel
theorem dX0_yearOf_37 : decode cX0_yearOf 37 = .ok (.invokestatic 120, 3) := by decide +kernel
theorem dX0_yearOf_40 : decode cX0_yearOf 40 = .ok (.l2i, 1) := by decide +kernel
theorem dX0_yearOf_41 : decode cX0_yearOf 41 = .ok (.ireturn, 1) := by decide +kernel
set_option maxRecDepth 20000 in
theorem ggX0_hasLeapDay_X0_modulo : GoodIn wsX0_hasLeapDay wsX0_modulo := goodIn_r _ [7, 8, 9, 10, 11] (by decide +kernel) (by decide +kernel)
set_option maxRecDepth 20000 in
theorem gX0_hasLeapDay_X0_modulo : GoodIn wsX0_hasLeapDay (va_wsS RX0 71 yX0_modulo wsX0_modulo) := goodIn_app (goodIn_of _ (by decide +kernel)) ggX0_hasLeapDay_X0_modulo
theorem dX0_hasLeapDay_0 : decode cX0_hasLeapDay 0 = .ok (.aload_n 0, 1) := by decide +kernel
theorem dX0_hasLeapDay_1 : decode cX0_hasLeapDay 1 = .ok (.getfield 32, 3) := by decide +kernel
theorem dX0_hasLeapDay_4 : decode cX0_hasLeapDay 4 = .ok (.iload_n 1, 1) := by decide +kernel
theorem dX0_hasLeapDay_5 : decode cX0_hasLeapDay 5 = .ok (.imul, 1) := by decide +kernel
theorem dX0_hasLeapDay_6 : decode cX0_hasLeapDay 6 = .ok (.aload_n 0, 1) := by decide +kernel
theorem dX0_hasLeapDay_7 : decode cX0_hasLeapDay 7 = .ok (.getfield 35, 3) := by decide +kernel
theorem dX0_hasLeapDay_10 : decode cX0_hasLeapDay 10 = .ok (.iadd, 1) := by decide +kernel
theorem dX0_hasLeapDay_11 : decode cX0_hasLeapDay 11 = .ok (.i2l, 1) := by decide +kernel
theorem dX0_hasLeapDay_12 : decode cX0_hasLeapDay 12 = .ok (.aload_n 0, 1) := by decide +kernel
theorem dX0_hasLeapDay_13 : decode cX0_hasLeapDay 13 = .ok (.getfield 38, 3) := by decide +kernel
theorem dX0_hasLeapDay_16 : decode cX0_hasLeapDay 16 = .ok (.i2l, 1) := by decide +kernel
theorem dX0_hasLeapDay_17 : decode cX0_hasLeapDay 17 = .ok (.invokestatic 71, 3) := by decide +kernel
theorem dX0_hasLeapDay_20 : decode cX0_hasLeapDay 20 = .ok (.aload_n 0, 1) := by decide +kernel
theorem dX0_hasLeapDay_21 : decode cX0_hasLeapDay 21 = .ok (.getfield 38, 3) := by decide +kernel
theorem dX0_hasLeapDay_24 : decode cX0_hasLeapDay 24 = .ok (.aload_n 0, 1) := by decide +kernel
theorem dX0_hasLeapDay_25 : decode cX0_hasLeapDay 25 = .ok (.getfield 32, 3) := by decide +kernel
theorem dX0_hasLeapDay_28 : decode cX0_hasLeapDay 28 = .ok (.isub, 1) := by decide +kernel
theorem dX0_hasLeapDay_29 : decode cX0_hasLeapDay 29 = .ok (.i2l, 1) := by decide +kernel
theorem dX0_hasLeapDay_30 : decode cX0_hasLeapDay 30 = .ok (.lcmp, 1) := by decide +kernel
theorem dX0_hasLeapDay_31 : decode cX0_hasLeapDay 31 = .ok (.ifCond .lt 7, 3) := by decide +kernel
theorem dX0_hasLeapDay_34 : decode cX0_hasLeapDay 34 = .ok (.iconst 1, 1) := by decide +kernel
theorem dX0_hasLeapDay_35 : decode cX0_hasLeapDay 35 = .ok (.goto 4, 3) := by decide +kernel
theorem dX0_hasLeapDay_38 : decode cX0_hasLeapDay 38 = .ok (.iconst 0, 1) := by decide +kernel
theorem dX0_hasLeapDay_39 : decode cX0_hasLeapDay 39 = .ok (.ireturn, 1) := by decide +kernel
theorem dX0_isWithin_0 : decode cX0_isWithin 0 = .ok (.iload_n 0, 1) := by decide +kernel
theorem dX0_isWithin_1 : decode cX0_isWithin 1 = .ok (.iload_n 1, 1) := by decide +kernel
theorem dX0_isWithin_2 : decode cX0_isWithin 2 = .ok (.if_icmp .lt 12, 3) := by decide +kernel
theorem dX0_isWithin_5 : decode cX0_isWithin 5 = .ok (.iload_n 0, 1) := by decide +kernel
theorem dX0_isWithin_6 : decode cX0_isWithin 6 = .ok (.iload_n 2, 1) := by decide +kernel
theorem dX0_isWithin_7 : decode cX0_isWithin 7 = .ok (.if_icmp .gt 7, 3) := by decide +kernel
theorem dX0_isWithin_10 : decode cX0_isWithin 10 = .ok (.iconst 1, 1) := by decide +kernel
theorem dX0_isWithin_11 : decode cX0_isWithin 11 = .ok (.goto 4, 3) := by decide +kernel
theorem dX0_isWithin_14 : decode cX0_isWithin 14 = .ok (.iconst 0, 1) := by decide +kernel
theorem dX0_isWithin_15 : decode cX0_isWithin 15 = .ok (.ireturn, 1) := by decide +kernel
set_option maxRecDepth 20000 in
theorem ggX0_divide_J9_floorDiv_f86c9 : GoodIn wsX0_divide wsJ9_floorDiv_f86c9 := goodIn_r _ [4] (by decide +kernel) (by decide +kernel)
set_option maxRecDepth 20000 in
theorem gX0_divide_J9_floorDiv_f86c9 : GoodIn wsX0_divide (va_wsS RX0 161 yJ9_floorDiv_f86c9 wsJ9_floorDiv_f86c9) := goodIn_app (goodIn_of _ (by decide +kernel)) ggX0_divide_J9_floorDiv_f86c9
theorem dX0_divide_0 : decode cX0_divide 0 = .ok (.lload_n 2, 1) := by decide +kernel
theorem dX0_divide_1 : decode cX0_divide 1 = .ok (.lconst 0, 1) := by decide +kernel
theorem dX0_divide_2 : decode cX0_divide 2 = .ok (.lcmp, 1) := by decide +kernel
theorem dX0_divide_3 : decode cX0_divide 3 = .ok (.ifCond .le 11, 3) := by decide +kernel
theorem dX0_divide_6 : decode cX0_divide 6 = .ok (.lload_n 0, 1) := by decide +kernel
theorem dX0_divide_7 : decode cX0_divide 7 = .ok (.lload_n 2, 1) := by decide +kernel
theorem dX0_divide_8 : decode cX0_divide 8 = .ok (.invokestatic 161, 3) := by decide +kernel
theorem dX0_divide_11 : decode cX0_divide 11 = .ok (.goto 4, 3) := by decide +kernel
theorem dX0_divide_14 : decode cX0_divide 14 = .ok (.lconst 0, 1) := by decide +kernel
theorem dX0_divide_15 : decode cX0_divide 15 = .ok (.lreturn, 1) := by decide +kernel
set_option maxRecDepth 20000 in
theorem ggX0_modulo_J9_floorMod_f86c9 : GoodIn wsX0_modulo wsJ9_floorMod_f86c9 := goodIn_r _ [4] (by decide +kernel) (by decide +kernel)
set_option maxRecDepth 20000 in
theorem gX0_modulo_J9_floorMod_f86c9 : GoodIn wsX0_modulo (va_wsS RX0 166 yJ9_floorMod_f86c9 wsJ9_floorMod_f86c9) := goodIn_app (goodIn_of _ (by decide +kernel)) ggX0_modulo_J9_floorMod_f86c9
theorem dX0_modulo_0 : decode cX0_modulo 0 = .ok (.lload_n 2, 1) := by decide +kernel
theorem dX0_modulo_1 : decode cX0_modulo 1 = .ok (.lconst 0, 1) := by decide +kernel
theorem dX0_modulo_2 : decode cX0_modulo 2 = .ok (.lcmp, 1) := by decide +kernel
theorem dX0_modulo_3 : decode cX0_modulo 3 = .ok (.ifCond .le 11, 3) := by decide +kernel
theorem dX0_modulo_6 : decode cX0_modulo 6 = .ok (.lload_n 0, 1) := by decide +kernel
theorem dX0_modulo_7 : decode cX0_modulo 7 = .ok (.lload_n 2, 1) := by decide +kernel
theorem dX0_modulo_8 : decode cX0_modulo 8 = .ok (.invokestatic 166, 3) := by decide +kernel
theorem dX0_modulo_11 : decode cX0_modulo 11 = .ok (.goto 4, 3) := by decide +kernel
theorem dX0_modulo_14 : decode cX0_modulo 14 = .ok (.lconst 0, 1) := by decide +kernel
theorem dX0_modulo_15 : decode cX0_modulo 15 = .ok (.lreturn, 1) := by decide +kernel
theorem dJ6_bitCount_0f7a4_0 : decode cJ6_bitCount_0f7a4 0 = .ok (.iload_n 0, 1) := by decide +kernel
theorem dJ6_bitCount_0f7a4_1 : decode cJ6_bitCount_0f7a4 1 = .ok (.iload_n 0, 1) := by decide +kernel
theorem dJ6_bitCount_0f7a4_2 : decode cJ6_bitCount_0f7a4 2 = .ok (.iconst 1, 1) := by decide +kernel
theorem dJ6_bitCount_0f7a4_3 : decode cJ6_bitCount_0f7a4 3 = .ok (.iushr, 1) := by decide +kernel
theorem dJ6_bitCount_0f7a4_4 : decode cJ6_bitCount_0f7a4 4 = .ok (.ldc_w 265, 3) := by decide +kernel
theorem dJ6_bitCount_0f7a4_7 : decode cJ6_bitCount_0f7a4 7 = .ok (.iand, 1) := by decide +kernel
theorem dJ6_bitCount_0f7a4_8 : decode cJ6_bitCount_0f7a4 8 = .ok (.isub, 1) := by decide +kernel
theorem dJ6_bitCount_0f7a4_9 : decode cJ6_bitCount_0f7a4 9 = .ok (.istore_n 0, 1) := by decide +kernel
theorem dJ6_bitCount_0f7a4_10 : decode cJ6_bitCount_0f7a4 10 = .ok (.iload_n 0, 1) := by decide +kernel
theorem dJ6_bitCount_0f7a4_11 : decode cJ6_bitCount_0f7a4 11 = .ok (.ldc_w 266, 3) := by decide +kernel
theorem dJ6_bitCount_0f7a4_14 : decode cJ6_bitCount_0f7a4 14 = .ok (.iand, 1) := by decide +kernel
theorem dJ6_bitCount_0f7a4_15 : decode cJ6_bitCount_0f7a4 15 = .ok (.iload_n 0, 1) := by decide +kernel
theorem dJ6_bitCount_0f7a4_16 : decode cJ6_bitCount_0f7a4 16 = .ok (.iconst 2, 1) := by decide +kernel
theorem dJ6_bitCount_0f7a4_17 : decode cJ6_bitCount_0f7a4 17 = .ok (.iushr, 1) := by decide +kernel
theorem dJ6_bitCount_0f7a4_18 : decode cJ6_bitCount_0f7a4 18 = .ok (.ldc_w 266, 3) := by decide +kernel
theorem dJ6_bitCount_0f7a4_21 : decode cJ6_bitCount_0f7a4 21 = .ok (.iand, 1) := by decide +kernel
theorem dJ6_bitCount_0f7a4_22 : decode cJ6_bitCount_0f7a4 22 = .ok (.iadd, 1) := by decide +kernel
theorem dJ6_bitCount_0f7a4_23 : decode cJ6_bitCount_0f7a4 23 = .ok (.istore_n 0, 1) := by decide +kernel
theorem dJ6_bitCount_0f7a4_24 : decode cJ6_bitCount_0f7a4 24 = .ok (.iload_n 0, 1) := by decide +kernel
theorem dJ6_bitCount_0f7a4_25 : decode cJ6_bitCount_0f7a4 25 = .ok (.iload_n 0, 1) := by decide +kernel
theorem dJ6_bitCount_0f7a4_26 : decode cJ6_bitCount_0f7a4 26 = .ok (.iconst 4, 1) := by decide +kernel
theorem dJ6_bitCount_0f7a4_27 : decode cJ6_bitCount_0f7a4 27 = .ok (.iushr, 1) := by decide +kernel
theorem dJ6_bitCount_0f7a4_28 : decode cJ6_bitCount_0f7a4 28 = .ok (.iadd, 1) := by decide +kernel
theorem dJ6_bitCount_0f7a4_29 : decode cJ6_bitCount_0f7a4 29 = .ok (.ldc_w 267, 3) := by decide +kernel
theorem dJ6_bitCount_0f7a4_32 : decode cJ6_bitCount_0f7a4 32 = .ok (.iand, 1) := by decide +kernel
theorem dJ6_bitCount_0f7a4_33 : decode cJ6_bitCount_0f7a4 33 = .ok (.istore_n 0, 1) := by decide +kernel
theorem dJ6_bitCount_0f7a4_34 : decode cJ6_bitCount_0f7a4 34 = .ok (.iload_n 0, 1) := by decide +kernel
theorem dJ6_bitCount_0f7a4_35 : decode cJ6_bitCount_0f7a4 35 = .ok (.iload_n 0, 1) := by decide +kernel
theorem dJ6_bitCount_0f7a4_36 : decode cJ6_bitCount_0f7a4 36 = .ok (.bipush 8, 2) := by decide +kernel
theorem dJ6_bitCount_0f7a4_38 : decode cJ6_bitCount_0f7a4 38 = .ok (.iushr, 1) := by decide +kernel
theorem dJ6_bitCount_0f7a4_39 : decode cJ6_bitCount_0f7a4 39 = .ok (.iadd, 1) := by decide +kernel
theorem dJ6_bitCount_0f7a4_40 : decode cJ6_bitCount_0f7a4 40 = .ok (.istore_n 0, 1) := by decide +kernel
theorem dJ6_bitCount_0f7a4_41 : decode cJ6_bitCount_0f7a4 41 = .ok (.iload_n 0, 1) := by decide +kernel
theorem dJ6_bitCount_0f7a4_42 : decode cJ6_bitCount_0f7a4 42 = .ok (.iload_n 0, 1) := by decide +kernel
theorem dJ6_bitCount_0f7a4_43 : decode cJ6_bitCount_0f7a4 43 = .ok (.bipush 16, 2) := by decide +kernel
theorem dJ6_bitCount_0f7a4_45 : decode cJ6_bitCount_0f7a4 45 = .ok (.iushr, 1) := by decide +kernel
theorem dJ6_bitCount_0f7a4_46 : decode cJ6_bitCount_0f7a4 46 = .ok (.iadd, 1) := by decide +kernel
theorem dJ6_bitCount_0f7a4_47 : decode cJ6_bitCount_0f7a4 47 = .ok (.istore_n 0, 1) := by decide +kernel
theorem dJ6_bitCount_0f7a4_48 : decode cJ6_bitCount_0f7a4 48 = .ok (.iload_n 0, 1) := by decide +kernel
theorem dJ6_bitCount_0f7a4_49 : decode cJ6_bitCount_0f7a4 49 = .ok (.bipush 63, 2) := by decide +kernel
theorem dJ6_bitCount_0f7a4_51 : decode cJ6_bitCount_0f7a4 51 = .ok (.iand, 1) := by decide +kernel
theorem dJ6_bitCount_0f7a4_52 : decode cJ6_bitCount_0f7a4 52 = .ok (.ireturn, 1) := by decide +kernel
theorem dJ9_floorDiv_f86c9_0 : decode cJ9_floorDiv_f86c9 0 = .ok (.lload_n 0, 1) := by decide +kernel
theorem dJ9_floorDiv_f86c9_1 : decode cJ9_floorDiv_f86c9 1 = .ok (.lload_n 2, 1) := by decide +kernel
theorem dJ9_floorDiv_f86c9_2 : decode cJ9_floorDiv_f86c9 2 = .ok (.ldiv, 1) := by decide +kernel
theorem dJ9_floorDiv_f86c9_3 : decode cJ9_floorDiv_f86c9 3 = .ok (.lstore 4, 2) := by decide +kernel
theorem dJ9_floorDiv_f86c9_5 : decode cJ9_floorDiv_f86c9 5 = .ok (.lload_n 0, 1) := by decide +kernel
theorem dJ9_floorDiv_f86c9_6 : decode cJ9_floorDiv_f86c9 6 = .ok (.lload_n 2, 1) := by decide +kernel
theorem dJ9_floorDiv_f86c9_7 : decode cJ9_floorDiv_f86c9 7 = .ok (.lxor, 1) := by decide +kernel
theorem dJ9_floorDiv_f86c9_8 : decode cJ9_floorDiv_f86c9 8 = .ok (.lconst 0, 1) := by decide +kernel
theorem dJ9_floorDiv_f86c9_9 : decode cJ9_floorDiv_f86c9 9 = .ok (.lcmp, 1) := by decide +kernel
theorem dJ9_floorDiv_f86c9_10 : decode cJ9_floorDiv_f86c9 10 = .ok (.ifCond .ge 17, 3) := by decide +kernel
theorem dJ9_floorDiv_f86c9_13 : decode cJ9_floorDiv_f86c9 13 = .ok (.lload 4, 2) := by decide +kernel
theorem dJ9_floorDiv_f86c9_15 : decode cJ9_floorDiv_f86c9 15 = .ok (.lload_n 2, 1) := by decide +kernel
theorem dJ9_floorDiv_f86c9_16 : decode cJ9_floorDiv_f86c9 16 = .ok (.lmul, 1) := by decide +kernel
theorem dJ9_floorDiv_f86c9_17 : decode cJ9_floorDiv_f86c9 17 = .ok (.lload_n 0, 1) := by decide +kernel
theorem dJ9_floorDiv_f86c9_18 : decode cJ9_floorDiv_f86c9 18 = .ok (.lcmp, 1) := by decide +kernel
theorem dJ9_floorDiv_f86c9_19 : decode cJ9_floorDiv_f86c9 19 = .ok (.ifCond .eq 8, 3) := by decide +kernel
theorem dJ9_floorDiv_f86c9_22 : decode cJ9_floorDiv_f86c9 22 = .ok (.lload 4, 2) := by decide +kernel
theorem dJ9_floorDiv_f86c9_24 : decode cJ9_floorDiv_f86c9 24 = .ok (.lconst 1, 1) := by decide +kernel
theorem dJ9_floorDiv_f86c9_25 : decode cJ9_floorDiv_f86c9 25 = .ok (.lsub, 1) := by decide +kernel
theorem dJ9_floorDiv_f86c9_26 : decode cJ9_floorDiv_f86c9 26 = .ok (.lreturn, 1) := by decide +kernel
theorem dJ9_floorDiv_f86c9_27 : decode cJ9_floorDiv_f86c9 27 = .ok (.lload 4, 2) := by decide +kernel
theorem dJ9_floorDiv_f86c9_29 : decode cJ9_floorDiv_f86c9 29 = .ok (.lreturn, 1) := by decide +kernel
theorem dJ9_floorMod_f86c9_0 : decode cJ9_floorMod_f86c9 0 = .ok (.lload_n 0, 1) := by decide +kernel
theorem dJ9_floorMod_f86c9_1 : decode cJ9_floorMod_f86c9 1 = .ok (.lload_n 2, 1) := by decide +kernel
theorem dJ9_floorMod_f86c9_2 : decode cJ9_floorMod_f86c9 2 = .ok (.lrem, 1) := by decide +kernel
theorem dJ9_floorMod_f86c9_3 : decode cJ9_floorMod_f86c9 3 = .ok (.lstore 4, 2) := by decide +kernel
theorem dJ9_floorMod_f86c9_5 : decode cJ9_floorMod_f86c9 5 = .ok (.lload_n 0, 1) := by decide +kernel
theorem dJ9_floorMod_f86c9_6 : decode cJ9_floorMod_f86c9 6 = .ok (.lload_n 2, 1) := by decide +kernel
theorem dJ9_floorMod_f86c9_7 : decode cJ9_floorMod_f86c9 7 = .ok (.lxor, 1) := by decide +kernel
theorem dJ9_floorMod_f86c9_8 : decode cJ9_floorMod_f86c9 8 = .ok (.lconst 0, 1) := by decide +kernel
theorem dJ9_floorMod_f86c9_9 : decode cJ9_floorMod_f86c9 9 = .ok (.lcmp, 1) := by decide +kernel
theorem dJ9_floorMod_f86c9_10 : decode cJ9_floorMod_f86c9 10 = .ok (.ifCond .ge 15, 3) := by decide +kernel
theorem dJ9_floorMod_f86c9_13 : decode cJ9_floorMod_f86c9 13 = .ok (.lload 4, 2) := by decide +kernel
theorem dJ9_floorMod_f86c9_15 : decode cJ9_floorMod_f86c9 15 = .ok (.lconst 0, 1) := by decide +kernel
theorem dJ9_floorMod_f86c9_16 : decode cJ9_floorMod_f86c9 16 = .ok (.lcmp, 1) := by decide +kernel
theorem dJ9_floorMod_f86c9_17 : decode cJ9_floorMod_f86c9 17 = .ok (.ifCond .eq 8, 3) := by decide +kernel
theorem dJ9_floorMod_f86c9_20 : decode cJ9_floorMod_f86c9 20 = .ok (.lload 4, 2) := by decide +kernel
theorem dJ9_floorMod_f86c9_22 : decode cJ9_floorMod_f86c9 22 = .ok (.lload_n 2, 1) := by decide +kernel
theorem dJ9_floorMod_f86c9_23 : decode cJ9_floorMod_f86c9 23 = .ok (.ladd, 1) := by decide +kernel
theorem dJ9_floorMod_f86c9_24 : decode cJ9_floorMod_f86c9 24 = .ok (.lreturn, 1) := by decide +kernel
theorem dJ9_floorMod_f86c9_25 : decode cJ9_floorMod_f86c9 25 = .ok (.lload 4, 2) := by decide +kernel
theorem dJ9_floorMod_f86c9_27 : decode cJ9_floorMod_f86c9 27 = .ok (.lreturn, 1) := by decide +kernel
theorem dL_cell_0 : decode cL_cell 0 = .ok (.iload_n 1, 1) := by decide +kernel
theorem dL_cell_1 : decode cL_cell 1 = .ok (.aload_n 0, 1) := by decide +kernel
theorem dL_cell_2 : decode cL_cell 2 = .ok (.arraylength, 1) := by decide +kernel
theorem dL_cell_3 : decode cL_cell 3 = .ok (.if_icmp .ge 9, 3) := by decide +kernel
theorem dL_cell_6 : decode cL_cell 6 = .ok (.aload_n 0, 1) := by decide +kernel
theorem dL_cell_7 : decode cL_cell 7 = .ok (.iload_n 1, 1) := by decide +kernel
theorem dL_cell_8 : decode cL_cell 8 = .ok (.iaload, 1) := by decide +kernel
theorem dL_cell_9 : decode cL_cell 9 = .ok (.goto 18, 3) := by decide +kernel
theorem dL_cell_12 : decode cL_cell 12 = .ok (.sipush 7919, 3) := by decide +kernel
theorem dL_cell_15 : decode cL_cell 15 = .ok (.iload_n 1, 1) := by decide +kernel
theorem dL_cell_16 : decode cL_cell 16 = .ok (.sipush 241, 3) := by decide +kernel
theorem dL_cell_19 : decode cL_cell 19 = .ok (.iadd, 1) := by decide +kernel
theorem dL_cell_20 : decode cL_cell 20 = .ok (.imul, 1) := by decide +kernel
theorem dL_cell_21 : decode cL_cell 21 = .ok (.iload_n 1, 1) := by decide +kernel
theorem dL_cell_22 : decode cL_cell 22 = .ok (.sipush 1663, 3) := by decide +kernel
theorem dL_cell_25 : decode cL_cell 25 = .ok (.iadd, 1) := by decide +kernel
theorem dL_cell_26 : decode cL_cell 26 = .ok (.imul, 1) := by decide +kernel
theorem dL_cell_27 : decode cL_cell 27 = .ok (.ireturn, 1) := by decide +kernel
theorem dL_low_0 : decode cL_low 0 = .ok (.iload_n 0, 1) := by decide +kernel
theorem dL_low_1 : decode cL_low 1 = .ok (.ldc 7, 2) := by decide +kernel
theorem dL_low_3 : decode cL_low 3 = .ok (.iand, 1) := by decide +kernel
theorem dL_low_4 : decode cL_low 4 = .ok (.iload_n 1, 1) := by decide +kernel
theorem dL_low_5 : decode cL_low 5 = .ok (.irem, 1) := by decide +kernel
theorem dL_low_6 : decode cL_low 6 = .ok (.ireturn, 1) := by decide +kernel
set_option maxRecDepth 20000 in
theorem ggL_addMarket_X0_addMarket : GoodIn wsL_addMarket wsX0_addMarket := goodIn_ca (goodIn_ca (goodIn_r _ [8, 9, 10, 11, 12, 13, 14, 15, 7, 16, 17, 18, 19, 20, 21, 22, 23, 24, 25, 26, 27, 28, 29, 30, 31, 32, 33, 34, 35] (by decide +kernel) (by decide +kernel)) (goodIn_sub (fun _ h => List.mem_cons_of_mem _ (List.mem_append_left _ (List.mem_append_right _ h))) (by decide +kernel))) (goodIn_sub (fun _ h => List.mem_cons_of_mem _ (List.mem_append_right _ h)) (by decide +kernel))
set_option maxRecDepth 20000 in
theorem gL_addMarket_X0_addMarket : GoodIn wsL_addMarket (wsV RL 8 RX0 yX0_addMarket wsX0_addMarket) := goodIn_app (goodIn_of _ (by decide +kernel)) ggL_addMarket_X0_addMarket
theorem dL_addMarket_0 : decode cL_addMarket 0 = .ok (.aload_n 0, 1) := by decide +kernel
theorem dL_addMarket_1 : decode cL_addMarket 1 = .ok (.iload_n 1, 1) := by decide +kernel
theorem dL_addMarket_2 : decode cL_addMarket 2 = .ok (.iload_n 2, 1) := by decide +kernel
theorem dL_addMarket_3 : decode cL_addMarket 3 = .ok (.invokevirtual 8, 3) := by decide +kernel
theorem dL_addMarket_6 : decode cL_addMarket 6 = .ok (.ireturn, 1) := by decide +kernel
theorem dL_addMarket_7 : decode cL_addMarket 7 = .ok (.astore_n 3, 1) := by decide +kernel
theorem dL_addMarket_8 : decode cL_addMarket 8 = .ok (.ldc 16, 2) := by decide +kernel
theorem dL_addMarket_10 : decode cL_addMarket 10 = .ok (.ireturn, 1) := by decide +kernel
theorem dL_addMarket_11 : decode cL_addMarket 11 = .ok (.astore_n 3, 1) := by decide +kernel
theorem dL_addMarket_12 : decode cL_addMarket 12 = .ok (.ldc 16, 2) := by decide +kernel
theorem dL_addMarket_14 : decode cL_addMarket 14 = .ok (.ireturn, 1) := by decide +kernel
set_option maxRecDepth 20000 in
theorem ggL_shift_X0_shift : GoodIn wsL_shift wsX0_shift := goodIn_ca (goodIn_ca (goodIn_r _ [8, 9, 10, 11, 12, 7, 13, 14, 15, 16, 17, 18, 19, 20, 21, 22, 23, 24, 25, 26, 27, 28, 29, 30, 31, 32, 33, 34, 35, 36, 37, 38, 39, 40, 41, 42, 43, 44, 45, 46, 47, 48, 49, 50, 51, 52, 53, 54] (by decide +kernel) (by decide +kernel)) (goodIn_sub (fun _ h => List.mem_cons_of_mem _ (List.mem_append_left _ (List.mem_append_right _ h))) (by decide +kernel))) (goodIn_sub (fun _ h => List.mem_cons_of_mem _ (List.mem_append_right _ h)) (by decide +kernel))
set_option maxRecDepth 20000 in
theorem gL_shift_X0_shift : GoodIn wsL_shift (wsV RL 19 RX0 yX0_shift wsX0_shift) := goodIn_app (goodIn_of _ (by decide +kernel)) ggL_shift_X0_shift
theorem dL_shift_0 : decode cL_shift 0 = .ok (.aload_n 0, 1) := by decide +kernel
theorem dL_shift_1 : decode cL_shift 1 = .ok (.iload_n 1, 1) := by decide +kernel
theorem dL_shift_2 : decode cL_shift 2 = .ok (.iload_n 2, 1) := by decide +kernel
theorem dL_shift_3 : decode cL_shift 3 = .ok (.invokevirtual 19, 3) := by decide +kernel
theorem dL_shift_6 : decode cL_shift 6 = .ok (.ireturn, 1) := by decide +kernel
theorem dL_shift_7 : decode cL_shift 7 = .ok (.astore_n 3, 1) := by decide +kernel
theorem dL_shift_8 : decode cL_shift 8 = .ok (.ldc 16, 2) := by decide +kernel
theorem dL_shift_10 : decode cL_shift 10 = .ok (.ireturn, 1) := by decide +kernel
theorem dL_shift_11 : decode cL_shift 11 = .ok (.astore_n 3, 1) := by decide +kernel
theorem dL_shift_12 : decode cL_shift 12 = .ok (.ldc 16, 2) := by decide +kernel
theorem dL_shift_14 : decode cL_shift 14 = .ok (.ireturn, 1) := by decide +kernel
set_option maxRecDepth 20000 in
theorem ggL_setMoon_X0_setMoon : GoodIn wsL_setMoon wsX0_setMoon := goodIn_ca (goodIn_r _ [7, 8, 9, 10, 11, 12, 6, 13, 14, 15, 16, 17, 18, 19, 20, 21, 22, 23, 24, 25, 26, 27, 28] (by decide +kernel) (by decide +kernel)) (goodIn_sub (fun _ h => List.mem_cons_of_mem _ (List.mem_append_right _ h)) (by decide +kernel))
set_option maxRecDepth 20000 in
theorem gL_setMoon_X0_setMoon : GoodIn wsL_setMoon (wsV RL 24 RX0 yX0_setMoon wsX0_setMoon) := goodIn_app (goodIn_of _ (by decide +kernel)) ggL_setMoon_X0_setMoon
theorem dL_setMoon_0 : decode cL_setMoon 0 = .ok (.aload_n 0, 1) := by decide +kernel
theorem dL_setMoon_1 : decode cL_setMoon 1 = .ok (.iload_n 1, 1) := by decide +kernel
theorem dL_setMoon_2 : decode cL_setMoon 2 = .ok (.iload_n 2, 1) := by decide +kernel
theorem dL_setMoon_3 : decode cL_setMoon 3 = .ok (.iload_n 3, 1) := by decide +kernel
theorem dL_setMoon_4 : decode cL_setMoon 4 = .ok (.invokevirtual 24, 3) := by decide +kernel
theorem dL_setMoon_7 : decode cL_setMoon 7 = .ok (.iconst 0, 1) := by decide +kernel
theorem dL_setMoon_8 : decode cL_setMoon 8 = .ok (.ireturn, 1) := by decide +kernel
theorem dL_setMoon_9 : decode cL_setMoon 9 = .ok (.astore 4, 2) := by decide +kernel
theorem dL_setMoon_11 : decode cL_setMoon 11 = .ok (.ldc 16, 2) := by decide +kernel
theorem dL_setMoon_13 : decode cL_setMoon 13 = .ok (.ireturn, 1) := by decide +kernel
set_option maxRecDepth 20000 in
theorem ggL_setYear_X0_setYear : GoodIn wsL_setYear wsX0_setYear := goodIn_ca (goodIn_r _ [7, 8, 9, 10, 11, 12, 13, 6, 14, 15, 16, 17, 18, 19, 20, 21, 22, 23, 24, 25, 26, 27, 28, 29] (by decide +kernel) (by decide +kernel)) (goodIn_sub (fun _ h => List.mem_cons_of_mem _ (List.mem_append_right _ h)) (by decide +kernel))
set_option maxRecDepth 20000 in
theorem gL_setYear_X0_setYear : GoodIn wsL_setYear (wsV RL 28 RX0 yX0_setYear wsX0_setYear) := goodIn_app (goodIn_of _ (by decide +kernel)) ggL_setYear_X0_setYear
theorem dL_setYear_0 : decode cL_setYear 0 = .ok (.aload_n 0, 1) := by decide +kernel
theorem dL_setYear_1 : decode cL_setYear 1 = .ok (.iload_n 1, 1) := by decide +kernel
theorem dL_setYear_2 : decode cL_setYear 2 = .ok (.iload_n 2, 1) := by decide +kernel
theorem dL_setYear_3 : decode cL_setYear 3 = .ok (.iload_n 3, 1) := by decide +kernel
theorem dL_setYear_4 : decode cL_setYear 4 = .ok (.iload 4, 2) := by decide +kernel
theorem dL_setYear_6 : decode cL_setYear 6 = .ok (.invokevirtual 28, 3) := by decide +kernel
theorem dL_setYear_9 : decode cL_setYear 9 = .ok (.iconst 0, 1) := by decide +kernel
theorem dL_setYear_10 : decode cL_setYear 10 = .ok (.ireturn, 1) := by decide +kernel
theorem dL_setYear_11 : decode cL_setYear 11 = .ok (.astore 5, 2) := by decide +kernel
theorem dL_setYear_13 : decode cL_setYear 13 = .ok (.ldc 16, 2) := by decide +kernel
theorem dL_setYear_15 : decode cL_setYear 15 = .ok (.ireturn, 1) := by decide +kernel
set_option maxRecDepth 20000 in
theorem ggL_dayOf_X0_dayOf : GoodIn wsL_dayOf wsX0_dayOf := goodIn_ca (goodIn_r _ [7, 8, 9, 10, 6, 11, 12, 13, 14, 15, 16, 17, 18, 19, 20, 21, 22, 23, 24, 25, 26, 27, 28, 29, 30, 31, 32, 33, 34, 35, 36, 37, 38, 39, 40, 41, 42, 43, 44, 45, 46, 47, 48, 49, 50, 51, 52, 53] (by decide +kernel) (by decide +kernel)) (goodIn_sub (fun _ h => List.mem_cons_of_mem _ (List.mem_append_right _ h)) (by decide +kernel))
set_option maxRecDepth 20000 in
theorem gL_dayOf_X0_dayOf : GoodIn wsL_dayOf (wsV RL 32 RX0 yX0_dayOf wsX0_dayOf) := goodIn_app (goodIn_of _ (by decide +kernel)) ggL_dayOf_X0_dayOf
theorem dL_dayOf_0 : decode cL_dayOf 0 = .ok (.aload_n 0, 1) := by decide +kernel
theorem dL_dayOf_1 : decode cL_dayOf 1 = .ok (.iload_n 1, 1) := by decide +kernel
theorem dL_dayOf_2 : decode cL_dayOf 2 = .ok (.iload_n 2, 1) := by decide +kernel
theorem dL_dayOf_3 : decode cL_dayOf 3 = .ok (.invokevirtual 32, 3) := by decide +kernel
theorem dL_dayOf_6 : decode cL_dayOf 6 = .ok (.ireturn, 1) := by decide +kernel
theorem dL_dayOf_7 : decode cL_dayOf 7 = .ok (.astore_n 3, 1) := by decide +kernel
theorem dL_dayOf_8 : decode cL_dayOf 8 = .ok (.ldc 35, 2) := by decide +kernel
theorem dL_dayOf_10 : decode cL_dayOf 10 = .ok (.ireturn, 1) := by decide +kernel
set_option maxRecDepth 20000 in
theorem ggL_period_X0_period : GoodIn wsL_period wsX0_period := goodIn_ca (goodIn_ca (goodIn_ca (goodIn_r _ [9, 10, 11, 12, 8, 13, 14, 15, 16, 17, 18, 19, 20, 21, 22, 23, 24, 25, 26, 27, 28, 29, 30, 31, 32, 33, 34, 35, 36, 37, 38, 39, 40, 41, 42, 43, 44, 45, 46, 47, 48, 49, 50, 51, 52, 53, 54, 55, 56, 57, 58, 59, 60, 61, 62, 63, 64, 65, 66, 67, 68, 69, 70, 71, 72, 73, 74, 75, 76, 77, 78, 79, 80, 81, 82, 83, 84, 85, 86, 87, 88, 89, 90, 91] (by decide +kernel) (by decide +kernel)) (goodIn_sub (fun _ h => List.mem_cons_of_mem _ (List.mem_append_left _ (List.mem_append_left _ (List.mem_append_right _ h)))) (by decide +kernel))) (goodIn_sub (fun _ h => List.mem_cons_of_mem _ (List.mem_append_left _ (List.mem_append_right _ h))) (by decide +kernel))) (goodIn_sub (fun _ h => List.mem_cons_of_mem _ (List.mem_append_right _ h)) (by decide +kernel))
set_option maxRecDepth 20000 in
theorem gL_period_X0_period : GoodIn wsL_period (wsV RL 36 RX0 yX0_period wsX0_period) := goodIn_app (goodIn_of _ (by decide +kernel)) ggL_period_X0_period
theorem dL_period_0 : decode cL_period 0 = .ok (.aload_n 0, 1) := by decide +kernel
theorem dL_period_1 : decode cL_period 1 = .ok (.iload_n 1, 1) := by decide +kernel
theorem dL_period_2 : decode cL_period 2 = .ok (.invokevirtual 36, 3) := by decide +kernel
theorem dL_period_5 : decode cL_period 5 = .ok (.ireturn, 1) := by decide +kernel
theorem dL_period_6 : decode cL_period 6 = .ok (.astore_n 2, 1) := by decide +kernel
theorem dL_period_7 : decode cL_period 7 = .ok (.ldc 16, 2) := by decide +kernel
theorem dL_period_9 : decode cL_period 9 = .ok (.ireturn, 1) := by decide +kernel
theorem dL_period_10 : decode cL_period 10 = .ok (.astore_n 2, 1) := by decide +kernel
theorem dL_period_11 : decode cL_period 11 = .ok (.ldc 16, 2) := by decide +kernel
theorem dL_period_13 : decode cL_period 13 = .ok (.ireturn, 1) := by decide +kernel
theorem dL_period_14 : decode cL_period 14 = .ok (.astore_n 2, 1) := by decide +kernel
theorem dL_period_15 : decode cL_period 15 = .ok (.iconst (-1), 1) := by decide +kernel
theorem dL_period_16 : decode cL_period 16 = .ok (.ireturn, 1) := by decide +kernel
set_option maxRecDepth 20000 in
theorem ggL_meeting_X0_meeting : GoodIn wsL_meeting wsX0_meeting := goodIn_ca (goodIn_ca (goodIn_ca (goodIn_r _ [10, 11, 12, 9, 13, 14, 15, 16, 17, 18, 19, 20, 21, 22, 23, 24, 25, 26, 27, 28, 29, 30, 31, 32, 33, 34, 35, 36, 37, 38, 39, 40, 41, 42, 43, 44, 45, 46, 47, 48, 49, 50, 51, 52, 53, 54, 55, 56, 57, 58, 59, 60, 61, 62, 63, 64, 65, 66, 67, 68, 69, 70, 71, 72, 73, 74, 75, 76, 77, 78, 79, 80, 81, 82, 83, 84, 85, 86, 87, 88, 89, 90, 91, 92, 93, 94, 95, 96, 97] (by decide +kernel) (by decide +kernel)) (goodIn_sub (fun _ h => List.mem_cons_of_mem _ (List.mem_append_left _ (List.mem_append_left _ (List.mem_append_right _ h)))) (by decide +kernel))) (goodIn_sub (fun _ h => List.mem_cons_of_mem _ (List.mem_append_left _ (List.mem_append_right _ h))) (by decide +kernel))) (goodIn_sub (fun _ h => List.mem_cons_of_mem _ (List.mem_append_right _ h)) (by decide +kernel))
set_option maxRecDepth 20000 in
theorem gL_meeting_X0_meeting : GoodIn wsL_meeting (wsV RL 40 RX0 yX0_meeting wsX0_meeting) := goodIn_app (goodIn_of _ (by decide +kernel)) ggL_meeting_X0_meeting
theorem dL_meeting_0 : decode cL_meeting 0 = .ok (.aload_n 0, 1) := by decide +kernel
end
section
theorem dL_meeting_1 : decode cL_meeting 1 = .ok (.iload_n 1, 1) := by decide +kernel
theorem dL_meeting_2 : decode cL_meeting 2 = .ok (.iload_n 2, 1) := by decide +kernel
theorem dL_meeting_3 : decode cL_meeting 3 = .ok (.invokevirtual 40, 3) := by decide +kernel
theorem dL_meeting_6 : decode cL_meeting 6 = .ok (.ireturn, 1) := by decide +kernel
theorem dL_meeting_7 : decode cL_meeting 7 = .ok (.astore_n 3, 1) := by decide +kernel
theorem dL_meeting_8 : decode cL_meeting 8 = .ok (.ldc 35, 2) := by decide +kernel
theorem dL_meeting_10 : decode cL_meeting 10 = .ok (.ireturn, 1) := by decide +kernel
theorem dL_meeting_11 : decode cL_meeting 11 = .ok (.astore_n 3, 1) := by decide +kernel
theorem dL_meeting_12 : decode cL_meeting 12 = .ok (.ldc 35, 2) := by decide +kernel
theorem dL_meeting_14 : decode cL_meeting 14 = .ok (.ireturn, 1) := by decide +kernel
theorem dL_meeting_15 : decode cL_meeting 15 = .ok (.astore_n 3, 1) := by decide +kernel
theorem dL_meeting_16 : decode cL_meeting 16 = .ok (.ldc 43, 2) := by decide +kernel
theorem dL_meeting_18 : decode cL_meeting 18 = .ok (.ireturn, 1) := by decide +kernel
set_option maxRecDepth 20000 in
theorem ggL_act_L_low : GoodIn wsL_act wsL_low := goodIn_r _ [4, 5] (by decide +kernel) (by decide +kernel)
set_option maxRecDepth 20000 in
theorem gL_act_L_low : GoodIn wsL_act (va_wsS RL 44 yL_low wsL_low) := goodIn_app (goodIn_of _ (by decide +kernel)) ggL_act_L_low
set_option maxRecDepth 20000 in
theorem ggL_act_L_addMarket : GoodIn wsL_act wsL_addMarket := goodIn_ca (goodIn_ca (goodIn_r _ [8, 9, 10, 11, 12, 13, 14, 15, 16, 17, 18, 19, 20, 21, 22, 23, 24, 25, 26, 27, 28, 29, 30, 31, 32, 33, 88, 89, 90, 91, 92, 93, 94, 95, 96, 97] (by decide +kernel) (by decide +kernel)) (goodIn_sub (fun _ h => List.mem_cons_of_mem _ (List.mem_append_left _ (List.mem_append_left _ (List.mem_append_right _ h)))) (by decide +kernel))) (goodIn_sub (fun _ h => List.mem_cons_of_mem _ (List.mem_append_left _ (List.mem_append_right _ h))) (by decide +kernel))
set_option maxRecDepth 20000 in
theorem gL_act_L_addMarket : GoodIn wsL_act (va_wsS RL 49 yL_addMarket wsL_addMarket) := goodIn_app (goodIn_of _ (by decide +kernel)) ggL_act_L_addMarket
set_option maxRecDepth 20000 in
theorem ggL_act_X0_markets : GoodIn wsL_act wsX0_markets := goodIn_r _ [37, 19, 88, 89, 90, 91, 92, 93, 94, 95, 96, 97] (by decide +kernel) (by decide +kernel)
set_option maxRecDepth 20000 in
theorem gL_act_X0_markets : GoodIn wsL_act (wsV RL 52 RX0 yX0_markets wsX0_markets) := goodIn_app (goodIn_of _ (by decide +kernel)) ggL_act_X0_markets
set_option maxRecDepth 20000 in
theorem ggL_act_L_shift : GoodIn wsL_act wsL_shift := goodIn_ca (goodIn_ca (goodIn_r _ [40, 41, 9, 11, 42, 43, 44, 15, 45, 21, 46, 47, 48, 49, 50, 51, 19, 22, 23, 24, 25, 26, 27, 28, 29, 52, 53, 54, 55, 30, 31, 32, 33, 20, 56, 57, 58, 59, 60, 61, 62, 63, 64, 65, 66, 88, 89, 90, 91, 92, 93, 94, 95, 96, 97] (by decide +kernel) (by decide +kernel)) (goodIn_sub (fun _ h => List.mem_cons_of_mem _ (List.mem_append_right _ h)) (by decide +kernel))) (goodIn_sub (fun _ h => List.mem_cons_of_mem _ (List.mem_append_left _ (List.mem_append_right _ h))) (by decide +kernel))
set_option maxRecDepth 20000 in
theorem gL_act_L_shift : GoodIn wsL_act (va_wsS RL 56 yL_shift wsL_shift) := goodIn_app (goodIn_of _ (by decide +kernel)) ggL_act_L_shift
set_option maxRecDepth 20000 in
theorem ggL_act_L_setMoon : GoodIn wsL_act wsL_setMoon := goodIn_ca (goodIn_r _ [69, 9, 11, 70, 71, 72, 15, 73, 74, 75, 76, 22, 23, 24, 25, 26, 27, 28, 29, 88, 89, 90, 91, 92, 93, 94, 95, 96, 97] (by decide +kernel) (by decide +kernel)) (goodIn_sub (fun _ h => List.mem_cons_of_mem _ (List.mem_append_left _ (List.mem_append_right _ h))) (by decide +kernel))
set_option maxRecDepth 20000 in
theorem gL_act_L_setMoon : GoodIn wsL_act (va_wsS RL 58 yL_setMoon wsL_setMoon) := goodIn_app (goodIn_of _ (by decide +kernel)) ggL_act_L_setMoon
set_option maxRecDepth 20000 in
theorem ggL_act_L_setYear : GoodIn wsL_act wsL_setYear := goodIn_ca (goodIn_r _ [79, 9, 11, 80, 81, 82, 15, 83, 84, 85, 86, 87, 22, 23, 24, 25, 26, 27, 28, 29, 88, 89, 90, 91, 92, 93, 94, 95, 96, 97] (by decide +kernel) (by decide +kernel)) (goodIn_sub (fun _ h => List.mem_cons_of_mem _ (List.mem_append_left _ (List.mem_append_right _ h))) (by decide +kernel))
set_option maxRecDepth 20000 in
theorem gL_act_L_setYear : GoodIn wsL_act (va_wsS RL 61 yL_setYear wsL_setYear) := goodIn_app (goodIn_of _ (by decide +kernel)) ggL_act_L_setYear
theorem dL_act_0 : decode cL_act 0 = .ok (.iload_n 1, 1) := by decide +kernel
theorem dL_act_1 : decode cL_act 1 = .ok (.bipush 24, 2) := by decide +kernel
theorem dL_act_3 : decode cL_act 3 = .ok (.ishr, 1) := by decide +kernel
theorem dL_act_4 : decode cL_act 4 = .ok (.bipush 9, 2) := by decide +kernel
theorem dL_act_6 : decode cL_act 6 = .ok (.invokestatic 44, 3) := by decide +kernel
theorem dL_act_9 : decode cL_act 9 = .ok (.ifCond .ne 7, 3) := by decide +kernel
theorem dL_act_12 : decode cL_act 12 = .ok (.iconst 1, 1) := by decide +kernel
theorem dL_act_13 : decode cL_act 13 = .ok (.goto 4, 3) := by decide +kernel
theorem dL_act_16 : decode cL_act 16 = .ok (.iconst 0, 1) := by decide +kernel
theorem dL_act_17 : decode cL_act 17 = .ok (.istore_n 2, 1) := by decide +kernel
theorem dL_act_18 : decode cL_act 18 = .ok (.iconst 1, 1) := by decide +kernel
theorem dL_act_19 : decode cL_act 19 = .ok (.iload_n 1, 1) := by decide +kernel
theorem dL_act_20 : decode cL_act 20 = .ok (.iconst 4, 1) := by decide +kernel
theorem dL_act_21 : decode cL_act 21 = .ok (.ishr, 1) := by decide +kernel
theorem dL_act_22 : decode cL_act 22 = .ok (.iload_n 2, 1) := by decide +kernel
theorem dL_act_23 : decode cL_act 23 = .ok (.ifCond .eq 8, 3) := by decide +kernel
theorem dL_act_26 : decode cL_act 26 = .ok (.bipush 62, 2) := by decide +kernel
theorem dL_act_28 : decode cL_act 28 = .ok (.goto 14, 3) := by decide +kernel
theorem dL_act_31 : decode cL_act 31 = .ok (.iconst 1, 1) := by decide +kernel
theorem dL_act_32 : decode cL_act 32 = .ok (.iload_n 1, 1) := by decide +kernel
theorem dL_act_33 : decode cL_act 33 = .ok (.bipush 14, 2) := by decide +kernel
theorem dL_act_35 : decode cL_act 35 = .ok (.ishr, 1) := by decide +kernel
theorem dL_act_36 : decode cL_act 36 = .ok (.bipush 59, 2) := by decide +kernel
theorem dL_act_38 : decode cL_act 38 = .ok (.invokestatic 44, 3) := by decide +kernel
theorem dL_act_41 : decode cL_act 41 = .ok (.iadd, 1) := by decide +kernel
theorem dL_act_42 : decode cL_act 42 = .ok (.invokestatic 44, 3) := by decide +kernel
theorem dL_act_45 : decode cL_act 45 = .ok (.iadd, 1) := by decide +kernel
theorem dL_act_46 : decode cL_act 46 = .ok (.istore_n 3, 1) := by decide +kernel
theorem dL_act_47 : decode cL_act 47 = .ok (.iload_n 1, 1) := by decide +kernel
theorem dL_act_48 : decode cL_act 48 = .ok (.bipush 7, 2) := by decide +kernel
theorem dL_act_50 : decode cL_act 50 = .ok (.invokestatic 44, 3) := by decide +kernel
theorem dL_act_53 : decode cL_act 53 = .ok (.tableswitch 272 0 5 #[39, 39, 39, 63, 111, 191], 39) := by decide +kernel
theorem dL_act_92 : decode cL_act 92 = .ok (.aload_n 0, 1) := by decide +kernel
theorem dL_act_93 : decode cL_act 93 = .ok (.iload_n 3, 1) := by decide +kernel
theorem dL_act_94 : decode cL_act 94 = .ok (.iload_n 1, 1) := by decide +kernel
theorem dL_act_95 : decode cL_act 95 = .ok (.bipush 9, 2) := by decide +kernel
theorem dL_act_97 : decode cL_act 97 = .ok (.ishr, 1) := by decide +kernel
theorem dL_act_98 : decode cL_act 98 = .ok (.iload_n 3, 1) := by decide +kernel
theorem dL_act_99 : decode cL_act 99 = .ok (.iload_n 2, 1) := by decide +kernel
theorem dL_act_100 : decode cL_act 100 = .ok (.ifCond .eq 7, 3) := by decide +kernel
theorem dL_act_103 : decode cL_act 103 = .ok (.iconst 1, 1) := by decide +kernel
theorem dL_act_104 : decode cL_act 104 = .ok (.goto 4, 3) := by decide +kernel
theorem dL_act_107 : decode cL_act 107 = .ok (.iconst 0, 1) := by decide +kernel
theorem dL_act_108 : decode cL_act 108 = .ok (.iadd, 1) := by decide +kernel
theorem dL_act_109 : decode cL_act 109 = .ok (.invokestatic 44, 3) := by decide +kernel
theorem dL_act_112 : decode cL_act 112 = .ok (.invokestatic 49, 3) := by decide +kernel
theorem dL_act_115 : decode cL_act 115 = .ok (.ireturn, 1) := by decide +kernel
theorem dL_act_116 : decode cL_act 116 = .ok (.aload_n 0, 1) := by decide +kernel
theorem dL_act_117 : decode cL_act 117 = .ok (.iload_n 1, 1) := by decide +kernel
theorem dL_act_118 : decode cL_act 118 = .ok (.iconst 5, 1) := by decide +kernel
theorem dL_act_119 : decode cL_act 119 = .ok (.ishr, 1) := by decide +kernel
theorem dL_act_120 : decode cL_act 120 = .ok (.iload_n 2, 1) := by decide +kernel
theorem dL_act_121 : decode cL_act 121 = .ok (.ifCond .eq 8, 3) := by decide +kernel
theorem dL_act_124 : decode cL_act 124 = .ok (.bipush 17, 2) := by decide +kernel
theorem dL_act_126 : decode cL_act 126 = .ok (.goto 9, 3) := by decide +kernel
theorem dL_act_129 : decode cL_act 129 = .ok (.aload_n 0, 1) := by decide +kernel
theorem dL_act_130 : decode cL_act 130 = .ok (.invokevirtual 52, 3) := by decide +kernel
theorem dL_act_133 : decode cL_act 133 = .ok (.iconst 1, 1) := by decide +kernel
theorem dL_act_134 : decode cL_act 134 = .ok (.iadd, 1) := by decide +kernel
theorem dL_act_135 : decode cL_act 135 = .ok (.invokestatic 44, 3) := by decide +kernel
theorem dL_act_138 : decode cL_act 138 = .ok (.iload_n 1, 1) := by decide +kernel
theorem dL_act_139 : decode cL_act 139 = .ok (.bipush 9, 2) := by decide +kernel
theorem dL_act_141 : decode cL_act 141 = .ok (.ishr, 1) := by decide +kernel
theorem dL_act_142 : decode cL_act 142 = .ok (.iload_n 2, 1) := by decide +kernel
theorem dL_act_143 : decode cL_act 143 = .ok (.ifCond .eq 9, 3) := by decide +kernel
theorem dL_act_146 : decode cL_act 146 = .ok (.sipush 140, 3) := by decide +kernel
theorem dL_act_149 : decode cL_act 149 = .ok (.goto 5, 3) := by decide +kernel
theorem dL_act_152 : decode cL_act 152 = .ok (.bipush 121, 2) := by decide +kernel
theorem dL_act_154 : decode cL_act 154 = .ok (.invokestatic 44, 3) := by decide +kernel
theorem dL_act_157 : decode cL_act 157 = .ok (.bipush 60, 2) := by decide +kernel
theorem dL_act_159 : decode cL_act 159 = .ok (.isub, 1) := by decide +kernel
theorem dL_act_160 : decode cL_act 160 = .ok (.invokestatic 56, 3) := by decide +kernel
theorem dL_act_163 : decode cL_act 163 = .ok (.ireturn, 1) := by decide +kernel
theorem dL_act_164 : decode cL_act 164 = .ok (.aload_n 0, 1) := by decide +kernel
theorem dL_act_165 : decode cL_act 165 = .ok (.iconst 1, 1) := by decide +kernel
theorem dL_act_166 : decode cL_act 166 = .ok (.iload_n 1, 1) := by decide +kernel
theorem dL_act_167 : decode cL_act 167 = .ok (.bipush 7, 2) := by decide +kernel
theorem dL_act_169 : decode cL_act 169 = .ok (.ishr, 1) := by decide +kernel
theorem dL_act_170 : decode cL_act 170 = .ok (.bipush 100, 2) := by decide +kernel
theorem dL_act_172 : decode cL_act 172 = .ok (.invokestatic 44, 3) := by decide +kernel
theorem dL_act_175 : decode cL_act 175 = .ok (.iadd, 1) := by decide +kernel
theorem dL_act_176 : decode cL_act 176 = .ok (.iload_n 2, 1) := by decide +kernel
theorem dL_act_177 : decode cL_act 177 = .ok (.ifCond .eq 7, 3) := by decide +kernel
theorem dL_act_180 : decode cL_act 180 = .ok (.iconst 1, 1) := by decide +kernel
theorem dL_act_181 : decode cL_act 181 = .ok (.goto 4, 3) := by decide +kernel
theorem dL_act_184 : decode cL_act 184 = .ok (.iconst 2, 1) := by decide +kernel
theorem dL_act_185 : decode cL_act 185 = .ok (.imul, 1) := by decide +kernel
theorem dL_act_186 : decode cL_act 186 = .ok (.iload_n 1, 1) := by decide +kernel
theorem dL_act_187 : decode cL_act 187 = .ok (.iconst 3, 1) := by decide +kernel
theorem dL_act_188 : decode cL_act 188 = .ok (.ishr, 1) := by decide +kernel
theorem dL_act_189 : decode cL_act 189 = .ok (.sipush 400, 3) := by decide +kernel
theorem dL_act_192 : decode cL_act 192 = .ok (.invokestatic 44, 3) := by decide +kernel
theorem dL_act_195 : decode cL_act 195 = .ok (.iadd, 1) := by decide +kernel
theorem dL_act_196 : decode cL_act 196 = .ok (.iconst 1, 1) := by decide +kernel
theorem dL_act_197 : decode cL_act 197 = .ok (.iload_n 1, 1) := by decide +kernel
theorem dL_act_198 : decode cL_act 198 = .ok (.bipush 7, 2) := by decide +kernel
theorem dL_act_200 : decode cL_act 200 = .ok (.ishr, 1) := by decide +kernel
theorem dL_act_201 : decode cL_act 201 = .ok (.iload_n 2, 1) := by decide +kernel
theorem dL_act_202 : decode cL_act 202 = .ok (.ifCond .eq 8, 3) := by decide +kernel
theorem dL_act_205 : decode cL_act 205 = .ok (.bipush 101, 2) := by decide +kernel
theorem dL_act_207 : decode cL_act 207 = .ok (.goto 5, 3) := by decide +kernel
theorem dL_act_210 : decode cL_act 210 = .ok (.bipush 100, 2) := by decide +kernel
theorem dL_act_212 : decode cL_act 212 = .ok (.invokestatic 44, 3) := by decide +kernel
theorem dL_act_215 : decode cL_act 215 = .ok (.iadd, 1) := by decide +kernel
theorem dL_act_216 : decode cL_act 216 = .ok (.iload_n 1, 1) := by decide +kernel
theorem dL_act_217 : decode cL_act 217 = .ok (.bipush 11, 2) := by decide +kernel
theorem dL_act_219 : decode cL_act 219 = .ok (.ishr, 1) := by decide +kernel
theorem dL_act_220 : decode cL_act 220 = .ok (.iload_n 2, 1) := by decide +kernel
theorem dL_act_221 : decode cL_act 221 = .ok (.ifCond .eq 9, 3) := by decide +kernel
theorem dL_act_224 : decode cL_act 224 = .ok (.sipush 2100, 3) := by decide +kernel
theorem dL_act_227 : decode cL_act 227 = .ok (.goto 6, 3) := by decide +kernel
theorem dL_act_230 : decode cL_act 230 = .ok (.sipush 2001, 3) := by decide +kernel
theorem dL_act_233 : decode cL_act 233 = .ok (.invokestatic 44, 3) := by decide +kernel
theorem dL_act_236 : decode cL_act 236 = .ok (.sipush 1000, 3) := by decide +kernel
theorem dL_act_239 : decode cL_act 239 = .ok (.isub, 1) := by decide +kernel
theorem dL_act_240 : decode cL_act 240 = .ok (.invokestatic 58, 3) := by decide +kernel
theorem dL_act_243 : decode cL_act 243 = .ok (.ireturn, 1) := by decide +kernel
theorem dL_act_244 : decode cL_act 244 = .ok (.iconst 1, 1) := by decide +kernel
theorem dL_act_245 : decode cL_act 245 = .ok (.iload_n 1, 1) := by decide +kernel
theorem dL_act_246 : decode cL_act 246 = .ok (.iconst 5, 1) := by decide +kernel
theorem dL_act_247 : decode cL_act 247 = .ok (.ishr, 1) := by decide +kernel
theorem dL_act_248 : decode cL_act 248 = .ok (.iload_n 2, 1) := by decide +kernel
theorem dL_act_249 : decode cL_act 249 = .ok (.ifCond .eq 9, 3) := by decide +kernel
theorem dL_act_252 : decode cL_act 252 = .ok (.sipush 402, 3) := by decide +kernel
theorem dL_act_255 : decode cL_act 255 = .ok (.goto 6, 3) := by decide +kernel
theorem dL_act_258 : decode cL_act 258 = .ok (.sipush 400, 3) := by decide +kernel
theorem dL_act_261 : decode cL_act 261 = .ok (.invokestatic 44, 3) := by decide +kernel
theorem dL_act_264 : decode cL_act 264 = .ok (.iadd, 1) := by decide +kernel
theorem dL_act_265 : decode cL_act 265 = .ok (.istore 4, 2) := by decide +kernel
theorem dL_act_267 : decode cL_act 267 = .ok (.aload_n 0, 1) := by decide +kernel
theorem dL_act_268 : decode cL_act 268 = .ok (.bipush 100, 2) := by decide +kernel
theorem dL_act_270 : decode cL_act 270 = .ok (.iload_n 1, 1) := by decide +kernel
theorem dL_act_271 : decode cL_act 271 = .ok (.bipush 9, 2) := by decide +kernel
theorem dL_act_273 : decode cL_act 273 = .ok (.ishr, 1) := by decide +kernel
theorem dL_act_274 : decode cL_act 274 = .ok (.iload_n 2, 1) := by decide +kernel
theorem dL_act_275 : decode cL_act 275 = .ok (.ifCond .eq 9, 3) := by decide +kernel
theorem dL_act_278 : decode cL_act 278 = .ok (.sipush 410, 3) := by decide +kernel
theorem dL_act_281 : decode cL_act 281 = .ok (.goto 6, 3) := by decide +kernel
theorem dL_act_284 : decode cL_act 284 = .ok (.sipush 401, 3) := by decide +kernel
theorem dL_act_287 : decode cL_act 287 = .ok (.invokestatic 44, 3) := by decide +kernel
theorem dL_act_290 : decode cL_act 290 = .ok (.iadd, 1) := by decide +kernel
theorem dL_act_291 : decode cL_act 291 = .ok (.iload_n 1, 1) := by decide +kernel
theorem dL_act_292 : decode cL_act 292 = .ok (.bipush 12, 2) := by decide +kernel
theorem dL_act_294 : decode cL_act 294 = .ok (.ishr, 1) := by decide +kernel
theorem dL_act_295 : decode cL_act 295 = .ok (.iload 4, 2) := by decide +kernel
theorem dL_act_297 : decode cL_act 297 = .ok (.iload_n 2, 1) := by decide +kernel
theorem dL_act_298 : decode cL_act 298 = .ok (.ifCond .eq 7, 3) := by decide +kernel
theorem dL_act_301 : decode cL_act 301 = .ok (.iconst 2, 1) := by decide +kernel
theorem dL_act_302 : decode cL_act 302 = .ok (.goto 4, 3) := by decide +kernel
theorem dL_act_305 : decode cL_act 305 = .ok (.iconst 1, 1) := by decide +kernel
theorem dL_act_306 : decode cL_act 306 = .ok (.iadd, 1) := by decide +kernel
theorem dL_act_307 : decode cL_act 307 = .ok (.invokestatic 44, 3) := by decide +kernel
theorem dL_act_310 : decode cL_act 310 = .ok (.iload_n 1, 1) := by decide +kernel
theorem dL_act_311 : decode cL_act 311 = .ok (.bipush 15, 2) := by decide +kernel
theorem dL_act_313 : decode cL_act 313 = .ok (.ishr, 1) := by decide +kernel
theorem dL_act_314 : decode cL_act 314 = .ok (.iload 4, 2) := by decide +kernel
theorem dL_act_316 : decode cL_act 316 = .ok (.invokestatic 44, 3) := by decide +kernel
theorem dL_act_319 : decode cL_act 319 = .ok (.iload 4, 2) := by decide +kernel
theorem dL_act_321 : decode cL_act 321 = .ok (.invokestatic 61, 3) := by decide +kernel
theorem dL_act_324 : decode cL_act 324 = .ok (.ireturn, 1) := by decide +kernel
theorem dL_act_325 : decode cL_act 325 = .ok (.aload_n 0, 1) := by decide +kernel
theorem dL_act_326 : decode cL_act 326 = .ok (.sipush 365, 3) := by decide +kernel
theorem dL_act_329 : decode cL_act 329 = .ok (.iload_n 2, 1) := by decide +kernel
theorem dL_act_330 : decode cL_act 330 = .ok (.ifCond .eq 7, 3) := by decide +kernel
theorem dL_act_333 : decode cL_act 333 = .ok (.iconst (-1), 1) := by decide +kernel
theorem dL_act_334 : decode cL_act 334 = .ok (.goto 5, 3) := by decide +kernel
theorem dL_act_337 : decode cL_act 337 = .ok (.bipush 97, 2) := by decide +kernel
theorem dL_act_339 : decode cL_act 339 = .ok (.iconst 0, 1) := by decide +kernel
theorem dL_act_340 : decode cL_act 340 = .ok (.sipush 400, 3) := by decide +kernel
theorem dL_act_343 : decode cL_act 343 = .ok (.invokestatic 61, 3) := by decide +kernel
theorem dL_act_346 : decode cL_act 346 = .ok (.ireturn, 1) := by decide +kernel
set_option maxRecDepth 20000 in
theorem ggL_areAlike_X0_markets : GoodIn wsL_areAlike wsX0_markets := goodIn_r _ [5, 6, 98, 99, 100, 101, 102, 103, 104, 105, 106, 107] (by decide +kernel) (by decide +kernel)
set_option maxRecDepth 20000 in
theorem gL_areAlike_X0_markets : GoodIn wsL_areAlike (wsV RL 52 RX0 yX0_markets wsX0_markets) := goodIn_app (goodIn_of _ (by decide +kernel)) ggL_areAlike_X0_markets
set_option maxRecDepth 20000 in
theorem ggL_areAlike_X0_heldOn : GoodIn wsL_areAlike wsX0_heldOn := goodIn_ca (goodIn_r _ [10, 11, 12, 4, 13, 14, 15, 16, 17, 18, 19, 20, 21, 22, 23, 24, 25, 26, 27, 6, 28, 29, 30, 31, 32, 33, 34, 35, 36, 37, 38, 39, 40, 41, 42, 43, 44, 45, 46, 47, 48, 49, 50, 51, 52, 98, 99, 100, 101, 102, 103, 104, 105, 106, 107] (by decide +kernel) (by decide +kernel)) (goodIn_sub (fun _ h => List.mem_cons_of_mem _ (List.mem_append_right _ h)) (by decide +kernel))
set_option maxRecDepth 20000 in
theorem gL_areAlike_X0_heldOn : GoodIn wsL_areAlike (wsV RL 64 RX0 yX0_heldOn wsX0_heldOn) := goodIn_app (goodIn_of _ (by decide +kernel)) ggL_areAlike_X0_heldOn
set_option maxRecDepth 20000 in
theorem ggL_areAlike_X0_month : GoodIn wsL_areAlike wsX0_month := goodIn_ca (goodIn_r _ [56, 57, 11, 12, 4, 13, 14, 15, 16, 17, 18, 19, 20, 21, 22, 23, 58, 59, 60, 61, 62, 63, 64, 65, 66, 67, 68, 47, 69, 98, 99, 100, 101, 102, 103, 104, 105, 106, 107] (by decide +kernel) (by decide +kernel)) (goodIn_sub (fun _ h => List.mem_cons_of_mem _ (List.mem_append_right _ h)) (by decide +kernel))
set_option maxRecDepth 20000 in
theorem gL_areAlike_X0_month : GoodIn wsL_areAlike (wsV RL 67 RX0 yX0_month wsX0_month) := goodIn_app (goodIn_of _ (by decide +kernel)) ggL_areAlike_X0_month
set_option maxRecDepth 20000 in
theorem ggL_areAlike_X0_lunarDay : GoodIn wsL_areAlike wsX0_lunarDay := goodIn_ca (goodIn_r _ [73, 11, 12, 4, 13, 14, 15, 16, 17, 18, 19, 20, 21, 22, 23, 74, 75, 76, 77, 57, 63, 58, 59, 60, 61, 62, 42, 43, 44, 45, 46, 47, 48, 64, 65, 66, 67, 68, 69, 98, 99, 100, 101, 102, 103, 104, 105, 106, 107] (by decide +kernel) (by decide +kernel)) (goodIn_sub (fun _ h => List.mem_cons_of_mem _ (List.mem_append_right _ h)) (by decide +kernel))
set_option maxRecDepth 20000 in
theorem gL_areAlike_X0_lunarDay : GoodIn wsL_areAlike (wsV RL 70 RX0 yX0_lunarDay wsX0_lunarDay) := goodIn_app (goodIn_of _ (by decide +kernel)) ggL_areAlike_X0_lunarDay
set_option maxRecDepth 20000 in
theorem ggL_areAlike_X0_year : GoodIn wsL_areAlike wsX0_year := goodIn_ca (goodIn_r _ [81, 11, 12, 4, 13, 14, 15, 16, 17, 18, 19, 20, 21, 22, 23, 82, 83, 84, 85, 86, 87, 88, 89, 64, 65, 66, 67, 68, 47, 69, 98, 99, 100, 101, 102, 103, 104, 105, 106, 107] (by decide +kernel) (by decide +kernel)) (goodIn_sub (fun _ h => List.mem_cons_of_mem _ (List.mem_append_right _ h)) (by decide +kernel))
set_option maxRecDepth 20000 in
theorem gL_areAlike_X0_year : GoodIn wsL_areAlike (wsV RL 73 RX0 yX0_year wsX0_year) := goodIn_app (goodIn_of _ (by decide +kernel)) ggL_areAlike_X0_year
set_option maxRecDepth 20000 in
theorem ggL_areAlike_X0_placeInYear : GoodIn wsL_areAlike wsX0_placeInYear := goodIn_ca (goodIn_r _ [93, 11, 12, 4, 13, 14, 15, 16, 17, 18, 19, 20, 21, 22, 23, 82, 83, 84, 85, 86, 87, 88, 89, 64, 65, 66, 67, 68, 47, 69, 94, 95, 96, 97, 98, 99, 100, 101, 102, 103, 104, 105, 106, 107] (by decide +kernel) (by decide +kernel)) (goodIn_sub (fun _ h => List.mem_cons_of_mem _ (List.mem_append_right _ h)) (by decide +kernel))
set_option maxRecDepth 20000 in
theorem gL_areAlike_X0_placeInYear : GoodIn wsL_areAlike (wsV RL 76 RX0 yX0_placeInYear wsX0_placeInYear) := goodIn_app (goodIn_of _ (by decide +kernel)) ggL_areAlike_X0_placeInYear
theorem dL_areAlike_0 : decode cL_areAlike 0 = .ok (.aload_n 0, 1) := by decide +kernel
theorem dL_areAlike_1 : decode cL_areAlike 1 = .ok (.invokevirtual 52, 3) := by decide +kernel
theorem dL_areAlike_4 : decode cL_areAlike 4 = .ok (.aload_n 1, 1) := by decide +kernel
theorem dL_areAlike_5 : decode cL_areAlike 5 = .ok (.invokevirtual 52, 3) := by decide +kernel
theorem dL_areAlike_8 : decode cL_areAlike 8 = .ok (.if_icmp .ne 72, 3) := by decide +kernel
theorem dL_areAlike_11 : decode cL_areAlike 11 = .ok (.aload_n 0, 1) := by decide +kernel
theorem dL_areAlike_12 : decode cL_areAlike 12 = .ok (.iload_n 2, 1) := by decide +kernel
theorem dL_areAlike_13 : decode cL_areAlike 13 = .ok (.invokevirtual 64, 3) := by decide +kernel
theorem dL_areAlike_16 : decode cL_areAlike 16 = .ok (.aload_n 1, 1) := by decide +kernel
theorem dL_areAlike_17 : decode cL_areAlike 17 = .ok (.iload_n 2, 1) := by decide +kernel
theorem dL_areAlike_18 : decode cL_areAlike 18 = .ok (.invokevirtual 64, 3) := by decide +kernel
theorem dL_areAlike_21 : decode cL_areAlike 21 = .ok (.if_icmp .ne 59, 3) := by decide +kernel
theorem dL_areAlike_24 : decode cL_areAlike 24 = .ok (.aload_n 0, 1) := by decide +kernel
theorem dL_areAlike_25 : decode cL_areAlike 25 = .ok (.iload_n 2, 1) := by decide +kernel
theorem dL_areAlike_26 : decode cL_areAlike 26 = .ok (.invokevirtual 67, 3) := by decide +kernel
theorem dL_areAlike_29 : decode cL_areAlike 29 = .ok (.aload_n 1, 1) := by decide +kernel
theorem dL_areAlike_30 : decode cL_areAlike 30 = .ok (.iload_n 2, 1) := by decide +kernel
theorem dL_areAlike_31 : decode cL_areAlike 31 = .ok (.invokevirtual 67, 3) := by decide +kernel
theorem dL_areAlike_34 : decode cL_areAlike 34 = .ok (.if_icmp .ne 46, 3) := by decide +kernel
theorem dL_areAlike_37 : decode cL_areAlike 37 = .ok (.aload_n 0, 1) := by decide +kernel
theorem dL_areAlike_38 : decode cL_areAlike 38 = .ok (.iload_n 2, 1) := by decide +kernel
theorem dL_areAlike_39 : decode cL_areAlike 39 = .ok (.invokevirtual 70, 3) := by decide +kernel
theorem dL_areAlike_42 : decode cL_areAlike 42 = .ok (.aload_n 1, 1) := by decide +kernel
theorem dL_areAlike_43 : decode cL_areAlike 43 = .ok (.iload_n 2, 1) := by decide +kernel
theorem dL_areAlike_44 : decode cL_areAlike 44 = .ok (.invokevirtual 70, 3) := by decide +kernel
theorem dL_areAlike_47 : decode cL_areAlike 47 = .ok (.if_icmp .ne 33, 3) := by decide +kernel
theorem dL_areAlike_50 : decode cL_areAlike 50 = .ok (.aload_n 0, 1) := by decide +kernel
theorem dL_areAlike_51 : decode cL_areAlike 51 = .ok (.iload_n 2, 1) := by decide +kernel
theorem dL_areAlike_52 : decode cL_areAlike 52 = .ok (.invokevirtual 73, 3) := by decide +kernel
theorem dL_areAlike_55 : decode cL_areAlike 55 = .ok (.aload_n 1, 1) := by decide +kernel
theorem dL_areAlike_56 : decode cL_areAlike 56 = .ok (.iload_n 2, 1) := by decide +kernel
theorem dL_areAlike_57 : decode cL_areAlike 57 = .ok (.invokevirtual 73, 3) := by decide +kernel
theorem dL_areAlike_60 : decode cL_areAlike 60 = .ok (.if_icmp .ne 20, 3) := by decide +kernel
theorem dL_areAlike_63 : decode cL_areAlike 63 = .ok (.aload_n 0, 1) := by decide +kernel
theorem dL_areAlike_64 : decode cL_areAlike 64 = .ok (.iload_n 2, 1) := by decide +kernel
theorem dL_areAlike_65 : decode cL_areAlike 65 = .ok (.invokevirtual 76, 3) := by decide +kernel
theorem dL_areAlike_68 : decode cL_areAlike 68 = .ok (.aload_n 1, 1) := by decide +kernel
theorem dL_areAlike_69 : decode cL_areAlike 69 = .ok (.iload_n 2, 1) := by decide +kernel
theorem dL_areAlike_70 : decode cL_areAlike 70 = .ok (.invokevirtual 76, 3) := by decide +kernel
theorem dL_areAlike_73 : decode cL_areAlike 73 = .ok (.if_icmp .ne 7, 3) := by decide +kernel
theorem dL_areAlike_76 : decode cL_areAlike 76 = .ok (.iconst 1, 1) := by decide +kernel
theorem dL_areAlike_77 : decode cL_areAlike 77 = .ok (.goto 4, 3) := by decide +kernel
theorem dL_areAlike_80 : decode cL_areAlike 80 = .ok (.iconst 0, 1) := by decide +kernel
theorem dL_areAlike_81 : decode cL_areAlike 81 = .ok (.istore_n 3, 1) := by decide +kernel
theorem dL_areAlike_82 : decode cL_areAlike 82 = .ok (.iload_n 3, 1) := by decide +kernel
theorem dL_areAlike_83 : decode cL_areAlike 83 = .ok (.ireturn, 1) := by decide +kernel
set_option maxRecDepth 20000 in
theorem ggL_isMarketSo_X0_next : GoodIn wsL_isMarketSo wsX0_next := goodIn_ca (goodIn_ca (goodIn_r _ [5, 6, 7, 8, 4, 9, 10, 11, 12, 13, 14, 15, 16, 17, 18, 19, 20, 21, 22, 23, 24, 25, 26, 27, 28, 29, 30, 31, 32, 33, 34, 35, 36, 37, 38, 39, 40, 41, 42, 43, 44, 45, 46, 81, 82, 83, 84, 85, 86, 87, 88, 89, 90] (by decide +kernel) (by decide +kernel)) (goodIn_sub (fun _ h => List.mem_cons_of_mem _ (List.mem_append_left _ (List.mem_append_right _ h))) (by decide +kernel))) (goodIn_sub (fun _ h => List.mem_cons_of_mem _ (List.mem_append_right _ h)) (by decide +kernel))
set_option maxRecDepth 20000 in
theorem gL_isMarketSo_X0_next : GoodIn wsL_isMarketSo (wsV RL 79 RX0 yX0_next wsX0_next) := goodIn_app (goodIn_of _ (by decide +kernel)) ggL_isMarketSo_X0_next
set_option maxRecDepth 20000 in
theorem ggL_isMarketSo_X0_nearest : GoodIn wsL_isMarketSo wsX0_nearest := goodIn_ca (goodIn_ca (goodIn_r _ [50, 6, 7, 8, 4, 9, 10, 11, 12, 13, 14, 15, 16, 17, 18, 19, 20, 21, 22, 23, 24, 25, 36, 37, 38, 39, 35, 31, 32, 33, 34, 30, 26, 27, 28, 29, 40, 41, 42, 43, 44, 45, 46, 81, 82, 83, 84, 85, 86, 87, 88, 89, 90] (by decide +kernel) (by decide +kernel)) (goodIn_sub (fun _ h => List.mem_cons_of_mem _ (List.mem_append_left _ (List.mem_append_right _ h))) (by decide +kernel))) (goodIn_sub (fun _ h => List.mem_cons_of_mem _ (List.mem_append_right _ h)) (by decide +kernel))
set_option maxRecDepth 20000 in
theorem gL_isMarketSo_X0_nearest : GoodIn wsL_isMarketSo (wsV RL 82 RX0 yX0_nearest wsX0_nearest) := goodIn_app (goodIn_of _ (by decide +kernel)) ggL_isMarketSo_X0_nearest
set_option maxRecDepth 20000 in
theorem ggL_isMarketSo_X0_isHeld : GoodIn wsL_isMarketSo wsX0_isHeld := goodIn_ca (goodIn_ca (goodIn_r _ [54, 6, 7, 8, 4, 9, 10, 11, 12, 13, 14, 15, 16, 17, 18, 19, 20, 21, 22, 23, 24, 25, 55, 56, 57, 58, 36, 37, 38, 39, 35, 31, 32, 33, 34, 30, 40, 41, 42, 43, 44, 45, 46, 26, 27, 28, 29, 81, 82, 83, 84, 85, 86, 87, 88, 89, 90] (by decide +kernel) (by decide +kernel)) (goodIn_sub (fun _ h => List.mem_cons_of_mem _ (List.mem_append_left _ (List.mem_append_right _ h))) (by decide +kernel))) (goodIn_sub (fun _ h => List.mem_cons_of_mem _ (List.mem_append_right _ h)) (by decide +kernel))
set_option maxRecDepth 20000 in
theorem gL_isMarketSo_X0_isHeld : GoodIn wsL_isMarketSo (wsV RL 85 RX0 yX0_isHeld wsX0_isHeld) := goodIn_app (goodIn_of _ (by decide +kernel)) ggL_isMarketSo_X0_isHeld
set_option maxRecDepth 20000 in
theorem ggL_isMarketSo_X0_times : GoodIn wsL_isMarketSo wsX0_times := goodIn_ca (goodIn_ca (goodIn_r _ [62, 6, 7, 8, 4, 9, 10, 11, 12, 13, 14, 15, 16, 17, 18, 19, 20, 21, 22, 23, 24, 25, 63, 64, 65, 66, 36, 37, 38, 39, 35, 31, 32, 33, 34, 30, 26, 27, 28, 29, 67, 68, 69, 70, 71, 45, 72, 81, 82, 83, 84, 85, 86, 87, 88, 89, 90] (by decide +kernel) (by decide +kernel)) (goodIn_sub (fun _ h => List.mem_cons_of_mem _ (List.mem_append_left _ (List.mem_append_right _ h))) (by decide +kernel))) (goodIn_sub (fun _ h => List.mem_cons_of_mem _ (List.mem_append_right _ h)) (by decide +kernel))
set_option maxRecDepth 20000 in
theorem gL_isMarketSo_X0_times : GoodIn wsL_isMarketSo (wsV RL 89 RX0 yX0_times wsX0_times) := goodIn_app (goodIn_of _ (by decide +kernel)) ggL_isMarketSo_X0_times
set_option maxRecDepth 20000 in
theorem ggL_isMarketSo_X0_heldOn : GoodIn wsL_isMarketSo wsX0_heldOn := goodIn_ca (goodIn_r _ [76, 16, 17, 4, 18, 19, 20, 13, 14, 15, 21, 22, 23, 24, 25, 77, 78, 79, 80, 12, 55, 56, 57, 58, 36, 37, 38, 39, 35, 31, 32, 33, 34, 30, 40, 41, 42, 43, 44, 45, 46, 26, 27, 28, 29, 81, 82, 83, 84, 85, 86, 87, 88, 89, 90] (by decide +kernel) (by decide +kernel)) (goodIn_sub (fun _ h => List.mem_cons_of_mem _ (List.mem_append_right _ h)) (by decide +kernel))
set_option maxRecDepth 20000 in
theorem gL_isMarketSo_X0_heldOn : GoodIn wsL_isMarketSo (wsV RL 64 RX0 yX0_heldOn wsX0_heldOn) := goodIn_app (goodIn_of _ (by decide +kernel)) ggL_isMarketSo_X0_heldOn
theorem dL_isMarketSo_0 : decode cL_isMarketSo 0 = .ok (.aload_n 0, 1) := by decide +kernel
theorem dL_isMarketSo_1 : decode cL_isMarketSo 1 = .ok (.iload_n 1, 1) := by decide +kernel
theorem dL_isMarketSo_2 : decode cL_isMarketSo 2 = .ok (.iload_n 2, 1) := by decide +kernel
theorem dL_isMarketSo_3 : decode cL_isMarketSo 3 = .ok (.invokevirtual 79, 3) := by decide +kernel
theorem dL_isMarketSo_6 : decode cL_isMarketSo 6 = .ok (.istore_n 3, 1) := by decide +kernel
theorem dL_isMarketSo_7 : decode cL_isMarketSo 7 = .ok (.aload_n 0, 1) := by decide +kernel
theorem dL_isMarketSo_8 : decode cL_isMarketSo 8 = .ok (.iload_n 1, 1) := by decide +kernel
theorem dL_isMarketSo_9 : decode cL_isMarketSo 9 = .ok (.iload_n 2, 1) := by decide +kernel
theorem dL_isMarketSo_10 : decode cL_isMarketSo 10 = .ok (.invokevirtual 82, 3) := by decide +kernel
theorem dL_isMarketSo_13 : decode cL_isMarketSo 13 = .ok (.istore 4, 2) := by decide +kernel
theorem dL_isMarketSo_15 : decode cL_isMarketSo 15 = .ok (.iload 4, 2) := by decide +kernel
theorem dL_isMarketSo_17 : decode cL_isMarketSo 17 = .ok (.iload_n 2, 1) := by decide +kernel
theorem dL_isMarketSo_18 : decode cL_isMarketSo 18 = .ok (.if_icmp .le 10, 3) := by decide +kernel
theorem dL_isMarketSo_21 : decode cL_isMarketSo 21 = .ok (.iload 4, 2) := by decide +kernel
theorem dL_isMarketSo_23 : decode cL_isMarketSo 23 = .ok (.iload_n 2, 1) := by decide +kernel
theorem dL_isMarketSo_24 : decode cL_isMarketSo 24 = .ok (.isub, 1) := by decide +kernel
theorem dL_isMarketSo_25 : decode cL_isMarketSo 25 = .ok (.goto 7, 3) := by decide +kernel
theorem dL_isMarketSo_28 : decode cL_isMarketSo 28 = .ok (.iload_n 2, 1) := by decide +kernel
theorem dL_isMarketSo_29 : decode cL_isMarketSo 29 = .ok (.iload 4, 2) := by decide +kernel
theorem dL_isMarketSo_31 : decode cL_isMarketSo 31 = .ok (.isub, 1) := by decide +kernel
theorem dL_isMarketSo_32 : decode cL_isMarketSo 32 = .ok (.istore 5, 2) := by decide +kernel
theorem dL_isMarketSo_34 : decode cL_isMarketSo 34 = .ok (.iload_n 3, 1) := by decide +kernel
theorem dL_isMarketSo_35 : decode cL_isMarketSo 35 = .ok (.iload_n 2, 1) := by decide +kernel
theorem dL_isMarketSo_36 : decode cL_isMarketSo 36 = .ok (.if_icmp .lt 62, 3) := by decide +kernel
theorem dL_isMarketSo_39 : decode cL_isMarketSo 39 = .ok (.iload_n 3, 1) := by decide +kernel
theorem dL_isMarketSo_40 : decode cL_isMarketSo 40 = .ok (.iload_n 2, 1) := by decide +kernel
theorem dL_isMarketSo_41 : decode cL_isMarketSo 41 = .ok (.bipush 60, 2) := by decide +kernel
theorem dL_isMarketSo_43 : decode cL_isMarketSo 43 = .ok (.iadd, 1) := by decide +kernel
theorem dL_isMarketSo_44 : decode cL_isMarketSo 44 = .ok (.if_icmp .ge 54, 3) := by decide +kernel
theorem dL_isMarketSo_47 : decode cL_isMarketSo 47 = .ok (.aload_n 0, 1) := by decide +kernel
theorem dL_isMarketSo_48 : decode cL_isMarketSo 48 = .ok (.iload_n 1, 1) := by decide +kernel
theorem dL_isMarketSo_49 : decode cL_isMarketSo 49 = .ok (.iload_n 3, 1) := by decide +kernel
theorem dL_isMarketSo_50 : decode cL_isMarketSo 50 = .ok (.invokevirtual 85, 3) := by decide +kernel
theorem dL_isMarketSo_53 : decode cL_isMarketSo 53 = .ok (.ifCond .eq 45, 3) := by decide +kernel
theorem dL_isMarketSo_56 : decode cL_isMarketSo 56 = .ok (.aload_n 0, 1) := by decide +kernel
theorem dL_isMarketSo_57 : decode cL_isMarketSo 57 = .ok (.iload_n 1, 1) := by decide +kernel
theorem dL_isMarketSo_58 : decode cL_isMarketSo 58 = .ok (.iload 4, 2) := by decide +kernel
theorem dL_isMarketSo_60 : decode cL_isMarketSo 60 = .ok (.invokevirtual 85, 3) := by decide +kernel
theorem dL_isMarketSo_63 : decode cL_isMarketSo 63 = .ok (.ifCond .eq 35, 3) := by decide +kernel
theorem dL_isMarketSo_66 : decode cL_isMarketSo 66 = .ok (.aload_n 0, 1) := by decide +kernel
theorem dL_isMarketSo_67 : decode cL_isMarketSo 67 = .ok (.iload_n 1, 1) := by decide +kernel
theorem dL_isMarketSo_68 : decode cL_isMarketSo 68 = .ok (.iload_n 2, 1) := by decide +kernel
theorem dL_isMarketSo_69 : decode cL_isMarketSo 69 = .ok (.iload_n 3, 1) := by decide +kernel
theorem dL_isMarketSo_70 : decode cL_isMarketSo 70 = .ok (.invokevirtual 89, 3) := by decide +kernel
theorem dL_isMarketSo_73 : decode cL_isMarketSo 73 = .ok (.iconst 1, 1) := by decide +kernel
theorem dL_isMarketSo_74 : decode cL_isMarketSo 74 = .ok (.if_icmp .ne 24, 3) := by decide +kernel
theorem dL_isMarketSo_77 : decode cL_isMarketSo 77 = .ok (.iload_n 3, 1) := by decide +kernel
theorem dL_isMarketSo_78 : decode cL_isMarketSo 78 = .ok (.iload_n 2, 1) := by decide +kernel
theorem dL_isMarketSo_79 : decode cL_isMarketSo 79 = .ok (.if_icmp .eq 15, 3) := by decide +kernel
theorem dL_isMarketSo_82 : decode cL_isMarketSo 82 = .ok (.aload_n 0, 1) := by decide +kernel
theorem dL_isMarketSo_83 : decode cL_isMarketSo 83 = .ok (.iload_n 1, 1) := by decide +kernel
theorem dL_isMarketSo_84 : decode cL_isMarketSo 84 = .ok (.iload_n 2, 1) := by decide +kernel
theorem dL_isMarketSo_85 : decode cL_isMarketSo 85 = .ok (.iload_n 3, 1) := by decide +kernel
theorem dL_isMarketSo_86 : decode cL_isMarketSo 86 = .ok (.iconst 1, 1) := by decide +kernel
theorem dL_isMarketSo_87 : decode cL_isMarketSo 87 = .ok (.isub, 1) := by decide +kernel
theorem dL_isMarketSo_88 : decode cL_isMarketSo 88 = .ok (.invokevirtual 89, 3) := by decide +kernel
theorem dL_isMarketSo_91 : decode cL_isMarketSo 91 = .ok (.ifCond .ne 7, 3) := by decide +kernel
theorem dL_isMarketSo_94 : decode cL_isMarketSo 94 = .ok (.iconst 1, 1) := by decide +kernel
theorem dL_isMarketSo_95 : decode cL_isMarketSo 95 = .ok (.goto 4, 3) := by decide +kernel
theorem dL_isMarketSo_98 : decode cL_isMarketSo 98 = .ok (.iconst 0, 1) := by decide +kernel
theorem dL_isMarketSo_99 : decode cL_isMarketSo 99 = .ok (.istore 6, 2) := by decide +kernel
theorem dL_isMarketSo_101 : decode cL_isMarketSo 101 = .ok (.iload 6, 2) := by decide +kernel
theorem dL_isMarketSo_103 : decode cL_isMarketSo 103 = .ok (.ifCond .eq 50, 3) := by decide +kernel
theorem dL_isMarketSo_106 : decode cL_isMarketSo 106 = .ok (.iload 5, 2) := by decide +kernel
theorem dL_isMarketSo_108 : decode cL_isMarketSo 108 = .ok (.ifCond .eq 23, 3) := by decide +kernel
theorem dL_isMarketSo_111 : decode cL_isMarketSo 111 = .ok (.aload_n 0, 1) := by decide +kernel
theorem dL_isMarketSo_112 : decode cL_isMarketSo 112 = .ok (.iload_n 1, 1) := by decide +kernel
theorem dL_isMarketSo_113 : decode cL_isMarketSo 113 = .ok (.iload_n 2, 1) := by decide +kernel
theorem dL_isMarketSo_114 : decode cL_isMarketSo 114 = .ok (.iload 5, 2) := by decide +kernel
theorem dL_isMarketSo_116 : decode cL_isMarketSo 116 = .ok (.isub, 1) := by decide +kernel
theorem dL_isMarketSo_117 : decode cL_isMarketSo 117 = .ok (.iconst 1, 1) := by decide +kernel
theorem dL_isMarketSo_118 : decode cL_isMarketSo 118 = .ok (.iadd, 1) := by decide +kernel
theorem dL_isMarketSo_119 : decode cL_isMarketSo 119 = .ok (.iload_n 2, 1) := by decide +kernel
theorem dL_isMarketSo_120 : decode cL_isMarketSo 120 = .ok (.iload 5, 2) := by decide +kernel
theorem dL_isMarketSo_122 : decode cL_isMarketSo 122 = .ok (.iadd, 1) := by decide +kernel
theorem dL_isMarketSo_123 : decode cL_isMarketSo 123 = .ok (.iconst 1, 1) := by decide +kernel
theorem dL_isMarketSo_124 : decode cL_isMarketSo 124 = .ok (.isub, 1) := by decide +kernel
theorem dL_isMarketSo_125 : decode cL_isMarketSo 125 = .ok (.invokevirtual 89, 3) := by decide +kernel
theorem dL_isMarketSo_128 : decode cL_isMarketSo 128 = .ok (.ifCond .ne 25, 3) := by decide +kernel
theorem dL_isMarketSo_131 : decode cL_isMarketSo 131 = .ok (.iload 4, 2) := by decide +kernel
theorem dL_isMarketSo_133 : decode cL_isMarketSo 133 = .ok (.iload_n 2, 1) := by decide +kernel
theorem dL_isMarketSo_134 : decode cL_isMarketSo 134 = .ok (.if_icmp .le 15, 3) := by decide +kernel
theorem dL_isMarketSo_137 : decode cL_isMarketSo 137 = .ok (.aload_n 0, 1) := by decide +kernel
theorem dL_isMarketSo_138 : decode cL_isMarketSo 138 = .ok (.iload_n 1, 1) := by decide +kernel
theorem dL_isMarketSo_139 : decode cL_isMarketSo 139 = .ok (.iload_n 2, 1) := by decide +kernel
theorem dL_isMarketSo_140 : decode cL_isMarketSo 140 = .ok (.iload 5, 2) := by decide +kernel
theorem dL_isMarketSo_142 : decode cL_isMarketSo 142 = .ok (.isub, 1) := by decide +kernel
theorem dL_isMarketSo_143 : decode cL_isMarketSo 143 = .ok (.invokevirtual 85, 3) := by decide +kernel
theorem dL_isMarketSo_146 : decode cL_isMarketSo 146 = .ok (.ifCond .ne 7, 3) := by decide +kernel
theorem dL_isMarketSo_149 : decode cL_isMarketSo 149 = .ok (.iconst 1, 1) := by decide +kernel
theorem dL_isMarketSo_150 : decode cL_isMarketSo 150 = .ok (.goto 4, 3) := by decide +kernel
theorem dL_isMarketSo_153 : decode cL_isMarketSo 153 = .ok (.iconst 0, 1) := by decide +kernel
theorem dL_isMarketSo_154 : decode cL_isMarketSo 154 = .ok (.istore 6, 2) := by decide +kernel
theorem dL_isMarketSo_156 : decode cL_isMarketSo 156 = .ok (.iload 6, 2) := by decide +kernel
theorem dL_isMarketSo_158 : decode cL_isMarketSo 158 = .ok (.ifCond .eq 72, 3) := by decide +kernel
theorem dL_isMarketSo_161 : decode cL_isMarketSo 161 = .ok (.aload_n 0, 1) := by decide +kernel
theorem dL_isMarketSo_162 : decode cL_isMarketSo 162 = .ok (.iload_n 2, 1) := by decide +kernel
theorem dL_isMarketSo_163 : decode cL_isMarketSo 163 = .ok (.invokevirtual 64, 3) := by decide +kernel
theorem dL_isMarketSo_166 : decode cL_isMarketSo 166 = .ok (.iload_n 1, 1) := by decide +kernel
theorem dL_isMarketSo_167 : decode cL_isMarketSo 167 = .ok (.ishr, 1) := by decide +kernel
theorem dL_isMarketSo_168 : decode cL_isMarketSo 168 = .ok (.iconst 1, 1) := by decide +kernel
theorem dL_isMarketSo_169 : decode cL_isMarketSo 169 = .ok (.iand, 1) := by decide +kernel
theorem dL_isMarketSo_170 : decode cL_isMarketSo 170 = .ok (.aload_n 0, 1) := by decide +kernel
theorem dL_isMarketSo_171 : decode cL_isMarketSo 171 = .ok (.iload_n 1, 1) := by decide +kernel
theorem dL_isMarketSo_172 : decode cL_isMarketSo 172 = .ok (.iload_n 2, 1) := by decide +kernel
theorem dL_isMarketSo_173 : decode cL_isMarketSo 173 = .ok (.invokevirtual 85, 3) := by decide +kernel
theorem dL_isMarketSo_176 : decode cL_isMarketSo 176 = .ok (.ifCond .eq 7, 3) := by decide +kernel
theorem dL_isMarketSo_179 : decode cL_isMarketSo 179 = .ok (.iconst 1, 1) := by decide +kernel
theorem dL_isMarketSo_180 : decode cL_isMarketSo 180 = .ok (.goto 4, 3) := by decide +kernel
theorem dL_isMarketSo_183 : decode cL_isMarketSo 183 = .ok (.iconst 0, 1) := by decide +kernel
theorem dL_isMarketSo_184 : decode cL_isMarketSo 184 = .ok (.if_icmp .ne 46, 3) := by decide +kernel
theorem dL_isMarketSo_187 : decode cL_isMarketSo 187 = .ok (.aload_n 0, 1) := by decide +kernel
theorem dL_isMarketSo_188 : decode cL_isMarketSo 188 = .ok (.iload_n 1, 1) := by decide +kernel
theorem dL_isMarketSo_189 : decode cL_isMarketSo 189 = .ok (.iload_n 2, 1) := by decide +kernel
theorem dL_isMarketSo_190 : decode cL_isMarketSo 190 = .ok (.iload_n 2, 1) := by decide +kernel
theorem dL_isMarketSo_191 : decode cL_isMarketSo 191 = .ok (.sipush 500, 3) := by decide +kernel
theorem dL_isMarketSo_194 : decode cL_isMarketSo 194 = .ok (.iadd, 1) := by decide +kernel
theorem dL_isMarketSo_195 : decode cL_isMarketSo 195 = .ok (.invokevirtual 89, 3) := by decide +kernel
theorem dL_isMarketSo_198 : decode cL_isMarketSo 198 = .ok (.aload_n 0, 1) := by decide +kernel
theorem dL_isMarketSo_199 : decode cL_isMarketSo 199 = .ok (.iload_n 1, 1) := by decide +kernel
theorem dL_isMarketSo_200 : decode cL_isMarketSo 200 = .ok (.iload_n 2, 1) := by decide +kernel
theorem dL_isMarketSo_201 : decode cL_isMarketSo 201 = .ok (.iload_n 2, 1) := by decide +kernel
theorem dL_isMarketSo_202 : decode cL_isMarketSo 202 = .ok (.bipush 77, 2) := by decide +kernel
theorem dL_isMarketSo_204 : decode cL_isMarketSo 204 = .ok (.iadd, 1) := by decide +kernel
theorem dL_isMarketSo_205 : decode cL_isMarketSo 205 = .ok (.invokevirtual 89, 3) := by decide +kernel
theorem dL_isMarketSo_208 : decode cL_isMarketSo 208 = .ok (.aload_n 0, 1) := by decide +kernel
theorem dL_isMarketSo_209 : decode cL_isMarketSo 209 = .ok (.iload_n 1, 1) := by decide +kernel
theorem dL_isMarketSo_210 : decode cL_isMarketSo 210 = .ok (.iload_n 2, 1) := by decide +kernel
theorem dL_isMarketSo_211 : decode cL_isMarketSo 211 = .ok (.bipush 78, 2) := by decide +kernel
theorem dL_isMarketSo_213 : decode cL_isMarketSo 213 = .ok (.iadd, 1) := by decide +kernel
theorem dL_isMarketSo_214 : decode cL_isMarketSo 214 = .ok (.iload_n 2, 1) := by decide +kernel
theorem dL_isMarketSo_215 : decode cL_isMarketSo 215 = .ok (.sipush 500, 3) := by decide +kernel
theorem dL_isMarketSo_218 : decode cL_isMarketSo 218 = .ok (.iadd, 1) := by decide +kernel
theorem dL_isMarketSo_219 : decode cL_isMarketSo 219 = .ok (.invokevirtual 89, 3) := by decide +kernel
theorem dL_isMarketSo_222 : decode cL_isMarketSo 222 = .ok (.iadd, 1) := by decide +kernel
theorem dL_isMarketSo_223 : decode cL_isMarketSo 223 = .ok (.if_icmp .ne 7, 3) := by decide +kernel
theorem dL_isMarketSo_226 : decode cL_isMarketSo 226 = .ok (.iconst 1, 1) := by decide +kernel
theorem dL_isMarketSo_227 : decode cL_isMarketSo 227 = .ok (.goto 4, 3) := by decide +kernel
theorem dL_isMarketSo_230 : decode cL_isMarketSo 230 = .ok (.iconst 0, 1) := by decide +kernel
theorem dL_isMarketSo_231 : decode cL_isMarketSo 231 = .ok (.ireturn, 1) := by decide +kernel
set_option maxRecDepth 20000 in
theorem ggL_isMeetingSo_L_period : GoodIn wsL_isMeetingSo wsL_period := goodIn_ca (goodIn_ca (goodIn_ca (goodIn_r _ [8, 9, 10, 11, 12, 13, 14, 15, 16, 17, 18, 19, 20, 21, 22, 23, 24, 25, 26, 27, 28, 29, 30, 31, 32, 33, 34, 35, 36, 37, 38, 39, 40, 41, 42, 43, 44, 45, 46, 47, 48, 49, 50, 51, 52, 53, 54, 55, 56, 57, 58, 59, 60, 61, 62, 63, 64, 65, 66, 67, 68, 69, 70, 71, 72, 73, 74, 75, 76, 77, 78, 79, 80, 81, 82, 83, 84, 85, 86, 87, 88, 89, 135, 136, 137, 138, 139, 140, 141, 142, 143, 144] (by decide +kernel) (by decide +kernel)) (goodIn_sub (fun _ h => List.mem_cons_of_mem _ (List.mem_append_left _ (List.mem_append_left _ (List.mem_append_right _ h)))) (by decide +kernel))) (goodIn_sub (fun _ h => List.mem_cons_of_mem _ (List.mem_append_left _ (List.mem_append_right _ h))) (by decide +kernel))) (goodIn_sub (fun _ h => List.mem_cons_of_mem _ (List.mem_append_right _ h)) (by decide +kernel))
set_option maxRecDepth 20000 in
theorem gL_isMeetingSo_L_period : GoodIn wsL_isMeetingSo (va_wsS RL 93 yL_period wsL_period) := goodIn_app (goodIn_of _ (by decide +kernel)) ggL_isMeetingSo_L_period
set_option maxRecDepth 20000 in
theorem ggL_isMeetingSo_L_meeting : GoodIn wsL_isMeetingSo wsL_meeting := goodIn_ca (goodIn_ca (goodIn_ca (goodIn_r _ [92, 9, 10, 11, 2, 1, 93, 94, 95, 16, 96, 97, 98, 99, 100, 101, 29, 30, 31, 32, 33, 34, 35, 36, 18, 19, 20, 21, 22, 23, 24, 25, 26, 27, 28, 37, 38, 39, 40, 41, 42, 43, 44, 45, 46, 47, 48, 49, 50, 51, 52, 53, 54, 55, 56, 57, 58, 59, 60, 61, 62, 63, 64, 65, 66, 67, 68, 69, 70, 71, 72, 73, 74, 75, 76, 77, 78, 79, 80, 81, 82, 83, 84, 85, 86, 87, 88, 89, 135, 136, 137, 138, 139, 140, 141, 142, 143, 144] (by decide +kernel) (by decide +kernel)) (goodIn_sub (fun _ h => List.mem_cons_of_mem _ (List.mem_append_left _ (List.mem_append_left _ (List.mem_append_right _ h)))) (by decide +kernel))) (goodIn_sub (fun _ h => List.mem_cons_of_mem _ (List.mem_append_left _ (List.mem_append_right _ h))) (by decide +kernel))) (goodIn_sub (fun _ h => List.mem_cons_of_mem _ (List.mem_append_right _ h)) (by decide +kernel))
set_option maxRecDepth 20000 in
theorem gL_isMeetingSo_L_meeting : GoodIn wsL_isMeetingSo (va_wsS RL 96 yL_meeting wsL_meeting) := goodIn_app (goodIn_of _ (by decide +kernel)) ggL_isMeetingSo_L_meeting
set_option maxRecDepth 20000 in
theorem ggL_isMeetingSo_X0_doMeet : GoodIn wsL_isMeetingSo wsX0_doMeet := goodIn_ca (goodIn_ca (goodIn_r _ [105, 48, 18, 19, 20, 16, 21, 22, 23, 24, 25, 26, 27, 28, 29, 30, 31, 32, 33, 34, 35, 36, 37, 38, 39, 40, 41, 42, 43, 44, 45, 46, 47, 49, 50, 51, 52, 53, 54, 55, 56, 57, 58, 59, 60, 61, 62, 63, 64, 65, 66, 67, 68, 69, 70, 71, 72, 73, 74, 75, 76, 77, 78, 79, 80, 135, 136, 137, 138, 139, 140, 141, 142, 143, 144] (by decide +kernel) (by decide +kernel)) (goodIn_sub (fun _ h => List.mem_cons_of_mem _ (List.mem_append_left _ (List.mem_append_left _ (List.mem_append_right _ h)))) (by decide +kernel))) (goodIn_sub (fun _ h => List.mem_cons_of_mem _ (List.mem_append_left _ (List.mem_append_right _ h))) (by decide +kernel))
set_option maxRecDepth 20000 in
theorem gL_isMeetingSo_X0_doMeet : GoodIn wsL_isMeetingSo (wsV RL 98 RX0 yX0_doMeet wsX0_doMeet) := goodIn_app (goodIn_of _ (by decide +kernel)) ggL_isMeetingSo_X0_doMeet
set_option maxRecDepth 20000 in
theorem ggL_isMeetingSo_X0_heldOn : GoodIn wsL_isMeetingSo wsX0_heldOn := goodIn_ca (goodIn_r _ [109, 97, 98, 16, 99, 100, 101, 29, 30, 31, 32, 33, 34, 35, 36, 110, 111, 112, 113, 43, 63, 64, 65, 66, 53, 54, 55, 56, 57, 58, 59, 60, 61, 62, 67, 68, 69, 70, 71, 72, 73, 74, 75, 76, 77, 135, 136, 137, 138, 139, 140, 141, 142, 143, 144] (by decide +kernel) (by decide +kernel)) (goodIn_sub (fun _ h => List.mem_cons_of_mem _ (List.mem_append_left _ (List.mem_append_left _ (List.mem_append_right _ h)))) (by decide +kernel))
set_option maxRecDepth 20000 in
theorem gL_isMeetingSo_X0_heldOn : GoodIn wsL_isMeetingSo (wsV RL 64 RX0 yX0_heldOn wsX0_heldOn) := goodIn_app (goodIn_of _ (by decide +kernel)) ggL_isMeetingSo_X0_heldOn
set_option maxRecDepth 20000 in
theorem ggL_isMeetingSo_X0_lunarMeeting : GoodIn wsL_isMeetingSo wsX0_lunarMeeting := goodIn_ca (goodIn_ca (goodIn_ca (goodIn_r _ [117, 48, 97, 98, 16, 99, 100, 101, 29, 30, 31, 32, 33, 34, 35, 36, 18, 19, 20, 21, 22, 23, 24, 25, 26, 27, 28, 37, 38, 39, 40, 41, 42, 43, 44, 45, 46, 47, 49, 50, 51, 52, 53, 54, 55, 56, 57, 58, 59, 60, 61, 62, 63, 64, 65, 66, 67, 68, 69, 70, 71, 72, 73, 74, 75, 76, 77, 78, 79, 80, 81, 82, 83, 84, 85, 86, 87, 88, 89, 118, 119, 120, 121, 122, 123, 124, 125, 126, 127, 128, 129, 130, 131, 132, 133, 134, 135, 136, 137, 138, 139, 140, 141, 142, 143, 144] (by decide +kernel) (by decide +kernel)) (goodIn_sub (fun _ h => List.mem_cons_of_mem _ (List.mem_append_left _ (List.mem_append_left _ (List.mem_append_right _ h)))) (by decide +kernel))) (goodIn_sub (fun _ h => List.mem_cons_of_mem _ (List.mem_append_left _ (List.mem_append_right _ h))) (by decide +kernel))) (goodIn_sub (fun _ h => List.mem_cons_of_mem _ (List.mem_append_right _ h)) (by decide +kernel))
set_option maxRecDepth 20000 in
theorem gL_isMeetingSo_X0_lunarMeeting : GoodIn wsL_isMeetingSo (wsV RL 103 RX0 yX0_lunarMeeting wsX0_lunarMeeting) := goodIn_app (goodIn_of _ (by decide +kernel)) ggL_isMeetingSo_X0_lunarMeeting
theorem dL_isMeetingSo_0 : decode cL_isMeetingSo 0 = .ok (.aload_n 0, 1) := by decide +kernel
theorem dL_isMeetingSo_1 : decode cL_isMeetingSo 1 = .ok (.iload_n 1, 1) := by decide +kernel
theorem dL_isMeetingSo_2 : decode cL_isMeetingSo 2 = .ok (.invokestatic 93, 3) := by decide +kernel
theorem dL_isMeetingSo_5 : decode cL_isMeetingSo 5 = .ok (.istore_n 3, 1) := by decide +kernel
theorem dL_isMeetingSo_6 : decode cL_isMeetingSo 6 = .ok (.aload_n 0, 1) := by decide +kernel
theorem dL_isMeetingSo_7 : decode cL_isMeetingSo 7 = .ok (.iload_n 1, 1) := by decide +kernel
theorem dL_isMeetingSo_8 : decode cL_isMeetingSo 8 = .ok (.iload_n 2, 1) := by decide +kernel
theorem dL_isMeetingSo_9 : decode cL_isMeetingSo 9 = .ok (.invokestatic 96, 3) := by decide +kernel
theorem dL_isMeetingSo_12 : decode cL_isMeetingSo 12 = .ok (.istore 4, 2) := by decide +kernel
theorem dL_isMeetingSo_14 : decode cL_isMeetingSo 14 = .ok (.iload_n 3, 1) := by decide +kernel
theorem dL_isMeetingSo_15 : decode cL_isMeetingSo 15 = .ok (.ifCond .ge 44, 3) := by decide +kernel
theorem dL_isMeetingSo_18 : decode cL_isMeetingSo 18 = .ok (.iload_n 3, 1) := by decide +kernel
theorem dL_isMeetingSo_19 : decode cL_isMeetingSo 19 = .ok (.iconst (-1), 1) := by decide +kernel
theorem dL_isMeetingSo_20 : decode cL_isMeetingSo 20 = .ok (.if_icmp .ne 26, 3) := by decide +kernel
theorem dL_isMeetingSo_23 : decode cL_isMeetingSo 23 = .ok (.iload 4, 2) := by decide +kernel
theorem dL_isMeetingSo_25 : decode cL_isMeetingSo 25 = .ok (.ldc 43, 2) := by decide +kernel
theorem dL_isMeetingSo_27 : decode cL_isMeetingSo 27 = .ok (.if_icmp .ne 15, 3) := by decide +kernel
theorem dL_isMeetingSo_30 : decode cL_isMeetingSo 30 = .ok (.aload_n 0, 1) := by decide +kernel
theorem dL_isMeetingSo_31 : decode cL_isMeetingSo 31 = .ok (.iload_n 1, 1) := by decide +kernel
theorem dL_isMeetingSo_32 : decode cL_isMeetingSo 32 = .ok (.invokevirtual 98, 3) := by decide +kernel
theorem dL_isMeetingSo_35 : decode cL_isMeetingSo 35 = .ok (.ifCond .ne 7, 3) := by decide +kernel
theorem dL_isMeetingSo_38 : decode cL_isMeetingSo 38 = .ok (.iconst 1, 1) := by decide +kernel
theorem dL_isMeetingSo_39 : decode cL_isMeetingSo 39 = .ok (.goto 19, 3) := by decide +kernel
theorem dL_isMeetingSo_42 : decode cL_isMeetingSo 42 = .ok (.iconst 0, 1) := by decide +kernel
theorem dL_isMeetingSo_43 : decode cL_isMeetingSo 43 = .ok (.goto 15, 3) := by decide +kernel
theorem dL_isMeetingSo_46 : decode cL_isMeetingSo 46 = .ok (.iload 4, 2) := by decide +kernel
theorem dL_isMeetingSo_48 : decode cL_isMeetingSo 48 = .ok (.ldc 35, 2) := by decide +kernel
theorem dL_isMeetingSo_50 : decode cL_isMeetingSo 50 = .ok (.if_icmp .ne 7, 3) := by decide +kernel
theorem dL_isMeetingSo_53 : decode cL_isMeetingSo 53 = .ok (.iconst 1, 1) := by decide +kernel
theorem dL_isMeetingSo_54 : decode cL_isMeetingSo 54 = .ok (.goto 4, 3) := by decide +kernel
theorem dL_isMeetingSo_57 : decode cL_isMeetingSo 57 = .ok (.iconst 0, 1) := by decide +kernel
theorem dL_isMeetingSo_58 : decode cL_isMeetingSo 58 = .ok (.ireturn, 1) := by decide +kernel
theorem dL_isMeetingSo_59 : decode cL_isMeetingSo 59 = .ok (.iload 4, 2) := by decide +kernel
theorem dL_isMeetingSo_61 : decode cL_isMeetingSo 61 = .ok (.iload_n 2, 1) := by decide +kernel
theorem dL_isMeetingSo_62 : decode cL_isMeetingSo 62 = .ok (.if_icmp .lt 58, 3) := by decide +kernel
theorem dL_isMeetingSo_65 : decode cL_isMeetingSo 65 = .ok (.iload 4, 2) := by decide +kernel
theorem dL_isMeetingSo_67 : decode cL_isMeetingSo 67 = .ok (.iload_n 2, 1) := by decide +kernel
theorem dL_isMeetingSo_68 : decode cL_isMeetingSo 68 = .ok (.isub, 1) := by decide +kernel
theorem dL_isMeetingSo_69 : decode cL_isMeetingSo 69 = .ok (.iload_n 3, 1) := by decide +kernel
theorem dL_isMeetingSo_70 : decode cL_isMeetingSo 70 = .ok (.if_icmp .ge 50, 3) := by decide +kernel
theorem dL_isMeetingSo_73 : decode cL_isMeetingSo 73 = .ok (.aload_n 0, 1) := by decide +kernel
theorem dL_isMeetingSo_74 : decode cL_isMeetingSo 74 = .ok (.iload_n 1, 1) := by decide +kernel
theorem dL_isMeetingSo_75 : decode cL_isMeetingSo 75 = .ok (.invokevirtual 98, 3) := by decide +kernel
theorem dL_isMeetingSo_78 : decode cL_isMeetingSo 78 = .ok (.ifCond .eq 42, 3) := by decide +kernel
theorem dL_isMeetingSo_81 : decode cL_isMeetingSo 81 = .ok (.iload 4, 2) := by decide +kernel
theorem dL_isMeetingSo_83 : decode cL_isMeetingSo 83 = .ok (.ldc 102, 2) := by decide +kernel
theorem dL_isMeetingSo_85 : decode cL_isMeetingSo 85 = .ok (.if_icmp .gt 15, 3) := by decide +kernel
theorem dL_isMeetingSo_88 : decode cL_isMeetingSo 88 = .ok (.aload_n 0, 1) := by decide +kernel
theorem dL_isMeetingSo_89 : decode cL_isMeetingSo 89 = .ok (.iload 4, 2) := by decide +kernel
theorem dL_isMeetingSo_91 : decode cL_isMeetingSo 91 = .ok (.invokevirtual 64, 3) := by decide +kernel
theorem dL_isMeetingSo_94 : decode cL_isMeetingSo 94 = .ok (.iload_n 1, 1) := by decide +kernel
theorem dL_isMeetingSo_95 : decode cL_isMeetingSo 95 = .ok (.iand, 1) := by decide +kernel
theorem dL_isMeetingSo_96 : decode cL_isMeetingSo 96 = .ok (.iload_n 1, 1) := by decide +kernel
theorem dL_isMeetingSo_97 : decode cL_isMeetingSo 97 = .ok (.if_icmp .ne 23, 3) := by decide +kernel
theorem dL_isMeetingSo_100 : decode cL_isMeetingSo 100 = .ok (.aload_n 0, 1) := by decide +kernel
theorem dL_isMeetingSo_101 : decode cL_isMeetingSo 101 = .ok (.iload_n 1, 1) := by decide +kernel
theorem dL_isMeetingSo_102 : decode cL_isMeetingSo 102 = .ok (.iload_n 2, 1) := by decide +kernel
theorem dL_isMeetingSo_103 : decode cL_isMeetingSo 103 = .ok (.bipush 99, 2) := by decide +kernel
theorem dL_isMeetingSo_105 : decode cL_isMeetingSo 105 = .ok (.iconst 3, 1) := by decide +kernel
theorem dL_isMeetingSo_106 : decode cL_isMeetingSo 106 = .ok (.invokevirtual 103, 3) := by decide +kernel
theorem dL_isMeetingSo_109 : decode cL_isMeetingSo 109 = .ok (.ldc2_w 107, 3) := by decide +kernel
theorem dL_isMeetingSo_112 : decode cL_isMeetingSo 112 = .ok (.lcmp, 1) := by decide +kernel
theorem dL_isMeetingSo_113 : decode cL_isMeetingSo 113 = .ok (.ifCond .lt 7, 3) := by decide +kernel
theorem dL_isMeetingSo_116 : decode cL_isMeetingSo 116 = .ok (.iconst 1, 1) := by decide +kernel
theorem dL_isMeetingSo_117 : decode cL_isMeetingSo 117 = .ok (.goto 4, 3) := by decide +kernel
theorem dL_isMeetingSo_120 : decode cL_isMeetingSo 120 = .ok (.iconst 0, 1) := by decide +kernel
theorem dL_isMeetingSo_121 : decode cL_isMeetingSo 121 = .ok (.istore 5, 2) := by decide +kernel
theorem dL_isMeetingSo_123 : decode cL_isMeetingSo 123 = .ok (.iload 5, 2) := by decide +kernel
theorem dL_isMeetingSo_125 : decode cL_isMeetingSo 125 = .ok (.ifCond .eq 42, 3) := by decide +kernel
theorem dL_isMeetingSo_128 : decode cL_isMeetingSo 128 = .ok (.iload 4, 2) := by decide +kernel
theorem dL_isMeetingSo_130 : decode cL_isMeetingSo 130 = .ok (.ldc 102, 2) := by decide +kernel
theorem dL_isMeetingSo_132 : decode cL_isMeetingSo 132 = .ok (.if_icmp .ge 31, 3) := by decide +kernel
theorem dL_isMeetingSo_135 : decode cL_isMeetingSo 135 = .ok (.aload_n 0, 1) := by decide +kernel
theorem dL_isMeetingSo_136 : decode cL_isMeetingSo 136 = .ok (.iload_n 1, 1) := by decide +kernel
theorem dL_isMeetingSo_137 : decode cL_isMeetingSo 137 = .ok (.iload 4, 2) := by decide +kernel
theorem dL_isMeetingSo_139 : decode cL_isMeetingSo 139 = .ok (.invokestatic 96, 3) := by decide +kernel
theorem dL_isMeetingSo_142 : decode cL_isMeetingSo 142 = .ok (.iload 4, 2) := by decide +kernel
theorem dL_isMeetingSo_144 : decode cL_isMeetingSo 144 = .ok (.if_icmp .ne 23, 3) := by decide +kernel
theorem dL_isMeetingSo_147 : decode cL_isMeetingSo 147 = .ok (.aload_n 0, 1) := by decide +kernel
theorem dL_isMeetingSo_148 : decode cL_isMeetingSo 148 = .ok (.iload_n 1, 1) := by decide +kernel
theorem dL_isMeetingSo_149 : decode cL_isMeetingSo 149 = .ok (.iload 4, 2) := by decide +kernel
theorem dL_isMeetingSo_151 : decode cL_isMeetingSo 151 = .ok (.iconst 1, 1) := by decide +kernel
theorem dL_isMeetingSo_152 : decode cL_isMeetingSo 152 = .ok (.iadd, 1) := by decide +kernel
theorem dL_isMeetingSo_153 : decode cL_isMeetingSo 153 = .ok (.invokestatic 96, 3) := by decide +kernel
theorem dL_isMeetingSo_156 : decode cL_isMeetingSo 156 = .ok (.iload 4, 2) := by decide +kernel
theorem dL_isMeetingSo_158 : decode cL_isMeetingSo 158 = .ok (.iload_n 3, 1) := by decide +kernel
theorem dL_isMeetingSo_159 : decode cL_isMeetingSo 159 = .ok (.iadd, 1) := by decide +kernel
theorem dL_isMeetingSo_160 : decode cL_isMeetingSo 160 = .ok (.if_icmp .ne 7, 3) := by decide +kernel
theorem dL_isMeetingSo_163 : decode cL_isMeetingSo 163 = .ok (.iconst 1, 1) := by decide +kernel
theorem dL_isMeetingSo_164 : decode cL_isMeetingSo 164 = .ok (.goto 4, 3) := by decide +kernel
theorem dL_isMeetingSo_167 : decode cL_isMeetingSo 167 = .ok (.iconst 0, 1) := by decide +kernel
theorem dL_isMeetingSo_168 : decode cL_isMeetingSo 168 = .ok (.ireturn, 1) := by decide +kernel
set_option maxRecDepth 20000 in
theorem ggL_isMonthSo_X0_month : GoodIn wsL_isMonthSo wsX0_month := goodIn_ca (goodIn_r _ [7, 8, 9, 10, 6, 11, 12, 13, 14, 15, 16, 17, 18, 19, 20, 21, 22, 23, 24, 25, 26, 27, 28, 29, 30, 31, 32, 33, 34, 55, 56, 57, 58, 59, 60, 61, 62, 63, 64] (by decide +kernel) (by decide +kernel)) (goodIn_sub (fun _ h => List.mem_cons_of_mem _ (List.mem_append_right _ h)) (by decide +kernel))
set_option maxRecDepth 20000 in
theorem gL_isMonthSo_X0_month : GoodIn wsL_isMonthSo (wsV RL 67 RX0 yX0_month wsX0_month) := goodIn_app (goodIn_of _ (by decide +kernel)) ggL_isMonthSo_X0_month
set_option maxRecDepth 20000 in
theorem ggL_isMonthSo_X0_monthBegin : GoodIn wsL_isMonthSo wsX0_monthBegin := goodIn_ca (goodIn_r _ [38, 39, 40, 8, 27, 26, 14, 15, 6, 16, 17, 18, 19, 20, 21, 28, 29, 30, 31, 32, 33, 34, 55, 56, 57, 58, 59, 60, 61, 62, 63, 64] (by decide +kernel) (by decide +kernel)) (goodIn_sub (fun _ h => List.mem_cons_of_mem _ (List.mem_append_right _ h)) (by decide +kernel))
set_option maxRecDepth 20000 in
theorem gL_isMonthSo_X0_monthBegin : GoodIn wsL_isMonthSo (wsV RL 110 RX0 yX0_monthBegin wsX0_monthBegin) := goodIn_app (goodIn_of _ (by decide +kernel)) ggL_isMonthSo_X0_monthBegin
set_option maxRecDepth 20000 in
theorem ggL_isMonthSo_X0_lunarDay : GoodIn wsL_isMonthSo wsX0_lunarDay := goodIn_ca (goodIn_r _ [44, 9, 10, 6, 11, 12, 13, 14, 15, 16, 17, 18, 19, 20, 21, 45, 46, 47, 48, 8, 27, 22, 23, 24, 25, 26, 49, 50, 51, 52, 53, 33, 54, 28, 29, 30, 31, 32, 34, 55, 56, 57, 58, 59, 60, 61, 62, 63, 64] (by decide +kernel) (by decide +kernel)) (goodIn_sub (fun _ h => List.mem_cons_of_mem _ (List.mem_append_right _ h)) (by decide +kernel))
set_option maxRecDepth 20000 in
theorem gL_isMonthSo_X0_lunarDay : GoodIn wsL_isMonthSo (wsV RL 70 RX0 yX0_lunarDay wsX0_lunarDay) := goodIn_app (goodIn_of _ (by decide +kernel)) ggL_isMonthSo_X0_lunarDay
theorem dL_isMonthSo_0 : decode cL_isMonthSo 0 = .ok (.aload_n 0, 1) := by decide +kernel
theorem dL_isMonthSo_1 : decode cL_isMonthSo 1 = .ok (.iload_n 1, 1) := by decide +kernel
theorem dL_isMonthSo_2 : decode cL_isMonthSo 2 = .ok (.invokevirtual 67, 3) := by decide +kernel
theorem dL_isMonthSo_5 : decode cL_isMonthSo 5 = .ok (.istore_n 2, 1) := by decide +kernel
theorem dL_isMonthSo_6 : decode cL_isMonthSo 6 = .ok (.iload_n 2, 1) := by decide +kernel
theorem dL_isMonthSo_7 : decode cL_isMonthSo 7 = .ok (.ldc 16, 2) := by decide +kernel
theorem dL_isMonthSo_9 : decode cL_isMonthSo 9 = .ok (.if_icmp .lt 9, 3) := by decide +kernel
theorem dL_isMonthSo_12 : decode cL_isMonthSo 12 = .ok (.iload_n 2, 1) := by decide +kernel
theorem dL_isMonthSo_13 : decode cL_isMonthSo 13 = .ok (.ldc 109, 2) := by decide +kernel
theorem dL_isMonthSo_15 : decode cL_isMonthSo 15 = .ok (.if_icmp .le 5, 3) := by decide +kernel
theorem dL_isMonthSo_18 : decode cL_isMonthSo 18 = .ok (.iconst 1, 1) := by decide +kernel
theorem dL_isMonthSo_19 : decode cL_isMonthSo 19 = .ok (.ireturn, 1) := by decide +kernel
theorem dL_isMonthSo_20 : decode cL_isMonthSo 20 = .ok (.aload_n 0, 1) := by decide +kernel
theorem dL_isMonthSo_21 : decode cL_isMonthSo 21 = .ok (.iload_n 2, 1) := by decide +kernel
theorem dL_isMonthSo_22 : decode cL_isMonthSo 22 = .ok (.invokevirtual 110, 3) := by decide +kernel
theorem dL_isMonthSo_25 : decode cL_isMonthSo 25 = .ok (.istore_n 3, 1) := by decide +kernel
theorem dL_isMonthSo_26 : decode cL_isMonthSo 26 = .ok (.iload_n 3, 1) := by decide +kernel
theorem dL_isMonthSo_27 : decode cL_isMonthSo 27 = .ok (.iload_n 1, 1) := by decide +kernel
theorem dL_isMonthSo_28 : decode cL_isMonthSo 28 = .ok (.if_icmp .gt 70, 3) := by decide +kernel
theorem dL_isMonthSo_31 : decode cL_isMonthSo 31 = .ok (.aload_n 0, 1) := by decide +kernel
theorem dL_isMonthSo_32 : decode cL_isMonthSo 32 = .ok (.iload_n 1, 1) := by decide +kernel
theorem dL_isMonthSo_33 : decode cL_isMonthSo 33 = .ok (.invokevirtual 70, 3) := by decide +kernel
theorem dL_isMonthSo_36 : decode cL_isMonthSo 36 = .ok (.iload_n 1, 1) := by decide +kernel
theorem dL_isMonthSo_37 : decode cL_isMonthSo 37 = .ok (.iload_n 3, 1) := by decide +kernel
theorem dL_isMonthSo_38 : decode cL_isMonthSo 38 = .ok (.isub, 1) := by decide +kernel
theorem dL_isMonthSo_39 : decode cL_isMonthSo 39 = .ok (.if_icmp .ne 59, 3) := by decide +kernel
theorem dL_isMonthSo_42 : decode cL_isMonthSo 42 = .ok (.aload_n 0, 1) := by decide +kernel
theorem dL_isMonthSo_43 : decode cL_isMonthSo 43 = .ok (.iload_n 3, 1) := by decide +kernel
theorem dL_isMonthSo_44 : decode cL_isMonthSo 44 = .ok (.invokevirtual 67, 3) := by decide +kernel
theorem dL_isMonthSo_47 : decode cL_isMonthSo 47 = .ok (.iload_n 2, 1) := by decide +kernel
theorem dL_isMonthSo_48 : decode cL_isMonthSo 48 = .ok (.if_icmp .ne 50, 3) := by decide +kernel
theorem dL_isMonthSo_51 : decode cL_isMonthSo 51 = .ok (.aload_n 0, 1) := by decide +kernel
theorem dL_isMonthSo_52 : decode cL_isMonthSo 52 = .ok (.iload_n 3, 1) := by decide +kernel
theorem dL_isMonthSo_53 : decode cL_isMonthSo 53 = .ok (.iconst 1, 1) := by decide +kernel
theorem dL_isMonthSo_54 : decode cL_isMonthSo 54 = .ok (.isub, 1) := by decide +kernel
theorem dL_isMonthSo_55 : decode cL_isMonthSo 55 = .ok (.invokevirtual 67, 3) := by decide +kernel
theorem dL_isMonthSo_58 : decode cL_isMonthSo 58 = .ok (.iload_n 2, 1) := by decide +kernel
theorem dL_isMonthSo_59 : decode cL_isMonthSo 59 = .ok (.iconst 1, 1) := by decide +kernel
theorem dL_isMonthSo_60 : decode cL_isMonthSo 60 = .ok (.isub, 1) := by decide +kernel
theorem dL_isMonthSo_61 : decode cL_isMonthSo 61 = .ok (.if_icmp .ne 37, 3) := by decide +kernel
theorem dL_isMonthSo_64 : decode cL_isMonthSo 64 = .ok (.aload_n 0, 1) := by decide +kernel
theorem dL_isMonthSo_65 : decode cL_isMonthSo 65 = .ok (.iload_n 1, 1) := by decide +kernel
theorem dL_isMonthSo_66 : decode cL_isMonthSo 66 = .ok (.iconst 1, 1) := by decide +kernel
theorem dL_isMonthSo_67 : decode cL_isMonthSo 67 = .ok (.iadd, 1) := by decide +kernel
theorem dL_isMonthSo_68 : decode cL_isMonthSo 68 = .ok (.invokevirtual 67, 3) := by decide +kernel
theorem dL_isMonthSo_71 : decode cL_isMonthSo 71 = .ok (.iload_n 2, 1) := by decide +kernel
theorem dL_isMonthSo_72 : decode cL_isMonthSo 72 = .ok (.isub, 1) := by decide +kernel
theorem dL_isMonthSo_73 : decode cL_isMonthSo 73 = .ok (.aload_n 0, 1) := by decide +kernel
theorem dL_isMonthSo_74 : decode cL_isMonthSo 74 = .ok (.iload_n 2, 1) := by decide +kernel
theorem dL_isMonthSo_75 : decode cL_isMonthSo 75 = .ok (.iconst 1, 1) := by decide +kernel
theorem dL_isMonthSo_76 : decode cL_isMonthSo 76 = .ok (.iadd, 1) := by decide +kernel
theorem dL_isMonthSo_77 : decode cL_isMonthSo 77 = .ok (.invokevirtual 110, 3) := by decide +kernel
theorem dL_isMonthSo_80 : decode cL_isMonthSo 80 = .ok (.iload_n 1, 1) := by decide +kernel
theorem dL_isMonthSo_81 : decode cL_isMonthSo 81 = .ok (.iconst 1, 1) := by decide +kernel
theorem dL_isMonthSo_82 : decode cL_isMonthSo 82 = .ok (.iadd, 1) := by decide +kernel
theorem dL_isMonthSo_83 : decode cL_isMonthSo 83 = .ok (.if_icmp .ne 7, 3) := by decide +kernel
theorem dL_isMonthSo_86 : decode cL_isMonthSo 86 = .ok (.iconst 1, 1) := by decide +kernel
theorem dL_isMonthSo_87 : decode cL_isMonthSo 87 = .ok (.goto 4, 3) := by decide +kernel
theorem dL_isMonthSo_90 : decode cL_isMonthSo 90 = .ok (.iconst 0, 1) := by decide +kernel
theorem dL_isMonthSo_91 : decode cL_isMonthSo 91 = .ok (.if_icmp .ne 7, 3) := by decide +kernel
theorem dL_isMonthSo_94 : decode cL_isMonthSo 94 = .ok (.iconst 1, 1) := by decide +kernel
theorem dL_isMonthSo_95 : decode cL_isMonthSo 95 = .ok (.goto 4, 3) := by decide +kernel
theorem dL_isMonthSo_98 : decode cL_isMonthSo 98 = .ok (.iconst 0, 1) := by decide +kernel
theorem dL_isMonthSo_99 : decode cL_isMonthSo 99 = .ok (.ireturn, 1) := by decide +kernel
set_option maxRecDepth 20000 in
theorem ggL_isDaySo_X0_year : GoodIn wsL_isDaySo wsX0_year := goodIn_ca (goodIn_r _ [6, 7, 8, 5, 9, 10, 11, 12, 13, 14, 15, 16, 17, 18, 19, 20, 21, 22, 23, 24, 25, 26, 27, 28, 29, 30, 31, 32, 33, 34, 106, 107, 108, 109, 110, 111, 112, 113, 114, 115] (by decide +kernel) (by decide +kernel)) (goodIn_sub (fun _ h => List.mem_cons_of_mem _ (List.mem_append_left _ (List.mem_append_right _ h))) (by decide +kernel))
set_option maxRecDepth 20000 in
theorem gL_isDaySo_X0_year : GoodIn wsL_isDaySo (wsV RL 73 RX0 yX0_year wsX0_year) := goodIn_app (goodIn_of _ (by decide +kernel)) ggL_isDaySo_X0_year
set_option maxRecDepth 20000 in
theorem ggL_isDaySo_X0_dayOf : GoodIn wsL_isDaySo wsX0_dayOf := goodIn_ca (goodIn_r _ [38, 26, 39, 40, 5, 41, 12, 13, 14, 15, 16, 17, 18, 19, 42, 43, 44, 45, 27, 25, 24, 46, 47, 48, 49, 50, 33, 51, 52, 53, 54, 55, 28, 29, 30, 31, 32, 34, 106, 107, 108, 109, 110, 111, 112, 113, 114, 115] (by decide +kernel) (by decide +kernel)) (goodIn_sub (fun _ h => List.mem_cons_of_mem _ (List.mem_append_left _ (List.mem_append_right _ h))) (by decide +kernel))
set_option maxRecDepth 20000 in
theorem gL_isDaySo_X0_dayOf : GoodIn wsL_isDaySo (wsV RL 32 RX0 yX0_dayOf wsX0_dayOf) := goodIn_app (goodIn_of _ (by decide +kernel)) ggL_isDaySo_X0_dayOf
set_option maxRecDepth 20000 in
theorem ggL_isDaySo_X0_placeInYear : GoodIn wsL_isDaySo wsX0_placeInYear := goodIn_ca (goodIn_r _ [59, 7, 8, 5, 9, 10, 11, 12, 13, 14, 15, 16, 17, 18, 19, 20, 21, 22, 23, 24, 25, 26, 27, 28, 29, 30, 31, 32, 33, 34, 52, 53, 54, 55, 106, 107, 108, 109, 110, 111, 112, 113, 114, 115] (by decide +kernel) (by decide +kernel)) (goodIn_sub (fun _ h => List.mem_cons_of_mem _ (List.mem_append_left _ (List.mem_append_right _ h))) (by decide +kernel))
set_option maxRecDepth 20000 in
theorem gL_isDaySo_X0_placeInYear : GoodIn wsL_isDaySo (wsV RL 76 RX0 yX0_placeInYear wsX0_placeInYear) := goodIn_app (goodIn_of _ (by decide +kernel)) ggL_isDaySo_X0_placeInYear
set_option maxRecDepth 20000 in
theorem ggL_isDaySo_L_dayOf : GoodIn wsL_isDaySo wsL_dayOf := goodIn_ca (goodIn_r _ [63, 64, 1, 35, 36, 37, 5, 38, 26, 39, 40, 41, 12, 13, 14, 15, 16, 17, 18, 19, 42, 43, 44, 45, 27, 25, 24, 46, 47, 48, 49, 50, 33, 51, 52, 53, 54, 55, 28, 29, 30, 31, 32, 34, 106, 107, 108, 109, 110, 111, 112, 113, 114, 115] (by decide +kernel) (by decide +kernel)) (goodIn_sub (fun _ h => List.mem_cons_of_mem _ (List.mem_append_left _ (List.mem_append_right _ h))) (by decide +kernel))
set_option maxRecDepth 20000 in
theorem gL_isDaySo_L_dayOf : GoodIn wsL_isDaySo (va_wsS RL 113 yL_dayOf wsL_dayOf) := goodIn_app (goodIn_of _ (by decide +kernel)) ggL_isDaySo_L_dayOf
set_option maxRecDepth 20000 in
theorem ggL_isDaySo_X0_isLeap : GoodIn wsL_isDaySo wsX0_isLeap := goodIn_ca (goodIn_r _ [68, 39, 40, 5, 41, 12, 13, 14, 15, 16, 17, 18, 19, 42, 43, 44, 45, 27, 25, 24, 46, 47, 48, 49, 50, 33, 51, 106, 107, 108, 109, 110, 111, 112, 113, 114, 115] (by decide +kernel) (by decide +kernel)) (goodIn_sub (fun _ h => List.mem_cons_of_mem _ (List.mem_append_left _ (List.mem_append_right _ h))) (by decide +kernel))
set_option maxRecDepth 20000 in
theorem gL_isDaySo_X0_isLeap : GoodIn wsL_isDaySo (wsV RL 115 RX0 yX0_isLeap wsX0_isLeap) := goodIn_app (goodIn_of _ (by decide +kernel)) ggL_isDaySo_X0_isLeap
set_option maxRecDepth 20000 in
theorem ggL_isDaySo_X0_markets : GoodIn wsL_isDaySo wsX0_markets := goodIn_r _ [72, 73, 106, 107, 108, 109, 110, 111, 112, 113, 114, 115] (by decide +kernel) (by decide +kernel)
set_option maxRecDepth 20000 in
theorem gL_isDaySo_X0_markets : GoodIn wsL_isDaySo (wsV RL 52 RX0 yX0_markets wsX0_markets) := goodIn_app (goodIn_of _ (by decide +kernel)) ggL_isDaySo_X0_markets
set_option maxRecDepth 20000 in
theorem ggL_isDaySo_X0_timesInYear : GoodIn wsL_isDaySo wsX0_timesInYear := goodIn_ca (goodIn_ca (goodIn_r _ [77, 78, 79, 80, 5, 81, 82, 83, 73, 12, 13, 14, 39, 40, 41, 15, 16, 17, 18, 19, 52, 53, 54, 55, 26, 27, 25, 24, 28, 29, 30, 31, 32, 33, 34, 84, 85, 86, 87, 88, 89, 90, 91, 92, 93, 94, 95, 96, 97, 98, 99, 100, 101, 106, 107, 108, 109, 110, 111, 112, 113, 114, 115] (by decide +kernel) (by decide +kernel)) (goodIn_sub (fun _ h => List.mem_cons_of_mem _ (List.mem_append_right _ h)) (by decide +kernel))) (goodIn_sub (fun _ h => List.mem_cons_of_mem _ (List.mem_append_left _ (List.mem_append_right _ h))) (by decide +kernel))
set_option maxRecDepth 20000 in
theorem gL_isDaySo_X0_timesInYear : GoodIn wsL_isDaySo (wsV RL 118 RX0 yX0_timesInYear wsX0_timesInYear) := goodIn_app (goodIn_of _ (by decide +kernel)) ggL_isDaySo_X0_timesInYear
set_option maxRecDepth 20000 in
theorem ggL_isDaySo_X0_times : GoodIn wsL_isDaySo wsX0_times := goodIn_ca (goodIn_ca (goodIn_r _ [105, 78, 79, 80, 5, 81, 82, 83, 73, 12, 13, 14, 7, 8, 9, 10, 11, 15, 16, 17, 18, 19, 84, 85, 86, 87, 88, 89, 90, 91, 92, 93, 94, 95, 96, 97, 98, 99, 100, 101, 28, 29, 30, 31, 32, 33, 34, 106, 107, 108, 109, 110, 111, 112, 113, 114, 115] (by decide +kernel) (by decide +kernel)) (goodIn_sub (fun _ h => List.mem_cons_of_mem _ (List.mem_append_right _ h)) (by decide +kernel))) (goodIn_sub (fun _ h => List.mem_cons_of_mem _ (List.mem_append_left _ (List.mem_append_right _ h))) (by decide +kernel))
set_option maxRecDepth 20000 in
theorem gL_isDaySo_X0_times : GoodIn wsL_isDaySo (wsV RL 89 RX0 yX0_times wsX0_times) := goodIn_app (goodIn_of _ (by decide +kernel)) ggL_isDaySo_X0_times
theorem dL_isDaySo_0 : decode cL_isDaySo 0 = .ok (.aload_n 0, 1) := by decide +kernel
theorem dL_isDaySo_1 : decode cL_isDaySo 1 = .ok (.iload_n 1, 1) := by decide +kernel
theorem dL_isDaySo_2 : decode cL_isDaySo 2 = .ok (.invokevirtual 73, 3) := by decide +kernel
theorem dL_isDaySo_5 : decode cL_isDaySo 5 = .ok (.istore_n 2, 1) := by decide +kernel
theorem dL_isDaySo_6 : decode cL_isDaySo 6 = .ok (.aload_n 0, 1) := by decide +kernel
theorem dL_isDaySo_7 : decode cL_isDaySo 7 = .ok (.iload_n 2, 1) := by decide +kernel
theorem dL_isDaySo_8 : decode cL_isDaySo 8 = .ok (.iconst 0, 1) := by decide +kernel
theorem dL_isDaySo_9 : decode cL_isDaySo 9 = .ok (.invokevirtual 32, 3) := by decide +kernel
theorem dL_isDaySo_12 : decode cL_isDaySo 12 = .ok (.istore_n 3, 1) := by decide +kernel
theorem dL_isDaySo_13 : decode cL_isDaySo 13 = .ok (.aload_n 0, 1) := by decide +kernel
theorem dL_isDaySo_14 : decode cL_isDaySo 14 = .ok (.iload_n 2, 1) := by decide +kernel
theorem dL_isDaySo_15 : decode cL_isDaySo 15 = .ok (.iconst 1, 1) := by decide +kernel
theorem dL_isDaySo_16 : decode cL_isDaySo 16 = .ok (.iadd, 1) := by decide +kernel
theorem dL_isDaySo_17 : decode cL_isDaySo 17 = .ok (.iconst 0, 1) := by decide +kernel
theorem dL_isDaySo_18 : decode cL_isDaySo 18 = .ok (.invokevirtual 32, 3) := by decide +kernel
theorem dL_isDaySo_21 : decode cL_isDaySo 21 = .ok (.iload_n 3, 1) := by decide +kernel
theorem dL_isDaySo_22 : decode cL_isDaySo 22 = .ok (.isub, 1) := by decide +kernel
theorem dL_isDaySo_23 : decode cL_isDaySo 23 = .ok (.istore 4, 2) := by decide +kernel
theorem dL_isDaySo_25 : decode cL_isDaySo 25 = .ok (.aload_n 0, 1) := by decide +kernel
theorem dL_isDaySo_26 : decode cL_isDaySo 26 = .ok (.iload_n 1, 1) := by decide +kernel
theorem dL_isDaySo_27 : decode cL_isDaySo 27 = .ok (.invokevirtual 76, 3) := by decide +kernel
theorem dL_isDaySo_30 : decode cL_isDaySo 30 = .ok (.iload_n 1, 1) := by decide +kernel
theorem dL_isDaySo_31 : decode cL_isDaySo 31 = .ok (.iload_n 3, 1) := by decide +kernel
theorem dL_isDaySo_32 : decode cL_isDaySo 32 = .ok (.isub, 1) := by decide +kernel
theorem dL_isDaySo_33 : decode cL_isDaySo 33 = .ok (.if_icmp .ne 68, 3) := by decide +kernel
theorem dL_isDaySo_36 : decode cL_isDaySo 36 = .ok (.aload_n 0, 1) := by decide +kernel
theorem dL_isDaySo_37 : decode cL_isDaySo 37 = .ok (.iload_n 2, 1) := by decide +kernel
theorem dL_isDaySo_38 : decode cL_isDaySo 38 = .ok (.iload_n 1, 1) := by decide +kernel
theorem dL_isDaySo_39 : decode cL_isDaySo 39 = .ok (.iload_n 3, 1) := by decide +kernel
theorem dL_isDaySo_40 : decode cL_isDaySo 40 = .ok (.isub, 1) := by decide +kernel
theorem dL_isDaySo_41 : decode cL_isDaySo 41 = .ok (.invokevirtual 32, 3) := by decide +kernel
theorem dL_isDaySo_44 : decode cL_isDaySo 44 = .ok (.iload_n 1, 1) := by decide +kernel
theorem dL_isDaySo_45 : decode cL_isDaySo 45 = .ok (.if_icmp .ne 56, 3) := by decide +kernel
theorem dL_isDaySo_48 : decode cL_isDaySo 48 = .ok (.iload_n 1, 1) := by decide +kernel
theorem dL_isDaySo_49 : decode cL_isDaySo 49 = .ok (.iload_n 3, 1) := by decide +kernel
theorem dL_isDaySo_50 : decode cL_isDaySo 50 = .ok (.isub, 1) := by decide +kernel
theorem dL_isDaySo_51 : decode cL_isDaySo 51 = .ok (.iload 4, 2) := by decide +kernel
theorem dL_isDaySo_53 : decode cL_isDaySo 53 = .ok (.if_icmp .ge 48, 3) := by decide +kernel
theorem dL_isDaySo_56 : decode cL_isDaySo 56 = .ok (.aload_n 0, 1) := by decide +kernel
theorem dL_isDaySo_57 : decode cL_isDaySo 57 = .ok (.iload_n 2, 1) := by decide +kernel
theorem dL_isDaySo_58 : decode cL_isDaySo 58 = .ok (.iload 4, 2) := by decide +kernel
theorem dL_isDaySo_60 : decode cL_isDaySo 60 = .ok (.invokestatic 113, 3) := by decide +kernel
theorem dL_isDaySo_63 : decode cL_isDaySo 63 = .ok (.ldc 35, 2) := by decide +kernel
theorem dL_isDaySo_65 : decode cL_isDaySo 65 = .ok (.if_icmp .ne 36, 3) := by decide +kernel
theorem dL_isDaySo_68 : decode cL_isDaySo 68 = .ok (.aload_n 0, 1) := by decide +kernel
theorem dL_isDaySo_69 : decode cL_isDaySo 69 = .ok (.iload_n 2, 1) := by decide +kernel
theorem dL_isDaySo_70 : decode cL_isDaySo 70 = .ok (.iload 4, 2) := by decide +kernel
theorem dL_isDaySo_72 : decode cL_isDaySo 72 = .ok (.iconst 1, 1) := by decide +kernel
theorem dL_isDaySo_73 : decode cL_isDaySo 73 = .ok (.isub, 1) := by decide +kernel
theorem dL_isDaySo_74 : decode cL_isDaySo 74 = .ok (.invokestatic 113, 3) := by decide +kernel
theorem dL_isDaySo_77 : decode cL_isDaySo 77 = .ok (.iload_n 3, 1) := by decide +kernel
theorem dL_isDaySo_78 : decode cL_isDaySo 78 = .ok (.iload 4, 2) := by decide +kernel
theorem dL_isDaySo_80 : decode cL_isDaySo 80 = .ok (.iadd, 1) := by decide +kernel
theorem dL_isDaySo_81 : decode cL_isDaySo 81 = .ok (.iconst 1, 1) := by decide +kernel
theorem dL_isDaySo_82 : decode cL_isDaySo 82 = .ok (.isub, 1) := by decide +kernel
theorem dL_isDaySo_83 : decode cL_isDaySo 83 = .ok (.if_icmp .ne 18, 3) := by decide +kernel
theorem dL_isDaySo_86 : decode cL_isDaySo 86 = .ok (.aload_n 0, 1) := by decide +kernel
theorem dL_isDaySo_87 : decode cL_isDaySo 87 = .ok (.iload_n 2, 1) := by decide +kernel
theorem dL_isDaySo_88 : decode cL_isDaySo 88 = .ok (.iconst (-1), 1) := by decide +kernel
theorem dL_isDaySo_89 : decode cL_isDaySo 89 = .ok (.invokestatic 113, 3) := by decide +kernel
theorem dL_isDaySo_92 : decode cL_isDaySo 92 = .ok (.ldc 35, 2) := by decide +kernel
theorem dL_isDaySo_94 : decode cL_isDaySo 94 = .ok (.if_icmp .ne 7, 3) := by decide +kernel
theorem dL_isDaySo_97 : decode cL_isDaySo 97 = .ok (.iconst 1, 1) := by decide +kernel
theorem dL_isDaySo_98 : decode cL_isDaySo 98 = .ok (.goto 4, 3) := by decide +kernel
theorem dL_isDaySo_101 : decode cL_isDaySo 101 = .ok (.iconst 0, 1) := by decide +kernel
theorem dL_isDaySo_102 : decode cL_isDaySo 102 = .ok (.istore 5, 2) := by decide +kernel
theorem dL_isDaySo_104 : decode cL_isDaySo 104 = .ok (.iload_n 3, 1) := by decide +kernel
theorem dL_isDaySo_105 : decode cL_isDaySo 105 = .ok (.aload_n 0, 1) := by decide +kernel
theorem dL_isDaySo_106 : decode cL_isDaySo 106 = .ok (.iload_n 2, 1) := by decide +kernel
theorem dL_isDaySo_107 : decode cL_isDaySo 107 = .ok (.iconst 1, 1) := by decide +kernel
theorem dL_isDaySo_108 : decode cL_isDaySo 108 = .ok (.isub, 1) := by decide +kernel
theorem dL_isDaySo_109 : decode cL_isDaySo 109 = .ok (.iconst 0, 1) := by decide +kernel
theorem dL_isDaySo_110 : decode cL_isDaySo 110 = .ok (.invokevirtual 32, 3) := by decide +kernel
theorem dL_isDaySo_113 : decode cL_isDaySo 113 = .ok (.isub, 1) := by decide +kernel
theorem dL_isDaySo_114 : decode cL_isDaySo 114 = .ok (.istore 6, 2) := by decide +kernel
theorem dL_isDaySo_116 : decode cL_isDaySo 116 = .ok (.iload 5, 2) := by decide +kernel
theorem dL_isDaySo_118 : decode cL_isDaySo 118 = .ok (.ifCond .eq 44, 3) := by decide +kernel
theorem dL_isDaySo_121 : decode cL_isDaySo 121 = .ok (.iload 4, 2) := by decide +kernel
theorem dL_isDaySo_123 : decode cL_isDaySo 123 = .ok (.iload 6, 2) := by decide +kernel
theorem dL_isDaySo_125 : decode cL_isDaySo 125 = .ok (.isub, 1) := by decide +kernel
theorem dL_isDaySo_126 : decode cL_isDaySo 126 = .ok (.aload_n 0, 1) := by decide +kernel
theorem dL_isDaySo_127 : decode cL_isDaySo 127 = .ok (.iload_n 2, 1) := by decide +kernel
theorem dL_isDaySo_128 : decode cL_isDaySo 128 = .ok (.invokevirtual 115, 3) := by decide +kernel
theorem dL_isDaySo_131 : decode cL_isDaySo 131 = .ok (.ifCond .eq 7, 3) := by decide +kernel
theorem dL_isDaySo_134 : decode cL_isDaySo 134 = .ok (.iconst 1, 1) := by decide +kernel
theorem dL_isDaySo_135 : decode cL_isDaySo 135 = .ok (.goto 4, 3) := by decide +kernel
theorem dL_isDaySo_138 : decode cL_isDaySo 138 = .ok (.iconst 0, 1) := by decide +kernel
theorem dL_isDaySo_139 : decode cL_isDaySo 139 = .ok (.aload_n 0, 1) := by decide +kernel
theorem dL_isDaySo_140 : decode cL_isDaySo 140 = .ok (.iload_n 2, 1) := by decide +kernel
theorem dL_isDaySo_141 : decode cL_isDaySo 141 = .ok (.iconst 1, 1) := by decide +kernel
theorem dL_isDaySo_142 : decode cL_isDaySo 142 = .ok (.isub, 1) := by decide +kernel
theorem dL_isDaySo_143 : decode cL_isDaySo 143 = .ok (.invokevirtual 115, 3) := by decide +kernel
theorem dL_isDaySo_146 : decode cL_isDaySo 146 = .ok (.ifCond .eq 7, 3) := by decide +kernel
theorem dL_isDaySo_149 : decode cL_isDaySo 149 = .ok (.iconst 1, 1) := by decide +kernel
theorem dL_isDaySo_150 : decode cL_isDaySo 150 = .ok (.goto 4, 3) := by decide +kernel
theorem dL_isDaySo_153 : decode cL_isDaySo 153 = .ok (.iconst 0, 1) := by decide +kernel
theorem dL_isDaySo_154 : decode cL_isDaySo 154 = .ok (.isub, 1) := by decide +kernel
theorem dL_isDaySo_155 : decode cL_isDaySo 155 = .ok (.if_icmp .ne 7, 3) := by decide +kernel
theorem dL_isDaySo_158 : decode cL_isDaySo 158 = .ok (.iconst 1, 1) := by decide +kernel
theorem dL_isDaySo_159 : decode cL_isDaySo 159 = .ok (.goto 4, 3) := by decide +kernel
theorem dL_isDaySo_162 : decode cL_isDaySo 162 = .ok (.iconst 0, 1) := by decide +kernel
theorem dL_isDaySo_163 : decode cL_isDaySo 163 = .ok (.istore 5, 2) := by decide +kernel
theorem dL_isDaySo_165 : decode cL_isDaySo 165 = .ok (.aload_n 0, 1) := by decide +kernel
theorem dL_isDaySo_166 : decode cL_isDaySo 166 = .ok (.invokevirtual 52, 3) := by decide +kernel
theorem dL_isDaySo_169 : decode cL_isDaySo 169 = .ok (.istore 7, 2) := by decide +kernel
theorem dL_isDaySo_171 : decode cL_isDaySo 171 = .ok (.iload 5, 2) := by decide +kernel
theorem dL_isDaySo_173 : decode cL_isDaySo 173 = .ok (.ifCond .eq 39, 3) := by decide +kernel
theorem dL_isDaySo_176 : decode cL_isDaySo 176 = .ok (.iload 7, 2) := by decide +kernel
theorem dL_isDaySo_178 : decode cL_isDaySo 178 = .ok (.ifCond .eq 30, 3) := by decide +kernel
theorem dL_isDaySo_181 : decode cL_isDaySo 181 = .ok (.aload_n 0, 1) := by decide +kernel
theorem dL_isDaySo_182 : decode cL_isDaySo 182 = .ok (.iload 7, 2) := by decide +kernel
theorem dL_isDaySo_184 : decode cL_isDaySo 184 = .ok (.iconst 1, 1) := by decide +kernel
theorem dL_isDaySo_185 : decode cL_isDaySo 185 = .ok (.isub, 1) := by decide +kernel
theorem dL_isDaySo_186 : decode cL_isDaySo 186 = .ok (.iload_n 2, 1) := by decide +kernel
theorem dL_isDaySo_187 : decode cL_isDaySo 187 = .ok (.invokevirtual 118, 3) := by decide +kernel
theorem dL_isDaySo_190 : decode cL_isDaySo 190 = .ok (.aload_n 0, 1) := by decide +kernel
theorem dL_isDaySo_191 : decode cL_isDaySo 191 = .ok (.iload 7, 2) := by decide +kernel
theorem dL_isDaySo_193 : decode cL_isDaySo 193 = .ok (.iconst 1, 1) := by decide +kernel
theorem dL_isDaySo_194 : decode cL_isDaySo 194 = .ok (.isub, 1) := by decide +kernel
theorem dL_isDaySo_195 : decode cL_isDaySo 195 = .ok (.iload_n 3, 1) := by decide +kernel
theorem dL_isDaySo_196 : decode cL_isDaySo 196 = .ok (.iload_n 3, 1) := by decide +kernel
theorem dL_isDaySo_197 : decode cL_isDaySo 197 = .ok (.iload 4, 2) := by decide +kernel
theorem dL_isDaySo_199 : decode cL_isDaySo 199 = .ok (.iadd, 1) := by decide +kernel
theorem dL_isDaySo_200 : decode cL_isDaySo 200 = .ok (.iconst 1, 1) := by decide +kernel
theorem dL_isDaySo_201 : decode cL_isDaySo 201 = .ok (.isub, 1) := by decide +kernel
theorem dL_isDaySo_202 : decode cL_isDaySo 202 = .ok (.invokevirtual 89, 3) := by decide +kernel
theorem dL_isDaySo_205 : decode cL_isDaySo 205 = .ok (.if_icmp .ne 7, 3) := by decide +kernel
theorem dL_isDaySo_208 : decode cL_isDaySo 208 = .ok (.iconst 1, 1) := by decide +kernel
theorem dL_isDaySo_209 : decode cL_isDaySo 209 = .ok (.goto 4, 3) := by decide +kernel
theorem dL_isDaySo_212 : decode cL_isDaySo 212 = .ok (.iconst 0, 1) := by decide +kernel
theorem dL_isDaySo_213 : decode cL_isDaySo 213 = .ok (.ireturn, 1) := by decide +kernel
end
section
set_option maxRecDepth 20000 in
theorem ggL_law_X0_init : GoodIn wsL_law wsX0_init := goodIn_r _ [8, 9, 10, 11, 12, 13, 14, 15, 16, 17, 18, 19, 20, 21, 22, 283, 284, 285, 286, 287, 288, 289, 290, 291, 292] (by decide +kernel) (by decide +kernel)
set_option maxRecDepth 20000 in
theorem gL_law_X0_init : GoodIn wsL_law (wsX0_init) := ggL_law_X0_init
set_option maxRecDepth 20000 in
theorem ggL_law_L_cell : GoodIn wsL_law wsL_cell := goodIn_r _ [26] (by decide +kernel) (by decide +kernel)
set_option maxRecDepth 20000 in
theorem gL_law_L_cell : GoodIn wsL_law (va_wsS RL 122 yL_cell wsL_cell) := goodIn_app (goodIn_of _ (by decide +kernel)) ggL_law_L_cell
set_option maxRecDepth 20000 in
theorem ggL_law_L_act : GoodIn wsL_law wsL_act := goodIn_ca (goodIn_ca (goodIn_ca (goodIn_r _ [29, 30, 31, 25, 32, 33, 34, 35, 36, 37, 38, 5, 39, 40, 41, 2, 42, 43, 44, 15, 13, 14, 45, 46, 47, 48, 49, 50, 51, 52, 53, 54, 55, 56, 57, 58, 59, 60, 61, 62, 63, 64, 65, 66, 67, 68, 69, 70, 71, 72, 73, 74, 75, 76, 77, 78, 79, 80, 81, 82, 83, 84, 85, 86, 87, 88, 89, 90, 91, 92, 93, 94, 95, 96, 16, 17, 18, 97, 98, 99, 100, 101, 102, 103, 19, 20, 21, 22, 283, 284, 285, 286, 287, 288, 289, 290, 291, 292] (by decide +kernel) (by decide +kernel)) (goodIn_sub (fun _ h => List.mem_append_left _ (List.mem_append_left _ (List.mem_append_right _ h))) (by decide +kernel))) (goodIn_sub (fun _ h => List.mem_append_left _ (List.mem_append_right _ h)) (by decide +kernel))) (goodIn_sub (fun _ h => List.mem_append_right _ h) (by decide +kernel))
set_option maxRecDepth 20000 in
theorem gL_law_L_act : GoodIn wsL_law (va_wsS RL 126 yL_act wsL_act) := goodIn_app (goodIn_of _ (by decide +kernel)) ggL_law_L_act
set_option maxRecDepth 20000 in
theorem ggL_law_L_low : GoodIn wsL_law wsL_low := goodIn_r _ [32, 33] (by decide +kernel) (by decide +kernel)
set_option maxRecDepth 20000 in
theorem gL_law_L_low : GoodIn wsL_law (va_wsS RL 44 yL_low wsL_low) := goodIn_app (goodIn_of _ (by decide +kernel)) ggL_law_L_low
set_option maxRecDepth 20000 in
theorem ggL_law_L_areAlike : GoodIn wsL_law wsL_areAlike := goodIn_ca (goodIn_r _ [106, 57, 58, 59, 2, 60, 15, 107, 108, 109, 110, 111, 112, 113, 114, 115, 45, 46, 47, 48, 49, 50, 51, 52, 116, 117, 118, 119, 120, 121, 122, 123, 79, 80, 81, 82, 13, 53, 54, 55, 56, 14, 83, 84, 85, 86, 87, 88, 89, 75, 76, 77, 78, 124, 125, 126, 127, 16, 128, 129, 130, 131, 18, 17, 132, 133, 134, 135, 136, 137, 138, 139, 140, 141, 142, 143, 144, 145, 146, 147, 148, 149, 150, 151, 152, 153, 22, 21, 19, 20, 154, 155, 156, 157, 158, 159, 160, 161, 283, 284, 285, 286, 287, 288, 289, 290, 291, 292] (by decide +kernel) (by decide +kernel)) (goodIn_sub (fun _ h => List.mem_append_left _ (List.mem_append_right _ h)) (by decide +kernel))
set_option maxRecDepth 20000 in
theorem gL_law_L_areAlike : GoodIn wsL_law (va_wsS RL 131 yL_areAlike wsL_areAlike) := goodIn_app (goodIn_of _ (by decide +kernel)) ggL_law_L_areAlike
set_option maxRecDepth 20000 in
theorem ggL_law_L_isDaySo : GoodIn wsL_law wsL_isDaySo := goodIn_ca (goodIn_ca (goodIn_r _ [164, 165, 146, 147, 148, 2, 149, 111, 112, 113, 114, 115, 45, 46, 47, 48, 49, 50, 51, 52, 150, 151, 152, 153, 22, 21, 19, 20, 132, 133, 134, 135, 136, 88, 137, 166, 167, 168, 169, 170, 171, 172, 173, 174, 175, 176, 83, 84, 85, 86, 87, 89, 158, 159, 160, 161, 154, 155, 156, 157, 177, 178, 25, 179, 37, 180, 181, 182, 183, 57, 58, 59, 60, 15, 184, 185, 186, 187, 69, 70, 71, 72, 73, 74, 188, 189, 190, 191, 79, 80, 81, 82, 13, 53, 54, 55, 56, 14, 75, 76, 77, 78, 192, 193, 194, 195, 283, 284, 285, 286, 287, 288, 289, 290, 291, 292] (by decide +kernel) (by decide +kernel)) (goodIn_sub (fun _ h => List.mem_append_left _ (List.mem_append_right _ h)) (by decide +kernel))) (goodIn_sub (fun _ h => List.mem_append_right _ h) (by decide +kernel))
set_option maxRecDepth 20000 in
theorem gL_law_L_isDaySo : GoodIn wsL_law (va_wsS RL 135 yL_isDaySo wsL_isDaySo) := goodIn_app (goodIn_of _ (by decide +kernel)) ggL_law_L_isDaySo
set_option maxRecDepth 20000 in
theorem ggL_law_L_isMonthSo : GoodIn wsL_law wsL_isMonthSo := goodIn_ca (goodIn_r _ [198, 5, 199, 124, 125, 126, 2, 127, 16, 111, 112, 113, 114, 115, 45, 46, 47, 48, 49, 50, 51, 52, 128, 129, 130, 131, 18, 17, 132, 133, 134, 135, 136, 88, 137, 200, 201, 202, 203, 204, 205, 138, 139, 140, 141, 142, 143, 144, 145, 83, 84, 85, 86, 87, 89, 283, 284, 285, 286, 287, 288, 289, 290, 291, 292] (by decide +kernel) (by decide +kernel)) (goodIn_sub (fun _ h => List.mem_append_left _ (List.mem_append_right _ h)) (by decide +kernel))
set_option maxRecDepth 20000 in
theorem gL_law_L_isMonthSo : GoodIn wsL_law (va_wsS RL 139 yL_isMonthSo wsL_isMonthSo) := goodIn_app (goodIn_of _ (by decide +kernel)) ggL_law_L_isMonthSo
set_option maxRecDepth 20000 in
theorem ggL_law_X0_markets : GoodIn wsL_law wsX0_markets := goodIn_r _ [60, 15, 283, 284, 285, 286, 287, 288, 289, 290, 291, 292] (by decide +kernel) (by decide +kernel)
set_option maxRecDepth 20000 in
theorem gL_law_X0_markets : GoodIn wsL_law (wsV RL 52 RX0 yX0_markets wsX0_markets) := goodIn_app (goodIn_of _ (by decide +kernel)) ggL_law_X0_markets
set_option maxRecDepth 20000 in
theorem ggL_law_L_isMarketSo : GoodIn wsL_law wsL_isMarketSo := goodIn_ca (goodIn_ca (goodIn_r _ [208, 209, 210, 211, 2, 212, 69, 70, 71, 72, 73, 74, 15, 45, 46, 47, 111, 112, 113, 114, 115, 48, 49, 50, 51, 52, 75, 76, 77, 78, 14, 53, 54, 55, 56, 13, 79, 80, 81, 82, 83, 84, 85, 86, 87, 88, 89, 213, 214, 215, 216, 217, 218, 219, 220, 120, 121, 122, 123, 192, 193, 194, 195, 188, 189, 190, 191, 132, 133, 134, 135, 136, 137, 107, 108, 109, 110, 116, 117, 118, 119, 283, 284, 285, 286, 287, 288, 289, 290, 291, 292] (by decide +kernel) (by decide +kernel)) (goodIn_sub (fun _ h => List.mem_append_right _ h) (by decide +kernel))) (goodIn_sub (fun _ h => List.mem_append_left _ (List.mem_append_right _ h)) (by decide +kernel))
set_option maxRecDepth 20000 in
theorem gL_law_L_isMarketSo : GoodIn wsL_law (va_wsS RL 142 yL_isMarketSo wsL_isMarketSo) := goodIn_app (goodIn_of _ (by decide +kernel)) ggL_law_L_isMarketSo
set_option maxRecDepth 20000 in
theorem ggL_law_L_isMeetingSo : GoodIn wsL_law wsL_isMeetingSo := goodIn_ca (goodIn_ca (goodIn_ca (goodIn_r _ [223, 224, 165, 225, 226, 227, 228, 25, 229, 37, 64, 38, 5, 230, 231, 232, 2, 233, 234, 235, 236, 237, 238, 239, 240, 241, 242, 243, 244, 45, 46, 47, 48, 49, 50, 51, 52, 245, 246, 247, 248, 73, 74, 15, 249, 250, 251, 252, 253, 254, 255, 256, 257, 79, 80, 81, 82, 13, 53, 54, 55, 56, 14, 120, 121, 122, 123, 83, 84, 85, 86, 87, 88, 89, 75, 76, 77, 78, 258, 259, 260, 261, 262, 263, 43, 44, 264, 265, 266, 267, 268, 269, 270, 271, 272, 273, 274, 111, 112, 113, 114, 115, 275, 276, 277, 278, 107, 108, 109, 110, 116, 117, 118, 119, 279, 280, 281, 282, 142, 143, 144, 145, 16, 17, 128, 129, 130, 131, 18, 132, 133, 134, 135, 136, 137, 283, 284, 285, 286, 287, 288, 289, 290, 291, 292] (by decide +kernel) (by decide +kernel)) (goodIn_sub (fun _ h => List.mem_append_left _ (List.mem_append_right _ h)) (by decide +kernel))) (goodIn_sub (fun _ h => List.mem_append_right _ h) (by decide +kernel))) (goodIn_sub (fun _ h => List.mem_append_left _ (List.mem_append_left _ (List.mem_append_right _ h))) (by decide +kernel))
set_option maxRecDepth 20000 in
theorem gL_law_L_isMeetingSo : GoodIn wsL_law (va_wsS RL 146 yL_isMeetingSo wsL_isMeetingSo) := goodIn_app (goodIn_of _ (by decide +kernel)) ggL_law_L_isMeetingSo
theorem dL_law_0 : decode cL_law 0 = .ok (.new 9, 3) := by decide +kernel
theorem dL_law_3 : decode cL_law 3 = .ok (.dup, 1) := by decide +kernel
theorem dL_law_4 : decode cL_law 4 = .ok (.invokespecial 121, 3) := by decide +kernel
theorem dL_law_7 : decode cL_law 7 = .ok (.astore_n 1, 1) := by decide +kernel
theorem dL_law_8 : decode cL_law 8 = .ok (.new 9, 3) := by decide +kernel
theorem dL_law_11 : decode cL_law 11 = .ok (.dup, 1) := by decide +kernel
theorem dL_law_12 : decode cL_law 12 = .ok (.invokespecial 121, 3) := by decide +kernel
theorem dL_law_15 : decode cL_law 15 = .ok (.astore_n 2, 1) := by decide +kernel
theorem dL_law_16 : decode cL_law 16 = .ok (.iconst 0, 1) := by decide +kernel
theorem dL_law_17 : decode cL_law 17 = .ok (.istore_n 3, 1) := by decide +kernel
theorem dL_law_18 : decode cL_law 18 = .ok (.iload_n 3, 1) := by decide +kernel
theorem dL_law_19 : decode cL_law 19 = .ok (.bipush 40, 2) := by decide +kernel
theorem dL_law_21 : decode cL_law 21 = .ok (.if_icmp .ge 208, 3) := by decide +kernel
theorem dL_law_24 : decode cL_law 24 = .ok (.aload_n 0, 1) := by decide +kernel
theorem dL_law_25 : decode cL_law 25 = .ok (.iload_n 3, 1) := by decide +kernel
theorem dL_law_26 : decode cL_law 26 = .ok (.invokestatic 122, 3) := by decide +kernel
theorem dL_law_29 : decode cL_law 29 = .ok (.istore 4, 2) := by decide +kernel
theorem dL_law_31 : decode cL_law 31 = .ok (.aload_n 1, 1) := by decide +kernel
theorem dL_law_32 : decode cL_law 32 = .ok (.iload 4, 2) := by decide +kernel
theorem dL_law_34 : decode cL_law 34 = .ok (.invokestatic 126, 3) := by decide +kernel
theorem dL_law_37 : decode cL_law 37 = .ok (.istore 5, 2) := by decide +kernel
theorem dL_law_39 : decode cL_law 39 = .ok (.iload 4, 2) := by decide +kernel
theorem dL_law_41 : decode cL_law 41 = .ok (.iconst 3, 1) := by decide +kernel
theorem dL_law_42 : decode cL_law 42 = .ok (.ishr, 1) := by decide +kernel
theorem dL_law_43 : decode cL_law 43 = .ok (.ldc 129, 2) := by decide +kernel
theorem dL_law_45 : decode cL_law 45 = .ok (.invokestatic 44, 3) := by decide +kernel
theorem dL_law_48 : decode cL_law 48 = .ok (.ldc 130, 2) := by decide +kernel
theorem dL_law_50 : decode cL_law 50 = .ok (.isub, 1) := by decide +kernel
theorem dL_law_51 : decode cL_law 51 = .ok (.istore 6, 2) := by decide +kernel
theorem dL_law_53 : decode cL_law 53 = .ok (.iload 5, 2) := by decide +kernel
theorem dL_law_55 : decode cL_law 55 = .ok (.ldc 16, 2) := by decide +kernel
theorem dL_law_57 : decode cL_law 57 = .ok (.if_icmp .eq 14, 3) := by decide +kernel
theorem dL_law_60 : decode cL_law 60 = .ok (.aload_n 2, 1) := by decide +kernel
theorem dL_law_61 : decode cL_law 61 = .ok (.iload 4, 2) := by decide +kernel
theorem dL_law_63 : decode cL_law 63 = .ok (.invokestatic 126, 3) := by decide +kernel
theorem dL_law_66 : decode cL_law 66 = .ok (.iload 5, 2) := by decide +kernel
theorem dL_law_68 : decode cL_law 68 = .ok (.if_icmp .ne 75, 3) := by decide +kernel
theorem dL_law_71 : decode cL_law 71 = .ok (.aload_n 1, 1) := by decide +kernel
theorem dL_law_72 : decode cL_law 72 = .ok (.aload_n 2, 1) := by decide +kernel
end
section
theorem dL_law_73 : decode cL_law 73 = .ok (.iload 6, 2) := by decide +kernel
theorem dL_law_75 : decode cL_law 75 = .ok (.invokestatic 131, 3) := by decide +kernel
theorem dL_law_78 : decode cL_law 78 = .ok (.ifCond .eq 65, 3) := by decide +kernel
theorem dL_law_81 : decode cL_law 81 = .ok (.aload_n 1, 1) := by decide +kernel
theorem dL_law_82 : decode cL_law 82 = .ok (.iload 6, 2) := by decide +kernel
theorem dL_law_84 : decode cL_law 84 = .ok (.invokestatic 135, 3) := by decide +kernel
theorem dL_law_87 : decode cL_law 87 = .ok (.ifCond .eq 56, 3) := by decide +kernel
theorem dL_law_90 : decode cL_law 90 = .ok (.aload_n 1, 1) := by decide +kernel
theorem dL_law_91 : decode cL_law 91 = .ok (.iload 4, 2) := by decide +kernel
theorem dL_law_93 : decode cL_law 93 = .ok (.bipush 8, 2) := by decide +kernel
theorem dL_law_95 : decode cL_law 95 = .ok (.ishr, 1) := by decide +kernel
theorem dL_law_96 : decode cL_law 96 = .ok (.sipush 2000, 3) := by decide +kernel
theorem dL_law_99 : decode cL_law 99 = .ok (.invokestatic 44, 3) := by decide +kernel
theorem dL_law_102 : decode cL_law 102 = .ok (.sipush 1000, 3) := by decide +kernel
theorem dL_law_105 : decode cL_law 105 = .ok (.isub, 1) := by decide +kernel
theorem dL_law_106 : decode cL_law 106 = .ok (.invokestatic 135, 3) := by decide +kernel
theorem dL_law_109 : decode cL_law 109 = .ok (.ifCond .eq 34, 3) := by decide +kernel
theorem dL_law_112 : decode cL_law 112 = .ok (.aload_n 1, 1) := by decide +kernel
theorem dL_law_113 : decode cL_law 113 = .ok (.iload 6, 2) := by decide +kernel
theorem dL_law_115 : decode cL_law 115 = .ok (.invokestatic 139, 3) := by decide +kernel
theorem dL_law_118 : decode cL_law 118 = .ok (.ifCond .eq 25, 3) := by decide +kernel
theorem dL_law_121 : decode cL_law 121 = .ok (.aload_n 1, 1) := by decide +kernel
theorem dL_law_122 : decode cL_law 122 = .ok (.iload 4, 2) := by decide +kernel
theorem dL_law_124 : decode cL_law 124 = .ok (.bipush 8, 2) := by decide +kernel
theorem dL_law_126 : decode cL_law 126 = .ok (.ishr, 1) := by decide +kernel
theorem dL_law_127 : decode cL_law 127 = .ok (.sipush 2000, 3) := by decide +kernel
theorem dL_law_130 : decode cL_law 130 = .ok (.invokestatic 44, 3) := by decide +kernel
theorem dL_law_133 : decode cL_law 133 = .ok (.sipush 1000, 3) := by decide +kernel
theorem dL_law_136 : decode cL_law 136 = .ok (.isub, 1) := by decide +kernel
theorem dL_law_137 : decode cL_law 137 = .ok (.invokestatic 139, 3) := by decide +kernel
theorem dL_law_140 : decode cL_law 140 = .ok (.ifCond .ne 5, 3) := by decide +kernel
theorem dL_law_143 : decode cL_law 143 = .ok (.iconst 0, 1) := by decide +kernel
theorem dL_law_144 : decode cL_law 144 = .ok (.ireturn, 1) := by decide +kernel
theorem dL_law_145 : decode cL_law 145 = .ok (.aload_n 1, 1) := by decide +kernel
theorem dL_law_146 : decode cL_law 146 = .ok (.invokevirtual 52, 3) := by decide +kernel
theorem dL_law_149 : decode cL_law 149 = .ok (.istore 7, 2) := by decide +kernel
theorem dL_law_151 : decode cL_law 151 = .ok (.iload 7, 2) := by decide +kernel
theorem dL_law_153 : decode cL_law 153 = .ok (.ifCond .le 55, 3) := by decide +kernel
theorem dL_law_156 : decode cL_law 156 = .ok (.aload_n 1, 1) := by decide +kernel
theorem dL_law_157 : decode cL_law 157 = .ok (.iload 4, 2) := by decide +kernel
theorem dL_law_159 : decode cL_law 159 = .ok (.bipush 6, 2) := by decide +kernel
theorem dL_law_161 : decode cL_law 161 = .ok (.ishr, 1) := by decide +kernel
theorem dL_law_162 : decode cL_law 162 = .ok (.iload 7, 2) := by decide +kernel
theorem dL_law_164 : decode cL_law 164 = .ok (.invokestatic 44, 3) := by decide +kernel
theorem dL_law_167 : decode cL_law 167 = .ok (.iload 6, 2) := by decide +kernel
theorem dL_law_169 : decode cL_law 169 = .ok (.invokestatic 142, 3) := by decide +kernel
theorem dL_law_172 : decode cL_law 172 = .ok (.ifCond .eq 49, 3) := by decide +kernel
theorem dL_law_175 : decode cL_law 175 = .ok (.aload_n 1, 1) := by decide +kernel
theorem dL_law_176 : decode cL_law 176 = .ok (.iload 4, 2) := by decide +kernel
theorem dL_law_178 : decode cL_law 178 = .ok (.bipush 9, 2) := by decide +kernel
theorem dL_law_180 : decode cL_law 180 = .ok (.ishr, 1) := by decide +kernel
theorem dL_law_181 : decode cL_law 181 = .ok (.iconst 1, 1) := by decide +kernel
theorem dL_law_182 : decode cL_law 182 = .ok (.iload 7, 2) := by decide +kernel
theorem dL_law_184 : decode cL_law 184 = .ok (.ishl, 1) := by decide +kernel
theorem dL_law_185 : decode cL_law 185 = .ok (.invokestatic 44, 3) := by decide +kernel
theorem dL_law_188 : decode cL_law 188 = .ok (.iload 4, 2) := by decide +kernel
theorem dL_law_190 : decode cL_law 190 = .ok (.iconst 2, 1) := by decide +kernel
theorem dL_law_191 : decode cL_law 191 = .ok (.ishr, 1) := by decide +kernel
theorem dL_law_192 : decode cL_law 192 = .ok (.iconst 1, 1) := by decide +kernel
theorem dL_law_193 : decode cL_law 193 = .ok (.iload 7, 2) := by decide +kernel
theorem dL_law_195 : decode cL_law 195 = .ok (.ishl, 1) := by decide +kernel
theorem dL_law_196 : decode cL_law 196 = .ok (.invokestatic 44, 3) := by decide +kernel
theorem dL_law_199 : decode cL_law 199 = .ok (.iand, 1) := by decide +kernel
theorem dL_law_200 : decode cL_law 200 = .ok (.iload 6, 2) := by decide +kernel
theorem dL_law_202 : decode cL_law 202 = .ok (.invokestatic 146, 3) := by decide +kernel
theorem dL_law_205 : decode cL_law 205 = .ok (.ifCond .eq 16, 3) := by decide +kernel
theorem dL_law_208 : decode cL_law 208 = .ok (.aload_n 1, 1) := by decide +kernel
theorem dL_law_209 : decode cL_law 209 = .ok (.iconst 1, 1) := by decide +kernel
theorem dL_law_210 : decode cL_law 210 = .ok (.iload 7, 2) := by decide +kernel
theorem dL_law_212 : decode cL_law 212 = .ok (.ishl, 1) := by decide +kernel
theorem dL_law_213 : decode cL_law 213 = .ok (.iload 6, 2) := by decide +kernel
theorem dL_law_215 : decode cL_law 215 = .ok (.invokestatic 146, 3) := by decide +kernel
theorem dL_law_218 : decode cL_law 218 = .ok (.ifCond .ne 5, 3) := by decide +kernel
theorem dL_law_221 : decode cL_law 221 = .ok (.iconst 0, 1) := by decide +kernel
theorem dL_law_222 : decode cL_law 222 = .ok (.ireturn, 1) := by decide +kernel
theorem dL_law_223 : decode cL_law 223 = .ok (.iinc 3 1, 3) := by decide +kernel
theorem dL_law_226 : decode cL_law 226 = .ok (.goto (-208), 3) := by decide +kernel
theorem dL_law_229 : decode cL_law 229 = .ok (.iconst 1, 1) := by decide +kernel
theorem dL_law_230 : decode cL_law 230 = .ok (.ireturn, 1) := by decide +kernel
abbrev vwCl : List vw_C := [(RX0, TX0, 10)]
end
section
/-! numbers: an int or a long of the machine as the number that it stands for -/
def mI (z : Int) : Int32 := Int32.ofInt z
def mL (z : Int) : Int64 := Int64.ofInt z
abbrev mRI (z : Int) : Prop := -2147483648 ≤ z ∧ z < 2147483648
abbrev mRL (z : Int) : Prop := -9223372036854775808 ≤ z ∧ z < 9223372036854775808
theorem mI_t {z : Int} (h : mRI z) : (mI z).toInt = z := Int32.toInt_ofInt_of_le (by have := h.1; omega) (by have := h.2; omega)
theorem mL_t {z : Int} (h : mRL z) : (mL z).toInt = z := Int64.toInt_ofInt_of_le (by have := h.1; omega) (by have := h.2; omega)
theorem mI_self (x : Int32) : mI x.toInt = x := Int32.ofInt_toInt x
theorem mL_self (x : Int64) : mL x.toInt = x := Int64.ofInt_toInt x
theorem mI_rng (x : Int32) : mRI x.toInt := by have h1 := x.le_toInt; have h2 := x.toInt_lt; constructor <;> omega
theorem mI_add (a b : Int) : mI a + mI b = mI (a + b) := (Int32.ofInt_add a b).symm
theorem mI_sub (a b : Int) : mI a - mI b = mI (a - b) := (Int32.ofInt_sub a b).symm
theorem mI_mul (a b : Int) : mI a * mI b = mI (a * b) := (Int32.ofInt_mul a b).symm
theorem mL_add (a b : Int) : mL a + mL b = mL (a + b) := (Int64.ofInt_add a b).symm
theorem mL_sub (a b : Int) : mL a - mL b = mL (a - b) := (Int64.ofInt_sub a b).symm
theorem mL_mul (a b : Int) : mL a * mL b = mL (a * b) := (Int64.ofInt_mul a b).symm
theorem mL_neg (a : Int) : -mL a = mL (-a) := (Int64.ofInt_neg a).symm
theorem mI_lt {a b : Int} (ha : mRI a) (hb : mRI b) : mI a < mI b ↔ a < b := by rw [Int32.lt_iff_toInt_lt, mI_t ha, mI_t hb]
theorem mI_le {a b : Int} (ha : mRI a) (hb : mRI b) : mI a ≤ mI b ↔ a ≤ b := by rw [Int32.le_iff_toInt_le, mI_t ha, mI_t hb]
theorem mI_eq {a b : Int} (ha : mRI a) (hb : mRI b) : mI a = mI b ↔ a = b := by rw [← Int32.toInt_inj, mI_t ha, mI_t hb]
theorem mL_lt {a b : Int} (ha : mRL a) (hb : mRL b) : mL a < mL b ↔ a < b := by rw [Int64.lt_iff_toInt_lt, mL_t ha, mL_t hb]
theorem mL_le {a b : Int} (ha : mRL a) (hb : mRL b) : mL a ≤ mL b ↔ a ≤ b := by rw [Int64.le_iff_toInt_le, mL_t ha, mL_t hb]
theorem mL_eq {a b : Int} (ha : mRL a) (hb : mRL b) : mL a = mL b ↔ a = b := by rw [← Int64.toInt_inj, mL_t ha, mL_t hb]
theorem mI_0 : mI 0 = 0 := by decide +kernel
theorem mI_1 : mI 1 = 1 := by decide +kernel
theorem mL_0 : mL 0 = 0 := by decide +kernel
theorem mI_lit (n : Nat) : (OfNat.ofNat n : Int32) = mI n := by
  show Int32.ofNat n = Int32.ofInt n
  exact Int32.ofInt_eq_ofNat.symm
theorem mI_r0 : mRI 0 := by omega
theorem mL_r0 : mRL 0 := by omega
theorem mI_i2l {a : Int} (h : mRI a) : (mI a).toInt64 = mL a := by
  apply Int64.toInt_inj.mp
  rw [Int32.toInt_toInt64, mI_t h, mL_t (by omega)]
theorem mL_l2i (a : Int) : (mL a).toInt32 = mI a := Int64.toInt32_ofInt
theorem mL_div {a b : Int} (ha0 : -9223372036854775807 ≤ a ∧ a < 9223372036854775808) (hb : mRL b) (h0 : 0 < b) : mL a / mL b = mL (a.tdiv b) := by
  have ha : mRL a := ⟨by omega, ha0.2⟩
  apply Int64.toInt_inj.mp
  have hne : mL b ≠ -1 := by
    intro h
    have h2 : (mL b).toInt = (-1 : Int64).toInt := by rw [h]
    rw [mL_t hb] at h2
    have h3 : (-1 : Int64).toInt = -1 := by decide +kernel
    omega
  rw [Int64.toInt_div_of_ne_right _ _ hne, mL_t ha, mL_t hb, mL_t]
  have h1 : (a.tdiv b).natAbs ≤ a.natAbs := by
    rw [Int.natAbs_tdiv]
    exact Nat.div_le_self _ _
  omega
theorem mL_rem {a b : Int} (ha0 : -9223372036854775807 ≤ a ∧ a < 9223372036854775808) (hb : mRL b) (h0 : 0 < b) : mL a - mL a / mL b * mL b = mL (a.tmod b) := by
  rw [mL_div ha0 hb h0, mL_mul, mL_sub]
  congr 1
  have := Int.mul_tdiv_add_tmod a b
  have h2 : a.tdiv b * b = b * a.tdiv b := Int.mul_comm _ _
  omega
theorem mL_ne0 {b : Int} (hb : mRL b) (h0 : 0 < b) : ¬ mL b = 0 := by
  rw [← mL_0, mL_eq hb mL_r0]; omega
theorem mI_clamp {z : Int} (h0 : 0 ≤ z) (h : z < 2147483648) : ((mI z).toNatClampNeg : Int) = z := by
  have h1 : (mI z).toInt = z := mI_t ⟨by omega, h⟩
  have h2 : (mI z).toNatClampNeg = (mI z).toInt.toNat := rfl
  rw [h2, h1]
  omega
theorem mI_in {z : Int} {n : Nat} (h0 : 0 ≤ z) (h : z < n) (hn : n < 2 ^ 31) : vp_in (mI z) n := by
  rw [vp_in_iff, mI_t ⟨by omega, by omega⟩]
  exact ⟨h0, h⟩
/-- a truth as a number -/
def mB (p : Prop) [Decidable p] : Int := if p then 1 else 0
theorem mB_t {p : Prop} [Decidable p] (h : p) : mB p = 1 := if_pos h
theorem mB_f {p : Prop} [Decidable p] (h : ¬ p) : mB p = 0 := if_neg h
theorem mB_0 {p : Prop} [Decidable p] : mI (mB p) = 0 ↔ ¬ p := by
  by_cases h : p
  · rw [mB_t h]; exact ⟨fun q => absurd q (by decide +kernel), fun q => absurd h q⟩
  · rw [mB_f h]; exact ⟨fun _ => h, fun _ => by decide +kernel⟩
theorem mB_nar {p : Prop} [Decidable p] : narrow .boolean (.int (mI (mB p))) = .int (mI (mB p)) := by
  by_cases h : p
  · rw [mB_t h]; decide +kernel
  · rw [mB_f h]; decide +kernel
theorem mB_r {p : Prop} [Decidable p] : 0 ≤ mB p ∧ mB p ≤ 1 := by
  by_cases h : p
  · rw [mB_t h]; omega
  · rw [mB_f h]; omega
theorem mB_iff {p q : Prop} [Decidable p] [Decidable q] (h : p ↔ q) : mB p = mB q := by
  by_cases hp : p
  · rw [mB_t hp, mB_t (h.mp hp)]
  · rw [mB_f hp, mB_f (fun hq => hp (h.mpr hq))]
/-- a row of numbers, one of them changed -/
def mU (L : Int → Int) (z x : Int) : Int → Int := fun k => if k = z then x else L k
theorem mU_upd (L : Int → Int) {z x : Int} (h0 : 0 ≤ z) (h : z < 2147483648) : upd (fun k : Nat => mI (L (k : Int))) (mI z).toNatClampNeg (mI x) = fun k : Nat => mI (mU L z x (k : Int)) := by
  funext k
  have hc := mI_clamp h0 h
  by_cases hk : k = (mI z).toNatClampNeg
  · subst hk
    rw [pk_us]
    show mI x = mI (if ((mI z).toNatClampNeg : Int) = z then x else _)
    rw [if_pos hc]
  · rw [pk_un hk]
    show mI _ = mI (if (k : Int) = z then x else _)
    rw [if_neg (fun q => hk (by omega))]
/-- the machine's division and remainder of longs, and those of rounding down -/
theorem m_fdiv {a b : Int} (hb : 0 < b) : a / b = if (a < 0 ∧ ¬ a.tdiv b * b = a) then a.tdiv b - 1 else a.tdiv b := by
  have h1 := Int.mul_tdiv_add_tmod a b
  have h2 := Int.mul_ediv_add_emod a b
  have h3 := Int.emod_nonneg a (by omega : b ≠ 0)
  have h4 := Int.emod_lt_of_pos a hb
  have h5 : a.tdiv b * b = b * a.tdiv b := Int.mul_comm _ _
  by_cases ha : a < 0
  · have h6 : a.tmod b ≤ 0 := by
      have := Int.tmod_nonneg b (a := -a) (by omega)
      rw [Int.neg_tmod] at this
      omega
    have h7 : -b < a.tmod b := by
      have := Int.tmod_lt_of_pos (-a) hb
      rw [Int.neg_tmod] at this
      omega
    by_cases hz : a.tmod b = 0
    · rw [if_neg (fun q => q.2 (by omega))]
      have : b * (a / b) - b * a.tdiv b = -(a % b) := by omega
      have e : b * (a / b - a.tdiv b) = -(a % b) := by rw [Int.mul_sub]; exact this
      have e1 : a / b - a.tdiv b ≤ 0 := by
        rcases (by omega : 0 < (a / b - a.tdiv b) ∨ (a / b - a.tdiv b) ≤ 0) with q | q
        · have := Int.mul_pos hb q; omega
        · exact q
      have e2 : -1 < a / b - a.tdiv b := by
        rcases (by omega : (-1) < (a / b - a.tdiv b) ∨ (a / b - a.tdiv b) ≤ (-1)) with q | q
        · exact q
        · have := Int.mul_le_mul_of_nonneg_left q (by omega : 0 ≤ b); omega
      omega
    · rw [if_pos ⟨ha, by omega⟩]
      have this : b * (a / b) - b * a.tdiv b = a.tmod b - a % b := by omega
      have e : b * (a / b - a.tdiv b) = a.tmod b - a % b := by rw [Int.mul_sub]; exact this
      have e1 : a / b - a.tdiv b < 0 := by
        rcases (by omega : (a / b - a.tdiv b) < 0 ∨ 0 ≤ (a / b - a.tdiv b)) with q | q
        · exact q
        · have := Int.mul_nonneg (by omega : 0 ≤ b) q; omega
      have e2 : -2 < a / b - a.tdiv b := by
        rcases (by omega : (-2) < (a / b - a.tdiv b) ∨ (a / b - a.tdiv b) ≤ (-2)) with q | q
        · exact q
        · have := Int.mul_le_mul_of_nonneg_left q (by omega : 0 ≤ b); omega
      omega
  · rw [if_neg (fun q => ha q.1), Int.tdiv_eq_ediv_of_nonneg (by omega)]
theorem m_fmod {a b : Int} (hb : 0 < b) : a % b = if (a < 0 ∧ ¬ a.tmod b = 0) then a.tmod b + b else a.tmod b := by
  have h1 := Int.mul_tdiv_add_tmod a b
  have h2 := Int.mul_ediv_add_emod a b
  have h5 : a.tdiv b * b = b * a.tdiv b := Int.mul_comm _ _
  have h6 := m_fdiv (a := a) hb
  by_cases c : a < 0 ∧ ¬ a.tdiv b * b = a
  · rw [if_pos c] at h6
    rw [if_pos ⟨c.1, by omega⟩]
    rw [h6, Int.mul_sub] at h2
    omega
  · rw [if_neg c] at h6
    rw [if_neg (fun q => c ⟨q.1, by omega⟩)]
    rw [h6] at h2
    omega
theorem m_tmod_r {a b : Int} (hb : 0 < b) : -b ≤ a.tmod b ∧ a.tmod b < b := by
  have h := m_fmod (a := a) hb
  have h3 := Int.emod_nonneg a (by omega : b ≠ 0)
  have h4 := Int.emod_lt_of_pos a hb
  by_cases c : a < 0 ∧ ¬ a.tmod b = 0
  · rw [if_pos c] at h; omega
  · rw [if_neg c] at h; omega
theorem m_tmod_neg {a b : Int} (hb : 0 < b) : (a.tmod b < 0 ↔ (a < 0 ∧ ¬ a.tmod b = 0)) := by
  have h := m_fmod (a := a) hb
  have h3 := Int.emod_nonneg a (by omega : b ≠ 0)
  have h4 := Int.emod_lt_of_pos a hb
  by_cases c : a < 0 ∧ ¬ a.tmod b = 0
  · rw [if_pos c] at h
    exact ⟨fun _ => c, fun _ => by omega⟩
  · rw [if_neg c] at h
    exact ⟨fun q => by omega, fun q => absurd q c⟩
theorem m_tdiv_r {a b : Int} (hb : 0 < b) : a.natAbs ≥ (a.tdiv b).natAbs := by
  rw [Int.natAbs_tdiv]
  exact Nat.div_le_self _ _
theorem m_div_r {a b : Int} (hb : 0 < b) : -(a.natAbs : Int) ≤ a / b ∧ a / b ≤ a.natAbs := by
  rcases (by omega : a < 0 ∨ 0 ≤ a) with q | q
  · constructor
    · rw [Int.le_ediv_iff_mul_le hb]
      have : -(a.natAbs : Int) = a := by omega
      rw [this]
      have := Int.mul_le_mul_of_nonpos_left (a := a) (b := b) (c := 1) (by omega) (by omega)
      omega
    · have : a / b < 0 := Int.ediv_neg_of_neg_of_pos q hb
      omega
  · have h1 := Int.ediv_nonneg q (by omega : 0 ≤ b)
    have h2 := Int.ediv_le_self b q
    omega
end
section
section MWR
variable {p : Program} {l : Launch} {e : Env} {R : Room} {s : State} {m : MethodId} {args : Array Value} {below : List Frame} {meth : Method} {c : Code} {H : Heap} {locs : List Loc} {cells slots : Nat} {Q : State → Prop}
variable {cc : ByteArray} {pc : Nat} {ls : Array Slot} {rest : List Value}

theorem mw_iadd (hx : p.tables.exec = Jvm.exec) (hb : c.code = cc) {x y : Int} (hdg : decode cc pc = .ok (.iadd, 1)) (k : W p l e R s m args below meth c H locs cells slots Q (F0 m (pc + 1) ls (.int (mI (x + y)) :: rest))) : W p l e R s m args below meth c H locs cells slots Q (F0 m pc ls (.int (mI y) :: .int (mI x) :: rest)) := lv_iadd hx hb hdg (by rw [mI_add]; exact k)
theorem mw_isub (hx : p.tables.exec = Jvm.exec) (hb : c.code = cc) {x y : Int} (hdg : decode cc pc = .ok (.isub, 1)) (k : W p l e R s m args below meth c H locs cells slots Q (F0 m (pc + 1) ls (.int (mI (x - y)) :: rest))) : W p l e R s m args below meth c H locs cells slots Q (F0 m pc ls (.int (mI y) :: .int (mI x) :: rest)) := lv_isub hx hb hdg (by rw [mI_sub]; exact k)
theorem mw_imul (hx : p.tables.exec = Jvm.exec) (hb : c.code = cc) {x y : Int} (hdg : decode cc pc = .ok (.imul, 1)) (k : W p l e R s m args below meth c H locs cells slots Q (F0 m (pc + 1) ls (.int (mI (x * y)) :: rest))) : W p l e R s m args below meth c H locs cells slots Q (F0 m pc ls (.int (mI y) :: .int (mI x) :: rest)) := lv_imul hx hb hdg (by rw [mI_mul]; exact k)
theorem mw_ladd (hx : p.tables.exec = Jvm.exec) (hb : c.code = cc) {x y : Int} (hdg : decode cc pc = .ok (.ladd, 1)) (k : W p l e R s m args below meth c H locs cells slots Q (F0 m (pc + 1) ls (.long (mL (x + y)) :: rest))) : W p l e R s m args below meth c H locs cells slots Q (F0 m pc ls (.long (mL y) :: .long (mL x) :: rest)) := lv_ladd hx hb hdg (by rw [mL_add]; exact k)
theorem mw_lsub (hx : p.tables.exec = Jvm.exec) (hb : c.code = cc) {x y : Int} (hdg : decode cc pc = .ok (.lsub, 1)) (k : W p l e R s m args below meth c H locs cells slots Q (F0 m (pc + 1) ls (.long (mL (x - y)) :: rest))) : W p l e R s m args below meth c H locs cells slots Q (F0 m pc ls (.long (mL y) :: .long (mL x) :: rest)) := lv_lsub hx hb hdg (by rw [mL_sub]; exact k)
theorem mw_lmul (hx : p.tables.exec = Jvm.exec) (hb : c.code = cc) {x y : Int} (hdg : decode cc pc = .ok (.lmul, 1)) (k : W p l e R s m args below meth c H locs cells slots Q (F0 m (pc + 1) ls (.long (mL (x * y)) :: rest))) : W p l e R s m args below meth c H locs cells slots Q (F0 m pc ls (.long (mL y) :: .long (mL x) :: rest)) := lv_lmul hx hb hdg (by rw [mL_mul]; exact k)
theorem mw_lneg (hx : p.tables.exec = Jvm.exec) (hb : c.code = cc) {x : Int} (hdg : decode cc pc = .ok (.lneg, 1)) (k : W p l e R s m args below meth c H locs cells slots Q (F0 m (pc + 1) ls (.long (mL (-x)) :: rest))) : W p l e R s m args below meth c H locs cells slots Q (F0 m pc ls (.long (mL x) :: rest)) := lv_lneg hx hb hdg (by rw [mL_neg]; exact k)
theorem mw_ldiv (hx : p.tables.exec = Jvm.exec) (hb : c.code = cc) {x y : Int} (h0 : 0 < y) (hx1 : -9223372036854775807 ≤ x ∧ x < 9223372036854775808) (hy1 : mRL y) (hdg : decode cc pc = .ok (.ldiv, 1)) (k : W p l e R s m args below meth c H locs cells slots Q (F0 m (pc + 1) ls (.long (mL (x.tdiv y)) :: rest))) : W p l e R s m args below meth c H locs cells slots Q (F0 m pc ls (.long (mL y) :: .long (mL x) :: rest)) := lv_ldiv hx hb hdg (mL_ne0 hy1 h0) (by rw [mL_div hx1 hy1 h0]; exact k)
theorem mw_lrem (hx : p.tables.exec = Jvm.exec) (hb : c.code = cc) {x y : Int} (h0 : 0 < y) (hx1 : -9223372036854775807 ≤ x ∧ x < 9223372036854775808) (hy1 : mRL y) (hdg : decode cc pc = .ok (.lrem, 1)) (k : W p l e R s m args below meth c H locs cells slots Q (F0 m (pc + 1) ls (.long (mL (x.tmod y)) :: rest))) : W p l e R s m args below meth c H locs cells slots Q (F0 m pc ls (.long (mL y) :: .long (mL x) :: rest)) := lv_lrem hx hb hdg (mL_ne0 hy1 h0) (by rw [mL_rem hx1 hy1 h0]; exact k)
theorem mw_i2l (hx : p.tables.exec = Jvm.exec) (hb : c.code = cc) {x : Int} (hx1 : mRI x) (hdg : decode cc pc = .ok (.i2l, 1)) (k : W p l e R s m args below meth c H locs cells slots Q (F0 m (pc + 1) ls (.long (mL x) :: rest))) : W p l e R s m args below meth c H locs cells slots Q (F0 m pc ls (.int (mI x) :: rest)) := lv_i2l hx hb hdg (mI_i2l hx1) k
theorem mw_l2i (hx : p.tables.exec = Jvm.exec) (hb : c.code = cc) {x : Int} (hdg : decode cc pc = .ok (.l2i, 1)) (k : W p l e R s m args below meth c H locs cells slots Q (F0 m (pc + 1) ls (.int (mI x) :: rest))) : W p l e R s m args below meth c H locs cells slots Q (F0 m pc ls (.long (mL x) :: rest)) := lv_l2i hx hb hdg (mL_l2i x) k
theorem mw_iconst (hx : p.tables.exec = Jvm.exec) (hb : c.code = cc) {n : Int} (hdg : decode cc pc = .ok (.iconst n, 1)) (k : W p l e R s m args below meth c H locs cells slots Q (F0 m (pc + 1) ls (.int (mI n) :: rest))) : W p l e R s m args below meth c H locs cells slots Q (F0 m pc ls rest) := lv_iconst hx hb hdg rfl k
theorem mw_bipush (hx : p.tables.exec = Jvm.exec) (hb : c.code = cc) {n : Int} (h : (Int8.ofInt n).toInt32 = mI n) (hdg : decode cc pc = .ok (.bipush n, 2)) (k : W p l e R s m args below meth c H locs cells slots Q (F0 m (pc + 2) ls (.int (mI n) :: rest))) : W p l e R s m args below meth c H locs cells slots Q (F0 m pc ls rest) := lv_bipush hx hb hdg h k
theorem mw_sipush (hx : p.tables.exec = Jvm.exec) (hb : c.code = cc) {n : Int} (h : (Int16.ofInt n).toInt32 = mI n) (hdg : decode cc pc = .ok (.sipush n, 3)) (k : W p l e R s m args below meth c H locs cells slots Q (F0 m (pc + 3) ls (.int (mI n) :: rest))) : W p l e R s m args below meth c H locs cells slots Q (F0 m pc ls rest) := lv_sipush hx hb hdg h k
theorem mw_lconst (hx : p.tables.exec = Jvm.exec) (hb : c.code = cc) {n : Fin 2} (z : Int) (h : Int64.ofNat (n : Nat) = mL z) (hdg : decode cc pc = .ok (.lconst n, 1)) (k : W p l e R s m args below meth c H locs cells slots Q (F0 m (pc + 1) ls (.long (mL z) :: rest))) : W p l e R s m args below meth c H locs cells slots Q (F0 m pc ls rest) := lv_lconst hx hb hdg h k
theorem mw_ldc (hx : p.tables.exec = Jvm.exec) (hb : c.code = cc) {own : String} {index : Nat} {v : Int32} (z : Int) (h : v = mI z) (hown : s.vm.findClass own = some m.cls) (hconst : (Jvm.Cond.constant own index v).before args s = true) (hdg : decode cc pc = .ok (.ldc index, 2)) (k : W p l e R s m args below meth c H locs cells slots Q (F0 m (pc + 2) ls (.int (mI z) :: rest))) : W p l e R s m args below meth c H locs cells slots Q (F0 m pc ls rest) := lv_ldc hx hb hown hconst hdg (by rw [h]; exact k)
theorem mw_ldc2 (hx : p.tables.exec = Jvm.exec) (hb : c.code = cc) {own : String} {index : Nat} {v : Int64} (z : Int) (h : v = mL z) (hown : s.vm.findClass own = some m.cls) (hconst : (Jvm.Cond.constantLong own index v).before args s = true) (hdg : decode cc pc = .ok (.ldc2_w index, 3)) (k : W p l e R s m args below meth c H locs cells slots Q (F0 m (pc + 3) ls (.long (mL z) :: rest))) : W p l e R s m args below meth c H locs cells slots Q (F0 m pc ls rest) := lv_ldc2 hx hb hown hconst hdg (by rw [h]; exact k)
theorem mw_iinc (hx : p.tables.exec = Jvm.exec) (hb : c.code = cc) {i nL k : Nat} {n x : Int} {lv lv' : List (Nat × Value)} (hdg : decode cc pc = .ok (.iinc i n, 3)) (h : lv_has ls nL lv) (hk : lv[k]? = some (i, .int (mI x))) (hn : i < nL) (hl : (i, Value.int (mI (x + n))) :: lv.filter (fun q => !(q.1 == i) && !(q.1 + 1 == i && q.2.category == 2)) = lv') (kk : ∀ ls' : Array Slot, lv_has ls' nL lv' → W p l e R s m args below meth c H locs cells slots Q (F0 m (pc + 3) ls' rest)) : W p l e R s m args below meth c H locs cells slots Q (F0 m pc ls rest) := lv_iinc hx hb hdg h hk (v := mI (x + n)) (mI_add x n) hn hl kk
theorem mw_topi {x y : Int} (h : x = y) (k : W p l e R s m args below meth c H locs cells slots Q (F0 m pc ls (.int (mI y) :: rest))) : W p l e R s m args below meth c H locs cells slots Q (F0 m pc ls (.int (mI x) :: rest)) := by rw [h]; exact k
theorem mw_topl {x y : Int} (h : x = y) (k : W p l e R s m args below meth c H locs cells slots Q (F0 m pc ls (.long (mL y) :: rest))) : W p l e R s m args below meth c H locs cells slots Q (F0 m pc ls (.long (mL x) :: rest)) := by rw [h]; exact k
theorem mw_icmp_eq (hx : p.tables.exec = Jvm.exec) (hb : c.code = cc) {x y : Int} {off : Int} {tgt : Nat} (hx1 : mRI x) (hy1 : mRI y) (hdg : decode cc pc = .ok (.if_icmp .eq off, 3)) (ht : (pc : Int) + off = (tgt : Int)) (kt : x = y → W p l e R s m args below meth c H locs cells slots Q (F0 m tgt ls rest)) (kf : ¬ (x = y) → W p l e R s m args below meth c H locs cells slots Q (F0 m (pc + 3) ls rest)) : W p l e R s m args below meth c H locs cells slots Q (F0 m pc ls (.int (mI y) :: .int (mI x) :: rest)) := lv_icmp_eq hx hb hdg ht (fun q => kt (by first | exact (mI_eq (a := x) (b := y) hx1 hy1).mp q | (rw [← mI_0] at q; exact (mI_eq (a := x) (b := y) hx1 hy1).mp q))) (fun q => kf (fun q2 => q (by first | exact (mI_eq (a := x) (b := y) hx1 hy1).mpr q2 | (rw [← mI_0]; exact (mI_eq (a := x) (b := y) hx1 hy1).mpr q2))))
theorem mw_if_eq (hx : p.tables.exec = Jvm.exec) (hb : c.code = cc) {x : Int} {off : Int} {tgt : Nat} (hx1 : mRI x) (hdg : decode cc pc = .ok (.ifCond .eq off, 3)) (ht : (pc : Int) + off = (tgt : Int)) (kt : x = (0 : Int) → W p l e R s m args below meth c H locs cells slots Q (F0 m tgt ls rest)) (kf : ¬ (x = (0 : Int)) → W p l e R s m args below meth c H locs cells slots Q (F0 m (pc + 3) ls rest)) : W p l e R s m args below meth c H locs cells slots Q (F0 m pc ls (.int (mI x) :: rest)) := lv_if_eq hx hb hdg ht (fun q => kt (by first | exact (mI_eq (a := x) (b := 0) hx1 mI_r0).mp q | (rw [← mI_0] at q; exact (mI_eq (a := x) (b := 0) hx1 mI_r0).mp q))) (fun q => kf (fun q2 => q (by first | exact (mI_eq (a := x) (b := 0) hx1 mI_r0).mpr q2 | (rw [← mI_0]; exact (mI_eq (a := x) (b := 0) hx1 mI_r0).mpr q2))))
theorem mw_lcmp_eq (hx : p.tables.exec = Jvm.exec) (hb : c.code = cc) {x y : Int} {off : Int} {tgt : Nat} (hx1 : mRL x) (hy1 : mRL y) (d1 : decode cc pc = .ok (.lcmp, 1)) (d2 : decode cc (pc + 1) = .ok (.ifCond .eq off, 3)) (ht : ((pc + 1 : Nat) : Int) + off = (tgt : Int)) (kt : x = y → W p l e R s m args below meth c H locs cells slots Q (F0 m tgt ls rest)) (kf : ¬ (x = y) → W p l e R s m args below meth c H locs cells slots Q (F0 m (pc + 1 + 3) ls rest)) : W p l e R s m args below meth c H locs cells slots Q (F0 m pc ls (.long (mL y) :: .long (mL x) :: rest)) := W.lcmp hx hb d1 (lv_if_eq hx hb d2 ht (fun q => kt ((mL_eq hx1 hy1).mp ((lg_cmp_eq _ _).mp q))) (fun q => kf (fun q2 => q ((lg_cmp_eq _ _).mpr ((mL_eq hx1 hy1).mpr q2)))))
theorem mw_icmp_ne (hx : p.tables.exec = Jvm.exec) (hb : c.code = cc) {x y : Int} {off : Int} {tgt : Nat} (hx1 : mRI x) (hy1 : mRI y) (hdg : decode cc pc = .ok (.if_icmp .ne off, 3)) (ht : (pc : Int) + off = (tgt : Int)) (kt : x ≠ y → W p l e R s m args below meth c H locs cells slots Q (F0 m tgt ls rest)) (kf : x = y → W p l e R s m args below meth c H locs cells slots Q (F0 m (pc + 3) ls rest)) : W p l e R s m args below meth c H locs cells slots Q (F0 m pc ls (.int (mI y) :: .int (mI x) :: rest)) := lv_icmp_ne hx hb hdg ht (fun q => kt (fun q2 => q (by first | exact (mI_eq (a := x) (b := y) hx1 hy1).mpr q2 | (rw [← mI_0]; exact (mI_eq (a := x) (b := y) hx1 hy1).mpr q2)))) (fun q => kf (by first | exact (mI_eq (a := x) (b := y) hx1 hy1).mp q | (rw [← mI_0] at q; exact (mI_eq (a := x) (b := y) hx1 hy1).mp q)))
theorem mw_if_ne (hx : p.tables.exec = Jvm.exec) (hb : c.code = cc) {x : Int} {off : Int} {tgt : Nat} (hx1 : mRI x) (hdg : decode cc pc = .ok (.ifCond .ne off, 3)) (ht : (pc : Int) + off = (tgt : Int)) (kt : x ≠ (0 : Int) → W p l e R s m args below meth c H locs cells slots Q (F0 m tgt ls rest)) (kf : x = (0 : Int) → W p l e R s m args below meth c H locs cells slots Q (F0 m (pc + 3) ls rest)) : W p l e R s m args below meth c H locs cells slots Q (F0 m pc ls (.int (mI x) :: rest)) := lv_if_ne hx hb hdg ht (fun q => kt (fun q2 => q (by first | exact (mI_eq (a := x) (b := 0) hx1 mI_r0).mpr q2 | (rw [← mI_0]; exact (mI_eq (a := x) (b := 0) hx1 mI_r0).mpr q2)))) (fun q => kf (by first | exact (mI_eq (a := x) (b := 0) hx1 mI_r0).mp q | (rw [← mI_0] at q; exact (mI_eq (a := x) (b := 0) hx1 mI_r0).mp q)))
theorem mw_lcmp_ne (hx : p.tables.exec = Jvm.exec) (hb : c.code = cc) {x y : Int} {off : Int} {tgt : Nat} (hx1 : mRL x) (hy1 : mRL y) (d1 : decode cc pc = .ok (.lcmp, 1)) (d2 : decode cc (pc + 1) = .ok (.ifCond .ne off, 3)) (ht : ((pc + 1 : Nat) : Int) + off = (tgt : Int)) (kt : x ≠ y → W p l e R s m args below meth c H locs cells slots Q (F0 m tgt ls rest)) (kf : x = y → W p l e R s m args below meth c H locs cells slots Q (F0 m (pc + 1 + 3) ls rest)) : W p l e R s m args below meth c H locs cells slots Q (F0 m pc ls (.long (mL y) :: .long (mL x) :: rest)) := W.lcmp hx hb d1 (lv_if_ne hx hb d2 ht (fun q => kt (fun q2 => q ((lg_cmp_eq _ _).mpr ((mL_eq hx1 hy1).mpr q2)))) (fun q => kf ((mL_eq hx1 hy1).mp ((lg_cmp_eq _ _).mp q))))
theorem mw_icmp_lt (hx : p.tables.exec = Jvm.exec) (hb : c.code = cc) {x y : Int} {off : Int} {tgt : Nat} (hx1 : mRI x) (hy1 : mRI y) (hdg : decode cc pc = .ok (.if_icmp .lt off, 3)) (ht : (pc : Int) + off = (tgt : Int)) (kt : x < y → W p l e R s m args below meth c H locs cells slots Q (F0 m tgt ls rest)) (kf : ¬ (x < y) → W p l e R s m args below meth c H locs cells slots Q (F0 m (pc + 3) ls rest)) : W p l e R s m args below meth c H locs cells slots Q (F0 m pc ls (.int (mI y) :: .int (mI x) :: rest)) := lv_icmp_lt hx hb hdg ht (fun q => kt (by first | exact (mI_lt (a := x) (b := y) hx1 hy1).mp q | (rw [← mI_0] at q; exact (mI_lt (a := x) (b := y) hx1 hy1).mp q))) (fun q => kf (fun q2 => q (by first | exact (mI_lt (a := x) (b := y) hx1 hy1).mpr q2 | (rw [← mI_0]; exact (mI_lt (a := x) (b := y) hx1 hy1).mpr q2))))
theorem mw_if_lt (hx : p.tables.exec = Jvm.exec) (hb : c.code = cc) {x : Int} {off : Int} {tgt : Nat} (hx1 : mRI x) (hdg : decode cc pc = .ok (.ifCond .lt off, 3)) (ht : (pc : Int) + off = (tgt : Int)) (kt : x < (0 : Int) → W p l e R s m args below meth c H locs cells slots Q (F0 m tgt ls rest)) (kf : ¬ (x < (0 : Int)) → W p l e R s m args below meth c H locs cells slots Q (F0 m (pc + 3) ls rest)) : W p l e R s m args below meth c H locs cells slots Q (F0 m pc ls (.int (mI x) :: rest)) := lv_if_lt hx hb hdg ht (fun q => kt (by first | exact (mI_lt (a := x) (b := 0) hx1 mI_r0).mp q | (rw [← mI_0] at q; exact (mI_lt (a := x) (b := 0) hx1 mI_r0).mp q))) (fun q => kf (fun q2 => q (by first | exact (mI_lt (a := x) (b := 0) hx1 mI_r0).mpr q2 | (rw [← mI_0]; exact (mI_lt (a := x) (b := 0) hx1 mI_r0).mpr q2))))
theorem mw_lcmp_lt (hx : p.tables.exec = Jvm.exec) (hb : c.code = cc) {x y : Int} {off : Int} {tgt : Nat} (hx1 : mRL x) (hy1 : mRL y) (d1 : decode cc pc = .ok (.lcmp, 1)) (d2 : decode cc (pc + 1) = .ok (.ifCond .lt off, 3)) (ht : ((pc + 1 : Nat) : Int) + off = (tgt : Int)) (kt : x < y → W p l e R s m args below meth c H locs cells slots Q (F0 m tgt ls rest)) (kf : ¬ (x < y) → W p l e R s m args below meth c H locs cells slots Q (F0 m (pc + 1 + 3) ls rest)) : W p l e R s m args below meth c H locs cells slots Q (F0 m pc ls (.long (mL y) :: .long (mL x) :: rest)) := W.lcmp hx hb d1 (lv_if_lt hx hb d2 ht (fun q => kt ((mL_lt hx1 hy1).mp ((lg_cmp_lt _ _).mp q))) (fun q => kf (fun q2 => q ((lg_cmp_lt _ _).mpr ((mL_lt hx1 hy1).mpr q2)))))
theorem mw_icmp_ge (hx : p.tables.exec = Jvm.exec) (hb : c.code = cc) {x y : Int} {off : Int} {tgt : Nat} (hx1 : mRI x) (hy1 : mRI y) (hdg : decode cc pc = .ok (.if_icmp .ge off, 3)) (ht : (pc : Int) + off = (tgt : Int)) (kt : y ≤ x → W p l e R s m args below meth c H locs cells slots Q (F0 m tgt ls rest)) (kf : ¬ (y ≤ x) → W p l e R s m args below meth c H locs cells slots Q (F0 m (pc + 3) ls rest)) : W p l e R s m args below meth c H locs cells slots Q (F0 m pc ls (.int (mI y) :: .int (mI x) :: rest)) := lv_icmp_ge hx hb hdg ht (fun q => kt (by first | exact (mI_le (a := y) (b := x) hy1 hx1).mp q | (rw [← mI_0] at q; exact (mI_le (a := y) (b := x) hy1 hx1).mp q))) (fun q => kf (fun q2 => q (by first | exact (mI_le (a := y) (b := x) hy1 hx1).mpr q2 | (rw [← mI_0]; exact (mI_le (a := y) (b := x) hy1 hx1).mpr q2))))
theorem mw_if_ge (hx : p.tables.exec = Jvm.exec) (hb : c.code = cc) {x : Int} {off : Int} {tgt : Nat} (hx1 : mRI x) (hdg : decode cc pc = .ok (.ifCond .ge off, 3)) (ht : (pc : Int) + off = (tgt : Int)) (kt : (0 : Int) ≤ x → W p l e R s m args below meth c H locs cells slots Q (F0 m tgt ls rest)) (kf : ¬ ((0 : Int) ≤ x) → W p l e R s m args below meth c H locs cells slots Q (F0 m (pc + 3) ls rest)) : W p l e R s m args below meth c H locs cells slots Q (F0 m pc ls (.int (mI x) :: rest)) := lv_if_ge hx hb hdg ht (fun q => kt (by first | exact (mI_le (a := 0) (b := x) mI_r0 hx1).mp q | (rw [← mI_0] at q; exact (mI_le (a := 0) (b := x) mI_r0 hx1).mp q))) (fun q => kf (fun q2 => q (by first | exact (mI_le (a := 0) (b := x) mI_r0 hx1).mpr q2 | (rw [← mI_0]; exact (mI_le (a := 0) (b := x) mI_r0 hx1).mpr q2))))
theorem mw_lcmp_ge (hx : p.tables.exec = Jvm.exec) (hb : c.code = cc) {x y : Int} {off : Int} {tgt : Nat} (hx1 : mRL x) (hy1 : mRL y) (d1 : decode cc pc = .ok (.lcmp, 1)) (d2 : decode cc (pc + 1) = .ok (.ifCond .ge off, 3)) (ht : ((pc + 1 : Nat) : Int) + off = (tgt : Int)) (kt : y ≤ x → W p l e R s m args below meth c H locs cells slots Q (F0 m tgt ls rest)) (kf : ¬ (y ≤ x) → W p l e R s m args below meth c H locs cells slots Q (F0 m (pc + 1 + 3) ls rest)) : W p l e R s m args below meth c H locs cells slots Q (F0 m pc ls (.long (mL y) :: .long (mL x) :: rest)) := W.lcmp hx hb d1 (lv_if_ge hx hb d2 ht (fun q => kt ((mL_le hy1 hx1).mp ((lg_cmp_ge _ _).mp q))) (fun q => kf (fun q2 => q ((lg_cmp_ge _ _).mpr ((mL_le hy1 hx1).mpr q2)))))
theorem mw_icmp_gt (hx : p.tables.exec = Jvm.exec) (hb : c.code = cc) {x y : Int} {off : Int} {tgt : Nat} (hx1 : mRI x) (hy1 : mRI y) (hdg : decode cc pc = .ok (.if_icmp .gt off, 3)) (ht : (pc : Int) + off = (tgt : Int)) (kt : y < x → W p l e R s m args below meth c H locs cells slots Q (F0 m tgt ls rest)) (kf : ¬ (y < x) → W p l e R s m args below meth c H locs cells slots Q (F0 m (pc + 3) ls rest)) : W p l e R s m args below meth c H locs cells slots Q (F0 m pc ls (.int (mI y) :: .int (mI x) :: rest)) := lv_icmp_gt hx hb hdg ht (fun q => kt (by first | exact (mI_lt (a := y) (b := x) hy1 hx1).mp q | (rw [← mI_0] at q; exact (mI_lt (a := y) (b := x) hy1 hx1).mp q))) (fun q => kf (fun q2 => q (by first | exact (mI_lt (a := y) (b := x) hy1 hx1).mpr q2 | (rw [← mI_0]; exact (mI_lt (a := y) (b := x) hy1 hx1).mpr q2))))
theorem mw_if_gt (hx : p.tables.exec = Jvm.exec) (hb : c.code = cc) {x : Int} {off : Int} {tgt : Nat} (hx1 : mRI x) (hdg : decode cc pc = .ok (.ifCond .gt off, 3)) (ht : (pc : Int) + off = (tgt : Int)) (kt : (0 : Int) < x → W p l e R s m args below meth c H locs cells slots Q (F0 m tgt ls rest)) (kf : ¬ ((0 : Int) < x) → W p l e R s m args below meth c H locs cells slots Q (F0 m (pc + 3) ls rest)) : W p l e R s m args below meth c H locs cells slots Q (F0 m pc ls (.int (mI x) :: rest)) := lv_if_gt hx hb hdg ht (fun q => kt (by first | exact (mI_lt (a := 0) (b := x) mI_r0 hx1).mp q | (rw [← mI_0] at q; exact (mI_lt (a := 0) (b := x) mI_r0 hx1).mp q))) (fun q => kf (fun q2 => q (by first | exact (mI_lt (a := 0) (b := x) mI_r0 hx1).mpr q2 | (rw [← mI_0]; exact (mI_lt (a := 0) (b := x) mI_r0 hx1).mpr q2))))
theorem mw_lcmp_gt (hx : p.tables.exec = Jvm.exec) (hb : c.code = cc) {x y : Int} {off : Int} {tgt : Nat} (hx1 : mRL x) (hy1 : mRL y) (d1 : decode cc pc = .ok (.lcmp, 1)) (d2 : decode cc (pc + 1) = .ok (.ifCond .gt off, 3)) (ht : ((pc + 1 : Nat) : Int) + off = (tgt : Int)) (kt : y < x → W p l e R s m args below meth c H locs cells slots Q (F0 m tgt ls rest)) (kf : ¬ (y < x) → W p l e R s m args below meth c H locs cells slots Q (F0 m (pc + 1 + 3) ls rest)) : W p l e R s m args below meth c H locs cells slots Q (F0 m pc ls (.long (mL y) :: .long (mL x) :: rest)) := W.lcmp hx hb d1 (lv_if_gt hx hb d2 ht (fun q => kt ((mL_lt hy1 hx1).mp ((lg_cmp_gt _ _).mp q))) (fun q => kf (fun q2 => q ((lg_cmp_gt _ _).mpr ((mL_lt hy1 hx1).mpr q2)))))
theorem mw_icmp_le (hx : p.tables.exec = Jvm.exec) (hb : c.code = cc) {x y : Int} {off : Int} {tgt : Nat} (hx1 : mRI x) (hy1 : mRI y) (hdg : decode cc pc = .ok (.if_icmp .le off, 3)) (ht : (pc : Int) + off = (tgt : Int)) (kt : x ≤ y → W p l e R s m args below meth c H locs cells slots Q (F0 m tgt ls rest)) (kf : ¬ (x ≤ y) → W p l e R s m args below meth c H locs cells slots Q (F0 m (pc + 3) ls rest)) : W p l e R s m args below meth c H locs cells slots Q (F0 m pc ls (.int (mI y) :: .int (mI x) :: rest)) := lv_icmp_le hx hb hdg ht (fun q => kt (by first | exact (mI_le (a := x) (b := y) hx1 hy1).mp q | (rw [← mI_0] at q; exact (mI_le (a := x) (b := y) hx1 hy1).mp q))) (fun q => kf (fun q2 => q (by first | exact (mI_le (a := x) (b := y) hx1 hy1).mpr q2 | (rw [← mI_0]; exact (mI_le (a := x) (b := y) hx1 hy1).mpr q2))))
theorem mw_if_le (hx : p.tables.exec = Jvm.exec) (hb : c.code = cc) {x : Int} {off : Int} {tgt : Nat} (hx1 : mRI x) (hdg : decode cc pc = .ok (.ifCond .le off, 3)) (ht : (pc : Int) + off = (tgt : Int)) (kt : x ≤ (0 : Int) → W p l e R s m args below meth c H locs cells slots Q (F0 m tgt ls rest)) (kf : ¬ (x ≤ (0 : Int)) → W p l e R s m args below meth c H locs cells slots Q (F0 m (pc + 3) ls rest)) : W p l e R s m args below meth c H locs cells slots Q (F0 m pc ls (.int (mI x) :: rest)) := lv_if_le hx hb hdg ht (fun q => kt (by first | exact (mI_le (a := x) (b := 0) hx1 mI_r0).mp q | (rw [← mI_0] at q; exact (mI_le (a := x) (b := 0) hx1 mI_r0).mp q))) (fun q => kf (fun q2 => q (by first | exact (mI_le (a := x) (b := 0) hx1 mI_r0).mpr q2 | (rw [← mI_0]; exact (mI_le (a := x) (b := 0) hx1 mI_r0).mpr q2))))
theorem mw_lcmp_le (hx : p.tables.exec = Jvm.exec) (hb : c.code = cc) {x y : Int} {off : Int} {tgt : Nat} (hx1 : mRL x) (hy1 : mRL y) (d1 : decode cc pc = .ok (.lcmp, 1)) (d2 : decode cc (pc + 1) = .ok (.ifCond .le off, 3)) (ht : ((pc + 1 : Nat) : Int) + off = (tgt : Int)) (kt : x ≤ y → W p l e R s m args below meth c H locs cells slots Q (F0 m tgt ls rest)) (kf : ¬ (x ≤ y) → W p l e R s m args below meth c H locs cells slots Q (F0 m (pc + 1 + 3) ls rest)) : W p l e R s m args below meth c H locs cells slots Q (F0 m pc ls (.long (mL y) :: .long (mL x) :: rest)) := W.lcmp hx hb d1 (lv_if_le hx hb d2 ht (fun q => kt ((mL_le hx1 hy1).mp ((lg_cmp_le _ _).mp q))) (fun q => kf (fun q2 => q ((lg_cmp_le _ _).mpr ((mL_le hx1 hy1).mpr q2)))))
theorem mw_zeq (hx : p.tables.exec = Jvm.exec) (hb : c.code = cc) {b : Prop} [Decidable b] {off : Int} {tgt : Nat} (hdg : decode cc pc = .ok (.ifCond .eq off, 3)) (ht : (pc : Int) + off = (tgt : Int)) (kt : ¬ b → W p l e R s m args below meth c H locs cells slots Q (F0 m tgt ls rest)) (kf : b → W p l e R s m args below meth c H locs cells slots Q (F0 m (pc + 3) ls rest)) : W p l e R s m args below meth c H locs cells slots Q (F0 m pc ls (.int (mI (mB b)) :: rest)) := lv_if_eq hx hb hdg ht (fun q => kt (mB_0.mp q)) (fun q => kf (Classical.not_not.mp (fun h => q (mB_0.mpr h))))
theorem mw_zne (hx : p.tables.exec = Jvm.exec) (hb : c.code = cc) {b : Prop} [Decidable b] {off : Int} {tgt : Nat} (hdg : decode cc pc = .ok (.ifCond .ne off, 3)) (ht : (pc : Int) + off = (tgt : Int)) (kt : b → W p l e R s m args below meth c H locs cells slots Q (F0 m tgt ls rest)) (kf : ¬ b → W p l e R s m args below meth c H locs cells slots Q (F0 m (pc + 3) ls rest)) : W p l e R s m args below meth c H locs cells slots Q (F0 m pc ls (.int (mI (mB b)) :: rest)) := lv_if_ne hx hb hdg ht (fun q => kt (Classical.not_not.mp (fun h => q (mB_0.mpr h)))) (fun q => kf (mB_0.mp q))
end MWR
end
section
/-! the two objects and their cells: v: count, moon's num, den, shift, year's common, a, b, c; L, P: lengths and places -/
abbrev mXO (a1 a2 : Nat) (v : Nat → Int) : List Value := [.ref a1, .ref a2, .int (mI (v 0)), .int (mI (v 1)), .int (mI (v 2)), .int (mI (v 3)), .int (mI (v 4)), .int (mI (v 5)), .int (mI (v 6)), .int (mI (v 7))]
abbrev mA16 (cA : ClassId) (L : Int → Int) : va_E := .inl (cA, 16, .inl (fun k : Nat => mI (L (k : Int))))
abbrev mXW (h0 a1 a2 : Nat) (cA : ClassId) (v : Nat → Int) (L P : Int → Int) : va_W := [(h0, .inr (0, mXO a1 a2 v)), (a1, mA16 cA L), (a2, mA16 cA P)]
abbrev mTy (cA cJ : ClassId) : List (ClassId × FieldType) := [(cA, .int), (cJ, .long)]
def mA3 (h0 a1 a2 : Nat) : Nat → Prop := fun q => q = h0 ∨ q = a1 ∨ q = a2
def mDis (h0 a1 a2 : Nat) : Prop := h0 ≠ a1 ∧ h0 ≠ a2 ∧ a1 ≠ a2
theorem mD3 {A : Nat → Prop} {h0 a1 a2 : Nat} {x y z : va_E} (hd : mDis h0 a1 a2) (hA : A h0 ∧ A a1 ∧ A a2) : va_D A [(h0, x), (a1, y), (a2, z)] := by
  have key : ∀ (i : Nat) (p : Nat × va_E), [(h0, x), (a1, y), (a2, z)][i]? = some p → (i = 0 ∧ p.1 = h0) ∨ (i = 1 ∧ p.1 = a1) ∨ (i = 2 ∧ p.1 = a2) := by
    intro i p hp
    match i, hp with
    | 0, hp => cases hp; exact Or.inl ⟨rfl, rfl⟩
    | 1, hp => cases hp; exact Or.inr (Or.inl ⟨rfl, rfl⟩)
    | 2, hp => cases hp; exact Or.inr (Or.inr ⟨rfl, rfl⟩)
    | i + 3, hp => simp at hp
  obtain ⟨d1, d2, d3⟩ := hd
  refine ⟨fun i j p q hp hq hpq => ?_, fun k q hk => ?_⟩
  · rcases key i p hp with ⟨e1, e2⟩ | ⟨e1, e2⟩ | ⟨e1, e2⟩ <;> rcases key j q hq with ⟨e3, e4⟩ | ⟨e3, e4⟩ | ⟨e3, e4⟩ <;> omega
  · rcases key k q hk with ⟨e1, e2⟩ | ⟨e1, e2⟩ | ⟨e1, e2⟩
    · rw [e2]; exact hA.1
    · rw [e2]; exact hA.2.1
    · rw [e2]; exact hA.2.2
theorem mA3_in (h0 a1 a2 : Nat) : mA3 h0 a1 a2 h0 ∧ mA3 h0 a1 a2 a1 ∧ mA3 h0 a1 a2 a2 := ⟨Or.inl rfl, Or.inr (Or.inl rfl), Or.inr (Or.inr rfl)⟩
/-- what holds where a method begins -/
def mwB (D : va_G) (W0 : va_W) (tys : List (ClassId × FieldType)) (U : State) : Prop := va_P D vwCl W0 U.heap ∧ va_K D vwCl tys U
theorem mwB_blind {D : va_G} {W0 : va_W} {tys : List (ClassId × FieldType)} {U : State} {g : JFrame} {mk : MethodId} {a : Array Value} (h : mwB D W0 tys U) : mwB D W0 tys (U.calling g mk a) := ⟨h.1, va_K.moved (u := U) (U := U.calling g mk a) (Vm.Alike.refl U.vm) h.2⟩
/-- a method that only reads: its answer is v, the heap stays -/
def mQ (v : Option Value) : Array Value → State → Outcome → State → Prop := fun _ st o t => o = .returned v ∧ t.heap = st.heap
def mP (l : Launch) (y : MethodName) (ws : List Cond) (rm : Room) (av : List Value) (B : State → Prop) (v : Option Value) : Prop := Met l y ws rm (va_Pc av B) (mQ v) 0 0 (fun _ => False)
/-- a method that writes its three cells -/
def mQM {S : Type} (D : va_G) (v : Option Value) (post : S → Prop) (W1 : S → va_W) (A : Nat → Prop) : Array Value → State → Outcome → State → Prop := fun _ st o t => ∃ u : S, o = .returned v ∧ post u ∧ va_P D vwCl (W1 u) t.heap ∧ va_F A st t
def mM {S : Type} (l : Launch) (y : MethodName) (ws : List Cond) (rm : Room) (av : List Value) (D : va_G) (W0 : va_W) (tys : List (ClassId × FieldType)) (v : Option Value) (post : S → Prop) (W1 : S → va_W) (A : Nat → Prop) : Prop := Met l y ws rm (va_Pc av (mwB D W0 tys)) (mQM D v post W1 A) 0 0 A
theorem mw_ofW {l : Launch} {y : MethodName} {ws ws' : List Cond} {rm : Room} {Pc : Array Value → State → Prop} {Qc : Array Value → State → Outcome → State → Prop} {mc ms : Nat} {free : Addr → Prop} {cc : ByteArray} {maxL : Nat} {ret : Option FieldType}
    (hy : plainFor y = true) (hw : ws = Cond.code y cc maxL ret :: ws')
    (body : ∀ p e s m args below meth c s₁, BodyLoose p l y (headSpec ws rm) cc maxL ret e s m args below meth c s₁ → c.maxLocals = maxL → Pc args s →
      W p l e (headSpec ws rm).room s m args below meth c s.heap [] 0 0 (MQ below Qc args s mc ms free) (entryFrame m args maxL)) : Met l y ws rm Pc Qc mc ms free := by
  refine MetFree.of_bodySF (code := cc) (maxLocals := maxL) (ret := ret) hy ?_ ?_
  · intro args s m h hn
    obtain ⟨meth, c, h1, h2, h3, h4, h5, h6, -, -⟩ := Cond.code_spec hn (atoms_spec (ws := ws) h _ (by rw [hw]; exact List.mem_cons_self))
    exact ⟨meth, c, h1, h2, h3, h4, h5, h6⟩
  · intro p e s m args below meth c s₁ B hml hP _
    have hh0 : s₁.heap = s.heap := by rw [B.state]; rfl
    obtain ⟨t, a1, o, b1, b2, b3⟩ := body p e s m args below meth c s₁ B hml hP s₁ hh0 (Stand.of_body B)
    exact ⟨t, o, a1, b1, b2, ⟨b3.1, b3.2⟩⟩
theorem mw_open {l : Launch} {y : MethodName} {ws ws' : List Cond} {rm : Room} {av : List Value} {B : State → Prop} {v : Option Value} {cc : ByteArray} {maxL : Nat} {ret : Option FieldType} (hy : plainFor y = true) (hw : ws = Cond.code y cc maxL ret :: ws') (hlen : (lg_sl av).length ≤ maxL)
    (body : ∀ (p : Program) (e : Env) (s : State) (m : MethodId) (below : List Frame) (meth : Method) (c : Code) (ls : Array Slot), CallFix p m c cc maxL s av.toArray ws y.cls → meth.sig.returnType = ret → meth.locks = false → B s → lv_has ls maxL (lv_args 0 av) → W p l e rm s m av.toArray below meth c s.heap [] 0 0 (MQ below (mQ v) av.toArray s 0 0 (fun _ => False)) (F0 m 0 ls [])) : mP l y ws rm av B v := by
  refine mw_ofW (cc := cc) (maxL := maxL) (ret := ret) hy hw ?_
  intro p e s m args below meth c s₁ B1 hml hv
  obtain ⟨rfl, hB⟩ := hv
  have hl := lv_entry av (n := maxL) hlen
  rw [lg_entry_eq]
  exact body p e s m below meth c _ ⟨B1.exec, B1.bytes, hml, findClass_of_methodNamed B1.named, atoms_spec (ws := ws) B1.pre⟩ B1.returns B1.notSynchronized hB hl
theorem mw_openM {S : Type} {l : Launch} {y : MethodName} {ws ws' : List Cond} {rm : Room} {av : List Value} {D : va_G} {W0 : va_W} {tys : List (ClassId × FieldType)} {v : Option Value} {post : S → Prop} {W1 : S → va_W} {A : Nat → Prop} {cc : ByteArray} {maxL : Nat} {ret : Option FieldType} (hy : plainName y.cls = true) (hw : ws = Cond.code y cc maxL ret :: ws') (hlen : (lg_sl av).length ≤ maxL)
    (body : ∀ (p : Program) (e : Env) (s : State) (m : MethodId) (below : List Frame) (meth : Method) (c : Code) (ls : Array Slot), CallFix p m c cc maxL s av.toArray ws y.cls → meth.sig.returnType = ret → meth.locks = false → mwB D W0 tys s → lv_has ls maxL (lv_args 0 av) → W p l e rm s m av.toArray below meth c s.heap [] 0 0 (MQ below (mQM D v post W1 A) av.toArray s 0 0 A) (F0 m 0 ls [])) : mM l y ws rm av D W0 tys v post W1 A := by
  refine Met.ofW (cc := cc) (maxL := maxL) (ret := ret) hy hw ?_
  intro p e s m args below meth c s₁ B1 hml hv
  obtain ⟨rfl, hB⟩ := hv
  have hl := lv_entry av (n := maxL) hlen
  rw [lg_entry_eq]
  exact body p e s m below meth c _ ⟨B1.exec, B1.bytes, hml, findClass_of_methodNamed B1.named, atoms_spec (ws := ws) B1.pre⟩ B1.returns B1.notSynchronized hB hl
section MWC
variable {p : Program} {l : Launch} {e : Env} {R : Room} {s : State} {m : MethodId} {args : Array Value} {below : List Frame} {meth : Method} {c : Code} {H : Heap} {locs : List Loc} {cells slots : Nat} {Q : State → Prop}
variable {cc : ByteArray} {pc : Nat} {ls : Array Slot} {rest st0 : List Value}
theorem mw_run {v : Option Value} {a : Array Value} (hr : CallRun p l e R s m args below meth c H locs cells slots 0 0 (F0 m pc ls st0) rest (mQ v a) (fun _ => False)) (kk : W p l e R s m args below meth c H locs cells slots Q (F0 m (pc + 3) ls (v.toList ++ rest))) : W p l e R s m args below meth c H locs cells slots Q (F0 m pc ls st0) := by
  intro T hT X
  obtain ⟨v1, st₀, t, T', L, h0, X', hL, e1, ⟨hv, hh⟩, st⟩ := hr T hT X
  cases hv
  obtain ⟨t2, a1, b1⟩ := kk T' (by rw [e1, hh, h0]) (Stand.forget X' (fun q h => (hL q h).elim))
  exact ⟨t2, st t2 a1, b1⟩
section MWCV
variable {y : MethodName} {bytes : ByteArray} {maxL nL n index : Nat} {ret : Option FieldType} {ws Ts : List Cond} {rm : Room} {own : String} {b : Addr} {As : List Value} {D : va_G} {W0 : va_W} {tys : List (ClassId × FieldType)}
theorem mw_cV {v : Option Value} {q : vw_C} {ci : Nat} {fs : List Value} (S : CallFix p m c cc nL s args Ts own) (hM : mP l y ws rm (.ref b :: As) (mwB D W0 tys) v) (cw : CallW R s args own q.1 index y bytes maxL ret ws rm 0 0 n) (hK : va_K D vwCl tys s) (hP : va_P D vwCl W0 H) (hc : vwCl[ci]? = some q) (he : W0[0]? = some (b, .inr (ci, fs))) (hn : As.length = n) (hsz : ls.size = nL) (hst : st0 = As.reverse ++ .ref b :: rest) (hW : (rest.map fun v => v.category).sum ≤ 8) (hf : cells ≤ R.cells ∧ slots ≤ R.slots) (hdg : decode cc pc = .ok (.invokevirtual index, 3)) (kk : W p l e R s m args below meth c H locs cells slots Q (F0 m (pc + 3) ls (v.toList ++ rest))) : W p l e R s m args below meth c H locs cells slots Q (F0 m pc ls st0) := by
  refine mw_run (W.runV S hM cw ⟨fun a U g mk h => ⟨h.1, mwB_blind h.2⟩, va_recv hK hP hc he, fun U hU hW1 => ⟨rfl, by rw [hU]; exact hP, va_K.moved hW1.alike hK⟩⟩ rfl hn hsz hst (lv_room hW) hdg hf) kk
theorem mw_cVi {r : Int32} {q : vw_C} {ci : Nat} {fs : List Value} (S : CallFix p m c cc nL s args Ts own) (hM : mP l y ws rm (.ref b :: As) (mwB D W0 tys) (some (.int r))) (cw : CallW R s args own q.1 index y bytes maxL ret ws rm 0 0 n) (hK : va_K D vwCl tys s) (hP : va_P D vwCl W0 H) (hc : vwCl[ci]? = some q) (he : W0[0]? = some (b, .inr (ci, fs))) (hn : As.length = n) (hsz : ls.size = nL) (hst : st0 = As.reverse ++ .ref b :: rest) (hW : (rest.map fun v => v.category).sum ≤ 8) (hf : cells ≤ R.cells ∧ slots ≤ R.slots) (hdg : decode cc pc = .ok (.invokevirtual index, 3)) (kk : W p l e R s m args below meth c H locs cells slots Q (F0 m (pc + 3) ls (.int r :: rest))) : W p l e R s m args below meth c H locs cells slots Q (F0 m pc ls st0) := mw_cV S hM cw hK hP hc he hn hsz hst hW hf hdg kk
theorem mw_cVl {r : Int64} {q : vw_C} {ci : Nat} {fs : List Value} (S : CallFix p m c cc nL s args Ts own) (hM : mP l y ws rm (.ref b :: As) (mwB D W0 tys) (some (.long r))) (cw : CallW R s args own q.1 index y bytes maxL ret ws rm 0 0 n) (hK : va_K D vwCl tys s) (hP : va_P D vwCl W0 H) (hc : vwCl[ci]? = some q) (he : W0[0]? = some (b, .inr (ci, fs))) (hn : As.length = n) (hsz : ls.size = nL) (hst : st0 = As.reverse ++ .ref b :: rest) (hW : (rest.map fun v => v.category).sum ≤ 8) (hf : cells ≤ R.cells ∧ slots ≤ R.slots) (hdg : decode cc pc = .ok (.invokevirtual index, 3)) (kk : W p l e R s m args below meth c H locs cells slots Q (F0 m (pc + 3) ls (.long r :: rest))) : W p l e R s m args below meth c H locs cells slots Q (F0 m pc ls st0) := mw_cV S hM cw hK hP hc he hn hsz hst hW hf hdg kk
theorem mw_cVv {q : vw_C} {ci : Nat} {fs : List Value} (S : CallFix p m c cc nL s args Ts own) (hM : mP l y ws rm (.ref b :: As) (mwB D W0 tys) none) (cw : CallW R s args own q.1 index y bytes maxL ret ws rm 0 0 n) (hK : va_K D vwCl tys s) (hP : va_P D vwCl W0 H) (hc : vwCl[ci]? = some q) (he : W0[0]? = some (b, .inr (ci, fs))) (hn : As.length = n) (hsz : ls.size = nL) (hst : st0 = As.reverse ++ .ref b :: rest) (hW : (rest.map fun v => v.category).sum ≤ 8) (hf : cells ≤ R.cells ∧ slots ≤ R.slots) (hdg : decode cc pc = .ok (.invokevirtual index, 3)) (kk : W p l e R s m args below meth c H locs cells slots Q (F0 m (pc + 3) ls rest)) : W p l e R s m args below meth c H locs cells slots Q (F0 m pc ls st0) := mw_cV S hM cw hK hP hc he hn hsz hst hW hf hdg kk
theorem mw_cS {v : Option Value} (S : CallFix p m c cc nL s args Ts own) (hM : mP l y ws rm As (fun _ => True) v) (cw : CallB R s args own index y bytes maxL ret ws rm 0 0 n ∧ (Cond.static y).before args s = true) (hn : As.length = n) (hsz : ls.size = nL) (hst : st0 = As.reverse ++ rest) (hW : (rest.map fun v => v.category).sum ≤ 8) (hf : cells ≤ R.cells ∧ slots ≤ R.slots) (hdg : decode cc pc = .ok (.invokestatic index, 3)) (kk : W p l e R s m args below meth c H locs cells slots Q (F0 m (pc + 3) ls (v.toList ++ rest))) : W p l e R s m args below meth c H locs cells slots Q (F0 m pc ls st0) := by
  refine mw_run (W.runS S hM cw ⟨fun a U g mk h => h, fun U hU hW1 => ⟨rfl, trivial⟩⟩ rfl hn hsz hst (lv_room hW) hdg hf) kk
theorem mw_cSi {r : Int32} (S : CallFix p m c cc nL s args Ts own) (hM : mP l y ws rm As (fun _ => True) (some (.int r))) (cw : CallB R s args own index y bytes maxL ret ws rm 0 0 n ∧ (Cond.static y).before args s = true) (hn : As.length = n) (hsz : ls.size = nL) (hst : st0 = As.reverse ++ rest) (hW : (rest.map fun v => v.category).sum ≤ 8) (hf : cells ≤ R.cells ∧ slots ≤ R.slots) (hdg : decode cc pc = .ok (.invokestatic index, 3)) (kk : W p l e R s m args below meth c H locs cells slots Q (F0 m (pc + 3) ls (.int r :: rest))) : W p l e R s m args below meth c H locs cells slots Q (F0 m pc ls st0) := mw_cS S hM cw hn hsz hst hW hf hdg kk
theorem mw_cSl {r : Int64} (S : CallFix p m c cc nL s args Ts own) (hM : mP l y ws rm As (fun _ => True) (some (.long r))) (cw : CallB R s args own index y bytes maxL ret ws rm 0 0 n ∧ (Cond.static y).before args s = true) (hn : As.length = n) (hsz : ls.size = nL) (hst : st0 = As.reverse ++ rest) (hW : (rest.map fun v => v.category).sum ≤ 8) (hf : cells ≤ R.cells ∧ slots ≤ R.slots) (hdg : decode cc pc = .ok (.invokestatic index, 3)) (kk : W p l e R s m args below meth c H locs cells slots Q (F0 m (pc + 3) ls (.long r :: rest))) : W p l e R s m args below meth c H locs cells slots Q (F0 m pc ls st0) := mw_cS S hM cw hn hsz hst hW hf hdg kk
theorem mw_cSv (S : CallFix p m c cc nL s args Ts own) (hM : mP l y ws rm As (fun _ => True) none) (cw : CallB R s args own index y bytes maxL ret ws rm 0 0 n ∧ (Cond.static y).before args s = true) (hn : As.length = n) (hsz : ls.size = nL) (hst : st0 = As.reverse ++ rest) (hW : (rest.map fun v => v.category).sum ≤ 8) (hf : cells ≤ R.cells ∧ slots ≤ R.slots) (hdg : decode cc pc = .ok (.invokestatic index, 3)) (kk : W p l e R s m args below meth c H locs cells slots Q (F0 m (pc + 3) ls rest)) : W p l e R s m args below meth c H locs cells slots Q (F0 m pc ls st0) := mw_cS S hM cw hn hsz hst hW hf hdg kk
/-- a call of a method that writes its cells -/
theorem mw_cM {S1 : Type} {v : Option Value} {post : S1 → Prop} {W1 : S1 → va_W} {A A0 : Nat → Prop} {H0 : Heap} {q : vw_C} {ci : Nat} {fs : List Value} (S : CallFix p m c cc nL s args Ts own) (hM : mM l y ws rm (.ref b :: As) D W0 tys v post W1 A) (cw : CallW R s args own q.1 index y bytes maxL ret ws rm 0 0 n) (hK : va_K D vwCl tys s) (hP : va_P D vwCl W0 H) (hS : va_S A0 H0 H locs) (hA : ∀ q, A q → A0 q) (hc : vwCl[ci]? = some q) (he : W0[0]? = some (b, .inr (ci, fs))) (hn : As.length = n) (hsz : ls.size = nL) (hst : st0 = As.reverse ++ .ref b :: rest) (hW : (rest.map fun v => v.category).sum ≤ 8) (hf : cells ≤ R.cells ∧ slots ≤ R.slots) (hdg : decode cc pc = .ok (.invokevirtual index, 3))
    (kk : ∀ (u : S1) (H1 : Heap) (locs1 : List Loc), post u → va_P D vwCl (W1 u) H1 → va_S A0 H0 H1 locs1 → H.size ≤ H1.size → (∀ q : Nat, q < H.size → ¬ A q → H1[q]? = H[q]?) → W p l e R s m args below meth c H1 locs1 cells slots Q (F0 m (pc + 3) ls (v.toList ++ rest))) : W p l e R s m args below meth c H locs cells slots Q (F0 m pc ls st0) := by
  have hr := va_runV (e := e) (below := below) (meth := meth) (locs := locs) (rest := rest) S hM cw ⟨fun a U g mk h => ⟨h.1, mwB_blind h.2⟩, va_recv hK hP hc he, fun U hU hW1 => ⟨rfl, by rw [hU]; exact hP, va_K.moved hW1.alike hK⟩⟩ (g := F0 m pc ls st0) rfl hn hsz hst (lv_room hW) hdg hf
  intro T hT X
  obtain ⟨v1, st₀, t, T', L, h0, X', hL, e1, e2, ⟨u, hv, hp, hP1, hz, hk⟩, st⟩ := hr T hT X
  cases hv
  rw [h0] at hz hk
  obtain ⟨t2, a1, b1⟩ := kk u T'.heap (locs ++ L) hp (by rw [e1]; exact hP1) ⟨Nat.le_trans hS.1 (by rw [e1]; exact hz), fun q h1 h2 => by rw [e1, hk q (Nat.lt_of_lt_of_le h1 hS.1) (fun z => h2 (hA q z))]; exact hS.2.1 q h1 h2, fun q hq => by
      rcases List.mem_append.mp hq with h | h
      · exact hS.2.2 q h
      · exact hA _ (hL q h)⟩ (by rw [e1]; exact hz) (fun q h1 h2 => by rw [e1]; exact hk q h1 h2) T' rfl X'
  exact ⟨t2, st t2 a1, b1⟩
end MWCV
/-! ends -/
theorem mw_retI {v v' : Int} (hx : p.tables.exec = Jvm.exec) (hb : c.code = cc) (hr : meth.sig.returnType = some .int) (hlocks : meth.locks = false) (hdg : decode cc pc = .ok (.ireturn, 1)) (hv : v = v') : W p l e R s m args below meth c s.heap [] 0 0 (MQ below (mQ (some (.int (mI v')))) args s 0 0 (fun _ => False)) (F0 m pc ls [.int (mI v)]) := by
  subst hv
  exact W.iret hx hb hr (fun t ht _ => ⟨rfl, ht⟩) (fun q h => nomatch h) hdg hlocks
theorem mw_retZ {v : Int} {q : Prop} [Decidable q] (hx : p.tables.exec = Jvm.exec) (hb : c.code = cc) (hr : meth.sig.returnType = some .boolean) (hlocks : meth.locks = false) (hdg : decode cc pc = .ok (.ireturn, 1)) (hv : v = mB q) : W p l e R s m args below meth c s.heap [] 0 0 (MQ below (mQ (some (.int (mI (mB q))))) args s 0 0 (fun _ => False)) (F0 m pc ls [.int (mI v)]) := by
  subst hv
  exact W.zret hx hb hr mB_nar (fun t ht _ => ⟨rfl, ht⟩) (fun q h => nomatch h) hdg hlocks
theorem mw_retL {v v' : Int} (hx : p.tables.exec = Jvm.exec) (hb : c.code = cc) (hr : meth.sig.returnType = some .long) (hlocks : meth.locks = false) (hdg : decode cc pc = .ok (.lreturn, 1)) (hv : v = v') : W p l e R s m args below meth c s.heap [] 0 0 (MQ below (mQ (some (.long (mL v')))) args s 0 0 (fun _ => False)) (F0 m pc ls [.long (mL v)]) := by
  subst hv
  exact W.lret hx hb hr (fun t ht _ => ⟨rfl, ht⟩) (fun q h => nomatch h) hdg hlocks
theorem mw_retV (hx : p.tables.exec = Jvm.exec) (hb : c.code = cc) (hr : meth.sig.returnType = none) (hlocks : meth.locks = false) (hdg : decode cc pc = .ok (.return_, 1)) : W p l e R s m args below meth c s.heap [] 0 0 (MQ below (mQ none) args s 0 0 (fun _ => False)) (F0 m pc ls []) :=
  W.vret hx hb hr (fun t ht _ => ⟨rfl, ht⟩) (fun q h => nomatch h) hdg hlocks
theorem mw_mretI {S : Type} {D : va_G} {post : S → Prop} {W1 : S → va_W} {A : Nat → Prop} {v v' : Int} (hx : p.tables.exec = Jvm.exec) (hb : c.code = cc) (hr : meth.sig.returnType = some .int) (hlocks : meth.locks = false) (hdg : decode cc pc = .ok (.ireturn, 1)) (u : S) (hu : post u) (hP : va_P D vwCl (W1 u) H) (hS : va_S A s.heap H locs) (hv : v = v') : W p l e R s m args below meth c H locs 0 0 (MQ below (mQM D (some (.int (mI v'))) post W1 A) args s 0 0 A) (F0 m pc ls [.int (mI v)]) := by
  subst hv
  exact W.iret hx hb hr (fun t ht _ => ⟨u, rfl, hu, by rw [ht]; exact hP, hS.F ht⟩) hS.2.2 hdg hlocks
theorem mw_mretL {S : Type} {D : va_G} {post : S → Prop} {W1 : S → va_W} {A : Nat → Prop} {v v' : Int} (hx : p.tables.exec = Jvm.exec) (hb : c.code = cc) (hr : meth.sig.returnType = some .long) (hlocks : meth.locks = false) (hdg : decode cc pc = .ok (.lreturn, 1)) (u : S) (hu : post u) (hP : va_P D vwCl (W1 u) H) (hS : va_S A s.heap H locs) (hv : v = v') : W p l e R s m args below meth c H locs 0 0 (MQ below (mQM D (some (.long (mL v'))) post W1 A) args s 0 0 A) (F0 m pc ls [.long (mL v)]) := by
  subst hv
  exact W.lret hx hb hr (fun t ht _ => ⟨u, rfl, hu, by rw [ht]; exact hP, hS.F ht⟩) hS.2.2 hdg hlocks
theorem mw_mretZ {S : Type} {D : va_G} {post : S → Prop} {W1 : S → va_W} {A : Nat → Prop} {v : Int} {q : Prop} [Decidable q] (hx : p.tables.exec = Jvm.exec) (hb : c.code = cc) (hr : meth.sig.returnType = some .boolean) (hlocks : meth.locks = false) (hdg : decode cc pc = .ok (.ireturn, 1)) (u : S) (hu : post u) (hP : va_P D vwCl (W1 u) H) (hS : va_S A s.heap H locs) (hv : v = mB q) : W p l e R s m args below meth c H locs 0 0 (MQ below (mQM D (some (.int (mI (mB q)))) post W1 A) args s 0 0 A) (F0 m pc ls [.int (mI v)]) := by
  subst hv
  exact W.zret hx hb hr mB_nar (fun t ht _ => ⟨u, rfl, hu, by rw [ht]; exact hP, hS.F ht⟩) hS.2.2 hdg hlocks
theorem mw_mretV {S : Type} {D : va_G} {post : S → Prop} {W1 : S → va_W} {A : Nat → Prop} (hx : p.tables.exec = Jvm.exec) (hb : c.code = cc) (hr : meth.sig.returnType = none) (hlocks : meth.locks = false) (hdg : decode cc pc = .ok (.return_, 1)) (u : S) (hu : post u) (hP : va_P D vwCl (W1 u) H) (hS : va_S A s.heap H locs) : W p l e R s m args below meth c H locs 0 0 (MQ below (mQM D none post W1 A) args s 0 0 A) (F0 m pc ls []) :=
  W.vret hx hb hr (fun t ht _ => ⟨u, rfl, hu, by rw [ht]; exact hP, hS.F ht⟩) hS.2.2 hdg hlocks
/-! fields and rows -/
theorem mw_iald (hx : p.tables.exec = Jvm.exec) (hb : c.code = cc) {D : va_G} {W0 : va_W} {tys : List (ClassId × FieldType)} {a : Nat} {cA : ClassId} {L : Int → Int} {z : Int} (hK : va_K D vwCl tys s) (hP : va_P D vwCl W0 H) (q0 : Nat) (ha : W0[q0]? = some (a, mA16 cA L)) (ht : tys[0]? = some (cA, .int)) (hz : 0 ≤ z ∧ z < 16) (hdg : decode cc pc = .ok (.iaload, 1)) (kk : W p l e R s m args below meth c H locs cells slots Q (F0 m (pc + 1) ls (.int (mI (L z)) :: rest))) : W p l e R s m args below meth c H locs cells slots Q (F0 m pc ls (.int (mI z) :: .ref a :: rest)) := by
  refine va_iald hx hb hK hP q0 0 ha ht (mI_in hz.1 (by omega) (by decide)) hdg ?_
  have h : ((mI z).toNatClampNeg : Int) = z := mI_clamp hz.1 (by omega)
  rw [h]
  exact kk
theorem mw_iast (hx : p.tables.exec = Jvm.exec) (hb : c.code = cc) {D : va_G} {W0 : va_W} {A : Nat → Prop} {H0 : Heap} {tys : List (ClassId × FieldType)} {a : Nat} {cA : ClassId} {L : Int → Int} {z x : Int} (hK : va_K D vwCl tys s) (hP : va_P D vwCl W0 H) (hD : va_D A W0) (hS : va_S A H0 H locs) (q0 : Nat) (ha : W0[q0]? = some (a, mA16 cA L)) (ht : tys[0]? = some (cA, .int)) (hz : 0 ≤ z ∧ z < 16) (hdg : decode cc pc = .ok (.iastore, 1)) (kk : ∀ (H1 : Heap) (locs1 : List Loc), va_P D vwCl (W0.set q0 (a, mA16 cA (mU L z x))) H1 → va_S A H0 H1 locs1 → W p l e R s m args below meth c H1 locs1 cells slots Q (F0 m (pc + 1) ls rest)) : W p l e R s m args below meth c H locs cells slots Q (F0 m pc ls (.int (mI x) :: .int (mI z) :: .ref a :: rest)) := by
  refine va_iast hx hb hK hP hD hS q0 0 ha ht (mI_in hz.1 (by omega) (by decide)) hdg (fun H1 locs1 h1 _ h2 => kk H1 locs1 ?_ h2)
  rw [mU_upd L hz.1 (by omega)] at h1
  exact h1
theorem mw_alen (hx : p.tables.exec = Jvm.exec) (hb : c.code = cc) {D : va_G} {W0 : va_W} {tys : List (ClassId × FieldType)} {a : Nat} {cA : ClassId} {L : Int → Int} (hK : va_K D vwCl tys s) (hP : va_P D vwCl W0 H) (q0 : Nat) (ha : W0[q0]? = some (a, mA16 cA L)) (ht : tys[0]? = some (cA, .int)) (hdg : decode cc pc = .ok (.arraylength, 1)) (kk : W p l e R s m args below meth c H locs cells slots Q (F0 m (pc + 1) ls (.int (mI 16) :: rest))) : W p l e R s m args below meth c H locs cells slots Q (F0 m pc ls (.ref a :: rest)) := va_alen hx hb hK hP q0 0 ha ht rfl hdg kk
theorem mw_getX (hx : p.tables.exec = Jvm.exec) (hb : c.code = cc) {Ts : List Cond} (hts : ∀ w ∈ Ts, w.before args s = true) (hin : ∀ w ∈ wsX00, w ∈ Ts) (hown : s.vm.findClass RX0 = some m.cls) {D : va_G} {W0 : va_W} {tys : List (ClassId × FieldType)} {a index : Nat} {fs : List Value} (hK : va_K D vwCl tys s) (hP : va_P D vwCl W0 H) (he : W0[0]? = some (a, .inr (0, fs))) (k : Nat) (hk : k < 10) (hlink : (Cond.fieldLink RX0 index "MarketWeeks" (TX0 k).2.1 (TX0 k).2.2.1) ∈ Ts) (h1 : (TX0 k).1 = "MarketWeeks") {v : Value} (hv : fs[k]? = some v) (hdg : decode cc pc = .ok (.getfield index, 3)) (kk : W p l e R s m args below meth c H locs cells slots Q (F0 m (pc + 3) ls (v :: rest))) : W p l e R s m args below meth c H locs cells slots Q (F0 m pc ls (.ref a :: rest)) := va_get (D := D) (ci := 0) (C := RX0) (T := TX0) (N := 10) hx hb hts hin hown hK hP 0 he rfl k hk (hts _ hlink) (by rw [h1]; exact fun _ h9 => h9) hv hdg kk
theorem mw_putX (hx : p.tables.exec = Jvm.exec) (hb : c.code = cc) {Ts : List Cond} (hts : ∀ w ∈ Ts, w.before args s = true) (hin : ∀ w ∈ wsX00, w ∈ Ts) (hown : s.vm.findClass RX0 = some m.cls) {D : va_G} {A : Nat → Prop} {H0 : Heap} {W0 : va_W} {tys : List (ClassId × FieldType)} {a index : Nat} {fs : List Value} {x : Int32} (hK : va_K D vwCl tys s) (hP : va_P D vwCl W0 H) (hD : va_D A W0) (hS : va_S A H0 H locs) (he : W0[0]? = some (a, .inr (0, fs))) (k : Nat) (hk : k < 10) (hl : k < fs.length) (hlink : (Cond.fieldLink RX0 index "MarketWeeks" (TX0 k).2.1 (TX0 k).2.2.1) ∈ Ts) (h1 : (TX0 k).1 = "MarketWeeks") (h2 : (TX0 k).2.2.2 = false) (h3 : parseFieldDescriptor (TX0 k).2.2.1 = some .int) (hdg : decode cc pc = .ok (.putfield index, 3)) (kk : ∀ (H1 : Heap) (locs1 : List Loc), va_P D vwCl (W0.set 0 (a, .inr (0, fs.set k (.int x)))) H1 → va_S A H0 H1 locs1 → W p l e R s m args below meth c H1 locs1 cells slots Q (F0 m (pc + 3) ls rest)) : W p l e R s m args below meth c H locs cells slots Q (F0 m pc ls (.int x :: .ref a :: rest)) := va_put (D := D) (ci := 0) (C := RX0) (T := TX0) (N := 10) hx hb hts hin tyX0 tyX0_ok nmX0 hown hK hP hD hS 0 he rfl k hk (hts _ hlink) (by rw [h1]; exact fun _ h9 => h9) h2 h3 rfl rfl hl hdg (fun H1 locs1 h4 _ h5 => kk H1 locs1 h4 h5)
end MWC
end
section
/-! what a throw needs of the state: the texts, the words that the tables alone decide, Throwable's two statics -/
def mEA : String := "java/lang/IllegalArgumentException"
def mES : String := "java/lang/IllegalStateException"
def mEI : String := "java/lang/IndexOutOfBoundsException"
def mwS (U : State) : Prop := (∃ a, vk_R RX0 55 "there are as many markets as can be" a U) ∧ (∃ a, vk_R RX0 139 "an argument is out of range" a U) ∧ (∃ a, vk_R RX0 146 "there is no such market" a U) ∧ (∃ a, vk_R RX0 149 "a bit stands for no market" a U) ∧ (∃ a, vk_R RX0 151 "they never meet" a U) ∧ va_Nw (.castable "java/lang/IllegalArgumentException" "java/lang/IllegalArgumentException") U ∧ va_Nw (.castable "java/lang/IllegalStateException" "java/lang/IllegalStateException") U ∧ va_Nw (.castable "java/lang/IndexOutOfBoundsException" "java/lang/IndexOutOfBoundsException") U ∧ va_Nw (.declares ⟨"java/lang/RuntimeException", "<init>", "(Ljava/lang/String;)V"⟩) U ∧ va_Nw (.declares ⟨"java/lang/Exception", "<init>", "(Ljava/lang/String;)V"⟩) U ∧ va_Nw (.declares ⟨"java/lang/Throwable", "<init>", "(Ljava/lang/String;)V"⟩) U
def mwZ (A : Nat → Prop) (U : State) (H : Heap) : Prop := vx_Zq Bundle.tN "UNASSIGNED_STACK" Bundle.steD A U H ∧ vx_Zq Bundle.tN "SUPPRESSED_SENTINEL" Bundle.listD A U H
def mwE (U : State) : Prop := mwS U ∧ mwZ (fun _ => False) U U.heap
theorem mwS_same {u U : State} (hv : U.vm = u.vm) (h : mwS u) : mwS U := by
  obtain ⟨⟨a1, h1⟩, ⟨a2, h2⟩, ⟨a3, h3⟩, ⟨a4, h4⟩, ⟨a5, h5⟩, h6, h7, h8, h9, h10, h11⟩ := h
  exact ⟨⟨a1, h1.same hv⟩, ⟨a2, h2.same hv⟩, ⟨a3, h3.same hv⟩, ⟨a4, h4.same hv⟩, ⟨a5, h5.same hv⟩, va_Nw.same rfl hv.symm h6, va_Nw.same rfl hv.symm h7, va_Nw.same rfl hv.symm h8, va_Nw.same rfl hv.symm h9, va_Nw.same rfl hv.symm h10, va_Nw.same rfl hv.symm h11⟩
theorem mwS_warm {s U : State} (hW : s.WarmedH U.vm) (h : mwS s) : mwS U := by
  obtain ⟨⟨a1, h1⟩, ⟨a2, h2⟩, ⟨a3, h3⟩, ⟨a4, h4⟩, ⟨a5, h5⟩, h6, h7, h8, h9, h10, h11⟩ := h
  exact ⟨⟨a1, h1.warm hW⟩, ⟨a2, h2.warm hW⟩, ⟨a3, h3.warm hW⟩, ⟨a4, h4.warm hW⟩, ⟨a5, h5.warm hW⟩, h6.warmC hW, h7.warmC hW, h8.warmC hW, h9.warmD hW, h10.warmD hW, h11.warmD hW⟩
theorem mwZ_moved {A : Nat → Prop} {u U : State} {H : Heap} (hv : u.vm.Alike U.vm) (h : mwZ A u H) : mwZ A U H := ⟨h.1.moved hv, h.2.moved hv⟩
theorem mwE_blind {U : State} {g : JFrame} {mk : MethodId} {a : Array Value} (h : mwE U) : mwE (U.calling g mk a) := ⟨mwS_same (u := U) rfl h.1, mwZ_moved (u := U) (U := U.calling g mk a) (Vm.Alike.refl U.vm) h.2⟩
theorem mwE_warm {s U : State} (hh : U.heap = s.heap) (hW : s.WarmedH U.vm) (h : mwE s) : mwE U := ⟨mwS_warm hW h.1, by rw [hh]; exact mwZ_moved hW.alike h.2⟩
/-- nothing old is changed, and something is new -/
def mFx (st t : State) : Prop := va_F (fun _ => False) st t ∧ st.heap.size < t.heap.size
/-- a method that throws E and leaves what is there -/
def mT (l : Launch) (y : MethodName) (ws : List Cond) (rm : Room) (av : List Value) (B : State → Prop) (E : String) : Prop := vx_Met l y ws rm (va_Pc av (fun U => B U ∧ mwE U)) (fun _ _ _ _ => False) (fun E1 st t => E1 = E ∧ mFx st t) 1 6 (fun _ => False)
/-- a method of the face: its exception by its place (0: none), its answer, the world behind it -/
def mXC (es : List String) (ex : Nat) : String → State → State → Prop := fun E st t => (∃ k, ex = k + 1 ∧ es[k]? = some E) ∧ mFx st t
def mXQ (D : va_G) (ex : Nat) (v : Option Value) (W1 : va_W) (A : Nat → Prop) : Array Value → State → Outcome → State → Prop := fun _ st o t => ex = 0 ∧ o = .returned v ∧ va_P D vwCl W1 t.heap ∧ va_F A st t
def mX (l : Launch) (y : MethodName) (ws : List Cond) (rm : Room) (av : List Value) (D : va_G) (W0 : va_W) (tys : List (ClassId × FieldType)) (es : List String) (ex : Nat) (v : Option Value) (W1 : va_W) (A : Nat → Prop) : Prop := vx_Met l y ws rm (va_Pc av (fun U => mwB D W0 tys U ∧ mwE U)) (mXQ D ex v W1 A) (mXC es ex) 1 6 A
theorem mw_openX {l : Launch} {y : MethodName} {ws ws' : List Cond} {rm : Room} {av : List Value} {B : State → Prop} {Qc : Array Value → State → Outcome → State → Prop} {XC : String → State → State → Prop} {A : Nat → Prop} {cc : ByteArray} {maxL : Nat} {ret : Option FieldType} (hy : plainName y.cls = true) (hw : ws = Cond.code y cc maxL ret :: ws') (hlen : (lg_sl av).length ≤ maxL)
    (body : ∀ (p : Program) (e : Env) (s : State) (m : MethodId) (below : List Frame) (meth : Method) (c : Code) (ls : Array Slot), CallFix p m c cc maxL s av.toArray ws y.cls → meth.sig.returnType = ret → meth.locks = false → (∀ x ∈ c.exceptionTable.toList, False) → B s → mwE s → lv_has ls maxL (lv_args 0 av) → W p l e rm s m av.toArray below meth c s.heap [] 0 0 (vx_MQ below Qc XC av.toArray s 1 6 A) (F0 m 0 ls [])) : vx_Met l y ws rm (va_Pc av (fun U => B U ∧ mwE U)) Qc XC 1 6 A := by
  refine vx_ofW (cc := cc) (maxL := maxL) (ret := ret) hy hw ?_
  intro p e s m args below meth c s₁ B1 hml ht hv
  obtain ⟨rfl, hB, hE⟩ := hv
  have hl := lv_entry av (n := maxL) hlen
  rw [lg_entry_eq]
  exact body p e s m below meth c _ ⟨B1.exec, B1.bytes, hml, findClass_of_methodNamed B1.named, atoms_spec (ws := ws) B1.pre⟩ B1.returns B1.notSynchronized ht hB hE hl
section MWT
variable {p : Program} {l : Launch} {e : Env} {R : Room} {s : State} {m : MethodId} {args : Array Value} {below : List Frame} {meth : Method} {c : Code} {H : Heap} {locs : List Loc} {cells slots : Nat} {Q : State → Prop}
variable {cc : ByteArray} {pc : Nat} {ls : Array Slot} {rest st0 : List Value}
variable {Qc : Array Value → State → Outcome → State → Prop} {XC : String → State → State → Prop} {A : Nat → Prop}
/-- a call that throws, and the throw goes on to the caller -/
theorem mw_thr {E : String} (hr : vx_Run p l e R s m args below meth c s.heap [] 0 0 1 6 (F0 m pc ls st0) rest (fun _ _ _ => False) (fun E1 st t => E1 = E ∧ mFx st t) (fun _ => False)) (hout : ∀ x ∈ c.exceptionTable.toList, False) (hlocks : meth.locks = false) (hx : ∀ t : State, mFx s t → XC E s t) : W p l e R s m args below meth c s.heap [] 0 0 (vx_MQ below Qc XC args s 1 6 A) (F0 m pc ls st0) := by
  intro T hT X
  rcases hr T hT X with ⟨v, st₀, t, T', L, h0, X', hL, e1, e2, hq, st⟩ | ⟨q, st₀, t, T', L, E1, ce, h0, X', hL, e1, e2, ⟨he, hF⟩, hce, hcv, hcl, st⟩
  · exact hq.elim
  · subst he
    have hF2 : mFx s t := by
      obtain ⟨⟨f1, f2⟩, f3⟩ := hF
      rw [h0] at f1 f2 f3
      exact ⟨⟨f1, f2⟩, f3⟩
    have k := vx_out (p := p) (l := l) (e := e) (m := m) (R := R) (args := args) (below := below) (locs := [] ++ L) (cells := 0 + 1) (slots := 0 + 6) (free := A) (ls := ls) (rest := rest) (Qc := Qc) (XC := XC) (pc := pc) (mc := 1) (ms := 6) (H := T'.heap) (s := s) (fun x hx1 => (hout x hx1).elim) hlocks (by rw [e1]; exact hce) hcv hcl (fun t2 ht2 _ => hx t2 ⟨⟨by rw [ht2, e1]; exact hF2.1.1, fun z h1 h2 => by rw [ht2, e1]; exact hF2.1.2 z h1 h2⟩, by rw [ht2, e1]; exact hF2.2⟩) (fun z hz => (hL z hz).elim) (Nat.le_refl 1) (Nat.le_refl 6)
    obtain ⟨t2, a1, b1⟩ := k T' rfl X'
    exact ⟨t2, st.trans a1, b1⟩
section MWTC
variable {y : MethodName} {bytes : ByteArray} {maxL nL n index : Nat} {ret : Option FieldType} {ws Ts : List Cond} {rm : Room} {own : String} {b : Addr} {As : List Value} {D : va_G} {W0 : va_W} {tys : List (ClassId × FieldType)}
theorem mw_tS {E : String} (S : CallFix p m c cc nL s args Ts own) (hM : mT l y ws rm As (fun _ => True) E) (hE : mwE s) (cw : CallB R s args own index y bytes maxL ret ws rm 1 6 n ∧ (Cond.static y).before args s = true) (hn : As.length = n) (hsz : ls.size = nL) (hst : st0 = As.reverse ++ rest) (hW : (rest.map fun v => v.category).sum ≤ 8) (hR : 1 ≤ R.cells ∧ 6 ≤ R.slots) (hout : ∀ x ∈ c.exceptionTable.toList, False) (hlocks : meth.locks = false) (hdg : decode cc pc = .ok (.invokestatic index, 3)) (hx : ∀ t : State, mFx s t → XC E s t) : W p l e R s m args below meth c s.heap [] 0 0 (vx_MQ below Qc XC args s 1 6 A) (F0 m pc ls st0) :=
  mw_thr (vx_runS (rest := rest) S hM cw ⟨fun a U g mk h => ⟨h.1, trivial, mwE_blind h.2.2⟩, fun U hU hW1 => ⟨rfl, trivial, mwE_warm hU hW1 hE⟩⟩ (g := F0 m pc ls st0) rfl hn hsz hst (lv_room hW) hdg ⟨by rw [Nat.zero_add]; exact hR.1, by rw [Nat.zero_add]; exact hR.2⟩) hout hlocks hx
theorem mw_tV {E : String} {q : vw_C} {ci : Nat} {fs : List Value} (S : CallFix p m c cc nL s args Ts own) (hM : mT l y ws rm (.ref b :: As) (mwB D W0 tys) E) (hE : mwE s) (cw : CallW R s args own q.1 index y bytes maxL ret ws rm 1 6 n) (hK : va_K D vwCl tys s) (hP : va_P D vwCl W0 s.heap) (hc : vwCl[ci]? = some q) (he : W0[0]? = some (b, .inr (ci, fs))) (hn : As.length = n) (hsz : ls.size = nL) (hst : st0 = As.reverse ++ .ref b :: rest) (hW : (rest.map fun v => v.category).sum ≤ 8) (hR : 1 ≤ R.cells ∧ 6 ≤ R.slots) (hout : ∀ x ∈ c.exceptionTable.toList, False) (hlocks : meth.locks = false) (hdg : decode cc pc = .ok (.invokevirtual index, 3)) (hx : ∀ t : State, mFx s t → XC E s t) : W p l e R s m args below meth c s.heap [] 0 0 (vx_MQ below Qc XC args s 1 6 A) (F0 m pc ls st0) :=
  mw_thr (vx_runV (rest := rest) S hM cw ⟨fun a U g mk h => ⟨h.1, mwB_blind h.2.1, mwE_blind h.2.2⟩, va_recv hK hP hc he, fun U hU hW1 => ⟨rfl, ⟨by rw [hU]; exact hP, va_K.moved hW1.alike hK⟩, mwE_warm hU hW1 hE⟩⟩ (g := F0 m pc ls st0) rfl hn hsz hst (lv_room hW) hdg ⟨by rw [Nat.zero_add]; exact hR.1, by rw [Nat.zero_add]; exact hR.2⟩) hout hlocks hx
end MWTC
/-- 'throw new E("text")' -/
theorem mw_throw {cls text : String} {ik is ic : Nat} {Ts : List Cond} (hx : p.tables.exec = Jvm.exec) (hb : c.code = cc) (hl : l.flags = flags0) (hts : ∀ w ∈ Ts, w.before args s = true) (hown : s.vm.findClass RX0 = some m.cls) (hcls : Bundle.fit cls = true) (hE : mwE s) (hcast : va_Nw (.castable cls cls) s) (hstr : ∃ a, vk_R RX0 is text a s)
    (hk : Cond.classLink RX0 ik cls ∈ Ts) (hini : Cond.initialized cls ∈ Ts) (hat : ∀ w ∈ (vx_atS RX0 ic cls ["java/lang/RuntimeException", "java/lang/Exception"]).filter goodWord, w ∈ Ts)
    (hbad : ∀ w ∈ (vx_atS RX0 ic cls ["java/lang/RuntimeException", "java/lang/Exception"]).filter (fun w => !goodWord w), w ∈ [Cond.castable cls cls, .declares ⟨"java/lang/RuntimeException", "<init>", "(Ljava/lang/String;)V"⟩, .declares ⟨"java/lang/Exception", "<init>", "(Ljava/lang/String;)V"⟩, .declares ⟨"java/lang/Throwable", "<init>", "(Ljava/lang/String;)V"⟩])
    (hgood : ∀ w ∈ Cond.classLink RX0 ik cls :: Cond.initialized cls :: vx_atS RX0 ic cls ["java/lang/RuntimeException", "java/lang/Exception"], vx_ot w = true)
    (hsize : ls.size = c.maxLocals) (d0 : decode cc pc = .ok (.new ik, 3)) (d3 : decode cc (pc + 3) = .ok (.dup, 1)) (d4 : decode cc (pc + 4) = .ok (.ldc is, 2)) (d6 : decode cc (pc + 6) = .ok (.invokespecial ic, 3)) (d9 : decode cc (pc + 9) = .ok (.athrow, 1))
    (hout : ∀ x ∈ c.exceptionTable.toList, False) (hW : (rest.map fun v => v.category).sum ≤ 8) (hR : 6 ≤ R.frames ∧ 90 ≤ R.locals ∧ 1 ≤ R.cells ∧ 6 ≤ R.slots) (hlocks : meth.locks = false)
    (hxc : ∀ t : State, mFx s t → XC cls s t) : W p l e R s m args below meth c s.heap [] 0 0 (vx_MQ below Qc XC args s 1 6 A) (F0 m pc ls rest) := by
  obtain ⟨sa, hsa⟩ := hstr
  have htr : l.stackTraces = false := by
    unfold Launch.stackTraces
    rw [hl]
    decide +kernel
  obtain ⟨⟨-, -, -, -, -, -, -, -, h9, h10, h11⟩, hU, hN⟩ := hE
  exact vx_throwS (names := ["java/lang/RuntimeException", "java/lang/Exception"]) (A := fun _ => False) hx hb htr hown hcls (by decide +kernel) (hts _ hk) (hts _ hini) hsa
    (vx_hat (fun w hw => hts w (hat w hw)) hbad (vx_c (va_Nw.use rfl hcast) (vx_c (va_Nw.use rfl h9) (vx_c (va_Nw.use rfl h10) (vx_c (va_Nw.use rfl h11) vx_n))))) hgood hU hN va_S.rf hsize d0 d3 d4 d6 d9 (fun x hx1 => (hout x hx1).elim)
    (by simp only [List.length_cons, List.length_nil]; omega) (by simp only [List.length_cons, List.length_nil]; omega) (by rw [Nat.zero_add]; exact hR.2.2.1) (by rw [Nat.zero_add]; exact hR.2.2.2) hlocks (fun t _ h1 h2 => hxc t ⟨⟨Nat.le_of_lt h1, fun q hq _ => h2 q hq⟩, h1⟩) (fun z hz => nomatch hz) (Nat.le_refl _) (Nat.le_refl _)
/-! ends of the methods of the face -/
theorem mw_xretI {D : va_G} {ex : Nat} {W1 : va_W} {v v' : Int} (hx : p.tables.exec = Jvm.exec) (hb : c.code = cc) (hr : meth.sig.returnType = some .int) (hlocks : meth.locks = false) (hdg : decode cc pc = .ok (.ireturn, 1)) (hex : ex = 0) (hP : va_P D vwCl W1 H) (hS : va_S A s.heap H locs) (hv : v = v') : W p l e R s m args below meth c H locs 0 0 (vx_MQ below (mXQ D ex (some (.int (mI v'))) W1 A) XC args s 1 6 A) (F0 m pc ls [.int (mI v)]) := by
  subst hv
  exact W.widen (Nat.zero_le _) (Nat.zero_le _) (vx_ret (W.iret hx hb hr (fun t ht _ => ⟨hex, rfl, by rw [ht]; exact hP, hS.F ht⟩) hS.2.2 hdg hlocks))
theorem mw_xretL {D : va_G} {ex : Nat} {W1 : va_W} {v v' : Int} (hx : p.tables.exec = Jvm.exec) (hb : c.code = cc) (hr : meth.sig.returnType = some .long) (hlocks : meth.locks = false) (hdg : decode cc pc = .ok (.lreturn, 1)) (hex : ex = 0) (hP : va_P D vwCl W1 H) (hS : va_S A s.heap H locs) (hv : v = v') : W p l e R s m args below meth c H locs 0 0 (vx_MQ below (mXQ D ex (some (.long (mL v'))) W1 A) XC args s 1 6 A) (F0 m pc ls [.long (mL v)]) := by
  subst hv
  exact W.widen (Nat.zero_le _) (Nat.zero_le _) (vx_ret (W.lret hx hb hr (fun t ht _ => ⟨hex, rfl, by rw [ht]; exact hP, hS.F ht⟩) hS.2.2 hdg hlocks))
theorem mw_xretZ {D : va_G} {ex : Nat} {W1 : va_W} {v : Int} {q : Prop} [Decidable q] (hx : p.tables.exec = Jvm.exec) (hb : c.code = cc) (hr : meth.sig.returnType = some .boolean) (hlocks : meth.locks = false) (hdg : decode cc pc = .ok (.ireturn, 1)) (hex : ex = 0) (hP : va_P D vwCl W1 H) (hS : va_S A s.heap H locs) (hv : v = mB q) : W p l e R s m args below meth c H locs 0 0 (vx_MQ below (mXQ D ex (some (.int (mI (mB q)))) W1 A) XC args s 1 6 A) (F0 m pc ls [.int (mI v)]) := by
  subst hv
  exact W.widen (Nat.zero_le _) (Nat.zero_le _) (vx_ret (W.zret hx hb hr mB_nar (fun t ht _ => ⟨hex, rfl, by rw [ht]; exact hP, hS.F ht⟩) hS.2.2 hdg hlocks))
theorem mw_xretV {D : va_G} {ex : Nat} {W1 : va_W} (hx : p.tables.exec = Jvm.exec) (hb : c.code = cc) (hr : meth.sig.returnType = none) (hlocks : meth.locks = false) (hdg : decode cc pc = .ok (.return_, 1)) (hex : ex = 0) (hP : va_P D vwCl W1 H) (hS : va_S A s.heap H locs) : W p l e R s m args below meth c H locs 0 0 (vx_MQ below (mXQ D ex none W1 A) XC args s 1 6 A) (F0 m pc ls []) :=
  W.widen (Nat.zero_le _) (Nat.zero_le _) (vx_ret (W.vret hx hb hr (fun t ht _ => ⟨hex, rfl, by rw [ht]; exact hP, hS.F ht⟩) hS.2.2 hdg hlocks))
end MWT
end
section
/-! what the calls answer, as numbers -/
def mXor (x y : Int) : Int := (mL x ^^^ mL y).toInt
theorem mXor_r (x y : Int) : mRL (mXor x y) := by
  have h1 := (mL x ^^^ mL y).le_toInt
  have h2 := (mL x ^^^ mL y).toInt_lt
  constructor <;> (show _; unfold mXor; omega)
theorem mXor_ge {x y : Int} (hx : mRL x) (hy : mRL y) (h0 : 0 < y) : 0 ≤ mXor x y ↔ 0 ≤ x := by
  have e1 : (mL x).toBitVec.msb = decide (x < 0) := by
    rw [BitVec.msb_eq_toInt]
    show decide ((mL x).toInt < 0) = _
    rw [mL_t hx]
  have e2 : (mL y).toBitVec.msb = false := by
    rw [BitVec.msb_eq_toInt]
    show decide ((mL y).toInt < 0) = _
    rw [mL_t hy]
    exact decide_eq_false (by omega)
  have e3 : (mL x ^^^ mL y).toBitVec.msb = decide (mXor x y < 0) := by
    rw [BitVec.msb_eq_toInt]
    rfl
  have e4 : (mL x ^^^ mL y).toBitVec.msb = decide (x < 0) := by
    rw [Int64.toBitVec_xor, BitVec.msb_xor, e1, e2, Bool.xor_false]
  rw [e3] at e4
  have := decide_eq_decide.mp e4
  omega
abbrev mR2 (z : Int) : Prop := -4611686018427387904 ≤ z ∧ z ≤ 4611686018427387904
section MWS
variable {p : Program} {l : Launch} {e : Env} {R : Room} {s : State} {m : MethodId} {args : Array Value} {below : List Frame} {meth : Method} {c : Code} {H : Heap} {locs : List Loc} {cells slots : Nat} {Q : State → Prop}
variable {cc : ByteArray} {pc : Nat} {ls : Array Slot} {rest : List Value}
theorem mw_lxor (hx : p.tables.exec = Jvm.exec) (hb : c.code = cc) {x y : Int} (hdg : decode cc pc = .ok (.lxor, 1)) (k : W p l e R s m args below meth c H locs cells slots Q (F0 m (pc + 1) ls (.long (mL (mXor x y)) :: rest))) : W p l e R s m args below meth c H locs cells slots Q (F0 m pc ls (.long (mL y) :: .long (mL x) :: rest)) := lv_lxor hx hb hdg (by rw [show mL x ^^^ mL y = mL (mXor x y) from (mL_self _).symm]; exact k)
end MWS
theorem m_mod_r {a b : Int} (hb : 0 < b) : 0 ≤ a % b ∧ a % b < b := ⟨Int.emod_nonneg a (by omega), Int.emod_lt_of_pos a hb⟩
/-- the state's bounds -/
def mOK (v : Nat → Int) (L P : Int → Int) : Prop := (0 ≤ v 0 ∧ v 0 ≤ 16) ∧ (∀ k : Int, 0 ≤ k → k < v 0 → 1 ≤ L k ∧ L k ≤ 60 ∧ 0 ≤ P k ∧ P k < L k) ∧ (1 ≤ v 2 ∧ v 2 ≤ 100 ∧ 2 * v 2 ≤ v 1 ∧ v 1 ≤ 100 * v 2 ∧ -1000 ≤ v 3 ∧ v 3 ≤ 1000) ∧ (100 ≤ v 4 ∧ v 4 ≤ 500 ∧ 1 ≤ v 7 ∧ v 7 ≤ 400 ∧ 0 ≤ v 5 ∧ v 5 ≤ v 7 ∧ 0 ≤ v 6 ∧ v 6 < v 7)
abbrev mDay (d : Int) : Prop := -1000000 ≤ d ∧ d ≤ 1000000
abbrev mYear (y : Int) : Prop := -10000 ≤ y ∧ y ≤ 10000
abbrev mMk (v : Nat → Int) (m : Int) : Prop := 0 ≤ m ∧ m < v 0
/-- days of the moon and of the year -/
def mMoon (v : Nat → Int) (d : Int) : Int := (d + v 3) * v 2
def mMonth (v : Nat → Int) (d : Int) : Int := mMoon v d / v 1
def mLunar (v : Nat → Int) (d : Int) : Int := (mMoon v d % v 1) / v 2
def mBeg (v : Nat → Int) (y : Int) : Int := v 4 * y + (v 5 * y + v 6) / v 7
def mYr (v : Nat → Int) (d : Int) : Int := (v 7 * (d + 1) - 1 - v 6) / (v 4 * v 7 + v 5)
abbrev mLeap (v : Nat → Int) (y : Int) : Prop := v 7 - v 5 ≤ (v 5 * y + v 6) % v 7
def mLen (v : Nat → Int) (y : Int) : Int := if mLeap v y then v 4 + 1 else v 4
def mCnt (L P : Int → Int) (m a b : Int) : Int := (b - P m) / L m - (a - 1 - P m) / L m
/-- the markets below k that are held on a day, as a mask -/
def mSet (L P : Int → Int) (d : Int) : Nat → Int
  | 0 => 0
  | k + 1 => mSet L P d k + (if d % L (k : Int) = P (k : Int) then 2 ^ k else 0)
theorem mSet_r (L P : Int → Int) (d : Int) : ∀ k : Nat, 0 ≤ mSet L P d k ∧ mSet L P d k < 2 ^ k
  | 0 => by simp [mSet]
  | k + 1 => by
    have h := mSet_r L P d k
    have e : (2 : Int) ^ (k + 1) = 2 ^ k * 2 := Int.pow_succ 2 k
    have e0 : (0 : Int) < 2 ^ k := Int.pow_pos (by omega)
    unfold mSet
    rw [e]
    split <;> omega
theorem m_bound (a b : Int) {A B : Int} (ha : -A ≤ a ∧ a ≤ A) (hb : -B ≤ b ∧ b ≤ B) : -(A * B) ≤ a * b ∧ a * b ≤ A * B := by
  have hA : 0 ≤ A := by omega
  have h1 : (a * b).natAbs ≤ (A * B).natAbs := by
    rw [Int.natAbs_mul, Int.natAbs_mul]
    exact Nat.mul_le_mul (by omega) (by omega)
  have h2 : 0 ≤ A * B := Int.mul_nonneg hA (by omega)
  omega
end
section
/-! bits of ints, as numbers -/
def mAnd (x y : Int) : Int := (mI x &&& mI y).toInt
def mOr (x y : Int) : Int := (mI x ||| mI y).toInt
def mShl (x y : Int) : Int := (mI x <<< (mI y &&& 31)).toInt
def mShr (x y : Int) : Int := (mI x >>> (mI y &&& 31)).toInt
def mUsh (x y : Int) : Int := ((mI x).toUInt32 >>> ((mI y).toUInt32 &&& Int32.toUInt32 31)).toInt32.toInt
theorem mAnd_r (x y : Int) : mRI (mAnd x y) := mI_rng _
theorem mOr_r (x y : Int) : mRI (mOr x y) := mI_rng _
theorem mShl_r (x y : Int) : mRI (mShl x y) := mI_rng _
theorem mShr_r (x y : Int) : mRI (mShr x y) := mI_rng _
theorem mUsh_r (x y : Int) : mRI (mUsh x y) := mI_rng _
section MWB
variable {p : Program} {l : Launch} {e : Env} {R : Room} {s : State} {m : MethodId} {args : Array Value} {below : List Frame} {meth : Method} {c : Code} {H : Heap} {locs : List Loc} {cells slots : Nat} {Q : State → Prop}
variable {cc : ByteArray} {pc : Nat} {ls : Array Slot} {rest : List Value}
theorem mw_iand (hx : p.tables.exec = Jvm.exec) (hb : c.code = cc) {x y : Int} (hdg : decode cc pc = .ok (.iand, 1)) (k : W p l e R s m args below meth c H locs cells slots Q (F0 m (pc + 1) ls (.int (mI (mAnd x y)) :: rest))) : W p l e R s m args below meth c H locs cells slots Q (F0 m pc ls (.int (mI y) :: .int (mI x) :: rest)) := lv_iand hx hb hdg (by rw [show mI x &&& mI y = mI (mAnd x y) from (mI_self _).symm]; exact k)
theorem mw_ior (hx : p.tables.exec = Jvm.exec) (hb : c.code = cc) {x y : Int} (hdg : decode cc pc = .ok (.ior, 1)) (k : W p l e R s m args below meth c H locs cells slots Q (F0 m (pc + 1) ls (.int (mI (mOr x y)) :: rest))) : W p l e R s m args below meth c H locs cells slots Q (F0 m pc ls (.int (mI y) :: .int (mI x) :: rest)) := lv_ior hx hb hdg (by rw [show mI x ||| mI y = mI (mOr x y) from (mI_self _).symm]; exact k)
theorem mw_ishl (hx : p.tables.exec = Jvm.exec) (hb : c.code = cc) {x y : Int} (hdg : decode cc pc = .ok (.ishl, 1)) (k : W p l e R s m args below meth c H locs cells slots Q (F0 m (pc + 1) ls (.int (mI (mShl x y)) :: rest))) : W p l e R s m args below meth c H locs cells slots Q (F0 m pc ls (.int (mI y) :: .int (mI x) :: rest)) := lv_ishl hx hb hdg (by rw [show mI x <<< (mI y &&& 31) = mI (mShl x y) from (mI_self _).symm]; exact k)
theorem mw_ishr (hx : p.tables.exec = Jvm.exec) (hb : c.code = cc) {x y : Int} (hdg : decode cc pc = .ok (.ishr, 1)) (k : W p l e R s m args below meth c H locs cells slots Q (F0 m (pc + 1) ls (.int (mI (mShr x y)) :: rest))) : W p l e R s m args below meth c H locs cells slots Q (F0 m pc ls (.int (mI y) :: .int (mI x) :: rest)) := lv_ishr hx hb hdg (by rw [show mI x >>> (mI y &&& 31) = mI (mShr x y) from (mI_self _).symm]; exact k)
theorem mw_iushr (hx : p.tables.exec = Jvm.exec) (hb : c.code = cc) {x y : Int} (hdg : decode cc pc = .ok (.iushr, 1)) (k : W p l e R s m args below meth c H locs cells slots Q (F0 m (pc + 1) ls (.int (mI (mUsh x y)) :: rest))) : W p l e R s m args below meth c H locs cells slots Q (F0 m pc ls (.int (mI y) :: .int (mI x) :: rest)) := lv_iushr hx hb hdg rfl (by rw [show ((mI x).toUInt32 >>> ((mI y).toUInt32 &&& Int32.toUInt32 31)).toInt32 = mI (mUsh x y) from (mI_self _).symm]; exact k)
theorem mw_ldcw (hx : p.tables.exec = Jvm.exec) (hb : c.code = cc) {own : String} {index : Nat} {v : Int32} (z : Int) (h : v = mI z) (hown : s.vm.findClass own = some m.cls) (hconst : (Jvm.Cond.constant own index v).before args s = true) (hdg : decode cc pc = .ok (.ldc_w index, 3)) (k : W p l e R s m args below meth c H locs cells slots Q (F0 m (pc + 3) ls (.int (mI z) :: rest))) : W p l e R s m args below meth c H locs cells slots Q (F0 m pc ls rest) := lv_ldcw hx hb hown hconst hdg (by rw [← h] at k; exact k)
theorem mw_namei {x : Int} (k : ∀ y : Int, y = x → W p l e R s m args below meth c H locs cells slots Q (F0 m pc ls (.int (mI y) :: rest))) : W p l e R s m args below meth c H locs cells slots Q (F0 m pc ls (.int (mI x) :: rest)) := k x rfl
theorem mw_namel {x : Int} (k : ∀ y : Int, y = x → W p l e R s m args below meth c H locs cells slots Q (F0 m pc ls (.long (mL y) :: rest))) : W p l e R s m args below meth c H locs cells slots Q (F0 m pc ls (.long (mL x) :: rest)) := k x rfl
theorem mw_split {b : Prop} [Decidable b] (kt : b → W p l e R s m args below meth c H locs cells slots Q (F0 m pc ls (.int (mI 1) :: rest))) (kf : ¬ b → W p l e R s m args below meth c H locs cells slots Q (F0 m pc ls (.int (mI 0) :: rest))) : W p l e R s m args below meth c H locs cells slots Q (F0 m pc ls (.int (mI (mB b)) :: rest)) := by
  by_cases h : b
  · rw [mB_t h]; exact kt h
  · rw [mB_f h]; exact kf h
/-- a loop: its state x, an invariant, a measure that falls -/
theorem mw_loop {T : Type} {nL : Nat} (I : T → Prop) (μ : T → Nat) (head : Nat) (lv : T → List (Nat × Value)) (step : ∀ x, I x → (∀ y, I y → μ y < μ x → ∀ ls, lv_has ls nL (lv y) → W p l e R s m args below meth c H locs cells slots Q (F0 m head ls [])) → ∀ ls, lv_has ls nL (lv x) → W p l e R s m args below meth c H locs cells slots Q (F0 m head ls [])) (x0 : T) (h0 : I x0) (ls : Array Slot) (hl : lv_has ls nL (lv x0)) : W p l e R s m args below meth c H locs cells slots Q (F0 m head ls []) := by
  have key : ∀ (n : Nat) (x : T), μ x < n → I x → ∀ ls, lv_has ls nL (lv x) → W p l e R s m args below meth c H locs cells slots Q (F0 m head ls []) := by
    intro n
    induction n with
    | zero => intro x h; exact absurd h (Nat.not_lt_zero _)
    | succ n ih => intro x hx hI ls hl; exact step x hI (fun y hy hlt ls hl => ih y (by omega) hy ls hl) ls hl
  exact key (μ x0 + 1) x0 (Nat.lt_succ_self _) h0 ls hl
/-- .. that writes: with it goes what holds of the heap -/
theorem mw_loopM {T : Type} {nL : Nat} (I : T → Prop) (μ : T → Nat) (head : Nat) (lv : T → List (Nat × Value)) (Pw : T → Heap → List Loc → Prop) (step : ∀ x, I x → (∀ y, I y → μ y < μ x → ∀ H locs, Pw y H locs → ∀ ls, lv_has ls nL (lv y) → W p l e R s m args below meth c H locs cells slots Q (F0 m head ls [])) → ∀ H locs, Pw x H locs → ∀ ls, lv_has ls nL (lv x) → W p l e R s m args below meth c H locs cells slots Q (F0 m head ls [])) (x0 : T) (h0 : I x0) (hP0 : Pw x0 H locs) (ls : Array Slot) (hl : lv_has ls nL (lv x0)) : W p l e R s m args below meth c H locs cells slots Q (F0 m head ls []) := by
  have key : ∀ (n : Nat) (x : T), μ x < n → I x → ∀ H locs, Pw x H locs → ∀ ls, lv_has ls nL (lv x) → W p l e R s m args below meth c H locs cells slots Q (F0 m head ls []) := by
    intro n
    induction n with
    | zero => intro x h; exact absurd h (Nat.not_lt_zero _)
    | succ n ih => intro x hx hI H locs hP ls hl; exact step x hI (fun y hy hlt H locs hP ls hl => ih y (by omega) hy H locs hP ls hl) H locs hP ls hl
  exact key (μ x0 + 1) x0 (Nat.lt_succ_self _) h0 H locs hP0 ls hl
end MWB
/-! one bit -/
def mBit (z : Int) (k : Nat) : Int := (z % 4294967296) / 2 ^ k % 2
theorem mBit_r (z : Int) (k : Nat) : 0 ≤ mBit z k ∧ mBit z k ≤ 1 := by
  unfold mBit
  omega
theorem mBit_0 {z : Int} {k : Nat} (h : ¬ mBit z k = 1) : mBit z k = 0 := by
  have := mBit_r z k
  omega
theorem mI_toNat (z : Int) : ((mI z).toBitVec.toNat : Int) = z % 4294967296 := by
  have h : (mI z).toBitVec = BitVec.ofInt 32 z := rfl
  rw [h, BitVec.toNat_ofInt]
  have : (0 : Int) ≤ z % ((2 ^ 32 : Nat) : Int) := Int.emod_nonneg _ (by decide)
  have e : ((2 ^ 32 : Nat) : Int) = 4294967296 := by decide
  rw [e] at this ⊢
  omega
theorem nI_mI (n : Nat) : nI n = mI (n : Int) := (Int32.ofInt_eq_ofNat (n := n)).symm
theorem mI_31 (k : Nat) : k < 32 → ((mI (k : Int) &&& 31).toBitVec.smod 32).toNat = k := by
  have h : ∀ k : Nat, k < 32 → ((mI (k : Int) &&& 31).toBitVec.smod 32).toNat = k := by decide +kernel
  exact h k
theorem mI_31u (k : Nat) : k < 32 → (((mI (k : Int)).toUInt32 &&& Int32.toUInt32 31).toBitVec % 32).toNat = k := by
  have h : ∀ k : Nat, k < 32 → (((mI (k : Int)).toUInt32 &&& Int32.toUInt32 31).toBitVec % 32).toNat = k := by decide +kernel
  exact h k
theorem mAnd_1 (x : Int) : mAnd x 1 = x % 2 := by
  have h := pk_and (mI x) (m := mI 1) 1 (by decide +kernel)
  unfold mAnd
  rw [h, nI_mI]
  have e := mI_toNat x
  have e2 : (((mI x).toBitVec.toNat % 2 ^ 1 : Nat) : Int) = x % 2 := by
    have : ((2 ^ 1 : Nat) : Int) = 2 := by decide
    rw [Int.natCast_emod, e, this]
    omega
  rw [e2, mI_t (by omega)]
theorem mShr_e {z : Int} (hz : mRI z) (k : Nat) (hk : k < 32) : mShr z (k : Int) = z / 2 ^ k := by
  unfold mShr
  have e1 : ((2 : Int) ^ k) = ((2 ^ k : Nat) : Int) := by norm_cast
  rw [pk_shr (mI z) (mI (k : Int) &&& 31) k (mI_31 k hk), mI_t hz, Int.shiftRight_eq_div_pow, e1]
theorem mUsh_e (z : Int) (k : Nat) (hk : k < 32) : (mUsh z (k : Int)) % 4294967296 = (z % 4294967296) / 2 ^ k := by
  have h := pk_ushr (mI z) (mI (k : Int)) k (mI_31u k hk)
  have e := mI_toNat z
  have e1 := mI_toNat (mUsh z (k : Int))
  have e2 : mI (mUsh z (k : Int)) = ((mI z).toUInt32 >>> ((mI (k : Int)).toUInt32 &&& Int32.toUInt32 31)).toInt32 := mI_self _
  rw [e2, h] at e1
  have e3 : ((2 : Int) ^ k) = ((2 ^ k : Nat) : Int) := by norm_cast
  rw [← e1, Int.natCast_ediv, e, e3]
theorem m_pow (k : Nat) : (0 : Int) < 2 ^ k := Int.pow_pos (by omega)
theorem mBit_ush (z : Int) (k : Nat) (hk : k < 32) : mAnd (mUsh z (k : Int)) 1 = mBit z k := by
  rw [mAnd_1]
  have h := mUsh_e z k hk
  unfold mBit
  rw [← h]
  omega
theorem mBit_shr {z : Int} (hz : mRI z) (k : Nat) (hk : k < 32) : mAnd (mShr z (k : Int)) 1 = mBit z k := by
  rw [mAnd_1, mShr_e hz k hk]
  unfold mBit
  rcases (by omega : 0 ≤ z ∨ z < 0) with h | h
  · rw [Int.emod_eq_of_lt h (by have := hz.2; omega)]
  · have e : z % 4294967296 = z + 4294967296 := by have := hz.1; omega
    have e2 : (4294967296 : Int) = 2 ^ k * (2 * 2 ^ (31 - k)) := by
      have : (4294967296 : Int) = 2 ^ (k + ((31 - k) + 1)) := by
        have : k + ((31 - k) + 1) = 32 := by omega
        rw [this]; decide
      rw [this, Int.pow_add, Int.pow_succ, Int.mul_comm (2 ^ (31 - k)) 2]
    rw [e, e2, Int.add_mul_ediv_left _ _ (by have := m_pow k; omega)]
    omega
/-- how many bits below k are set -/
def mPop (z : Int) : Nat → Int
  | 0 => 0
  | k + 1 => mPop z k + mBit z k
theorem mPop_r (z : Int) : ∀ k : Nat, 0 ≤ mPop z k ∧ mPop z k ≤ k
  | 0 => by simp [mPop]
  | k + 1 => by
    have h := mPop_r z k
    have h2 := mBit_r z k
    unfold mPop
    omega
theorem mPop_mono (z : Int) (j : Nat) : ∀ n : Nat, mPop z j ≤ mPop z (j + n)
  | 0 => Int.le_refl _
  | n + 1 => by
    have h := mPop_mono z j n
    have h2 := mBit_r z (j + n)
    show mPop z j ≤ mPop z (j + n) + mBit z (j + n)
    omega
/-- a bit put in, above all that are there -/
theorem mShl_e (k : Nat) (hk : k < 31) : mShl 1 (k : Int) = 2 ^ k := by
  have h : ∀ k : Nat, k < 31 → mShl 1 (k : Int) = 2 ^ k := by decide +kernel
  exact h k hk
theorem mOr_e {a : Int} {k : Nat} (h0 : 0 ≤ a) (h : a < 2 ^ k) (hk : k < 16) : mOr a (2 ^ k) = a + 2 ^ k := by
  obtain ⟨n, rfl⟩ := Int.eq_ofNat_of_zero_le h0
  have hn : n < 2 ^ k := by exact_mod_cast h
  have h16 : 2 ^ k < 2 ^ 16 := Nat.pow_lt_pow_right (by decide) hk
  have e : mI (n : Int) ||| mI ((2 : Int) ^ k) = mI ((n : Int) + 2 ^ k) := by
    have e1 : ((2 : Int) ^ k) = ((2 ^ k : Nat) : Int) := by norm_cast
    rw [e1, ← nI_mI, ← nI_mI, ← Int.natCast_add, ← nI_mI]
    apply Int32.toBitVec_inj.1
    show BitVec.ofNat 32 n ||| BitVec.ofNat 32 (2 ^ k) = BitVec.ofNat 32 (n + 2 ^ k)
    have e3 : n + 2 ^ k = n ||| 2 ^ k := by
      have := Nat.two_pow_add_eq_or_of_lt hn 1
      rw [Nat.mul_one] at this
      rw [Nat.add_comm, this, Nat.or_comm]
    rw [e3]
    apply BitVec.eq_of_getLsbD_eq
    intro i hi
    simp [hi]
  unfold mOr
  rw [e, mI_t]
  have e1 : ((2 : Int) ^ k) = ((2 ^ k : Nat) : Int) := by norm_cast
  rw [e1]
  omega
theorem mOr_0 {a : Int} (h : mRI a) : mOr a 0 = a := by
  unfold mOr
  rw [mI_0]
  have : mI a ||| 0 = mI a := by simp
  rw [this, mI_t h]
end
section
/-! the first number below n with a property, or n -/
def mFst (p : Nat → Bool) : Nat → Nat
  | 0 => 0
  | n + 1 => if mFst p n < n then mFst p n else if p n then n else n + 1
theorem mFst_le (p : Nat → Bool) : ∀ n, mFst p n ≤ n
  | 0 => Nat.le_refl 0
  | n + 1 => by
    have ih := mFst_le p n
    unfold mFst
    split
    · omega
    · split <;> omega
theorem mFst_no (p : Nat → Bool) : ∀ n k, k < mFst p n → p k = false
  | 0, k, h => absurd h (Nat.not_lt_zero k)
  | n + 1, k, h => by
    have ih := mFst_no p n k
    have hle := mFst_le p n
    unfold mFst at h
    by_cases c : mFst p n < n
    · rw [if_pos c] at h; exact ih h
    · rw [if_neg c] at h
      by_cases c2 : p n = true
      · rw [if_pos c2] at h; exact ih (by omega)
      · rw [if_neg c2] at h
        rcases (by omega : k < n ∨ k = n) with q | q
        · exact ih (by omega)
        · rw [q]; exact Bool.eq_false_iff.mpr c2
theorem mFst_yes (p : Nat → Bool) : ∀ n, mFst p n < n → p (mFst p n) = true
  | 0, h => absurd h (Nat.not_lt_zero _)
  | n + 1, h => by
    have ih := mFst_yes p n
    unfold mFst at h ⊢
    by_cases c : mFst p n < n
    · rw [if_pos c]; exact ih c
    · rw [if_neg c] at h ⊢
      by_cases c2 : p n = true
      · rw [if_pos c2]; exact c2
      · rw [if_neg c2] at h; omega
theorem mFst_eq (p : Nat → Bool) {n k : Nat} (h1 : k ≤ n) (h2 : ∀ j, j < k → p j = false) (h3 : k < n → p k = true) : mFst p n = k := by
  have a := mFst_le p n
  rcases (by omega : mFst p n < k ∨ mFst p n = k ∨ k < mFst p n) with q | q | q
  · have h4 := h2 _ q
    rw [mFst_yes p n (by omega)] at h4
    cases h4
  · exact q
  · have h4 := mFst_no p n k q
    rw [h3 (by omega)] at h4
    cases h4
/-- after how many steps of st from d on a market of length L and place P is held -/
def mJ (L P st d : Int) : Nat := mFst (fun j => decide ((d + (j : Int) * st) % L = P)) L.toNat
/-- the least factor that makes st a multiple of L -/
def mFac (st L : Int) : Nat := mFst (fun f => decide ((st * ((f : Int) + 1)) % L = 0)) (L.toNat - 1) + 1
theorem m_mod_iff {x L P : Int} (hL : 0 < L) (h0 : 0 ≤ P) (h1 : P < L) : x % L = P ↔ L ∣ x - P := by
  constructor
  · intro h
    exact ⟨x / L, by have := Int.mul_ediv_add_emod x L; omega⟩
  · rintro ⟨q, hq⟩
    have : x = P + L * q := by omega
    rw [this, Int.add_mul_emod_self_left]
    exact Int.emod_eq_of_lt h0 h1
theorem m_fac {st L : Int} (hL : 1 ≤ L) : 1 ≤ mFac st L ∧ (mFac st L : Int) ≤ L ∧ L ∣ st * (mFac st L : Int) ∧ ∀ q : Int, L ∣ st * q → (mFac st L : Int) ∣ q := by
  have hle := mFst_le (fun f => decide ((st * ((f : Int) + 1)) % L = 0)) (L.toNat - 1)
  have hno := mFst_no (fun f => decide ((st * ((f : Int) + 1)) % L = 0)) (L.toNat - 1)
  have hyes := mFst_yes (fun f => decide ((st * ((f : Int) + 1)) % L = 0)) (L.toNat - 1)
  obtain ⟨g, hg⟩ : ∃ g, g = mFst (fun f => decide ((st * ((f : Int) + 1)) % L = 0)) (L.toNat - 1) := ⟨_, rfl⟩
  have ef : mFac st L = g + 1 := by rw [hg]; rfl
  rw [← hg] at hle hno hyes
  rw [ef]
  have e1 : ((g + 1 : Nat) : Int) = (g : Int) + 1 := by omega
  have hdvd : L ∣ st * ((g : Int) + 1) := by
    by_cases c : g < L.toNat - 1
    · exact Int.dvd_of_emod_eq_zero (of_decide_eq_true (hyes c))
    · have : (g : Int) + 1 = L := by omega
      rw [this]
      exact Int.dvd_mul_left _ _
  refine ⟨by omega, by omega, by rw [e1]; exact hdvd, fun q hq => ?_⟩
  rw [e1]
  have hr0 : 0 ≤ q % ((g : Int) + 1) := Int.emod_nonneg _ (by omega)
  have hr1 : q % ((g : Int) + 1) < (g : Int) + 1 := Int.emod_lt_of_pos _ (by omega)
  have hq2 := Int.mul_ediv_add_emod q ((g : Int) + 1)
  obtain ⟨r, hr⟩ : ∃ r : Int, r = q % ((g : Int) + 1) := ⟨_, rfl⟩
  rw [← hr] at hr0 hr1 hq2
  have hLr : L ∣ st * r := by
    have e : st * r = st * q - st * ((g : Int) + 1) * (q / ((g : Int) + 1)) := by
      rw [Int.mul_assoc, ← Int.mul_sub]
      congr 1
      omega
    rw [e]
    exact Int.dvd_sub hq (Int.dvd_mul_of_dvd_left hdvd)
  rcases (by omega : r = 0 ∨ 0 < r) with h | h
  · exact Int.dvd_of_emod_eq_zero (by rw [← hr]; exact h)
  · have h5 := hno (r - 1).toNat (by omega)
    have h6 : (((r - 1).toNat : Int) + 1) = r := by omega
    rw [h6] at h5
    exact absurd (Int.emod_eq_zero_of_dvd hLr) (of_decide_eq_false h5)
theorem m_j {st L P d : Int} (hs : 1 ≤ st) (hL : 1 ≤ L) (h0 : 0 ≤ P) (h1 : P < L) : ((mJ L P st d : Int) < L → (d + (mJ L P st d : Int) * st) % L = P ∧ mJ L P st d < mFac st L) ∧ (¬ (mJ L P st d : Int) < L → ∀ x : Int, st ∣ x - d → ¬ x % L = P) := by
  have hle := mFst_le (fun j => decide ((d + (j : Int) * st) % L = P)) L.toNat
  have hno := mFst_no (fun j => decide ((d + (j : Int) * st) % L = P)) L.toNat
  have hyes := mFst_yes (fun j => decide ((d + (j : Int) * st) % L = P)) L.toNat
  have ej : mJ L P st d = mFst (fun j => decide ((d + (j : Int) * st) % L = P)) L.toNat := rfl
  rw [← ej] at hle hno hyes
  obtain ⟨f1, f2, f3, f4⟩ := m_fac (st := st) hL
  constructor
  · intro hj
    have hy : (d + (mJ L P st d : Int) * st) % L = P := of_decide_eq_true (hyes (by omega))
    refine ⟨hy, ?_⟩
    rcases (by omega : mJ L P st d < mFac st L ∨ mFac st L ≤ mJ L P st d) with q | q
    · exact q
    · exfalso
      have h5 := of_decide_eq_false (hno (mJ L P st d - mFac st L) (by omega))
      apply h5
      rw [m_mod_iff (by omega) h0 h1] at hy ⊢
      have e : d + ((mJ L P st d - mFac st L : Nat) : Int) * st - P = (d + (mJ L P st d : Int) * st - P) - st * (mFac st L : Int) := by
        have e1 : ((mJ L P st d - mFac st L : Nat) : Int) = (mJ L P st d : Int) - (mFac st L : Int) := by omega
        rw [e1, Int.sub_mul, Int.mul_comm st]
        omega
      rw [e]
      exact Int.dvd_sub hy f3
  · intro hj x ⟨q, hq⟩ hx
    have hr0 : 0 ≤ q % L := Int.emod_nonneg _ (by omega)
    have hr1 : q % L < L := Int.emod_lt_of_pos _ (by omega)
    have hq2 := Int.mul_ediv_add_emod q L
    have h5 := of_decide_eq_false (hno (q % L).toNat (by omega))
    have h6 : (((q % L).toNat : Nat) : Int) = q % L := by omega
    rw [h6] at h5
    apply h5
    rw [m_mod_iff (by omega) h0 h1] at hx ⊢
    have e : d + q % L * st - P = (x - P) - L * (st * (q / L)) := by
      have e1 : st * q = q % L * st + L * (st * (q / L)) := by
        have : q = L * (q / L) + q % L := by omega
        conv => lhs; rw [this]
        rw [Int.mul_add, Int.mul_comm st (q % L), ← Int.mul_assoc st L, Int.mul_comm st L, Int.mul_assoc]
        omega
      omega
    rw [e]
    exact Int.dvd_sub hx (Int.dvd_mul_right _ _)
/-- from the markets below k that are in the set: a day on which all are held, from d0 on the first, and the step to the next; none if they never meet -/
def mFd (L P : Int → Int) (z d0 : Int) : Nat → Option (Int × Int)
  | 0 => some (d0, 1)
  | k + 1 => match mFd L P z d0 k with
    | none => none
    | some (d, st) => if mBit z k = 1 then (if (mJ (L (k : Int)) (P (k : Int)) st d : Int) < L (k : Int) then some (d + (mJ (L (k : Int)) (P (k : Int)) st d : Int) * st, st * (mFac st (L (k : Int)) : Int)) else none) else some (d, st)
/-- all of the set below k are held on x -/
def mAll (L P : Int → Int) (z : Int) (k : Nat) (x : Int) : Prop := ∀ i : Nat, i < k → mBit z i = 1 → x % L (i : Int) = P (i : Int)
theorem mAll_s {L P : Int → Int} {z : Int} {k : Nat} {x : Int} : mAll L P z (k + 1) x ↔ mAll L P z k x ∧ (mBit z k = 1 → x % L (k : Int) = P (k : Int)) := by
  constructor
  · intro h
    exact ⟨fun i hi => h i (by omega), fun hb => h k (by omega) hb⟩
  · intro h i hi hb
    rcases (by omega : i < k ∨ i = k) with q | q
    · exact h.1 i q hb
    · subst q; exact h.2 hb
def mLP (L P : Int → Int) (n : Int) : Prop := ∀ k : Int, 0 ≤ k → k < n → 1 ≤ L k ∧ L k ≤ 60 ∧ 0 ≤ P k ∧ P k < L k
def m60 : Nat → Int
  | 0 => 1
  | k + 1 => m60 k * 60
theorem m60_pos : ∀ k : Nat, 1 ≤ m60 k
  | 0 => by simp [m60]
  | k + 1 => by have := m60_pos k; unfold m60; omega
theorem m60_mono (j : Nat) : ∀ n : Nat, m60 j ≤ m60 (j + n)
  | 0 => Int.le_refl _
  | n + 1 => by
    have h := m60_mono j n
    have h2 := m60_pos (j + n)
    show m60 j ≤ m60 (j + n) * 60
    omega
theorem m_find {L P : Int → Int} {z d0 : Int} : ∀ k : Nat, mLP L P (k : Int) → (∀ d st, mFd L P z d0 k = some (d, st) → (1 ≤ st ∧ st ≤ m60 (mPop z k).toNat) ∧ (d0 ≤ d ∧ d < d0 + st) ∧ ∀ x, mAll L P z k x ↔ st ∣ x - d) ∧ (mFd L P z d0 k = none → ∀ x, ¬ mAll L P z k x)
  | 0, _ => by
    refine ⟨fun d st h => ?_, fun h => by cases h⟩
    cases h
    refine ⟨⟨by omega, m60_pos _⟩, ⟨by omega, by omega⟩, fun x => ⟨fun _ => Int.one_dvd _, fun _ i hi => absurd hi (Nat.not_lt_zero i)⟩⟩
  | k + 1, hLP => by
    have ih := m_find (L := L) (P := P) (z := z) (d0 := d0) k (fun i h1 h2 => hLP i h1 (by omega))
    obtain ⟨l1, l2, l3, l4⟩ := hLP (k : Int) (by omega) (by omega)
    cases hk : mFd L P z d0 k with
    | none =>
      have hn : mFd L P z d0 (k + 1) = none := by unfold mFd; rw [hk]
      refine ⟨fun d st h => (by rw [hn] at h; cases h), fun _ x hx => ih.2 hk x (mAll_s.mp hx).1⟩
    | some y =>
      obtain ⟨d, st⟩ := y
      obtain ⟨⟨s1, s2⟩, ⟨d1, d2⟩, hS⟩ := ih.1 d st hk
      have hp := mPop_r z k
      by_cases hb : mBit z k = 1
      · have hp2 : (mPop z (k + 1)).toNat = (mPop z k).toNat + 1 := by
          show (mPop z k + mBit z k).toNat = _
          omega
        have hj := m_j (st := st) (L := L (k : Int)) (P := P (k : Int)) (d := d) s1 l1 l3 l4
        obtain ⟨f1, f2, f3, f4⟩ := m_fac (st := st) l1
        by_cases hlt : (mJ (L (k : Int)) (P (k : Int)) st d : Int) < L (k : Int)
        · have he : mFd L P z d0 (k + 1) = some (d + (mJ (L (k : Int)) (P (k : Int)) st d : Int) * st, st * (mFac st (L (k : Int)) : Int)) := by
            unfold mFd; rw [hk]; simp only [hb, hlt, if_true]
          refine ⟨fun d' st' h => ?_, fun h => by rw [he] at h; cases h⟩
          rw [he] at h
          cases h
          obtain ⟨j1, j2⟩ := hj.1 hlt
          obtain ⟨j, ej⟩ : ∃ j : Int, j = (mJ (L (k : Int)) (P (k : Int)) st d : Int) := ⟨_, rfl⟩
          obtain ⟨f, ef⟩ : ∃ f : Int, f = (mFac st (L (k : Int)) : Int) := ⟨_, rfl⟩
          rw [← ej] at j1 ⊢
          rw [← ef] at f2 f3 f4 ⊢
          have j0 : 0 ≤ j := by omega
          have jf : j < f := by omega
          have f0 : 1 ≤ f := by omega
          have m1 : 1 * 1 ≤ st * f := Int.mul_le_mul s1 f0 (by omega) (by omega)
          have m2 : st * f ≤ m60 (mPop z k).toNat * 60 := Int.mul_le_mul s2 (by omega) (by omega) (by have := m60_pos (mPop z k).toNat; omega)
          have m3 : 0 ≤ j * st := Int.mul_nonneg j0 (by omega)
          have m4 : (j + 1) * st ≤ f * st := Int.mul_le_mul_of_nonneg_right (by omega) (by omega)
          rw [Int.add_mul, Int.one_mul, Int.mul_comm f st] at m4
          refine ⟨⟨by omega, by rw [hp2]; exact m2⟩, ⟨by omega, by omega⟩, fun x => ?_⟩
          rw [mAll_s, hS x]
          have key : ∀ q : Int, x - d = st * q → (x % L (k : Int) = P (k : Int) ↔ st * f ∣ x - (d + j * st)) := by
            intro q hq
            have e1 : x - (d + j * st) = st * (q - j) := by rw [Int.mul_sub, Int.mul_comm st j]; omega
            rw [m_mod_iff (by omega) l3 l4]
            rw [m_mod_iff (by omega) l3 l4] at j1
            constructor
            · intro h
              have h2 : L (k : Int) ∣ st * (q - j) := by
                have e2 : st * (q - j) = (x - P (k : Int)) - (d + j * st - P (k : Int)) := by omega
                rw [e2]
                exact Int.dvd_sub h j1
              rw [e1]
              exact Int.mul_dvd_mul_left st (f4 _ h2)
            · intro h
              have h2 : L (k : Int) ∣ x - (d + j * st) := Int.dvd_trans f3 h
              have e2 : x - P (k : Int) = (x - (d + j * st)) + (d + j * st - P (k : Int)) := by omega
              rw [e2]
              exact Int.dvd_add h2 j1
          constructor
          · rintro ⟨⟨q, hq⟩, h2⟩
            exact (key q hq).mp (h2 hb)
          · intro h
            have h2 : st ∣ x - d := by
              have e2 : x - d = (x - (d + j * st)) + st * j := by rw [Int.mul_comm st j]; omega
              rw [e2]
              exact Int.dvd_add (Int.dvd_trans (Int.dvd_mul_right _ _) h) (Int.dvd_mul_right _ _)
            obtain ⟨q, hq⟩ := h2
            exact ⟨⟨q, hq⟩, fun _ => (key q hq).mpr h⟩
        · have he : mFd L P z d0 (k + 1) = none := by
            unfold mFd; rw [hk]; simp only [hb, hlt, if_true, if_false]
          refine ⟨fun d' st' h => (by rw [he] at h; cases h), fun _ x hx => ?_⟩
          have h := mAll_s.mp hx
          exact hj.2 hlt x ((hS x).mp h.1) (h.2 hb)
      · have he : mFd L P z d0 (k + 1) = some (d, st) := by
          unfold mFd; rw [hk]; simp only [hb, if_false]
        have hp2 : (mPop z (k + 1)).toNat = (mPop z k).toNat := by
          show (mPop z k + mBit z k).toNat = _
          have := mBit_0 hb
          omega
        refine ⟨fun d' st' h => ?_, fun h => by rw [he] at h; cases h⟩
        rw [he] at h
        cases h
        refine ⟨⟨s1, by rw [hp2]; exact s2⟩, ⟨d1, d2⟩, fun x => ?_⟩
        rw [mAll_s, hS x]
        exact ⟨fun h => h.1, fun h => ⟨h, fun q => absurd q hb⟩⟩
/-- the step doesn't depend on the day -/
theorem m_same {L P : Int → Int} {z a b : Int} : ∀ (k : Nat) {d st d' st' : Int}, mFd L P z a k = some (d, st) → mFd L P z b k = some (d', st') → st = st'
  | 0, d, st, d', st', h1, h2 => by cases h1; cases h2; rfl
  | k + 1, d, st, d', st', h1, h2 => by
    unfold mFd at h1 h2
    cases e1 : mFd L P z a k with
    | none => rw [e1] at h1; cases h1
    | some y1 =>
      cases e2 : mFd L P z b k with
      | none => rw [e2] at h2; cases h2
      | some y2 =>
        obtain ⟨g1, g2⟩ := y1
        obtain ⟨g3, g4⟩ := y2
        have e := m_same k e1 e2
        subst e
        rw [e1] at h1
        rw [e2] at h2
        dsimp only at h1 h2
        by_cases hb : mBit z k = 1
        · rw [if_pos hb] at h1 h2
          split at h1
          · split at h2
            · cases h1; cases h2; rfl
            · cases h2
          · cases h1
        · rw [if_neg hb] at h1 h2
          cases h1; cases h2; rfl
theorem m_meet {L P : Int → Int} {z a b : Int} {n : Nat} (hLP : mLP L P (n : Int)) : (mFd L P z a n).isSome = (mFd L P z b n).isSome := by
  have h1 := m_find (L := L) (P := P) (z := z) (d0 := a) n hLP
  have h2 := m_find (L := L) (P := P) (z := z) (d0 := b) n hLP
  cases e1 : mFd L P z a n with
  | none =>
    cases e2 : mFd L P z b n with
    | none => rfl
    | some y =>
      exfalso
      exact h1.2 e1 y.1 (((h2.1 y.1 y.2 e2).2.2 y.1).mpr ⟨0, by omega⟩)
  | some y =>
    cases e2 : mFd L P z b n with
    | some y2 => rfl
    | none =>
      exfalso
      exact h2.2 e2 y.1 (((h1.1 y.1 y.2 e1).2.2 y.1).mpr ⟨0, by omega⟩)
/-- the first day from b on, out of the first day from a on -/
theorem m_first {L P : Int → Int} {z a b d st d' st' : Int} {n : Nat} (hLP : mLP L P (n : Int)) (h1 : mFd L P z a n = some (d, st)) (h2 : mFd L P z b n = some (d', st')) : st' = st ∧ d' = b + (d - b) % st := by
  have e := m_same n h1 h2
  subst e
  refine ⟨rfl, ?_⟩
  obtain ⟨⟨a1, -⟩, -, a3⟩ := (m_find (L := L) (P := P) (z := z) (d0 := a) n hLP).1 d st h1
  obtain ⟨-, ⟨b1, b2⟩, b3⟩ := (m_find (L := L) (P := P) (z := z) (d0 := b) n hLP).1 d' st h2
  have h : st ∣ d' - d := (a3 d').mp ((b3 d').mpr ⟨0, by omega⟩)
  have h5 : st ∣ (d - b) - (d' - b) := by
    obtain ⟨q, hq⟩ := h
    exact ⟨-q, by rw [Int.mul_neg]; omega⟩
  have h6 := (m_mod_iff (x := d - b) (L := st) (P := d' - b) (by omega) (by omega) (by omega)).mpr h5
  omega
end
section
/-! the bits of an int, counted as the JDK counts them -/
def mPn (N : Nat) : Nat → Nat
  | 0 => 0
  | k + 1 => mPn N k + N / 2 ^ k % 2
theorem mPn_8 (M b : Nat) (h : b < 256) : mPn (256 * M + b) 8 = mPn b 8 := by
  simp only [mPn]
  omega
theorem mPn_split (M b : Nat) (h : b < 256) : ∀ n : Nat, mPn (256 * M + b) (8 + n) = mPn b 8 + mPn M n
  | 0 => mPn_8 M b h
  | n + 1 => by
    have ih := mPn_split M b h n
    show mPn (256 * M + b) (8 + n) + (256 * M + b) / 2 ^ (8 + n) % 2 = mPn b 8 + (mPn M n + M / 2 ^ n % 2)
    rw [ih, Nat.pow_add, ← Nat.div_div_eq_div_mul]
    have e : (256 * M + b) / 2 ^ 8 = M := by omega
    rw [e]
    omega
theorem m_and8 (u w m n : Nat) (hw : w < 256) (hn : n < 256) : (256 * u + w) &&& (256 * m + n) = 256 * (u &&& m) + (w &&& n) := by
  have h1 : w &&& n < 2 ^ 8 := Nat.and_lt_two_pow w hn
  apply Nat.eq_of_testBit_eq
  intro i
  have e1 := Nat.testBit_two_pow_mul_add u (i := 8) (b := w) hw i
  have e2 := Nat.testBit_two_pow_mul_add m (i := 8) (b := n) hn i
  have e3 := Nat.testBit_two_pow_mul_add (u &&& m) (i := 8) (b := w &&& n) h1 i
  have p8 : (2 : Nat) ^ 8 = 256 := by decide
  rw [p8] at e1 e2 e3
  rw [Nat.testBit_and, e1, e2, e3]
  split
  · rw [Nat.testBit_and]
  · rw [Nat.testBit_and]
theorem m_and32 (b0 b1 b2 b3 m : Nat) (h0 : b0 < 256) (h1 : b1 < 256) (h2 : b2 < 256) (hm : m < 256) : (256 * (256 * (256 * b3 + b2) + b1) + b0) &&& (256 * (256 * (256 * m + m) + m) + m) = 256 * (256 * (256 * (b3 &&& m) + (b2 &&& m)) + (b1 &&& m)) + (b0 &&& m) := by
  rw [m_and8 _ _ _ _ h0 hm, m_and8 _ _ _ _ h1 hm, m_and8 _ _ _ _ h2 hm]
def mG1 (b : Nat) : Nat := b - ((b / 2) &&& 85)
def mG2 (a : Nat) : Nat := (a &&& 51) + ((a / 4) &&& 51)
theorem m_b1 : ∀ t, t < 2 → ∀ b, b < 256 → (128 * t + b / 2) &&& 85 = (b / 2) &&& 85 := by decide +kernel
theorem m_b1le : ∀ b, b < 256 → (b / 2) &&& 85 ≤ b := by decide +kernel
theorem m_b2 : ∀ t, t < 4 → ∀ a, a < 256 → (64 * t + a / 4) &&& 51 = (a / 4) &&& 51 := by decide +kernel
theorem m_b2le : ∀ a, a < 256 → mG2 a ≤ 102 := by decide +kernel
theorem m_b3 : ∀ b, b < 256 → mG2 (mG1 b) % 16 ≤ 4 ∧ mG2 (mG1 b) / 16 ≤ 4 := by decide +kernel
theorem m_b4 : ∀ t, t < 5 → ∀ b, b < 256 → (mG2 (mG1 b) + 16 * t + mG2 (mG1 b) / 16) &&& 15 = mPn b 8 := by decide +kernel
theorem m_b5 : ∀ b, b < 256 → mPn b 8 ≤ 8 := by decide +kernel
def mNt (x : Int) : Nat := (mI x).toBitVec.toNat
theorem mNt_z (x : Int) : (mNt x : Int) = x % 4294967296 := mI_toNat x
theorem mNt_lt (x : Int) : mNt x < 4294967296 := (mI x).toBitVec.isLt
theorem mNt_and (x y : Int) : mNt (mAnd x y) = mNt x &&& mNt y := by
  unfold mNt mAnd
  rw [mI_self]
  rfl
theorem mNt_ush (x : Int) (k : Nat) (hk : k < 32) : mNt (mUsh x (k : Int)) = mNt x / 2 ^ k := by
  unfold mNt
  have e2 : mI (mUsh x (k : Int)) = ((mI x).toUInt32 >>> ((mI (k : Int)).toUInt32 &&& Int32.toUInt32 31)).toInt32 := mI_self _
  rw [e2]
  exact pk_ushr (mI x) (mI (k : Int)) k (mI_31u k hk)
theorem mNt_add (x y : Int) : mNt (x + y) = (mNt x + mNt y) % 4294967296 := by
  have h1 := mNt_z x
  have h2 := mNt_z y
  have h3 := mNt_z (x + y)
  omega
theorem mNt_sub (x y : Int) : mNt (x - y) = (mNt x + 4294967296 - mNt y) % 4294967296 := by
  have h1 := mNt_z x
  have h2 := mNt_z y
  have h3 := mNt_z (x - y)
  have h4 := mNt_lt y
  omega
theorem mPop_n (z : Int) : ∀ k : Nat, mPop z k = (mPn (mNt z) k : Int)
  | 0 => rfl
  | k + 1 => by
    have ih := mPop_n z k
    show mPop z k + mBit z k = ((mPn (mNt z) k + mNt z / 2 ^ k % 2 : Nat) : Int)
    rw [ih]
    unfold mBit
    rw [← mNt_z]
    have e : ((mNt z / 2 ^ k % 2 : Nat) : Int) = (mNt z : Int) / 2 ^ k % 2 := by
      rw [Int.natCast_emod, Int.natCast_ediv]
      norm_cast
    rw [Int.natCast_add, e]
theorem m_last (a b c d : Nat) (ha : a ≤ 8) (hb : b ≤ 8) (hc : c ≤ 8) (hd : d ≤ 8) (y y1 y2 : Nat) (hy : y = 256 * (256 * (256 * d + c) + b) + a) (h1 : y1 = y + y / 256) (h2 : y2 = y1 + y1 / 65536) : y2 % 64 = a + b + c + d := by
  have e1 : y / 256 = 256 * (256 * d + c) + b := by omega
  have e2 : y1 = 65536 * (256 * d + (c + d)) + (256 * (b + c) + (a + b)) := by omega
  have e3 : y1 / 65536 = 256 * d + (c + d) := by omega
  have e4 : y2 = 64 * (1024 * (256 * d + (c + d)) + 4 * (b + c) + 4 * d) + (a + b + c + d) := by omega
  omega
theorem m_bitCount {z x1 x2 x3 x4 x5 : Int} (e1 : x1 = z - mAnd (mUsh z 1) 1431655765) (e2 : x2 = mAnd x1 858993459 + mAnd (mUsh x1 2) 858993459) (e3 : x3 = mAnd (x2 + mUsh x2 4) 252645135) (e4 : x4 = x3 + mUsh x3 8) (e5 : x5 = x4 + mUsh x4 16) : mAnd x5 63 = mPop z 32 := by
  have hN := mNt_lt z
  obtain ⟨N, eN⟩ : ∃ N, N = mNt z := ⟨_, rfl⟩
  rw [← eN] at hN
  obtain ⟨b0, hb0⟩ : ∃ b, b = N % 256 := ⟨_, rfl⟩
  obtain ⟨b1, hb1⟩ : ∃ b, b = N / 256 % 256 := ⟨_, rfl⟩
  obtain ⟨b2, hb2⟩ : ∃ b, b = N / 65536 % 256 := ⟨_, rfl⟩
  obtain ⟨b3, hb3⟩ : ∃ b, b = N / 16777216 := ⟨_, rfl⟩
  have l0 : b0 < 256 := by omega
  have l1 : b1 < 256 := by omega
  have l2 : b2 < 256 := by omega
  have l3 : b3 < 256 := by omega
  have eb : N = 256 * (256 * (256 * b3 + b2) + b1) + b0 := by omega
  clear hb0 hb1 hb2 hb3
  -- step 1
  have c1 : mNt (mAnd (mUsh z 1) 1431655765) = 256 * (256 * (256 * ((b3 / 2) &&& 85) + ((b2 / 2) &&& 85)) + ((b1 / 2) &&& 85)) + ((b0 / 2) &&& 85) := by
    rw [mNt_and, show (1 : Int) = ((1 : Nat) : Int) from rfl, mNt_ush z 1 (by decide), ← eN]
    have em : mNt 1431655765 = 256 * (256 * (256 * 85 + 85) + 85) + 85 := by decide +kernel
    have ed : N / 2 ^ 1 = 256 * (256 * (256 * (b3 / 2) + (128 * (b3 % 2) + b2 / 2)) + (128 * (b2 % 2) + b1 / 2)) + (128 * (b1 % 2) + b0 / 2) := by omega
    rw [em, ed, m_and32 _ _ _ _ _ (by omega) (by omega) (by omega) (by omega), m_b1 _ (by omega) _ l2, m_b1 _ (by omega) _ l1, m_b1 _ (by omega) _ l0]
  have x1e : mNt x1 = 256 * (256 * (256 * mG1 b3 + mG1 b2) + mG1 b1) + mG1 b0 := by
    rw [e1, mNt_sub, c1, ← eN]
    have q0 := m_b1le b0 l0
    have q1 := m_b1le b1 l1
    have q2 := m_b1le b2 l2
    have q3 := m_b1le b3 l3
    unfold mG1
    omega
  have g0 : mG1 b0 < 256 := by unfold mG1; omega
  have g1 : mG1 b1 < 256 := by unfold mG1; omega
  have g2 : mG1 b2 < 256 := by unfold mG1; omega
  have g3 : mG1 b3 < 256 := by unfold mG1; omega
  have em2 : mNt 858993459 = 256 * (256 * (256 * 51 + 51) + 51) + 51 := by decide +kernel
  have x2e : mNt x2 = 256 * (256 * (256 * mG2 (mG1 b3) + mG2 (mG1 b2)) + mG2 (mG1 b1)) + mG2 (mG1 b0) := by
    rw [e2, mNt_add, mNt_and, mNt_and, show (2 : Int) = ((2 : Nat) : Int) from rfl, mNt_ush x1 2 (by decide), em2, x1e]
    have ed : (256 * (256 * (256 * mG1 b3 + mG1 b2) + mG1 b1) + mG1 b0) / 2 ^ 2 = 256 * (256 * (256 * (mG1 b3 / 4) + (64 * (mG1 b3 % 4) + mG1 b2 / 4)) + (64 * (mG1 b2 % 4) + mG1 b1 / 4)) + (64 * (mG1 b1 % 4) + mG1 b0 / 4) := by omega
    rw [ed, m_and32 _ _ _ _ _ g0 g1 g2 (by omega), m_and32 _ _ _ _ _ (by omega) (by omega) (by omega) (by omega), m_b2 _ (by omega) _ g2, m_b2 _ (by omega) _ g1, m_b2 _ (by omega) _ g0]
    have q0 := m_b2le _ g0
    have q1 := m_b2le _ g1
    have q2 := m_b2le _ g2
    have q3 := m_b2le _ g3
    unfold mG2 at q0 q1 q2 q3 ⊢
    omega
  have n0 := m_b3 b0 l0
  have n1 := m_b3 b1 l1
  have n2 := m_b3 b2 l2
  have n3 := m_b3 b3 l3
  obtain ⟨f0, hf0⟩ : ∃ f, f = mG2 (mG1 b0) := ⟨_, rfl⟩
  obtain ⟨f1, hf1⟩ : ∃ f, f = mG2 (mG1 b1) := ⟨_, rfl⟩
  obtain ⟨f2, hf2⟩ : ∃ f, f = mG2 (mG1 b2) := ⟨_, rfl⟩
  obtain ⟨f3, hf3⟩ : ∃ f, f = mG2 (mG1 b3) := ⟨_, rfl⟩
  have k0 : ∀ t, t < 5 → (f0 + 16 * t + f0 / 16) &&& 15 = mPn b0 8 := fun t ht => by rw [hf0]; exact m_b4 t ht b0 l0
  have k1 : ∀ t, t < 5 → (f1 + 16 * t + f1 / 16) &&& 15 = mPn b1 8 := fun t ht => by rw [hf1]; exact m_b4 t ht b1 l1
  have k2 : ∀ t, t < 5 → (f2 + 16 * t + f2 / 16) &&& 15 = mPn b2 8 := fun t ht => by rw [hf2]; exact m_b4 t ht b2 l2
  have k3 : ∀ t, t < 5 → (f3 + 16 * t + f3 / 16) &&& 15 = mPn b3 8 := fun t ht => by rw [hf3]; exact m_b4 t ht b3 l3
  rw [← hf0] at n0
  rw [← hf1] at n1
  rw [← hf2] at n2
  rw [← hf3] at n3
  rw [← hf0, ← hf1, ← hf2, ← hf3] at x2e
  have x3e : mNt x3 = 256 * (256 * (256 * mPn b3 8 + mPn b2 8) + mPn b1 8) + mPn b0 8 := by
    have em3 : mNt 252645135 = 256 * (256 * (256 * 15 + 15) + 15) + 15 := by decide +kernel
    rw [e3, mNt_and, mNt_add, show (4 : Int) = ((4 : Nat) : Int) from rfl, mNt_ush x2 4 (by decide), em3, x2e]
    have ed : (256 * (256 * (256 * f3 + f2) + f1) + f0 + (256 * (256 * (256 * f3 + f2) + f1) + f0) / 2 ^ 4) % 4294967296 = 256 * (256 * (256 * (f3 + 16 * 0 + f3 / 16) + (f2 + 16 * (f3 % 16) + f2 / 16)) + (f1 + 16 * (f2 % 16) + f1 / 16)) + (f0 + 16 * (f1 % 16) + f0 / 16) := by omega
    rw [ed, m_and32 _ _ _ _ _ (by omega) (by omega) (by omega) (by omega), k3 0 (by omega), k2 _ (by omega), k1 _ (by omega), k0 _ (by omega)]
  have p0 := m_b5 b0 l0
  have p1 := m_b5 b1 l1
  have p2 := m_b5 b2 l2
  have p3 := m_b5 b3 l3
  have x4e : mNt x4 = mNt x3 + mNt x3 / 256 := by
    rw [e4, mNt_add, show (8 : Int) = ((8 : Nat) : Int) from rfl, mNt_ush x3 8 (by decide), x3e]
    omega
  have x5e : mNt x5 = mNt x4 + mNt x4 / 65536 := by
    rw [e5, mNt_add, show (16 : Int) = ((16 : Nat) : Int) from rfl, mNt_ush x4 16 (by decide), x4e, x3e]
    omega
  have r : mNt (mAnd x5 63) = mPn b0 8 + mPn b1 8 + mPn b2 8 + mPn b3 8 := by
    have em5 : mNt 63 = 2 ^ 6 - 1 := by decide +kernel
    rw [mNt_and, em5, Nat.and_two_pow_sub_one_eq_mod]
    exact m_last _ _ _ _ p0 p1 p2 p3 _ _ _ x3e x4e x5e
  have s : mPop z 32 = ((mPn b0 8 + mPn b1 8 + mPn b2 8 + mPn b3 8 : Nat) : Int) := by
    rw [mPop_n, ← eN, eb]
    have t1 := mPn_split (256 * (256 * b3 + b2) + b1) b0 l0 24
    have t2 := mPn_split (256 * b3 + b2) b1 l1 16
    have t3 := mPn_split b3 b2 l2 8
    rw [show (32 : Nat) = 8 + 24 from rfl, t1, show (24 : Nat) = 8 + 16 from rfl, t2, show (16 : Nat) = 8 + 8 from rfl, t3]
    omega
  have z1 := mNt_z (mAnd x5 63)
  have z2 := mAnd_r x5 63
  rw [r] at z1
  omega
end
section
set_option maxHeartbeats 4000000 in
set_option maxRecDepth 100000 in
theorem c_J9_floorDiv_f86c9 (l : Launch) (x y : Int) (h0 : 0 < y) (h1 : mR2 x) (h2 : mR2 y) : mP l yJ9_floorDiv_f86c9 wsJ9_floorDiv_f86c9 ({ frames := 0, cells := 0, slots := 0, locals := 0 }) [.long (mL (x)), .long (mL (y))] (fun _ => True) (some (.long (mL (x / y)))) := by
  refine mw_open (cc := cJ9_floorDiv_f86c9) (maxL := 6) (ret := (some .long)) (by decide +kernel) rfl (Nat.le_of_ble_eq_true rfl) ?_
  intro p e s m below meth c ls hC hr hlocks hB hl
  obtain ⟨hx, hb, hml, hown, hts⟩ := id hC
  have hl : lv_has ls 6 [(0, .long (mL (x))), (2, .long (mL (y)))] := hl
  have f1 := Int.mul_tdiv_add_tmod x y
  have f2 := m_tmod_r (a := x) h0
  have f3 := m_tdiv_r (a := x) h0
  have f4 := m_fdiv (a := x) h0
  have f5 := m_fmod (a := x) h0
  have f6 := mXor_ge (x := x) (y := y) (by omega) (by omega) h0
  have f7 : x.tdiv y * y = y * x.tdiv y := Int.mul_comm _ _
  have f8 := mXor_r x y
  have f9 := m_tmod_neg (a := x) h0
  refine lv_lload_n hx hb dJ9_floorDiv_f86c9_0 rfl (lv_at hl 0 rfl) ?_
  refine lv_lload_n hx hb dJ9_floorDiv_f86c9_1 rfl (lv_at hl 1 rfl) ?_
  refine mw_ldiv hx hb (by omega) (by omega) (by omega) dJ9_floorDiv_f86c9_2 ?_
  refine lv_lstore (lv' := [(4, .long (mL (x.tdiv y))), (0, .long (mL (x))), (2, .long (mL (y)))]) hx hb dJ9_floorDiv_f86c9_3 hl (by decide) rfl (fun ls hl => ?_)
  refine lv_lload_n hx hb dJ9_floorDiv_f86c9_5 rfl (lv_at hl 1 rfl) ?_
  refine lv_lload_n hx hb dJ9_floorDiv_f86c9_6 rfl (lv_at hl 2 rfl) ?_
  refine mw_lxor hx hb dJ9_floorDiv_f86c9_7 ?_
  refine mw_lconst hx hb 0 (by decide +kernel) dJ9_floorDiv_f86c9_8 ?_
  refine mw_lcmp_ge (tgt := 27) hx hb (by omega) (by omega) dJ9_floorDiv_f86c9_9 dJ9_floorDiv_f86c9_10 (by decide) (fun c_10 => ?_) (fun c_10 => ?_)
  · refine lv_lload hx hb dJ9_floorDiv_f86c9_27 (lv_at hl 0 rfl) ?_
    exact mw_retL hx hb hr hlocks dJ9_floorDiv_f86c9_29 (by rw [f4]; first | rw [if_pos ⟨by omega, by omega⟩] | rw [if_neg (by omega)])
  · refine lv_lload hx hb dJ9_floorDiv_f86c9_13 (lv_at hl 0 rfl) ?_
    refine lv_lload_n hx hb dJ9_floorDiv_f86c9_15 rfl (lv_at hl 2 rfl) ?_
    refine mw_lmul hx hb dJ9_floorDiv_f86c9_16 ?_
    refine lv_lload_n hx hb dJ9_floorDiv_f86c9_17 rfl (lv_at hl 1 rfl) ?_
    refine mw_lcmp_eq (tgt := 27) hx hb (by omega) (by omega) dJ9_floorDiv_f86c9_18 dJ9_floorDiv_f86c9_19 (by decide) (fun c_19 => ?_) (fun c_19 => ?_)
    · refine lv_lload hx hb dJ9_floorDiv_f86c9_27 (lv_at hl 0 rfl) ?_
      exact mw_retL hx hb hr hlocks dJ9_floorDiv_f86c9_29 (by rw [f4]; first | rw [if_pos ⟨by omega, by omega⟩] | rw [if_neg (by omega)])
    · refine lv_lload hx hb dJ9_floorDiv_f86c9_22 (lv_at hl 0 rfl) ?_
      refine mw_lconst hx hb 1 (by decide +kernel) dJ9_floorDiv_f86c9_24 ?_
      refine mw_lsub hx hb dJ9_floorDiv_f86c9_25 ?_
      exact mw_retL hx hb hr hlocks dJ9_floorDiv_f86c9_26 (by rw [f4]; first | rw [if_pos ⟨by omega, by omega⟩] | rw [if_neg (by omega)])

set_option maxHeartbeats 4000000 in
set_option maxRecDepth 100000 in
theorem c_J9_floorMod_f86c9 (l : Launch) (x y : Int) (h0 : 0 < y) (h1 : mR2 x) (h2 : mR2 y) : mP l yJ9_floorMod_f86c9 wsJ9_floorMod_f86c9 ({ frames := 0, cells := 0, slots := 0, locals := 0 }) [.long (mL (x)), .long (mL (y))] (fun _ => True) (some (.long (mL (x % y)))) := by
  refine mw_open (cc := cJ9_floorMod_f86c9) (maxL := 6) (ret := (some .long)) (by decide +kernel) rfl (Nat.le_of_ble_eq_true rfl) ?_
  intro p e s m below meth c ls hC hr hlocks hB hl
  obtain ⟨hx, hb, hml, hown, hts⟩ := id hC
  have hl : lv_has ls 6 [(0, .long (mL (x))), (2, .long (mL (y)))] := hl
  have f1 := Int.mul_tdiv_add_tmod x y
  have f2 := m_tmod_r (a := x) h0
  have f3 := m_tdiv_r (a := x) h0
  have f4 := m_fdiv (a := x) h0
  have f5 := m_fmod (a := x) h0
  have f6 := mXor_ge (x := x) (y := y) (by omega) (by omega) h0
  have f7 : x.tdiv y * y = y * x.tdiv y := Int.mul_comm _ _
  have f8 := mXor_r x y
  have f9 := m_tmod_neg (a := x) h0
  refine lv_lload_n hx hb dJ9_floorMod_f86c9_0 rfl (lv_at hl 0 rfl) ?_
  refine lv_lload_n hx hb dJ9_floorMod_f86c9_1 rfl (lv_at hl 1 rfl) ?_
  refine mw_lrem hx hb (by omega) (by omega) (by omega) dJ9_floorMod_f86c9_2 ?_
  refine lv_lstore (lv' := [(4, .long (mL (x.tmod y))), (0, .long (mL (x))), (2, .long (mL (y)))]) hx hb dJ9_floorMod_f86c9_3 hl (by decide) rfl (fun ls hl => ?_)
  refine lv_lload_n hx hb dJ9_floorMod_f86c9_5 rfl (lv_at hl 1 rfl) ?_
  refine lv_lload_n hx hb dJ9_floorMod_f86c9_6 rfl (lv_at hl 2 rfl) ?_
  refine mw_lxor hx hb dJ9_floorMod_f86c9_7 ?_
  refine mw_lconst hx hb 0 (by decide +kernel) dJ9_floorMod_f86c9_8 ?_
  refine mw_lcmp_ge (tgt := 25) hx hb (by omega) (by omega) dJ9_floorMod_f86c9_9 dJ9_floorMod_f86c9_10 (by decide) (fun c_10 => ?_) (fun c_10 => ?_)
  · refine lv_lload hx hb dJ9_floorMod_f86c9_25 (lv_at hl 0 rfl) ?_
    exact mw_retL hx hb hr hlocks dJ9_floorMod_f86c9_27 (by rw [f5]; first | rw [if_pos ⟨by omega, by omega⟩] | rw [if_neg (by omega)])
  · refine lv_lload hx hb dJ9_floorMod_f86c9_13 (lv_at hl 0 rfl) ?_
    refine mw_lconst hx hb 0 (by decide +kernel) dJ9_floorMod_f86c9_15 ?_
    refine mw_lcmp_eq (tgt := 25) hx hb (by omega) (by omega) dJ9_floorMod_f86c9_16 dJ9_floorMod_f86c9_17 (by decide) (fun c_17 => ?_) (fun c_17 => ?_)
    · refine lv_lload hx hb dJ9_floorMod_f86c9_25 (lv_at hl 0 rfl) ?_
      exact mw_retL hx hb hr hlocks dJ9_floorMod_f86c9_27 (by rw [f5]; first | rw [if_pos ⟨by omega, by omega⟩] | rw [if_neg (by omega)])
    · refine lv_lload hx hb dJ9_floorMod_f86c9_20 (lv_at hl 0 rfl) ?_
      refine lv_lload_n hx hb dJ9_floorMod_f86c9_22 rfl (lv_at hl 2 rfl) ?_
      refine mw_ladd hx hb dJ9_floorMod_f86c9_23 ?_
      exact mw_retL hx hb hr hlocks dJ9_floorMod_f86c9_24 (by rw [f5]; first | rw [if_pos ⟨by omega, by omega⟩] | rw [if_neg (by omega)])

set_option maxHeartbeats 4000000 in
set_option maxRecDepth 100000 in
theorem c_X0_divide (l : Launch) (x y : Int) (h0 : 0 < y) (h1 : mR2 x) (h2 : mR2 y) : mP l yX0_divide wsX0_divide ({ frames := 1, cells := 0, slots := 0, locals := 25 }) [.long (mL (x)), .long (mL (y))] (fun _ => True) (some (.long (mL (x / y)))) := by
  refine mw_open (cc := cX0_divide) (maxL := 4) (ret := (some .long)) (by decide +kernel) rfl (Nat.le_of_ble_eq_true rfl) ?_
  intro p e s m below meth c ls hC hr hlocks hB hl
  obtain ⟨hx, hb, hml, hown, hts⟩ := id hC
  have hl : lv_has ls 4 [(0, .long (mL (x))), (2, .long (mL (y)))] := hl
  refine lv_lload_n hx hb dX0_divide_0 rfl (lv_at hl 1 rfl) ?_
  refine mw_lconst hx hb 0 (by decide +kernel) dX0_divide_1 ?_
  refine mw_lcmp_le (tgt := 14) hx hb (by omega) (by omega) dX0_divide_2 dX0_divide_3 (by decide) (fun c_3 => absurd c_3 (by omega)) (fun c_3 => ?_)
  refine lv_lload_n hx hb dX0_divide_6 rfl (lv_at hl 0 rfl) ?_
  refine lv_lload_n hx hb dX0_divide_7 rfl (lv_at hl 1 rfl) ?_
  refine mw_cSl (rest := []) hC (c_J9_floorDiv_f86c9 l x y (by omega) (by omega) (by omega)) (va_cwS 2 hts gX0_divide_J9_floorDiv_f86c9 rfl rfl rfl (by decide +kernel) ⟨Nat.le_of_ble_eq_true rfl, Nat.le_of_ble_eq_true rfl⟩) rfl hl.1 rfl (Nat.le_of_ble_eq_true rfl) ⟨Nat.zero_le _, Nat.zero_le _⟩ dX0_divide_8 ?_
  refine lv_goto (tgt := 15) hx hb dX0_divide_11 (by decide) ?_
  exact mw_retL hx hb hr hlocks dX0_divide_15 (by first | rfl | exact (mB_t (by omega)).symm | exact (mB_f (by omega)).symm | exact mB_iff (by omega) | omega)

set_option maxHeartbeats 4000000 in
set_option maxRecDepth 100000 in
theorem c_X0_modulo (l : Launch) (x y : Int) (h0 : 0 < y) (h1 : mR2 x) (h2 : mR2 y) : mP l yX0_modulo wsX0_modulo ({ frames := 1, cells := 0, slots := 0, locals := 25 }) [.long (mL (x)), .long (mL (y))] (fun _ => True) (some (.long (mL (x % y)))) := by
  refine mw_open (cc := cX0_modulo) (maxL := 4) (ret := (some .long)) (by decide +kernel) rfl (Nat.le_of_ble_eq_true rfl) ?_
  intro p e s m below meth c ls hC hr hlocks hB hl
  obtain ⟨hx, hb, hml, hown, hts⟩ := id hC
  have hl : lv_has ls 4 [(0, .long (mL (x))), (2, .long (mL (y)))] := hl
  refine lv_lload_n hx hb dX0_modulo_0 rfl (lv_at hl 1 rfl) ?_
  refine mw_lconst hx hb 0 (by decide +kernel) dX0_modulo_1 ?_
  refine mw_lcmp_le (tgt := 14) hx hb (by omega) (by omega) dX0_modulo_2 dX0_modulo_3 (by decide) (fun c_3 => absurd c_3 (by omega)) (fun c_3 => ?_)
  refine lv_lload_n hx hb dX0_modulo_6 rfl (lv_at hl 0 rfl) ?_
  refine lv_lload_n hx hb dX0_modulo_7 rfl (lv_at hl 1 rfl) ?_
  refine mw_cSl (rest := []) hC (c_J9_floorMod_f86c9 l x y (by omega) (by omega) (by omega)) (va_cwS 2 hts gX0_modulo_J9_floorMod_f86c9 rfl rfl rfl (by decide +kernel) ⟨Nat.le_of_ble_eq_true rfl, Nat.le_of_ble_eq_true rfl⟩) rfl hl.1 rfl (Nat.le_of_ble_eq_true rfl) ⟨Nat.zero_le _, Nat.zero_le _⟩ dX0_modulo_8 ?_
  refine lv_goto (tgt := 15) hx hb dX0_modulo_11 (by decide) ?_
  exact mw_retL hx hb hr hlocks dX0_modulo_15 (by first | rfl | exact (mB_t (by omega)).symm | exact (mB_f (by omega)).symm | exact mB_iff (by omega) | omega)

set_option maxHeartbeats 4000000 in
set_option maxRecDepth 100000 in
theorem c_X0_isWithin (l : Launch) (a b c9 : Int) (h1 : mRI a) (h2 : mRI b) (h3 : mRI c9) : mP l yX0_isWithin wsX0_isWithin ({ frames := 0, cells := 0, slots := 0, locals := 0 }) [.int (mI (a)), .int (mI (b)), .int (mI (c9))] (fun _ => True) (some (.int (mI (mB (b ≤ a ∧ a ≤ c9))))) := by
  refine mw_open (cc := cX0_isWithin) (maxL := 3) (ret := (some .boolean)) (by decide +kernel) rfl (Nat.le_of_ble_eq_true rfl) ?_
  intro p e s m below meth c ls hC hr hlocks hB hl
  obtain ⟨hx, hb, hml, hown, hts⟩ := id hC
  have hl : lv_has ls 3 [(0, .int (mI (a))), (1, .int (mI (b))), (2, .int (mI (c9)))] := hl
  refine lv_iload_n hx hb dX0_isWithin_0 rfl (lv_at hl 0 rfl) ?_
  refine lv_iload_n hx hb dX0_isWithin_1 rfl (lv_at hl 1 rfl) ?_
  refine mw_icmp_lt (tgt := 14) hx hb (by omega) (by omega) dX0_isWithin_2 (by decide) (fun c_2 => ?_) (fun c_2 => ?_)
  · refine mw_iconst hx hb dX0_isWithin_14 ?_
    exact mw_retZ hx hb hr hlocks dX0_isWithin_15 (by first | rfl | exact (mB_t (by omega)).symm | exact (mB_f (by omega)).symm | exact mB_iff (by omega) | omega)
  · refine lv_iload_n hx hb dX0_isWithin_5 rfl (lv_at hl 0 rfl) ?_
    refine lv_iload_n hx hb dX0_isWithin_6 rfl (lv_at hl 2 rfl) ?_
    refine mw_icmp_gt (tgt := 14) hx hb (by omega) (by omega) dX0_isWithin_7 (by decide) (fun c_7 => ?_) (fun c_7 => ?_)
    · refine mw_iconst hx hb dX0_isWithin_14 ?_
      exact mw_retZ hx hb hr hlocks dX0_isWithin_15 (by first | rfl | exact (mB_t (by omega)).symm | exact (mB_f (by omega)).symm | exact mB_iff (by omega) | omega)
    · refine mw_iconst hx hb dX0_isWithin_10 ?_
      refine lv_goto (tgt := 15) hx hb dX0_isWithin_11 (by decide) ?_
      exact mw_retZ hx hb hr hlocks dX0_isWithin_15 (by first | rfl | exact (mB_t (by omega)).symm | exact (mB_f (by omega)).symm | exact mB_iff (by omega) | omega)

set_option maxHeartbeats 4000000 in
set_option maxRecDepth 100000 in
theorem c_X0_isPlace (l : Launch) (D : va_G) (h0 a1 a2 : Nat) (cA cJ : ClassId) (v : Nat → Int) (L P : Int → Int) (m9 : Int) (h1 : mRI m9) : mP l yX0_isPlace wsX0_isPlace ({ frames := 0, cells := 0, slots := 0, locals := 0 }) [.ref h0, .int (mI (m9))] (mwB D (mXW h0 a1 a2 cA v L P) (mTy cA cJ)) (some (.int (mI (mB (0 ≤ m9 ∧ m9 < 16))))) := by
  refine mw_open (cc := cX0_isPlace) (maxL := 2) (ret := (some .boolean)) (by decide +kernel) rfl (Nat.le_of_ble_eq_true rfl) ?_
  intro p e s m below meth c ls hC hr hlocks hB hl
  obtain ⟨hx, hb, hml, hown, hts⟩ := id hC
  obtain ⟨hP, hK⟩ := hB
  have hin : ∀ w ∈ wsX00, w ∈ wsX0_isPlace := by decide +kernel
  have hl : lv_has ls 2 [(0, .ref h0), (1, .int (mI (m9)))] := hl
  refine lv_iload_n hx hb dX0_isPlace_0 rfl (lv_at hl 1 rfl) ?_
  refine mw_if_lt (tgt := 26) hx hb (by omega) dX0_isPlace_1 (by decide) (fun c_1 => ?_) (fun c_1 => ?_)
  · refine mw_iconst hx hb dX0_isPlace_26 ?_
    exact mw_retZ hx hb hr hlocks dX0_isPlace_27 (by first | rfl | exact (mB_t (by omega)).symm | exact (mB_f (by omega)).symm | exact mB_iff (by omega) | omega)
  · refine lv_iload_n hx hb dX0_isPlace_4 rfl (lv_at hl 1 rfl) ?_
    refine lv_aload_n hx hb dX0_isPlace_5 rfl (lv_at hl 0 rfl) ?_
    refine mw_getX hx hb hts hin hown hK hP rfl 0 (by decide) (by decide +kernel) rfl rfl dX0_isPlace_6 ?_
    refine mw_alen hx hb hK hP 1 rfl rfl dX0_isPlace_9 ?_
    refine mw_icmp_ge (tgt := 26) hx hb (by omega) (by omega) dX0_isPlace_10 (by decide) (fun c_10 => ?_) (fun c_10 => ?_)
    · refine mw_iconst hx hb dX0_isPlace_26 ?_
      exact mw_retZ hx hb hr hlocks dX0_isPlace_27 (by first | rfl | exact (mB_t (by omega)).symm | exact (mB_f (by omega)).symm | exact mB_iff (by omega) | omega)
    · refine lv_iload_n hx hb dX0_isPlace_13 rfl (lv_at hl 1 rfl) ?_
      refine lv_aload_n hx hb dX0_isPlace_14 rfl (lv_at hl 0 rfl) ?_
      refine mw_getX hx hb hts hin hown hK hP rfl 1 (by decide) (by decide +kernel) rfl rfl dX0_isPlace_15 ?_
      refine mw_alen hx hb hK hP 2 rfl rfl dX0_isPlace_18 ?_
      refine mw_icmp_ge (tgt := 26) hx hb (by omega) (by omega) dX0_isPlace_19 (by decide) (fun c_19 => ?_) (fun c_19 => ?_)
      · refine mw_iconst hx hb dX0_isPlace_26 ?_
        exact mw_retZ hx hb hr hlocks dX0_isPlace_27 (by first | rfl | exact (mB_t (by omega)).symm | exact (mB_f (by omega)).symm | exact mB_iff (by omega) | omega)
      · refine mw_iconst hx hb dX0_isPlace_22 ?_
        refine lv_goto (tgt := 27) hx hb dX0_isPlace_23 (by decide) ?_
        exact mw_retZ hx hb hr hlocks dX0_isPlace_27 (by first | rfl | exact (mB_t (by omega)).symm | exact (mB_f (by omega)).symm | exact mB_iff (by omega) | omega)

set_option maxHeartbeats 4000000 in
set_option maxRecDepth 100000 in
theorem c_X0_lengthOf (l : Launch) (D : va_G) (h0 a1 a2 : Nat) (cA cJ : ClassId) (v : Nat → Int) (L P : Int → Int) (m9 : Int) (h1 : 0 ≤ m9 ∧ m9 < 16) : mP l yX0_lengthOf wsX0_lengthOf ({ frames := 1, cells := 0, slots := 0, locals := 21 }) [.ref h0, .int (mI (m9))] (mwB D (mXW h0 a1 a2 cA v L P) (mTy cA cJ)) (some (.int (mI (L m9)))) := by
  refine mw_open (cc := cX0_lengthOf) (maxL := 2) (ret := (some .int)) (by decide +kernel) rfl (Nat.le_of_ble_eq_true rfl) ?_
  intro p e s m below meth c ls hC hr hlocks hB hl
  obtain ⟨hx, hb, hml, hown, hts⟩ := id hC
  obtain ⟨hP, hK⟩ := hB
  have hin : ∀ w ∈ wsX00, w ∈ wsX0_lengthOf := by decide +kernel
  have hl : lv_has ls 2 [(0, .ref h0), (1, .int (mI (m9)))] := hl
  refine lv_aload_n hx hb dX0_lengthOf_0 rfl (lv_at hl 0 rfl) ?_
  refine lv_iload_n hx hb dX0_lengthOf_1 rfl (lv_at hl 1 rfl) ?_
  refine mw_cVi (rest := []) (q := (RX0, TX0, 10)) hC (c_X0_isPlace l D h0 a1 a2 cA cJ v L P m9 (by omega)) (cwV 1 hts gX0_lengthOf_X0_isPlace rfl rfl rfl (by decide +kernel) ⟨Nat.le_of_ble_eq_true rfl, Nat.le_of_ble_eq_true rfl⟩) hK hP rfl rfl rfl hl.1 rfl (Nat.le_of_ble_eq_true rfl) ⟨Nat.zero_le _, Nat.zero_le _⟩ dX0_lengthOf_2 ?_
  refine mw_zeq (tgt := 17) hx hb dX0_lengthOf_5 (by decide) (fun c_5 => absurd c_5 (by omega)) (fun c_5 => ?_)
  refine lv_aload_n hx hb dX0_lengthOf_8 rfl (lv_at hl 0 rfl) ?_
  refine mw_getX hx hb hts hin hown hK hP rfl 0 (by decide) (by decide +kernel) rfl rfl dX0_lengthOf_9 ?_
  refine lv_iload_n hx hb dX0_lengthOf_12 rfl (lv_at hl 1 rfl) ?_
  refine mw_iald hx hb hK hP 1 rfl rfl (by omega) dX0_lengthOf_13 ?_
  refine lv_goto (tgt := 18) hx hb dX0_lengthOf_14 (by decide) ?_
  exact mw_retI hx hb hr hlocks dX0_lengthOf_18 (by first | rfl | exact (mB_t (by omega)).symm | exact (mB_f (by omega)).symm | exact mB_iff (by omega) | omega)

set_option maxHeartbeats 4000000 in
set_option maxRecDepth 100000 in
theorem c_X0_placeOf (l : Launch) (D : va_G) (h0 a1 a2 : Nat) (cA cJ : ClassId) (v : Nat → Int) (L P : Int → Int) (m9 : Int) (h1 : 0 ≤ m9 ∧ m9 < 16) : mP l yX0_placeOf wsX0_placeOf ({ frames := 1, cells := 0, slots := 0, locals := 21 }) [.ref h0, .int (mI (m9))] (mwB D (mXW h0 a1 a2 cA v L P) (mTy cA cJ)) (some (.int (mI (P m9)))) := by
  refine mw_open (cc := cX0_placeOf) (maxL := 2) (ret := (some .int)) (by decide +kernel) rfl (Nat.le_of_ble_eq_true rfl) ?_
  intro p e s m below meth c ls hC hr hlocks hB hl
  obtain ⟨hx, hb, hml, hown, hts⟩ := id hC
  obtain ⟨hP, hK⟩ := hB
  have hin : ∀ w ∈ wsX00, w ∈ wsX0_placeOf := by decide +kernel
  have hl : lv_has ls 2 [(0, .ref h0), (1, .int (mI (m9)))] := hl
  refine lv_aload_n hx hb dX0_placeOf_0 rfl (lv_at hl 0 rfl) ?_
  refine lv_iload_n hx hb dX0_placeOf_1 rfl (lv_at hl 1 rfl) ?_
  refine mw_cVi (rest := []) (q := (RX0, TX0, 10)) hC (c_X0_isPlace l D h0 a1 a2 cA cJ v L P m9 (by omega)) (cwV 1 hts gX0_placeOf_X0_isPlace rfl rfl rfl (by decide +kernel) ⟨Nat.le_of_ble_eq_true rfl, Nat.le_of_ble_eq_true rfl⟩) hK hP rfl rfl rfl hl.1 rfl (Nat.le_of_ble_eq_true rfl) ⟨Nat.zero_le _, Nat.zero_le _⟩ dX0_placeOf_2 ?_
  refine mw_zeq (tgt := 17) hx hb dX0_placeOf_5 (by decide) (fun c_5 => absurd c_5 (by omega)) (fun c_5 => ?_)
  refine lv_aload_n hx hb dX0_placeOf_8 rfl (lv_at hl 0 rfl) ?_
  refine mw_getX hx hb hts hin hown hK hP rfl 1 (by decide) (by decide +kernel) rfl rfl dX0_placeOf_9 ?_
  refine lv_iload_n hx hb dX0_placeOf_12 rfl (lv_at hl 1 rfl) ?_
  refine mw_iald hx hb hK hP 2 rfl rfl (by omega) dX0_placeOf_13 ?_
  refine lv_goto (tgt := 18) hx hb dX0_placeOf_14 (by decide) ?_
  exact mw_retI hx hb hr hlocks dX0_placeOf_18 (by first | rfl | exact (mB_t (by omega)).symm | exact (mB_f (by omega)).symm | exact mB_iff (by omega) | omega)

set_option maxHeartbeats 4000000 in
set_option maxRecDepth 100000 in
theorem c_X0_checkArgument (l : Launch)  : mP l yX0_checkArgument wsX0_checkArgument ({ frames := 0, cells := 0, slots := 0, locals := 0 }) [.int (mI (1))] (fun _ => True) (none) := by
  refine mw_open (cc := cX0_checkArgument) (maxL := 1) (ret := none) (by decide +kernel) rfl (Nat.le_of_ble_eq_true rfl) ?_
  intro p e s m below meth c ls hC hr hlocks hB hl
  obtain ⟨hx, hb, hml, hown, hts⟩ := id hC
  have hl : lv_has ls 1 [(0, .int (mI (1)))] := hl
  refine lv_iload_n hx hb dX0_checkArgument_0 rfl (lv_at hl 0 rfl) ?_
  refine mw_if_ne (tgt := 14) hx hb (by omega) dX0_checkArgument_1 (by decide) (fun _ => ?_) (fun c => absurd c (by decide))
  exact mw_retV hx hb hr hlocks dX0_checkArgument_14

set_option maxHeartbeats 4000000 in
set_option maxRecDepth 100000 in
theorem t_X0_checkArgument_t (l : Launch) (hfl : l.flags = flags0)  : mT l yX0_checkArgument wsX0_checkArgument ({ frames := 6, cells := 1, slots := 6, locals := 90 }) [.int (mI (0))] (fun _ => True) "java/lang/IllegalArgumentException" := by
  refine mw_openX (cc := cX0_checkArgument) (maxL := 1) (ret := none) (by decide) rfl (Nat.le_of_ble_eq_true rfl) ?_
  intro p e s m below meth c ls hC hr hlocks hout hB hE hl
  obtain ⟨hx, hb, hml, hown, hts⟩ := id hC
  have hl : lv_has ls 1 [(0, .int (mI (0)))] := hl
  refine lv_iload_n hx hb dX0_checkArgument_0 rfl (lv_at hl 0 rfl) ?_
  refine mw_if_ne (tgt := 14) hx hb (by omega) dX0_checkArgument_1 (by decide) (fun c => absurd c (by decide)) (fun _ => ?_)
  exact mw_throw (cls := "java/lang/IllegalArgumentException") (text := "an argument is out of range") (ik := 137) (is := 139) (ic := 141) hx hb hfl hts hown (by decide +kernel) hE hE.1.2.2.2.2.2.1 hE.1.2.1 (by decide +kernel) (by decide +kernel) (by decide +kernel) (by decide +kernel) (by decide +kernel) (hl.1.trans hml.symm) dX0_checkArgument_4 dX0_checkArgument_7 dX0_checkArgument_8 dX0_checkArgument_10 dX0_checkArgument_13 hout (Nat.le_of_ble_eq_true rfl) ⟨Nat.le_of_ble_eq_true rfl, Nat.le_of_ble_eq_true rfl, Nat.le_of_ble_eq_true rfl, Nat.le_of_ble_eq_true rfl⟩ hlocks (fun t ht => ⟨rfl, ht⟩)
end
section
set_option maxHeartbeats 400000 in
set_option maxRecDepth 100000 in
theorem c_X0_checkDay (l : Launch) (d : Int) (h1 : mDay d) : mP l yX0_checkDay wsX0_checkDay ({ frames := 1, cells := 0, slots := 0, locals := 22 }) [.int (mI (d))] (fun _ => True) (none) := by
  refine mw_open (cc := cX0_checkDay) (maxL := 1) (ret := none) (by decide +kernel) rfl (Nat.le_of_ble_eq_true rfl) ?_
  intro p e s m below meth c ls hC hr hlocks hB hl
  obtain ⟨hx, hb, hml, hown, hts⟩ := id hC
  have hl : lv_has ls 1 [(0, .int (mI (d)))] := hl
  refine lv_iload_n hx hb dX0_checkDay_0 rfl (lv_at hl 0 rfl) ?_
  refine mw_ldc hx hb (-1000000) (by decide +kernel) hown (hts (.constant RX0 142 (-1000000)) (by decide +kernel)) dX0_checkDay_1 ?_
  refine mw_ldc hx hb (1000000) (by decide +kernel) hown (hts (.constant RX0 143 (1000000)) (by decide +kernel)) dX0_checkDay_3 ?_
  refine mw_cSi (rest := []) hC (c_X0_isWithin l d (-1000000) 1000000 (by omega) (by omega) (by omega)) (va_cwS 3 hts gX0_checkDay_X0_isWithin rfl rfl rfl (by decide +kernel) ⟨Nat.le_of_ble_eq_true rfl, Nat.le_of_ble_eq_true rfl⟩) rfl hl.1 rfl (Nat.le_of_ble_eq_true rfl) ⟨Nat.zero_le _, Nat.zero_le _⟩ dX0_checkDay_5 ?_
  refine mw_topi (y := 1) (mB_t (by omega)) ?_
  refine mw_cSv (rest := []) hC (c_X0_checkArgument l) (va_cwS 1 hts gX0_checkDay_X0_checkArgument rfl rfl rfl (by decide +kernel) ⟨Nat.le_of_ble_eq_true rfl, Nat.le_of_ble_eq_true rfl⟩) rfl hl.1 rfl (Nat.le_of_ble_eq_true rfl) ⟨Nat.zero_le _, Nat.zero_le _⟩ dX0_checkDay_8 ?_
  exact mw_retV hx hb hr hlocks dX0_checkDay_11

set_option maxHeartbeats 400000 in
set_option maxRecDepth 100000 in
theorem t_X0_checkDay_t (l : Launch) (hfl : l.flags = flags0) (d : Int) (h1 : mRI d) (h2 : ¬ mDay d)  : mT l yX0_checkDay wsX0_checkDay ({ frames := 7, cells := 1, slots := 6, locals := 110 }) [.int (mI (d))] (fun _ => True) "java/lang/IllegalArgumentException" := by
  refine mw_openX (cc := cX0_checkDay) (maxL := 1) (ret := none) (by decide) rfl (Nat.le_of_ble_eq_true rfl) ?_
  intro p e s m below meth c ls hC hr hlocks hout hB hE hl
  obtain ⟨hx, hb, hml, hown, hts⟩ := id hC
  have hl : lv_has ls 1 [(0, .int (mI (d)))] := hl
  refine lv_iload_n hx hb dX0_checkDay_0 rfl (lv_at hl 0 rfl) ?_
  refine mw_ldc hx hb (-1000000) (by decide +kernel) hown (hts (.constant RX0 142 (-1000000)) (by decide +kernel)) dX0_checkDay_1 ?_
  refine mw_ldc hx hb (1000000) (by decide +kernel) hown (hts (.constant RX0 143 (1000000)) (by decide +kernel)) dX0_checkDay_3 ?_
  refine mw_cSi (rest := []) hC (c_X0_isWithin l d (-1000000) 1000000 (by omega) (by omega) (by omega)) (va_cwS 3 hts gX0_checkDay_X0_isWithin rfl rfl rfl (by decide +kernel) ⟨Nat.le_of_ble_eq_true rfl, Nat.le_of_ble_eq_true rfl⟩) rfl hl.1 rfl (Nat.le_of_ble_eq_true rfl) ⟨Nat.zero_le _, Nat.zero_le _⟩ dX0_checkDay_5 ?_
  refine mw_topi (y := 0) (mB_f (by omega)) ?_
  exact mw_tS (rest := []) hC (t_X0_checkArgument_t l hfl) hE (va_cwS 1 hts gX0_checkDay_X0_checkArgument rfl rfl rfl (by decide +kernel) ⟨Nat.le_of_ble_eq_true rfl, Nat.le_of_ble_eq_true rfl⟩) rfl hl.1 rfl (Nat.le_of_ble_eq_true rfl) ⟨Nat.le_of_ble_eq_true rfl, Nat.le_of_ble_eq_true rfl⟩ hout hlocks dX0_checkDay_8 (fun t ht => ⟨rfl, ht⟩)

set_option maxHeartbeats 400000 in
set_option maxRecDepth 100000 in
theorem c_X0_checkYear (l : Launch) (d : Int) (h1 : mYear d) : mP l yX0_checkYear wsX0_checkYear ({ frames := 1, cells := 0, slots := 0, locals := 22 }) [.int (mI (d))] (fun _ => True) (none) := by
  refine mw_open (cc := cX0_checkYear) (maxL := 1) (ret := none) (by decide +kernel) rfl (Nat.le_of_ble_eq_true rfl) ?_
  intro p e s m below meth c ls hC hr hlocks hB hl
  obtain ⟨hx, hb, hml, hown, hts⟩ := id hC
  have hl : lv_has ls 1 [(0, .int (mI (d)))] := hl
  refine lv_iload_n hx hb dX0_checkYear_0 rfl (lv_at hl 0 rfl) ?_
  refine mw_sipush hx hb (by decide +kernel) dX0_checkYear_1 ?_
  refine mw_sipush hx hb (by decide +kernel) dX0_checkYear_4 ?_
  refine mw_cSi (rest := []) hC (c_X0_isWithin l d (-10000) 10000 (by omega) (by omega) (by omega)) (va_cwS 3 hts gX0_checkYear_X0_isWithin rfl rfl rfl (by decide +kernel) ⟨Nat.le_of_ble_eq_true rfl, Nat.le_of_ble_eq_true rfl⟩) rfl hl.1 rfl (Nat.le_of_ble_eq_true rfl) ⟨Nat.zero_le _, Nat.zero_le _⟩ dX0_checkYear_7 ?_
  refine mw_topi (y := 1) (mB_t (by omega)) ?_
  refine mw_cSv (rest := []) hC (c_X0_checkArgument l) (va_cwS 1 hts gX0_checkYear_X0_checkArgument rfl rfl rfl (by decide +kernel) ⟨Nat.le_of_ble_eq_true rfl, Nat.le_of_ble_eq_true rfl⟩) rfl hl.1 rfl (Nat.le_of_ble_eq_true rfl) ⟨Nat.zero_le _, Nat.zero_le _⟩ dX0_checkYear_10 ?_
  exact mw_retV hx hb hr hlocks dX0_checkYear_13

set_option maxHeartbeats 400000 in
set_option maxRecDepth 100000 in
theorem t_X0_checkYear_t (l : Launch) (hfl : l.flags = flags0) (d : Int) (h1 : mRI d) (h2 : ¬ mYear d)  : mT l yX0_checkYear wsX0_checkYear ({ frames := 7, cells := 1, slots := 6, locals := 110 }) [.int (mI (d))] (fun _ => True) "java/lang/IllegalArgumentException" := by
  refine mw_openX (cc := cX0_checkYear) (maxL := 1) (ret := none) (by decide) rfl (Nat.le_of_ble_eq_true rfl) ?_
  intro p e s m below meth c ls hC hr hlocks hout hB hE hl
  obtain ⟨hx, hb, hml, hown, hts⟩ := id hC
  have hl : lv_has ls 1 [(0, .int (mI (d)))] := hl
  refine lv_iload_n hx hb dX0_checkYear_0 rfl (lv_at hl 0 rfl) ?_
  refine mw_sipush hx hb (by decide +kernel) dX0_checkYear_1 ?_
  refine mw_sipush hx hb (by decide +kernel) dX0_checkYear_4 ?_
  refine mw_cSi (rest := []) hC (c_X0_isWithin l d (-10000) 10000 (by omega) (by omega) (by omega)) (va_cwS 3 hts gX0_checkYear_X0_isWithin rfl rfl rfl (by decide +kernel) ⟨Nat.le_of_ble_eq_true rfl, Nat.le_of_ble_eq_true rfl⟩) rfl hl.1 rfl (Nat.le_of_ble_eq_true rfl) ⟨Nat.zero_le _, Nat.zero_le _⟩ dX0_checkYear_7 ?_
  refine mw_topi (y := 0) (mB_f (by omega)) ?_
  exact mw_tS (rest := []) hC (t_X0_checkArgument_t l hfl) hE (va_cwS 1 hts gX0_checkYear_X0_checkArgument rfl rfl rfl (by decide +kernel) ⟨Nat.le_of_ble_eq_true rfl, Nat.le_of_ble_eq_true rfl⟩) rfl hl.1 rfl (Nat.le_of_ble_eq_true rfl) ⟨Nat.le_of_ble_eq_true rfl, Nat.le_of_ble_eq_true rfl⟩ hout hlocks dX0_checkYear_10 (fun t ht => ⟨rfl, ht⟩)

set_option maxHeartbeats 400000 in
set_option maxRecDepth 100000 in
theorem c_X0_checkMarket (l : Launch) (D : va_G) (h0 a1 a2 : Nat) (cA cJ : ClassId) (v : Nat → Int) (L P : Int → Int) (m9 : Int) (h1 : mRI m9) (h2 : mMk v m9) (hv : 0 ≤ v 0 ∧ v 0 ≤ 16) : mP l yX0_checkMarket wsX0_checkMarket ({ frames := 1, cells := 0, slots := 0, locals := 22 }) [.ref h0, .int (mI (m9))] (mwB D (mXW h0 a1 a2 cA v L P) (mTy cA cJ)) (none) := by
  refine mw_open (cc := cX0_checkMarket) (maxL := 2) (ret := none) (by decide +kernel) rfl (Nat.le_of_ble_eq_true rfl) ?_
  intro p e s m below meth c ls hC hr hlocks hB hl
  obtain ⟨hx, hb, hml, hown, hts⟩ := id hC
  obtain ⟨hP, hK⟩ := hB
  have hin : ∀ w ∈ wsX00, w ∈ wsX0_checkMarket := by decide +kernel
  have hl : lv_has ls 2 [(0, .ref h0), (1, .int (mI (m9)))] := hl
  refine lv_iload_n hx hb dX0_checkMarket_0 rfl (lv_at hl 1 rfl) ?_
  refine mw_iconst hx hb dX0_checkMarket_1 ?_
  refine lv_aload_n hx hb dX0_checkMarket_2 rfl (lv_at hl 0 rfl) ?_
  refine mw_getX hx hb hts hin hown hK hP rfl 2 (by decide) (by decide +kernel) rfl rfl dX0_checkMarket_3 ?_
  refine mw_iconst hx hb dX0_checkMarket_6 ?_
  refine mw_isub hx hb dX0_checkMarket_7 ?_
  refine mw_cSi (rest := []) hC (c_X0_isWithin l m9 0 ((v 0) - 1) (by omega) (by omega) (by omega)) (va_cwS 3 hts gX0_checkMarket_X0_isWithin rfl rfl rfl (by decide +kernel) ⟨Nat.le_of_ble_eq_true rfl, Nat.le_of_ble_eq_true rfl⟩) rfl hl.1 rfl (Nat.le_of_ble_eq_true rfl) ⟨Nat.zero_le _, Nat.zero_le _⟩ dX0_checkMarket_8 ?_
  refine mw_zne (tgt := 24) hx hb dX0_checkMarket_11 (by decide) (fun c_11 => ?_) (fun c_11 => False.elim (by omega))
  exact mw_retV hx hb hr hlocks dX0_checkMarket_24

set_option maxHeartbeats 400000 in
set_option maxRecDepth 100000 in
theorem t_X0_checkMarket_t (l : Launch) (hfl : l.flags = flags0) (D : va_G) (h0 a1 a2 : Nat) (cA cJ : ClassId) (v : Nat → Int) (L P : Int → Int) (m9 : Int) (h1 : mRI m9) (h2 : ¬ mMk v m9) (hv : 0 ≤ v 0 ∧ v 0 ≤ 16) : mT l yX0_checkMarket wsX0_checkMarket ({ frames := 6, cells := 1, slots := 6, locals := 90 }) [.ref h0, .int (mI (m9))] (mwB D (mXW h0 a1 a2 cA v L P) (mTy cA cJ)) "java/lang/IndexOutOfBoundsException" := by
  refine mw_openX (cc := cX0_checkMarket) (maxL := 2) (ret := none) (by decide) rfl (Nat.le_of_ble_eq_true rfl) ?_
  intro p e s m below meth c ls hC hr hlocks hout hB hE hl
  obtain ⟨hx, hb, hml, hown, hts⟩ := id hC
  obtain ⟨hP, hK⟩ := hB
  have hin : ∀ w ∈ wsX00, w ∈ wsX0_checkMarket := by decide +kernel
  have hl : lv_has ls 2 [(0, .ref h0), (1, .int (mI (m9)))] := hl
  refine lv_iload_n hx hb dX0_checkMarket_0 rfl (lv_at hl 1 rfl) ?_
  refine mw_iconst hx hb dX0_checkMarket_1 ?_
  refine lv_aload_n hx hb dX0_checkMarket_2 rfl (lv_at hl 0 rfl) ?_
  refine mw_getX hx hb hts hin hown hK hP rfl 2 (by decide) (by decide +kernel) rfl rfl dX0_checkMarket_3 ?_
  refine mw_iconst hx hb dX0_checkMarket_6 ?_
  refine mw_isub hx hb dX0_checkMarket_7 ?_
  refine mw_cSi (rest := []) hC (c_X0_isWithin l m9 0 ((v 0) - 1) (by omega) (by omega) (by omega)) (va_cwS 3 hts gX0_checkMarket_X0_isWithin rfl rfl rfl (by decide +kernel) ⟨Nat.le_of_ble_eq_true rfl, Nat.le_of_ble_eq_true rfl⟩) rfl hl.1 rfl (Nat.le_of_ble_eq_true rfl) ⟨Nat.zero_le _, Nat.zero_le _⟩ dX0_checkMarket_8 ?_
  refine mw_zne (tgt := 24) hx hb dX0_checkMarket_11 (by decide) (fun c_11 => False.elim (by omega)) (fun c_11 => ?_)
  exact mw_throw (cls := "java/lang/IndexOutOfBoundsException") (text := "there is no such market") (ik := 144) (is := 146) (ic := 148) hx hb hfl hts hown (by decide +kernel) hE hE.1.2.2.2.2.2.2.2.1 hE.1.2.2.1 (by decide +kernel) (by decide +kernel) (by decide +kernel) (by decide +kernel) (by decide +kernel) (hl.1.trans hml.symm) dX0_checkMarket_14 dX0_checkMarket_17 dX0_checkMarket_18 dX0_checkMarket_20 dX0_checkMarket_23 hout (Nat.le_of_ble_eq_true rfl) ⟨Nat.le_of_ble_eq_true rfl, Nat.le_of_ble_eq_true rfl, Nat.le_of_ble_eq_true rfl, Nat.le_of_ble_eq_true rfl⟩ hlocks (fun t ht => ⟨rfl, ht⟩)

set_option maxHeartbeats 400000 in
set_option maxRecDepth 100000 in
theorem c_X0_checkMarkets (l : Launch) (D : va_G) (h0 a1 a2 : Nat) (cA cJ : ClassId) (v : Nat → Int) (L P : Int → Int) (z : Int) (h2 : mUsh z (v 0) = 0) : mP l yX0_checkMarkets wsX0_checkMarkets ({ frames := 0, cells := 0, slots := 0, locals := 0 }) [.ref h0, .int (mI (z))] (mwB D (mXW h0 a1 a2 cA v L P) (mTy cA cJ)) (none) := by
  refine mw_open (cc := cX0_checkMarkets) (maxL := 2) (ret := none) (by decide +kernel) rfl (Nat.le_of_ble_eq_true rfl) ?_
  intro p e s m below meth c ls hC hr hlocks hB hl
  obtain ⟨hx, hb, hml, hown, hts⟩ := id hC
  obtain ⟨hP, hK⟩ := hB
  have hin : ∀ w ∈ wsX00, w ∈ wsX0_checkMarkets := by decide +kernel
  have hl : lv_has ls 2 [(0, .ref h0), (1, .int (mI (z)))] := hl
  have r1 := mUsh_r z (v 0)
  refine lv_iload_n hx hb dX0_checkMarkets_0 rfl (lv_at hl 1 rfl) ?_
  refine lv_aload_n hx hb dX0_checkMarkets_1 rfl (lv_at hl 0 rfl) ?_
  refine mw_getX hx hb hts hin hown hK hP rfl 2 (by decide) (by decide +kernel) rfl rfl dX0_checkMarkets_2 ?_
  refine mw_iushr hx hb dX0_checkMarkets_5 ?_
  refine mw_if_eq (tgt := 19) hx hb (by omega) dX0_checkMarkets_6 (by decide) (fun c_6 => ?_) (fun c_6 => False.elim (by omega))
  exact mw_retV hx hb hr hlocks dX0_checkMarkets_19

set_option maxHeartbeats 400000 in
set_option maxRecDepth 100000 in
theorem t_X0_checkMarkets_t (l : Launch) (hfl : l.flags = flags0) (D : va_G) (h0 a1 a2 : Nat) (cA cJ : ClassId) (v : Nat → Int) (L P : Int → Int) (z : Int) (h2 : ¬ mUsh z (v 0) = 0)  : mT l yX0_checkMarkets wsX0_checkMarkets ({ frames := 6, cells := 1, slots := 6, locals := 90 }) [.ref h0, .int (mI (z))] (mwB D (mXW h0 a1 a2 cA v L P) (mTy cA cJ)) "java/lang/IndexOutOfBoundsException" := by
  refine mw_openX (cc := cX0_checkMarkets) (maxL := 2) (ret := none) (by decide) rfl (Nat.le_of_ble_eq_true rfl) ?_
  intro p e s m below meth c ls hC hr hlocks hout hB hE hl
  obtain ⟨hx, hb, hml, hown, hts⟩ := id hC
  obtain ⟨hP, hK⟩ := hB
  have hin : ∀ w ∈ wsX00, w ∈ wsX0_checkMarkets := by decide +kernel
  have hl : lv_has ls 2 [(0, .ref h0), (1, .int (mI (z)))] := hl
  have r1 := mUsh_r z (v 0)
  refine lv_iload_n hx hb dX0_checkMarkets_0 rfl (lv_at hl 1 rfl) ?_
  refine lv_aload_n hx hb dX0_checkMarkets_1 rfl (lv_at hl 0 rfl) ?_
  refine mw_getX hx hb hts hin hown hK hP rfl 2 (by decide) (by decide +kernel) rfl rfl dX0_checkMarkets_2 ?_
  refine mw_iushr hx hb dX0_checkMarkets_5 ?_
  refine mw_if_eq (tgt := 19) hx hb (by omega) dX0_checkMarkets_6 (by decide) (fun c_6 => False.elim (by omega)) (fun c_6 => ?_)
  exact mw_throw (cls := "java/lang/IndexOutOfBoundsException") (text := "a bit stands for no market") (ik := 144) (is := 149) (ic := 148) hx hb hfl hts hown (by decide +kernel) hE hE.1.2.2.2.2.2.2.2.1 hE.1.2.2.2.1 (by decide +kernel) (by decide +kernel) (by decide +kernel) (by decide +kernel) (by decide +kernel) (hl.1.trans hml.symm) dX0_checkMarkets_9 dX0_checkMarkets_12 dX0_checkMarkets_13 dX0_checkMarkets_15 dX0_checkMarkets_18 hout (Nat.le_of_ble_eq_true rfl) ⟨Nat.le_of_ble_eq_true rfl, Nat.le_of_ble_eq_true rfl, Nat.le_of_ble_eq_true rfl, Nat.le_of_ble_eq_true rfl⟩ hlocks (fun t ht => ⟨rfl, ht⟩)

set_option maxHeartbeats 400000 in
set_option maxRecDepth 100000 in
theorem c_X0_checkTheyMeet (l : Launch) (d : Int) (h1 : mRL d) (h2 : d ≠ -1) : mP l yX0_checkTheyMeet wsX0_checkTheyMeet ({ frames := 0, cells := 0, slots := 0, locals := 0 }) [.long (mL (d))] (fun _ => True) (none) := by
  refine mw_open (cc := cX0_checkTheyMeet) (maxL := 2) (ret := none) (by decide +kernel) rfl (Nat.le_of_ble_eq_true rfl) ?_
  intro p e s m below meth c ls hC hr hlocks hB hl
  obtain ⟨hx, hb, hml, hown, hts⟩ := id hC
  have hl : lv_has ls 2 [(0, .long (mL (d)))] := hl
  refine lv_lload_n hx hb dX0_checkTheyMeet_0 rfl (lv_at hl 0 rfl) ?_
  refine mw_ldc2 hx hb (-1) (by decide +kernel) hown (hts (.constantLong RX0 96 (-1)) (by decide +kernel)) dX0_checkTheyMeet_1 ?_
  refine mw_lcmp_ne (tgt := 18) hx hb (by omega) (by omega) dX0_checkTheyMeet_4 dX0_checkTheyMeet_5 (by decide) (fun c_5 => ?_) (fun c_5 => False.elim (by omega))
  exact mw_retV hx hb hr hlocks dX0_checkTheyMeet_18

set_option maxHeartbeats 400000 in
set_option maxRecDepth 100000 in
theorem t_X0_checkTheyMeet_t (l : Launch) (hfl : l.flags = flags0) (d : Int) (h1 : mRL d) (h2 : ¬ d ≠ -1)  : mT l yX0_checkTheyMeet wsX0_checkTheyMeet ({ frames := 6, cells := 1, slots := 6, locals := 90 }) [.long (mL (d))] (fun _ => True) "java/lang/IllegalStateException" := by
  refine mw_openX (cc := cX0_checkTheyMeet) (maxL := 2) (ret := none) (by decide) rfl (Nat.le_of_ble_eq_true rfl) ?_
  intro p e s m below meth c ls hC hr hlocks hout hB hE hl
  obtain ⟨hx, hb, hml, hown, hts⟩ := id hC
  have hl : lv_has ls 2 [(0, .long (mL (d)))] := hl
  refine lv_lload_n hx hb dX0_checkTheyMeet_0 rfl (lv_at hl 0 rfl) ?_
  refine mw_ldc2 hx hb (-1) (by decide +kernel) hown (hts (.constantLong RX0 96 (-1)) (by decide +kernel)) dX0_checkTheyMeet_1 ?_
  refine mw_lcmp_ne (tgt := 18) hx hb (by omega) (by omega) dX0_checkTheyMeet_4 dX0_checkTheyMeet_5 (by decide) (fun c_5 => False.elim (by omega)) (fun c_5 => ?_)
  exact mw_throw (cls := "java/lang/IllegalStateException") (text := "they never meet") (ik := 53) (is := 151) (ic := 57) hx hb hfl hts hown (by decide +kernel) hE hE.1.2.2.2.2.2.2.1 hE.1.2.2.2.2.1 (by decide +kernel) (by decide +kernel) (by decide +kernel) (by decide +kernel) (by decide +kernel) (hl.1.trans hml.symm) dX0_checkTheyMeet_8 dX0_checkTheyMeet_11 dX0_checkTheyMeet_12 dX0_checkTheyMeet_14 dX0_checkTheyMeet_17 hout (Nat.le_of_ble_eq_true rfl) ⟨Nat.le_of_ble_eq_true rfl, Nat.le_of_ble_eq_true rfl, Nat.le_of_ble_eq_true rfl, Nat.le_of_ble_eq_true rfl⟩ hlocks (fun t ht => ⟨rfl, ht⟩)

set_option maxHeartbeats 400000 in
set_option maxRecDepth 100000 in
theorem c_J6_bitCount_0f7a4 (l : Launch) (z : Int) (h1 : mRI z) : mP l yJ6_bitCount_0f7a4 wsJ6_bitCount_0f7a4 ({ frames := 0, cells := 0, slots := 0, locals := 0 }) [.int (mI (z))] (fun _ => True) (some (.int (mI (mPop z 32)))) := by
  refine mw_open (cc := cJ6_bitCount_0f7a4) (maxL := 1) (ret := (some .int)) (by decide +kernel) rfl (Nat.le_of_ble_eq_true rfl) ?_
  intro p e s m below meth c ls hC hr hlocks hB hl
  obtain ⟨hx, hb, hml, hown, hts⟩ := id hC
  have hl : lv_has ls 1 [(0, .int (mI (z)))] := hl
  refine lv_iload_n hx hb dJ6_bitCount_0f7a4_0 rfl (lv_at hl 0 rfl) ?_
  refine lv_iload_n hx hb dJ6_bitCount_0f7a4_1 rfl (lv_at hl 0 rfl) ?_
  refine mw_iconst hx hb dJ6_bitCount_0f7a4_2 ?_
  refine mw_iushr hx hb dJ6_bitCount_0f7a4_3 ?_
  refine mw_ldcw hx hb (1431655765) (by decide +kernel) hown (hts (.constant RJ6 265 (1431655765)) (by decide +kernel)) dJ6_bitCount_0f7a4_4 ?_
  refine mw_iand hx hb dJ6_bitCount_0f7a4_7 ?_
  refine mw_isub hx hb dJ6_bitCount_0f7a4_8 ?_
  refine mw_namei (fun x1 e_x1 => ?_)
  refine lv_istore_n (lv' := [(0, .int (mI (x1)))]) hx hb dJ6_bitCount_0f7a4_9 rfl hl (by decide) rfl (fun ls hl => ?_)
  refine lv_iload_n hx hb dJ6_bitCount_0f7a4_10 rfl (lv_at hl 0 rfl) ?_
  refine mw_ldcw hx hb (858993459) (by decide +kernel) hown (hts (.constant RJ6 266 (858993459)) (by decide +kernel)) dJ6_bitCount_0f7a4_11 ?_
  refine mw_iand hx hb dJ6_bitCount_0f7a4_14 ?_
  refine lv_iload_n hx hb dJ6_bitCount_0f7a4_15 rfl (lv_at hl 0 rfl) ?_
  refine mw_iconst hx hb dJ6_bitCount_0f7a4_16 ?_
  refine mw_iushr hx hb dJ6_bitCount_0f7a4_17 ?_
  refine mw_ldcw hx hb (858993459) (by decide +kernel) hown (hts (.constant RJ6 266 (858993459)) (by decide +kernel)) dJ6_bitCount_0f7a4_18 ?_
  refine mw_iand hx hb dJ6_bitCount_0f7a4_21 ?_
  refine mw_iadd hx hb dJ6_bitCount_0f7a4_22 ?_
  refine mw_namei (fun x2 e_x2 => ?_)
  refine lv_istore_n (lv' := [(0, .int (mI (x2)))]) hx hb dJ6_bitCount_0f7a4_23 rfl hl (by decide) rfl (fun ls hl => ?_)
  refine lv_iload_n hx hb dJ6_bitCount_0f7a4_24 rfl (lv_at hl 0 rfl) ?_
  refine lv_iload_n hx hb dJ6_bitCount_0f7a4_25 rfl (lv_at hl 0 rfl) ?_
  refine mw_iconst hx hb dJ6_bitCount_0f7a4_26 ?_
  refine mw_iushr hx hb dJ6_bitCount_0f7a4_27 ?_
  refine mw_iadd hx hb dJ6_bitCount_0f7a4_28 ?_
  refine mw_ldcw hx hb (252645135) (by decide +kernel) hown (hts (.constant RJ6 267 (252645135)) (by decide +kernel)) dJ6_bitCount_0f7a4_29 ?_
  refine mw_iand hx hb dJ6_bitCount_0f7a4_32 ?_
  refine mw_namei (fun x3 e_x3 => ?_)
  refine lv_istore_n (lv' := [(0, .int (mI (x3)))]) hx hb dJ6_bitCount_0f7a4_33 rfl hl (by decide) rfl (fun ls hl => ?_)
  refine lv_iload_n hx hb dJ6_bitCount_0f7a4_34 rfl (lv_at hl 0 rfl) ?_
  refine lv_iload_n hx hb dJ6_bitCount_0f7a4_35 rfl (lv_at hl 0 rfl) ?_
  refine mw_bipush hx hb (by decide +kernel) dJ6_bitCount_0f7a4_36 ?_
  refine mw_iushr hx hb dJ6_bitCount_0f7a4_38 ?_
  refine mw_iadd hx hb dJ6_bitCount_0f7a4_39 ?_
  refine mw_namei (fun x4 e_x4 => ?_)
  refine lv_istore_n (lv' := [(0, .int (mI (x4)))]) hx hb dJ6_bitCount_0f7a4_40 rfl hl (by decide) rfl (fun ls hl => ?_)
  refine lv_iload_n hx hb dJ6_bitCount_0f7a4_41 rfl (lv_at hl 0 rfl) ?_
  refine lv_iload_n hx hb dJ6_bitCount_0f7a4_42 rfl (lv_at hl 0 rfl) ?_
  refine mw_bipush hx hb (by decide +kernel) dJ6_bitCount_0f7a4_43 ?_
  refine mw_iushr hx hb dJ6_bitCount_0f7a4_45 ?_
  refine mw_iadd hx hb dJ6_bitCount_0f7a4_46 ?_
  refine mw_namei (fun x5 e_x5 => ?_)
  refine lv_istore_n (lv' := [(0, .int (mI (x5)))]) hx hb dJ6_bitCount_0f7a4_47 rfl hl (by decide) rfl (fun ls hl => ?_)
  refine lv_iload_n hx hb dJ6_bitCount_0f7a4_48 rfl (lv_at hl 0 rfl) ?_
  refine mw_bipush hx hb (by decide +kernel) dJ6_bitCount_0f7a4_49 ?_
  refine mw_iand hx hb dJ6_bitCount_0f7a4_51 ?_
  exact mw_retI hx hb hr hlocks dJ6_bitCount_0f7a4_52 (m_bitCount e_x1 e_x2 e_x3 e_x4 e_x5)

set_option maxHeartbeats 400000 in
set_option maxRecDepth 100000 in
theorem c_X0_checkMeetingSet (l : Launch) (D : va_G) (h0 a1 a2 : Nat) (cA cJ : ClassId) (v : Nat → Int) (L P : Int → Int) (z : Int) (h1 : mRI z) (h2 : 1 ≤ mPop z 32 ∧ mPop z 32 ≤ 5) (h3 : mUsh z (v 0) = 0) : mP l yX0_checkMeetingSet wsX0_checkMeetingSet ({ frames := 1, cells := 0, slots := 0, locals := 22 }) [.ref h0, .int (mI (z))] (mwB D (mXW h0 a1 a2 cA v L P) (mTy cA cJ)) (none) := by
  refine mw_open (cc := cX0_checkMeetingSet) (maxL := 2) (ret := none) (by decide +kernel) rfl (Nat.le_of_ble_eq_true rfl) ?_
  intro p e s m below meth c ls hC hr hlocks hB hl
  obtain ⟨hx, hb, hml, hown, hts⟩ := id hC
  obtain ⟨hP, hK⟩ := hB
  have hl : lv_has ls 2 [(0, .ref h0), (1, .int (mI (z)))] := hl
  have q1 := mPop_r z 32
  refine lv_iload_n hx hb dX0_checkMeetingSet_0 rfl (lv_at hl 1 rfl) ?_
  refine mw_cSi (rest := []) hC (c_J6_bitCount_0f7a4 l z (by omega)) (va_cwS 1 hts gX0_checkMeetingSet_J6_bitCount_0f7a4 rfl rfl rfl (by decide +kernel) ⟨Nat.le_of_ble_eq_true rfl, Nat.le_of_ble_eq_true rfl⟩) rfl hl.1 rfl (Nat.le_of_ble_eq_true rfl) ⟨Nat.zero_le _, Nat.zero_le _⟩ dX0_checkMeetingSet_1 ?_
  refine mw_iconst hx hb dX0_checkMeetingSet_4 ?_
  refine mw_iconst hx hb dX0_checkMeetingSet_5 ?_
  refine mw_cSi (rest := []) hC (c_X0_isWithin l (mPop z 32) 1 5 (by omega) (by omega) (by omega)) (va_cwS 3 hts gX0_checkMeetingSet_X0_isWithin rfl rfl rfl (by decide +kernel) ⟨Nat.le_of_ble_eq_true rfl, Nat.le_of_ble_eq_true rfl⟩) rfl hl.1 rfl (Nat.le_of_ble_eq_true rfl) ⟨Nat.zero_le _, Nat.zero_le _⟩ dX0_checkMeetingSet_6 ?_
  refine mw_topi (y := 1) (mB_t (by omega)) ?_
  refine mw_cSv (rest := []) hC (c_X0_checkArgument l) (va_cwS 1 hts gX0_checkMeetingSet_X0_checkArgument rfl rfl rfl (by decide +kernel) ⟨Nat.le_of_ble_eq_true rfl, Nat.le_of_ble_eq_true rfl⟩) rfl hl.1 rfl (Nat.le_of_ble_eq_true rfl) ⟨Nat.zero_le _, Nat.zero_le _⟩ dX0_checkMeetingSet_9 ?_
  refine lv_aload_n hx hb dX0_checkMeetingSet_12 rfl (lv_at hl 0 rfl) ?_
  refine lv_iload_n hx hb dX0_checkMeetingSet_13 rfl (lv_at hl 1 rfl) ?_
  refine mw_cVv (rest := []) (q := (RX0, TX0, 10)) hC (c_X0_checkMarkets l D h0 a1 a2 cA cJ v L P z (by omega)) (cwV 1 hts gX0_checkMeetingSet_X0_checkMarkets rfl rfl rfl (by decide +kernel) ⟨Nat.le_of_ble_eq_true rfl, Nat.le_of_ble_eq_true rfl⟩) hK hP rfl rfl rfl hl.1 rfl (Nat.le_of_ble_eq_true rfl) ⟨Nat.zero_le _, Nat.zero_le _⟩ dX0_checkMeetingSet_14 ?_
  exact mw_retV hx hb hr hlocks dX0_checkMeetingSet_17

set_option maxHeartbeats 400000 in
set_option maxRecDepth 100000 in
theorem t_X0_checkMeetingSet_t1 (l : Launch) (hfl : l.flags = flags0) (D : va_G) (h0 a1 a2 : Nat) (cA cJ : ClassId) (v : Nat → Int) (L P : Int → Int) (z : Int) (h1 : mRI z) (h2 : ¬ (1 ≤ mPop z 32 ∧ mPop z 32 ≤ 5))  : mT l yX0_checkMeetingSet wsX0_checkMeetingSet ({ frames := 7, cells := 1, slots := 6, locals := 110 }) [.ref h0, .int (mI (z))] (mwB D (mXW h0 a1 a2 cA v L P) (mTy cA cJ)) "java/lang/IllegalArgumentException" := by
  refine mw_openX (cc := cX0_checkMeetingSet) (maxL := 2) (ret := none) (by decide) rfl (Nat.le_of_ble_eq_true rfl) ?_
  intro p e s m below meth c ls hC hr hlocks hout hB hE hl
  obtain ⟨hx, hb, hml, hown, hts⟩ := id hC
  obtain ⟨hP, hK⟩ := hB
  have hl : lv_has ls 2 [(0, .ref h0), (1, .int (mI (z)))] := hl
  have q1 := mPop_r z 32
  refine lv_iload_n hx hb dX0_checkMeetingSet_0 rfl (lv_at hl 1 rfl) ?_
  refine mw_cSi (rest := []) hC (c_J6_bitCount_0f7a4 l z (by omega)) (va_cwS 1 hts gX0_checkMeetingSet_J6_bitCount_0f7a4 rfl rfl rfl (by decide +kernel) ⟨Nat.le_of_ble_eq_true rfl, Nat.le_of_ble_eq_true rfl⟩) rfl hl.1 rfl (Nat.le_of_ble_eq_true rfl) ⟨Nat.zero_le _, Nat.zero_le _⟩ dX0_checkMeetingSet_1 ?_
  refine mw_iconst hx hb dX0_checkMeetingSet_4 ?_
  refine mw_iconst hx hb dX0_checkMeetingSet_5 ?_
  refine mw_cSi (rest := []) hC (c_X0_isWithin l (mPop z 32) 1 5 (by omega) (by omega) (by omega)) (va_cwS 3 hts gX0_checkMeetingSet_X0_isWithin rfl rfl rfl (by decide +kernel) ⟨Nat.le_of_ble_eq_true rfl, Nat.le_of_ble_eq_true rfl⟩) rfl hl.1 rfl (Nat.le_of_ble_eq_true rfl) ⟨Nat.zero_le _, Nat.zero_le _⟩ dX0_checkMeetingSet_6 ?_
  refine mw_topi (y := 0) (mB_f (by omega)) ?_
  exact mw_tS (rest := []) hC (t_X0_checkArgument_t l hfl) hE (va_cwS 1 hts gX0_checkMeetingSet_X0_checkArgument rfl rfl rfl (by decide +kernel) ⟨Nat.le_of_ble_eq_true rfl, Nat.le_of_ble_eq_true rfl⟩) rfl hl.1 rfl (Nat.le_of_ble_eq_true rfl) ⟨Nat.le_of_ble_eq_true rfl, Nat.le_of_ble_eq_true rfl⟩ hout hlocks dX0_checkMeetingSet_9 (fun t ht => ⟨rfl, ht⟩)

set_option maxHeartbeats 400000 in
set_option maxRecDepth 100000 in
theorem t_X0_checkMeetingSet_t2 (l : Launch) (hfl : l.flags = flags0) (D : va_G) (h0 a1 a2 : Nat) (cA cJ : ClassId) (v : Nat → Int) (L P : Int → Int) (z : Int) (h1 : mRI z) (h2 : 1 ≤ mPop z 32 ∧ mPop z 32 ≤ 5) (h3 : ¬ mUsh z (v 0) = 0)  : mT l yX0_checkMeetingSet wsX0_checkMeetingSet ({ frames := 7, cells := 1, slots := 6, locals := 111 }) [.ref h0, .int (mI (z))] (mwB D (mXW h0 a1 a2 cA v L P) (mTy cA cJ)) "java/lang/IndexOutOfBoundsException" := by
  refine mw_openX (cc := cX0_checkMeetingSet) (maxL := 2) (ret := none) (by decide) rfl (Nat.le_of_ble_eq_true rfl) ?_
  intro p e s m below meth c ls hC hr hlocks hout hB hE hl
  obtain ⟨hx, hb, hml, hown, hts⟩ := id hC
  obtain ⟨hP, hK⟩ := hB
  have hl : lv_has ls 2 [(0, .ref h0), (1, .int (mI (z)))] := hl
  have q1 := mPop_r z 32
  refine lv_iload_n hx hb dX0_checkMeetingSet_0 rfl (lv_at hl 1 rfl) ?_
  refine mw_cSi (rest := []) hC (c_J6_bitCount_0f7a4 l z (by omega)) (va_cwS 1 hts gX0_checkMeetingSet_J6_bitCount_0f7a4 rfl rfl rfl (by decide +kernel) ⟨Nat.le_of_ble_eq_true rfl, Nat.le_of_ble_eq_true rfl⟩) rfl hl.1 rfl (Nat.le_of_ble_eq_true rfl) ⟨Nat.zero_le _, Nat.zero_le _⟩ dX0_checkMeetingSet_1 ?_
  refine mw_iconst hx hb dX0_checkMeetingSet_4 ?_
  refine mw_iconst hx hb dX0_checkMeetingSet_5 ?_
  refine mw_cSi (rest := []) hC (c_X0_isWithin l (mPop z 32) 1 5 (by omega) (by omega) (by omega)) (va_cwS 3 hts gX0_checkMeetingSet_X0_isWithin rfl rfl rfl (by decide +kernel) ⟨Nat.le_of_ble_eq_true rfl, Nat.le_of_ble_eq_true rfl⟩) rfl hl.1 rfl (Nat.le_of_ble_eq_true rfl) ⟨Nat.zero_le _, Nat.zero_le _⟩ dX0_checkMeetingSet_6 ?_
  refine mw_topi (y := 1) (mB_t (by omega)) ?_
  refine mw_cSv (rest := []) hC (c_X0_checkArgument l) (va_cwS 1 hts gX0_checkMeetingSet_X0_checkArgument rfl rfl rfl (by decide +kernel) ⟨Nat.le_of_ble_eq_true rfl, Nat.le_of_ble_eq_true rfl⟩) rfl hl.1 rfl (Nat.le_of_ble_eq_true rfl) ⟨Nat.zero_le _, Nat.zero_le _⟩ dX0_checkMeetingSet_9 ?_
  refine lv_aload_n hx hb dX0_checkMeetingSet_12 rfl (lv_at hl 0 rfl) ?_
  refine lv_iload_n hx hb dX0_checkMeetingSet_13 rfl (lv_at hl 1 rfl) ?_
  exact mw_tV (rest := []) (q := (RX0, TX0, 10)) hC (t_X0_checkMarkets_t l hfl D h0 a1 a2 cA cJ v L P z (by omega)) hE (cwV 1 hts gX0_checkMeetingSet_X0_checkMarkets rfl rfl rfl (by decide +kernel) ⟨Nat.le_of_ble_eq_true rfl, Nat.le_of_ble_eq_true rfl⟩) hK hP rfl rfl rfl hl.1 rfl (Nat.le_of_ble_eq_true rfl) ⟨Nat.le_of_ble_eq_true rfl, Nat.le_of_ble_eq_true rfl⟩ hout hlocks dX0_checkMeetingSet_14 (fun t ht => ⟨rfl, ht⟩)
end
section
theorem mSet_s (L P : Int → Int) (d : Int) (k : Nat) : mSet L P d (k + 1) = mSet L P d k + (if d % L (k : Int) = P (k : Int) then 2 ^ k else 0) := rfl
set_option maxHeartbeats 4000000 in
set_option maxRecDepth 100000 in
theorem c_X0_isOn (l : Launch) (D : va_G) (h0 a1 a2 : Nat) (cA cJ : ClassId) (v : Nat → Int) (L P : Int → Int) (m9 d : Int) (hok : mOK v L P) (hk : mMk v m9) (hd : mR2 d) : mP l yX0_isOn wsX0_isOn ({ frames := 2, cells := 0, slots := 0, locals := 48 }) [.ref h0, .int (mI (m9)), .long (mL (d))] (mwB D (mXW h0 a1 a2 cA v L P) (mTy cA cJ)) (some (.int (mI (mB (d % L m9 = P m9))))) := by
  refine mw_open (cc := cX0_isOn) (maxL := 4) (ret := (some .boolean)) (by decide +kernel) rfl (Nat.le_of_ble_eq_true rfl) ?_
  intro p e s m below meth c ls hC hr hlocks hB hl
  obtain ⟨hx, hb, hml, hown, hts⟩ := id hC
  obtain ⟨hP, hK⟩ := hB
  have hl : lv_has ls 4 [(0, .ref h0), (1, .int (mI (m9))), (2, .long (mL (d)))] := hl
  obtain ⟨⟨o1, o2⟩, oL, ⟨o3, o4, o5, o6, o7, o8⟩, ⟨o9, o10, o11, o12, o13, o14, o15, o16⟩⟩ := hok
  obtain ⟨l1, l2, l3, l4⟩ := oL m9 (by omega) (by omega)
  have f1 := m_mod_r (a := d) (b := L m9) (by omega)
  refine lv_lload_n hx hb dX0_isOn_0 rfl (lv_at hl 2 rfl) ?_
  refine lv_aload_n hx hb dX0_isOn_1 rfl (lv_at hl 0 rfl) ?_
  refine lv_iload_n hx hb dX0_isOn_2 rfl (lv_at hl 1 rfl) ?_
  refine mw_cVi (rest := [.long (mL (d))]) (q := (RX0, TX0, 10)) hC (c_X0_lengthOf l D h0 a1 a2 cA cJ v L P m9 (by omega)) (cwV 1 hts gX0_isOn_X0_lengthOf rfl rfl rfl (by decide +kernel) ⟨Nat.le_of_ble_eq_true rfl, Nat.le_of_ble_eq_true rfl⟩) hK hP rfl rfl rfl hl.1 rfl (Nat.le_of_ble_eq_true rfl) ⟨Nat.zero_le _, Nat.zero_le _⟩ dX0_isOn_3 ?_
  refine mw_i2l hx hb (by omega) dX0_isOn_6 ?_
  refine mw_cSl (rest := []) hC (c_X0_modulo l d (L m9) (by omega) (by omega) (by omega)) (va_cwS 2 hts gX0_isOn_X0_modulo rfl rfl rfl (by decide +kernel) ⟨Nat.le_of_ble_eq_true rfl, Nat.le_of_ble_eq_true rfl⟩) rfl hl.1 rfl (Nat.le_of_ble_eq_true rfl) ⟨Nat.zero_le _, Nat.zero_le _⟩ dX0_isOn_7 ?_
  refine lv_aload_n hx hb dX0_isOn_10 rfl (lv_at hl 0 rfl) ?_
  refine lv_iload_n hx hb dX0_isOn_11 rfl (lv_at hl 1 rfl) ?_
  refine mw_cVi (rest := [.long (mL (d % (L m9)))]) (q := (RX0, TX0, 10)) hC (c_X0_placeOf l D h0 a1 a2 cA cJ v L P m9 (by omega)) (cwV 1 hts gX0_isOn_X0_placeOf rfl rfl rfl (by decide +kernel) ⟨Nat.le_of_ble_eq_true rfl, Nat.le_of_ble_eq_true rfl⟩) hK hP rfl rfl rfl hl.1 rfl (Nat.le_of_ble_eq_true rfl) ⟨Nat.zero_le _, Nat.zero_le _⟩ dX0_isOn_12 ?_
  refine mw_i2l hx hb (by omega) dX0_isOn_15 ?_
  refine mw_lcmp_ne (tgt := 24) hx hb (by omega) (by omega) dX0_isOn_16 dX0_isOn_17 (by decide) (fun c_17 => ?_) (fun c_17 => ?_)
  · refine mw_iconst hx hb dX0_isOn_24 ?_
    exact mw_retZ hx hb hr hlocks dX0_isOn_25 (by first | rfl | exact (mB_t (by omega)).symm | exact (mB_f (by omega)).symm | exact mB_iff (by omega) | omega)
  · refine mw_iconst hx hb dX0_isOn_20 ?_
    refine lv_goto (tgt := 25) hx hb dX0_isOn_21 (by decide) ?_
    exact mw_retZ hx hb hr hlocks dX0_isOn_25 (by first | rfl | exact (mB_t (by omega)).symm | exact (mB_f (by omega)).symm | exact mB_iff (by omega) | omega)

set_option maxHeartbeats 4000000 in
set_option maxRecDepth 100000 in
theorem c_X0_countHeld (l : Launch) (D : va_G) (h0 a1 a2 : Nat) (cA cJ : ClassId) (v : Nat → Int) (L P : Int → Int) (m9 a b : Int) (hok : mOK v L P) (hk : mMk v m9) (ha : -10000000 ≤ a ∧ a ≤ 10000000) (hb9 : -10000000 ≤ b ∧ b ≤ 10000000) : mP l yX0_countHeld wsX0_countHeld ({ frames := 2, cells := 0, slots := 0, locals := 48 }) [.ref h0, .int (mI (m9)), .int (mI (a)), .int (mI (b))] (mwB D (mXW h0 a1 a2 cA v L P) (mTy cA cJ)) (some (.int (mI (mCnt L P m9 a b)))) := by
  refine mw_open (cc := cX0_countHeld) (maxL := 6) (ret := (some .int)) (by decide +kernel) rfl (Nat.le_of_ble_eq_true rfl) ?_
  intro p e s m below meth c ls hC hr hlocks hB hl
  obtain ⟨hx, hb, hml, hown, hts⟩ := id hC
  obtain ⟨hP, hK⟩ := hB
  have hl : lv_has ls 6 [(0, .ref h0), (1, .int (mI (m9))), (2, .int (mI (a))), (3, .int (mI (b)))] := hl
  obtain ⟨⟨o1, o2⟩, oL, ⟨o3, o4, o5, o6, o7, o8⟩, ⟨o9, o10, o11, o12, o13, o14, o15, o16⟩⟩ := hok
  obtain ⟨l1, l2, l3, l4⟩ := oL m9 (by omega) (by omega)
  refine lv_aload_n hx hb dX0_countHeld_0 rfl (lv_at hl 0 rfl) ?_
  refine lv_iload_n hx hb dX0_countHeld_1 rfl (lv_at hl 1 rfl) ?_
  refine mw_cVi (rest := []) (q := (RX0, TX0, 10)) hC (c_X0_lengthOf l D h0 a1 a2 cA cJ v L P m9 (by omega)) (cwV 1 hts gX0_countHeld_X0_lengthOf rfl rfl rfl (by decide +kernel) ⟨Nat.le_of_ble_eq_true rfl, Nat.le_of_ble_eq_true rfl⟩) hK hP rfl rfl rfl hl.1 rfl (Nat.le_of_ble_eq_true rfl) ⟨Nat.zero_le _, Nat.zero_le _⟩ dX0_countHeld_2 ?_
  refine lv_istore (lv' := [(4, .int (mI (L m9))), (0, .ref h0), (1, .int (mI (m9))), (2, .int (mI (a))), (3, .int (mI (b)))]) hx hb dX0_countHeld_5 hl (by decide) rfl (fun ls hl => ?_)
  refine lv_aload_n hx hb dX0_countHeld_7 rfl (lv_at hl 1 rfl) ?_
  refine lv_iload_n hx hb dX0_countHeld_8 rfl (lv_at hl 2 rfl) ?_
  refine mw_cVi (rest := []) (q := (RX0, TX0, 10)) hC (c_X0_placeOf l D h0 a1 a2 cA cJ v L P m9 (by omega)) (cwV 1 hts gX0_countHeld_X0_placeOf rfl rfl rfl (by decide +kernel) ⟨Nat.le_of_ble_eq_true rfl, Nat.le_of_ble_eq_true rfl⟩) hK hP rfl rfl rfl hl.1 rfl (Nat.le_of_ble_eq_true rfl) ⟨Nat.zero_le _, Nat.zero_le _⟩ dX0_countHeld_9 ?_
  refine lv_istore (lv' := [(5, .int (mI (P m9))), (4, .int (mI (L m9))), (0, .ref h0), (1, .int (mI (m9))), (2, .int (mI (a))), (3, .int (mI (b)))]) hx hb dX0_countHeld_12 hl (by decide) rfl (fun ls hl => ?_)
  refine lv_iload_n hx hb dX0_countHeld_14 rfl (lv_at hl 5 rfl) ?_
  refine lv_iload hx hb dX0_countHeld_15 (lv_at hl 0 rfl) ?_
  refine mw_isub hx hb dX0_countHeld_17 ?_
  refine mw_i2l hx hb (by omega) dX0_countHeld_18 ?_
  refine lv_iload hx hb dX0_countHeld_19 (lv_at hl 1 rfl) ?_
  refine mw_i2l hx hb (by omega) dX0_countHeld_21 ?_
  refine mw_cSl (rest := []) hC (c_X0_divide l (b - (P m9)) (L m9) (by omega) (by omega) (by omega)) (va_cwS 2 hts gX0_countHeld_X0_divide rfl rfl rfl (by decide +kernel) ⟨Nat.le_of_ble_eq_true rfl, Nat.le_of_ble_eq_true rfl⟩) rfl hl.1 rfl (Nat.le_of_ble_eq_true rfl) ⟨Nat.zero_le _, Nat.zero_le _⟩ dX0_countHeld_22 ?_
  refine lv_iload_n hx hb dX0_countHeld_25 rfl (lv_at hl 4 rfl) ?_
  refine mw_iconst hx hb dX0_countHeld_26 ?_
  refine mw_isub hx hb dX0_countHeld_27 ?_
  refine lv_iload hx hb dX0_countHeld_28 (lv_at hl 0 rfl) ?_
  refine mw_isub hx hb dX0_countHeld_30 ?_
  refine mw_i2l hx hb (by omega) dX0_countHeld_31 ?_
  refine lv_iload hx hb dX0_countHeld_32 (lv_at hl 1 rfl) ?_
  refine mw_i2l hx hb (by omega) dX0_countHeld_34 ?_
  refine mw_cSl (rest := [.long (mL ((b - (P m9)) / (L m9)))]) hC (c_X0_divide l ((a - 1) - (P m9)) (L m9) (by omega) (by omega) (by omega)) (va_cwS 2 hts gX0_countHeld_X0_divide rfl rfl rfl (by decide +kernel) ⟨Nat.le_of_ble_eq_true rfl, Nat.le_of_ble_eq_true rfl⟩) rfl hl.1 rfl (Nat.le_of_ble_eq_true rfl) ⟨Nat.zero_le _, Nat.zero_le _⟩ dX0_countHeld_35 ?_
  refine mw_lsub hx hb dX0_countHeld_38 ?_
  refine mw_l2i hx hb dX0_countHeld_39 ?_
  exact mw_retI hx hb hr hlocks dX0_countHeld_40 rfl

set_option maxHeartbeats 4000000 in
set_option maxRecDepth 100000 in
theorem c_X0_moonParts (l : Launch) (D : va_G) (h0 a1 a2 : Nat) (cA cJ : ClassId) (v : Nat → Int) (L P : Int → Int) (d : Int) (hok : mOK v L P)  : mP l yX0_moonParts wsX0_moonParts ({ frames := 0, cells := 0, slots := 0, locals := 0 }) [.ref h0, .long (mL (d))] (mwB D (mXW h0 a1 a2 cA v L P) (mTy cA cJ)) (some (.long (mL (mMoon v d)))) := by
  refine mw_open (cc := cX0_moonParts) (maxL := 3) (ret := (some .long)) (by decide +kernel) rfl (Nat.le_of_ble_eq_true rfl) ?_
  intro p e s m below meth c ls hC hr hlocks hB hl
  obtain ⟨hx, hb, hml, hown, hts⟩ := id hC
  obtain ⟨hP, hK⟩ := hB
  have hin : ∀ w ∈ wsX00, w ∈ wsX0_moonParts := by decide +kernel
  have hl : lv_has ls 3 [(0, .ref h0), (1, .long (mL (d)))] := hl
  obtain ⟨⟨o1, o2⟩, oL, ⟨o3, o4, o5, o6, o7, o8⟩, ⟨o9, o10, o11, o12, o13, o14, o15, o16⟩⟩ := hok
  refine lv_lload_n hx hb dX0_moonParts_0 rfl (lv_at hl 1 rfl) ?_
  refine lv_aload_n hx hb dX0_moonParts_1 rfl (lv_at hl 0 rfl) ?_
  refine mw_getX hx hb hts hin hown hK hP rfl 5 (by decide) (by decide +kernel) rfl rfl dX0_moonParts_2 ?_
  refine mw_i2l hx hb (by omega) dX0_moonParts_5 ?_
  refine mw_ladd hx hb dX0_moonParts_6 ?_
  refine lv_aload_n hx hb dX0_moonParts_7 rfl (lv_at hl 0 rfl) ?_
  refine mw_getX hx hb hts hin hown hK hP rfl 4 (by decide) (by decide +kernel) rfl rfl dX0_moonParts_8 ?_
  refine mw_i2l hx hb (by omega) dX0_moonParts_11 ?_
  refine mw_lmul hx hb dX0_moonParts_12 ?_
  exact mw_retL hx hb hr hlocks dX0_moonParts_13 rfl

set_option maxHeartbeats 4000000 in
set_option maxRecDepth 100000 in
theorem c_X0_lunarDayOf (l : Launch) (D : va_G) (h0 a1 a2 : Nat) (cA cJ : ClassId) (v : Nat → Int) (L P : Int → Int) (d : Int) (hok : mOK v L P) (hd : -1000000000000 ≤ d ∧ d ≤ 1000000000000) : mP l yX0_lunarDayOf wsX0_lunarDayOf ({ frames := 2, cells := 0, slots := 0, locals := 48 }) [.ref h0, .long (mL (d))] (mwB D (mXW h0 a1 a2 cA v L P) (mTy cA cJ)) (some (.long (mL (mLunar v d)))) := by
  refine mw_open (cc := cX0_lunarDayOf) (maxL := 3) (ret := (some .long)) (by decide +kernel) rfl (Nat.le_of_ble_eq_true rfl) ?_
  intro p e s m below meth c ls hC hr hlocks hB hl
  obtain ⟨hx, hb, hml, hown, hts⟩ := id hC
  obtain ⟨hP, hK⟩ := hB
  have hin : ∀ w ∈ wsX00, w ∈ wsX0_lunarDayOf := by decide +kernel
  have hl : lv_has ls 3 [(0, .ref h0), (1, .long (mL (d)))] := hl
  have hok9 := hok
  obtain ⟨⟨o1, o2⟩, oL, ⟨o3, o4, o5, o6, o7, o8⟩, ⟨o9, o10, o11, o12, o13, o14, o15, o16⟩⟩ := hok9
  have f1 := m_bound (d + v 3) (v 2) (A := 1000000001000) (B := 100) (by omega) (by omega)
  have f2 : mMoon v d = (d + v 3) * v 2 := rfl
  have f3 := m_mod_r (a := mMoon v d) (b := v 1) (by omega)
  refine lv_aload_n hx hb dX0_lunarDayOf_0 rfl (lv_at hl 0 rfl) ?_
  refine lv_lload_n hx hb dX0_lunarDayOf_1 rfl (lv_at hl 1 rfl) ?_
  refine mw_cVl (rest := []) (q := (RX0, TX0, 10)) hC (c_X0_moonParts l D h0 a1 a2 cA cJ v L P d (id hok)) (cwV 1 hts gX0_lunarDayOf_X0_moonParts rfl rfl rfl (by decide +kernel) ⟨Nat.le_of_ble_eq_true rfl, Nat.le_of_ble_eq_true rfl⟩) hK hP rfl rfl rfl hl.1 rfl (Nat.le_of_ble_eq_true rfl) ⟨Nat.zero_le _, Nat.zero_le _⟩ dX0_lunarDayOf_2 ?_
  refine lv_aload_n hx hb dX0_lunarDayOf_5 rfl (lv_at hl 0 rfl) ?_
  refine mw_getX hx hb hts hin hown hK hP rfl 3 (by decide) (by decide +kernel) rfl rfl dX0_lunarDayOf_6 ?_
  refine mw_i2l hx hb (by omega) dX0_lunarDayOf_9 ?_
  refine mw_cSl (rest := []) hC (c_X0_modulo l (mMoon v d) (v 1) (by omega) (by omega) (by omega)) (va_cwS 2 hts gX0_lunarDayOf_X0_modulo rfl rfl rfl (by decide +kernel) ⟨Nat.le_of_ble_eq_true rfl, Nat.le_of_ble_eq_true rfl⟩) rfl hl.1 rfl (Nat.le_of_ble_eq_true rfl) ⟨Nat.zero_le _, Nat.zero_le _⟩ dX0_lunarDayOf_10 ?_
  refine lv_aload_n hx hb dX0_lunarDayOf_13 rfl (lv_at hl 0 rfl) ?_
  refine mw_getX hx hb hts hin hown hK hP rfl 4 (by decide) (by decide +kernel) rfl rfl dX0_lunarDayOf_14 ?_
  refine mw_i2l hx hb (by omega) dX0_lunarDayOf_17 ?_
  refine mw_cSl (rest := []) hC (c_X0_divide l ((mMoon v d) % (v 1)) (v 2) (by omega) (by omega) (by omega)) (va_cwS 2 hts gX0_lunarDayOf_X0_divide rfl rfl rfl (by decide +kernel) ⟨Nat.le_of_ble_eq_true rfl, Nat.le_of_ble_eq_true rfl⟩) rfl hl.1 rfl (Nat.le_of_ble_eq_true rfl) ⟨Nat.zero_le _, Nat.zero_le _⟩ dX0_lunarDayOf_18 ?_
  exact mw_retL hx hb hr hlocks dX0_lunarDayOf_21 rfl

set_option maxHeartbeats 4000000 in
set_option maxRecDepth 100000 in
theorem c_X0_yearBegin (l : Launch) (D : va_G) (h0 a1 a2 : Nat) (cA cJ : ClassId) (v : Nat → Int) (L P : Int → Int) (y : Int) (hok : mOK v L P) (hy : -20000 ≤ y ∧ y ≤ 20000) : mP l yX0_yearBegin wsX0_yearBegin ({ frames := 2, cells := 0, slots := 0, locals := 48 }) [.ref h0, .int (mI (y))] (mwB D (mXW h0 a1 a2 cA v L P) (mTy cA cJ)) (some (.int (mI (mBeg v y)))) := by
  refine mw_open (cc := cX0_yearBegin) (maxL := 2) (ret := (some .int)) (by decide +kernel) rfl (Nat.le_of_ble_eq_true rfl) ?_
  intro p e s m below meth c ls hC hr hlocks hB hl
  obtain ⟨hx, hb, hml, hown, hts⟩ := id hC
  obtain ⟨hP, hK⟩ := hB
  have hin : ∀ w ∈ wsX00, w ∈ wsX0_yearBegin := by decide +kernel
  have hl : lv_has ls 2 [(0, .ref h0), (1, .int (mI (y)))] := hl
  obtain ⟨⟨o1, o2⟩, oL, ⟨o3, o4, o5, o6, o7, o8⟩, ⟨o9, o10, o11, o12, o13, o14, o15, o16⟩⟩ := hok
  have f1 := m_bound (v 5) y (A := 400) (B := 20000) (by omega) (by omega)
  refine lv_aload_n hx hb dX0_yearBegin_0 rfl (lv_at hl 0 rfl) ?_
  refine mw_getX hx hb hts hin hown hK hP rfl 6 (by decide) (by decide +kernel) rfl rfl dX0_yearBegin_1 ?_
  refine lv_iload_n hx hb dX0_yearBegin_4 rfl (lv_at hl 1 rfl) ?_
  refine mw_imul hx hb dX0_yearBegin_5 ?_
  refine lv_aload_n hx hb dX0_yearBegin_6 rfl (lv_at hl 0 rfl) ?_
  refine mw_getX hx hb hts hin hown hK hP rfl 7 (by decide) (by decide +kernel) rfl rfl dX0_yearBegin_7 ?_
  refine lv_iload_n hx hb dX0_yearBegin_10 rfl (lv_at hl 1 rfl) ?_
  refine mw_imul hx hb dX0_yearBegin_11 ?_
  refine lv_aload_n hx hb dX0_yearBegin_12 rfl (lv_at hl 0 rfl) ?_
  refine mw_getX hx hb hts hin hown hK hP rfl 8 (by decide) (by decide +kernel) rfl rfl dX0_yearBegin_13 ?_
  refine mw_iadd hx hb dX0_yearBegin_16 ?_
  refine mw_i2l hx hb (by omega) dX0_yearBegin_17 ?_
  refine lv_aload_n hx hb dX0_yearBegin_18 rfl (lv_at hl 0 rfl) ?_
  refine mw_getX hx hb hts hin hown hK hP rfl 9 (by decide) (by decide +kernel) rfl rfl dX0_yearBegin_19 ?_
  refine mw_i2l hx hb (by omega) dX0_yearBegin_22 ?_
  refine mw_cSl (rest := [.int (mI ((v 4) * y))]) hC (c_X0_divide l (((v 5) * y) + (v 6)) (v 7) (by omega) (by omega) (by omega)) (va_cwS 2 hts gX0_yearBegin_X0_divide rfl rfl rfl (by decide +kernel) ⟨Nat.le_of_ble_eq_true rfl, Nat.le_of_ble_eq_true rfl⟩) rfl hl.1 rfl (Nat.le_of_ble_eq_true rfl) ⟨Nat.zero_le _, Nat.zero_le _⟩ dX0_yearBegin_23 ?_
  refine mw_l2i hx hb dX0_yearBegin_26 ?_
  refine mw_iadd hx hb dX0_yearBegin_27 ?_
  exact mw_retI hx hb hr hlocks dX0_yearBegin_28 rfl

set_option maxHeartbeats 4000000 in
set_option maxRecDepth 100000 in
theorem c_X0_hasLeapDay (l : Launch) (D : va_G) (h0 a1 a2 : Nat) (cA cJ : ClassId) (v : Nat → Int) (L P : Int → Int) (y : Int) (hok : mOK v L P) (hy : -20000 ≤ y ∧ y ≤ 20000) : mP l yX0_hasLeapDay wsX0_hasLeapDay ({ frames := 2, cells := 0, slots := 0, locals := 48 }) [.ref h0, .int (mI (y))] (mwB D (mXW h0 a1 a2 cA v L P) (mTy cA cJ)) (some (.int (mI (mB (mLeap v y))))) := by
  refine mw_open (cc := cX0_hasLeapDay) (maxL := 2) (ret := (some .boolean)) (by decide +kernel) rfl (Nat.le_of_ble_eq_true rfl) ?_
  intro p e s m below meth c ls hC hr hlocks hB hl
  obtain ⟨hx, hb, hml, hown, hts⟩ := id hC
  obtain ⟨hP, hK⟩ := hB
  have hin : ∀ w ∈ wsX00, w ∈ wsX0_hasLeapDay := by decide +kernel
  have hl : lv_has ls 2 [(0, .ref h0), (1, .int (mI (y)))] := hl
  obtain ⟨⟨o1, o2⟩, oL, ⟨o3, o4, o5, o6, o7, o8⟩, ⟨o9, o10, o11, o12, o13, o14, o15, o16⟩⟩ := hok
  have f1 := m_bound (v 5) y (A := 400) (B := 20000) (by omega) (by omega)
  have f2 := m_mod_r (a := v 5 * y + v 6) (b := v 7) (by omega)
  refine lv_aload_n hx hb dX0_hasLeapDay_0 rfl (lv_at hl 0 rfl) ?_
  refine mw_getX hx hb hts hin hown hK hP rfl 7 (by decide) (by decide +kernel) rfl rfl dX0_hasLeapDay_1 ?_
  refine lv_iload_n hx hb dX0_hasLeapDay_4 rfl (lv_at hl 1 rfl) ?_
  refine mw_imul hx hb dX0_hasLeapDay_5 ?_
  refine lv_aload_n hx hb dX0_hasLeapDay_6 rfl (lv_at hl 0 rfl) ?_
  refine mw_getX hx hb hts hin hown hK hP rfl 8 (by decide) (by decide +kernel) rfl rfl dX0_hasLeapDay_7 ?_
  refine mw_iadd hx hb dX0_hasLeapDay_10 ?_
  refine mw_i2l hx hb (by omega) dX0_hasLeapDay_11 ?_
  refine lv_aload_n hx hb dX0_hasLeapDay_12 rfl (lv_at hl 0 rfl) ?_
  refine mw_getX hx hb hts hin hown hK hP rfl 9 (by decide) (by decide +kernel) rfl rfl dX0_hasLeapDay_13 ?_
  refine mw_i2l hx hb (by omega) dX0_hasLeapDay_16 ?_
  refine mw_cSl (rest := []) hC (c_X0_modulo l (((v 5) * y) + (v 6)) (v 7) (by omega) (by omega) (by omega)) (va_cwS 2 hts gX0_hasLeapDay_X0_modulo rfl rfl rfl (by decide +kernel) ⟨Nat.le_of_ble_eq_true rfl, Nat.le_of_ble_eq_true rfl⟩) rfl hl.1 rfl (Nat.le_of_ble_eq_true rfl) ⟨Nat.zero_le _, Nat.zero_le _⟩ dX0_hasLeapDay_17 ?_
  refine lv_aload_n hx hb dX0_hasLeapDay_20 rfl (lv_at hl 0 rfl) ?_
  refine mw_getX hx hb hts hin hown hK hP rfl 9 (by decide) (by decide +kernel) rfl rfl dX0_hasLeapDay_21 ?_
  refine lv_aload_n hx hb dX0_hasLeapDay_24 rfl (lv_at hl 0 rfl) ?_
  refine mw_getX hx hb hts hin hown hK hP rfl 7 (by decide) (by decide +kernel) rfl rfl dX0_hasLeapDay_25 ?_
  refine mw_isub hx hb dX0_hasLeapDay_28 ?_
  refine mw_i2l hx hb (by omega) dX0_hasLeapDay_29 ?_
  refine mw_lcmp_lt (tgt := 38) hx hb (by omega) (by omega) dX0_hasLeapDay_30 dX0_hasLeapDay_31 (by decide) (fun c_31 => ?_) (fun c_31 => ?_)
  · refine mw_iconst hx hb dX0_hasLeapDay_38 ?_
    exact mw_retZ hx hb hr hlocks dX0_hasLeapDay_39 (by first | rfl | exact (mB_t (by omega)).symm | exact (mB_f (by omega)).symm | exact mB_iff (by omega) | omega)
  · refine mw_iconst hx hb dX0_hasLeapDay_34 ?_
    refine lv_goto (tgt := 39) hx hb dX0_hasLeapDay_35 (by decide) ?_
    exact mw_retZ hx hb hr hlocks dX0_hasLeapDay_39 (by first | rfl | exact (mB_t (by omega)).symm | exact (mB_f (by omega)).symm | exact mB_iff (by omega) | omega)

set_option maxHeartbeats 4000000 in
set_option maxRecDepth 100000 in
theorem c_X0_yearOf (l : Launch) (D : va_G) (h0 a1 a2 : Nat) (cA cJ : ClassId) (v : Nat → Int) (L P : Int → Int) (d : Int) (hok : mOK v L P) (hd : mDay d) : mP l yX0_yearOf wsX0_yearOf ({ frames := 2, cells := 0, slots := 0, locals := 48 }) [.ref h0, .int (mI (d))] (mwB D (mXW h0 a1 a2 cA v L P) (mTy cA cJ)) (some (.int (mI (mYr v d)))) := by
  refine mw_open (cc := cX0_yearOf) (maxL := 4) (ret := (some .int)) (by decide +kernel) rfl (Nat.le_of_ble_eq_true rfl) ?_
  intro p e s m below meth c ls hC hr hlocks hB hl
  obtain ⟨hx, hb, hml, hown, hts⟩ := id hC
  obtain ⟨hP, hK⟩ := hB
  have hin : ∀ w ∈ wsX00, w ∈ wsX0_yearOf := by decide +kernel
  have hl : lv_has ls 4 [(0, .ref h0), (1, .int (mI (d)))] := hl
  obtain ⟨⟨o1, o2⟩, oL, ⟨o3, o4, o5, o6, o7, o8⟩, ⟨o9, o10, o11, o12, o13, o14, o15, o16⟩⟩ := hok
  have f1 := m_bound (v 7) (d + 1) (A := 400) (B := 1000001) (by omega) (by omega)
  have f2 := m_bound (v 4) (v 7) (A := 500) (B := 400) (by omega) (by omega)
  have f3 : 0 < v 4 * v 7 := Int.mul_pos (by omega) (by omega)
  refine lv_aload_n hx hb dX0_yearOf_0 rfl (lv_at hl 0 rfl) ?_
  refine mw_getX hx hb hts hin hown hK hP rfl 9 (by decide) (by decide +kernel) rfl rfl dX0_yearOf_1 ?_
  refine mw_i2l hx hb (by omega) dX0_yearOf_4 ?_
  refine lv_iload_n hx hb dX0_yearOf_5 rfl (lv_at hl 1 rfl) ?_
  refine mw_iconst hx hb dX0_yearOf_6 ?_
  refine mw_iadd hx hb dX0_yearOf_7 ?_
  refine mw_i2l hx hb (by omega) dX0_yearOf_8 ?_
  refine mw_lmul hx hb dX0_yearOf_9 ?_
  refine mw_lconst hx hb 1 (by decide +kernel) dX0_yearOf_10 ?_
  refine mw_lsub hx hb dX0_yearOf_11 ?_
  refine lv_aload_n hx hb dX0_yearOf_12 rfl (lv_at hl 0 rfl) ?_
  refine mw_getX hx hb hts hin hown hK hP rfl 8 (by decide) (by decide +kernel) rfl rfl dX0_yearOf_13 ?_
  refine mw_i2l hx hb (by omega) dX0_yearOf_16 ?_
  refine mw_lsub hx hb dX0_yearOf_17 ?_
  refine lv_lstore_n (lv' := [(2, .long (mL ((((v 7) * (d + 1)) - 1) - (v 6)))), (0, .ref h0), (1, .int (mI (d)))]) hx hb dX0_yearOf_18 rfl hl (by decide) rfl (fun ls hl => ?_)
  refine lv_lload_n hx hb dX0_yearOf_19 rfl (lv_at hl 0 rfl) ?_
  refine lv_aload_n hx hb dX0_yearOf_20 rfl (lv_at hl 1 rfl) ?_
  refine mw_getX hx hb hts hin hown hK hP rfl 6 (by decide) (by decide +kernel) rfl rfl dX0_yearOf_21 ?_
  refine mw_i2l hx hb (by omega) dX0_yearOf_24 ?_
  refine lv_aload_n hx hb dX0_yearOf_25 rfl (lv_at hl 1 rfl) ?_
  refine mw_getX hx hb hts hin hown hK hP rfl 9 (by decide) (by decide +kernel) rfl rfl dX0_yearOf_26 ?_
  refine mw_i2l hx hb (by omega) dX0_yearOf_29 ?_
  refine mw_lmul hx hb dX0_yearOf_30 ?_
  refine lv_aload_n hx hb dX0_yearOf_31 rfl (lv_at hl 1 rfl) ?_
  refine mw_getX hx hb hts hin hown hK hP rfl 7 (by decide) (by decide +kernel) rfl rfl dX0_yearOf_32 ?_
  refine mw_i2l hx hb (by omega) dX0_yearOf_35 ?_
  refine mw_ladd hx hb dX0_yearOf_36 ?_
  refine mw_cSl (rest := []) hC (c_X0_divide l ((((v 7) * (d + 1)) - 1) - (v 6)) (((v 4) * (v 7)) + (v 5)) (by omega) (by omega) (by omega)) (va_cwS 2 hts gX0_yearOf_X0_divide rfl rfl rfl (by decide +kernel) ⟨Nat.le_of_ble_eq_true rfl, Nat.le_of_ble_eq_true rfl⟩) rfl hl.1 rfl (Nat.le_of_ble_eq_true rfl) ⟨Nat.zero_le _, Nat.zero_le _⟩ dX0_yearOf_37 ?_
  refine mw_l2i hx hb dX0_yearOf_40 ?_
  exact mw_retI hx hb hr hlocks dX0_yearOf_41 rfl

set_option maxHeartbeats 4000000 in
set_option maxRecDepth 100000 in
theorem c_X0_setOn (l : Launch) (D : va_G) (h0 a1 a2 : Nat) (cA cJ : ClassId) (v : Nat → Int) (L P : Int → Int) (d : Int) (hok : mOK v L P) (hd : mDay d) : mP l yX0_setOn wsX0_setOn ({ frames := 3, cells := 0, slots := 0, locals := 71 }) [.ref h0, .int (mI (d))] (mwB D (mXW h0 a1 a2 cA v L P) (mTy cA cJ)) (some (.int (mI (mSet L P d (v 0).toNat)))) := by
  refine mw_open (cc := cX0_setOn) (maxL := 4) (ret := (some .int)) (by decide +kernel) rfl (Nat.le_of_ble_eq_true rfl) ?_
  intro p e s m below meth c ls hC hr hlocks hB hl
  obtain ⟨hx, hb, hml, hown, hts⟩ := id hC
  obtain ⟨hP, hK⟩ := hB
  have hin : ∀ w ∈ wsX00, w ∈ wsX0_setOn := by decide +kernel
  have hl : lv_has ls 4 [(0, .ref h0), (1, .int (mI (d)))] := hl
  have hok9 := hok
  obtain ⟨⟨o1, o2⟩, oL, ⟨o3, o4, o5, o6, o7, o8⟩, ⟨o9, o10, o11, o12, o13, o14, o15, o16⟩⟩ := hok9
  refine mw_iconst hx hb dX0_setOn_0 ?_
  refine lv_istore_n (lv' := [(2, .int (mI (0))), (0, .ref h0), (1, .int (mI (d)))]) hx hb dX0_setOn_1 rfl hl (by decide) rfl (fun ls hl => ?_)
  refine mw_iconst hx hb dX0_setOn_2 ?_
  refine lv_istore_n (lv' := [(3, .int (mI (0))), (2, .int (mI (0))), (0, .ref h0), (1, .int (mI (d)))]) hx hb dX0_setOn_3 rfl hl (by decide) rfl (fun ls hl => ?_)
  refine mw_loop (T := Int × Int) (nL := 4) (fun x => (0 ≤ x.1 ∧ x.1 ≤ v 0) ∧ x.2 = mSet L P d (x.1).toNat) (fun x => (v 0 - x.1).toNat) 4 (fun x => [(3, .int (mI (x.1))), (2, .int (mI (x.2))), (0, .ref h0), (1, .int (mI (d)))]) ?_ ((0 : Int), (0 : Int)) (show (0 ≤ (0 : Int) ∧ (0 : Int) ≤ v 0) ∧ (0 : Int) = mSet L P d ((0 : Int)).toNat from ⟨⟨by omega, by omega⟩, rfl⟩) ls (lv_sub hl [0, 1, 2, 3] rfl)
  intro x hI ih ls hl
  obtain ⟨i, z⟩ := x
  have hl : lv_has ls 4 [(3, .int (mI (i))), (2, .int (mI (z))), (0, .ref h0), (1, .int (mI (d)))] := hl
  have hI : (0 ≤ i ∧ i ≤ v 0) ∧ z = mSet L P d (i).toNat := hI
  obtain ⟨⟨i1, i2⟩, i3⟩ := hI
  have f1 := mSet_r L P d i.toNat
  have f2 : ((i.toNat : Nat) : Int) = i := by omega
  have f3 : (i + 1).toNat = i.toNat + 1 := by omega
  have f6 : i.toNat < 16 → mShl 1 i = 2 ^ i.toNat := fun h => by have := mShl_e i.toNat (by omega); rw [f2] at this; exact this
  have f4 : i < v 0 → d % L i = P i → mOr z (mShl 1 i) = mSet L P d (i + 1).toNat := fun h0 h => by
    rw [f3, f6 (by omega), i3, mOr_e f1.1 f1.2 (by omega), mSet_s, f2, if_pos h]
  have f5 : ¬ d % L i = P i → z = mSet L P d (i + 1).toNat := fun h => by
    rw [f3, mSet_s, f2, if_neg h, Int.add_zero]
    exact i3
  refine lv_iload_n hx hb dX0_setOn_4 rfl (lv_at hl 0 rfl) ?_
  refine lv_aload_n hx hb dX0_setOn_5 rfl (lv_at hl 2 rfl) ?_
  refine mw_getX hx hb hts hin hown hK hP rfl 2 (by decide) (by decide +kernel) rfl rfl dX0_setOn_6 ?_
  refine mw_icmp_ge (tgt := 34) hx hb (by omega) (by omega) dX0_setOn_9 (by decide) (fun c_9 => ?_) (fun c_9 => ?_)
  · refine lv_iload_n hx hb dX0_setOn_34 rfl (lv_at hl 1 rfl) ?_
    exact mw_retI hx hb hr hlocks dX0_setOn_35 (by rw [i3]; congr 1; omega)
  · refine lv_aload_n hx hb dX0_setOn_12 rfl (lv_at hl 2 rfl) ?_
    refine lv_iload_n hx hb dX0_setOn_13 rfl (lv_at hl 0 rfl) ?_
    refine lv_iload_n hx hb dX0_setOn_14 rfl (lv_at hl 3 rfl) ?_
    refine mw_i2l hx hb (by omega) dX0_setOn_15 ?_
    refine mw_cVi (rest := []) (q := (RX0, TX0, 10)) hC (c_X0_isOn l D h0 a1 a2 cA cJ v L P i d (id hok) (by omega) (by omega)) (cwV 2 hts gX0_setOn_X0_isOn rfl rfl rfl (by decide +kernel) ⟨Nat.le_of_ble_eq_true rfl, Nat.le_of_ble_eq_true rfl⟩) hK hP rfl rfl rfl hl.1 rfl (Nat.le_of_ble_eq_true rfl) ⟨Nat.zero_le _, Nat.zero_le _⟩ dX0_setOn_16 ?_
    refine mw_zeq (tgt := 28) hx hb dX0_setOn_19 (by decide) (fun c_19 => ?_) (fun c_19 => ?_)
    · refine mw_iinc (k := 0) (lv' := [(3, .int (mI (i + 1))), (2, .int (mI (z))), (0, .ref h0), (1, .int (mI (d)))]) hx hb dX0_setOn_28 hl rfl (by decide) rfl (fun ls hl => ?_)
      refine lv_goto (tgt := 4) hx hb dX0_setOn_31 (by decide) ?_
      exact ih ((i + 1), z) (show (0 ≤ (i + 1) ∧ (i + 1) ≤ v 0) ∧ z = mSet L P d ((i + 1)).toNat from ⟨⟨by omega, by omega⟩, f5 c_19⟩) (show (v 0 - (i + 1)).toNat < (v 0 - i).toNat from (by omega)) ls (lv_sub hl [0, 1, 2, 3] rfl)
    · refine lv_iload_n hx hb dX0_setOn_22 rfl (lv_at hl 1 rfl) ?_
      refine mw_iconst hx hb dX0_setOn_23 ?_
      refine lv_iload_n hx hb dX0_setOn_24 rfl (lv_at hl 0 rfl) ?_
      refine mw_ishl hx hb dX0_setOn_25 ?_
      refine mw_ior hx hb dX0_setOn_26 ?_
      refine lv_istore_n (lv' := [(2, .int (mI (mOr z (mShl 1 i)))), (3, .int (mI (i))), (0, .ref h0), (1, .int (mI (d)))]) hx hb dX0_setOn_27 rfl hl (by decide) rfl (fun ls hl => ?_)
      refine mw_iinc (k := 1) (lv' := [(3, .int (mI (i + 1))), (2, .int (mI (mOr z (mShl 1 i)))), (0, .ref h0), (1, .int (mI (d)))]) hx hb dX0_setOn_28 hl rfl (by decide) rfl (fun ls hl => ?_)
      refine lv_goto (tgt := 4) hx hb dX0_setOn_31 (by decide) ?_
      exact ih ((i + 1), (mOr z (mShl 1 i))) (show (0 ≤ (i + 1) ∧ (i + 1) ≤ v 0) ∧ (mOr z (mShl 1 i)) = mSet L P d ((i + 1)).toNat from ⟨⟨by omega, by omega⟩, f4 (by omega) c_19⟩) (show (v 0 - (i + 1)).toNat < (v 0 - i).toNat from (by omega)) ls (lv_sub hl [0, 1, 2, 3] rfl)

set_option maxHeartbeats 4000000 in
set_option maxRecDepth 100000 in
theorem c_X0_commonMultiple (l : Launch) (a b : Int) (ha : 1 ≤ a ∧ a ≤ 1000000000) (hb9 : 1 ≤ b ∧ b ≤ 60) : mP l yX0_commonMultiple wsX0_commonMultiple ({ frames := 2, cells := 0, slots := 0, locals := 48 }) [.long (mL (a)), .int (mI (b))] (fun _ => True) (some (.long (mL (a * (mFac a b : Int))))) := by
  refine mw_open (cc := cX0_commonMultiple) (maxL := 4) (ret := (some .long)) (by decide +kernel) rfl (Nat.le_of_ble_eq_true rfl) ?_
  intro p e s m below meth c ls hC hr hlocks hB hl
  obtain ⟨hx, hb, hml, hown, hts⟩ := id hC
  have hl : lv_has ls 4 [(0, .long (mL (a))), (2, .int (mI (b)))] := hl
  refine mw_iconst hx hb dX0_commonMultiple_0 ?_
  refine lv_istore_n (lv' := [(3, .int (mI (1))), (0, .long (mL (a))), (2, .int (mI (b)))]) hx hb dX0_commonMultiple_1 rfl hl (by decide) rfl (fun ls hl => ?_)
  refine mw_loop (T := Int) (nL := 4) (fun x => (1 ≤ x ∧ x ≤ b) ∧ ∀ k : Nat, (k : Int) + 1 < x → ¬ (a * ((k : Int) + 1)) % b = 0) (fun x => (b - x).toNat) 2 (fun x => [(3, .int (mI (x))), (0, .long (mL (a))), (2, .int (mI (b)))]) ?_ ((1 : Int)) (show (1 ≤ (1 : Int) ∧ (1 : Int) ≤ b) ∧ ∀ k : Nat, (k : Int) + 1 < (1 : Int) → ¬ (a * ((k : Int) + 1)) % b = 0 from ⟨⟨by omega, by omega⟩, fun k hk => by omega⟩) ls (lv_sub hl [0, 1, 2] rfl)
  intro x hI ih ls hl
  obtain ⟨i, rfl⟩ : ∃ y, y = x := ⟨_, rfl⟩
  have hl : lv_has ls 4 [(3, .int (mI (i))), (0, .long (mL (a))), (2, .int (mI (b)))] := hl
  have hI : (1 ≤ i ∧ i ≤ b) ∧ ∀ k : Nat, (k : Int) + 1 < i → ¬ (a * ((k : Int) + 1)) % b = 0 := hI
  obtain ⟨⟨i1, i2⟩, i3⟩ := hI
  have f1 := m_bound a i (A := 1000000000) (B := 60) (by omega) (by omega)
  have f3 := m_mod_r (a := a * i) (b := b) (by omega)
  have f2 : ∀ k : Nat, (k : Int) + 1 < i + 1 → a * i % b ≠ 0 → ¬ (a * ((k : Int) + 1)) % b = 0 := fun k hk hc => by
    rcases (by omega : (k : Int) + 1 < i ∨ (k : Int) + 1 = i) with q | q
    · exact i3 k q
    · rw [q]; exact hc
  have f4 : i ≤ b → (i < b → a * i % b = 0) → a * i = a * (mFac a b : Int) := fun h1 h2 => by
    have e : mFst (fun f => decide ((a * ((f : Int) + 1)) % b = 0)) (b.toNat - 1) = (i - 1).toNat := mFst_eq _ (by omega) (fun j hj => decide_eq_false (i3 j (by omega))) (fun h => decide_eq_true (by
      have e2 : (((i - 1).toNat : Nat) : Int) + 1 = i := by omega
      rw [e2]; exact h2 (by omega)))
    have e3 : (mFac a b : Int) = i := by
      unfold mFac
      rw [e]
      omega
    rw [e3]
  refine lv_iload_n hx hb dX0_commonMultiple_2 rfl (lv_at hl 0 rfl) ?_
  refine lv_iload_n hx hb dX0_commonMultiple_3 rfl (lv_at hl 2 rfl) ?_
  refine mw_icmp_ge (tgt := 32) hx hb (by omega) (by omega) dX0_commonMultiple_4 (by decide) (fun c_4 => ?_) (fun c_4 => ?_)
  · refine lv_lload_n hx hb dX0_commonMultiple_32 rfl (lv_at hl 1 rfl) ?_
    refine lv_iload_n hx hb dX0_commonMultiple_33 rfl (lv_at hl 2 rfl) ?_
    refine mw_i2l hx hb (by omega) dX0_commonMultiple_34 ?_
    refine mw_lmul hx hb dX0_commonMultiple_35 ?_
    exact mw_retL hx hb hr hlocks dX0_commonMultiple_36 (by have e : i = b := (by omega); subst e; exact f4 (Int.le_refl _) (fun h => absurd h (by omega)))
  · refine lv_lload_n hx hb dX0_commonMultiple_7 rfl (lv_at hl 1 rfl) ?_
    refine lv_iload_n hx hb dX0_commonMultiple_8 rfl (lv_at hl 0 rfl) ?_
    refine mw_i2l hx hb (by omega) dX0_commonMultiple_9 ?_
    refine mw_lmul hx hb dX0_commonMultiple_10 ?_
    refine lv_iload_n hx hb dX0_commonMultiple_11 rfl (lv_at hl 2 rfl) ?_
    refine mw_i2l hx hb (by omega) dX0_commonMultiple_12 ?_
    refine mw_cSl (rest := []) hC (c_X0_modulo l (a * i) b (by omega) (by omega) (by omega)) (va_cwS 2 hts gX0_commonMultiple_X0_modulo rfl rfl rfl (by decide +kernel) ⟨Nat.le_of_ble_eq_true rfl, Nat.le_of_ble_eq_true rfl⟩) rfl hl.1 rfl (Nat.le_of_ble_eq_true rfl) ⟨Nat.zero_le _, Nat.zero_le _⟩ dX0_commonMultiple_13 ?_
    refine mw_lconst hx hb 0 (by decide +kernel) dX0_commonMultiple_16 ?_
    refine mw_lcmp_ne (tgt := 26) hx hb (by omega) (by omega) dX0_commonMultiple_17 dX0_commonMultiple_18 (by decide) (fun c_18 => ?_) (fun c_18 => ?_)
    · refine mw_iinc (k := 0) (lv' := [(3, .int (mI (i + 1))), (0, .long (mL (a))), (2, .int (mI (b)))]) hx hb dX0_commonMultiple_26 hl rfl (by decide) rfl (fun ls hl => ?_)
      refine lv_goto (tgt := 2) hx hb dX0_commonMultiple_29 (by decide) ?_
      exact ih ((i + 1)) (show (1 ≤ (i + 1) ∧ (i + 1) ≤ b) ∧ ∀ k : Nat, (k : Int) + 1 < (i + 1) → ¬ (a * ((k : Int) + 1)) % b = 0 from ⟨⟨by omega, by omega⟩, fun k hk => f2 k hk c_18⟩) (show (b - (i + 1)).toNat < (b - i).toNat from (by omega)) ls (lv_sub hl [0, 1, 2] rfl)
    · refine lv_lload_n hx hb dX0_commonMultiple_21 rfl (lv_at hl 1 rfl) ?_
      refine lv_iload_n hx hb dX0_commonMultiple_22 rfl (lv_at hl 0 rfl) ?_
      refine mw_i2l hx hb (by omega) dX0_commonMultiple_23 ?_
      refine mw_lmul hx hb dX0_commonMultiple_24 ?_
      exact mw_retL hx hb hr hlocks dX0_commonMultiple_25 (f4 i2 (fun _ => by omega))
end
section
def mD0 (o : Option (Int × Int)) : Int := match o with
  | none => -1
  | some y => y.1
def mSt (o : Option (Int × Int)) : Int := match o with
  | none => 1
  | some y => y.2
def mSJ (L P : Int → Int) (m st d : Int) : Int := if (mJ (L m) (P m) st d : Int) < L m then d + (mJ (L m) (P m) st d : Int) * st else -1
theorem mFd_none {L P : Int → Int} {z d0 : Int} {k : Nat} (h : mFd L P z d0 k = none) : mFd L P z d0 (k + 1) = none := by unfold mFd; rw [h]
theorem mFd_bit {L P : Int → Int} {z d0 d st : Int} {k : Nat} (h : mFd L P z d0 k = some (d, st)) (hb : mBit z k = 1) : mFd L P z d0 (k + 1) = if (mJ (L (k : Int)) (P (k : Int)) st d : Int) < L (k : Int) then some (d + (mJ (L (k : Int)) (P (k : Int)) st d : Int) * st, st * (mFac st (L (k : Int)) : Int)) else none := by
  conv => lhs; unfold mFd
  rw [h]
  simp only [hb, if_true]
theorem mFd_no {L P : Int → Int} {z d0 d st : Int} {k : Nat} (h : mFd L P z d0 k = some (d, st)) (hb : ¬ mBit z k = 1) : mFd L P z d0 (k + 1) = some (d, st) := by
  conv => lhs; unfold mFd
  rw [h]
  simp only [hb, if_false]
theorem mFd_pre {L P : Int → Int} {z d0 : Int} {j : Nat} : ∀ n : Nat, (mFd L P z d0 (j + n)).isSome = true → ∃ y, mFd L P z d0 j = some y
  | 0, h => Option.isSome_iff_exists.mp h
  | n + 1, h => by
    cases e : mFd L P z d0 (j + n) with
    | none =>
      have h2 : mFd L P z d0 (j + (n + 1)) = none := mFd_none e
      rw [h2] at h
      cases h
    | some y => exact mFd_pre n (by rw [e]; rfl)
theorem mFd_nil {L P : Int → Int} {z d0 : Int} {j : Nat} (h : mFd L P z d0 j = none) : ∀ n : Nat, mFd L P z d0 (j + n) = none
  | 0 => h
  | n + 1 => mFd_none (mFd_nil h n)
theorem m60_5 : m60 5 = 777600000 := by decide +kernel
theorem m60_4 : m60 4 = 12960000 := by decide +kernel
theorem m60_le {a b : Nat} (h : a ≤ b) : m60 a ≤ m60 b := by
  have := m60_mono a (b - a)
  have e : a + (b - a) = b := by omega
  rw [e] at this
  exact this
theorem mPop_le {z : Int} {j n : Nat} (h : j ≤ n) : mPop z j ≤ mPop z n := by
  have := mPop_mono z j (n - j)
  have e : j + (n - j) = n := by omega
  rw [e] at this
  exact this
/-- the bounds of a day found and of its step -/
theorem m_bd {v : Nat → Int} {L P : Int → Int} {z d0 d st : Int} {k : Nat} (hok : mOK v L P) (hk : (k : Int) ≤ v 0) (h5 : mPop z 32 ≤ 5) (h : mFd L P z d0 k = some (d, st)) : (1 ≤ st ∧ st ≤ 777600000) ∧ (d0 ≤ d ∧ d < d0 + st) ∧ (mBit z k = 1 → (k : Int) < v 0 → st ≤ 12960000) := by
  obtain ⟨⟨o1, o2⟩, oL, -⟩ := hok
  obtain ⟨⟨s1, s2⟩, s3, -⟩ := (m_find (L := L) (P := P) (z := z) (d0 := d0) k (fun i h1 h2 => oL i h1 (by omega))).1 d st h
  have p1 := mPop_le (z := z) (j := k) (n := 32) (by omega)
  have p2 := mPop_r z k
  refine ⟨⟨s1, ?_⟩, s3, fun hb hlt => ?_⟩
  · have := m60_le (a := (mPop z k).toNat) (b := 5) (by omega)
    rw [m60_5] at this
    omega
  · have p3 := mPop_le (z := z) (j := k + 1) (n := 32) (by omega)
    have p4 : mPop z (k + 1) = mPop z k + mBit z k := rfl
    have := m60_le (a := (mPop z k).toNat) (b := 4) (by omega)
    rw [m60_4] at this
    omega
theorem mBit_ushI {z i : Int} (h0 : 0 ≤ i) (h : i < 32) : mAnd (mUsh z i) 1 = mBit z i.toNat := by
  have := mBit_ush z i.toNat (by omega)
  have e : ((i.toNat : Nat) : Int) = i := by omega
  rw [e] at this
  exact this
theorem mBit_shrI {z i : Int} (hz : mRI z) (h0 : 0 ≤ i) (h : i < 32) : mAnd (mShr z i) 1 = mBit z i.toNat := by
  have := mBit_shr hz i.toNat (by omega)
  have e : ((i.toNat : Nat) : Int) = i := by omega
  rw [e] at this
  exact this
/-- one market more -/
theorem mFd_bitI {L P : Int → Int} {z d0 d st i : Int} (h0 : 0 ≤ i) (h : mFd L P z d0 i.toNat = some (d, st)) (hb : mBit z i.toNat = 1) : (mSJ L P i st d ≠ -1 → mFd L P z d0 (i + 1).toNat = some (mSJ L P i st d, st * (mFac st (L i) : Int))) ∧ ((mJ (L i) (P i) st d : Int) < L i → mSJ L P i st d = d + (mJ (L i) (P i) st d : Int) * st) ∧ (¬ (mJ (L i) (P i) st d : Int) < L i → mFd L P z d0 (i + 1).toNat = none) := by
  have e : ((i.toNat : Nat) : Int) = i := by omega
  have e2 : (i + 1).toNat = i.toNat + 1 := by omega
  have h2 := mFd_bit h hb
  rw [e] at h2
  rw [e2, h2]
  unfold mSJ
  by_cases c : (mJ (L i) (P i) st d : Int) < L i
  · rw [if_pos c]
    exact ⟨fun _ => by rw [if_pos c], fun _ => rfl, fun q => absurd c q⟩
  · rw [if_neg c]
    exact ⟨fun q => absurd rfl q, fun q => absurd q c, fun _ => by rw [if_neg c]⟩
theorem mFd_noI {L P : Int → Int} {z d0 d st i : Int} (h0 : 0 ≤ i) (h : mFd L P z d0 i.toNat = some (d, st)) (hb : ¬ mBit z i.toNat = 1) : mFd L P z d0 (i + 1).toNat = some (d, st) := by
  have e2 : (i + 1).toNat = i.toNat + 1 := by omega
  rw [e2]
  exact mFd_no h hb
set_option maxHeartbeats 4000000 in
set_option maxRecDepth 100000 in
theorem c_X0_firstHeldInSteps (l : Launch) (D : va_G) (h0 a1 a2 : Nat) (cA cJ : ClassId) (v : Nat → Int) (L P : Int → Int) (m9 fr st : Int) (hok : mOK v L P) (hk : mMk v m9) (hf : 0 ≤ fr ∧ fr ≤ 1000000000) (hs : 1 ≤ st ∧ st ≤ 1000000000) : mP l yX0_firstHeldInSteps wsX0_firstHeldInSteps ({ frames := 3, cells := 0, slots := 0, locals := 71 }) [.ref h0, .int (mI (m9)), .long (mL (fr)), .long (mL (st))] (mwB D (mXW h0 a1 a2 cA v L P) (mTy cA cJ)) (some (.long (mL (mSJ L P m9 st fr)))) := by
  refine mw_open (cc := cX0_firstHeldInSteps) (maxL := 10) (ret := (some .long)) (by decide +kernel) rfl (Nat.le_of_ble_eq_true rfl) ?_
  intro p e s m below meth c ls hC hr hlocks hB hl
  obtain ⟨hx, hb, hml, hown, hts⟩ := id hC
  obtain ⟨hP, hK⟩ := hB
  have hl : lv_has ls 10 [(0, .ref h0), (1, .int (mI (m9))), (2, .long (mL (fr))), (4, .long (mL (st)))] := hl
  have hok9 := hok
  obtain ⟨⟨o1, o2⟩, oL, ⟨o3, o4, o5, o6, o7, o8⟩, ⟨o9, o10, o11, o12, o13, o14, o15, o16⟩⟩ := hok9
  obtain ⟨l1, l2, l3, l4⟩ := oL m9 (by omega) (by omega)
  refine lv_aload_n hx hb dX0_firstHeldInSteps_0 rfl (lv_at hl 0 rfl) ?_
  refine lv_iload_n hx hb dX0_firstHeldInSteps_1 rfl (lv_at hl 1 rfl) ?_
  refine mw_cVi (rest := []) (q := (RX0, TX0, 10)) hC (c_X0_lengthOf l D h0 a1 a2 cA cJ v L P m9 (by omega)) (cwV 1 hts gX0_firstHeldInSteps_X0_lengthOf rfl rfl rfl (by decide +kernel) ⟨Nat.le_of_ble_eq_true rfl, Nat.le_of_ble_eq_true rfl⟩) hK hP rfl rfl rfl hl.1 rfl (Nat.le_of_ble_eq_true rfl) ⟨Nat.zero_le _, Nat.zero_le _⟩ dX0_firstHeldInSteps_2 ?_
  refine lv_istore (lv' := [(6, .int (mI (L m9))), (0, .ref h0), (1, .int (mI (m9))), (2, .long (mL (fr))), (4, .long (mL (st)))]) hx hb dX0_firstHeldInSteps_5 hl (by decide) rfl (fun ls hl => ?_)
  refine mw_iconst hx hb dX0_firstHeldInSteps_7 ?_
  refine lv_istore (lv' := [(7, .int (mI (0))), (6, .int (mI (L m9))), (0, .ref h0), (1, .int (mI (m9))), (2, .long (mL (fr))), (4, .long (mL (st)))]) hx hb dX0_firstHeldInSteps_8 hl (by decide) rfl (fun ls hl => ?_)
  refine mw_loop (T := Int) (nL := 10) (fun x => (0 ≤ x ∧ x ≤ L m9) ∧ ∀ k : Nat, (k : Int) < x → ¬ (fr + (k : Int) * st) % L m9 = P m9) (fun x => (L m9 - x).toNat) 10 (fun x => [(7, .int (mI (x))), (0, .ref h0), (1, .int (mI (m9))), (2, .long (mL (fr))), (4, .long (mL (st))), (6, .int (mI (L m9)))]) ?_ ((0 : Int)) (show (0 ≤ (0 : Int) ∧ (0 : Int) ≤ L m9) ∧ ∀ k : Nat, (k : Int) < (0 : Int) → ¬ (fr + (k : Int) * st) % L m9 = P m9 from ⟨⟨by omega, by omega⟩, fun k hk => by omega⟩) ls (lv_sub hl [0, 2, 3, 4, 5, 1] rfl)
  intro x hI ih ls hl
  obtain ⟨i, rfl⟩ : ∃ y, y = x := ⟨_, rfl⟩
  have hl : lv_has ls 10 [(7, .int (mI (i))), (0, .ref h0), (1, .int (mI (m9))), (2, .long (mL (fr))), (4, .long (mL (st))), (6, .int (mI (L m9)))] := hl
  have hI : (0 ≤ i ∧ i ≤ L m9) ∧ ∀ k : Nat, (k : Int) < i → ¬ (fr + (k : Int) * st) % L m9 = P m9 := hI
  obtain ⟨⟨i1, i2⟩, i3⟩ := hI
  have f1 := m_bound i st (A := 60) (B := 1000000000) (by omega) (by omega)
  have f2 : ∀ k : Nat, (k : Int) < i + 1 → ¬ (fr + i * st) % L m9 = P m9 → ¬ (fr + (k : Int) * st) % L m9 = P m9 := fun k hk hc => by
    rcases (by omega : (k : Int) < i ∨ (k : Int) = i) with q | q
    · exact i3 k q
    · rw [q]; exact hc
  have f3 : (i < L m9 → (fr + i * st) % L m9 = P m9) → (mJ (L m9) (P m9) st fr : Int) = i := fun h2 => by
    have e : mFst (fun j => decide ((fr + (j : Int) * st) % L m9 = P m9)) (L m9).toNat = i.toNat := mFst_eq _ (by omega) (fun j hj => decide_eq_false (i3 j (by omega))) (fun h => decide_eq_true (by
      have e2 : ((i.toNat : Nat) : Int) = i := by omega
      rw [e2]; exact h2 (by omega)))
    unfold mJ
    rw [e]
    omega
  refine lv_iload hx hb dX0_firstHeldInSteps_10 (lv_at hl 0 rfl) ?_
  refine lv_iload hx hb dX0_firstHeldInSteps_12 (lv_at hl 5 rfl) ?_
  refine mw_icmp_ge (tgt := 46) hx hb (by omega) (by omega) dX0_firstHeldInSteps_14 (by decide) (fun c_14 => ?_) (fun c_14 => ?_)
  · refine mw_ldc2 hx hb (-1) (by decide +kernel) hown (hts (.constantLong RX0 96 (-1)) (by decide +kernel)) dX0_firstHeldInSteps_46 ?_
    exact mw_retL hx hb hr hlocks dX0_firstHeldInSteps_49 (by have q := f3 (fun h => absurd h (by omega)); unfold mSJ; rw [q, if_neg (by omega)])
  · refine lv_lload_n hx hb dX0_firstHeldInSteps_17 rfl (lv_at hl 3 rfl) ?_
    refine lv_iload hx hb dX0_firstHeldInSteps_18 (lv_at hl 0 rfl) ?_
    refine mw_i2l hx hb (by omega) dX0_firstHeldInSteps_20 ?_
    refine lv_lload hx hb dX0_firstHeldInSteps_21 (lv_at hl 4 rfl) ?_
    refine mw_lmul hx hb dX0_firstHeldInSteps_23 ?_
    refine mw_ladd hx hb dX0_firstHeldInSteps_24 ?_
    refine lv_lstore (lv' := [(8, .long (mL (fr + (i * st)))), (7, .int (mI (i))), (0, .ref h0), (1, .int (mI (m9))), (2, .long (mL (fr))), (4, .long (mL (st))), (6, .int (mI (L m9)))]) hx hb dX0_firstHeldInSteps_25 hl (by decide) rfl (fun ls hl => ?_)
    refine lv_aload_n hx hb dX0_firstHeldInSteps_27 rfl (lv_at hl 2 rfl) ?_
    refine lv_iload_n hx hb dX0_firstHeldInSteps_28 rfl (lv_at hl 3 rfl) ?_
    refine lv_lload hx hb dX0_firstHeldInSteps_29 (lv_at hl 0 rfl) ?_
    refine mw_cVi (rest := []) (q := (RX0, TX0, 10)) hC (c_X0_isOn l D h0 a1 a2 cA cJ v L P m9 (fr + (i * st)) (id hok) (by omega) (by omega)) (cwV 2 hts gX0_firstHeldInSteps_X0_isOn rfl rfl rfl (by decide +kernel) ⟨Nat.le_of_ble_eq_true rfl, Nat.le_of_ble_eq_true rfl⟩) hK hP rfl rfl rfl hl.1 rfl (Nat.le_of_ble_eq_true rfl) ⟨Nat.zero_le _, Nat.zero_le _⟩ dX0_firstHeldInSteps_31 ?_
    refine mw_zeq (tgt := 40) hx hb dX0_firstHeldInSteps_34 (by decide) (fun c_34 => ?_) (fun c_34 => ?_)
    · refine mw_iinc (k := 1) (lv' := [(7, .int (mI (i + 1))), (8, .long (mL (fr + (i * st)))), (0, .ref h0), (1, .int (mI (m9))), (2, .long (mL (fr))), (4, .long (mL (st))), (6, .int (mI (L m9)))]) hx hb dX0_firstHeldInSteps_40 hl rfl (by decide) rfl (fun ls hl => ?_)
      refine lv_goto (tgt := 10) hx hb dX0_firstHeldInSteps_43 (by decide) ?_
      exact ih ((i + 1)) (show (0 ≤ (i + 1) ∧ (i + 1) ≤ L m9) ∧ ∀ k : Nat, (k : Int) < (i + 1) → ¬ (fr + (k : Int) * st) % L m9 = P m9 from ⟨⟨by omega, by omega⟩, fun k hk => f2 k hk c_34⟩) (show (L m9 - (i + 1)).toNat < (L m9 - i).toNat from (by omega)) ls (lv_sub hl [0, 2, 3, 4, 5, 6] rfl)
    · refine lv_lload hx hb dX0_firstHeldInSteps_37 (lv_at hl 0 rfl) ?_
      exact mw_retL hx hb hr hlocks dX0_firstHeldInSteps_39 (by have q := f3 (fun _ => c_34); unfold mSJ; rw [q, if_pos (by omega)])

set_option maxHeartbeats 4000000 in
set_option maxRecDepth 100000 in
theorem c_X0_firstMeeting (l : Launch) (D : va_G) (h0 a1 a2 : Nat) (cA cJ : ClassId) (v : Nat → Int) (L P : Int → Int) (z : Int) (hok : mOK v L P) (hz : mRI z) (h5 : 1 ≤ mPop z 32 ∧ mPop z 32 ≤ 5) : mP l yX0_firstMeeting wsX0_firstMeeting ({ frames := 4, cells := 0, slots := 0, locals := 100 }) [.ref h0, .int (mI (z))] (mwB D (mXW h0 a1 a2 cA v L P) (mTy cA cJ)) (some (.long (mL (mD0 (mFd L P z 0 (v 0).toNat))))) := by
  refine mw_open (cc := cX0_firstMeeting) (maxL := 7) (ret := (some .long)) (by decide +kernel) rfl (Nat.le_of_ble_eq_true rfl) ?_
  intro p e s m below meth c ls hC hr hlocks hB hl
  obtain ⟨hx, hb, hml, hown, hts⟩ := id hC
  obtain ⟨hP, hK⟩ := hB
  have hin : ∀ w ∈ wsX00, w ∈ wsX0_firstMeeting := by decide +kernel
  have hl : lv_has ls 7 [(0, .ref h0), (1, .int (mI (z)))] := hl
  have hok9 := hok
  obtain ⟨⟨o1, o2⟩, oL, ⟨o3, o4, o5, o6, o7, o8⟩, ⟨o9, o10, o11, o12, o13, o14, o15, o16⟩⟩ := hok9
  refine mw_lconst hx hb 0 (by decide +kernel) dX0_firstMeeting_0 ?_
  refine lv_lstore_n (lv' := [(2, .long (mL (0))), (0, .ref h0), (1, .int (mI (z)))]) hx hb dX0_firstMeeting_1 rfl hl (by decide) rfl (fun ls hl => ?_)
  refine mw_lconst hx hb 1 (by decide +kernel) dX0_firstMeeting_2 ?_
  refine lv_lstore (lv' := [(4, .long (mL (1))), (2, .long (mL (0))), (0, .ref h0), (1, .int (mI (z)))]) hx hb dX0_firstMeeting_3 hl (by decide) rfl (fun ls hl => ?_)
  refine mw_iconst hx hb dX0_firstMeeting_5 ?_
  refine lv_istore (lv' := [(6, .int (mI (0))), (4, .long (mL (1))), (2, .long (mL (0))), (0, .ref h0), (1, .int (mI (z)))]) hx hb dX0_firstMeeting_6 hl (by decide) rfl (fun ls hl => ?_)
  refine mw_loop (T := Int × Int × Int) (nL := 7) (fun x => (0 ≤ x.1 ∧ x.1 ≤ v 0) ∧ mFd L P z 0 (x.1).toNat = some (x.2.1, x.2.2)) (fun x => (v 0 - x.1).toNat) 8 (fun x => [(6, .int (mI (x.1))), (2, .long (mL (x.2.1))), (4, .long (mL (x.2.2))), (0, .ref h0), (1, .int (mI (z)))]) ?_ ((0 : Int), (0 : Int), (1 : Int)) (show (0 ≤ (0 : Int) ∧ (0 : Int) ≤ v 0) ∧ mFd L P z 0 ((0 : Int)).toNat = some ((0 : Int), (1 : Int)) from ⟨⟨by omega, by omega⟩, rfl⟩) ls (lv_sub hl [0, 2, 1, 3, 4] rfl)
  intro x hI ih ls hl
  obtain ⟨i, dy, st⟩ := x
  have hl : lv_has ls 7 [(6, .int (mI (i))), (2, .long (mL (dy))), (4, .long (mL (st))), (0, .ref h0), (1, .int (mI (z)))] := hl
  have hI : (0 ≤ i ∧ i ≤ v 0) ∧ mFd L P z 0 (i).toNat = some (dy, st) := hI
  obtain ⟨⟨i1, i2⟩, i3⟩ := hI
  have f1 := m_bd hok (by omega) h5.2 i3
  have f2 := mBit_ushI (z := z) (i := i) i1 (by omega)
  have f4 := mAnd_r (mUsh z i) 1
  have f5 : ((i.toNat : Nat) : Int) = i := by omega
  rw [f5] at f1
  refine lv_iload hx hb dX0_firstMeeting_8 (lv_at hl 0 rfl) ?_
  refine lv_aload_n hx hb dX0_firstMeeting_10 rfl (lv_at hl 3 rfl) ?_
  refine mw_getX hx hb hts hin hown hK hP rfl 2 (by decide) (by decide +kernel) rfl rfl dX0_firstMeeting_11 ?_
  refine mw_icmp_ge (tgt := 68) hx hb (by omega) (by omega) dX0_firstMeeting_14 (by decide) (fun c_14 => ?_) (fun c_14 => ?_)
  · refine lv_lload_n hx hb dX0_firstMeeting_68 rfl (lv_at hl 1 rfl) ?_
    exact mw_retL hx hb hr hlocks dX0_firstMeeting_69 (by have e : i = v 0 := (by omega); rw [← e, i3]; rfl)
  · refine lv_iload_n hx hb dX0_firstMeeting_17 rfl (lv_at hl 4 rfl) ?_
    refine lv_iload hx hb dX0_firstMeeting_18 (lv_at hl 0 rfl) ?_
    refine mw_iushr hx hb dX0_firstMeeting_20 ?_
    refine mw_iconst hx hb dX0_firstMeeting_21 ?_
    refine mw_iand hx hb dX0_firstMeeting_22 ?_
    refine mw_iconst hx hb dX0_firstMeeting_23 ?_
    refine mw_icmp_ne (tgt := 62) hx hb (by omega) (by omega) dX0_firstMeeting_24 (by decide) (fun c_24 => ?_) (fun c_24 => ?_)
    · refine mw_iinc (k := 0) (lv' := [(6, .int (mI (i + 1))), (2, .long (mL (dy))), (4, .long (mL (st))), (0, .ref h0), (1, .int (mI (z)))]) hx hb dX0_firstMeeting_62 hl rfl (by decide) rfl (fun ls hl => ?_)
      refine lv_goto (tgt := 8) hx hb dX0_firstMeeting_65 (by decide) ?_
      exact ih ((i + 1), dy, st) (show (0 ≤ (i + 1) ∧ (i + 1) ≤ v 0) ∧ mFd L P z 0 ((i + 1)).toNat = some (dy, st) from ⟨⟨by omega, by omega⟩, mFd_noI i1 i3 (by omega)⟩) (show (v 0 - (i + 1)).toNat < (v 0 - i).toNat from (by omega)) ls (lv_sub hl [0, 1, 2, 3, 4] rfl)
    · have f6 : mBit z i.toNat = 1 := by omega
      obtain ⟨b1, b2, b3⟩ := mFd_bitI i1 i3 f6
      obtain ⟨l1, l2, l3, l4⟩ := oL i (by omega) (by omega)
      have g1 := m_fac (st := st) (L := L i) l1
      have g2 := m_bound st (mFac st (L i) : Int) (A := 12960000) (B := 60) (by omega) (by omega)
      have g3 := (m_bd hok (by omega) h5.2 i3)
      have g4 : mSJ L P i st dy ≠ -1 → 0 ≤ mSJ L P i st dy ∧ mSJ L P i st dy ≤ 777600000 := fun q => by
        have g5 := b1 q
        have g6 := m_bd (k := (i + 1).toNat) hok (by omega) h5.2 g5
        omega
      have g7 : mRL (mSJ L P i st dy) := by
        by_cases q : mSJ L P i st dy = -1
        · rw [q]; omega
        · have := g4 q; omega
      refine lv_aload_n hx hb dX0_firstMeeting_27 rfl (lv_at hl 3 rfl) ?_
      refine lv_iload hx hb dX0_firstMeeting_28 (lv_at hl 0 rfl) ?_
      refine lv_lload_n hx hb dX0_firstMeeting_30 rfl (lv_at hl 1 rfl) ?_
      refine lv_lload hx hb dX0_firstMeeting_31 (lv_at hl 2 rfl) ?_
      refine mw_cVl (rest := []) (q := (RX0, TX0, 10)) hC (c_X0_firstHeldInSteps l D h0 a1 a2 cA cJ v L P i dy st (id hok) (by omega) (by omega) (by omega)) (cwV 3 hts gX0_firstMeeting_X0_firstHeldInSteps rfl rfl rfl (by decide +kernel) ⟨Nat.le_of_ble_eq_true rfl, Nat.le_of_ble_eq_true rfl⟩) hK hP rfl rfl rfl hl.1 rfl (Nat.le_of_ble_eq_true rfl) ⟨Nat.zero_le _, Nat.zero_le _⟩ dX0_firstMeeting_33 ?_
      refine lv_lstore_n (lv' := [(2, .long (mL (mSJ L P i st dy))), (6, .int (mI (i))), (4, .long (mL (st))), (0, .ref h0), (1, .int (mI (z)))]) hx hb dX0_firstMeeting_36 rfl hl (by decide) rfl (fun ls hl => ?_)
      refine lv_lload_n hx hb dX0_firstMeeting_37 rfl (lv_at hl 0 rfl) ?_
      refine mw_ldc2 hx hb (-1) (by decide +kernel) hown (hts (.constantLong RX0 96 (-1)) (by decide +kernel)) dX0_firstMeeting_38 ?_
      refine mw_lcmp_ne (tgt := 49) hx hb (by omega) (by omega) dX0_firstMeeting_41 dX0_firstMeeting_42 (by decide) (fun c_42 => ?_) (fun c_42 => ?_)
      · refine lv_lload hx hb dX0_firstMeeting_49 (lv_at hl 2 rfl) ?_
        refine lv_aload_n hx hb dX0_firstMeeting_51 rfl (lv_at hl 3 rfl) ?_
        refine lv_iload hx hb dX0_firstMeeting_52 (lv_at hl 1 rfl) ?_
        refine mw_cVi (rest := [.long (mL (st))]) (q := (RX0, TX0, 10)) hC (c_X0_lengthOf l D h0 a1 a2 cA cJ v L P i (by omega)) (cwV 1 hts gX0_firstMeeting_X0_lengthOf rfl rfl rfl (by decide +kernel) ⟨Nat.le_of_ble_eq_true rfl, Nat.le_of_ble_eq_true rfl⟩) hK hP rfl rfl rfl hl.1 rfl (Nat.le_of_ble_eq_true rfl) ⟨Nat.zero_le _, Nat.zero_le _⟩ dX0_firstMeeting_54 ?_
        refine mw_cSl (rest := []) hC (c_X0_commonMultiple l st (L i) (by omega) (by omega)) (va_cwS 2 hts gX0_firstMeeting_X0_commonMultiple rfl rfl rfl (by decide +kernel) ⟨Nat.le_of_ble_eq_true rfl, Nat.le_of_ble_eq_true rfl⟩) rfl hl.1 rfl (Nat.le_of_ble_eq_true rfl) ⟨Nat.zero_le _, Nat.zero_le _⟩ dX0_firstMeeting_57 ?_
        refine lv_lstore (lv' := [(4, .long (mL (st * (mFac st (L i) : Int)))), (2, .long (mL (mSJ L P i st dy))), (6, .int (mI (i))), (0, .ref h0), (1, .int (mI (z)))]) hx hb dX0_firstMeeting_60 hl (by decide) rfl (fun ls hl => ?_)
        refine mw_iinc (k := 2) (lv' := [(6, .int (mI (i + 1))), (4, .long (mL (st * (mFac st (L i) : Int)))), (2, .long (mL (mSJ L P i st dy))), (0, .ref h0), (1, .int (mI (z)))]) hx hb dX0_firstMeeting_62 hl rfl (by decide) rfl (fun ls hl => ?_)
        refine lv_goto (tgt := 8) hx hb dX0_firstMeeting_65 (by decide) ?_
        exact ih ((i + 1), (mSJ L P i st dy), (st * (mFac st (L i) : Int))) (show (0 ≤ (i + 1) ∧ (i + 1) ≤ v 0) ∧ mFd L P z 0 ((i + 1)).toNat = some ((mSJ L P i st dy), (st * (mFac st (L i) : Int))) from ⟨⟨by omega, by omega⟩, b1 (by omega)⟩) (show (v 0 - (i + 1)).toNat < (v 0 - i).toNat from (by omega)) ls (lv_sub hl [0, 2, 1, 3, 4] rfl)
      · refine mw_ldc2 hx hb (-1) (by decide +kernel) hown (hts (.constantLong RX0 96 (-1)) (by decide +kernel)) dX0_firstMeeting_45 ?_
        exact mw_retL hx hb hr hlocks dX0_firstMeeting_48 (by
          have g8 : ¬ (mJ (L i) (P i) st dy : Int) < L i := fun q => by
            have g9 := b2 q
            have g10 := m_bound (mJ (L i) (P i) st dy : Int) st (A := 60) (B := 12960000) (by omega) (by omega)
            have g11 : 0 ≤ (mJ (L i) (P i) st dy : Int) * st := Int.mul_nonneg (by omega) (by omega)
            omega
          have g12 := mFd_nil (b3 g8) ((v 0).toNat - (i + 1).toNat)
          have g13 : (i + 1).toNat + ((v 0).toNat - (i + 1).toNat) = (v 0).toNat := by omega
          rw [g13] at g12
          rw [g12]
          rfl)

set_option maxHeartbeats 4000000 in
set_option maxRecDepth 100000 in
theorem c_X0_commonLength (l : Launch) (D : va_G) (h0 a1 a2 : Nat) (cA cJ : ClassId) (v : Nat → Int) (L P : Int → Int) (z : Int) (hok : mOK v L P) (hz : mRI z) (h5 : 1 ≤ mPop z 32 ∧ mPop z 32 ≤ 5) (hm : (mFd L P z 0 (v 0).toNat).isSome = true) : mP l yX0_commonLength wsX0_commonLength ({ frames := 3, cells := 0, slots := 0, locals := 71 }) [.ref h0, .int (mI (z))] (mwB D (mXW h0 a1 a2 cA v L P) (mTy cA cJ)) (some (.long (mL (mSt (mFd L P z 0 (v 0).toNat))))) := by
  refine mw_open (cc := cX0_commonLength) (maxL := 5) (ret := (some .long)) (by decide +kernel) rfl (Nat.le_of_ble_eq_true rfl) ?_
  intro p e s m below meth c ls hC hr hlocks hB hl
  obtain ⟨hx, hb, hml, hown, hts⟩ := id hC
  obtain ⟨hP, hK⟩ := hB
  have hin : ∀ w ∈ wsX00, w ∈ wsX0_commonLength := by decide +kernel
  have hl : lv_has ls 5 [(0, .ref h0), (1, .int (mI (z)))] := hl
  have hok9 := hok
  obtain ⟨⟨o1, o2⟩, oL, ⟨o3, o4, o5, o6, o7, o8⟩, ⟨o9, o10, o11, o12, o13, o14, o15, o16⟩⟩ := hok9
  refine mw_lconst hx hb 1 (by decide +kernel) dX0_commonLength_0 ?_
  refine lv_lstore_n (lv' := [(2, .long (mL (1))), (0, .ref h0), (1, .int (mI (z)))]) hx hb dX0_commonLength_1 rfl hl (by decide) rfl (fun ls hl => ?_)
  refine mw_iconst hx hb dX0_commonLength_2 ?_
  refine lv_istore (lv' := [(4, .int (mI (0))), (2, .long (mL (1))), (0, .ref h0), (1, .int (mI (z)))]) hx hb dX0_commonLength_3 hl (by decide) rfl (fun ls hl => ?_)
  refine mw_loop (T := Int × Int) (nL := 5) (fun x => (0 ≤ x.1 ∧ x.1 ≤ v 0) ∧ x.2 = mSt (mFd L P z 0 (x.1).toNat)) (fun x => (v 0 - x.1).toNat) 5 (fun x => [(4, .int (mI (x.1))), (2, .long (mL (x.2))), (0, .ref h0), (1, .int (mI (z)))]) ?_ ((0 : Int), (1 : Int)) (show (0 ≤ (0 : Int) ∧ (0 : Int) ≤ v 0) ∧ (1 : Int) = mSt (mFd L P z 0 ((0 : Int)).toNat) from ⟨⟨by omega, by omega⟩, rfl⟩) ls (lv_sub hl [0, 1, 2, 3] rfl)
  intro x hI ih ls hl
  obtain ⟨i, st⟩ := x
  have hl : lv_has ls 5 [(4, .int (mI (i))), (2, .long (mL (st))), (0, .ref h0), (1, .int (mI (z)))] := hl
  have hI : (0 ≤ i ∧ i ≤ v 0) ∧ st = mSt (mFd L P z 0 (i).toNat) := hI
  obtain ⟨⟨i1, i2⟩, i3⟩ := hI
  obtain ⟨⟨dy, st9⟩, i4⟩ := mFd_pre (j := i.toNat) ((v 0).toNat - i.toNat) (by have e : i.toNat + ((v 0).toNat - i.toNat) = (v 0).toNat := (by omega); rw [e]; exact hm)
  have i5 : st = st9 := by rw [i3, i4]; rfl
  subst i5
  have f1 := m_bd hok (by omega) h5.2 i4
  have f2 := mBit_ushI (z := z) (i := i) i1 (by omega)
  have f4 := mAnd_r (mUsh z i) 1
  have f5 : ((i.toNat : Nat) : Int) = i := by omega
  rw [f5] at f1
  have b5 : ¬ mBit z i.toNat = 1 → st = mSt (mFd L P z 0 (i + 1).toNat) := fun q => by rw [mFd_noI i1 i4 q]; rfl
  refine lv_iload hx hb dX0_commonLength_5 (lv_at hl 0 rfl) ?_
  refine lv_aload_n hx hb dX0_commonLength_7 rfl (lv_at hl 2 rfl) ?_
  refine mw_getX hx hb hts hin hown hK hP rfl 2 (by decide) (by decide +kernel) rfl rfl dX0_commonLength_8 ?_
  refine mw_icmp_ge (tgt := 41) hx hb (by omega) (by omega) dX0_commonLength_11 (by decide) (fun c_11 => ?_) (fun c_11 => ?_)
  · refine lv_lload_n hx hb dX0_commonLength_41 rfl (lv_at hl 1 rfl) ?_
    exact mw_retL hx hb hr hlocks dX0_commonLength_42 (by have e : i = v 0 := (by omega); rw [i3, e])
  · refine lv_iload_n hx hb dX0_commonLength_14 rfl (lv_at hl 3 rfl) ?_
    refine lv_iload hx hb dX0_commonLength_15 (lv_at hl 0 rfl) ?_
    refine mw_iushr hx hb dX0_commonLength_17 ?_
    refine mw_iconst hx hb dX0_commonLength_18 ?_
    refine mw_iand hx hb dX0_commonLength_19 ?_
    refine mw_iconst hx hb dX0_commonLength_20 ?_
    refine mw_icmp_ne (tgt := 35) hx hb (by omega) (by omega) dX0_commonLength_21 (by decide) (fun c_21 => ?_) (fun c_21 => ?_)
    · refine mw_iinc (k := 0) (lv' := [(4, .int (mI (i + 1))), (2, .long (mL (st))), (0, .ref h0), (1, .int (mI (z)))]) hx hb dX0_commonLength_35 hl rfl (by decide) rfl (fun ls hl => ?_)
      refine lv_goto (tgt := 5) hx hb dX0_commonLength_38 (by decide) ?_
      exact ih ((i + 1), st) (show (0 ≤ (i + 1) ∧ (i + 1) ≤ v 0) ∧ st = mSt (mFd L P z 0 ((i + 1)).toNat) from ⟨⟨by omega, by omega⟩, b5 (by omega)⟩) (show (v 0 - (i + 1)).toNat < (v 0 - i).toNat from (by omega)) ls (lv_sub hl [0, 1, 2, 3] rfl)
    · have f6 : mBit z i.toNat = 1 := by omega
      obtain ⟨b1, b2, b3⟩ := mFd_bitI i1 i4 f6
      obtain ⟨l1, l2, l3, l4⟩ := oL i (by omega) (by omega)
      have b4 : st * (mFac st (L i) : Int) = mSt (mFd L P z 0 (i + 1).toNat) := by
        by_cases q : (mJ (L i) (P i) st dy : Int) < L i
        · have b6 := b2 q
          have b7 : 0 ≤ (mJ (L i) (P i) st dy : Int) * st := Int.mul_nonneg (by omega) (by omega)
          rw [b1 (by omega)]
          rfl
        · obtain ⟨y, hy⟩ := mFd_pre (j := (i + 1).toNat) ((v 0).toNat - (i + 1).toNat) (by have e : (i + 1).toNat + ((v 0).toNat - (i + 1).toNat) = (v 0).toNat := (by omega); rw [e]; exact hm)
          rw [b3 q] at hy
          cases hy
      refine lv_lload_n hx hb dX0_commonLength_24 rfl (lv_at hl 1 rfl) ?_
      refine lv_aload_n hx hb dX0_commonLength_25 rfl (lv_at hl 2 rfl) ?_
      refine lv_iload hx hb dX0_commonLength_26 (lv_at hl 0 rfl) ?_
      refine mw_cVi (rest := [.long (mL (st))]) (q := (RX0, TX0, 10)) hC (c_X0_lengthOf l D h0 a1 a2 cA cJ v L P i (by omega)) (cwV 1 hts gX0_commonLength_X0_lengthOf rfl rfl rfl (by decide +kernel) ⟨Nat.le_of_ble_eq_true rfl, Nat.le_of_ble_eq_true rfl⟩) hK hP rfl rfl rfl hl.1 rfl (Nat.le_of_ble_eq_true rfl) ⟨Nat.zero_le _, Nat.zero_le _⟩ dX0_commonLength_28 ?_
      refine mw_cSl (rest := []) hC (c_X0_commonMultiple l st (L i) (by omega) (by omega)) (va_cwS 2 hts gX0_commonLength_X0_commonMultiple rfl rfl rfl (by decide +kernel) ⟨Nat.le_of_ble_eq_true rfl, Nat.le_of_ble_eq_true rfl⟩) rfl hl.1 rfl (Nat.le_of_ble_eq_true rfl) ⟨Nat.zero_le _, Nat.zero_le _⟩ dX0_commonLength_31 ?_
      refine lv_lstore_n (lv' := [(2, .long (mL (st * (mFac st (L i) : Int)))), (4, .int (mI (i))), (0, .ref h0), (1, .int (mI (z)))]) hx hb dX0_commonLength_34 rfl hl (by decide) rfl (fun ls hl => ?_)
      refine mw_iinc (k := 1) (lv' := [(4, .int (mI (i + 1))), (2, .long (mL (st * (mFac st (L i) : Int)))), (0, .ref h0), (1, .int (mI (z)))]) hx hb dX0_commonLength_35 hl rfl (by decide) rfl (fun ls hl => ?_)
      refine lv_goto (tgt := 5) hx hb dX0_commonLength_38 (by decide) ?_
      exact ih ((i + 1), (st * (mFac st (L i) : Int))) (show (0 ≤ (i + 1) ∧ (i + 1) ≤ v 0) ∧ (st * (mFac st (L i) : Int)) = mSt (mFd L P z 0 ((i + 1)).toNat) from ⟨⟨by omega, by omega⟩, b4⟩) (show (v 0 - (i + 1)).toNat < (v 0 - i).toNat from (by omega)) ls (lv_sub hl [0, 1, 2, 3] rfl)
end
section
def mPut (v : Nat → Int) (k : Nat) (x : Int) : Nat → Int := fun j => if j = k then x else v j
def mEx1 (a : Prop) [Decidable a] : Nat := if a then 0 else 1
def mEx2 (a b : Prop) [Decidable a] [Decidable b] : Nat := if a then (if b then 0 else 2) else 1
def mEx3 (a b c : Prop) [Decidable a] [Decidable b] [Decidable c] : Nat := if a then (if b then (if c then 0 else 3) else 2) else 1
theorem mEx1_0 {a : Prop} [Decidable a] (h : a) : mEx1 a = 0 := if_pos h
theorem mEx1_1 {a : Prop} [Decidable a] (h : ¬ a) : mEx1 a = 1 := if_neg h
theorem mEx2_0 {a b : Prop} [Decidable a] [Decidable b] (h : a) (h2 : b) : mEx2 a b = 0 := by unfold mEx2; rw [if_pos h, if_pos h2]
theorem mEx2_1 {a b : Prop} [Decidable a] [Decidable b] (h : ¬ a) : mEx2 a b = 1 := by unfold mEx2; rw [if_neg h]
theorem mEx2_2 {a b : Prop} [Decidable a] [Decidable b] (h : a) (h2 : ¬ b) : mEx2 a b = 2 := by unfold mEx2; rw [if_pos h, if_neg h2]
theorem mEx3_0 {a b c : Prop} [Decidable a] [Decidable b] [Decidable c] (h : a) (h2 : b) (h3 : c) : mEx3 a b c = 0 := by unfold mEx3; rw [if_pos h, if_pos h2, if_pos h3]
theorem mEx3_1 {a b c : Prop} [Decidable a] [Decidable b] [Decidable c] (h : ¬ a) : mEx3 a b c = 1 := by unfold mEx3; rw [if_neg h]
theorem mEx3_2 {a b c : Prop} [Decidable a] [Decidable b] [Decidable c] (h : a) (h2 : ¬ b) : mEx3 a b c = 2 := by unfold mEx3; rw [if_pos h, if_neg h2]
theorem mEx3_3 {a b c : Prop} [Decidable a] [Decidable b] [Decidable c] (h : a) (h2 : b) (h3 : ¬ c) : mEx3 a b c = 3 := by unfold mEx3; rw [if_pos h, if_pos h2, if_neg h3]
def mNear (L P : Int → Int) (m d : Int) : Int := if (d - P m) % L m ≤ L m - (d - P m) % L m then d - (d - P m) % L m else (d - (d - P m) % L m) + L m
abbrev mMts (v : Nat → Int) (L P : Int → Int) (z : Int) : Prop := (mFd L P z 0 (v 0).toNat).isSome = true
/-- the first of so many days on which they meet with a lunar day, as an offset -/
def mLun (v : Nat → Int) (d ld st : Int) : Nat → Int → Int
  | 0, _ => -1
  | k + 1, off => if mLunar v (d + off) = ld then off else mLun v d ld st k (off + st)
def mCt (L P : Int → Int) (n : Nat) (z d : Int) : Int := mPop (mAnd (mSet L P d n) z) 32
def mBst (L P : Int → Int) (n : Nat) (z fr : Int) : Nat → Int
  | 0 => fr
  | k + 1 => if mCt L P n z (mBst L P n z fr k) < mCt L P n z (fr + (k : Int)) then fr + (k : Int) else mBst L P n z fr k
theorem mLun_s (v : Nat → Int) (d ld st off : Int) (k : Nat) : mLun v d ld st (k + 1) off = if mLunar v (d + off) = ld then off else mLun v d ld st k (off + st) := rfl
theorem mBst_s (L P : Int → Int) (n : Nat) (z fr : Int) (k : Nat) : mBst L P n z fr (k + 1) = if mCt L P n z (mBst L P n z fr k) < mCt L P n z (fr + (k : Int)) then fr + (k : Int) else mBst L P n z fr k := rfl
/-- whether they meet, by the first day -/
theorem m_mts {v : Nat → Int} {L P : Int → Int} {z : Int} (hok : mOK v L P) (h5 : mPop z 32 ≤ 5) : (mD0 (mFd L P z 0 (v 0).toNat) ≠ -1 ↔ mMts v L P z) ∧ (mMts v L P z → ∃ d st, mFd L P z 0 (v 0).toNat = some (d, st) ∧ mD0 (mFd L P z 0 (v 0).toNat) = d ∧ mSt (mFd L P z 0 (v 0).toNat) = st ∧ (1 ≤ st ∧ st ≤ 777600000) ∧ (0 ≤ d ∧ d < st)) ∧ mRL (mD0 (mFd L P z 0 (v 0).toNat)) := by
  have hv := hok.1
  cases e : mFd L P z 0 (v 0).toNat with
  | none =>
    refine ⟨⟨fun h => absurd rfl h, fun h => ?_⟩, fun h => ?_, ?_⟩
    · unfold mMts at h; rw [e] at h; cases h
    · unfold mMts at h; rw [e] at h; cases h
    · show mRL (-1); omega
  | some y =>
    obtain ⟨d, st⟩ := y
    have h := m_bd hok (by omega) h5 e
    refine ⟨⟨fun _ => by unfold mMts; rw [e]; rfl, fun _ => by show d ≠ -1; omega⟩, fun _ => ⟨d, st, rfl, rfl, rfl, h.1, by omega, by omega⟩, ?_⟩
    show mRL d
    omega
set_option maxHeartbeats 400000 in
set_option maxRecDepth 100000 in
theorem x_X0_addMarket (l : Launch) (hfl : l.flags = flags0) (D : va_G) (h0 a1 a2 : Nat) (cA cJ : ClassId) (v : Nat → Int) (L P : Int → Int) (a b : Int) (ha : mRI a) (hb9 : mRI b) (hok : mOK v L P) (hdis : mDis h0 a1 a2) : mX l yX0_addMarket wsX0_addMarket ({ frames := 7, cells := 1, slots := 6, locals := 110 }) [.ref h0, .int (mI (a)), .int (mI (b))] D (mXW h0 a1 a2 cA v L P) (mTy cA cJ) ["java/lang/IllegalArgumentException", "java/lang/IllegalStateException"] (mEx2 ((1 ≤ a ∧ a ≤ 60) ∧ 0 ≤ b ∧ b ≤ a - 1) (v 0 < 16)) (some (.int (mI (v 0)))) (mXW h0 a1 a2 cA (mPut v 0 (v 0 + 1)) (mU L (v 0) a) (mU P (v 0) b)) (mA3 h0 a1 a2) := by
  refine mw_openX (cc := cX0_addMarket) (maxL := 4) (ret := (some .int)) (by decide) rfl (Nat.le_of_ble_eq_true rfl) ?_
  intro p e s m below meth c ls hC hr hlocks hout hB hE hl
  obtain ⟨hx, hb, hml, hown, hts⟩ := id hC
  obtain ⟨hP, hK⟩ := hB
  have hin : ∀ w ∈ wsX00, w ∈ wsX0_addMarket := by decide +kernel
  have hl : lv_has ls 4 [(0, .ref h0), (1, .int (mI (a))), (2, .int (mI (b)))] := hl
  have hS : va_S (mA3 h0 a1 a2) s.heap s.heap [] := va_S.rf
  have hDD : ∀ (v : Nat → Int) (L P : Int → Int), va_D (mA3 h0 a1 a2) (mXW h0 a1 a2 cA v L P) := fun v L P => mD3 hdis (mA3_in h0 a1 a2)
  have hD := hDD v L P
  have hok9 := hok
  obtain ⟨⟨o1, o2⟩, oL, ⟨o3, o4, o5, o6, o7, o8⟩, ⟨o9, o10, o11, o12, o13, o14, o15, o16⟩⟩ := hok9
  refine lv_iload_n hx hb dX0_addMarket_0 rfl (lv_at hl 1 rfl) ?_
  refine mw_iconst hx hb dX0_addMarket_1 ?_
  refine mw_bipush hx hb (by decide +kernel) dX0_addMarket_2 ?_
  refine mw_cSi (rest := []) hC (c_X0_isWithin l a 1 60 (by omega) (by omega) (by omega)) (va_cwS 3 hts gX0_addMarket_X0_isWithin rfl rfl rfl (by decide +kernel) ⟨Nat.le_of_ble_eq_true rfl, Nat.le_of_ble_eq_true rfl⟩) rfl hl.1 rfl (Nat.le_of_ble_eq_true rfl) ⟨Nat.zero_le _, Nat.zero_le _⟩ dX0_addMarket_4 ?_
  refine mw_zeq (tgt := 25) hx hb dX0_addMarket_7 (by decide) (fun c_7 => ?_) (fun c_7 => ?_)
  · refine mw_iconst hx hb dX0_addMarket_25 ?_
    exact mw_tS (rest := []) hC (t_X0_checkArgument_t l hfl) hE (va_cwS 1 hts gX0_addMarket_X0_checkArgument rfl rfl rfl (by decide +kernel) ⟨Nat.le_of_ble_eq_true rfl, Nat.le_of_ble_eq_true rfl⟩) rfl hl.1 rfl (Nat.le_of_ble_eq_true rfl) ⟨Nat.le_of_ble_eq_true rfl, Nat.le_of_ble_eq_true rfl⟩ hout hlocks dX0_addMarket_26 (fun t ht => ⟨⟨0, (mEx2_1 (by omega)), rfl⟩, ht⟩)
  · refine lv_iload_n hx hb dX0_addMarket_10 rfl (lv_at hl 2 rfl) ?_
    refine mw_iconst hx hb dX0_addMarket_11 ?_
    refine lv_iload_n hx hb dX0_addMarket_12 rfl (lv_at hl 1 rfl) ?_
    refine mw_iconst hx hb dX0_addMarket_13 ?_
    refine mw_isub hx hb dX0_addMarket_14 ?_
    refine mw_cSi (rest := []) hC (c_X0_isWithin l b 0 (a - 1) (by omega) (by omega) (by omega)) (va_cwS 3 hts gX0_addMarket_X0_isWithin rfl rfl rfl (by decide +kernel) ⟨Nat.le_of_ble_eq_true rfl, Nat.le_of_ble_eq_true rfl⟩) rfl hl.1 rfl (Nat.le_of_ble_eq_true rfl) ⟨Nat.zero_le _, Nat.zero_le _⟩ dX0_addMarket_15 ?_
    refine mw_zeq (tgt := 25) hx hb dX0_addMarket_18 (by decide) (fun c_18 => ?_) (fun c_18 => ?_)
    · refine mw_iconst hx hb dX0_addMarket_25 ?_
      exact mw_tS (rest := []) hC (t_X0_checkArgument_t l hfl) hE (va_cwS 1 hts gX0_addMarket_X0_checkArgument rfl rfl rfl (by decide +kernel) ⟨Nat.le_of_ble_eq_true rfl, Nat.le_of_ble_eq_true rfl⟩) rfl hl.1 rfl (Nat.le_of_ble_eq_true rfl) ⟨Nat.le_of_ble_eq_true rfl, Nat.le_of_ble_eq_true rfl⟩ hout hlocks dX0_addMarket_26 (fun t ht => ⟨⟨0, (mEx2_1 (by omega)), rfl⟩, ht⟩)
    · refine mw_iconst hx hb dX0_addMarket_21 ?_
      refine lv_goto (tgt := 26) hx hb dX0_addMarket_22 (by decide) ?_
      refine mw_cSv (rest := []) hC (c_X0_checkArgument l) (va_cwS 1 hts gX0_addMarket_X0_checkArgument rfl rfl rfl (by decide +kernel) ⟨Nat.le_of_ble_eq_true rfl, Nat.le_of_ble_eq_true rfl⟩) rfl hl.1 rfl (Nat.le_of_ble_eq_true rfl) ⟨Nat.zero_le _, Nat.zero_le _⟩ dX0_addMarket_26 ?_
      refine lv_aload_n hx hb dX0_addMarket_29 rfl (lv_at hl 0 rfl) ?_
      refine mw_getX hx hb hts hin hown hK hP rfl 2 (by decide) (by decide +kernel) rfl rfl dX0_addMarket_30 ?_
      refine lv_istore_n (lv' := [(3, .int (mI (v 0))), (0, .ref h0), (1, .int (mI (a))), (2, .int (mI (b)))]) hx hb dX0_addMarket_33 rfl hl (by decide) rfl (fun ls hl => ?_)
      refine lv_aload_n hx hb dX0_addMarket_34 rfl (lv_at hl 1 rfl) ?_
      refine lv_iload_n hx hb dX0_addMarket_35 rfl (lv_at hl 0 rfl) ?_
      refine mw_cVi (rest := []) (q := (RX0, TX0, 10)) hC (c_X0_isPlace l D h0 a1 a2 cA cJ v L P (v 0) (by omega)) (cwV 1 hts gX0_addMarket_X0_isPlace rfl rfl rfl (by decide +kernel) ⟨Nat.le_of_ble_eq_true rfl, Nat.le_of_ble_eq_true rfl⟩) hK hP rfl rfl rfl hl.1 rfl (Nat.le_of_ble_eq_true rfl) ⟨Nat.zero_le _, Nat.zero_le _⟩ dX0_addMarket_36 ?_
      refine mw_zne (tgt := 52) hx hb dX0_addMarket_39 (by decide) (fun c_39 => ?_) (fun c_39 => ?_)
      · refine lv_aload_n hx hb dX0_addMarket_52 rfl (lv_at hl 1 rfl) ?_
        refine mw_getX hx hb hts hin hown hK hP rfl 0 (by decide) (by decide +kernel) rfl rfl dX0_addMarket_53 ?_
        refine lv_iload_n hx hb dX0_addMarket_56 rfl (lv_at hl 0 rfl) ?_
        refine lv_iload_n hx hb dX0_addMarket_57 rfl (lv_at hl 2 rfl) ?_
        refine mw_iast hx hb hK hP hD hS 1 rfl rfl (by omega) dX0_addMarket_58 (fun H locs hP hS => ?_)
        have hP : va_P D vwCl (mXW h0 a1 a2 cA v (mU L (v 0) a) P) H := hP
        have hD := hDD v (mU L (v 0) a) P
        refine lv_aload_n hx hb dX0_addMarket_59 rfl (lv_at hl 1 rfl) ?_
        refine mw_getX hx hb hts hin hown hK hP rfl 1 (by decide) (by decide +kernel) rfl rfl dX0_addMarket_60 ?_
        refine lv_iload_n hx hb dX0_addMarket_63 rfl (lv_at hl 0 rfl) ?_
        refine lv_iload_n hx hb dX0_addMarket_64 rfl (lv_at hl 3 rfl) ?_
        refine mw_iast hx hb hK hP hD hS 2 rfl rfl (by omega) dX0_addMarket_65 (fun H locs hP hS => ?_)
        have hP : va_P D vwCl (mXW h0 a1 a2 cA v (mU L (v 0) a) (mU P (v 0) b)) H := hP
        have hD := hDD v (mU L (v 0) a) (mU P (v 0) b)
        refine lv_aload_n hx hb dX0_addMarket_66 rfl (lv_at hl 1 rfl) ?_
        refine lv_iload_n hx hb dX0_addMarket_67 rfl (lv_at hl 0 rfl) ?_
        refine mw_iconst hx hb dX0_addMarket_68 ?_
        refine mw_iadd hx hb dX0_addMarket_69 ?_
        refine mw_putX hx hb hts hin hown hK hP hD hS rfl 2 (by decide) (Nat.le_of_ble_eq_true rfl) (by decide +kernel) rfl rfl (by decide +kernel) dX0_addMarket_70 (fun H locs hP hS => ?_)
        have hP : va_P D vwCl (mXW h0 a1 a2 cA (mPut v 0 ((v 0) + 1)) (mU L (v 0) a) (mU P (v 0) b)) H := hP
        have hD := hDD (mPut v 0 ((v 0) + 1)) (mU L (v 0) a) (mU P (v 0) b)
        refine lv_iload_n hx hb dX0_addMarket_73 rfl (lv_at hl 0 rfl) ?_
        exact mw_xretI hx hb hr hlocks dX0_addMarket_74 (mEx2_0 (by omega) (by omega)) hP hS rfl
      · exact mw_throw (cls := "java/lang/IllegalStateException") (text := "there are as many markets as can be") (ik := 53) (is := 55) (ic := 57) hx hb hfl hts hown (by decide +kernel) hE hE.1.2.2.2.2.2.2.1 hE.1.1 (by decide +kernel) (by decide +kernel) (by decide +kernel) (by decide +kernel) (by decide +kernel) (hl.1.trans hml.symm) dX0_addMarket_42 dX0_addMarket_45 dX0_addMarket_46 dX0_addMarket_48 dX0_addMarket_51 hout (Nat.le_of_ble_eq_true rfl) ⟨Nat.le_of_ble_eq_true rfl, Nat.le_of_ble_eq_true rfl, Nat.le_of_ble_eq_true rfl, Nat.le_of_ble_eq_true rfl⟩ hlocks (fun t ht => ⟨⟨1, (mEx2_2 (by omega) (by omega)), rfl⟩, ht⟩)
end
section
set_option maxHeartbeats 400000 in
set_option maxRecDepth 100000 in
theorem x_X0_shift (l : Launch) (hfl : l.flags = flags0) (D : va_G) (h0 a1 a2 : Nat) (cA cJ : ClassId) (v : Nat → Int) (L P : Int → Int) (m9 b : Int) (hm9 : mRI m9) (hb9 : mRI b) (hok : mOK v L P) (hdis : mDis h0 a1 a2) : mX l yX0_shift wsX0_shift ({ frames := 7, cells := 1, slots := 6, locals := 111 }) [.ref h0, .int (mI (m9)), .int (mI (b))] D (mXW h0 a1 a2 cA v L P) (mTy cA cJ) ["java/lang/IndexOutOfBoundsException", "java/lang/IllegalArgumentException"] (mEx2 (mMk v m9) (-60 ≤ b ∧ b ≤ 60)) (some (.int (mI ((P m9 + b) % L m9)))) (mXW h0 a1 a2 cA v L (mU P m9 ((P m9 + b) % L m9))) (mA3 h0 a1 a2) := by
  refine mw_openX (cc := cX0_shift) (maxL := 4) (ret := (some .int)) (by decide) rfl (Nat.le_of_ble_eq_true rfl) ?_
  intro p e s m below meth c ls hC hr hlocks hout hB hE hl
  obtain ⟨hx, hb, hml, hown, hts⟩ := id hC
  obtain ⟨hP, hK⟩ := hB
  have hin : ∀ w ∈ wsX00, w ∈ wsX0_shift := by decide +kernel
  have hl : lv_has ls 4 [(0, .ref h0), (1, .int (mI (m9))), (2, .int (mI (b)))] := hl
  have hS : va_S (mA3 h0 a1 a2) s.heap s.heap [] := va_S.rf
  have hDD : ∀ (v : Nat → Int) (L P : Int → Int), va_D (mA3 h0 a1 a2) (mXW h0 a1 a2 cA v L P) := fun v L P => mD3 hdis (mA3_in h0 a1 a2)
  have hD := hDD v L P
  have hok9 := hok
  obtain ⟨⟨o1, o2⟩, oL, ⟨o3, o4, o5, o6, o7, o8⟩, ⟨o9, o10, o11, o12, o13, o14, o15, o16⟩⟩ := hok9
  refine lv_aload_n hx hb dX0_shift_0 rfl (lv_at hl 0 rfl) ?_
  refine lv_iload_n hx hb dX0_shift_1 rfl (lv_at hl 1 rfl) ?_
  by_cases c_2a : mMk v m9
  · refine mw_cVv (rest := []) (q := (RX0, TX0, 10)) hC (c_X0_checkMarket l D h0 a1 a2 cA cJ v L P m9 (by omega) (by omega) (by omega)) (cwV 1 hts gX0_shift_X0_checkMarket rfl rfl rfl (by decide +kernel) ⟨Nat.le_of_ble_eq_true rfl, Nat.le_of_ble_eq_true rfl⟩) hK hP rfl rfl rfl hl.1 rfl (Nat.le_of_ble_eq_true rfl) ⟨Nat.zero_le _, Nat.zero_le _⟩ dX0_shift_2 ?_
    refine lv_iload_n hx hb dX0_shift_5 rfl (lv_at hl 2 rfl) ?_
    refine mw_bipush hx hb (by decide +kernel) dX0_shift_6 ?_
    refine mw_bipush hx hb (by decide +kernel) dX0_shift_8 ?_
    refine mw_cSi (rest := []) hC (c_X0_isWithin l b (-60) 60 (by omega) (by omega) (by omega)) (va_cwS 3 hts gX0_shift_X0_isWithin rfl rfl rfl (by decide +kernel) ⟨Nat.le_of_ble_eq_true rfl, Nat.le_of_ble_eq_true rfl⟩) rfl hl.1 rfl (Nat.le_of_ble_eq_true rfl) ⟨Nat.zero_le _, Nat.zero_le _⟩ dX0_shift_10 ?_
    refine mw_split (fun c_13 => ?_) (fun c_13 => ?_)
    · refine mw_cSv (rest := []) hC (c_X0_checkArgument l) (va_cwS 1 hts gX0_shift_X0_checkArgument rfl rfl rfl (by decide +kernel) ⟨Nat.le_of_ble_eq_true rfl, Nat.le_of_ble_eq_true rfl⟩) rfl hl.1 rfl (Nat.le_of_ble_eq_true rfl) ⟨Nat.zero_le _, Nat.zero_le _⟩ dX0_shift_13 ?_
      obtain ⟨l1, l2, l3, l4⟩ := oL m9 (by omega) (by omega)
      refine lv_aload_n hx hb dX0_shift_16 rfl (lv_at hl 0 rfl) ?_
      refine lv_iload_n hx hb dX0_shift_17 rfl (lv_at hl 1 rfl) ?_
      refine mw_cVi (rest := []) (q := (RX0, TX0, 10)) hC (c_X0_placeOf l D h0 a1 a2 cA cJ v L P m9 (by omega)) (cwV 1 hts gX0_shift_X0_placeOf rfl rfl rfl (by decide +kernel) ⟨Nat.le_of_ble_eq_true rfl, Nat.le_of_ble_eq_true rfl⟩) hK hP rfl rfl rfl hl.1 rfl (Nat.le_of_ble_eq_true rfl) ⟨Nat.zero_le _, Nat.zero_le _⟩ dX0_shift_18 ?_
      refine lv_iload_n hx hb dX0_shift_21 rfl (lv_at hl 2 rfl) ?_
      refine mw_iadd hx hb dX0_shift_22 ?_
      refine mw_i2l hx hb (by omega) dX0_shift_23 ?_
      refine lv_aload_n hx hb dX0_shift_24 rfl (lv_at hl 0 rfl) ?_
      refine lv_iload_n hx hb dX0_shift_25 rfl (lv_at hl 1 rfl) ?_
      refine mw_cVi (rest := [.long (mL ((P m9) + b))]) (q := (RX0, TX0, 10)) hC (c_X0_lengthOf l D h0 a1 a2 cA cJ v L P m9 (by omega)) (cwV 1 hts gX0_shift_X0_lengthOf rfl rfl rfl (by decide +kernel) ⟨Nat.le_of_ble_eq_true rfl, Nat.le_of_ble_eq_true rfl⟩) hK hP rfl rfl rfl hl.1 rfl (Nat.le_of_ble_eq_true rfl) ⟨Nat.zero_le _, Nat.zero_le _⟩ dX0_shift_26 ?_
      refine mw_i2l hx hb (by omega) dX0_shift_29 ?_
      refine mw_cSl (rest := []) hC (c_X0_modulo l ((P m9) + b) (L m9) (by omega) (by omega) (by omega)) (va_cwS 2 hts gX0_shift_X0_modulo rfl rfl rfl (by decide +kernel) ⟨Nat.le_of_ble_eq_true rfl, Nat.le_of_ble_eq_true rfl⟩) rfl hl.1 rfl (Nat.le_of_ble_eq_true rfl) ⟨Nat.zero_le _, Nat.zero_le _⟩ dX0_shift_30 ?_
      refine mw_l2i hx hb dX0_shift_33 ?_
      refine lv_istore_n (lv' := [(3, .int (mI (((P m9) + b) % (L m9)))), (0, .ref h0), (1, .int (mI (m9))), (2, .int (mI (b)))]) hx hb dX0_shift_34 rfl hl (by decide) rfl (fun ls hl => ?_)
      refine lv_aload_n hx hb dX0_shift_35 rfl (lv_at hl 1 rfl) ?_
      refine lv_iload_n hx hb dX0_shift_36 rfl (lv_at hl 2 rfl) ?_
      refine mw_cVi (rest := []) (q := (RX0, TX0, 10)) hC (c_X0_isPlace l D h0 a1 a2 cA cJ v L P m9 (by omega)) (cwV 1 hts gX0_shift_X0_isPlace rfl rfl rfl (by decide +kernel) ⟨Nat.le_of_ble_eq_true rfl, Nat.le_of_ble_eq_true rfl⟩) hK hP rfl rfl rfl hl.1 rfl (Nat.le_of_ble_eq_true rfl) ⟨Nat.zero_le _, Nat.zero_le _⟩ dX0_shift_37 ?_
      refine mw_zeq (tgt := 50) hx hb dX0_shift_40 (by decide) (fun c_40 => False.elim (by omega)) (fun c_40 => ?_)
      refine lv_aload_n hx hb dX0_shift_43 rfl (lv_at hl 1 rfl) ?_
      refine mw_getX hx hb hts hin hown hK hP rfl 1 (by decide) (by decide +kernel) rfl rfl dX0_shift_44 ?_
      refine lv_iload_n hx hb dX0_shift_47 rfl (lv_at hl 2 rfl) ?_
      refine lv_iload_n hx hb dX0_shift_48 rfl (lv_at hl 0 rfl) ?_
      refine mw_iast hx hb hK hP hD hS 2 rfl rfl (by omega) dX0_shift_49 (fun H locs hP hS => ?_)
      have hP : va_P D vwCl (mXW h0 a1 a2 cA v L (mU P m9 (((P m9) + b) % (L m9)))) H := hP
      have hD := hDD v L (mU P m9 (((P m9) + b) % (L m9)))
      refine lv_iload_n hx hb dX0_shift_50 rfl (lv_at hl 0 rfl) ?_
      exact mw_xretI hx hb hr hlocks dX0_shift_51 (mEx2_0 (by omega) (by omega)) hP hS rfl
    · exact mw_tS (rest := []) hC (t_X0_checkArgument_t l hfl) hE (va_cwS 1 hts gX0_shift_X0_checkArgument rfl rfl rfl (by decide +kernel) ⟨Nat.le_of_ble_eq_true rfl, Nat.le_of_ble_eq_true rfl⟩) rfl hl.1 rfl (Nat.le_of_ble_eq_true rfl) ⟨Nat.le_of_ble_eq_true rfl, Nat.le_of_ble_eq_true rfl⟩ hout hlocks dX0_shift_13 (fun t ht => ⟨⟨1, (mEx2_2 (by omega) (by omega)), rfl⟩, ht⟩)
  · exact mw_tV (rest := []) (q := (RX0, TX0, 10)) hC (t_X0_checkMarket_t l hfl D h0 a1 a2 cA cJ v L P m9 (by omega) (by omega) (by omega)) hE (cwV 1 hts gX0_shift_X0_checkMarket rfl rfl rfl (by decide +kernel) ⟨Nat.le_of_ble_eq_true rfl, Nat.le_of_ble_eq_true rfl⟩) hK hP rfl rfl rfl hl.1 rfl (Nat.le_of_ble_eq_true rfl) ⟨Nat.le_of_ble_eq_true rfl, Nat.le_of_ble_eq_true rfl⟩ hout hlocks dX0_shift_2 (fun t ht => ⟨⟨0, (mEx2_1 (by omega)), rfl⟩, ht⟩)

set_option maxHeartbeats 400000 in
set_option maxRecDepth 100000 in
theorem x_X0_setMoon (l : Launch) (hfl : l.flags = flags0) (D : va_G) (h0 a1 a2 : Nat) (cA cJ : ClassId) (v : Nat → Int) (L P : Int → Int) (n d s9 : Int) (hn : mRI n) (hd9 : mRI d) (hs9 : mRI s9) (hok : mOK v L P) (hdis : mDis h0 a1 a2) : mX l yX0_setMoon wsX0_setMoon ({ frames := 7, cells := 1, slots := 6, locals := 110 }) [.ref h0, .int (mI (n)), .int (mI (d)), .int (mI (s9))] D (mXW h0 a1 a2 cA v L P) (mTy cA cJ) ["java/lang/IllegalArgumentException"] (mEx1 ((1 ≤ d ∧ d ≤ 100) ∧ (2 * d ≤ n ∧ n ≤ 100 * d) ∧ -1000 ≤ s9 ∧ s9 ≤ 1000)) (none) (mXW h0 a1 a2 cA (mPut (mPut (mPut v 1 n) 2 d) 3 s9) L P) (mA3 h0 a1 a2) := by
  refine mw_openX (cc := cX0_setMoon) (maxL := 4) (ret := none) (by decide) rfl (Nat.le_of_ble_eq_true rfl) ?_
  intro p e s m below meth c ls hC hr hlocks hout hB hE hl
  obtain ⟨hx, hb, hml, hown, hts⟩ := id hC
  obtain ⟨hP, hK⟩ := hB
  have hin : ∀ w ∈ wsX00, w ∈ wsX0_setMoon := by decide +kernel
  have hl : lv_has ls 4 [(0, .ref h0), (1, .int (mI (n))), (2, .int (mI (d))), (3, .int (mI (s9)))] := hl
  have hS : va_S (mA3 h0 a1 a2) s.heap s.heap [] := va_S.rf
  have hDD : ∀ (v : Nat → Int) (L P : Int → Int), va_D (mA3 h0 a1 a2) (mXW h0 a1 a2 cA v L P) := fun v L P => mD3 hdis (mA3_in h0 a1 a2)
  have hD := hDD v L P
  refine lv_iload_n hx hb dX0_setMoon_0 rfl (lv_at hl 2 rfl) ?_
  refine mw_iconst hx hb dX0_setMoon_1 ?_
  refine mw_bipush hx hb (by decide +kernel) dX0_setMoon_2 ?_
  refine mw_cSi (rest := []) hC (c_X0_isWithin l d 1 100 (by omega) (by omega) (by omega)) (va_cwS 3 hts gX0_setMoon_X0_isWithin rfl rfl rfl (by decide +kernel) ⟨Nat.le_of_ble_eq_true rfl, Nat.le_of_ble_eq_true rfl⟩) rfl hl.1 rfl (Nat.le_of_ble_eq_true rfl) ⟨Nat.zero_le _, Nat.zero_le _⟩ dX0_setMoon_4 ?_
  refine mw_zeq (tgt := 28) hx hb dX0_setMoon_7 (by decide) (fun c_7 => ?_) (fun c_7 => ?_)
  · refine mw_iconst hx hb dX0_setMoon_28 ?_
    exact mw_tS (rest := []) hC (t_X0_checkArgument_t l hfl) hE (va_cwS 1 hts gX0_setMoon_X0_checkArgument rfl rfl rfl (by decide +kernel) ⟨Nat.le_of_ble_eq_true rfl, Nat.le_of_ble_eq_true rfl⟩) rfl hl.1 rfl (Nat.le_of_ble_eq_true rfl) ⟨Nat.le_of_ble_eq_true rfl, Nat.le_of_ble_eq_true rfl⟩ hout hlocks dX0_setMoon_29 (fun t ht => ⟨⟨0, (mEx1_1 (by omega)), rfl⟩, ht⟩)
  · refine lv_iload_n hx hb dX0_setMoon_10 rfl (lv_at hl 1 rfl) ?_
    refine mw_iconst hx hb dX0_setMoon_11 ?_
    refine lv_iload_n hx hb dX0_setMoon_12 rfl (lv_at hl 2 rfl) ?_
    refine mw_imul hx hb dX0_setMoon_13 ?_
    refine mw_bipush hx hb (by decide +kernel) dX0_setMoon_14 ?_
    refine lv_iload_n hx hb dX0_setMoon_16 rfl (lv_at hl 2 rfl) ?_
    refine mw_imul hx hb dX0_setMoon_17 ?_
    refine mw_cSi (rest := []) hC (c_X0_isWithin l n (2 * d) (100 * d) (by omega) (by omega) (by omega)) (va_cwS 3 hts gX0_setMoon_X0_isWithin rfl rfl rfl (by decide +kernel) ⟨Nat.le_of_ble_eq_true rfl, Nat.le_of_ble_eq_true rfl⟩) rfl hl.1 rfl (Nat.le_of_ble_eq_true rfl) ⟨Nat.zero_le _, Nat.zero_le _⟩ dX0_setMoon_18 ?_
    refine mw_zeq (tgt := 28) hx hb dX0_setMoon_21 (by decide) (fun c_21 => ?_) (fun c_21 => ?_)
    · refine mw_iconst hx hb dX0_setMoon_28 ?_
      exact mw_tS (rest := []) hC (t_X0_checkArgument_t l hfl) hE (va_cwS 1 hts gX0_setMoon_X0_checkArgument rfl rfl rfl (by decide +kernel) ⟨Nat.le_of_ble_eq_true rfl, Nat.le_of_ble_eq_true rfl⟩) rfl hl.1 rfl (Nat.le_of_ble_eq_true rfl) ⟨Nat.le_of_ble_eq_true rfl, Nat.le_of_ble_eq_true rfl⟩ hout hlocks dX0_setMoon_29 (fun t ht => ⟨⟨0, (mEx1_1 (by omega)), rfl⟩, ht⟩)
    · refine mw_iconst hx hb dX0_setMoon_24 ?_
      refine lv_goto (tgt := 29) hx hb dX0_setMoon_25 (by decide) ?_
      refine mw_cSv (rest := []) hC (c_X0_checkArgument l) (va_cwS 1 hts gX0_setMoon_X0_checkArgument rfl rfl rfl (by decide +kernel) ⟨Nat.le_of_ble_eq_true rfl, Nat.le_of_ble_eq_true rfl⟩) rfl hl.1 rfl (Nat.le_of_ble_eq_true rfl) ⟨Nat.zero_le _, Nat.zero_le _⟩ dX0_setMoon_29 ?_
      refine lv_iload_n hx hb dX0_setMoon_32 rfl (lv_at hl 3 rfl) ?_
      refine mw_sipush hx hb (by decide +kernel) dX0_setMoon_33 ?_
      refine mw_sipush hx hb (by decide +kernel) dX0_setMoon_36 ?_
      refine mw_cSi (rest := []) hC (c_X0_isWithin l s9 (-1000) 1000 (by omega) (by omega) (by omega)) (va_cwS 3 hts gX0_setMoon_X0_isWithin rfl rfl rfl (by decide +kernel) ⟨Nat.le_of_ble_eq_true rfl, Nat.le_of_ble_eq_true rfl⟩) rfl hl.1 rfl (Nat.le_of_ble_eq_true rfl) ⟨Nat.zero_le _, Nat.zero_le _⟩ dX0_setMoon_39 ?_
      refine mw_split (fun c_42 => ?_) (fun c_42 => ?_)
      · refine mw_cSv (rest := []) hC (c_X0_checkArgument l) (va_cwS 1 hts gX0_setMoon_X0_checkArgument rfl rfl rfl (by decide +kernel) ⟨Nat.le_of_ble_eq_true rfl, Nat.le_of_ble_eq_true rfl⟩) rfl hl.1 rfl (Nat.le_of_ble_eq_true rfl) ⟨Nat.zero_le _, Nat.zero_le _⟩ dX0_setMoon_42 ?_
        refine lv_aload_n hx hb dX0_setMoon_45 rfl (lv_at hl 0 rfl) ?_
        refine lv_iload_n hx hb dX0_setMoon_46 rfl (lv_at hl 1 rfl) ?_
        refine mw_putX hx hb hts hin hown hK hP hD hS rfl 3 (by decide) (Nat.le_of_ble_eq_true rfl) (by decide +kernel) rfl rfl (by decide +kernel) dX0_setMoon_47 (fun H locs hP hS => ?_)
        have hP : va_P D vwCl (mXW h0 a1 a2 cA (mPut v 1 n) L P) H := hP
        have hD := hDD (mPut v 1 n) L P
        refine lv_aload_n hx hb dX0_setMoon_50 rfl (lv_at hl 0 rfl) ?_
        refine lv_iload_n hx hb dX0_setMoon_51 rfl (lv_at hl 2 rfl) ?_
        refine mw_putX hx hb hts hin hown hK hP hD hS rfl 4 (by decide) (Nat.le_of_ble_eq_true rfl) (by decide +kernel) rfl rfl (by decide +kernel) dX0_setMoon_52 (fun H locs hP hS => ?_)
        have hP : va_P D vwCl (mXW h0 a1 a2 cA (mPut (mPut v 1 n) 2 d) L P) H := hP
        have hD := hDD (mPut (mPut v 1 n) 2 d) L P
        refine lv_aload_n hx hb dX0_setMoon_55 rfl (lv_at hl 0 rfl) ?_
        refine lv_iload_n hx hb dX0_setMoon_56 rfl (lv_at hl 3 rfl) ?_
        refine mw_putX hx hb hts hin hown hK hP hD hS rfl 5 (by decide) (Nat.le_of_ble_eq_true rfl) (by decide +kernel) rfl rfl (by decide +kernel) dX0_setMoon_57 (fun H locs hP hS => ?_)
        have hP : va_P D vwCl (mXW h0 a1 a2 cA (mPut (mPut (mPut v 1 n) 2 d) 3 s9) L P) H := hP
        have hD := hDD (mPut (mPut (mPut v 1 n) 2 d) 3 s9) L P
        exact mw_xretV hx hb hr hlocks dX0_setMoon_60 (mEx1_0 (by omega)) hP hS
      · exact mw_tS (rest := []) hC (t_X0_checkArgument_t l hfl) hE (va_cwS 1 hts gX0_setMoon_X0_checkArgument rfl rfl rfl (by decide +kernel) ⟨Nat.le_of_ble_eq_true rfl, Nat.le_of_ble_eq_true rfl⟩) rfl hl.1 rfl (Nat.le_of_ble_eq_true rfl) ⟨Nat.le_of_ble_eq_true rfl, Nat.le_of_ble_eq_true rfl⟩ hout hlocks dX0_setMoon_42 (fun t ht => ⟨⟨0, (mEx1_1 (by omega)), rfl⟩, ht⟩)

set_option maxHeartbeats 400000 in
set_option maxRecDepth 100000 in
theorem x_X0_setYear (l : Launch) (hfl : l.flags = flags0) (D : va_G) (h0 a1 a2 : Nat) (cA cJ : ClassId) (v : Nat → Int) (L P : Int → Int) (y a b c9 : Int) (hy : mRI y) (ha : mRI a) (hb9 : mRI b) (hc9 : mRI c9) (hok : mOK v L P) (hdis : mDis h0 a1 a2) : mX l yX0_setYear wsX0_setYear ({ frames := 7, cells := 1, slots := 6, locals := 110 }) [.ref h0, .int (mI (y)), .int (mI (a)), .int (mI (b)), .int (mI (c9))] D (mXW h0 a1 a2 cA v L P) (mTy cA cJ) ["java/lang/IllegalArgumentException"] (mEx1 ((100 ≤ y ∧ y ≤ 500) ∧ (1 ≤ c9 ∧ c9 ≤ 400) ∧ (0 ≤ a ∧ a ≤ c9) ∧ 0 ≤ b ∧ b ≤ c9 - 1)) (none) (mXW h0 a1 a2 cA (mPut (mPut (mPut (mPut v 4 y) 5 a) 6 b) 7 c9) L P) (mA3 h0 a1 a2) := by
  refine mw_openX (cc := cX0_setYear) (maxL := 5) (ret := none) (by decide) rfl (Nat.le_of_ble_eq_true rfl) ?_
  intro p e s m below meth c ls hC hr hlocks hout hB hE hl
  obtain ⟨hx, hb, hml, hown, hts⟩ := id hC
  obtain ⟨hP, hK⟩ := hB
  have hin : ∀ w ∈ wsX00, w ∈ wsX0_setYear := by decide +kernel
  have hl : lv_has ls 5 [(0, .ref h0), (1, .int (mI (y))), (2, .int (mI (a))), (3, .int (mI (b))), (4, .int (mI (c9)))] := hl
  have hS : va_S (mA3 h0 a1 a2) s.heap s.heap [] := va_S.rf
  have hDD : ∀ (v : Nat → Int) (L P : Int → Int), va_D (mA3 h0 a1 a2) (mXW h0 a1 a2 cA v L P) := fun v L P => mD3 hdis (mA3_in h0 a1 a2)
  have hD := hDD v L P
  refine lv_iload_n hx hb dX0_setYear_0 rfl (lv_at hl 1 rfl) ?_
  refine mw_bipush hx hb (by decide +kernel) dX0_setYear_1 ?_
  refine mw_sipush hx hb (by decide +kernel) dX0_setYear_3 ?_
  refine mw_cSi (rest := []) hC (c_X0_isWithin l y 100 500 (by omega) (by omega) (by omega)) (va_cwS 3 hts gX0_setYear_X0_isWithin rfl rfl rfl (by decide +kernel) ⟨Nat.le_of_ble_eq_true rfl, Nat.le_of_ble_eq_true rfl⟩) rfl hl.1 rfl (Nat.le_of_ble_eq_true rfl) ⟨Nat.zero_le _, Nat.zero_le _⟩ dX0_setYear_6 ?_
  refine mw_zeq (tgt := 28) hx hb dX0_setYear_9 (by decide) (fun c_9 => ?_) (fun c_9 => ?_)
  · refine mw_iconst hx hb dX0_setYear_28 ?_
    exact mw_tS (rest := []) hC (t_X0_checkArgument_t l hfl) hE (va_cwS 1 hts gX0_setYear_X0_checkArgument rfl rfl rfl (by decide +kernel) ⟨Nat.le_of_ble_eq_true rfl, Nat.le_of_ble_eq_true rfl⟩) rfl hl.1 rfl (Nat.le_of_ble_eq_true rfl) ⟨Nat.le_of_ble_eq_true rfl, Nat.le_of_ble_eq_true rfl⟩ hout hlocks dX0_setYear_29 (fun t ht => ⟨⟨0, (mEx1_1 (by omega)), rfl⟩, ht⟩)
  · refine lv_iload hx hb dX0_setYear_12 (lv_at hl 4 rfl) ?_
    refine mw_iconst hx hb dX0_setYear_14 ?_
    refine mw_sipush hx hb (by decide +kernel) dX0_setYear_15 ?_
    refine mw_cSi (rest := []) hC (c_X0_isWithin l c9 1 400 (by omega) (by omega) (by omega)) (va_cwS 3 hts gX0_setYear_X0_isWithin rfl rfl rfl (by decide +kernel) ⟨Nat.le_of_ble_eq_true rfl, Nat.le_of_ble_eq_true rfl⟩) rfl hl.1 rfl (Nat.le_of_ble_eq_true rfl) ⟨Nat.zero_le _, Nat.zero_le _⟩ dX0_setYear_18 ?_
    refine mw_zeq (tgt := 28) hx hb dX0_setYear_21 (by decide) (fun c_21 => ?_) (fun c_21 => ?_)
    · refine mw_iconst hx hb dX0_setYear_28 ?_
      exact mw_tS (rest := []) hC (t_X0_checkArgument_t l hfl) hE (va_cwS 1 hts gX0_setYear_X0_checkArgument rfl rfl rfl (by decide +kernel) ⟨Nat.le_of_ble_eq_true rfl, Nat.le_of_ble_eq_true rfl⟩) rfl hl.1 rfl (Nat.le_of_ble_eq_true rfl) ⟨Nat.le_of_ble_eq_true rfl, Nat.le_of_ble_eq_true rfl⟩ hout hlocks dX0_setYear_29 (fun t ht => ⟨⟨0, (mEx1_1 (by omega)), rfl⟩, ht⟩)
    · refine mw_iconst hx hb dX0_setYear_24 ?_
      refine lv_goto (tgt := 29) hx hb dX0_setYear_25 (by decide) ?_
      refine mw_cSv (rest := []) hC (c_X0_checkArgument l) (va_cwS 1 hts gX0_setYear_X0_checkArgument rfl rfl rfl (by decide +kernel) ⟨Nat.le_of_ble_eq_true rfl, Nat.le_of_ble_eq_true rfl⟩) rfl hl.1 rfl (Nat.le_of_ble_eq_true rfl) ⟨Nat.zero_le _, Nat.zero_le _⟩ dX0_setYear_29 ?_
      refine lv_iload_n hx hb dX0_setYear_32 rfl (lv_at hl 2 rfl) ?_
      refine mw_iconst hx hb dX0_setYear_33 ?_
      refine lv_iload hx hb dX0_setYear_34 (lv_at hl 4 rfl) ?_
      refine mw_cSi (rest := []) hC (c_X0_isWithin l a 0 c9 (by omega) (by omega) (by omega)) (va_cwS 3 hts gX0_setYear_X0_isWithin rfl rfl rfl (by decide +kernel) ⟨Nat.le_of_ble_eq_true rfl, Nat.le_of_ble_eq_true rfl⟩) rfl hl.1 rfl (Nat.le_of_ble_eq_true rfl) ⟨Nat.zero_le _, Nat.zero_le _⟩ dX0_setYear_36 ?_
      refine mw_zeq (tgt := 58) hx hb dX0_setYear_39 (by decide) (fun c_39 => ?_) (fun c_39 => ?_)
      · refine mw_iconst hx hb dX0_setYear_58 ?_
        exact mw_tS (rest := []) hC (t_X0_checkArgument_t l hfl) hE (va_cwS 1 hts gX0_setYear_X0_checkArgument rfl rfl rfl (by decide +kernel) ⟨Nat.le_of_ble_eq_true rfl, Nat.le_of_ble_eq_true rfl⟩) rfl hl.1 rfl (Nat.le_of_ble_eq_true rfl) ⟨Nat.le_of_ble_eq_true rfl, Nat.le_of_ble_eq_true rfl⟩ hout hlocks dX0_setYear_59 (fun t ht => ⟨⟨0, (mEx1_1 (by omega)), rfl⟩, ht⟩)
      · refine lv_iload_n hx hb dX0_setYear_42 rfl (lv_at hl 3 rfl) ?_
        refine mw_iconst hx hb dX0_setYear_43 ?_
        refine lv_iload hx hb dX0_setYear_44 (lv_at hl 4 rfl) ?_
        refine mw_iconst hx hb dX0_setYear_46 ?_
        refine mw_isub hx hb dX0_setYear_47 ?_
        refine mw_cSi (rest := []) hC (c_X0_isWithin l b 0 (c9 - 1) (by omega) (by omega) (by omega)) (va_cwS 3 hts gX0_setYear_X0_isWithin rfl rfl rfl (by decide +kernel) ⟨Nat.le_of_ble_eq_true rfl, Nat.le_of_ble_eq_true rfl⟩) rfl hl.1 rfl (Nat.le_of_ble_eq_true rfl) ⟨Nat.zero_le _, Nat.zero_le _⟩ dX0_setYear_48 ?_
        refine mw_zeq (tgt := 58) hx hb dX0_setYear_51 (by decide) (fun c_51 => ?_) (fun c_51 => ?_)
        · refine mw_iconst hx hb dX0_setYear_58 ?_
          exact mw_tS (rest := []) hC (t_X0_checkArgument_t l hfl) hE (va_cwS 1 hts gX0_setYear_X0_checkArgument rfl rfl rfl (by decide +kernel) ⟨Nat.le_of_ble_eq_true rfl, Nat.le_of_ble_eq_true rfl⟩) rfl hl.1 rfl (Nat.le_of_ble_eq_true rfl) ⟨Nat.le_of_ble_eq_true rfl, Nat.le_of_ble_eq_true rfl⟩ hout hlocks dX0_setYear_59 (fun t ht => ⟨⟨0, (mEx1_1 (by omega)), rfl⟩, ht⟩)
        · refine mw_iconst hx hb dX0_setYear_54 ?_
          refine lv_goto (tgt := 59) hx hb dX0_setYear_55 (by decide) ?_
          refine mw_cSv (rest := []) hC (c_X0_checkArgument l) (va_cwS 1 hts gX0_setYear_X0_checkArgument rfl rfl rfl (by decide +kernel) ⟨Nat.le_of_ble_eq_true rfl, Nat.le_of_ble_eq_true rfl⟩) rfl hl.1 rfl (Nat.le_of_ble_eq_true rfl) ⟨Nat.zero_le _, Nat.zero_le _⟩ dX0_setYear_59 ?_
          refine lv_aload_n hx hb dX0_setYear_62 rfl (lv_at hl 0 rfl) ?_
          refine lv_iload_n hx hb dX0_setYear_63 rfl (lv_at hl 1 rfl) ?_
          refine mw_putX hx hb hts hin hown hK hP hD hS rfl 6 (by decide) (Nat.le_of_ble_eq_true rfl) (by decide +kernel) rfl rfl (by decide +kernel) dX0_setYear_64 (fun H locs hP hS => ?_)
          have hP : va_P D vwCl (mXW h0 a1 a2 cA (mPut v 4 y) L P) H := hP
          have hD := hDD (mPut v 4 y) L P
          refine lv_aload_n hx hb dX0_setYear_67 rfl (lv_at hl 0 rfl) ?_
          refine lv_iload_n hx hb dX0_setYear_68 rfl (lv_at hl 2 rfl) ?_
          refine mw_putX hx hb hts hin hown hK hP hD hS rfl 7 (by decide) (Nat.le_of_ble_eq_true rfl) (by decide +kernel) rfl rfl (by decide +kernel) dX0_setYear_69 (fun H locs hP hS => ?_)
          have hP : va_P D vwCl (mXW h0 a1 a2 cA (mPut (mPut v 4 y) 5 a) L P) H := hP
          have hD := hDD (mPut (mPut v 4 y) 5 a) L P
          refine lv_aload_n hx hb dX0_setYear_72 rfl (lv_at hl 0 rfl) ?_
          refine lv_iload_n hx hb dX0_setYear_73 rfl (lv_at hl 3 rfl) ?_
          refine mw_putX hx hb hts hin hown hK hP hD hS rfl 8 (by decide) (Nat.le_of_ble_eq_true rfl) (by decide +kernel) rfl rfl (by decide +kernel) dX0_setYear_74 (fun H locs hP hS => ?_)
          have hP : va_P D vwCl (mXW h0 a1 a2 cA (mPut (mPut (mPut v 4 y) 5 a) 6 b) L P) H := hP
          have hD := hDD (mPut (mPut (mPut v 4 y) 5 a) 6 b) L P
          refine lv_aload_n hx hb dX0_setYear_77 rfl (lv_at hl 0 rfl) ?_
          refine lv_iload hx hb dX0_setYear_78 (lv_at hl 4 rfl) ?_
          refine mw_putX hx hb hts hin hown hK hP hD hS rfl 9 (by decide) (Nat.le_of_ble_eq_true rfl) (by decide +kernel) rfl rfl (by decide +kernel) dX0_setYear_80 (fun H locs hP hS => ?_)
          have hP : va_P D vwCl (mXW h0 a1 a2 cA (mPut (mPut (mPut (mPut v 4 y) 5 a) 6 b) 7 c9) L P) H := hP
          have hD := hDD (mPut (mPut (mPut (mPut v 4 y) 5 a) 6 b) 7 c9) L P
          exact mw_xretV hx hb hr hlocks dX0_setYear_83 (mEx1_0 (by omega)) hP hS
end
section
set_option maxHeartbeats 400000 in
set_option maxRecDepth 100000 in
theorem x_X0_isHeld (l : Launch) (hfl : l.flags = flags0) (D : va_G) (h0 a1 a2 : Nat) (cA cJ : ClassId) (v : Nat → Int) (L P : Int → Int) (m9 d : Int) (hm9 : mRI m9) (hd9 : mRI d) (hok : mOK v L P)  : mX l yX0_isHeld wsX0_isHeld ({ frames := 8, cells := 1, slots := 6, locals := 130 }) [.ref h0, .int (mI (m9)), .int (mI (d))] D (mXW h0 a1 a2 cA v L P) (mTy cA cJ) ["java/lang/IndexOutOfBoundsException", "java/lang/IllegalArgumentException"] (mEx2 (mMk v m9) (mDay d)) (some (.int (mI (mB (d % L m9 = P m9))))) (mXW h0 a1 a2 cA v L P) (fun _ => False) := by
  refine mw_openX (cc := cX0_isHeld) (maxL := 3) (ret := (some .boolean)) (by decide) rfl (Nat.le_of_ble_eq_true rfl) ?_
  intro p e s m below meth c ls hC hr hlocks hout hB hE hl
  obtain ⟨hx, hb, hml, hown, hts⟩ := id hC
  obtain ⟨hP, hK⟩ := hB
  have hl : lv_has ls 3 [(0, .ref h0), (1, .int (mI (m9))), (2, .int (mI (d)))] := hl
  have hok9 := hok
  obtain ⟨⟨o1, o2⟩, oL, ⟨o3, o4, o5, o6, o7, o8⟩, ⟨o9, o10, o11, o12, o13, o14, o15, o16⟩⟩ := hok9
  refine lv_aload_n hx hb dX0_isHeld_0 rfl (lv_at hl 0 rfl) ?_
  refine lv_iload_n hx hb dX0_isHeld_1 rfl (lv_at hl 1 rfl) ?_
  by_cases c_2a : mMk v m9
  · refine mw_cVv (rest := []) (q := (RX0, TX0, 10)) hC (c_X0_checkMarket l D h0 a1 a2 cA cJ v L P m9 (by omega) (by omega) (by omega)) (cwV 1 hts gX0_isHeld_X0_checkMarket rfl rfl rfl (by decide +kernel) ⟨Nat.le_of_ble_eq_true rfl, Nat.le_of_ble_eq_true rfl⟩) hK hP rfl rfl rfl hl.1 rfl (Nat.le_of_ble_eq_true rfl) ⟨Nat.zero_le _, Nat.zero_le _⟩ dX0_isHeld_2 ?_
    refine lv_iload_n hx hb dX0_isHeld_5 rfl (lv_at hl 2 rfl) ?_
    by_cases c_6a : mDay d
    · refine mw_cSv (rest := []) hC (c_X0_checkDay l d (by omega)) (va_cwS 1 hts gX0_isHeld_X0_checkDay rfl rfl rfl (by decide +kernel) ⟨Nat.le_of_ble_eq_true rfl, Nat.le_of_ble_eq_true rfl⟩) rfl hl.1 rfl (Nat.le_of_ble_eq_true rfl) ⟨Nat.zero_le _, Nat.zero_le _⟩ dX0_isHeld_6 ?_
      refine lv_aload_n hx hb dX0_isHeld_9 rfl (lv_at hl 0 rfl) ?_
      refine lv_iload_n hx hb dX0_isHeld_10 rfl (lv_at hl 1 rfl) ?_
      refine lv_iload_n hx hb dX0_isHeld_11 rfl (lv_at hl 2 rfl) ?_
      refine mw_i2l hx hb (by omega) dX0_isHeld_12 ?_
      refine mw_cVi (rest := []) (q := (RX0, TX0, 10)) hC (c_X0_isOn l D h0 a1 a2 cA cJ v L P m9 d (id hok) (by omega) (by omega)) (cwV 2 hts gX0_isHeld_X0_isOn rfl rfl rfl (by decide +kernel) ⟨Nat.le_of_ble_eq_true rfl, Nat.le_of_ble_eq_true rfl⟩) hK hP rfl rfl rfl hl.1 rfl (Nat.le_of_ble_eq_true rfl) ⟨Nat.zero_le _, Nat.zero_le _⟩ dX0_isHeld_13 ?_
      exact mw_xretZ hx hb hr hlocks dX0_isHeld_16 (mEx2_0 (by omega) (by omega)) hP va_S.rf rfl
    · exact mw_tS (rest := []) hC (t_X0_checkDay_t l hfl d (by omega) (by omega)) hE (va_cwS 1 hts gX0_isHeld_X0_checkDay rfl rfl rfl (by decide +kernel) ⟨Nat.le_of_ble_eq_true rfl, Nat.le_of_ble_eq_true rfl⟩) rfl hl.1 rfl (Nat.le_of_ble_eq_true rfl) ⟨Nat.le_of_ble_eq_true rfl, Nat.le_of_ble_eq_true rfl⟩ hout hlocks dX0_isHeld_6 (fun t ht => ⟨⟨1, (mEx2_2 (by omega) (by omega)), rfl⟩, ht⟩)
  · exact mw_tV (rest := []) (q := (RX0, TX0, 10)) hC (t_X0_checkMarket_t l hfl D h0 a1 a2 cA cJ v L P m9 (by omega) (by omega) (by omega)) hE (cwV 1 hts gX0_isHeld_X0_checkMarket rfl rfl rfl (by decide +kernel) ⟨Nat.le_of_ble_eq_true rfl, Nat.le_of_ble_eq_true rfl⟩) hK hP rfl rfl rfl hl.1 rfl (Nat.le_of_ble_eq_true rfl) ⟨Nat.le_of_ble_eq_true rfl, Nat.le_of_ble_eq_true rfl⟩ hout hlocks dX0_isHeld_2 (fun t ht => ⟨⟨0, (mEx2_1 (by omega)), rfl⟩, ht⟩)

set_option maxHeartbeats 400000 in
set_option maxRecDepth 100000 in
theorem x_X0_next (l : Launch) (hfl : l.flags = flags0) (D : va_G) (h0 a1 a2 : Nat) (cA cJ : ClassId) (v : Nat → Int) (L P : Int → Int) (m9 d : Int) (hm9 : mRI m9) (hd9 : mRI d) (hok : mOK v L P)  : mX l yX0_next wsX0_next ({ frames := 8, cells := 1, slots := 6, locals := 130 }) [.ref h0, .int (mI (m9)), .int (mI (d))] D (mXW h0 a1 a2 cA v L P) (mTy cA cJ) ["java/lang/IndexOutOfBoundsException", "java/lang/IllegalArgumentException"] (mEx2 (mMk v m9) (mDay d)) (some (.int (mI (d + (P m9 - d) % L m9)))) (mXW h0 a1 a2 cA v L P) (fun _ => False) := by
  refine mw_openX (cc := cX0_next) (maxL := 3) (ret := (some .int)) (by decide) rfl (Nat.le_of_ble_eq_true rfl) ?_
  intro p e s m below meth c ls hC hr hlocks hout hB hE hl
  obtain ⟨hx, hb, hml, hown, hts⟩ := id hC
  obtain ⟨hP, hK⟩ := hB
  have hl : lv_has ls 3 [(0, .ref h0), (1, .int (mI (m9))), (2, .int (mI (d)))] := hl
  have hok9 := hok
  obtain ⟨⟨o1, o2⟩, oL, ⟨o3, o4, o5, o6, o7, o8⟩, ⟨o9, o10, o11, o12, o13, o14, o15, o16⟩⟩ := hok9
  refine lv_aload_n hx hb dX0_next_0 rfl (lv_at hl 0 rfl) ?_
  refine lv_iload_n hx hb dX0_next_1 rfl (lv_at hl 1 rfl) ?_
  by_cases c_2a : mMk v m9
  · refine mw_cVv (rest := []) (q := (RX0, TX0, 10)) hC (c_X0_checkMarket l D h0 a1 a2 cA cJ v L P m9 (by omega) (by omega) (by omega)) (cwV 1 hts gX0_next_X0_checkMarket rfl rfl rfl (by decide +kernel) ⟨Nat.le_of_ble_eq_true rfl, Nat.le_of_ble_eq_true rfl⟩) hK hP rfl rfl rfl hl.1 rfl (Nat.le_of_ble_eq_true rfl) ⟨Nat.zero_le _, Nat.zero_le _⟩ dX0_next_2 ?_
    refine lv_iload_n hx hb dX0_next_5 rfl (lv_at hl 2 rfl) ?_
    by_cases c_6a : mDay d
    · refine mw_cSv (rest := []) hC (c_X0_checkDay l d (by omega)) (va_cwS 1 hts gX0_next_X0_checkDay rfl rfl rfl (by decide +kernel) ⟨Nat.le_of_ble_eq_true rfl, Nat.le_of_ble_eq_true rfl⟩) rfl hl.1 rfl (Nat.le_of_ble_eq_true rfl) ⟨Nat.zero_le _, Nat.zero_le _⟩ dX0_next_6 ?_
      obtain ⟨l1, l2, l3, l4⟩ := oL m9 (by omega) (by omega)
      refine lv_iload_n hx hb dX0_next_9 rfl (lv_at hl 2 rfl) ?_
      refine mw_i2l hx hb (by omega) dX0_next_10 ?_
      refine lv_aload_n hx hb dX0_next_11 rfl (lv_at hl 0 rfl) ?_
      refine lv_iload_n hx hb dX0_next_12 rfl (lv_at hl 1 rfl) ?_
      refine mw_cVi (rest := [.long (mL (d))]) (q := (RX0, TX0, 10)) hC (c_X0_placeOf l D h0 a1 a2 cA cJ v L P m9 (by omega)) (cwV 1 hts gX0_next_X0_placeOf rfl rfl rfl (by decide +kernel) ⟨Nat.le_of_ble_eq_true rfl, Nat.le_of_ble_eq_true rfl⟩) hK hP rfl rfl rfl hl.1 rfl (Nat.le_of_ble_eq_true rfl) ⟨Nat.zero_le _, Nat.zero_le _⟩ dX0_next_13 ?_
      refine lv_iload_n hx hb dX0_next_16 rfl (lv_at hl 2 rfl) ?_
      refine mw_isub hx hb dX0_next_17 ?_
      refine mw_i2l hx hb (by omega) dX0_next_18 ?_
      refine lv_aload_n hx hb dX0_next_19 rfl (lv_at hl 0 rfl) ?_
      refine lv_iload_n hx hb dX0_next_20 rfl (lv_at hl 1 rfl) ?_
      refine mw_cVi (rest := [.long (mL ((P m9) - d)), .long (mL (d))]) (q := (RX0, TX0, 10)) hC (c_X0_lengthOf l D h0 a1 a2 cA cJ v L P m9 (by omega)) (cwV 1 hts gX0_next_X0_lengthOf rfl rfl rfl (by decide +kernel) ⟨Nat.le_of_ble_eq_true rfl, Nat.le_of_ble_eq_true rfl⟩) hK hP rfl rfl rfl hl.1 rfl (Nat.le_of_ble_eq_true rfl) ⟨Nat.zero_le _, Nat.zero_le _⟩ dX0_next_21 ?_
      refine mw_i2l hx hb (by omega) dX0_next_24 ?_
      refine mw_cSl (rest := [.long (mL (d))]) hC (c_X0_modulo l ((P m9) - d) (L m9) (by omega) (by omega) (by omega)) (va_cwS 2 hts gX0_next_X0_modulo rfl rfl rfl (by decide +kernel) ⟨Nat.le_of_ble_eq_true rfl, Nat.le_of_ble_eq_true rfl⟩) rfl hl.1 rfl (Nat.le_of_ble_eq_true rfl) ⟨Nat.zero_le _, Nat.zero_le _⟩ dX0_next_25 ?_
      refine mw_ladd hx hb dX0_next_28 ?_
      refine mw_l2i hx hb dX0_next_29 ?_
      exact mw_xretI hx hb hr hlocks dX0_next_30 (mEx2_0 (by omega) (by omega)) hP va_S.rf rfl
    · exact mw_tS (rest := []) hC (t_X0_checkDay_t l hfl d (by omega) (by omega)) hE (va_cwS 1 hts gX0_next_X0_checkDay rfl rfl rfl (by decide +kernel) ⟨Nat.le_of_ble_eq_true rfl, Nat.le_of_ble_eq_true rfl⟩) rfl hl.1 rfl (Nat.le_of_ble_eq_true rfl) ⟨Nat.le_of_ble_eq_true rfl, Nat.le_of_ble_eq_true rfl⟩ hout hlocks dX0_next_6 (fun t ht => ⟨⟨1, (mEx2_2 (by omega) (by omega)), rfl⟩, ht⟩)
  · exact mw_tV (rest := []) (q := (RX0, TX0, 10)) hC (t_X0_checkMarket_t l hfl D h0 a1 a2 cA cJ v L P m9 (by omega) (by omega) (by omega)) hE (cwV 1 hts gX0_next_X0_checkMarket rfl rfl rfl (by decide +kernel) ⟨Nat.le_of_ble_eq_true rfl, Nat.le_of_ble_eq_true rfl⟩) hK hP rfl rfl rfl hl.1 rfl (Nat.le_of_ble_eq_true rfl) ⟨Nat.le_of_ble_eq_true rfl, Nat.le_of_ble_eq_true rfl⟩ hout hlocks dX0_next_2 (fun t ht => ⟨⟨0, (mEx2_1 (by omega)), rfl⟩, ht⟩)

set_option maxHeartbeats 400000 in
set_option maxRecDepth 100000 in
theorem x_X0_nearest (l : Launch) (hfl : l.flags = flags0) (D : va_G) (h0 a1 a2 : Nat) (cA cJ : ClassId) (v : Nat → Int) (L P : Int → Int) (m9 d : Int) (hm9 : mRI m9) (hd9 : mRI d) (hok : mOK v L P)  : mX l yX0_nearest wsX0_nearest ({ frames := 8, cells := 1, slots := 6, locals := 130 }) [.ref h0, .int (mI (m9)), .int (mI (d))] D (mXW h0 a1 a2 cA v L P) (mTy cA cJ) ["java/lang/IndexOutOfBoundsException", "java/lang/IllegalArgumentException"] (mEx2 (mMk v m9) (mDay d)) (some (.int (mI (mNear L P m9 d)))) (mXW h0 a1 a2 cA v L P) (fun _ => False) := by
  refine mw_openX (cc := cX0_nearest) (maxL := 6) (ret := (some .int)) (by decide) rfl (Nat.le_of_ble_eq_true rfl) ?_
  intro p e s m below meth c ls hC hr hlocks hout hB hE hl
  obtain ⟨hx, hb, hml, hown, hts⟩ := id hC
  obtain ⟨hP, hK⟩ := hB
  have hl : lv_has ls 6 [(0, .ref h0), (1, .int (mI (m9))), (2, .int (mI (d)))] := hl
  have hok9 := hok
  obtain ⟨⟨o1, o2⟩, oL, ⟨o3, o4, o5, o6, o7, o8⟩, ⟨o9, o10, o11, o12, o13, o14, o15, o16⟩⟩ := hok9
  refine lv_aload_n hx hb dX0_nearest_0 rfl (lv_at hl 0 rfl) ?_
  refine lv_iload_n hx hb dX0_nearest_1 rfl (lv_at hl 1 rfl) ?_
  by_cases c_2a : mMk v m9
  · refine mw_cVv (rest := []) (q := (RX0, TX0, 10)) hC (c_X0_checkMarket l D h0 a1 a2 cA cJ v L P m9 (by omega) (by omega) (by omega)) (cwV 1 hts gX0_nearest_X0_checkMarket rfl rfl rfl (by decide +kernel) ⟨Nat.le_of_ble_eq_true rfl, Nat.le_of_ble_eq_true rfl⟩) hK hP rfl rfl rfl hl.1 rfl (Nat.le_of_ble_eq_true rfl) ⟨Nat.zero_le _, Nat.zero_le _⟩ dX0_nearest_2 ?_
    refine lv_iload_n hx hb dX0_nearest_5 rfl (lv_at hl 2 rfl) ?_
    by_cases c_6a : mDay d
    · refine mw_cSv (rest := []) hC (c_X0_checkDay l d (by omega)) (va_cwS 1 hts gX0_nearest_X0_checkDay rfl rfl rfl (by decide +kernel) ⟨Nat.le_of_ble_eq_true rfl, Nat.le_of_ble_eq_true rfl⟩) rfl hl.1 rfl (Nat.le_of_ble_eq_true rfl) ⟨Nat.zero_le _, Nat.zero_le _⟩ dX0_nearest_6 ?_
      obtain ⟨l1, l2, l3, l4⟩ := oL m9 (by omega) (by omega)
      have n3 := m_mod_r (a := d - P m9) (b := L m9) (by omega)
      have n1 : (d - P m9) % L m9 ≤ L m9 - (d - P m9) % L m9 → mNear L P m9 d = d - (d - P m9) % L m9 := fun h => if_pos h
      have n2 : ¬ (d - P m9) % L m9 ≤ L m9 - (d - P m9) % L m9 → mNear L P m9 d = (d - (d - P m9) % L m9) + L m9 := fun h => if_neg h
      refine lv_aload_n hx hb dX0_nearest_9 rfl (lv_at hl 0 rfl) ?_
      refine lv_iload_n hx hb dX0_nearest_10 rfl (lv_at hl 1 rfl) ?_
      refine mw_cVi (rest := []) (q := (RX0, TX0, 10)) hC (c_X0_lengthOf l D h0 a1 a2 cA cJ v L P m9 (by omega)) (cwV 1 hts gX0_nearest_X0_lengthOf rfl rfl rfl (by decide +kernel) ⟨Nat.le_of_ble_eq_true rfl, Nat.le_of_ble_eq_true rfl⟩) hK hP rfl rfl rfl hl.1 rfl (Nat.le_of_ble_eq_true rfl) ⟨Nat.zero_le _, Nat.zero_le _⟩ dX0_nearest_11 ?_
      refine lv_istore_n (lv' := [(3, .int (mI (L m9))), (0, .ref h0), (1, .int (mI (m9))), (2, .int (mI (d)))]) hx hb dX0_nearest_14 rfl hl (by decide) rfl (fun ls hl => ?_)
      refine lv_iload_n hx hb dX0_nearest_15 rfl (lv_at hl 3 rfl) ?_
      refine lv_aload_n hx hb dX0_nearest_16 rfl (lv_at hl 1 rfl) ?_
      refine lv_iload_n hx hb dX0_nearest_17 rfl (lv_at hl 2 rfl) ?_
      refine mw_cVi (rest := [.int (mI (d))]) (q := (RX0, TX0, 10)) hC (c_X0_placeOf l D h0 a1 a2 cA cJ v L P m9 (by omega)) (cwV 1 hts gX0_nearest_X0_placeOf rfl rfl rfl (by decide +kernel) ⟨Nat.le_of_ble_eq_true rfl, Nat.le_of_ble_eq_true rfl⟩) hK hP rfl rfl rfl hl.1 rfl (Nat.le_of_ble_eq_true rfl) ⟨Nat.zero_le _, Nat.zero_le _⟩ dX0_nearest_18 ?_
      refine mw_isub hx hb dX0_nearest_21 ?_
      refine mw_i2l hx hb (by omega) dX0_nearest_22 ?_
      refine lv_iload_n hx hb dX0_nearest_23 rfl (lv_at hl 0 rfl) ?_
      refine mw_i2l hx hb (by omega) dX0_nearest_24 ?_
      refine mw_cSl (rest := []) hC (c_X0_modulo l (d - (P m9)) (L m9) (by omega) (by omega) (by omega)) (va_cwS 2 hts gX0_nearest_X0_modulo rfl rfl rfl (by decide +kernel) ⟨Nat.le_of_ble_eq_true rfl, Nat.le_of_ble_eq_true rfl⟩) rfl hl.1 rfl (Nat.le_of_ble_eq_true rfl) ⟨Nat.zero_le _, Nat.zero_le _⟩ dX0_nearest_25 ?_
      refine mw_l2i hx hb dX0_nearest_28 ?_
      refine lv_istore (lv' := [(4, .int (mI ((d - (P m9)) % (L m9)))), (3, .int (mI (L m9))), (0, .ref h0), (1, .int (mI (m9))), (2, .int (mI (d)))]) hx hb dX0_nearest_29 hl (by decide) rfl (fun ls hl => ?_)
      refine lv_iload_n hx hb dX0_nearest_31 rfl (lv_at hl 4 rfl) ?_
      refine lv_iload hx hb dX0_nearest_32 (lv_at hl 0 rfl) ?_
      refine mw_isub hx hb dX0_nearest_34 ?_
      refine lv_istore (lv' := [(5, .int (mI (d - ((d - (P m9)) % (L m9))))), (4, .int (mI ((d - (P m9)) % (L m9)))), (3, .int (mI (L m9))), (0, .ref h0), (1, .int (mI (m9))), (2, .int (mI (d)))]) hx hb dX0_nearest_35 hl (by decide) rfl (fun ls hl => ?_)
      refine lv_iload hx hb dX0_nearest_37 (lv_at hl 1 rfl) ?_
      refine lv_iload_n hx hb dX0_nearest_39 rfl (lv_at hl 2 rfl) ?_
      refine lv_iload hx hb dX0_nearest_40 (lv_at hl 1 rfl) ?_
      refine mw_isub hx hb dX0_nearest_42 ?_
      refine mw_icmp_gt (tgt := 51) hx hb (by omega) (by omega) dX0_nearest_43 (by decide) (fun c_43 => ?_) (fun c_43 => ?_)
      · refine lv_iload hx hb dX0_nearest_51 (lv_at hl 0 rfl) ?_
        refine lv_iload_n hx hb dX0_nearest_53 rfl (lv_at hl 2 rfl) ?_
        refine mw_iadd hx hb dX0_nearest_54 ?_
        exact mw_xretI hx hb hr hlocks dX0_nearest_55 (mEx2_0 (by omega) (by omega)) hP va_S.rf (by omega)
      · refine lv_iload hx hb dX0_nearest_46 (lv_at hl 0 rfl) ?_
        refine lv_goto (tgt := 55) hx hb dX0_nearest_48 (by decide) ?_
        exact mw_xretI hx hb hr hlocks dX0_nearest_55 (mEx2_0 (by omega) (by omega)) hP va_S.rf (by omega)
    · exact mw_tS (rest := []) hC (t_X0_checkDay_t l hfl d (by omega) (by omega)) hE (va_cwS 1 hts gX0_nearest_X0_checkDay rfl rfl rfl (by decide +kernel) ⟨Nat.le_of_ble_eq_true rfl, Nat.le_of_ble_eq_true rfl⟩) rfl hl.1 rfl (Nat.le_of_ble_eq_true rfl) ⟨Nat.le_of_ble_eq_true rfl, Nat.le_of_ble_eq_true rfl⟩ hout hlocks dX0_nearest_6 (fun t ht => ⟨⟨1, (mEx2_2 (by omega) (by omega)), rfl⟩, ht⟩)
  · exact mw_tV (rest := []) (q := (RX0, TX0, 10)) hC (t_X0_checkMarket_t l hfl D h0 a1 a2 cA cJ v L P m9 (by omega) (by omega) (by omega)) hE (cwV 1 hts gX0_nearest_X0_checkMarket rfl rfl rfl (by decide +kernel) ⟨Nat.le_of_ble_eq_true rfl, Nat.le_of_ble_eq_true rfl⟩) hK hP rfl rfl rfl hl.1 rfl (Nat.le_of_ble_eq_true rfl) ⟨Nat.le_of_ble_eq_true rfl, Nat.le_of_ble_eq_true rfl⟩ hout hlocks dX0_nearest_2 (fun t ht => ⟨⟨0, (mEx2_1 (by omega)), rfl⟩, ht⟩)

set_option maxHeartbeats 400000 in
set_option maxRecDepth 100000 in
theorem x_X0_times (l : Launch) (hfl : l.flags = flags0) (D : va_G) (h0 a1 a2 : Nat) (cA cJ : ClassId) (v : Nat → Int) (L P : Int → Int) (m9 a b : Int) (hm9 : mRI m9) (ha : mRI a) (hb9 : mRI b) (hok : mOK v L P)  : mX l yX0_times wsX0_times ({ frames := 8, cells := 1, slots := 6, locals := 130 }) [.ref h0, .int (mI (m9)), .int (mI (a)), .int (mI (b))] D (mXW h0 a1 a2 cA v L P) (mTy cA cJ) ["java/lang/IndexOutOfBoundsException", "java/lang/IllegalArgumentException"] (mEx2 (mMk v m9) (mDay a ∧ mDay b ∧ a ≤ b)) (some (.int (mI (mCnt L P m9 a b)))) (mXW h0 a1 a2 cA v L P) (fun _ => False) := by
  refine mw_openX (cc := cX0_times) (maxL := 4) (ret := (some .int)) (by decide) rfl (Nat.le_of_ble_eq_true rfl) ?_
  intro p e s m below meth c ls hC hr hlocks hout hB hE hl
  obtain ⟨hx, hb, hml, hown, hts⟩ := id hC
  obtain ⟨hP, hK⟩ := hB
  have hl : lv_has ls 4 [(0, .ref h0), (1, .int (mI (m9))), (2, .int (mI (a))), (3, .int (mI (b)))] := hl
  have hok9 := hok
  obtain ⟨⟨o1, o2⟩, oL, ⟨o3, o4, o5, o6, o7, o8⟩, ⟨o9, o10, o11, o12, o13, o14, o15, o16⟩⟩ := hok9
  refine lv_aload_n hx hb dX0_times_0 rfl (lv_at hl 0 rfl) ?_
  refine lv_iload_n hx hb dX0_times_1 rfl (lv_at hl 1 rfl) ?_
  by_cases c_2a : mMk v m9
  · refine mw_cVv (rest := []) (q := (RX0, TX0, 10)) hC (c_X0_checkMarket l D h0 a1 a2 cA cJ v L P m9 (by omega) (by omega) (by omega)) (cwV 1 hts gX0_times_X0_checkMarket rfl rfl rfl (by decide +kernel) ⟨Nat.le_of_ble_eq_true rfl, Nat.le_of_ble_eq_true rfl⟩) hK hP rfl rfl rfl hl.1 rfl (Nat.le_of_ble_eq_true rfl) ⟨Nat.zero_le _, Nat.zero_le _⟩ dX0_times_2 ?_
    refine lv_iload_n hx hb dX0_times_5 rfl (lv_at hl 2 rfl) ?_
    by_cases c_6a : mDay a
    · refine mw_cSv (rest := []) hC (c_X0_checkDay l a (by omega)) (va_cwS 1 hts gX0_times_X0_checkDay rfl rfl rfl (by decide +kernel) ⟨Nat.le_of_ble_eq_true rfl, Nat.le_of_ble_eq_true rfl⟩) rfl hl.1 rfl (Nat.le_of_ble_eq_true rfl) ⟨Nat.zero_le _, Nat.zero_le _⟩ dX0_times_6 ?_
      refine lv_iload_n hx hb dX0_times_9 rfl (lv_at hl 3 rfl) ?_
      by_cases c_10a : mDay b
      · refine mw_cSv (rest := []) hC (c_X0_checkDay l b (by omega)) (va_cwS 1 hts gX0_times_X0_checkDay rfl rfl rfl (by decide +kernel) ⟨Nat.le_of_ble_eq_true rfl, Nat.le_of_ble_eq_true rfl⟩) rfl hl.1 rfl (Nat.le_of_ble_eq_true rfl) ⟨Nat.zero_le _, Nat.zero_le _⟩ dX0_times_10 ?_
        refine lv_iload_n hx hb dX0_times_13 rfl (lv_at hl 3 rfl) ?_
        refine lv_iload_n hx hb dX0_times_14 rfl (lv_at hl 2 rfl) ?_
        refine mw_icmp_lt (tgt := 22) hx hb (by omega) (by omega) dX0_times_15 (by decide) (fun c_15 => ?_) (fun c_15 => ?_)
        · refine mw_iconst hx hb dX0_times_22 ?_
          exact mw_tS (rest := []) hC (t_X0_checkArgument_t l hfl) hE (va_cwS 1 hts gX0_times_X0_checkArgument rfl rfl rfl (by decide +kernel) ⟨Nat.le_of_ble_eq_true rfl, Nat.le_of_ble_eq_true rfl⟩) rfl hl.1 rfl (Nat.le_of_ble_eq_true rfl) ⟨Nat.le_of_ble_eq_true rfl, Nat.le_of_ble_eq_true rfl⟩ hout hlocks dX0_times_23 (fun t ht => ⟨⟨1, (mEx2_2 (by omega) (by omega)), rfl⟩, ht⟩)
        · refine mw_iconst hx hb dX0_times_18 ?_
          refine lv_goto (tgt := 23) hx hb dX0_times_19 (by decide) ?_
          refine mw_cSv (rest := []) hC (c_X0_checkArgument l) (va_cwS 1 hts gX0_times_X0_checkArgument rfl rfl rfl (by decide +kernel) ⟨Nat.le_of_ble_eq_true rfl, Nat.le_of_ble_eq_true rfl⟩) rfl hl.1 rfl (Nat.le_of_ble_eq_true rfl) ⟨Nat.zero_le _, Nat.zero_le _⟩ dX0_times_23 ?_
          refine lv_aload_n hx hb dX0_times_26 rfl (lv_at hl 0 rfl) ?_
          refine lv_iload_n hx hb dX0_times_27 rfl (lv_at hl 1 rfl) ?_
          refine lv_iload_n hx hb dX0_times_28 rfl (lv_at hl 2 rfl) ?_
          refine lv_iload_n hx hb dX0_times_29 rfl (lv_at hl 3 rfl) ?_
          refine mw_cVi (rest := []) (q := (RX0, TX0, 10)) hC (c_X0_countHeld l D h0 a1 a2 cA cJ v L P m9 a b (id hok) (by omega) (by omega) (by omega)) (cwV 3 hts gX0_times_X0_countHeld rfl rfl rfl (by decide +kernel) ⟨Nat.le_of_ble_eq_true rfl, Nat.le_of_ble_eq_true rfl⟩) hK hP rfl rfl rfl hl.1 rfl (Nat.le_of_ble_eq_true rfl) ⟨Nat.zero_le _, Nat.zero_le _⟩ dX0_times_30 ?_
          exact mw_xretI hx hb hr hlocks dX0_times_33 (mEx2_0 (by omega) (by omega)) hP va_S.rf rfl
      · exact mw_tS (rest := []) hC (t_X0_checkDay_t l hfl b (by omega) (by omega)) hE (va_cwS 1 hts gX0_times_X0_checkDay rfl rfl rfl (by decide +kernel) ⟨Nat.le_of_ble_eq_true rfl, Nat.le_of_ble_eq_true rfl⟩) rfl hl.1 rfl (Nat.le_of_ble_eq_true rfl) ⟨Nat.le_of_ble_eq_true rfl, Nat.le_of_ble_eq_true rfl⟩ hout hlocks dX0_times_10 (fun t ht => ⟨⟨1, (mEx2_2 (by omega) (by omega)), rfl⟩, ht⟩)
    · exact mw_tS (rest := []) hC (t_X0_checkDay_t l hfl a (by omega) (by omega)) hE (va_cwS 1 hts gX0_times_X0_checkDay rfl rfl rfl (by decide +kernel) ⟨Nat.le_of_ble_eq_true rfl, Nat.le_of_ble_eq_true rfl⟩) rfl hl.1 rfl (Nat.le_of_ble_eq_true rfl) ⟨Nat.le_of_ble_eq_true rfl, Nat.le_of_ble_eq_true rfl⟩ hout hlocks dX0_times_6 (fun t ht => ⟨⟨1, (mEx2_2 (by omega) (by omega)), rfl⟩, ht⟩)
  · exact mw_tV (rest := []) (q := (RX0, TX0, 10)) hC (t_X0_checkMarket_t l hfl D h0 a1 a2 cA cJ v L P m9 (by omega) (by omega) (by omega)) hE (cwV 1 hts gX0_times_X0_checkMarket rfl rfl rfl (by decide +kernel) ⟨Nat.le_of_ble_eq_true rfl, Nat.le_of_ble_eq_true rfl⟩) hK hP rfl rfl rfl hl.1 rfl (Nat.le_of_ble_eq_true rfl) ⟨Nat.le_of_ble_eq_true rfl, Nat.le_of_ble_eq_true rfl⟩ hout hlocks dX0_times_2 (fun t ht => ⟨⟨0, (mEx2_1 (by omega)), rfl⟩, ht⟩)

set_option maxHeartbeats 400000 in
set_option maxRecDepth 100000 in
theorem x_X0_heldOn (l : Launch) (hfl : l.flags = flags0) (D : va_G) (h0 a1 a2 : Nat) (cA cJ : ClassId) (v : Nat → Int) (L P : Int → Int) (d : Int) (hd9 : mRI d) (hok : mOK v L P)  : mX l yX0_heldOn wsX0_heldOn ({ frames := 8, cells := 1, slots := 6, locals := 130 }) [.ref h0, .int (mI (d))] D (mXW h0 a1 a2 cA v L P) (mTy cA cJ) ["java/lang/IllegalArgumentException"] (mEx1 (mDay d)) (some (.int (mI (mSet L P d (v 0).toNat)))) (mXW h0 a1 a2 cA v L P) (fun _ => False) := by
  refine mw_openX (cc := cX0_heldOn) (maxL := 2) (ret := (some .int)) (by decide) rfl (Nat.le_of_ble_eq_true rfl) ?_
  intro p e s m below meth c ls hC hr hlocks hout hB hE hl
  obtain ⟨hx, hb, hml, hown, hts⟩ := id hC
  obtain ⟨hP, hK⟩ := hB
  have hl : lv_has ls 2 [(0, .ref h0), (1, .int (mI (d)))] := hl
  refine lv_iload_n hx hb dX0_heldOn_0 rfl (lv_at hl 1 rfl) ?_
  by_cases c_1a : mDay d
  · refine mw_cSv (rest := []) hC (c_X0_checkDay l d (by omega)) (va_cwS 1 hts gX0_heldOn_X0_checkDay rfl rfl rfl (by decide +kernel) ⟨Nat.le_of_ble_eq_true rfl, Nat.le_of_ble_eq_true rfl⟩) rfl hl.1 rfl (Nat.le_of_ble_eq_true rfl) ⟨Nat.zero_le _, Nat.zero_le _⟩ dX0_heldOn_1 ?_
    refine lv_aload_n hx hb dX0_heldOn_4 rfl (lv_at hl 0 rfl) ?_
    refine lv_iload_n hx hb dX0_heldOn_5 rfl (lv_at hl 1 rfl) ?_
    refine mw_cVi (rest := []) (q := (RX0, TX0, 10)) hC (c_X0_setOn l D h0 a1 a2 cA cJ v L P d (id hok) (by omega)) (cwV 1 hts gX0_heldOn_X0_setOn rfl rfl rfl (by decide +kernel) ⟨Nat.le_of_ble_eq_true rfl, Nat.le_of_ble_eq_true rfl⟩) hK hP rfl rfl rfl hl.1 rfl (Nat.le_of_ble_eq_true rfl) ⟨Nat.zero_le _, Nat.zero_le _⟩ dX0_heldOn_6 ?_
    exact mw_xretI hx hb hr hlocks dX0_heldOn_9 (mEx1_0 (by omega)) hP va_S.rf rfl
  · exact mw_tS (rest := []) hC (t_X0_checkDay_t l hfl d (by omega) (by omega)) hE (va_cwS 1 hts gX0_heldOn_X0_checkDay rfl rfl rfl (by decide +kernel) ⟨Nat.le_of_ble_eq_true rfl, Nat.le_of_ble_eq_true rfl⟩) rfl hl.1 rfl (Nat.le_of_ble_eq_true rfl) ⟨Nat.le_of_ble_eq_true rfl, Nat.le_of_ble_eq_true rfl⟩ hout hlocks dX0_heldOn_1 (fun t ht => ⟨⟨0, (mEx1_1 (by omega)), rfl⟩, ht⟩)
end
section
set_option maxHeartbeats 400000 in
set_option maxRecDepth 100000 in
theorem x_X0_doMeet (l : Launch) (hfl : l.flags = flags0) (D : va_G) (h0 a1 a2 : Nat) (cA cJ : ClassId) (v : Nat → Int) (L P : Int → Int) (z : Int) (hz : mRI z) (hok : mOK v L P)  : mX l yX0_doMeet wsX0_doMeet ({ frames := 8, cells := 1, slots := 6, locals := 132 }) [.ref h0, .int (mI (z))] D (mXW h0 a1 a2 cA v L P) (mTy cA cJ) ["java/lang/IllegalArgumentException", "java/lang/IndexOutOfBoundsException"] (mEx2 (1 ≤ mPop z 32 ∧ mPop z 32 ≤ 5) (mUsh z (v 0) = 0)) (some (.int (mI (mB (mMts v L P z))))) (mXW h0 a1 a2 cA v L P) (fun _ => False) := by
  refine mw_openX (cc := cX0_doMeet) (maxL := 2) (ret := (some .boolean)) (by decide) rfl (Nat.le_of_ble_eq_true rfl) ?_
  intro p e s m below meth c ls hC hr hlocks hout hB hE hl
  obtain ⟨hx, hb, hml, hown, hts⟩ := id hC
  obtain ⟨hP, hK⟩ := hB
  have hl : lv_has ls 2 [(0, .ref h0), (1, .int (mI (z)))] := hl
  have hok9 := hok
  obtain ⟨⟨o1, o2⟩, oL, ⟨o3, o4, o5, o6, o7, o8⟩, ⟨o9, o10, o11, o12, o13, o14, o15, o16⟩⟩ := hok9
  refine lv_aload_n hx hb dX0_doMeet_0 rfl (lv_at hl 0 rfl) ?_
  refine lv_iload_n hx hb dX0_doMeet_1 rfl (lv_at hl 1 rfl) ?_
  by_cases c_2a : 1 ≤ mPop z 32 ∧ mPop z 32 ≤ 5
  · by_cases c_2b : mUsh z (v 0) = 0
    · refine mw_cVv (rest := []) (q := (RX0, TX0, 10)) hC (c_X0_checkMeetingSet l D h0 a1 a2 cA cJ v L P z (by omega) (by omega) (by omega)) (cwV 1 hts gX0_doMeet_X0_checkMeetingSet rfl rfl rfl (by decide +kernel) ⟨Nat.le_of_ble_eq_true rfl, Nat.le_of_ble_eq_true rfl⟩) hK hP rfl rfl rfl hl.1 rfl (Nat.le_of_ble_eq_true rfl) ⟨Nat.zero_le _, Nat.zero_le _⟩ dX0_doMeet_2 ?_
      obtain ⟨t1, t2, t3⟩ := m_mts (z := z) hok (by omega)
      refine lv_aload_n hx hb dX0_doMeet_5 rfl (lv_at hl 0 rfl) ?_
      refine lv_iload_n hx hb dX0_doMeet_6 rfl (lv_at hl 1 rfl) ?_
      refine mw_cVl (rest := []) (q := (RX0, TX0, 10)) hC (c_X0_firstMeeting l D h0 a1 a2 cA cJ v L P z (id hok) (by omega) (by omega)) (cwV 1 hts gX0_doMeet_X0_firstMeeting rfl rfl rfl (by decide +kernel) ⟨Nat.le_of_ble_eq_true rfl, Nat.le_of_ble_eq_true rfl⟩) hK hP rfl rfl rfl hl.1 rfl (Nat.le_of_ble_eq_true rfl) ⟨Nat.zero_le _, Nat.zero_le _⟩ dX0_doMeet_7 ?_
      refine mw_ldc2 hx hb (-1) (by decide +kernel) hown (hts (.constantLong RX0 96 (-1)) (by decide +kernel)) dX0_doMeet_10 ?_
      refine mw_lcmp_eq (tgt := 21) hx hb (by omega) (by omega) dX0_doMeet_13 dX0_doMeet_14 (by decide) (fun c_14 => ?_) (fun c_14 => ?_)
      · refine mw_iconst hx hb dX0_doMeet_21 ?_
        exact mw_xretZ hx hb hr hlocks dX0_doMeet_22 (mEx2_0 (by omega) (by omega)) hP va_S.rf (by first | exact (mB_t (t1.mp (by omega))).symm | exact (mB_f (fun q => absurd (t1.mpr q) (by omega))).symm)
      · refine mw_iconst hx hb dX0_doMeet_17 ?_
        refine lv_goto (tgt := 22) hx hb dX0_doMeet_18 (by decide) ?_
        exact mw_xretZ hx hb hr hlocks dX0_doMeet_22 (mEx2_0 (by omega) (by omega)) hP va_S.rf (by first | exact (mB_t (t1.mp (by omega))).symm | exact (mB_f (fun q => absurd (t1.mpr q) (by omega))).symm)
    · exact mw_tV (rest := []) (q := (RX0, TX0, 10)) hC (t_X0_checkMeetingSet_t2 l hfl D h0 a1 a2 cA cJ v L P z (by omega) (by omega) (by omega)) hE (cwV 1 hts gX0_doMeet_X0_checkMeetingSet rfl rfl rfl (by decide +kernel) ⟨Nat.le_of_ble_eq_true rfl, Nat.le_of_ble_eq_true rfl⟩) hK hP rfl rfl rfl hl.1 rfl (Nat.le_of_ble_eq_true rfl) ⟨Nat.le_of_ble_eq_true rfl, Nat.le_of_ble_eq_true rfl⟩ hout hlocks dX0_doMeet_2 (fun t ht => ⟨⟨1, (mEx2_2 (by omega) (by omega)), rfl⟩, ht⟩)
  · exact mw_tV (rest := []) (q := (RX0, TX0, 10)) hC (t_X0_checkMeetingSet_t1 l hfl D h0 a1 a2 cA cJ v L P z (by omega) (by omega)) hE (cwV 1 hts gX0_doMeet_X0_checkMeetingSet rfl rfl rfl (by decide +kernel) ⟨Nat.le_of_ble_eq_true rfl, Nat.le_of_ble_eq_true rfl⟩) hK hP rfl rfl rfl hl.1 rfl (Nat.le_of_ble_eq_true rfl) ⟨Nat.le_of_ble_eq_true rfl, Nat.le_of_ble_eq_true rfl⟩ hout hlocks dX0_doMeet_2 (fun t ht => ⟨⟨0, (mEx2_1 (by omega)), rfl⟩, ht⟩)

set_option maxHeartbeats 400000 in
set_option maxRecDepth 100000 in
theorem x_X0_period (l : Launch) (hfl : l.flags = flags0) (D : va_G) (h0 a1 a2 : Nat) (cA cJ : ClassId) (v : Nat → Int) (L P : Int → Int) (z : Int) (hz : mRI z) (hok : mOK v L P)  : mX l yX0_period wsX0_period ({ frames := 8, cells := 1, slots := 6, locals := 132 }) [.ref h0, .int (mI (z))] D (mXW h0 a1 a2 cA v L P) (mTy cA cJ) ["java/lang/IllegalArgumentException", "java/lang/IndexOutOfBoundsException", "java/lang/IllegalStateException"] (mEx3 (1 ≤ mPop z 32 ∧ mPop z 32 ≤ 5) (mUsh z (v 0) = 0) (mMts v L P z)) (some (.int (mI (mSt (mFd L P z 0 (v 0).toNat))))) (mXW h0 a1 a2 cA v L P) (fun _ => False) := by
  refine mw_openX (cc := cX0_period) (maxL := 2) (ret := (some .int)) (by decide) rfl (Nat.le_of_ble_eq_true rfl) ?_
  intro p e s m below meth c ls hC hr hlocks hout hB hE hl
  obtain ⟨hx, hb, hml, hown, hts⟩ := id hC
  obtain ⟨hP, hK⟩ := hB
  have hl : lv_has ls 2 [(0, .ref h0), (1, .int (mI (z)))] := hl
  have hok9 := hok
  obtain ⟨⟨o1, o2⟩, oL, ⟨o3, o4, o5, o6, o7, o8⟩, ⟨o9, o10, o11, o12, o13, o14, o15, o16⟩⟩ := hok9
  refine lv_aload_n hx hb dX0_period_0 rfl (lv_at hl 0 rfl) ?_
  refine lv_iload_n hx hb dX0_period_1 rfl (lv_at hl 1 rfl) ?_
  by_cases c_2a : 1 ≤ mPop z 32 ∧ mPop z 32 ≤ 5
  · by_cases c_2b : mUsh z (v 0) = 0
    · refine mw_cVv (rest := []) (q := (RX0, TX0, 10)) hC (c_X0_checkMeetingSet l D h0 a1 a2 cA cJ v L P z (by omega) (by omega) (by omega)) (cwV 1 hts gX0_period_X0_checkMeetingSet rfl rfl rfl (by decide +kernel) ⟨Nat.le_of_ble_eq_true rfl, Nat.le_of_ble_eq_true rfl⟩) hK hP rfl rfl rfl hl.1 rfl (Nat.le_of_ble_eq_true rfl) ⟨Nat.zero_le _, Nat.zero_le _⟩ dX0_period_2 ?_
      obtain ⟨t1, t2, t3⟩ := m_mts (z := z) hok (by omega)
      refine lv_aload_n hx hb dX0_period_5 rfl (lv_at hl 0 rfl) ?_
      refine lv_iload_n hx hb dX0_period_6 rfl (lv_at hl 1 rfl) ?_
      refine mw_cVl (rest := []) (q := (RX0, TX0, 10)) hC (c_X0_firstMeeting l D h0 a1 a2 cA cJ v L P z (id hok) (by omega) (by omega)) (cwV 1 hts gX0_period_X0_firstMeeting rfl rfl rfl (by decide +kernel) ⟨Nat.le_of_ble_eq_true rfl, Nat.le_of_ble_eq_true rfl⟩) hK hP rfl rfl rfl hl.1 rfl (Nat.le_of_ble_eq_true rfl) ⟨Nat.zero_le _, Nat.zero_le _⟩ dX0_period_7 ?_
      by_cases c_10a : (mD0 (mFd L P z 0 (v 0).toNat)) ≠ -1
      · refine mw_cSv (rest := []) hC (c_X0_checkTheyMeet l (mD0 (mFd L P z 0 (v 0).toNat)) (by omega) (by omega)) (va_cwS 1 hts gX0_period_X0_checkTheyMeet rfl rfl rfl (by decide +kernel) ⟨Nat.le_of_ble_eq_true rfl, Nat.le_of_ble_eq_true rfl⟩) rfl hl.1 rfl (Nat.le_of_ble_eq_true rfl) ⟨Nat.zero_le _, Nat.zero_le _⟩ dX0_period_10 ?_
        have t4 := t1.mp c_10a
        obtain ⟨fd, fs, t5, t6, t7, t8, t9⟩ := t2 t4
        refine lv_aload_n hx hb dX0_period_13 rfl (lv_at hl 0 rfl) ?_
        refine lv_iload_n hx hb dX0_period_14 rfl (lv_at hl 1 rfl) ?_
        refine mw_cVl (rest := []) (q := (RX0, TX0, 10)) hC (c_X0_commonLength l D h0 a1 a2 cA cJ v L P z (id hok) (by omega) (by omega) t4) (cwV 1 hts gX0_period_X0_commonLength rfl rfl rfl (by decide +kernel) ⟨Nat.le_of_ble_eq_true rfl, Nat.le_of_ble_eq_true rfl⟩) hK hP rfl rfl rfl hl.1 rfl (Nat.le_of_ble_eq_true rfl) ⟨Nat.zero_le _, Nat.zero_le _⟩ dX0_period_15 ?_
        refine mw_l2i hx hb dX0_period_18 ?_
        exact mw_xretI hx hb hr hlocks dX0_period_19 (mEx3_0 (by omega) (by omega) t4) hP va_S.rf rfl
      · exact mw_tS (rest := []) hC (t_X0_checkTheyMeet_t l hfl (mD0 (mFd L P z 0 (v 0).toNat)) (by omega) (by omega)) hE (va_cwS 1 hts gX0_period_X0_checkTheyMeet rfl rfl rfl (by decide +kernel) ⟨Nat.le_of_ble_eq_true rfl, Nat.le_of_ble_eq_true rfl⟩) rfl hl.1 rfl (Nat.le_of_ble_eq_true rfl) ⟨Nat.le_of_ble_eq_true rfl, Nat.le_of_ble_eq_true rfl⟩ hout hlocks dX0_period_10 (fun t ht => ⟨⟨2, (mEx3_3 (by omega) (by omega) (fun q => (by omega : ¬ _ ≠ _) ((m_mts hok (by omega)).1.mpr q))), rfl⟩, ht⟩)
    · exact mw_tV (rest := []) (q := (RX0, TX0, 10)) hC (t_X0_checkMeetingSet_t2 l hfl D h0 a1 a2 cA cJ v L P z (by omega) (by omega) (by omega)) hE (cwV 1 hts gX0_period_X0_checkMeetingSet rfl rfl rfl (by decide +kernel) ⟨Nat.le_of_ble_eq_true rfl, Nat.le_of_ble_eq_true rfl⟩) hK hP rfl rfl rfl hl.1 rfl (Nat.le_of_ble_eq_true rfl) ⟨Nat.le_of_ble_eq_true rfl, Nat.le_of_ble_eq_true rfl⟩ hout hlocks dX0_period_2 (fun t ht => ⟨⟨1, (mEx3_2 (by omega) (by omega)), rfl⟩, ht⟩)
  · exact mw_tV (rest := []) (q := (RX0, TX0, 10)) hC (t_X0_checkMeetingSet_t1 l hfl D h0 a1 a2 cA cJ v L P z (by omega) (by omega)) hE (cwV 1 hts gX0_period_X0_checkMeetingSet rfl rfl rfl (by decide +kernel) ⟨Nat.le_of_ble_eq_true rfl, Nat.le_of_ble_eq_true rfl⟩) hK hP rfl rfl rfl hl.1 rfl (Nat.le_of_ble_eq_true rfl) ⟨Nat.le_of_ble_eq_true rfl, Nat.le_of_ble_eq_true rfl⟩ hout hlocks dX0_period_2 (fun t ht => ⟨⟨0, (mEx3_1 (by omega)), rfl⟩, ht⟩)

set_option maxHeartbeats 400000 in
set_option maxRecDepth 100000 in
theorem x_X0_meeting (l : Launch) (hfl : l.flags = flags0) (D : va_G) (h0 a1 a2 : Nat) (cA cJ : ClassId) (v : Nat → Int) (L P : Int → Int) (z d : Int) (hz : mRI z) (hd9 : mRI d) (hok : mOK v L P)  : mX l yX0_meeting wsX0_meeting ({ frames := 8, cells := 1, slots := 6, locals := 132 }) [.ref h0, .int (mI (z)), .int (mI (d))] D (mXW h0 a1 a2 cA v L P) (mTy cA cJ) ["java/lang/IllegalArgumentException", "java/lang/IndexOutOfBoundsException", "java/lang/IllegalStateException"] (mEx3 (mDay d ∧ 1 ≤ mPop z 32 ∧ mPop z 32 ≤ 5) (mUsh z (v 0) = 0) (mMts v L P z)) (some (.int (mI (d + (mD0 (mFd L P z 0 (v 0).toNat) - d) % mSt (mFd L P z 0 (v 0).toNat))))) (mXW h0 a1 a2 cA v L P) (fun _ => False) := by
  refine mw_openX (cc := cX0_meeting) (maxL := 5) (ret := (some .int)) (by decide) rfl (Nat.le_of_ble_eq_true rfl) ?_
  intro p e s m below meth c ls hC hr hlocks hout hB hE hl
  obtain ⟨hx, hb, hml, hown, hts⟩ := id hC
  obtain ⟨hP, hK⟩ := hB
  have hl : lv_has ls 5 [(0, .ref h0), (1, .int (mI (z))), (2, .int (mI (d)))] := hl
  have hok9 := hok
  obtain ⟨⟨o1, o2⟩, oL, ⟨o3, o4, o5, o6, o7, o8⟩, ⟨o9, o10, o11, o12, o13, o14, o15, o16⟩⟩ := hok9
  refine lv_iload_n hx hb dX0_meeting_0 rfl (lv_at hl 2 rfl) ?_
  by_cases c_1a : mDay d
  · refine mw_cSv (rest := []) hC (c_X0_checkDay l d (by omega)) (va_cwS 1 hts gX0_meeting_X0_checkDay rfl rfl rfl (by decide +kernel) ⟨Nat.le_of_ble_eq_true rfl, Nat.le_of_ble_eq_true rfl⟩) rfl hl.1 rfl (Nat.le_of_ble_eq_true rfl) ⟨Nat.zero_le _, Nat.zero_le _⟩ dX0_meeting_1 ?_
    refine lv_aload_n hx hb dX0_meeting_4 rfl (lv_at hl 0 rfl) ?_
    refine lv_iload_n hx hb dX0_meeting_5 rfl (lv_at hl 1 rfl) ?_
    by_cases c_6a : 1 ≤ mPop z 32 ∧ mPop z 32 ≤ 5
    · by_cases c_6b : mUsh z (v 0) = 0
      · refine mw_cVv (rest := []) (q := (RX0, TX0, 10)) hC (c_X0_checkMeetingSet l D h0 a1 a2 cA cJ v L P z (by omega) (by omega) (by omega)) (cwV 1 hts gX0_meeting_X0_checkMeetingSet rfl rfl rfl (by decide +kernel) ⟨Nat.le_of_ble_eq_true rfl, Nat.le_of_ble_eq_true rfl⟩) hK hP rfl rfl rfl hl.1 rfl (Nat.le_of_ble_eq_true rfl) ⟨Nat.zero_le _, Nat.zero_le _⟩ dX0_meeting_6 ?_
        obtain ⟨t1, t2, t3⟩ := m_mts (z := z) hok (by omega)
        refine lv_aload_n hx hb dX0_meeting_9 rfl (lv_at hl 0 rfl) ?_
        refine lv_iload_n hx hb dX0_meeting_10 rfl (lv_at hl 1 rfl) ?_
        refine mw_cVl (rest := []) (q := (RX0, TX0, 10)) hC (c_X0_firstMeeting l D h0 a1 a2 cA cJ v L P z (id hok) (by omega) (by omega)) (cwV 1 hts gX0_meeting_X0_firstMeeting rfl rfl rfl (by decide +kernel) ⟨Nat.le_of_ble_eq_true rfl, Nat.le_of_ble_eq_true rfl⟩) hK hP rfl rfl rfl hl.1 rfl (Nat.le_of_ble_eq_true rfl) ⟨Nat.zero_le _, Nat.zero_le _⟩ dX0_meeting_11 ?_
        refine lv_lstore_n (lv' := [(3, .long (mL (mD0 (mFd L P z 0 (v 0).toNat)))), (0, .ref h0), (1, .int (mI (z))), (2, .int (mI (d)))]) hx hb dX0_meeting_14 rfl hl (by decide) rfl (fun ls hl => ?_)
        refine lv_lload_n hx hb dX0_meeting_15 rfl (lv_at hl 0 rfl) ?_
        by_cases c_16a : (mD0 (mFd L P z 0 (v 0).toNat)) ≠ -1
        · refine mw_cSv (rest := []) hC (c_X0_checkTheyMeet l (mD0 (mFd L P z 0 (v 0).toNat)) (by omega) (by omega)) (va_cwS 1 hts gX0_meeting_X0_checkTheyMeet rfl rfl rfl (by decide +kernel) ⟨Nat.le_of_ble_eq_true rfl, Nat.le_of_ble_eq_true rfl⟩) rfl hl.1 rfl (Nat.le_of_ble_eq_true rfl) ⟨Nat.zero_le _, Nat.zero_le _⟩ dX0_meeting_16 ?_
          have t4 := t1.mp c_16a
          obtain ⟨fd, fs, t5, t6, t7, t8, t9⟩ := t2 t4
          refine lv_iload_n hx hb dX0_meeting_19 rfl (lv_at hl 3 rfl) ?_
          refine mw_i2l hx hb (by omega) dX0_meeting_20 ?_
          refine lv_lload_n hx hb dX0_meeting_21 rfl (lv_at hl 0 rfl) ?_
          refine lv_iload_n hx hb dX0_meeting_22 rfl (lv_at hl 3 rfl) ?_
          refine mw_i2l hx hb (by omega) dX0_meeting_23 ?_
          refine mw_lsub hx hb dX0_meeting_24 ?_
          refine lv_aload_n hx hb dX0_meeting_25 rfl (lv_at hl 1 rfl) ?_
          refine lv_iload_n hx hb dX0_meeting_26 rfl (lv_at hl 2 rfl) ?_
          refine mw_cVl (rest := [.long (mL ((mD0 (mFd L P z 0 (v 0).toNat)) - d)), .long (mL (d))]) (q := (RX0, TX0, 10)) hC (c_X0_commonLength l D h0 a1 a2 cA cJ v L P z (id hok) (by omega) (by omega) t4) (cwV 1 hts gX0_meeting_X0_commonLength rfl rfl rfl (by decide +kernel) ⟨Nat.le_of_ble_eq_true rfl, Nat.le_of_ble_eq_true rfl⟩) hK hP rfl rfl rfl hl.1 rfl (Nat.le_of_ble_eq_true rfl) ⟨Nat.zero_le _, Nat.zero_le _⟩ dX0_meeting_27 ?_
          refine mw_cSl (rest := [.long (mL (d))]) hC (c_X0_modulo l ((mD0 (mFd L P z 0 (v 0).toNat)) - d) (mSt (mFd L P z 0 (v 0).toNat)) (by omega) (by omega) (by omega)) (va_cwS 2 hts gX0_meeting_X0_modulo rfl rfl rfl (by decide +kernel) ⟨Nat.le_of_ble_eq_true rfl, Nat.le_of_ble_eq_true rfl⟩) rfl hl.1 rfl (Nat.le_of_ble_eq_true rfl) ⟨Nat.zero_le _, Nat.zero_le _⟩ dX0_meeting_30 ?_
          refine mw_ladd hx hb dX0_meeting_33 ?_
          refine mw_l2i hx hb dX0_meeting_34 ?_
          exact mw_xretI hx hb hr hlocks dX0_meeting_35 (mEx3_0 (by omega) (by omega) t4) hP va_S.rf rfl
        · exact mw_tS (rest := []) hC (t_X0_checkTheyMeet_t l hfl (mD0 (mFd L P z 0 (v 0).toNat)) (by omega) (by omega)) hE (va_cwS 1 hts gX0_meeting_X0_checkTheyMeet rfl rfl rfl (by decide +kernel) ⟨Nat.le_of_ble_eq_true rfl, Nat.le_of_ble_eq_true rfl⟩) rfl hl.1 rfl (Nat.le_of_ble_eq_true rfl) ⟨Nat.le_of_ble_eq_true rfl, Nat.le_of_ble_eq_true rfl⟩ hout hlocks dX0_meeting_16 (fun t ht => ⟨⟨2, (mEx3_3 (by omega) (by omega) (fun q => (by omega : ¬ _ ≠ _) ((m_mts hok (by omega)).1.mpr q))), rfl⟩, ht⟩)
      · exact mw_tV (rest := []) (q := (RX0, TX0, 10)) hC (t_X0_checkMeetingSet_t2 l hfl D h0 a1 a2 cA cJ v L P z (by omega) (by omega) (by omega)) hE (cwV 1 hts gX0_meeting_X0_checkMeetingSet rfl rfl rfl (by decide +kernel) ⟨Nat.le_of_ble_eq_true rfl, Nat.le_of_ble_eq_true rfl⟩) hK hP rfl rfl rfl hl.1 rfl (Nat.le_of_ble_eq_true rfl) ⟨Nat.le_of_ble_eq_true rfl, Nat.le_of_ble_eq_true rfl⟩ hout hlocks dX0_meeting_6 (fun t ht => ⟨⟨1, (mEx3_2 (by omega) (by omega)), rfl⟩, ht⟩)
    · exact mw_tV (rest := []) (q := (RX0, TX0, 10)) hC (t_X0_checkMeetingSet_t1 l hfl D h0 a1 a2 cA cJ v L P z (by omega) (by omega)) hE (cwV 1 hts gX0_meeting_X0_checkMeetingSet rfl rfl rfl (by decide +kernel) ⟨Nat.le_of_ble_eq_true rfl, Nat.le_of_ble_eq_true rfl⟩) hK hP rfl rfl rfl hl.1 rfl (Nat.le_of_ble_eq_true rfl) ⟨Nat.le_of_ble_eq_true rfl, Nat.le_of_ble_eq_true rfl⟩ hout hlocks dX0_meeting_6 (fun t ht => ⟨⟨0, (mEx3_1 (by omega)), rfl⟩, ht⟩)
  · exact mw_tS (rest := []) hC (t_X0_checkDay_t l hfl d (by omega) (by omega)) hE (va_cwS 1 hts gX0_meeting_X0_checkDay rfl rfl rfl (by decide +kernel) ⟨Nat.le_of_ble_eq_true rfl, Nat.le_of_ble_eq_true rfl⟩) rfl hl.1 rfl (Nat.le_of_ble_eq_true rfl) ⟨Nat.le_of_ble_eq_true rfl, Nat.le_of_ble_eq_true rfl⟩ hout hlocks dX0_meeting_1 (fun t ht => ⟨⟨0, (mEx3_1 (by omega)), rfl⟩, ht⟩)
end
section
theorem m_lun_r {v : Nat → Int} {L P : Int → Int} (hok : mOK v L P) (x : Int) : 0 ≤ mLunar v x ∧ mLunar v x < 100 := by
  obtain ⟨-, -, ⟨o3, o4, o5, o6, o7, o8⟩, -⟩ := hok
  have h := m_mod_r (a := mMoon v x) (b := v 1) (by omega)
  unfold mLunar
  exact ⟨Int.ediv_nonneg h.1 (by omega), Int.ediv_lt_of_lt_mul (by omega) (by omega)⟩
theorem m_yr_r {v : Nat → Int} {L P : Int → Int} (hok : mOK v L P) {d : Int} (hd : mDay d) : -10001 ≤ mYr v d ∧ mYr v d ≤ 10001 := by
  obtain ⟨-, -, -, ⟨o9, o10, o11, o12, o13, o14, o15, o16⟩⟩ := hok
  have h1 : v 7 * (d + 1) ≤ v 7 * 1000001 := Int.mul_le_mul_of_nonneg_left (by omega) (by omega)
  have h2 : v 7 * (-999999) ≤ v 7 * (d + 1) := Int.mul_le_mul_of_nonneg_left (by omega) (by omega)
  have h3 : 100 * v 7 ≤ v 4 * v 7 := Int.mul_le_mul_of_nonneg_right (by omega) (by omega)
  unfold mYr
  constructor
  · exact Int.le_ediv_of_mul_le (by omega) (by omega)
  · have : (v 7 * (d + 1) - 1 - v 6) / (v 4 * v 7 + v 5) < 10002 := Int.ediv_lt_of_lt_mul (by omega) (by omega)
    omega
theorem m_beg_r {v : Nat → Int} {L P : Int → Int} (hok : mOK v L P) {y : Int} (hy : -10001 ≤ y ∧ y ≤ 10001) : -10000000 < mBeg v y ∧ mBeg v y < 10000000 := by
  obtain ⟨-, -, -, ⟨o9, o10, o11, o12, o13, o14, o15, o16⟩⟩ := hok
  have h1 := m_bound (v 4) y (A := 500) (B := 10001) (by omega) (by omega)
  have h2 := m_bound (v 5) y (A := 400) (B := 10001) (by omega) (by omega)
  have h3 := m_div_r (a := v 5 * y + v 6) (b := v 7) (by omega)
  unfold mBeg
  omega
def mMb (v : Nat → Int) (m : Int) : Int := -((-m * v 1) / v 2) - v 3
set_option maxHeartbeats 400000 in
set_option maxRecDepth 100000 in
theorem x_X0_lunarMeeting (l : Launch) (hfl : l.flags = flags0) (D : va_G) (h0 a1 a2 : Nat) (cA cJ : ClassId) (v : Nat → Int) (L P : Int → Int) (z d ld mt : Int) (hz : mRI z) (hd9 : mRI d) (hld : mRI ld) (hmt : mRI mt) (hok : mOK v L P)  : mX l yX0_lunarMeeting wsX0_lunarMeeting ({ frames := 8, cells := 1, slots := 6, locals := 132 }) [.ref h0, .int (mI (z)), .int (mI (d)), .int (mI (ld)), .int (mI (mt))] D (mXW h0 a1 a2 cA v L P) (mTy cA cJ) ["java/lang/IllegalArgumentException", "java/lang/IndexOutOfBoundsException", "java/lang/IllegalStateException"] (mEx3 (mDay d ∧ (0 ≤ ld ∧ ld ≤ 99) ∧ (1 ≤ mt ∧ mt ≤ 1000) ∧ 1 ≤ mPop z 32 ∧ mPop z 32 ≤ 5) (mUsh z (v 0) = 0) (mMts v L P z)) (some (.long (mL (mLun v d ld (mSt (mFd L P z 0 (v 0).toNat)) mt.toNat ((mD0 (mFd L P z 0 (v 0).toNat) - d) % mSt (mFd L P z 0 (v 0).toNat)))))) (mXW h0 a1 a2 cA v L P) (fun _ => False) := by
  refine mw_openX (cc := cX0_lunarMeeting) (maxL := 12) (ret := (some .long)) (by decide) rfl (Nat.le_of_ble_eq_true rfl) ?_
  intro p e s m below meth c ls hC hr hlocks hout hB hE hl
  obtain ⟨hx, hb, hml, hown, hts⟩ := id hC
  obtain ⟨hP, hK⟩ := hB
  have hl : lv_has ls 12 [(0, .ref h0), (1, .int (mI (z))), (2, .int (mI (d))), (3, .int (mI (ld))), (4, .int (mI (mt)))] := hl
  have hok9 := hok
  obtain ⟨⟨o1, o2⟩, oL, ⟨o3, o4, o5, o6, o7, o8⟩, ⟨o9, o10, o11, o12, o13, o14, o15, o16⟩⟩ := hok9
  refine lv_iload_n hx hb dX0_lunarMeeting_0 rfl (lv_at hl 2 rfl) ?_
  by_cases c_1a : mDay d
  · refine mw_cSv (rest := []) hC (c_X0_checkDay l d (by omega)) (va_cwS 1 hts gX0_lunarMeeting_X0_checkDay rfl rfl rfl (by decide +kernel) ⟨Nat.le_of_ble_eq_true rfl, Nat.le_of_ble_eq_true rfl⟩) rfl hl.1 rfl (Nat.le_of_ble_eq_true rfl) ⟨Nat.zero_le _, Nat.zero_le _⟩ dX0_lunarMeeting_1 ?_
    refine lv_iload_n hx hb dX0_lunarMeeting_4 rfl (lv_at hl 3 rfl) ?_
    refine mw_iconst hx hb dX0_lunarMeeting_5 ?_
    refine mw_bipush hx hb (by decide +kernel) dX0_lunarMeeting_6 ?_
    refine mw_cSi (rest := []) hC (c_X0_isWithin l ld 0 99 (by omega) (by omega) (by omega)) (va_cwS 3 hts gX0_lunarMeeting_X0_isWithin rfl rfl rfl (by decide +kernel) ⟨Nat.le_of_ble_eq_true rfl, Nat.le_of_ble_eq_true rfl⟩) rfl hl.1 rfl (Nat.le_of_ble_eq_true rfl) ⟨Nat.zero_le _, Nat.zero_le _⟩ dX0_lunarMeeting_8 ?_
    refine mw_zeq (tgt := 30) hx hb dX0_lunarMeeting_11 (by decide) (fun c_11 => ?_) (fun c_11 => ?_)
    · refine mw_iconst hx hb dX0_lunarMeeting_30 ?_
      exact mw_tS (rest := []) hC (t_X0_checkArgument_t l hfl) hE (va_cwS 1 hts gX0_lunarMeeting_X0_checkArgument rfl rfl rfl (by decide +kernel) ⟨Nat.le_of_ble_eq_true rfl, Nat.le_of_ble_eq_true rfl⟩) rfl hl.1 rfl (Nat.le_of_ble_eq_true rfl) ⟨Nat.le_of_ble_eq_true rfl, Nat.le_of_ble_eq_true rfl⟩ hout hlocks dX0_lunarMeeting_31 (fun t ht => ⟨⟨0, (mEx3_1 (by omega)), rfl⟩, ht⟩)
    · refine lv_iload hx hb dX0_lunarMeeting_14 (lv_at hl 4 rfl) ?_
      refine mw_iconst hx hb dX0_lunarMeeting_16 ?_
      refine mw_sipush hx hb (by decide +kernel) dX0_lunarMeeting_17 ?_
      refine mw_cSi (rest := []) hC (c_X0_isWithin l mt 1 1000 (by omega) (by omega) (by omega)) (va_cwS 3 hts gX0_lunarMeeting_X0_isWithin rfl rfl rfl (by decide +kernel) ⟨Nat.le_of_ble_eq_true rfl, Nat.le_of_ble_eq_true rfl⟩) rfl hl.1 rfl (Nat.le_of_ble_eq_true rfl) ⟨Nat.zero_le _, Nat.zero_le _⟩ dX0_lunarMeeting_20 ?_
      refine mw_zeq (tgt := 30) hx hb dX0_lunarMeeting_23 (by decide) (fun c_23 => ?_) (fun c_23 => ?_)
      · refine mw_iconst hx hb dX0_lunarMeeting_30 ?_
        exact mw_tS (rest := []) hC (t_X0_checkArgument_t l hfl) hE (va_cwS 1 hts gX0_lunarMeeting_X0_checkArgument rfl rfl rfl (by decide +kernel) ⟨Nat.le_of_ble_eq_true rfl, Nat.le_of_ble_eq_true rfl⟩) rfl hl.1 rfl (Nat.le_of_ble_eq_true rfl) ⟨Nat.le_of_ble_eq_true rfl, Nat.le_of_ble_eq_true rfl⟩ hout hlocks dX0_lunarMeeting_31 (fun t ht => ⟨⟨0, (mEx3_1 (by omega)), rfl⟩, ht⟩)
      · refine mw_iconst hx hb dX0_lunarMeeting_26 ?_
        refine lv_goto (tgt := 31) hx hb dX0_lunarMeeting_27 (by decide) ?_
        refine mw_cSv (rest := []) hC (c_X0_checkArgument l) (va_cwS 1 hts gX0_lunarMeeting_X0_checkArgument rfl rfl rfl (by decide +kernel) ⟨Nat.le_of_ble_eq_true rfl, Nat.le_of_ble_eq_true rfl⟩) rfl hl.1 rfl (Nat.le_of_ble_eq_true rfl) ⟨Nat.zero_le _, Nat.zero_le _⟩ dX0_lunarMeeting_31 ?_
        refine lv_aload_n hx hb dX0_lunarMeeting_34 rfl (lv_at hl 0 rfl) ?_
        refine lv_iload_n hx hb dX0_lunarMeeting_35 rfl (lv_at hl 1 rfl) ?_
        by_cases c_36a : 1 ≤ mPop z 32 ∧ mPop z 32 ≤ 5
        · by_cases c_36b : mUsh z (v 0) = 0
          · refine mw_cVv (rest := []) (q := (RX0, TX0, 10)) hC (c_X0_checkMeetingSet l D h0 a1 a2 cA cJ v L P z (by omega) (by omega) (by omega)) (cwV 1 hts gX0_lunarMeeting_X0_checkMeetingSet rfl rfl rfl (by decide +kernel) ⟨Nat.le_of_ble_eq_true rfl, Nat.le_of_ble_eq_true rfl⟩) hK hP rfl rfl rfl hl.1 rfl (Nat.le_of_ble_eq_true rfl) ⟨Nat.zero_le _, Nat.zero_le _⟩ dX0_lunarMeeting_36 ?_
            obtain ⟨t1, t2, t3⟩ := m_mts (z := z) hok (by omega)
            refine lv_aload_n hx hb dX0_lunarMeeting_39 rfl (lv_at hl 0 rfl) ?_
            refine lv_iload_n hx hb dX0_lunarMeeting_40 rfl (lv_at hl 1 rfl) ?_
            refine mw_cVl (rest := []) (q := (RX0, TX0, 10)) hC (c_X0_firstMeeting l D h0 a1 a2 cA cJ v L P z (id hok) (by omega) (by omega)) (cwV 1 hts gX0_lunarMeeting_X0_firstMeeting rfl rfl rfl (by decide +kernel) ⟨Nat.le_of_ble_eq_true rfl, Nat.le_of_ble_eq_true rfl⟩) hK hP rfl rfl rfl hl.1 rfl (Nat.le_of_ble_eq_true rfl) ⟨Nat.zero_le _, Nat.zero_le _⟩ dX0_lunarMeeting_41 ?_
            refine lv_lstore (lv' := [(5, .long (mL (mD0 (mFd L P z 0 (v 0).toNat)))), (0, .ref h0), (1, .int (mI (z))), (2, .int (mI (d))), (3, .int (mI (ld))), (4, .int (mI (mt)))]) hx hb dX0_lunarMeeting_44 hl (by decide) rfl (fun ls hl => ?_)
            refine lv_lload hx hb dX0_lunarMeeting_46 (lv_at hl 0 rfl) ?_
            by_cases c_48a : (mD0 (mFd L P z 0 (v 0).toNat)) ≠ -1
            · refine mw_cSv (rest := []) hC (c_X0_checkTheyMeet l (mD0 (mFd L P z 0 (v 0).toNat)) (by omega) (by omega)) (va_cwS 1 hts gX0_lunarMeeting_X0_checkTheyMeet rfl rfl rfl (by decide +kernel) ⟨Nat.le_of_ble_eq_true rfl, Nat.le_of_ble_eq_true rfl⟩) rfl hl.1 rfl (Nat.le_of_ble_eq_true rfl) ⟨Nat.zero_le _, Nat.zero_le _⟩ dX0_lunarMeeting_48 ?_
              have t4 := t1.mp c_48a
              obtain ⟨fd, fs, t5, t6, t7, t8, t9⟩ := t2 t4
              have t10 := m_mod_r (a := mD0 (mFd L P z 0 (v 0).toNat) - d) (b := mSt (mFd L P z 0 (v 0).toNat)) (by omega)
              refine lv_aload_n hx hb dX0_lunarMeeting_51 rfl (lv_at hl 1 rfl) ?_
              refine lv_iload_n hx hb dX0_lunarMeeting_52 rfl (lv_at hl 2 rfl) ?_
              refine mw_cVl (rest := []) (q := (RX0, TX0, 10)) hC (c_X0_commonLength l D h0 a1 a2 cA cJ v L P z (id hok) (by omega) (by omega) t4) (cwV 1 hts gX0_lunarMeeting_X0_commonLength rfl rfl rfl (by decide +kernel) ⟨Nat.le_of_ble_eq_true rfl, Nat.le_of_ble_eq_true rfl⟩) hK hP rfl rfl rfl hl.1 rfl (Nat.le_of_ble_eq_true rfl) ⟨Nat.zero_le _, Nat.zero_le _⟩ dX0_lunarMeeting_53 ?_
              refine lv_lstore (lv' := [(7, .long (mL (mSt (mFd L P z 0 (v 0).toNat)))), (5, .long (mL (mD0 (mFd L P z 0 (v 0).toNat)))), (0, .ref h0), (1, .int (mI (z))), (2, .int (mI (d))), (3, .int (mI (ld))), (4, .int (mI (mt)))]) hx hb dX0_lunarMeeting_56 hl (by decide) rfl (fun ls hl => ?_)
              refine lv_lload hx hb dX0_lunarMeeting_58 (lv_at hl 1 rfl) ?_
              refine lv_iload_n hx hb dX0_lunarMeeting_60 rfl (lv_at hl 4 rfl) ?_
              refine mw_i2l hx hb (by omega) dX0_lunarMeeting_61 ?_
              refine mw_lsub hx hb dX0_lunarMeeting_62 ?_
              refine lv_lload hx hb dX0_lunarMeeting_63 (lv_at hl 0 rfl) ?_
              refine mw_cSl (rest := []) hC (c_X0_modulo l ((mD0 (mFd L P z 0 (v 0).toNat)) - d) (mSt (mFd L P z 0 (v 0).toNat)) (by omega) (by omega) (by omega)) (va_cwS 2 hts gX0_lunarMeeting_X0_modulo rfl rfl rfl (by decide +kernel) ⟨Nat.le_of_ble_eq_true rfl, Nat.le_of_ble_eq_true rfl⟩) rfl hl.1 rfl (Nat.le_of_ble_eq_true rfl) ⟨Nat.zero_le _, Nat.zero_le _⟩ dX0_lunarMeeting_65 ?_
              refine lv_lstore (lv' := [(9, .long (mL (((mD0 (mFd L P z 0 (v 0).toNat)) - d) % (mSt (mFd L P z 0 (v 0).toNat))))), (7, .long (mL (mSt (mFd L P z 0 (v 0).toNat)))), (5, .long (mL (mD0 (mFd L P z 0 (v 0).toNat)))), (0, .ref h0), (1, .int (mI (z))), (2, .int (mI (d))), (3, .int (mI (ld))), (4, .int (mI (mt)))]) hx hb dX0_lunarMeeting_68 hl (by decide) rfl (fun ls hl => ?_)
              refine mw_iconst hx hb dX0_lunarMeeting_70 ?_
              refine lv_istore (lv' := [(11, .int (mI (0))), (9, .long (mL (((mD0 (mFd L P z 0 (v 0).toNat)) - d) % (mSt (mFd L P z 0 (v 0).toNat))))), (7, .long (mL (mSt (mFd L P z 0 (v 0).toNat)))), (5, .long (mL (mD0 (mFd L P z 0 (v 0).toNat)))), (0, .ref h0), (1, .int (mI (z))), (2, .int (mI (d))), (3, .int (mI (ld))), (4, .int (mI (mt)))]) hx hb dX0_lunarMeeting_71 hl (by decide) rfl (fun ls hl => ?_)
              refine mw_loop (T := Int × Int) (nL := 12) (fun x => (0 ≤ x.1 ∧ x.1 ≤ mt) ∧ (0 ≤ x.2 ∧ x.2 ≤ (x.1 + 1) * 777600000) ∧ mLun v d ld (mSt (mFd L P z 0 (v 0).toNat)) (mt - (x.1)).toNat (x.2) = mLun v d ld (mSt (mFd L P z 0 (v 0).toNat)) mt.toNat ((mD0 (mFd L P z 0 (v 0).toNat) - d) % mSt (mFd L P z 0 (v 0).toNat))) (fun x => (mt - (x.1)).toNat) 73 (fun x => [(11, .int (mI (x.1))), (9, .long (mL (x.2))), (0, .ref h0), (1, .int (mI (z))), (2, .int (mI (d))), (3, .int (mI (ld))), (4, .int (mI (mt))), (7, .long (mL (mSt (mFd L P z 0 (v 0).toNat))))]) ?_ ((0 : Int), (((mD0 (mFd L P z 0 (v 0).toNat)) - d) % (mSt (mFd L P z 0 (v 0).toNat)) : Int)) (show (0 ≤ (0 : Int) ∧ (0 : Int) ≤ mt) ∧ (0 ≤ (((mD0 (mFd L P z 0 (v 0).toNat)) - d) % (mSt (mFd L P z 0 (v 0).toNat)) : Int) ∧ (((mD0 (mFd L P z 0 (v 0).toNat)) - d) % (mSt (mFd L P z 0 (v 0).toNat)) : Int) ≤ ((0 : Int) + 1) * 777600000) ∧ mLun v d ld (mSt (mFd L P z 0 (v 0).toNat)) (mt - ((0 : Int))).toNat ((((mD0 (mFd L P z 0 (v 0).toNat)) - d) % (mSt (mFd L P z 0 (v 0).toNat)) : Int)) = mLun v d ld (mSt (mFd L P z 0 (v 0).toNat)) mt.toNat ((mD0 (mFd L P z 0 (v 0).toNat) - d) % mSt (mFd L P z 0 (v 0).toNat)) from ⟨⟨by omega, by omega⟩, ⟨by omega, by omega⟩, (by rw [Int.sub_zero])⟩) ls (lv_sub hl [0, 1, 4, 5, 6, 7, 8, 2] rfl)
              intro x hI ih ls hl
              obtain ⟨i, o⟩ := x
              have hl : lv_has ls 12 [(11, .int (mI (i))), (9, .long (mL (o))), (0, .ref h0), (1, .int (mI (z))), (2, .int (mI (d))), (3, .int (mI (ld))), (4, .int (mI (mt))), (7, .long (mL (mSt (mFd L P z 0 (v 0).toNat))))] := hl
              have hI : (0 ≤ i ∧ i ≤ mt) ∧ (0 ≤ o ∧ o ≤ (i + 1) * 777600000) ∧ mLun v d ld (mSt (mFd L P z 0 (v 0).toNat)) (mt - i).toNat o = mLun v d ld (mSt (mFd L P z 0 (v 0).toNat)) mt.toNat ((mD0 (mFd L P z 0 (v 0).toNat) - d) % mSt (mFd L P z 0 (v 0).toNat)) := hI
              obtain ⟨⟨i1, i2⟩, ⟨i3, i4⟩, i5⟩ := hI
              have i6 := m_lun_r hok (d + o)
              have i8 : i < mt → (mt - i).toNat = (mt - (i + 1)).toNat + 1 := fun h => by omega
              have i7 : i < mt → ¬ mLunar v (d + o) = ld → mLun v d ld (mSt (mFd L P z 0 (v 0).toNat)) (mt - i).toNat o = mLun v d ld (mSt (mFd L P z 0 (v 0).toNat)) (mt - (i + 1)).toNat (o + mSt (mFd L P z 0 (v 0).toNat)) := fun h h2 => by
                rw [i8 h, mLun_s, if_neg h2]
              refine lv_iload hx hb dX0_lunarMeeting_73 (lv_at hl 0 rfl) ?_
              refine lv_iload hx hb dX0_lunarMeeting_75 (lv_at hl 6 rfl) ?_
              refine mw_icmp_ge (tgt := 111) hx hb (by omega) (by omega) dX0_lunarMeeting_77 (by decide) (fun c_77 => ?_) (fun c_77 => ?_)
              · refine mw_ldc2 hx hb (-1) (by decide +kernel) hown (hts (.constantLong RX0 96 (-1)) (by decide +kernel)) dX0_lunarMeeting_111 ?_
                exact mw_xretL hx hb hr hlocks dX0_lunarMeeting_114 (mEx3_0 (by omega) (by omega) t4) hP va_S.rf (by rw [← i5]; have e : (mt - i).toNat = 0 := (by omega); rw [e]; rfl)
              · refine lv_aload_n hx hb dX0_lunarMeeting_80 rfl (lv_at hl 2 rfl) ?_
                refine lv_iload_n hx hb dX0_lunarMeeting_81 rfl (lv_at hl 4 rfl) ?_
                refine mw_i2l hx hb (by omega) dX0_lunarMeeting_82 ?_
                refine lv_lload hx hb dX0_lunarMeeting_83 (lv_at hl 1 rfl) ?_
                refine mw_ladd hx hb dX0_lunarMeeting_85 ?_
                refine mw_cVl (rest := []) (q := (RX0, TX0, 10)) hC (c_X0_lunarDayOf l D h0 a1 a2 cA cJ v L P (d + o) (id hok) (by omega)) (cwV 1 hts gX0_lunarMeeting_X0_lunarDayOf rfl rfl rfl (by decide +kernel) ⟨Nat.le_of_ble_eq_true rfl, Nat.le_of_ble_eq_true rfl⟩) hK hP rfl rfl rfl hl.1 rfl (Nat.le_of_ble_eq_true rfl) ⟨Nat.zero_le _, Nat.zero_le _⟩ dX0_lunarMeeting_86 ?_
                refine lv_iload_n hx hb dX0_lunarMeeting_89 rfl (lv_at hl 5 rfl) ?_
                refine mw_i2l hx hb (by omega) dX0_lunarMeeting_90 ?_
                refine mw_lcmp_ne (tgt := 98) hx hb (by omega) (by omega) dX0_lunarMeeting_91 dX0_lunarMeeting_92 (by decide) (fun c_92 => ?_) (fun c_92 => ?_)
                · refine lv_lload hx hb dX0_lunarMeeting_98 (lv_at hl 1 rfl) ?_
                  refine lv_lload hx hb dX0_lunarMeeting_100 (lv_at hl 7 rfl) ?_
                  refine mw_ladd hx hb dX0_lunarMeeting_102 ?_
                  refine lv_lstore (lv' := [(9, .long (mL (o + (mSt (mFd L P z 0 (v 0).toNat))))), (11, .int (mI (i))), (0, .ref h0), (1, .int (mI (z))), (2, .int (mI (d))), (3, .int (mI (ld))), (4, .int (mI (mt))), (7, .long (mL (mSt (mFd L P z 0 (v 0).toNat))))]) hx hb dX0_lunarMeeting_103 hl (by decide) rfl (fun ls hl => ?_)
                  refine mw_iinc (k := 1) (lv' := [(11, .int (mI (i + 1))), (9, .long (mL (o + (mSt (mFd L P z 0 (v 0).toNat))))), (0, .ref h0), (1, .int (mI (z))), (2, .int (mI (d))), (3, .int (mI (ld))), (4, .int (mI (mt))), (7, .long (mL (mSt (mFd L P z 0 (v 0).toNat))))]) hx hb dX0_lunarMeeting_105 hl rfl (by decide) rfl (fun ls hl => ?_)
                  refine lv_goto (tgt := 73) hx hb dX0_lunarMeeting_108 (by decide) ?_
                  exact ih ((i + 1), (o + (mSt (mFd L P z 0 (v 0).toNat)))) (show (0 ≤ (i + 1) ∧ (i + 1) ≤ mt) ∧ (0 ≤ (o + (mSt (mFd L P z 0 (v 0).toNat))) ∧ (o + (mSt (mFd L P z 0 (v 0).toNat))) ≤ ((i + 1) + 1) * 777600000) ∧ mLun v d ld (mSt (mFd L P z 0 (v 0).toNat)) (mt - ((i + 1))).toNat ((o + (mSt (mFd L P z 0 (v 0).toNat)))) = mLun v d ld (mSt (mFd L P z 0 (v 0).toNat)) mt.toNat ((mD0 (mFd L P z 0 (v 0).toNat) - d) % mSt (mFd L P z 0 (v 0).toNat)) from ⟨⟨by omega, by omega⟩, ⟨by omega, by omega⟩, (by rw [← i5]; exact (i7 (by omega) (by omega)).symm)⟩) (show (mt - ((i + 1))).toNat < (mt - i).toNat from (by omega)) ls (lv_sub hl [0, 1, 2, 3, 4, 5, 6, 7] rfl)
                · refine lv_lload hx hb dX0_lunarMeeting_95 (lv_at hl 1 rfl) ?_
                  exact mw_xretL hx hb hr hlocks dX0_lunarMeeting_97 (mEx3_0 (by omega) (by omega) t4) hP va_S.rf (by rw [← i5, i8 (by omega), mLun_s, if_pos (by omega)])
            · exact mw_tS (rest := []) hC (t_X0_checkTheyMeet_t l hfl (mD0 (mFd L P z 0 (v 0).toNat)) (by omega) (by omega)) hE (va_cwS 1 hts gX0_lunarMeeting_X0_checkTheyMeet rfl rfl rfl (by decide +kernel) ⟨Nat.le_of_ble_eq_true rfl, Nat.le_of_ble_eq_true rfl⟩) rfl hl.1 rfl (Nat.le_of_ble_eq_true rfl) ⟨Nat.le_of_ble_eq_true rfl, Nat.le_of_ble_eq_true rfl⟩ hout hlocks dX0_lunarMeeting_48 (fun t ht => ⟨⟨2, (mEx3_3 (by omega) (by omega) (fun q => (by omega : ¬ _ ≠ _) ((m_mts hok (by omega)).1.mpr q))), rfl⟩, ht⟩)
          · exact mw_tV (rest := []) (q := (RX0, TX0, 10)) hC (t_X0_checkMeetingSet_t2 l hfl D h0 a1 a2 cA cJ v L P z (by omega) (by omega) (by omega)) hE (cwV 1 hts gX0_lunarMeeting_X0_checkMeetingSet rfl rfl rfl (by decide +kernel) ⟨Nat.le_of_ble_eq_true rfl, Nat.le_of_ble_eq_true rfl⟩) hK hP rfl rfl rfl hl.1 rfl (Nat.le_of_ble_eq_true rfl) ⟨Nat.le_of_ble_eq_true rfl, Nat.le_of_ble_eq_true rfl⟩ hout hlocks dX0_lunarMeeting_36 (fun t ht => ⟨⟨1, (mEx3_2 (by omega) (by omega)), rfl⟩, ht⟩)
        · exact mw_tV (rest := []) (q := (RX0, TX0, 10)) hC (t_X0_checkMeetingSet_t1 l hfl D h0 a1 a2 cA cJ v L P z (by omega) (by omega)) hE (cwV 1 hts gX0_lunarMeeting_X0_checkMeetingSet rfl rfl rfl (by decide +kernel) ⟨Nat.le_of_ble_eq_true rfl, Nat.le_of_ble_eq_true rfl⟩) hK hP rfl rfl rfl hl.1 rfl (Nat.le_of_ble_eq_true rfl) ⟨Nat.le_of_ble_eq_true rfl, Nat.le_of_ble_eq_true rfl⟩ hout hlocks dX0_lunarMeeting_36 (fun t ht => ⟨⟨0, (mEx3_1 (by omega)), rfl⟩, ht⟩)
  · exact mw_tS (rest := []) hC (t_X0_checkDay_t l hfl d (by omega) (by omega)) hE (va_cwS 1 hts gX0_lunarMeeting_X0_checkDay rfl rfl rfl (by decide +kernel) ⟨Nat.le_of_ble_eq_true rfl, Nat.le_of_ble_eq_true rfl⟩) rfl hl.1 rfl (Nat.le_of_ble_eq_true rfl) ⟨Nat.le_of_ble_eq_true rfl, Nat.le_of_ble_eq_true rfl⟩ hout hlocks dX0_lunarMeeting_1 (fun t ht => ⟨⟨0, (mEx3_1 (by omega)), rfl⟩, ht⟩)

set_option maxHeartbeats 400000 in
set_option maxRecDepth 100000 in
theorem x_X0_month (l : Launch) (hfl : l.flags = flags0) (D : va_G) (h0 a1 a2 : Nat) (cA cJ : ClassId) (v : Nat → Int) (L P : Int → Int) (d : Int) (hd9 : mRI d) (hok : mOK v L P)  : mX l yX0_month wsX0_month ({ frames := 8, cells := 1, slots := 6, locals := 130 }) [.ref h0, .int (mI (d))] D (mXW h0 a1 a2 cA v L P) (mTy cA cJ) ["java/lang/IllegalArgumentException"] (mEx1 (mDay d)) (some (.int (mI (mMonth v d)))) (mXW h0 a1 a2 cA v L P) (fun _ => False) := by
  refine mw_openX (cc := cX0_month) (maxL := 2) (ret := (some .int)) (by decide) rfl (Nat.le_of_ble_eq_true rfl) ?_
  intro p e s m below meth c ls hC hr hlocks hout hB hE hl
  obtain ⟨hx, hb, hml, hown, hts⟩ := id hC
  obtain ⟨hP, hK⟩ := hB
  have hin : ∀ w ∈ wsX00, w ∈ wsX0_month := by decide +kernel
  have hl : lv_has ls 2 [(0, .ref h0), (1, .int (mI (d)))] := hl
  have hok9 := hok
  obtain ⟨⟨o1, o2⟩, oL, ⟨o3, o4, o5, o6, o7, o8⟩, ⟨o9, o10, o11, o12, o13, o14, o15, o16⟩⟩ := hok9
  refine lv_iload_n hx hb dX0_month_0 rfl (lv_at hl 1 rfl) ?_
  by_cases c_1a : mDay d
  · refine mw_cSv (rest := []) hC (c_X0_checkDay l d (by omega)) (va_cwS 1 hts gX0_month_X0_checkDay rfl rfl rfl (by decide +kernel) ⟨Nat.le_of_ble_eq_true rfl, Nat.le_of_ble_eq_true rfl⟩) rfl hl.1 rfl (Nat.le_of_ble_eq_true rfl) ⟨Nat.zero_le _, Nat.zero_le _⟩ dX0_month_1 ?_
    have f1 := m_bound (d + v 3) (v 2) (A := 1001000) (B := 100) (by omega) (by omega)
    have f2 : mMoon v d = (d + v 3) * v 2 := rfl
    refine lv_aload_n hx hb dX0_month_4 rfl (lv_at hl 0 rfl) ?_
    refine lv_iload_n hx hb dX0_month_5 rfl (lv_at hl 1 rfl) ?_
    refine mw_i2l hx hb (by omega) dX0_month_6 ?_
    refine mw_cVl (rest := []) (q := (RX0, TX0, 10)) hC (c_X0_moonParts l D h0 a1 a2 cA cJ v L P d (id hok)) (cwV 1 hts gX0_month_X0_moonParts rfl rfl rfl (by decide +kernel) ⟨Nat.le_of_ble_eq_true rfl, Nat.le_of_ble_eq_true rfl⟩) hK hP rfl rfl rfl hl.1 rfl (Nat.le_of_ble_eq_true rfl) ⟨Nat.zero_le _, Nat.zero_le _⟩ dX0_month_7 ?_
    refine lv_aload_n hx hb dX0_month_10 rfl (lv_at hl 0 rfl) ?_
    refine mw_getX hx hb hts hin hown hK hP rfl 3 (by decide) (by decide +kernel) rfl rfl dX0_month_11 ?_
    refine mw_i2l hx hb (by omega) dX0_month_14 ?_
    refine mw_cSl (rest := []) hC (c_X0_divide l (mMoon v d) (v 1) (by omega) (by omega) (by omega)) (va_cwS 2 hts gX0_month_X0_divide rfl rfl rfl (by decide +kernel) ⟨Nat.le_of_ble_eq_true rfl, Nat.le_of_ble_eq_true rfl⟩) rfl hl.1 rfl (Nat.le_of_ble_eq_true rfl) ⟨Nat.zero_le _, Nat.zero_le _⟩ dX0_month_15 ?_
    refine mw_l2i hx hb dX0_month_18 ?_
    exact mw_xretI hx hb hr hlocks dX0_month_19 (mEx1_0 (by omega)) hP va_S.rf rfl
  · exact mw_tS (rest := []) hC (t_X0_checkDay_t l hfl d (by omega) (by omega)) hE (va_cwS 1 hts gX0_month_X0_checkDay rfl rfl rfl (by decide +kernel) ⟨Nat.le_of_ble_eq_true rfl, Nat.le_of_ble_eq_true rfl⟩) rfl hl.1 rfl (Nat.le_of_ble_eq_true rfl) ⟨Nat.le_of_ble_eq_true rfl, Nat.le_of_ble_eq_true rfl⟩ hout hlocks dX0_month_1 (fun t ht => ⟨⟨0, (mEx1_1 (by omega)), rfl⟩, ht⟩)

set_option maxHeartbeats 400000 in
set_option maxRecDepth 100000 in
theorem x_X0_lunarDay (l : Launch) (hfl : l.flags = flags0) (D : va_G) (h0 a1 a2 : Nat) (cA cJ : ClassId) (v : Nat → Int) (L P : Int → Int) (d : Int) (hd9 : mRI d) (hok : mOK v L P)  : mX l yX0_lunarDay wsX0_lunarDay ({ frames := 8, cells := 1, slots := 6, locals := 130 }) [.ref h0, .int (mI (d))] D (mXW h0 a1 a2 cA v L P) (mTy cA cJ) ["java/lang/IllegalArgumentException"] (mEx1 (mDay d)) (some (.int (mI (mLunar v d)))) (mXW h0 a1 a2 cA v L P) (fun _ => False) := by
  refine mw_openX (cc := cX0_lunarDay) (maxL := 2) (ret := (some .int)) (by decide) rfl (Nat.le_of_ble_eq_true rfl) ?_
  intro p e s m below meth c ls hC hr hlocks hout hB hE hl
  obtain ⟨hx, hb, hml, hown, hts⟩ := id hC
  obtain ⟨hP, hK⟩ := hB
  have hl : lv_has ls 2 [(0, .ref h0), (1, .int (mI (d)))] := hl
  have hok9 := hok
  obtain ⟨⟨o1, o2⟩, oL, ⟨o3, o4, o5, o6, o7, o8⟩, ⟨o9, o10, o11, o12, o13, o14, o15, o16⟩⟩ := hok9
  refine lv_iload_n hx hb dX0_lunarDay_0 rfl (lv_at hl 1 rfl) ?_
  by_cases c_1a : mDay d
  · refine mw_cSv (rest := []) hC (c_X0_checkDay l d (by omega)) (va_cwS 1 hts gX0_lunarDay_X0_checkDay rfl rfl rfl (by decide +kernel) ⟨Nat.le_of_ble_eq_true rfl, Nat.le_of_ble_eq_true rfl⟩) rfl hl.1 rfl (Nat.le_of_ble_eq_true rfl) ⟨Nat.zero_le _, Nat.zero_le _⟩ dX0_lunarDay_1 ?_
    refine lv_aload_n hx hb dX0_lunarDay_4 rfl (lv_at hl 0 rfl) ?_
    refine lv_iload_n hx hb dX0_lunarDay_5 rfl (lv_at hl 1 rfl) ?_
    refine mw_i2l hx hb (by omega) dX0_lunarDay_6 ?_
    refine mw_cVl (rest := []) (q := (RX0, TX0, 10)) hC (c_X0_lunarDayOf l D h0 a1 a2 cA cJ v L P d (id hok) (by omega)) (cwV 1 hts gX0_lunarDay_X0_lunarDayOf rfl rfl rfl (by decide +kernel) ⟨Nat.le_of_ble_eq_true rfl, Nat.le_of_ble_eq_true rfl⟩) hK hP rfl rfl rfl hl.1 rfl (Nat.le_of_ble_eq_true rfl) ⟨Nat.zero_le _, Nat.zero_le _⟩ dX0_lunarDay_7 ?_
    refine mw_l2i hx hb dX0_lunarDay_10 ?_
    exact mw_xretI hx hb hr hlocks dX0_lunarDay_11 (mEx1_0 (by omega)) hP va_S.rf rfl
  · exact mw_tS (rest := []) hC (t_X0_checkDay_t l hfl d (by omega) (by omega)) hE (va_cwS 1 hts gX0_lunarDay_X0_checkDay rfl rfl rfl (by decide +kernel) ⟨Nat.le_of_ble_eq_true rfl, Nat.le_of_ble_eq_true rfl⟩) rfl hl.1 rfl (Nat.le_of_ble_eq_true rfl) ⟨Nat.le_of_ble_eq_true rfl, Nat.le_of_ble_eq_true rfl⟩ hout hlocks dX0_lunarDay_1 (fun t ht => ⟨⟨0, (mEx1_1 (by omega)), rfl⟩, ht⟩)

set_option maxHeartbeats 400000 in
set_option maxRecDepth 100000 in
theorem x_X0_monthBegin (l : Launch) (hfl : l.flags = flags0) (D : va_G) (h0 a1 a2 : Nat) (cA cJ : ClassId) (v : Nat → Int) (L P : Int → Int) (m9 : Int) (hm9 : mRI m9) (hok : mOK v L P)  : mX l yX0_monthBegin wsX0_monthBegin ({ frames := 7, cells := 1, slots := 6, locals := 110 }) [.ref h0, .int (mI (m9))] D (mXW h0 a1 a2 cA v L P) (mTy cA cJ) ["java/lang/IllegalArgumentException"] (mEx1 (-100000 ≤ m9 ∧ m9 ≤ 100000)) (some (.int (mI (mMb v m9)))) (mXW h0 a1 a2 cA v L P) (fun _ => False) := by
  refine mw_openX (cc := cX0_monthBegin) (maxL := 2) (ret := (some .int)) (by decide) rfl (Nat.le_of_ble_eq_true rfl) ?_
  intro p e s m below meth c ls hC hr hlocks hout hB hE hl
  obtain ⟨hx, hb, hml, hown, hts⟩ := id hC
  obtain ⟨hP, hK⟩ := hB
  have hin : ∀ w ∈ wsX00, w ∈ wsX0_monthBegin := by decide +kernel
  have hl : lv_has ls 2 [(0, .ref h0), (1, .int (mI (m9)))] := hl
  have hok9 := hok
  obtain ⟨⟨o1, o2⟩, oL, ⟨o3, o4, o5, o6, o7, o8⟩, ⟨o9, o10, o11, o12, o13, o14, o15, o16⟩⟩ := hok9
  refine lv_iload_n hx hb dX0_monthBegin_0 rfl (lv_at hl 1 rfl) ?_
  refine mw_ldc hx hb (-100000) (by decide +kernel) hown (hts (.constant RX0 123 (-100000)) (by decide +kernel)) dX0_monthBegin_1 ?_
  refine mw_ldc hx hb (100000) (by decide +kernel) hown (hts (.constant RX0 124 (100000)) (by decide +kernel)) dX0_monthBegin_3 ?_
  refine mw_cSi (rest := []) hC (c_X0_isWithin l m9 (-100000) 100000 (by omega) (by omega) (by omega)) (va_cwS 3 hts gX0_monthBegin_X0_isWithin rfl rfl rfl (by decide +kernel) ⟨Nat.le_of_ble_eq_true rfl, Nat.le_of_ble_eq_true rfl⟩) rfl hl.1 rfl (Nat.le_of_ble_eq_true rfl) ⟨Nat.zero_le _, Nat.zero_le _⟩ dX0_monthBegin_5 ?_
  refine mw_split (fun c_8 => ?_) (fun c_8 => ?_)
  · refine mw_cSv (rest := []) hC (c_X0_checkArgument l) (va_cwS 1 hts gX0_monthBegin_X0_checkArgument rfl rfl rfl (by decide +kernel) ⟨Nat.le_of_ble_eq_true rfl, Nat.le_of_ble_eq_true rfl⟩) rfl hl.1 rfl (Nat.le_of_ble_eq_true rfl) ⟨Nat.zero_le _, Nat.zero_le _⟩ dX0_monthBegin_8 ?_
    have f1 := m_bound (-m9) (v 1) (A := 100000) (B := 10000) (by omega) (by omega)
    refine lv_iload_n hx hb dX0_monthBegin_11 rfl (lv_at hl 1 rfl) ?_
    refine mw_i2l hx hb (by omega) dX0_monthBegin_12 ?_
    refine mw_lneg hx hb dX0_monthBegin_13 ?_
    refine lv_aload_n hx hb dX0_monthBegin_14 rfl (lv_at hl 0 rfl) ?_
    refine mw_getX hx hb hts hin hown hK hP rfl 3 (by decide) (by decide +kernel) rfl rfl dX0_monthBegin_15 ?_
    refine mw_i2l hx hb (by omega) dX0_monthBegin_18 ?_
    refine mw_lmul hx hb dX0_monthBegin_19 ?_
    refine lv_aload_n hx hb dX0_monthBegin_20 rfl (lv_at hl 0 rfl) ?_
    refine mw_getX hx hb hts hin hown hK hP rfl 4 (by decide) (by decide +kernel) rfl rfl dX0_monthBegin_21 ?_
    refine mw_i2l hx hb (by omega) dX0_monthBegin_24 ?_
    refine mw_cSl (rest := []) hC (c_X0_divide l ((-m9) * (v 1)) (v 2) (by omega) (by omega) (by omega)) (va_cwS 2 hts gX0_monthBegin_X0_divide rfl rfl rfl (by decide +kernel) ⟨Nat.le_of_ble_eq_true rfl, Nat.le_of_ble_eq_true rfl⟩) rfl hl.1 rfl (Nat.le_of_ble_eq_true rfl) ⟨Nat.zero_le _, Nat.zero_le _⟩ dX0_monthBegin_25 ?_
    refine mw_lneg hx hb dX0_monthBegin_28 ?_
    refine lv_aload_n hx hb dX0_monthBegin_29 rfl (lv_at hl 0 rfl) ?_
    refine mw_getX hx hb hts hin hown hK hP rfl 5 (by decide) (by decide +kernel) rfl rfl dX0_monthBegin_30 ?_
    refine mw_i2l hx hb (by omega) dX0_monthBegin_33 ?_
    refine mw_lsub hx hb dX0_monthBegin_34 ?_
    refine mw_l2i hx hb dX0_monthBegin_35 ?_
    exact mw_xretI hx hb hr hlocks dX0_monthBegin_36 (mEx1_0 (by omega)) hP va_S.rf rfl
  · exact mw_tS (rest := []) hC (t_X0_checkArgument_t l hfl) hE (va_cwS 1 hts gX0_monthBegin_X0_checkArgument rfl rfl rfl (by decide +kernel) ⟨Nat.le_of_ble_eq_true rfl, Nat.le_of_ble_eq_true rfl⟩) rfl hl.1 rfl (Nat.le_of_ble_eq_true rfl) ⟨Nat.le_of_ble_eq_true rfl, Nat.le_of_ble_eq_true rfl⟩ hout hlocks dX0_monthBegin_8 (fun t ht => ⟨⟨0, (mEx1_1 (by omega)), rfl⟩, ht⟩)

set_option maxHeartbeats 400000 in
set_option maxRecDepth 100000 in
theorem x_X0_year (l : Launch) (hfl : l.flags = flags0) (D : va_G) (h0 a1 a2 : Nat) (cA cJ : ClassId) (v : Nat → Int) (L P : Int → Int) (d : Int) (hd9 : mRI d) (hok : mOK v L P)  : mX l yX0_year wsX0_year ({ frames := 8, cells := 1, slots := 6, locals := 130 }) [.ref h0, .int (mI (d))] D (mXW h0 a1 a2 cA v L P) (mTy cA cJ) ["java/lang/IllegalArgumentException"] (mEx1 (mDay d)) (some (.int (mI (mYr v d)))) (mXW h0 a1 a2 cA v L P) (fun _ => False) := by
  refine mw_openX (cc := cX0_year) (maxL := 2) (ret := (some .int)) (by decide) rfl (Nat.le_of_ble_eq_true rfl) ?_
  intro p e s m below meth c ls hC hr hlocks hout hB hE hl
  obtain ⟨hx, hb, hml, hown, hts⟩ := id hC
  obtain ⟨hP, hK⟩ := hB
  have hl : lv_has ls 2 [(0, .ref h0), (1, .int (mI (d)))] := hl
  have hok9 := hok
  obtain ⟨⟨o1, o2⟩, oL, ⟨o3, o4, o5, o6, o7, o8⟩, ⟨o9, o10, o11, o12, o13, o14, o15, o16⟩⟩ := hok9
  refine lv_iload_n hx hb dX0_year_0 rfl (lv_at hl 1 rfl) ?_
  by_cases c_1a : mDay d
  · refine mw_cSv (rest := []) hC (c_X0_checkDay l d (by omega)) (va_cwS 1 hts gX0_year_X0_checkDay rfl rfl rfl (by decide +kernel) ⟨Nat.le_of_ble_eq_true rfl, Nat.le_of_ble_eq_true rfl⟩) rfl hl.1 rfl (Nat.le_of_ble_eq_true rfl) ⟨Nat.zero_le _, Nat.zero_le _⟩ dX0_year_1 ?_
    refine lv_aload_n hx hb dX0_year_4 rfl (lv_at hl 0 rfl) ?_
    refine lv_iload_n hx hb dX0_year_5 rfl (lv_at hl 1 rfl) ?_
    refine mw_cVi (rest := []) (q := (RX0, TX0, 10)) hC (c_X0_yearOf l D h0 a1 a2 cA cJ v L P d (id hok) (by omega)) (cwV 1 hts gX0_year_X0_yearOf rfl rfl rfl (by decide +kernel) ⟨Nat.le_of_ble_eq_true rfl, Nat.le_of_ble_eq_true rfl⟩) hK hP rfl rfl rfl hl.1 rfl (Nat.le_of_ble_eq_true rfl) ⟨Nat.zero_le _, Nat.zero_le _⟩ dX0_year_6 ?_
    exact mw_xretI hx hb hr hlocks dX0_year_9 (mEx1_0 (by omega)) hP va_S.rf rfl
  · exact mw_tS (rest := []) hC (t_X0_checkDay_t l hfl d (by omega) (by omega)) hE (va_cwS 1 hts gX0_year_X0_checkDay rfl rfl rfl (by decide +kernel) ⟨Nat.le_of_ble_eq_true rfl, Nat.le_of_ble_eq_true rfl⟩) rfl hl.1 rfl (Nat.le_of_ble_eq_true rfl) ⟨Nat.le_of_ble_eq_true rfl, Nat.le_of_ble_eq_true rfl⟩ hout hlocks dX0_year_1 (fun t ht => ⟨⟨0, (mEx1_1 (by omega)), rfl⟩, ht⟩)

set_option maxHeartbeats 400000 in
set_option maxRecDepth 100000 in
theorem x_X0_placeInYear (l : Launch) (hfl : l.flags = flags0) (D : va_G) (h0 a1 a2 : Nat) (cA cJ : ClassId) (v : Nat → Int) (L P : Int → Int) (d : Int) (hd9 : mRI d) (hok : mOK v L P)  : mX l yX0_placeInYear wsX0_placeInYear ({ frames := 8, cells := 1, slots := 6, locals := 130 }) [.ref h0, .int (mI (d))] D (mXW h0 a1 a2 cA v L P) (mTy cA cJ) ["java/lang/IllegalArgumentException"] (mEx1 (mDay d)) (some (.int (mI (d - mBeg v (mYr v d))))) (mXW h0 a1 a2 cA v L P) (fun _ => False) := by
  refine mw_openX (cc := cX0_placeInYear) (maxL := 2) (ret := (some .int)) (by decide) rfl (Nat.le_of_ble_eq_true rfl) ?_
  intro p e s m below meth c ls hC hr hlocks hout hB hE hl
  obtain ⟨hx, hb, hml, hown, hts⟩ := id hC
  obtain ⟨hP, hK⟩ := hB
  have hl : lv_has ls 2 [(0, .ref h0), (1, .int (mI (d)))] := hl
  have hok9 := hok
  obtain ⟨⟨o1, o2⟩, oL, ⟨o3, o4, o5, o6, o7, o8⟩, ⟨o9, o10, o11, o12, o13, o14, o15, o16⟩⟩ := hok9
  refine lv_iload_n hx hb dX0_placeInYear_0 rfl (lv_at hl 1 rfl) ?_
  by_cases c_1a : mDay d
  · refine mw_cSv (rest := []) hC (c_X0_checkDay l d (by omega)) (va_cwS 1 hts gX0_placeInYear_X0_checkDay rfl rfl rfl (by decide +kernel) ⟨Nat.le_of_ble_eq_true rfl, Nat.le_of_ble_eq_true rfl⟩) rfl hl.1 rfl (Nat.le_of_ble_eq_true rfl) ⟨Nat.zero_le _, Nat.zero_le _⟩ dX0_placeInYear_1 ?_
    have f1 := m_yr_r hok (d := d) (by omega)
    refine lv_iload_n hx hb dX0_placeInYear_4 rfl (lv_at hl 1 rfl) ?_
    refine lv_aload_n hx hb dX0_placeInYear_5 rfl (lv_at hl 0 rfl) ?_
    refine lv_aload_n hx hb dX0_placeInYear_6 rfl (lv_at hl 0 rfl) ?_
    refine lv_iload_n hx hb dX0_placeInYear_7 rfl (lv_at hl 1 rfl) ?_
    refine mw_cVi (rest := [.ref h0, .int (mI (d))]) (q := (RX0, TX0, 10)) hC (c_X0_yearOf l D h0 a1 a2 cA cJ v L P d (id hok) (by omega)) (cwV 1 hts gX0_placeInYear_X0_yearOf rfl rfl rfl (by decide +kernel) ⟨Nat.le_of_ble_eq_true rfl, Nat.le_of_ble_eq_true rfl⟩) hK hP rfl rfl rfl hl.1 rfl (Nat.le_of_ble_eq_true rfl) ⟨Nat.zero_le _, Nat.zero_le _⟩ dX0_placeInYear_8 ?_
    refine mw_cVi (rest := [.int (mI (d))]) (q := (RX0, TX0, 10)) hC (c_X0_yearBegin l D h0 a1 a2 cA cJ v L P (mYr v d) (id hok) (by omega)) (cwV 1 hts gX0_placeInYear_X0_yearBegin rfl rfl rfl (by decide +kernel) ⟨Nat.le_of_ble_eq_true rfl, Nat.le_of_ble_eq_true rfl⟩) hK hP rfl rfl rfl hl.1 rfl (Nat.le_of_ble_eq_true rfl) ⟨Nat.zero_le _, Nat.zero_le _⟩ dX0_placeInYear_11 ?_
    refine mw_isub hx hb dX0_placeInYear_14 ?_
    exact mw_xretI hx hb hr hlocks dX0_placeInYear_15 (mEx1_0 (by omega)) hP va_S.rf rfl
  · exact mw_tS (rest := []) hC (t_X0_checkDay_t l hfl d (by omega) (by omega)) hE (va_cwS 1 hts gX0_placeInYear_X0_checkDay rfl rfl rfl (by decide +kernel) ⟨Nat.le_of_ble_eq_true rfl, Nat.le_of_ble_eq_true rfl⟩) rfl hl.1 rfl (Nat.le_of_ble_eq_true rfl) ⟨Nat.le_of_ble_eq_true rfl, Nat.le_of_ble_eq_true rfl⟩ hout hlocks dX0_placeInYear_1 (fun t ht => ⟨⟨0, (mEx1_1 (by omega)), rfl⟩, ht⟩)

set_option maxHeartbeats 400000 in
set_option maxRecDepth 100000 in
theorem x_X0_isLeap (l : Launch) (hfl : l.flags = flags0) (D : va_G) (h0 a1 a2 : Nat) (cA cJ : ClassId) (v : Nat → Int) (L P : Int → Int) (y : Int) (hy9 : mRI y) (hok : mOK v L P)  : mX l yX0_isLeap wsX0_isLeap ({ frames := 8, cells := 1, slots := 6, locals := 130 }) [.ref h0, .int (mI (y))] D (mXW h0 a1 a2 cA v L P) (mTy cA cJ) ["java/lang/IllegalArgumentException"] (mEx1 (mYear y)) (some (.int (mI (mB (mLeap v y))))) (mXW h0 a1 a2 cA v L P) (fun _ => False) := by
  refine mw_openX (cc := cX0_isLeap) (maxL := 2) (ret := (some .boolean)) (by decide) rfl (Nat.le_of_ble_eq_true rfl) ?_
  intro p e s m below meth c ls hC hr hlocks hout hB hE hl
  obtain ⟨hx, hb, hml, hown, hts⟩ := id hC
  obtain ⟨hP, hK⟩ := hB
  have hl : lv_has ls 2 [(0, .ref h0), (1, .int (mI (y)))] := hl
  have hok9 := hok
  obtain ⟨⟨o1, o2⟩, oL, ⟨o3, o4, o5, o6, o7, o8⟩, ⟨o9, o10, o11, o12, o13, o14, o15, o16⟩⟩ := hok9
  refine lv_iload_n hx hb dX0_isLeap_0 rfl (lv_at hl 1 rfl) ?_
  by_cases c_1a : mYear y
  · refine mw_cSv (rest := []) hC (c_X0_checkYear l y (by omega)) (va_cwS 1 hts gX0_isLeap_X0_checkYear rfl rfl rfl (by decide +kernel) ⟨Nat.le_of_ble_eq_true rfl, Nat.le_of_ble_eq_true rfl⟩) rfl hl.1 rfl (Nat.le_of_ble_eq_true rfl) ⟨Nat.zero_le _, Nat.zero_le _⟩ dX0_isLeap_1 ?_
    refine lv_aload_n hx hb dX0_isLeap_4 rfl (lv_at hl 0 rfl) ?_
    refine lv_iload_n hx hb dX0_isLeap_5 rfl (lv_at hl 1 rfl) ?_
    refine mw_cVi (rest := []) (q := (RX0, TX0, 10)) hC (c_X0_hasLeapDay l D h0 a1 a2 cA cJ v L P y (id hok) (by omega)) (cwV 1 hts gX0_isLeap_X0_hasLeapDay rfl rfl rfl (by decide +kernel) ⟨Nat.le_of_ble_eq_true rfl, Nat.le_of_ble_eq_true rfl⟩) hK hP rfl rfl rfl hl.1 rfl (Nat.le_of_ble_eq_true rfl) ⟨Nat.zero_le _, Nat.zero_le _⟩ dX0_isLeap_6 ?_
    exact mw_xretZ hx hb hr hlocks dX0_isLeap_9 (mEx1_0 (by omega)) hP va_S.rf rfl
  · exact mw_tS (rest := []) hC (t_X0_checkYear_t l hfl y (by omega) (by omega)) hE (va_cwS 1 hts gX0_isLeap_X0_checkYear rfl rfl rfl (by decide +kernel) ⟨Nat.le_of_ble_eq_true rfl, Nat.le_of_ble_eq_true rfl⟩) rfl hl.1 rfl (Nat.le_of_ble_eq_true rfl) ⟨Nat.le_of_ble_eq_true rfl, Nat.le_of_ble_eq_true rfl⟩ hout hlocks dX0_isLeap_1 (fun t ht => ⟨⟨0, (mEx1_1 (by omega)), rfl⟩, ht⟩)

set_option maxHeartbeats 400000 in
set_option maxRecDepth 100000 in
theorem x_X0_dayOf (l : Launch) (hfl : l.flags = flags0) (D : va_G) (h0 a1 a2 : Nat) (cA cJ : ClassId) (v : Nat → Int) (L P : Int → Int) (y pl : Int) (hy9 : mRI y) (hp9 : mRI pl) (hok : mOK v L P)  : mX l yX0_dayOf wsX0_dayOf ({ frames := 8, cells := 1, slots := 6, locals := 130 }) [.ref h0, .int (mI (y)), .int (mI (pl))] D (mXW h0 a1 a2 cA v L P) (mTy cA cJ) ["java/lang/IllegalArgumentException"] (mEx1 (mYear y ∧ 0 ≤ pl ∧ pl < mLen v y)) (some (.int (mI (mBeg v y + pl)))) (mXW h0 a1 a2 cA v L P) (fun _ => False) := by
  refine mw_openX (cc := cX0_dayOf) (maxL := 4) (ret := (some .int)) (by decide) rfl (Nat.le_of_ble_eq_true rfl) ?_
  intro p e s m below meth c ls hC hr hlocks hout hB hE hl
  obtain ⟨hx, hb, hml, hown, hts⟩ := id hC
  obtain ⟨hP, hK⟩ := hB
  have hin : ∀ w ∈ wsX00, w ∈ wsX0_dayOf := by decide +kernel
  have hl : lv_has ls 4 [(0, .ref h0), (1, .int (mI (y))), (2, .int (mI (pl)))] := hl
  have hok9 := hok
  obtain ⟨⟨o1, o2⟩, oL, ⟨o3, o4, o5, o6, o7, o8⟩, ⟨o9, o10, o11, o12, o13, o14, o15, o16⟩⟩ := hok9
  have n1 : mLeap v y → mLen v y = v 4 + 1 := fun h => if_pos h
  have n2 : ¬ mLeap v y → mLen v y = v 4 := fun h => if_neg h
  refine lv_iload_n hx hb dX0_dayOf_0 rfl (lv_at hl 1 rfl) ?_
  by_cases c_1a : mYear y
  · refine mw_cSv (rest := []) hC (c_X0_checkYear l y (by omega)) (va_cwS 1 hts gX0_dayOf_X0_checkYear rfl rfl rfl (by decide +kernel) ⟨Nat.le_of_ble_eq_true rfl, Nat.le_of_ble_eq_true rfl⟩) rfl hl.1 rfl (Nat.le_of_ble_eq_true rfl) ⟨Nat.zero_le _, Nat.zero_le _⟩ dX0_dayOf_1 ?_
    refine lv_aload_n hx hb dX0_dayOf_4 rfl (lv_at hl 0 rfl) ?_
    refine lv_iload_n hx hb dX0_dayOf_5 rfl (lv_at hl 1 rfl) ?_
    refine mw_cVi (rest := []) (q := (RX0, TX0, 10)) hC (c_X0_hasLeapDay l D h0 a1 a2 cA cJ v L P y (id hok) (by omega)) (cwV 1 hts gX0_dayOf_X0_hasLeapDay rfl rfl rfl (by decide +kernel) ⟨Nat.le_of_ble_eq_true rfl, Nat.le_of_ble_eq_true rfl⟩) hK hP rfl rfl rfl hl.1 rfl (Nat.le_of_ble_eq_true rfl) ⟨Nat.zero_le _, Nat.zero_le _⟩ dX0_dayOf_6 ?_
    refine mw_zeq (tgt := 21) hx hb dX0_dayOf_9 (by decide) (fun c_9 => ?_) (fun c_9 => ?_)
    · refine lv_aload_n hx hb dX0_dayOf_21 rfl (lv_at hl 0 rfl) ?_
      refine mw_getX hx hb hts hin hown hK hP rfl 6 (by decide) (by decide +kernel) rfl rfl dX0_dayOf_22 ?_
      refine lv_istore_n (lv' := [(3, .int (mI (v 4))), (0, .ref h0), (1, .int (mI (y))), (2, .int (mI (pl)))]) hx hb dX0_dayOf_25 rfl hl (by decide) rfl (fun ls hl => ?_)
      refine lv_iload_n hx hb dX0_dayOf_26 rfl (lv_at hl 3 rfl) ?_
      refine mw_iconst hx hb dX0_dayOf_27 ?_
      refine lv_iload_n hx hb dX0_dayOf_28 rfl (lv_at hl 0 rfl) ?_
      refine mw_iconst hx hb dX0_dayOf_29 ?_
      refine mw_isub hx hb dX0_dayOf_30 ?_
      refine mw_cSi (rest := []) hC (c_X0_isWithin l pl 0 ((v 4) - 1) (by omega) (by omega) (by omega)) (va_cwS 3 hts gX0_dayOf_X0_isWithin rfl rfl rfl (by decide +kernel) ⟨Nat.le_of_ble_eq_true rfl, Nat.le_of_ble_eq_true rfl⟩) rfl hl.1 rfl (Nat.le_of_ble_eq_true rfl) ⟨Nat.zero_le _, Nat.zero_le _⟩ dX0_dayOf_31 ?_
      refine mw_split (fun c_34 => ?_) (fun c_34 => ?_)
      · refine mw_cSv (rest := []) hC (c_X0_checkArgument l) (va_cwS 1 hts gX0_dayOf_X0_checkArgument rfl rfl rfl (by decide +kernel) ⟨Nat.le_of_ble_eq_true rfl, Nat.le_of_ble_eq_true rfl⟩) rfl hl.1 rfl (Nat.le_of_ble_eq_true rfl) ⟨Nat.zero_le _, Nat.zero_le _⟩ dX0_dayOf_34 ?_
        refine lv_aload_n hx hb dX0_dayOf_37 rfl (lv_at hl 1 rfl) ?_
        refine lv_iload_n hx hb dX0_dayOf_38 rfl (lv_at hl 2 rfl) ?_
        refine mw_cVi (rest := []) (q := (RX0, TX0, 10)) hC (c_X0_yearBegin l D h0 a1 a2 cA cJ v L P y (id hok) (by omega)) (cwV 1 hts gX0_dayOf_X0_yearBegin rfl rfl rfl (by decide +kernel) ⟨Nat.le_of_ble_eq_true rfl, Nat.le_of_ble_eq_true rfl⟩) hK hP rfl rfl rfl hl.1 rfl (Nat.le_of_ble_eq_true rfl) ⟨Nat.zero_le _, Nat.zero_le _⟩ dX0_dayOf_39 ?_
        refine lv_iload_n hx hb dX0_dayOf_42 rfl (lv_at hl 3 rfl) ?_
        refine mw_iadd hx hb dX0_dayOf_43 ?_
        exact mw_xretI hx hb hr hlocks dX0_dayOf_44 (mEx1_0 (by omega)) hP va_S.rf rfl
      · exact mw_tS (rest := []) hC (t_X0_checkArgument_t l hfl) hE (va_cwS 1 hts gX0_dayOf_X0_checkArgument rfl rfl rfl (by decide +kernel) ⟨Nat.le_of_ble_eq_true rfl, Nat.le_of_ble_eq_true rfl⟩) rfl hl.1 rfl (Nat.le_of_ble_eq_true rfl) ⟨Nat.le_of_ble_eq_true rfl, Nat.le_of_ble_eq_true rfl⟩ hout hlocks dX0_dayOf_34 (fun t ht => ⟨⟨0, (mEx1_1 (by omega)), rfl⟩, ht⟩)
    · refine lv_aload_n hx hb dX0_dayOf_12 rfl (lv_at hl 0 rfl) ?_
      refine mw_getX hx hb hts hin hown hK hP rfl 6 (by decide) (by decide +kernel) rfl rfl dX0_dayOf_13 ?_
      refine mw_iconst hx hb dX0_dayOf_16 ?_
      refine mw_iadd hx hb dX0_dayOf_17 ?_
      refine lv_goto (tgt := 25) hx hb dX0_dayOf_18 (by decide) ?_
      refine lv_istore_n (lv' := [(3, .int (mI ((v 4) + 1))), (0, .ref h0), (1, .int (mI (y))), (2, .int (mI (pl)))]) hx hb dX0_dayOf_25 rfl hl (by decide) rfl (fun ls hl => ?_)
      refine lv_iload_n hx hb dX0_dayOf_26 rfl (lv_at hl 3 rfl) ?_
      refine mw_iconst hx hb dX0_dayOf_27 ?_
      refine lv_iload_n hx hb dX0_dayOf_28 rfl (lv_at hl 0 rfl) ?_
      refine mw_iconst hx hb dX0_dayOf_29 ?_
      refine mw_isub hx hb dX0_dayOf_30 ?_
      refine mw_cSi (rest := []) hC (c_X0_isWithin l pl 0 (((v 4) + 1) - 1) (by omega) (by omega) (by omega)) (va_cwS 3 hts gX0_dayOf_X0_isWithin rfl rfl rfl (by decide +kernel) ⟨Nat.le_of_ble_eq_true rfl, Nat.le_of_ble_eq_true rfl⟩) rfl hl.1 rfl (Nat.le_of_ble_eq_true rfl) ⟨Nat.zero_le _, Nat.zero_le _⟩ dX0_dayOf_31 ?_
      refine mw_split (fun c_34 => ?_) (fun c_34 => ?_)
      · refine mw_cSv (rest := []) hC (c_X0_checkArgument l) (va_cwS 1 hts gX0_dayOf_X0_checkArgument rfl rfl rfl (by decide +kernel) ⟨Nat.le_of_ble_eq_true rfl, Nat.le_of_ble_eq_true rfl⟩) rfl hl.1 rfl (Nat.le_of_ble_eq_true rfl) ⟨Nat.zero_le _, Nat.zero_le _⟩ dX0_dayOf_34 ?_
        refine lv_aload_n hx hb dX0_dayOf_37 rfl (lv_at hl 1 rfl) ?_
        refine lv_iload_n hx hb dX0_dayOf_38 rfl (lv_at hl 2 rfl) ?_
        refine mw_cVi (rest := []) (q := (RX0, TX0, 10)) hC (c_X0_yearBegin l D h0 a1 a2 cA cJ v L P y (id hok) (by omega)) (cwV 1 hts gX0_dayOf_X0_yearBegin rfl rfl rfl (by decide +kernel) ⟨Nat.le_of_ble_eq_true rfl, Nat.le_of_ble_eq_true rfl⟩) hK hP rfl rfl rfl hl.1 rfl (Nat.le_of_ble_eq_true rfl) ⟨Nat.zero_le _, Nat.zero_le _⟩ dX0_dayOf_39 ?_
        refine lv_iload_n hx hb dX0_dayOf_42 rfl (lv_at hl 3 rfl) ?_
        refine mw_iadd hx hb dX0_dayOf_43 ?_
        exact mw_xretI hx hb hr hlocks dX0_dayOf_44 (mEx1_0 (by omega)) hP va_S.rf rfl
      · exact mw_tS (rest := []) hC (t_X0_checkArgument_t l hfl) hE (va_cwS 1 hts gX0_dayOf_X0_checkArgument rfl rfl rfl (by decide +kernel) ⟨Nat.le_of_ble_eq_true rfl, Nat.le_of_ble_eq_true rfl⟩) rfl hl.1 rfl (Nat.le_of_ble_eq_true rfl) ⟨Nat.le_of_ble_eq_true rfl, Nat.le_of_ble_eq_true rfl⟩ hout hlocks dX0_dayOf_34 (fun t ht => ⟨⟨0, (mEx1_1 (by omega)), rfl⟩, ht⟩)
  · exact mw_tS (rest := []) hC (t_X0_checkYear_t l hfl y (by omega) (by omega)) hE (va_cwS 1 hts gX0_dayOf_X0_checkYear rfl rfl rfl (by decide +kernel) ⟨Nat.le_of_ble_eq_true rfl, Nat.le_of_ble_eq_true rfl⟩) rfl hl.1 rfl (Nat.le_of_ble_eq_true rfl) ⟨Nat.le_of_ble_eq_true rfl, Nat.le_of_ble_eq_true rfl⟩ hout hlocks dX0_dayOf_1 (fun t ht => ⟨⟨0, (mEx1_1 (by omega)), rfl⟩, ht⟩)

set_option maxHeartbeats 400000 in
set_option maxRecDepth 100000 in
theorem x_X0_timesInYear (l : Launch) (hfl : l.flags = flags0) (D : va_G) (h0 a1 a2 : Nat) (cA cJ : ClassId) (v : Nat → Int) (L P : Int → Int) (m9 y : Int) (hm9 : mRI m9) (hy9 : mRI y) (hok : mOK v L P)  : mX l yX0_timesInYear wsX0_timesInYear ({ frames := 8, cells := 1, slots := 6, locals := 130 }) [.ref h0, .int (mI (m9)), .int (mI (y))] D (mXW h0 a1 a2 cA v L P) (mTy cA cJ) ["java/lang/IndexOutOfBoundsException", "java/lang/IllegalArgumentException"] (mEx2 (mMk v m9) (mYear y)) (some (.int (mI (mCnt L P m9 (mBeg v y) (mBeg v (y + 1) - 1))))) (mXW h0 a1 a2 cA v L P) (fun _ => False) := by
  refine mw_openX (cc := cX0_timesInYear) (maxL := 3) (ret := (some .int)) (by decide) rfl (Nat.le_of_ble_eq_true rfl) ?_
  intro p e s m below meth c ls hC hr hlocks hout hB hE hl
  obtain ⟨hx, hb, hml, hown, hts⟩ := id hC
  obtain ⟨hP, hK⟩ := hB
  have hl : lv_has ls 3 [(0, .ref h0), (1, .int (mI (m9))), (2, .int (mI (y)))] := hl
  have hok9 := hok
  obtain ⟨⟨o1, o2⟩, oL, ⟨o3, o4, o5, o6, o7, o8⟩, ⟨o9, o10, o11, o12, o13, o14, o15, o16⟩⟩ := hok9
  refine lv_aload_n hx hb dX0_timesInYear_0 rfl (lv_at hl 0 rfl) ?_
  refine lv_iload_n hx hb dX0_timesInYear_1 rfl (lv_at hl 1 rfl) ?_
  by_cases c_2a : mMk v m9
  · refine mw_cVv (rest := []) (q := (RX0, TX0, 10)) hC (c_X0_checkMarket l D h0 a1 a2 cA cJ v L P m9 (by omega) (by omega) (by omega)) (cwV 1 hts gX0_timesInYear_X0_checkMarket rfl rfl rfl (by decide +kernel) ⟨Nat.le_of_ble_eq_true rfl, Nat.le_of_ble_eq_true rfl⟩) hK hP rfl rfl rfl hl.1 rfl (Nat.le_of_ble_eq_true rfl) ⟨Nat.zero_le _, Nat.zero_le _⟩ dX0_timesInYear_2 ?_
    refine lv_iload_n hx hb dX0_timesInYear_5 rfl (lv_at hl 2 rfl) ?_
    by_cases c_6a : mYear y
    · refine mw_cSv (rest := []) hC (c_X0_checkYear l y (by omega)) (va_cwS 1 hts gX0_timesInYear_X0_checkYear rfl rfl rfl (by decide +kernel) ⟨Nat.le_of_ble_eq_true rfl, Nat.le_of_ble_eq_true rfl⟩) rfl hl.1 rfl (Nat.le_of_ble_eq_true rfl) ⟨Nat.zero_le _, Nat.zero_le _⟩ dX0_timesInYear_6 ?_
      have f1 := m_beg_r hok (y := y) (by omega)
      have f2 := m_beg_r hok (y := y + 1) (by omega)
      refine lv_aload_n hx hb dX0_timesInYear_9 rfl (lv_at hl 0 rfl) ?_
      refine lv_iload_n hx hb dX0_timesInYear_10 rfl (lv_at hl 1 rfl) ?_
      refine lv_aload_n hx hb dX0_timesInYear_11 rfl (lv_at hl 0 rfl) ?_
      refine lv_iload_n hx hb dX0_timesInYear_12 rfl (lv_at hl 2 rfl) ?_
      refine mw_cVi (rest := [.int (mI (m9)), .ref h0]) (q := (RX0, TX0, 10)) hC (c_X0_yearBegin l D h0 a1 a2 cA cJ v L P y (id hok) (by omega)) (cwV 1 hts gX0_timesInYear_X0_yearBegin rfl rfl rfl (by decide +kernel) ⟨Nat.le_of_ble_eq_true rfl, Nat.le_of_ble_eq_true rfl⟩) hK hP rfl rfl rfl hl.1 rfl (Nat.le_of_ble_eq_true rfl) ⟨Nat.zero_le _, Nat.zero_le _⟩ dX0_timesInYear_13 ?_
      refine lv_aload_n hx hb dX0_timesInYear_16 rfl (lv_at hl 0 rfl) ?_
      refine lv_iload_n hx hb dX0_timesInYear_17 rfl (lv_at hl 2 rfl) ?_
      refine mw_iconst hx hb dX0_timesInYear_18 ?_
      refine mw_iadd hx hb dX0_timesInYear_19 ?_
      refine mw_cVi (rest := [.int (mI (mBeg v y)), .int (mI (m9)), .ref h0]) (q := (RX0, TX0, 10)) hC (c_X0_yearBegin l D h0 a1 a2 cA cJ v L P (y + 1) (id hok) (by omega)) (cwV 1 hts gX0_timesInYear_X0_yearBegin rfl rfl rfl (by decide +kernel) ⟨Nat.le_of_ble_eq_true rfl, Nat.le_of_ble_eq_true rfl⟩) hK hP rfl rfl rfl hl.1 rfl (Nat.le_of_ble_eq_true rfl) ⟨Nat.zero_le _, Nat.zero_le _⟩ dX0_timesInYear_20 ?_
      refine mw_iconst hx hb dX0_timesInYear_23 ?_
      refine mw_isub hx hb dX0_timesInYear_24 ?_
      refine mw_cVi (rest := []) (q := (RX0, TX0, 10)) hC (c_X0_countHeld l D h0 a1 a2 cA cJ v L P m9 (mBeg v y) ((mBeg v (y + 1)) - 1) (id hok) (by omega) (by omega) (by omega)) (cwV 3 hts gX0_timesInYear_X0_countHeld rfl rfl rfl (by decide +kernel) ⟨Nat.le_of_ble_eq_true rfl, Nat.le_of_ble_eq_true rfl⟩) hK hP rfl rfl rfl hl.1 rfl (Nat.le_of_ble_eq_true rfl) ⟨Nat.zero_le _, Nat.zero_le _⟩ dX0_timesInYear_25 ?_
      exact mw_xretI hx hb hr hlocks dX0_timesInYear_28 (mEx2_0 (by omega) (by omega)) hP va_S.rf rfl
    · exact mw_tS (rest := []) hC (t_X0_checkYear_t l hfl y (by omega) (by omega)) hE (va_cwS 1 hts gX0_timesInYear_X0_checkYear rfl rfl rfl (by decide +kernel) ⟨Nat.le_of_ble_eq_true rfl, Nat.le_of_ble_eq_true rfl⟩) rfl hl.1 rfl (Nat.le_of_ble_eq_true rfl) ⟨Nat.le_of_ble_eq_true rfl, Nat.le_of_ble_eq_true rfl⟩ hout hlocks dX0_timesInYear_6 (fun t ht => ⟨⟨1, (mEx2_2 (by omega) (by omega)), rfl⟩, ht⟩)
  · exact mw_tV (rest := []) (q := (RX0, TX0, 10)) hC (t_X0_checkMarket_t l hfl D h0 a1 a2 cA cJ v L P m9 (by omega) (by omega) (by omega)) hE (cwV 1 hts gX0_timesInYear_X0_checkMarket rfl rfl rfl (by decide +kernel) ⟨Nat.le_of_ble_eq_true rfl, Nat.le_of_ble_eq_true rfl⟩) hK hP rfl rfl rfl hl.1 rfl (Nat.le_of_ble_eq_true rfl) ⟨Nat.le_of_ble_eq_true rfl, Nat.le_of_ble_eq_true rfl⟩ hout hlocks dX0_timesInYear_2 (fun t ht => ⟨⟨0, (mEx2_1 (by omega)), rfl⟩, ht⟩)

set_option maxHeartbeats 400000 in
set_option maxRecDepth 100000 in
theorem c_X0_markets (l : Launch) (D : va_G) (h0 a1 a2 : Nat) (cA cJ : ClassId) (v : Nat → Int) (L P : Int → Int)  : mP l yX0_markets wsX0_markets ({ frames := 0, cells := 0, slots := 0, locals := 0 }) [.ref h0] (mwB D (mXW h0 a1 a2 cA v L P) (mTy cA cJ)) (some (.int (mI (v 0)))) := by
  refine mw_open (cc := cX0_markets) (maxL := 1) (ret := (some .int)) (by decide +kernel) rfl (Nat.le_of_ble_eq_true rfl) ?_
  intro p e s m below meth c ls hC hr hlocks hB hl
  obtain ⟨hx, hb, hml, hown, hts⟩ := id hC
  obtain ⟨hP, hK⟩ := hB
  have hin : ∀ w ∈ wsX00, w ∈ wsX0_markets := by decide +kernel
  have hl : lv_has ls 1 [(0, .ref h0)] := hl
  refine lv_aload_n hx hb dX0_markets_0 rfl (lv_at hl 0 rfl) ?_
  refine mw_getX hx hb hts hin hown hK hP rfl 2 (by decide) (by decide +kernel) rfl rfl dX0_markets_1 ?_
  exact mw_retI hx hb hr hlocks dX0_markets_4 rfl
end
section
def mV0 : Nat → Int := fun k => match k with
  | 1 => 1447
  | 2 => 49
  | 4 => 365
  | 5 => 8
  | 7 => 33
  | _ => 0
def mZ : Int → Int := fun _ => 0
theorem mZ_row : (fun k : Nat => mI (mZ (k : Int))) = fun _ => (0 : Int32) := funext fun _ => mI_0
theorem va_cA_eq {D : va_G} {cl : List vw_C} {c1 c2 : ClassId} {tys : List (ClassId × FieldType)} {s : State} (h : va_K D cl tys s) {i j : Nat} (hi : tys[i]? = some (c1, .int)) (hj : tys[j]? = some (c2, .int)) : c1 = c2 := by
  have a : s.vm.findClass ("[" ++ FieldType.int.toString) = some c1 := (h.2 i _ hi).2
  have b : s.vm.findClass ("[" ++ FieldType.int.toString) = some c2 := (h.2 j _ hj).2
  exact Option.some.inj (a.symm.trans b)
abbrev mXF0 : List Value := [.null, .null, .int (mI 0), .int (mI 0), .int (mI 0), .int (mI 0), .int (mI 0), .int (mI 0), .int (mI 0), .int (mI 0)]
set_option maxHeartbeats 400000 in
set_option maxRecDepth 100000 in
theorem c_X0_init (l : Launch) (D : va_G) (h0 sz : Nat) : Met l yX0_init wsX0_init ({ frames := 1, cells := 2, slots := 32, locals := 12 }) (va_Pc [.ref h0] (fun U => U.heap.size = sz ∧ va_P D vwCl [(h0, .inr (0, mXF0))] U.heap ∧ va_K D vwCl [] U ∧ va_D (fun _ => True) [(h0, .inr (0, mXF0))])) (va_Qv (fun _ : Nat × Nat × ClassId => True) (fun u t => va_P D vwCl (mXW h0 (u.1) (u.2.1) (u.2.2) mV0 mZ mZ) t.heap ∧ va_K D vwCl [(u.2.2, .int)] t ∧ va_D (va_A [(h0, .inr (0, mXF0))] sz) (mXW h0 (u.1) (u.2.1) (u.2.2) mV0 mZ mZ)) (va_A [(h0, .inr (0, mXF0))] sz)) 2 32 (va_A [(h0, .inr (0, mXF0))] sz) := by
  refine Met.ofW (cc := cX0_init) (maxL := 1) (ret := none) (by decide) rfl ?_
  intro p e s m args below meth c s₁ B hml hv
  obtain ⟨rfl, hsz, hP, hK, hD0⟩ := hv
  have hx := B.exec
  have hb := B.bytes
  have hr := B.returns
  have hts := atoms_spec (ws := wsX0_init) B.pre
  have hown : s.vm.findClass RX0 = some m.cls := findClass_of_methodNamed B.named
  have hlocks := B.notSynchronized
  have hin9 : meth.name = "<init>" := (name_of_methodNamed B.named B.method).1
  have hin : ∀ w ∈ wsX00, w ∈ wsX0_init := by decide +kernel
  subst hsz
  have hD := hD0.self (sz := s.heap.size)
  generalize hAe : va_A [(h0, .inr (0, mXF0))] s.heap.size = A at hD ⊢
  have hA : ∀ q : Nat, s.heap.size ≤ q → A q := fun q h => by rw [← hAe]; exact Or.inr h
  have hS : va_S A s.heap s.heap [] := va_S.rf
  have hP : va_P D vwCl [(h0, .inr (0, mXF0))] s.heap := hP
  have hl := lv_entry ([.ref h0]) (n := 1) (Nat.le_of_ble_eq_true rfl)
  rw [lg_entry_eq]
  generalize (lg_sl ([.ref h0]) ++ List.replicate (1 - (lg_sl ([.ref h0])).length) Slot.unset).toArray = ls at hl ⊢
  have hl : lv_has ls 1 [(0, .ref h0)] := hl
  refine lv_aload_n hx hb dX0_init_0 rfl (lv_at hl 0 rfl) ?_
  refine W.objInit hx hb hown (hts (.methodLink RX0 1 objectInit) (by decide +kernel)) (hts (.instanceMethod objectInit) (by decide +kernel)) (hts (.code objectInit ⟨#[0xb1]⟩ 1 none) (by decide +kernel)) rfl (by rw [hml]; exact hl.1) rfl dX0_init_1 (Nat.le_of_ble_eq_true rfl) (Nat.le_of_ble_eq_true rfl) ?_
  refine W.eq (g2 := F0 m 4 ls []) rfl ?_
  refine lv_aload_n hx hb dX0_init_4 rfl (lv_at hl 0 rfl) ?_
  refine mw_bipush hx hb (by decide +kernel) dX0_init_5 ?_
  refine va_newa (atype := .int) (ty := .int) (N' := 16) (a0 := (16, .inl (fun _ => 0))) hx hb (hts (.arrayClass .int) (by decide +kernel)) rfl hK hP hD hS hA (fun cA => rfl) (by decide +kernel) (by decide +kernel) (by decide +kernel) (Nat.le_of_ble_eq_true rfl) (Nat.le_of_ble_eq_true rfl) dX0_init_7 (fun b1 cB1 H hK hP hD hS => ?_)
  rw [← mZ_row] at hP hD
  have hP : va_P D vwCl [(h0, .inr (0, [.null, .null, .int (mI 0), .int (mI 0), .int (mI 0), .int (mI 0), .int (mI 0), .int (mI 0), .int (mI 0), .int (mI 0)])), (b1, mA16 cB1 mZ)] H := hP
  have hD : va_D A [(h0, .inr (0, [.null, .null, .int (mI 0), .int (mI 0), .int (mI 0), .int (mI 0), .int (mI 0), .int (mI 0), .int (mI 0), .int (mI 0)])), (b1, mA16 cB1 mZ)] := hD
  refine va_putF (D := D) (ci := 0) (v := .ref b1) (ty := .array .int) (C := RX0) (T := TX0) (N := 10) hx hb hts hin tyX0 tyX0_ok nmX0 hown hK hP hD hS 0 rfl rfl 0 (by decide) (hts (.fieldLink RX0 9 "MarketWeeks" "lengths" "[I") (by decide +kernel)) (fun _ h9 => h9) rfl hin9 rfl (by decide +kernel) rfl rfl (Nat.le_of_ble_eq_true rfl) dX0_init_9 (fun H locs hP hD hS => ?_)
  have hP : va_P D vwCl [(h0, .inr (0, [.ref b1, .null, .int (mI 0), .int (mI 0), .int (mI 0), .int (mI 0), .int (mI 0), .int (mI 0), .int (mI 0), .int (mI 0)])), (b1, mA16 cB1 mZ)] H := hP
  have hD : va_D A [(h0, .inr (0, [.ref b1, .null, .int (mI 0), .int (mI 0), .int (mI 0), .int (mI 0), .int (mI 0), .int (mI 0), .int (mI 0), .int (mI 0)])), (b1, mA16 cB1 mZ)] := hD
  refine lv_aload_n hx hb dX0_init_12 rfl (lv_at hl 0 rfl) ?_
  refine mw_bipush hx hb (by decide +kernel) dX0_init_13 ?_
  refine va_newa (atype := .int) (ty := .int) (N' := 16) (a0 := (16, .inl (fun _ => 0))) hx hb (hts (.arrayClass .int) (by decide +kernel)) rfl hK hP hD hS hA (fun cA => rfl) (by decide +kernel) (by decide +kernel) (by decide +kernel) (Nat.le_of_ble_eq_true rfl) (Nat.le_of_ble_eq_true rfl) dX0_init_15 (fun b2 cB2 H hK hP hD hS => ?_)
  have e12 : cB2 = cB1 := va_cA_eq hK (i := 1) (j := 0) rfl rfl
  subst e12
  rw [← mZ_row] at hP hD
  have hP : va_P D vwCl [(h0, .inr (0, [.ref b1, .null, .int (mI 0), .int (mI 0), .int (mI 0), .int (mI 0), .int (mI 0), .int (mI 0), .int (mI 0), .int (mI 0)])), (b1, mA16 cB2 mZ), (b2, mA16 cB2 mZ)] H := hP
  have hD : va_D A [(h0, .inr (0, [.ref b1, .null, .int (mI 0), .int (mI 0), .int (mI 0), .int (mI 0), .int (mI 0), .int (mI 0), .int (mI 0), .int (mI 0)])), (b1, mA16 cB2 mZ), (b2, mA16 cB2 mZ)] := hD
  refine va_putF (D := D) (ci := 0) (v := .ref b2) (ty := .array .int) (C := RX0) (T := TX0) (N := 10) hx hb hts hin tyX0 tyX0_ok nmX0 hown hK hP hD hS 0 rfl rfl 1 (by decide) (hts (.fieldLink RX0 13 "MarketWeeks" "places" "[I") (by decide +kernel)) (fun _ h9 => h9) rfl hin9 rfl (by decide +kernel) rfl rfl (Nat.le_of_ble_eq_true rfl) dX0_init_17 (fun H locs hP hD hS => ?_)
  have hP : va_P D vwCl [(h0, .inr (0, [.ref b1, .ref b2, .int (mI 0), .int (mI 0), .int (mI 0), .int (mI 0), .int (mI 0), .int (mI 0), .int (mI 0), .int (mI 0)])), (b1, mA16 cB2 mZ), (b2, mA16 cB2 mZ)] H := hP
  have hD : va_D A [(h0, .inr (0, [.ref b1, .ref b2, .int (mI 0), .int (mI 0), .int (mI 0), .int (mI 0), .int (mI 0), .int (mI 0), .int (mI 0), .int (mI 0)])), (b1, mA16 cB2 mZ), (b2, mA16 cB2 mZ)] := hD
  refine lv_aload_n hx hb dX0_init_20 rfl (lv_at hl 0 rfl) ?_
  refine mw_iconst hx hb dX0_init_21 ?_
  refine va_put (D := D) (ci := 0) (v := .int (mI 0)) (ty := .int) (C := RX0) (T := TX0) (N := 10) hx hb hts hin tyX0 tyX0_ok nmX0 hown hK hP hD hS 0 rfl rfl 2 (by decide) (hts (.fieldLink RX0 16 "MarketWeeks" "count" "I") (by decide +kernel)) (fun _ h9 => h9) rfl (by decide +kernel) rfl rfl (Nat.le_of_ble_eq_true rfl) dX0_init_22 (fun H locs hP hD hS => ?_)
  have hP : va_P D vwCl [(h0, .inr (0, [.ref b1, .ref b2, .int (mI 0), .int (mI 0), .int (mI 0), .int (mI 0), .int (mI 0), .int (mI 0), .int (mI 0), .int (mI 0)])), (b1, mA16 cB2 mZ), (b2, mA16 cB2 mZ)] H := hP
  have hD : va_D A [(h0, .inr (0, [.ref b1, .ref b2, .int (mI 0), .int (mI 0), .int (mI 0), .int (mI 0), .int (mI 0), .int (mI 0), .int (mI 0), .int (mI 0)])), (b1, mA16 cB2 mZ), (b2, mA16 cB2 mZ)] := hD
  refine lv_aload_n hx hb dX0_init_25 rfl (lv_at hl 0 rfl) ?_
  refine mw_sipush hx hb (by decide +kernel) dX0_init_26 ?_
  refine va_put (D := D) (ci := 0) (v := .int (mI 1447)) (ty := .int) (C := RX0) (T := TX0) (N := 10) hx hb hts hin tyX0 tyX0_ok nmX0 hown hK hP hD hS 0 rfl rfl 3 (by decide) (hts (.fieldLink RX0 20 "MarketWeeks" "moonNum" "I") (by decide +kernel)) (fun _ h9 => h9) rfl (by decide +kernel) rfl rfl (Nat.le_of_ble_eq_true rfl) dX0_init_29 (fun H locs hP hD hS => ?_)
  have hP : va_P D vwCl [(h0, .inr (0, [.ref b1, .ref b2, .int (mI 0), .int (mI 1447), .int (mI 0), .int (mI 0), .int (mI 0), .int (mI 0), .int (mI 0), .int (mI 0)])), (b1, mA16 cB2 mZ), (b2, mA16 cB2 mZ)] H := hP
  have hD : va_D A [(h0, .inr (0, [.ref b1, .ref b2, .int (mI 0), .int (mI 1447), .int (mI 0), .int (mI 0), .int (mI 0), .int (mI 0), .int (mI 0), .int (mI 0)])), (b1, mA16 cB2 mZ), (b2, mA16 cB2 mZ)] := hD
  refine lv_aload_n hx hb dX0_init_32 rfl (lv_at hl 0 rfl) ?_
  refine mw_bipush hx hb (by decide +kernel) dX0_init_33 ?_
  refine va_put (D := D) (ci := 0) (v := .int (mI 49)) (ty := .int) (C := RX0) (T := TX0) (N := 10) hx hb hts hin tyX0 tyX0_ok nmX0 hown hK hP hD hS 0 rfl rfl 4 (by decide) (hts (.fieldLink RX0 23 "MarketWeeks" "moonDen" "I") (by decide +kernel)) (fun _ h9 => h9) rfl (by decide +kernel) rfl rfl (Nat.le_of_ble_eq_true rfl) dX0_init_35 (fun H locs hP hD hS => ?_)
  have hP : va_P D vwCl [(h0, .inr (0, [.ref b1, .ref b2, .int (mI 0), .int (mI 1447), .int (mI 49), .int (mI 0), .int (mI 0), .int (mI 0), .int (mI 0), .int (mI 0)])), (b1, mA16 cB2 mZ), (b2, mA16 cB2 mZ)] H := hP
  have hD : va_D A [(h0, .inr (0, [.ref b1, .ref b2, .int (mI 0), .int (mI 1447), .int (mI 49), .int (mI 0), .int (mI 0), .int (mI 0), .int (mI 0), .int (mI 0)])), (b1, mA16 cB2 mZ), (b2, mA16 cB2 mZ)] := hD
  refine lv_aload_n hx hb dX0_init_38 rfl (lv_at hl 0 rfl) ?_
  refine mw_iconst hx hb dX0_init_39 ?_
  refine va_put (D := D) (ci := 0) (v := .int (mI 0)) (ty := .int) (C := RX0) (T := TX0) (N := 10) hx hb hts hin tyX0 tyX0_ok nmX0 hown hK hP hD hS 0 rfl rfl 5 (by decide) (hts (.fieldLink RX0 26 "MarketWeeks" "moonShift" "I") (by decide +kernel)) (fun _ h9 => h9) rfl (by decide +kernel) rfl rfl (Nat.le_of_ble_eq_true rfl) dX0_init_40 (fun H locs hP hD hS => ?_)
  have hP : va_P D vwCl [(h0, .inr (0, [.ref b1, .ref b2, .int (mI 0), .int (mI 1447), .int (mI 49), .int (mI 0), .int (mI 0), .int (mI 0), .int (mI 0), .int (mI 0)])), (b1, mA16 cB2 mZ), (b2, mA16 cB2 mZ)] H := hP
  have hD : va_D A [(h0, .inr (0, [.ref b1, .ref b2, .int (mI 0), .int (mI 1447), .int (mI 49), .int (mI 0), .int (mI 0), .int (mI 0), .int (mI 0), .int (mI 0)])), (b1, mA16 cB2 mZ), (b2, mA16 cB2 mZ)] := hD
  refine lv_aload_n hx hb dX0_init_43 rfl (lv_at hl 0 rfl) ?_
  refine mw_sipush hx hb (by decide +kernel) dX0_init_44 ?_
  refine va_put (D := D) (ci := 0) (v := .int (mI 365)) (ty := .int) (C := RX0) (T := TX0) (N := 10) hx hb hts hin tyX0 tyX0_ok nmX0 hown hK hP hD hS 0 rfl rfl 6 (by decide) (hts (.fieldLink RX0 29 "MarketWeeks" "yearCommon" "I") (by decide +kernel)) (fun _ h9 => h9) rfl (by decide +kernel) rfl rfl (Nat.le_of_ble_eq_true rfl) dX0_init_47 (fun H locs hP hD hS => ?_)
  have hP : va_P D vwCl [(h0, .inr (0, [.ref b1, .ref b2, .int (mI 0), .int (mI 1447), .int (mI 49), .int (mI 0), .int (mI 365), .int (mI 0), .int (mI 0), .int (mI 0)])), (b1, mA16 cB2 mZ), (b2, mA16 cB2 mZ)] H := hP
  have hD : va_D A [(h0, .inr (0, [.ref b1, .ref b2, .int (mI 0), .int (mI 1447), .int (mI 49), .int (mI 0), .int (mI 365), .int (mI 0), .int (mI 0), .int (mI 0)])), (b1, mA16 cB2 mZ), (b2, mA16 cB2 mZ)] := hD
  refine lv_aload_n hx hb dX0_init_50 rfl (lv_at hl 0 rfl) ?_
  refine mw_bipush hx hb (by decide +kernel) dX0_init_51 ?_
  refine va_put (D := D) (ci := 0) (v := .int (mI 8)) (ty := .int) (C := RX0) (T := TX0) (N := 10) hx hb hts hin tyX0 tyX0_ok nmX0 hown hK hP hD hS 0 rfl rfl 7 (by decide) (hts (.fieldLink RX0 32 "MarketWeeks" "leapA" "I") (by decide +kernel)) (fun _ h9 => h9) rfl (by decide +kernel) rfl rfl (Nat.le_of_ble_eq_true rfl) dX0_init_53 (fun H locs hP hD hS => ?_)
  have hP : va_P D vwCl [(h0, .inr (0, [.ref b1, .ref b2, .int (mI 0), .int (mI 1447), .int (mI 49), .int (mI 0), .int (mI 365), .int (mI 8), .int (mI 0), .int (mI 0)])), (b1, mA16 cB2 mZ), (b2, mA16 cB2 mZ)] H := hP
  have hD : va_D A [(h0, .inr (0, [.ref b1, .ref b2, .int (mI 0), .int (mI 1447), .int (mI 49), .int (mI 0), .int (mI 365), .int (mI 8), .int (mI 0), .int (mI 0)])), (b1, mA16 cB2 mZ), (b2, mA16 cB2 mZ)] := hD
  refine lv_aload_n hx hb dX0_init_56 rfl (lv_at hl 0 rfl) ?_
  refine mw_iconst hx hb dX0_init_57 ?_
  refine va_put (D := D) (ci := 0) (v := .int (mI 0)) (ty := .int) (C := RX0) (T := TX0) (N := 10) hx hb hts hin tyX0 tyX0_ok nmX0 hown hK hP hD hS 0 rfl rfl 8 (by decide) (hts (.fieldLink RX0 35 "MarketWeeks" "leapB" "I") (by decide +kernel)) (fun _ h9 => h9) rfl (by decide +kernel) rfl rfl (Nat.le_of_ble_eq_true rfl) dX0_init_58 (fun H locs hP hD hS => ?_)
  have hP : va_P D vwCl [(h0, .inr (0, [.ref b1, .ref b2, .int (mI 0), .int (mI 1447), .int (mI 49), .int (mI 0), .int (mI 365), .int (mI 8), .int (mI 0), .int (mI 0)])), (b1, mA16 cB2 mZ), (b2, mA16 cB2 mZ)] H := hP
  have hD : va_D A [(h0, .inr (0, [.ref b1, .ref b2, .int (mI 0), .int (mI 1447), .int (mI 49), .int (mI 0), .int (mI 365), .int (mI 8), .int (mI 0), .int (mI 0)])), (b1, mA16 cB2 mZ), (b2, mA16 cB2 mZ)] := hD
  refine lv_aload_n hx hb dX0_init_61 rfl (lv_at hl 0 rfl) ?_
  refine mw_bipush hx hb (by decide +kernel) dX0_init_62 ?_
  refine va_put (D := D) (ci := 0) (v := .int (mI 33)) (ty := .int) (C := RX0) (T := TX0) (N := 10) hx hb hts hin tyX0 tyX0_ok nmX0 hown hK hP hD hS 0 rfl rfl 9 (by decide) (hts (.fieldLink RX0 38 "MarketWeeks" "leapC" "I") (by decide +kernel)) (fun _ h9 => h9) rfl (by decide +kernel) rfl rfl (Nat.le_of_ble_eq_true rfl) dX0_init_64 (fun H locs hP hD hS => ?_)
  have hP : va_P D vwCl [(h0, .inr (0, [.ref b1, .ref b2, .int (mI 0), .int (mI 1447), .int (mI 49), .int (mI 0), .int (mI 365), .int (mI 8), .int (mI 0), .int (mI 33)])), (b1, mA16 cB2 mZ), (b2, mA16 cB2 mZ)] H := hP
  have hD : va_D A [(h0, .inr (0, [.ref b1, .ref b2, .int (mI 0), .int (mI 1447), .int (mI 49), .int (mI 0), .int (mI 365), .int (mI 8), .int (mI 0), .int (mI 33)])), (b1, mA16 cB2 mZ), (b2, mA16 cB2 mZ)] := hD
  refine W.widen (k := 2) (n := 32) (Nat.le_of_ble_eq_true rfl) (Nat.le_of_ble_eq_true rfl) ?_
  exact W.vret hx hb hr (fun t ht hW => ⟨⟨(b1, b2, cB2), rfl, trivial, by rw [ht]; exact hP, va_K.moved hW.alike (hK.sub (tys' := [(cB2, .int)]) [0] rfl), hD⟩, hS.F ht⟩) hS.2.2 dX0_init_67
end
section
theorem m_next1 {L P d x : Int} (hL : 0 < L) (h0 : 0 ≤ P) (h1 : P < L) (hx : x % L = P) (h2 : d ≤ x) (h3 : x < d + L) : x = d + (P - d) % L := by
  have h := (m_mod_iff hL h0 h1).mp hx
  have h4 : L ∣ (P - d) - (x - d) := by
    obtain ⟨q, hq⟩ := h
    exact ⟨-q, by rw [Int.mul_neg]; omega⟩
  have := (m_mod_iff (x := P - d) (L := L) (P := x - d) hL (by omega) (by omega)).mpr h4
  omega
theorem m_next2 {L P d : Int} (hL : 0 < L) (h0 : 0 ≤ P) (h1 : P < L) : (d + (P - d) % L) % L = P := by
  rw [m_mod_iff hL h0 h1]
  have := Int.mul_ediv_add_emod (P - d) L
  exact ⟨-((P - d) / L), by rw [Int.mul_neg]; omega⟩
theorem m_beg_le {v : Nat → Int} {L P : Int → Int} (hok : mOK v L P) {y d : Int} : mBeg v y ≤ d ↔ y ≤ mYr v d := by
  obtain ⟨-, -, -, ⟨o9, o10, o11, o12, o13, o14, o15, o16⟩⟩ := hok
  have h3 : 0 < v 4 * v 7 := Int.mul_pos (by omega) (by omega)
  have a1 : mBeg v y ≤ d ↔ (v 5 * y + v 6) / v 7 < d - v 4 * y + 1 := by unfold mBeg; omega
  have a2 : (v 5 * y + v 6) / v 7 < d - v 4 * y + 1 ↔ v 5 * y + v 6 < (d - v 4 * y + 1) * v 7 := Int.ediv_lt_iff_lt_mul (by omega)
  have a3 : y ≤ mYr v d ↔ y * (v 4 * v 7 + v 5) ≤ v 7 * (d + 1) - 1 - v 6 := Int.le_ediv_iff_mul_le (by omega)
  have e1 : (d - v 4 * y + 1) * v 7 = v 7 * (d + 1) - v 4 * v 7 * y := by
    have e : d - v 4 * y + 1 = (d + 1) - v 4 * y := by omega
    rw [e, Int.sub_mul, Int.mul_comm (d + 1), Int.mul_assoc, Int.mul_comm y, ← Int.mul_assoc]
  have e2 : y * (v 4 * v 7 + v 5) = v 4 * v 7 * y + v 5 * y := by rw [Int.mul_add, Int.mul_comm y, Int.mul_comm y]
  rw [e1] at a2
  rw [e2] at a3
  omega
theorem m_mb {v : Nat → Int} {L P : Int → Int} (hok : mOK v L P) {m x : Int} : mMonth v x < m ↔ x < mMb v m := by
  obtain ⟨-, -, ⟨o3, o4, o5, o6, o7, o8⟩, -⟩ := hok
  have a1 : mMonth v x < m ↔ (x + v 3) * v 2 < m * v 1 := Int.ediv_lt_iff_lt_mul (by omega)
  have a2 : -(x + v 3) ≤ (-m * v 1) / v 2 ↔ -(x + v 3) * v 2 ≤ -m * v 1 := Int.le_ediv_iff_mul_le (by omega)
  have e : x < mMb v m ↔ ¬ -(x + v 3) ≤ (-m * v 1) / v 2 := by unfold mMb; omega
  rw [Int.neg_mul, Int.neg_mul] at a2
  rw [e, Int.neg_mul, a2, a1]
  omega
theorem m_near1 {L P d x : Int} (hL : 0 < L) (h0 : 0 ≤ P) (h1 : P < L) (h2 : 0 ≤ x) (h3 : x < L) : ((d - x) % L = P ↔ x = (d - P) % L) ∧ ((d + x) % L = P ↔ x = (P - d) % L) := by
  constructor
  · rw [m_mod_iff hL h0 h1]
    constructor
    · rintro ⟨q, hq⟩
      exact ((m_mod_iff (x := d - P) (L := L) (P := x) hL h2 h3).mpr ⟨q, by omega⟩).symm
    · intro h
      have := Int.mul_ediv_add_emod (d - P) L
      exact ⟨(d - P) / L, by omega⟩
  · rw [m_mod_iff hL h0 h1]
    constructor
    · rintro ⟨q, hq⟩
      exact ((m_mod_iff (x := P - d) (L := L) (P := x) hL h2 h3).mpr ⟨-q, by rw [Int.mul_neg]; omega⟩).symm
    · intro h
      have := Int.mul_ediv_add_emod (P - d) L
      exact ⟨-((P - d) / L), by rw [Int.mul_neg]; omega⟩
theorem m_near2 {L P d : Int} (hL : 0 < L) : ((d - P) % L = 0 → (P - d) % L = 0) ∧ (¬ (d - P) % L = 0 → (P - d) % L = L - (d - P) % L) := by
  have a1 := Int.mul_ediv_add_emod (d - P) L
  have a2 := m_mod_r (a := d - P) (b := L) hL
  constructor
  · intro h
    exact (m_mod_iff (x := P - d) (L := L) (P := 0) hL (by omega) (by omega)).mpr ⟨-((d - P) / L), by rw [Int.mul_neg]; omega⟩
  · intro h
    exact (m_mod_iff (x := P - d) (L := L) (P := L - (d - P) % L) hL (by omega) (by omega)).mpr ⟨-((d - P) / L) - 1, by rw [Int.mul_sub, Int.mul_neg]; omega⟩
theorem m_len {v : Nat → Int} {L P : Int → Int} (hok : mOK v L P) (y : Int) : mBeg v (y + 1) = mBeg v y + mLen v y := by
  obtain ⟨-, -, -, ⟨o9, o10, o11, o12, o13, o14, o15, o16⟩⟩ := hok
  have h1 := m_mod_r (a := v 5 * y + v 6) (b := v 7) (by omega)
  have h2 := Int.mul_ediv_add_emod (v 5 * y + v 6) (v 7)
  have h3 : v 5 * (y + 1) = v 5 * y + v 5 := by rw [Int.mul_add, Int.mul_one]
  have h4 : v 4 * (y + 1) = v 4 * y + v 4 := by rw [Int.mul_add, Int.mul_one]
  unfold mBeg mLen
  rw [h3, h4]
  obtain ⟨q, hq⟩ : ∃ q, q = (v 5 * y + v 6) / v 7 := ⟨_, rfl⟩
  rw [← hq] at h2 ⊢
  by_cases c : mLeap v y
  · rw [if_pos c]
    have e : v 5 * y + v 5 + v 6 = ((v 5 * y + v 6) % v 7 + v 5 - v 7) + v 7 * (q + 1) := by rw [Int.mul_add, Int.mul_one]; omega
    have e2 : (v 5 * y + v 5 + v 6) / v 7 = q + 1 := by
      rw [e, Int.add_mul_ediv_left _ _ (by omega), Int.ediv_eq_zero_of_lt (by omega) (by omega)]
      omega
    rw [e2]
    omega
  · rw [if_neg c]
    have e : v 5 * y + v 5 + v 6 = ((v 5 * y + v 6) % v 7 + v 5) + v 7 * q := by omega
    have e2 : (v 5 * y + v 5 + v 6) / v 7 = q := by
      rw [e, Int.add_mul_ediv_left _ _ (by omega), Int.ediv_eq_zero_of_lt (by omega) (by omega)]
      omega
    rw [e2]
    omega
end
section
theorem mEx1_z {a : Prop} [Decidable a] (h : mEx1 a = 0) : a := by
  by_cases c : a
  · exact c
  · rw [mEx1_1 c] at h; cases h
theorem mEx2_z {a b : Prop} [Decidable a] [Decidable b] (h : mEx2 a b = 0) : a ∧ b := by
  by_cases c : a
  · by_cases c2 : b
    · exact ⟨c, c2⟩
    · rw [mEx2_2 c c2] at h; cases h
  · rw [mEx2_1 c] at h; cases h
theorem mEx3_z {a b c : Prop} [Decidable a] [Decidable b] [Decidable c] (h : mEx3 a b c = 0) : a ∧ b ∧ c := by
  by_cases c1 : a
  · by_cases c2 : b
    · by_cases c3 : c
      · exact ⟨c1, c2, c3⟩
      · rw [mEx3_3 c1 c2 c3] at h; cases h
    · rw [mEx3_2 c1 c2] at h; cases h
  · rw [mEx3_1 c1] at h; cases h
theorem mEx2_le {a b : Prop} [Decidable a] [Decidable b] : mEx2 a b ≤ 2 := by unfold mEx2; split <;> (try split) <;> omega
theorem mEx1_le {a : Prop} [Decidable a] : mEx1 a ≤ 1 := by unfold mEx1; split <;> omega
theorem mEx3_le {a b c : Prop} [Decidable a] [Decidable b] [Decidable c] : mEx3 a b c ≤ 3 := by unfold mEx3; split <;> (try split) <;> (try split) <;> omega
theorem m_cnt_r {L P : Int → Int} {m a b : Int} (hL : 1 ≤ L m) (hP : 0 ≤ P m ∧ P m < 60) (ha : -10000000 ≤ a ∧ a ≤ 10000000) (hb : -10000000 ≤ b ∧ b ≤ 10000000) : mRI (mCnt L P m a b) := by
  have h1 := m_div_r (a := b - P m) (b := L m) (by omega)
  have h2 := m_div_r (a := a - 1 - P m) (b := L m) (by omega)
  unfold mCnt
  omega
theorem m_bst_r (L P : Int → Int) (n : Nat) (z fr : Int) : ∀ k : Nat, fr ≤ mBst L P n z fr k ∧ mBst L P n z fr k ≤ fr + k
  | 0 => by unfold mBst; omega
  | k + 1 => by
    have h := m_bst_r L P n z fr k
    rw [mBst_s]
    split <;> omega
theorem m_mb_r {v : Nat → Int} {L P : Int → Int} (hok : mOK v L P) {m : Int} (hm : -100000 ≤ m ∧ m ≤ 100000) : -20000000 ≤ mMb v m ∧ mMb v m ≤ 20000000 := by
  have k1 := m_mb hok (m := m) (x := 20000000)
  have k2 := m_mb hok (m := m) (x := -20000001)
  obtain ⟨-, -, ⟨o3, o4, o5, o6, o7, o8⟩, -⟩ := hok
  have k3 : m ≤ mMonth v 20000000 := by
    show m ≤ (20000000 + v 3) * v 2 / v 1
    rw [Int.le_ediv_iff_mul_le (by omega)]
    have k4 : m * v 1 ≤ 100000 * v 1 := Int.mul_le_mul_of_nonneg_right (by omega) (by omega)
    have k5 : 19999000 * v 2 ≤ (20000000 + v 3) * v 2 := Int.mul_le_mul_of_nonneg_right (by omega) (by omega)
    omega
  have k6 : mMonth v (-20000001) < m := by
    show (-20000001 + v 3) * v 2 / v 1 < m
    rw [Int.ediv_lt_iff_lt_mul (by omega)]
    have k4 : -100000 * v 1 ≤ m * v 1 := Int.mul_le_mul_of_nonneg_right (by omega) (by omega)
    have k5 : (-20000001 + v 3) * v 2 ≤ -19999001 * v 2 := Int.mul_le_mul_of_nonneg_right (by omega) (by omega)
    omega
  omega
theorem rg_addMarket {v : Nat → Int} {L P : Int → Int} (hok : mOK v L P) (a b : Int) (ha : mRI a) (hb9 : mRI b) (h : (mEx2 ((1 ≤ a ∧ a ≤ 60) ∧ 0 ≤ b ∧ b ≤ a - 1) (v 0 < 16)) = 0) : mRI (v 0) := by
  have hx := mEx2_z h
  have hok9 := hok
  obtain ⟨⟨o1, o2⟩, oL, ⟨o3, o4, o5, o6, o7, o8⟩, ⟨o9, o10, o11, o12, o13, o14, o15, o16⟩⟩ := hok9
  have := o1
  omega

theorem rg_shift {v : Nat → Int} {L P : Int → Int} (hok : mOK v L P) (m9 b : Int) (hm9 : mRI m9) (hb9 : mRI b) (h : (mEx2 (mMk v m9) (-60 ≤ b ∧ b ≤ 60)) = 0) : mRI ((P m9 + b) % L m9) := by
  have hx := mEx2_z h
  have hok9 := hok
  obtain ⟨⟨o1, o2⟩, oL, ⟨o3, o4, o5, o6, o7, o8⟩, ⟨o9, o10, o11, o12, o13, o14, o15, o16⟩⟩ := hok9
  obtain ⟨l1, l2, l3, l4⟩ := oL m9 (by omega) (by omega)
  have := m_mod_r (a := P m9 + b) (b := L m9) (by omega)
  omega

theorem rg_next {v : Nat → Int} {L P : Int → Int} (hok : mOK v L P) (m9 d : Int) (hm9 : mRI m9) (hd9 : mRI d) (h : (mEx2 (mMk v m9) (mDay d)) = 0) : mRI (d + (P m9 - d) % L m9) := by
  have hx := mEx2_z h
  have hok9 := hok
  obtain ⟨⟨o1, o2⟩, oL, ⟨o3, o4, o5, o6, o7, o8⟩, ⟨o9, o10, o11, o12, o13, o14, o15, o16⟩⟩ := hok9
  obtain ⟨l1, l2, l3, l4⟩ := oL m9 (by omega) (by omega)
  have := m_mod_r (a := P m9 - d) (b := L m9) (by omega)
  omega

theorem rg_nearest {v : Nat → Int} {L P : Int → Int} (hok : mOK v L P) (m9 d : Int) (hm9 : mRI m9) (hd9 : mRI d) (h : (mEx2 (mMk v m9) (mDay d)) = 0) : mRI (mNear L P m9 d) := by
  have hx := mEx2_z h
  have hok9 := hok
  obtain ⟨⟨o1, o2⟩, oL, ⟨o3, o4, o5, o6, o7, o8⟩, ⟨o9, o10, o11, o12, o13, o14, o15, o16⟩⟩ := hok9
  obtain ⟨l1, l2, l3, l4⟩ := oL m9 (by omega) (by omega)
  have := m_mod_r (a := d - P m9) (b := L m9) (by omega)
  unfold mNear
  split <;> omega

theorem rg_times {v : Nat → Int} {L P : Int → Int} (hok : mOK v L P) (m9 a b : Int) (hm9 : mRI m9) (ha : mRI a) (hb9 : mRI b) (h : (mEx2 (mMk v m9) (mDay a ∧ mDay b ∧ a ≤ b)) = 0) : mRI (mCnt L P m9 a b) := by
  have hx := mEx2_z h
  have hok9 := hok
  obtain ⟨⟨o1, o2⟩, oL, ⟨o3, o4, o5, o6, o7, o8⟩, ⟨o9, o10, o11, o12, o13, o14, o15, o16⟩⟩ := hok9
  obtain ⟨l1, l2, l3, l4⟩ := oL m9 (by omega) (by omega)
  exact m_cnt_r l1 (by omega) (by omega) (by omega)

theorem rg_heldOn {v : Nat → Int} {L P : Int → Int} (hok : mOK v L P) (d : Int) (hd9 : mRI d) (h : (mEx1 (mDay d)) = 0) : mRI (mSet L P d (v 0).toNat) := by
  have hx := mEx1_z h
  have hok9 := hok
  obtain ⟨⟨o1, o2⟩, oL, ⟨o3, o4, o5, o6, o7, o8⟩, ⟨o9, o10, o11, o12, o13, o14, o15, o16⟩⟩ := hok9
  have h1 := mSet_r L P d (v 0).toNat
  have g1 : (2 : Nat) ^ (v 0).toNat ≤ 2 ^ 16 := Nat.pow_le_pow_right (by decide) (by omega)
  have g2 : ((2 : Int) ^ (v 0).toNat) = ((2 ^ (v 0).toNat : Nat) : Int) := by norm_cast
  have g3 : (2 : Nat) ^ 16 = 65536 := by decide
  omega

theorem rg_period {v : Nat → Int} {L P : Int → Int} (hok : mOK v L P) (z : Int) (hz : mRI z) (h : (mEx3 (1 ≤ mPop z 32 ∧ mPop z 32 ≤ 5) (mUsh z (v 0) = 0) (mMts v L P z)) = 0) : mRI (mSt (mFd L P z 0 (v 0).toNat)) := by
  have hx := mEx3_z h
  have hok9 := hok
  obtain ⟨⟨o1, o2⟩, oL, ⟨o3, o4, o5, o6, o7, o8⟩, ⟨o9, o10, o11, o12, o13, o14, o15, o16⟩⟩ := hok9
  obtain ⟨d0, s0, e0, e1, e2, e3, e4⟩ := (m_mts (z := z) hok (by omega)).2.1 hx.2.2
  omega

theorem rg_meeting {v : Nat → Int} {L P : Int → Int} (hok : mOK v L P) (z d : Int) (hz : mRI z) (hd9 : mRI d) (h : (mEx3 (mDay d ∧ 1 ≤ mPop z 32 ∧ mPop z 32 ≤ 5) (mUsh z (v 0) = 0) (mMts v L P z)) = 0) : mRI (d + (mD0 (mFd L P z 0 (v 0).toNat) - d) % mSt (mFd L P z 0 (v 0).toNat)) := by
  have hx := mEx3_z h
  have hok9 := hok
  obtain ⟨⟨o1, o2⟩, oL, ⟨o3, o4, o5, o6, o7, o8⟩, ⟨o9, o10, o11, o12, o13, o14, o15, o16⟩⟩ := hok9
  obtain ⟨d0, s0, e0, e1, e2, e3, e4⟩ := (m_mts (z := z) hok (by omega)).2.1 hx.2.2
  rw [e1, e2]
  have := m_mod_r (a := d0 - d) (b := s0) (by omega)
  omega

theorem rg_best {v : Nat → Int} {L P : Int → Int} (hok : mOK v L P) (z fr to9 : Int) (hz : mRI z) (hf9 : mRI fr) (ht9 : mRI to9) (h : (mEx2 (mDay fr ∧ mDay to9 ∧ fr ≤ to9 ∧ to9 ≤ fr + 2000) (mUsh z (v 0) = 0)) = 0) : mRI (mBst L P (v 0).toNat z fr (to9 + 1 - fr).toNat) := by
  have hx := mEx2_z h
  have hok9 := hok
  obtain ⟨⟨o1, o2⟩, oL, ⟨o3, o4, o5, o6, o7, o8⟩, ⟨o9, o10, o11, o12, o13, o14, o15, o16⟩⟩ := hok9
  have := m_bst_r L P (v 0).toNat z fr (to9 + 1 - fr).toNat
  omega

theorem rg_month {v : Nat → Int} {L P : Int → Int} (hok : mOK v L P) (d : Int) (hd9 : mRI d) (h : (mEx1 (mDay d)) = 0) : mRI (mMonth v d) := by
  have hx := mEx1_z h
  have hok9 := hok
  obtain ⟨⟨o1, o2⟩, oL, ⟨o3, o4, o5, o6, o7, o8⟩, ⟨o9, o10, o11, o12, o13, o14, o15, o16⟩⟩ := hok9
  have f1 := m_bound (d + v 3) (v 2) (A := 1001000) (B := 100) (by omega) (by omega)
  have f2 := m_div_r (a := (d + v 3) * v 2) (b := v 1) (by omega)
  have f3 : mMonth v d = (d + v 3) * v 2 / v 1 := rfl
  omega

theorem rg_lunarDay {v : Nat → Int} {L P : Int → Int} (hok : mOK v L P) (d : Int) (hd9 : mRI d) (h : (mEx1 (mDay d)) = 0) : mRI (mLunar v d) := by
  have hx := mEx1_z h
  have hok9 := hok
  obtain ⟨⟨o1, o2⟩, oL, ⟨o3, o4, o5, o6, o7, o8⟩, ⟨o9, o10, o11, o12, o13, o14, o15, o16⟩⟩ := hok9
  have := m_lun_r hok d
  omega

theorem rg_monthBegin {v : Nat → Int} {L P : Int → Int} (hok : mOK v L P) (m9 : Int) (hm9 : mRI m9) (h : (mEx1 (-100000 ≤ m9 ∧ m9 ≤ 100000)) = 0) : mRI (mMb v m9) := by
  have hx := mEx1_z h
  have hok9 := hok
  obtain ⟨⟨o1, o2⟩, oL, ⟨o3, o4, o5, o6, o7, o8⟩, ⟨o9, o10, o11, o12, o13, o14, o15, o16⟩⟩ := hok9
  have := m_mb_r hok hx
  omega

theorem rg_year {v : Nat → Int} {L P : Int → Int} (hok : mOK v L P) (d : Int) (hd9 : mRI d) (h : (mEx1 (mDay d)) = 0) : mRI (mYr v d) := by
  have hx := mEx1_z h
  have hok9 := hok
  obtain ⟨⟨o1, o2⟩, oL, ⟨o3, o4, o5, o6, o7, o8⟩, ⟨o9, o10, o11, o12, o13, o14, o15, o16⟩⟩ := hok9
  have := m_yr_r hok hx
  omega

theorem rg_placeInYear {v : Nat → Int} {L P : Int → Int} (hok : mOK v L P) (d : Int) (hd9 : mRI d) (h : (mEx1 (mDay d)) = 0) : mRI (d - mBeg v (mYr v d)) := by
  have hx := mEx1_z h
  have hok9 := hok
  obtain ⟨⟨o1, o2⟩, oL, ⟨o3, o4, o5, o6, o7, o8⟩, ⟨o9, o10, o11, o12, o13, o14, o15, o16⟩⟩ := hok9
  have h1 := m_yr_r hok hx
  have := m_beg_r hok h1
  omega

theorem rg_dayOf {v : Nat → Int} {L P : Int → Int} (hok : mOK v L P) (y pl : Int) (hy9 : mRI y) (hp9 : mRI pl) (h : (mEx1 (mYear y ∧ 0 ≤ pl ∧ pl < mLen v y)) = 0) : mRI (mBeg v y + pl) := by
  have hx := mEx1_z h
  have hok9 := hok
  obtain ⟨⟨o1, o2⟩, oL, ⟨o3, o4, o5, o6, o7, o8⟩, ⟨o9, o10, o11, o12, o13, o14, o15, o16⟩⟩ := hok9
  have h1 := m_beg_r hok (y := y) (by omega)
  have h2 : mLen v y ≤ v 4 + 1 := by unfold mLen; split <;> omega
  omega

theorem rg_timesInYear {v : Nat → Int} {L P : Int → Int} (hok : mOK v L P) (m9 y : Int) (hm9 : mRI m9) (hy9 : mRI y) (h : (mEx2 (mMk v m9) (mYear y)) = 0) : mRI (mCnt L P m9 (mBeg v y) (mBeg v (y + 1) - 1)) := by
  have hx := mEx2_z h
  have hok9 := hok
  obtain ⟨⟨o1, o2⟩, oL, ⟨o3, o4, o5, o6, o7, o8⟩, ⟨o9, o10, o11, o12, o13, o14, o15, o16⟩⟩ := hok9
  obtain ⟨l1, l2, l3, l4⟩ := oL m9 (by omega) (by omega)
  have f1 := m_beg_r hok (y := y) (by omega)
  have f2 := m_beg_r hok (y := y + 1) (by omega)
  exact m_cnt_r l1 (by omega) (by omega) (by omega)
end
section
def mIf {α : Type} (e : Nat) (x y : α) : α := if e = 0 then x else y
theorem mIf_0 {α : Type} {e : Nat} {x y : α} (h : e = 0) : mIf e x y = x := if_pos h
theorem mIf_1 {α : Type} {e : Nat} {x y : α} (h : e ≠ 0) : mIf e x y = y := if_neg h
theorem ok_addMarket {v : Nat → Int} {L P : Int → Int} (hok : mOK v L P) (a b : Int) : mOK (mIf (mEx2 ((1 ≤ a ∧ a ≤ 60) ∧ 0 ≤ b ∧ b ≤ a - 1) (v 0 < 16)) (mPut v 0 (v 0 + 1)) v) (mIf (mEx2 ((1 ≤ a ∧ a ≤ 60) ∧ 0 ≤ b ∧ b ≤ a - 1) (v 0 < 16)) (mU L (v 0) a) L) (mIf (mEx2 ((1 ≤ a ∧ a ≤ 60) ∧ 0 ≤ b ∧ b ≤ a - 1) (v 0 < 16)) (mU P (v 0) b) P) := by
  by_cases h : mEx2 ((1 ≤ a ∧ a ≤ 60) ∧ 0 ≤ b ∧ b ≤ a - 1) (v 0 < 16) = 0
  · rw [mIf_0 h, mIf_0 h, mIf_0 h]
    have hx := mEx2_z h
    obtain ⟨⟨o1, o2⟩, oL, o3, o4⟩ := hok
    refine ⟨⟨?_, ?_⟩, fun k k1 k2 => ?_, o3, o4⟩
    · show 0 ≤ v 0 + 1; omega
    · show v 0 + 1 ≤ 16; omega
    · have k3 : k < v 0 + 1 := k2
      unfold mU
      by_cases c : k = v 0
      · rw [if_pos c, if_pos c]; omega
      · rw [if_neg c, if_neg c]; exact oL k k1 (by omega)
  · rw [mIf_1 h, mIf_1 h, mIf_1 h]; exact hok
theorem ok_shift {v : Nat → Int} {L P : Int → Int} (hok : mOK v L P) (m9 b : Int) : mOK (mIf (mEx2 (mMk v m9) (-60 ≤ b ∧ b ≤ 60)) v v) (mIf (mEx2 (mMk v m9) (-60 ≤ b ∧ b ≤ 60)) L L) (mIf (mEx2 (mMk v m9) (-60 ≤ b ∧ b ≤ 60)) (mU P m9 ((P m9 + b) % L m9)) P) := by
  by_cases h : mEx2 (mMk v m9) (-60 ≤ b ∧ b ≤ 60) = 0
  · rw [mIf_0 h, mIf_0 h, mIf_0 h]
    have hx := mEx2_z h
    obtain ⟨o1, oL, o3, o4⟩ := hok
    refine ⟨o1, fun k k1 k2 => ?_, o3, o4⟩
    have l := oL k k1 k2
    unfold mU
    by_cases c : k = m9
    · rw [if_pos c]
      subst c
      have := m_mod_r (a := P k + b) (b := L k) (by omega)
      omega
    · rw [if_neg c]; exact l
  · rw [mIf_1 h, mIf_1 h, mIf_1 h]; exact hok
theorem ok_setMoon {v : Nat → Int} {L P : Int → Int} (hok : mOK v L P) (n d s9 : Int) : mOK (mIf (mEx1 ((1 ≤ d ∧ d ≤ 100) ∧ (2 * d ≤ n ∧ n ≤ 100 * d) ∧ -1000 ≤ s9 ∧ s9 ≤ 1000)) (mPut (mPut (mPut v 1 n) 2 d) 3 s9) v) (mIf (mEx1 ((1 ≤ d ∧ d ≤ 100) ∧ (2 * d ≤ n ∧ n ≤ 100 * d) ∧ -1000 ≤ s9 ∧ s9 ≤ 1000)) L L) (mIf (mEx1 ((1 ≤ d ∧ d ≤ 100) ∧ (2 * d ≤ n ∧ n ≤ 100 * d) ∧ -1000 ≤ s9 ∧ s9 ≤ 1000)) P P) := by
  by_cases h : mEx1 ((1 ≤ d ∧ d ≤ 100) ∧ (2 * d ≤ n ∧ n ≤ 100 * d) ∧ -1000 ≤ s9 ∧ s9 ≤ 1000) = 0
  · rw [mIf_0 h, mIf_0 h, mIf_0 h]
    have hx := mEx1_z h
    obtain ⟨o1, oL, o3, o4⟩ := hok
    refine ⟨o1, oL, ?_, o4⟩
    show 1 ≤ d ∧ d ≤ 100 ∧ 2 * d ≤ n ∧ n ≤ 100 * d ∧ -1000 ≤ s9 ∧ s9 ≤ 1000
    omega
  · rw [mIf_1 h, mIf_1 h, mIf_1 h]; exact hok
theorem ok_setYear {v : Nat → Int} {L P : Int → Int} (hok : mOK v L P) (y a b c9 : Int) : mOK (mIf (mEx1 ((100 ≤ y ∧ y ≤ 500) ∧ (1 ≤ c9 ∧ c9 ≤ 400) ∧ (0 ≤ a ∧ a ≤ c9) ∧ 0 ≤ b ∧ b ≤ c9 - 1)) (mPut (mPut (mPut (mPut v 4 y) 5 a) 6 b) 7 c9) v) (mIf (mEx1 ((100 ≤ y ∧ y ≤ 500) ∧ (1 ≤ c9 ∧ c9 ≤ 400) ∧ (0 ≤ a ∧ a ≤ c9) ∧ 0 ≤ b ∧ b ≤ c9 - 1)) L L) (mIf (mEx1 ((100 ≤ y ∧ y ≤ 500) ∧ (1 ≤ c9 ∧ c9 ≤ 400) ∧ (0 ≤ a ∧ a ≤ c9) ∧ 0 ≤ b ∧ b ≤ c9 - 1)) P P) := by
  by_cases h : mEx1 ((100 ≤ y ∧ y ≤ 500) ∧ (1 ≤ c9 ∧ c9 ≤ 400) ∧ (0 ≤ a ∧ a ≤ c9) ∧ 0 ≤ b ∧ b ≤ c9 - 1) = 0
  · rw [mIf_0 h, mIf_0 h, mIf_0 h]
    have hx := mEx1_z h
    obtain ⟨o1, oL, o3, o4⟩ := hok
    refine ⟨o1, oL, o3, ?_⟩
    show 100 ≤ y ∧ y ≤ 500 ∧ 1 ≤ c9 ∧ c9 ≤ 400 ∧ 0 ≤ a ∧ a ≤ c9 ∧ 0 ≤ b ∧ b < c9
    omega
  · rw [mIf_1 h, mIf_1 h, mIf_1 h]; exact hok
theorem m_lun_b {v : Nat → Int} {d ld st : Int} (h0 : 0 ≤ st ∧ st ≤ 777600000) : ∀ (k : Nat) (off : Int), 0 ≤ off → -1 ≤ mLun v d ld st k off ∧ mLun v d ld st k off ≤ off + (k : Int) * 777600000
  | 0, off, h => by unfold mLun; omega
  | k + 1, off, h => by
    have ih := m_lun_b (v := v) (d := d) (ld := ld) h0 k (off + st) (by omega)
    rw [mLun_s]
    split <;> omega
end
section
/-! what the property says, in numbers: months -/
theorem m_month {v : Nat → Int} {L P : Int → Int} (hok : mOK v L P) (d : Int) : mMb v (mMonth v d) ≤ d ∧ d - 100 < mMb v (mMonth v d) ∧ mLunar v d = d - mMb v (mMonth v d) ∧ mMonth v (mMb v (mMonth v d)) = mMonth v d ∧ mMonth v (mMb v (mMonth v d) - 1) = mMonth v d - 1 ∧ (mMb v (mMonth v d + 1) = d + 1 → mMonth v (d + 1) = mMonth v d + 1) ∧ (¬ mMb v (mMonth v d + 1) = d + 1 → mMonth v (d + 1) = mMonth v d) := by
  have mb := fun (m x : Int) => m_mb hok (m := m) (x := x)
  have lr := m_lun_r hok d
  obtain ⟨-, -, ⟨o3, o4, o5, o6, o7, o8⟩, -⟩ := hok
  have up : ∀ x, mMonth v (x + 1) ≤ mMonth v x + 1 := by
    intro x
    have a1 : (x + v 3) * v 2 < (mMonth v x + 1) * v 1 := Int.lt_ediv_add_one_mul_self _ (by omega)
    have a2 : mMonth v (x + 1) < mMonth v x + 2 ↔ (x + 1 + v 3) * v 2 < (mMonth v x + 2) * v 1 := Int.ediv_lt_iff_lt_mul (by omega)
    have e1 : (x + 1 + v 3) * v 2 = (x + v 3) * v 2 + v 2 := by
      have e : x + 1 + v 3 = (x + v 3) + 1 := by omega
      rw [e, Int.add_mul, Int.one_mul]
    have e2 : (mMonth v x + 2) * v 1 = (mMonth v x + 1) * v 1 + v 1 := by
      have e : mMonth v x + 2 = (mMonth v x + 1) + 1 := by omega
      rw [e, Int.add_mul, Int.one_mul]
    have : mMonth v (x + 1) < mMonth v x + 2 := a2.mpr (by omega)
    omega
  obtain ⟨mo, hmo⟩ : ∃ mo, mo = mMonth v d := ⟨_, rfl⟩
  obtain ⟨bg, hbg⟩ : ∃ bg, bg = mMb v mo := ⟨_, rfl⟩
  rw [← hmo, ← hbg]
  have h1 := mb mo d
  have h2 := mb mo bg
  have h3 := mb (mo + 1) bg
  have h4 := mb (mo + 1) d
  have h5 := mb mo (bg - 1)
  have h6 := up (bg - 1)
  have h7 := mb (mo + 1) (d + 1)
  have h8 := up d
  have h9 := mb mo (d + 1)
  have e9 : bg - 1 + 1 = bg := by omega
  rw [e9] at h6
  rw [← hbg] at h1 h2 h5 h9
  rw [← hmo] at h1 h4 h8
  have hlun : mLunar v d = d - bg := by
    obtain ⟨X, hX⟩ : ∃ X, X = (d + v 3) * v 2 := ⟨_, rfl⟩
    obtain ⟨k, hk⟩ : ∃ k, k = (-mo * v 1) / v 2 := ⟨_, rfl⟩
    have q1 : k * v 2 ≤ -mo * v 1 := by rw [hk]; exact Int.ediv_mul_le _ (by omega)
    have q2 : -mo * v 1 < (k + 1) * v 2 := by rw [hk]; exact Int.lt_ediv_add_one_mul_self _ (by omega)
    have q3 : bg = -k - v 3 := by rw [hbg, hk]; rfl
    have q4 : X % v 1 = X - v 1 * mo := by
      rw [Int.emod_def, hX, hmo]; rfl
    have q5 : mLunar v d = (X - v 1 * mo) / v 2 := by rw [← q4, hX]; rfl
    have q6 : v 1 * mo = mo * v 1 := Int.mul_comm _ _
    rw [Int.neg_mul] at q1 q2
    rw [Int.add_mul, Int.one_mul] at q2
    have b1 : d - bg ≤ (X - v 1 * mo) / v 2 := by
      rw [Int.le_ediv_iff_mul_le (by omega)]
      have e : d - bg = (d + v 3) + k := by omega
      rw [e, Int.add_mul, ← hX]
      omega
    have b2 : (X - v 1 * mo) / v 2 < d - bg + 1 := by
      rw [Int.ediv_lt_iff_lt_mul (by omega)]
      have e : d - bg + 1 = (d + v 3) + k + 1 := by omega
      rw [e, Int.add_mul, Int.add_mul, ← hX, Int.one_mul]
      omega
    rw [q5]
    omega
  refine ⟨by omega, by omega, hlun, by omega, by omega, fun h => by omega, fun h => by omega⟩
/-! years -/
theorem m_year {v : Nat → Int} {L P : Int → Int} (hok : mOK v L P) {d : Int} (hd : -900000 ≤ d ∧ d ≤ 900000) : mBeg v (mYr v d) ≤ d ∧ d < mBeg v (mYr v d) + mLen v (mYr v d) ∧ -9500 ≤ mYr v d ∧ mYr v d ≤ 9500 := by
  have bl := fun (y x : Int) => m_beg_le hok (y := y) (d := x)
  have ln := m_len hok (mYr v d)
  have k1 := bl (mYr v d) d
  have k2 := bl (mYr v d + 1) d
  have k3 := bl 9501 d
  have k4 := bl (-9500) d
  obtain ⟨-, -, -, ⟨o9, o10, o11, o12, o13, o14, o15, o16⟩⟩ := hok
  have c1 : 900000 < mBeg v 9501 := by
    have e : 0 ≤ (v 5 * 9501 + v 6) / v 7 := Int.ediv_nonneg (by omega) (by omega)
    unfold mBeg
    omega
  have c2 : mBeg v (-9500) ≤ -900000 := by
    have e : (v 5 * (-9500) + v 6) / v 7 < 1 := by
      rw [Int.ediv_lt_iff_lt_mul (by omega)]
      omega
    unfold mBeg
    omega
  omega
theorem m_len_r {v : Nat → Int} {L P : Int → Int} (hok : mOK v L P) (y : Int) : (mLeap v y → mLen v y = v 4 + 1) ∧ (¬ mLeap v y → mLen v y = v 4) ∧ 100 ≤ mLen v y ∧ mLen v y ≤ 501 := by
  obtain ⟨-, -, -, ⟨o9, o10, o11, o12, o13, o14, o15, o16⟩⟩ := hok
  unfold mLen
  by_cases c : mLeap v y
  · rw [if_pos c]
    exact ⟨fun _ => rfl, fun h => absurd c h, by omega, by omega⟩
  · rw [if_neg c]
    exact ⟨fun h => absurd h c, fun _ => rfl, by omega, by omega⟩
/-! a market -/
theorem m_dv {L a j r : Int} (hL : 0 < L) (e : a = L * j + r) (h0 : 0 ≤ r) (h1 : r < L) : a / L = j := by
  rw [e, Int.add_comm, Int.add_mul_ediv_left _ _ (by omega), Int.ediv_eq_zero_of_lt h0 h1]
  omega
theorem m_mk {L P d : Int} (hL : 1 ≤ L ∧ L ≤ 60) (hP : 0 ≤ P ∧ P < L) : (d ≤ d + (P - d) % L ∧ d + (P - d) % L < d + 60 ∧ (d + (P - d) % L) % L = P ∧ (d + (P - d) % L - P) / L - (d - 1 - P) / L = 1 ∧ (¬ d + (P - d) % L = d → (d + (P - d) % L - 1 - P) / L - (d - 1 - P) / L = 0)) := by
  have r1 := m_mod_r (a := P - d) (b := L) (by omega)
  have h2 := m_next2 (L := L) (P := P) (d := d) (by omega) hP.1 hP.2
  obtain ⟨x, hx⟩ : ∃ x, x = d + (P - d) % L := ⟨_, rfl⟩
  obtain ⟨j, hj⟩ := (m_mod_iff (x := x) (L := L) (P := P) (by omega) hP.1 hP.2).mp (by rw [hx]; exact h2)
  rw [← hx] at h2 ⊢
  have e1 : (x - P) / L = j := m_dv (r := 0) (by omega) (by omega) (by omega) (by omega)
  have e2 : (d - 1 - P) / L = j - 1 := m_dv (r := L + (d - x) - 1) (by omega) (by rw [Int.mul_sub, Int.mul_one]; omega) (by omega) (by omega)
  refine ⟨by omega, by omega, h2, by rw [e1, e2]; omega, fun h => ?_⟩
  have e3 : (x - 1 - P) / L = j - 1 := m_dv (r := L - 1) (by omega) (by rw [Int.mul_sub, Int.mul_one]; omega) (by omega) (by omega)
  rw [e3, e2]; omega
theorem m_nr {L P d x : Int} (hL : 1 ≤ L ∧ L ≤ 60) (hP : 0 ≤ P ∧ P < L) (hx : x = if (d - P) % L ≤ L - (d - P) % L then d - (d - P) % L else (d - (d - P) % L) + L) : x % L = P ∧ d - 60 < x ∧ x < d + 60 ∧ (x ≤ d → ¬ d - x = 0 → (d + (d - x) - 1 - P) / L - (d - (d - x) + 1 - 1 - P) / L = 0) ∧ (d < x → (d + (x - d) - 1 - P) / L - (d - (x - d) + 1 - 1 - P) / L = 0 ∧ ¬ (d - (x - d)) % L = P) := by
  have r1 := m_mod_r (a := d - P) (b := L) (by omega)
  have r2 := Int.mul_ediv_add_emod (d - P) L
  obtain ⟨s, hs⟩ : ∃ s, s = (d - P) % L := ⟨_, rfl⟩
  obtain ⟨j, hj⟩ : ∃ j, j = (d - P) / L := ⟨_, rfl⟩
  rw [← hs] at r1 r2 hx
  rw [← hj] at r2
  by_cases c : s ≤ L - s
  · rw [if_pos c] at hx
    refine ⟨?_, by omega, by omega, fun h1 h2 => ?_, fun h => by omega⟩
    · rw [m_mod_iff (by omega) hP.1 hP.2]; exact ⟨j, by omega⟩
    · have e1 : (d + (d - x) - 1 - P) / L = j := m_dv (r := 2 * s - 1) (by omega) (by omega) (by omega) (by omega)
      have e2 : (d - (d - x) + 1 - 1 - P) / L = j := m_dv (r := 0) (by omega) (by omega) (by omega) (by omega)
      rw [e1, e2]; omega
  · rw [if_neg c] at hx
    refine ⟨?_, by omega, by omega, fun h1 h2 => by omega, fun h => ⟨?_, fun h9 => ?_⟩⟩
    · rw [m_mod_iff (by omega) hP.1 hP.2]; exact ⟨j + 1, by rw [Int.mul_add, Int.mul_one]; omega⟩
    · have e1 : (d + (x - d) - 1 - P) / L = j := m_dv (r := L - 1) (by omega) (by omega) (by omega) (by omega)
      have e2 : (d - (x - d) + 1 - 1 - P) / L = j := m_dv (r := 2 * s - L) (by omega) (by omega) (by omega) (by omega)
      rw [e1, e2]; omega
    · obtain ⟨q, hq⟩ := (m_mod_iff (by omega) hP.1 hP.2).mp h9
      have e1 : (d - (x - d) - P) / L = j := m_dv (r := 2 * s - L) (by omega) (by omega) (by omega) (by omega)
      have e2 : (d - (x - d) - P) / L = q := m_dv (r := 0) (by omega) (by omega) (by omega) (by omega)
      have e3 : q = j := by rw [← e1, e2]
      subst e3
      omega
/-! sets of markets -/
theorem m_setbit (L P : Int → Int) (d : Int) (k : Nat) : ∀ n : Nat, k < n → n ≤ 16 → mBit (mSet L P d n) k = if d % L (k : Int) = P (k : Int) then 1 else 0
  | 0, h, _ => by omega
  | n + 1, h, hn => by
    have r0 := mSet_r L P d n
    have r1 := mSet_r L P d (n + 1)
    have p16 : (2 : Int) ^ (n + 1) ≤ 65536 := by
      have h1 : (2 : Nat) ^ (n + 1) ≤ 2 ^ 16 := Nat.pow_le_pow_right (by omega) hn
      have h2 : (((2 : Nat) ^ (n + 1) : Nat) : Int) = (2 : Int) ^ (n + 1) := by rw [Int.natCast_pow]; rfl
      have h3 : ((2 : Nat) ^ 16) = 65536 := by decide
      omega
    have pk := m_pow k
    have e0 : (2 : Int) ^ (n + 1) = 2 ^ n * 2 := Int.pow_succ 2 n
    have e1 : mSet L P d (n + 1) % 4294967296 = mSet L P d (n + 1) := Int.emod_eq_of_lt r1.1 (by omega)
    unfold mBit
    rw [e1]
    by_cases c : k = n
    · subst c
      show (mSet L P d k + (if d % L (k : Int) = P (k : Int) then 2 ^ k else 0)) / 2 ^ k % 2 = _
      by_cases c2 : d % L (k : Int) = P (k : Int)
      · rw [if_pos c2, if_pos c2, m_dv (L := 2 ^ k) (j := 1) (r := mSet L P d k) pk (by omega) r0.1 r0.2]
        rfl
      · rw [if_neg c2, if_neg c2, m_dv (L := 2 ^ k) (j := 0) (r := mSet L P d k) pk (by omega) r0.1 r0.2]
        rfl
    · have ih := m_setbit L P d k n (by omega) (by omega)
      unfold mBit at ih
      have e2 : mSet L P d n % 4294967296 = mSet L P d n := Int.emod_eq_of_lt r0.1 (by omega)
      rw [e2] at ih
      rw [← ih]
      show (mSet L P d n + (if d % L (n : Int) = P (n : Int) then 2 ^ n else 0)) / 2 ^ k % 2 = _
      by_cases c2 : d % L (n : Int) = P (n : Int)
      · rw [if_pos c2]
        have e3 : (2 : Int) ^ n = 2 ^ k * (2 * 2 ^ (n - k - 1)) := by
          have : n = k + (1 + (n - k - 1)) := by omega
          conv => lhs; rw [this]
          rw [Int.pow_add, Int.pow_add]
          rfl
        rw [e3, Int.add_mul_ediv_left _ _ (by omega), Int.add_mul_emod_self_left]
      · rw [if_neg c2, Int.add_zero]
theorem mNt_self {z : Int} (h : 0 ≤ z ∧ z < 2147483648) : (mNt z : Int) = z := by
  rw [mNt_z]
  exact Int.emod_eq_of_lt h.1 (by omega)
theorem mBit_test {z : Int} {i : Nat} : mBit z i = 1 ↔ (mNt z).testBit i = true := by
  have h1 := mNt_z z
  rw [Nat.testBit_eq_decide_div_mod_eq, decide_eq_true_iff]
  unfold mBit
  rw [← h1]
  have e : ((mNt z : Int) / 2 ^ i % 2) = ((mNt z / 2 ^ i % 2 : Nat) : Int) := by
    rw [Int.natCast_emod, Int.natCast_ediv, Int.natCast_pow]
    rfl
  rw [e]
  omega
/-- a set of markets, all of which are held, lies in what is held -/
theorem m_in {L P : Int → Int} {x z : Int} {n : Nat} (hn : n ≤ 16) (hz : 0 ≤ z ∧ z < 2147483648) (hu : z < 2 ^ n) (h : mAll L P z n x) : mAnd (mSet L P x n) z = z := by
  have hs := mSet_r L P x n
  have h1 : mNt (mAnd (mSet L P x n) z) = mNt z := by
    rw [mNt_and]
    apply Nat.eq_of_testBit_eq
    intro i
    rw [Nat.testBit_and]
    by_cases c : (mNt z).testBit i = true
    · have hb := mBit_test.mpr c
      have hi : i < n := by
        rcases (by omega : i < n ∨ n ≤ i) with q | q
        · exact q
        · exfalso
          have z1 : z < 2 ^ i := by
            have h1 : (2 : Nat) ^ n ≤ 2 ^ i := Nat.pow_le_pow_right (by omega) q
            have h2 : (((2 : Nat) ^ n : Nat) : Int) = (2 : Int) ^ n := by rw [Int.natCast_pow]; rfl
            have h3 : (((2 : Nat) ^ i : Nat) : Int) = (2 : Int) ^ i := by rw [Int.natCast_pow]; rfl
            omega
          unfold mBit at hb
          rw [Int.emod_eq_of_lt hz.1 (by omega), Int.ediv_eq_zero_of_lt hz.1 z1] at hb
          cases hb
      have hs := m_setbit L P x i n hi hn
      rw [if_pos (h i hi hb)] at hs
      rw [mBit_test.mp hs, c]
      rfl
    · have c2 : (mNt z).testBit i = false := by simpa using c
      rw [c2, Bool.and_false]
  have h2 := mNt_self hz
  have h3 := mNt_z (mAnd (mSet L P x n) z)
  have h4 := mAnd_r (mSet L P x n) z
  rw [h1, h2] at h3
  omega
end
section
theorem mw_keepP {D : va_G} {cl : List vw_C} {ws : va_W} {H H1 : Heap} (hP : va_P D cl ws H) (hk : ∀ q : Nat, q < H.size → H1[q]? = H[q]?) : va_P D cl ws H1 := hP.kept (fun k q hq => hk q.1 (hP k q hq).lt)
/-- which classes of exceptions are no others -/
def mwN (U : State) : Prop := va_Nc mEA mES U ∧ va_Nc mEA mEI U ∧ va_Nc mES mEA U ∧ va_Nc mES mEI U ∧ va_Nc mEI mEA U ∧ va_Nc mEI mES U
theorem mwN_moved {u U : State} (hv : u.vm.Alike U.vm) (h : mwN u) : mwN U := ⟨h.1.moved hv, h.2.1.moved hv, h.2.2.1.moved hv, h.2.2.2.1.moved hv, h.2.2.2.2.1.moved hv, h.2.2.2.2.2.moved hv⟩
/-- one of four numbers -/
def mK4 (ex : Nat) (a b c d : Int) : Int := if ex = 0 then a else if ex = 1 then b else if ex = 2 then c else d
/-- a method of the law: its answer, the world behind it, how much is new at the least -/
def mQR (D : va_G) (r : Int) (g : Nat) (W1 : va_W) (A : Nat → Prop) : Array Value → State → Outcome → State → Prop := fun _ st o t => o = .returned (some (.int (mI r))) ∧ va_P D vwCl W1 t.heap ∧ va_F A st t ∧ st.heap.size + g ≤ t.heap.size
def mG (l : Launch) (y : MethodName) (ws : List Cond) (rm : Room) (av : List Value) (D : va_G) (W0 : va_W) (tys : List (ClassId × FieldType)) (r : Int) (g : Nat) (W1 : va_W) (A : Nat → Prop) (mc ms : Nat) : Prop := Met l y ws rm (va_Pc av (fun U => mwB D W0 tys U ∧ mwE U ∧ mwN U)) (mQR D r g W1 A) mc ms A
theorem mw_openK {l : Launch} {y : MethodName} {ws ws' : List Cond} {rm : Room} {av : List Value} {D : va_G} {W0 : va_W} {tys : List (ClassId × FieldType)} {r : Int} {g : Nat} {W1 : va_W} {A : Nat → Prop} {mc ms : Nat} {cc : ByteArray} {maxL : Nat} {ret : Option FieldType} {hh : List (Nat × Nat × Nat × Nat)} (hy : plainName y.cls = true) (hw : ws = Cond.codeWith y cc maxL ret hh :: ws') (hlen : (lg_sl av).length ≤ maxL)
    (body : ∀ (p : Program) (e : Env) (s : State) (m : MethodId) (below : List Frame) (meth : Method) (c : Code) (ls : Array Slot), CallFix p m c cc maxL s av.toArray ws y.cls → meth.sig.returnType = ret → meth.locks = false → c.exceptionTable.toList = tableOf hh → mwB D W0 tys s → mwE s → mwN s → lv_has ls maxL (lv_args 0 av) → W p l e rm s m av.toArray below meth c s.heap [] 0 0 (MQ below (mQR D r g W1 A) av.toArray s mc ms A) (F0 m 0 ls [])) : mG l y ws rm av D W0 tys r g W1 A mc ms := by
  refine va_MetW (cc := cc) (maxL := maxL) (ret := ret) (hh := hh) hy hw ?_
  intro p e s m args below meth c s₁ B1 hml hv
  obtain ⟨rfl, hB, hE, hN⟩ := hv
  have hl := lv_entry av (n := maxL) hlen
  have hts := atoms_spec (ws := ws) B1.pre
  rw [lg_entry_eq]
  exact body p e s m below meth c _ ⟨B1.exec, B1.bytes, hml, findClass_of_methodNamed B1.named, hts⟩ B1.returns B1.notSynchronized (vx_table (x := y) B1 (hts _ (by rw [hw]; exact List.mem_cons_self))) hB hE hN hl
theorem mw_openG {l : Launch} {y : MethodName} {ws ws' : List Cond} {rm : Room} {av : List Value} {D : va_G} {W0 : va_W} {tys : List (ClassId × FieldType)} {r : Int} {g : Nat} {W1 : va_W} {A : Nat → Prop} {mc ms : Nat} {cc : ByteArray} {maxL : Nat} {ret : Option FieldType} (hy : plainName y.cls = true) (hw : ws = Cond.code y cc maxL ret :: ws') (hlen : (lg_sl av).length ≤ maxL)
    (body : ∀ (p : Program) (e : Env) (s : State) (m : MethodId) (below : List Frame) (meth : Method) (c : Code) (ls : Array Slot), CallFix p m c cc maxL s av.toArray ws y.cls → meth.sig.returnType = ret → meth.locks = false → mwB D W0 tys s → mwE s → mwN s → lv_has ls maxL (lv_args 0 av) → W p l e rm s m av.toArray below meth c s.heap [] 0 0 (MQ below (mQR D r g W1 A) av.toArray s mc ms A) (F0 m 0 ls [])) : mG l y ws rm av D W0 tys r g W1 A mc ms := by
  refine Met.ofW (cc := cc) (maxL := maxL) (ret := ret) hy hw ?_
  intro p e s m args below meth c s₁ B1 hml hv
  obtain ⟨rfl, hB, hE, hN⟩ := hv
  have hl := lv_entry av (n := maxL) hlen
  rw [lg_entry_eq]
  exact body p e s m below meth c _ ⟨B1.exec, B1.bytes, hml, findClass_of_methodNamed B1.named, atoms_spec (ws := ws) B1.pre⟩ B1.returns B1.notSynchronized hB hE hN hl
theorem mwZ_useA {A0 : Nat → Prop} {s U : State} {H : Heap} {locs : List Loc} (h : mwZ A0 s s.heap) (hS : va_S A0 s.heap H locs) (hU : U.heap = H) (hW : s.WarmedH U.vm) : mwZ (fun _ => False) U U.heap := by
  subst hU
  have h2 : mwZ A0 s U.heap := ⟨h.1.kept (fun a ha hn => hS.2.1 a ha hn), h.2.kept (fun a ha hn => hS.2.1 a ha hn)⟩
  have h3 := mwZ_moved hW.alike h2
  exact ⟨h3.1.narrow (fun _ q => q.elim), h3.2.narrow (fun _ q => q.elim)⟩
theorem mwZ_wide {A0 : Nat → Prop} {s : State} {H : Heap} (h : mwZ (fun _ => False) s H) (hA : ∀ q, A0 q → False) : mwZ A0 s H := ⟨h.1.narrow hA, h.2.narrow hA⟩
theorem mw_grow {A A0 : Nat → Prop} {H0 H H1 : Heap} {locs L : List Loc} (hS : va_S A0 H0 H locs) (hA : ∀ q, A q → A0 q) (hz : H.size ≤ H1.size) (hk : ∀ q : Nat, q < H.size → ¬ A q → H1[q]? = H[q]?) (hL : ∀ q ∈ L, A q.base) : va_S A0 H0 H1 (locs ++ L) := ⟨Nat.le_trans hS.1 hz, fun q h1 h2 => by rw [hk q (Nat.lt_of_lt_of_le h1 hS.1) (fun z => h2 (hA q z))]; exact hS.2.1 q h1 h2, fun q hq => by
  rcases List.mem_append.mp hq with h | h
  · exact hS.2.2 q h
  · exact hA _ (hL q h)⟩
section MWW
variable {p : Program} {l : Launch} {e : Env} {R : Room} {s : State} {m : MethodId} {args : Array Value} {below : List Frame} {meth : Method} {c : Code} {H : Heap} {locs : List Loc} {cells slots : Nat} {Q : State → Prop}
variable {cc : ByteArray} {pc : Nat} {ls : Array Slot} {rest st0 : List Value}
variable {y : MethodName} {bytes : ByteArray} {maxL nL n index : Nat} {ret : Option FieldType} {hh : List (Nat × Nat × Nat × Nat)} {ws Ts : List Cond} {rm : Room} {own : String} {b : Addr} {As : List Value} {D : va_G} {W0 W1 : va_W} {tys : List (ClassId × FieldType)}
theorem mw_cX {es : List String} {ex : Nat} {v : Option Value} {A A0 : Nat → Prop} {fs : List Value} (S : CallFix p m c cc nL s args Ts own) (hM : mX l y ws rm (.ref b :: As) D W0 tys es ex v W1 A) (hE : mwE s) (cw : CallW R s args own RX0 index y bytes maxL ret ws rm 1 6 n) (hK : va_K D vwCl tys s) (hP : va_P D vwCl W0 s.heap) (hA : ∀ q, A q → A0 q) (he : W0[0]? = some (b, .inr (0, fs))) (hn : As.length = n) (hsz : ls.size = nL) (hst : st0 = As.reverse ++ .ref b :: rest) (hW : (rest.map fun v => v.category).sum ≤ 8) (hR : 1 ≤ R.cells ∧ 6 ≤ R.slots) (hdg : decode cc pc = .ok (.invokevirtual index, 3))
    (kk : ∀ (H1 : Heap) (locs1 : List Loc), ex = 0 → va_P D vwCl W1 H1 → va_S A0 s.heap H1 locs1 → (∀ q : Nat, q < s.heap.size → ¬ A q → H1[q]? = s.heap[q]?) → W p l e R s m args below meth c H1 locs1 1 6 Q (F0 m (pc + 3) ls (v.toList ++ rest)))
    (kx : ∀ (E : String) (ce : Cell) (q9 : Addr) (H1 : Heap) (locs1 : List Loc) (k : Nat), ex = k + 1 → es[k]? = some E → (∀ q : Nat, q < s.heap.size → H1[q]? = s.heap[q]?) → va_S A0 s.heap H1 locs1 → s.heap.size < H1.size → H1[q9]? = some ce → ce.vm = .none → s.vm.findClass E = some ce.cls → vx_W p l e R s m args below meth c H1 locs1 1 6 Q (F0 m pc ls rest) q9) : W p l e R s m args below meth c s.heap [] 0 0 Q (F0 m pc ls st0) := by
  have hr := vx_runV (e := e) (below := below) (meth := meth) (locs := []) (cells := 0) (slots := 0) (rest := rest) S hM cw ⟨fun a U g mk h => ⟨h.1, mwB_blind h.2.1, mwE_blind h.2.2⟩, va_recv (ci := 0) (q := (RX0, TX0, 10)) hK hP rfl he, fun U hU hW1 => ⟨rfl, ⟨by rw [hU]; exact hP, va_K.moved hW1.alike hK⟩, mwE_warm hU hW1 hE⟩⟩ (g := F0 m pc ls st0) rfl hn hsz hst (lv_room hW) hdg ⟨by rw [Nat.zero_add]; exact hR.1, by rw [Nat.zero_add]; exact hR.2⟩
  intro T hT X
  rcases hr T hT X with ⟨v1, st₀, t, T', L, h0, X', hL, e1, e2, ⟨hex, hv, hP1, hz, hk⟩, st⟩ | ⟨q, st₀, t, T', L, E1, ce, h0, X', hL, e1, e2, ⟨⟨k, hk1, hk2⟩, ⟨hz, hk⟩, hg⟩, hce, hcv, hcl, st⟩
  · cases hv
    rw [h0] at hz hk
    obtain ⟨t2, a1, b1⟩ := kk T'.heap ([] ++ L) hex (by rw [e1]; exact hP1) ⟨by rw [e1]; exact hz, fun q h1 h2 => by rw [e1]; exact hk q h1 (fun z => h2 (hA q z)), fun q hq => hA _ (hL q (by simpa using hq))⟩ (fun q h1 h2 => by rw [e1]; exact hk q h1 h2) T' rfl X'
    exact ⟨t2, st t2 a1, b1⟩
  · rw [h0] at hz hk hg
    obtain ⟨t2, a1, b1⟩ := kx E1 ce q T'.heap ([] ++ L) k hk1 hk2 (fun q h1 => by rw [e1]; exact hk q h1 (fun z => z)) ⟨by rw [e1]; exact hz, fun q h1 _ => by rw [e1]; exact hk q h1 (fun z => z), fun q hq => hA _ (hL q (by simpa using hq))⟩ (by rw [e1]; exact hg) (by rw [e1]; exact hce) hcv hcl T' rfl X'
    exact ⟨t2, st.trans a1, b1⟩
theorem mw_gret {r r' : Int} {g : Nat} {A : Nat → Prop} {mc ms : Nat} (hx : p.tables.exec = Jvm.exec) (hb : c.code = cc) (hr : meth.sig.returnType = some .int) (hlocks : meth.locks = false) (hdg : decode cc pc = .ok (.ireturn, 1)) (hr9 : r' = r) (hg : s.heap.size + g ≤ H.size) (hP : va_P D vwCl W1 H) (hS : va_S A s.heap H locs) (hc : cells ≤ mc ∧ slots ≤ ms) : W p l e R s m args below meth c H locs cells slots (MQ below (mQR D r g W1 A) args s mc ms A) (F0 m pc ls [.int (mI r')]) := by
  subst hr9
  exact W.widen hc.1 hc.2 (W.iret hx hb hr (fun t ht _ => ⟨rfl, by rw [ht]; exact hP, hS.F ht, by rw [ht]; exact hg⟩) hS.2.2 hdg hlocks)
theorem mw_gretZ {r r' : Int} {g : Nat} {A : Nat → Prop} {mc ms : Nat} (hx : p.tables.exec = Jvm.exec) (hb : c.code = cc) (hr : meth.sig.returnType = some .boolean) (hlocks : meth.locks = false) (hdg : decode cc pc = .ok (.ireturn, 1)) (hn9 : narrow .boolean (.int (mI r)) = .int (mI r)) (hr9 : r' = r) (hg : s.heap.size + g ≤ H.size) (hP : va_P D vwCl W1 H) (hS : va_S A s.heap H locs) (hc : cells ≤ mc ∧ slots ≤ ms) : W p l e R s m args below meth c H locs cells slots (MQ below (mQR D r g W1 A) args s mc ms A) (F0 m pc ls [.int (mI r')]) := by
  subst hr9
  exact W.widen hc.1 hc.2 (W.zret hx hb hr hn9 (fun t ht _ => ⟨rfl, by rw [ht]; exact hP, hS.F ht, by rw [ht]; exact hg⟩) hS.2.2 hdg hlocks)
/-- a method of the face is called, which doesn't throw -/
theorem mw_cXn {es : List String} {ex : Nat} {v : Option Value} {A0 : Nat → Prop} {fs : List Value} {k9 n9 : Nat} (S : CallFix p m c cc nL s args Ts own) (hM : mX l y ws rm (.ref b :: As) D W0 tys es ex v W1 (fun _ => False)) (hex : ex = 0) (hES : mwS s) (hZS : mwZ A0 s s.heap) (cw : CallW R s args own RX0 index y bytes maxL ret ws rm 1 6 n) (hK : va_K D vwCl tys s) (hP : va_P D vwCl W0 H) (hS : va_S A0 s.heap H locs) (he : W0[0]? = some (b, .inr (0, fs))) (hn : As.length = n) (hsz : ls.size = nL) (hst : st0 = As.reverse ++ .ref b :: rest) (hW : (rest.map fun v => v.category).sum ≤ 8) (hk9 : k9 = cells + 1) (hn9 : n9 = slots + 6) (hf : k9 ≤ R.cells ∧ n9 ≤ R.slots) (hdg : decode cc pc = .ok (.invokevirtual index, 3))
    (kk : ∀ (H1 : Heap) (locs1 : List Loc), va_S A0 s.heap H1 locs1 → H.size ≤ H1.size → (∀ q : Nat, q < H.size → H1[q]? = H[q]?) → W p l e R s m args below meth c H1 locs1 k9 n9 Q (F0 m (pc + 3) ls (v.toList ++ rest))) : W p l e R s m args below meth c H locs cells slots Q (F0 m pc ls st0) := by
  subst hk9 hn9
  have hr := vx_runV (e := e) (below := below) (meth := meth) (locs := locs) (cells := cells) (slots := slots) (rest := rest) S hM cw ⟨fun a U g mk h => ⟨h.1, mwB_blind h.2.1, mwE_blind h.2.2⟩, va_recv (ci := 0) (q := (RX0, TX0, 10)) hK hP rfl he, fun U hU hW1 => ⟨rfl, ⟨by rw [hU]; exact hP, va_K.moved hW1.alike hK⟩, ⟨mwS_warm hW1 hES, mwZ_useA hZS hS hU hW1⟩⟩⟩ (g := F0 m pc ls st0) rfl hn hsz hst (lv_room hW) hdg hf
  intro T hT X
  rcases hr T hT X with ⟨v1, st₀, t, T', L, h0, X', hL, e1, e2, ⟨-, hv, hP1, hz, hk⟩, st⟩ | ⟨q, st₀, t, T', L, E1, ce, h0, X', hL, e1, e2, ⟨⟨k, hk1, hk2⟩, -⟩, hce, hcv, hcl, st⟩
  · cases hv
    rw [h0] at hz hk
    obtain ⟨t2, a1, b1⟩ := kk T'.heap (locs ++ L) (mw_grow (A := fun _ => False) hS (fun _ h => h.elim) (by rw [e1]; exact hz) (fun q h1 _ => by rw [e1]; exact hk q h1 (fun z => z)) hL) (by rw [e1]; exact hz) (fun q h1 => by rw [e1]; exact hk q h1 (fun z => z)) T' rfl X'
    exact ⟨t2, st t2 a1, b1⟩
  · exact absurd hex (by omega)
/-- a catching method of the law is called -/
theorem mw_cK {r : Int} {g : Nat} {A A0 : Nat → Prop} {mc ms k9 n9 : Nat} (S : CallFix p m c cc nL s args Ts own) (hM : mG l y ws rm As D W0 tys r g W1 A mc ms) (cw : vx_CSW R s args own index y bytes maxL ret hh ws rm mc ms n) (hK : va_K D vwCl tys s) (hP : va_P D vwCl W0 H) (hES : mwS s) (hZS : mwZ A0 s s.heap) (hNS : mwN s) (hS : va_S A0 s.heap H locs) (hA : ∀ q, A q → A0 q) (hn : As.length = n) (hsz : ls.size = nL) (hst : st0 = As.reverse ++ rest) (hW : (rest.map fun v => v.category).sum ≤ 8) (hk9 : k9 = cells + mc) (hn9 : n9 = slots + ms) (hf : k9 ≤ R.cells ∧ n9 ≤ R.slots) (hdg : decode cc pc = .ok (.invokestatic index, 3))
    (kk : ∀ (H1 : Heap) (locs1 : List Loc), va_P D vwCl W1 H1 → va_S A0 s.heap H1 locs1 → H.size + g ≤ H1.size → (∀ q : Nat, q < H.size → ¬ A q → H1[q]? = H[q]?) → W p l e R s m args below meth c H1 locs1 k9 n9 Q (F0 m (pc + 3) ls (.int (mI r) :: rest))) : W p l e R s m args below meth c H locs cells slots Q (F0 m pc ls st0) := by
  subst hk9 hn9
  have hr := vx_runSW (e := e) (below := below) (meth := meth) (locs := locs) (cells := cells) (slots := slots) (rest := rest) S hM cw ⟨fun a U g mk h => ⟨h.1, mwB_blind h.2.1, mwE_blind h.2.2.1, mwN_moved (u := U) (U := U.calling g mk a) (Vm.Alike.refl U.vm) h.2.2.2⟩, fun U hU hW1 => ⟨rfl, ⟨by rw [hU]; exact hP, va_K.moved hW1.alike hK⟩, ⟨mwS_warm hW1 hES, mwZ_useA hZS hS hU hW1⟩, mwN_moved hW1.alike hNS⟩⟩ (g := F0 m pc ls st0) rfl hn hsz hst (lv_room hW) hdg hf
  intro T hT X
  obtain ⟨v1, st₀, t, T', L, h0, X', hL, e1, e2, ⟨hv, hP1, ⟨hz, hk⟩, hg⟩, st⟩ := hr T hT X
  cases hv
  rw [h0] at hz hk hg
  obtain ⟨t2, a1, b1⟩ := kk T'.heap (locs ++ L) (by rw [e1]; exact hP1) (mw_grow hS hA (by rw [e1]; exact hz) (fun q h1 h2 => by rw [e1]; exact hk q h1 h2) hL) (by rw [e1]; exact hg) (fun q h1 h2 => by rw [e1]; exact hk q h1 h2) T' rfl X'
  exact ⟨t2, st t2 a1, b1⟩
/-- another method of the law is called -/
theorem mw_cG {r : Int} {g : Nat} {A A0 : Nat → Prop} {mc ms k9 n9 : Nat} (S : CallFix p m c cc nL s args Ts own) (hM : mG l y ws rm As D W0 tys r g W1 A mc ms) (cw : CallB R s args own index y bytes maxL ret ws rm mc ms n ∧ (Cond.static y).before args s = true) (hK : va_K D vwCl tys s) (hP : va_P D vwCl W0 H) (hES : mwS s) (hZS : mwZ A0 s s.heap) (hNS : mwN s) (hS : va_S A0 s.heap H locs) (hA : ∀ q, A q → A0 q) (hn : As.length = n) (hsz : ls.size = nL) (hst : st0 = As.reverse ++ rest) (hW : (rest.map fun v => v.category).sum ≤ 8) (hk9 : k9 = cells + mc) (hn9 : n9 = slots + ms) (hf : k9 ≤ R.cells ∧ n9 ≤ R.slots) (hdg : decode cc pc = .ok (.invokestatic index, 3))
    (kk : ∀ (H1 : Heap) (locs1 : List Loc), va_P D vwCl W1 H1 → va_S A0 s.heap H1 locs1 → H.size + g ≤ H1.size → (∀ q : Nat, q < H.size → ¬ A q → H1[q]? = H[q]?) → W p l e R s m args below meth c H1 locs1 k9 n9 Q (F0 m (pc + 3) ls (.int (mI r) :: rest))) : W p l e R s m args below meth c H locs cells slots Q (F0 m pc ls st0) := by
  subst hk9 hn9
  have hr := va_runS (e := e) (below := below) (meth := meth) (locs := locs) (cells := cells) (slots := slots) (rest := rest) S hM cw ⟨fun a U g mk h => ⟨h.1, mwB_blind h.2.1, mwE_blind h.2.2.1, mwN_moved (u := U) (U := U.calling g mk a) (Vm.Alike.refl U.vm) h.2.2.2⟩, fun U hU hW1 => ⟨rfl, ⟨by rw [hU]; exact hP, va_K.moved hW1.alike hK⟩, ⟨mwS_warm hW1 hES, mwZ_useA hZS hS hU hW1⟩, mwN_moved hW1.alike hNS⟩⟩ (g := F0 m pc ls st0) rfl hn hsz hst (lv_room hW) hdg hf
  intro T hT X
  obtain ⟨v1, st₀, t, T', L, h0, X', hL, e1, e2, ⟨hv, hP1, ⟨hz, hk⟩, hg⟩, st⟩ := hr T hT X
  cases hv
  rw [h0] at hz hk hg
  obtain ⟨t2, a1, b1⟩ := kk T'.heap (locs ++ L) (by rw [e1]; exact hP1) (mw_grow hS hA (by rw [e1]; exact hz) (fun q h1 h2 => by rw [e1]; exact hk q h1 h2) hL) (by rw [e1]; exact hg) (fun q h1 h2 => by rw [e1]; exact hk q h1 h2) T' rfl X'
  exact ⟨t2, st t2 a1, b1⟩
theorem mw_irem (hx : p.tables.exec = Jvm.exec) (hb : c.code = cc) {x y : Int} (h0 : 0 ≤ x ∧ x < 2147483648) (h1 : 0 < y ∧ y < 2147483648) (hdg : decode cc pc = .ok (.irem, 1)) (k : W p l e R s m args below meth c H locs cells slots Q (F0 m (pc + 1) ls (.int (mI (x % y)) :: rest))) : W p l e R s m args below meth c H locs cells slots Q (F0 m pc ls (.int (mI y) :: .int (mI x) :: rest)) := by
  refine lv_irem hx hb hdg (fun h => ?_) ?_
  · rw [← mI_0, mI_eq (by omega) mI_r0] at h
    omega
  · have e1 : mI x / mI y = mI (x / y) := by
      apply Int32.toInt_inj.mp
      have hne : mI y ≠ -1 := by
        intro h
        have h2 : (mI y).toInt = (-1 : Int32).toInt := by rw [h]
        rw [mI_t (by omega)] at h2
        have h3 : (-1 : Int32).toInt = -1 := by decide +kernel
        omega
      have q1 : 0 ≤ x / y := Int.ediv_nonneg h0.1 (by omega)
      have q2 : x / y ≤ x := Int.ediv_le_self _ h0.1
      rw [Int32.toInt_div_of_ne_right _ _ hne, mI_t (by omega), mI_t (by omega), mI_t (by omega), Int.tdiv_eq_ediv_of_nonneg h0.1]
    rw [e1, mI_mul, mI_sub]
    have e2 : x - x / y * y = x % y := by
      have := Int.mul_ediv_add_emod x y
      have h2 : x / y * y = y * (x / y) := Int.mul_comm _ _
      omega
    rw [e2]
    exact k
end MWW
end
section
set_option maxHeartbeats 400000 in
set_option maxRecDepth 100000 in
theorem k_addMarket (l : Launch) (hfl : l.flags = flags0) (D : va_G) (h0 a1 a2 : Nat) (cA cJ : ClassId) (v : Nat → Int) (L P : Int → Int) (a b : Int) (ha : mRI a) (hb9 : mRI b) (hok : mOK v L P) (hdis : mDis h0 a1 a2) : mG l yL_addMarket wsL_addMarket ({ frames := 8, cells := 1, slots := 6, locals := 133 }) [.ref h0, .int (mI (a)), .int (mI (b))] D (mXW h0 a1 a2 cA v L P) (mTy cA cJ) (mK4 (mEx2 ((1 ≤ a ∧ a ≤ 60) ∧ 0 ≤ b ∧ b ≤ a - 1) (v 0 < 16)) (v 0) (-99999) (-99999) (-99999)) (if (mEx2 ((1 ≤ a ∧ a ≤ 60) ∧ 0 ≤ b ∧ b ≤ a - 1) (v 0 < 16)) = 0 then 0 else 1) (mXW h0 a1 a2 cA (mIf (mEx2 ((1 ≤ a ∧ a ≤ 60) ∧ 0 ≤ b ∧ b ≤ a - 1) (v 0 < 16)) (mPut v 0 (v 0 + 1)) v) (mIf (mEx2 ((1 ≤ a ∧ a ≤ 60) ∧ 0 ≤ b ∧ b ≤ a - 1) (v 0 < 16)) (mU L (v 0) a) L) (mIf (mEx2 ((1 ≤ a ∧ a ≤ 60) ∧ 0 ≤ b ∧ b ≤ a - 1) (v 0 < 16)) (mU P (v 0) b) P)) (mA3 h0 a1 a2) 1 6 := by
  refine mw_openK (cc := cL_addMarket) (maxL := 4) (ret := (some .int)) (hh := [(0, 6, 7, 14), (0, 6, 11, 17)]) (by decide) rfl (Nat.le_of_ble_eq_true rfl) ?_
  intro p e s m below meth c ls hC hr hlocks htab hB hE hN hl
  obtain ⟨hx, hb, hml, hown, hts⟩ := id hC
  obtain ⟨hP, hK⟩ := hB
  have hl : lv_has ls 4 [(0, .ref h0), (1, .int (mI (a))), (2, .int (mI (b)))] := hl
  refine lv_aload_n hx hb dL_addMarket_0 rfl (lv_at hl 0 rfl) ?_
  refine lv_iload_n hx hb dL_addMarket_1 rfl (lv_at hl 1 rfl) ?_
  refine lv_iload_n hx hb dL_addMarket_2 rfl (lv_at hl 2 rfl) ?_
  refine mw_cX (rest := []) (A0 := (mA3 h0 a1 a2)) hC (x_X0_addMarket l hfl D h0 a1 a2 cA cJ v L P a b ha hb9 hok hdis) hE (cwV 2 hts gL_addMarket_X0_addMarket rfl rfl rfl (by decide +kernel) ⟨Nat.le_of_ble_eq_true rfl, Nat.le_of_ble_eq_true rfl⟩) hK hP (fun _ h => h) rfl rfl hl.1 rfl (Nat.le_of_ble_eq_true rfl) ⟨Nat.le_of_ble_eq_true rfl, Nat.le_of_ble_eq_true rfl⟩ dL_addMarket_3 (fun H1 locs1 hex hP1 hS hk => ?_) (fun E ce q9 H1 locs1 k hexk hes hk hS hg hce hcv hcl => ?_)
  · have hP2 : va_P D vwCl (mXW h0 a1 a2 cA (mIf (mEx2 ((1 ≤ a ∧ a ≤ 60) ∧ 0 ≤ b ∧ b ≤ a - 1) (v 0 < 16)) (mPut v 0 (v 0 + 1)) v) (mIf (mEx2 ((1 ≤ a ∧ a ≤ 60) ∧ 0 ≤ b ∧ b ≤ a - 1) (v 0 < 16)) (mU L (v 0) a) L) (mIf (mEx2 ((1 ≤ a ∧ a ≤ 60) ∧ 0 ≤ b ∧ b ≤ a - 1) (v 0 < 16)) (mU P (v 0) b) P)) H1 := by rw [mIf_0 hex, mIf_0 hex, mIf_0 hex]; exact hP1
    refine W.eq (g2 := F0 m 6 ls [.int (mI (v 0))]) rfl ?_
    exact mw_gret hx hb hr hlocks dL_addMarket_6 (by unfold mK4; rw [if_pos hex]) (by rw [if_pos hex]; exact hS.1) hP2 hS ⟨Nat.le_refl _, Nat.le_refl _⟩
  · have hP2 : va_P D vwCl (mXW h0 a1 a2 cA (mIf (mEx2 ((1 ≤ a ∧ a ≤ 60) ∧ 0 ≤ b ∧ b ≤ a - 1) (v 0 < 16)) (mPut v 0 (v 0 + 1)) v) (mIf (mEx2 ((1 ≤ a ∧ a ≤ 60) ∧ 0 ≤ b ∧ b ≤ a - 1) (v 0 < 16)) (mU L (v 0) a) L) (mIf (mEx2 ((1 ≤ a ∧ a ≤ 60) ∧ 0 ≤ b ∧ b ≤ a - 1) (v 0 < 16)) (mU P (v 0) b) P)) H1 := by rw [mIf_1 (by omega), mIf_1 (by omega), mIf_1 (by omega)]; exact mw_keepP hP hk
    match k, hexk, hes with
    | 0, hexk, hes =>
      cases hes
      refine vx_catch (own := RL) (name := mEA) (E := mEA) hown [] ⟨0, 6, 7, 14⟩ [⟨0, 6, 11, 17⟩] htab (fun z hz => nomatch hz) (by decide) (by decide) (hts (.classLink RL 14 mEA) (by decide +kernel)) (va_Nw.use rfl hE.1.2.2.2.2.2.1) hce hcv hcl ?_
      refine lv_astore_n (lv' := [(3, .ref q9), (0, .ref h0), (1, .int (mI (a))), (2, .int (mI (b)))]) hx hb dL_addMarket_7 rfl hl (by decide) rfl (fun ls hl => ?_)
      refine mw_ldc hx hb (-99999) (by decide +kernel) hown (hts (.constant RL 16 (-99999)) (by decide +kernel)) dL_addMarket_8 ?_
      exact mw_gret hx hb hr hlocks dL_addMarket_10 (by unfold mK4; rw [if_neg (by omega), if_pos (by omega)]) (by rw [if_neg (by omega)]; exact hg) hP2 hS ⟨Nat.le_refl _, Nat.le_refl _⟩
    | 1, hexk, hes =>
      cases hes
      refine vx_catch (own := RL) (name := mES) (E := mES) hown [⟨0, 6, 7, 14⟩] ⟨0, 6, 11, 17⟩ [] htab (fun z hz => by
        cases List.mem_singleton.mp hz; exact Or.inr ⟨by decide, mEA, hts (.classLink RL 14 mEA) (by decide +kernel), hN.2.2.1⟩) (by decide) (by decide) (hts (.classLink RL 17 mES) (by decide +kernel)) (va_Nw.use rfl hE.1.2.2.2.2.2.2.1) hce hcv hcl ?_
      refine lv_astore_n (lv' := [(3, .ref q9), (0, .ref h0), (1, .int (mI (a))), (2, .int (mI (b)))]) hx hb dL_addMarket_11 rfl hl (by decide) rfl (fun ls hl => ?_)
      refine mw_ldc hx hb (-99999) (by decide +kernel) hown (hts (.constant RL 16 (-99999)) (by decide +kernel)) dL_addMarket_12 ?_
      exact mw_gret hx hb hr hlocks dL_addMarket_14 (by unfold mK4; rw [if_neg (by omega), if_neg (by omega), if_pos (by omega)]) (by rw [if_neg (by omega)]; exact hg) hP2 hS ⟨Nat.le_refl _, Nat.le_refl _⟩
    | k + 2, hexk, hes => simp at hes

set_option maxHeartbeats 400000 in
set_option maxRecDepth 100000 in
theorem k_shift (l : Launch) (hfl : l.flags = flags0) (D : va_G) (h0 a1 a2 : Nat) (cA cJ : ClassId) (v : Nat → Int) (L P : Int → Int) (m9 b : Int) (hm9 : mRI m9) (hb9 : mRI b) (hok : mOK v L P) (hdis : mDis h0 a1 a2) : mG l yL_shift wsL_shift ({ frames := 8, cells := 1, slots := 6, locals := 134 }) [.ref h0, .int (mI (m9)), .int (mI (b))] D (mXW h0 a1 a2 cA v L P) (mTy cA cJ) (mK4 (mEx2 (mMk v m9) (-60 ≤ b ∧ b ≤ 60)) ((P m9 + b) % L m9) (-99999) (-99999) (-99999)) (if (mEx2 (mMk v m9) (-60 ≤ b ∧ b ≤ 60)) = 0 then 0 else 1) (mXW h0 a1 a2 cA (mIf (mEx2 (mMk v m9) (-60 ≤ b ∧ b ≤ 60)) v v) (mIf (mEx2 (mMk v m9) (-60 ≤ b ∧ b ≤ 60)) L L) (mIf (mEx2 (mMk v m9) (-60 ≤ b ∧ b ≤ 60)) (mU P m9 ((P m9 + b) % L m9)) P)) (mA3 h0 a1 a2) 1 6 := by
  refine mw_openK (cc := cL_shift) (maxL := 4) (ret := (some .int)) (hh := [(0, 6, 7, 22), (0, 6, 11, 14)]) (by decide) rfl (Nat.le_of_ble_eq_true rfl) ?_
  intro p e s m below meth c ls hC hr hlocks htab hB hE hN hl
  obtain ⟨hx, hb, hml, hown, hts⟩ := id hC
  obtain ⟨hP, hK⟩ := hB
  have hl : lv_has ls 4 [(0, .ref h0), (1, .int (mI (m9))), (2, .int (mI (b)))] := hl
  refine lv_aload_n hx hb dL_shift_0 rfl (lv_at hl 0 rfl) ?_
  refine lv_iload_n hx hb dL_shift_1 rfl (lv_at hl 1 rfl) ?_
  refine lv_iload_n hx hb dL_shift_2 rfl (lv_at hl 2 rfl) ?_
  refine mw_cX (rest := []) (A0 := (mA3 h0 a1 a2)) hC (x_X0_shift l hfl D h0 a1 a2 cA cJ v L P m9 b hm9 hb9 hok hdis) hE (cwV 2 hts gL_shift_X0_shift rfl rfl rfl (by decide +kernel) ⟨Nat.le_of_ble_eq_true rfl, Nat.le_of_ble_eq_true rfl⟩) hK hP (fun _ h => h) rfl rfl hl.1 rfl (Nat.le_of_ble_eq_true rfl) ⟨Nat.le_of_ble_eq_true rfl, Nat.le_of_ble_eq_true rfl⟩ dL_shift_3 (fun H1 locs1 hex hP1 hS hk => ?_) (fun E ce q9 H1 locs1 k hexk hes hk hS hg hce hcv hcl => ?_)
  · have hP2 : va_P D vwCl (mXW h0 a1 a2 cA (mIf (mEx2 (mMk v m9) (-60 ≤ b ∧ b ≤ 60)) v v) (mIf (mEx2 (mMk v m9) (-60 ≤ b ∧ b ≤ 60)) L L) (mIf (mEx2 (mMk v m9) (-60 ≤ b ∧ b ≤ 60)) (mU P m9 ((P m9 + b) % L m9)) P)) H1 := by rw [mIf_0 hex, mIf_0 hex, mIf_0 hex]; exact hP1
    refine W.eq (g2 := F0 m 6 ls [.int (mI ((P m9 + b) % L m9))]) rfl ?_
    exact mw_gret hx hb hr hlocks dL_shift_6 (by unfold mK4; rw [if_pos hex]) (by rw [if_pos hex]; exact hS.1) hP2 hS ⟨Nat.le_refl _, Nat.le_refl _⟩
  · have hP2 : va_P D vwCl (mXW h0 a1 a2 cA (mIf (mEx2 (mMk v m9) (-60 ≤ b ∧ b ≤ 60)) v v) (mIf (mEx2 (mMk v m9) (-60 ≤ b ∧ b ≤ 60)) L L) (mIf (mEx2 (mMk v m9) (-60 ≤ b ∧ b ≤ 60)) (mU P m9 ((P m9 + b) % L m9)) P)) H1 := by rw [mIf_1 (by omega), mIf_1 (by omega), mIf_1 (by omega)]; exact mw_keepP hP hk
    match k, hexk, hes with
    | 0, hexk, hes =>
      cases hes
      refine vx_catch (own := RL) (name := mEI) (E := mEI) hown [] ⟨0, 6, 7, 22⟩ [⟨0, 6, 11, 14⟩] htab (fun z hz => nomatch hz) (by decide) (by decide) (hts (.classLink RL 22 mEI) (by decide +kernel)) (va_Nw.use rfl hE.1.2.2.2.2.2.2.2.1) hce hcv hcl ?_
      refine lv_astore_n (lv' := [(3, .ref q9), (0, .ref h0), (1, .int (mI (m9))), (2, .int (mI (b)))]) hx hb dL_shift_7 rfl hl (by decide) rfl (fun ls hl => ?_)
      refine mw_ldc hx hb (-99999) (by decide +kernel) hown (hts (.constant RL 16 (-99999)) (by decide +kernel)) dL_shift_8 ?_
      exact mw_gret hx hb hr hlocks dL_shift_10 (by unfold mK4; rw [if_neg (by omega), if_pos (by omega)]) (by rw [if_neg (by omega)]; exact hg) hP2 hS ⟨Nat.le_refl _, Nat.le_refl _⟩
    | 1, hexk, hes =>
      cases hes
      refine vx_catch (own := RL) (name := mEA) (E := mEA) hown [⟨0, 6, 7, 22⟩] ⟨0, 6, 11, 14⟩ [] htab (fun z hz => by
        cases List.mem_singleton.mp hz; exact Or.inr ⟨by decide, mEI, hts (.classLink RL 22 mEI) (by decide +kernel), hN.2.1⟩) (by decide) (by decide) (hts (.classLink RL 14 mEA) (by decide +kernel)) (va_Nw.use rfl hE.1.2.2.2.2.2.1) hce hcv hcl ?_
      refine lv_astore_n (lv' := [(3, .ref q9), (0, .ref h0), (1, .int (mI (m9))), (2, .int (mI (b)))]) hx hb dL_shift_11 rfl hl (by decide) rfl (fun ls hl => ?_)
      refine mw_ldc hx hb (-99999) (by decide +kernel) hown (hts (.constant RL 16 (-99999)) (by decide +kernel)) dL_shift_12 ?_
      exact mw_gret hx hb hr hlocks dL_shift_14 (by unfold mK4; rw [if_neg (by omega), if_neg (by omega), if_pos (by omega)]) (by rw [if_neg (by omega)]; exact hg) hP2 hS ⟨Nat.le_refl _, Nat.le_refl _⟩
    | k + 2, hexk, hes => simp at hes

set_option maxHeartbeats 400000 in
set_option maxRecDepth 100000 in
theorem k_setMoon (l : Launch) (hfl : l.flags = flags0) (D : va_G) (h0 a1 a2 : Nat) (cA cJ : ClassId) (v : Nat → Int) (L P : Int → Int) (n d s9 : Int) (hn : mRI n) (hd9 : mRI d) (hs9 : mRI s9) (hok : mOK v L P) (hdis : mDis h0 a1 a2) : mG l yL_setMoon wsL_setMoon ({ frames := 8, cells := 1, slots := 6, locals := 133 }) [.ref h0, .int (mI (n)), .int (mI (d)), .int (mI (s9))] D (mXW h0 a1 a2 cA v L P) (mTy cA cJ) (mK4 (mEx1 ((1 ≤ d ∧ d ≤ 100) ∧ (2 * d ≤ n ∧ n ≤ 100 * d) ∧ -1000 ≤ s9 ∧ s9 ≤ 1000)) (0) (-99999) (-99999) (-99999)) (if (mEx1 ((1 ≤ d ∧ d ≤ 100) ∧ (2 * d ≤ n ∧ n ≤ 100 * d) ∧ -1000 ≤ s9 ∧ s9 ≤ 1000)) = 0 then 0 else 1) (mXW h0 a1 a2 cA (mIf (mEx1 ((1 ≤ d ∧ d ≤ 100) ∧ (2 * d ≤ n ∧ n ≤ 100 * d) ∧ -1000 ≤ s9 ∧ s9 ≤ 1000)) (mPut (mPut (mPut v 1 n) 2 d) 3 s9) v) (mIf (mEx1 ((1 ≤ d ∧ d ≤ 100) ∧ (2 * d ≤ n ∧ n ≤ 100 * d) ∧ -1000 ≤ s9 ∧ s9 ≤ 1000)) L L) (mIf (mEx1 ((1 ≤ d ∧ d ≤ 100) ∧ (2 * d ≤ n ∧ n ≤ 100 * d) ∧ -1000 ≤ s9 ∧ s9 ≤ 1000)) P P)) (mA3 h0 a1 a2) 1 6 := by
  refine mw_openK (cc := cL_setMoon) (maxL := 5) (ret := (some .int)) (hh := [(0, 8, 9, 14)]) (by decide) rfl (Nat.le_of_ble_eq_true rfl) ?_
  intro p e s m below meth c ls hC hr hlocks htab hB hE hN hl
  obtain ⟨hx, hb, hml, hown, hts⟩ := id hC
  obtain ⟨hP, hK⟩ := hB
  have hl : lv_has ls 5 [(0, .ref h0), (1, .int (mI (n))), (2, .int (mI (d))), (3, .int (mI (s9)))] := hl
  refine lv_aload_n hx hb dL_setMoon_0 rfl (lv_at hl 0 rfl) ?_
  refine lv_iload_n hx hb dL_setMoon_1 rfl (lv_at hl 1 rfl) ?_
  refine lv_iload_n hx hb dL_setMoon_2 rfl (lv_at hl 2 rfl) ?_
  refine lv_iload_n hx hb dL_setMoon_3 rfl (lv_at hl 3 rfl) ?_
  refine mw_cX (rest := []) (A0 := (mA3 h0 a1 a2)) hC (x_X0_setMoon l hfl D h0 a1 a2 cA cJ v L P n d s9 hn hd9 hs9 hok hdis) hE (cwV 3 hts gL_setMoon_X0_setMoon rfl rfl rfl (by decide +kernel) ⟨Nat.le_of_ble_eq_true rfl, Nat.le_of_ble_eq_true rfl⟩) hK hP (fun _ h => h) rfl rfl hl.1 rfl (Nat.le_of_ble_eq_true rfl) ⟨Nat.le_of_ble_eq_true rfl, Nat.le_of_ble_eq_true rfl⟩ dL_setMoon_4 (fun H1 locs1 hex hP1 hS hk => ?_) (fun E ce q9 H1 locs1 k hexk hes hk hS hg hce hcv hcl => ?_)
  · have hP2 : va_P D vwCl (mXW h0 a1 a2 cA (mIf (mEx1 ((1 ≤ d ∧ d ≤ 100) ∧ (2 * d ≤ n ∧ n ≤ 100 * d) ∧ -1000 ≤ s9 ∧ s9 ≤ 1000)) (mPut (mPut (mPut v 1 n) 2 d) 3 s9) v) (mIf (mEx1 ((1 ≤ d ∧ d ≤ 100) ∧ (2 * d ≤ n ∧ n ≤ 100 * d) ∧ -1000 ≤ s9 ∧ s9 ≤ 1000)) L L) (mIf (mEx1 ((1 ≤ d ∧ d ≤ 100) ∧ (2 * d ≤ n ∧ n ≤ 100 * d) ∧ -1000 ≤ s9 ∧ s9 ≤ 1000)) P P)) H1 := by rw [mIf_0 hex, mIf_0 hex, mIf_0 hex]; exact hP1
    refine W.eq (g2 := F0 m 7 ls []) rfl ?_
    refine mw_iconst hx hb dL_setMoon_7 ?_
    exact mw_gret hx hb hr hlocks dL_setMoon_8 (by unfold mK4; rw [if_pos hex]) (by rw [if_pos hex]; exact hS.1) hP2 hS ⟨Nat.le_refl _, Nat.le_refl _⟩
  · have hP2 : va_P D vwCl (mXW h0 a1 a2 cA (mIf (mEx1 ((1 ≤ d ∧ d ≤ 100) ∧ (2 * d ≤ n ∧ n ≤ 100 * d) ∧ -1000 ≤ s9 ∧ s9 ≤ 1000)) (mPut (mPut (mPut v 1 n) 2 d) 3 s9) v) (mIf (mEx1 ((1 ≤ d ∧ d ≤ 100) ∧ (2 * d ≤ n ∧ n ≤ 100 * d) ∧ -1000 ≤ s9 ∧ s9 ≤ 1000)) L L) (mIf (mEx1 ((1 ≤ d ∧ d ≤ 100) ∧ (2 * d ≤ n ∧ n ≤ 100 * d) ∧ -1000 ≤ s9 ∧ s9 ≤ 1000)) P P)) H1 := by rw [mIf_1 (by omega), mIf_1 (by omega), mIf_1 (by omega)]; exact mw_keepP hP hk
    match k, hexk, hes with
    | 0, hexk, hes =>
      cases hes
      refine vx_catch (own := RL) (name := mEA) (E := mEA) hown [] ⟨0, 8, 9, 14⟩ [] htab (fun z hz => nomatch hz) (by decide) (by decide) (hts (.classLink RL 14 mEA) (by decide +kernel)) (va_Nw.use rfl hE.1.2.2.2.2.2.1) hce hcv hcl ?_
      refine lv_astore (lv' := [(4, .ref q9), (0, .ref h0), (1, .int (mI (n))), (2, .int (mI (d))), (3, .int (mI (s9)))]) hx hb dL_setMoon_9 hl (by decide) rfl (fun ls hl => ?_)
      refine mw_ldc hx hb (-99999) (by decide +kernel) hown (hts (.constant RL 16 (-99999)) (by decide +kernel)) dL_setMoon_11 ?_
      exact mw_gret hx hb hr hlocks dL_setMoon_13 (by unfold mK4; rw [if_neg (by omega), if_pos (by omega)]) (by rw [if_neg (by omega)]; exact hg) hP2 hS ⟨Nat.le_refl _, Nat.le_refl _⟩
    | k + 1, hexk, hes => simp at hes

set_option maxHeartbeats 400000 in
set_option maxRecDepth 100000 in
theorem k_setYear (l : Launch) (hfl : l.flags = flags0) (D : va_G) (h0 a1 a2 : Nat) (cA cJ : ClassId) (v : Nat → Int) (L P : Int → Int) (y a b c9 : Int) (hy : mRI y) (ha : mRI a) (hb9 : mRI b) (hc9 : mRI c9) (hok : mOK v L P) (hdis : mDis h0 a1 a2) : mG l yL_setYear wsL_setYear ({ frames := 8, cells := 1, slots := 6, locals := 134 }) [.ref h0, .int (mI (y)), .int (mI (a)), .int (mI (b)), .int (mI (c9))] D (mXW h0 a1 a2 cA v L P) (mTy cA cJ) (mK4 (mEx1 ((100 ≤ y ∧ y ≤ 500) ∧ (1 ≤ c9 ∧ c9 ≤ 400) ∧ (0 ≤ a ∧ a ≤ c9) ∧ 0 ≤ b ∧ b ≤ c9 - 1)) (0) (-99999) (-99999) (-99999)) (if (mEx1 ((100 ≤ y ∧ y ≤ 500) ∧ (1 ≤ c9 ∧ c9 ≤ 400) ∧ (0 ≤ a ∧ a ≤ c9) ∧ 0 ≤ b ∧ b ≤ c9 - 1)) = 0 then 0 else 1) (mXW h0 a1 a2 cA (mIf (mEx1 ((100 ≤ y ∧ y ≤ 500) ∧ (1 ≤ c9 ∧ c9 ≤ 400) ∧ (0 ≤ a ∧ a ≤ c9) ∧ 0 ≤ b ∧ b ≤ c9 - 1)) (mPut (mPut (mPut (mPut v 4 y) 5 a) 6 b) 7 c9) v) (mIf (mEx1 ((100 ≤ y ∧ y ≤ 500) ∧ (1 ≤ c9 ∧ c9 ≤ 400) ∧ (0 ≤ a ∧ a ≤ c9) ∧ 0 ≤ b ∧ b ≤ c9 - 1)) L L) (mIf (mEx1 ((100 ≤ y ∧ y ≤ 500) ∧ (1 ≤ c9 ∧ c9 ≤ 400) ∧ (0 ≤ a ∧ a ≤ c9) ∧ 0 ≤ b ∧ b ≤ c9 - 1)) P P)) (mA3 h0 a1 a2) 1 6 := by
  refine mw_openK (cc := cL_setYear) (maxL := 6) (ret := (some .int)) (hh := [(0, 10, 11, 14)]) (by decide) rfl (Nat.le_of_ble_eq_true rfl) ?_
  intro p e s m below meth c ls hC hr hlocks htab hB hE hN hl
  obtain ⟨hx, hb, hml, hown, hts⟩ := id hC
  obtain ⟨hP, hK⟩ := hB
  have hl : lv_has ls 6 [(0, .ref h0), (1, .int (mI (y))), (2, .int (mI (a))), (3, .int (mI (b))), (4, .int (mI (c9)))] := hl
  refine lv_aload_n hx hb dL_setYear_0 rfl (lv_at hl 0 rfl) ?_
  refine lv_iload_n hx hb dL_setYear_1 rfl (lv_at hl 1 rfl) ?_
  refine lv_iload_n hx hb dL_setYear_2 rfl (lv_at hl 2 rfl) ?_
  refine lv_iload_n hx hb dL_setYear_3 rfl (lv_at hl 3 rfl) ?_
  refine lv_iload hx hb dL_setYear_4 (lv_at hl 4 rfl) ?_
  refine mw_cX (rest := []) (A0 := (mA3 h0 a1 a2)) hC (x_X0_setYear l hfl D h0 a1 a2 cA cJ v L P y a b c9 hy ha hb9 hc9 hok hdis) hE (cwV 4 hts gL_setYear_X0_setYear rfl rfl rfl (by decide +kernel) ⟨Nat.le_of_ble_eq_true rfl, Nat.le_of_ble_eq_true rfl⟩) hK hP (fun _ h => h) rfl rfl hl.1 rfl (Nat.le_of_ble_eq_true rfl) ⟨Nat.le_of_ble_eq_true rfl, Nat.le_of_ble_eq_true rfl⟩ dL_setYear_6 (fun H1 locs1 hex hP1 hS hk => ?_) (fun E ce q9 H1 locs1 k hexk hes hk hS hg hce hcv hcl => ?_)
  · have hP2 : va_P D vwCl (mXW h0 a1 a2 cA (mIf (mEx1 ((100 ≤ y ∧ y ≤ 500) ∧ (1 ≤ c9 ∧ c9 ≤ 400) ∧ (0 ≤ a ∧ a ≤ c9) ∧ 0 ≤ b ∧ b ≤ c9 - 1)) (mPut (mPut (mPut (mPut v 4 y) 5 a) 6 b) 7 c9) v) (mIf (mEx1 ((100 ≤ y ∧ y ≤ 500) ∧ (1 ≤ c9 ∧ c9 ≤ 400) ∧ (0 ≤ a ∧ a ≤ c9) ∧ 0 ≤ b ∧ b ≤ c9 - 1)) L L) (mIf (mEx1 ((100 ≤ y ∧ y ≤ 500) ∧ (1 ≤ c9 ∧ c9 ≤ 400) ∧ (0 ≤ a ∧ a ≤ c9) ∧ 0 ≤ b ∧ b ≤ c9 - 1)) P P)) H1 := by rw [mIf_0 hex, mIf_0 hex, mIf_0 hex]; exact hP1
    refine W.eq (g2 := F0 m 9 ls []) rfl ?_
    refine mw_iconst hx hb dL_setYear_9 ?_
    exact mw_gret hx hb hr hlocks dL_setYear_10 (by unfold mK4; rw [if_pos hex]) (by rw [if_pos hex]; exact hS.1) hP2 hS ⟨Nat.le_refl _, Nat.le_refl _⟩
  · have hP2 : va_P D vwCl (mXW h0 a1 a2 cA (mIf (mEx1 ((100 ≤ y ∧ y ≤ 500) ∧ (1 ≤ c9 ∧ c9 ≤ 400) ∧ (0 ≤ a ∧ a ≤ c9) ∧ 0 ≤ b ∧ b ≤ c9 - 1)) (mPut (mPut (mPut (mPut v 4 y) 5 a) 6 b) 7 c9) v) (mIf (mEx1 ((100 ≤ y ∧ y ≤ 500) ∧ (1 ≤ c9 ∧ c9 ≤ 400) ∧ (0 ≤ a ∧ a ≤ c9) ∧ 0 ≤ b ∧ b ≤ c9 - 1)) L L) (mIf (mEx1 ((100 ≤ y ∧ y ≤ 500) ∧ (1 ≤ c9 ∧ c9 ≤ 400) ∧ (0 ≤ a ∧ a ≤ c9) ∧ 0 ≤ b ∧ b ≤ c9 - 1)) P P)) H1 := by rw [mIf_1 (by omega), mIf_1 (by omega), mIf_1 (by omega)]; exact mw_keepP hP hk
    match k, hexk, hes with
    | 0, hexk, hes =>
      cases hes
      refine vx_catch (own := RL) (name := mEA) (E := mEA) hown [] ⟨0, 10, 11, 14⟩ [] htab (fun z hz => nomatch hz) (by decide) (by decide) (hts (.classLink RL 14 mEA) (by decide +kernel)) (va_Nw.use rfl hE.1.2.2.2.2.2.1) hce hcv hcl ?_
      refine lv_astore (lv' := [(5, .ref q9), (0, .ref h0), (1, .int (mI (y))), (2, .int (mI (a))), (3, .int (mI (b))), (4, .int (mI (c9)))]) hx hb dL_setYear_11 hl (by decide) rfl (fun ls hl => ?_)
      refine mw_ldc hx hb (-99999) (by decide +kernel) hown (hts (.constant RL 16 (-99999)) (by decide +kernel)) dL_setYear_13 ?_
      exact mw_gret hx hb hr hlocks dL_setYear_15 (by unfold mK4; rw [if_neg (by omega), if_pos (by omega)]) (by rw [if_neg (by omega)]; exact hg) hP2 hS ⟨Nat.le_refl _, Nat.le_refl _⟩
    | k + 1, hexk, hes => simp at hes

set_option maxHeartbeats 400000 in
set_option maxRecDepth 100000 in
theorem k_dayOf (l : Launch) (hfl : l.flags = flags0) (D : va_G) (h0 a1 a2 : Nat) (cA cJ : ClassId) (v : Nat → Int) (L P : Int → Int) (y pl : Int) (hy9 : mRI y) (hp9 : mRI pl) (hok : mOK v L P) : mG l yL_dayOf wsL_dayOf ({ frames := 9, cells := 1, slots := 6, locals := 153 }) [.ref h0, .int (mI (y)), .int (mI (pl))] D (mXW h0 a1 a2 cA v L P) (mTy cA cJ) (mK4 (mEx1 (mYear y ∧ 0 ≤ pl ∧ pl < mLen v y)) (mBeg v y + pl) 2000000000 2000000000 2000000000) (if (mEx1 (mYear y ∧ 0 ≤ pl ∧ pl < mLen v y)) = 0 then 0 else 1) (mXW h0 a1 a2 cA v L P) (fun _ => False) 1 6 := by
  refine mw_openK (cc := cL_dayOf) (maxL := 4) (ret := (some .int)) (hh := [(0, 6, 7, 14)]) (by decide) rfl (Nat.le_of_ble_eq_true rfl) ?_
  intro p e s m below meth c ls hC hr hlocks htab hB hE hN hl
  obtain ⟨hx, hb, hml, hown, hts⟩ := id hC
  obtain ⟨hP, hK⟩ := hB
  have hl : lv_has ls 4 [(0, .ref h0), (1, .int (mI (y))), (2, .int (mI (pl)))] := hl
  refine lv_aload_n hx hb dL_dayOf_0 rfl (lv_at hl 0 rfl) ?_
  refine lv_iload_n hx hb dL_dayOf_1 rfl (lv_at hl 1 rfl) ?_
  refine lv_iload_n hx hb dL_dayOf_2 rfl (lv_at hl 2 rfl) ?_
  refine mw_cX (rest := []) (A0 := (fun _ => False)) hC (x_X0_dayOf l hfl D h0 a1 a2 cA cJ v L P y pl hy9 hp9 hok) hE (cwV 2 hts gL_dayOf_X0_dayOf rfl rfl rfl (by decide +kernel) ⟨Nat.le_of_ble_eq_true rfl, Nat.le_of_ble_eq_true rfl⟩) hK hP (fun _ h => h) rfl rfl hl.1 rfl (Nat.le_of_ble_eq_true rfl) ⟨Nat.le_of_ble_eq_true rfl, Nat.le_of_ble_eq_true rfl⟩ dL_dayOf_3 (fun H1 locs1 hex hP1 hS hk => ?_) (fun E ce q9 H1 locs1 k hexk hes hk hS hg hce hcv hcl => ?_)
  · have hP2 : va_P D vwCl (mXW h0 a1 a2 cA v L P) H1 := hP1
    refine W.eq (g2 := F0 m 6 ls [.int (mI (mBeg v y + pl))]) rfl ?_
    exact mw_gret hx hb hr hlocks dL_dayOf_6 (by unfold mK4; rw [if_pos hex]) (by rw [if_pos hex]; exact hS.1) hP2 hS ⟨Nat.le_refl _, Nat.le_refl _⟩
  · have hP2 : va_P D vwCl (mXW h0 a1 a2 cA v L P) H1 := mw_keepP hP hk
    match k, hexk, hes with
    | 0, hexk, hes =>
      cases hes
      refine vx_catch (own := RL) (name := mEA) (E := mEA) hown [] ⟨0, 6, 7, 14⟩ [] htab (fun z hz => nomatch hz) (by decide) (by decide) (hts (.classLink RL 14 mEA) (by decide +kernel)) (va_Nw.use rfl hE.1.2.2.2.2.2.1) hce hcv hcl ?_
      refine lv_astore_n (lv' := [(3, .ref q9), (0, .ref h0), (1, .int (mI (y))), (2, .int (mI (pl)))]) hx hb dL_dayOf_7 rfl hl (by decide) rfl (fun ls hl => ?_)
      refine mw_ldc hx hb (2000000000) (by decide +kernel) hown (hts (.constant RL 35 (2000000000)) (by decide +kernel)) dL_dayOf_8 ?_
      exact mw_gret hx hb hr hlocks dL_dayOf_10 (by unfold mK4; rw [if_neg (by omega), if_pos (by omega)]) (by rw [if_neg (by omega)]; exact hg) hP2 hS ⟨Nat.le_refl _, Nat.le_refl _⟩
    | k + 1, hexk, hes => simp at hes

set_option maxHeartbeats 400000 in
set_option maxRecDepth 100000 in
theorem k_period (l : Launch) (hfl : l.flags = flags0) (D : va_G) (h0 a1 a2 : Nat) (cA cJ : ClassId) (v : Nat → Int) (L P : Int → Int) (z : Int) (hz : mRI z) (hok : mOK v L P) : mG l yL_period wsL_period ({ frames := 9, cells := 1, slots := 6, locals := 153 }) [.ref h0, .int (mI (z))] D (mXW h0 a1 a2 cA v L P) (mTy cA cJ) (mK4 (mEx3 (1 ≤ mPop z 32 ∧ mPop z 32 ≤ 5) (mUsh z (v 0) = 0) (mMts v L P z)) (mSt (mFd L P z 0 (v 0).toNat)) (-99999) (-99999) (-1)) (if (mEx3 (1 ≤ mPop z 32 ∧ mPop z 32 ≤ 5) (mUsh z (v 0) = 0) (mMts v L P z)) = 0 then 0 else 1) (mXW h0 a1 a2 cA v L P) (fun _ => False) 1 6 := by
  refine mw_openK (cc := cL_period) (maxL := 3) (ret := (some .int)) (hh := [(0, 5, 6, 14), (0, 5, 10, 22), (0, 5, 14, 17)]) (by decide) rfl (Nat.le_of_ble_eq_true rfl) ?_
  intro p e s m below meth c ls hC hr hlocks htab hB hE hN hl
  obtain ⟨hx, hb, hml, hown, hts⟩ := id hC
  obtain ⟨hP, hK⟩ := hB
  have hl : lv_has ls 3 [(0, .ref h0), (1, .int (mI (z)))] := hl
  refine lv_aload_n hx hb dL_period_0 rfl (lv_at hl 0 rfl) ?_
  refine lv_iload_n hx hb dL_period_1 rfl (lv_at hl 1 rfl) ?_
  refine mw_cX (rest := []) (A0 := (fun _ => False)) hC (x_X0_period l hfl D h0 a1 a2 cA cJ v L P z hz hok) hE (cwV 1 hts gL_period_X0_period rfl rfl rfl (by decide +kernel) ⟨Nat.le_of_ble_eq_true rfl, Nat.le_of_ble_eq_true rfl⟩) hK hP (fun _ h => h) rfl rfl hl.1 rfl (Nat.le_of_ble_eq_true rfl) ⟨Nat.le_of_ble_eq_true rfl, Nat.le_of_ble_eq_true rfl⟩ dL_period_2 (fun H1 locs1 hex hP1 hS hk => ?_) (fun E ce q9 H1 locs1 k hexk hes hk hS hg hce hcv hcl => ?_)
  · have hP2 : va_P D vwCl (mXW h0 a1 a2 cA v L P) H1 := hP1
    refine W.eq (g2 := F0 m 5 ls [.int (mI (mSt (mFd L P z 0 (v 0).toNat)))]) rfl ?_
    exact mw_gret hx hb hr hlocks dL_period_5 (by unfold mK4; rw [if_pos hex]) (by rw [if_pos hex]; exact hS.1) hP2 hS ⟨Nat.le_refl _, Nat.le_refl _⟩
  · have hP2 : va_P D vwCl (mXW h0 a1 a2 cA v L P) H1 := mw_keepP hP hk
    match k, hexk, hes with
    | 0, hexk, hes =>
      cases hes
      refine vx_catch (own := RL) (name := mEA) (E := mEA) hown [] ⟨0, 5, 6, 14⟩ [⟨0, 5, 10, 22⟩, ⟨0, 5, 14, 17⟩] htab (fun z hz => nomatch hz) (by decide) (by decide) (hts (.classLink RL 14 mEA) (by decide +kernel)) (va_Nw.use rfl hE.1.2.2.2.2.2.1) hce hcv hcl ?_
      refine lv_astore_n (lv' := [(2, .ref q9), (0, .ref h0), (1, .int (mI (z)))]) hx hb dL_period_6 rfl hl (by decide) rfl (fun ls hl => ?_)
      refine mw_ldc hx hb (-99999) (by decide +kernel) hown (hts (.constant RL 16 (-99999)) (by decide +kernel)) dL_period_7 ?_
      exact mw_gret hx hb hr hlocks dL_period_9 (by unfold mK4; rw [if_neg (by omega), if_pos (by omega)]) (by rw [if_neg (by omega)]; exact hg) hP2 hS ⟨Nat.le_refl _, Nat.le_refl _⟩
    | 1, hexk, hes =>
      cases hes
      refine vx_catch (own := RL) (name := mEI) (E := mEI) hown [⟨0, 5, 6, 14⟩] ⟨0, 5, 10, 22⟩ [⟨0, 5, 14, 17⟩] htab (fun z hz => by
        cases List.mem_singleton.mp hz; exact Or.inr ⟨by decide, mEA, hts (.classLink RL 14 mEA) (by decide +kernel), hN.2.2.2.2.1⟩) (by decide) (by decide) (hts (.classLink RL 22 mEI) (by decide +kernel)) (va_Nw.use rfl hE.1.2.2.2.2.2.2.2.1) hce hcv hcl ?_
      refine lv_astore_n (lv' := [(2, .ref q9), (0, .ref h0), (1, .int (mI (z)))]) hx hb dL_period_10 rfl hl (by decide) rfl (fun ls hl => ?_)
      refine mw_ldc hx hb (-99999) (by decide +kernel) hown (hts (.constant RL 16 (-99999)) (by decide +kernel)) dL_period_11 ?_
      exact mw_gret hx hb hr hlocks dL_period_13 (by unfold mK4; rw [if_neg (by omega), if_neg (by omega), if_pos (by omega)]) (by rw [if_neg (by omega)]; exact hg) hP2 hS ⟨Nat.le_refl _, Nat.le_refl _⟩
    | 2, hexk, hes =>
      cases hes
      refine vx_catch (own := RL) (name := mES) (E := mES) hown [⟨0, 5, 6, 14⟩, ⟨0, 5, 10, 22⟩] ⟨0, 5, 14, 17⟩ [] htab (fun z hz => by
        rcases List.mem_cons.mp hz with hz | hz; (cases hz; exact Or.inr ⟨by decide, mEA, hts (.classLink RL 14 mEA) (by decide +kernel), hN.2.2.1⟩); (cases List.mem_singleton.mp hz; exact Or.inr ⟨by decide, mEI, hts (.classLink RL 22 mEI) (by decide +kernel), hN.2.2.2.1⟩)) (by decide) (by decide) (hts (.classLink RL 17 mES) (by decide +kernel)) (va_Nw.use rfl hE.1.2.2.2.2.2.2.1) hce hcv hcl ?_
      refine lv_astore_n (lv' := [(2, .ref q9), (0, .ref h0), (1, .int (mI (z)))]) hx hb dL_period_14 rfl hl (by decide) rfl (fun ls hl => ?_)
      refine mw_iconst hx hb dL_period_15 ?_
      exact mw_gret hx hb hr hlocks dL_period_16 (by unfold mK4; rw [if_neg (by omega), if_neg (by omega), if_neg (by omega)]) (by rw [if_neg (by omega)]; exact hg) hP2 hS ⟨Nat.le_refl _, Nat.le_refl _⟩
    | k + 3, hexk, hes => simp at hes

set_option maxHeartbeats 400000 in
set_option maxRecDepth 100000 in
theorem k_meeting (l : Launch) (hfl : l.flags = flags0) (D : va_G) (h0 a1 a2 : Nat) (cA cJ : ClassId) (v : Nat → Int) (L P : Int → Int) (z d : Int) (hz : mRI z) (hd9 : mRI d) (hok : mOK v L P) : mG l yL_meeting wsL_meeting ({ frames := 9, cells := 1, slots := 6, locals := 156 }) [.ref h0, .int (mI (z)), .int (mI (d))] D (mXW h0 a1 a2 cA v L P) (mTy cA cJ) (mK4 (mEx3 (mDay d ∧ 1 ≤ mPop z 32 ∧ mPop z 32 ≤ 5) (mUsh z (v 0) = 0) (mMts v L P z)) (d + (mD0 (mFd L P z 0 (v 0).toNat) - d) % mSt (mFd L P z 0 (v 0).toNat)) 2000000000 2000000000 1999999999) (if (mEx3 (mDay d ∧ 1 ≤ mPop z 32 ∧ mPop z 32 ≤ 5) (mUsh z (v 0) = 0) (mMts v L P z)) = 0 then 0 else 1) (mXW h0 a1 a2 cA v L P) (fun _ => False) 1 6 := by
  refine mw_openK (cc := cL_meeting) (maxL := 4) (ret := (some .int)) (hh := [(0, 6, 7, 14), (0, 6, 11, 22), (0, 6, 15, 17)]) (by decide) rfl (Nat.le_of_ble_eq_true rfl) ?_
  intro p e s m below meth c ls hC hr hlocks htab hB hE hN hl
  obtain ⟨hx, hb, hml, hown, hts⟩ := id hC
  obtain ⟨hP, hK⟩ := hB
  have hl : lv_has ls 4 [(0, .ref h0), (1, .int (mI (z))), (2, .int (mI (d)))] := hl
  refine lv_aload_n hx hb dL_meeting_0 rfl (lv_at hl 0 rfl) ?_
  refine lv_iload_n hx hb dL_meeting_1 rfl (lv_at hl 1 rfl) ?_
  refine lv_iload_n hx hb dL_meeting_2 rfl (lv_at hl 2 rfl) ?_
  refine mw_cX (rest := []) (A0 := (fun _ => False)) hC (x_X0_meeting l hfl D h0 a1 a2 cA cJ v L P z d hz hd9 hok) hE (cwV 2 hts gL_meeting_X0_meeting rfl rfl rfl (by decide +kernel) ⟨Nat.le_of_ble_eq_true rfl, Nat.le_of_ble_eq_true rfl⟩) hK hP (fun _ h => h) rfl rfl hl.1 rfl (Nat.le_of_ble_eq_true rfl) ⟨Nat.le_of_ble_eq_true rfl, Nat.le_of_ble_eq_true rfl⟩ dL_meeting_3 (fun H1 locs1 hex hP1 hS hk => ?_) (fun E ce q9 H1 locs1 k hexk hes hk hS hg hce hcv hcl => ?_)
  · have hP2 : va_P D vwCl (mXW h0 a1 a2 cA v L P) H1 := hP1
    refine W.eq (g2 := F0 m 6 ls [.int (mI (d + (mD0 (mFd L P z 0 (v 0).toNat) - d) % mSt (mFd L P z 0 (v 0).toNat)))]) rfl ?_
    exact mw_gret hx hb hr hlocks dL_meeting_6 (by unfold mK4; rw [if_pos hex]) (by rw [if_pos hex]; exact hS.1) hP2 hS ⟨Nat.le_refl _, Nat.le_refl _⟩
  · have hP2 : va_P D vwCl (mXW h0 a1 a2 cA v L P) H1 := mw_keepP hP hk
    match k, hexk, hes with
    | 0, hexk, hes =>
      cases hes
      refine vx_catch (own := RL) (name := mEA) (E := mEA) hown [] ⟨0, 6, 7, 14⟩ [⟨0, 6, 11, 22⟩, ⟨0, 6, 15, 17⟩] htab (fun z hz => nomatch hz) (by decide) (by decide) (hts (.classLink RL 14 mEA) (by decide +kernel)) (va_Nw.use rfl hE.1.2.2.2.2.2.1) hce hcv hcl ?_
      refine lv_astore_n (lv' := [(3, .ref q9), (0, .ref h0), (1, .int (mI (z))), (2, .int (mI (d)))]) hx hb dL_meeting_7 rfl hl (by decide) rfl (fun ls hl => ?_)
      refine mw_ldc hx hb (2000000000) (by decide +kernel) hown (hts (.constant RL 35 (2000000000)) (by decide +kernel)) dL_meeting_8 ?_
      exact mw_gret hx hb hr hlocks dL_meeting_10 (by unfold mK4; rw [if_neg (by omega), if_pos (by omega)]) (by rw [if_neg (by omega)]; exact hg) hP2 hS ⟨Nat.le_refl _, Nat.le_refl _⟩
    | 1, hexk, hes =>
      cases hes
      refine vx_catch (own := RL) (name := mEI) (E := mEI) hown [⟨0, 6, 7, 14⟩] ⟨0, 6, 11, 22⟩ [⟨0, 6, 15, 17⟩] htab (fun z hz => by
        cases List.mem_singleton.mp hz; exact Or.inr ⟨by decide, mEA, hts (.classLink RL 14 mEA) (by decide +kernel), hN.2.2.2.2.1⟩) (by decide) (by decide) (hts (.classLink RL 22 mEI) (by decide +kernel)) (va_Nw.use rfl hE.1.2.2.2.2.2.2.2.1) hce hcv hcl ?_
      refine lv_astore_n (lv' := [(3, .ref q9), (0, .ref h0), (1, .int (mI (z))), (2, .int (mI (d)))]) hx hb dL_meeting_11 rfl hl (by decide) rfl (fun ls hl => ?_)
      refine mw_ldc hx hb (2000000000) (by decide +kernel) hown (hts (.constant RL 35 (2000000000)) (by decide +kernel)) dL_meeting_12 ?_
      exact mw_gret hx hb hr hlocks dL_meeting_14 (by unfold mK4; rw [if_neg (by omega), if_neg (by omega), if_pos (by omega)]) (by rw [if_neg (by omega)]; exact hg) hP2 hS ⟨Nat.le_refl _, Nat.le_refl _⟩
    | 2, hexk, hes =>
      cases hes
      refine vx_catch (own := RL) (name := mES) (E := mES) hown [⟨0, 6, 7, 14⟩, ⟨0, 6, 11, 22⟩] ⟨0, 6, 15, 17⟩ [] htab (fun z hz => by
        rcases List.mem_cons.mp hz with hz | hz; (cases hz; exact Or.inr ⟨by decide, mEA, hts (.classLink RL 14 mEA) (by decide +kernel), hN.2.2.1⟩); (cases List.mem_singleton.mp hz; exact Or.inr ⟨by decide, mEI, hts (.classLink RL 22 mEI) (by decide +kernel), hN.2.2.2.1⟩)) (by decide) (by decide) (hts (.classLink RL 17 mES) (by decide +kernel)) (va_Nw.use rfl hE.1.2.2.2.2.2.2.1) hce hcv hcl ?_
      refine lv_astore_n (lv' := [(3, .ref q9), (0, .ref h0), (1, .int (mI (z))), (2, .int (mI (d)))]) hx hb dL_meeting_15 rfl hl (by decide) rfl (fun ls hl => ?_)
      refine mw_ldc hx hb (1999999999) (by decide +kernel) hown (hts (.constant RL 43 (1999999999)) (by decide +kernel)) dL_meeting_16 ?_
      exact mw_gret hx hb hr hlocks dL_meeting_18 (by unfold mK4; rw [if_neg (by omega), if_neg (by omega), if_neg (by omega)]) (by rw [if_neg (by omega)]; exact hg) hP2 hS ⟨Nat.le_refl _, Nat.le_refl _⟩
    | k + 3, hexk, hes => simp at hes
end
