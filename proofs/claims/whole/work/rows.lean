section
-- ===== PART A: goes FIRST, ahead of the names: the tables' words, and 'selects' of the private methods out of them =====
/-- a private method of a class that the tables say can be made, by its rows of tables_1 -/
def lw_okq (q : MethodName × Nat) : Prop := (q.1.cls ≠ "java/lang/invoke/MethodHandle" ∧ q.1.cls ≠ "java/lang/invoke/VarHandle") ∧ Cond.instantiable q.1.cls q.2 ∈ tables_1 ∧ Cond.privateMethod q.1 ∈ tables_1 ∧ Cond.instanceMethod q.1 ∈ tables_1
theorem lw_p0 : lw_okq (⟨"java/lang/Throwable", "fillInStackTrace", "(I)Ljava/lang/Throwable;"⟩, 6) := ⟨⟨by decide +kernel, by decide +kernel⟩, List.mem_of_getElem? (i := 109) (by decide +kernel), List.mem_of_getElem? (i := 107) (by decide +kernel), List.mem_of_getElem? (i := 108) (by decide +kernel)⟩
theorem lw_p1 : lw_okq (⟨"MarketWeeks", "isPlace", "(I)Z"⟩, 10) := ⟨⟨by decide +kernel, by decide +kernel⟩, List.mem_of_getElem? (i := 12) (by decide +kernel), List.mem_of_getElem? (i := 139) (by decide +kernel), List.mem_of_getElem? (i := 140) (by decide +kernel)⟩
theorem lw_p2 : lw_okq (⟨"MarketWeeks", "checkMarket", "(I)V"⟩, 10) := ⟨⟨by decide +kernel, by decide +kernel⟩, List.mem_of_getElem? (i := 12) (by decide +kernel), List.mem_of_getElem? (i := 167) (by decide +kernel), List.mem_of_getElem? (i := 168) (by decide +kernel)⟩
theorem lw_p3 : lw_okq (⟨"MarketWeeks", "placeOf", "(I)I"⟩, 10) := ⟨⟨by decide +kernel, by decide +kernel⟩, List.mem_of_getElem? (i := 12) (by decide +kernel), List.mem_of_getElem? (i := 187) (by decide +kernel), List.mem_of_getElem? (i := 188) (by decide +kernel)⟩
theorem lw_p4 : lw_okq (⟨"MarketWeeks", "lengthOf", "(I)I"⟩, 10) := ⟨⟨by decide +kernel, by decide +kernel⟩, List.mem_of_getElem? (i := 12) (by decide +kernel), List.mem_of_getElem? (i := 191) (by decide +kernel), List.mem_of_getElem? (i := 192) (by decide +kernel)⟩
theorem lw_p5 : lw_okq (⟨"MarketWeeks", "isOn", "(IJ)Z"⟩, 10) := ⟨⟨by decide +kernel, by decide +kernel⟩, List.mem_of_getElem? (i := 12) (by decide +kernel), List.mem_of_getElem? (i := 227) (by decide +kernel), List.mem_of_getElem? (i := 228) (by decide +kernel)⟩
theorem lw_p6 : lw_okq (⟨"MarketWeeks", "countHeld", "(III)I"⟩, 10) := ⟨⟨by decide +kernel, by decide +kernel⟩, List.mem_of_getElem? (i := 12) (by decide +kernel), List.mem_of_getElem? (i := 252) (by decide +kernel), List.mem_of_getElem? (i := 253) (by decide +kernel)⟩
theorem lw_p7 : lw_okq (⟨"MarketWeeks", "setOn", "(I)I"⟩, 10) := ⟨⟨by decide +kernel, by decide +kernel⟩, List.mem_of_getElem? (i := 12) (by decide +kernel), List.mem_of_getElem? (i := 269) (by decide +kernel), List.mem_of_getElem? (i := 270) (by decide +kernel)⟩
theorem lw_p8 : lw_okq (⟨"MarketWeeks", "checkMeetingSet", "(I)V"⟩, 10) := ⟨⟨by decide +kernel, by decide +kernel⟩, List.mem_of_getElem? (i := 12) (by decide +kernel), List.mem_of_getElem? (i := 280) (by decide +kernel), List.mem_of_getElem? (i := 281) (by decide +kernel)⟩
theorem lw_p9 : lw_okq (⟨"MarketWeeks", "checkMarkets", "(I)V"⟩, 10) := ⟨⟨by decide +kernel, by decide +kernel⟩, List.mem_of_getElem? (i := 12) (by decide +kernel), List.mem_of_getElem? (i := 290) (by decide +kernel), List.mem_of_getElem? (i := 291) (by decide +kernel)⟩
theorem lw_p10 : lw_okq (⟨"MarketWeeks", "firstMeeting", "(I)J"⟩, 10) := ⟨⟨by decide +kernel, by decide +kernel⟩, List.mem_of_getElem? (i := 12) (by decide +kernel), List.mem_of_getElem? (i := 295) (by decide +kernel), List.mem_of_getElem? (i := 296) (by decide +kernel)⟩
theorem lw_p11 : lw_okq (⟨"MarketWeeks", "firstHeldInSteps", "(IJJ)J"⟩, 10) := ⟨⟨by decide +kernel, by decide +kernel⟩, List.mem_of_getElem? (i := 12) (by decide +kernel), List.mem_of_getElem? (i := 299) (by decide +kernel), List.mem_of_getElem? (i := 300) (by decide +kernel)⟩
theorem lw_p12 : lw_okq (⟨"MarketWeeks", "commonLength", "(I)J"⟩, 10) := ⟨⟨by decide +kernel, by decide +kernel⟩, List.mem_of_getElem? (i := 12) (by decide +kernel), List.mem_of_getElem? (i := 318) (by decide +kernel), List.mem_of_getElem? (i := 319) (by decide +kernel)⟩
theorem lw_p13 : lw_okq (⟨"MarketWeeks", "lunarDayOf", "(J)J"⟩, 10) := ⟨⟨by decide +kernel, by decide +kernel⟩, List.mem_of_getElem? (i := 12) (by decide +kernel), List.mem_of_getElem? (i := 336) (by decide +kernel), List.mem_of_getElem? (i := 337) (by decide +kernel)⟩
theorem lw_p14 : lw_okq (⟨"MarketWeeks", "moonParts", "(J)J"⟩, 10) := ⟨⟨by decide +kernel, by decide +kernel⟩, List.mem_of_getElem? (i := 12) (by decide +kernel), List.mem_of_getElem? (i := 340) (by decide +kernel), List.mem_of_getElem? (i := 341) (by decide +kernel)⟩
theorem lw_p15 : lw_okq (⟨"MarketWeeks", "yearOf", "(I)I"⟩, 10) := ⟨⟨by decide +kernel, by decide +kernel⟩, List.mem_of_getElem? (i := 12) (by decide +kernel), List.mem_of_getElem? (i := 381) (by decide +kernel), List.mem_of_getElem? (i := 382) (by decide +kernel)⟩
def lw_privs_1 : List (MethodName × Nat) := [(⟨"java/lang/Throwable", "fillInStackTrace", "(I)Ljava/lang/Throwable;"⟩, 6), (⟨"MarketWeeks", "isPlace", "(I)Z"⟩, 10), (⟨"MarketWeeks", "checkMarket", "(I)V"⟩, 10), (⟨"MarketWeeks", "placeOf", "(I)I"⟩, 10), (⟨"MarketWeeks", "lengthOf", "(I)I"⟩, 10), (⟨"MarketWeeks", "isOn", "(IJ)Z"⟩, 10), (⟨"MarketWeeks", "countHeld", "(III)I"⟩, 10), (⟨"MarketWeeks", "setOn", "(I)I"⟩, 10), (⟨"MarketWeeks", "checkMeetingSet", "(I)V"⟩, 10), (⟨"MarketWeeks", "checkMarkets", "(I)V"⟩, 10), (⟨"MarketWeeks", "firstMeeting", "(I)J"⟩, 10), (⟨"MarketWeeks", "firstHeldInSteps", "(IJJ)J"⟩, 10), (⟨"MarketWeeks", "commonLength", "(I)J"⟩, 10), (⟨"MarketWeeks", "lunarDayOf", "(J)J"⟩, 10), (⟨"MarketWeeks", "moonParts", "(J)J"⟩, 10), (⟨"MarketWeeks", "yearOf", "(I)I"⟩, 10)]
theorem lw_r1 : ∀ q ∈ lw_privs_1, lw_okq q := List.forall_mem_cons.mpr ⟨lw_p0, List.forall_mem_cons.mpr ⟨lw_p1, List.forall_mem_cons.mpr ⟨lw_p2, List.forall_mem_cons.mpr ⟨lw_p3, List.forall_mem_cons.mpr ⟨lw_p4, List.forall_mem_cons.mpr ⟨lw_p5, List.forall_mem_cons.mpr ⟨lw_p6, List.forall_mem_cons.mpr ⟨lw_p7, List.forall_mem_cons.mpr ⟨lw_p8, List.forall_mem_cons.mpr ⟨lw_p9, List.forall_mem_cons.mpr ⟨lw_p10, List.forall_mem_cons.mpr ⟨lw_p11, List.forall_mem_cons.mpr ⟨lw_p12, List.forall_mem_cons.mpr ⟨lw_p13, List.forall_mem_cons.mpr ⟨lw_p14, List.forall_mem_cons.mpr ⟨lw_p15, fun _ h => absurd h List.not_mem_nil⟩⟩⟩⟩⟩⟩⟩⟩⟩⟩⟩⟩⟩⟩⟩⟩
theorem lw_p16 : lw_okq (⟨"MarketWeeks", "yearBegin", "(I)I"⟩, 10) := ⟨⟨by decide +kernel, by decide +kernel⟩, List.mem_of_getElem? (i := 12) (by decide +kernel), List.mem_of_getElem? (i := 392) (by decide +kernel), List.mem_of_getElem? (i := 393) (by decide +kernel)⟩
theorem lw_p17 : lw_okq (⟨"MarketWeeks", "hasLeapDay", "(I)Z"⟩, 10) := ⟨⟨by decide +kernel, by decide +kernel⟩, List.mem_of_getElem? (i := 12) (by decide +kernel), List.mem_of_getElem? (i := 406) (by decide +kernel), List.mem_of_getElem? (i := 407) (by decide +kernel)⟩
theorem lw_p18 : lw_okq (⟨"MarketWeeksModel", "goesWell", "(I)Z"⟩, 13) := ⟨⟨by decide +kernel, by decide +kernel⟩, List.mem_of_getElem? (i := 424) (by decide +kernel), List.mem_of_getElem? (i := 482) (by decide +kernel), List.mem_of_getElem? (i := 483) (by decide +kernel)⟩
theorem lw_p19 : lw_okq (⟨"MarketWeeksModel", "isMarket", "(I)Z"⟩, 13) := ⟨⟨by decide +kernel, by decide +kernel⟩, List.mem_of_getElem? (i := 424) (by decide +kernel), List.mem_of_getElem? (i := 490) (by decide +kernel), List.mem_of_getElem? (i := 491) (by decide +kernel)⟩
theorem lw_p20 : lw_okq (⟨"MarketWeeksModel", "holds", "(IJ)Z"⟩, 13) := ⟨⟨by decide +kernel, by decide +kernel⟩, List.mem_of_getElem? (i := 424) (by decide +kernel), List.mem_of_getElem? (i := 525) (by decide +kernel), List.mem_of_getElem? (i := 526) (by decide +kernel)⟩
theorem lw_p21 : lw_okq (⟨"MarketWeeksModel", "from", "(II)I"⟩, 13) := ⟨⟨by decide +kernel, by decide +kernel⟩, List.mem_of_getElem? (i := 424) (by decide +kernel), List.mem_of_getElem? (i := 533) (by decide +kernel), List.mem_of_getElem? (i := 534) (by decide +kernel)⟩
theorem lw_p22 : lw_okq (⟨"MarketWeeksModel", "count", "(IJJ)I"⟩, 13) := ⟨⟨by decide +kernel, by decide +kernel⟩, List.mem_of_getElem? (i := 424) (by decide +kernel), List.mem_of_getElem? (i := 545) (by decide +kernel), List.mem_of_getElem? (i := 546) (by decide +kernel)⟩
theorem lw_p23 : lw_okq (⟨"MarketWeeksModel", "before", "(IJ)J"⟩, 13) := ⟨⟨by decide +kernel, by decide +kernel⟩, List.mem_of_getElem? (i := 424) (by decide +kernel), List.mem_of_getElem? (i := 549) (by decide +kernel), List.mem_of_getElem? (i := 550) (by decide +kernel)⟩
theorem lw_p24 : lw_okq (⟨"MarketWeeksModel", "held", "(I)I"⟩, 13) := ⟨⟨by decide +kernel, by decide +kernel⟩, List.mem_of_getElem? (i := 424) (by decide +kernel), List.mem_of_getElem? (i := 560) (by decide +kernel), List.mem_of_getElem? (i := 561) (by decide +kernel)⟩
theorem lw_p25 : lw_okq (⟨"MarketWeeksModel", "faultOf", "(I)I"⟩, 13) := ⟨⟨by decide +kernel, by decide +kernel⟩, List.mem_of_getElem? (i := 424) (by decide +kernel), List.mem_of_getElem? (i := 568) (by decide +kernel), List.mem_of_getElem? (i := 569) (by decide +kernel)⟩
theorem lw_p26 : lw_okq (⟨"MarketWeeksModel", "find", "(II)Z"⟩, 13) := ⟨⟨by decide +kernel, by decide +kernel⟩, List.mem_of_getElem? (i := 424) (by decide +kernel), List.mem_of_getElem? (i := 576) (by decide +kernel), List.mem_of_getElem? (i := 577) (by decide +kernel)⟩
theorem lw_p27 : lw_okq (⟨"MarketWeeksModel", "lunarOf", "(J)J"⟩, 13) := ⟨⟨by decide +kernel, by decide +kernel⟩, List.mem_of_getElem? (i := 424) (by decide +kernel), List.mem_of_getElem? (i := 593) (by decide +kernel), List.mem_of_getElem? (i := 594) (by decide +kernel)⟩
theorem lw_p28 : lw_okq (⟨"MarketWeeksModel", "monthOf", "(J)J"⟩, 13) := ⟨⟨by decide +kernel, by decide +kernel⟩, List.mem_of_getElem? (i := 424) (by decide +kernel), List.mem_of_getElem? (i := 607) (by decide +kernel), List.mem_of_getElem? (i := 608) (by decide +kernel)⟩
theorem lw_p29 : lw_okq (⟨"MarketWeeksModel", "yearOf", "(I)J"⟩, 13) := ⟨⟨by decide +kernel, by decide +kernel⟩, List.mem_of_getElem? (i := 424) (by decide +kernel), List.mem_of_getElem? (i := 625) (by decide +kernel), List.mem_of_getElem? (i := 626) (by decide +kernel)⟩
theorem lw_p30 : lw_okq (⟨"MarketWeeksModel", "beginOf", "(J)J"⟩, 13) := ⟨⟨by decide +kernel, by decide +kernel⟩, List.mem_of_getElem? (i := 424) (by decide +kernel), List.mem_of_getElem? (i := 629) (by decide +kernel), List.mem_of_getElem? (i := 630) (by decide +kernel)⟩
theorem lw_p31 : lw_okq (⟨"MarketWeeksModel", "leaps", "(J)Z"⟩, 13) := ⟨⟨by decide +kernel, by decide +kernel⟩, List.mem_of_getElem? (i := 424) (by decide +kernel), List.mem_of_getElem? (i := 646) (by decide +kernel), List.mem_of_getElem? (i := 647) (by decide +kernel)⟩
def lw_privs_2 : List (MethodName × Nat) := [(⟨"MarketWeeks", "yearBegin", "(I)I"⟩, 10), (⟨"MarketWeeks", "hasLeapDay", "(I)Z"⟩, 10), (⟨"MarketWeeksModel", "goesWell", "(I)Z"⟩, 13), (⟨"MarketWeeksModel", "isMarket", "(I)Z"⟩, 13), (⟨"MarketWeeksModel", "holds", "(IJ)Z"⟩, 13), (⟨"MarketWeeksModel", "from", "(II)I"⟩, 13), (⟨"MarketWeeksModel", "count", "(IJJ)I"⟩, 13), (⟨"MarketWeeksModel", "before", "(IJ)J"⟩, 13), (⟨"MarketWeeksModel", "held", "(I)I"⟩, 13), (⟨"MarketWeeksModel", "faultOf", "(I)I"⟩, 13), (⟨"MarketWeeksModel", "find", "(II)Z"⟩, 13), (⟨"MarketWeeksModel", "lunarOf", "(J)J"⟩, 13), (⟨"MarketWeeksModel", "monthOf", "(J)J"⟩, 13), (⟨"MarketWeeksModel", "yearOf", "(I)J"⟩, 13), (⟨"MarketWeeksModel", "beginOf", "(J)J"⟩, 13), (⟨"MarketWeeksModel", "leaps", "(J)Z"⟩, 13)]
theorem lw_r2 : ∀ q ∈ lw_privs_2, lw_okq q := List.forall_mem_cons.mpr ⟨lw_p16, List.forall_mem_cons.mpr ⟨lw_p17, List.forall_mem_cons.mpr ⟨lw_p18, List.forall_mem_cons.mpr ⟨lw_p19, List.forall_mem_cons.mpr ⟨lw_p20, List.forall_mem_cons.mpr ⟨lw_p21, List.forall_mem_cons.mpr ⟨lw_p22, List.forall_mem_cons.mpr ⟨lw_p23, List.forall_mem_cons.mpr ⟨lw_p24, List.forall_mem_cons.mpr ⟨lw_p25, List.forall_mem_cons.mpr ⟨lw_p26, List.forall_mem_cons.mpr ⟨lw_p27, List.forall_mem_cons.mpr ⟨lw_p28, List.forall_mem_cons.mpr ⟨lw_p29, List.forall_mem_cons.mpr ⟨lw_p30, List.forall_mem_cons.mpr ⟨lw_p31, fun _ h => absurd h List.not_mem_nil⟩⟩⟩⟩⟩⟩⟩⟩⟩⟩⟩⟩⟩⟩⟩⟩
theorem lw_p32 : lw_okq (⟨"MarketWeeksModel", "lengthOf", "(I)J"⟩, 13) := ⟨⟨by decide +kernel, by decide +kernel⟩, List.mem_of_getElem? (i := 424) (by decide +kernel), List.mem_of_getElem? (i := 654) (by decide +kernel), List.mem_of_getElem? (i := 655) (by decide +kernel)⟩
def lw_privs_3 : List (MethodName × Nat) := [(⟨"MarketWeeksModel", "lengthOf", "(I)J"⟩, 13)]
theorem lw_r3 : ∀ q ∈ lw_privs_3, lw_okq q := List.forall_mem_cons.mpr ⟨lw_p32, fun _ h => absurd h List.not_mem_nil⟩
def lw_privs : List (MethodName × Nat) := lw_privs_1 ++ (lw_privs_2 ++ (lw_privs_3))
def lw_tbl : List Cond := k2_sels lw_privs ++ tables_1
theorem lw_privs_ok : ∀ q ∈ lw_privs, lw_okq q := by
  show ∀ q ∈ lw_privs_1 ++ (lw_privs_2 ++ (lw_privs_3)), lw_okq q
  exact List.forall_mem_append.mpr ⟨lw_r1, List.forall_mem_append.mpr ⟨lw_r2, lw_r3⟩⟩
end
section
/-! ===== BEGIN words of one list among another's, by their places ===== -/
theorem goodIn_r {big : List Cond} (ws : List Cond) (ps : List Nat) (hp : ws = ps.filterMap (fun i => big[i]?)) (h : ws.all goodWord = true) : GoodIn big ws := by
  intro w hw
  have h1 := List.all_eq_true.mp h w hw
  rw [hp] at hw
  obtain ⟨i, -, hi⟩ := List.mem_filterMap.mp hw
  have hm : w ∈ big := by first | exact List.mem_of_getElem? hi | exact List.getElem?_mem hi
  exact ⟨hm, good_of_word h1⟩
theorem goodIn_app {big a b : List Cond} (ha : GoodIn big a) (hb : GoodIn big b) : GoodIn big (a ++ b) := fun w h => (List.mem_append.mp h).elim (ha w) (hb w)
theorem goodIn_ca {big a b : List Cond} {c : Cond} (ha : GoodIn big (c :: a)) (hb : GoodIn big b) : GoodIn big (c :: (a ++ b)) := fun w h => (List.mem_cons.mp h).elim (fun e => ha w (List.mem_cons.mpr (Or.inl e))) (fun h => (List.mem_append.mp h).elim (fun h => ha w (List.mem_cons.mpr (Or.inr h))) (hb w))
theorem goodIn_sub {big ws : List Cond} (hm : ∀ w ∈ ws, w ∈ big) (h : ws.all goodWord = true) : GoodIn big ws := fun w hw => ⟨hm w hw, good_of_word (List.all_eq_true.mp h w hw)⟩
/-! ===== END ===== -/

/-! ===== BEGIN exceptions that leave a method, and their catching by the caller (launches without stack traces) ===== -/
section VXA
/-! The laws vx_back, vx_callV, vx_callS, vx_callSW, vx_throw0, vx_throwS follow proofs of the library, with one case more: JvmDerived/Free/Laws.lean (Back.of_free), Shelf42/LK1.lean (callV, callS), Shelf/KitTraced.lean (throwNew0V, throwNewS). -/
/-- where a method has thrown q: the class by its name, the cell, what was written, the world -/
def vx_T (XC : String → State → State → Prop) (st : State) (q : Addr) (t : State) (mc ms : Nat) (free : Addr → Prop) : Prop :=
  ∃ (E : String) (ce : Cell) (L : List Loc), XC E st t ∧ t.heap[q]? = some ce ∧ ce.vm = .none ∧ st.vm.findClass E = some ce.cls ∧ st.WarmedH t.vm ∧ st.sameButNew ({ t with vm := st.vm } : State) L mc ms ∧ ∀ z ∈ L, free z.base
def vx_Q (Qc : Array Value → State → Outcome → State → Prop) (XC : String → State → State → Prop) (mc ms : Nat) (free : Addr → Prop) : Array Value → State → Outcome → State → Prop := fun a st o t =>
  (Qc a st o t ∧ ∃ L, FrameEnd st o t L mc ms ∧ ∀ q ∈ L, free q.base) ∨ ∃ q, o = .threw q ∧ vx_T XC st q t mc ms free
/-- a callee that returns or throws -/
def vx_Met (l : Launch) (y : MethodName) (ws : List Cond) (rm : Room) (Pc : Array Value → State → Prop) (Qc : Array Value → State → Outcome → State → Prop) (XC : String → State → State → Prop) (mc ms : Nat) (free : Addr → Prop) : Prop :=
  MetFree l y (headSpec ws rm) Pc (fun _ _ _ _ _ => True) (vx_Q Qc XC mc ms free)
def vx_Post (XC : String → State → State → Prop) (mc ms : Nat) (free : Addr → Prop) : Pt → Array Value → Addr → Pt → Prop := fun A a q B =>
  ∃ (g : JFrame) (mk : MethodId) (t : State) (L : List Loc) (E : String) (ce : Cell), B.U.heap = t.heap ∧ B.U.vm = t.vm ∧ XC E (A.U.calling g mk a) t ∧ t.heap[q]? = some ce ∧ ce.vm = .none ∧ A.U.vm.findClass E = some ce.cls ∧ B.locs = A.locs ++ L ∧ (∀ z ∈ L, free z.base) ∧ B.cells = A.cells + mc ∧ B.slots = A.slots + ms
def vx_Back (l : Launch) (R : Room) (p : Program) (e : Env) (below : List Frame) (s : State) (sargs : Array Value) (y : MethodName) (len W9 : Nat)
    (Pre : Pt → Array Value → Prop) (Post : Pt → Array Value → Option Value → Pt → Prop) (PostX : Pt → Array Value → Addr → Pt → Prop) : Prop :=
  ∀ (m : MethodId) (meth : Method) (c : Code) (A : Pt) (g : JFrame) (ig : Instr) (mk : MethodId) (a : Array Value),
    Stand p l e R s m sargs below meth c A.U A.locs A.cells A.slots → g.method = m → g.locals.size = c.maxLocals → decode c.code g.pc = .ok (ig, len) →
    2 * g.monitorRoom + (g.stack.map fun v => v.category).sum ≤ W9 → A.U.methodNamed? y = some mk → Pre A a →
    (∃ (v : Option Value) (B : Pt), Stand p l e R s m sargs below meth c B.U B.locs B.cells B.slots ∧ Post A a v B ∧
      Steps p.tables e below (doInvoke e (A.U.setTop g) [] mk a).1 (B.U.setTop { g with pc := g.pc + len, stack := v.toList ++ g.stack })) ∨
    (∃ (q : Addr) (B : Pt), Stand p l e R s m sargs below meth c B.U B.locs B.cells B.slots ∧ PostX A a q B ∧
      Steps p.tables e below (doInvoke e (A.U.setTop g) [] mk a).1 ((B.U.setTop g).pushFrame (.throwing q)))
section Payer
variable {l : Launch} {R : Room} {p : Program} {e : Env} {below : List Frame} {s : State} {sargs : Array Value} {y : MethodName} {len W9 : Nat}
theorem vx_back {ws : List Cond} {rm : Room} {Pc : Array Value → State → Prop} {Qc : Array Value → State → Outcome → State → Prop} {XC : String → State → State → Prop} {mc ms : Nat} {free : Addr → Prop} {bytes : ByteArray} {maxL : Nat} {ret : Option FieldType}
    (hM : vx_Met l y ws rm Pc Qc XC mc ms free) (hblind : FrameBlind Pc) (hrc : rm.cells = mc) (hrs : rm.slots = ms)
    (hframes : rm.frames + 1 ≤ R.frames) (hlocals : W9 + (maxL + 11) + rm.locals ≤ R.locals)
    (hws : ∀ w ∈ ws, ∀ a' U, s.WarmedH U.vm → w.before a' U = true) (hcode : Cond.code y bytes maxL ret ∈ ws) (hinit : ∀ a' U, s.WarmedH U.vm → (Cond.initialized y.cls).before a' U = true) :
    vx_Back l R p e below s sargs y len W9 (PreOf R mc ms Pc) (PostOf Qc mc ms free) (vx_Post XC mc ms free) := by
  intro m meth c A g ig mk a X hg hsize hdg hW hn hp
  have h1 : (headSpec ws rm).pre.before a A.U = true := atoms_intro fun w hw => hws w hw _ _ X.warmed
  have h2 : (Cond.code y bytes maxL ret).before a A.U = true := hws _ hcode _ _ X.warmed
  have h3 : (Cond.initialized y.cls).before a A.U = true := hinit _ _ X.warmed
  have h4 : A.cells + (headSpec ws rm).room.cells ≤ R.cells := by rw [show (headSpec ws rm).room.cells = mc from hrc]; exact hp.1
  have h5 : A.slots + (headSpec ws rm).room.slots ≤ R.slots := by rw [show (headSpec ws rm).room.slots = ms from hrs]; exact hp.2.1
  have hPc : Pc a (A.U.calling g mk a) := hblind _ _ _ _ hp.2.2
  obtain ⟨U, Ls, c0, s0⟩ := A
  dsimp only [Pt.U, Pt.locs, Pt.cells, Pt.slots] at h1 h2 h3 h4 h5 X hn hPc ⊢
  obtain ⟨methY, cY, hmY, hcY, -, hlY, -, -, -, -⟩ := Cond.code_spec hn h2
  obtain ⟨kY, hkY, -⟩ := className_of_methodNamed hn
  have hinitY : kY.init = .initialized := Cond.initialized_spec (findClass_of_methodNamed hn) hkY h3
  have h : At U g.method c below := by rw [hg]; exact X.here
  have hlocals9 : W9 + (maxL + 11) + (headSpec ws rm).room.locals ≤ R.locals := hlocals
  have happ : (headSpec ws rm).appliesLoose y e.platform (U.calling g mk a) = true :=
    Spec.appliesLoose_calling (g := g) h hdg hn hkY hinitY
      (X.room_calling (g := g) (R' := (headSpec ws rm).room) hsize hmY hcY hframes (by rw [hlY]; omega) h4 h5) h1
  obtain ⟨mid, hmid⟩ := h.above
  have hfr : (U.setTop g).frames = (.java g :: mid) ++ below := by rw [State.frames_setTop' g h.top, hmid]; rfl
  obtain ⟨o, s₂, hsteps, -, hend, hq⟩ := Steps.callFree hM p X.admits X.cas X.clock (acts := []) hfr happ hPc trivial
  have hq' : vx_Q Qc XC mc ms free a (U.calling g mk a) o s₂ := hq
  rw [State.frames_setTop' g h.top] at hend
  obtain ⟨g₀, hg0⟩ := Option.isSome_iff_exists.mp h.top
  obtain ⟨r, hr⟩ := State.topJava?_eq_some.mp hg0
  have hr' : (({ U with heap := s₂.heap, slotsUsed := s₂.slotsUsed } : State).setVm s₂.vm).frames = .java g₀ :: r := hr
  rcases hq' with ⟨hqc, L, hfe, hL⟩ | ⟨q, rfl, E, ce, L, hx, hce, hcv, hcl, hW₂, hsm, hL⟩
  · obtain ⟨⟨v, rfl⟩, hW₂, e2, q2, q3, q4, q5, q6⟩ := id hfe
    have e3 : s₂ = ({ (U.calling g mk a).setFrames s₂.frames with heap := s₂.heap, slotsUsed := s₂.slotsUsed } : State).setVm s₂.vm := by
      have : s₂ = ({ s₂ with vm := (U.calling g mk a).vm } : State).setVm s₂.vm := rfl
      rw [e2] at this
      exact this
    obtain ⟨c₂, i₂, len₂, hc₂, hd₂, hf₂⟩ := hend
    have hW' : U.WarmedH s₂.vm := hW₂
    have hcc : c₂ = c := by
      have h1 : s₂.code? g.method = U.code? g.method := by
        rw [State.code?_eq, State.code?_eq, hW'.alike.method?]
      exact Option.some.inj (hc₂.symm.trans (h1.trans h.code))
    subst hcc
    have hlen : len₂ = len := by rw [hdg] at hd₂; cases hd₂; rfl
    subst hlen
    have hs₂ : s₂ = (({ U with heap := s₂.heap, slotsUsed := s₂.slotsUsed } : State).setVm s₂.vm).setTop { g with pc := g.pc + len₂, stack := v.toList ++ g.stack } := by
      refine e3.trans ?_
      rw [hf₂, State.calling_eq h.top, State.setFrames_setFrames, State.setTop_of_frames _ hr', hr]
      rfl
    have hsame : U.sameButNew ({ U with heap := s₂.heap, slotsUsed := s₂.slotsUsed } : State) L mc ms := by
      refine ⟨?_, q2, q3, q4, q5, q6⟩
      obtain ⟨t, ht, -⟩ := State.frames_cons hr
      show ({ U with heap := s₂.heap, slotsUsed := s₂.slotsUsed } : State) = { U.setFrames U.frames with heap := s₂.heap, slotsUsed := s₂.slotsUsed }
      rw [State.setFrames_self ht]
    subst hg
    refine Or.inl ⟨v, ⟨(({ U with heap := s₂.heap, slotsUsed := s₂.slotsUsed } : State).setVm s₂.vm), Ls ++ L, c0 + mc, s0 + ms⟩,
      ⟨X.admits, X.cas, X.clock, X.frames, X.room, X.hears, X.method, X.code, (X.here.setHeapUsed s₂.heap s₂.slotsUsed).setVm hW'.alike, X.tail, State.WarmedH.trans X.warmed hW', X.limits, X.bytes, X.same.trans (hsame.setVm s.vm)⟩,
      ⟨g, mk, s₂, L, rfl, rfl, hqc, rfl, hL, rfl, rfl⟩, ?_⟩
    show Steps p.tables e below _ ((({ U with heap := s₂.heap, slotsUsed := s₂.slotsUsed } : State).setVm s₂.vm).setTop { g with pc := g.pc + len₂, stack := v.toList ++ g.stack })
    rw [← hs₂]
    exact hsteps
  · obtain ⟨e2, q2, q3, q4, q5, q6⟩ := id hsm
    have e3 : s₂ = ({ (U.calling g mk a).setFrames s₂.frames with heap := s₂.heap, slotsUsed := s₂.slotsUsed } : State).setVm s₂.vm := by
      have : s₂ = ({ s₂ with vm := (U.calling g mk a).vm } : State).setVm s₂.vm := rfl
      rw [e2] at this
      exact this
    have hf₂ : s₂.frames = .throwing q :: .java g :: U.frames.tail := hend
    have hW' : U.WarmedH s₂.vm := hW₂
    have hs₂ : s₂ = ((({ U with heap := s₂.heap, slotsUsed := s₂.slotsUsed } : State).setVm s₂.vm).setTop g).pushFrame (.throwing q) := by
      refine e3.trans ?_
      rw [hf₂, State.calling_eq h.top, State.setFrames_setFrames, State.pushFrame, State.frames_setTop _ hr', State.setTop_of_frames _ hr', State.setFrames_setFrames, hr]
      rfl
    have hsame : U.sameButNew ({ U with heap := s₂.heap, slotsUsed := s₂.slotsUsed } : State) L mc ms := by
      refine ⟨?_, q2, q3, q4, q5, q6⟩
      obtain ⟨t, ht, -⟩ := State.frames_cons hr
      show ({ U with heap := s₂.heap, slotsUsed := s₂.slotsUsed } : State) = { U.setFrames U.frames with heap := s₂.heap, slotsUsed := s₂.slotsUsed }
      rw [State.setFrames_self ht]
    subst hg
    refine Or.inr ⟨q, ⟨(({ U with heap := s₂.heap, slotsUsed := s₂.slotsUsed } : State).setVm s₂.vm), Ls ++ L, c0 + mc, s0 + ms⟩,
      ⟨X.admits, X.cas, X.clock, X.frames, X.room, X.hears, X.method, X.code, (X.here.setHeapUsed s₂.heap s₂.slotsUsed).setVm hW'.alike, X.tail, State.WarmedH.trans X.warmed hW', X.limits, X.bytes, X.same.trans (hsame.setVm s.vm)⟩,
      ⟨g, mk, s₂, L, E, ce, rfl, rfl, hx, hce, hcv, hcl, rfl, hL, rfl, rfl⟩, ?_⟩
    show Steps p.tables e below _ (((({ U with heap := s₂.heap, slotsUsed := s₂.slotsUsed } : State).setVm s₂.vm).setTop g).pushFrame (.throwing q))
    rw [← hs₂]
    exact hsteps
end Payer
section Calls
variable {p : Program} {l : Launch} {e : Env} {R : Room} {s : State} {m : MethodId} {args : Array Value} {below : List Frame} {meth : Method} {c : Code} {T : State} {locs : List Loc} {cells slots : Nat}
theorem vx_callV (X : Stand p l e R s m args below meth c T locs cells slots) (hexec : p.tables.exec = Jvm.exec) {own C : String} {index : Nat} {y : MethodName} {bytes : ByteArray} {maxL : Nat} {ret : Option FieldType}
    (hown : s.vm.findClass own = some m.cls) (hlink : (Cond.methodLink own index y).before args s = true) (hinst : (Cond.instanceMethod y).before args s = true) (hsel : (Cond.selects C y y).before args s = true)
    (hcode : (Cond.code y bytes maxL ret).before args s = true) (hy : y.cls ≠ "java/lang/invoke/MethodHandle" ∧ y.cls ≠ "java/lang/invoke/VarHandle")
    {W9 : Nat} {Pre : Pt → Array Value → Prop} {Post : Pt → Array Value → Option Value → Pt → Prop} {PostX : Pt → Array Value → Addr → Pt → Prop} (hK : vx_Back l R p e below s args y 3 W9 Pre Post PostX)
    {b : Addr} {cellB : Cell} (hcell : T.heap[b]? = some cellB) (hobj : cellB.vm.isStatics = false) (hcls : s.vm.findClass C = some cellB.cls)
    {g : JFrame} (hg : g.method = m) (hsize : g.locals.size = c.maxLocals) {argsL rest : List Value} (hlen : ∀ sig, parseMethodDescriptor y.desc = some sig → argsL.length = sig.parameters.length)
    (hstack : g.stack = argsL.reverse ++ .ref b :: rest) (hW : 2 * g.monitorRoom + (rest.map fun v => v.category).sum ≤ W9) (hdg : decode c.code g.pc = .ok (.invokevirtual index, 3))
    (hpre : ∀ vm₁, s.WarmedH vm₁ → Pre ⟨T.setVm vm₁, locs, cells, slots⟩ (Value.ref b :: argsL).toArray) :
    (∃ (v : Option Value) (vm₁ : Vm) (B : Pt), s.WarmedH vm₁ ∧ Stand p l e R s m args below meth c B.U B.locs B.cells B.slots ∧ Post ⟨T.setVm vm₁, locs, cells, slots⟩ (Value.ref b :: argsL).toArray v B ∧
      ∀ target, Steps p.tables e below (B.U.setTop { g with pc := g.pc + 3, stack := v.toList ++ rest }) target → Steps p.tables e below (T.setTop g) target) ∨
    (∃ (q : Addr) (vm₁ : Vm) (B : Pt), s.WarmedH vm₁ ∧ Stand p l e R s m args below meth c B.U B.locs B.cells B.slots ∧ PostX ⟨T.setVm vm₁, locs, cells, slots⟩ (Value.ref b :: argsL).toArray q B ∧
      Steps p.tables e below (T.setTop g) ((B.U.setTop { g with stack := rest }).pushFrame (.throwing q))) := by
  obtain ⟨mk, methM, hnamed, hmethM, hstM, habM⟩ := Cond.instanceMethod_spec hinst
  obtain ⟨methM', cM, hmethM', -, -, -, -, -, -, hsigM⟩ := Cond.code_spec hnamed hcode
  cases hmethM.symm.trans hmethM'
  obtain ⟨c2, r2, m2, q1, q2, q3, q4, kP, hkP, hkPi⟩ := Cond.selects_spec hsel
  cases hcls.symm.trans q1
  cases (State.methodFound?_of_named hnamed hy).symm.trans q2
  cases hnamed.symm.trans q3
  have hselP : selectMethod e.platform s.vm cellB.cls mk = .method mk := by rw [Launch.admits_selectMethod X.admits]; exact q4
  obtain ⟨vm₁, X₁, hstep₁⟩ := X.invokevirtual hexec hown hlink hnamed hmethM hstM hkP hkPi hy (a := b) (cell := cellB) hcell
    (fun z h => by rw [h] at hobj; cases hobj) hselP hmethM habM hkP hkPi (g := g) hg (argsL := argsL) (rest := rest) (hlen _ hsigM) hstack hdg
  rcases hK m meth c ⟨T.setVm vm₁, locs, cells, slots⟩ { g with stack := rest } (.invokevirtual index) mk (Value.ref b :: argsL).toArray X₁ hg hsize hdg hW (X₁.named hnamed) (hpre vm₁ X₁.warmed) with ⟨v, B, X', hpost, hsteps⟩ | ⟨q, B, X', hpost, hsteps⟩
  · exact Or.inl ⟨v, vm₁, B, X₁.warmed, X', hpost, fun target h => hstep₁ _ fun acts => by rw [doInvoke_state]; exact hsteps.trans h⟩
  · exact Or.inr ⟨q, vm₁, B, X₁.warmed, X', hpost, hstep₁ _ fun acts => by rw [doInvoke_state]; exact hsteps⟩
theorem vx_callS (X : Stand p l e R s m args below meth c T locs cells slots) (hexec : p.tables.exec = Jvm.exec) {own : String} {index : Nat} {y : MethodName} {bytes : ByteArray} {maxL : Nat} {ret : Option FieldType}
    (hown : s.vm.findClass own = some m.cls) (hlink : (Cond.methodLink own index y).before args s = true) (hstat : (Cond.static y).before args s = true) (hinit : (Cond.initialized y.cls).before args s = true)
    (hcode : (Cond.code y bytes maxL ret).before args s = true) (hy : y.cls ≠ "java/lang/invoke/MethodHandle" ∧ y.cls ≠ "java/lang/invoke/VarHandle")
    {W9 : Nat} {Pre : Pt → Array Value → Prop} {Post : Pt → Array Value → Option Value → Pt → Prop} {PostX : Pt → Array Value → Addr → Pt → Prop} (hK : vx_Back l R p e below s args y 3 W9 Pre Post PostX)
    {g : JFrame} (hg : g.method = m) (hsize : g.locals.size = c.maxLocals) {argsL rest : List Value} (hlen : ∀ sig, parseMethodDescriptor y.desc = some sig → argsL.length = sig.parameters.length)
    (hstack : g.stack = argsL.reverse ++ rest) (hW : 2 * g.monitorRoom + (rest.map fun v => v.category).sum ≤ W9) (hdg : decode c.code g.pc = .ok (.invokestatic index, 3))
    (hpre : ∀ vm₁, s.WarmedH vm₁ → Pre ⟨T.setVm vm₁, locs, cells, slots⟩ argsL.toArray) :
    (∃ (v : Option Value) (vm₁ : Vm) (B : Pt), s.WarmedH vm₁ ∧ Stand p l e R s m args below meth c B.U B.locs B.cells B.slots ∧ Post ⟨T.setVm vm₁, locs, cells, slots⟩ argsL.toArray v B ∧
      ∀ target, Steps p.tables e below (B.U.setTop { g with pc := g.pc + 3, stack := v.toList ++ rest }) target → Steps p.tables e below (T.setTop g) target) ∨
    (∃ (q : Addr) (vm₁ : Vm) (B : Pt), s.WarmedH vm₁ ∧ Stand p l e R s m args below meth c B.U B.locs B.cells B.slots ∧ PostX ⟨T.setVm vm₁, locs, cells, slots⟩ argsL.toArray q B ∧
      Steps p.tables e below (T.setTop g) ((B.U.setTop { g with stack := rest }).pushFrame (.throwing q))) := by
  obtain ⟨mk, hnamed⟩ := Cond.code_named hcode
  obtain ⟨methM, cM, hmethM, -, -, -, -, -, -, hsigM⟩ := Cond.code_spec hnamed hcode
  have hstatic : methM.isStatic = true := Cond.static_spec hnamed hmethM hstat
  obtain ⟨kP, hkP, -⟩ := className_of_methodNamed hnamed
  have hinitP : kP.init = .initialized := Cond.initialized_spec (findClass_of_methodNamed hnamed) hkP hinit
  obtain ⟨vm₁, X₁, hstep₁⟩ := X.invokestatic hexec hown hlink hnamed hmethM hstatic hkP hinitP hy (g := g) hg (argsL := argsL) (rest := rest) (hlen _ hsigM) hstack hdg
  rcases hK m meth c ⟨T.setVm vm₁, locs, cells, slots⟩ { g with stack := rest } (.invokestatic index) mk argsL.toArray X₁ hg hsize hdg hW (X₁.named hnamed) (hpre vm₁ X₁.warmed) with ⟨v, B, X', hpost, hsteps⟩ | ⟨q, B, X', hpost, hsteps⟩
  · exact Or.inl ⟨v, vm₁, B, X₁.warmed, X', hpost, fun target h => hstep₁ _ fun acts => by rw [doInvoke_state]; exact hsteps.trans h⟩
  · exact Or.inr ⟨q, vm₁, B, X₁.warmed, X', hpost, hstep₁ _ fun acts => by rw [doInvoke_state]; exact hsteps⟩
end Calls
theorem vx_cls {s : State} {T : State} {vm₁ : Vm} {E : String} {k : ClassId} (hW : s.WarmedH vm₁) (h : (T.setVm vm₁).vm.findClass E = some k) : s.vm.findClass E = some k := by
  have h1 : vm₁.findClass E = some k := h
  rw [hW.alike.findClass] at h1
  exact h1
/-- the method's frame g, with q thrown over it -/
def vx_W (p : Program) (l : Launch) (e : Env) (R : Room) (s : State) (m : MethodId) (args : Array Value) (below : List Frame) (meth : Method) (c : Code) (H : Heap) (locs : List Loc) (cells slots : Nat) (Q : State → Prop) (g : JFrame) (q : Addr) : Prop :=
  ∀ T : State, T.heap = H → Stand p l e R s m args below meth c T locs cells slots → ∃ t, Steps p.tables e below ((T.setTop g).pushFrame (.throwing q)) t ∧ Q t
def vx_Run (p : Program) (l : Launch) (e : Env) (R : Room) (s : State) (m : MethodId) (args : Array Value) (below : List Frame) (meth : Method) (c : Code) (H : Heap) (locs : List Loc) (cells slots mc ms : Nat) (g : JFrame) (rest : List Value) (Qa : State → Outcome → State → Prop) (XC : String → State → State → Prop) (free : Addr → Prop) : Prop :=
  ∀ T : State, T.heap = H → Stand p l e R s m args below meth c T locs cells slots →
    (∃ (v : Option Value) (st₀ t T' : State) (L : List Loc), st₀.heap = H ∧ Stand p l e R s m args below meth c T' (locs ++ L) (cells + mc) (slots + ms) ∧ (∀ q ∈ L, free q.base) ∧ T'.heap = t.heap ∧ T'.vm = t.vm ∧ Qa st₀ (.returned v) t ∧
      Goes p e below T g T' { g with pc := g.pc + 3, stack := v.toList ++ rest }) ∨
    (∃ (q : Addr) (st₀ t T' : State) (L : List Loc) (E : String) (ce : Cell), st₀.heap = H ∧ Stand p l e R s m args below meth c T' (locs ++ L) (cells + mc) (slots + ms) ∧ (∀ z ∈ L, free z.base) ∧ T'.heap = t.heap ∧ T'.vm = t.vm ∧ XC E st₀ t ∧ t.heap[q]? = some ce ∧ ce.vm = .none ∧ s.vm.findClass E = some ce.cls ∧
      Steps p.tables e below (T.setTop g) ((T'.setTop { g with stack := rest }).pushFrame (.throwing q)))
def vx_X {S : Type} (px : S → Prop) (B : String → S → State → Prop) (A : Nat → Prop) : String → State → State → Prop := fun E st t => ∃ u : S, px u ∧ B E u t ∧ va_F A st t
section Runs
variable {p : Program} {l : Launch} {e : Env} {R : Room} {s : State} {m : MethodId} {args : Array Value} {below : List Frame} {meth : Method} {c : Code} {H : Heap} {locs : List Loc} {cells slots : Nat}
variable {y : MethodName} {bytes cc : ByteArray} {maxL nL mc ms n index : Nat} {ret : Option FieldType} {ws : List Cond} {rm : Room} {Pc : Array Value → State → Prop} {Qc : Array Value → State → Outcome → State → Prop} {XC : String → State → State → Prop} {free : Addr → Prop} {Ts : List Cond} {own C : String} {b : Addr} {As rest : List Value} {g : JFrame}
theorem vx_callBack (cb : CallB R s args own index y bytes maxL ret ws rm mc ms n) (hM : vx_Met l y ws rm Pc Qc XC mc ms free) (hbl : FrameBlind Pc) : vx_Back l R p e below s args y 3 8 (PreOf R mc ms Pc) (PostOf Qc mc ms free) (vx_Post XC mc ms free) := by
  obtain ⟨hrc, hrs, hfr, hlo, hws, hcw, -, hini, -⟩ := cb
  exact vx_back (bytes := bytes) (maxL := maxL) (ret := ret) hM hbl hrc hrs hfr hlo hws hcw (fun a' U hW => word_at hW (Or.inl (by first | rfl | simp [Cond.onTables, Cond.keeps, Cond.steady])) hini)
theorem vx_runV (S : CallFix p m c cc nL s args Ts own) (hM : vx_Met l y ws rm Pc Qc XC mc ms free) (cw : CallW R s args own C index y bytes maxL ret ws rm mc ms n) (hp : PreV s H C b Pc As)
    (hg : g.method = m) (hn : As.length = n) (hsize : g.locals.size = nL) (hstack : g.stack = As.reverse ++ .ref b :: rest) (hW : 2 * g.monitorRoom + (rest.map fun v => v.category).sum ≤ 8) (hdg : decode cc g.pc = .ok (.invokevirtual index, 3)) (hf : cells + mc ≤ R.cells ∧ slots + ms ≤ R.slots) :
    vx_Run p l e R s m args below meth c H locs cells slots mc ms g rest (Qc (Value.ref b :: As).toArray) XC free := by
  have hK : vx_Back l R p e below s args y 3 8 (PreOf R mc ms Pc) (PostOf Qc mc ms free) (vx_Post XC mc ms free) := vx_callBack cw.1 hM hp.1
  obtain ⟨⟨-, -, -, -, -, -, hcode, -, hy, hlen, hl⟩, hin, hse⟩ := cw
  obtain ⟨hx, hb, hml, ho, -⟩ := S
  obtain ⟨-, ⟨cellB, hcB, hoB, hclB⟩, hPc⟩ := hp
  intro T hT X
  rcases vx_callV X hx (C := C) (bytes := bytes) (maxL := maxL) (ret := ret) ho hl hin hse hcode hy hK (by rw [hT]; exact hcB) hoB hclB hg (hsize.trans hml.symm) (argsL := As) (rest := rest) (fun sig h => hn.trans (hlen sig h)) hstack hW (by rw [hb]; exact hdg)
    (fun vm₁ hW₁ => ⟨hf.1, hf.2, hPc (T.setVm vm₁) hT hW₁⟩) with ⟨v, vm₁, ⟨U', l2, c2, s2⟩, hW₁, X', ⟨g', mk, t, L, e1, e2, hq, h1, hL, h2, h3⟩, st⟩ | ⟨q, vm₁, ⟨U', l2, c2, s2⟩, hW₁, X', ⟨g', mk, t, L, E, ce, e1, e2, hq, hce, hcv, hcl, h1, hL, h2, h3⟩, st⟩
  · dsimp only [Pt.U, Pt.locs, Pt.cells, Pt.slots] at X' e1 e2 h1 h2 h3 st
    subst h1; subst h2; subst h3
    exact Or.inl ⟨v, (T.setVm vm₁).calling g' mk (Value.ref b :: As).toArray, t, U', L, hT, X', hL, e1, e2, hq, st⟩
  · dsimp only [Pt.U, Pt.locs, Pt.cells, Pt.slots] at X' e1 e2 h1 h2 h3 st hcl
    subst h1; subst h2; subst h3
    exact Or.inr ⟨q, (T.setVm vm₁).calling g' mk (Value.ref b :: As).toArray, t, U', L, E, ce, hT, X', hL, e1, e2, hq, hce, hcv, vx_cls hW₁ hcl, st⟩
theorem vx_runS (S : CallFix p m c cc nL s args Ts own) (hM : vx_Met l y ws rm Pc Qc XC mc ms free) (cw : CallB R s args own index y bytes maxL ret ws rm mc ms n ∧ (Cond.static y).before args s = true) (hp : PreS s H Pc As)
    (hg : g.method = m) (hn : As.length = n) (hsize : g.locals.size = nL) (hstack : g.stack = As.reverse ++ rest) (hW : 2 * g.monitorRoom + (rest.map fun v => v.category).sum ≤ 8) (hdg : decode cc g.pc = .ok (.invokestatic index, 3)) (hf : cells + mc ≤ R.cells ∧ slots + ms ≤ R.slots) :
    vx_Run p l e R s m args below meth c H locs cells slots mc ms g rest (Qc As.toArray) XC free := by
  have hK : vx_Back l R p e below s args y 3 8 (PreOf R mc ms Pc) (PostOf Qc mc ms free) (vx_Post XC mc ms free) := vx_callBack cw.1 hM hp.1
  obtain ⟨⟨-, -, -, -, -, -, hcode, hini, hy, hlen, hl⟩, hstt⟩ := cw
  obtain ⟨hx, hb, hml, ho, -⟩ := S
  intro T hT X
  rcases vx_callS X hx (bytes := bytes) (maxL := maxL) (ret := ret) ho hl hstt hini hcode hy hK hg (hsize.trans hml.symm) (argsL := As) (rest := rest) (fun sig h => hn.trans (hlen sig h)) hstack hW (by rw [hb]; exact hdg)
    (fun vm₁ hW₁ => ⟨hf.1, hf.2, hp.2 (T.setVm vm₁) hT hW₁⟩) with ⟨v, vm₁, ⟨U', l2, c2, s2⟩, hW₁, X', ⟨g', mk, t, L, e1, e2, hq, h1, hL, h2, h3⟩, st⟩ | ⟨q, vm₁, ⟨U', l2, c2, s2⟩, hW₁, X', ⟨g', mk, t, L, E, ce, e1, e2, hq, hce, hcv, hcl, h1, hL, h2, h3⟩, st⟩
  · dsimp only [Pt.U, Pt.locs, Pt.cells, Pt.slots] at X' e1 e2 h1 h2 h3 st
    subst h1; subst h2; subst h3
    exact Or.inl ⟨v, (T.setVm vm₁).calling g' mk As.toArray, t, U', L, hT, X', hL, e1, e2, hq, st⟩
  · dsimp only [Pt.U, Pt.locs, Pt.cells, Pt.slots] at X' e1 e2 h1 h2 h3 st hcl
    subst h1; subst h2; subst h3
    exact Or.inr ⟨q, (T.setVm vm₁).calling g' mk As.toArray, t, U', L, E, ce, hT, X', hL, e1, e2, hq, hce, hcv, vx_cls hW₁ hcl, st⟩
end Runs
section Rows
variable {p : Program} {l : Launch} {e : Env} {R : Room} {s : State} {m : MethodId} {args : Array Value} {below : List Frame} {meth : Method} {c : Code} {H : Heap} {locs : List Loc} {cells slots : Nat} {Q : State → Prop}
variable {mc ms : Nat} {free : Addr → Prop} {A0 A1 : Nat → Prop} {H0 : Heap} {a : Array Value} {pc : Nat} {ls : Array Slot} {st0 rest : List Value}
theorem vx_keep {st₀ t T' : State} {L : List Loc} (h0 : st₀.heap = H) (e1 : T'.heap = t.heap) (hS : va_S A0 H0 H locs) (hA : ∀ q, q < H.size → A1 q → A0 q) (hf : ∀ q, free q → A0 q) (hL : ∀ q ∈ L, free q.base) (hF : va_F A1 st₀ t) :
    H.size ≤ T'.heap.size ∧ (∀ q : Nat, q < H.size → ¬ A1 q → T'.heap[q]? = H[q]?) ∧ va_S A0 H0 T'.heap (locs ++ L) := by
  obtain ⟨hz, hk⟩ := hF
  rw [h0] at hz hk
  exact ⟨by rw [e1]; exact hz, fun q h1 h2 => by rw [e1]; exact hk q h1 h2,
    ⟨Nat.le_trans hS.1 (by rw [e1]; exact hz), fun q h1 h2 => by rw [e1, hk q (Nat.lt_of_lt_of_le h1 hS.1) (fun z => h2 (hA q (Nat.lt_of_lt_of_le h1 hS.1) z))]; exact hS.2.1 q h1 h2, fun q hq => by
      rcases List.mem_append.mp hq with h | h
      · exact hS.2.2 q h
      · exact hf _ (hL q h)⟩⟩
theorem vx_calli {S SX : Type} {post : Int32 → S → Prop} {px : SX → Prop} {B : S → State → Prop} {BX : String → SX → State → Prop} {AX : Nat → Prop} (hr : vx_Run p l e R s m args below meth c H locs cells slots mc ms (F0 m pc ls st0) rest (va_Qi post B A1 a) (vx_X px BX AX) free) (hS : va_S A0 H0 H locs) (hA : ∀ q, q < H.size → A1 q → A0 q) (hf : ∀ q, free q → A0 q) (hAX : ∀ q, q < H.size → AX q → A0 q)
    (kx : ∀ (E : String) (ce : Cell) (q9 : Addr) (u : SX) (t : State) (H1 : Heap) (locs1 : List Loc), t.heap = H1 → s.vm.Alike t.vm → px u → BX E u t → H.size ≤ H1.size → (∀ q : Nat, q < H.size → ¬ AX q → H1[q]? = H[q]?) → va_S A0 H0 H1 locs1 → H1[q9]? = some ce → ce.vm = .none → s.vm.findClass E = some ce.cls → vx_W p l e R s m args below meth c H1 locs1 (cells + mc) (slots + ms) Q (F0 m pc ls rest) q9)
    (kk : ∀ (r : Int32) (u : S) (t : State) (H1 : Heap) (locs1 : List Loc), t.heap = H1 → s.vm.Alike t.vm → post r u → B u t → H.size ≤ H1.size → (∀ q : Nat, q < H.size → ¬ A1 q → H1[q]? = H[q]?) → va_S A0 H0 H1 locs1 → W p l e R s m args below meth c H1 locs1 (cells + mc) (slots + ms) Q (F0 m (pc + 3) ls (.int r :: rest))) : W p l e R s m args below meth c H locs cells slots Q (F0 m pc ls st0) := by
  intro T hT X
  rcases hr T hT X with ⟨v, st₀, t, T', L, h0, X', hL, e1, e2, ⟨⟨r, u, hv, hp, hb⟩, hF⟩, st⟩ | ⟨q, st₀, t, T', L, E, ce, h0, X', hL, e1, e2, ⟨u, hp, hb, hF⟩, hce, hcv, hcl, st⟩
  · cases hv
    obtain ⟨k1, k2, k3⟩ := vx_keep h0 e1 hS hA hf hL hF
    obtain ⟨t2, a1, b1⟩ := kk r u t T'.heap (locs ++ L) e1.symm (by rw [← e2]; exact X'.warmed.alike) hp hb k1 k2 k3 T' rfl X'
    exact ⟨t2, st t2 a1, b1⟩
  · obtain ⟨k1, k2, k3⟩ := vx_keep h0 e1 hS hAX hf hL hF
    obtain ⟨t2, a1, b1⟩ := kx E ce q u t T'.heap (locs ++ L) e1.symm (by rw [← e2]; exact X'.warmed.alike) hp hb k1 k2 k3 (by rw [e1]; exact hce) hcv hcl T' rfl X'
    exact ⟨t2, st.trans a1, b1⟩
theorem vx_calll {S SX : Type} {post : Int64 → S → Prop} {px : SX → Prop} {B : S → State → Prop} {BX : String → SX → State → Prop} {AX : Nat → Prop} (hr : vx_Run p l e R s m args below meth c H locs cells slots mc ms (F0 m pc ls st0) rest (va_Ql post B A1 a) (vx_X px BX AX) free) (hS : va_S A0 H0 H locs) (hA : ∀ q, q < H.size → A1 q → A0 q) (hf : ∀ q, free q → A0 q) (hAX : ∀ q, q < H.size → AX q → A0 q)
    (kx : ∀ (E : String) (ce : Cell) (q9 : Addr) (u : SX) (t : State) (H1 : Heap) (locs1 : List Loc), t.heap = H1 → s.vm.Alike t.vm → px u → BX E u t → H.size ≤ H1.size → (∀ q : Nat, q < H.size → ¬ AX q → H1[q]? = H[q]?) → va_S A0 H0 H1 locs1 → H1[q9]? = some ce → ce.vm = .none → s.vm.findClass E = some ce.cls → vx_W p l e R s m args below meth c H1 locs1 (cells + mc) (slots + ms) Q (F0 m pc ls rest) q9)
    (kk : ∀ (r : Int64) (u : S) (t : State) (H1 : Heap) (locs1 : List Loc), t.heap = H1 → s.vm.Alike t.vm → post r u → B u t → H.size ≤ H1.size → (∀ q : Nat, q < H.size → ¬ A1 q → H1[q]? = H[q]?) → va_S A0 H0 H1 locs1 → W p l e R s m args below meth c H1 locs1 (cells + mc) (slots + ms) Q (F0 m (pc + 3) ls (.long r :: rest))) : W p l e R s m args below meth c H locs cells slots Q (F0 m pc ls st0) := by
  intro T hT X
  rcases hr T hT X with ⟨v, st₀, t, T', L, h0, X', hL, e1, e2, ⟨⟨r, u, hv, hp, hb⟩, hF⟩, st⟩ | ⟨q, st₀, t, T', L, E, ce, h0, X', hL, e1, e2, ⟨u, hp, hb, hF⟩, hce, hcv, hcl, st⟩
  · cases hv
    obtain ⟨k1, k2, k3⟩ := vx_keep h0 e1 hS hA hf hL hF
    obtain ⟨t2, a1, b1⟩ := kk r u t T'.heap (locs ++ L) e1.symm (by rw [← e2]; exact X'.warmed.alike) hp hb k1 k2 k3 T' rfl X'
    exact ⟨t2, st t2 a1, b1⟩
  · obtain ⟨k1, k2, k3⟩ := vx_keep h0 e1 hS hAX hf hL hF
    obtain ⟨t2, a1, b1⟩ := kx E ce q u t T'.heap (locs ++ L) e1.symm (by rw [← e2]; exact X'.warmed.alike) hp hb k1 k2 k3 (by rw [e1]; exact hce) hcv hcl T' rfl X'
    exact ⟨t2, st.trans a1, b1⟩
theorem vx_callf {S SX : Type} {post : UInt32 → S → Prop} {px : SX → Prop} {B : S → State → Prop} {BX : String → SX → State → Prop} {AX : Nat → Prop} (hr : vx_Run p l e R s m args below meth c H locs cells slots mc ms (F0 m pc ls st0) rest (va_Qf post B A1 a) (vx_X px BX AX) free) (hS : va_S A0 H0 H locs) (hA : ∀ q, q < H.size → A1 q → A0 q) (hf : ∀ q, free q → A0 q) (hAX : ∀ q, q < H.size → AX q → A0 q)
    (kx : ∀ (E : String) (ce : Cell) (q9 : Addr) (u : SX) (t : State) (H1 : Heap) (locs1 : List Loc), t.heap = H1 → s.vm.Alike t.vm → px u → BX E u t → H.size ≤ H1.size → (∀ q : Nat, q < H.size → ¬ AX q → H1[q]? = H[q]?) → va_S A0 H0 H1 locs1 → H1[q9]? = some ce → ce.vm = .none → s.vm.findClass E = some ce.cls → vx_W p l e R s m args below meth c H1 locs1 (cells + mc) (slots + ms) Q (F0 m pc ls rest) q9)
    (kk : ∀ (r : UInt32) (u : S) (t : State) (H1 : Heap) (locs1 : List Loc), t.heap = H1 → s.vm.Alike t.vm → post r u → B u t → H.size ≤ H1.size → (∀ q : Nat, q < H.size → ¬ A1 q → H1[q]? = H[q]?) → va_S A0 H0 H1 locs1 → W p l e R s m args below meth c H1 locs1 (cells + mc) (slots + ms) Q (F0 m (pc + 3) ls (.float r :: rest))) : W p l e R s m args below meth c H locs cells slots Q (F0 m pc ls st0) := by
  intro T hT X
  rcases hr T hT X with ⟨v, st₀, t, T', L, h0, X', hL, e1, e2, ⟨⟨r, u, hv, hp, hb⟩, hF⟩, st⟩ | ⟨q, st₀, t, T', L, E, ce, h0, X', hL, e1, e2, ⟨u, hp, hb, hF⟩, hce, hcv, hcl, st⟩
  · cases hv
    obtain ⟨k1, k2, k3⟩ := vx_keep h0 e1 hS hA hf hL hF
    obtain ⟨t2, a1, b1⟩ := kk r u t T'.heap (locs ++ L) e1.symm (by rw [← e2]; exact X'.warmed.alike) hp hb k1 k2 k3 T' rfl X'
    exact ⟨t2, st t2 a1, b1⟩
  · obtain ⟨k1, k2, k3⟩ := vx_keep h0 e1 hS hAX hf hL hF
    obtain ⟨t2, a1, b1⟩ := kx E ce q u t T'.heap (locs ++ L) e1.symm (by rw [← e2]; exact X'.warmed.alike) hp hb k1 k2 k3 (by rw [e1]; exact hce) hcv hcl T' rfl X'
    exact ⟨t2, st.trans a1, b1⟩
theorem vx_calld {S SX : Type} {post : UInt64 → S → Prop} {px : SX → Prop} {B : S → State → Prop} {BX : String → SX → State → Prop} {AX : Nat → Prop} (hr : vx_Run p l e R s m args below meth c H locs cells slots mc ms (F0 m pc ls st0) rest (va_Qd post B A1 a) (vx_X px BX AX) free) (hS : va_S A0 H0 H locs) (hA : ∀ q, q < H.size → A1 q → A0 q) (hf : ∀ q, free q → A0 q) (hAX : ∀ q, q < H.size → AX q → A0 q)
    (kx : ∀ (E : String) (ce : Cell) (q9 : Addr) (u : SX) (t : State) (H1 : Heap) (locs1 : List Loc), t.heap = H1 → s.vm.Alike t.vm → px u → BX E u t → H.size ≤ H1.size → (∀ q : Nat, q < H.size → ¬ AX q → H1[q]? = H[q]?) → va_S A0 H0 H1 locs1 → H1[q9]? = some ce → ce.vm = .none → s.vm.findClass E = some ce.cls → vx_W p l e R s m args below meth c H1 locs1 (cells + mc) (slots + ms) Q (F0 m pc ls rest) q9)
    (kk : ∀ (r : UInt64) (u : S) (t : State) (H1 : Heap) (locs1 : List Loc), t.heap = H1 → s.vm.Alike t.vm → post r u → B u t → H.size ≤ H1.size → (∀ q : Nat, q < H.size → ¬ A1 q → H1[q]? = H[q]?) → va_S A0 H0 H1 locs1 → W p l e R s m args below meth c H1 locs1 (cells + mc) (slots + ms) Q (F0 m (pc + 3) ls (.double r :: rest))) : W p l e R s m args below meth c H locs cells slots Q (F0 m pc ls st0) := by
  intro T hT X
  rcases hr T hT X with ⟨v, st₀, t, T', L, h0, X', hL, e1, e2, ⟨⟨r, u, hv, hp, hb⟩, hF⟩, st⟩ | ⟨q, st₀, t, T', L, E, ce, h0, X', hL, e1, e2, ⟨u, hp, hb, hF⟩, hce, hcv, hcl, st⟩
  · cases hv
    obtain ⟨k1, k2, k3⟩ := vx_keep h0 e1 hS hA hf hL hF
    obtain ⟨t2, a1, b1⟩ := kk r u t T'.heap (locs ++ L) e1.symm (by rw [← e2]; exact X'.warmed.alike) hp hb k1 k2 k3 T' rfl X'
    exact ⟨t2, st t2 a1, b1⟩
  · obtain ⟨k1, k2, k3⟩ := vx_keep h0 e1 hS hAX hf hL hF
    obtain ⟨t2, a1, b1⟩ := kx E ce q u t T'.heap (locs ++ L) e1.symm (by rw [← e2]; exact X'.warmed.alike) hp hb k1 k2 k3 (by rw [e1]; exact hce) hcv hcl T' rfl X'
    exact ⟨t2, st.trans a1, b1⟩
theorem vx_callv {S SX : Type} {post : S → Prop} {px : SX → Prop} {B : S → State → Prop} {BX : String → SX → State → Prop} {AX : Nat → Prop} (hr : vx_Run p l e R s m args below meth c H locs cells slots mc ms (F0 m pc ls st0) rest (va_Qv post B A1 a) (vx_X px BX AX) free) (hS : va_S A0 H0 H locs) (hA : ∀ q, q < H.size → A1 q → A0 q) (hf : ∀ q, free q → A0 q) (hAX : ∀ q, q < H.size → AX q → A0 q)
    (kx : ∀ (E : String) (ce : Cell) (q9 : Addr) (u : SX) (t : State) (H1 : Heap) (locs1 : List Loc), t.heap = H1 → s.vm.Alike t.vm → px u → BX E u t → H.size ≤ H1.size → (∀ q : Nat, q < H.size → ¬ AX q → H1[q]? = H[q]?) → va_S A0 H0 H1 locs1 → H1[q9]? = some ce → ce.vm = .none → s.vm.findClass E = some ce.cls → vx_W p l e R s m args below meth c H1 locs1 (cells + mc) (slots + ms) Q (F0 m pc ls rest) q9)
    (kk : ∀ (u : S) (t : State) (H1 : Heap) (locs1 : List Loc), t.heap = H1 → s.vm.Alike t.vm → post u → B u t → H.size ≤ H1.size → (∀ q : Nat, q < H.size → ¬ A1 q → H1[q]? = H[q]?) → va_S A0 H0 H1 locs1 → W p l e R s m args below meth c H1 locs1 (cells + mc) (slots + ms) Q (F0 m (pc + 3) ls (rest))) : W p l e R s m args below meth c H locs cells slots Q (F0 m pc ls st0) := by
  intro T hT X
  rcases hr T hT X with ⟨v, st₀, t, T', L, h0, X', hL, e1, e2, ⟨⟨u, hv, hp, hb⟩, hF⟩, st⟩ | ⟨q, st₀, t, T', L, E, ce, h0, X', hL, e1, e2, ⟨u, hp, hb, hF⟩, hce, hcv, hcl, st⟩
  · cases hv
    obtain ⟨k1, k2, k3⟩ := vx_keep h0 e1 hS hA hf hL hF
    obtain ⟨t2, a1, b1⟩ := kk u t T'.heap (locs ++ L) e1.symm (by rw [← e2]; exact X'.warmed.alike) hp hb k1 k2 k3 T' rfl X'
    exact ⟨t2, st t2 a1, b1⟩
  · obtain ⟨k1, k2, k3⟩ := vx_keep h0 e1 hS hAX hf hL hF
    obtain ⟨t2, a1, b1⟩ := kx E ce q u t T'.heap (locs ++ L) e1.symm (by rw [← e2]; exact X'.warmed.alike) hp hb k1 k2 k3 (by rw [e1]; exact hce) hcv hcl T' rfl X'
    exact ⟨t2, st.trans a1, b1⟩
/-- caught by the row x of this method's table; the rows ahead don't take it -/
theorem vx_catch {own name : String} {E : String} {ce : Cell} {q : Addr} (hown : s.vm.findClass own = some m.cls) (pre : List ExceptionTableEntry) (x : ExceptionTableEntry) (suf : List ExceptionTableEntry) (hsplit : c.exceptionTable.toList = pre ++ x :: suf)
    (hpass : ∀ z ∈ pre, covers z pc = false ∨ (z.catchType ≠ 0 ∧ ∃ nm : String, (Cond.classLink own z.catchType nm).before args s = true ∧ va_Nc E nm s)) (hx : covers x pc = true) (h0 : x.catchType ≠ 0)
    (hlink : (Cond.classLink own x.catchType name).before args s = true) (hcast : (Cond.castable E name).before args s = true) (hcell : H[q]? = some ce) (hv : ce.vm = .none) (hcl : s.vm.findClass E = some ce.cls)
    (kk : W p l e R s m args below meth c H locs cells slots Q (F0 m x.handlerPc ls [.ref q])) : vx_W p l e R s m args below meth c H locs cells slots Q (F0 m pc ls rest) q := by
  intro T hT X
  have hpl : e.platform.magicAccessors = ({} : Platform).magicAccessors := by rw [X.admits.platform]
  obtain ⟨c3, c4, hc3, hc4, hasg⟩ := Cond.castable_spec hcast
  cases Option.some.inj (hc3.symm.trans hcl)
  obtain ⟨c5, hc5, hcl5⟩ := Cond.classLink_spec hown hlink e.platform hpl
  cases Option.some.inj (hc4.symm.trans hc5)
  obtain ⟨vm', X', st⟩ := X.thenCaughtThrough q (g := F0 m pc ls rest) rfl (Steps.refl _) (by rw [hT]; exact hcell) (by rw [hv]; rfl) (by obtain ⟨k9, h9, -⟩ := Vm.findClass_spec hcl; exact ⟨k9, h9⟩) pre x suf hsplit
    (fun z hz => by
      rcases hpass z hz with h | ⟨hz0, nm, hl1, hn1⟩
      · exact Or.inl h
      · obtain ⟨c6, hc6, hcl6⟩ := Cond.classLink_spec hown hl1 e.platform hpl
        obtain ⟨a8, b8, h1, h2, h3⟩ := hn1
        cases Option.some.inj (h1.symm.trans hcl)
        cases Option.some.inj (h2.symm.trans hc6)
        exact Or.inr ⟨hz0, _, hcl6, h3⟩) hx (Or.inr ⟨h0, c4, hcl5, hasg⟩)
  obtain ⟨t, a1, b1⟩ := kk (T.setVm vm') hT X'
  exact ⟨t, st.trans a1, b1⟩
end Rows
section Ends
variable {p : Program} {l : Launch} {e : Env} {R : Room} {s : State} {m : MethodId} {args : Array Value} {below : List Frame} {meth : Method} {c : Code} {H : Heap} {locs : List Loc} {cells slots : Nat} {Q : State → Prop}
variable {mc ms : Nat} {free : Addr → Prop} {A0 A1 : Nat → Prop} {H0 : Heap} {a : Array Value} {ls : Array Slot} {st0 rest : List Value}
variable {Qc : Array Value → State → Outcome → State → Prop} {XC : String → State → State → Prop}
/-- what a body that may throw owes at its end -/
def vx_MQ (below : List Frame) (Qc : Array Value → State → Outcome → State → Prop) (XC : String → State → State → Prop) (a : Array Value) (s : State) (mc ms : Nat) (free : Addr → Prop) : State → Prop := fun t =>
  ∃ o, t.status = .running ∧ Ended t below o ∧ vx_Q Qc XC mc ms free a s o t
theorem vx_ret {g : JFrame} {mc ms : Nat} (k : W p l e R s m args below meth c H locs cells slots (MQ below Qc args s mc ms free) g) : W p l e R s m args below meth c H locs cells slots (vx_MQ below Qc XC args s mc ms free) g := by
  intro T hT X
  obtain ⟨t, a1, o, b1, b2, b3, b4⟩ := k T hT X
  exact ⟨t, a1, o, b1, b2, Or.inl ⟨b3, b4⟩⟩
/-- not caught here: it goes on to the caller -/
theorem vx_widen {g : JFrame} {q : Addr} {k n : Nat} (h1 : cells ≤ k) (h2 : slots ≤ n) (kk : vx_W p l e R s m args below meth c H locs k n Q g q) : vx_W p l e R s m args below meth c H locs cells slots Q g q := fun T hT X => kk T hT (stand_widen X h1 h2)
theorem vx_out {pc : Nat} {E : String} {ce : Cell} {q : Addr} {mc ms : Nat} (hout : ∀ x ∈ c.exceptionTable.toList, covers x pc = false) (hlocks : meth.locks = false) (hcell : H[q]? = some ce) (hv : ce.vm = .none) (hcl : s.vm.findClass E = some ce.cls)
    (hx : ∀ t : State, t.heap = H → s.vm.Alike t.vm → XC E s t) (hf : ∀ z ∈ locs, free z.base) (hc : cells ≤ mc) (hs : slots ≤ ms) :
    vx_W p l e R s m args below meth c H locs cells slots (vx_MQ below Qc XC args s mc ms free) (F0 m pc ls rest) q := by
  intro T hT X
  obtain ⟨st1, hrun, hend, hW, hsm⟩ := X.leaveThrown q (g := F0 m pc ls rest) rfl rfl rfl hout hlocks
  have hcell9 : (T.setFrames (.throwing q :: below)).heap[q]? = some ce := by
    show T.heap[q]? = some ce
    rw [hT]; exact hcell
  exact ⟨_, st1, .threw q, hrun, hend, Or.inr ⟨q, rfl, E, ce, locs, hx _ hT hW.alike, hcell9, hv, hcl, hW, hsm.mono hc hs, hf⟩⟩
theorem vx_frame {U : State} {k n : Nat} (h : s.sameButNew ({ U with vm := s.vm } : State) locs k n) : s.heap.size ≤ U.heap.size ∧ ∀ q : Nat, q < s.heap.size → (∀ z ∈ locs, z.base ≠ q) → U.heap[q]? = s.heap[q]? := by
  obtain ⟨-, h2, -, -, -, h6⟩ := h
  refine ⟨h2, fun q hq hz => ?_⟩
  obtain ⟨c9, e1, e2, e3, e4⟩ := h6 q _ (Array.getElem?_eq_getElem hq)
  have hs : c9.slots = (s.heap[q]).slots := Array.ext_getElem? fun i => e4 i fun hm => hz _ hm rfl
  have h9 : c9 = s.heap[q] := by
    rw [hs] at e2
    exact e2
  have e5 : U.heap[q]? = some c9 := e1
  rw [e5, h9, Array.getElem?_eq_getElem hq]
/-- the words of a throw but the four that speak of the heap -/
def vx_no (w : Cond) : Bool := decide (w ≠ .isRef (.static Bundle.tN "UNASSIGNED_STACK" Bundle.steD)) && decide (w ≠ .isRef (.static Bundle.tN "SUPPRESSED_SENTINEL" Bundle.listD)) && decide (w ≠ .laysStatic Bundle.tN "UNASSIGNED_STACK" Bundle.steD) && decide (w ≠ .laysStatic Bundle.tN "SUPPRESSED_SENTINEL" Bundle.listD)
def vx_at0 (own : String) (ic : Nat) (X : String) (names : List String) : List Cond := (Bundle.ownAtoms0 own ic X names).filter vx_no
def vx_atS (own : String) (ic : Nat) (X : String) (names : List String) : List Cond := (Bundle.ownAtoms own ic X names).filter vx_no
/-- a word that the tables alone decide, or a good one -/
def vx_ot (w : Cond) : Bool := w.onTables || goodWord w
theorem vx_ot_at {args a' : Array Value} {s U : State} {w : Cond} (hW : s.WarmedH U.vm) (hvm : s.vm = U.vm) (hg : vx_ot w = true) (h : w.before args s = true) : w.before a' U = true := by
  simp only [vx_ot, Bool.or_eq_true] at hg
  rcases hg with hg | hg
  · exact va_tabs hg hvm h
  · exact word_at hW (good_of_word hg) h
/-- a list's words: the good ones out of the method's own list, the others by premises of their own -/
theorem vx_hat {args : Array Value} {s : State} {L B : List Cond} (h1 : ∀ w ∈ L.filter goodWord, w.before args s = true) (h2 : ∀ w ∈ L.filter (fun w => !goodWord w), w ∈ B) (h3 : ∀ w ∈ B, w.before args s = true) : ∀ w ∈ L, w.before args s = true := by
  intro w hw
  by_cases g : goodWord w = true
  · exact h1 w (List.mem_filter.mpr ⟨hw, g⟩)
  · refine h3 w (h2 w (List.mem_filter.mpr ⟨hw, ?_⟩))
    show (!goodWord w) = true
    cases hgw : goodWord w
    · rfl
    · exact absurd hgw g
theorem vx_c {args : Array Value} {s : State} {w : Cond} {B : List Cond} (h : w.before args s = true) (t : ∀ w ∈ B, w.before args s = true) : ∀ w' ∈ w :: B, w'.before args s = true := fun w' h' => (List.mem_cons.mp h').elim (fun e => by rw [e]; exact h) (t w')
theorem vx_n {args : Array Value} {s : State} : ∀ w ∈ ([] : List Cond), w.before args s = true := fun _ h => nomatch h
theorem vx_own {args : Array Value} {s : State} {L : List Cond} (h1 : ∀ w ∈ L.filter vx_no, w.before args s = true)
    (hU : (Cond.isRef (.static Bundle.tN "UNASSIGNED_STACK" Bundle.steD)).before args s = true) (hN : (Cond.isRef (.static Bundle.tN "SUPPRESSED_SENTINEL" Bundle.listD)).before args s = true)
    (lU : (Cond.laysStatic Bundle.tN "UNASSIGNED_STACK" Bundle.steD).before args s = true) (lN : (Cond.laysStatic Bundle.tN "SUPPRESSED_SENTINEL" Bundle.listD).before args s = true) : ∀ w ∈ L, w.before args s = true := by
  intro w hw
  by_cases e1 : w = .isRef (.static Bundle.tN "UNASSIGNED_STACK" Bundle.steD)
  · rw [e1]; exact hU
  · by_cases e2 : w = .isRef (.static Bundle.tN "SUPPRESSED_SENTINEL" Bundle.listD)
    · rw [e2]; exact hN
    · by_cases e3 : w = .laysStatic Bundle.tN "UNASSIGNED_STACK" Bundle.steD
      · rw [e3]; exact lU
      · by_cases e4 : w = .laysStatic Bundle.tN "SUPPRESSED_SENTINEL" Bundle.listD
        · rw [e4]; exact lN
        · exact h1 w (List.mem_filter.mpr ⟨hw, by unfold vx_no; rw [decide_eq_true e1, decide_eq_true e2, decide_eq_true e3, decide_eq_true e4]; rfl⟩)
/-- where a static field lies, its class's statics cell in H -/
def vx_L (C n d : String) (A : Nat → Prop) (U : State) (H : Heap) : Prop := ∃ (c : ClassId) (k : Class) (i : Nat) (f : Field) (a : Nat) (cell : Cell), U.vm.findClass C = some c ∧ U.fieldFound? C n d = some (c, k, i, f) ∧ f.isStatic = true ∧ k.statics = some a ∧ H[a]? = some cell ∧ cell.vm.isStatics = true ∧ cell.cls = c ∧ f.slot < cell.slots.size ∧ k.staticTypes[f.slot]? = some f.type ∧ ¬ A a
theorem vx_L.moved {C n d : String} {A : Nat → Prop} {u U : State} {H : Heap} (hvm : u.vm.Alike U.vm) (h : vx_L C n d A u H) : vx_L C n d A U H := by
  obtain ⟨c, k, i, f, a, cell, h1, h2, h3, h4, h5, h6, h7, h8, h9, h10⟩ := h
  obtain ⟨k', hi', he⟩ := State.fieldFound?_setVm hvm h2
  exact ⟨c, k', i, f, a, cell, by rw [hvm.findClass]; exact h1, hi', h3, by rw [he]; exact h4, h5, h6, h7, h8, by rw [he]; exact h9, h10⟩
theorem vx_L.kept {C n d : String} {A : Nat → Prop} {U : State} {H H1 : Heap} (h : vx_L C n d A U H) (hq : ∀ a : Nat, a < H.size → ¬ A a → H1[a]? = H[a]?) : vx_L C n d A U H1 := by
  obtain ⟨c, k, i, f, a, cell, h1, h2, h3, h4, h5, h6, h7, h8, h9, h10⟩ := h
  exact ⟨c, k, i, f, a, cell, h1, h2, h3, h4, by rw [hq a (Array.getElem?_eq_some_iff.mp h5).1 h10]; exact h5, h6, h7, h8, h9, h10⟩
theorem vx_L.narrow {C n d : String} {A B : Nat → Prop} {U : State} {H : Heap} (h : vx_L C n d A U H) (hAB : ∀ q, B q → A q) : vx_L C n d B U H := by
  obtain ⟨c, k, i, f, a, cell, h1, h2, h3, h4, h5, h6, h7, h8, h9, h10⟩ := h
  exact ⟨c, k, i, f, a, cell, h1, h2, h3, h4, h5, h6, h7, h8, h9, fun z => h10 (hAB _ z)⟩
theorem vx_L.word {C n d : String} {A : Nat → Prop} {s : State} {args : Array Value} (h : vx_L C n d A s s.heap) : (Cond.laysStatic C n d).before args s = true := by
  obtain ⟨c, k, i, f, a, cell, h1, h2, h3, h4, h5, h6, h7, h8, h9, -⟩ := h
  show (Cond.laysStatic C n d).holds args s none s [] = true
  exact Cond.laysStatic_of h1 h2 h3 h4 h5 h6 h7 h8 h9
/-- .. and what it holds: null or some reference -/
def vx_Zq (C n d : String) (A : Nat → Prop) (U : State) (H : Heap) : Prop := va_Zq C n d A U H ∧ vx_L C n d A U H
theorem vx_Zq.moved {C n d : String} {A : Nat → Prop} {u U : State} {H : Heap} (hvm : u.vm.Alike U.vm) (h : vx_Zq C n d A u H) : vx_Zq C n d A U H := ⟨va_Zq.moved hvm h.1, vx_L.moved hvm h.2⟩
theorem vx_Zq.kept {C n d : String} {A : Nat → Prop} {U : State} {H H1 : Heap} (h : vx_Zq C n d A U H) (hq : ∀ a : Nat, a < H.size → ¬ A a → H1[a]? = H[a]?) : vx_Zq C n d A U H1 := ⟨va_Zq.kept h.1 hq, vx_L.kept h.2 hq⟩
theorem vx_Zq.narrow {C n d : String} {A B : Nat → Prop} {U : State} {H : Heap} (h : vx_Zq C n d A U H) (hAB : ∀ q, B q → A q) : vx_Zq C n d B U H := ⟨va_Zq.narrow h.1 hAB, vx_L.narrow h.2 hAB⟩
theorem vx_Zqof {args : Array Value} {s : State} {C n d : String} {A : Nat → Prop} (hl : (Cond.laysStatic C n d).before args s = true) (hini : (Cond.initialized C).before args s = true) (h : (Cond.isRef (.static C n d)).before args s = true) (hA : ∀ a : Nat, a < s.heap.size → ¬ A a) : vx_Zq C n d A s s.heap := by
  refine ⟨va_Zqof hl hini h hA, ?_⟩
  obtain ⟨c, k, i, f, a, cell, h1, h2, h3, h4, h5, h6, h7, h8, h9⟩ := Cond.laysStatic_spec hl
  exact ⟨c, k, i, f, a, cell, h1, h2, h3, h4, h5, h6, h7, h8, h9, hA a (Array.getElem?_eq_some_iff.mp h5).1⟩
theorem vx_isRef {C n d : String} {v : Value} {A : Nat → Prop} {s : State} {args : Array Value} (h : va_Z C n d v A s s.heap) (hv : v.isRef = true) : (Cond.isRef (.static C n d)).before args s = true := by
  obtain ⟨cf, kf, fi, f, a, cell, h1, h2, h3, h4, h5, h6, h7, -⟩ := h
  have he : (Term.static C n d).eval args s none [] s = some v := by
    simp [Term.eval, State.fieldNamed?, h1, h2, h4, h5, h6, h7]
  simp only [Cond.before, Cond.holds, Cond.value, he]
  cases v <;> simp_all [Value.isRef]
theorem vx_isRefq {C n d : String} {A : Nat → Prop} {s : State} {args : Array Value} (h : va_Zq C n d A s s.heap) : (Cond.isRef (.static C n d)).before args s = true := by
  rcases h with h | ⟨t, h⟩
  · exact vx_isRef h rfl
  · exact vx_isRef h rfl
/-- the same frame, seen from here: as if the method were called anew in this heap -/
theorem vx_rebase {T : State} (X : Stand p l e R s m args below meth c T locs cells slots) {R' : Room} (hf : R'.frames ≤ R.frames) (hl : R'.locals ≤ R.locals) (hc : cells + R'.cells ≤ R.cells) (hs : slots + R'.slots ≤ R.slots) :
    Stand p l e R' ((T.setVm s.vm).setFrames (.invoking m args :: below)) m args below meth c T [] 0 0 := by
  have htop : (T.setVm s.vm).topJava?.isSome := X.here.top
  have hF : ((T.setVm s.vm).setFrames (.invoking m args :: below)).frames = .invoking m args :: below := State.frames_setFrames _ (State.cur_lt_of_top htop)
  obtain ⟨g₀, hg0⟩ := Option.isSome_iff_exists.mp htop
  obtain ⟨r, hr⟩ := State.topJava?_eq_some.mp hg0
  have hl9 : e.platform.stackLimits (T.setVm s.vm).me = e.platform.stackLimits s.me := X.limits
  have hb9 : (T.setVm s.vm).me.stackBytes = s.me.stackBytes := X.bytes
  refine ⟨X.admits, X.cas, X.clock, hF, ?_, X.hears, X.method, X.code, X.here, X.tail, X.warmed, ?_, ?_, ?_⟩
  · have h := X.room
    have hU : ((T.setVm s.vm).setFrames (.invoking m args :: below)).localsInUse = s.localsInUse := by
      rw [State.localsInUse_invoking hF (meth := meth) (c := c) X.method X.code, State.localsInUse_invoking X.frames X.method X.code]
    simp only [State.hasRoom, Bool.and_eq_true, decide_eq_true_eq] at h ⊢
    obtain ⟨⟨⟨⟨h1, h2, h3, h4, h5, h6⟩, h7⟩, h8⟩, h9⟩ := h
    rw [X.frames, List.length_cons] at h2 h3
    have q1 := X.heapSize
    have q2 := X.used
    simp only [hF, hU, List.length_cons, State.stackLimits_setFrames, State.stackBytes_setFrames, hl9, hb9]
    refine ⟨⟨⟨⟨by omega, by omega, by omega, by omega, by omega, h6⟩, ?_⟩, ?_⟩, X.book⟩
    · show T.heap.size + R'.cells ≤ e.platform.maxCells
      omega
    · show T.slotsUsed + R'.slots ≤ e.platform.maxSlots
      omega
  · rw [State.stackLimits_setFrames]; rfl
  · rw [State.stackBytes_setFrames]; rfl
  · refine ⟨?_, Nat.le_refl _, Nat.le_refl _, ?_, ?_, fun a c9 h9 => ⟨c9, h9, rfl, rfl, fun _ _ => rfl⟩⟩
    · obtain ⟨t, ht, -⟩ := State.frames_cons hr
      show T.setVm s.vm = { ((T.setVm s.vm).setFrames (.invoking m args :: below)).setFrames (T.setVm s.vm).frames with heap := T.heap, slotsUsed := T.slotsUsed }
      rw [State.setFrames_setFrames, State.setFrames_self ht]
      rfl
    · show T.slotsUsed = T.slotsUsed + ((T.heap.toList.drop T.heap.size).map (·.slots.size)).sum
      rw [List.drop_eq_nil_of_le (Nat.le_of_eq Array.length_toList)]
      rfl
    · show ((T.heap.toList.drop T.heap.size).map (·.slots.size)).sum ≤ 0
      rw [List.drop_eq_nil_of_le (Nat.le_of_eq Array.length_toList)]
      exact Nat.le_refl _
/-- 'throw new E()': new; dup; invokespecial; athrow -/
theorem vx_throw0 {cc : ByteArray} {pc : Nat} (hexec : p.tables.exec = Jvm.exec) (hb : c.code = cc) (hl : l.stackTraces = false) {own cls : String} {names : List String} {ik ic mc ms : Nat} {A : Nat → Prop}
    (hown : s.vm.findClass own = some m.cls) (hcls : Bundle.fit cls = true) (hnames : ∀ n ∈ names, Bundle.fit n = true)
    (hk : (Cond.classLink own ik cls).before args s = true) (hini : (Cond.initialized cls).before args s = true) (hat : ∀ w ∈ vx_at0 own ic cls names, w.before args s = true)
    (hgood : ∀ w ∈ Cond.classLink own ik cls :: Cond.initialized cls :: vx_at0 own ic cls names, vx_ot w = true)
    (hU : vx_Zq Bundle.tN "UNASSIGNED_STACK" Bundle.steD A s s.heap) (hN : vx_Zq Bundle.tN "SUPPRESSED_SENTINEL" Bundle.listD A s s.heap) (hS : va_S A s.heap H locs) (hsize : ls.size = c.maxLocals)
    (d0 : decode cc pc = .ok (.new ik, 3)) (d3 : decode cc (pc + 3) = .ok (.dup, 1)) (d4 : decode cc (pc + 4) = .ok (.invokespecial ic, 3)) (d7 : decode cc (pc + 7) = .ok (.athrow, 1))
    (hout : ∀ x ∈ c.exceptionTable.toList, covers x (pc + 7) = false)
    (hRframes : names.length + 3 < R.frames) (hRlocals : (rest.map fun v => v.category).sum + (13 * (names.length + 1) + 42) ≤ R.locals) (hRcells : cells + 1 ≤ R.cells) (hRslots : slots + 6 ≤ R.slots) (hlocks : meth.locks = false)
    (hx : ∀ t : State, s.vm.Alike t.vm → H.size ≤ t.heap.size → (∀ q : Nat, q < H.size → t.heap[q]? = H[q]?) → XC cls s t)
    (hf : ∀ z ∈ locs, free z.base) (hc : cells + 1 ≤ mc) (hs : slots + 6 ≤ ms) :
    W p l e R s m args below meth c H locs cells slots (vx_MQ below Qc XC args s mc ms free) (F0 m pc ls rest) := by
  intro T hT X
  have htr : e.platform.stackTraces = false := (show e.platform.stackTraces = l.stackTraces by rw [X.admits.platform]).trans hl
  have Y := vx_rebase X (R' := { frames := R.frames, locals := R.locals, cells := 1, slots := 6 }) (Nat.le_refl _) (Nat.le_refl _) hRcells hRslots
  obtain ⟨s', hA⟩ : ∃ z, z = (T.setVm s.vm).setFrames (.invoking m args :: below) := ⟨_, rfl⟩
  rw [← hA] at Y
  have hvm : s'.vm = s.vm := by rw [hA]; rfl
  have hhp : s'.heap = H := by rw [hA]; exact hT
  have hW0 : s.WarmedH s'.vm := by rw [hvm]; exact State.WarmedH.refl s
  have hat' : ∀ w ∈ vx_at0 own ic cls names, w.before args s' = true := fun w hw => vx_ot_at hW0 hvm.symm (hgood w (List.mem_cons_of_mem _ (List.mem_cons_of_mem _ hw))) (hat w hw)
  have hk' : (Cond.classLink own ik cls).before args s' = true := vx_ot_at hW0 hvm.symm (hgood _ List.mem_cons_self) hk
  have hini' : (Cond.initialized cls).before args s' = true := vx_ot_at hW0 hvm.symm (hgood _ (List.mem_cons_of_mem _ List.mem_cons_self)) hini
  have hU' : vx_Zq Bundle.tN "UNASSIGNED_STACK" Bundle.steD A s' s'.heap := by rw [hhp]; exact vx_Zq.moved hW0.alike (hU.kept hS.2.1)
  have hN' : vx_Zq Bundle.tN "SUPPRESSED_SENTINEL" Bundle.listD A s' s'.heap := by rw [hhp]; exact vx_Zq.moved hW0.alike (hN.kept hS.2.1)
  have h : ∀ w ∈ Bundle.ownAtoms0 own ic cls names, w.before args s' = true := vx_own hat' (vx_isRefq hU'.1) (vx_isRefq hN'.1) hU'.2.word hN'.2.word
  have hown' : s'.vm.findClass own = some m.cls := by rw [hvm]; exact hown
  have hins : (Cond.instantiable cls 6).before args s' = true := h _ (by simp [Bundle.ownAtoms0])
  obtain ⟨vm₁, cX, kX, hfX, hkX, -, -, X₁, st1⟩ := Y.newCold hexec (own := own) (C := cls) (index := ik) (n := 6) hown' hk' hins hini'
    (g := F0 m pc ls rest) rfl (by rw [hb]; exact d0) (Nat.le_refl _) (Nat.le_refl _)
  generalize hT1 : (T.setVm vm₁).pushCell { cls := cX, slots := kX.instanceTypes.map defaultValue, vm := .none } = T1 at X₁ st1
  have hcat : (Value.ref T.heap.size).category = 1 := rfl
  have hcellA : T1.heap[T.heap.size]? = some (freshCell cX kX) := by rw [← hT1]; exact State.heap_pushCell_size _ _
  have d3' : decode c.code (pc + 3) = .ok (.dup, 1) := by rw [hb]; exact d3
  obtain ⟨U, hsteps, hrun, hend, hW, hsame, ce, hce, hO⟩ := X₁.ctorThrow0 hexec htr (own := own) (cls := cls) (names := names) (ic := ic) hown' hcls hnames h (fun x hx => nomatch hx) hfX hkX hcellA (by rw [hhp, hT]; exact Nat.le_refl _)
    (g := { method := m, pc := pc + 4, locals := ls, stack := .ref T.heap.size :: .ref T.heap.size :: rest, locked := none }) rfl hsize rfl rfl (rest := rest) rfl
    (by rw [hb]; exact d4) (by rw [hb]; exact d7) hout hRframes (by simp only [List.map_cons, List.sum_cons, hcat]; omega) hlocks
  obtain ⟨f1, f2⟩ := vx_frame hsame
  rw [hhp] at f1 f2
  have hWs : s.WarmedH U.vm := State.WarmedH.trans hW0 hW
  have hcl : s.vm.findClass cls = some ce.cls := by
    have h9 := hO.cls
    rw [hvm] at h9
    exact h9
  have hall : s.sameButNew ({ U with vm := s.vm } : State) locs mc ms := by
    subst hA
    obtain ⟨e1, e2⟩ := hsame
    rw [State.setFrames_setFrames] at e1
    have h2 : (T.setVm s.vm).sameButNew ({ U with vm := s.vm } : State) [] (0 + 1) (0 + 6) := ⟨e1, e2⟩
    have h3 := X.same.trans h2
    rw [List.append_nil] at h3
    exact h3.mono hc hs
  refine ⟨U, ?_, .threw T.heap.size, hrun, hend, Or.inr ⟨T.heap.size, rfl, cls, ce, locs, hx U hWs.alike f1 (fun q hq => f2 q hq (fun z hz => nomatch hz)), hce, hO.vm, hcl, hWs, hall, hf⟩⟩
  refine st1 _ ?_
  show Steps p.tables e below (T1.setTop { method := m, pc := pc + 3, locals := ls, stack := .ref T.heap.size :: rest, locked := none }) _
  jvm_step X₁.here [X₁.here.top, hexec, d3', Value.category]
  exact hsteps
/-- 'throw new E("text")': new; dup; ldc; invokespecial; athrow -/
theorem vx_throwS {cc : ByteArray} {pc : Nat} (hexec : p.tables.exec = Jvm.exec) (hb : c.code = cc) (hl : l.stackTraces = false) {own cls text : String} {names : List String} {ik is ic mc ms sa : Nat} {A : Nat → Prop}
    (hown : s.vm.findClass own = some m.cls) (hcls : Bundle.fit cls = true) (hnames : ∀ n ∈ names, Bundle.fit n = true)
    (hk : (Cond.classLink own ik cls).before args s = true) (hini : (Cond.initialized cls).before args s = true) (hstr : vk_R own is text sa s) (hat : ∀ w ∈ vx_atS own ic cls names, w.before args s = true)
    (hgood : ∀ w ∈ Cond.classLink own ik cls :: Cond.initialized cls :: vx_atS own ic cls names, vx_ot w = true)
    (hU : vx_Zq Bundle.tN "UNASSIGNED_STACK" Bundle.steD A s s.heap) (hN : vx_Zq Bundle.tN "SUPPRESSED_SENTINEL" Bundle.listD A s s.heap) (hS : va_S A s.heap H locs) (hsize : ls.size = c.maxLocals)
    (d0 : decode cc pc = .ok (.new ik, 3)) (d3 : decode cc (pc + 3) = .ok (.dup, 1)) (d4 : decode cc (pc + 4) = .ok (.ldc is, 2)) (d6 : decode cc (pc + 6) = .ok (.invokespecial ic, 3)) (d9 : decode cc (pc + 9) = .ok (.athrow, 1))
    (hout : ∀ x ∈ c.exceptionTable.toList, covers x (pc + 9) = false)
    (hRframes : names.length + 3 < R.frames) (hRlocals : (rest.map fun v => v.category).sum + (13 * (names.length + 1) + 43) ≤ R.locals) (hRcells : cells + 1 ≤ R.cells) (hRslots : slots + 6 ≤ R.slots) (hlocks : meth.locks = false)
    (hx : ∀ t : State, s.vm.Alike t.vm → H.size ≤ t.heap.size → (∀ q : Nat, q < H.size → t.heap[q]? = H[q]?) → XC cls s t)
    (hf : ∀ z ∈ locs, free z.base) (hc : cells + 1 ≤ mc) (hs : slots + 6 ≤ ms) :
    W p l e R s m args below meth c H locs cells slots (vx_MQ below Qc XC args s mc ms free) (F0 m pc ls rest) := by
  intro T hT X
  have htr : e.platform.stackTraces = false := (show e.platform.stackTraces = l.stackTraces by rw [X.admits.platform]).trans hl
  have Y := vx_rebase X (R' := { frames := R.frames, locals := R.locals, cells := 1, slots := 6 }) (Nat.le_refl _) (Nat.le_refl _) hRcells hRslots
  obtain ⟨s', hA⟩ : ∃ z, z = (T.setVm s.vm).setFrames (.invoking m args :: below) := ⟨_, rfl⟩
  rw [← hA] at Y
  have hvm : s'.vm = s.vm := by rw [hA]; rfl
  have hhp : s'.heap = H := by rw [hA]; exact hT
  have hW0 : s.WarmedH s'.vm := by rw [hvm]; exact State.WarmedH.refl s
  have hat' : ∀ w ∈ vx_atS own ic cls names, w.before args s' = true := fun w hw => vx_ot_at hW0 hvm.symm (hgood w (List.mem_cons_of_mem _ (List.mem_cons_of_mem _ hw))) (hat w hw)
  have hk' : (Cond.classLink own ik cls).before args s' = true := vx_ot_at hW0 hvm.symm (hgood _ List.mem_cons_self) hk
  have hini' : (Cond.initialized cls).before args s' = true := vx_ot_at hW0 hvm.symm (hgood _ (List.mem_cons_of_mem _ List.mem_cons_self)) hini
  have hU' : vx_Zq Bundle.tN "UNASSIGNED_STACK" Bundle.steD A s' s'.heap := by rw [hhp]; exact vx_Zq.moved hW0.alike (hU.kept hS.2.1)
  have hN' : vx_Zq Bundle.tN "SUPPRESSED_SENTINEL" Bundle.listD A s' s'.heap := by rw [hhp]; exact vx_Zq.moved hW0.alike (hN.kept hS.2.1)
  have h : ∀ w ∈ Bundle.ownAtoms own ic cls names, w.before args s' = true := vx_own hat' (vx_isRefq hU'.1) (vx_isRefq hN'.1) hU'.2.word hN'.2.word
  have hown' : s'.vm.findClass own = some m.cls := by rw [hvm]; exact hown
  have hins : (Cond.instantiable cls 6).before args s' = true := h _ (by simp [Bundle.ownAtoms])
  obtain ⟨vm₁, cX, kX, hfX, hkX, -, -, X₁, st1⟩ := Y.newCold hexec (own := own) (C := cls) (index := ik) (n := 6) hown' hk' hins hini'
    (g := F0 m pc ls rest) rfl (by rw [hb]; exact d0) (Nat.le_refl _) (Nat.le_refl _)
  generalize hT1 : (T.setVm vm₁).pushCell { cls := cX, slots := kX.instanceTypes.map defaultValue, vm := .none } = T1 at X₁ st1
  have hcat : (Value.ref T.heap.size).category = 1 := rfl
  have hcellA : T1.heap[T.heap.size]? = some (freshCell cX kX) := by rw [← hT1]; exact State.heap_pushCell_size _ _
  have d3' : decode c.code (pc + 3) = .ok (.dup, 1) := by rw [hb]; exact d3
  have d4' : decode c.code (pc + 4) = .ok (.ldc is, 2) := by rw [hb]; exact d4
  have hstr' : vk_R own is text sa s' := vk_R.warm hW0 hstr
  obtain ⟨U, hsteps, hrun, hend, hW, hsame, ce, hce, hO⟩ := X₁.ctorThrowS hexec htr (own := own) (cls := cls) (names := names) (ic := ic) hown' hcls hnames h (fun x hx => nomatch hx) hfX hkX hcellA (by rw [hhp, hT]; exact Nat.le_refl _) (msg := .ref sa) rfl
    (g := { method := m, pc := pc + 6, locals := ls, stack := .ref sa :: .ref T.heap.size :: .ref T.heap.size :: rest, locked := none }) rfl hsize rfl rfl (rest := rest) rfl
    (by rw [hb]; exact d6) (by rw [hb]; exact d9) hout hRframes (by simp only [List.map_cons, List.sum_cons, hcat]; omega) hlocks
  obtain ⟨f1, f2⟩ := vx_frame hsame
  rw [hhp] at f1 f2
  have hWs : s.WarmedH U.vm := State.WarmedH.trans hW0 hW
  have hcl : s.vm.findClass cls = some ce.cls := by
    have h9 := hO.cls
    rw [hvm] at h9
    exact h9
  have hall : s.sameButNew ({ U with vm := s.vm } : State) locs mc ms := by
    subst hA
    obtain ⟨e1, e2⟩ := hsame
    rw [State.setFrames_setFrames] at e1
    have h2 : (T.setVm s.vm).sameButNew ({ U with vm := s.vm } : State) [] (0 + 1) (0 + 6) := ⟨e1, e2⟩
    have h3 := X.same.trans h2
    rw [List.append_nil] at h3
    exact h3.mono hc hs
  refine ⟨U, ?_, .threw T.heap.size, hrun, hend, Or.inr ⟨T.heap.size, rfl, cls, ce, locs, hx U hWs.alike f1 (fun q hq => f2 q hq (fun z hz => nomatch hz)), hce, hO.vm, hcl, hWs, hall, hf⟩⟩
  refine st1 _ ?_
  show Steps p.tables e below (T1.setTop { method := m, pc := pc + 3, locals := ls, stack := .ref T.heap.size :: rest, locked := none }) _
  jvm_step X₁.here [X₁.here.top, hexec, d3', Value.category]
  exact X₁.ldcString hexec (own := own) (text := text) (index := is) (a := sa) hown' hstr'.1 hstr'.2
    (g := { method := m, pc := pc + 4, locals := ls, stack := .ref T.heap.size :: .ref T.heap.size :: rest, locked := none }) rfl d4' _ hsteps
/-- 'throw new E("text")', the text by a wide index -/
theorem vx_throwSW {cc : ByteArray} {pc : Nat} (hexec : p.tables.exec = Jvm.exec) (hb : c.code = cc) (hl : l.stackTraces = false) {own cls text : String} {names : List String} {ik is ic mc ms sa : Nat} {A : Nat → Prop}
    (hown : s.vm.findClass own = some m.cls) (hcls : Bundle.fit cls = true) (hnames : ∀ n ∈ names, Bundle.fit n = true)
    (hk : (Cond.classLink own ik cls).before args s = true) (hini : (Cond.initialized cls).before args s = true) (hstr : vk_R own is text sa s) (hat : ∀ w ∈ vx_atS own ic cls names, w.before args s = true)
    (hgood : ∀ w ∈ Cond.classLink own ik cls :: Cond.initialized cls :: vx_atS own ic cls names, vx_ot w = true)
    (hU : vx_Zq Bundle.tN "UNASSIGNED_STACK" Bundle.steD A s s.heap) (hN : vx_Zq Bundle.tN "SUPPRESSED_SENTINEL" Bundle.listD A s s.heap) (hS : va_S A s.heap H locs) (hsize : ls.size = c.maxLocals)
    (d0 : decode cc pc = .ok (.new ik, 3)) (d3 : decode cc (pc + 3) = .ok (.dup, 1)) (d4 : decode cc (pc + 4) = .ok (.ldc_w is, 3)) (d7 : decode cc (pc + 7) = .ok (.invokespecial ic, 3)) (d10 : decode cc (pc + 10) = .ok (.athrow, 1))
    (hout : ∀ x ∈ c.exceptionTable.toList, covers x (pc + 10) = false)
    (hRframes : names.length + 3 < R.frames) (hRlocals : (rest.map fun v => v.category).sum + (13 * (names.length + 1) + 43) ≤ R.locals) (hRcells : cells + 1 ≤ R.cells) (hRslots : slots + 6 ≤ R.slots) (hlocks : meth.locks = false)
    (hx : ∀ t : State, s.vm.Alike t.vm → H.size ≤ t.heap.size → (∀ q : Nat, q < H.size → t.heap[q]? = H[q]?) → XC cls s t)
    (hf : ∀ z ∈ locs, free z.base) (hc : cells + 1 ≤ mc) (hs : slots + 6 ≤ ms) :
    W p l e R s m args below meth c H locs cells slots (vx_MQ below Qc XC args s mc ms free) (F0 m pc ls rest) := by
  intro T hT X
  have htr : e.platform.stackTraces = false := (show e.platform.stackTraces = l.stackTraces by rw [X.admits.platform]).trans hl
  have Y := vx_rebase X (R' := { frames := R.frames, locals := R.locals, cells := 1, slots := 6 }) (Nat.le_refl _) (Nat.le_refl _) hRcells hRslots
  obtain ⟨s', hA⟩ : ∃ z, z = (T.setVm s.vm).setFrames (.invoking m args :: below) := ⟨_, rfl⟩
  rw [← hA] at Y
  have hvm : s'.vm = s.vm := by rw [hA]; rfl
  have hhp : s'.heap = H := by rw [hA]; exact hT
  have hW0 : s.WarmedH s'.vm := by rw [hvm]; exact State.WarmedH.refl s
  have hat' : ∀ w ∈ vx_atS own ic cls names, w.before args s' = true := fun w hw => vx_ot_at hW0 hvm.symm (hgood w (List.mem_cons_of_mem _ (List.mem_cons_of_mem _ hw))) (hat w hw)
  have hk' : (Cond.classLink own ik cls).before args s' = true := vx_ot_at hW0 hvm.symm (hgood _ List.mem_cons_self) hk
  have hini' : (Cond.initialized cls).before args s' = true := vx_ot_at hW0 hvm.symm (hgood _ (List.mem_cons_of_mem _ List.mem_cons_self)) hini
  have hU' : vx_Zq Bundle.tN "UNASSIGNED_STACK" Bundle.steD A s' s'.heap := by rw [hhp]; exact vx_Zq.moved hW0.alike (hU.kept hS.2.1)
  have hN' : vx_Zq Bundle.tN "SUPPRESSED_SENTINEL" Bundle.listD A s' s'.heap := by rw [hhp]; exact vx_Zq.moved hW0.alike (hN.kept hS.2.1)
  have h : ∀ w ∈ Bundle.ownAtoms own ic cls names, w.before args s' = true := vx_own hat' (vx_isRefq hU'.1) (vx_isRefq hN'.1) hU'.2.word hN'.2.word
  have hown' : s'.vm.findClass own = some m.cls := by rw [hvm]; exact hown
  have hins : (Cond.instantiable cls 6).before args s' = true := h _ (by simp [Bundle.ownAtoms])
  obtain ⟨vm₁, cX, kX, hfX, hkX, -, -, X₁, st1⟩ := Y.newCold hexec (own := own) (C := cls) (index := ik) (n := 6) hown' hk' hins hini'
    (g := F0 m pc ls rest) rfl (by rw [hb]; exact d0) (Nat.le_refl _) (Nat.le_refl _)
  generalize hT1 : (T.setVm vm₁).pushCell { cls := cX, slots := kX.instanceTypes.map defaultValue, vm := .none } = T1 at X₁ st1
  have hcat : (Value.ref T.heap.size).category = 1 := rfl
  have hcellA : T1.heap[T.heap.size]? = some (freshCell cX kX) := by rw [← hT1]; exact State.heap_pushCell_size _ _
  have d3' : decode c.code (pc + 3) = .ok (.dup, 1) := by rw [hb]; exact d3
  have d4' : decode c.code (pc + 4) = .ok (.ldc_w is, 3) := by rw [hb]; exact d4
  have hstr' : vk_R own is text sa s' := vk_R.warm hW0 hstr
  obtain ⟨U, hsteps, hrun, hend, hW, hsame, ce, hce, hO⟩ := X₁.ctorThrowS hexec htr (own := own) (cls := cls) (names := names) (ic := ic) hown' hcls hnames h (fun x hx => nomatch hx) hfX hkX hcellA (by rw [hhp, hT]; exact Nat.le_refl _) (msg := .ref sa) rfl
    (g := { method := m, pc := pc + 7, locals := ls, stack := .ref sa :: .ref T.heap.size :: .ref T.heap.size :: rest, locked := none }) rfl hsize rfl rfl (rest := rest) rfl
    (by rw [hb]; exact d7) (by rw [hb]; exact d10) hout hRframes (by simp only [List.map_cons, List.sum_cons, hcat]; omega) hlocks
  obtain ⟨f1, f2⟩ := vx_frame hsame
  rw [hhp] at f1 f2
  have hWs : s.WarmedH U.vm := State.WarmedH.trans hW0 hW
  have hcl : s.vm.findClass cls = some ce.cls := by
    have h9 := hO.cls
    rw [hvm] at h9
    exact h9
  have hall : s.sameButNew ({ U with vm := s.vm } : State) locs mc ms := by
    subst hA
    obtain ⟨e1, e2⟩ := hsame
    rw [State.setFrames_setFrames] at e1
    have h2 : (T.setVm s.vm).sameButNew ({ U with vm := s.vm } : State) [] (0 + 1) (0 + 6) := ⟨e1, e2⟩
    have h3 := X.same.trans h2
    rw [List.append_nil] at h3
    exact h3.mono hc hs
  refine ⟨U, ?_, .threw T.heap.size, hrun, hend, Or.inr ⟨T.heap.size, rfl, cls, ce, locs, hx U hWs.alike f1 (fun q hq => f2 q hq (fun z hz => nomatch hz)), hce, hO.vm, hcl, hWs, hall, hf⟩⟩
  refine st1 _ ?_
  show Steps p.tables e below (T1.setTop { method := m, pc := pc + 3, locals := ls, stack := .ref T.heap.size :: rest, locked := none }) _
  jvm_step X₁.here [X₁.here.top, hexec, d3', Value.category]
  exact X₁.ldcStringW hexec (own := own) (text := text) (index := is) (a := sa) hown' hstr'.1 hstr'.2
    (g := { method := m, pc := pc + 4, locals := ls, stack := .ref T.heap.size :: .ref T.heap.size :: rest, locked := none }) rfl d4' _ hsteps
end Ends
section Bodies
variable {l : Launch}
theorem vx_ofW {y : MethodName} {ws ws' : List Cond} {rm : Room} {Pc : Array Value → State → Prop} {Qc : Array Value → State → Outcome → State → Prop} {XC : String → State → State → Prop} {mc ms : Nat} {free : Addr → Prop} {cc : ByteArray} {maxL : Nat} {ret : Option FieldType}
    (hy : plainName y.cls = true) (hw : ws = Cond.code y cc maxL ret :: ws')
    (body : ∀ p e s m args below meth c s₁, BodyLoose p l y (headSpec ws rm) cc maxL ret e s m args below meth c s₁ → c.maxLocals = maxL → (∀ x ∈ c.exceptionTable.toList, False) → Pc args s →
      W p l e (headSpec ws rm).room s m args below meth c s.heap [] 0 0 (vx_MQ below Qc XC args s mc ms free) (entryFrame m args maxL)) : vx_Met l y ws rm Pc Qc XC mc ms free := by
  refine MetFree.of_bodyS (code := cc) (maxLocals := maxL) (ret := ret) hy ?_ ?_
  · intro args s m h hn
    obtain ⟨meth, c, h1, h2, h3, h4, h5, h6, -, -⟩ := Cond.code_spec hn (atoms_spec (ws := ws) h _ (by rw [hw]; exact List.mem_cons_self))
    exact ⟨meth, c, h1, h2, h3, h4, h5, h6⟩
  · intro p e s m args below meth c s₁ B hml hP _
    have hh0 : s₁.heap = s.heap := by rw [B.state]; rfl
    have ht : ∀ x ∈ c.exceptionTable.toList, False := by
      obtain ⟨meth9, c9, h1, h2, -, -, -, -, h7, -⟩ := Cond.code_spec B.named (atoms_spec (ws := ws) B.pre _ (by rw [hw]; exact List.mem_cons_self))
      cases Option.some.inj (h1.symm.trans B.method)
      cases Option.some.inj (h2.symm.trans (Stand.of_body B).code)
      intro x hx
      rw [Array.isEmpty_iff.mp h7] at hx
      cases hx
    obtain ⟨t, a1, o, b1, b2, b3⟩ := body p e s m args below meth c s₁ B hml ht hP s₁ hh0 (Stand.of_body B)
    exact ⟨t, o, a1, b1, b2, b3⟩
/-- the table of a body with handlers -/
theorem vx_table {p : Program} {x y : MethodName} {S : Spec} {cc bytes : ByteArray} {maxL maxL' : Nat} {ret ret' : Option FieldType} {e : Env} {s s₁ : State} {m : MethodId} {args : Array Value} {below : List Frame} {meth : Method} {c : Code} {hh : List (Nat × Nat × Nat × Nat)}
    (B : BodyLoose p l y S cc maxL ret e s m args below meth c s₁) (h : (Cond.codeWith y bytes maxL' ret' hh).before args s = true) : c.exceptionTable.toList = tableOf hh := by
  obtain ⟨m9, meth9, c9, hn9, h1, h2, -, -, h6, -⟩ := Cond.codeWith_spec h
  cases Option.some.inj (hn9.symm.trans B.named)
  cases Option.some.inj (h1.symm.trans B.method)
  cases Option.some.inj (h2.symm.trans (Stand.of_body B).code)
  rw [← h6, table_eq]
end Bodies
end VXA
/-! ===== END ===== -/
/-! ===== BEGIN a static call of a method with an exception table ===== -/
section VXS
variable {p : Program} {l : Launch} {e : Env} {R : Room} {s : State} {m : MethodId} {args : Array Value} {below : List Frame} {meth : Method} {c : Code} {T : State} {H : Heap} {locs : List Loc} {cells slots : Nat}
abbrev vx_CSW (R : Room) (s : State) (args : Array Value) (own : String) (index : Nat) (y : MethodName) (bytes : ByteArray) (maxL : Nat) (ret : Option FieldType) (hh : List (Nat × Nat × Nat × Nat)) (ws : List Cond) (rm : Room) (mc ms n : Nat) : Prop :=
  (rm.cells = mc ∧ rm.slots = ms ∧ rm.frames + 1 ≤ R.frames ∧ 8 + (maxL + 11) + rm.locals ≤ R.locals ∧ (∀ w ∈ ws, ∀ (a' : Array Value) (U : State), s.WarmedH U.vm → w.before a' U = true) ∧ Cond.codeWith y bytes maxL ret hh ∈ ws) ∧
  (Cond.codeWith y bytes maxL ret hh).before args s = true ∧ (Cond.initialized y.cls).before args s = true ∧ (y.cls ≠ "java/lang/invoke/MethodHandle" ∧ y.cls ≠ "java/lang/invoke/VarHandle") ∧
  (∀ sig, parseMethodDescriptor y.desc = some sig → n = sig.parameters.length) ∧ (Cond.methodLink own index y).before args s = true ∧ (Cond.static y).before args s = true
theorem vx_cwSW {own : String} {index maxL mc ms : Nat} {y : MethodName} {bytes : ByteArray} {ret : Option FieldType} {hh : List (Nat × Nat × Nat × Nat)} {Ts ws ws' : List Cond} {rm : Room} (n : Nat) (ht : ∀ w ∈ Ts, w.before args s = true) (hT : GoodIn Ts (va_wsS own index y ws)) (hw : ws = Cond.codeWith y bytes maxL ret hh :: ws') (hrc : rm.cells = mc) (hrs : rm.slots = ms)
    (hd : y.cls ≠ "java/lang/invoke/MethodHandle" ∧ y.cls ≠ "java/lang/invoke/VarHandle" ∧ (parseMethodDescriptor y.desc).map (fun d => d.parameters.length) = some n) (hR : rm.frames + 1 ≤ R.frames ∧ 8 + (maxL + 11) + rm.locals ≤ R.locals) :
    vx_CSW R s args own index y bytes maxL ret hh ws rm mc ms n := by
  have ok : ∀ w ∈ va_wsS own index y ws, w.before args s = true := fun w h => ht w (hT w h).1
  have hG : GoodIn Ts ws := fun w h => hT w (by unfold va_wsS; exact List.mem_append_right _ h)
  have hc : Cond.codeWith y bytes maxL ret hh ∈ ws := by rw [hw]; exact List.mem_cons_self
  refine ⟨⟨hrc, hrs, hR.1, hR.2, pay_in ht hG, hc⟩, ht _ (hG _ hc).1, ok _ (by simp [va_wsS]), ⟨hd.1, hd.2.1⟩, fun sig h => ?_, ok _ (by simp [va_wsS]), ok _ (by simp [va_wsS])⟩
  have h2 := hd.2.2
  rw [h] at h2
  exact (Option.some.inj h2).symm
theorem vx_callSW (X : Stand p l e R s m args below meth c T locs cells slots) (hexec : p.tables.exec = Jvm.exec) {own : String} {index : Nat} {y : MethodName} {bytes : ByteArray} {maxL : Nat} {ret : Option FieldType} {hh : List (Nat × Nat × Nat × Nat)}
    (hown : s.vm.findClass own = some m.cls) (hlink : (Cond.methodLink own index y).before args s = true) (hstat : (Cond.static y).before args s = true) (hinit : (Cond.initialized y.cls).before args s = true)
    (hcode : (Cond.codeWith y bytes maxL ret hh).before args s = true) (hy : y.cls ≠ "java/lang/invoke/MethodHandle" ∧ y.cls ≠ "java/lang/invoke/VarHandle")
    {W9 : Nat} {Pre : Pt → Array Value → Prop} {Post : Pt → Array Value → Option Value → Pt → Prop} (hK : Back l R p e below s args y 3 W9 Pre Post)
    {g : JFrame} (hg : g.method = m) (hsize : g.locals.size = c.maxLocals) {argsL rest : List Value} (hlen : ∀ sig, parseMethodDescriptor y.desc = some sig → argsL.length = sig.parameters.length)
    (hstack : g.stack = argsL.reverse ++ rest) (hW : 2 * g.monitorRoom + (rest.map fun v => v.category).sum ≤ W9) (hdg : decode c.code g.pc = .ok (.invokestatic index, 3))
    (hpre : ∀ vm₁, s.WarmedH vm₁ → Pre ⟨T.setVm vm₁, locs, cells, slots⟩ argsL.toArray) :
    ∃ (v : Option Value) (vm₁ : Vm) (B : Pt), s.WarmedH vm₁ ∧ Stand p l e R s m args below meth c B.U B.locs B.cells B.slots ∧ Post ⟨T.setVm vm₁, locs, cells, slots⟩ argsL.toArray v B ∧
      ∀ target, Steps p.tables e below (B.U.setTop { g with pc := g.pc + 3, stack := v.toList ++ rest }) target → Steps p.tables e below (T.setTop g) target := by
  obtain ⟨mk, methM, cM, hnamed, hmethM, -, -, -, -, -, -, hsigM⟩ := Cond.codeWith_spec hcode
  have hstatic : methM.isStatic = true := Cond.static_spec hnamed hmethM hstat
  obtain ⟨kP, hkP, -⟩ := className_of_methodNamed hnamed
  have hinitP : kP.init = .initialized := Cond.initialized_spec (findClass_of_methodNamed hnamed) hkP hinit
  obtain ⟨vm₁, X₁, hstep₁⟩ := X.invokestatic hexec hown hlink hnamed hmethM hstatic hkP hinitP hy (g := g) hg (argsL := argsL) (rest := rest) (hlen _ hsigM) hstack hdg
  obtain ⟨v, B, X', hpost, hsteps⟩ := hK m meth c ⟨T.setVm vm₁, locs, cells, slots⟩ { g with stack := rest } (.invokestatic index) mk argsL.toArray X₁ hg hsize hdg hW (X₁.named hnamed) (hpre vm₁ X₁.warmed)
  exact ⟨v, vm₁, B, X₁.warmed, X', hpost, fun target h => hstep₁ _ fun acts => by rw [doInvoke_state]; exact hsteps.trans h⟩
theorem vx_runSW {y : MethodName} {bytes cc : ByteArray} {maxL nL mc ms n index : Nat} {ret : Option FieldType} {hh : List (Nat × Nat × Nat × Nat)} {ws : List Cond} {rm : Room} {Pc : Array Value → State → Prop} {Qc : Array Value → State → Outcome → State → Prop} {free : Addr → Prop} {Ts : List Cond} {own : String} {As rest : List Value} {g : JFrame}
    (S : CallFix p m c cc nL s args Ts own) (hM : Met l y ws rm Pc Qc mc ms free) (cw : vx_CSW R s args own index y bytes maxL ret hh ws rm mc ms n) (hp : PreS s H Pc As)
    (hg : g.method = m) (hn : As.length = n) (hsize : g.locals.size = nL) (hstack : g.stack = As.reverse ++ rest) (hW : 2 * g.monitorRoom + (rest.map fun v => v.category).sum ≤ 8) (hdg : decode cc g.pc = .ok (.invokestatic index, 3)) (hf : cells + mc ≤ R.cells ∧ slots + ms ≤ R.slots) :
    va_Run p l e R s m args below meth c H locs cells slots mc ms g rest (Qc As.toArray) (free) := by
  obtain ⟨⟨hrc, hrs, hfr, hlo, hws, hcw⟩, hcode, hini, hy, hlen, hl, hstt⟩ := cw
  have hK : Back l R p e below s args y 3 8 (PreOf R mc ms Pc) (PostOf Qc mc ms free) := va_backW (hh := hh) (bytes := bytes) (maxL := maxL) (ret := ret) hM hp.1 hrc hrs hfr hlo hws hcw (fun a' U hW => word_at hW (Or.inl (by first | rfl | simp [Cond.onTables, Cond.keeps, Cond.steady])) hini)
  obtain ⟨hx, hb, hml, ho, -⟩ := S
  intro T hT X
  obtain ⟨v, vm₁, ⟨U', l2, c2, s2⟩, hW₁, X', ⟨g', mk, t, L, e1, e2, hq, h1, hL, h2, h3⟩, st⟩ := vx_callSW X hx (hh := hh) (bytes := bytes) (maxL := maxL) (ret := ret) ho hl hstt hini hcode hy hK hg (hsize.trans hml.symm) (argsL := As) (rest := rest) (fun sig h => hn.trans (hlen sig h)) hstack hW (by rw [hb]; exact hdg)
    (fun vm₁ hW₁ => ⟨hf.1, hf.2, hp.2 (T.setVm vm₁) hT hW₁⟩)
  dsimp only [Pt.U, Pt.locs, Pt.cells, Pt.slots] at X' e1 e2 h1 h2 h3 st
  subst h1; subst h2; subst h3
  exact ⟨v, (T.setVm vm₁).calling g' mk As.toArray, t, U', L, hT, X', hL, e1, e2, hq, st⟩
/-- not caught here, past rows that name other classes: it goes on to the caller -/
theorem vx_outP {p : Program} {l : Launch} {e : Env} {R : Room} {s : State} {m : MethodId} {args : Array Value} {below : List Frame} {meth : Method} {c : Code} {H : Heap} {locs : List Loc} {cells slots : Nat} {free : Addr → Prop} {ls : Array Slot} {rest : List Value} {Qc : Array Value → State → Outcome → State → Prop} {XC : String → State → State → Prop}
    {pc : Nat} {own E : String} {ce : Cell} {q : Addr} {mc ms : Nat} (hown : s.vm.findClass own = some m.cls) (hlocks : meth.locks = false)
    (hpass : ∀ z ∈ c.exceptionTable.toList, covers z pc = false ∨ (z.catchType ≠ 0 ∧ ∃ nm : String, (Cond.classLink own z.catchType nm).before args s = true ∧ va_Nc E nm s)) (hcell : H[q]? = some ce) (hv : ce.vm = .none) (hcl : s.vm.findClass E = some ce.cls)
    (hx : ∀ t : State, t.heap = H → s.vm.Alike t.vm → XC E s t) (hf : ∀ z ∈ locs, free z.base) (hc : cells ≤ mc) (hs : slots ≤ ms) :
    vx_W p l e R s m args below meth c H locs cells slots (vx_MQ below Qc XC args s mc ms free) (F0 m pc ls rest) q := by
  intro T hT X
  have hpl : e.platform.magicAccessors = ({} : Platform).magicAccessors := by rw [X.admits.platform]
  obtain ⟨vm', hW', X', st⟩ := X.outThrough hlocks q (g := F0 m pc ls rest) rfl rfl rfl (cell := ce) (by rw [hT]; exact hcell) (by rw [hv]; rfl)
    (by obtain ⟨k9, h9, -⟩ := Vm.findClass_spec hcl; exact ⟨k9, h9⟩) (fun z hz => by
      rcases hpass z hz with h | ⟨hz0, nm, hl1, hn1⟩
      · exact Or.inl h
      · obtain ⟨c6, hc6, hcl6⟩ := Cond.classLink_spec hown hl1 e.platform hpl
        obtain ⟨a8, b8, h1, h2, h3⟩ := hn1
        cases Option.some.inj (h1.symm.trans hcl)
        cases Option.some.inj (h2.symm.trans hc6)
        exact Or.inr ⟨hz0, _, hcl6, h3⟩)
  obtain ⟨g₀, hfr⟩ := X'.frames_eq
  have hcell9 : ((T.setVm vm').setFrames (.throwing q :: below)).heap[q]? = some ce := by
    show T.heap[q]? = some ce
    rw [hT]; exact hcell
  have hend : Ended ((T.setVm vm').setFrames (.throwing q :: below)) below (.threw q) := State.frames_setFrames _ (State.cur_lt_of_frames hfr)
  refine ⟨(T.setVm vm').setFrames (.throwing q :: below), ?_, .threw q, X'.here.running, hend, Or.inr ⟨q, rfl, E, ce, locs, hx _ hT (X'.ends _).1.alike, hcell9, hv, hcl, (X'.ends _).1, (X'.ends _).2.mono hc hs, hf⟩⟩
  rw [X.pushThrowing_eq]
  exact st
/-- a thing of a world lies in the heap -/
theorem vx_lt {D : va_G} {cl : List vw_C} {ws : va_W} {H1 : Heap} (h : va_P D cl ws H1) {k : Nat} {q : Nat × va_E} (hk : ws[k]? = some q) : q.1 < H1.size := (h k q hk).lt
end VXS
/-! ===== END ===== -/
/-! ===== BEGIN methods with a table of their own: called by a name, returning or throwing ===== -/
section VXH
/-! vx_backW, vx_callVX, vx_callSX, vx_callVW, vx_runVW, vx_runVX, vx_runSX, vx_ofWH follow the same proofs as their sisters above (Free/Laws.lean, Shelf42/LK1.lean); vx_outP calls Shelf42/NT130.lean (outThrough). -/
section
variable {l : Launch} {R : Room} {p : Program} {e : Env} {below : List Frame} {s : State} {sargs : Array Value} {y : MethodName} {len W9 : Nat}
theorem vx_backW {ws : List Cond} {rm : Room} {Pc : Array Value → State → Prop} {Qc : Array Value → State → Outcome → State → Prop} {XC : String → State → State → Prop} {mc ms : Nat} {free : Addr → Prop} {bytes : ByteArray} {maxL : Nat} {ret : Option FieldType} {hh : List (Nat × Nat × Nat × Nat)}
    (hM : vx_Met l y ws rm Pc Qc XC mc ms free) (hblind : FrameBlind Pc) (hrc : rm.cells = mc) (hrs : rm.slots = ms)
    (hframes : rm.frames + 1 ≤ R.frames) (hlocals : W9 + (maxL + 11) + rm.locals ≤ R.locals)
    (hws : ∀ w ∈ ws, ∀ a' U, s.WarmedH U.vm → w.before a' U = true) (hcode : Cond.codeWith y bytes maxL ret hh ∈ ws) (hinit : ∀ a' U, s.WarmedH U.vm → (Cond.initialized y.cls).before a' U = true) :
    vx_Back l R p e below s sargs y len W9 (PreOf R mc ms Pc) (PostOf Qc mc ms free) (vx_Post XC mc ms free) := by
  intro m meth c A g ig mk a X hg hsize hdg hW hn hp
  have h1 : (headSpec ws rm).pre.before a A.U = true := atoms_intro fun w hw => hws w hw _ _ X.warmed
  have h2 : (Cond.codeWith y bytes maxL ret hh).before a A.U = true := hws _ hcode _ _ X.warmed
  have h3 : (Cond.initialized y.cls).before a A.U = true := hinit _ _ X.warmed
  have h4 : A.cells + (headSpec ws rm).room.cells ≤ R.cells := by rw [show (headSpec ws rm).room.cells = mc from hrc]; exact hp.1
  have h5 : A.slots + (headSpec ws rm).room.slots ≤ R.slots := by rw [show (headSpec ws rm).room.slots = ms from hrs]; exact hp.2.1
  have hPc : Pc a (A.U.calling g mk a) := hblind _ _ _ _ hp.2.2
  obtain ⟨U, Ls, c0, s0⟩ := A
  dsimp only [Pt.U, Pt.locs, Pt.cells, Pt.slots] at h1 h2 h3 h4 h5 X hn hPc ⊢
  obtain ⟨m9, methY, cY, hn9, hmY, hcY, -, hlY, -⟩ := Cond.codeWith_spec h2
  cases Option.some.inj (hn9.symm.trans hn)
  obtain ⟨kY, hkY, -⟩ := className_of_methodNamed hn
  have hinitY : kY.init = .initialized := Cond.initialized_spec (findClass_of_methodNamed hn) hkY h3
  have h : At U g.method c below := by rw [hg]; exact X.here
  have hlocals9 : W9 + (maxL + 11) + (headSpec ws rm).room.locals ≤ R.locals := hlocals
  have happ : (headSpec ws rm).appliesLoose y e.platform (U.calling g mk a) = true :=
    Spec.appliesLoose_calling (g := g) h hdg hn hkY hinitY
      (X.room_calling (g := g) (R' := (headSpec ws rm).room) hsize hmY hcY hframes (by rw [hlY]; omega) h4 h5) h1
  obtain ⟨mid, hmid⟩ := h.above
  have hfr : (U.setTop g).frames = (.java g :: mid) ++ below := by rw [State.frames_setTop' g h.top, hmid]; rfl
  obtain ⟨o, s₂, hsteps, -, hend, hq⟩ := Steps.callFree hM p X.admits X.cas X.clock (acts := []) hfr happ hPc trivial
  have hq' : vx_Q Qc XC mc ms free a (U.calling g mk a) o s₂ := hq
  rw [State.frames_setTop' g h.top] at hend
  obtain ⟨g₀, hg0⟩ := Option.isSome_iff_exists.mp h.top
  obtain ⟨r, hr⟩ := State.topJava?_eq_some.mp hg0
  have hr' : (({ U with heap := s₂.heap, slotsUsed := s₂.slotsUsed } : State).setVm s₂.vm).frames = .java g₀ :: r := hr
  rcases hq' with ⟨hqc, L, hfe, hL⟩ | ⟨q, rfl, E, ce, L, hx, hce, hcv, hcl, hW₂, hsm, hL⟩
  · obtain ⟨⟨v, rfl⟩, hW₂, e2, q2, q3, q4, q5, q6⟩ := id hfe
    have e3 : s₂ = ({ (U.calling g mk a).setFrames s₂.frames with heap := s₂.heap, slotsUsed := s₂.slotsUsed } : State).setVm s₂.vm := by
      have : s₂ = ({ s₂ with vm := (U.calling g mk a).vm } : State).setVm s₂.vm := rfl
      rw [e2] at this
      exact this
    obtain ⟨c₂, i₂, len₂, hc₂, hd₂, hf₂⟩ := hend
    have hW' : U.WarmedH s₂.vm := hW₂
    have hcc : c₂ = c := by
      have h1 : s₂.code? g.method = U.code? g.method := by
        rw [State.code?_eq, State.code?_eq, hW'.alike.method?]
      exact Option.some.inj (hc₂.symm.trans (h1.trans h.code))
    subst hcc
    have hlen : len₂ = len := by rw [hdg] at hd₂; cases hd₂; rfl
    subst hlen
    have hs₂ : s₂ = (({ U with heap := s₂.heap, slotsUsed := s₂.slotsUsed } : State).setVm s₂.vm).setTop { g with pc := g.pc + len₂, stack := v.toList ++ g.stack } := by
      refine e3.trans ?_
      rw [hf₂, State.calling_eq h.top, State.setFrames_setFrames, State.setTop_of_frames _ hr', hr]
      rfl
    have hsame : U.sameButNew ({ U with heap := s₂.heap, slotsUsed := s₂.slotsUsed } : State) L mc ms := by
      refine ⟨?_, q2, q3, q4, q5, q6⟩
      obtain ⟨t, ht, -⟩ := State.frames_cons hr
      show ({ U with heap := s₂.heap, slotsUsed := s₂.slotsUsed } : State) = { U.setFrames U.frames with heap := s₂.heap, slotsUsed := s₂.slotsUsed }
      rw [State.setFrames_self ht]
    subst hg
    refine Or.inl ⟨v, ⟨(({ U with heap := s₂.heap, slotsUsed := s₂.slotsUsed } : State).setVm s₂.vm), Ls ++ L, c0 + mc, s0 + ms⟩,
      ⟨X.admits, X.cas, X.clock, X.frames, X.room, X.hears, X.method, X.code, (X.here.setHeapUsed s₂.heap s₂.slotsUsed).setVm hW'.alike, X.tail, State.WarmedH.trans X.warmed hW', X.limits, X.bytes, X.same.trans (hsame.setVm s.vm)⟩,
      ⟨g, mk, s₂, L, rfl, rfl, hqc, rfl, hL, rfl, rfl⟩, ?_⟩
    show Steps p.tables e below _ ((({ U with heap := s₂.heap, slotsUsed := s₂.slotsUsed } : State).setVm s₂.vm).setTop { g with pc := g.pc + len₂, stack := v.toList ++ g.stack })
    rw [← hs₂]
    exact hsteps
  · obtain ⟨e2, q2, q3, q4, q5, q6⟩ := id hsm
    have e3 : s₂ = ({ (U.calling g mk a).setFrames s₂.frames with heap := s₂.heap, slotsUsed := s₂.slotsUsed } : State).setVm s₂.vm := by
      have : s₂ = ({ s₂ with vm := (U.calling g mk a).vm } : State).setVm s₂.vm := rfl
      rw [e2] at this
      exact this
    have hf₂ : s₂.frames = .throwing q :: .java g :: U.frames.tail := hend
    have hW' : U.WarmedH s₂.vm := hW₂
    have hs₂ : s₂ = ((({ U with heap := s₂.heap, slotsUsed := s₂.slotsUsed } : State).setVm s₂.vm).setTop g).pushFrame (.throwing q) := by
      refine e3.trans ?_
      rw [hf₂, State.calling_eq h.top, State.setFrames_setFrames, State.pushFrame, State.frames_setTop _ hr', State.setTop_of_frames _ hr', State.setFrames_setFrames, hr]
      rfl
    have hsame : U.sameButNew ({ U with heap := s₂.heap, slotsUsed := s₂.slotsUsed } : State) L mc ms := by
      refine ⟨?_, q2, q3, q4, q5, q6⟩
      obtain ⟨t, ht, -⟩ := State.frames_cons hr
      show ({ U with heap := s₂.heap, slotsUsed := s₂.slotsUsed } : State) = { U.setFrames U.frames with heap := s₂.heap, slotsUsed := s₂.slotsUsed }
      rw [State.setFrames_self ht]
    subst hg
    refine Or.inr ⟨q, ⟨(({ U with heap := s₂.heap, slotsUsed := s₂.slotsUsed } : State).setVm s₂.vm), Ls ++ L, c0 + mc, s0 + ms⟩,
      ⟨X.admits, X.cas, X.clock, X.frames, X.room, X.hears, X.method, X.code, (X.here.setHeapUsed s₂.heap s₂.slotsUsed).setVm hW'.alike, X.tail, State.WarmedH.trans X.warmed hW', X.limits, X.bytes, X.same.trans (hsame.setVm s.vm)⟩,
      ⟨g, mk, s₂, L, E, ce, rfl, rfl, hx, hce, hcv, hcl, rfl, hL, rfl, rfl⟩, ?_⟩
    show Steps p.tables e below _ (((({ U with heap := s₂.heap, slotsUsed := s₂.slotsUsed } : State).setVm s₂.vm).setTop g).pushFrame (.throwing q))
    rw [← hs₂]
    exact hsteps
end
variable {p : Program} {l : Launch} {e : Env} {R : Room} {s : State} {m : MethodId} {args : Array Value} {below : List Frame} {meth : Method} {c : Code} {T : State} {H : Heap} {locs : List Loc} {cells slots : Nat}
theorem vx_callVX (X : Stand p l e R s m args below meth c T locs cells slots) (hexec : p.tables.exec = Jvm.exec) {own C : String} {index : Nat} {y : MethodName} {bytes : ByteArray} {maxL : Nat} {ret : Option FieldType} {hh : List (Nat × Nat × Nat × Nat)}
    (hown : s.vm.findClass own = some m.cls) (hlink : (Cond.methodLink own index y).before args s = true) (hinst : (Cond.instanceMethod y).before args s = true) (hsel : (Cond.selects C y y).before args s = true)
    (hcode : (Cond.codeWith y bytes maxL ret hh).before args s = true) (hy : y.cls ≠ "java/lang/invoke/MethodHandle" ∧ y.cls ≠ "java/lang/invoke/VarHandle")
    {W9 : Nat} {Pre : Pt → Array Value → Prop} {Post : Pt → Array Value → Option Value → Pt → Prop} {PostX : Pt → Array Value → Addr → Pt → Prop} (hK : vx_Back l R p e below s args y 3 W9 Pre Post PostX)
    {b : Addr} {cellB : Cell} (hcell : T.heap[b]? = some cellB) (hobj : cellB.vm.isStatics = false) (hcls : s.vm.findClass C = some cellB.cls)
    {g : JFrame} (hg : g.method = m) (hsize : g.locals.size = c.maxLocals) {argsL rest : List Value} (hlen : ∀ sig, parseMethodDescriptor y.desc = some sig → argsL.length = sig.parameters.length)
    (hstack : g.stack = argsL.reverse ++ .ref b :: rest) (hW : 2 * g.monitorRoom + (rest.map fun v => v.category).sum ≤ W9) (hdg : decode c.code g.pc = .ok (.invokevirtual index, 3))
    (hpre : ∀ vm₁, s.WarmedH vm₁ → Pre ⟨T.setVm vm₁, locs, cells, slots⟩ (Value.ref b :: argsL).toArray) :
    (∃ (v : Option Value) (vm₁ : Vm) (B : Pt), s.WarmedH vm₁ ∧ Stand p l e R s m args below meth c B.U B.locs B.cells B.slots ∧ Post ⟨T.setVm vm₁, locs, cells, slots⟩ (Value.ref b :: argsL).toArray v B ∧
      ∀ target, Steps p.tables e below (B.U.setTop { g with pc := g.pc + 3, stack := v.toList ++ rest }) target → Steps p.tables e below (T.setTop g) target) ∨
    (∃ (q : Addr) (vm₁ : Vm) (B : Pt), s.WarmedH vm₁ ∧ Stand p l e R s m args below meth c B.U B.locs B.cells B.slots ∧ PostX ⟨T.setVm vm₁, locs, cells, slots⟩ (Value.ref b :: argsL).toArray q B ∧
      Steps p.tables e below (T.setTop g) ((B.U.setTop { g with stack := rest }).pushFrame (.throwing q))) := by
  obtain ⟨mk, methM, hnamed, hmethM, hstM, habM⟩ := Cond.instanceMethod_spec hinst
  obtain ⟨m8, methM', cM, hn8, hmethM', -, -, -, -, -, -, hsigM⟩ := Cond.codeWith_spec hcode
  cases Option.some.inj (hn8.symm.trans hnamed)
  cases hmethM.symm.trans hmethM'
  obtain ⟨c2, r2, m2, q1, q2, q3, q4, kP, hkP, hkPi⟩ := Cond.selects_spec hsel
  cases hcls.symm.trans q1
  cases (State.methodFound?_of_named hnamed hy).symm.trans q2
  cases hnamed.symm.trans q3
  have hselP : selectMethod e.platform s.vm cellB.cls mk = .method mk := by rw [Launch.admits_selectMethod X.admits]; exact q4
  obtain ⟨vm₁, X₁, hstep₁⟩ := X.invokevirtual hexec hown hlink hnamed hmethM hstM hkP hkPi hy (a := b) (cell := cellB) hcell
    (fun z h => by rw [h] at hobj; cases hobj) hselP hmethM habM hkP hkPi (g := g) hg (argsL := argsL) (rest := rest) (hlen _ hsigM) hstack hdg
  rcases hK m meth c ⟨T.setVm vm₁, locs, cells, slots⟩ { g with stack := rest } (.invokevirtual index) mk (Value.ref b :: argsL).toArray X₁ hg hsize hdg hW (X₁.named hnamed) (hpre vm₁ X₁.warmed) with ⟨v, B, X', hpost, hsteps⟩ | ⟨q, B, X', hpost, hsteps⟩
  · exact Or.inl ⟨v, vm₁, B, X₁.warmed, X', hpost, fun target h => hstep₁ _ fun acts => by rw [doInvoke_state]; exact hsteps.trans h⟩
  · exact Or.inr ⟨q, vm₁, B, X₁.warmed, X', hpost, hstep₁ _ fun acts => by rw [doInvoke_state]; exact hsteps⟩
theorem vx_callSX (X : Stand p l e R s m args below meth c T locs cells slots) (hexec : p.tables.exec = Jvm.exec) {own : String} {index : Nat} {y : MethodName} {bytes : ByteArray} {maxL : Nat} {ret : Option FieldType} {hh : List (Nat × Nat × Nat × Nat)}
    (hown : s.vm.findClass own = some m.cls) (hlink : (Cond.methodLink own index y).before args s = true) (hstat : (Cond.static y).before args s = true) (hinit : (Cond.initialized y.cls).before args s = true)
    (hcode : (Cond.codeWith y bytes maxL ret hh).before args s = true) (hy : y.cls ≠ "java/lang/invoke/MethodHandle" ∧ y.cls ≠ "java/lang/invoke/VarHandle")
    {W9 : Nat} {Pre : Pt → Array Value → Prop} {Post : Pt → Array Value → Option Value → Pt → Prop} {PostX : Pt → Array Value → Addr → Pt → Prop} (hK : vx_Back l R p e below s args y 3 W9 Pre Post PostX)
    {g : JFrame} (hg : g.method = m) (hsize : g.locals.size = c.maxLocals) {argsL rest : List Value} (hlen : ∀ sig, parseMethodDescriptor y.desc = some sig → argsL.length = sig.parameters.length)
    (hstack : g.stack = argsL.reverse ++ rest) (hW : 2 * g.monitorRoom + (rest.map fun v => v.category).sum ≤ W9) (hdg : decode c.code g.pc = .ok (.invokestatic index, 3))
    (hpre : ∀ vm₁, s.WarmedH vm₁ → Pre ⟨T.setVm vm₁, locs, cells, slots⟩ argsL.toArray) :
    (∃ (v : Option Value) (vm₁ : Vm) (B : Pt), s.WarmedH vm₁ ∧ Stand p l e R s m args below meth c B.U B.locs B.cells B.slots ∧ Post ⟨T.setVm vm₁, locs, cells, slots⟩ argsL.toArray v B ∧
      ∀ target, Steps p.tables e below (B.U.setTop { g with pc := g.pc + 3, stack := v.toList ++ rest }) target → Steps p.tables e below (T.setTop g) target) ∨
    (∃ (q : Addr) (vm₁ : Vm) (B : Pt), s.WarmedH vm₁ ∧ Stand p l e R s m args below meth c B.U B.locs B.cells B.slots ∧ PostX ⟨T.setVm vm₁, locs, cells, slots⟩ argsL.toArray q B ∧
      Steps p.tables e below (T.setTop g) ((B.U.setTop { g with stack := rest }).pushFrame (.throwing q))) := by
  obtain ⟨mk, methM, cM, hnamed, hmethM, -, -, -, -, -, -, hsigM⟩ := Cond.codeWith_spec hcode
  have hstatic : methM.isStatic = true := Cond.static_spec hnamed hmethM hstat
  obtain ⟨kP, hkP, -⟩ := className_of_methodNamed hnamed
  have hinitP : kP.init = .initialized := Cond.initialized_spec (findClass_of_methodNamed hnamed) hkP hinit
  obtain ⟨vm₁, X₁, hstep₁⟩ := X.invokestatic hexec hown hlink hnamed hmethM hstatic hkP hinitP hy (g := g) hg (argsL := argsL) (rest := rest) (hlen _ hsigM) hstack hdg
  rcases hK m meth c ⟨T.setVm vm₁, locs, cells, slots⟩ { g with stack := rest } (.invokestatic index) mk argsL.toArray X₁ hg hsize hdg hW (X₁.named hnamed) (hpre vm₁ X₁.warmed) with ⟨v, B, X', hpost, hsteps⟩ | ⟨q, B, X', hpost, hsteps⟩
  · exact Or.inl ⟨v, vm₁, B, X₁.warmed, X', hpost, fun target h => hstep₁ _ fun acts => by rw [doInvoke_state]; exact hsteps.trans h⟩
  · exact Or.inr ⟨q, vm₁, B, X₁.warmed, X', hpost, hstep₁ _ fun acts => by rw [doInvoke_state]; exact hsteps⟩
theorem vx_callVW (X : Stand p l e R s m args below meth c T locs cells slots) (hexec : p.tables.exec = Jvm.exec) {own C : String} {index : Nat} {y : MethodName} {bytes : ByteArray} {maxL : Nat} {ret : Option FieldType} {hh : List (Nat × Nat × Nat × Nat)}
    (hown : s.vm.findClass own = some m.cls) (hlink : (Cond.methodLink own index y).before args s = true) (hinst : (Cond.instanceMethod y).before args s = true) (hsel : (Cond.selects C y y).before args s = true)
    (hcode : (Cond.codeWith y bytes maxL ret hh).before args s = true) (hy : y.cls ≠ "java/lang/invoke/MethodHandle" ∧ y.cls ≠ "java/lang/invoke/VarHandle")
    {W9 : Nat} {Pre : Pt → Array Value → Prop} {Post : Pt → Array Value → Option Value → Pt → Prop} (hK : Back l R p e below s args y 3 W9 Pre Post)
    {b : Addr} {cellB : Cell} (hcell : T.heap[b]? = some cellB) (hobj : cellB.vm.isStatics = false) (hcls : s.vm.findClass C = some cellB.cls)
    {g : JFrame} (hg : g.method = m) (hsize : g.locals.size = c.maxLocals) {argsL rest : List Value} (hlen : ∀ sig, parseMethodDescriptor y.desc = some sig → argsL.length = sig.parameters.length)
    (hstack : g.stack = argsL.reverse ++ .ref b :: rest) (hW : 2 * g.monitorRoom + (rest.map fun v => v.category).sum ≤ W9) (hdg : decode c.code g.pc = .ok (.invokevirtual index, 3))
    (hpre : ∀ vm₁, s.WarmedH vm₁ → Pre ⟨T.setVm vm₁, locs, cells, slots⟩ (Value.ref b :: argsL).toArray) :
    ∃ (v : Option Value) (vm₁ : Vm) (B : Pt), s.WarmedH vm₁ ∧ Stand p l e R s m args below meth c B.U B.locs B.cells B.slots ∧ Post ⟨T.setVm vm₁, locs, cells, slots⟩ (Value.ref b :: argsL).toArray v B ∧
      ∀ target, Steps p.tables e below (B.U.setTop { g with pc := g.pc + 3, stack := v.toList ++ rest }) target → Steps p.tables e below (T.setTop g) target := by
  obtain ⟨mk, methM, hnamed, hmethM, hstM, habM⟩ := Cond.instanceMethod_spec hinst
  obtain ⟨m8, methM', cM, hn8, hmethM', -, -, -, -, -, -, hsigM⟩ := Cond.codeWith_spec hcode
  cases Option.some.inj (hn8.symm.trans hnamed)
  cases hmethM.symm.trans hmethM'
  obtain ⟨c2, r2, m2, q1, q2, q3, q4, kP, hkP, hkPi⟩ := Cond.selects_spec hsel
  cases hcls.symm.trans q1
  cases (State.methodFound?_of_named hnamed hy).symm.trans q2
  cases hnamed.symm.trans q3
  have hselP : selectMethod e.platform s.vm cellB.cls mk = .method mk := by rw [Launch.admits_selectMethod X.admits]; exact q4
  obtain ⟨vm₁, X₁, hstep₁⟩ := X.invokevirtual hexec hown hlink hnamed hmethM hstM hkP hkPi hy (a := b) (cell := cellB) hcell
    (fun z h => by rw [h] at hobj; cases hobj) hselP hmethM habM hkP hkPi (g := g) hg (argsL := argsL) (rest := rest) (hlen _ hsigM) hstack hdg
  obtain ⟨v, B, X', hpost, hsteps⟩ := hK m meth c ⟨T.setVm vm₁, locs, cells, slots⟩ { g with stack := rest } (.invokevirtual index) mk (Value.ref b :: argsL).toArray X₁ hg hsize hdg hW (X₁.named hnamed) (hpre vm₁ X₁.warmed)
  exact ⟨v, vm₁, B, X₁.warmed, X', hpost, fun target h => hstep₁ _ fun acts => by rw [doInvoke_state]; exact hsteps.trans h⟩
abbrev vx_CVW (R : Room) (s : State) (args : Array Value) (own C : String) (index : Nat) (y : MethodName) (bytes : ByteArray) (maxL : Nat) (ret : Option FieldType) (hh : List (Nat × Nat × Nat × Nat)) (ws : List Cond) (rm : Room) (mc ms n : Nat) : Prop :=
  (rm.cells = mc ∧ rm.slots = ms ∧ rm.frames + 1 ≤ R.frames ∧ 8 + (maxL + 11) + rm.locals ≤ R.locals ∧ (∀ w ∈ ws, ∀ (a' : Array Value) (U : State), s.WarmedH U.vm → w.before a' U = true) ∧ Cond.codeWith y bytes maxL ret hh ∈ ws) ∧
  (Cond.codeWith y bytes maxL ret hh).before args s = true ∧ (Cond.initialized y.cls).before args s = true ∧ (y.cls ≠ "java/lang/invoke/MethodHandle" ∧ y.cls ≠ "java/lang/invoke/VarHandle") ∧
  (∀ sig, parseMethodDescriptor y.desc = some sig → n = sig.parameters.length) ∧ (Cond.methodLink own index y).before args s = true ∧ (Cond.instanceMethod y).before args s = true ∧ (Cond.selects C y y).before args s = true
theorem vx_cwVW {own C : String} {index maxL mc ms : Nat} {y : MethodName} {bytes : ByteArray} {ret : Option FieldType} {hh : List (Nat × Nat × Nat × Nat)} {Ts ws ws' : List Cond} {rm : Room} (n : Nat) (ht : ∀ w ∈ Ts, w.before args s = true) (hT : GoodIn Ts (wsV own index C y ws)) (hw : ws = Cond.codeWith y bytes maxL ret hh :: ws') (hrc : rm.cells = mc) (hrs : rm.slots = ms)
    (hd : y.cls = C ∧ y.cls ≠ "java/lang/invoke/MethodHandle" ∧ y.cls ≠ "java/lang/invoke/VarHandle" ∧ (parseMethodDescriptor y.desc).map (fun d => d.parameters.length) = some n) (hR : rm.frames + 1 ≤ R.frames ∧ 8 + (maxL + 11) + rm.locals ≤ R.locals) :
    vx_CVW R s args own C index y bytes maxL ret hh ws rm mc ms n := by
  obtain ⟨hC, hd⟩ := hd
  subst hC
  have ok : ∀ w ∈ wsV own index y.cls y ws, w.before args s = true := fun w h => ht w (hT w h).1
  have hG : GoodIn Ts ws := fun w h => hT w (by unfold wsV; exact List.mem_append_right _ h)
  have hc : Cond.codeWith y bytes maxL ret hh ∈ ws := by rw [hw]; exact List.mem_cons_self
  refine ⟨⟨hrc, hrs, hR.1, hR.2, pay_in ht hG, hc⟩, ht _ (hG _ hc).1, ok _ (by simp [wsV]), ⟨hd.1, hd.2.1⟩, fun sig h => ?_, ok _ (by simp [wsV]), ok _ (by simp [wsV]), ok _ (by simp [wsV])⟩
  have h2 := hd.2.2
  rw [h] at h2
  exact (Option.some.inj h2).symm
theorem vx_runVW {y : MethodName} {bytes cc : ByteArray} {maxL nL mc ms n index : Nat} {ret : Option FieldType} {hh : List (Nat × Nat × Nat × Nat)} {ws : List Cond} {rm : Room} {Pc : Array Value → State → Prop} {Qc : Array Value → State → Outcome → State → Prop} {free : Addr → Prop} {Ts : List Cond} {own C : String} {b : Addr} {As rest : List Value} {g : JFrame}
    (S : CallFix p m c cc nL s args Ts own) (hM : Met l y ws rm Pc Qc mc ms free) (cw : vx_CVW R s args own C index y bytes maxL ret hh ws rm mc ms n) (hp : PreV s H C b Pc As)
    (hg : g.method = m) (hn : As.length = n) (hsize : g.locals.size = nL) (hstack : g.stack = As.reverse ++ .ref b :: rest) (hW : 2 * g.monitorRoom + (rest.map fun v => v.category).sum ≤ 8) (hdg : decode cc g.pc = .ok (.invokevirtual index, 3)) (hf : cells + mc ≤ R.cells ∧ slots + ms ≤ R.slots) :
    va_Run p l e R s m args below meth c H locs cells slots mc ms g rest (Qc (Value.ref b :: As).toArray) free := by
  obtain ⟨⟨hrc, hrs, hfr, hlo, hws, hcw⟩, hcode, hini, hy, hlen, hl, hin, hse⟩ := cw
  have hK : Back l R p e below s args y 3 8 (PreOf R mc ms Pc) (PostOf Qc mc ms free) := va_backW (hh := hh) (bytes := bytes) (maxL := maxL) (ret := ret) hM hp.1 hrc hrs hfr hlo hws hcw (fun a' U hW => word_at hW (Or.inl (by first | rfl | simp [Cond.onTables, Cond.keeps, Cond.steady])) hini)
  obtain ⟨hx, hb, hml, ho, -⟩ := S
  obtain ⟨-, ⟨cellB, hcB, hoB, hclB⟩, hPc⟩ := hp
  intro T hT X
  obtain ⟨v, vm₁, ⟨U', l2, c2, s2⟩, hW₁, X', ⟨g', mk, t, L, e1, e2, hq, h1, hL, h2, h3⟩, st⟩ := vx_callVW X hx (C := C) (hh := hh) (bytes := bytes) (maxL := maxL) (ret := ret) ho hl hin hse hcode hy hK (by rw [hT]; exact hcB) hoB hclB hg (hsize.trans hml.symm) (argsL := As) (rest := rest) (fun sig h => hn.trans (hlen sig h)) hstack hW (by rw [hb]; exact hdg)
    (fun vm₁ hW₁ => ⟨hf.1, hf.2, hPc (T.setVm vm₁) hT hW₁⟩)
  dsimp only [Pt.U, Pt.locs, Pt.cells, Pt.slots] at X' e1 e2 h1 h2 h3 st
  subst h1; subst h2; subst h3
  exact ⟨v, (T.setVm vm₁).calling g' mk (Value.ref b :: As).toArray, t, U', L, hT, X', hL, e1, e2, hq, st⟩
section
variable {y : MethodName} {bytes cc : ByteArray} {maxL nL mc ms n index : Nat} {ret : Option FieldType} {ws : List Cond} {rm : Room} {Pc : Array Value → State → Prop} {Qc : Array Value → State → Outcome → State → Prop} {XC : String → State → State → Prop} {free : Addr → Prop} {Ts : List Cond} {own C : String} {b : Addr} {As rest : List Value} {g : JFrame}
theorem vx_runVX {hh : List (Nat × Nat × Nat × Nat)} (S : CallFix p m c cc nL s args Ts own) (hM : vx_Met l y ws rm Pc Qc XC mc ms free) (cw : vx_CVW R s args own C index y bytes maxL ret hh ws rm mc ms n) (hp : PreV s H C b Pc As)
    (hg : g.method = m) (hn : As.length = n) (hsize : g.locals.size = nL) (hstack : g.stack = As.reverse ++ .ref b :: rest) (hW : 2 * g.monitorRoom + (rest.map fun v => v.category).sum ≤ 8) (hdg : decode cc g.pc = .ok (.invokevirtual index, 3)) (hf : cells + mc ≤ R.cells ∧ slots + ms ≤ R.slots) :
    vx_Run p l e R s m args below meth c H locs cells slots mc ms g rest (Qc (Value.ref b :: As).toArray) XC free := by
  obtain ⟨⟨hrc, hrs, hfr, hlo, hws, hcw⟩, hcode, hini, hy, hlen, hl, hin, hse⟩ := cw
  have hK : vx_Back l R p e below s args y 3 8 (PreOf R mc ms Pc) (PostOf Qc mc ms free) (vx_Post XC mc ms free) := vx_backW (hh := hh) (bytes := bytes) (maxL := maxL) (ret := ret) hM hp.1 hrc hrs hfr hlo hws hcw (fun a' U hW => word_at hW (Or.inl (by first | rfl | simp [Cond.onTables, Cond.keeps, Cond.steady])) hini)
  obtain ⟨hx, hb, hml, ho, -⟩ := S
  obtain ⟨-, ⟨cellB, hcB, hoB, hclB⟩, hPc⟩ := hp
  intro T hT X
  rcases vx_callVX X hx (C := C) (hh := hh) (bytes := bytes) (maxL := maxL) (ret := ret) ho hl hin hse hcode hy hK (by rw [hT]; exact hcB) hoB hclB hg (hsize.trans hml.symm) (argsL := As) (rest := rest) (fun sig h => hn.trans (hlen sig h)) hstack hW (by rw [hb]; exact hdg)
    (fun vm₁ hW₁ => ⟨hf.1, hf.2, hPc (T.setVm vm₁) hT hW₁⟩) with ⟨v, vm₁, ⟨U', l2, c2, s2⟩, hW₁, X', ⟨g', mk, t, L, e1, e2, hq, h1, hL, h2, h3⟩, st⟩ | ⟨q, vm₁, ⟨U', l2, c2, s2⟩, hW₁, X', ⟨g', mk, t, L, E, ce, e1, e2, hq, hce, hcv, hcl, h1, hL, h2, h3⟩, st⟩
  · dsimp only [Pt.U, Pt.locs, Pt.cells, Pt.slots] at X' e1 e2 h1 h2 h3 st
    subst h1; subst h2; subst h3
    exact Or.inl ⟨v, (T.setVm vm₁).calling g' mk (Value.ref b :: As).toArray, t, U', L, hT, X', hL, e1, e2, hq, st⟩
  · dsimp only [Pt.U, Pt.locs, Pt.cells, Pt.slots] at X' e1 e2 h1 h2 h3 st hcl
    subst h1; subst h2; subst h3
    exact Or.inr ⟨q, (T.setVm vm₁).calling g' mk (Value.ref b :: As).toArray, t, U', L, E, ce, hT, X', hL, e1, e2, hq, hce, hcv, vx_cls hW₁ hcl, st⟩
theorem vx_runSX {hh : List (Nat × Nat × Nat × Nat)} (S : CallFix p m c cc nL s args Ts own) (hM : vx_Met l y ws rm Pc Qc XC mc ms free) (cw : vx_CSW R s args own index y bytes maxL ret hh ws rm mc ms n) (hp : PreS s H Pc As)
    (hg : g.method = m) (hn : As.length = n) (hsize : g.locals.size = nL) (hstack : g.stack = As.reverse ++ rest) (hW : 2 * g.monitorRoom + (rest.map fun v => v.category).sum ≤ 8) (hdg : decode cc g.pc = .ok (.invokestatic index, 3)) (hf : cells + mc ≤ R.cells ∧ slots + ms ≤ R.slots) :
    vx_Run p l e R s m args below meth c H locs cells slots mc ms g rest (Qc As.toArray) XC free := by
  obtain ⟨⟨hrc, hrs, hfr, hlo, hws, hcw⟩, hcode, hini, hy, hlen, hl, hstt⟩ := cw
  have hK : vx_Back l R p e below s args y 3 8 (PreOf R mc ms Pc) (PostOf Qc mc ms free) (vx_Post XC mc ms free) := vx_backW (hh := hh) (bytes := bytes) (maxL := maxL) (ret := ret) hM hp.1 hrc hrs hfr hlo hws hcw (fun a' U hW => word_at hW (Or.inl (by first | rfl | simp [Cond.onTables, Cond.keeps, Cond.steady])) hini)
  obtain ⟨hx, hb, hml, ho, -⟩ := S
  intro T hT X
  rcases vx_callSX X hx (hh := hh) (bytes := bytes) (maxL := maxL) (ret := ret) ho hl hstt hini hcode hy hK hg (hsize.trans hml.symm) (argsL := As) (rest := rest) (fun sig h => hn.trans (hlen sig h)) hstack hW (by rw [hb]; exact hdg)
    (fun vm₁ hW₁ => ⟨hf.1, hf.2, hp.2 (T.setVm vm₁) hT hW₁⟩) with ⟨v, vm₁, ⟨U', l2, c2, s2⟩, hW₁, X', ⟨g', mk, t, L, e1, e2, hq, h1, hL, h2, h3⟩, st⟩ | ⟨q, vm₁, ⟨U', l2, c2, s2⟩, hW₁, X', ⟨g', mk, t, L, E, ce, e1, e2, hq, hce, hcv, hcl, h1, hL, h2, h3⟩, st⟩
  · dsimp only [Pt.U, Pt.locs, Pt.cells, Pt.slots] at X' e1 e2 h1 h2 h3 st
    subst h1; subst h2; subst h3
    exact Or.inl ⟨v, (T.setVm vm₁).calling g' mk As.toArray, t, U', L, hT, X', hL, e1, e2, hq, st⟩
  · dsimp only [Pt.U, Pt.locs, Pt.cells, Pt.slots] at X' e1 e2 h1 h2 h3 st hcl
    subst h1; subst h2; subst h3
    exact Or.inr ⟨q, (T.setVm vm₁).calling g' mk As.toArray, t, U', L, E, ce, hT, X', hL, e1, e2, hq, hce, hcv, vx_cls hW₁ hcl, st⟩
end
end VXH
theorem vx_ofWH {l : Launch} {y : MethodName} {ws ws' : List Cond} {rm : Room} {Pc : Array Value → State → Prop} {Qc : Array Value → State → Outcome → State → Prop} {XC : String → State → State → Prop} {mc ms : Nat} {free : Addr → Prop} {cc : ByteArray} {maxL : Nat} {ret : Option FieldType} {hh : List (Nat × Nat × Nat × Nat)}
    (hy : plainName y.cls = true) (hw : ws = Cond.codeWith y cc maxL ret hh :: ws')
    (body : ∀ p e s m args below meth c s₁, BodyLoose p l y (headSpec ws rm) cc maxL ret e s m args below meth c s₁ → c.maxLocals = maxL → Pc args s →
      W p l e (headSpec ws rm).room s m args below meth c s.heap [] 0 0 (vx_MQ below Qc XC args s mc ms free) (entryFrame m args maxL)) : vx_Met l y ws rm Pc Qc XC mc ms free := by
  refine MetFree.of_bodyS (code := cc) (maxLocals := maxL) (ret := ret) hy ?_ ?_
  · intro args s m h hn
    obtain ⟨m9, meth, c, hn9, h1, h2, h3, h4, -, h5, h6, -⟩ := Cond.codeWith_spec (atoms_spec (ws := ws) h _ (by rw [hw]; exact List.mem_cons_self))
    cases hn.symm.trans hn9
    exact ⟨meth, c, h1, h2, h3, h4, h5, h6⟩
  · intro p e s m args below meth c s₁ B hml hP _
    have hh0 : s₁.heap = s.heap := by rw [B.state]; rfl
    obtain ⟨t, a1, o, b1, b2, b3⟩ := body p e s m args below meth c s₁ B hml hP s₁ hh0 (Stand.of_body B)
    exact ⟨t, o, a1, b1, b2, b3⟩
/-! ===== END ===== -/
end
section
/-! ===== BEGIN printed: names, fields, word lists, decode rows ===== -/
def RX0 : String := "MarketWeeks"
def TX0 : u_T := fun k => match k with
  | 0 => ("MarketWeeks", "lengths", "[I", true)
  | 1 => ("MarketWeeks", "places", "[I", true)
  | 2 => ("MarketWeeks", "count", "I", false)
  | 3 => ("MarketWeeks", "moonNum", "I", false)
  | 4 => ("MarketWeeks", "moonDen", "I", false)
  | 5 => ("MarketWeeks", "moonShift", "I", false)
  | 6 => ("MarketWeeks", "yearCommon", "I", false)
  | 7 => ("MarketWeeks", "leapA", "I", false)
  | 8 => ("MarketWeeks", "leapB", "I", false)
  | _ => ("MarketWeeks", "leapC", "I", false)
def tyX0 : Nat → FieldType := fun k => match k with
  | 0 => .array .int
  | 1 => .array .int
  | 2 => .int
  | 3 => .int
  | 4 => .int
  | 5 => .int
  | 6 => .int
  | 7 => .int
  | 8 => .int
  | _ => .int
abbrev wsX00 : List Cond := u_ws RX0 TX0 10
theorem nmX0 : ∀ a, a < 10 → ∀ b, b < 10 → a ≠ b → (TX0 a).2.1 ≠ (TX0 b).2.1 := by decide +kernel
theorem tyX0_ok : ∀ k, k < 10 → parseFieldDescriptor (TX0 k).2.2.1 = some (tyX0 k) := by decide +kernel
abbrev cX0_init : ByteArray := prog_1_method_1_code
def yX0_init : MethodName := ⟨RX0, "<init>", "()V"⟩
abbrev cX0_addMarket : ByteArray := prog_1_method_2_code
def yX0_addMarket : MethodName := ⟨RX0, "addMarket", "(II)I"⟩
abbrev cX0_shift : ByteArray := prog_1_method_3_code
def yX0_shift : MethodName := ⟨RX0, "shift", "(II)I"⟩
abbrev cX0_setMoon : ByteArray := prog_1_method_4_code
def yX0_setMoon : MethodName := ⟨RX0, "setMoon", "(III)V"⟩
abbrev cX0_setYear : ByteArray := prog_1_method_5_code
def yX0_setYear : MethodName := ⟨RX0, "setYear", "(IIII)V"⟩
abbrev cX0_markets : ByteArray := prog_1_method_6_code
def yX0_markets : MethodName := ⟨RX0, "markets", "()I"⟩
abbrev cX0_isHeld : ByteArray := prog_1_method_7_code
def yX0_isHeld : MethodName := ⟨RX0, "isHeld", "(II)Z"⟩
abbrev cX0_next : ByteArray := prog_1_method_8_code
def yX0_next : MethodName := ⟨RX0, "next", "(II)I"⟩
abbrev cX0_nearest : ByteArray := prog_1_method_9_code
def yX0_nearest : MethodName := ⟨RX0, "nearest", "(II)I"⟩
abbrev cX0_times : ByteArray := prog_1_method_10_code
def yX0_times : MethodName := ⟨RX0, "times", "(III)I"⟩
abbrev cX0_heldOn : ByteArray := prog_1_method_11_code
def yX0_heldOn : MethodName := ⟨RX0, "heldOn", "(I)I"⟩
abbrev cX0_doMeet : ByteArray := prog_1_method_12_code
def yX0_doMeet : MethodName := ⟨RX0, "doMeet", "(I)Z"⟩
abbrev cX0_period : ByteArray := prog_1_method_13_code
def yX0_period : MethodName := ⟨RX0, "period", "(I)I"⟩
abbrev cX0_meeting : ByteArray := prog_1_method_14_code
def yX0_meeting : MethodName := ⟨RX0, "meeting", "(II)I"⟩
abbrev cX0_lunarMeeting : ByteArray := prog_1_method_15_code
def yX0_lunarMeeting : MethodName := ⟨RX0, "lunarMeeting", "(IIII)J"⟩
abbrev cX0_best : ByteArray := prog_1_method_16_code
def yX0_best : MethodName := ⟨RX0, "best", "(III)I"⟩
abbrev cX0_month : ByteArray := prog_1_method_17_code
def yX0_month : MethodName := ⟨RX0, "month", "(I)I"⟩
abbrev cX0_lunarDay : ByteArray := prog_1_method_18_code
def yX0_lunarDay : MethodName := ⟨RX0, "lunarDay", "(I)I"⟩
abbrev cX0_monthBegin : ByteArray := prog_1_method_19_code
def yX0_monthBegin : MethodName := ⟨RX0, "monthBegin", "(I)I"⟩
abbrev cX0_year : ByteArray := prog_1_method_20_code
def yX0_year : MethodName := ⟨RX0, "year", "(I)I"⟩
abbrev cX0_placeInYear : ByteArray := prog_1_method_21_code
def yX0_placeInYear : MethodName := ⟨RX0, "placeInYear", "(I)I"⟩
abbrev cX0_isLeap : ByteArray := prog_1_method_22_code
def yX0_isLeap : MethodName := ⟨RX0, "isLeap", "(I)Z"⟩
abbrev cX0_dayOf : ByteArray := prog_1_method_23_code
def yX0_dayOf : MethodName := ⟨RX0, "dayOf", "(II)I"⟩
abbrev cX0_timesInYear : ByteArray := prog_1_method_24_code
def yX0_timesInYear : MethodName := ⟨RX0, "timesInYear", "(II)I"⟩
abbrev cX0_checkArgument : ByteArray := prog_1_method_25_code
def yX0_checkArgument : MethodName := ⟨RX0, "checkArgument", "(Z)V"⟩
abbrev cX0_checkDay : ByteArray := prog_1_method_26_code
def yX0_checkDay : MethodName := ⟨RX0, "checkDay", "(I)V"⟩
abbrev cX0_checkYear : ByteArray := prog_1_method_27_code
def yX0_checkYear : MethodName := ⟨RX0, "checkYear", "(I)V"⟩
abbrev cX0_checkMarket : ByteArray := prog_1_method_28_code
def yX0_checkMarket : MethodName := ⟨RX0, "checkMarket", "(I)V"⟩
abbrev cX0_checkMarkets : ByteArray := prog_1_method_29_code
def yX0_checkMarkets : MethodName := ⟨RX0, "checkMarkets", "(I)V"⟩
abbrev cX0_checkMeetingSet : ByteArray := prog_1_method_30_code
def yX0_checkMeetingSet : MethodName := ⟨RX0, "checkMeetingSet", "(I)V"⟩
abbrev cX0_checkTheyMeet : ByteArray := prog_1_method_31_code
def yX0_checkTheyMeet : MethodName := ⟨RX0, "checkTheyMeet", "(J)V"⟩
abbrev cX0_isPlace : ByteArray := prog_1_method_32_code
def yX0_isPlace : MethodName := ⟨RX0, "isPlace", "(I)Z"⟩
abbrev cX0_lengthOf : ByteArray := prog_1_method_33_code
def yX0_lengthOf : MethodName := ⟨RX0, "lengthOf", "(I)I"⟩
abbrev cX0_placeOf : ByteArray := prog_1_method_34_code
def yX0_placeOf : MethodName := ⟨RX0, "placeOf", "(I)I"⟩
abbrev cX0_isOn : ByteArray := prog_1_method_35_code
def yX0_isOn : MethodName := ⟨RX0, "isOn", "(IJ)Z"⟩
abbrev cX0_setOn : ByteArray := prog_1_method_36_code
def yX0_setOn : MethodName := ⟨RX0, "setOn", "(I)I"⟩
abbrev cX0_countHeld : ByteArray := prog_1_method_37_code
def yX0_countHeld : MethodName := ⟨RX0, "countHeld", "(III)I"⟩
abbrev cX0_firstMeeting : ByteArray := prog_1_method_38_code
def yX0_firstMeeting : MethodName := ⟨RX0, "firstMeeting", "(I)J"⟩
abbrev cX0_firstHeldInSteps : ByteArray := prog_1_method_39_code
def yX0_firstHeldInSteps : MethodName := ⟨RX0, "firstHeldInSteps", "(IJJ)J"⟩
abbrev cX0_commonLength : ByteArray := prog_1_method_40_code
def yX0_commonLength : MethodName := ⟨RX0, "commonLength", "(I)J"⟩
abbrev cX0_commonMultiple : ByteArray := prog_1_method_41_code
def yX0_commonMultiple : MethodName := ⟨RX0, "commonMultiple", "(JI)J"⟩
abbrev cX0_moonParts : ByteArray := prog_1_method_42_code
def yX0_moonParts : MethodName := ⟨RX0, "moonParts", "(J)J"⟩
abbrev cX0_lunarDayOf : ByteArray := prog_1_method_43_code
def yX0_lunarDayOf : MethodName := ⟨RX0, "lunarDayOf", "(J)J"⟩
abbrev cX0_yearBegin : ByteArray := prog_1_method_44_code
def yX0_yearBegin : MethodName := ⟨RX0, "yearBegin", "(I)I"⟩
abbrev cX0_yearOf : ByteArray := prog_1_method_45_code
def yX0_yearOf : MethodName := ⟨RX0, "yearOf", "(I)I"⟩
abbrev cX0_hasLeapDay : ByteArray := prog_1_method_46_code
def yX0_hasLeapDay : MethodName := ⟨RX0, "hasLeapDay", "(I)Z"⟩
abbrev cX0_isWithin : ByteArray := prog_1_method_47_code
def yX0_isWithin : MethodName := ⟨RX0, "isWithin", "(III)Z"⟩
abbrev cX0_divide : ByteArray := prog_1_method_48_code
def yX0_divide : MethodName := ⟨RX0, "divide", "(JJ)J"⟩
abbrev cX0_modulo : ByteArray := prog_1_method_49_code
def yX0_modulo : MethodName := ⟨RX0, "modulo", "(JJ)J"⟩
def RX1 : String := "MarketWeeksModel"
def TX1 : u_T := fun k => match k with
  | 0 => ("MarketWeeksModel", "thrown", "I", false)
  | 1 => ("MarketWeeksModel", "lengths", "[I", true)
  | 2 => ("MarketWeeksModel", "places", "[I", true)
  | 3 => ("MarketWeeksModel", "many", "I", false)
  | 4 => ("MarketWeeksModel", "num", "I", false)
  | 5 => ("MarketWeeksModel", "den", "I", false)
  | 6 => ("MarketWeeksModel", "moved", "I", false)
  | 7 => ("MarketWeeksModel", "common", "I", false)
  | 8 => ("MarketWeeksModel", "a", "I", false)
  | 9 => ("MarketWeeksModel", "b", "I", false)
  | 10 => ("MarketWeeksModel", "c", "I", false)
  | 11 => ("MarketWeeksModel", "found", "J", false)
  | _ => ("MarketWeeksModel", "step", "J", false)
def tyX1 : Nat → FieldType := fun k => match k with
  | 0 => .int
  | 1 => .array .int
  | 2 => .array .int
  | 3 => .int
  | 4 => .int
  | 5 => .int
  | 6 => .int
  | 7 => .int
  | 8 => .int
  | 9 => .int
  | 10 => .int
  | 11 => .long
  | _ => .long
abbrev wsX10 : List Cond := u_ws RX1 TX1 13
theorem nmX1 : ∀ a, a < 13 → ∀ b, b < 13 → a ≠ b → (TX1 a).2.1 ≠ (TX1 b).2.1 := by decide +kernel
theorem tyX1_ok : ∀ k, k < 13 → parseFieldDescriptor (TX1 k).2.2.1 = some (tyX1 k) := by decide +kernel
abbrev cX1_init : ByteArray := prog_3_method_1_code
def yX1_init : MethodName := ⟨RX1, "<init>", "()V"⟩
abbrev cX1_thrown : ByteArray := prog_3_method_2_code
def yX1_thrown : MethodName := ⟨RX1, "thrown", "()I"⟩
abbrev cX1_goesWell : ByteArray := prog_3_method_3_code
def yX1_goesWell : MethodName := ⟨RX1, "goesWell", "(I)Z"⟩
abbrev cX1_in : ByteArray := prog_3_method_4_code
def yX1_in : MethodName := ⟨RX1, "in", "(JJJ)Z"⟩
abbrev cX1_isDay : ByteArray := prog_3_method_5_code
def yX1_isDay : MethodName := ⟨RX1, "isDay", "(I)Z"⟩
abbrev cX1_isMarket : ByteArray := prog_3_method_6_code
def yX1_isMarket : MethodName := ⟨RX1, "isMarket", "(I)Z"⟩
abbrev cX1_part : ByteArray := prog_3_method_7_code
def yX1_part : MethodName := ⟨RX1, "part", "(JJ)J"⟩
abbrev cX1_modulo : ByteArray := prog_3_method_8_code
def yX1_modulo : MethodName := ⟨RX1, "modulo", "(JJ)J"⟩
abbrev cX1_addMarket : ByteArray := prog_3_method_9_code
def yX1_addMarket : MethodName := ⟨RX1, "addMarket", "(II)I"⟩
abbrev cX1_shift : ByteArray := prog_3_method_10_code
def yX1_shift : MethodName := ⟨RX1, "shift", "(II)I"⟩
abbrev cX1_setMoon : ByteArray := prog_3_method_11_code
def yX1_setMoon : MethodName := ⟨RX1, "setMoon", "(III)V"⟩
abbrev cX1_setYear : ByteArray := prog_3_method_12_code
def yX1_setYear : MethodName := ⟨RX1, "setYear", "(IIII)V"⟩
abbrev cX1_markets : ByteArray := prog_3_method_13_code
def yX1_markets : MethodName := ⟨RX1, "markets", "()I"⟩
abbrev cX1_holds : ByteArray := prog_3_method_14_code
def yX1_holds : MethodName := ⟨RX1, "holds", "(IJ)Z"⟩
abbrev cX1_isHeld : ByteArray := prog_3_method_15_code
def yX1_isHeld : MethodName := ⟨RX1, "isHeld", "(II)Z"⟩
abbrev cX1_from : ByteArray := prog_3_method_16_code
def yX1_from : MethodName := ⟨RX1, "from", "(II)I"⟩
abbrev cX1_next : ByteArray := prog_3_method_17_code
def yX1_next : MethodName := ⟨RX1, "next", "(II)I"⟩
abbrev cX1_nearest : ByteArray := prog_3_method_18_code
def yX1_nearest : MethodName := ⟨RX1, "nearest", "(II)I"⟩
abbrev cX1_before : ByteArray := prog_3_method_19_code
def yX1_before : MethodName := ⟨RX1, "before", "(IJ)J"⟩
abbrev cX1_count : ByteArray := prog_3_method_20_code
def yX1_count : MethodName := ⟨RX1, "count", "(IJJ)I"⟩
abbrev cX1_times : ByteArray := prog_3_method_21_code
def yX1_times : MethodName := ⟨RX1, "times", "(III)I"⟩
abbrev cX1_held : ByteArray := prog_3_method_22_code
def yX1_held : MethodName := ⟨RX1, "held", "(I)I"⟩
abbrev cX1_heldOn : ByteArray := prog_3_method_23_code
def yX1_heldOn : MethodName := ⟨RX1, "heldOn", "(I)I"⟩
abbrev cX1_sizeOf : ByteArray := prog_3_method_24_code
def yX1_sizeOf : MethodName := ⟨RX1, "sizeOf", "(I)I"⟩
abbrev cX1_faultOf : ByteArray := prog_3_method_25_code
def yX1_faultOf : MethodName := ⟨RX1, "faultOf", "(I)I"⟩
abbrev cX1_find : ByteArray := prog_3_method_26_code
def yX1_find : MethodName := ⟨RX1, "find", "(II)Z"⟩
abbrev cX1_doMeet : ByteArray := prog_3_method_27_code
def yX1_doMeet : MethodName := ⟨RX1, "doMeet", "(I)Z"⟩
abbrev cX1_period : ByteArray := prog_3_method_28_code
def yX1_period : MethodName := ⟨RX1, "period", "(I)I"⟩
abbrev cX1_meeting : ByteArray := prog_3_method_29_code
def yX1_meeting : MethodName := ⟨RX1, "meeting", "(II)I"⟩
abbrev cX1_lunarOf : ByteArray := prog_3_method_30_code
def yX1_lunarOf : MethodName := ⟨RX1, "lunarOf", "(J)J"⟩
abbrev cX1_lunarMeeting : ByteArray := prog_3_method_31_code
def yX1_lunarMeeting : MethodName := ⟨RX1, "lunarMeeting", "(IIII)J"⟩
abbrev cX1_best : ByteArray := prog_3_method_32_code
def yX1_best : MethodName := ⟨RX1, "best", "(III)I"⟩
abbrev cX1_monthOf : ByteArray := prog_3_method_33_code
def yX1_monthOf : MethodName := ⟨RX1, "monthOf", "(J)J"⟩
abbrev cX1_month : ByteArray := prog_3_method_34_code
def yX1_month : MethodName := ⟨RX1, "month", "(I)I"⟩
abbrev cX1_lunarDay : ByteArray := prog_3_method_35_code
def yX1_lunarDay : MethodName := ⟨RX1, "lunarDay", "(I)I"⟩
abbrev cX1_monthBegin : ByteArray := prog_3_method_36_code
def yX1_monthBegin : MethodName := ⟨RX1, "monthBegin", "(I)I"⟩
abbrev cX1_beginOf : ByteArray := prog_3_method_37_code
def yX1_beginOf : MethodName := ⟨RX1, "beginOf", "(J)J"⟩
abbrev cX1_leaps : ByteArray := prog_3_method_38_code
def yX1_leaps : MethodName := ⟨RX1, "leaps", "(J)Z"⟩
abbrev cX1_yearOf : ByteArray := prog_3_method_39_code
def yX1_yearOf : MethodName := ⟨RX1, "yearOf", "(I)J"⟩
abbrev cX1_year : ByteArray := prog_3_method_40_code
def yX1_year : MethodName := ⟨RX1, "year", "(I)I"⟩
abbrev cX1_placeInYear : ByteArray := prog_3_method_41_code
def yX1_placeInYear : MethodName := ⟨RX1, "placeInYear", "(I)I"⟩
abbrev cX1_isYear : ByteArray := prog_3_method_42_code
def yX1_isYear : MethodName := ⟨RX1, "isYear", "(I)Z"⟩
abbrev cX1_isLeap : ByteArray := prog_3_method_43_code
def yX1_isLeap : MethodName := ⟨RX1, "isLeap", "(I)Z"⟩
abbrev cX1_lengthOf : ByteArray := prog_3_method_44_code
def yX1_lengthOf : MethodName := ⟨RX1, "lengthOf", "(I)J"⟩
abbrev cX1_dayOf : ByteArray := prog_3_method_45_code
def yX1_dayOf : MethodName := ⟨RX1, "dayOf", "(II)I"⟩
abbrev cX1_timesInYear : ByteArray := prog_3_method_46_code
def yX1_timesInYear : MethodName := ⟨RX1, "timesInYear", "(II)I"⟩
def RJ6 : String := "java/lang/Integer"
def TJ6 : u_T := fun k => match k with
  | _ => ("", "", "", false)
def tyJ6 : Nat → FieldType := fun k => match k with
  | _ => .int
abbrev wsJ60 : List Cond := u_ws RJ6 TJ6 0
theorem nmJ6 : ∀ a, a < 0 → ∀ b, b < 0 → a ≠ b → (TJ6 a).2.1 ≠ (TJ6 b).2.1 := by decide +kernel
theorem tyJ6_ok : ∀ k, k < 0 → parseFieldDescriptor (TJ6 k).2.2.1 = some (tyJ6 k) := by decide +kernel
abbrev cJ6_bitCount_0f7a4 : ByteArray := prog_8_method_49_code
def yJ6_bitCount_0f7a4 : MethodName := ⟨RJ6, "bitCount", "(I)I"⟩
def RJ9 : String := "java/lang/Math"
def TJ9 : u_T := fun k => match k with
  | _ => ("", "", "", false)
def tyJ9 : Nat → FieldType := fun k => match k with
  | _ => .int
abbrev wsJ90 : List Cond := u_ws RJ9 TJ9 0
theorem nmJ9 : ∀ a, a < 0 → ∀ b, b < 0 → a ≠ b → (TJ9 a).2.1 ≠ (TJ9 b).2.1 := by decide +kernel
theorem tyJ9_ok : ∀ k, k < 0 → parseFieldDescriptor (TJ9 k).2.2.1 = some (tyJ9 k) := by decide +kernel
abbrev cJ9_floorDiv_f86c9 : ByteArray := prog_9_method_49_code
def yJ9_floorDiv_f86c9 : MethodName := ⟨RJ9, "floorDiv", "(JJ)J"⟩
abbrev cJ9_floorMod_f86c9 : ByteArray := prog_9_method_52_code
def yJ9_floorMod_f86c9 : MethodName := ⟨RJ9, "floorMod", "(JJ)J"⟩
def RJ0 : String := "java/lang/String"
def TJ0 : u_T := fun k => match k with
  | _ => ("", "", "", false)
def tyJ0 : Nat → FieldType := fun k => match k with
  | _ => .int
abbrev wsJ00 : List Cond := u_ws RJ0 TJ0 0
theorem nmJ0 : ∀ a, a < 0 → ∀ b, b < 0 → a ≠ b → (TJ0 a).2.1 ≠ (TJ0 b).2.1 := by decide +kernel
theorem tyJ0_ok : ∀ k, k < 0 → parseFieldDescriptor (TJ0 k).2.2.1 = some (tyJ0 k) := by decide +kernel
def RL : String := "MarketWeeksLaw"
abbrev cL_addMarket : ByteArray := method_3_code
def yL_addMarket : MethodName := ⟨RL, "addMarket", "(LMarketWeeks;II[J)I"⟩
abbrev cL_shift : ByteArray := method_4_code
def yL_shift : MethodName := ⟨RL, "shift", "(LMarketWeeks;II[J)I"⟩
abbrev cL_setMoon : ByteArray := method_5_code
def yL_setMoon : MethodName := ⟨RL, "setMoon", "(LMarketWeeks;III)I"⟩
abbrev cL_setYear : ByteArray := method_6_code
def yL_setYear : MethodName := ⟨RL, "setYear", "(LMarketWeeks;IIII)I"⟩
abbrev cL_isHeld : ByteArray := method_7_code
def yL_isHeld : MethodName := ⟨RL, "isHeld", "(LMarketWeeks;II[J)I"⟩
abbrev cL_next : ByteArray := method_8_code
def yL_next : MethodName := ⟨RL, "next", "(LMarketWeeks;II[J)I"⟩
abbrev cL_nearest : ByteArray := method_9_code
def yL_nearest : MethodName := ⟨RL, "nearest", "(LMarketWeeks;II[J)I"⟩
abbrev cL_times : ByteArray := method_10_code
def yL_times : MethodName := ⟨RL, "times", "(LMarketWeeks;III[J)I"⟩
abbrev cL_heldOn : ByteArray := method_11_code
def yL_heldOn : MethodName := ⟨RL, "heldOn", "(LMarketWeeks;I[J)I"⟩
abbrev cL_doMeet : ByteArray := method_12_code
def yL_doMeet : MethodName := ⟨RL, "doMeet", "(LMarketWeeks;I[J)I"⟩
abbrev cL_period : ByteArray := method_13_code
def yL_period : MethodName := ⟨RL, "period", "(LMarketWeeks;I[J)I"⟩
abbrev cL_meeting : ByteArray := method_14_code
def yL_meeting : MethodName := ⟨RL, "meeting", "(LMarketWeeks;II[J)I"⟩
abbrev cL_lunarMeeting : ByteArray := method_15_code
def yL_lunarMeeting : MethodName := ⟨RL, "lunarMeeting", "(LMarketWeeks;IIII[J)I"⟩
abbrev cL_best : ByteArray := method_16_code
def yL_best : MethodName := ⟨RL, "best", "(LMarketWeeks;III[J)I"⟩
abbrev cL_month : ByteArray := method_17_code
def yL_month : MethodName := ⟨RL, "month", "(LMarketWeeks;I[J)I"⟩
abbrev cL_lunarDay : ByteArray := method_18_code
def yL_lunarDay : MethodName := ⟨RL, "lunarDay", "(LMarketWeeks;I[J)I"⟩
abbrev cL_monthBegin : ByteArray := method_19_code
def yL_monthBegin : MethodName := ⟨RL, "monthBegin", "(LMarketWeeks;I[J)I"⟩
abbrev cL_year : ByteArray := method_20_code
def yL_year : MethodName := ⟨RL, "year", "(LMarketWeeks;I[J)I"⟩
abbrev cL_placeInYear : ByteArray := method_21_code
def yL_placeInYear : MethodName := ⟨RL, "placeInYear", "(LMarketWeeks;I[J)I"⟩
abbrev cL_isLeap : ByteArray := method_22_code
def yL_isLeap : MethodName := ⟨RL, "isLeap", "(LMarketWeeks;I[J)I"⟩
abbrev cL_dayOf : ByteArray := method_23_code
def yL_dayOf : MethodName := ⟨RL, "dayOf", "(LMarketWeeks;II[J)I"⟩
abbrev cL_timesInYear : ByteArray := method_24_code
def yL_timesInYear : MethodName := ⟨RL, "timesInYear", "(LMarketWeeks;II[J)I"⟩
abbrev cL_law : ByteArray := code
def yL_law : MethodName := ⟨RL, "law", "([I)Z"⟩
def wsX0_init : List Cond := .code yX0_init cX0_init 1 none :: ([.methodLink RX0 1 objectInit, .instanceMethod objectInit, .code objectInit ⟨#[0xb1]⟩ 1 none, .arrayClass .int, .fieldLink RX0 9 "MarketWeeks" "lengths" "[I", .fieldLink RX0 13 "MarketWeeks" "places" "[I", .fieldLink RX0 16 "MarketWeeks" "count" "I", .fieldLink RX0 20 "MarketWeeks" "moonNum" "I", .fieldLink RX0 23 "MarketWeeks" "moonDen" "I", .fieldLink RX0 26 "MarketWeeks" "moonShift" "I", .fieldLink RX0 29 "MarketWeeks" "yearCommon" "I", .fieldLink RX0 32 "MarketWeeks" "leapA" "I", .fieldLink RX0 35 "MarketWeeks" "leapB" "I", .fieldLink RX0 38 "MarketWeeks" "leapC" "I"] ++ wsX00)
def wsX0_isWithin : List Cond := .code yX0_isWithin cX0_isWithin 3 (some .boolean) :: ([])
def wsX0_checkArgument : List Cond := .code yX0_checkArgument cX0_checkArgument 1 none :: ([.classLink RX0 137 "java/lang/IllegalArgumentException", .initialized "java/lang/IllegalArgumentException"] ++ (vx_atS RX0 141 "java/lang/IllegalArgumentException" ["java/lang/RuntimeException", "java/lang/Exception"]).filter goodWord)
def wsX0_isPlace : List Cond := .code yX0_isPlace cX0_isPlace 2 (some .boolean) :: ([.fieldLink RX0 9 "MarketWeeks" "lengths" "[I", .fieldLink RX0 13 "MarketWeeks" "places" "[I"] ++ wsX00)
def wsX0_addMarket : List Cond := .code yX0_addMarket cX0_addMarket 4 (some .int) :: ([.classLink RX0 53 "java/lang/IllegalStateException", .initialized "java/lang/IllegalStateException", .fieldLink RX0 16 "MarketWeeks" "count" "I", .fieldLink RX0 9 "MarketWeeks" "lengths" "[I", .fieldLink RX0 13 "MarketWeeks" "places" "[I", .methodLink RX0 41 yX0_isWithin, .static yX0_isWithin, .initialized RX0, .code yX0_isWithin cX0_isWithin 3 (some .boolean), .methodLink RX0 45 yX0_checkArgument, .static yX0_checkArgument, .code yX0_checkArgument cX0_checkArgument 1 none, .classLink RX0 137 "java/lang/IllegalArgumentException", .initialized "java/lang/IllegalArgumentException", .methodLink RX0 49 yX0_isPlace, .instanceMethod yX0_isPlace, .selects RX0 yX0_isPlace yX0_isPlace, .code yX0_isPlace cX0_isPlace 2 (some .boolean)] ++ wsX00 ++ (vx_atS RX0 57 "java/lang/IllegalStateException" ["java/lang/RuntimeException", "java/lang/Exception"]).filter goodWord ++ (vx_atS RX0 141 "java/lang/IllegalArgumentException" ["java/lang/RuntimeException", "java/lang/Exception"]).filter goodWord)
def wsX0_checkMarket : List Cond := .code yX0_checkMarket cX0_checkMarket 2 none :: ([.classLink RX0 144 "java/lang/IndexOutOfBoundsException", .initialized "java/lang/IndexOutOfBoundsException", .fieldLink RX0 16 "MarketWeeks" "count" "I", .methodLink RX0 41 yX0_isWithin, .static yX0_isWithin, .initialized RX0, .code yX0_isWithin cX0_isWithin 3 (some .boolean)] ++ wsX00 ++ (vx_atS RX0 148 "java/lang/IndexOutOfBoundsException" ["java/lang/RuntimeException", "java/lang/Exception"]).filter goodWord)
def wsX0_placeOf : List Cond := .code yX0_placeOf cX0_placeOf 2 (some .int) :: ([.fieldLink RX0 13 "MarketWeeks" "places" "[I", .methodLink RX0 49 yX0_isPlace, .instanceMethod yX0_isPlace, .selects RX0 yX0_isPlace yX0_isPlace, .initialized RX0, .code yX0_isPlace cX0_isPlace 2 (some .boolean), .fieldLink RX0 9 "MarketWeeks" "lengths" "[I"] ++ wsX00)
def wsX0_lengthOf : List Cond := .code yX0_lengthOf cX0_lengthOf 2 (some .int) :: ([.fieldLink RX0 9 "MarketWeeks" "lengths" "[I", .methodLink RX0 49 yX0_isPlace, .instanceMethod yX0_isPlace, .selects RX0 yX0_isPlace yX0_isPlace, .initialized RX0, .code yX0_isPlace cX0_isPlace 2 (some .boolean), .fieldLink RX0 13 "MarketWeeks" "places" "[I"] ++ wsX00)
def wsJ9_floorMod_f86c9 : List Cond := .code yJ9_floorMod_f86c9 cJ9_floorMod_f86c9 6 (some .long) :: ([])
def wsX0_modulo : List Cond := .code yX0_modulo cX0_modulo 4 (some .long) :: ([.methodLink RX0 166 yJ9_floorMod_f86c9, .static yJ9_floorMod_f86c9, .initialized RJ9, .code yJ9_floorMod_f86c9 cJ9_floorMod_f86c9 6 (some .long)])
def wsX0_shift_r1 : List Cond := [Cond.fieldLink RX0 13 "MarketWeeks" "places" "[I", Cond.methodLink RX0 60 yX0_checkMarket, Cond.instanceMethod yX0_checkMarket, Cond.selects RX0 yX0_checkMarket yX0_checkMarket, Cond.initialized RX0, Cond.code yX0_checkMarket cX0_checkMarket 2 none, Cond.classLink RX0 144 "java/lang/IndexOutOfBoundsException", Cond.initialized "java/lang/IndexOutOfBoundsException", Cond.fieldLink RX0 16 "MarketWeeks" "count" "I", Cond.methodLink RX0 41 yX0_isWithin, Cond.static yX0_isWithin, Cond.code yX0_isWithin cX0_isWithin 3 (some .boolean), Cond.methodLink RX0 45 yX0_checkArgument, Cond.static yX0_checkArgument, Cond.code yX0_checkArgument cX0_checkArgument 1 none, Cond.classLink RX0 137 "java/lang/IllegalArgumentException", Cond.initialized "java/lang/IllegalArgumentException", Cond.methodLink RX0 64 yX0_placeOf, Cond.instanceMethod yX0_placeOf, Cond.selects RX0 yX0_placeOf yX0_placeOf, Cond.code yX0_placeOf cX0_placeOf 2 (some .int), Cond.methodLink RX0 49 yX0_isPlace, Cond.instanceMethod yX0_isPlace, Cond.selects RX0 yX0_isPlace yX0_isPlace]
def wsX0_shift_r2 : List Cond := [Cond.code yX0_isPlace cX0_isPlace 2 (some .boolean), Cond.fieldLink RX0 9 "MarketWeeks" "lengths" "[I", Cond.methodLink RX0 68 yX0_lengthOf, Cond.instanceMethod yX0_lengthOf, Cond.selects RX0 yX0_lengthOf yX0_lengthOf, Cond.code yX0_lengthOf cX0_lengthOf 2 (some .int), Cond.methodLink RX0 71 yX0_modulo, Cond.static yX0_modulo, Cond.code yX0_modulo cX0_modulo 4 (some .long), Cond.methodLink RX0 166 yJ9_floorMod_f86c9, Cond.static yJ9_floorMod_f86c9, Cond.initialized RJ9, Cond.code yJ9_floorMod_f86c9 cJ9_floorMod_f86c9 6 (some .long)]
def wsX0_shift : List Cond := .code yX0_shift cX0_shift 4 (some .int) :: ((wsX0_shift_r1 ++ wsX0_shift_r2) ++ wsX00 ++ (vx_atS RX0 148 "java/lang/IndexOutOfBoundsException" ["java/lang/RuntimeException", "java/lang/Exception"]).filter goodWord ++ (vx_atS RX0 141 "java/lang/IllegalArgumentException" ["java/lang/RuntimeException", "java/lang/Exception"]).filter goodWord)
def wsX0_setMoon : List Cond := .code yX0_setMoon cX0_setMoon 4 none :: ([.fieldLink RX0 20 "MarketWeeks" "moonNum" "I", .fieldLink RX0 23 "MarketWeeks" "moonDen" "I", .fieldLink RX0 26 "MarketWeeks" "moonShift" "I", .methodLink RX0 41 yX0_isWithin, .static yX0_isWithin, .initialized RX0, .code yX0_isWithin cX0_isWithin 3 (some .boolean), .methodLink RX0 45 yX0_checkArgument, .static yX0_checkArgument, .code yX0_checkArgument cX0_checkArgument 1 none, .classLink RX0 137 "java/lang/IllegalArgumentException", .initialized "java/lang/IllegalArgumentException"] ++ wsX00 ++ (vx_atS RX0 141 "java/lang/IllegalArgumentException" ["java/lang/RuntimeException", "java/lang/Exception"]).filter goodWord)
def wsX0_setYear : List Cond := .code yX0_setYear cX0_setYear 5 none :: ([.fieldLink RX0 29 "MarketWeeks" "yearCommon" "I", .fieldLink RX0 32 "MarketWeeks" "leapA" "I", .fieldLink RX0 35 "MarketWeeks" "leapB" "I", .fieldLink RX0 38 "MarketWeeks" "leapC" "I", .methodLink RX0 41 yX0_isWithin, .static yX0_isWithin, .initialized RX0, .code yX0_isWithin cX0_isWithin 3 (some .boolean), .methodLink RX0 45 yX0_checkArgument, .static yX0_checkArgument, .code yX0_checkArgument cX0_checkArgument 1 none, .classLink RX0 137 "java/lang/IllegalArgumentException", .initialized "java/lang/IllegalArgumentException"] ++ wsX00 ++ (vx_atS RX0 141 "java/lang/IllegalArgumentException" ["java/lang/RuntimeException", "java/lang/Exception"]).filter goodWord)
def wsX0_markets : List Cond := .code yX0_markets cX0_markets 1 (some .int) :: ([.fieldLink RX0 16 "MarketWeeks" "count" "I"] ++ wsX00)
def wsX0_checkDay : List Cond := .code yX0_checkDay cX0_checkDay 1 none :: ([.constant RX0 142 (-1000000), .constant RX0 143 (1000000), .methodLink RX0 41 yX0_isWithin, .static yX0_isWithin, .initialized RX0, .code yX0_isWithin cX0_isWithin 3 (some .boolean), .methodLink RX0 45 yX0_checkArgument, .static yX0_checkArgument, .code yX0_checkArgument cX0_checkArgument 1 none, .classLink RX0 137 "java/lang/IllegalArgumentException", .initialized "java/lang/IllegalArgumentException"] ++ (vx_atS RX0 141 "java/lang/IllegalArgumentException" ["java/lang/RuntimeException", "java/lang/Exception"]).filter goodWord)
def wsX0_isOn : List Cond := .code yX0_isOn cX0_isOn 4 (some .boolean) :: ([.methodLink RX0 68 yX0_lengthOf, .instanceMethod yX0_lengthOf, .selects RX0 yX0_lengthOf yX0_lengthOf, .initialized RX0, .code yX0_lengthOf cX0_lengthOf 2 (some .int), .fieldLink RX0 9 "MarketWeeks" "lengths" "[I", .methodLink RX0 49 yX0_isPlace, .instanceMethod yX0_isPlace, .selects RX0 yX0_isPlace yX0_isPlace, .code yX0_isPlace cX0_isPlace 2 (some .boolean), .fieldLink RX0 13 "MarketWeeks" "places" "[I", .methodLink RX0 71 yX0_modulo, .static yX0_modulo, .code yX0_modulo cX0_modulo 4 (some .long), .methodLink RX0 166 yJ9_floorMod_f86c9, .static yJ9_floorMod_f86c9, .initialized RJ9, .code yJ9_floorMod_f86c9 cJ9_floorMod_f86c9 6 (some .long), .methodLink RX0 64 yX0_placeOf, .instanceMethod yX0_placeOf, .selects RX0 yX0_placeOf yX0_placeOf, .code yX0_placeOf cX0_placeOf 2 (some .int)] ++ wsX00)
def wsX0_isHeld_r1 : List Cond := [Cond.methodLink RX0 60 yX0_checkMarket, Cond.instanceMethod yX0_checkMarket, Cond.selects RX0 yX0_checkMarket yX0_checkMarket, Cond.initialized RX0, Cond.code yX0_checkMarket cX0_checkMarket 2 none, Cond.classLink RX0 144 "java/lang/IndexOutOfBoundsException", Cond.initialized "java/lang/IndexOutOfBoundsException", Cond.fieldLink RX0 16 "MarketWeeks" "count" "I", Cond.methodLink RX0 41 yX0_isWithin, Cond.static yX0_isWithin, Cond.code yX0_isWithin cX0_isWithin 3 (some .boolean), Cond.methodLink RX0 75 yX0_checkDay, Cond.static yX0_checkDay, Cond.code yX0_checkDay cX0_checkDay 1 none, Cond.constant RX0 142 (-1000000), Cond.constant RX0 143 (1000000), Cond.methodLink RX0 45 yX0_checkArgument, Cond.static yX0_checkArgument, Cond.code yX0_checkArgument cX0_checkArgument 1 none, Cond.classLink RX0 137 "java/lang/IllegalArgumentException", Cond.initialized "java/lang/IllegalArgumentException", Cond.methodLink RX0 78 yX0_isOn, Cond.instanceMethod yX0_isOn, Cond.selects RX0 yX0_isOn yX0_isOn]
def wsX0_isHeld_r2 : List Cond := [Cond.code yX0_isOn cX0_isOn 4 (some .boolean), Cond.methodLink RX0 68 yX0_lengthOf, Cond.instanceMethod yX0_lengthOf, Cond.selects RX0 yX0_lengthOf yX0_lengthOf, Cond.code yX0_lengthOf cX0_lengthOf 2 (some .int), Cond.fieldLink RX0 9 "MarketWeeks" "lengths" "[I", Cond.methodLink RX0 49 yX0_isPlace, Cond.instanceMethod yX0_isPlace, Cond.selects RX0 yX0_isPlace yX0_isPlace, Cond.code yX0_isPlace cX0_isPlace 2 (some .boolean), Cond.fieldLink RX0 13 "MarketWeeks" "places" "[I", Cond.methodLink RX0 71 yX0_modulo, Cond.static yX0_modulo, Cond.code yX0_modulo cX0_modulo 4 (some .long), Cond.methodLink RX0 166 yJ9_floorMod_f86c9, Cond.static yJ9_floorMod_f86c9, Cond.initialized RJ9, Cond.code yJ9_floorMod_f86c9 cJ9_floorMod_f86c9 6 (some .long), Cond.methodLink RX0 64 yX0_placeOf, Cond.instanceMethod yX0_placeOf, Cond.selects RX0 yX0_placeOf yX0_placeOf, Cond.code yX0_placeOf cX0_placeOf 2 (some .int)]
def wsX0_isHeld : List Cond := .code yX0_isHeld cX0_isHeld 3 (some .boolean) :: ((wsX0_isHeld_r1 ++ wsX0_isHeld_r2) ++ wsX00 ++ (vx_atS RX0 148 "java/lang/IndexOutOfBoundsException" ["java/lang/RuntimeException", "java/lang/Exception"]).filter goodWord ++ (vx_atS RX0 141 "java/lang/IllegalArgumentException" ["java/lang/RuntimeException", "java/lang/Exception"]).filter goodWord)
def wsX0_next_r1 : List Cond := [Cond.methodLink RX0 60 yX0_checkMarket, Cond.instanceMethod yX0_checkMarket, Cond.selects RX0 yX0_checkMarket yX0_checkMarket, Cond.initialized RX0, Cond.code yX0_checkMarket cX0_checkMarket 2 none, Cond.classLink RX0 144 "java/lang/IndexOutOfBoundsException", Cond.initialized "java/lang/IndexOutOfBoundsException", Cond.fieldLink RX0 16 "MarketWeeks" "count" "I", Cond.methodLink RX0 41 yX0_isWithin, Cond.static yX0_isWithin, Cond.code yX0_isWithin cX0_isWithin 3 (some .boolean), Cond.methodLink RX0 75 yX0_checkDay, Cond.static yX0_checkDay, Cond.code yX0_checkDay cX0_checkDay 1 none, Cond.constant RX0 142 (-1000000), Cond.constant RX0 143 (1000000), Cond.methodLink RX0 45 yX0_checkArgument, Cond.static yX0_checkArgument, Cond.code yX0_checkArgument cX0_checkArgument 1 none, Cond.classLink RX0 137 "java/lang/IllegalArgumentException", Cond.initialized "java/lang/IllegalArgumentException", Cond.methodLink RX0 64 yX0_placeOf, Cond.instanceMethod yX0_placeOf, Cond.selects RX0 yX0_placeOf yX0_placeOf]
def wsX0_next_r2 : List Cond := [Cond.code yX0_placeOf cX0_placeOf 2 (some .int), Cond.fieldLink RX0 13 "MarketWeeks" "places" "[I", Cond.methodLink RX0 49 yX0_isPlace, Cond.instanceMethod yX0_isPlace, Cond.selects RX0 yX0_isPlace yX0_isPlace, Cond.code yX0_isPlace cX0_isPlace 2 (some .boolean), Cond.fieldLink RX0 9 "MarketWeeks" "lengths" "[I", Cond.methodLink RX0 68 yX0_lengthOf, Cond.instanceMethod yX0_lengthOf, Cond.selects RX0 yX0_lengthOf yX0_lengthOf, Cond.code yX0_lengthOf cX0_lengthOf 2 (some .int), Cond.methodLink RX0 71 yX0_modulo, Cond.static yX0_modulo, Cond.code yX0_modulo cX0_modulo 4 (some .long), Cond.methodLink RX0 166 yJ9_floorMod_f86c9, Cond.static yJ9_floorMod_f86c9, Cond.initialized RJ9, Cond.code yJ9_floorMod_f86c9 cJ9_floorMod_f86c9 6 (some .long)]
def wsX0_next : List Cond := .code yX0_next cX0_next 3 (some .int) :: ((wsX0_next_r1 ++ wsX0_next_r2) ++ wsX00 ++ (vx_atS RX0 148 "java/lang/IndexOutOfBoundsException" ["java/lang/RuntimeException", "java/lang/Exception"]).filter goodWord ++ (vx_atS RX0 141 "java/lang/IllegalArgumentException" ["java/lang/RuntimeException", "java/lang/Exception"]).filter goodWord)
def wsX0_nearest_r1 : List Cond := [Cond.methodLink RX0 60 yX0_checkMarket, Cond.instanceMethod yX0_checkMarket, Cond.selects RX0 yX0_checkMarket yX0_checkMarket, Cond.initialized RX0, Cond.code yX0_checkMarket cX0_checkMarket 2 none, Cond.classLink RX0 144 "java/lang/IndexOutOfBoundsException", Cond.initialized "java/lang/IndexOutOfBoundsException", Cond.fieldLink RX0 16 "MarketWeeks" "count" "I", Cond.methodLink RX0 41 yX0_isWithin, Cond.static yX0_isWithin, Cond.code yX0_isWithin cX0_isWithin 3 (some .boolean), Cond.methodLink RX0 75 yX0_checkDay, Cond.static yX0_checkDay, Cond.code yX0_checkDay cX0_checkDay 1 none, Cond.constant RX0 142 (-1000000), Cond.constant RX0 143 (1000000), Cond.methodLink RX0 45 yX0_checkArgument, Cond.static yX0_checkArgument, Cond.code yX0_checkArgument cX0_checkArgument 1 none, Cond.classLink RX0 137 "java/lang/IllegalArgumentException", Cond.initialized "java/lang/IllegalArgumentException", Cond.methodLink RX0 68 yX0_lengthOf, Cond.instanceMethod yX0_lengthOf, Cond.selects RX0 yX0_lengthOf yX0_lengthOf]
def wsX0_nearest_r2 : List Cond := [Cond.code yX0_lengthOf cX0_lengthOf 2 (some .int), Cond.fieldLink RX0 9 "MarketWeeks" "lengths" "[I", Cond.methodLink RX0 49 yX0_isPlace, Cond.instanceMethod yX0_isPlace, Cond.selects RX0 yX0_isPlace yX0_isPlace, Cond.code yX0_isPlace cX0_isPlace 2 (some .boolean), Cond.fieldLink RX0 13 "MarketWeeks" "places" "[I", Cond.methodLink RX0 64 yX0_placeOf, Cond.instanceMethod yX0_placeOf, Cond.selects RX0 yX0_placeOf yX0_placeOf, Cond.code yX0_placeOf cX0_placeOf 2 (some .int), Cond.methodLink RX0 71 yX0_modulo, Cond.static yX0_modulo, Cond.code yX0_modulo cX0_modulo 4 (some .long), Cond.methodLink RX0 166 yJ9_floorMod_f86c9, Cond.static yJ9_floorMod_f86c9, Cond.initialized RJ9, Cond.code yJ9_floorMod_f86c9 cJ9_floorMod_f86c9 6 (some .long)]
def wsX0_nearest : List Cond := .code yX0_nearest cX0_nearest 6 (some .int) :: ((wsX0_nearest_r1 ++ wsX0_nearest_r2) ++ wsX00 ++ (vx_atS RX0 148 "java/lang/IndexOutOfBoundsException" ["java/lang/RuntimeException", "java/lang/Exception"]).filter goodWord ++ (vx_atS RX0 141 "java/lang/IllegalArgumentException" ["java/lang/RuntimeException", "java/lang/Exception"]).filter goodWord)
def wsJ9_floorDiv_f86c9 : List Cond := .code yJ9_floorDiv_f86c9 cJ9_floorDiv_f86c9 6 (some .long) :: ([])
def wsX0_divide : List Cond := .code yX0_divide cX0_divide 4 (some .long) :: ([.methodLink RX0 161 yJ9_floorDiv_f86c9, .static yJ9_floorDiv_f86c9, .initialized RJ9, .code yJ9_floorDiv_f86c9 cJ9_floorDiv_f86c9 6 (some .long)])
def wsX0_countHeld : List Cond := .code yX0_countHeld cX0_countHeld 6 (some .int) :: ([.methodLink RX0 68 yX0_lengthOf, .instanceMethod yX0_lengthOf, .selects RX0 yX0_lengthOf yX0_lengthOf, .initialized RX0, .code yX0_lengthOf cX0_lengthOf 2 (some .int), .fieldLink RX0 9 "MarketWeeks" "lengths" "[I", .methodLink RX0 49 yX0_isPlace, .instanceMethod yX0_isPlace, .selects RX0 yX0_isPlace yX0_isPlace, .code yX0_isPlace cX0_isPlace 2 (some .boolean), .fieldLink RX0 13 "MarketWeeks" "places" "[I", .methodLink RX0 64 yX0_placeOf, .instanceMethod yX0_placeOf, .selects RX0 yX0_placeOf yX0_placeOf, .code yX0_placeOf cX0_placeOf 2 (some .int), .methodLink RX0 120 yX0_divide, .static yX0_divide, .code yX0_divide cX0_divide 4 (some .long), .methodLink RX0 161 yJ9_floorDiv_f86c9, .static yJ9_floorDiv_f86c9, .initialized RJ9, .code yJ9_floorDiv_f86c9 cJ9_floorDiv_f86c9 6 (some .long)] ++ wsX00)
def wsX0_times_r1 : List Cond := [Cond.methodLink RX0 60 yX0_checkMarket, Cond.instanceMethod yX0_checkMarket, Cond.selects RX0 yX0_checkMarket yX0_checkMarket, Cond.initialized RX0, Cond.code yX0_checkMarket cX0_checkMarket 2 none, Cond.classLink RX0 144 "java/lang/IndexOutOfBoundsException", Cond.initialized "java/lang/IndexOutOfBoundsException", Cond.fieldLink RX0 16 "MarketWeeks" "count" "I", Cond.methodLink RX0 41 yX0_isWithin, Cond.static yX0_isWithin, Cond.code yX0_isWithin cX0_isWithin 3 (some .boolean), Cond.methodLink RX0 75 yX0_checkDay, Cond.static yX0_checkDay, Cond.code yX0_checkDay cX0_checkDay 1 none, Cond.constant RX0 142 (-1000000), Cond.constant RX0 143 (1000000), Cond.methodLink RX0 45 yX0_checkArgument, Cond.static yX0_checkArgument, Cond.code yX0_checkArgument cX0_checkArgument 1 none, Cond.classLink RX0 137 "java/lang/IllegalArgumentException", Cond.initialized "java/lang/IllegalArgumentException", Cond.methodLink RX0 82 yX0_countHeld, Cond.instanceMethod yX0_countHeld, Cond.selects RX0 yX0_countHeld yX0_countHeld]
def wsX0_times_r2 : List Cond := [Cond.code yX0_countHeld cX0_countHeld 6 (some .int), Cond.methodLink RX0 68 yX0_lengthOf, Cond.instanceMethod yX0_lengthOf, Cond.selects RX0 yX0_lengthOf yX0_lengthOf, Cond.code yX0_lengthOf cX0_lengthOf 2 (some .int), Cond.fieldLink RX0 9 "MarketWeeks" "lengths" "[I", Cond.methodLink RX0 49 yX0_isPlace, Cond.instanceMethod yX0_isPlace, Cond.selects RX0 yX0_isPlace yX0_isPlace, Cond.code yX0_isPlace cX0_isPlace 2 (some .boolean), Cond.fieldLink RX0 13 "MarketWeeks" "places" "[I", Cond.methodLink RX0 64 yX0_placeOf, Cond.instanceMethod yX0_placeOf, Cond.selects RX0 yX0_placeOf yX0_placeOf, Cond.code yX0_placeOf cX0_placeOf 2 (some .int), Cond.methodLink RX0 120 yX0_divide, Cond.static yX0_divide, Cond.code yX0_divide cX0_divide 4 (some .long), Cond.methodLink RX0 161 yJ9_floorDiv_f86c9, Cond.static yJ9_floorDiv_f86c9, Cond.initialized RJ9, Cond.code yJ9_floorDiv_f86c9 cJ9_floorDiv_f86c9 6 (some .long)]
def wsX0_times : List Cond := .code yX0_times cX0_times 4 (some .int) :: ((wsX0_times_r1 ++ wsX0_times_r2) ++ wsX00 ++ (vx_atS RX0 148 "java/lang/IndexOutOfBoundsException" ["java/lang/RuntimeException", "java/lang/Exception"]).filter goodWord ++ (vx_atS RX0 141 "java/lang/IllegalArgumentException" ["java/lang/RuntimeException", "java/lang/Exception"]).filter goodWord)
def wsX0_setOn_r1 : List Cond := [Cond.fieldLink RX0 16 "MarketWeeks" "count" "I", Cond.methodLink RX0 78 yX0_isOn, Cond.instanceMethod yX0_isOn, Cond.selects RX0 yX0_isOn yX0_isOn, Cond.initialized RX0, Cond.code yX0_isOn cX0_isOn 4 (some .boolean), Cond.methodLink RX0 68 yX0_lengthOf, Cond.instanceMethod yX0_lengthOf, Cond.selects RX0 yX0_lengthOf yX0_lengthOf, Cond.code yX0_lengthOf cX0_lengthOf 2 (some .int), Cond.fieldLink RX0 9 "MarketWeeks" "lengths" "[I", Cond.methodLink RX0 49 yX0_isPlace, Cond.instanceMethod yX0_isPlace, Cond.selects RX0 yX0_isPlace yX0_isPlace, Cond.code yX0_isPlace cX0_isPlace 2 (some .boolean), Cond.fieldLink RX0 13 "MarketWeeks" "places" "[I", Cond.methodLink RX0 71 yX0_modulo, Cond.static yX0_modulo, Cond.code yX0_modulo cX0_modulo 4 (some .long), Cond.methodLink RX0 166 yJ9_floorMod_f86c9, Cond.static yJ9_floorMod_f86c9, Cond.initialized RJ9, Cond.code yJ9_floorMod_f86c9 cJ9_floorMod_f86c9 6 (some .long), Cond.methodLink RX0 64 yX0_placeOf]
def wsX0_setOn_r2 : List Cond := [Cond.instanceMethod yX0_placeOf, Cond.selects RX0 yX0_placeOf yX0_placeOf, Cond.code yX0_placeOf cX0_placeOf 2 (some .int)]
def wsX0_setOn : List Cond := .code yX0_setOn cX0_setOn 4 (some .int) :: ((wsX0_setOn_r1 ++ wsX0_setOn_r2) ++ wsX00)
def wsX0_heldOn_r1 : List Cond := [Cond.methodLink RX0 75 yX0_checkDay, Cond.static yX0_checkDay, Cond.initialized RX0, Cond.code yX0_checkDay cX0_checkDay 1 none, Cond.constant RX0 142 (-1000000), Cond.constant RX0 143 (1000000), Cond.methodLink RX0 41 yX0_isWithin, Cond.static yX0_isWithin, Cond.code yX0_isWithin cX0_isWithin 3 (some .boolean), Cond.methodLink RX0 45 yX0_checkArgument, Cond.static yX0_checkArgument, Cond.code yX0_checkArgument cX0_checkArgument 1 none, Cond.classLink RX0 137 "java/lang/IllegalArgumentException", Cond.initialized "java/lang/IllegalArgumentException", Cond.methodLink RX0 86 yX0_setOn, Cond.instanceMethod yX0_setOn, Cond.selects RX0 yX0_setOn yX0_setOn, Cond.code yX0_setOn cX0_setOn 4 (some .int), Cond.fieldLink RX0 16 "MarketWeeks" "count" "I", Cond.methodLink RX0 78 yX0_isOn, Cond.instanceMethod yX0_isOn, Cond.selects RX0 yX0_isOn yX0_isOn, Cond.code yX0_isOn cX0_isOn 4 (some .boolean), Cond.methodLink RX0 68 yX0_lengthOf]
def wsX0_heldOn_r2 : List Cond := [Cond.instanceMethod yX0_lengthOf, Cond.selects RX0 yX0_lengthOf yX0_lengthOf, Cond.code yX0_lengthOf cX0_lengthOf 2 (some .int), Cond.fieldLink RX0 9 "MarketWeeks" "lengths" "[I", Cond.methodLink RX0 49 yX0_isPlace, Cond.instanceMethod yX0_isPlace, Cond.selects RX0 yX0_isPlace yX0_isPlace, Cond.code yX0_isPlace cX0_isPlace 2 (some .boolean), Cond.fieldLink RX0 13 "MarketWeeks" "places" "[I", Cond.methodLink RX0 71 yX0_modulo, Cond.static yX0_modulo, Cond.code yX0_modulo cX0_modulo 4 (some .long), Cond.methodLink RX0 166 yJ9_floorMod_f86c9, Cond.static yJ9_floorMod_f86c9, Cond.initialized RJ9, Cond.code yJ9_floorMod_f86c9 cJ9_floorMod_f86c9 6 (some .long), Cond.methodLink RX0 64 yX0_placeOf, Cond.instanceMethod yX0_placeOf, Cond.selects RX0 yX0_placeOf yX0_placeOf, Cond.code yX0_placeOf cX0_placeOf 2 (some .int)]
def wsX0_heldOn : List Cond := .code yX0_heldOn cX0_heldOn 2 (some .int) :: ((wsX0_heldOn_r1 ++ wsX0_heldOn_r2) ++ wsX00 ++ (vx_atS RX0 141 "java/lang/IllegalArgumentException" ["java/lang/RuntimeException", "java/lang/Exception"]).filter goodWord)
def wsJ6_bitCount_0f7a4 : List Cond := .code yJ6_bitCount_0f7a4 cJ6_bitCount_0f7a4 1 (some .int) :: ([.constant RJ6 265 (1431655765), .constant RJ6 266 (858993459), .constant RJ6 267 (252645135)])
def wsX0_checkMarkets : List Cond := .code yX0_checkMarkets cX0_checkMarkets 2 none :: ([.classLink RX0 144 "java/lang/IndexOutOfBoundsException", .initialized "java/lang/IndexOutOfBoundsException", .fieldLink RX0 16 "MarketWeeks" "count" "I"] ++ wsX00 ++ (vx_atS RX0 148 "java/lang/IndexOutOfBoundsException" ["java/lang/RuntimeException", "java/lang/Exception"]).filter goodWord)
def wsX0_checkMeetingSet : List Cond := .code yX0_checkMeetingSet cX0_checkMeetingSet 2 none :: ([.methodLink RX0 112 yJ6_bitCount_0f7a4, .static yJ6_bitCount_0f7a4, .initialized RJ6, .code yJ6_bitCount_0f7a4 cJ6_bitCount_0f7a4 1 (some .int), .constant RJ6 265 (1431655765), .constant RJ6 266 (858993459), .constant RJ6 267 (252645135), .methodLink RX0 41 yX0_isWithin, .static yX0_isWithin, .initialized RX0, .code yX0_isWithin cX0_isWithin 3 (some .boolean), .methodLink RX0 45 yX0_checkArgument, .static yX0_checkArgument, .code yX0_checkArgument cX0_checkArgument 1 none, .classLink RX0 137 "java/lang/IllegalArgumentException", .initialized "java/lang/IllegalArgumentException", .methodLink RX0 109 yX0_checkMarkets, .instanceMethod yX0_checkMarkets, .selects RX0 yX0_checkMarkets yX0_checkMarkets, .code yX0_checkMarkets cX0_checkMarkets 2 none, .classLink RX0 144 "java/lang/IndexOutOfBoundsException", .initialized "java/lang/IndexOutOfBoundsException", .fieldLink RX0 16 "MarketWeeks" "count" "I"] ++ wsX00 ++ (vx_atS RX0 141 "java/lang/IllegalArgumentException" ["java/lang/RuntimeException", "java/lang/Exception"]).filter goodWord ++ (vx_atS RX0 148 "java/lang/IndexOutOfBoundsException" ["java/lang/RuntimeException", "java/lang/Exception"]).filter goodWord)
def wsX0_firstHeldInSteps_r1 : List Cond := [Cond.constantLong RX0 96 (-1), Cond.methodLink RX0 68 yX0_lengthOf, Cond.instanceMethod yX0_lengthOf, Cond.selects RX0 yX0_lengthOf yX0_lengthOf, Cond.initialized RX0, Cond.code yX0_lengthOf cX0_lengthOf 2 (some .int), Cond.fieldLink RX0 9 "MarketWeeks" "lengths" "[I", Cond.methodLink RX0 49 yX0_isPlace, Cond.instanceMethod yX0_isPlace, Cond.selects RX0 yX0_isPlace yX0_isPlace, Cond.code yX0_isPlace cX0_isPlace 2 (some .boolean), Cond.fieldLink RX0 13 "MarketWeeks" "places" "[I", Cond.methodLink RX0 78 yX0_isOn, Cond.instanceMethod yX0_isOn, Cond.selects RX0 yX0_isOn yX0_isOn, Cond.code yX0_isOn cX0_isOn 4 (some .boolean), Cond.methodLink RX0 71 yX0_modulo, Cond.static yX0_modulo, Cond.code yX0_modulo cX0_modulo 4 (some .long), Cond.methodLink RX0 166 yJ9_floorMod_f86c9, Cond.static yJ9_floorMod_f86c9, Cond.initialized RJ9, Cond.code yJ9_floorMod_f86c9 cJ9_floorMod_f86c9 6 (some .long), Cond.methodLink RX0 64 yX0_placeOf]
def wsX0_firstHeldInSteps_r2 : List Cond := [Cond.instanceMethod yX0_placeOf, Cond.selects RX0 yX0_placeOf yX0_placeOf, Cond.code yX0_placeOf cX0_placeOf 2 (some .int)]
def wsX0_firstHeldInSteps : List Cond := .code yX0_firstHeldInSteps cX0_firstHeldInSteps 10 (some .long) :: ((wsX0_firstHeldInSteps_r1 ++ wsX0_firstHeldInSteps_r2) ++ wsX00)
def wsX0_commonMultiple : List Cond := .code yX0_commonMultiple cX0_commonMultiple 4 (some .long) :: ([.methodLink RX0 71 yX0_modulo, .static yX0_modulo, .initialized RX0, .code yX0_modulo cX0_modulo 4 (some .long), .methodLink RX0 166 yJ9_floorMod_f86c9, .static yJ9_floorMod_f86c9, .initialized RJ9, .code yJ9_floorMod_f86c9 cJ9_floorMod_f86c9 6 (some .long)])
def wsX0_firstMeeting_r1 : List Cond := [Cond.fieldLink RX0 16 "MarketWeeks" "count" "I", Cond.constantLong RX0 96 (-1), Cond.methodLink RX0 153 yX0_firstHeldInSteps, Cond.instanceMethod yX0_firstHeldInSteps, Cond.selects RX0 yX0_firstHeldInSteps yX0_firstHeldInSteps, Cond.initialized RX0, Cond.code yX0_firstHeldInSteps cX0_firstHeldInSteps 10 (some .long), Cond.methodLink RX0 68 yX0_lengthOf, Cond.instanceMethod yX0_lengthOf, Cond.selects RX0 yX0_lengthOf yX0_lengthOf, Cond.code yX0_lengthOf cX0_lengthOf 2 (some .int), Cond.fieldLink RX0 9 "MarketWeeks" "lengths" "[I", Cond.methodLink RX0 49 yX0_isPlace, Cond.instanceMethod yX0_isPlace, Cond.selects RX0 yX0_isPlace yX0_isPlace, Cond.code yX0_isPlace cX0_isPlace 2 (some .boolean), Cond.fieldLink RX0 13 "MarketWeeks" "places" "[I", Cond.methodLink RX0 78 yX0_isOn, Cond.instanceMethod yX0_isOn, Cond.selects RX0 yX0_isOn yX0_isOn, Cond.code yX0_isOn cX0_isOn 4 (some .boolean), Cond.methodLink RX0 71 yX0_modulo, Cond.static yX0_modulo, Cond.code yX0_modulo cX0_modulo 4 (some .long)]
def wsX0_firstMeeting_r2 : List Cond := [Cond.methodLink RX0 166 yJ9_floorMod_f86c9, Cond.static yJ9_floorMod_f86c9, Cond.initialized RJ9, Cond.code yJ9_floorMod_f86c9 cJ9_floorMod_f86c9 6 (some .long), Cond.methodLink RX0 64 yX0_placeOf, Cond.instanceMethod yX0_placeOf, Cond.selects RX0 yX0_placeOf yX0_placeOf, Cond.code yX0_placeOf cX0_placeOf 2 (some .int), Cond.methodLink RX0 157 yX0_commonMultiple, Cond.static yX0_commonMultiple, Cond.code yX0_commonMultiple cX0_commonMultiple 4 (some .long)]
def wsX0_firstMeeting : List Cond := .code yX0_firstMeeting cX0_firstMeeting 7 (some .long) :: ((wsX0_firstMeeting_r1 ++ wsX0_firstMeeting_r2) ++ wsX00)
def wsX0_doMeet_r1 : List Cond := [Cond.constantLong RX0 96 (-1), Cond.methodLink RX0 89 yX0_checkMeetingSet, Cond.instanceMethod yX0_checkMeetingSet, Cond.selects RX0 yX0_checkMeetingSet yX0_checkMeetingSet, Cond.initialized RX0, Cond.code yX0_checkMeetingSet cX0_checkMeetingSet 2 none, Cond.methodLink RX0 112 yJ6_bitCount_0f7a4, Cond.static yJ6_bitCount_0f7a4, Cond.initialized RJ6, Cond.code yJ6_bitCount_0f7a4 cJ6_bitCount_0f7a4 1 (some .int), Cond.constant RJ6 265 (1431655765), Cond.constant RJ6 266 (858993459), Cond.constant RJ6 267 (252645135), Cond.methodLink RX0 41 yX0_isWithin, Cond.static yX0_isWithin, Cond.code yX0_isWithin cX0_isWithin 3 (some .boolean), Cond.methodLink RX0 45 yX0_checkArgument, Cond.static yX0_checkArgument, Cond.code yX0_checkArgument cX0_checkArgument 1 none, Cond.classLink RX0 137 "java/lang/IllegalArgumentException", Cond.initialized "java/lang/IllegalArgumentException", Cond.methodLink RX0 109 yX0_checkMarkets, Cond.instanceMethod yX0_checkMarkets, Cond.selects RX0 yX0_checkMarkets yX0_checkMarkets]
def wsX0_doMeet_r2 : List Cond := [Cond.code yX0_checkMarkets cX0_checkMarkets 2 none, Cond.classLink RX0 144 "java/lang/IndexOutOfBoundsException", Cond.initialized "java/lang/IndexOutOfBoundsException", Cond.fieldLink RX0 16 "MarketWeeks" "count" "I", Cond.methodLink RX0 92 yX0_firstMeeting, Cond.instanceMethod yX0_firstMeeting, Cond.selects RX0 yX0_firstMeeting yX0_firstMeeting, Cond.code yX0_firstMeeting cX0_firstMeeting 7 (some .long), Cond.methodLink RX0 153 yX0_firstHeldInSteps, Cond.instanceMethod yX0_firstHeldInSteps, Cond.selects RX0 yX0_firstHeldInSteps yX0_firstHeldInSteps, Cond.code yX0_firstHeldInSteps cX0_firstHeldInSteps 10 (some .long), Cond.methodLink RX0 68 yX0_lengthOf, Cond.instanceMethod yX0_lengthOf, Cond.selects RX0 yX0_lengthOf yX0_lengthOf, Cond.code yX0_lengthOf cX0_lengthOf 2 (some .int), Cond.fieldLink RX0 9 "MarketWeeks" "lengths" "[I", Cond.methodLink RX0 49 yX0_isPlace, Cond.instanceMethod yX0_isPlace, Cond.selects RX0 yX0_isPlace yX0_isPlace, Cond.code yX0_isPlace cX0_isPlace 2 (some .boolean), Cond.fieldLink RX0 13 "MarketWeeks" "places" "[I", Cond.methodLink RX0 78 yX0_isOn, Cond.instanceMethod yX0_isOn]
def wsX0_doMeet_r3 : List Cond := [Cond.selects RX0 yX0_isOn yX0_isOn, Cond.code yX0_isOn cX0_isOn 4 (some .boolean), Cond.methodLink RX0 71 yX0_modulo, Cond.static yX0_modulo, Cond.code yX0_modulo cX0_modulo 4 (some .long), Cond.methodLink RX0 166 yJ9_floorMod_f86c9, Cond.static yJ9_floorMod_f86c9, Cond.initialized RJ9, Cond.code yJ9_floorMod_f86c9 cJ9_floorMod_f86c9 6 (some .long), Cond.methodLink RX0 64 yX0_placeOf, Cond.instanceMethod yX0_placeOf, Cond.selects RX0 yX0_placeOf yX0_placeOf, Cond.code yX0_placeOf cX0_placeOf 2 (some .int), Cond.methodLink RX0 157 yX0_commonMultiple, Cond.static yX0_commonMultiple, Cond.code yX0_commonMultiple cX0_commonMultiple 4 (some .long)]
def wsX0_doMeet : List Cond := .code yX0_doMeet cX0_doMeet 2 (some .boolean) :: ((wsX0_doMeet_r1 ++ (wsX0_doMeet_r2 ++ wsX0_doMeet_r3)) ++ wsX00 ++ (vx_atS RX0 141 "java/lang/IllegalArgumentException" ["java/lang/RuntimeException", "java/lang/Exception"]).filter goodWord ++ (vx_atS RX0 148 "java/lang/IndexOutOfBoundsException" ["java/lang/RuntimeException", "java/lang/Exception"]).filter goodWord)
def wsX0_checkTheyMeet : List Cond := .code yX0_checkTheyMeet cX0_checkTheyMeet 2 none :: ([.classLink RX0 53 "java/lang/IllegalStateException", .initialized "java/lang/IllegalStateException", .constantLong RX0 96 (-1)] ++ (vx_atS RX0 57 "java/lang/IllegalStateException" ["java/lang/RuntimeException", "java/lang/Exception"]).filter goodWord)
def wsX0_commonLength : List Cond := .code yX0_commonLength cX0_commonLength 5 (some .long) :: ([.fieldLink RX0 16 "MarketWeeks" "count" "I", .methodLink RX0 68 yX0_lengthOf, .instanceMethod yX0_lengthOf, .selects RX0 yX0_lengthOf yX0_lengthOf, .initialized RX0, .code yX0_lengthOf cX0_lengthOf 2 (some .int), .fieldLink RX0 9 "MarketWeeks" "lengths" "[I", .methodLink RX0 49 yX0_isPlace, .instanceMethod yX0_isPlace, .selects RX0 yX0_isPlace yX0_isPlace, .code yX0_isPlace cX0_isPlace 2 (some .boolean), .fieldLink RX0 13 "MarketWeeks" "places" "[I", .methodLink RX0 157 yX0_commonMultiple, .static yX0_commonMultiple, .code yX0_commonMultiple cX0_commonMultiple 4 (some .long), .methodLink RX0 71 yX0_modulo, .static yX0_modulo, .code yX0_modulo cX0_modulo 4 (some .long), .methodLink RX0 166 yJ9_floorMod_f86c9, .static yJ9_floorMod_f86c9, .initialized RJ9, .code yJ9_floorMod_f86c9 cJ9_floorMod_f86c9 6 (some .long)] ++ wsX00)
def wsX0_period_r1 : List Cond := [Cond.methodLink RX0 89 yX0_checkMeetingSet, Cond.instanceMethod yX0_checkMeetingSet, Cond.selects RX0 yX0_checkMeetingSet yX0_checkMeetingSet, Cond.initialized RX0, Cond.code yX0_checkMeetingSet cX0_checkMeetingSet 2 none, Cond.methodLink RX0 112 yJ6_bitCount_0f7a4, Cond.static yJ6_bitCount_0f7a4, Cond.initialized RJ6, Cond.code yJ6_bitCount_0f7a4 cJ6_bitCount_0f7a4 1 (some .int), Cond.constant RJ6 265 (1431655765), Cond.constant RJ6 266 (858993459), Cond.constant RJ6 267 (252645135), Cond.methodLink RX0 41 yX0_isWithin, Cond.static yX0_isWithin, Cond.code yX0_isWithin cX0_isWithin 3 (some .boolean), Cond.methodLink RX0 45 yX0_checkArgument, Cond.static yX0_checkArgument, Cond.code yX0_checkArgument cX0_checkArgument 1 none, Cond.classLink RX0 137 "java/lang/IllegalArgumentException", Cond.initialized "java/lang/IllegalArgumentException", Cond.methodLink RX0 109 yX0_checkMarkets, Cond.instanceMethod yX0_checkMarkets, Cond.selects RX0 yX0_checkMarkets yX0_checkMarkets, Cond.code yX0_checkMarkets cX0_checkMarkets 2 none]
def wsX0_period_r2 : List Cond := [Cond.classLink RX0 144 "java/lang/IndexOutOfBoundsException", Cond.initialized "java/lang/IndexOutOfBoundsException", Cond.fieldLink RX0 16 "MarketWeeks" "count" "I", Cond.methodLink RX0 92 yX0_firstMeeting, Cond.instanceMethod yX0_firstMeeting, Cond.selects RX0 yX0_firstMeeting yX0_firstMeeting, Cond.code yX0_firstMeeting cX0_firstMeeting 7 (some .long), Cond.constantLong RX0 96 (-1), Cond.methodLink RX0 153 yX0_firstHeldInSteps, Cond.instanceMethod yX0_firstHeldInSteps, Cond.selects RX0 yX0_firstHeldInSteps yX0_firstHeldInSteps, Cond.code yX0_firstHeldInSteps cX0_firstHeldInSteps 10 (some .long), Cond.methodLink RX0 68 yX0_lengthOf, Cond.instanceMethod yX0_lengthOf, Cond.selects RX0 yX0_lengthOf yX0_lengthOf, Cond.code yX0_lengthOf cX0_lengthOf 2 (some .int), Cond.fieldLink RX0 9 "MarketWeeks" "lengths" "[I", Cond.methodLink RX0 49 yX0_isPlace, Cond.instanceMethod yX0_isPlace, Cond.selects RX0 yX0_isPlace yX0_isPlace, Cond.code yX0_isPlace cX0_isPlace 2 (some .boolean), Cond.fieldLink RX0 13 "MarketWeeks" "places" "[I", Cond.methodLink RX0 78 yX0_isOn, Cond.instanceMethod yX0_isOn]
def wsX0_period_r3 : List Cond := [Cond.selects RX0 yX0_isOn yX0_isOn, Cond.code yX0_isOn cX0_isOn 4 (some .boolean), Cond.methodLink RX0 71 yX0_modulo, Cond.static yX0_modulo, Cond.code yX0_modulo cX0_modulo 4 (some .long), Cond.methodLink RX0 166 yJ9_floorMod_f86c9, Cond.static yJ9_floorMod_f86c9, Cond.initialized RJ9, Cond.code yJ9_floorMod_f86c9 cJ9_floorMod_f86c9 6 (some .long), Cond.methodLink RX0 64 yX0_placeOf, Cond.instanceMethod yX0_placeOf, Cond.selects RX0 yX0_placeOf yX0_placeOf, Cond.code yX0_placeOf cX0_placeOf 2 (some .int), Cond.methodLink RX0 157 yX0_commonMultiple, Cond.static yX0_commonMultiple, Cond.code yX0_commonMultiple cX0_commonMultiple 4 (some .long), Cond.methodLink RX0 98 yX0_checkTheyMeet, Cond.static yX0_checkTheyMeet, Cond.code yX0_checkTheyMeet cX0_checkTheyMeet 2 none, Cond.classLink RX0 53 "java/lang/IllegalStateException", Cond.initialized "java/lang/IllegalStateException", Cond.methodLink RX0 102 yX0_commonLength, Cond.instanceMethod yX0_commonLength, Cond.selects RX0 yX0_commonLength yX0_commonLength]
def wsX0_period_r4 : List Cond := [Cond.code yX0_commonLength cX0_commonLength 5 (some .long)]
def wsX0_period : List Cond := .code yX0_period cX0_period 2 (some .int) :: ((wsX0_period_r1 ++ (wsX0_period_r2 ++ (wsX0_period_r3 ++ wsX0_period_r4))) ++ wsX00 ++ (vx_atS RX0 141 "java/lang/IllegalArgumentException" ["java/lang/RuntimeException", "java/lang/Exception"]).filter goodWord ++ (vx_atS RX0 148 "java/lang/IndexOutOfBoundsException" ["java/lang/RuntimeException", "java/lang/Exception"]).filter goodWord ++ (vx_atS RX0 57 "java/lang/IllegalStateException" ["java/lang/RuntimeException", "java/lang/Exception"]).filter goodWord)
def wsX0_meeting_r1 : List Cond := [Cond.methodLink RX0 75 yX0_checkDay, Cond.static yX0_checkDay, Cond.initialized RX0, Cond.code yX0_checkDay cX0_checkDay 1 none, Cond.constant RX0 142 (-1000000), Cond.constant RX0 143 (1000000), Cond.methodLink RX0 41 yX0_isWithin, Cond.static yX0_isWithin, Cond.code yX0_isWithin cX0_isWithin 3 (some .boolean), Cond.methodLink RX0 45 yX0_checkArgument, Cond.static yX0_checkArgument, Cond.code yX0_checkArgument cX0_checkArgument 1 none, Cond.classLink RX0 137 "java/lang/IllegalArgumentException", Cond.initialized "java/lang/IllegalArgumentException", Cond.methodLink RX0 89 yX0_checkMeetingSet, Cond.instanceMethod yX0_checkMeetingSet, Cond.selects RX0 yX0_checkMeetingSet yX0_checkMeetingSet, Cond.code yX0_checkMeetingSet cX0_checkMeetingSet 2 none, Cond.methodLink RX0 112 yJ6_bitCount_0f7a4, Cond.static yJ6_bitCount_0f7a4, Cond.initialized RJ6, Cond.code yJ6_bitCount_0f7a4 cJ6_bitCount_0f7a4 1 (some .int), Cond.constant RJ6 265 (1431655765), Cond.constant RJ6 266 (858993459)]
def wsX0_meeting_r2 : List Cond := [Cond.constant RJ6 267 (252645135), Cond.methodLink RX0 109 yX0_checkMarkets, Cond.instanceMethod yX0_checkMarkets, Cond.selects RX0 yX0_checkMarkets yX0_checkMarkets, Cond.code yX0_checkMarkets cX0_checkMarkets 2 none, Cond.classLink RX0 144 "java/lang/IndexOutOfBoundsException", Cond.initialized "java/lang/IndexOutOfBoundsException", Cond.fieldLink RX0 16 "MarketWeeks" "count" "I", Cond.methodLink RX0 92 yX0_firstMeeting, Cond.instanceMethod yX0_firstMeeting, Cond.selects RX0 yX0_firstMeeting yX0_firstMeeting, Cond.code yX0_firstMeeting cX0_firstMeeting 7 (some .long), Cond.constantLong RX0 96 (-1), Cond.methodLink RX0 153 yX0_firstHeldInSteps, Cond.instanceMethod yX0_firstHeldInSteps, Cond.selects RX0 yX0_firstHeldInSteps yX0_firstHeldInSteps, Cond.code yX0_firstHeldInSteps cX0_firstHeldInSteps 10 (some .long), Cond.methodLink RX0 68 yX0_lengthOf, Cond.instanceMethod yX0_lengthOf, Cond.selects RX0 yX0_lengthOf yX0_lengthOf, Cond.code yX0_lengthOf cX0_lengthOf 2 (some .int), Cond.fieldLink RX0 9 "MarketWeeks" "lengths" "[I", Cond.methodLink RX0 49 yX0_isPlace, Cond.instanceMethod yX0_isPlace]
def wsX0_meeting_r3 : List Cond := [Cond.selects RX0 yX0_isPlace yX0_isPlace, Cond.code yX0_isPlace cX0_isPlace 2 (some .boolean), Cond.fieldLink RX0 13 "MarketWeeks" "places" "[I", Cond.methodLink RX0 78 yX0_isOn, Cond.instanceMethod yX0_isOn, Cond.selects RX0 yX0_isOn yX0_isOn, Cond.code yX0_isOn cX0_isOn 4 (some .boolean), Cond.methodLink RX0 71 yX0_modulo, Cond.static yX0_modulo, Cond.code yX0_modulo cX0_modulo 4 (some .long), Cond.methodLink RX0 166 yJ9_floorMod_f86c9, Cond.static yJ9_floorMod_f86c9, Cond.initialized RJ9, Cond.code yJ9_floorMod_f86c9 cJ9_floorMod_f86c9 6 (some .long), Cond.methodLink RX0 64 yX0_placeOf, Cond.instanceMethod yX0_placeOf, Cond.selects RX0 yX0_placeOf yX0_placeOf, Cond.code yX0_placeOf cX0_placeOf 2 (some .int), Cond.methodLink RX0 157 yX0_commonMultiple, Cond.static yX0_commonMultiple, Cond.code yX0_commonMultiple cX0_commonMultiple 4 (some .long), Cond.methodLink RX0 98 yX0_checkTheyMeet, Cond.static yX0_checkTheyMeet, Cond.code yX0_checkTheyMeet cX0_checkTheyMeet 2 none]
def wsX0_meeting_r4 : List Cond := [Cond.classLink RX0 53 "java/lang/IllegalStateException", Cond.initialized "java/lang/IllegalStateException", Cond.methodLink RX0 102 yX0_commonLength, Cond.instanceMethod yX0_commonLength, Cond.selects RX0 yX0_commonLength yX0_commonLength, Cond.code yX0_commonLength cX0_commonLength 5 (some .long)]
def wsX0_meeting : List Cond := .code yX0_meeting cX0_meeting 5 (some .int) :: ((wsX0_meeting_r1 ++ (wsX0_meeting_r2 ++ (wsX0_meeting_r3 ++ wsX0_meeting_r4))) ++ wsX00 ++ (vx_atS RX0 141 "java/lang/IllegalArgumentException" ["java/lang/RuntimeException", "java/lang/Exception"]).filter goodWord ++ (vx_atS RX0 148 "java/lang/IndexOutOfBoundsException" ["java/lang/RuntimeException", "java/lang/Exception"]).filter goodWord ++ (vx_atS RX0 57 "java/lang/IllegalStateException" ["java/lang/RuntimeException", "java/lang/Exception"]).filter goodWord)
def wsX0_moonParts : List Cond := .code yX0_moonParts cX0_moonParts 3 (some .long) :: ([.fieldLink RX0 26 "MarketWeeks" "moonShift" "I", .fieldLink RX0 23 "MarketWeeks" "moonDen" "I"] ++ wsX00)
def wsX0_lunarDayOf : List Cond := .code yX0_lunarDayOf cX0_lunarDayOf 3 (some .long) :: ([.fieldLink RX0 20 "MarketWeeks" "moonNum" "I", .fieldLink RX0 23 "MarketWeeks" "moonDen" "I", .methodLink RX0 117 yX0_moonParts, .instanceMethod yX0_moonParts, .selects RX0 yX0_moonParts yX0_moonParts, .initialized RX0, .code yX0_moonParts cX0_moonParts 3 (some .long), .fieldLink RX0 26 "MarketWeeks" "moonShift" "I", .methodLink RX0 71 yX0_modulo, .static yX0_modulo, .code yX0_modulo cX0_modulo 4 (some .long), .methodLink RX0 166 yJ9_floorMod_f86c9, .static yJ9_floorMod_f86c9, .initialized RJ9, .code yJ9_floorMod_f86c9 cJ9_floorMod_f86c9 6 (some .long), .methodLink RX0 120 yX0_divide, .static yX0_divide, .code yX0_divide cX0_divide 4 (some .long), .methodLink RX0 161 yJ9_floorDiv_f86c9, .static yJ9_floorDiv_f86c9, .code yJ9_floorDiv_f86c9 cJ9_floorDiv_f86c9 6 (some .long)] ++ wsX00)
def wsX0_lunarMeeting_r1 : List Cond := [Cond.constantLong RX0 96 (-1), Cond.methodLink RX0 75 yX0_checkDay, Cond.static yX0_checkDay, Cond.initialized RX0, Cond.code yX0_checkDay cX0_checkDay 1 none, Cond.constant RX0 142 (-1000000), Cond.constant RX0 143 (1000000), Cond.methodLink RX0 41 yX0_isWithin, Cond.static yX0_isWithin, Cond.code yX0_isWithin cX0_isWithin 3 (some .boolean), Cond.methodLink RX0 45 yX0_checkArgument, Cond.static yX0_checkArgument, Cond.code yX0_checkArgument cX0_checkArgument 1 none, Cond.classLink RX0 137 "java/lang/IllegalArgumentException", Cond.initialized "java/lang/IllegalArgumentException", Cond.methodLink RX0 89 yX0_checkMeetingSet, Cond.instanceMethod yX0_checkMeetingSet, Cond.selects RX0 yX0_checkMeetingSet yX0_checkMeetingSet, Cond.code yX0_checkMeetingSet cX0_checkMeetingSet 2 none, Cond.methodLink RX0 112 yJ6_bitCount_0f7a4, Cond.static yJ6_bitCount_0f7a4, Cond.initialized RJ6, Cond.code yJ6_bitCount_0f7a4 cJ6_bitCount_0f7a4 1 (some .int), Cond.constant RJ6 265 (1431655765)]
def wsX0_lunarMeeting_r2 : List Cond := [Cond.constant RJ6 266 (858993459), Cond.constant RJ6 267 (252645135), Cond.methodLink RX0 109 yX0_checkMarkets, Cond.instanceMethod yX0_checkMarkets, Cond.selects RX0 yX0_checkMarkets yX0_checkMarkets, Cond.code yX0_checkMarkets cX0_checkMarkets 2 none, Cond.classLink RX0 144 "java/lang/IndexOutOfBoundsException", Cond.initialized "java/lang/IndexOutOfBoundsException", Cond.fieldLink RX0 16 "MarketWeeks" "count" "I", Cond.methodLink RX0 92 yX0_firstMeeting, Cond.instanceMethod yX0_firstMeeting, Cond.selects RX0 yX0_firstMeeting yX0_firstMeeting, Cond.code yX0_firstMeeting cX0_firstMeeting 7 (some .long), Cond.methodLink RX0 153 yX0_firstHeldInSteps, Cond.instanceMethod yX0_firstHeldInSteps, Cond.selects RX0 yX0_firstHeldInSteps yX0_firstHeldInSteps, Cond.code yX0_firstHeldInSteps cX0_firstHeldInSteps 10 (some .long), Cond.methodLink RX0 68 yX0_lengthOf, Cond.instanceMethod yX0_lengthOf, Cond.selects RX0 yX0_lengthOf yX0_lengthOf, Cond.code yX0_lengthOf cX0_lengthOf 2 (some .int), Cond.fieldLink RX0 9 "MarketWeeks" "lengths" "[I", Cond.methodLink RX0 49 yX0_isPlace, Cond.instanceMethod yX0_isPlace]
def wsX0_lunarMeeting_r3 : List Cond := [Cond.selects RX0 yX0_isPlace yX0_isPlace, Cond.code yX0_isPlace cX0_isPlace 2 (some .boolean), Cond.fieldLink RX0 13 "MarketWeeks" "places" "[I", Cond.methodLink RX0 78 yX0_isOn, Cond.instanceMethod yX0_isOn, Cond.selects RX0 yX0_isOn yX0_isOn, Cond.code yX0_isOn cX0_isOn 4 (some .boolean), Cond.methodLink RX0 71 yX0_modulo, Cond.static yX0_modulo, Cond.code yX0_modulo cX0_modulo 4 (some .long), Cond.methodLink RX0 166 yJ9_floorMod_f86c9, Cond.static yJ9_floorMod_f86c9, Cond.initialized RJ9, Cond.code yJ9_floorMod_f86c9 cJ9_floorMod_f86c9 6 (some .long), Cond.methodLink RX0 64 yX0_placeOf, Cond.instanceMethod yX0_placeOf, Cond.selects RX0 yX0_placeOf yX0_placeOf, Cond.code yX0_placeOf cX0_placeOf 2 (some .int), Cond.methodLink RX0 157 yX0_commonMultiple, Cond.static yX0_commonMultiple, Cond.code yX0_commonMultiple cX0_commonMultiple 4 (some .long), Cond.methodLink RX0 98 yX0_checkTheyMeet, Cond.static yX0_checkTheyMeet, Cond.code yX0_checkTheyMeet cX0_checkTheyMeet 2 none]
def wsX0_lunarMeeting_r4 : List Cond := [Cond.classLink RX0 53 "java/lang/IllegalStateException", Cond.initialized "java/lang/IllegalStateException", Cond.methodLink RX0 102 yX0_commonLength, Cond.instanceMethod yX0_commonLength, Cond.selects RX0 yX0_commonLength yX0_commonLength, Cond.code yX0_commonLength cX0_commonLength 5 (some .long), Cond.methodLink RX0 105 yX0_lunarDayOf, Cond.instanceMethod yX0_lunarDayOf, Cond.selects RX0 yX0_lunarDayOf yX0_lunarDayOf, Cond.code yX0_lunarDayOf cX0_lunarDayOf 3 (some .long), Cond.fieldLink RX0 20 "MarketWeeks" "moonNum" "I", Cond.fieldLink RX0 23 "MarketWeeks" "moonDen" "I", Cond.methodLink RX0 117 yX0_moonParts, Cond.instanceMethod yX0_moonParts, Cond.selects RX0 yX0_moonParts yX0_moonParts, Cond.code yX0_moonParts cX0_moonParts 3 (some .long), Cond.fieldLink RX0 26 "MarketWeeks" "moonShift" "I", Cond.methodLink RX0 120 yX0_divide, Cond.static yX0_divide, Cond.code yX0_divide cX0_divide 4 (some .long), Cond.methodLink RX0 161 yJ9_floorDiv_f86c9, Cond.static yJ9_floorDiv_f86c9, Cond.code yJ9_floorDiv_f86c9 cJ9_floorDiv_f86c9 6 (some .long)]
def wsX0_lunarMeeting : List Cond := .code yX0_lunarMeeting cX0_lunarMeeting 12 (some .long) :: ((wsX0_lunarMeeting_r1 ++ (wsX0_lunarMeeting_r2 ++ (wsX0_lunarMeeting_r3 ++ wsX0_lunarMeeting_r4))) ++ wsX00 ++ (vx_atS RX0 141 "java/lang/IllegalArgumentException" ["java/lang/RuntimeException", "java/lang/Exception"]).filter goodWord ++ (vx_atS RX0 148 "java/lang/IndexOutOfBoundsException" ["java/lang/RuntimeException", "java/lang/Exception"]).filter goodWord ++ (vx_atS RX0 57 "java/lang/IllegalStateException" ["java/lang/RuntimeException", "java/lang/Exception"]).filter goodWord)
def wsX0_best_r1 : List Cond := [Cond.methodLink RX0 75 yX0_checkDay, Cond.static yX0_checkDay, Cond.initialized RX0, Cond.code yX0_checkDay cX0_checkDay 1 none, Cond.constant RX0 142 (-1000000), Cond.constant RX0 143 (1000000), Cond.methodLink RX0 41 yX0_isWithin, Cond.static yX0_isWithin, Cond.code yX0_isWithin cX0_isWithin 3 (some .boolean), Cond.methodLink RX0 45 yX0_checkArgument, Cond.static yX0_checkArgument, Cond.code yX0_checkArgument cX0_checkArgument 1 none, Cond.classLink RX0 137 "java/lang/IllegalArgumentException", Cond.initialized "java/lang/IllegalArgumentException", Cond.methodLink RX0 109 yX0_checkMarkets, Cond.instanceMethod yX0_checkMarkets, Cond.selects RX0 yX0_checkMarkets yX0_checkMarkets, Cond.code yX0_checkMarkets cX0_checkMarkets 2 none, Cond.classLink RX0 144 "java/lang/IndexOutOfBoundsException", Cond.initialized "java/lang/IndexOutOfBoundsException", Cond.fieldLink RX0 16 "MarketWeeks" "count" "I", Cond.methodLink RX0 86 yX0_setOn, Cond.instanceMethod yX0_setOn, Cond.selects RX0 yX0_setOn yX0_setOn]
def wsX0_best_r2 : List Cond := [Cond.code yX0_setOn cX0_setOn 4 (some .int), Cond.methodLink RX0 78 yX0_isOn, Cond.instanceMethod yX0_isOn, Cond.selects RX0 yX0_isOn yX0_isOn, Cond.code yX0_isOn cX0_isOn 4 (some .boolean), Cond.methodLink RX0 68 yX0_lengthOf, Cond.instanceMethod yX0_lengthOf, Cond.selects RX0 yX0_lengthOf yX0_lengthOf, Cond.code yX0_lengthOf cX0_lengthOf 2 (some .int), Cond.fieldLink RX0 9 "MarketWeeks" "lengths" "[I", Cond.methodLink RX0 49 yX0_isPlace, Cond.instanceMethod yX0_isPlace, Cond.selects RX0 yX0_isPlace yX0_isPlace, Cond.code yX0_isPlace cX0_isPlace 2 (some .boolean), Cond.fieldLink RX0 13 "MarketWeeks" "places" "[I", Cond.methodLink RX0 71 yX0_modulo, Cond.static yX0_modulo, Cond.code yX0_modulo cX0_modulo 4 (some .long), Cond.methodLink RX0 166 yJ9_floorMod_f86c9, Cond.static yJ9_floorMod_f86c9, Cond.initialized RJ9, Cond.code yJ9_floorMod_f86c9 cJ9_floorMod_f86c9 6 (some .long), Cond.methodLink RX0 64 yX0_placeOf, Cond.instanceMethod yX0_placeOf]
def wsX0_best_r3 : List Cond := [Cond.selects RX0 yX0_placeOf yX0_placeOf, Cond.code yX0_placeOf cX0_placeOf 2 (some .int), Cond.methodLink RX0 112 yJ6_bitCount_0f7a4, Cond.static yJ6_bitCount_0f7a4, Cond.initialized RJ6, Cond.code yJ6_bitCount_0f7a4 cJ6_bitCount_0f7a4 1 (some .int), Cond.constant RJ6 265 (1431655765), Cond.constant RJ6 266 (858993459), Cond.constant RJ6 267 (252645135)]
def wsX0_best : List Cond := .code yX0_best cX0_best 8 (some .int) :: ((wsX0_best_r1 ++ (wsX0_best_r2 ++ wsX0_best_r3)) ++ wsX00 ++ (vx_atS RX0 141 "java/lang/IllegalArgumentException" ["java/lang/RuntimeException", "java/lang/Exception"]).filter goodWord ++ (vx_atS RX0 148 "java/lang/IndexOutOfBoundsException" ["java/lang/RuntimeException", "java/lang/Exception"]).filter goodWord)
def wsX0_month_r1 : List Cond := [Cond.fieldLink RX0 20 "MarketWeeks" "moonNum" "I", Cond.methodLink RX0 75 yX0_checkDay, Cond.static yX0_checkDay, Cond.initialized RX0, Cond.code yX0_checkDay cX0_checkDay 1 none, Cond.constant RX0 142 (-1000000), Cond.constant RX0 143 (1000000), Cond.methodLink RX0 41 yX0_isWithin, Cond.static yX0_isWithin, Cond.code yX0_isWithin cX0_isWithin 3 (some .boolean), Cond.methodLink RX0 45 yX0_checkArgument, Cond.static yX0_checkArgument, Cond.code yX0_checkArgument cX0_checkArgument 1 none, Cond.classLink RX0 137 "java/lang/IllegalArgumentException", Cond.initialized "java/lang/IllegalArgumentException", Cond.methodLink RX0 117 yX0_moonParts, Cond.instanceMethod yX0_moonParts, Cond.selects RX0 yX0_moonParts yX0_moonParts, Cond.code yX0_moonParts cX0_moonParts 3 (some .long), Cond.fieldLink RX0 26 "MarketWeeks" "moonShift" "I", Cond.fieldLink RX0 23 "MarketWeeks" "moonDen" "I", Cond.methodLink RX0 120 yX0_divide, Cond.static yX0_divide, Cond.code yX0_divide cX0_divide 4 (some .long)]
def wsX0_month_r2 : List Cond := [Cond.methodLink RX0 161 yJ9_floorDiv_f86c9, Cond.static yJ9_floorDiv_f86c9, Cond.initialized RJ9, Cond.code yJ9_floorDiv_f86c9 cJ9_floorDiv_f86c9 6 (some .long)]
def wsX0_month : List Cond := .code yX0_month cX0_month 2 (some .int) :: ((wsX0_month_r1 ++ wsX0_month_r2) ++ wsX00 ++ (vx_atS RX0 141 "java/lang/IllegalArgumentException" ["java/lang/RuntimeException", "java/lang/Exception"]).filter goodWord)
def wsX0_lunarDay_r1 : List Cond := [Cond.methodLink RX0 75 yX0_checkDay, Cond.static yX0_checkDay, Cond.initialized RX0, Cond.code yX0_checkDay cX0_checkDay 1 none, Cond.constant RX0 142 (-1000000), Cond.constant RX0 143 (1000000), Cond.methodLink RX0 41 yX0_isWithin, Cond.static yX0_isWithin, Cond.code yX0_isWithin cX0_isWithin 3 (some .boolean), Cond.methodLink RX0 45 yX0_checkArgument, Cond.static yX0_checkArgument, Cond.code yX0_checkArgument cX0_checkArgument 1 none, Cond.classLink RX0 137 "java/lang/IllegalArgumentException", Cond.initialized "java/lang/IllegalArgumentException", Cond.methodLink RX0 105 yX0_lunarDayOf, Cond.instanceMethod yX0_lunarDayOf, Cond.selects RX0 yX0_lunarDayOf yX0_lunarDayOf, Cond.code yX0_lunarDayOf cX0_lunarDayOf 3 (some .long), Cond.fieldLink RX0 20 "MarketWeeks" "moonNum" "I", Cond.fieldLink RX0 23 "MarketWeeks" "moonDen" "I", Cond.methodLink RX0 117 yX0_moonParts, Cond.instanceMethod yX0_moonParts, Cond.selects RX0 yX0_moonParts yX0_moonParts, Cond.code yX0_moonParts cX0_moonParts 3 (some .long)]
def wsX0_lunarDay_r2 : List Cond := [Cond.fieldLink RX0 26 "MarketWeeks" "moonShift" "I", Cond.methodLink RX0 71 yX0_modulo, Cond.static yX0_modulo, Cond.code yX0_modulo cX0_modulo 4 (some .long), Cond.methodLink RX0 166 yJ9_floorMod_f86c9, Cond.static yJ9_floorMod_f86c9, Cond.initialized RJ9, Cond.code yJ9_floorMod_f86c9 cJ9_floorMod_f86c9 6 (some .long), Cond.methodLink RX0 120 yX0_divide, Cond.static yX0_divide, Cond.code yX0_divide cX0_divide 4 (some .long), Cond.methodLink RX0 161 yJ9_floorDiv_f86c9, Cond.static yJ9_floorDiv_f86c9, Cond.code yJ9_floorDiv_f86c9 cJ9_floorDiv_f86c9 6 (some .long)]
def wsX0_lunarDay : List Cond := .code yX0_lunarDay cX0_lunarDay 2 (some .int) :: ((wsX0_lunarDay_r1 ++ wsX0_lunarDay_r2) ++ wsX00 ++ (vx_atS RX0 141 "java/lang/IllegalArgumentException" ["java/lang/RuntimeException", "java/lang/Exception"]).filter goodWord)
def wsX0_monthBegin : List Cond := .code yX0_monthBegin cX0_monthBegin 2 (some .int) :: ([.constant RX0 123 (-100000), .constant RX0 124 (100000), .fieldLink RX0 20 "MarketWeeks" "moonNum" "I", .fieldLink RX0 23 "MarketWeeks" "moonDen" "I", .fieldLink RX0 26 "MarketWeeks" "moonShift" "I", .methodLink RX0 41 yX0_isWithin, .static yX0_isWithin, .initialized RX0, .code yX0_isWithin cX0_isWithin 3 (some .boolean), .methodLink RX0 45 yX0_checkArgument, .static yX0_checkArgument, .code yX0_checkArgument cX0_checkArgument 1 none, .classLink RX0 137 "java/lang/IllegalArgumentException", .initialized "java/lang/IllegalArgumentException", .methodLink RX0 120 yX0_divide, .static yX0_divide, .code yX0_divide cX0_divide 4 (some .long), .methodLink RX0 161 yJ9_floorDiv_f86c9, .static yJ9_floorDiv_f86c9, .initialized RJ9, .code yJ9_floorDiv_f86c9 cJ9_floorDiv_f86c9 6 (some .long)] ++ wsX00 ++ (vx_atS RX0 141 "java/lang/IllegalArgumentException" ["java/lang/RuntimeException", "java/lang/Exception"]).filter goodWord)
def wsX0_yearOf : List Cond := .code yX0_yearOf cX0_yearOf 4 (some .int) :: ([.fieldLink RX0 38 "MarketWeeks" "leapC" "I", .fieldLink RX0 35 "MarketWeeks" "leapB" "I", .fieldLink RX0 29 "MarketWeeks" "yearCommon" "I", .fieldLink RX0 32 "MarketWeeks" "leapA" "I", .methodLink RX0 120 yX0_divide, .static yX0_divide, .initialized RX0, .code yX0_divide cX0_divide 4 (some .long), .methodLink RX0 161 yJ9_floorDiv_f86c9, .static yJ9_floorDiv_f86c9, .initialized RJ9, .code yJ9_floorDiv_f86c9 cJ9_floorDiv_f86c9 6 (some .long)] ++ wsX00)
def wsX0_year_r1 : List Cond := [Cond.methodLink RX0 75 yX0_checkDay, Cond.static yX0_checkDay, Cond.initialized RX0, Cond.code yX0_checkDay cX0_checkDay 1 none, Cond.constant RX0 142 (-1000000), Cond.constant RX0 143 (1000000), Cond.methodLink RX0 41 yX0_isWithin, Cond.static yX0_isWithin, Cond.code yX0_isWithin cX0_isWithin 3 (some .boolean), Cond.methodLink RX0 45 yX0_checkArgument, Cond.static yX0_checkArgument, Cond.code yX0_checkArgument cX0_checkArgument 1 none, Cond.classLink RX0 137 "java/lang/IllegalArgumentException", Cond.initialized "java/lang/IllegalArgumentException", Cond.methodLink RX0 125 yX0_yearOf, Cond.instanceMethod yX0_yearOf, Cond.selects RX0 yX0_yearOf yX0_yearOf, Cond.code yX0_yearOf cX0_yearOf 4 (some .int), Cond.fieldLink RX0 38 "MarketWeeks" "leapC" "I", Cond.fieldLink RX0 35 "MarketWeeks" "leapB" "I", Cond.fieldLink RX0 29 "MarketWeeks" "yearCommon" "I", Cond.fieldLink RX0 32 "MarketWeeks" "leapA" "I", Cond.methodLink RX0 120 yX0_divide, Cond.static yX0_divide]
def wsX0_year_r2 : List Cond := [Cond.code yX0_divide cX0_divide 4 (some .long), Cond.methodLink RX0 161 yJ9_floorDiv_f86c9, Cond.static yJ9_floorDiv_f86c9, Cond.initialized RJ9, Cond.code yJ9_floorDiv_f86c9 cJ9_floorDiv_f86c9 6 (some .long)]
def wsX0_year : List Cond := .code yX0_year cX0_year 2 (some .int) :: ((wsX0_year_r1 ++ wsX0_year_r2) ++ wsX00 ++ (vx_atS RX0 141 "java/lang/IllegalArgumentException" ["java/lang/RuntimeException", "java/lang/Exception"]).filter goodWord)
def wsX0_yearBegin : List Cond := .code yX0_yearBegin cX0_yearBegin 2 (some .int) :: ([.fieldLink RX0 29 "MarketWeeks" "yearCommon" "I", .fieldLink RX0 32 "MarketWeeks" "leapA" "I", .fieldLink RX0 35 "MarketWeeks" "leapB" "I", .fieldLink RX0 38 "MarketWeeks" "leapC" "I", .methodLink RX0 120 yX0_divide, .static yX0_divide, .initialized RX0, .code yX0_divide cX0_divide 4 (some .long), .methodLink RX0 161 yJ9_floorDiv_f86c9, .static yJ9_floorDiv_f86c9, .initialized RJ9, .code yJ9_floorDiv_f86c9 cJ9_floorDiv_f86c9 6 (some .long)] ++ wsX00)
def wsX0_placeInYear_r1 : List Cond := [Cond.methodLink RX0 75 yX0_checkDay, Cond.static yX0_checkDay, Cond.initialized RX0, Cond.code yX0_checkDay cX0_checkDay 1 none, Cond.constant RX0 142 (-1000000), Cond.constant RX0 143 (1000000), Cond.methodLink RX0 41 yX0_isWithin, Cond.static yX0_isWithin, Cond.code yX0_isWithin cX0_isWithin 3 (some .boolean), Cond.methodLink RX0 45 yX0_checkArgument, Cond.static yX0_checkArgument, Cond.code yX0_checkArgument cX0_checkArgument 1 none, Cond.classLink RX0 137 "java/lang/IllegalArgumentException", Cond.initialized "java/lang/IllegalArgumentException", Cond.methodLink RX0 125 yX0_yearOf, Cond.instanceMethod yX0_yearOf, Cond.selects RX0 yX0_yearOf yX0_yearOf, Cond.code yX0_yearOf cX0_yearOf 4 (some .int), Cond.fieldLink RX0 38 "MarketWeeks" "leapC" "I", Cond.fieldLink RX0 35 "MarketWeeks" "leapB" "I", Cond.fieldLink RX0 29 "MarketWeeks" "yearCommon" "I", Cond.fieldLink RX0 32 "MarketWeeks" "leapA" "I", Cond.methodLink RX0 120 yX0_divide, Cond.static yX0_divide]
def wsX0_placeInYear_r2 : List Cond := [Cond.code yX0_divide cX0_divide 4 (some .long), Cond.methodLink RX0 161 yJ9_floorDiv_f86c9, Cond.static yJ9_floorDiv_f86c9, Cond.initialized RJ9, Cond.code yJ9_floorDiv_f86c9 cJ9_floorDiv_f86c9 6 (some .long), Cond.methodLink RX0 128 yX0_yearBegin, Cond.instanceMethod yX0_yearBegin, Cond.selects RX0 yX0_yearBegin yX0_yearBegin, Cond.code yX0_yearBegin cX0_yearBegin 2 (some .int)]
def wsX0_placeInYear : List Cond := .code yX0_placeInYear cX0_placeInYear 2 (some .int) :: ((wsX0_placeInYear_r1 ++ wsX0_placeInYear_r2) ++ wsX00 ++ (vx_atS RX0 141 "java/lang/IllegalArgumentException" ["java/lang/RuntimeException", "java/lang/Exception"]).filter goodWord)
def wsX0_checkYear : List Cond := .code yX0_checkYear cX0_checkYear 1 none :: ([.methodLink RX0 41 yX0_isWithin, .static yX0_isWithin, .initialized RX0, .code yX0_isWithin cX0_isWithin 3 (some .boolean), .methodLink RX0 45 yX0_checkArgument, .static yX0_checkArgument, .code yX0_checkArgument cX0_checkArgument 1 none, .classLink RX0 137 "java/lang/IllegalArgumentException", .initialized "java/lang/IllegalArgumentException"] ++ (vx_atS RX0 141 "java/lang/IllegalArgumentException" ["java/lang/RuntimeException", "java/lang/Exception"]).filter goodWord)
def wsX0_hasLeapDay : List Cond := .code yX0_hasLeapDay cX0_hasLeapDay 2 (some .boolean) :: ([.fieldLink RX0 32 "MarketWeeks" "leapA" "I", .fieldLink RX0 35 "MarketWeeks" "leapB" "I", .fieldLink RX0 38 "MarketWeeks" "leapC" "I", .methodLink RX0 71 yX0_modulo, .static yX0_modulo, .initialized RX0, .code yX0_modulo cX0_modulo 4 (some .long), .methodLink RX0 166 yJ9_floorMod_f86c9, .static yJ9_floorMod_f86c9, .initialized RJ9, .code yJ9_floorMod_f86c9 cJ9_floorMod_f86c9 6 (some .long)] ++ wsX00)
def wsX0_isLeap_r1 : List Cond := [Cond.methodLink RX0 131 yX0_checkYear, Cond.static yX0_checkYear, Cond.initialized RX0, Cond.code yX0_checkYear cX0_checkYear 1 none, Cond.methodLink RX0 41 yX0_isWithin, Cond.static yX0_isWithin, Cond.code yX0_isWithin cX0_isWithin 3 (some .boolean), Cond.methodLink RX0 45 yX0_checkArgument, Cond.static yX0_checkArgument, Cond.code yX0_checkArgument cX0_checkArgument 1 none, Cond.classLink RX0 137 "java/lang/IllegalArgumentException", Cond.initialized "java/lang/IllegalArgumentException", Cond.methodLink RX0 134 yX0_hasLeapDay, Cond.instanceMethod yX0_hasLeapDay, Cond.selects RX0 yX0_hasLeapDay yX0_hasLeapDay, Cond.code yX0_hasLeapDay cX0_hasLeapDay 2 (some .boolean), Cond.fieldLink RX0 32 "MarketWeeks" "leapA" "I", Cond.fieldLink RX0 35 "MarketWeeks" "leapB" "I", Cond.fieldLink RX0 38 "MarketWeeks" "leapC" "I", Cond.methodLink RX0 71 yX0_modulo, Cond.static yX0_modulo, Cond.code yX0_modulo cX0_modulo 4 (some .long), Cond.methodLink RX0 166 yJ9_floorMod_f86c9, Cond.static yJ9_floorMod_f86c9]
def wsX0_isLeap_r2 : List Cond := [Cond.initialized RJ9, Cond.code yJ9_floorMod_f86c9 cJ9_floorMod_f86c9 6 (some .long)]
def wsX0_isLeap : List Cond := .code yX0_isLeap cX0_isLeap 2 (some .boolean) :: ((wsX0_isLeap_r1 ++ wsX0_isLeap_r2) ++ wsX00 ++ (vx_atS RX0 141 "java/lang/IllegalArgumentException" ["java/lang/RuntimeException", "java/lang/Exception"]).filter goodWord)
def wsX0_dayOf_r1 : List Cond := [Cond.fieldLink RX0 29 "MarketWeeks" "yearCommon" "I", Cond.methodLink RX0 131 yX0_checkYear, Cond.static yX0_checkYear, Cond.initialized RX0, Cond.code yX0_checkYear cX0_checkYear 1 none, Cond.methodLink RX0 41 yX0_isWithin, Cond.static yX0_isWithin, Cond.code yX0_isWithin cX0_isWithin 3 (some .boolean), Cond.methodLink RX0 45 yX0_checkArgument, Cond.static yX0_checkArgument, Cond.code yX0_checkArgument cX0_checkArgument 1 none, Cond.classLink RX0 137 "java/lang/IllegalArgumentException", Cond.initialized "java/lang/IllegalArgumentException", Cond.methodLink RX0 134 yX0_hasLeapDay, Cond.instanceMethod yX0_hasLeapDay, Cond.selects RX0 yX0_hasLeapDay yX0_hasLeapDay, Cond.code yX0_hasLeapDay cX0_hasLeapDay 2 (some .boolean), Cond.fieldLink RX0 32 "MarketWeeks" "leapA" "I", Cond.fieldLink RX0 35 "MarketWeeks" "leapB" "I", Cond.fieldLink RX0 38 "MarketWeeks" "leapC" "I", Cond.methodLink RX0 71 yX0_modulo, Cond.static yX0_modulo, Cond.code yX0_modulo cX0_modulo 4 (some .long), Cond.methodLink RX0 166 yJ9_floorMod_f86c9]
def wsX0_dayOf_r2 : List Cond := [Cond.static yJ9_floorMod_f86c9, Cond.initialized RJ9, Cond.code yJ9_floorMod_f86c9 cJ9_floorMod_f86c9 6 (some .long), Cond.methodLink RX0 128 yX0_yearBegin, Cond.instanceMethod yX0_yearBegin, Cond.selects RX0 yX0_yearBegin yX0_yearBegin, Cond.code yX0_yearBegin cX0_yearBegin 2 (some .int), Cond.methodLink RX0 120 yX0_divide, Cond.static yX0_divide, Cond.code yX0_divide cX0_divide 4 (some .long), Cond.methodLink RX0 161 yJ9_floorDiv_f86c9, Cond.static yJ9_floorDiv_f86c9, Cond.code yJ9_floorDiv_f86c9 cJ9_floorDiv_f86c9 6 (some .long)]
def wsX0_dayOf : List Cond := .code yX0_dayOf cX0_dayOf 4 (some .int) :: ((wsX0_dayOf_r1 ++ wsX0_dayOf_r2) ++ wsX00 ++ (vx_atS RX0 141 "java/lang/IllegalArgumentException" ["java/lang/RuntimeException", "java/lang/Exception"]).filter goodWord)
def wsX0_timesInYear_r1 : List Cond := [Cond.methodLink RX0 60 yX0_checkMarket, Cond.instanceMethod yX0_checkMarket, Cond.selects RX0 yX0_checkMarket yX0_checkMarket, Cond.initialized RX0, Cond.code yX0_checkMarket cX0_checkMarket 2 none, Cond.classLink RX0 144 "java/lang/IndexOutOfBoundsException", Cond.initialized "java/lang/IndexOutOfBoundsException", Cond.fieldLink RX0 16 "MarketWeeks" "count" "I", Cond.methodLink RX0 41 yX0_isWithin, Cond.static yX0_isWithin, Cond.code yX0_isWithin cX0_isWithin 3 (some .boolean), Cond.methodLink RX0 131 yX0_checkYear, Cond.static yX0_checkYear, Cond.code yX0_checkYear cX0_checkYear 1 none, Cond.methodLink RX0 45 yX0_checkArgument, Cond.static yX0_checkArgument, Cond.code yX0_checkArgument cX0_checkArgument 1 none, Cond.classLink RX0 137 "java/lang/IllegalArgumentException", Cond.initialized "java/lang/IllegalArgumentException", Cond.methodLink RX0 128 yX0_yearBegin, Cond.instanceMethod yX0_yearBegin, Cond.selects RX0 yX0_yearBegin yX0_yearBegin, Cond.code yX0_yearBegin cX0_yearBegin 2 (some .int), Cond.fieldLink RX0 29 "MarketWeeks" "yearCommon" "I"]
def wsX0_timesInYear_r2 : List Cond := [Cond.fieldLink RX0 32 "MarketWeeks" "leapA" "I", Cond.fieldLink RX0 35 "MarketWeeks" "leapB" "I", Cond.fieldLink RX0 38 "MarketWeeks" "leapC" "I", Cond.methodLink RX0 120 yX0_divide, Cond.static yX0_divide, Cond.code yX0_divide cX0_divide 4 (some .long), Cond.methodLink RX0 161 yJ9_floorDiv_f86c9, Cond.static yJ9_floorDiv_f86c9, Cond.initialized RJ9, Cond.code yJ9_floorDiv_f86c9 cJ9_floorDiv_f86c9 6 (some .long), Cond.methodLink RX0 82 yX0_countHeld, Cond.instanceMethod yX0_countHeld, Cond.selects RX0 yX0_countHeld yX0_countHeld, Cond.code yX0_countHeld cX0_countHeld 6 (some .int), Cond.methodLink RX0 68 yX0_lengthOf, Cond.instanceMethod yX0_lengthOf, Cond.selects RX0 yX0_lengthOf yX0_lengthOf, Cond.code yX0_lengthOf cX0_lengthOf 2 (some .int), Cond.fieldLink RX0 9 "MarketWeeks" "lengths" "[I", Cond.methodLink RX0 49 yX0_isPlace, Cond.instanceMethod yX0_isPlace, Cond.selects RX0 yX0_isPlace yX0_isPlace, Cond.code yX0_isPlace cX0_isPlace 2 (some .boolean), Cond.fieldLink RX0 13 "MarketWeeks" "places" "[I"]
def wsX0_timesInYear_r3 : List Cond := [Cond.methodLink RX0 64 yX0_placeOf, Cond.instanceMethod yX0_placeOf, Cond.selects RX0 yX0_placeOf yX0_placeOf, Cond.code yX0_placeOf cX0_placeOf 2 (some .int)]
def wsX0_timesInYear : List Cond := .code yX0_timesInYear cX0_timesInYear 3 (some .int) :: ((wsX0_timesInYear_r1 ++ (wsX0_timesInYear_r2 ++ wsX0_timesInYear_r3)) ++ wsX00 ++ (vx_atS RX0 148 "java/lang/IndexOutOfBoundsException" ["java/lang/RuntimeException", "java/lang/Exception"]).filter goodWord ++ (vx_atS RX0 141 "java/lang/IllegalArgumentException" ["java/lang/RuntimeException", "java/lang/Exception"]).filter goodWord)
def wsX1_init : List Cond := .code yX1_init cX1_init 1 none :: ([.methodLink RX1 1 objectInit, .instanceMethod objectInit, .code objectInit ⟨#[0xb1]⟩ 1 none, .arrayClass .int, .fieldLink RX1 7 "MarketWeeksModel" "lengths" "[I", .fieldLink RX1 13 "MarketWeeksModel" "places" "[I", .fieldLink RX1 16 "MarketWeeksModel" "num" "I", .fieldLink RX1 20 "MarketWeeksModel" "den" "I", .fieldLink RX1 23 "MarketWeeksModel" "common" "I", .fieldLink RX1 26 "MarketWeeksModel" "a" "I", .fieldLink RX1 29 "MarketWeeksModel" "c" "I"] ++ wsX10)
def wsX1_thrown : List Cond := .code yX1_thrown cX1_thrown 1 (some .int) :: ([.fieldLink RX1 32 "MarketWeeksModel" "thrown" "I"] ++ wsX10)
def wsX1_goesWell : List Cond := .code yX1_goesWell cX1_goesWell 2 (some .boolean) :: ([.fieldLink RX1 32 "MarketWeeksModel" "thrown" "I"] ++ wsX10)
def wsX1_in : List Cond := .code yX1_in cX1_in 6 (some .boolean) :: ([])
def wsX1_isDay : List Cond := .code yX1_isDay cX1_isDay 1 (some .boolean) :: ([.constantLong RX1 35 (-1000000), .constantLong RX1 37 (1000000), .methodLink RX1 39 yX1_in, .static yX1_in, .initialized RX1, .code yX1_in cX1_in 6 (some .boolean)])
def wsX1_isMarket : List Cond := .code yX1_isMarket cX1_isMarket 2 (some .boolean) :: ([.fieldLink RX1 43 "MarketWeeksModel" "many" "I", .methodLink RX1 39 yX1_in, .static yX1_in, .initialized RX1, .code yX1_in cX1_in 6 (some .boolean)] ++ wsX10)
def wsX1_modulo : List Cond := .code yX1_modulo cX1_modulo 6 (some .long) :: ([])
def wsX1_part : List Cond := .code yX1_part cX1_part 6 (some .long) :: ([.methodLink RX1 46 yX1_modulo, .static yX1_modulo, .initialized RX1, .code yX1_modulo cX1_modulo 6 (some .long)])
def wsX1_addMarket : List Cond := .code yX1_addMarket cX1_addMarket 3 (some .int) :: ([.constantLong RX1 50 (60), .fieldLink RX1 43 "MarketWeeksModel" "many" "I", .fieldLink RX1 7 "MarketWeeksModel" "lengths" "[I", .fieldLink RX1 13 "MarketWeeksModel" "places" "[I", .methodLink RX1 39 yX1_in, .static yX1_in, .initialized RX1, .code yX1_in cX1_in 6 (some .boolean), .methodLink RX1 52 yX1_goesWell, .instanceMethod yX1_goesWell, .selects RX1 yX1_goesWell yX1_goesWell, .code yX1_goesWell cX1_goesWell 2 (some .boolean), .fieldLink RX1 32 "MarketWeeksModel" "thrown" "I"] ++ wsX10)
def wsX1_shift : List Cond := .code yX1_shift cX1_shift 3 (some .int) :: ([.constantLong RX1 59 (-60), .constantLong RX1 50 (60), .fieldLink RX1 13 "MarketWeeksModel" "places" "[I", .fieldLink RX1 7 "MarketWeeksModel" "lengths" "[I", .methodLink RX1 56 yX1_isMarket, .instanceMethod yX1_isMarket, .selects RX1 yX1_isMarket yX1_isMarket, .initialized RX1, .code yX1_isMarket cX1_isMarket 2 (some .boolean), .fieldLink RX1 43 "MarketWeeksModel" "many" "I", .methodLink RX1 39 yX1_in, .static yX1_in, .code yX1_in cX1_in 6 (some .boolean), .methodLink RX1 52 yX1_goesWell, .instanceMethod yX1_goesWell, .selects RX1 yX1_goesWell yX1_goesWell, .code yX1_goesWell cX1_goesWell 2 (some .boolean), .fieldLink RX1 32 "MarketWeeksModel" "thrown" "I", .methodLink RX1 46 yX1_modulo, .static yX1_modulo, .code yX1_modulo cX1_modulo 6 (some .long)] ++ wsX10)
def wsX1_setMoon : List Cond := .code yX1_setMoon cX1_setMoon 5 none :: ([.constantLong RX1 61 (100), .constantLong RX1 63 (2), .constantLong RX1 65 (-1000), .constantLong RX1 67 (1000), .fieldLink RX1 16 "MarketWeeksModel" "num" "I", .fieldLink RX1 20 "MarketWeeksModel" "den" "I", .fieldLink RX1 69 "MarketWeeksModel" "moved" "I", .methodLink RX1 39 yX1_in, .static yX1_in, .initialized RX1, .code yX1_in cX1_in 6 (some .boolean), .methodLink RX1 52 yX1_goesWell, .instanceMethod yX1_goesWell, .selects RX1 yX1_goesWell yX1_goesWell, .code yX1_goesWell cX1_goesWell 2 (some .boolean), .fieldLink RX1 32 "MarketWeeksModel" "thrown" "I"] ++ wsX10)
def wsX1_setYear : List Cond := .code yX1_setYear cX1_setYear 6 none :: ([.constantLong RX1 61 (100), .constantLong RX1 72 (500), .constantLong RX1 74 (400), .fieldLink RX1 23 "MarketWeeksModel" "common" "I", .fieldLink RX1 26 "MarketWeeksModel" "a" "I", .fieldLink RX1 76 "MarketWeeksModel" "b" "I", .fieldLink RX1 29 "MarketWeeksModel" "c" "I", .methodLink RX1 39 yX1_in, .static yX1_in, .initialized RX1, .code yX1_in cX1_in 6 (some .boolean), .methodLink RX1 52 yX1_goesWell, .instanceMethod yX1_goesWell, .selects RX1 yX1_goesWell yX1_goesWell, .code yX1_goesWell cX1_goesWell 2 (some .boolean), .fieldLink RX1 32 "MarketWeeksModel" "thrown" "I"] ++ wsX10)
def wsX1_markets : List Cond := .code yX1_markets cX1_markets 1 (some .int) :: ([.fieldLink RX1 32 "MarketWeeksModel" "thrown" "I", .fieldLink RX1 43 "MarketWeeksModel" "many" "I"] ++ wsX10)
def wsX1_holds : List Cond := .code yX1_holds cX1_holds 4 (some .boolean) :: ([.fieldLink RX1 7 "MarketWeeksModel" "lengths" "[I", .fieldLink RX1 13 "MarketWeeksModel" "places" "[I", .methodLink RX1 46 yX1_modulo, .static yX1_modulo, .initialized RX1, .code yX1_modulo cX1_modulo 6 (some .long)] ++ wsX10)
def wsX1_isHeld_r1 : List Cond := [Cond.methodLink RX1 56 yX1_isMarket, Cond.instanceMethod yX1_isMarket, Cond.selects RX1 yX1_isMarket yX1_isMarket, Cond.initialized RX1, Cond.code yX1_isMarket cX1_isMarket 2 (some .boolean), Cond.fieldLink RX1 43 "MarketWeeksModel" "many" "I", Cond.methodLink RX1 39 yX1_in, Cond.static yX1_in, Cond.code yX1_in cX1_in 6 (some .boolean), Cond.methodLink RX1 79 yX1_isDay, Cond.static yX1_isDay, Cond.code yX1_isDay cX1_isDay 1 (some .boolean), Cond.constantLong RX1 35 (-1000000), Cond.constantLong RX1 37 (1000000), Cond.methodLink RX1 52 yX1_goesWell, Cond.instanceMethod yX1_goesWell, Cond.selects RX1 yX1_goesWell yX1_goesWell, Cond.code yX1_goesWell cX1_goesWell 2 (some .boolean), Cond.fieldLink RX1 32 "MarketWeeksModel" "thrown" "I", Cond.methodLink RX1 82 yX1_holds, Cond.instanceMethod yX1_holds, Cond.selects RX1 yX1_holds yX1_holds, Cond.code yX1_holds cX1_holds 4 (some .boolean), Cond.fieldLink RX1 7 "MarketWeeksModel" "lengths" "[I"]
def wsX1_isHeld_r2 : List Cond := [Cond.fieldLink RX1 13 "MarketWeeksModel" "places" "[I", Cond.methodLink RX1 46 yX1_modulo, Cond.static yX1_modulo, Cond.code yX1_modulo cX1_modulo 6 (some .long)]
def wsX1_isHeld : List Cond := .code yX1_isHeld cX1_isHeld 3 (some .boolean) :: ((wsX1_isHeld_r1 ++ wsX1_isHeld_r2) ++ wsX10)
def wsX1_from : List Cond := .code yX1_from cX1_from 4 (some .int) :: ([.methodLink RX1 82 yX1_holds, .instanceMethod yX1_holds, .selects RX1 yX1_holds yX1_holds, .initialized RX1, .code yX1_holds cX1_holds 4 (some .boolean), .fieldLink RX1 7 "MarketWeeksModel" "lengths" "[I", .fieldLink RX1 13 "MarketWeeksModel" "places" "[I", .methodLink RX1 46 yX1_modulo, .static yX1_modulo, .code yX1_modulo cX1_modulo 6 (some .long)] ++ wsX10)
def wsX1_next_r1 : List Cond := [Cond.methodLink RX1 56 yX1_isMarket, Cond.instanceMethod yX1_isMarket, Cond.selects RX1 yX1_isMarket yX1_isMarket, Cond.initialized RX1, Cond.code yX1_isMarket cX1_isMarket 2 (some .boolean), Cond.fieldLink RX1 43 "MarketWeeksModel" "many" "I", Cond.methodLink RX1 39 yX1_in, Cond.static yX1_in, Cond.code yX1_in cX1_in 6 (some .boolean), Cond.methodLink RX1 79 yX1_isDay, Cond.static yX1_isDay, Cond.code yX1_isDay cX1_isDay 1 (some .boolean), Cond.constantLong RX1 35 (-1000000), Cond.constantLong RX1 37 (1000000), Cond.methodLink RX1 52 yX1_goesWell, Cond.instanceMethod yX1_goesWell, Cond.selects RX1 yX1_goesWell yX1_goesWell, Cond.code yX1_goesWell cX1_goesWell 2 (some .boolean), Cond.fieldLink RX1 32 "MarketWeeksModel" "thrown" "I", Cond.methodLink RX1 86 yX1_from, Cond.instanceMethod yX1_from, Cond.selects RX1 yX1_from yX1_from, Cond.code yX1_from cX1_from 4 (some .int), Cond.methodLink RX1 82 yX1_holds]
def wsX1_next_r2 : List Cond := [Cond.instanceMethod yX1_holds, Cond.selects RX1 yX1_holds yX1_holds, Cond.code yX1_holds cX1_holds 4 (some .boolean), Cond.fieldLink RX1 7 "MarketWeeksModel" "lengths" "[I", Cond.fieldLink RX1 13 "MarketWeeksModel" "places" "[I", Cond.methodLink RX1 46 yX1_modulo, Cond.static yX1_modulo, Cond.code yX1_modulo cX1_modulo 6 (some .long)]
def wsX1_next : List Cond := .code yX1_next cX1_next 3 (some .int) :: ((wsX1_next_r1 ++ wsX1_next_r2) ++ wsX10)
def wsX1_nearest_r1 : List Cond := [Cond.methodLink RX1 56 yX1_isMarket, Cond.instanceMethod yX1_isMarket, Cond.selects RX1 yX1_isMarket yX1_isMarket, Cond.initialized RX1, Cond.code yX1_isMarket cX1_isMarket 2 (some .boolean), Cond.fieldLink RX1 43 "MarketWeeksModel" "many" "I", Cond.methodLink RX1 39 yX1_in, Cond.static yX1_in, Cond.code yX1_in cX1_in 6 (some .boolean), Cond.methodLink RX1 79 yX1_isDay, Cond.static yX1_isDay, Cond.code yX1_isDay cX1_isDay 1 (some .boolean), Cond.constantLong RX1 35 (-1000000), Cond.constantLong RX1 37 (1000000), Cond.methodLink RX1 52 yX1_goesWell, Cond.instanceMethod yX1_goesWell, Cond.selects RX1 yX1_goesWell yX1_goesWell, Cond.code yX1_goesWell cX1_goesWell 2 (some .boolean), Cond.fieldLink RX1 32 "MarketWeeksModel" "thrown" "I", Cond.methodLink RX1 82 yX1_holds, Cond.instanceMethod yX1_holds, Cond.selects RX1 yX1_holds yX1_holds, Cond.code yX1_holds cX1_holds 4 (some .boolean), Cond.fieldLink RX1 7 "MarketWeeksModel" "lengths" "[I"]
def wsX1_nearest_r2 : List Cond := [Cond.fieldLink RX1 13 "MarketWeeksModel" "places" "[I", Cond.methodLink RX1 46 yX1_modulo, Cond.static yX1_modulo, Cond.code yX1_modulo cX1_modulo 6 (some .long)]
def wsX1_nearest : List Cond := .code yX1_nearest cX1_nearest 4 (some .int) :: ((wsX1_nearest_r1 ++ wsX1_nearest_r2) ++ wsX10)
def wsX1_before : List Cond := .code yX1_before cX1_before 4 (some .long) :: ([.fieldLink RX1 13 "MarketWeeksModel" "places" "[I", .fieldLink RX1 7 "MarketWeeksModel" "lengths" "[I", .methodLink RX1 90 yX1_part, .static yX1_part, .initialized RX1, .code yX1_part cX1_part 6 (some .long), .methodLink RX1 46 yX1_modulo, .static yX1_modulo, .code yX1_modulo cX1_modulo 6 (some .long)] ++ wsX10)
def wsX1_count : List Cond := .code yX1_count cX1_count 6 (some .int) :: ([.methodLink RX1 93 yX1_before, .instanceMethod yX1_before, .selects RX1 yX1_before yX1_before, .initialized RX1, .code yX1_before cX1_before 4 (some .long), .fieldLink RX1 13 "MarketWeeksModel" "places" "[I", .fieldLink RX1 7 "MarketWeeksModel" "lengths" "[I", .methodLink RX1 90 yX1_part, .static yX1_part, .code yX1_part cX1_part 6 (some .long), .methodLink RX1 46 yX1_modulo, .static yX1_modulo, .code yX1_modulo cX1_modulo 6 (some .long)] ++ wsX10)
def wsX1_times_r1 : List Cond := [Cond.methodLink RX1 79 yX1_isDay, Cond.static yX1_isDay, Cond.initialized RX1, Cond.code yX1_isDay cX1_isDay 1 (some .boolean), Cond.constantLong RX1 35 (-1000000), Cond.constantLong RX1 37 (1000000), Cond.methodLink RX1 39 yX1_in, Cond.static yX1_in, Cond.code yX1_in cX1_in 6 (some .boolean), Cond.methodLink RX1 56 yX1_isMarket, Cond.instanceMethod yX1_isMarket, Cond.selects RX1 yX1_isMarket yX1_isMarket, Cond.code yX1_isMarket cX1_isMarket 2 (some .boolean), Cond.fieldLink RX1 43 "MarketWeeksModel" "many" "I", Cond.methodLink RX1 52 yX1_goesWell, Cond.instanceMethod yX1_goesWell, Cond.selects RX1 yX1_goesWell yX1_goesWell, Cond.code yX1_goesWell cX1_goesWell 2 (some .boolean), Cond.fieldLink RX1 32 "MarketWeeksModel" "thrown" "I", Cond.methodLink RX1 97 yX1_count, Cond.instanceMethod yX1_count, Cond.selects RX1 yX1_count yX1_count, Cond.code yX1_count cX1_count 6 (some .int), Cond.methodLink RX1 93 yX1_before]
def wsX1_times_r2 : List Cond := [Cond.instanceMethod yX1_before, Cond.selects RX1 yX1_before yX1_before, Cond.code yX1_before cX1_before 4 (some .long), Cond.fieldLink RX1 13 "MarketWeeksModel" "places" "[I", Cond.fieldLink RX1 7 "MarketWeeksModel" "lengths" "[I", Cond.methodLink RX1 90 yX1_part, Cond.static yX1_part, Cond.code yX1_part cX1_part 6 (some .long), Cond.methodLink RX1 46 yX1_modulo, Cond.static yX1_modulo, Cond.code yX1_modulo cX1_modulo 6 (some .long)]
def wsX1_times : List Cond := .code yX1_times cX1_times 5 (some .int) :: ((wsX1_times_r1 ++ wsX1_times_r2) ++ wsX10)
def wsX1_held : List Cond := .code yX1_held cX1_held 4 (some .int) :: ([.fieldLink RX1 43 "MarketWeeksModel" "many" "I", .methodLink RX1 82 yX1_holds, .instanceMethod yX1_holds, .selects RX1 yX1_holds yX1_holds, .initialized RX1, .code yX1_holds cX1_holds 4 (some .boolean), .fieldLink RX1 7 "MarketWeeksModel" "lengths" "[I", .fieldLink RX1 13 "MarketWeeksModel" "places" "[I", .methodLink RX1 46 yX1_modulo, .static yX1_modulo, .code yX1_modulo cX1_modulo 6 (some .long)] ++ wsX10)
def wsX1_heldOn_r1 : List Cond := [Cond.methodLink RX1 79 yX1_isDay, Cond.static yX1_isDay, Cond.initialized RX1, Cond.code yX1_isDay cX1_isDay 1 (some .boolean), Cond.constantLong RX1 35 (-1000000), Cond.constantLong RX1 37 (1000000), Cond.methodLink RX1 39 yX1_in, Cond.static yX1_in, Cond.code yX1_in cX1_in 6 (some .boolean), Cond.methodLink RX1 52 yX1_goesWell, Cond.instanceMethod yX1_goesWell, Cond.selects RX1 yX1_goesWell yX1_goesWell, Cond.code yX1_goesWell cX1_goesWell 2 (some .boolean), Cond.fieldLink RX1 32 "MarketWeeksModel" "thrown" "I", Cond.methodLink RX1 101 yX1_held, Cond.instanceMethod yX1_held, Cond.selects RX1 yX1_held yX1_held, Cond.code yX1_held cX1_held 4 (some .int), Cond.fieldLink RX1 43 "MarketWeeksModel" "many" "I", Cond.methodLink RX1 82 yX1_holds, Cond.instanceMethod yX1_holds, Cond.selects RX1 yX1_holds yX1_holds, Cond.code yX1_holds cX1_holds 4 (some .boolean), Cond.fieldLink RX1 7 "MarketWeeksModel" "lengths" "[I"]
def wsX1_heldOn_r2 : List Cond := [Cond.fieldLink RX1 13 "MarketWeeksModel" "places" "[I", Cond.methodLink RX1 46 yX1_modulo, Cond.static yX1_modulo, Cond.code yX1_modulo cX1_modulo 6 (some .long)]
def wsX1_heldOn : List Cond := .code yX1_heldOn cX1_heldOn 2 (some .int) :: ((wsX1_heldOn_r1 ++ wsX1_heldOn_r2) ++ wsX10)
def wsX1_sizeOf : List Cond := .code yX1_sizeOf cX1_sizeOf 3 (some .int) :: ([])
def wsX1_faultOf : List Cond := .code yX1_faultOf cX1_faultOf 2 (some .int) :: ([.constantLong RX1 108 (5), .fieldLink RX1 43 "MarketWeeksModel" "many" "I", .methodLink RX1 105 yX1_sizeOf, .static yX1_sizeOf, .initialized RX1, .code yX1_sizeOf cX1_sizeOf 3 (some .int), .methodLink RX1 39 yX1_in, .static yX1_in, .code yX1_in cX1_in 6 (some .boolean)] ++ wsX10)
def wsX1_find : List Cond := .code yX1_find cX1_find 7 (some .boolean) :: ([.fieldLink RX1 110 "MarketWeeksModel" "found" "J", .fieldLink RX1 114 "MarketWeeksModel" "step" "J", .fieldLink RX1 43 "MarketWeeksModel" "many" "I", .fieldLink RX1 7 "MarketWeeksModel" "lengths" "[I", .methodLink RX1 82 yX1_holds, .instanceMethod yX1_holds, .selects RX1 yX1_holds yX1_holds, .initialized RX1, .code yX1_holds cX1_holds 4 (some .boolean), .fieldLink RX1 13 "MarketWeeksModel" "places" "[I", .methodLink RX1 46 yX1_modulo, .static yX1_modulo, .code yX1_modulo cX1_modulo 6 (some .long)] ++ wsX10)
def wsX1_doMeet_r1 : List Cond := [Cond.methodLink RX1 117 yX1_faultOf, Cond.instanceMethod yX1_faultOf, Cond.selects RX1 yX1_faultOf yX1_faultOf, Cond.initialized RX1, Cond.code yX1_faultOf cX1_faultOf 2 (some .int), Cond.constantLong RX1 108 (5), Cond.fieldLink RX1 43 "MarketWeeksModel" "many" "I", Cond.methodLink RX1 105 yX1_sizeOf, Cond.static yX1_sizeOf, Cond.code yX1_sizeOf cX1_sizeOf 3 (some .int), Cond.methodLink RX1 39 yX1_in, Cond.static yX1_in, Cond.code yX1_in cX1_in 6 (some .boolean), Cond.methodLink RX1 52 yX1_goesWell, Cond.instanceMethod yX1_goesWell, Cond.selects RX1 yX1_goesWell yX1_goesWell, Cond.code yX1_goesWell cX1_goesWell 2 (some .boolean), Cond.fieldLink RX1 32 "MarketWeeksModel" "thrown" "I", Cond.methodLink RX1 120 yX1_find, Cond.instanceMethod yX1_find, Cond.selects RX1 yX1_find yX1_find, Cond.code yX1_find cX1_find 7 (some .boolean), Cond.fieldLink RX1 110 "MarketWeeksModel" "found" "J", Cond.fieldLink RX1 114 "MarketWeeksModel" "step" "J"]
def wsX1_doMeet_r2 : List Cond := [Cond.fieldLink RX1 7 "MarketWeeksModel" "lengths" "[I", Cond.methodLink RX1 82 yX1_holds, Cond.instanceMethod yX1_holds, Cond.selects RX1 yX1_holds yX1_holds, Cond.code yX1_holds cX1_holds 4 (some .boolean), Cond.fieldLink RX1 13 "MarketWeeksModel" "places" "[I", Cond.methodLink RX1 46 yX1_modulo, Cond.static yX1_modulo, Cond.code yX1_modulo cX1_modulo 6 (some .long)]
def wsX1_doMeet : List Cond := .code yX1_doMeet cX1_doMeet 2 (some .boolean) :: ((wsX1_doMeet_r1 ++ wsX1_doMeet_r2) ++ wsX10)
def wsX1_period_r1 : List Cond := [Cond.fieldLink RX1 114 "MarketWeeksModel" "step" "J", Cond.methodLink RX1 117 yX1_faultOf, Cond.instanceMethod yX1_faultOf, Cond.selects RX1 yX1_faultOf yX1_faultOf, Cond.initialized RX1, Cond.code yX1_faultOf cX1_faultOf 2 (some .int), Cond.constantLong RX1 108 (5), Cond.fieldLink RX1 43 "MarketWeeksModel" "many" "I", Cond.methodLink RX1 105 yX1_sizeOf, Cond.static yX1_sizeOf, Cond.code yX1_sizeOf cX1_sizeOf 3 (some .int), Cond.methodLink RX1 39 yX1_in, Cond.static yX1_in, Cond.code yX1_in cX1_in 6 (some .boolean), Cond.methodLink RX1 120 yX1_find, Cond.instanceMethod yX1_find, Cond.selects RX1 yX1_find yX1_find, Cond.code yX1_find cX1_find 7 (some .boolean), Cond.fieldLink RX1 110 "MarketWeeksModel" "found" "J", Cond.fieldLink RX1 7 "MarketWeeksModel" "lengths" "[I", Cond.methodLink RX1 82 yX1_holds, Cond.instanceMethod yX1_holds, Cond.selects RX1 yX1_holds yX1_holds, Cond.code yX1_holds cX1_holds 4 (some .boolean)]
def wsX1_period_r2 : List Cond := [Cond.fieldLink RX1 13 "MarketWeeksModel" "places" "[I", Cond.methodLink RX1 46 yX1_modulo, Cond.static yX1_modulo, Cond.code yX1_modulo cX1_modulo 6 (some .long), Cond.methodLink RX1 52 yX1_goesWell, Cond.instanceMethod yX1_goesWell, Cond.selects RX1 yX1_goesWell yX1_goesWell, Cond.code yX1_goesWell cX1_goesWell 2 (some .boolean), Cond.fieldLink RX1 32 "MarketWeeksModel" "thrown" "I"]
def wsX1_period : List Cond := .code yX1_period cX1_period 4 (some .int) :: ((wsX1_period_r1 ++ wsX1_period_r2) ++ wsX10)
def wsX1_meeting_r1 : List Cond := [Cond.fieldLink RX1 110 "MarketWeeksModel" "found" "J", Cond.methodLink RX1 79 yX1_isDay, Cond.static yX1_isDay, Cond.initialized RX1, Cond.code yX1_isDay cX1_isDay 1 (some .boolean), Cond.constantLong RX1 35 (-1000000), Cond.constantLong RX1 37 (1000000), Cond.methodLink RX1 39 yX1_in, Cond.static yX1_in, Cond.code yX1_in cX1_in 6 (some .boolean), Cond.methodLink RX1 117 yX1_faultOf, Cond.instanceMethod yX1_faultOf, Cond.selects RX1 yX1_faultOf yX1_faultOf, Cond.code yX1_faultOf cX1_faultOf 2 (some .int), Cond.constantLong RX1 108 (5), Cond.fieldLink RX1 43 "MarketWeeksModel" "many" "I", Cond.methodLink RX1 105 yX1_sizeOf, Cond.static yX1_sizeOf, Cond.code yX1_sizeOf cX1_sizeOf 3 (some .int), Cond.methodLink RX1 120 yX1_find, Cond.instanceMethod yX1_find, Cond.selects RX1 yX1_find yX1_find, Cond.code yX1_find cX1_find 7 (some .boolean), Cond.fieldLink RX1 114 "MarketWeeksModel" "step" "J"]
def wsX1_meeting_r2 : List Cond := [Cond.fieldLink RX1 7 "MarketWeeksModel" "lengths" "[I", Cond.methodLink RX1 82 yX1_holds, Cond.instanceMethod yX1_holds, Cond.selects RX1 yX1_holds yX1_holds, Cond.code yX1_holds cX1_holds 4 (some .boolean), Cond.fieldLink RX1 13 "MarketWeeksModel" "places" "[I", Cond.methodLink RX1 46 yX1_modulo, Cond.static yX1_modulo, Cond.code yX1_modulo cX1_modulo 6 (some .long), Cond.methodLink RX1 52 yX1_goesWell, Cond.instanceMethod yX1_goesWell, Cond.selects RX1 yX1_goesWell yX1_goesWell, Cond.code yX1_goesWell cX1_goesWell 2 (some .boolean), Cond.fieldLink RX1 32 "MarketWeeksModel" "thrown" "I"]
def wsX1_meeting : List Cond := .code yX1_meeting cX1_meeting 5 (some .int) :: ((wsX1_meeting_r1 ++ wsX1_meeting_r2) ++ wsX10)
def wsX1_lunarOf : List Cond := .code yX1_lunarOf cX1_lunarOf 3 (some .long) :: ([.fieldLink RX1 69 "MarketWeeksModel" "moved" "I", .fieldLink RX1 20 "MarketWeeksModel" "den" "I", .fieldLink RX1 16 "MarketWeeksModel" "num" "I", .methodLink RX1 46 yX1_modulo, .static yX1_modulo, .initialized RX1, .code yX1_modulo cX1_modulo 6 (some .long)] ++ wsX10)
def wsX1_lunarMeeting_r1 : List Cond := [Cond.constantLong RX1 124 (99), Cond.constantLong RX1 67 (1000), Cond.fieldLink RX1 110 "MarketWeeksModel" "found" "J", Cond.fieldLink RX1 114 "MarketWeeksModel" "step" "J", Cond.constantLong RX1 130 (-1), Cond.methodLink RX1 79 yX1_isDay, Cond.static yX1_isDay, Cond.initialized RX1, Cond.code yX1_isDay cX1_isDay 1 (some .boolean), Cond.constantLong RX1 35 (-1000000), Cond.constantLong RX1 37 (1000000), Cond.methodLink RX1 39 yX1_in, Cond.static yX1_in, Cond.code yX1_in cX1_in 6 (some .boolean), Cond.methodLink RX1 117 yX1_faultOf, Cond.instanceMethod yX1_faultOf, Cond.selects RX1 yX1_faultOf yX1_faultOf, Cond.code yX1_faultOf cX1_faultOf 2 (some .int), Cond.constantLong RX1 108 (5), Cond.fieldLink RX1 43 "MarketWeeksModel" "many" "I", Cond.methodLink RX1 105 yX1_sizeOf, Cond.static yX1_sizeOf, Cond.code yX1_sizeOf cX1_sizeOf 3 (some .int), Cond.methodLink RX1 120 yX1_find]
def wsX1_lunarMeeting_r2 : List Cond := [Cond.instanceMethod yX1_find, Cond.selects RX1 yX1_find yX1_find, Cond.code yX1_find cX1_find 7 (some .boolean), Cond.fieldLink RX1 7 "MarketWeeksModel" "lengths" "[I", Cond.methodLink RX1 82 yX1_holds, Cond.instanceMethod yX1_holds, Cond.selects RX1 yX1_holds yX1_holds, Cond.code yX1_holds cX1_holds 4 (some .boolean), Cond.fieldLink RX1 13 "MarketWeeksModel" "places" "[I", Cond.methodLink RX1 46 yX1_modulo, Cond.static yX1_modulo, Cond.code yX1_modulo cX1_modulo 6 (some .long), Cond.methodLink RX1 52 yX1_goesWell, Cond.instanceMethod yX1_goesWell, Cond.selects RX1 yX1_goesWell yX1_goesWell, Cond.code yX1_goesWell cX1_goesWell 2 (some .boolean), Cond.fieldLink RX1 32 "MarketWeeksModel" "thrown" "I", Cond.methodLink RX1 126 yX1_lunarOf, Cond.instanceMethod yX1_lunarOf, Cond.selects RX1 yX1_lunarOf yX1_lunarOf, Cond.code yX1_lunarOf cX1_lunarOf 3 (some .long), Cond.fieldLink RX1 69 "MarketWeeksModel" "moved" "I", Cond.fieldLink RX1 20 "MarketWeeksModel" "den" "I", Cond.fieldLink RX1 16 "MarketWeeksModel" "num" "I"]
def wsX1_lunarMeeting : List Cond := .code yX1_lunarMeeting cX1_lunarMeeting 9 (some .long) :: ((wsX1_lunarMeeting_r1 ++ wsX1_lunarMeeting_r2) ++ wsX10)
def wsX1_best_r1 : List Cond := [Cond.constantLong RX1 132 (2000), Cond.fieldLink RX1 43 "MarketWeeksModel" "many" "I", Cond.methodLink RX1 79 yX1_isDay, Cond.static yX1_isDay, Cond.initialized RX1, Cond.code yX1_isDay cX1_isDay 1 (some .boolean), Cond.constantLong RX1 35 (-1000000), Cond.constantLong RX1 37 (1000000), Cond.methodLink RX1 39 yX1_in, Cond.static yX1_in, Cond.code yX1_in cX1_in 6 (some .boolean), Cond.methodLink RX1 52 yX1_goesWell, Cond.instanceMethod yX1_goesWell, Cond.selects RX1 yX1_goesWell yX1_goesWell, Cond.code yX1_goesWell cX1_goesWell 2 (some .boolean), Cond.fieldLink RX1 32 "MarketWeeksModel" "thrown" "I", Cond.methodLink RX1 101 yX1_held, Cond.instanceMethod yX1_held, Cond.selects RX1 yX1_held yX1_held, Cond.code yX1_held cX1_held 4 (some .int), Cond.methodLink RX1 82 yX1_holds, Cond.instanceMethod yX1_holds, Cond.selects RX1 yX1_holds yX1_holds, Cond.code yX1_holds cX1_holds 4 (some .boolean)]
def wsX1_best_r2 : List Cond := [Cond.fieldLink RX1 7 "MarketWeeksModel" "lengths" "[I", Cond.fieldLink RX1 13 "MarketWeeksModel" "places" "[I", Cond.methodLink RX1 46 yX1_modulo, Cond.static yX1_modulo, Cond.code yX1_modulo cX1_modulo 6 (some .long), Cond.methodLink RX1 105 yX1_sizeOf, Cond.static yX1_sizeOf, Cond.code yX1_sizeOf cX1_sizeOf 3 (some .int)]
def wsX1_best : List Cond := .code yX1_best cX1_best 7 (some .int) :: ((wsX1_best_r1 ++ wsX1_best_r2) ++ wsX10)
def wsX1_monthOf : List Cond := .code yX1_monthOf cX1_monthOf 3 (some .long) :: ([.fieldLink RX1 69 "MarketWeeksModel" "moved" "I", .fieldLink RX1 20 "MarketWeeksModel" "den" "I", .fieldLink RX1 16 "MarketWeeksModel" "num" "I", .methodLink RX1 90 yX1_part, .static yX1_part, .initialized RX1, .code yX1_part cX1_part 6 (some .long), .methodLink RX1 46 yX1_modulo, .static yX1_modulo, .code yX1_modulo cX1_modulo 6 (some .long)] ++ wsX10)
def wsX1_month_r1 : List Cond := [Cond.methodLink RX1 79 yX1_isDay, Cond.static yX1_isDay, Cond.initialized RX1, Cond.code yX1_isDay cX1_isDay 1 (some .boolean), Cond.constantLong RX1 35 (-1000000), Cond.constantLong RX1 37 (1000000), Cond.methodLink RX1 39 yX1_in, Cond.static yX1_in, Cond.code yX1_in cX1_in 6 (some .boolean), Cond.methodLink RX1 52 yX1_goesWell, Cond.instanceMethod yX1_goesWell, Cond.selects RX1 yX1_goesWell yX1_goesWell, Cond.code yX1_goesWell cX1_goesWell 2 (some .boolean), Cond.fieldLink RX1 32 "MarketWeeksModel" "thrown" "I", Cond.methodLink RX1 134 yX1_monthOf, Cond.instanceMethod yX1_monthOf, Cond.selects RX1 yX1_monthOf yX1_monthOf, Cond.code yX1_monthOf cX1_monthOf 3 (some .long), Cond.fieldLink RX1 69 "MarketWeeksModel" "moved" "I", Cond.fieldLink RX1 20 "MarketWeeksModel" "den" "I", Cond.fieldLink RX1 16 "MarketWeeksModel" "num" "I", Cond.methodLink RX1 90 yX1_part, Cond.static yX1_part, Cond.code yX1_part cX1_part 6 (some .long)]
def wsX1_month_r2 : List Cond := [Cond.methodLink RX1 46 yX1_modulo, Cond.static yX1_modulo, Cond.code yX1_modulo cX1_modulo 6 (some .long)]
def wsX1_month : List Cond := .code yX1_month cX1_month 2 (some .int) :: ((wsX1_month_r1 ++ wsX1_month_r2) ++ wsX10)
def wsX1_lunarDay : List Cond := .code yX1_lunarDay cX1_lunarDay 2 (some .int) :: ([.methodLink RX1 79 yX1_isDay, .static yX1_isDay, .initialized RX1, .code yX1_isDay cX1_isDay 1 (some .boolean), .constantLong RX1 35 (-1000000), .constantLong RX1 37 (1000000), .methodLink RX1 39 yX1_in, .static yX1_in, .code yX1_in cX1_in 6 (some .boolean), .methodLink RX1 52 yX1_goesWell, .instanceMethod yX1_goesWell, .selects RX1 yX1_goesWell yX1_goesWell, .code yX1_goesWell cX1_goesWell 2 (some .boolean), .fieldLink RX1 32 "MarketWeeksModel" "thrown" "I", .methodLink RX1 126 yX1_lunarOf, .instanceMethod yX1_lunarOf, .selects RX1 yX1_lunarOf yX1_lunarOf, .code yX1_lunarOf cX1_lunarOf 3 (some .long), .fieldLink RX1 69 "MarketWeeksModel" "moved" "I", .fieldLink RX1 20 "MarketWeeksModel" "den" "I", .fieldLink RX1 16 "MarketWeeksModel" "num" "I", .methodLink RX1 46 yX1_modulo, .static yX1_modulo, .code yX1_modulo cX1_modulo 6 (some .long)] ++ wsX10)
def wsX1_monthBegin_r1 : List Cond := [Cond.constantLong RX1 137 (-100000), Cond.constantLong RX1 139 (100000), Cond.fieldLink RX1 16 "MarketWeeksModel" "num" "I", Cond.fieldLink RX1 20 "MarketWeeksModel" "den" "I", Cond.fieldLink RX1 69 "MarketWeeksModel" "moved" "I", Cond.constantLong RX1 63 (2), Cond.methodLink RX1 39 yX1_in, Cond.static yX1_in, Cond.initialized RX1, Cond.code yX1_in cX1_in 6 (some .boolean), Cond.methodLink RX1 52 yX1_goesWell, Cond.instanceMethod yX1_goesWell, Cond.selects RX1 yX1_goesWell yX1_goesWell, Cond.code yX1_goesWell cX1_goesWell 2 (some .boolean), Cond.fieldLink RX1 32 "MarketWeeksModel" "thrown" "I", Cond.methodLink RX1 90 yX1_part, Cond.static yX1_part, Cond.code yX1_part cX1_part 6 (some .long), Cond.methodLink RX1 46 yX1_modulo, Cond.static yX1_modulo, Cond.code yX1_modulo cX1_modulo 6 (some .long), Cond.methodLink RX1 134 yX1_monthOf, Cond.instanceMethod yX1_monthOf, Cond.selects RX1 yX1_monthOf yX1_monthOf]
def wsX1_monthBegin_r2 : List Cond := [Cond.code yX1_monthOf cX1_monthOf 3 (some .long)]
def wsX1_monthBegin : List Cond := .code yX1_monthBegin cX1_monthBegin 4 (some .int) :: ((wsX1_monthBegin_r1 ++ wsX1_monthBegin_r2) ++ wsX10)
def wsX1_beginOf : List Cond := .code yX1_beginOf cX1_beginOf 3 (some .long) :: ([.fieldLink RX1 23 "MarketWeeksModel" "common" "I", .fieldLink RX1 26 "MarketWeeksModel" "a" "I", .fieldLink RX1 76 "MarketWeeksModel" "b" "I", .fieldLink RX1 29 "MarketWeeksModel" "c" "I", .methodLink RX1 90 yX1_part, .static yX1_part, .initialized RX1, .code yX1_part cX1_part 6 (some .long), .methodLink RX1 46 yX1_modulo, .static yX1_modulo, .code yX1_modulo cX1_modulo 6 (some .long)] ++ wsX10)
def wsX1_leaps : List Cond := .code yX1_leaps cX1_leaps 3 (some .boolean) :: ([.fieldLink RX1 26 "MarketWeeksModel" "a" "I", .fieldLink RX1 76 "MarketWeeksModel" "b" "I", .fieldLink RX1 29 "MarketWeeksModel" "c" "I", .methodLink RX1 46 yX1_modulo, .static yX1_modulo, .initialized RX1, .code yX1_modulo cX1_modulo 6 (some .long)] ++ wsX10)
def wsX1_yearOf : List Cond := .code yX1_yearOf cX1_yearOf 4 (some .long) :: ([.fieldLink RX1 23 "MarketWeeksModel" "common" "I", .constantLong RX1 63 (2), .methodLink RX1 90 yX1_part, .static yX1_part, .initialized RX1, .code yX1_part cX1_part 6 (some .long), .methodLink RX1 46 yX1_modulo, .static yX1_modulo, .code yX1_modulo cX1_modulo 6 (some .long), .methodLink RX1 141 yX1_beginOf, .instanceMethod yX1_beginOf, .selects RX1 yX1_beginOf yX1_beginOf, .code yX1_beginOf cX1_beginOf 3 (some .long), .fieldLink RX1 26 "MarketWeeksModel" "a" "I", .fieldLink RX1 76 "MarketWeeksModel" "b" "I", .fieldLink RX1 29 "MarketWeeksModel" "c" "I"] ++ wsX10)
def wsX1_year_r1 : List Cond := [Cond.methodLink RX1 79 yX1_isDay, Cond.static yX1_isDay, Cond.initialized RX1, Cond.code yX1_isDay cX1_isDay 1 (some .boolean), Cond.constantLong RX1 35 (-1000000), Cond.constantLong RX1 37 (1000000), Cond.methodLink RX1 39 yX1_in, Cond.static yX1_in, Cond.code yX1_in cX1_in 6 (some .boolean), Cond.methodLink RX1 52 yX1_goesWell, Cond.instanceMethod yX1_goesWell, Cond.selects RX1 yX1_goesWell yX1_goesWell, Cond.code yX1_goesWell cX1_goesWell 2 (some .boolean), Cond.fieldLink RX1 32 "MarketWeeksModel" "thrown" "I", Cond.methodLink RX1 144 yX1_yearOf, Cond.instanceMethod yX1_yearOf, Cond.selects RX1 yX1_yearOf yX1_yearOf, Cond.code yX1_yearOf cX1_yearOf 4 (some .long), Cond.fieldLink RX1 23 "MarketWeeksModel" "common" "I", Cond.constantLong RX1 63 (2), Cond.methodLink RX1 90 yX1_part, Cond.static yX1_part, Cond.code yX1_part cX1_part 6 (some .long), Cond.methodLink RX1 46 yX1_modulo]
def wsX1_year_r2 : List Cond := [Cond.static yX1_modulo, Cond.code yX1_modulo cX1_modulo 6 (some .long), Cond.methodLink RX1 141 yX1_beginOf, Cond.instanceMethod yX1_beginOf, Cond.selects RX1 yX1_beginOf yX1_beginOf, Cond.code yX1_beginOf cX1_beginOf 3 (some .long), Cond.fieldLink RX1 26 "MarketWeeksModel" "a" "I", Cond.fieldLink RX1 76 "MarketWeeksModel" "b" "I", Cond.fieldLink RX1 29 "MarketWeeksModel" "c" "I"]
def wsX1_year : List Cond := .code yX1_year cX1_year 2 (some .int) :: ((wsX1_year_r1 ++ wsX1_year_r2) ++ wsX10)
def wsX1_placeInYear_r1 : List Cond := [Cond.methodLink RX1 79 yX1_isDay, Cond.static yX1_isDay, Cond.initialized RX1, Cond.code yX1_isDay cX1_isDay 1 (some .boolean), Cond.constantLong RX1 35 (-1000000), Cond.constantLong RX1 37 (1000000), Cond.methodLink RX1 39 yX1_in, Cond.static yX1_in, Cond.code yX1_in cX1_in 6 (some .boolean), Cond.methodLink RX1 52 yX1_goesWell, Cond.instanceMethod yX1_goesWell, Cond.selects RX1 yX1_goesWell yX1_goesWell, Cond.code yX1_goesWell cX1_goesWell 2 (some .boolean), Cond.fieldLink RX1 32 "MarketWeeksModel" "thrown" "I", Cond.methodLink RX1 144 yX1_yearOf, Cond.instanceMethod yX1_yearOf, Cond.selects RX1 yX1_yearOf yX1_yearOf, Cond.code yX1_yearOf cX1_yearOf 4 (some .long), Cond.fieldLink RX1 23 "MarketWeeksModel" "common" "I", Cond.constantLong RX1 63 (2), Cond.methodLink RX1 90 yX1_part, Cond.static yX1_part, Cond.code yX1_part cX1_part 6 (some .long), Cond.methodLink RX1 46 yX1_modulo]
def wsX1_placeInYear_r2 : List Cond := [Cond.static yX1_modulo, Cond.code yX1_modulo cX1_modulo 6 (some .long), Cond.methodLink RX1 141 yX1_beginOf, Cond.instanceMethod yX1_beginOf, Cond.selects RX1 yX1_beginOf yX1_beginOf, Cond.code yX1_beginOf cX1_beginOf 3 (some .long), Cond.fieldLink RX1 26 "MarketWeeksModel" "a" "I", Cond.fieldLink RX1 76 "MarketWeeksModel" "b" "I", Cond.fieldLink RX1 29 "MarketWeeksModel" "c" "I"]
def wsX1_placeInYear : List Cond := .code yX1_placeInYear cX1_placeInYear 2 (some .int) :: ((wsX1_placeInYear_r1 ++ wsX1_placeInYear_r2) ++ wsX10)
def wsX1_isYear : List Cond := .code yX1_isYear cX1_isYear 1 (some .boolean) :: ([.constantLong RX1 148 (-10000), .constantLong RX1 150 (10000), .methodLink RX1 39 yX1_in, .static yX1_in, .initialized RX1, .code yX1_in cX1_in 6 (some .boolean)])
def wsX1_isLeap : List Cond := .code yX1_isLeap cX1_isLeap 2 (some .boolean) :: ([.methodLink RX1 152 yX1_isYear, .static yX1_isYear, .initialized RX1, .code yX1_isYear cX1_isYear 1 (some .boolean), .constantLong RX1 148 (-10000), .constantLong RX1 150 (10000), .methodLink RX1 39 yX1_in, .static yX1_in, .code yX1_in cX1_in 6 (some .boolean), .methodLink RX1 52 yX1_goesWell, .instanceMethod yX1_goesWell, .selects RX1 yX1_goesWell yX1_goesWell, .code yX1_goesWell cX1_goesWell 2 (some .boolean), .fieldLink RX1 32 "MarketWeeksModel" "thrown" "I", .methodLink RX1 155 yX1_leaps, .instanceMethod yX1_leaps, .selects RX1 yX1_leaps yX1_leaps, .code yX1_leaps cX1_leaps 3 (some .boolean), .fieldLink RX1 26 "MarketWeeksModel" "a" "I", .fieldLink RX1 76 "MarketWeeksModel" "b" "I", .fieldLink RX1 29 "MarketWeeksModel" "c" "I", .methodLink RX1 46 yX1_modulo, .static yX1_modulo, .code yX1_modulo cX1_modulo 6 (some .long)] ++ wsX10)
def wsX1_lengthOf : List Cond := .code yX1_lengthOf cX1_lengthOf 2 (some .long) :: ([.fieldLink RX1 23 "MarketWeeksModel" "common" "I", .methodLink RX1 155 yX1_leaps, .instanceMethod yX1_leaps, .selects RX1 yX1_leaps yX1_leaps, .initialized RX1, .code yX1_leaps cX1_leaps 3 (some .boolean), .fieldLink RX1 26 "MarketWeeksModel" "a" "I", .fieldLink RX1 76 "MarketWeeksModel" "b" "I", .fieldLink RX1 29 "MarketWeeksModel" "c" "I", .methodLink RX1 46 yX1_modulo, .static yX1_modulo, .code yX1_modulo cX1_modulo 6 (some .long)] ++ wsX10)
def wsX1_dayOf_r1 : List Cond := [Cond.methodLink RX1 152 yX1_isYear, Cond.static yX1_isYear, Cond.initialized RX1, Cond.code yX1_isYear cX1_isYear 1 (some .boolean), Cond.constantLong RX1 148 (-10000), Cond.constantLong RX1 150 (10000), Cond.methodLink RX1 39 yX1_in, Cond.static yX1_in, Cond.code yX1_in cX1_in 6 (some .boolean), Cond.methodLink RX1 159 yX1_lengthOf, Cond.instanceMethod yX1_lengthOf, Cond.selects RX1 yX1_lengthOf yX1_lengthOf, Cond.code yX1_lengthOf cX1_lengthOf 2 (some .long), Cond.fieldLink RX1 23 "MarketWeeksModel" "common" "I", Cond.methodLink RX1 155 yX1_leaps, Cond.instanceMethod yX1_leaps, Cond.selects RX1 yX1_leaps yX1_leaps, Cond.code yX1_leaps cX1_leaps 3 (some .boolean), Cond.fieldLink RX1 26 "MarketWeeksModel" "a" "I", Cond.fieldLink RX1 76 "MarketWeeksModel" "b" "I", Cond.fieldLink RX1 29 "MarketWeeksModel" "c" "I", Cond.methodLink RX1 46 yX1_modulo, Cond.static yX1_modulo, Cond.code yX1_modulo cX1_modulo 6 (some .long)]
def wsX1_dayOf_r2 : List Cond := [Cond.methodLink RX1 52 yX1_goesWell, Cond.instanceMethod yX1_goesWell, Cond.selects RX1 yX1_goesWell yX1_goesWell, Cond.code yX1_goesWell cX1_goesWell 2 (some .boolean), Cond.fieldLink RX1 32 "MarketWeeksModel" "thrown" "I", Cond.methodLink RX1 141 yX1_beginOf, Cond.instanceMethod yX1_beginOf, Cond.selects RX1 yX1_beginOf yX1_beginOf, Cond.code yX1_beginOf cX1_beginOf 3 (some .long), Cond.methodLink RX1 90 yX1_part, Cond.static yX1_part, Cond.code yX1_part cX1_part 6 (some .long)]
def wsX1_dayOf : List Cond := .code yX1_dayOf cX1_dayOf 4 (some .int) :: ((wsX1_dayOf_r1 ++ wsX1_dayOf_r2) ++ wsX10)
def wsX1_timesInYear_r1 : List Cond := [Cond.methodLink RX1 56 yX1_isMarket, Cond.instanceMethod yX1_isMarket, Cond.selects RX1 yX1_isMarket yX1_isMarket, Cond.initialized RX1, Cond.code yX1_isMarket cX1_isMarket 2 (some .boolean), Cond.fieldLink RX1 43 "MarketWeeksModel" "many" "I", Cond.methodLink RX1 39 yX1_in, Cond.static yX1_in, Cond.code yX1_in cX1_in 6 (some .boolean), Cond.methodLink RX1 152 yX1_isYear, Cond.static yX1_isYear, Cond.code yX1_isYear cX1_isYear 1 (some .boolean), Cond.constantLong RX1 148 (-10000), Cond.constantLong RX1 150 (10000), Cond.methodLink RX1 52 yX1_goesWell, Cond.instanceMethod yX1_goesWell, Cond.selects RX1 yX1_goesWell yX1_goesWell, Cond.code yX1_goesWell cX1_goesWell 2 (some .boolean), Cond.fieldLink RX1 32 "MarketWeeksModel" "thrown" "I", Cond.methodLink RX1 141 yX1_beginOf, Cond.instanceMethod yX1_beginOf, Cond.selects RX1 yX1_beginOf yX1_beginOf, Cond.code yX1_beginOf cX1_beginOf 3 (some .long), Cond.fieldLink RX1 23 "MarketWeeksModel" "common" "I"]
def wsX1_timesInYear_r2 : List Cond := [Cond.fieldLink RX1 26 "MarketWeeksModel" "a" "I", Cond.fieldLink RX1 76 "MarketWeeksModel" "b" "I", Cond.fieldLink RX1 29 "MarketWeeksModel" "c" "I", Cond.methodLink RX1 90 yX1_part, Cond.static yX1_part, Cond.code yX1_part cX1_part 6 (some .long), Cond.methodLink RX1 46 yX1_modulo, Cond.static yX1_modulo, Cond.code yX1_modulo cX1_modulo 6 (some .long), Cond.methodLink RX1 159 yX1_lengthOf, Cond.instanceMethod yX1_lengthOf, Cond.selects RX1 yX1_lengthOf yX1_lengthOf, Cond.code yX1_lengthOf cX1_lengthOf 2 (some .long), Cond.methodLink RX1 155 yX1_leaps, Cond.instanceMethod yX1_leaps, Cond.selects RX1 yX1_leaps yX1_leaps, Cond.code yX1_leaps cX1_leaps 3 (some .boolean), Cond.methodLink RX1 97 yX1_count, Cond.instanceMethod yX1_count, Cond.selects RX1 yX1_count yX1_count, Cond.code yX1_count cX1_count 6 (some .int), Cond.methodLink RX1 93 yX1_before, Cond.instanceMethod yX1_before, Cond.selects RX1 yX1_before yX1_before]
def wsX1_timesInYear_r3 : List Cond := [Cond.code yX1_before cX1_before 4 (some .long), Cond.fieldLink RX1 13 "MarketWeeksModel" "places" "[I", Cond.fieldLink RX1 7 "MarketWeeksModel" "lengths" "[I"]
def wsX1_timesInYear : List Cond := .code yX1_timesInYear cX1_timesInYear 3 (some .int) :: ((wsX1_timesInYear_r1 ++ (wsX1_timesInYear_r2 ++ wsX1_timesInYear_r3)) ++ wsX10)
def wsL_addMarket : List Cond := .codeWith yL_addMarket cL_addMarket 5 (some .int) [(0, 10, 13, 13), (0, 10, 17, 15)] :: ([.classLink RL 13 "java/lang/IllegalArgumentException", .classLink RL 15 "java/lang/IllegalStateException", .methodLink RL 7 yX0_addMarket, .instanceMethod yX0_addMarket, .selects RX0 yX0_addMarket yX0_addMarket, .initialized RX0, .code yX0_addMarket cX0_addMarket 4 (some .int), .classLink RX0 53 "java/lang/IllegalStateException", .initialized "java/lang/IllegalStateException", .fieldLink RX0 16 "MarketWeeks" "count" "I", .fieldLink RX0 9 "MarketWeeks" "lengths" "[I", .fieldLink RX0 13 "MarketWeeks" "places" "[I", .methodLink RX0 41 yX0_isWithin, .static yX0_isWithin, .code yX0_isWithin cX0_isWithin 3 (some .boolean), .methodLink RX0 45 yX0_checkArgument, .static yX0_checkArgument, .code yX0_checkArgument cX0_checkArgument 1 none, .classLink RX0 137 "java/lang/IllegalArgumentException", .initialized "java/lang/IllegalArgumentException", .methodLink RX0 49 yX0_isPlace, .instanceMethod yX0_isPlace, .selects RX0 yX0_isPlace yX0_isPlace, .code yX0_isPlace cX0_isPlace 2 (some .boolean)] ++ wsX00 ++ (vx_atS RX0 57 "java/lang/IllegalStateException" ["java/lang/RuntimeException", "java/lang/Exception"]).filter goodWord ++ (vx_atS RX0 141 "java/lang/IllegalArgumentException" ["java/lang/RuntimeException", "java/lang/Exception"]).filter goodWord)
def wsL_shift_r1 : List Cond := [Cond.classLink RL 20 "java/lang/IndexOutOfBoundsException", Cond.classLink RL 13 "java/lang/IllegalArgumentException", Cond.methodLink RL 17 yX0_shift, Cond.instanceMethod yX0_shift, Cond.selects RX0 yX0_shift yX0_shift, Cond.initialized RX0, Cond.code yX0_shift cX0_shift 4 (some .int), Cond.fieldLink RX0 13 "MarketWeeks" "places" "[I", Cond.methodLink RX0 60 yX0_checkMarket, Cond.instanceMethod yX0_checkMarket, Cond.selects RX0 yX0_checkMarket yX0_checkMarket, Cond.code yX0_checkMarket cX0_checkMarket 2 none, Cond.classLink RX0 144 "java/lang/IndexOutOfBoundsException", Cond.initialized "java/lang/IndexOutOfBoundsException", Cond.fieldLink RX0 16 "MarketWeeks" "count" "I", Cond.methodLink RX0 41 yX0_isWithin, Cond.static yX0_isWithin, Cond.code yX0_isWithin cX0_isWithin 3 (some .boolean), Cond.methodLink RX0 45 yX0_checkArgument, Cond.static yX0_checkArgument, Cond.code yX0_checkArgument cX0_checkArgument 1 none, Cond.classLink RX0 137 "java/lang/IllegalArgumentException", Cond.initialized "java/lang/IllegalArgumentException", Cond.methodLink RX0 64 yX0_placeOf]
def wsL_shift_r2 : List Cond := [Cond.instanceMethod yX0_placeOf, Cond.selects RX0 yX0_placeOf yX0_placeOf, Cond.code yX0_placeOf cX0_placeOf 2 (some .int), Cond.methodLink RX0 49 yX0_isPlace, Cond.instanceMethod yX0_isPlace, Cond.selects RX0 yX0_isPlace yX0_isPlace, Cond.code yX0_isPlace cX0_isPlace 2 (some .boolean), Cond.fieldLink RX0 9 "MarketWeeks" "lengths" "[I", Cond.methodLink RX0 68 yX0_lengthOf, Cond.instanceMethod yX0_lengthOf, Cond.selects RX0 yX0_lengthOf yX0_lengthOf, Cond.code yX0_lengthOf cX0_lengthOf 2 (some .int), Cond.methodLink RX0 71 yX0_modulo, Cond.static yX0_modulo, Cond.code yX0_modulo cX0_modulo 4 (some .long), Cond.methodLink RX0 166 yJ9_floorMod_f86c9, Cond.static yJ9_floorMod_f86c9, Cond.initialized RJ9, Cond.code yJ9_floorMod_f86c9 cJ9_floorMod_f86c9 6 (some .long)]
def wsL_shift : List Cond := .codeWith yL_shift cL_shift 5 (some .int) [(0, 10, 13, 20), (0, 10, 17, 13)] :: ((wsL_shift_r1 ++ wsL_shift_r2) ++ wsX00 ++ (vx_atS RX0 148 "java/lang/IndexOutOfBoundsException" ["java/lang/RuntimeException", "java/lang/Exception"]).filter goodWord ++ (vx_atS RX0 141 "java/lang/IllegalArgumentException" ["java/lang/RuntimeException", "java/lang/Exception"]).filter goodWord)
def wsL_setMoon : List Cond := .codeWith yL_setMoon cL_setMoon 5 (some .int) [(0, 7, 10, 13)] :: ([.classLink RL 13 "java/lang/IllegalArgumentException", .methodLink RL 22 yX0_setMoon, .instanceMethod yX0_setMoon, .selects RX0 yX0_setMoon yX0_setMoon, .initialized RX0, .code yX0_setMoon cX0_setMoon 4 none, .fieldLink RX0 20 "MarketWeeks" "moonNum" "I", .fieldLink RX0 23 "MarketWeeks" "moonDen" "I", .fieldLink RX0 26 "MarketWeeks" "moonShift" "I", .methodLink RX0 41 yX0_isWithin, .static yX0_isWithin, .code yX0_isWithin cX0_isWithin 3 (some .boolean), .methodLink RX0 45 yX0_checkArgument, .static yX0_checkArgument, .code yX0_checkArgument cX0_checkArgument 1 none, .classLink RX0 137 "java/lang/IllegalArgumentException", .initialized "java/lang/IllegalArgumentException"] ++ wsX00 ++ (vx_atS RX0 141 "java/lang/IllegalArgumentException" ["java/lang/RuntimeException", "java/lang/Exception"]).filter goodWord)
def wsL_setYear : List Cond := .codeWith yL_setYear cL_setYear 6 (some .int) [(0, 9, 12, 13)] :: ([.classLink RL 13 "java/lang/IllegalArgumentException", .methodLink RL 26 yX0_setYear, .instanceMethod yX0_setYear, .selects RX0 yX0_setYear yX0_setYear, .initialized RX0, .code yX0_setYear cX0_setYear 5 none, .fieldLink RX0 29 "MarketWeeks" "yearCommon" "I", .fieldLink RX0 32 "MarketWeeks" "leapA" "I", .fieldLink RX0 35 "MarketWeeks" "leapB" "I", .fieldLink RX0 38 "MarketWeeks" "leapC" "I", .methodLink RX0 41 yX0_isWithin, .static yX0_isWithin, .code yX0_isWithin cX0_isWithin 3 (some .boolean), .methodLink RX0 45 yX0_checkArgument, .static yX0_checkArgument, .code yX0_checkArgument cX0_checkArgument 1 none, .classLink RX0 137 "java/lang/IllegalArgumentException", .initialized "java/lang/IllegalArgumentException"] ++ wsX00 ++ (vx_atS RX0 141 "java/lang/IllegalArgumentException" ["java/lang/RuntimeException", "java/lang/Exception"]).filter goodWord)
def wsL_isHeld_r1 : List Cond := [Cond.classLink RL 20 "java/lang/IndexOutOfBoundsException", Cond.classLink RL 13 "java/lang/IllegalArgumentException", Cond.methodLink RL 30 yX0_isHeld, Cond.instanceMethod yX0_isHeld, Cond.selects RX0 yX0_isHeld yX0_isHeld, Cond.initialized RX0, Cond.code yX0_isHeld cX0_isHeld 3 (some .boolean), Cond.methodLink RX0 60 yX0_checkMarket, Cond.instanceMethod yX0_checkMarket, Cond.selects RX0 yX0_checkMarket yX0_checkMarket, Cond.code yX0_checkMarket cX0_checkMarket 2 none, Cond.classLink RX0 144 "java/lang/IndexOutOfBoundsException", Cond.initialized "java/lang/IndexOutOfBoundsException", Cond.fieldLink RX0 16 "MarketWeeks" "count" "I", Cond.methodLink RX0 41 yX0_isWithin, Cond.static yX0_isWithin, Cond.code yX0_isWithin cX0_isWithin 3 (some .boolean), Cond.methodLink RX0 75 yX0_checkDay, Cond.static yX0_checkDay, Cond.code yX0_checkDay cX0_checkDay 1 none, Cond.constant RX0 142 (-1000000), Cond.constant RX0 143 (1000000), Cond.methodLink RX0 45 yX0_checkArgument, Cond.static yX0_checkArgument]
def wsL_isHeld_r2 : List Cond := [Cond.code yX0_checkArgument cX0_checkArgument 1 none, Cond.classLink RX0 137 "java/lang/IllegalArgumentException", Cond.initialized "java/lang/IllegalArgumentException", Cond.methodLink RX0 78 yX0_isOn, Cond.instanceMethod yX0_isOn, Cond.selects RX0 yX0_isOn yX0_isOn, Cond.code yX0_isOn cX0_isOn 4 (some .boolean), Cond.methodLink RX0 68 yX0_lengthOf, Cond.instanceMethod yX0_lengthOf, Cond.selects RX0 yX0_lengthOf yX0_lengthOf, Cond.code yX0_lengthOf cX0_lengthOf 2 (some .int), Cond.fieldLink RX0 9 "MarketWeeks" "lengths" "[I", Cond.methodLink RX0 49 yX0_isPlace, Cond.instanceMethod yX0_isPlace, Cond.selects RX0 yX0_isPlace yX0_isPlace, Cond.code yX0_isPlace cX0_isPlace 2 (some .boolean), Cond.fieldLink RX0 13 "MarketWeeks" "places" "[I", Cond.methodLink RX0 71 yX0_modulo, Cond.static yX0_modulo, Cond.code yX0_modulo cX0_modulo 4 (some .long), Cond.methodLink RX0 166 yJ9_floorMod_f86c9, Cond.static yJ9_floorMod_f86c9, Cond.initialized RJ9, Cond.code yJ9_floorMod_f86c9 cJ9_floorMod_f86c9 6 (some .long)]
def wsL_isHeld_r3 : List Cond := [Cond.methodLink RX0 64 yX0_placeOf, Cond.instanceMethod yX0_placeOf, Cond.selects RX0 yX0_placeOf yX0_placeOf, Cond.code yX0_placeOf cX0_placeOf 2 (some .int)]
def wsL_isHeld : List Cond := .codeWith yL_isHeld cL_isHeld 5 (some .int) [(0, 17, 20, 20), (0, 17, 24, 13)] :: ((wsL_isHeld_r1 ++ (wsL_isHeld_r2 ++ wsL_isHeld_r3)) ++ wsX00 ++ (vx_atS RX0 148 "java/lang/IndexOutOfBoundsException" ["java/lang/RuntimeException", "java/lang/Exception"]).filter goodWord ++ (vx_atS RX0 141 "java/lang/IllegalArgumentException" ["java/lang/RuntimeException", "java/lang/Exception"]).filter goodWord)
def wsL_next_r1 : List Cond := [Cond.classLink RL 20 "java/lang/IndexOutOfBoundsException", Cond.classLink RL 13 "java/lang/IllegalArgumentException", Cond.methodLink RL 34 yX0_next, Cond.instanceMethod yX0_next, Cond.selects RX0 yX0_next yX0_next, Cond.initialized RX0, Cond.code yX0_next cX0_next 3 (some .int), Cond.methodLink RX0 60 yX0_checkMarket, Cond.instanceMethod yX0_checkMarket, Cond.selects RX0 yX0_checkMarket yX0_checkMarket, Cond.code yX0_checkMarket cX0_checkMarket 2 none, Cond.classLink RX0 144 "java/lang/IndexOutOfBoundsException", Cond.initialized "java/lang/IndexOutOfBoundsException", Cond.fieldLink RX0 16 "MarketWeeks" "count" "I", Cond.methodLink RX0 41 yX0_isWithin, Cond.static yX0_isWithin, Cond.code yX0_isWithin cX0_isWithin 3 (some .boolean), Cond.methodLink RX0 75 yX0_checkDay, Cond.static yX0_checkDay, Cond.code yX0_checkDay cX0_checkDay 1 none, Cond.constant RX0 142 (-1000000), Cond.constant RX0 143 (1000000), Cond.methodLink RX0 45 yX0_checkArgument, Cond.static yX0_checkArgument]
def wsL_next_r2 : List Cond := [Cond.code yX0_checkArgument cX0_checkArgument 1 none, Cond.classLink RX0 137 "java/lang/IllegalArgumentException", Cond.initialized "java/lang/IllegalArgumentException", Cond.methodLink RX0 64 yX0_placeOf, Cond.instanceMethod yX0_placeOf, Cond.selects RX0 yX0_placeOf yX0_placeOf, Cond.code yX0_placeOf cX0_placeOf 2 (some .int), Cond.fieldLink RX0 13 "MarketWeeks" "places" "[I", Cond.methodLink RX0 49 yX0_isPlace, Cond.instanceMethod yX0_isPlace, Cond.selects RX0 yX0_isPlace yX0_isPlace, Cond.code yX0_isPlace cX0_isPlace 2 (some .boolean), Cond.fieldLink RX0 9 "MarketWeeks" "lengths" "[I", Cond.methodLink RX0 68 yX0_lengthOf, Cond.instanceMethod yX0_lengthOf, Cond.selects RX0 yX0_lengthOf yX0_lengthOf, Cond.code yX0_lengthOf cX0_lengthOf 2 (some .int), Cond.methodLink RX0 71 yX0_modulo, Cond.static yX0_modulo, Cond.code yX0_modulo cX0_modulo 4 (some .long), Cond.methodLink RX0 166 yJ9_floorMod_f86c9, Cond.static yJ9_floorMod_f86c9, Cond.initialized RJ9, Cond.code yJ9_floorMod_f86c9 cJ9_floorMod_f86c9 6 (some .long)]
def wsL_next : List Cond := .codeWith yL_next cL_next 5 (some .int) [(0, 10, 13, 20), (0, 10, 17, 13)] :: ((wsL_next_r1 ++ wsL_next_r2) ++ wsX00 ++ (vx_atS RX0 148 "java/lang/IndexOutOfBoundsException" ["java/lang/RuntimeException", "java/lang/Exception"]).filter goodWord ++ (vx_atS RX0 141 "java/lang/IllegalArgumentException" ["java/lang/RuntimeException", "java/lang/Exception"]).filter goodWord)
def wsL_nearest_r1 : List Cond := [Cond.classLink RL 20 "java/lang/IndexOutOfBoundsException", Cond.classLink RL 13 "java/lang/IllegalArgumentException", Cond.methodLink RL 37 yX0_nearest, Cond.instanceMethod yX0_nearest, Cond.selects RX0 yX0_nearest yX0_nearest, Cond.initialized RX0, Cond.code yX0_nearest cX0_nearest 6 (some .int), Cond.methodLink RX0 60 yX0_checkMarket, Cond.instanceMethod yX0_checkMarket, Cond.selects RX0 yX0_checkMarket yX0_checkMarket, Cond.code yX0_checkMarket cX0_checkMarket 2 none, Cond.classLink RX0 144 "java/lang/IndexOutOfBoundsException", Cond.initialized "java/lang/IndexOutOfBoundsException", Cond.fieldLink RX0 16 "MarketWeeks" "count" "I", Cond.methodLink RX0 41 yX0_isWithin, Cond.static yX0_isWithin, Cond.code yX0_isWithin cX0_isWithin 3 (some .boolean), Cond.methodLink RX0 75 yX0_checkDay, Cond.static yX0_checkDay, Cond.code yX0_checkDay cX0_checkDay 1 none, Cond.constant RX0 142 (-1000000), Cond.constant RX0 143 (1000000), Cond.methodLink RX0 45 yX0_checkArgument, Cond.static yX0_checkArgument]
def wsL_nearest_r2 : List Cond := [Cond.code yX0_checkArgument cX0_checkArgument 1 none, Cond.classLink RX0 137 "java/lang/IllegalArgumentException", Cond.initialized "java/lang/IllegalArgumentException", Cond.methodLink RX0 68 yX0_lengthOf, Cond.instanceMethod yX0_lengthOf, Cond.selects RX0 yX0_lengthOf yX0_lengthOf, Cond.code yX0_lengthOf cX0_lengthOf 2 (some .int), Cond.fieldLink RX0 9 "MarketWeeks" "lengths" "[I", Cond.methodLink RX0 49 yX0_isPlace, Cond.instanceMethod yX0_isPlace, Cond.selects RX0 yX0_isPlace yX0_isPlace, Cond.code yX0_isPlace cX0_isPlace 2 (some .boolean), Cond.fieldLink RX0 13 "MarketWeeks" "places" "[I", Cond.methodLink RX0 64 yX0_placeOf, Cond.instanceMethod yX0_placeOf, Cond.selects RX0 yX0_placeOf yX0_placeOf, Cond.code yX0_placeOf cX0_placeOf 2 (some .int), Cond.methodLink RX0 71 yX0_modulo, Cond.static yX0_modulo, Cond.code yX0_modulo cX0_modulo 4 (some .long), Cond.methodLink RX0 166 yJ9_floorMod_f86c9, Cond.static yJ9_floorMod_f86c9, Cond.initialized RJ9, Cond.code yJ9_floorMod_f86c9 cJ9_floorMod_f86c9 6 (some .long)]
def wsL_nearest : List Cond := .codeWith yL_nearest cL_nearest 5 (some .int) [(0, 10, 13, 20), (0, 10, 17, 13)] :: ((wsL_nearest_r1 ++ wsL_nearest_r2) ++ wsX00 ++ (vx_atS RX0 148 "java/lang/IndexOutOfBoundsException" ["java/lang/RuntimeException", "java/lang/Exception"]).filter goodWord ++ (vx_atS RX0 141 "java/lang/IllegalArgumentException" ["java/lang/RuntimeException", "java/lang/Exception"]).filter goodWord)
def wsL_times_r1 : List Cond := [Cond.classLink RL 20 "java/lang/IndexOutOfBoundsException", Cond.classLink RL 13 "java/lang/IllegalArgumentException", Cond.methodLink RL 40 yX0_times, Cond.instanceMethod yX0_times, Cond.selects RX0 yX0_times yX0_times, Cond.initialized RX0, Cond.code yX0_times cX0_times 4 (some .int), Cond.methodLink RX0 60 yX0_checkMarket, Cond.instanceMethod yX0_checkMarket, Cond.selects RX0 yX0_checkMarket yX0_checkMarket, Cond.code yX0_checkMarket cX0_checkMarket 2 none, Cond.classLink RX0 144 "java/lang/IndexOutOfBoundsException", Cond.initialized "java/lang/IndexOutOfBoundsException", Cond.fieldLink RX0 16 "MarketWeeks" "count" "I", Cond.methodLink RX0 41 yX0_isWithin, Cond.static yX0_isWithin, Cond.code yX0_isWithin cX0_isWithin 3 (some .boolean), Cond.methodLink RX0 75 yX0_checkDay, Cond.static yX0_checkDay, Cond.code yX0_checkDay cX0_checkDay 1 none, Cond.constant RX0 142 (-1000000), Cond.constant RX0 143 (1000000), Cond.methodLink RX0 45 yX0_checkArgument, Cond.static yX0_checkArgument]
def wsL_times_r2 : List Cond := [Cond.code yX0_checkArgument cX0_checkArgument 1 none, Cond.classLink RX0 137 "java/lang/IllegalArgumentException", Cond.initialized "java/lang/IllegalArgumentException", Cond.methodLink RX0 82 yX0_countHeld, Cond.instanceMethod yX0_countHeld, Cond.selects RX0 yX0_countHeld yX0_countHeld, Cond.code yX0_countHeld cX0_countHeld 6 (some .int), Cond.methodLink RX0 68 yX0_lengthOf, Cond.instanceMethod yX0_lengthOf, Cond.selects RX0 yX0_lengthOf yX0_lengthOf, Cond.code yX0_lengthOf cX0_lengthOf 2 (some .int), Cond.fieldLink RX0 9 "MarketWeeks" "lengths" "[I", Cond.methodLink RX0 49 yX0_isPlace, Cond.instanceMethod yX0_isPlace, Cond.selects RX0 yX0_isPlace yX0_isPlace, Cond.code yX0_isPlace cX0_isPlace 2 (some .boolean), Cond.fieldLink RX0 13 "MarketWeeks" "places" "[I", Cond.methodLink RX0 64 yX0_placeOf, Cond.instanceMethod yX0_placeOf, Cond.selects RX0 yX0_placeOf yX0_placeOf, Cond.code yX0_placeOf cX0_placeOf 2 (some .int), Cond.methodLink RX0 120 yX0_divide, Cond.static yX0_divide, Cond.code yX0_divide cX0_divide 4 (some .long)]
def wsL_times_r3 : List Cond := [Cond.methodLink RX0 161 yJ9_floorDiv_f86c9, Cond.static yJ9_floorDiv_f86c9, Cond.initialized RJ9, Cond.code yJ9_floorDiv_f86c9 cJ9_floorDiv_f86c9 6 (some .long)]
def wsL_times : List Cond := .codeWith yL_times cL_times 6 (some .int) [(0, 12, 15, 20), (0, 12, 19, 13)] :: ((wsL_times_r1 ++ (wsL_times_r2 ++ wsL_times_r3)) ++ wsX00 ++ (vx_atS RX0 148 "java/lang/IndexOutOfBoundsException" ["java/lang/RuntimeException", "java/lang/Exception"]).filter goodWord ++ (vx_atS RX0 141 "java/lang/IllegalArgumentException" ["java/lang/RuntimeException", "java/lang/Exception"]).filter goodWord)
def wsL_heldOn_r1 : List Cond := [Cond.classLink RL 13 "java/lang/IllegalArgumentException", Cond.methodLink RL 44 yX0_heldOn, Cond.instanceMethod yX0_heldOn, Cond.selects RX0 yX0_heldOn yX0_heldOn, Cond.initialized RX0, Cond.code yX0_heldOn cX0_heldOn 2 (some .int), Cond.methodLink RX0 75 yX0_checkDay, Cond.static yX0_checkDay, Cond.code yX0_checkDay cX0_checkDay 1 none, Cond.constant RX0 142 (-1000000), Cond.constant RX0 143 (1000000), Cond.methodLink RX0 41 yX0_isWithin, Cond.static yX0_isWithin, Cond.code yX0_isWithin cX0_isWithin 3 (some .boolean), Cond.methodLink RX0 45 yX0_checkArgument, Cond.static yX0_checkArgument, Cond.code yX0_checkArgument cX0_checkArgument 1 none, Cond.classLink RX0 137 "java/lang/IllegalArgumentException", Cond.initialized "java/lang/IllegalArgumentException", Cond.methodLink RX0 86 yX0_setOn, Cond.instanceMethod yX0_setOn, Cond.selects RX0 yX0_setOn yX0_setOn, Cond.code yX0_setOn cX0_setOn 4 (some .int), Cond.fieldLink RX0 16 "MarketWeeks" "count" "I"]
def wsL_heldOn_r2 : List Cond := [Cond.methodLink RX0 78 yX0_isOn, Cond.instanceMethod yX0_isOn, Cond.selects RX0 yX0_isOn yX0_isOn, Cond.code yX0_isOn cX0_isOn 4 (some .boolean), Cond.methodLink RX0 68 yX0_lengthOf, Cond.instanceMethod yX0_lengthOf, Cond.selects RX0 yX0_lengthOf yX0_lengthOf, Cond.code yX0_lengthOf cX0_lengthOf 2 (some .int), Cond.fieldLink RX0 9 "MarketWeeks" "lengths" "[I", Cond.methodLink RX0 49 yX0_isPlace, Cond.instanceMethod yX0_isPlace, Cond.selects RX0 yX0_isPlace yX0_isPlace, Cond.code yX0_isPlace cX0_isPlace 2 (some .boolean), Cond.fieldLink RX0 13 "MarketWeeks" "places" "[I", Cond.methodLink RX0 71 yX0_modulo, Cond.static yX0_modulo, Cond.code yX0_modulo cX0_modulo 4 (some .long), Cond.methodLink RX0 166 yJ9_floorMod_f86c9, Cond.static yJ9_floorMod_f86c9, Cond.initialized RJ9, Cond.code yJ9_floorMod_f86c9 cJ9_floorMod_f86c9 6 (some .long), Cond.methodLink RX0 64 yX0_placeOf, Cond.instanceMethod yX0_placeOf, Cond.selects RX0 yX0_placeOf yX0_placeOf]
def wsL_heldOn_r3 : List Cond := [Cond.code yX0_placeOf cX0_placeOf 2 (some .int)]
def wsL_heldOn : List Cond := .codeWith yL_heldOn cL_heldOn 4 (some .int) [(0, 9, 12, 13)] :: ((wsL_heldOn_r1 ++ (wsL_heldOn_r2 ++ wsL_heldOn_r3)) ++ wsX00 ++ (vx_atS RX0 141 "java/lang/IllegalArgumentException" ["java/lang/RuntimeException", "java/lang/Exception"]).filter goodWord)
def wsL_doMeet_r1 : List Cond := [Cond.classLink RL 13 "java/lang/IllegalArgumentException", Cond.classLink RL 20 "java/lang/IndexOutOfBoundsException", Cond.methodLink RL 48 yX0_doMeet, Cond.instanceMethod yX0_doMeet, Cond.selects RX0 yX0_doMeet yX0_doMeet, Cond.initialized RX0, Cond.code yX0_doMeet cX0_doMeet 2 (some .boolean), Cond.constantLong RX0 96 (-1), Cond.methodLink RX0 89 yX0_checkMeetingSet, Cond.instanceMethod yX0_checkMeetingSet, Cond.selects RX0 yX0_checkMeetingSet yX0_checkMeetingSet, Cond.code yX0_checkMeetingSet cX0_checkMeetingSet 2 none, Cond.methodLink RX0 112 yJ6_bitCount_0f7a4, Cond.static yJ6_bitCount_0f7a4, Cond.initialized RJ6, Cond.code yJ6_bitCount_0f7a4 cJ6_bitCount_0f7a4 1 (some .int), Cond.constant RJ6 265 (1431655765), Cond.constant RJ6 266 (858993459), Cond.constant RJ6 267 (252645135), Cond.methodLink RX0 41 yX0_isWithin, Cond.static yX0_isWithin, Cond.code yX0_isWithin cX0_isWithin 3 (some .boolean), Cond.methodLink RX0 45 yX0_checkArgument, Cond.static yX0_checkArgument]
def wsL_doMeet_r2 : List Cond := [Cond.code yX0_checkArgument cX0_checkArgument 1 none, Cond.classLink RX0 137 "java/lang/IllegalArgumentException", Cond.initialized "java/lang/IllegalArgumentException", Cond.methodLink RX0 109 yX0_checkMarkets, Cond.instanceMethod yX0_checkMarkets, Cond.selects RX0 yX0_checkMarkets yX0_checkMarkets, Cond.code yX0_checkMarkets cX0_checkMarkets 2 none, Cond.classLink RX0 144 "java/lang/IndexOutOfBoundsException", Cond.initialized "java/lang/IndexOutOfBoundsException", Cond.fieldLink RX0 16 "MarketWeeks" "count" "I", Cond.methodLink RX0 92 yX0_firstMeeting, Cond.instanceMethod yX0_firstMeeting, Cond.selects RX0 yX0_firstMeeting yX0_firstMeeting, Cond.code yX0_firstMeeting cX0_firstMeeting 7 (some .long), Cond.methodLink RX0 153 yX0_firstHeldInSteps, Cond.instanceMethod yX0_firstHeldInSteps, Cond.selects RX0 yX0_firstHeldInSteps yX0_firstHeldInSteps, Cond.code yX0_firstHeldInSteps cX0_firstHeldInSteps 10 (some .long), Cond.methodLink RX0 68 yX0_lengthOf, Cond.instanceMethod yX0_lengthOf, Cond.selects RX0 yX0_lengthOf yX0_lengthOf, Cond.code yX0_lengthOf cX0_lengthOf 2 (some .int), Cond.fieldLink RX0 9 "MarketWeeks" "lengths" "[I", Cond.methodLink RX0 49 yX0_isPlace]
def wsL_doMeet_r3 : List Cond := [Cond.instanceMethod yX0_isPlace, Cond.selects RX0 yX0_isPlace yX0_isPlace, Cond.code yX0_isPlace cX0_isPlace 2 (some .boolean), Cond.fieldLink RX0 13 "MarketWeeks" "places" "[I", Cond.methodLink RX0 78 yX0_isOn, Cond.instanceMethod yX0_isOn, Cond.selects RX0 yX0_isOn yX0_isOn, Cond.code yX0_isOn cX0_isOn 4 (some .boolean), Cond.methodLink RX0 71 yX0_modulo, Cond.static yX0_modulo, Cond.code yX0_modulo cX0_modulo 4 (some .long), Cond.methodLink RX0 166 yJ9_floorMod_f86c9, Cond.static yJ9_floorMod_f86c9, Cond.initialized RJ9, Cond.code yJ9_floorMod_f86c9 cJ9_floorMod_f86c9 6 (some .long), Cond.methodLink RX0 64 yX0_placeOf, Cond.instanceMethod yX0_placeOf, Cond.selects RX0 yX0_placeOf yX0_placeOf, Cond.code yX0_placeOf cX0_placeOf 2 (some .int), Cond.methodLink RX0 157 yX0_commonMultiple, Cond.static yX0_commonMultiple, Cond.code yX0_commonMultiple cX0_commonMultiple 4 (some .long)]
def wsL_doMeet : List Cond := .codeWith yL_doMeet cL_doMeet 4 (some .int) [(0, 16, 19, 13), (0, 16, 22, 20)] :: ((wsL_doMeet_r1 ++ (wsL_doMeet_r2 ++ wsL_doMeet_r3)) ++ wsX00 ++ (vx_atS RX0 141 "java/lang/IllegalArgumentException" ["java/lang/RuntimeException", "java/lang/Exception"]).filter goodWord ++ (vx_atS RX0 148 "java/lang/IndexOutOfBoundsException" ["java/lang/RuntimeException", "java/lang/Exception"]).filter goodWord)
def wsL_period_r1 : List Cond := [Cond.classLink RL 13 "java/lang/IllegalArgumentException", Cond.classLink RL 20 "java/lang/IndexOutOfBoundsException", Cond.classLink RL 15 "java/lang/IllegalStateException", Cond.methodLink RL 52 yX0_period, Cond.instanceMethod yX0_period, Cond.selects RX0 yX0_period yX0_period, Cond.initialized RX0, Cond.code yX0_period cX0_period 2 (some .int), Cond.methodLink RX0 89 yX0_checkMeetingSet, Cond.instanceMethod yX0_checkMeetingSet, Cond.selects RX0 yX0_checkMeetingSet yX0_checkMeetingSet, Cond.code yX0_checkMeetingSet cX0_checkMeetingSet 2 none, Cond.methodLink RX0 112 yJ6_bitCount_0f7a4, Cond.static yJ6_bitCount_0f7a4, Cond.initialized RJ6, Cond.code yJ6_bitCount_0f7a4 cJ6_bitCount_0f7a4 1 (some .int), Cond.constant RJ6 265 (1431655765), Cond.constant RJ6 266 (858993459), Cond.constant RJ6 267 (252645135), Cond.methodLink RX0 41 yX0_isWithin, Cond.static yX0_isWithin, Cond.code yX0_isWithin cX0_isWithin 3 (some .boolean), Cond.methodLink RX0 45 yX0_checkArgument, Cond.static yX0_checkArgument]
def wsL_period_r2 : List Cond := [Cond.code yX0_checkArgument cX0_checkArgument 1 none, Cond.classLink RX0 137 "java/lang/IllegalArgumentException", Cond.initialized "java/lang/IllegalArgumentException", Cond.methodLink RX0 109 yX0_checkMarkets, Cond.instanceMethod yX0_checkMarkets, Cond.selects RX0 yX0_checkMarkets yX0_checkMarkets, Cond.code yX0_checkMarkets cX0_checkMarkets 2 none, Cond.classLink RX0 144 "java/lang/IndexOutOfBoundsException", Cond.initialized "java/lang/IndexOutOfBoundsException", Cond.fieldLink RX0 16 "MarketWeeks" "count" "I", Cond.methodLink RX0 92 yX0_firstMeeting, Cond.instanceMethod yX0_firstMeeting, Cond.selects RX0 yX0_firstMeeting yX0_firstMeeting, Cond.code yX0_firstMeeting cX0_firstMeeting 7 (some .long), Cond.constantLong RX0 96 (-1), Cond.methodLink RX0 153 yX0_firstHeldInSteps, Cond.instanceMethod yX0_firstHeldInSteps, Cond.selects RX0 yX0_firstHeldInSteps yX0_firstHeldInSteps, Cond.code yX0_firstHeldInSteps cX0_firstHeldInSteps 10 (some .long), Cond.methodLink RX0 68 yX0_lengthOf, Cond.instanceMethod yX0_lengthOf, Cond.selects RX0 yX0_lengthOf yX0_lengthOf, Cond.code yX0_lengthOf cX0_lengthOf 2 (some .int), Cond.fieldLink RX0 9 "MarketWeeks" "lengths" "[I"]
def wsL_period_r3 : List Cond := [Cond.methodLink RX0 49 yX0_isPlace, Cond.instanceMethod yX0_isPlace, Cond.selects RX0 yX0_isPlace yX0_isPlace, Cond.code yX0_isPlace cX0_isPlace 2 (some .boolean), Cond.fieldLink RX0 13 "MarketWeeks" "places" "[I", Cond.methodLink RX0 78 yX0_isOn, Cond.instanceMethod yX0_isOn, Cond.selects RX0 yX0_isOn yX0_isOn, Cond.code yX0_isOn cX0_isOn 4 (some .boolean), Cond.methodLink RX0 71 yX0_modulo, Cond.static yX0_modulo, Cond.code yX0_modulo cX0_modulo 4 (some .long), Cond.methodLink RX0 166 yJ9_floorMod_f86c9, Cond.static yJ9_floorMod_f86c9, Cond.initialized RJ9, Cond.code yJ9_floorMod_f86c9 cJ9_floorMod_f86c9 6 (some .long), Cond.methodLink RX0 64 yX0_placeOf, Cond.instanceMethod yX0_placeOf, Cond.selects RX0 yX0_placeOf yX0_placeOf, Cond.code yX0_placeOf cX0_placeOf 2 (some .int), Cond.methodLink RX0 157 yX0_commonMultiple, Cond.static yX0_commonMultiple, Cond.code yX0_commonMultiple cX0_commonMultiple 4 (some .long), Cond.methodLink RX0 98 yX0_checkTheyMeet]
def wsL_period_r4 : List Cond := [Cond.static yX0_checkTheyMeet, Cond.code yX0_checkTheyMeet cX0_checkTheyMeet 2 none, Cond.classLink RX0 53 "java/lang/IllegalStateException", Cond.initialized "java/lang/IllegalStateException", Cond.methodLink RX0 102 yX0_commonLength, Cond.instanceMethod yX0_commonLength, Cond.selects RX0 yX0_commonLength yX0_commonLength, Cond.code yX0_commonLength cX0_commonLength 5 (some .long)]
def wsL_period : List Cond := .codeWith yL_period cL_period 4 (some .int) [(0, 9, 12, 13), (0, 9, 15, 20), (0, 9, 18, 15)] :: ((wsL_period_r1 ++ (wsL_period_r2 ++ (wsL_period_r3 ++ wsL_period_r4))) ++ wsX00 ++ (vx_atS RX0 141 "java/lang/IllegalArgumentException" ["java/lang/RuntimeException", "java/lang/Exception"]).filter goodWord ++ (vx_atS RX0 148 "java/lang/IndexOutOfBoundsException" ["java/lang/RuntimeException", "java/lang/Exception"]).filter goodWord ++ (vx_atS RX0 57 "java/lang/IllegalStateException" ["java/lang/RuntimeException", "java/lang/Exception"]).filter goodWord)
def wsL_meeting_r1 : List Cond := [Cond.classLink RL 13 "java/lang/IllegalArgumentException", Cond.classLink RL 20 "java/lang/IndexOutOfBoundsException", Cond.classLink RL 15 "java/lang/IllegalStateException", Cond.methodLink RL 55 yX0_meeting, Cond.instanceMethod yX0_meeting, Cond.selects RX0 yX0_meeting yX0_meeting, Cond.initialized RX0, Cond.code yX0_meeting cX0_meeting 5 (some .int), Cond.methodLink RX0 75 yX0_checkDay, Cond.static yX0_checkDay, Cond.code yX0_checkDay cX0_checkDay 1 none, Cond.constant RX0 142 (-1000000), Cond.constant RX0 143 (1000000), Cond.methodLink RX0 41 yX0_isWithin, Cond.static yX0_isWithin, Cond.code yX0_isWithin cX0_isWithin 3 (some .boolean), Cond.methodLink RX0 45 yX0_checkArgument, Cond.static yX0_checkArgument, Cond.code yX0_checkArgument cX0_checkArgument 1 none, Cond.classLink RX0 137 "java/lang/IllegalArgumentException", Cond.initialized "java/lang/IllegalArgumentException", Cond.methodLink RX0 89 yX0_checkMeetingSet, Cond.instanceMethod yX0_checkMeetingSet, Cond.selects RX0 yX0_checkMeetingSet yX0_checkMeetingSet]
def wsL_meeting_r2 : List Cond := [Cond.code yX0_checkMeetingSet cX0_checkMeetingSet 2 none, Cond.methodLink RX0 112 yJ6_bitCount_0f7a4, Cond.static yJ6_bitCount_0f7a4, Cond.initialized RJ6, Cond.code yJ6_bitCount_0f7a4 cJ6_bitCount_0f7a4 1 (some .int), Cond.constant RJ6 265 (1431655765), Cond.constant RJ6 266 (858993459), Cond.constant RJ6 267 (252645135), Cond.methodLink RX0 109 yX0_checkMarkets, Cond.instanceMethod yX0_checkMarkets, Cond.selects RX0 yX0_checkMarkets yX0_checkMarkets, Cond.code yX0_checkMarkets cX0_checkMarkets 2 none, Cond.classLink RX0 144 "java/lang/IndexOutOfBoundsException", Cond.initialized "java/lang/IndexOutOfBoundsException", Cond.fieldLink RX0 16 "MarketWeeks" "count" "I", Cond.methodLink RX0 92 yX0_firstMeeting, Cond.instanceMethod yX0_firstMeeting, Cond.selects RX0 yX0_firstMeeting yX0_firstMeeting, Cond.code yX0_firstMeeting cX0_firstMeeting 7 (some .long), Cond.constantLong RX0 96 (-1), Cond.methodLink RX0 153 yX0_firstHeldInSteps, Cond.instanceMethod yX0_firstHeldInSteps, Cond.selects RX0 yX0_firstHeldInSteps yX0_firstHeldInSteps, Cond.code yX0_firstHeldInSteps cX0_firstHeldInSteps 10 (some .long)]
def wsL_meeting_r3 : List Cond := [Cond.methodLink RX0 68 yX0_lengthOf, Cond.instanceMethod yX0_lengthOf, Cond.selects RX0 yX0_lengthOf yX0_lengthOf, Cond.code yX0_lengthOf cX0_lengthOf 2 (some .int), Cond.fieldLink RX0 9 "MarketWeeks" "lengths" "[I", Cond.methodLink RX0 49 yX0_isPlace, Cond.instanceMethod yX0_isPlace, Cond.selects RX0 yX0_isPlace yX0_isPlace, Cond.code yX0_isPlace cX0_isPlace 2 (some .boolean), Cond.fieldLink RX0 13 "MarketWeeks" "places" "[I", Cond.methodLink RX0 78 yX0_isOn, Cond.instanceMethod yX0_isOn, Cond.selects RX0 yX0_isOn yX0_isOn, Cond.code yX0_isOn cX0_isOn 4 (some .boolean), Cond.methodLink RX0 71 yX0_modulo, Cond.static yX0_modulo, Cond.code yX0_modulo cX0_modulo 4 (some .long), Cond.methodLink RX0 166 yJ9_floorMod_f86c9, Cond.static yJ9_floorMod_f86c9, Cond.initialized RJ9, Cond.code yJ9_floorMod_f86c9 cJ9_floorMod_f86c9 6 (some .long), Cond.methodLink RX0 64 yX0_placeOf, Cond.instanceMethod yX0_placeOf, Cond.selects RX0 yX0_placeOf yX0_placeOf]
def wsL_meeting_r4 : List Cond := [Cond.code yX0_placeOf cX0_placeOf 2 (some .int), Cond.methodLink RX0 157 yX0_commonMultiple, Cond.static yX0_commonMultiple, Cond.code yX0_commonMultiple cX0_commonMultiple 4 (some .long), Cond.methodLink RX0 98 yX0_checkTheyMeet, Cond.static yX0_checkTheyMeet, Cond.code yX0_checkTheyMeet cX0_checkTheyMeet 2 none, Cond.classLink RX0 53 "java/lang/IllegalStateException", Cond.initialized "java/lang/IllegalStateException", Cond.methodLink RX0 102 yX0_commonLength, Cond.instanceMethod yX0_commonLength, Cond.selects RX0 yX0_commonLength yX0_commonLength, Cond.code yX0_commonLength cX0_commonLength 5 (some .long)]
def wsL_meeting : List Cond := .codeWith yL_meeting cL_meeting 5 (some .int) [(0, 10, 13, 13), (0, 10, 17, 20), (0, 10, 21, 15)] :: ((wsL_meeting_r1 ++ (wsL_meeting_r2 ++ (wsL_meeting_r3 ++ wsL_meeting_r4))) ++ wsX00 ++ (vx_atS RX0 141 "java/lang/IllegalArgumentException" ["java/lang/RuntimeException", "java/lang/Exception"]).filter goodWord ++ (vx_atS RX0 148 "java/lang/IndexOutOfBoundsException" ["java/lang/RuntimeException", "java/lang/Exception"]).filter goodWord ++ (vx_atS RX0 57 "java/lang/IllegalStateException" ["java/lang/RuntimeException", "java/lang/Exception"]).filter goodWord)
def wsL_lunarMeeting_r1 : List Cond := [Cond.classLink RL 13 "java/lang/IllegalArgumentException", Cond.classLink RL 20 "java/lang/IndexOutOfBoundsException", Cond.classLink RL 15 "java/lang/IllegalStateException", Cond.methodLink RL 58 yX0_lunarMeeting, Cond.instanceMethod yX0_lunarMeeting, Cond.selects RX0 yX0_lunarMeeting yX0_lunarMeeting, Cond.initialized RX0, Cond.code yX0_lunarMeeting cX0_lunarMeeting 12 (some .long), Cond.constantLong RX0 96 (-1), Cond.methodLink RX0 75 yX0_checkDay, Cond.static yX0_checkDay, Cond.code yX0_checkDay cX0_checkDay 1 none, Cond.constant RX0 142 (-1000000), Cond.constant RX0 143 (1000000), Cond.methodLink RX0 41 yX0_isWithin, Cond.static yX0_isWithin, Cond.code yX0_isWithin cX0_isWithin 3 (some .boolean), Cond.methodLink RX0 45 yX0_checkArgument, Cond.static yX0_checkArgument, Cond.code yX0_checkArgument cX0_checkArgument 1 none, Cond.classLink RX0 137 "java/lang/IllegalArgumentException", Cond.initialized "java/lang/IllegalArgumentException", Cond.methodLink RX0 89 yX0_checkMeetingSet, Cond.instanceMethod yX0_checkMeetingSet]
def wsL_lunarMeeting_r2 : List Cond := [Cond.selects RX0 yX0_checkMeetingSet yX0_checkMeetingSet, Cond.code yX0_checkMeetingSet cX0_checkMeetingSet 2 none, Cond.methodLink RX0 112 yJ6_bitCount_0f7a4, Cond.static yJ6_bitCount_0f7a4, Cond.initialized RJ6, Cond.code yJ6_bitCount_0f7a4 cJ6_bitCount_0f7a4 1 (some .int), Cond.constant RJ6 265 (1431655765), Cond.constant RJ6 266 (858993459), Cond.constant RJ6 267 (252645135), Cond.methodLink RX0 109 yX0_checkMarkets, Cond.instanceMethod yX0_checkMarkets, Cond.selects RX0 yX0_checkMarkets yX0_checkMarkets, Cond.code yX0_checkMarkets cX0_checkMarkets 2 none, Cond.classLink RX0 144 "java/lang/IndexOutOfBoundsException", Cond.initialized "java/lang/IndexOutOfBoundsException", Cond.fieldLink RX0 16 "MarketWeeks" "count" "I", Cond.methodLink RX0 92 yX0_firstMeeting, Cond.instanceMethod yX0_firstMeeting, Cond.selects RX0 yX0_firstMeeting yX0_firstMeeting, Cond.code yX0_firstMeeting cX0_firstMeeting 7 (some .long), Cond.methodLink RX0 153 yX0_firstHeldInSteps, Cond.instanceMethod yX0_firstHeldInSteps, Cond.selects RX0 yX0_firstHeldInSteps yX0_firstHeldInSteps, Cond.code yX0_firstHeldInSteps cX0_firstHeldInSteps 10 (some .long)]
def wsL_lunarMeeting_r3 : List Cond := [Cond.methodLink RX0 68 yX0_lengthOf, Cond.instanceMethod yX0_lengthOf, Cond.selects RX0 yX0_lengthOf yX0_lengthOf, Cond.code yX0_lengthOf cX0_lengthOf 2 (some .int), Cond.fieldLink RX0 9 "MarketWeeks" "lengths" "[I", Cond.methodLink RX0 49 yX0_isPlace, Cond.instanceMethod yX0_isPlace, Cond.selects RX0 yX0_isPlace yX0_isPlace, Cond.code yX0_isPlace cX0_isPlace 2 (some .boolean), Cond.fieldLink RX0 13 "MarketWeeks" "places" "[I", Cond.methodLink RX0 78 yX0_isOn, Cond.instanceMethod yX0_isOn, Cond.selects RX0 yX0_isOn yX0_isOn, Cond.code yX0_isOn cX0_isOn 4 (some .boolean), Cond.methodLink RX0 71 yX0_modulo, Cond.static yX0_modulo, Cond.code yX0_modulo cX0_modulo 4 (some .long), Cond.methodLink RX0 166 yJ9_floorMod_f86c9, Cond.static yJ9_floorMod_f86c9, Cond.initialized RJ9, Cond.code yJ9_floorMod_f86c9 cJ9_floorMod_f86c9 6 (some .long), Cond.methodLink RX0 64 yX0_placeOf, Cond.instanceMethod yX0_placeOf, Cond.selects RX0 yX0_placeOf yX0_placeOf]
def wsL_lunarMeeting_r4 : List Cond := [Cond.code yX0_placeOf cX0_placeOf 2 (some .int), Cond.methodLink RX0 157 yX0_commonMultiple, Cond.static yX0_commonMultiple, Cond.code yX0_commonMultiple cX0_commonMultiple 4 (some .long), Cond.methodLink RX0 98 yX0_checkTheyMeet, Cond.static yX0_checkTheyMeet, Cond.code yX0_checkTheyMeet cX0_checkTheyMeet 2 none, Cond.classLink RX0 53 "java/lang/IllegalStateException", Cond.initialized "java/lang/IllegalStateException", Cond.methodLink RX0 102 yX0_commonLength, Cond.instanceMethod yX0_commonLength, Cond.selects RX0 yX0_commonLength yX0_commonLength, Cond.code yX0_commonLength cX0_commonLength 5 (some .long), Cond.methodLink RX0 105 yX0_lunarDayOf, Cond.instanceMethod yX0_lunarDayOf, Cond.selects RX0 yX0_lunarDayOf yX0_lunarDayOf, Cond.code yX0_lunarDayOf cX0_lunarDayOf 3 (some .long), Cond.fieldLink RX0 20 "MarketWeeks" "moonNum" "I", Cond.fieldLink RX0 23 "MarketWeeks" "moonDen" "I", Cond.methodLink RX0 117 yX0_moonParts, Cond.instanceMethod yX0_moonParts, Cond.selects RX0 yX0_moonParts yX0_moonParts, Cond.code yX0_moonParts cX0_moonParts 3 (some .long), Cond.fieldLink RX0 26 "MarketWeeks" "moonShift" "I"]
def wsL_lunarMeeting_r5 : List Cond := [Cond.methodLink RX0 120 yX0_divide, Cond.static yX0_divide, Cond.code yX0_divide cX0_divide 4 (some .long), Cond.methodLink RX0 161 yJ9_floorDiv_f86c9, Cond.static yJ9_floorDiv_f86c9, Cond.code yJ9_floorDiv_f86c9 cJ9_floorDiv_f86c9 6 (some .long)]
def wsL_lunarMeeting : List Cond := .codeWith yL_lunarMeeting cL_lunarMeeting 7 (some .int) [(0, 13, 16, 13), (0, 13, 20, 20), (0, 13, 24, 15)] :: ((wsL_lunarMeeting_r1 ++ (wsL_lunarMeeting_r2 ++ (wsL_lunarMeeting_r3 ++ (wsL_lunarMeeting_r4 ++ wsL_lunarMeeting_r5)))) ++ wsX00 ++ (vx_atS RX0 141 "java/lang/IllegalArgumentException" ["java/lang/RuntimeException", "java/lang/Exception"]).filter goodWord ++ (vx_atS RX0 148 "java/lang/IndexOutOfBoundsException" ["java/lang/RuntimeException", "java/lang/Exception"]).filter goodWord ++ (vx_atS RX0 57 "java/lang/IllegalStateException" ["java/lang/RuntimeException", "java/lang/Exception"]).filter goodWord)
def wsL_best_r1 : List Cond := [Cond.classLink RL 13 "java/lang/IllegalArgumentException", Cond.classLink RL 20 "java/lang/IndexOutOfBoundsException", Cond.methodLink RL 62 yX0_best, Cond.instanceMethod yX0_best, Cond.selects RX0 yX0_best yX0_best, Cond.initialized RX0, Cond.code yX0_best cX0_best 8 (some .int), Cond.methodLink RX0 75 yX0_checkDay, Cond.static yX0_checkDay, Cond.code yX0_checkDay cX0_checkDay 1 none, Cond.constant RX0 142 (-1000000), Cond.constant RX0 143 (1000000), Cond.methodLink RX0 41 yX0_isWithin, Cond.static yX0_isWithin, Cond.code yX0_isWithin cX0_isWithin 3 (some .boolean), Cond.methodLink RX0 45 yX0_checkArgument, Cond.static yX0_checkArgument, Cond.code yX0_checkArgument cX0_checkArgument 1 none, Cond.classLink RX0 137 "java/lang/IllegalArgumentException", Cond.initialized "java/lang/IllegalArgumentException", Cond.methodLink RX0 109 yX0_checkMarkets, Cond.instanceMethod yX0_checkMarkets, Cond.selects RX0 yX0_checkMarkets yX0_checkMarkets, Cond.code yX0_checkMarkets cX0_checkMarkets 2 none]
def wsL_best_r2 : List Cond := [Cond.classLink RX0 144 "java/lang/IndexOutOfBoundsException", Cond.initialized "java/lang/IndexOutOfBoundsException", Cond.fieldLink RX0 16 "MarketWeeks" "count" "I", Cond.methodLink RX0 86 yX0_setOn, Cond.instanceMethod yX0_setOn, Cond.selects RX0 yX0_setOn yX0_setOn, Cond.code yX0_setOn cX0_setOn 4 (some .int), Cond.methodLink RX0 78 yX0_isOn, Cond.instanceMethod yX0_isOn, Cond.selects RX0 yX0_isOn yX0_isOn, Cond.code yX0_isOn cX0_isOn 4 (some .boolean), Cond.methodLink RX0 68 yX0_lengthOf, Cond.instanceMethod yX0_lengthOf, Cond.selects RX0 yX0_lengthOf yX0_lengthOf, Cond.code yX0_lengthOf cX0_lengthOf 2 (some .int), Cond.fieldLink RX0 9 "MarketWeeks" "lengths" "[I", Cond.methodLink RX0 49 yX0_isPlace, Cond.instanceMethod yX0_isPlace, Cond.selects RX0 yX0_isPlace yX0_isPlace, Cond.code yX0_isPlace cX0_isPlace 2 (some .boolean), Cond.fieldLink RX0 13 "MarketWeeks" "places" "[I", Cond.methodLink RX0 71 yX0_modulo, Cond.static yX0_modulo, Cond.code yX0_modulo cX0_modulo 4 (some .long)]
def wsL_best_r3 : List Cond := [Cond.methodLink RX0 166 yJ9_floorMod_f86c9, Cond.static yJ9_floorMod_f86c9, Cond.initialized RJ9, Cond.code yJ9_floorMod_f86c9 cJ9_floorMod_f86c9 6 (some .long), Cond.methodLink RX0 64 yX0_placeOf, Cond.instanceMethod yX0_placeOf, Cond.selects RX0 yX0_placeOf yX0_placeOf, Cond.code yX0_placeOf cX0_placeOf 2 (some .int), Cond.methodLink RX0 112 yJ6_bitCount_0f7a4, Cond.static yJ6_bitCount_0f7a4, Cond.initialized RJ6, Cond.code yJ6_bitCount_0f7a4 cJ6_bitCount_0f7a4 1 (some .int), Cond.constant RJ6 265 (1431655765), Cond.constant RJ6 266 (858993459), Cond.constant RJ6 267 (252645135)]
def wsL_best : List Cond := .codeWith yL_best cL_best 6 (some .int) [(0, 12, 15, 13), (0, 12, 19, 20)] :: ((wsL_best_r1 ++ (wsL_best_r2 ++ wsL_best_r3)) ++ wsX00 ++ (vx_atS RX0 141 "java/lang/IllegalArgumentException" ["java/lang/RuntimeException", "java/lang/Exception"]).filter goodWord ++ (vx_atS RX0 148 "java/lang/IndexOutOfBoundsException" ["java/lang/RuntimeException", "java/lang/Exception"]).filter goodWord)
def wsL_month_r1 : List Cond := [Cond.classLink RL 13 "java/lang/IllegalArgumentException", Cond.methodLink RL 65 yX0_month, Cond.instanceMethod yX0_month, Cond.selects RX0 yX0_month yX0_month, Cond.initialized RX0, Cond.code yX0_month cX0_month 2 (some .int), Cond.fieldLink RX0 20 "MarketWeeks" "moonNum" "I", Cond.methodLink RX0 75 yX0_checkDay, Cond.static yX0_checkDay, Cond.code yX0_checkDay cX0_checkDay 1 none, Cond.constant RX0 142 (-1000000), Cond.constant RX0 143 (1000000), Cond.methodLink RX0 41 yX0_isWithin, Cond.static yX0_isWithin, Cond.code yX0_isWithin cX0_isWithin 3 (some .boolean), Cond.methodLink RX0 45 yX0_checkArgument, Cond.static yX0_checkArgument, Cond.code yX0_checkArgument cX0_checkArgument 1 none, Cond.classLink RX0 137 "java/lang/IllegalArgumentException", Cond.initialized "java/lang/IllegalArgumentException", Cond.methodLink RX0 117 yX0_moonParts, Cond.instanceMethod yX0_moonParts, Cond.selects RX0 yX0_moonParts yX0_moonParts, Cond.code yX0_moonParts cX0_moonParts 3 (some .long)]
def wsL_month_r2 : List Cond := [Cond.fieldLink RX0 26 "MarketWeeks" "moonShift" "I", Cond.fieldLink RX0 23 "MarketWeeks" "moonDen" "I", Cond.methodLink RX0 120 yX0_divide, Cond.static yX0_divide, Cond.code yX0_divide cX0_divide 4 (some .long), Cond.methodLink RX0 161 yJ9_floorDiv_f86c9, Cond.static yJ9_floorDiv_f86c9, Cond.initialized RJ9, Cond.code yJ9_floorDiv_f86c9 cJ9_floorDiv_f86c9 6 (some .long)]
def wsL_month : List Cond := .codeWith yL_month cL_month 4 (some .int) [(0, 9, 12, 13)] :: ((wsL_month_r1 ++ wsL_month_r2) ++ wsX00 ++ (vx_atS RX0 141 "java/lang/IllegalArgumentException" ["java/lang/RuntimeException", "java/lang/Exception"]).filter goodWord)
def wsL_lunarDay_r1 : List Cond := [Cond.classLink RL 13 "java/lang/IllegalArgumentException", Cond.methodLink RL 68 yX0_lunarDay, Cond.instanceMethod yX0_lunarDay, Cond.selects RX0 yX0_lunarDay yX0_lunarDay, Cond.initialized RX0, Cond.code yX0_lunarDay cX0_lunarDay 2 (some .int), Cond.methodLink RX0 75 yX0_checkDay, Cond.static yX0_checkDay, Cond.code yX0_checkDay cX0_checkDay 1 none, Cond.constant RX0 142 (-1000000), Cond.constant RX0 143 (1000000), Cond.methodLink RX0 41 yX0_isWithin, Cond.static yX0_isWithin, Cond.code yX0_isWithin cX0_isWithin 3 (some .boolean), Cond.methodLink RX0 45 yX0_checkArgument, Cond.static yX0_checkArgument, Cond.code yX0_checkArgument cX0_checkArgument 1 none, Cond.classLink RX0 137 "java/lang/IllegalArgumentException", Cond.initialized "java/lang/IllegalArgumentException", Cond.methodLink RX0 105 yX0_lunarDayOf, Cond.instanceMethod yX0_lunarDayOf, Cond.selects RX0 yX0_lunarDayOf yX0_lunarDayOf, Cond.code yX0_lunarDayOf cX0_lunarDayOf 3 (some .long), Cond.fieldLink RX0 20 "MarketWeeks" "moonNum" "I"]
def wsL_lunarDay_r2 : List Cond := [Cond.fieldLink RX0 23 "MarketWeeks" "moonDen" "I", Cond.methodLink RX0 117 yX0_moonParts, Cond.instanceMethod yX0_moonParts, Cond.selects RX0 yX0_moonParts yX0_moonParts, Cond.code yX0_moonParts cX0_moonParts 3 (some .long), Cond.fieldLink RX0 26 "MarketWeeks" "moonShift" "I", Cond.methodLink RX0 71 yX0_modulo, Cond.static yX0_modulo, Cond.code yX0_modulo cX0_modulo 4 (some .long), Cond.methodLink RX0 166 yJ9_floorMod_f86c9, Cond.static yJ9_floorMod_f86c9, Cond.initialized RJ9, Cond.code yJ9_floorMod_f86c9 cJ9_floorMod_f86c9 6 (some .long), Cond.methodLink RX0 120 yX0_divide, Cond.static yX0_divide, Cond.code yX0_divide cX0_divide 4 (some .long), Cond.methodLink RX0 161 yJ9_floorDiv_f86c9, Cond.static yJ9_floorDiv_f86c9, Cond.code yJ9_floorDiv_f86c9 cJ9_floorDiv_f86c9 6 (some .long)]
def wsL_lunarDay : List Cond := .codeWith yL_lunarDay cL_lunarDay 4 (some .int) [(0, 9, 12, 13)] :: ((wsL_lunarDay_r1 ++ wsL_lunarDay_r2) ++ wsX00 ++ (vx_atS RX0 141 "java/lang/IllegalArgumentException" ["java/lang/RuntimeException", "java/lang/Exception"]).filter goodWord)
def wsL_monthBegin_r1 : List Cond := [Cond.classLink RL 13 "java/lang/IllegalArgumentException", Cond.methodLink RL 71 yX0_monthBegin, Cond.instanceMethod yX0_monthBegin, Cond.selects RX0 yX0_monthBegin yX0_monthBegin, Cond.initialized RX0, Cond.code yX0_monthBegin cX0_monthBegin 2 (some .int), Cond.constant RX0 123 (-100000), Cond.constant RX0 124 (100000), Cond.fieldLink RX0 20 "MarketWeeks" "moonNum" "I", Cond.fieldLink RX0 23 "MarketWeeks" "moonDen" "I", Cond.fieldLink RX0 26 "MarketWeeks" "moonShift" "I", Cond.methodLink RX0 41 yX0_isWithin, Cond.static yX0_isWithin, Cond.code yX0_isWithin cX0_isWithin 3 (some .boolean), Cond.methodLink RX0 45 yX0_checkArgument, Cond.static yX0_checkArgument, Cond.code yX0_checkArgument cX0_checkArgument 1 none, Cond.classLink RX0 137 "java/lang/IllegalArgumentException", Cond.initialized "java/lang/IllegalArgumentException", Cond.methodLink RX0 120 yX0_divide, Cond.static yX0_divide, Cond.code yX0_divide cX0_divide 4 (some .long), Cond.methodLink RX0 161 yJ9_floorDiv_f86c9, Cond.static yJ9_floorDiv_f86c9]
def wsL_monthBegin_r2 : List Cond := [Cond.initialized RJ9, Cond.code yJ9_floorDiv_f86c9 cJ9_floorDiv_f86c9 6 (some .long)]
def wsL_monthBegin : List Cond := .codeWith yL_monthBegin cL_monthBegin 4 (some .int) [(0, 9, 12, 13)] :: ((wsL_monthBegin_r1 ++ wsL_monthBegin_r2) ++ wsX00 ++ (vx_atS RX0 141 "java/lang/IllegalArgumentException" ["java/lang/RuntimeException", "java/lang/Exception"]).filter goodWord)
def wsL_year_r1 : List Cond := [Cond.classLink RL 13 "java/lang/IllegalArgumentException", Cond.methodLink RL 74 yX0_year, Cond.instanceMethod yX0_year, Cond.selects RX0 yX0_year yX0_year, Cond.initialized RX0, Cond.code yX0_year cX0_year 2 (some .int), Cond.methodLink RX0 75 yX0_checkDay, Cond.static yX0_checkDay, Cond.code yX0_checkDay cX0_checkDay 1 none, Cond.constant RX0 142 (-1000000), Cond.constant RX0 143 (1000000), Cond.methodLink RX0 41 yX0_isWithin, Cond.static yX0_isWithin, Cond.code yX0_isWithin cX0_isWithin 3 (some .boolean), Cond.methodLink RX0 45 yX0_checkArgument, Cond.static yX0_checkArgument, Cond.code yX0_checkArgument cX0_checkArgument 1 none, Cond.classLink RX0 137 "java/lang/IllegalArgumentException", Cond.initialized "java/lang/IllegalArgumentException", Cond.methodLink RX0 125 yX0_yearOf, Cond.instanceMethod yX0_yearOf, Cond.selects RX0 yX0_yearOf yX0_yearOf, Cond.code yX0_yearOf cX0_yearOf 4 (some .int), Cond.fieldLink RX0 38 "MarketWeeks" "leapC" "I"]
def wsL_year_r2 : List Cond := [Cond.fieldLink RX0 35 "MarketWeeks" "leapB" "I", Cond.fieldLink RX0 29 "MarketWeeks" "yearCommon" "I", Cond.fieldLink RX0 32 "MarketWeeks" "leapA" "I", Cond.methodLink RX0 120 yX0_divide, Cond.static yX0_divide, Cond.code yX0_divide cX0_divide 4 (some .long), Cond.methodLink RX0 161 yJ9_floorDiv_f86c9, Cond.static yJ9_floorDiv_f86c9, Cond.initialized RJ9, Cond.code yJ9_floorDiv_f86c9 cJ9_floorDiv_f86c9 6 (some .long)]
def wsL_year : List Cond := .codeWith yL_year cL_year 4 (some .int) [(0, 9, 12, 13)] :: ((wsL_year_r1 ++ wsL_year_r2) ++ wsX00 ++ (vx_atS RX0 141 "java/lang/IllegalArgumentException" ["java/lang/RuntimeException", "java/lang/Exception"]).filter goodWord)
def wsL_placeInYear_r1 : List Cond := [Cond.classLink RL 13 "java/lang/IllegalArgumentException", Cond.methodLink RL 77 yX0_placeInYear, Cond.instanceMethod yX0_placeInYear, Cond.selects RX0 yX0_placeInYear yX0_placeInYear, Cond.initialized RX0, Cond.code yX0_placeInYear cX0_placeInYear 2 (some .int), Cond.methodLink RX0 75 yX0_checkDay, Cond.static yX0_checkDay, Cond.code yX0_checkDay cX0_checkDay 1 none, Cond.constant RX0 142 (-1000000), Cond.constant RX0 143 (1000000), Cond.methodLink RX0 41 yX0_isWithin, Cond.static yX0_isWithin, Cond.code yX0_isWithin cX0_isWithin 3 (some .boolean), Cond.methodLink RX0 45 yX0_checkArgument, Cond.static yX0_checkArgument, Cond.code yX0_checkArgument cX0_checkArgument 1 none, Cond.classLink RX0 137 "java/lang/IllegalArgumentException", Cond.initialized "java/lang/IllegalArgumentException", Cond.methodLink RX0 125 yX0_yearOf, Cond.instanceMethod yX0_yearOf, Cond.selects RX0 yX0_yearOf yX0_yearOf, Cond.code yX0_yearOf cX0_yearOf 4 (some .int), Cond.fieldLink RX0 38 "MarketWeeks" "leapC" "I"]
def wsL_placeInYear_r2 : List Cond := [Cond.fieldLink RX0 35 "MarketWeeks" "leapB" "I", Cond.fieldLink RX0 29 "MarketWeeks" "yearCommon" "I", Cond.fieldLink RX0 32 "MarketWeeks" "leapA" "I", Cond.methodLink RX0 120 yX0_divide, Cond.static yX0_divide, Cond.code yX0_divide cX0_divide 4 (some .long), Cond.methodLink RX0 161 yJ9_floorDiv_f86c9, Cond.static yJ9_floorDiv_f86c9, Cond.initialized RJ9, Cond.code yJ9_floorDiv_f86c9 cJ9_floorDiv_f86c9 6 (some .long), Cond.methodLink RX0 128 yX0_yearBegin, Cond.instanceMethod yX0_yearBegin, Cond.selects RX0 yX0_yearBegin yX0_yearBegin, Cond.code yX0_yearBegin cX0_yearBegin 2 (some .int)]
def wsL_placeInYear : List Cond := .codeWith yL_placeInYear cL_placeInYear 4 (some .int) [(0, 9, 12, 13)] :: ((wsL_placeInYear_r1 ++ wsL_placeInYear_r2) ++ wsX00 ++ (vx_atS RX0 141 "java/lang/IllegalArgumentException" ["java/lang/RuntimeException", "java/lang/Exception"]).filter goodWord)
def wsL_isLeap_r1 : List Cond := [Cond.classLink RL 13 "java/lang/IllegalArgumentException", Cond.methodLink RL 80 yX0_isLeap, Cond.instanceMethod yX0_isLeap, Cond.selects RX0 yX0_isLeap yX0_isLeap, Cond.initialized RX0, Cond.code yX0_isLeap cX0_isLeap 2 (some .boolean), Cond.methodLink RX0 131 yX0_checkYear, Cond.static yX0_checkYear, Cond.code yX0_checkYear cX0_checkYear 1 none, Cond.methodLink RX0 41 yX0_isWithin, Cond.static yX0_isWithin, Cond.code yX0_isWithin cX0_isWithin 3 (some .boolean), Cond.methodLink RX0 45 yX0_checkArgument, Cond.static yX0_checkArgument, Cond.code yX0_checkArgument cX0_checkArgument 1 none, Cond.classLink RX0 137 "java/lang/IllegalArgumentException", Cond.initialized "java/lang/IllegalArgumentException", Cond.methodLink RX0 134 yX0_hasLeapDay, Cond.instanceMethod yX0_hasLeapDay, Cond.selects RX0 yX0_hasLeapDay yX0_hasLeapDay, Cond.code yX0_hasLeapDay cX0_hasLeapDay 2 (some .boolean), Cond.fieldLink RX0 32 "MarketWeeks" "leapA" "I", Cond.fieldLink RX0 35 "MarketWeeks" "leapB" "I", Cond.fieldLink RX0 38 "MarketWeeks" "leapC" "I"]
def wsL_isLeap_r2 : List Cond := [Cond.methodLink RX0 71 yX0_modulo, Cond.static yX0_modulo, Cond.code yX0_modulo cX0_modulo 4 (some .long), Cond.methodLink RX0 166 yJ9_floorMod_f86c9, Cond.static yJ9_floorMod_f86c9, Cond.initialized RJ9, Cond.code yJ9_floorMod_f86c9 cJ9_floorMod_f86c9 6 (some .long)]
def wsL_isLeap : List Cond := .codeWith yL_isLeap cL_isLeap 4 (some .int) [(0, 16, 19, 13)] :: ((wsL_isLeap_r1 ++ wsL_isLeap_r2) ++ wsX00 ++ (vx_atS RX0 141 "java/lang/IllegalArgumentException" ["java/lang/RuntimeException", "java/lang/Exception"]).filter goodWord)
def wsL_dayOf_r1 : List Cond := [Cond.classLink RL 13 "java/lang/IllegalArgumentException", Cond.methodLink RL 83 yX0_dayOf, Cond.instanceMethod yX0_dayOf, Cond.selects RX0 yX0_dayOf yX0_dayOf, Cond.initialized RX0, Cond.code yX0_dayOf cX0_dayOf 4 (some .int), Cond.fieldLink RX0 29 "MarketWeeks" "yearCommon" "I", Cond.methodLink RX0 131 yX0_checkYear, Cond.static yX0_checkYear, Cond.code yX0_checkYear cX0_checkYear 1 none, Cond.methodLink RX0 41 yX0_isWithin, Cond.static yX0_isWithin, Cond.code yX0_isWithin cX0_isWithin 3 (some .boolean), Cond.methodLink RX0 45 yX0_checkArgument, Cond.static yX0_checkArgument, Cond.code yX0_checkArgument cX0_checkArgument 1 none, Cond.classLink RX0 137 "java/lang/IllegalArgumentException", Cond.initialized "java/lang/IllegalArgumentException", Cond.methodLink RX0 134 yX0_hasLeapDay, Cond.instanceMethod yX0_hasLeapDay, Cond.selects RX0 yX0_hasLeapDay yX0_hasLeapDay, Cond.code yX0_hasLeapDay cX0_hasLeapDay 2 (some .boolean), Cond.fieldLink RX0 32 "MarketWeeks" "leapA" "I", Cond.fieldLink RX0 35 "MarketWeeks" "leapB" "I"]
def wsL_dayOf_r2 : List Cond := [Cond.fieldLink RX0 38 "MarketWeeks" "leapC" "I", Cond.methodLink RX0 71 yX0_modulo, Cond.static yX0_modulo, Cond.code yX0_modulo cX0_modulo 4 (some .long), Cond.methodLink RX0 166 yJ9_floorMod_f86c9, Cond.static yJ9_floorMod_f86c9, Cond.initialized RJ9, Cond.code yJ9_floorMod_f86c9 cJ9_floorMod_f86c9 6 (some .long), Cond.methodLink RX0 128 yX0_yearBegin, Cond.instanceMethod yX0_yearBegin, Cond.selects RX0 yX0_yearBegin yX0_yearBegin, Cond.code yX0_yearBegin cX0_yearBegin 2 (some .int), Cond.methodLink RX0 120 yX0_divide, Cond.static yX0_divide, Cond.code yX0_divide cX0_divide 4 (some .long), Cond.methodLink RX0 161 yJ9_floorDiv_f86c9, Cond.static yJ9_floorDiv_f86c9, Cond.code yJ9_floorDiv_f86c9 cJ9_floorDiv_f86c9 6 (some .long)]
def wsL_dayOf : List Cond := .codeWith yL_dayOf cL_dayOf 5 (some .int) [(0, 10, 13, 13)] :: ((wsL_dayOf_r1 ++ wsL_dayOf_r2) ++ wsX00 ++ (vx_atS RX0 141 "java/lang/IllegalArgumentException" ["java/lang/RuntimeException", "java/lang/Exception"]).filter goodWord)
def wsL_timesInYear_r1 : List Cond := [Cond.classLink RL 20 "java/lang/IndexOutOfBoundsException", Cond.classLink RL 13 "java/lang/IllegalArgumentException", Cond.methodLink RL 86 yX0_timesInYear, Cond.instanceMethod yX0_timesInYear, Cond.selects RX0 yX0_timesInYear yX0_timesInYear, Cond.initialized RX0, Cond.code yX0_timesInYear cX0_timesInYear 3 (some .int), Cond.methodLink RX0 60 yX0_checkMarket, Cond.instanceMethod yX0_checkMarket, Cond.selects RX0 yX0_checkMarket yX0_checkMarket, Cond.code yX0_checkMarket cX0_checkMarket 2 none, Cond.classLink RX0 144 "java/lang/IndexOutOfBoundsException", Cond.initialized "java/lang/IndexOutOfBoundsException", Cond.fieldLink RX0 16 "MarketWeeks" "count" "I", Cond.methodLink RX0 41 yX0_isWithin, Cond.static yX0_isWithin, Cond.code yX0_isWithin cX0_isWithin 3 (some .boolean), Cond.methodLink RX0 131 yX0_checkYear, Cond.static yX0_checkYear, Cond.code yX0_checkYear cX0_checkYear 1 none, Cond.methodLink RX0 45 yX0_checkArgument, Cond.static yX0_checkArgument, Cond.code yX0_checkArgument cX0_checkArgument 1 none, Cond.classLink RX0 137 "java/lang/IllegalArgumentException"]
def wsL_timesInYear_r2 : List Cond := [Cond.initialized "java/lang/IllegalArgumentException", Cond.methodLink RX0 128 yX0_yearBegin, Cond.instanceMethod yX0_yearBegin, Cond.selects RX0 yX0_yearBegin yX0_yearBegin, Cond.code yX0_yearBegin cX0_yearBegin 2 (some .int), Cond.fieldLink RX0 29 "MarketWeeks" "yearCommon" "I", Cond.fieldLink RX0 32 "MarketWeeks" "leapA" "I", Cond.fieldLink RX0 35 "MarketWeeks" "leapB" "I", Cond.fieldLink RX0 38 "MarketWeeks" "leapC" "I", Cond.methodLink RX0 120 yX0_divide, Cond.static yX0_divide, Cond.code yX0_divide cX0_divide 4 (some .long), Cond.methodLink RX0 161 yJ9_floorDiv_f86c9, Cond.static yJ9_floorDiv_f86c9, Cond.initialized RJ9, Cond.code yJ9_floorDiv_f86c9 cJ9_floorDiv_f86c9 6 (some .long), Cond.methodLink RX0 82 yX0_countHeld, Cond.instanceMethod yX0_countHeld, Cond.selects RX0 yX0_countHeld yX0_countHeld, Cond.code yX0_countHeld cX0_countHeld 6 (some .int), Cond.methodLink RX0 68 yX0_lengthOf, Cond.instanceMethod yX0_lengthOf, Cond.selects RX0 yX0_lengthOf yX0_lengthOf, Cond.code yX0_lengthOf cX0_lengthOf 2 (some .int)]
def wsL_timesInYear_r3 : List Cond := [Cond.fieldLink RX0 9 "MarketWeeks" "lengths" "[I", Cond.methodLink RX0 49 yX0_isPlace, Cond.instanceMethod yX0_isPlace, Cond.selects RX0 yX0_isPlace yX0_isPlace, Cond.code yX0_isPlace cX0_isPlace 2 (some .boolean), Cond.fieldLink RX0 13 "MarketWeeks" "places" "[I", Cond.methodLink RX0 64 yX0_placeOf, Cond.instanceMethod yX0_placeOf, Cond.selects RX0 yX0_placeOf yX0_placeOf, Cond.code yX0_placeOf cX0_placeOf 2 (some .int)]
def wsL_timesInYear : List Cond := .codeWith yL_timesInYear cL_timesInYear 5 (some .int) [(0, 10, 13, 20), (0, 10, 17, 13)] :: ((wsL_timesInYear_r1 ++ (wsL_timesInYear_r2 ++ wsL_timesInYear_r3)) ++ wsX00 ++ (vx_atS RX0 148 "java/lang/IndexOutOfBoundsException" ["java/lang/RuntimeException", "java/lang/Exception"]).filter goodWord ++ (vx_atS RX0 141 "java/lang/IllegalArgumentException" ["java/lang/RuntimeException", "java/lang/Exception"]).filter goodWord)
def wsL_law0_r1 : List Cond := [Cond.classLink RL 8 RX0, Cond.instantiable RX0 10, Cond.initialized RX0, Cond.classLink RL 90 RX1, Cond.instantiable RX1 13, Cond.initialized RX1, Cond.arrayClass .long, Cond.methodLink RL 89 yX0_init, Cond.instanceMethod yX0_init, Cond.code yX0_init cX0_init 1 none, Cond.methodLink RX0 1 objectInit, Cond.instanceMethod objectInit, Cond.code objectInit ⟨#[0xb1]⟩ 1 none, Cond.arrayClass .int, Cond.fieldLink RX0 9 "MarketWeeks" "lengths" "[I", Cond.fieldLink RX0 13 "MarketWeeks" "places" "[I", Cond.fieldLink RX0 16 "MarketWeeks" "count" "I", Cond.fieldLink RX0 20 "MarketWeeks" "moonNum" "I", Cond.fieldLink RX0 23 "MarketWeeks" "moonDen" "I", Cond.fieldLink RX0 26 "MarketWeeks" "moonShift" "I", Cond.fieldLink RX0 29 "MarketWeeks" "yearCommon" "I", Cond.fieldLink RX0 32 "MarketWeeks" "leapA" "I", Cond.fieldLink RX0 35 "MarketWeeks" "leapB" "I", Cond.fieldLink RX0 38 "MarketWeeks" "leapC" "I"]
def wsL_law0_r2 : List Cond := [Cond.methodLink RL 92 yX1_init, Cond.instanceMethod yX1_init, Cond.code yX1_init cX1_init 1 none, Cond.methodLink RX1 1 objectInit, Cond.fieldLink RX1 7 "MarketWeeksModel" "lengths" "[I", Cond.fieldLink RX1 13 "MarketWeeksModel" "places" "[I", Cond.fieldLink RX1 16 "MarketWeeksModel" "num" "I", Cond.fieldLink RX1 20 "MarketWeeksModel" "den" "I", Cond.fieldLink RX1 23 "MarketWeeksModel" "common" "I", Cond.fieldLink RX1 26 "MarketWeeksModel" "a" "I", Cond.fieldLink RX1 29 "MarketWeeksModel" "c" "I", Cond.methodLink RL 93 yL_addMarket, Cond.static yL_addMarket, Cond.initialized RL, Cond.codeWith yL_addMarket cL_addMarket 5 (some .int) [(0, 10, 13, 13), (0, 10, 17, 15)], Cond.classLink RL 13 "java/lang/IllegalArgumentException", Cond.classLink RL 15 "java/lang/IllegalStateException", Cond.methodLink RL 7 yX0_addMarket, Cond.instanceMethod yX0_addMarket, Cond.selects RX0 yX0_addMarket yX0_addMarket, Cond.code yX0_addMarket cX0_addMarket 4 (some .int), Cond.classLink RX0 53 "java/lang/IllegalStateException", Cond.initialized "java/lang/IllegalStateException", Cond.methodLink RX0 41 yX0_isWithin]
def wsL_law0_r3 : List Cond := [Cond.static yX0_isWithin, Cond.code yX0_isWithin cX0_isWithin 3 (some .boolean), Cond.methodLink RX0 45 yX0_checkArgument, Cond.static yX0_checkArgument, Cond.code yX0_checkArgument cX0_checkArgument 1 none, Cond.classLink RX0 137 "java/lang/IllegalArgumentException", Cond.initialized "java/lang/IllegalArgumentException", Cond.methodLink RX0 49 yX0_isPlace, Cond.instanceMethod yX0_isPlace, Cond.selects RX0 yX0_isPlace yX0_isPlace, Cond.code yX0_isPlace cX0_isPlace 2 (some .boolean), Cond.methodLink RL 98 yX1_addMarket, Cond.instanceMethod yX1_addMarket, Cond.selects RX1 yX1_addMarket yX1_addMarket, Cond.code yX1_addMarket cX1_addMarket 3 (some .int), Cond.constantLong RX1 50 (60), Cond.fieldLink RX1 43 "MarketWeeksModel" "many" "I", Cond.methodLink RX1 39 yX1_in, Cond.static yX1_in, Cond.code yX1_in cX1_in 6 (some .boolean), Cond.methodLink RX1 52 yX1_goesWell, Cond.instanceMethod yX1_goesWell, Cond.selects RX1 yX1_goesWell yX1_goesWell, Cond.code yX1_goesWell cX1_goesWell 2 (some .boolean)]
def wsL_law0_r4 : List Cond := [Cond.fieldLink RX1 32 "MarketWeeksModel" "thrown" "I", Cond.methodLink RL 99 yX1_thrown, Cond.instanceMethod yX1_thrown, Cond.selects RX1 yX1_thrown yX1_thrown, Cond.code yX1_thrown cX1_thrown 1 (some .int), Cond.methodLink RL 103 yL_shift, Cond.static yL_shift, Cond.codeWith yL_shift cL_shift 5 (some .int) [(0, 10, 13, 20), (0, 10, 17, 13)], Cond.classLink RL 20 "java/lang/IndexOutOfBoundsException", Cond.methodLink RL 17 yX0_shift, Cond.instanceMethod yX0_shift, Cond.selects RX0 yX0_shift yX0_shift, Cond.code yX0_shift cX0_shift 4 (some .int), Cond.methodLink RX0 60 yX0_checkMarket, Cond.instanceMethod yX0_checkMarket, Cond.selects RX0 yX0_checkMarket yX0_checkMarket, Cond.code yX0_checkMarket cX0_checkMarket 2 none, Cond.classLink RX0 144 "java/lang/IndexOutOfBoundsException", Cond.initialized "java/lang/IndexOutOfBoundsException", Cond.methodLink RX0 64 yX0_placeOf, Cond.instanceMethod yX0_placeOf, Cond.selects RX0 yX0_placeOf yX0_placeOf, Cond.code yX0_placeOf cX0_placeOf 2 (some .int), Cond.methodLink RX0 68 yX0_lengthOf]
def wsL_law0_r5 : List Cond := [Cond.instanceMethod yX0_lengthOf, Cond.selects RX0 yX0_lengthOf yX0_lengthOf, Cond.code yX0_lengthOf cX0_lengthOf 2 (some .int), Cond.methodLink RX0 71 yX0_modulo, Cond.static yX0_modulo, Cond.code yX0_modulo cX0_modulo 4 (some .long), Cond.methodLink RX0 166 yJ9_floorMod_f86c9, Cond.static yJ9_floorMod_f86c9, Cond.initialized RJ9, Cond.code yJ9_floorMod_f86c9 cJ9_floorMod_f86c9 6 (some .long), Cond.methodLink RL 105 yX1_shift, Cond.instanceMethod yX1_shift, Cond.selects RX1 yX1_shift yX1_shift, Cond.code yX1_shift cX1_shift 3 (some .int), Cond.constantLong RX1 59 (-60), Cond.methodLink RX1 56 yX1_isMarket, Cond.instanceMethod yX1_isMarket, Cond.selects RX1 yX1_isMarket yX1_isMarket, Cond.code yX1_isMarket cX1_isMarket 2 (some .boolean), Cond.methodLink RX1 46 yX1_modulo, Cond.static yX1_modulo, Cond.code yX1_modulo cX1_modulo 6 (some .long), Cond.methodLink RL 106 yL_setMoon, Cond.static yL_setMoon]
def wsL_law0_r6 : List Cond := [Cond.codeWith yL_setMoon cL_setMoon 5 (some .int) [(0, 7, 10, 13)], Cond.methodLink RL 22 yX0_setMoon, Cond.instanceMethod yX0_setMoon, Cond.selects RX0 yX0_setMoon yX0_setMoon, Cond.code yX0_setMoon cX0_setMoon 4 none, Cond.methodLink RL 109 yX1_setMoon, Cond.instanceMethod yX1_setMoon, Cond.selects RX1 yX1_setMoon yX1_setMoon, Cond.code yX1_setMoon cX1_setMoon 5 none, Cond.constantLong RX1 61 (100), Cond.constantLong RX1 63 (2), Cond.constantLong RX1 65 (-1000), Cond.constantLong RX1 67 (1000), Cond.fieldLink RX1 69 "MarketWeeksModel" "moved" "I", Cond.methodLink RL 110 yL_setYear, Cond.static yL_setYear, Cond.codeWith yL_setYear cL_setYear 6 (some .int) [(0, 9, 12, 13)], Cond.methodLink RL 26 yX0_setYear, Cond.instanceMethod yX0_setYear, Cond.selects RX0 yX0_setYear yX0_setYear, Cond.code yX0_setYear cX0_setYear 5 none, Cond.methodLink RL 113 yX1_setYear, Cond.instanceMethod yX1_setYear, Cond.selects RX1 yX1_setYear yX1_setYear]
def wsL_law0_r7 : List Cond := [Cond.code yX1_setYear cX1_setYear 6 none, Cond.constantLong RX1 72 (500), Cond.constantLong RX1 74 (400), Cond.fieldLink RX1 76 "MarketWeeksModel" "b" "I", Cond.methodLink RL 114 yX0_markets, Cond.instanceMethod yX0_markets, Cond.selects RX0 yX0_markets yX0_markets, Cond.code yX0_markets cX0_markets 1 (some .int), Cond.methodLink RL 117 yX1_markets, Cond.instanceMethod yX1_markets, Cond.selects RX1 yX1_markets yX1_markets, Cond.code yX1_markets cX1_markets 1 (some .int), Cond.methodLink RL 118 yL_isHeld, Cond.static yL_isHeld, Cond.codeWith yL_isHeld cL_isHeld 5 (some .int) [(0, 17, 20, 20), (0, 17, 24, 13)], Cond.methodLink RL 30 yX0_isHeld, Cond.instanceMethod yX0_isHeld, Cond.selects RX0 yX0_isHeld yX0_isHeld, Cond.code yX0_isHeld cX0_isHeld 3 (some .boolean), Cond.methodLink RX0 75 yX0_checkDay, Cond.static yX0_checkDay, Cond.code yX0_checkDay cX0_checkDay 1 none, Cond.constant RX0 142 (-1000000), Cond.constant RX0 143 (1000000)]
def wsL_law0_r8 : List Cond := [Cond.methodLink RX0 78 yX0_isOn, Cond.instanceMethod yX0_isOn, Cond.selects RX0 yX0_isOn yX0_isOn, Cond.code yX0_isOn cX0_isOn 4 (some .boolean), Cond.methodLink RL 120 yX1_isHeld, Cond.instanceMethod yX1_isHeld, Cond.selects RX1 yX1_isHeld yX1_isHeld, Cond.code yX1_isHeld cX1_isHeld 3 (some .boolean), Cond.methodLink RX1 79 yX1_isDay, Cond.static yX1_isDay, Cond.code yX1_isDay cX1_isDay 1 (some .boolean), Cond.constantLong RX1 35 (-1000000), Cond.constantLong RX1 37 (1000000), Cond.methodLink RX1 82 yX1_holds, Cond.instanceMethod yX1_holds, Cond.selects RX1 yX1_holds yX1_holds, Cond.code yX1_holds cX1_holds 4 (some .boolean), Cond.methodLink RL 121 yL_next, Cond.static yL_next, Cond.codeWith yL_next cL_next 5 (some .int) [(0, 10, 13, 20), (0, 10, 17, 13)], Cond.methodLink RL 34 yX0_next, Cond.instanceMethod yX0_next, Cond.selects RX0 yX0_next yX0_next, Cond.code yX0_next cX0_next 3 (some .int)]
def wsL_law0_r9 : List Cond := [Cond.methodLink RL 123 yX1_next, Cond.instanceMethod yX1_next, Cond.selects RX1 yX1_next yX1_next, Cond.code yX1_next cX1_next 3 (some .int), Cond.methodLink RX1 86 yX1_from, Cond.instanceMethod yX1_from, Cond.selects RX1 yX1_from yX1_from, Cond.code yX1_from cX1_from 4 (some .int), Cond.methodLink RL 124 yL_nearest, Cond.static yL_nearest, Cond.codeWith yL_nearest cL_nearest 5 (some .int) [(0, 10, 13, 20), (0, 10, 17, 13)], Cond.methodLink RL 37 yX0_nearest, Cond.instanceMethod yX0_nearest, Cond.selects RX0 yX0_nearest yX0_nearest, Cond.code yX0_nearest cX0_nearest 6 (some .int), Cond.methodLink RL 126 yX1_nearest, Cond.instanceMethod yX1_nearest, Cond.selects RX1 yX1_nearest yX1_nearest, Cond.code yX1_nearest cX1_nearest 4 (some .int), Cond.methodLink RL 127 yL_times, Cond.static yL_times, Cond.codeWith yL_times cL_times 6 (some .int) [(0, 12, 15, 20), (0, 12, 19, 13)], Cond.methodLink RL 40 yX0_times, Cond.instanceMethod yX0_times]
def wsL_law0_r10 : List Cond := [Cond.selects RX0 yX0_times yX0_times, Cond.code yX0_times cX0_times 4 (some .int), Cond.methodLink RX0 82 yX0_countHeld, Cond.instanceMethod yX0_countHeld, Cond.selects RX0 yX0_countHeld yX0_countHeld, Cond.code yX0_countHeld cX0_countHeld 6 (some .int), Cond.methodLink RX0 120 yX0_divide, Cond.static yX0_divide, Cond.code yX0_divide cX0_divide 4 (some .long), Cond.methodLink RX0 161 yJ9_floorDiv_f86c9, Cond.static yJ9_floorDiv_f86c9, Cond.code yJ9_floorDiv_f86c9 cJ9_floorDiv_f86c9 6 (some .long), Cond.methodLink RL 130 yX1_times, Cond.instanceMethod yX1_times, Cond.selects RX1 yX1_times yX1_times, Cond.code yX1_times cX1_times 5 (some .int), Cond.methodLink RX1 97 yX1_count, Cond.instanceMethod yX1_count, Cond.selects RX1 yX1_count yX1_count, Cond.code yX1_count cX1_count 6 (some .int), Cond.methodLink RX1 93 yX1_before, Cond.instanceMethod yX1_before, Cond.selects RX1 yX1_before yX1_before, Cond.code yX1_before cX1_before 4 (some .long)]
def wsL_law0_r11 : List Cond := [Cond.methodLink RX1 90 yX1_part, Cond.static yX1_part, Cond.code yX1_part cX1_part 6 (some .long), Cond.methodLink RL 131 yL_heldOn, Cond.static yL_heldOn, Cond.codeWith yL_heldOn cL_heldOn 4 (some .int) [(0, 9, 12, 13)], Cond.methodLink RL 44 yX0_heldOn, Cond.instanceMethod yX0_heldOn, Cond.selects RX0 yX0_heldOn yX0_heldOn, Cond.code yX0_heldOn cX0_heldOn 2 (some .int), Cond.methodLink RX0 86 yX0_setOn, Cond.instanceMethod yX0_setOn, Cond.selects RX0 yX0_setOn yX0_setOn, Cond.code yX0_setOn cX0_setOn 4 (some .int), Cond.methodLink RL 134 yX1_heldOn, Cond.instanceMethod yX1_heldOn, Cond.selects RX1 yX1_heldOn yX1_heldOn, Cond.code yX1_heldOn cX1_heldOn 2 (some .int), Cond.methodLink RX1 101 yX1_held, Cond.instanceMethod yX1_held, Cond.selects RX1 yX1_held yX1_held, Cond.code yX1_held cX1_held 4 (some .int), Cond.methodLink RL 135 yL_doMeet, Cond.static yL_doMeet]
def wsL_law0_r12 : List Cond := [Cond.codeWith yL_doMeet cL_doMeet 4 (some .int) [(0, 16, 19, 13), (0, 16, 22, 20)], Cond.methodLink RL 48 yX0_doMeet, Cond.instanceMethod yX0_doMeet, Cond.selects RX0 yX0_doMeet yX0_doMeet, Cond.code yX0_doMeet cX0_doMeet 2 (some .boolean), Cond.constantLong RX0 96 (-1), Cond.methodLink RX0 89 yX0_checkMeetingSet, Cond.instanceMethod yX0_checkMeetingSet, Cond.selects RX0 yX0_checkMeetingSet yX0_checkMeetingSet, Cond.code yX0_checkMeetingSet cX0_checkMeetingSet 2 none, Cond.methodLink RX0 112 yJ6_bitCount_0f7a4, Cond.static yJ6_bitCount_0f7a4, Cond.initialized RJ6, Cond.code yJ6_bitCount_0f7a4 cJ6_bitCount_0f7a4 1 (some .int), Cond.constant RJ6 265 (1431655765), Cond.constant RJ6 266 (858993459), Cond.constant RJ6 267 (252645135), Cond.methodLink RX0 109 yX0_checkMarkets, Cond.instanceMethod yX0_checkMarkets, Cond.selects RX0 yX0_checkMarkets yX0_checkMarkets, Cond.code yX0_checkMarkets cX0_checkMarkets 2 none, Cond.methodLink RX0 92 yX0_firstMeeting, Cond.instanceMethod yX0_firstMeeting, Cond.selects RX0 yX0_firstMeeting yX0_firstMeeting]
def wsL_law0_r13 : List Cond := [Cond.code yX0_firstMeeting cX0_firstMeeting 7 (some .long), Cond.methodLink RX0 153 yX0_firstHeldInSteps, Cond.instanceMethod yX0_firstHeldInSteps, Cond.selects RX0 yX0_firstHeldInSteps yX0_firstHeldInSteps, Cond.code yX0_firstHeldInSteps cX0_firstHeldInSteps 10 (some .long), Cond.methodLink RX0 157 yX0_commonMultiple, Cond.static yX0_commonMultiple, Cond.code yX0_commonMultiple cX0_commonMultiple 4 (some .long), Cond.methodLink RL 137 yX1_doMeet, Cond.instanceMethod yX1_doMeet, Cond.selects RX1 yX1_doMeet yX1_doMeet, Cond.code yX1_doMeet cX1_doMeet 2 (some .boolean), Cond.methodLink RX1 117 yX1_faultOf, Cond.instanceMethod yX1_faultOf, Cond.selects RX1 yX1_faultOf yX1_faultOf, Cond.code yX1_faultOf cX1_faultOf 2 (some .int), Cond.constantLong RX1 108 (5), Cond.methodLink RX1 105 yX1_sizeOf, Cond.static yX1_sizeOf, Cond.code yX1_sizeOf cX1_sizeOf 3 (some .int), Cond.methodLink RX1 120 yX1_find, Cond.instanceMethod yX1_find, Cond.selects RX1 yX1_find yX1_find, Cond.code yX1_find cX1_find 7 (some .boolean)]
def wsL_law0_r14 : List Cond := [Cond.fieldLink RX1 110 "MarketWeeksModel" "found" "J", Cond.fieldLink RX1 114 "MarketWeeksModel" "step" "J", Cond.methodLink RL 138 yL_period, Cond.static yL_period, Cond.codeWith yL_period cL_period 4 (some .int) [(0, 9, 12, 13), (0, 9, 15, 20), (0, 9, 18, 15)], Cond.methodLink RL 52 yX0_period, Cond.instanceMethod yX0_period, Cond.selects RX0 yX0_period yX0_period, Cond.code yX0_period cX0_period 2 (some .int), Cond.methodLink RX0 98 yX0_checkTheyMeet, Cond.static yX0_checkTheyMeet, Cond.code yX0_checkTheyMeet cX0_checkTheyMeet 2 none, Cond.methodLink RX0 102 yX0_commonLength, Cond.instanceMethod yX0_commonLength, Cond.selects RX0 yX0_commonLength yX0_commonLength, Cond.code yX0_commonLength cX0_commonLength 5 (some .long), Cond.methodLink RL 140 yX1_period, Cond.instanceMethod yX1_period, Cond.selects RX1 yX1_period yX1_period, Cond.code yX1_period cX1_period 4 (some .int), Cond.methodLink RL 141 yL_meeting, Cond.static yL_meeting, Cond.codeWith yL_meeting cL_meeting 5 (some .int) [(0, 10, 13, 13), (0, 10, 17, 20), (0, 10, 21, 15)], Cond.methodLink RL 55 yX0_meeting]
def wsL_law0_r15 : List Cond := [Cond.instanceMethod yX0_meeting, Cond.selects RX0 yX0_meeting yX0_meeting, Cond.code yX0_meeting cX0_meeting 5 (some .int), Cond.methodLink RL 143 yX1_meeting, Cond.instanceMethod yX1_meeting, Cond.selects RX1 yX1_meeting yX1_meeting, Cond.code yX1_meeting cX1_meeting 5 (some .int), Cond.methodLink RL 144 yL_lunarMeeting, Cond.static yL_lunarMeeting, Cond.codeWith yL_lunarMeeting cL_lunarMeeting 7 (some .int) [(0, 13, 16, 13), (0, 13, 20, 20), (0, 13, 24, 15)], Cond.methodLink RL 58 yX0_lunarMeeting, Cond.instanceMethod yX0_lunarMeeting, Cond.selects RX0 yX0_lunarMeeting yX0_lunarMeeting, Cond.code yX0_lunarMeeting cX0_lunarMeeting 12 (some .long), Cond.methodLink RX0 105 yX0_lunarDayOf, Cond.instanceMethod yX0_lunarDayOf, Cond.selects RX0 yX0_lunarDayOf yX0_lunarDayOf, Cond.code yX0_lunarDayOf cX0_lunarDayOf 3 (some .long), Cond.methodLink RX0 117 yX0_moonParts, Cond.instanceMethod yX0_moonParts, Cond.selects RX0 yX0_moonParts yX0_moonParts, Cond.code yX0_moonParts cX0_moonParts 3 (some .long), Cond.methodLink RL 147 yX1_lunarMeeting, Cond.instanceMethod yX1_lunarMeeting]
def wsL_law0_r16 : List Cond := [Cond.selects RX1 yX1_lunarMeeting yX1_lunarMeeting, Cond.code yX1_lunarMeeting cX1_lunarMeeting 9 (some .long), Cond.constantLong RX1 124 (99), Cond.constantLong RX1 130 (-1), Cond.methodLink RX1 126 yX1_lunarOf, Cond.instanceMethod yX1_lunarOf, Cond.selects RX1 yX1_lunarOf yX1_lunarOf, Cond.code yX1_lunarOf cX1_lunarOf 3 (some .long), Cond.methodLink RL 148 yL_best, Cond.static yL_best, Cond.codeWith yL_best cL_best 6 (some .int) [(0, 12, 15, 13), (0, 12, 19, 20)], Cond.methodLink RL 62 yX0_best, Cond.instanceMethod yX0_best, Cond.selects RX0 yX0_best yX0_best, Cond.code yX0_best cX0_best 8 (some .int), Cond.methodLink RL 150 yX1_best, Cond.instanceMethod yX1_best, Cond.selects RX1 yX1_best yX1_best, Cond.code yX1_best cX1_best 7 (some .int), Cond.constantLong RX1 132 (2000), Cond.methodLink RL 151 yL_month, Cond.static yL_month, Cond.codeWith yL_month cL_month 4 (some .int) [(0, 9, 12, 13)], Cond.methodLink RL 65 yX0_month]
def wsL_law0_r17 : List Cond := [Cond.instanceMethod yX0_month, Cond.selects RX0 yX0_month yX0_month, Cond.code yX0_month cX0_month 2 (some .int), Cond.methodLink RL 153 yX1_month, Cond.instanceMethod yX1_month, Cond.selects RX1 yX1_month yX1_month, Cond.code yX1_month cX1_month 2 (some .int), Cond.methodLink RX1 134 yX1_monthOf, Cond.instanceMethod yX1_monthOf, Cond.selects RX1 yX1_monthOf yX1_monthOf, Cond.code yX1_monthOf cX1_monthOf 3 (some .long), Cond.methodLink RL 154 yL_lunarDay, Cond.static yL_lunarDay, Cond.codeWith yL_lunarDay cL_lunarDay 4 (some .int) [(0, 9, 12, 13)], Cond.methodLink RL 68 yX0_lunarDay, Cond.instanceMethod yX0_lunarDay, Cond.selects RX0 yX0_lunarDay yX0_lunarDay, Cond.code yX0_lunarDay cX0_lunarDay 2 (some .int), Cond.methodLink RL 156 yX1_lunarDay, Cond.instanceMethod yX1_lunarDay, Cond.selects RX1 yX1_lunarDay yX1_lunarDay, Cond.code yX1_lunarDay cX1_lunarDay 2 (some .int), Cond.methodLink RL 157 yL_monthBegin, Cond.static yL_monthBegin]
def wsL_law0_r18 : List Cond := [Cond.codeWith yL_monthBegin cL_monthBegin 4 (some .int) [(0, 9, 12, 13)], Cond.methodLink RL 71 yX0_monthBegin, Cond.instanceMethod yX0_monthBegin, Cond.selects RX0 yX0_monthBegin yX0_monthBegin, Cond.code yX0_monthBegin cX0_monthBegin 2 (some .int), Cond.constant RX0 123 (-100000), Cond.constant RX0 124 (100000), Cond.methodLink RL 159 yX1_monthBegin, Cond.instanceMethod yX1_monthBegin, Cond.selects RX1 yX1_monthBegin yX1_monthBegin, Cond.code yX1_monthBegin cX1_monthBegin 4 (some .int), Cond.constantLong RX1 137 (-100000), Cond.constantLong RX1 139 (100000), Cond.methodLink RL 160 yL_year, Cond.static yL_year, Cond.codeWith yL_year cL_year 4 (some .int) [(0, 9, 12, 13)], Cond.methodLink RL 74 yX0_year, Cond.instanceMethod yX0_year, Cond.selects RX0 yX0_year yX0_year, Cond.code yX0_year cX0_year 2 (some .int), Cond.methodLink RX0 125 yX0_yearOf, Cond.instanceMethod yX0_yearOf, Cond.selects RX0 yX0_yearOf yX0_yearOf, Cond.code yX0_yearOf cX0_yearOf 4 (some .int)]
def wsL_law0_r19 : List Cond := [Cond.methodLink RL 162 yX1_year, Cond.instanceMethod yX1_year, Cond.selects RX1 yX1_year yX1_year, Cond.code yX1_year cX1_year 2 (some .int), Cond.methodLink RX1 144 yX1_yearOf, Cond.instanceMethod yX1_yearOf, Cond.selects RX1 yX1_yearOf yX1_yearOf, Cond.code yX1_yearOf cX1_yearOf 4 (some .long), Cond.methodLink RX1 141 yX1_beginOf, Cond.instanceMethod yX1_beginOf, Cond.selects RX1 yX1_beginOf yX1_beginOf, Cond.code yX1_beginOf cX1_beginOf 3 (some .long), Cond.methodLink RL 163 yL_placeInYear, Cond.static yL_placeInYear, Cond.codeWith yL_placeInYear cL_placeInYear 4 (some .int) [(0, 9, 12, 13)], Cond.methodLink RL 77 yX0_placeInYear, Cond.instanceMethod yX0_placeInYear, Cond.selects RX0 yX0_placeInYear yX0_placeInYear, Cond.code yX0_placeInYear cX0_placeInYear 2 (some .int), Cond.methodLink RX0 128 yX0_yearBegin, Cond.instanceMethod yX0_yearBegin, Cond.selects RX0 yX0_yearBegin yX0_yearBegin, Cond.code yX0_yearBegin cX0_yearBegin 2 (some .int), Cond.methodLink RL 165 yX1_placeInYear]
def wsL_law0_r20 : List Cond := [Cond.instanceMethod yX1_placeInYear, Cond.selects RX1 yX1_placeInYear yX1_placeInYear, Cond.code yX1_placeInYear cX1_placeInYear 2 (some .int), Cond.methodLink RL 166 yL_isLeap, Cond.static yL_isLeap, Cond.codeWith yL_isLeap cL_isLeap 4 (some .int) [(0, 16, 19, 13)], Cond.methodLink RL 80 yX0_isLeap, Cond.instanceMethod yX0_isLeap, Cond.selects RX0 yX0_isLeap yX0_isLeap, Cond.code yX0_isLeap cX0_isLeap 2 (some .boolean), Cond.methodLink RX0 131 yX0_checkYear, Cond.static yX0_checkYear, Cond.code yX0_checkYear cX0_checkYear 1 none, Cond.methodLink RX0 134 yX0_hasLeapDay, Cond.instanceMethod yX0_hasLeapDay, Cond.selects RX0 yX0_hasLeapDay yX0_hasLeapDay, Cond.code yX0_hasLeapDay cX0_hasLeapDay 2 (some .boolean), Cond.methodLink RL 168 yX1_isLeap, Cond.instanceMethod yX1_isLeap, Cond.selects RX1 yX1_isLeap yX1_isLeap, Cond.code yX1_isLeap cX1_isLeap 2 (some .boolean), Cond.methodLink RX1 152 yX1_isYear, Cond.static yX1_isYear, Cond.code yX1_isYear cX1_isYear 1 (some .boolean)]
def wsL_law0_r21 : List Cond := [Cond.constantLong RX1 148 (-10000), Cond.constantLong RX1 150 (10000), Cond.methodLink RX1 155 yX1_leaps, Cond.instanceMethod yX1_leaps, Cond.selects RX1 yX1_leaps yX1_leaps, Cond.code yX1_leaps cX1_leaps 3 (some .boolean), Cond.methodLink RL 169 yL_dayOf, Cond.static yL_dayOf, Cond.codeWith yL_dayOf cL_dayOf 5 (some .int) [(0, 10, 13, 13)], Cond.methodLink RL 83 yX0_dayOf, Cond.instanceMethod yX0_dayOf, Cond.selects RX0 yX0_dayOf yX0_dayOf, Cond.code yX0_dayOf cX0_dayOf 4 (some .int), Cond.methodLink RL 171 yX1_dayOf, Cond.instanceMethod yX1_dayOf, Cond.selects RX1 yX1_dayOf yX1_dayOf, Cond.code yX1_dayOf cX1_dayOf 4 (some .int), Cond.methodLink RX1 159 yX1_lengthOf, Cond.instanceMethod yX1_lengthOf, Cond.selects RX1 yX1_lengthOf yX1_lengthOf, Cond.code yX1_lengthOf cX1_lengthOf 2 (some .long), Cond.methodLink RL 172 yL_timesInYear, Cond.static yL_timesInYear, Cond.codeWith yL_timesInYear cL_timesInYear 5 (some .int) [(0, 10, 13, 20), (0, 10, 17, 13)]]
def wsL_law0_r22 : List Cond := [Cond.methodLink RL 86 yX0_timesInYear, Cond.instanceMethod yX0_timesInYear, Cond.selects RX0 yX0_timesInYear yX0_timesInYear, Cond.code yX0_timesInYear cX0_timesInYear 3 (some .int), Cond.methodLink RL 174 yX1_timesInYear, Cond.instanceMethod yX1_timesInYear, Cond.selects RX1 yX1_timesInYear yX1_timesInYear, Cond.code yX1_timesInYear cX1_timesInYear 3 (some .int)]
def wsL_law0 : List Cond := (wsL_law0_r1 ++ (wsL_law0_r2 ++ (wsL_law0_r3 ++ (wsL_law0_r4 ++ (wsL_law0_r5 ++ (wsL_law0_r6 ++ (wsL_law0_r7 ++ (wsL_law0_r8 ++ (wsL_law0_r9 ++ (wsL_law0_r10 ++ (wsL_law0_r11 ++ (wsL_law0_r12 ++ (wsL_law0_r13 ++ (wsL_law0_r14 ++ (wsL_law0_r15 ++ (wsL_law0_r16 ++ (wsL_law0_r17 ++ (wsL_law0_r18 ++ (wsL_law0_r19 ++ (wsL_law0_r20 ++ (wsL_law0_r21 ++ wsL_law0_r22))))))))))))))))))))) ++ wsX00 ++ wsX10 ++ ([] : List Cond)
def wsL_law : List Cond := wsL_law0 ++ (vx_atS RX0 57 "java/lang/IllegalStateException" ["java/lang/RuntimeException", "java/lang/Exception"]).filter goodWord ++ (vx_atS RX0 141 "java/lang/IllegalArgumentException" ["java/lang/RuntimeException", "java/lang/Exception"]).filter goodWord ++ (vx_atS RX0 148 "java/lang/IndexOutOfBoundsException" ["java/lang/RuntimeException", "java/lang/Exception"]).filter goodWord
end
section
set_option maxRecDepth 20000 in
theorem in_wsL_law0_r1 : ∀ w ∈ wsL_law0_r1, w ∈ lw_tbl := fun w h => (goodIn_p wsL_law0_r1 [48, 51] (by decide +kernel) (by decide +kernel) w h).1
set_option maxRecDepth 20000 in
theorem in_wsL_law0_r2 : ∀ w ∈ wsL_law0_r2, w ∈ lw_tbl := fun w h => (goodIn_p wsL_law0_r2 [460, 96] (by decide +kernel) (by decide +kernel) w h).1
set_option maxRecDepth 20000 in
theorem in_wsL_law0_r3 : ∀ w ∈ wsL_law0_r3, w ∈ lw_tbl := fun w h => (goodIn_p wsL_law0_r3 [99, 102, 174, 509, 513, 517] (by decide +kernel) (by decide +kernel) w h).1
set_option maxRecDepth 20000 in
theorem in_wsL_law0_r4 : ∀ w ∈ wsL_law0_r4, w ∈ lw_tbl := fun w h => (goodIn_p wsL_law0_r4 [505, 198, 202, 222] (by decide +kernel) (by decide +kernel) w h).1
set_option maxRecDepth 20000 in
theorem in_wsL_law0_r5 : ∀ w ∈ wsL_law0_r5, w ∈ lw_tbl := fun w h => (goodIn_p wsL_law0_r5 [226, 229, 232, 521, 525, 529] (by decide +kernel) (by decide +kernel) w h).1
set_option maxRecDepth 20000 in
theorem in_wsL_law0_r6 : ∀ w ∈ wsL_law0_r6, w ∈ lw_tbl := fun w h => (goodIn_p wsL_law0_r6 [239, 533, 246] (by decide +kernel) (by decide +kernel) w h).1
set_option maxRecDepth 20000 in
theorem in_wsL_law0_r7 : ∀ w ∈ wsL_law0_r7, w ∈ lw_tbl := fun w h => (goodIn_p wsL_law0_r7 [541, 87, 547, 253, 256] (by decide +kernel) (by decide +kernel) w h).1
set_option maxRecDepth 20000 in
theorem in_wsL_law0_r8 : ∀ w ∈ wsL_law0_r8, w ∈ lw_tbl := fun w h => (goodIn_p wsL_law0_r8 [262, 551, 554, 560, 269] (by decide +kernel) (by decide +kernel) w h).1
set_option maxRecDepth 20000 in
theorem in_wsL_law0_r9 : ∀ w ∈ wsL_law0_r9, w ∈ lw_tbl := fun w h => (goodIn_p wsL_law0_r9 [564, 568, 276, 572] (by decide +kernel) (by decide +kernel) w h).1
set_option maxRecDepth 20000 in
theorem in_wsL_law0_r10 : ∀ w ∈ wsL_law0_r10, w ∈ lw_tbl := fun w h => (goodIn_p wsL_law0_r10 [283, 287, 290, 293, 576, 580, 584] (by decide +kernel) (by decide +kernel) w h).1
set_option maxRecDepth 20000 in
theorem in_wsL_law0_r11 : ∀ w ∈ wsL_law0_r11, w ∈ lw_tbl := fun w h => (goodIn_p wsL_law0_r11 [587, 300, 304, 591, 595] (by decide +kernel) (by decide +kernel) w h).1
set_option maxRecDepth 20000 in
theorem in_wsL_law0_r12 : ∀ w ∈ wsL_law0_r12, w ∈ lw_tbl := fun w h => (goodIn_p wsL_law0_r12 [311, 315, 318, 325] (by decide +kernel) (by decide +kernel) w h).1
end
section
set_option maxRecDepth 20000 in
theorem in_wsL_law0_r13 : ∀ w ∈ wsL_law0_r13, w ∈ lw_tbl := fun w h => (goodIn_p wsL_law0_r13 [330, 334, 338, 599, 603, 606, 611] (by decide +kernel) (by decide +kernel) w h).1
set_option maxRecDepth 20000 in
theorem in_wsL_law0_r14 : ∀ w ∈ wsL_law0_r14, w ∈ lw_tbl := fun w h => (goodIn_p wsL_law0_r14 [345, 348, 353, 615] (by decide +kernel) (by decide +kernel) w h).1
set_option maxRecDepth 20000 in
theorem in_wsL_law0_r15 : ∀ w ∈ wsL_law0_r15, w ∈ lw_tbl := fun w h => (goodIn_p wsL_law0_r15 [360, 619, 367, 371, 375] (by decide +kernel) (by decide +kernel) w h).1
set_option maxRecDepth 20000 in
theorem in_wsL_law0_r16 : ∀ w ∈ wsL_law0_r16, w ∈ lw_tbl := fun w h => (goodIn_p wsL_law0_r16 [623, 628, 382, 633] (by decide +kernel) (by decide +kernel) w h).1
set_option maxRecDepth 20000 in
theorem in_wsL_law0_r17 : ∀ w ∈ wsL_law0_r17, w ∈ lw_tbl := fun w h => (goodIn_p wsL_law0_r17 [389, 638, 642, 396, 646] (by decide +kernel) (by decide +kernel) w h).1
set_option maxRecDepth 20000 in
theorem in_wsL_law0_r18 : ∀ w ∈ wsL_law0_r18, w ∈ lw_tbl := fun w h => (goodIn_p wsL_law0_r18 [403, 650, 412, 416] (by decide +kernel) (by decide +kernel) w h).1
set_option maxRecDepth 20000 in
theorem in_wsL_law0_r19 : ∀ w ∈ wsL_law0_r19, w ∈ lw_tbl := fun w h => (goodIn_p wsL_law0_r19 [656, 660, 664, 423, 427] (by decide +kernel) (by decide +kernel) w h).1
set_option maxRecDepth 20000 in
theorem in_wsL_law0_r20 : ∀ w ∈ wsL_law0_r20, w ∈ lw_tbl := fun w h => (goodIn_p wsL_law0_r20 [668, 434, 437, 441, 672, 675] (by decide +kernel) (by decide +kernel) w h).1
set_option maxRecDepth 20000 in
theorem in_wsL_law0_r21 : ∀ w ∈ wsL_law0_r21, w ∈ lw_tbl := fun w h => (goodIn_p wsL_law0_r21 [681, 448, 685, 689] (by decide +kernel) (by decide +kernel) w h).1
set_option maxRecDepth 20000 in
theorem in_wsL_law0_r22 : ∀ w ∈ wsL_law0_r22, w ∈ lw_tbl := fun w h => (goodIn_p wsL_law0_r22 [455, 693] (by decide +kernel) (by decide +kernel) w h).1
theorem in_wsX00 : ∀ w ∈ wsX00, w ∈ lw_tbl := by decide +kernel
theorem in_wsX10 : ∀ w ∈ wsX10, w ∈ lw_tbl := by decide +kernel
theorem wsL_law_in0 : ∀ w ∈ wsL_law0, w ∈ lw_tbl := List.forall_mem_append.mpr ⟨List.forall_mem_append.mpr ⟨List.forall_mem_append.mpr ⟨List.forall_mem_append.mpr ⟨in_wsL_law0_r1, List.forall_mem_append.mpr ⟨in_wsL_law0_r2, List.forall_mem_append.mpr ⟨in_wsL_law0_r3, List.forall_mem_append.mpr ⟨in_wsL_law0_r4, List.forall_mem_append.mpr ⟨in_wsL_law0_r5, List.forall_mem_append.mpr ⟨in_wsL_law0_r6, List.forall_mem_append.mpr ⟨in_wsL_law0_r7, List.forall_mem_append.mpr ⟨in_wsL_law0_r8, List.forall_mem_append.mpr ⟨in_wsL_law0_r9, List.forall_mem_append.mpr ⟨in_wsL_law0_r10, List.forall_mem_append.mpr ⟨in_wsL_law0_r11, List.forall_mem_append.mpr ⟨in_wsL_law0_r12, List.forall_mem_append.mpr ⟨in_wsL_law0_r13, List.forall_mem_append.mpr ⟨in_wsL_law0_r14, List.forall_mem_append.mpr ⟨in_wsL_law0_r15, List.forall_mem_append.mpr ⟨in_wsL_law0_r16, List.forall_mem_append.mpr ⟨in_wsL_law0_r17, List.forall_mem_append.mpr ⟨in_wsL_law0_r18, List.forall_mem_append.mpr ⟨in_wsL_law0_r19, List.forall_mem_append.mpr ⟨in_wsL_law0_r20, List.forall_mem_append.mpr ⟨in_wsL_law0_r21, in_wsL_law0_r22⟩⟩⟩⟩⟩⟩⟩⟩⟩⟩⟩⟩⟩⟩⟩⟩⟩⟩⟩⟩⟩, in_wsX00⟩, in_wsX10⟩, fun _ h => absurd h List.not_mem_nil⟩
end
section
theorem wsL_law_x0 : ∀ w ∈ (vx_atS RX0 57 "java/lang/IllegalStateException" ["java/lang/RuntimeException", "java/lang/Exception"]).filter goodWord, w ∈ lw_tbl := by decide +kernel
theorem wsL_law_x1 : ∀ w ∈ (vx_atS RX0 141 "java/lang/IllegalArgumentException" ["java/lang/RuntimeException", "java/lang/Exception"]).filter goodWord, w ∈ lw_tbl := by decide +kernel
theorem wsL_law_x2 : ∀ w ∈ (vx_atS RX0 148 "java/lang/IndexOutOfBoundsException" ["java/lang/RuntimeException", "java/lang/Exception"]).filter goodWord, w ∈ lw_tbl := by decide +kernel
theorem wsL_law_in : ∀ w ∈ wsL_law, w ∈ lw_tbl := fun w h => (List.mem_append.mp h).elim (fun h => (List.mem_append.mp h).elim (fun h => (List.mem_append.mp h).elim (fun h => wsL_law_in0 w h) (fun h => wsL_law_x0 w h)) (fun h => wsL_law_x1 w h)) (fun h => wsL_law_x2 w h)
theorem inlX0 : ∀ w ∈ wsX00, w ∈ wsL_law := fun _ h => List.mem_append_left _ (List.mem_append_left _ (List.mem_append_left _ (List.mem_append_left _ (List.mem_append_left _ (List.mem_append_right _ h)))))
theorem inX0 : ∀ w ∈ wsX00, w ∈ lw_tbl := fun w h => wsL_law_in w (inlX0 w h)
theorem inlX1 : ∀ w ∈ wsX10, w ∈ wsL_law := fun _ h => List.mem_append_left _ (List.mem_append_left _ (List.mem_append_left _ (List.mem_append_left _ (List.mem_append_right _ h))))
theorem inX1 : ∀ w ∈ wsX10, w ∈ lw_tbl := fun w h => wsL_law_in w (inlX1 w h)
theorem inJ6 : ∀ w ∈ wsJ60, w ∈ lw_tbl := by decide +kernel
theorem inJ9 : ∀ w ∈ wsJ90, w ∈ lw_tbl := by decide +kernel
theorem inJ0 : ∀ w ∈ wsJ00, w ∈ lw_tbl := by decide +kernel
theorem dX0_init_0 : decode cX0_init 0 = .ok (.aload_n 0, 1) := by decide +kernel
theorem dX0_init_1 : decode cX0_init 1 = .ok (.invokespecial 1, 3) := by decide +kernel
theorem dX0_init_4 : decode cX0_init 4 = .ok (.aload_n 0, 1) := by decide +kernel
theorem dX0_init_5 : decode cX0_init 5 = .ok (.bipush 16, 2) := by decide +kernel
theorem dX0_init_7 : decode cX0_init 7 = .ok (.newarray .int, 2) := by decide +kernel
theorem dX0_init_9 : decode cX0_init 9 = .ok (.putfield 9, 3) := by decide +kernel
theorem dX0_init_12 : decode cX0_init 12 = .ok (.aload_n 0, 1) := by decide +kernel
theorem dX0_init_13 : decode cX0_init 13 = .ok (.bipush 16, 2) := by decide +kernel
theorem dX0_init_15 : decode cX0_init 15 = .ok (.newarray .int, 2) := by decide +kernel
theorem dX0_init_17 : decode cX0_init 17 = .ok (.putfield 13, 3) := by decide +kernel
theorem dX0_init_20 : decode cX0_init 20 = .ok (.aload_n 0, 1) := by decide +kernel
theorem dX0_init_21 : decode cX0_init 21 = .ok (.iconst 0, 1) := by decide +kernel
theorem dX0_init_22 : decode cX0_init 22 = .ok (.putfield 16, 3) := by decide +kernel
theorem dX0_init_25 : decode cX0_init 25 = .ok (.aload_n 0, 1) := by decide +kernel
theorem dX0_init_26 : decode cX0_init 26 = .ok (.sipush 1447, 3) := by decide +kernel
theorem dX0_init_29 : decode cX0_init 29 = .ok (.putfield 20, 3) := by decide +kernel
theorem dX0_init_32 : decode cX0_init 32 = .ok (.aload_n 0, 1) := by decide +kernel
theorem dX0_init_33 : decode cX0_init 33 = .ok (.bipush 49, 2) := by decide +kernel
theorem dX0_init_35 : decode cX0_init 35 = .ok (.putfield 23, 3) := by decide +kernel
theorem dX0_init_38 : decode cX0_init 38 = .ok (.aload_n 0, 1) := by decide +kernel
theorem dX0_init_39 : decode cX0_init 39 = .ok (.iconst 0, 1) := by decide +kernel
theorem dX0_init_40 : decode cX0_init 40 = .ok (.putfield 26, 3) := by decide +kernel
theorem dX0_init_43 : decode cX0_init 43 = .ok (.aload_n 0, 1) := by decide +kernel
theorem dX0_init_44 : decode cX0_init 44 = .ok (.sipush 365, 3) := by decide +kernel
theorem dX0_init_47 : decode cX0_init 47 = .ok (.putfield 29, 3) := by decide +kernel
theorem dX0_init_50 : decode cX0_init 50 = .ok (.aload_n 0, 1) := by decide +kernel
theorem dX0_init_51 : decode cX0_init 51 = .ok (.bipush 8, 2) := by decide +kernel
theorem dX0_init_53 : decode cX0_init 53 = .ok (.putfield 32, 3) := by decide +kernel
theorem dX0_init_56 : decode cX0_init 56 = .ok (.aload_n 0, 1) := by decide +kernel
theorem dX0_init_57 : decode cX0_init 57 = .ok (.iconst 0, 1) := by decide +kernel
theorem dX0_init_58 : decode cX0_init 58 = .ok (.putfield 35, 3) := by decide +kernel
theorem dX0_init_61 : decode cX0_init 61 = .ok (.aload_n 0, 1) := by decide +kernel
theorem dX0_init_62 : decode cX0_init 62 = .ok (.bipush 33, 2) := by decide +kernel
theorem dX0_init_64 : decode cX0_init 64 = .ok (.putfield 38, 3) := by decide +kernel
theorem dX0_init_67 : decode cX0_init 67 = .ok (.return_, 1) := by decide +kernel
set_option maxRecDepth 20000 in
theorem ggX0_addMarket_X0_isWithin : GoodIn wsX0_addMarket wsX0_isWithin := goodIn_r _ [9] (by decide +kernel) (by decide +kernel)
set_option maxRecDepth 20000 in
theorem gX0_addMarket_X0_isWithin : GoodIn wsX0_addMarket (va_wsS RX0 41 yX0_isWithin wsX0_isWithin) := goodIn_app (goodIn_of _ (by decide +kernel)) ggX0_addMarket_X0_isWithin
set_option maxRecDepth 20000 in
theorem ggX0_addMarket_X0_checkArgument : GoodIn wsX0_addMarket wsX0_checkArgument := goodIn_ca (goodIn_r _ [12, 13, 14] (by decide +kernel) (by decide +kernel)) (goodIn_sub (fun _ h => List.mem_cons_of_mem _ (List.mem_append_right _ h)) (by decide +kernel))
set_option maxRecDepth 20000 in
theorem gX0_addMarket_X0_checkArgument : GoodIn wsX0_addMarket (va_wsS RX0 45 yX0_checkArgument wsX0_checkArgument) := goodIn_app (goodIn_of _ (by decide +kernel)) ggX0_addMarket_X0_checkArgument
set_option maxRecDepth 20000 in
theorem ggX0_addMarket_X0_isPlace : GoodIn wsX0_addMarket wsX0_isPlace := goodIn_r _ [18, 4, 5, 19, 20, 21, 22, 23, 24, 25, 26, 27, 28] (by decide +kernel) (by decide +kernel)
set_option maxRecDepth 20000 in
theorem gX0_addMarket_X0_isPlace : GoodIn wsX0_addMarket (wsV RX0 49 RX0 yX0_isPlace wsX0_isPlace) := goodIn_app (goodIn_of _ (by decide +kernel)) ggX0_addMarket_X0_isPlace
theorem dX0_addMarket_0 : decode cX0_addMarket 0 = .ok (.iload_n 1, 1) := by decide +kernel
theorem dX0_addMarket_1 : decode cX0_addMarket 1 = .ok (.iconst 1, 1) := by decide +kernel
theorem dX0_addMarket_2 : decode cX0_addMarket 2 = .ok (.bipush 60, 2) := by decide +kernel
theorem dX0_addMarket_4 : decode cX0_addMarket 4 = .ok (.invokestatic 41, 3) := by decide +kernel
theorem dX0_addMarket_7 : decode cX0_addMarket 7 = .ok (.ifCond .eq 18, 3) := by decide +kernel
theorem dX0_addMarket_10 : decode cX0_addMarket 10 = .ok (.iload_n 2, 1) := by decide +kernel
theorem dX0_addMarket_11 : decode cX0_addMarket 11 = .ok (.iconst 0, 1) := by decide +kernel
theorem dX0_addMarket_12 : decode cX0_addMarket 12 = .ok (.iload_n 1, 1) := by decide +kernel
theorem dX0_addMarket_13 : decode cX0_addMarket 13 = .ok (.iconst 1, 1) := by decide +kernel
theorem dX0_addMarket_14 : decode cX0_addMarket 14 = .ok (.isub, 1) := by decide +kernel
theorem dX0_addMarket_15 : decode cX0_addMarket 15 = .ok (.invokestatic 41, 3) := by decide +kernel
theorem dX0_addMarket_18 : decode cX0_addMarket 18 = .ok (.ifCond .eq 7, 3) := by decide +kernel
theorem dX0_addMarket_21 : decode cX0_addMarket 21 = .ok (.iconst 1, 1) := by decide +kernel
theorem dX0_addMarket_22 : decode cX0_addMarket 22 = .ok (.goto 4, 3) := by decide +kernel
theorem dX0_addMarket_25 : decode cX0_addMarket 25 = .ok (.iconst 0, 1) := by decide +kernel
theorem dX0_addMarket_26 : decode cX0_addMarket 26 = .ok (.invokestatic 45, 3) := by decide +kernel
theorem dX0_addMarket_29 : decode cX0_addMarket 29 = .ok (.aload_n 0, 1) := by decide +kernel
theorem dX0_addMarket_30 : decode cX0_addMarket 30 = .ok (.getfield 16, 3) := by decide +kernel
theorem dX0_addMarket_33 : decode cX0_addMarket 33 = .ok (.istore_n 3, 1) := by decide +kernel
theorem dX0_addMarket_34 : decode cX0_addMarket 34 = .ok (.aload_n 0, 1) := by decide +kernel
theorem dX0_addMarket_35 : decode cX0_addMarket 35 = .ok (.iload_n 3, 1) := by decide +kernel
theorem dX0_addMarket_36 : decode cX0_addMarket 36 = .ok (.invokevirtual 49, 3) := by decide +kernel
theorem dX0_addMarket_39 : decode cX0_addMarket 39 = .ok (.ifCond .ne 13, 3) := by decide +kernel
theorem dX0_addMarket_42 : decode cX0_addMarket 42 = .ok (.new 53, 3) := by decide +kernel
theorem dX0_addMarket_45 : decode cX0_addMarket 45 = .ok (.dup, 1) := by decide +kernel
theorem dX0_addMarket_46 : decode cX0_addMarket 46 = .ok (.ldc 55, 2) := by decide +kernel
theorem dX0_addMarket_48 : decode cX0_addMarket 48 = .ok (.invokespecial 57, 3) := by decide +kernel
theorem dX0_addMarket_51 : decode cX0_addMarket 51 = .ok (.athrow, 1) := by decide +kernel
theorem dX0_addMarket_52 : decode cX0_addMarket 52 = .ok (.aload_n 0, 1) := by decide +kernel
theorem dX0_addMarket_53 : decode cX0_addMarket 53 = .ok (.getfield 9, 3) := by decide +kernel
theorem dX0_addMarket_56 : decode cX0_addMarket 56 = .ok (.iload_n 3, 1) := by decide +kernel
theorem dX0_addMarket_57 : decode cX0_addMarket 57 = .ok (.iload_n 1, 1) := by decide +kernel
theorem dX0_addMarket_58 : decode cX0_addMarket 58 = .ok (.iastore, 1) := by decide +kernel
theorem dX0_addMarket_59 : decode cX0_addMarket 59 = .ok (.aload_n 0, 1) := by decide +kernel
theorem dX0_addMarket_60 : decode cX0_addMarket 60 = .ok (.getfield 13, 3) := by decide +kernel
theorem dX0_addMarket_63 : decode cX0_addMarket 63 = .ok (.iload_n 3, 1) := by decide +kernel
theorem dX0_addMarket_64 : decode cX0_addMarket 64 = .ok (.iload_n 2, 1) := by decide +kernel
theorem dX0_addMarket_65 : decode cX0_addMarket 65 = .ok (.iastore, 1) := by decide +kernel
theorem dX0_addMarket_66 : decode cX0_addMarket 66 = .ok (.aload_n 0, 1) := by decide +kernel
theorem dX0_addMarket_67 : decode cX0_addMarket 67 = .ok (.iload_n 3, 1) := by decide +kernel
theorem dX0_addMarket_68 : decode cX0_addMarket 68 = .ok (.iconst 1, 1) := by decide +kernel
theorem dX0_addMarket_69 : decode cX0_addMarket 69 = .ok (.iadd, 1) := by decide +kernel
theorem dX0_addMarket_70 : decode cX0_addMarket 70 = .ok (.putfield 16, 3) := by decide +kernel
theorem dX0_addMarket_73 : decode cX0_addMarket 73 = .ok (.iload_n 3, 1) := by decide +kernel
theorem dX0_addMarket_74 : decode cX0_addMarket 74 = .ok (.ireturn, 1) := by decide +kernel
set_option maxRecDepth 20000 in
theorem ggX0_shift_X0_checkMarket : GoodIn wsX0_shift wsX0_checkMarket := goodIn_ca (goodIn_r _ [6, 7, 8, 9, 10, 11, 5, 12, 38, 39, 40, 41, 42, 43, 44, 45, 46, 47] (by decide +kernel) (by decide +kernel)) (goodIn_sub (fun _ h => List.mem_cons_of_mem _ (List.mem_append_left _ (List.mem_append_right _ h))) (by decide +kernel))
set_option maxRecDepth 20000 in
theorem gX0_shift_X0_checkMarket : GoodIn wsX0_shift (wsV RX0 60 RX0 yX0_checkMarket wsX0_checkMarket) := goodIn_app (goodIn_of _ (by decide +kernel)) ggX0_shift_X0_checkMarket
set_option maxRecDepth 20000 in
theorem ggX0_shift_X0_isWithin : GoodIn wsX0_shift wsX0_isWithin := goodIn_r _ [12] (by decide +kernel) (by decide +kernel)
set_option maxRecDepth 20000 in
theorem gX0_shift_X0_isWithin : GoodIn wsX0_shift (va_wsS RX0 41 yX0_isWithin wsX0_isWithin) := goodIn_app (goodIn_of _ (by decide +kernel)) ggX0_shift_X0_isWithin
set_option maxRecDepth 20000 in
theorem ggX0_shift_X0_checkArgument : GoodIn wsX0_shift wsX0_checkArgument := goodIn_ca (goodIn_r _ [15, 16, 17] (by decide +kernel) (by decide +kernel)) (goodIn_sub (fun _ h => List.mem_cons_of_mem _ (List.mem_append_right _ h)) (by decide +kernel))
set_option maxRecDepth 20000 in
theorem gX0_shift_X0_checkArgument : GoodIn wsX0_shift (va_wsS RX0 45 yX0_checkArgument wsX0_checkArgument) := goodIn_app (goodIn_of _ (by decide +kernel)) ggX0_shift_X0_checkArgument
set_option maxRecDepth 20000 in
theorem ggX0_shift_X0_placeOf : GoodIn wsX0_shift wsX0_placeOf := goodIn_r _ [21, 1, 22, 23, 24, 5, 25, 26, 38, 39, 40, 41, 42, 43, 44, 45, 46, 47] (by decide +kernel) (by decide +kernel)
set_option maxRecDepth 20000 in
theorem gX0_shift_X0_placeOf : GoodIn wsX0_shift (wsV RX0 64 RX0 yX0_placeOf wsX0_placeOf) := goodIn_app (goodIn_of _ (by decide +kernel)) ggX0_shift_X0_placeOf
set_option maxRecDepth 20000 in
theorem ggX0_shift_X0_lengthOf : GoodIn wsX0_shift wsX0_lengthOf := goodIn_r _ [30, 26, 22, 23, 24, 5, 25, 1, 38, 39, 40, 41, 42, 43, 44, 45, 46, 47] (by decide +kernel) (by decide +kernel)
set_option maxRecDepth 20000 in
theorem gX0_shift_X0_lengthOf : GoodIn wsX0_shift (wsV RX0 68 RX0 yX0_lengthOf wsX0_lengthOf) := goodIn_app (goodIn_of _ (by decide +kernel)) ggX0_shift_X0_lengthOf
set_option maxRecDepth 20000 in
theorem ggX0_shift_X0_modulo : GoodIn wsX0_shift wsX0_modulo := goodIn_r _ [33, 34, 35, 36, 37] (by decide +kernel) (by decide +kernel)
set_option maxRecDepth 20000 in
theorem gX0_shift_X0_modulo : GoodIn wsX0_shift (va_wsS RX0 71 yX0_modulo wsX0_modulo) := goodIn_app (goodIn_of _ (by decide +kernel)) ggX0_shift_X0_modulo
set_option maxRecDepth 20000 in
theorem ggX0_shift_X0_isPlace : GoodIn wsX0_shift wsX0_isPlace := goodIn_r _ [25, 26, 1, 38, 39, 40, 41, 42, 43, 44, 45, 46, 47] (by decide +kernel) (by decide +kernel)
set_option maxRecDepth 20000 in
theorem gX0_shift_X0_isPlace : GoodIn wsX0_shift (wsV RX0 49 RX0 yX0_isPlace wsX0_isPlace) := goodIn_app (goodIn_of _ (by decide +kernel)) ggX0_shift_X0_isPlace
theorem dX0_shift_0 : decode cX0_shift 0 = .ok (.aload_n 0, 1) := by decide +kernel
theorem dX0_shift_1 : decode cX0_shift 1 = .ok (.iload_n 1, 1) := by decide +kernel
theorem dX0_shift_2 : decode cX0_shift 2 = .ok (.invokevirtual 60, 3) := by decide +kernel
theorem dX0_shift_5 : decode cX0_shift 5 = .ok (.iload_n 2, 1) := by decide +kernel
theorem dX0_shift_6 : decode cX0_shift 6 = .ok (.bipush (-60), 2) := by decide +kernel
theorem dX0_shift_8 : decode cX0_shift 8 = .ok (.bipush 60, 2) := by decide +kernel
theorem dX0_shift_10 : decode cX0_shift 10 = .ok (.invokestatic 41, 3) := by decide +kernel
theorem dX0_shift_13 : decode cX0_shift 13 = .ok (.invokestatic 45, 3) := by decide +kernel
theorem dX0_shift_16 : decode cX0_shift 16 = .ok (.aload_n 0, 1) := by decide +kernel
theorem dX0_shift_17 : decode cX0_shift 17 = .ok (.iload_n 1, 1) := by decide +kernel
theorem dX0_shift_18 : decode cX0_shift 18 = .ok (.invokevirtual 64, 3) := by decide +kernel
theorem dX0_shift_21 : decode cX0_shift 21 = .ok (.iload_n 2, 1) := by decide +kernel
theorem dX0_shift_22 : decode cX0_shift 22 = .ok (.iadd, 1) := by decide +kernel
theorem dX0_shift_23 : decode cX0_shift 23 = .ok (.i2l, 1) := by decide +kernel
theorem dX0_shift_24 : decode cX0_shift 24 = .ok (.aload_n 0, 1) := by decide +kernel
theorem dX0_shift_25 : decode cX0_shift 25 = .ok (.iload_n 1, 1) := by decide +kernel
theorem dX0_shift_26 : decode cX0_shift 26 = .ok (.invokevirtual 68, 3) := by decide +kernel
theorem dX0_shift_29 : decode cX0_shift 29 = .ok (.i2l, 1) := by decide +kernel
theorem dX0_shift_30 : decode cX0_shift 30 = .ok (.invokestatic 71, 3) := by decide +kernel
theorem dX0_shift_33 : decode cX0_shift 33 = .ok (.l2i, 1) := by decide +kernel
theorem dX0_shift_34 : decode cX0_shift 34 = .ok (.istore_n 3, 1) := by decide +kernel
theorem dX0_shift_35 : decode cX0_shift 35 = .ok (.aload_n 0, 1) := by decide +kernel
theorem dX0_shift_36 : decode cX0_shift 36 = .ok (.iload_n 1, 1) := by decide +kernel
theorem dX0_shift_37 : decode cX0_shift 37 = .ok (.invokevirtual 49, 3) := by decide +kernel
theorem dX0_shift_40 : decode cX0_shift 40 = .ok (.ifCond .eq 10, 3) := by decide +kernel
theorem dX0_shift_43 : decode cX0_shift 43 = .ok (.aload_n 0, 1) := by decide +kernel
theorem dX0_shift_44 : decode cX0_shift 44 = .ok (.getfield 13, 3) := by decide +kernel
theorem dX0_shift_47 : decode cX0_shift 47 = .ok (.iload_n 1, 1) := by decide +kernel
theorem dX0_shift_48 : decode cX0_shift 48 = .ok (.iload_n 3, 1) := by decide +kernel
theorem dX0_shift_49 : decode cX0_shift 49 = .ok (.iastore, 1) := by decide +kernel
theorem dX0_shift_50 : decode cX0_shift 50 = .ok (.iload_n 3, 1) := by decide +kernel
theorem dX0_shift_51 : decode cX0_shift 51 = .ok (.ireturn, 1) := by decide +kernel
set_option maxRecDepth 20000 in
theorem ggX0_setMoon_X0_isWithin : GoodIn wsX0_setMoon wsX0_isWithin := goodIn_r _ [7] (by decide +kernel) (by decide +kernel)
set_option maxRecDepth 20000 in
theorem gX0_setMoon_X0_isWithin : GoodIn wsX0_setMoon (va_wsS RX0 41 yX0_isWithin wsX0_isWithin) := goodIn_app (goodIn_of _ (by decide +kernel)) ggX0_setMoon_X0_isWithin
set_option maxRecDepth 20000 in
theorem ggX0_setMoon_X0_checkArgument : GoodIn wsX0_setMoon wsX0_checkArgument := goodIn_ca (goodIn_r _ [10, 11, 12] (by decide +kernel) (by decide +kernel)) (goodIn_sub (fun _ h => List.mem_cons_of_mem _ (List.mem_append_right _ h)) (by decide +kernel))
set_option maxRecDepth 20000 in
theorem gX0_setMoon_X0_checkArgument : GoodIn wsX0_setMoon (va_wsS RX0 45 yX0_checkArgument wsX0_checkArgument) := goodIn_app (goodIn_of _ (by decide +kernel)) ggX0_setMoon_X0_checkArgument
theorem dX0_setMoon_0 : decode cX0_setMoon 0 = .ok (.iload_n 2, 1) := by decide +kernel
theorem dX0_setMoon_1 : decode cX0_setMoon 1 = .ok (.iconst 1, 1) := by decide +kernel
theorem dX0_setMoon_2 : decode cX0_setMoon 2 = .ok (.bipush 100, 2) := by decide +kernel
theorem dX0_setMoon_4 : decode cX0_setMoon 4 = .ok (.invokestatic 41, 3) := by decide +kernel
theorem dX0_setMoon_7 : decode cX0_setMoon 7 = .ok (.ifCond .eq 21, 3) := by decide +kernel
theorem dX0_setMoon_10 : decode cX0_setMoon 10 = .ok (.iload_n 1, 1) := by decide +kernel
theorem dX0_setMoon_11 : decode cX0_setMoon 11 = .ok (.iconst 2, 1) := by decide +kernel
theorem dX0_setMoon_12 : decode cX0_setMoon 12 = .ok (.iload_n 2, 1) := by decide +kernel
theorem dX0_setMoon_13 : decode cX0_setMoon 13 = .ok (.imul, 1) := by decide +kernel
theorem dX0_setMoon_14 : decode cX0_setMoon 14 = .ok (.bipush 100, 2) := by decide +kernel
theorem dX0_setMoon_16 : decode cX0_setMoon 16 = .ok (.iload_n 2, 1) := by decide +kernel
theorem dX0_setMoon_17 : decode cX0_setMoon 17 = .ok (.imul, 1) := by decide +kernel
theorem dX0_setMoon_18 : decode cX0_setMoon 18 = .ok (.invokestatic 41, 3) := by decide +kernel
theorem dX0_setMoon_21 : decode cX0_setMoon 21 = .ok (.ifCond .eq 7, 3) := by decide +kernel
theorem dX0_setMoon_24 : decode cX0_setMoon 24 = .ok (.iconst 1, 1) := by decide +kernel
theorem dX0_setMoon_25 : decode cX0_setMoon 25 = .ok (.goto 4, 3) := by decide +kernel
theorem dX0_setMoon_28 : decode cX0_setMoon 28 = .ok (.iconst 0, 1) := by decide +kernel
theorem dX0_setMoon_29 : decode cX0_setMoon 29 = .ok (.invokestatic 45, 3) := by decide +kernel
theorem dX0_setMoon_32 : decode cX0_setMoon 32 = .ok (.iload_n 3, 1) := by decide +kernel
theorem dX0_setMoon_33 : decode cX0_setMoon 33 = .ok (.sipush (-1000), 3) := by decide +kernel
theorem dX0_setMoon_36 : decode cX0_setMoon 36 = .ok (.sipush 1000, 3) := by decide +kernel
theorem dX0_setMoon_39 : decode cX0_setMoon 39 = .ok (.invokestatic 41, 3) := by decide +kernel
theorem dX0_setMoon_42 : decode cX0_setMoon 42 = .ok (.invokestatic 45, 3) := by decide +kernel
theorem dX0_setMoon_45 : decode cX0_setMoon 45 = .ok (.aload_n 0, 1) := by decide +kernel
theorem dX0_setMoon_46 : decode cX0_setMoon 46 = .ok (.iload_n 1, 1) := by decide +kernel
theorem dX0_setMoon_47 : decode cX0_setMoon 47 = .ok (.putfield 20, 3) := by decide +kernel
theorem dX0_setMoon_50 : decode cX0_setMoon 50 = .ok (.aload_n 0, 1) := by decide +kernel
theorem dX0_setMoon_51 : decode cX0_setMoon 51 = .ok (.iload_n 2, 1) := by decide +kernel
theorem dX0_setMoon_52 : decode cX0_setMoon 52 = .ok (.putfield 23, 3) := by decide +kernel
theorem dX0_setMoon_55 : decode cX0_setMoon 55 = .ok (.aload_n 0, 1) := by decide +kernel
theorem dX0_setMoon_56 : decode cX0_setMoon 56 = .ok (.iload_n 3, 1) := by decide +kernel
theorem dX0_setMoon_57 : decode cX0_setMoon 57 = .ok (.putfield 26, 3) := by decide +kernel
theorem dX0_setMoon_60 : decode cX0_setMoon 60 = .ok (.return_, 1) := by decide +kernel
set_option maxRecDepth 20000 in
theorem ggX0_setYear_X0_isWithin : GoodIn wsX0_setYear wsX0_isWithin := goodIn_r _ [8] (by decide +kernel) (by decide +kernel)
set_option maxRecDepth 20000 in
theorem gX0_setYear_X0_isWithin : GoodIn wsX0_setYear (va_wsS RX0 41 yX0_isWithin wsX0_isWithin) := goodIn_app (goodIn_of _ (by decide +kernel)) ggX0_setYear_X0_isWithin
set_option maxRecDepth 20000 in
theorem ggX0_setYear_X0_checkArgument : GoodIn wsX0_setYear wsX0_checkArgument := goodIn_ca (goodIn_r _ [11, 12, 13] (by decide +kernel) (by decide +kernel)) (goodIn_sub (fun _ h => List.mem_cons_of_mem _ (List.mem_append_right _ h)) (by decide +kernel))
set_option maxRecDepth 20000 in
theorem gX0_setYear_X0_checkArgument : GoodIn wsX0_setYear (va_wsS RX0 45 yX0_checkArgument wsX0_checkArgument) := goodIn_app (goodIn_of _ (by decide +kernel)) ggX0_setYear_X0_checkArgument
theorem dX0_setYear_0 : decode cX0_setYear 0 = .ok (.iload_n 1, 1) := by decide +kernel
theorem dX0_setYear_1 : decode cX0_setYear 1 = .ok (.bipush 100, 2) := by decide +kernel
theorem dX0_setYear_3 : decode cX0_setYear 3 = .ok (.sipush 500, 3) := by decide +kernel
theorem dX0_setYear_6 : decode cX0_setYear 6 = .ok (.invokestatic 41, 3) := by decide +kernel
theorem dX0_setYear_9 : decode cX0_setYear 9 = .ok (.ifCond .eq 19, 3) := by decide +kernel
theorem dX0_setYear_12 : decode cX0_setYear 12 = .ok (.iload 4, 2) := by decide +kernel
theorem dX0_setYear_14 : decode cX0_setYear 14 = .ok (.iconst 1, 1) := by decide +kernel
theorem dX0_setYear_15 : decode cX0_setYear 15 = .ok (.sipush 400, 3) := by decide +kernel
theorem dX0_setYear_18 : decode cX0_setYear 18 = .ok (.invokestatic 41, 3) := by decide +kernel
theorem dX0_setYear_21 : decode cX0_setYear 21 = .ok (.ifCond .eq 7, 3) := by decide +kernel
theorem dX0_setYear_24 : decode cX0_setYear 24 = .ok (.iconst 1, 1) := by decide +kernel
theorem dX0_setYear_25 : decode cX0_setYear 25 = .ok (.goto 4, 3) := by decide +kernel
theorem dX0_setYear_28 : decode cX0_setYear 28 = .ok (.iconst 0, 1) := by decide +kernel
theorem dX0_setYear_29 : decode cX0_setYear 29 = .ok (.invokestatic 45, 3) := by decide +kernel
theorem dX0_setYear_32 : decode cX0_setYear 32 = .ok (.iload_n 2, 1) := by decide +kernel
theorem dX0_setYear_33 : decode cX0_setYear 33 = .ok (.iconst 0, 1) := by decide +kernel
theorem dX0_setYear_34 : decode cX0_setYear 34 = .ok (.iload 4, 2) := by decide +kernel
theorem dX0_setYear_36 : decode cX0_setYear 36 = .ok (.invokestatic 41, 3) := by decide +kernel
theorem dX0_setYear_39 : decode cX0_setYear 39 = .ok (.ifCond .eq 19, 3) := by decide +kernel
theorem dX0_setYear_42 : decode cX0_setYear 42 = .ok (.iload_n 3, 1) := by decide +kernel
theorem dX0_setYear_43 : decode cX0_setYear 43 = .ok (.iconst 0, 1) := by decide +kernel
theorem dX0_setYear_44 : decode cX0_setYear 44 = .ok (.iload 4, 2) := by decide +kernel
theorem dX0_setYear_46 : decode cX0_setYear 46 = .ok (.iconst 1, 1) := by decide +kernel
theorem dX0_setYear_47 : decode cX0_setYear 47 = .ok (.isub, 1) := by decide +kernel
theorem dX0_setYear_48 : decode cX0_setYear 48 = .ok (.invokestatic 41, 3) := by decide +kernel
theorem dX0_setYear_51 : decode cX0_setYear 51 = .ok (.ifCond .eq 7, 3) := by decide +kernel
theorem dX0_setYear_54 : decode cX0_setYear 54 = .ok (.iconst 1, 1) := by decide +kernel
theorem dX0_setYear_55 : decode cX0_setYear 55 = .ok (.goto 4, 3) := by decide +kernel
theorem dX0_setYear_58 : decode cX0_setYear 58 = .ok (.iconst 0, 1) := by decide +kernel
theorem dX0_setYear_59 : decode cX0_setYear 59 = .ok (.invokestatic 45, 3) := by decide +kernel
theorem dX0_setYear_62 : decode cX0_setYear 62 = .ok (.aload_n 0, 1) := by decide +kernel
theorem dX0_setYear_63 : decode cX0_setYear 63 = .ok (.iload_n 1, 1) := by decide +kernel
theorem dX0_setYear_64 : decode cX0_setYear 64 = .ok (.putfield 29, 3) := by decide +kernel
theorem dX0_setYear_67 : decode cX0_setYear 67 = .ok (.aload_n 0, 1) := by decide +kernel
theorem dX0_setYear_68 : decode cX0_setYear 68 = .ok (.iload_n 2, 1) := by decide +kernel
theorem dX0_setYear_69 : decode cX0_setYear 69 = .ok (.putfield 32, 3) := by decide +kernel
theorem dX0_setYear_72 : decode cX0_setYear 72 = .ok (.aload_n 0, 1) := by decide +kernel
theorem dX0_setYear_73 : decode cX0_setYear 73 = .ok (.iload_n 3, 1) := by decide +kernel
theorem dX0_setYear_74 : decode cX0_setYear 74 = .ok (.putfield 35, 3) := by decide +kernel
theorem dX0_setYear_77 : decode cX0_setYear 77 = .ok (.aload_n 0, 1) := by decide +kernel
theorem dX0_setYear_78 : decode cX0_setYear 78 = .ok (.iload 4, 2) := by decide +kernel
theorem dX0_setYear_80 : decode cX0_setYear 80 = .ok (.putfield 38, 3) := by decide +kernel
theorem dX0_setYear_83 : decode cX0_setYear 83 = .ok (.return_, 1) := by decide +kernel
theorem dX0_markets_0 : decode cX0_markets 0 = .ok (.aload_n 0, 1) := by decide +kernel
theorem dX0_markets_1 : decode cX0_markets 1 = .ok (.getfield 16, 3) := by decide +kernel
theorem dX0_markets_4 : decode cX0_markets 4 = .ok (.ireturn, 1) := by decide +kernel
set_option maxRecDepth 20000 in
theorem ggX0_isHeld_X0_checkMarket : GoodIn wsX0_isHeld wsX0_checkMarket := goodIn_ca (goodIn_r _ [5, 6, 7, 8, 9, 10, 4, 11, 47, 48, 49, 50, 51, 52, 53, 54, 55, 56] (by decide +kernel) (by decide +kernel)) (goodIn_sub (fun _ h => List.mem_cons_of_mem _ (List.mem_append_left _ (List.mem_append_right _ h))) (by decide +kernel))
set_option maxRecDepth 20000 in
theorem gX0_isHeld_X0_checkMarket : GoodIn wsX0_isHeld (wsV RX0 60 RX0 yX0_checkMarket wsX0_checkMarket) := goodIn_app (goodIn_of _ (by decide +kernel)) ggX0_isHeld_X0_checkMarket
set_option maxRecDepth 20000 in
theorem ggX0_isHeld_X0_checkDay : GoodIn wsX0_isHeld wsX0_checkDay := goodIn_ca (goodIn_r _ [14, 15, 16, 9, 10, 4, 11, 17, 18, 19, 20, 21] (by decide +kernel) (by decide +kernel)) (goodIn_sub (fun _ h => List.mem_cons_of_mem _ (List.mem_append_right _ h)) (by decide +kernel))
set_option maxRecDepth 20000 in
theorem gX0_isHeld_X0_checkDay : GoodIn wsX0_isHeld (va_wsS RX0 75 yX0_checkDay wsX0_checkDay) := goodIn_app (goodIn_of _ (by decide +kernel)) ggX0_isHeld_X0_checkDay
set_option maxRecDepth 20000 in
theorem ggX0_isHeld_X0_isOn : GoodIn wsX0_isHeld wsX0_isOn := goodIn_r _ [25, 26, 27, 28, 4, 29, 30, 31, 32, 33, 34, 35, 36, 37, 38, 39, 40, 41, 42, 43, 44, 45, 46, 47, 48, 49, 50, 51, 52, 53, 54, 55, 56] (by decide +kernel) (by decide +kernel)
set_option maxRecDepth 20000 in
theorem gX0_isHeld_X0_isOn : GoodIn wsX0_isHeld (wsV RX0 78 RX0 yX0_isOn wsX0_isOn) := goodIn_app (goodIn_of _ (by decide +kernel)) ggX0_isHeld_X0_isOn
theorem dX0_isHeld_0 : decode cX0_isHeld 0 = .ok (.aload_n 0, 1) := by decide +kernel
theorem dX0_isHeld_1 : decode cX0_isHeld 1 = .ok (.iload_n 1, 1) := by decide +kernel
theorem dX0_isHeld_2 : decode cX0_isHeld 2 = .ok (.invokevirtual 60, 3) := by decide +kernel
theorem dX0_isHeld_5 : decode cX0_isHeld 5 = .ok (.iload_n 2, 1) := by decide +kernel
theorem dX0_isHeld_6 : decode cX0_isHeld 6 = .ok (.invokestatic 75, 3) := by decide +kernel
theorem dX0_isHeld_9 : decode cX0_isHeld 9 = .ok (.aload_n 0, 1) := by decide +kernel
theorem dX0_isHeld_10 : decode cX0_isHeld 10 = .ok (.iload_n 1, 1) := by decide +kernel
theorem dX0_isHeld_11 : decode cX0_isHeld 11 = .ok (.iload_n 2, 1) := by decide +kernel
theorem dX0_isHeld_12 : decode cX0_isHeld 12 = .ok (.i2l, 1) := by decide +kernel
theorem dX0_isHeld_13 : decode cX0_isHeld 13 = .ok (.invokevirtual 78, 3) := by decide +kernel
theorem dX0_isHeld_16 : decode cX0_isHeld 16 = .ok (.ireturn, 1) := by decide +kernel
set_option maxRecDepth 20000 in
theorem ggX0_next_X0_checkMarket : GoodIn wsX0_next wsX0_checkMarket := goodIn_ca (goodIn_r _ [5, 6, 7, 8, 9, 10, 4, 11, 43, 44, 45, 46, 47, 48, 49, 50, 51, 52] (by decide +kernel) (by decide +kernel)) (goodIn_sub (fun _ h => List.mem_cons_of_mem _ (List.mem_append_left _ (List.mem_append_right _ h))) (by decide +kernel))
set_option maxRecDepth 20000 in
theorem gX0_next_X0_checkMarket : GoodIn wsX0_next (wsV RX0 60 RX0 yX0_checkMarket wsX0_checkMarket) := goodIn_app (goodIn_of _ (by decide +kernel)) ggX0_next_X0_checkMarket
set_option maxRecDepth 20000 in
theorem ggX0_next_X0_checkDay : GoodIn wsX0_next wsX0_checkDay := goodIn_ca (goodIn_r _ [14, 15, 16, 9, 10, 4, 11, 17, 18, 19, 20, 21] (by decide +kernel) (by decide +kernel)) (goodIn_sub (fun _ h => List.mem_cons_of_mem _ (List.mem_append_right _ h)) (by decide +kernel))
set_option maxRecDepth 20000 in
theorem gX0_next_X0_checkDay : GoodIn wsX0_next (va_wsS RX0 75 yX0_checkDay wsX0_checkDay) := goodIn_app (goodIn_of _ (by decide +kernel)) ggX0_next_X0_checkDay
set_option maxRecDepth 20000 in
theorem ggX0_next_X0_placeOf : GoodIn wsX0_next wsX0_placeOf := goodIn_r _ [25, 26, 27, 28, 29, 4, 30, 31, 43, 44, 45, 46, 47, 48, 49, 50, 51, 52] (by decide +kernel) (by decide +kernel)
set_option maxRecDepth 20000 in
theorem gX0_next_X0_placeOf : GoodIn wsX0_next (wsV RX0 64 RX0 yX0_placeOf wsX0_placeOf) := goodIn_app (goodIn_of _ (by decide +kernel)) ggX0_next_X0_placeOf
set_option maxRecDepth 20000 in
theorem ggX0_next_X0_lengthOf : GoodIn wsX0_next wsX0_lengthOf := goodIn_r _ [35, 31, 27, 28, 29, 4, 30, 26, 43, 44, 45, 46, 47, 48, 49, 50, 51, 52] (by decide +kernel) (by decide +kernel)
set_option maxRecDepth 20000 in
theorem gX0_next_X0_lengthOf : GoodIn wsX0_next (wsV RX0 68 RX0 yX0_lengthOf wsX0_lengthOf) := goodIn_app (goodIn_of _ (by decide +kernel)) ggX0_next_X0_lengthOf
set_option maxRecDepth 20000 in
theorem ggX0_next_X0_modulo : GoodIn wsX0_next wsX0_modulo := goodIn_r _ [38, 39, 40, 41, 42] (by decide +kernel) (by decide +kernel)
set_option maxRecDepth 20000 in
theorem gX0_next_X0_modulo : GoodIn wsX0_next (va_wsS RX0 71 yX0_modulo wsX0_modulo) := goodIn_app (goodIn_of _ (by decide +kernel)) ggX0_next_X0_modulo
theorem dX0_next_0 : decode cX0_next 0 = .ok (.aload_n 0, 1) := by decide +kernel
theorem dX0_next_1 : decode cX0_next 1 = .ok (.iload_n 1, 1) := by decide +kernel
theorem dX0_next_2 : decode cX0_next 2 = .ok (.invokevirtual 60, 3) := by decide +kernel
theorem dX0_next_5 : decode cX0_next 5 = .ok (.iload_n 2, 1) := by decide +kernel
theorem dX0_next_6 : decode cX0_next 6 = .ok (.invokestatic 75, 3) := by decide +kernel
theorem dX0_next_9 : decode cX0_next 9 = .ok (.iload_n 2, 1) := by decide +kernel
theorem dX0_next_10 : decode cX0_next 10 = .ok (.i2l, 1) := by decide +kernel
theorem dX0_next_11 : decode cX0_next 11 = .ok (.aload_n 0, 1) := by decide +kernel
theorem dX0_next_12 : decode cX0_next 12 = .ok (.iload_n 1, 1) := by decide +kernel
theorem dX0_next_13 : decode cX0_next 13 = .ok (.invokevirtual 64, 3) := by decide +kernel
theorem dX0_next_16 : decode cX0_next 16 = .ok (.iload_n 2, 1) := by decide +kernel
theorem dX0_next_17 : decode cX0_next 17 = .ok (.isub, 1) := by decide +kernel
theorem dX0_next_18 : decode cX0_next 18 = .ok (.i2l, 1) := by decide +kernel
theorem dX0_next_19 : decode cX0_next 19 = .ok (.aload_n 0, 1) := by decide +kernel
theorem dX0_next_20 : decode cX0_next 20 = .ok (.iload_n 1, 1) := by decide +kernel
theorem dX0_next_21 : decode cX0_next 21 = .ok (.invokevirtual 68, 3) := by decide +kernel
theorem dX0_next_24 : decode cX0_next 24 = .ok (.i2l, 1) := by decide +kernel
theorem dX0_next_25 : decode cX0_next 25 = .ok (.invokestatic 71, 3) := by decide +kernel
theorem dX0_next_28 : decode cX0_next 28 = .ok (.ladd, 1) := by decide +kernel
theorem dX0_next_29 : decode cX0_next 29 = .ok (.l2i, 1) := by decide +kernel
theorem dX0_next_30 : decode cX0_next 30 = .ok (.ireturn, 1) := by decide +kernel
set_option maxRecDepth 20000 in
theorem ggX0_nearest_X0_checkMarket : GoodIn wsX0_nearest wsX0_checkMarket := goodIn_ca (goodIn_r _ [5, 6, 7, 8, 9, 10, 4, 11, 43, 44, 45, 46, 47, 48, 49, 50, 51, 52] (by decide +kernel) (by decide +kernel)) (goodIn_sub (fun _ h => List.mem_cons_of_mem _ (List.mem_append_left _ (List.mem_append_right _ h))) (by decide +kernel))
set_option maxRecDepth 20000 in
theorem gX0_nearest_X0_checkMarket : GoodIn wsX0_nearest (wsV RX0 60 RX0 yX0_checkMarket wsX0_checkMarket) := goodIn_app (goodIn_of _ (by decide +kernel)) ggX0_nearest_X0_checkMarket
set_option maxRecDepth 20000 in
theorem ggX0_nearest_X0_checkDay : GoodIn wsX0_nearest wsX0_checkDay := goodIn_ca (goodIn_r _ [14, 15, 16, 9, 10, 4, 11, 17, 18, 19, 20, 21] (by decide +kernel) (by decide +kernel)) (goodIn_sub (fun _ h => List.mem_cons_of_mem _ (List.mem_append_right _ h)) (by decide +kernel))
set_option maxRecDepth 20000 in
theorem gX0_nearest_X0_checkDay : GoodIn wsX0_nearest (va_wsS RX0 75 yX0_checkDay wsX0_checkDay) := goodIn_app (goodIn_of _ (by decide +kernel)) ggX0_nearest_X0_checkDay
set_option maxRecDepth 20000 in
theorem ggX0_nearest_X0_lengthOf : GoodIn wsX0_nearest wsX0_lengthOf := goodIn_r _ [25, 26, 27, 28, 29, 4, 30, 31, 43, 44, 45, 46, 47, 48, 49, 50, 51, 52] (by decide +kernel) (by decide +kernel)
set_option maxRecDepth 20000 in
theorem gX0_nearest_X0_lengthOf : GoodIn wsX0_nearest (wsV RX0 68 RX0 yX0_lengthOf wsX0_lengthOf) := goodIn_app (goodIn_of _ (by decide +kernel)) ggX0_nearest_X0_lengthOf
set_option maxRecDepth 20000 in
theorem ggX0_nearest_X0_placeOf : GoodIn wsX0_nearest wsX0_placeOf := goodIn_r _ [35, 31, 27, 28, 29, 4, 30, 26, 43, 44, 45, 46, 47, 48, 49, 50, 51, 52] (by decide +kernel) (by decide +kernel)
set_option maxRecDepth 20000 in
theorem gX0_nearest_X0_placeOf : GoodIn wsX0_nearest (wsV RX0 64 RX0 yX0_placeOf wsX0_placeOf) := goodIn_app (goodIn_of _ (by decide +kernel)) ggX0_nearest_X0_placeOf
set_option maxRecDepth 20000 in
theorem ggX0_nearest_X0_modulo : GoodIn wsX0_nearest wsX0_modulo := goodIn_r _ [38, 39, 40, 41, 42] (by decide +kernel) (by decide +kernel)
set_option maxRecDepth 20000 in
theorem gX0_nearest_X0_modulo : GoodIn wsX0_nearest (va_wsS RX0 71 yX0_modulo wsX0_modulo) := goodIn_app (goodIn_of _ (by decide +kernel)) ggX0_nearest_X0_modulo
theorem dX0_nearest_0 : decode cX0_nearest 0 = .ok (.aload_n 0, 1) := by decide +kernel
theorem dX0_nearest_1 : decode cX0_nearest 1 = .ok (.iload_n 1, 1) := by decide +kernel
theorem dX0_nearest_2 : decode cX0_nearest 2 = .ok (.invokevirtual 60, 3) := by decide +kernel
theorem dX0_nearest_5 : decode cX0_nearest 5 = .ok (.iload_n 2, 1) := by decide +kernel
theorem dX0_nearest_6 : decode cX0_nearest 6 = .ok (.invokestatic 75, 3) := by decide +kernel
theorem dX0_nearest_9 : decode cX0_nearest 9 = .ok (.aload_n 0, 1) := by decide +kernel
theorem dX0_nearest_10 : decode cX0_nearest 10 = .ok (.iload_n 1, 1) := by decide +kernel
theorem dX0_nearest_11 : decode cX0_nearest 11 = .ok (.invokevirtual 68, 3) := by decide +kernel
theorem dX0_nearest_14 : decode cX0_nearest 14 = .ok (.istore_n 3, 1) := by decide +kernel
theorem dX0_nearest_15 : decode cX0_nearest 15 = .ok (.iload_n 2, 1) := by decide +kernel
theorem dX0_nearest_16 : decode cX0_nearest 16 = .ok (.aload_n 0, 1) := by decide +kernel
theorem dX0_nearest_17 : decode cX0_nearest 17 = .ok (.iload_n 1, 1) := by decide +kernel
theorem dX0_nearest_18 : decode cX0_nearest 18 = .ok (.invokevirtual 64, 3) := by decide +kernel
theorem dX0_nearest_21 : decode cX0_nearest 21 = .ok (.isub, 1) := by decide +kernel
theorem dX0_nearest_22 : decode cX0_nearest 22 = .ok (.i2l, 1) := by decide +kernel
theorem dX0_nearest_23 : decode cX0_nearest 23 = .ok (.iload_n 3, 1) := by decide +kernel
theorem dX0_nearest_24 : decode cX0_nearest 24 = .ok (.i2l, 1) := by decide +kernel
theorem dX0_nearest_25 : decode cX0_nearest 25 = .ok (.invokestatic 71, 3) := by decide +kernel
theorem dX0_nearest_28 : decode cX0_nearest 28 = .ok (.l2i, 1) := by decide +kernel
theorem dX0_nearest_29 : decode cX0_nearest 29 = .ok (.istore 4, 2) := by decide +kernel
theorem dX0_nearest_31 : decode cX0_nearest 31 = .ok (.iload_n 2, 1) := by decide +kernel
theorem dX0_nearest_32 : decode cX0_nearest 32 = .ok (.iload 4, 2) := by decide +kernel
theorem dX0_nearest_34 : decode cX0_nearest 34 = .ok (.isub, 1) := by decide +kernel
theorem dX0_nearest_35 : decode cX0_nearest 35 = .ok (.istore 5, 2) := by decide +kernel
theorem dX0_nearest_37 : decode cX0_nearest 37 = .ok (.iload 4, 2) := by decide +kernel
theorem dX0_nearest_39 : decode cX0_nearest 39 = .ok (.iload_n 3, 1) := by decide +kernel
theorem dX0_nearest_40 : decode cX0_nearest 40 = .ok (.iload 4, 2) := by decide +kernel
theorem dX0_nearest_42 : decode cX0_nearest 42 = .ok (.isub, 1) := by decide +kernel
theorem dX0_nearest_43 : decode cX0_nearest 43 = .ok (.if_icmp .gt 8, 3) := by decide +kernel
theorem dX0_nearest_46 : decode cX0_nearest 46 = .ok (.iload 5, 2) := by decide +kernel
theorem dX0_nearest_48 : decode cX0_nearest 48 = .ok (.goto 7, 3) := by decide +kernel
theorem dX0_nearest_51 : decode cX0_nearest 51 = .ok (.iload 5, 2) := by decide +kernel
theorem dX0_nearest_53 : decode cX0_nearest 53 = .ok (.iload_n 3, 1) := by decide +kernel
theorem dX0_nearest_54 : decode cX0_nearest 54 = .ok (.iadd, 1) := by decide +kernel
theorem dX0_nearest_55 : decode cX0_nearest 55 = .ok (.ireturn, 1) := by decide +kernel
set_option maxRecDepth 20000 in
theorem ggX0_times_X0_checkMarket : GoodIn wsX0_times wsX0_checkMarket := goodIn_ca (goodIn_r _ [5, 6, 7, 8, 9, 10, 4, 11, 47, 48, 49, 50, 51, 52, 53, 54, 55, 56] (by decide +kernel) (by decide +kernel)) (goodIn_sub (fun _ h => List.mem_cons_of_mem _ (List.mem_append_left _ (List.mem_append_right _ h))) (by decide +kernel))
set_option maxRecDepth 20000 in
theorem gX0_times_X0_checkMarket : GoodIn wsX0_times (wsV RX0 60 RX0 yX0_checkMarket wsX0_checkMarket) := goodIn_app (goodIn_of _ (by decide +kernel)) ggX0_times_X0_checkMarket
set_option maxRecDepth 20000 in
theorem ggX0_times_X0_checkDay : GoodIn wsX0_times wsX0_checkDay := goodIn_ca (goodIn_r _ [14, 15, 16, 9, 10, 4, 11, 17, 18, 19, 20, 21] (by decide +kernel) (by decide +kernel)) (goodIn_sub (fun _ h => List.mem_cons_of_mem _ (List.mem_append_right _ h)) (by decide +kernel))
set_option maxRecDepth 20000 in
theorem gX0_times_X0_checkDay : GoodIn wsX0_times (va_wsS RX0 75 yX0_checkDay wsX0_checkDay) := goodIn_app (goodIn_of _ (by decide +kernel)) ggX0_times_X0_checkDay
set_option maxRecDepth 20000 in
theorem ggX0_times_X0_checkArgument : GoodIn wsX0_times wsX0_checkArgument := goodIn_ca (goodIn_r _ [19, 20, 21] (by decide +kernel) (by decide +kernel)) (goodIn_sub (fun _ h => List.mem_cons_of_mem _ (List.mem_append_right _ h)) (by decide +kernel))
set_option maxRecDepth 20000 in
theorem gX0_times_X0_checkArgument : GoodIn wsX0_times (va_wsS RX0 45 yX0_checkArgument wsX0_checkArgument) := goodIn_app (goodIn_of _ (by decide +kernel)) ggX0_times_X0_checkArgument
set_option maxRecDepth 20000 in
theorem ggX0_times_X0_countHeld : GoodIn wsX0_times wsX0_countHeld := goodIn_r _ [25, 26, 27, 28, 4, 29, 30, 31, 32, 33, 34, 35, 36, 37, 38, 39, 40, 41, 42, 43, 44, 45, 46, 47, 48, 49, 50, 51, 52, 53, 54, 55, 56] (by decide +kernel) (by decide +kernel)
set_option maxRecDepth 20000 in
theorem gX0_times_X0_countHeld : GoodIn wsX0_times (wsV RX0 82 RX0 yX0_countHeld wsX0_countHeld) := goodIn_app (goodIn_of _ (by decide +kernel)) ggX0_times_X0_countHeld
theorem dX0_times_0 : decode cX0_times 0 = .ok (.aload_n 0, 1) := by decide +kernel
theorem dX0_times_1 : decode cX0_times 1 = .ok (.iload_n 1, 1) := by decide +kernel
theorem dX0_times_2 : decode cX0_times 2 = .ok (.invokevirtual 60, 3) := by decide +kernel
theorem dX0_times_5 : decode cX0_times 5 = .ok (.iload_n 2, 1) := by decide +kernel
theorem dX0_times_6 : decode cX0_times 6 = .ok (.invokestatic 75, 3) := by decide +kernel
theorem dX0_times_9 : decode cX0_times 9 = .ok (.iload_n 3, 1) := by decide +kernel
theorem dX0_times_10 : decode cX0_times 10 = .ok (.invokestatic 75, 3) := by decide +kernel
theorem dX0_times_13 : decode cX0_times 13 = .ok (.iload_n 3, 1) := by decide +kernel
theorem dX0_times_14 : decode cX0_times 14 = .ok (.iload_n 2, 1) := by decide +kernel
theorem dX0_times_15 : decode cX0_times 15 = .ok (.if_icmp .lt 7, 3) := by decide +kernel
theorem dX0_times_18 : decode cX0_times 18 = .ok (.iconst 1, 1) := by decide +kernel
theorem dX0_times_19 : decode cX0_times 19 = .ok (.goto 4, 3) := by decide +kernel
theorem dX0_times_22 : decode cX0_times 22 = .ok (.iconst 0, 1) := by decide +kernel
theorem dX0_times_23 : decode cX0_times 23 = .ok (.invokestatic 45, 3) := by decide +kernel
theorem dX0_times_26 : decode cX0_times 26 = .ok (.aload_n 0, 1) := by decide +kernel
theorem dX0_times_27 : decode cX0_times 27 = .ok (.iload_n 1, 1) := by decide +kernel
theorem dX0_times_28 : decode cX0_times 28 = .ok (.iload_n 2, 1) := by decide +kernel
theorem dX0_times_29 : decode cX0_times 29 = .ok (.iload_n 3, 1) := by decide +kernel
theorem dX0_times_30 : decode cX0_times 30 = .ok (.invokevirtual 82, 3) := by decide +kernel
theorem dX0_times_33 : decode cX0_times 33 = .ok (.ireturn, 1) := by decide +kernel
set_option maxRecDepth 20000 in
theorem ggX0_heldOn_X0_checkDay : GoodIn wsX0_heldOn wsX0_checkDay := goodIn_ca (goodIn_r _ [4, 5, 6, 7, 8, 3, 9, 10, 11, 12, 13, 14] (by decide +kernel) (by decide +kernel)) (goodIn_sub (fun _ h => List.mem_cons_of_mem _ (List.mem_append_right _ h)) (by decide +kernel))
set_option maxRecDepth 20000 in
theorem gX0_heldOn_X0_checkDay : GoodIn wsX0_heldOn (va_wsS RX0 75 yX0_checkDay wsX0_checkDay) := goodIn_app (goodIn_of _ (by decide +kernel)) ggX0_heldOn_X0_checkDay
set_option maxRecDepth 20000 in
theorem ggX0_heldOn_X0_setOn : GoodIn wsX0_heldOn wsX0_setOn := goodIn_r _ [18, 19, 20, 21, 22, 3, 23, 24, 25, 26, 27, 28, 29, 30, 31, 32, 33, 34, 35, 36, 37, 38, 39, 40, 41, 42, 43, 44, 45, 46, 47, 48, 49, 50, 51, 52, 53, 54] (by decide +kernel) (by decide +kernel)
set_option maxRecDepth 20000 in
theorem gX0_heldOn_X0_setOn : GoodIn wsX0_heldOn (wsV RX0 86 RX0 yX0_setOn wsX0_setOn) := goodIn_app (goodIn_of _ (by decide +kernel)) ggX0_heldOn_X0_setOn
theorem dX0_heldOn_0 : decode cX0_heldOn 0 = .ok (.iload_n 1, 1) := by decide +kernel
theorem dX0_heldOn_1 : decode cX0_heldOn 1 = .ok (.invokestatic 75, 3) := by decide +kernel
theorem dX0_heldOn_4 : decode cX0_heldOn 4 = .ok (.aload_n 0, 1) := by decide +kernel
theorem dX0_heldOn_5 : decode cX0_heldOn 5 = .ok (.iload_n 1, 1) := by decide +kernel
theorem dX0_heldOn_6 : decode cX0_heldOn 6 = .ok (.invokevirtual 86, 3) := by decide +kernel
theorem dX0_heldOn_9 : decode cX0_heldOn 9 = .ok (.ireturn, 1) := by decide +kernel
set_option maxRecDepth 20000 in
theorem ggX0_doMeet_X0_checkMeetingSet : GoodIn wsX0_doMeet wsX0_checkMeetingSet := goodIn_ca (goodIn_ca (goodIn_r _ [6, 7, 8, 9, 10, 11, 12, 13, 14, 15, 5, 16, 17, 18, 19, 20, 21, 22, 23, 24, 25, 26, 27, 28, 65, 66, 67, 68, 69, 70, 71, 72, 73, 74] (by decide +kernel) (by decide +kernel)) (goodIn_sub (fun _ h => List.mem_cons_of_mem _ (List.mem_append_left _ (List.mem_append_right _ h))) (by decide +kernel))) (goodIn_sub (fun _ h => List.mem_cons_of_mem _ (List.mem_append_right _ h)) (by decide +kernel))
set_option maxRecDepth 20000 in
theorem gX0_doMeet_X0_checkMeetingSet : GoodIn wsX0_doMeet (wsV RX0 89 RX0 yX0_checkMeetingSet wsX0_checkMeetingSet) := goodIn_app (goodIn_of _ (by decide +kernel)) ggX0_doMeet_X0_checkMeetingSet
set_option maxRecDepth 20000 in
theorem ggX0_doMeet_X0_firstMeeting : GoodIn wsX0_doMeet wsX0_firstMeeting := goodIn_r _ [32, 28, 1, 33, 34, 35, 5, 36, 37, 38, 39, 40, 41, 42, 43, 44, 45, 46, 47, 48, 49, 50, 51, 52, 53, 54, 55, 56, 57, 58, 59, 60, 61, 62, 63, 64, 65, 66, 67, 68, 69, 70, 71, 72, 73, 74] (by decide +kernel) (by decide +kernel)
set_option maxRecDepth 20000 in
theorem gX0_doMeet_X0_firstMeeting : GoodIn wsX0_doMeet (wsV RX0 92 RX0 yX0_firstMeeting wsX0_firstMeeting) := goodIn_app (goodIn_of _ (by decide +kernel)) ggX0_doMeet_X0_firstMeeting
theorem dX0_doMeet_0 : decode cX0_doMeet 0 = .ok (.aload_n 0, 1) := by decide +kernel
theorem dX0_doMeet_1 : decode cX0_doMeet 1 = .ok (.iload_n 1, 1) := by decide +kernel
theorem dX0_doMeet_2 : decode cX0_doMeet 2 = .ok (.invokevirtual 89, 3) := by decide +kernel
theorem dX0_doMeet_5 : decode cX0_doMeet 5 = .ok (.aload_n 0, 1) := by decide +kernel
theorem dX0_doMeet_6 : decode cX0_doMeet 6 = .ok (.iload_n 1, 1) := by decide +kernel
theorem dX0_doMeet_7 : decode cX0_doMeet 7 = .ok (.invokevirtual 92, 3) := by decide +kernel
theorem dX0_doMeet_10 : decode cX0_doMeet 10 = .ok (.ldc2_w 96, 3) := by decide +kernel
theorem dX0_doMeet_13 : decode cX0_doMeet 13 = .ok (.lcmp, 1) := by decide +kernel
theorem dX0_doMeet_14 : decode cX0_doMeet 14 = .ok (.ifCond .eq 7, 3) := by decide +kernel
theorem dX0_doMeet_17 : decode cX0_doMeet 17 = .ok (.iconst 1, 1) := by decide +kernel
theorem dX0_doMeet_18 : decode cX0_doMeet 18 = .ok (.goto 4, 3) := by decide +kernel
theorem dX0_doMeet_21 : decode cX0_doMeet 21 = .ok (.iconst 0, 1) := by decide +kernel
theorem dX0_doMeet_22 : decode cX0_doMeet 22 = .ok (.ireturn, 1) := by decide +kernel
set_option maxRecDepth 20000 in
theorem ggX0_period_X0_checkMeetingSet : GoodIn wsX0_period wsX0_checkMeetingSet := goodIn_ca (goodIn_ca (goodIn_r _ [5, 6, 7, 8, 9, 10, 11, 12, 13, 14, 4, 15, 16, 17, 18, 19, 20, 21, 22, 23, 24, 25, 26, 27, 74, 75, 76, 77, 78, 79, 80, 81, 82, 83] (by decide +kernel) (by decide +kernel)) (goodIn_sub (fun _ h => List.mem_cons_of_mem _ (List.mem_append_left _ (List.mem_append_left _ (List.mem_append_right _ h)))) (by decide +kernel))) (goodIn_sub (fun _ h => List.mem_cons_of_mem _ (List.mem_append_left _ (List.mem_append_right _ h))) (by decide +kernel))
set_option maxRecDepth 20000 in
theorem gX0_period_X0_checkMeetingSet : GoodIn wsX0_period (wsV RX0 89 RX0 yX0_checkMeetingSet wsX0_checkMeetingSet) := goodIn_app (goodIn_of _ (by decide +kernel)) ggX0_period_X0_checkMeetingSet
set_option maxRecDepth 20000 in
theorem ggX0_period_X0_firstMeeting : GoodIn wsX0_period wsX0_firstMeeting := goodIn_r _ [31, 27, 32, 33, 34, 35, 4, 36, 37, 38, 39, 40, 41, 42, 43, 44, 45, 46, 47, 48, 49, 50, 51, 52, 53, 54, 55, 56, 57, 58, 59, 60, 61, 62, 63, 64, 74, 75, 76, 77, 78, 79, 80, 81, 82, 83] (by decide +kernel) (by decide +kernel)
set_option maxRecDepth 20000 in
theorem gX0_period_X0_firstMeeting : GoodIn wsX0_period (wsV RX0 92 RX0 yX0_firstMeeting wsX0_firstMeeting) := goodIn_app (goodIn_of _ (by decide +kernel)) ggX0_period_X0_firstMeeting
set_option maxRecDepth 20000 in
theorem ggX0_period_X0_checkTheyMeet : GoodIn wsX0_period wsX0_checkTheyMeet := goodIn_ca (goodIn_r _ [67, 68, 69, 32] (by decide +kernel) (by decide +kernel)) (goodIn_sub (fun _ h => List.mem_cons_of_mem _ (List.mem_append_right _ h)) (by decide +kernel))
set_option maxRecDepth 20000 in
theorem gX0_period_X0_checkTheyMeet : GoodIn wsX0_period (va_wsS RX0 98 yX0_checkTheyMeet wsX0_checkTheyMeet) := goodIn_app (goodIn_of _ (by decide +kernel)) ggX0_period_X0_checkTheyMeet
set_option maxRecDepth 20000 in
theorem ggX0_period_X0_commonLength : GoodIn wsX0_period wsX0_commonLength := goodIn_r _ [73, 27, 37, 38, 39, 4, 40, 41, 42, 43, 44, 45, 46, 62, 63, 64, 51, 52, 53, 54, 55, 56, 57, 74, 75, 76, 77, 78, 79, 80, 81, 82, 83] (by decide +kernel) (by decide +kernel)
set_option maxRecDepth 20000 in
theorem gX0_period_X0_commonLength : GoodIn wsX0_period (wsV RX0 102 RX0 yX0_commonLength wsX0_commonLength) := goodIn_app (goodIn_of _ (by decide +kernel)) ggX0_period_X0_commonLength
theorem dX0_period_0 : decode cX0_period 0 = .ok (.aload_n 0, 1) := by decide +kernel
theorem dX0_period_1 : decode cX0_period 1 = .ok (.iload_n 1, 1) := by decide +kernel
theorem dX0_period_2 : decode cX0_period 2 = .ok (.invokevirtual 89, 3) := by decide +kernel
theorem dX0_period_5 : decode cX0_period 5 = .ok (.aload_n 0, 1) := by decide +kernel
theorem dX0_period_6 : decode cX0_period 6 = .ok (.iload_n 1, 1) := by decide +kernel
theorem dX0_period_7 : decode cX0_period 7 = .ok (.invokevirtual 92, 3) := by decide +kernel
theorem dX0_period_10 : decode cX0_period 10 = .ok (.invokestatic 98, 3) := by decide +kernel
theorem dX0_period_13 : decode cX0_period 13 = .ok (.aload_n 0, 1) := by decide +kernel
theorem dX0_period_14 : decode cX0_period 14 = .ok (.iload_n 1, 1) := by decide +kernel
theorem dX0_period_15 : decode cX0_period 15 = .ok (.invokevirtual 102, 3) := by decide +kernel
theorem dX0_period_18 : decode cX0_period 18 = .ok (.l2i, 1) := by decide +kernel
theorem dX0_period_19 : decode cX0_period 19 = .ok (.ireturn, 1) := by decide +kernel
set_option maxRecDepth 20000 in
theorem ggX0_meeting_X0_checkDay : GoodIn wsX0_meeting wsX0_checkDay := goodIn_ca (goodIn_r _ [4, 5, 6, 7, 8, 3, 9, 10, 11, 12, 13, 14] (by decide +kernel) (by decide +kernel)) (goodIn_sub (fun _ h => List.mem_cons_of_mem _ (List.mem_append_left _ (List.mem_append_left _ (List.mem_append_right _ h)))) (by decide +kernel))
set_option maxRecDepth 20000 in
theorem gX0_meeting_X0_checkDay : GoodIn wsX0_meeting (va_wsS RX0 75 yX0_checkDay wsX0_checkDay) := goodIn_app (goodIn_of _ (by decide +kernel)) ggX0_meeting_X0_checkDay
set_option maxRecDepth 20000 in
theorem ggX0_meeting_X0_checkMeetingSet : GoodIn wsX0_meeting wsX0_checkMeetingSet := goodIn_ca (goodIn_ca (goodIn_r _ [18, 19, 20, 21, 22, 23, 24, 25, 7, 8, 3, 9, 10, 11, 12, 13, 14, 26, 27, 28, 29, 30, 31, 32, 79, 80, 81, 82, 83, 84, 85, 86, 87, 88] (by decide +kernel) (by decide +kernel)) (goodIn_sub (fun _ h => List.mem_cons_of_mem _ (List.mem_append_left _ (List.mem_append_left _ (List.mem_append_right _ h)))) (by decide +kernel))) (goodIn_sub (fun _ h => List.mem_cons_of_mem _ (List.mem_append_left _ (List.mem_append_right _ h))) (by decide +kernel))
set_option maxRecDepth 20000 in
theorem gX0_meeting_X0_checkMeetingSet : GoodIn wsX0_meeting (wsV RX0 89 RX0 yX0_checkMeetingSet wsX0_checkMeetingSet) := goodIn_app (goodIn_of _ (by decide +kernel)) ggX0_meeting_X0_checkMeetingSet
set_option maxRecDepth 20000 in
theorem ggX0_meeting_X0_firstMeeting : GoodIn wsX0_meeting wsX0_firstMeeting := goodIn_r _ [36, 32, 37, 38, 39, 40, 3, 41, 42, 43, 44, 45, 46, 47, 48, 49, 50, 51, 52, 53, 54, 55, 56, 57, 58, 59, 60, 61, 62, 63, 64, 65, 66, 67, 68, 69, 79, 80, 81, 82, 83, 84, 85, 86, 87, 88] (by decide +kernel) (by decide +kernel)
set_option maxRecDepth 20000 in
theorem gX0_meeting_X0_firstMeeting : GoodIn wsX0_meeting (wsV RX0 92 RX0 yX0_firstMeeting wsX0_firstMeeting) := goodIn_app (goodIn_of _ (by decide +kernel)) ggX0_meeting_X0_firstMeeting
set_option maxRecDepth 20000 in
theorem ggX0_meeting_X0_checkTheyMeet : GoodIn wsX0_meeting wsX0_checkTheyMeet := goodIn_ca (goodIn_r _ [72, 73, 74, 37] (by decide +kernel) (by decide +kernel)) (goodIn_sub (fun _ h => List.mem_cons_of_mem _ (List.mem_append_right _ h)) (by decide +kernel))
set_option maxRecDepth 20000 in
theorem gX0_meeting_X0_checkTheyMeet : GoodIn wsX0_meeting (va_wsS RX0 98 yX0_checkTheyMeet wsX0_checkTheyMeet) := goodIn_app (goodIn_of _ (by decide +kernel)) ggX0_meeting_X0_checkTheyMeet
set_option maxRecDepth 20000 in
theorem ggX0_meeting_X0_commonLength : GoodIn wsX0_meeting wsX0_commonLength := goodIn_r _ [78, 32, 42, 43, 44, 3, 45, 46, 47, 48, 49, 50, 51, 67, 68, 69, 56, 57, 58, 59, 60, 61, 62, 79, 80, 81, 82, 83, 84, 85, 86, 87, 88] (by decide +kernel) (by decide +kernel)
set_option maxRecDepth 20000 in
theorem gX0_meeting_X0_commonLength : GoodIn wsX0_meeting (wsV RX0 102 RX0 yX0_commonLength wsX0_commonLength) := goodIn_app (goodIn_of _ (by decide +kernel)) ggX0_meeting_X0_commonLength
set_option maxRecDepth 20000 in
theorem ggX0_meeting_X0_modulo : GoodIn wsX0_meeting wsX0_modulo := goodIn_r _ [58, 59, 60, 61, 62] (by decide +kernel) (by decide +kernel)
set_option maxRecDepth 20000 in
theorem gX0_meeting_X0_modulo : GoodIn wsX0_meeting (va_wsS RX0 71 yX0_modulo wsX0_modulo) := goodIn_app (goodIn_of _ (by decide +kernel)) ggX0_meeting_X0_modulo
theorem dX0_meeting_0 : decode cX0_meeting 0 = .ok (.iload_n 2, 1) := by decide +kernel
theorem dX0_meeting_1 : decode cX0_meeting 1 = .ok (.invokestatic 75, 3) := by decide +kernel
theorem dX0_meeting_4 : decode cX0_meeting 4 = .ok (.aload_n 0, 1) := by decide +kernel
theorem dX0_meeting_5 : decode cX0_meeting 5 = .ok (.iload_n 1, 1) := by decide +kernel
theorem dX0_meeting_6 : decode cX0_meeting 6 = .ok (.invokevirtual 89, 3) := by decide +kernel
theorem dX0_meeting_9 : decode cX0_meeting 9 = .ok (.aload_n 0, 1) := by decide +kernel
theorem dX0_meeting_10 : decode cX0_meeting 10 = .ok (.iload_n 1, 1) := by decide +kernel
theorem dX0_meeting_11 : decode cX0_meeting 11 = .ok (.invokevirtual 92, 3) := by decide +kernel
theorem dX0_meeting_14 : decode cX0_meeting 14 = .ok (.lstore_n 3, 1) := by decide +kernel
theorem dX0_meeting_15 : decode cX0_meeting 15 = .ok (.lload_n 3, 1) := by decide +kernel
theorem dX0_meeting_16 : decode cX0_meeting 16 = .ok (.invokestatic 98, 3) := by decide +kernel
theorem dX0_meeting_19 : decode cX0_meeting 19 = .ok (.iload_n 2, 1) := by decide +kernel
theorem dX0_meeting_20 : decode cX0_meeting 20 = .ok (.i2l, 1) := by decide +kernel
theorem dX0_meeting_21 : decode cX0_meeting 21 = .ok (.lload_n 3, 1) := by decide +kernel
theorem dX0_meeting_22 : decode cX0_meeting 22 = .ok (.iload_n 2, 1) := by decide +kernel
theorem dX0_meeting_23 : decode cX0_meeting 23 = .ok (.i2l, 1) := by decide +kernel
theorem dX0_meeting_24 : decode cX0_meeting 24 = .ok (.lsub, 1) := by decide +kernel
theorem dX0_meeting_25 : decode cX0_meeting 25 = .ok (.aload_n 0, 1) := by decide +kernel
theorem dX0_meeting_26 : decode cX0_meeting 26 = .ok (.iload_n 1, 1) := by decide +kernel
theorem dX0_meeting_27 : decode cX0_meeting 27 = .ok (.invokevirtual 102, 3) := by decide +kernel
theorem dX0_meeting_30 : decode cX0_meeting 30 = .ok (.invokestatic 71, 3) := by decide +kernel
theorem dX0_meeting_33 : decode cX0_meeting 33 = .ok (.ladd, 1) := by decide +kernel
theorem dX0_meeting_34 : decode cX0_meeting 34 = .ok (.l2i, 1) := by decide +kernel
theorem dX0_meeting_35 : decode cX0_meeting 35 = .ok (.ireturn, 1) := by decide +kernel
set_option maxRecDepth 20000 in
theorem ggX0_lunarMeeting_X0_checkDay : GoodIn wsX0_lunarMeeting wsX0_checkDay := goodIn_ca (goodIn_r _ [5, 6, 7, 8, 9, 4, 10, 11, 12, 13, 14, 15] (by decide +kernel) (by decide +kernel)) (goodIn_sub (fun _ h => List.mem_cons_of_mem _ (List.mem_append_left _ (List.mem_append_left _ (List.mem_append_right _ h)))) (by decide +kernel))
set_option maxRecDepth 20000 in
theorem gX0_lunarMeeting_X0_checkDay : GoodIn wsX0_lunarMeeting (va_wsS RX0 75 yX0_checkDay wsX0_checkDay) := goodIn_app (goodIn_of _ (by decide +kernel)) ggX0_lunarMeeting_X0_checkDay
set_option maxRecDepth 20000 in
theorem ggX0_lunarMeeting_X0_isWithin : GoodIn wsX0_lunarMeeting wsX0_isWithin := goodIn_r _ [10] (by decide +kernel) (by decide +kernel)
set_option maxRecDepth 20000 in
theorem gX0_lunarMeeting_X0_isWithin : GoodIn wsX0_lunarMeeting (va_wsS RX0 41 yX0_isWithin wsX0_isWithin) := goodIn_app (goodIn_of _ (by decide +kernel)) ggX0_lunarMeeting_X0_isWithin
set_option maxRecDepth 20000 in
theorem ggX0_lunarMeeting_X0_checkArgument : GoodIn wsX0_lunarMeeting wsX0_checkArgument := goodIn_ca (goodIn_r _ [13, 14, 15] (by decide +kernel) (by decide +kernel)) (goodIn_sub (fun _ h => List.mem_cons_of_mem _ (List.mem_append_left _ (List.mem_append_left _ (List.mem_append_right _ h)))) (by decide +kernel))
set_option maxRecDepth 20000 in
theorem gX0_lunarMeeting_X0_checkArgument : GoodIn wsX0_lunarMeeting (va_wsS RX0 45 yX0_checkArgument wsX0_checkArgument) := goodIn_app (goodIn_of _ (by decide +kernel)) ggX0_lunarMeeting_X0_checkArgument
set_option maxRecDepth 20000 in
theorem ggX0_lunarMeeting_X0_checkMeetingSet : GoodIn wsX0_lunarMeeting wsX0_checkMeetingSet := goodIn_ca (goodIn_ca (goodIn_r _ [19, 20, 21, 22, 23, 24, 25, 26, 8, 9, 4, 10, 11, 12, 13, 14, 15, 27, 28, 29, 30, 31, 32, 33, 96, 97, 98, 99, 100, 101, 102, 103, 104, 105] (by decide +kernel) (by decide +kernel)) (goodIn_sub (fun _ h => List.mem_cons_of_mem _ (List.mem_append_left _ (List.mem_append_left _ (List.mem_append_right _ h)))) (by decide +kernel))) (goodIn_sub (fun _ h => List.mem_cons_of_mem _ (List.mem_append_left _ (List.mem_append_right _ h))) (by decide +kernel))
set_option maxRecDepth 20000 in
theorem gX0_lunarMeeting_X0_checkMeetingSet : GoodIn wsX0_lunarMeeting (wsV RX0 89 RX0 yX0_checkMeetingSet wsX0_checkMeetingSet) := goodIn_app (goodIn_of _ (by decide +kernel)) ggX0_lunarMeeting_X0_checkMeetingSet
set_option maxRecDepth 20000 in
theorem ggX0_lunarMeeting_X0_firstMeeting : GoodIn wsX0_lunarMeeting wsX0_firstMeeting := goodIn_r _ [37, 33, 1, 38, 39, 40, 4, 41, 42, 43, 44, 45, 46, 47, 48, 49, 50, 51, 52, 53, 54, 55, 56, 57, 58, 59, 60, 61, 62, 63, 64, 65, 66, 67, 68, 69, 96, 97, 98, 99, 100, 101, 102, 103, 104, 105] (by decide +kernel) (by decide +kernel)
set_option maxRecDepth 20000 in
theorem gX0_lunarMeeting_X0_firstMeeting : GoodIn wsX0_lunarMeeting (wsV RX0 92 RX0 yX0_firstMeeting wsX0_firstMeeting) := goodIn_app (goodIn_of _ (by decide +kernel)) ggX0_lunarMeeting_X0_firstMeeting
set_option maxRecDepth 20000 in
theorem ggX0_lunarMeeting_X0_checkTheyMeet : GoodIn wsX0_lunarMeeting wsX0_checkTheyMeet := goodIn_ca (goodIn_r _ [72, 73, 74, 1] (by decide +kernel) (by decide +kernel)) (goodIn_sub (fun _ h => List.mem_cons_of_mem _ (List.mem_append_right _ h)) (by decide +kernel))
set_option maxRecDepth 20000 in
theorem gX0_lunarMeeting_X0_checkTheyMeet : GoodIn wsX0_lunarMeeting (va_wsS RX0 98 yX0_checkTheyMeet wsX0_checkTheyMeet) := goodIn_app (goodIn_of _ (by decide +kernel)) ggX0_lunarMeeting_X0_checkTheyMeet
set_option maxRecDepth 20000 in
theorem ggX0_lunarMeeting_X0_commonLength : GoodIn wsX0_lunarMeeting wsX0_commonLength := goodIn_r _ [78, 33, 42, 43, 44, 4, 45, 46, 47, 48, 49, 50, 51, 67, 68, 69, 56, 57, 58, 59, 60, 61, 62, 96, 97, 98, 99, 100, 101, 102, 103, 104, 105] (by decide +kernel) (by decide +kernel)
set_option maxRecDepth 20000 in
theorem gX0_lunarMeeting_X0_commonLength : GoodIn wsX0_lunarMeeting (wsV RX0 102 RX0 yX0_commonLength wsX0_commonLength) := goodIn_app (goodIn_of _ (by decide +kernel)) ggX0_lunarMeeting_X0_commonLength
set_option maxRecDepth 20000 in
theorem ggX0_lunarMeeting_X0_modulo : GoodIn wsX0_lunarMeeting wsX0_modulo := goodIn_r _ [58, 59, 60, 61, 62] (by decide +kernel) (by decide +kernel)
set_option maxRecDepth 20000 in
theorem gX0_lunarMeeting_X0_modulo : GoodIn wsX0_lunarMeeting (va_wsS RX0 71 yX0_modulo wsX0_modulo) := goodIn_app (goodIn_of _ (by decide +kernel)) ggX0_lunarMeeting_X0_modulo
set_option maxRecDepth 20000 in
theorem ggX0_lunarMeeting_X0_lunarDayOf : GoodIn wsX0_lunarMeeting wsX0_lunarDayOf := goodIn_r _ [82, 83, 84, 85, 86, 87, 4, 88, 89, 56, 57, 58, 59, 60, 61, 62, 90, 91, 92, 93, 94, 95, 96, 97, 98, 99, 100, 101, 102, 103, 104, 105] (by decide +kernel) (by decide +kernel)
set_option maxRecDepth 20000 in
theorem gX0_lunarMeeting_X0_lunarDayOf : GoodIn wsX0_lunarMeeting (wsV RX0 105 RX0 yX0_lunarDayOf wsX0_lunarDayOf) := goodIn_app (goodIn_of _ (by decide +kernel)) ggX0_lunarMeeting_X0_lunarDayOf
theorem dX0_lunarMeeting_0 : decode cX0_lunarMeeting 0 = .ok (.iload_n 2, 1) := by decide +kernel
theorem dX0_lunarMeeting_1 : decode cX0_lunarMeeting 1 = .ok (.invokestatic 75, 3) := by decide +kernel
theorem dX0_lunarMeeting_4 : decode cX0_lunarMeeting 4 = .ok (.iload_n 3, 1) := by decide +kernel
theorem dX0_lunarMeeting_5 : decode cX0_lunarMeeting 5 = .ok (.iconst 0, 1) := by decide +kernel
theorem dX0_lunarMeeting_6 : decode cX0_lunarMeeting 6 = .ok (.bipush 99, 2) := by decide +kernel
theorem dX0_lunarMeeting_8 : decode cX0_lunarMeeting 8 = .ok (.invokestatic 41, 3) := by decide +kernel
theorem dX0_lunarMeeting_11 : decode cX0_lunarMeeting 11 = .ok (.ifCond .eq 19, 3) := by decide +kernel
theorem dX0_lunarMeeting_14 : decode cX0_lunarMeeting 14 = .ok (.iload 4, 2) := by decide +kernel
theorem dX0_lunarMeeting_16 : decode cX0_lunarMeeting 16 = .ok (.iconst 1, 1) := by decide +kernel
theorem dX0_lunarMeeting_17 : decode cX0_lunarMeeting 17 = .ok (.sipush 1000, 3) := by decide +kernel
theorem dX0_lunarMeeting_20 : decode cX0_lunarMeeting 20 = .ok (.invokestatic 41, 3) := by decide +kernel
theorem dX0_lunarMeeting_23 : decode cX0_lunarMeeting 23 = .ok (.ifCond .eq 7, 3) := by decide +kernel
theorem dX0_lunarMeeting_26 : decode cX0_lunarMeeting 26 = .ok (.iconst 1, 1) := by decide +kernel
theorem dX0_lunarMeeting_27 : decode cX0_lunarMeeting 27 = .ok (.goto 4, 3) := by decide +kernel
theorem dX0_lunarMeeting_30 : decode cX0_lunarMeeting 30 = .ok (.iconst 0, 1) := by decide +kernel
theorem dX0_lunarMeeting_31 : decode cX0_lunarMeeting 31 = .ok (.invokestatic 45, 3) := by decide +kernel
theorem dX0_lunarMeeting_34 : decode cX0_lunarMeeting 34 = .ok (.aload_n 0, 1) := by decide +kernel
theorem dX0_lunarMeeting_35 : decode cX0_lunarMeeting 35 = .ok (.iload_n 1, 1) := by decide +kernel
theorem dX0_lunarMeeting_36 : decode cX0_lunarMeeting 36 = .ok (.invokevirtual 89, 3) := by decide +kernel
theorem dX0_lunarMeeting_39 : decode cX0_lunarMeeting 39 = .ok (.aload_n 0, 1) := by decide +kernel
theorem dX0_lunarMeeting_40 : decode cX0_lunarMeeting 40 = .ok (.iload_n 1, 1) := by decide +kernel
theorem dX0_lunarMeeting_41 : decode cX0_lunarMeeting 41 = .ok (.invokevirtual 92, 3) := by decide +kernel
theorem dX0_lunarMeeting_44 : decode cX0_lunarMeeting 44 = .ok (.lstore 5, 2) := by decide +kernel
theorem dX0_lunarMeeting_46 : decode cX0_lunarMeeting 46 = .ok (.lload 5, 2) := by decide +kernel
theorem dX0_lunarMeeting_48 : decode cX0_lunarMeeting 48 = .ok (.invokestatic 98, 3) := by decide +kernel
theorem dX0_lunarMeeting_51 : decode cX0_lunarMeeting 51 = .ok (.aload_n 0, 1) := by decide +kernel
theorem dX0_lunarMeeting_52 : decode cX0_lunarMeeting 52 = .ok (.iload_n 1, 1) := by decide +kernel
theorem dX0_lunarMeeting_53 : decode cX0_lunarMeeting 53 = .ok (.invokevirtual 102, 3) := by decide +kernel
theorem dX0_lunarMeeting_56 : decode cX0_lunarMeeting 56 = .ok (.lstore 7, 2) := by decide +kernel
theorem dX0_lunarMeeting_58 : decode cX0_lunarMeeting 58 = .ok (.lload 5, 2) := by decide +kernel
theorem dX0_lunarMeeting_60 : decode cX0_lunarMeeting 60 = .ok (.iload_n 2, 1) := by decide +kernel
theorem dX0_lunarMeeting_61 : decode cX0_lunarMeeting 61 = .ok (.i2l, 1) := by decide +kernel
theorem dX0_lunarMeeting_62 : decode cX0_lunarMeeting 62 = .ok (.lsub, 1) := by decide +kernel
theorem dX0_lunarMeeting_63 : decode cX0_lunarMeeting 63 = .ok (.lload 7, 2) := by decide +kernel
theorem dX0_lunarMeeting_65 : decode cX0_lunarMeeting 65 = .ok (.invokestatic 71, 3) := by decide +kernel
theorem dX0_lunarMeeting_68 : decode cX0_lunarMeeting 68 = .ok (.lstore 9, 2) := by decide +kernel
theorem dX0_lunarMeeting_70 : decode cX0_lunarMeeting 70 = .ok (.iconst 0, 1) := by decide +kernel
theorem dX0_lunarMeeting_71 : decode cX0_lunarMeeting 71 = .ok (.istore 11, 2) := by decide +kernel
theorem dX0_lunarMeeting_73 : decode cX0_lunarMeeting 73 = .ok (.iload 11, 2) := by decide +kernel
theorem dX0_lunarMeeting_75 : decode cX0_lunarMeeting 75 = .ok (.iload 4, 2) := by decide +kernel
theorem dX0_lunarMeeting_77 : decode cX0_lunarMeeting 77 = .ok (.if_icmp .ge 34, 3) := by decide +kernel
theorem dX0_lunarMeeting_80 : decode cX0_lunarMeeting 80 = .ok (.aload_n 0, 1) := by decide +kernel
theorem dX0_lunarMeeting_81 : decode cX0_lunarMeeting 81 = .ok (.iload_n 2, 1) := by decide +kernel
theorem dX0_lunarMeeting_82 : decode cX0_lunarMeeting 82 = .ok (.i2l, 1) := by decide +kernel
theorem dX0_lunarMeeting_83 : decode cX0_lunarMeeting 83 = .ok (.lload 9, 2) := by decide +kernel
theorem dX0_lunarMeeting_85 : decode cX0_lunarMeeting 85 = .ok (.ladd, 1) := by decide +kernel
theorem dX0_lunarMeeting_86 : decode cX0_lunarMeeting 86 = .ok (.invokevirtual 105, 3) := by decide +kernel
theorem dX0_lunarMeeting_89 : decode cX0_lunarMeeting 89 = .ok (.iload_n 3, 1) := by decide +kernel
theorem dX0_lunarMeeting_90 : decode cX0_lunarMeeting 90 = .ok (.i2l, 1) := by decide +kernel
theorem dX0_lunarMeeting_91 : decode cX0_lunarMeeting 91 = .ok (.lcmp, 1) := by decide +kernel
theorem dX0_lunarMeeting_92 : decode cX0_lunarMeeting 92 = .ok (.ifCond .ne 6, 3) := by decide +kernel
theorem dX0_lunarMeeting_95 : decode cX0_lunarMeeting 95 = .ok (.lload 9, 2) := by decide +kernel
theorem dX0_lunarMeeting_97 : decode cX0_lunarMeeting 97 = .ok (.lreturn, 1) := by decide +kernel
theorem dX0_lunarMeeting_98 : decode cX0_lunarMeeting 98 = .ok (.lload 9, 2) := by decide +kernel
theorem dX0_lunarMeeting_100 : decode cX0_lunarMeeting 100 = .ok (.lload 7, 2) := by decide +kernel
theorem dX0_lunarMeeting_102 : decode cX0_lunarMeeting 102 = .ok (.ladd, 1) := by decide +kernel
theorem dX0_lunarMeeting_103 : decode cX0_lunarMeeting 103 = .ok (.lstore 9, 2) := by decide +kernel
theorem dX0_lunarMeeting_105 : decode cX0_lunarMeeting 105 = .ok (.iinc 11 1, 3) := by decide +kernel
theorem dX0_lunarMeeting_108 : decode cX0_lunarMeeting 108 = .ok (.goto (-35), 3) := by decide +kernel
theorem dX0_lunarMeeting_111 : decode cX0_lunarMeeting 111 = .ok (.ldc2_w 96, 3) := by decide +kernel
theorem dX0_lunarMeeting_114 : decode cX0_lunarMeeting 114 = .ok (.lreturn, 1) := by decide +kernel
set_option maxRecDepth 20000 in
theorem ggX0_best_X0_checkDay : GoodIn wsX0_best wsX0_checkDay := goodIn_ca (goodIn_r _ [4, 5, 6, 7, 8, 3, 9, 10, 11, 12, 13, 14] (by decide +kernel) (by decide +kernel)) (goodIn_sub (fun _ h => List.mem_cons_of_mem _ (List.mem_append_left _ (List.mem_append_right _ h))) (by decide +kernel))
set_option maxRecDepth 20000 in
theorem gX0_best_X0_checkDay : GoodIn wsX0_best (va_wsS RX0 75 yX0_checkDay wsX0_checkDay) := goodIn_app (goodIn_of _ (by decide +kernel)) ggX0_best_X0_checkDay
set_option maxRecDepth 20000 in
theorem ggX0_best_X0_isWithin : GoodIn wsX0_best wsX0_isWithin := goodIn_r _ [9] (by decide +kernel) (by decide +kernel)
set_option maxRecDepth 20000 in
theorem gX0_best_X0_isWithin : GoodIn wsX0_best (va_wsS RX0 41 yX0_isWithin wsX0_isWithin) := goodIn_app (goodIn_of _ (by decide +kernel)) ggX0_best_X0_isWithin
set_option maxRecDepth 20000 in
theorem ggX0_best_X0_checkArgument : GoodIn wsX0_best wsX0_checkArgument := goodIn_ca (goodIn_r _ [12, 13, 14] (by decide +kernel) (by decide +kernel)) (goodIn_sub (fun _ h => List.mem_cons_of_mem _ (List.mem_append_left _ (List.mem_append_right _ h))) (by decide +kernel))
set_option maxRecDepth 20000 in
theorem gX0_best_X0_checkArgument : GoodIn wsX0_best (va_wsS RX0 45 yX0_checkArgument wsX0_checkArgument) := goodIn_app (goodIn_of _ (by decide +kernel)) ggX0_best_X0_checkArgument
set_option maxRecDepth 20000 in
theorem ggX0_best_X0_checkMarkets : GoodIn wsX0_best wsX0_checkMarkets := goodIn_ca (goodIn_r _ [18, 19, 20, 21, 58, 59, 60, 61, 62, 63, 64, 65, 66, 67] (by decide +kernel) (by decide +kernel)) (goodIn_sub (fun _ h => List.mem_cons_of_mem _ (List.mem_append_right _ h)) (by decide +kernel))
set_option maxRecDepth 20000 in
theorem gX0_best_X0_checkMarkets : GoodIn wsX0_best (wsV RX0 109 RX0 yX0_checkMarkets wsX0_checkMarkets) := goodIn_app (goodIn_of _ (by decide +kernel)) ggX0_best_X0_checkMarkets
set_option maxRecDepth 20000 in
theorem ggX0_best_X0_setOn : GoodIn wsX0_best wsX0_setOn := goodIn_r _ [25, 21, 26, 27, 28, 3, 29, 30, 31, 32, 33, 34, 35, 36, 37, 38, 39, 40, 41, 42, 43, 44, 45, 46, 47, 48, 49, 50, 58, 59, 60, 61, 62, 63, 64, 65, 66, 67] (by decide +kernel) (by decide +kernel)
set_option maxRecDepth 20000 in
theorem gX0_best_X0_setOn : GoodIn wsX0_best (wsV RX0 86 RX0 yX0_setOn wsX0_setOn) := goodIn_app (goodIn_of _ (by decide +kernel)) ggX0_best_X0_setOn
set_option maxRecDepth 20000 in
theorem ggX0_best_J6_bitCount_0f7a4 : GoodIn wsX0_best wsJ6_bitCount_0f7a4 := goodIn_r _ [54, 55, 56, 57] (by decide +kernel) (by decide +kernel)
set_option maxRecDepth 20000 in
theorem gX0_best_J6_bitCount_0f7a4 : GoodIn wsX0_best (va_wsS RX0 112 yJ6_bitCount_0f7a4 wsJ6_bitCount_0f7a4) := goodIn_app (goodIn_of _ (by decide +kernel)) ggX0_best_J6_bitCount_0f7a4
theorem dX0_best_0 : decode cX0_best 0 = .ok (.iload_n 2, 1) := by decide +kernel
theorem dX0_best_1 : decode cX0_best 1 = .ok (.invokestatic 75, 3) := by decide +kernel
theorem dX0_best_4 : decode cX0_best 4 = .ok (.iload_n 3, 1) := by decide +kernel
theorem dX0_best_5 : decode cX0_best 5 = .ok (.invokestatic 75, 3) := by decide +kernel
theorem dX0_best_8 : decode cX0_best 8 = .ok (.iload_n 3, 1) := by decide +kernel
theorem dX0_best_9 : decode cX0_best 9 = .ok (.iload_n 2, 1) := by decide +kernel
theorem dX0_best_10 : decode cX0_best 10 = .ok (.iload_n 2, 1) := by decide +kernel
theorem dX0_best_11 : decode cX0_best 11 = .ok (.sipush 2000, 3) := by decide +kernel
theorem dX0_best_14 : decode cX0_best 14 = .ok (.iadd, 1) := by decide +kernel
theorem dX0_best_15 : decode cX0_best 15 = .ok (.invokestatic 41, 3) := by decide +kernel
theorem dX0_best_18 : decode cX0_best 18 = .ok (.invokestatic 45, 3) := by decide +kernel
theorem dX0_best_21 : decode cX0_best 21 = .ok (.aload_n 0, 1) := by decide +kernel
theorem dX0_best_22 : decode cX0_best 22 = .ok (.iload_n 1, 1) := by decide +kernel
theorem dX0_best_23 : decode cX0_best 23 = .ok (.invokevirtual 109, 3) := by decide +kernel
theorem dX0_best_26 : decode cX0_best 26 = .ok (.iload_n 2, 1) := by decide +kernel
theorem dX0_best_27 : decode cX0_best 27 = .ok (.istore 4, 2) := by decide +kernel
theorem dX0_best_29 : decode cX0_best 29 = .ok (.iconst 0, 1) := by decide +kernel
theorem dX0_best_30 : decode cX0_best 30 = .ok (.istore 5, 2) := by decide +kernel
theorem dX0_best_32 : decode cX0_best 32 = .ok (.iload_n 2, 1) := by decide +kernel
theorem dX0_best_33 : decode cX0_best 33 = .ok (.istore 6, 2) := by decide +kernel
theorem dX0_best_35 : decode cX0_best 35 = .ok (.iload 6, 2) := by decide +kernel
theorem dX0_best_37 : decode cX0_best 37 = .ok (.iload_n 3, 1) := by decide +kernel
theorem dX0_best_38 : decode cX0_best 38 = .ok (.if_icmp .gt 37, 3) := by decide +kernel
theorem dX0_best_41 : decode cX0_best 41 = .ok (.aload_n 0, 1) := by decide +kernel
theorem dX0_best_42 : decode cX0_best 42 = .ok (.iload 6, 2) := by decide +kernel
theorem dX0_best_44 : decode cX0_best 44 = .ok (.invokevirtual 86, 3) := by decide +kernel
theorem dX0_best_47 : decode cX0_best 47 = .ok (.iload_n 1, 1) := by decide +kernel
theorem dX0_best_48 : decode cX0_best 48 = .ok (.iand, 1) := by decide +kernel
theorem dX0_best_49 : decode cX0_best 49 = .ok (.invokestatic 112, 3) := by decide +kernel
theorem dX0_best_52 : decode cX0_best 52 = .ok (.istore 7, 2) := by decide +kernel
theorem dX0_best_54 : decode cX0_best 54 = .ok (.iload 7, 2) := by decide +kernel
theorem dX0_best_56 : decode cX0_best 56 = .ok (.iload 5, 2) := by decide +kernel
theorem dX0_best_58 : decode cX0_best 58 = .ok (.if_icmp .le 11, 3) := by decide +kernel
theorem dX0_best_61 : decode cX0_best 61 = .ok (.iload 7, 2) := by decide +kernel
theorem dX0_best_63 : decode cX0_best 63 = .ok (.istore 5, 2) := by decide +kernel
theorem dX0_best_65 : decode cX0_best 65 = .ok (.iload 6, 2) := by decide +kernel
theorem dX0_best_67 : decode cX0_best 67 = .ok (.istore 4, 2) := by decide +kernel
theorem dX0_best_69 : decode cX0_best 69 = .ok (.iinc 6 1, 3) := by decide +kernel
theorem dX0_best_72 : decode cX0_best 72 = .ok (.goto (-37), 3) := by decide +kernel
theorem dX0_best_75 : decode cX0_best 75 = .ok (.iload 4, 2) := by decide +kernel
theorem dX0_best_77 : decode cX0_best 77 = .ok (.ireturn, 1) := by decide +kernel
set_option maxRecDepth 20000 in
theorem ggX0_month_X0_checkDay : GoodIn wsX0_month wsX0_checkDay := goodIn_ca (goodIn_r _ [5, 6, 7, 8, 9, 4, 10, 11, 12, 13, 14, 15] (by decide +kernel) (by decide +kernel)) (goodIn_sub (fun _ h => List.mem_cons_of_mem _ (List.mem_append_right _ h)) (by decide +kernel))
set_option maxRecDepth 20000 in
theorem gX0_month_X0_checkDay : GoodIn wsX0_month (va_wsS RX0 75 yX0_checkDay wsX0_checkDay) := goodIn_app (goodIn_of _ (by decide +kernel)) ggX0_month_X0_checkDay
set_option maxRecDepth 20000 in
theorem ggX0_month_X0_moonParts : GoodIn wsX0_month wsX0_moonParts := goodIn_r _ [19, 20, 21, 29, 30, 31, 32, 33, 34, 35, 36, 37, 38] (by decide +kernel) (by decide +kernel)
set_option maxRecDepth 20000 in
theorem gX0_month_X0_moonParts : GoodIn wsX0_month (wsV RX0 117 RX0 yX0_moonParts wsX0_moonParts) := goodIn_app (goodIn_of _ (by decide +kernel)) ggX0_month_X0_moonParts
set_option maxRecDepth 20000 in
theorem ggX0_month_X0_divide : GoodIn wsX0_month wsX0_divide := goodIn_r _ [24, 25, 26, 27, 28] (by decide +kernel) (by decide +kernel)
set_option maxRecDepth 20000 in
theorem gX0_month_X0_divide : GoodIn wsX0_month (va_wsS RX0 120 yX0_divide wsX0_divide) := goodIn_app (goodIn_of _ (by decide +kernel)) ggX0_month_X0_divide
theorem dX0_month_0 : decode cX0_month 0 = .ok (.iload_n 1, 1) := by decide +kernel
theorem dX0_month_1 : decode cX0_month 1 = .ok (.invokestatic 75, 3) := by decide +kernel
theorem dX0_month_4 : decode cX0_month 4 = .ok (.aload_n 0, 1) := by decide +kernel
theorem dX0_month_5 : decode cX0_month 5 = .ok (.iload_n 1, 1) := by decide +kernel
theorem dX0_month_6 : decode cX0_month 6 = .ok (.i2l, 1) := by decide +kernel
theorem dX0_month_7 : decode cX0_month 7 = .ok (.invokevirtual 117, 3) := by decide +kernel
theorem dX0_month_10 : decode cX0_month 10 = .ok (.aload_n 0, 1) := by decide +kernel
theorem dX0_month_11 : decode cX0_month 11 = .ok (.getfield 20, 3) := by decide +kernel
theorem dX0_month_14 : decode cX0_month 14 = .ok (.i2l, 1) := by decide +kernel
theorem dX0_month_15 : decode cX0_month 15 = .ok (.invokestatic 120, 3) := by decide +kernel
theorem dX0_month_18 : decode cX0_month 18 = .ok (.l2i, 1) := by decide +kernel
theorem dX0_month_19 : decode cX0_month 19 = .ok (.ireturn, 1) := by decide +kernel
set_option maxRecDepth 20000 in
theorem ggX0_lunarDay_X0_checkDay : GoodIn wsX0_lunarDay wsX0_checkDay := goodIn_ca (goodIn_r _ [4, 5, 6, 7, 8, 3, 9, 10, 11, 12, 13, 14] (by decide +kernel) (by decide +kernel)) (goodIn_sub (fun _ h => List.mem_cons_of_mem _ (List.mem_append_right _ h)) (by decide +kernel))
set_option maxRecDepth 20000 in
theorem gX0_lunarDay_X0_checkDay : GoodIn wsX0_lunarDay (va_wsS RX0 75 yX0_checkDay wsX0_checkDay) := goodIn_app (goodIn_of _ (by decide +kernel)) ggX0_lunarDay_X0_checkDay
set_option maxRecDepth 20000 in
theorem ggX0_lunarDay_X0_lunarDayOf : GoodIn wsX0_lunarDay wsX0_lunarDayOf := goodIn_r _ [18, 19, 20, 21, 22, 23, 3, 24, 25, 26, 27, 28, 29, 30, 31, 32, 33, 34, 35, 36, 37, 38, 39, 40, 41, 42, 43, 44, 45, 46, 47, 48] (by decide +kernel) (by decide +kernel)
set_option maxRecDepth 20000 in
theorem gX0_lunarDay_X0_lunarDayOf : GoodIn wsX0_lunarDay (wsV RX0 105 RX0 yX0_lunarDayOf wsX0_lunarDayOf) := goodIn_app (goodIn_of _ (by decide +kernel)) ggX0_lunarDay_X0_lunarDayOf
theorem dX0_lunarDay_0 : decode cX0_lunarDay 0 = .ok (.iload_n 1, 1) := by decide +kernel
theorem dX0_lunarDay_1 : decode cX0_lunarDay 1 = .ok (.invokestatic 75, 3) := by decide +kernel
theorem dX0_lunarDay_4 : decode cX0_lunarDay 4 = .ok (.aload_n 0, 1) := by decide +kernel
theorem dX0_lunarDay_5 : decode cX0_lunarDay 5 = .ok (.iload_n 1, 1) := by decide +kernel
theorem dX0_lunarDay_6 : decode cX0_lunarDay 6 = .ok (.i2l, 1) := by decide +kernel
theorem dX0_lunarDay_7 : decode cX0_lunarDay 7 = .ok (.invokevirtual 105, 3) := by decide +kernel
theorem dX0_lunarDay_10 : decode cX0_lunarDay 10 = .ok (.l2i, 1) := by decide +kernel
theorem dX0_lunarDay_11 : decode cX0_lunarDay 11 = .ok (.ireturn, 1) := by decide +kernel
set_option maxRecDepth 20000 in
theorem ggX0_monthBegin_X0_isWithin : GoodIn wsX0_monthBegin wsX0_isWithin := goodIn_r _ [9] (by decide +kernel) (by decide +kernel)
set_option maxRecDepth 20000 in
theorem gX0_monthBegin_X0_isWithin : GoodIn wsX0_monthBegin (va_wsS RX0 41 yX0_isWithin wsX0_isWithin) := goodIn_app (goodIn_of _ (by decide +kernel)) ggX0_monthBegin_X0_isWithin
set_option maxRecDepth 20000 in
theorem ggX0_monthBegin_X0_checkArgument : GoodIn wsX0_monthBegin wsX0_checkArgument := goodIn_ca (goodIn_r _ [12, 13, 14] (by decide +kernel) (by decide +kernel)) (goodIn_sub (fun _ h => List.mem_cons_of_mem _ (List.mem_append_right _ h)) (by decide +kernel))
set_option maxRecDepth 20000 in
theorem gX0_monthBegin_X0_checkArgument : GoodIn wsX0_monthBegin (va_wsS RX0 45 yX0_checkArgument wsX0_checkArgument) := goodIn_app (goodIn_of _ (by decide +kernel)) ggX0_monthBegin_X0_checkArgument
set_option maxRecDepth 20000 in
theorem ggX0_monthBegin_X0_divide : GoodIn wsX0_monthBegin wsX0_divide := goodIn_r _ [17, 18, 19, 20, 21] (by decide +kernel) (by decide +kernel)
set_option maxRecDepth 20000 in
theorem gX0_monthBegin_X0_divide : GoodIn wsX0_monthBegin (va_wsS RX0 120 yX0_divide wsX0_divide) := goodIn_app (goodIn_of _ (by decide +kernel)) ggX0_monthBegin_X0_divide
theorem dX0_monthBegin_0 : decode cX0_monthBegin 0 = .ok (.iload_n 1, 1) := by decide +kernel
theorem dX0_monthBegin_1 : decode cX0_monthBegin 1 = .ok (.ldc 123, 2) := by decide +kernel
theorem dX0_monthBegin_3 : decode cX0_monthBegin 3 = .ok (.ldc 124, 2) := by decide +kernel
theorem dX0_monthBegin_5 : decode cX0_monthBegin 5 = .ok (.invokestatic 41, 3) := by decide +kernel
theorem dX0_monthBegin_8 : decode cX0_monthBegin 8 = .ok (.invokestatic 45, 3) := by decide +kernel
theorem dX0_monthBegin_11 : decode cX0_monthBegin 11 = .ok (.iload_n 1, 1) := by decide +kernel
theorem dX0_monthBegin_12 : decode cX0_monthBegin 12 = .ok (.i2l, 1) := by decide +kernel
theorem dX0_monthBegin_13 : decode cX0_monthBegin 13 = .ok (.lneg, 1) := by decide +kernel
theorem dX0_monthBegin_14 : decode cX0_monthBegin 14 = .ok (.aload_n 0, 1) := by decide +kernel
theorem dX0_monthBegin_15 : decode cX0_monthBegin 15 = .ok (.getfield 20, 3) := by decide +kernel
theorem dX0_monthBegin_18 : decode cX0_monthBegin 18 = .ok (.i2l, 1) := by decide +kernel
theorem dX0_monthBegin_19 : decode cX0_monthBegin 19 = .ok (.lmul, 1) := by decide +kernel
theorem dX0_monthBegin_20 : decode cX0_monthBegin 20 = .ok (.aload_n 0, 1) := by decide +kernel
theorem dX0_monthBegin_21 : decode cX0_monthBegin 21 = .ok (.getfield 23, 3) := by decide +kernel
theorem dX0_monthBegin_24 : decode cX0_monthBegin 24 = .ok (.i2l, 1) := by decide +kernel
theorem dX0_monthBegin_25 : decode cX0_monthBegin 25 = .ok (.invokestatic 120, 3) := by decide +kernel
theorem dX0_monthBegin_28 : decode cX0_monthBegin 28 = .ok (.lneg, 1) := by decide +kernel
theorem dX0_monthBegin_29 : decode cX0_monthBegin 29 = .ok (.aload_n 0, 1) := by decide +kernel
theorem dX0_monthBegin_30 : decode cX0_monthBegin 30 = .ok (.getfield 26, 3) := by decide +kernel
theorem dX0_monthBegin_33 : decode cX0_monthBegin 33 = .ok (.i2l, 1) := by decide +kernel
theorem dX0_monthBegin_34 : decode cX0_monthBegin 34 = .ok (.lsub, 1) := by decide +kernel
theorem dX0_monthBegin_35 : decode cX0_monthBegin 35 = .ok (.l2i, 1) := by decide +kernel
theorem dX0_monthBegin_36 : decode cX0_monthBegin 36 = .ok (.ireturn, 1) := by decide +kernel
set_option maxRecDepth 20000 in
theorem ggX0_year_X0_checkDay : GoodIn wsX0_year wsX0_checkDay := goodIn_ca (goodIn_r _ [4, 5, 6, 7, 8, 3, 9, 10, 11, 12, 13, 14] (by decide +kernel) (by decide +kernel)) (goodIn_sub (fun _ h => List.mem_cons_of_mem _ (List.mem_append_right _ h)) (by decide +kernel))
set_option maxRecDepth 20000 in
theorem gX0_year_X0_checkDay : GoodIn wsX0_year (va_wsS RX0 75 yX0_checkDay wsX0_checkDay) := goodIn_app (goodIn_of _ (by decide +kernel)) ggX0_year_X0_checkDay
set_option maxRecDepth 20000 in
theorem ggX0_year_X0_yearOf : GoodIn wsX0_year wsX0_yearOf := goodIn_r _ [18, 19, 20, 21, 22, 23, 24, 3, 25, 26, 27, 28, 29, 30, 31, 32, 33, 34, 35, 36, 37, 38, 39] (by decide +kernel) (by decide +kernel)
set_option maxRecDepth 20000 in
theorem gX0_year_X0_yearOf : GoodIn wsX0_year (wsV RX0 125 RX0 yX0_yearOf wsX0_yearOf) := goodIn_app (goodIn_of _ (by decide +kernel)) ggX0_year_X0_yearOf
theorem dX0_year_0 : decode cX0_year 0 = .ok (.iload_n 1, 1) := by decide +kernel
theorem dX0_year_1 : decode cX0_year 1 = .ok (.invokestatic 75, 3) := by decide +kernel
theorem dX0_year_4 : decode cX0_year 4 = .ok (.aload_n 0, 1) := by decide +kernel
theorem dX0_year_5 : decode cX0_year 5 = .ok (.iload_n 1, 1) := by decide +kernel
theorem dX0_year_6 : decode cX0_year 6 = .ok (.invokevirtual 125, 3) := by decide +kernel
theorem dX0_year_9 : decode cX0_year 9 = .ok (.ireturn, 1) := by decide +kernel
set_option maxRecDepth 20000 in
theorem ggX0_placeInYear_X0_checkDay : GoodIn wsX0_placeInYear wsX0_checkDay := goodIn_ca (goodIn_r _ [4, 5, 6, 7, 8, 3, 9, 10, 11, 12, 13, 14] (by decide +kernel) (by decide +kernel)) (goodIn_sub (fun _ h => List.mem_cons_of_mem _ (List.mem_append_right _ h)) (by decide +kernel))
set_option maxRecDepth 20000 in
theorem gX0_placeInYear_X0_checkDay : GoodIn wsX0_placeInYear (va_wsS RX0 75 yX0_checkDay wsX0_checkDay) := goodIn_app (goodIn_of _ (by decide +kernel)) ggX0_placeInYear_X0_checkDay
set_option maxRecDepth 20000 in
theorem ggX0_placeInYear_X0_yearOf : GoodIn wsX0_placeInYear wsX0_yearOf := goodIn_r _ [18, 19, 20, 21, 22, 23, 24, 3, 25, 26, 27, 28, 29, 34, 35, 36, 37, 38, 39, 40, 41, 42, 43] (by decide +kernel) (by decide +kernel)
set_option maxRecDepth 20000 in
theorem gX0_placeInYear_X0_yearOf : GoodIn wsX0_placeInYear (wsV RX0 125 RX0 yX0_yearOf wsX0_yearOf) := goodIn_app (goodIn_of _ (by decide +kernel)) ggX0_placeInYear_X0_yearOf
set_option maxRecDepth 20000 in
theorem ggX0_placeInYear_X0_yearBegin : GoodIn wsX0_placeInYear wsX0_yearBegin := goodIn_r _ [33, 21, 22, 20, 19, 23, 24, 3, 25, 26, 27, 28, 29, 34, 35, 36, 37, 38, 39, 40, 41, 42, 43] (by decide +kernel) (by decide +kernel)
set_option maxRecDepth 20000 in
theorem gX0_placeInYear_X0_yearBegin : GoodIn wsX0_placeInYear (wsV RX0 128 RX0 yX0_yearBegin wsX0_yearBegin) := goodIn_app (goodIn_of _ (by decide +kernel)) ggX0_placeInYear_X0_yearBegin
theorem dX0_placeInYear_0 : decode cX0_placeInYear 0 = .ok (.iload_n 1, 1) := by decide +kernel
theorem dX0_placeInYear_1 : decode cX0_placeInYear 1 = .ok (.invokestatic 75, 3) := by decide +kernel
theorem dX0_placeInYear_4 : decode cX0_placeInYear 4 = .ok (.iload_n 1, 1) := by decide +kernel
theorem dX0_placeInYear_5 : decode cX0_placeInYear 5 = .ok (.aload_n 0, 1) := by decide +kernel
theorem dX0_placeInYear_6 : decode cX0_placeInYear 6 = .ok (.aload_n 0, 1) := by decide +kernel
theorem dX0_placeInYear_7 : decode cX0_placeInYear 7 = .ok (.iload_n 1, 1) := by decide +kernel
theorem dX0_placeInYear_8 : decode cX0_placeInYear 8 = .ok (.invokevirtual 125, 3) := by decide +kernel
theorem dX0_placeInYear_11 : decode cX0_placeInYear 11 = .ok (.invokevirtual 128, 3) := by decide +kernel
theorem dX0_placeInYear_14 : decode cX0_placeInYear 14 = .ok (.isub, 1) := by decide +kernel
theorem dX0_placeInYear_15 : decode cX0_placeInYear 15 = .ok (.ireturn, 1) := by decide +kernel
set_option maxRecDepth 20000 in
theorem ggX0_isLeap_X0_checkYear : GoodIn wsX0_isLeap wsX0_checkYear := goodIn_ca (goodIn_r _ [4, 5, 6, 3, 7, 8, 9, 10, 11, 12] (by decide +kernel) (by decide +kernel)) (goodIn_sub (fun _ h => List.mem_cons_of_mem _ (List.mem_append_right _ h)) (by decide +kernel))
set_option maxRecDepth 20000 in
theorem gX0_isLeap_X0_checkYear : GoodIn wsX0_isLeap (va_wsS RX0 131 yX0_checkYear wsX0_checkYear) := goodIn_app (goodIn_of _ (by decide +kernel)) ggX0_isLeap_X0_checkYear
set_option maxRecDepth 20000 in
theorem ggX0_isLeap_X0_hasLeapDay : GoodIn wsX0_isLeap wsX0_hasLeapDay := goodIn_r _ [16, 17, 18, 19, 20, 21, 3, 22, 23, 24, 25, 26, 27, 28, 29, 30, 31, 32, 33, 34, 35, 36] (by decide +kernel) (by decide +kernel)
set_option maxRecDepth 20000 in
theorem gX0_isLeap_X0_hasLeapDay : GoodIn wsX0_isLeap (wsV RX0 134 RX0 yX0_hasLeapDay wsX0_hasLeapDay) := goodIn_app (goodIn_of _ (by decide +kernel)) ggX0_isLeap_X0_hasLeapDay
theorem dX0_isLeap_0 : decode cX0_isLeap 0 = .ok (.iload_n 1, 1) := by decide +kernel
theorem dX0_isLeap_1 : decode cX0_isLeap 1 = .ok (.invokestatic 131, 3) := by decide +kernel
theorem dX0_isLeap_4 : decode cX0_isLeap 4 = .ok (.aload_n 0, 1) := by decide +kernel
theorem dX0_isLeap_5 : decode cX0_isLeap 5 = .ok (.iload_n 1, 1) := by decide +kernel
theorem dX0_isLeap_6 : decode cX0_isLeap 6 = .ok (.invokevirtual 134, 3) := by decide +kernel
theorem dX0_isLeap_9 : decode cX0_isLeap 9 = .ok (.ireturn, 1) := by decide +kernel
set_option maxRecDepth 20000 in
theorem ggX0_dayOf_X0_checkYear : GoodIn wsX0_dayOf wsX0_checkYear := goodIn_ca (goodIn_r _ [5, 6, 7, 4, 8, 9, 10, 11, 12, 13] (by decide +kernel) (by decide +kernel)) (goodIn_sub (fun _ h => List.mem_cons_of_mem _ (List.mem_append_right _ h)) (by decide +kernel))
set_option maxRecDepth 20000 in
theorem gX0_dayOf_X0_checkYear : GoodIn wsX0_dayOf (va_wsS RX0 131 yX0_checkYear wsX0_checkYear) := goodIn_app (goodIn_of _ (by decide +kernel)) ggX0_dayOf_X0_checkYear
set_option maxRecDepth 20000 in
theorem ggX0_dayOf_X0_hasLeapDay : GoodIn wsX0_dayOf wsX0_hasLeapDay := goodIn_r _ [17, 18, 19, 20, 21, 22, 4, 23, 24, 25, 26, 27, 38, 39, 40, 41, 42, 43, 44, 45, 46, 47] (by decide +kernel) (by decide +kernel)
set_option maxRecDepth 20000 in
theorem gX0_dayOf_X0_hasLeapDay : GoodIn wsX0_dayOf (wsV RX0 134 RX0 yX0_hasLeapDay wsX0_hasLeapDay) := goodIn_app (goodIn_of _ (by decide +kernel)) ggX0_dayOf_X0_hasLeapDay
set_option maxRecDepth 20000 in
theorem ggX0_dayOf_X0_isWithin : GoodIn wsX0_dayOf wsX0_isWithin := goodIn_r _ [8] (by decide +kernel) (by decide +kernel)
set_option maxRecDepth 20000 in
theorem gX0_dayOf_X0_isWithin : GoodIn wsX0_dayOf (va_wsS RX0 41 yX0_isWithin wsX0_isWithin) := goodIn_app (goodIn_of _ (by decide +kernel)) ggX0_dayOf_X0_isWithin
set_option maxRecDepth 20000 in
theorem ggX0_dayOf_X0_checkArgument : GoodIn wsX0_dayOf wsX0_checkArgument := goodIn_ca (goodIn_r _ [11, 12, 13] (by decide +kernel) (by decide +kernel)) (goodIn_sub (fun _ h => List.mem_cons_of_mem _ (List.mem_append_right _ h)) (by decide +kernel))
set_option maxRecDepth 20000 in
theorem gX0_dayOf_X0_checkArgument : GoodIn wsX0_dayOf (va_wsS RX0 45 yX0_checkArgument wsX0_checkArgument) := goodIn_app (goodIn_of _ (by decide +kernel)) ggX0_dayOf_X0_checkArgument
set_option maxRecDepth 20000 in
theorem ggX0_dayOf_X0_yearBegin : GoodIn wsX0_dayOf wsX0_yearBegin := goodIn_r _ [31, 1, 18, 19, 20, 32, 33, 4, 34, 35, 36, 26, 37, 38, 39, 40, 41, 42, 43, 44, 45, 46, 47] (by decide +kernel) (by decide +kernel)
set_option maxRecDepth 20000 in
theorem gX0_dayOf_X0_yearBegin : GoodIn wsX0_dayOf (wsV RX0 128 RX0 yX0_yearBegin wsX0_yearBegin) := goodIn_app (goodIn_of _ (by decide +kernel)) ggX0_dayOf_X0_yearBegin
theorem dX0_dayOf_0 : decode cX0_dayOf 0 = .ok (.iload_n 1, 1) := by decide +kernel
theorem dX0_dayOf_1 : decode cX0_dayOf 1 = .ok (.invokestatic 131, 3) := by decide +kernel
theorem dX0_dayOf_4 : decode cX0_dayOf 4 = .ok (.aload_n 0, 1) := by decide +kernel
theorem dX0_dayOf_5 : decode cX0_dayOf 5 = .ok (.iload_n 1, 1) := by decide +kernel
theorem dX0_dayOf_6 : decode cX0_dayOf 6 = .ok (.invokevirtual 134, 3) := by decide +kernel
theorem dX0_dayOf_9 : decode cX0_dayOf 9 = .ok (.ifCond .eq 12, 3) := by decide +kernel
theorem dX0_dayOf_12 : decode cX0_dayOf 12 = .ok (.aload_n 0, 1) := by decide +kernel
theorem dX0_dayOf_13 : decode cX0_dayOf 13 = .ok (.getfield 29, 3) := by decide +kernel
theorem dX0_dayOf_16 : decode cX0_dayOf 16 = .ok (.iconst 1, 1) := by decide +kernel
theorem dX0_dayOf_17 : decode cX0_dayOf 17 = .ok (.iadd, 1) := by decide +kernel
theorem dX0_dayOf_18 : decode cX0_dayOf 18 = .ok (.goto 7, 3) := by decide +kernel
theorem dX0_dayOf_21 : decode cX0_dayOf 21 = .ok (.aload_n 0, 1) := by decide +kernel
theorem dX0_dayOf_22 : decode cX0_dayOf 22 = .ok (.getfield 29, 3) := by decide +kernel
theorem dX0_dayOf_25 : decode cX0_dayOf 25 = .ok (.istore_n 3, 1) := by decide +kernel
theorem dX0_dayOf_26 : decode cX0_dayOf 26 = .ok (.iload_n 2, 1) := by decide +kernel
theorem dX0_dayOf_27 : decode cX0_dayOf 27 = .ok (.iconst 0, 1) := by decide +kernel
theorem dX0_dayOf_28 : decode cX0_dayOf 28 = .ok (.iload_n 3, 1) := by decide +kernel
theorem dX0_dayOf_29 : decode cX0_dayOf 29 = .ok (.iconst 1, 1) := by decide +kernel
theorem dX0_dayOf_30 : decode cX0_dayOf 30 = .ok (.isub, 1) := by decide +kernel
theorem dX0_dayOf_31 : decode cX0_dayOf 31 = .ok (.invokestatic 41, 3) := by decide +kernel
theorem dX0_dayOf_34 : decode cX0_dayOf 34 = .ok (.invokestatic 45, 3) := by decide +kernel
theorem dX0_dayOf_37 : decode cX0_dayOf 37 = .ok (.aload_n 0, 1) := by decide +kernel
theorem dX0_dayOf_38 : decode cX0_dayOf 38 = .ok (.iload_n 1, 1) := by decide +kernel
theorem dX0_dayOf_39 : decode cX0_dayOf 39 = .ok (.invokevirtual 128, 3) := by decide +kernel
theorem dX0_dayOf_42 : decode cX0_dayOf 42 = .ok (.iload_n 2, 1) := by decide +kernel
theorem dX0_dayOf_43 : decode cX0_dayOf 43 = .ok (.iadd, 1) := by decide +kernel
theorem dX0_dayOf_44 : decode cX0_dayOf 44 = .ok (.ireturn, 1) := by decide +kernel
set_option maxRecDepth 20000 in
theorem ggX0_timesInYear_X0_checkMarket : GoodIn wsX0_timesInYear wsX0_checkMarket := goodIn_ca (goodIn_r _ [5, 6, 7, 8, 9, 10, 4, 11, 53, 54, 55, 56, 57, 58, 59, 60, 61, 62] (by decide +kernel) (by decide +kernel)) (goodIn_sub (fun _ h => List.mem_cons_of_mem _ (List.mem_append_left _ (List.mem_append_right _ h))) (by decide +kernel))
set_option maxRecDepth 20000 in
theorem gX0_timesInYear_X0_checkMarket : GoodIn wsX0_timesInYear (wsV RX0 60 RX0 yX0_checkMarket wsX0_checkMarket) := goodIn_app (goodIn_of _ (by decide +kernel)) ggX0_timesInYear_X0_checkMarket
set_option maxRecDepth 20000 in
theorem ggX0_timesInYear_X0_checkYear : GoodIn wsX0_timesInYear wsX0_checkYear := goodIn_ca (goodIn_r _ [14, 9, 10, 4, 11, 15, 16, 17, 18, 19] (by decide +kernel) (by decide +kernel)) (goodIn_sub (fun _ h => List.mem_cons_of_mem _ (List.mem_append_right _ h)) (by decide +kernel))
set_option maxRecDepth 20000 in
theorem gX0_timesInYear_X0_checkYear : GoodIn wsX0_timesInYear (va_wsS RX0 131 yX0_checkYear wsX0_checkYear) := goodIn_app (goodIn_of _ (by decide +kernel)) ggX0_timesInYear_X0_checkYear
set_option maxRecDepth 20000 in
theorem ggX0_timesInYear_X0_yearBegin : GoodIn wsX0_timesInYear wsX0_yearBegin := goodIn_r _ [23, 24, 25, 26, 27, 28, 29, 4, 30, 31, 32, 33, 34, 53, 54, 55, 56, 57, 58, 59, 60, 61, 62] (by decide +kernel) (by decide +kernel)
set_option maxRecDepth 20000 in
theorem gX0_timesInYear_X0_yearBegin : GoodIn wsX0_timesInYear (wsV RX0 128 RX0 yX0_yearBegin wsX0_yearBegin) := goodIn_app (goodIn_of _ (by decide +kernel)) ggX0_timesInYear_X0_yearBegin
set_option maxRecDepth 20000 in
theorem ggX0_timesInYear_X0_countHeld : GoodIn wsX0_timesInYear wsX0_countHeld := goodIn_r _ [38, 39, 40, 41, 4, 42, 43, 44, 45, 46, 47, 48, 49, 50, 51, 52, 28, 29, 30, 31, 32, 33, 34, 53, 54, 55, 56, 57, 58, 59, 60, 61, 62] (by decide +kernel) (by decide +kernel)
set_option maxRecDepth 20000 in
theorem gX0_timesInYear_X0_countHeld : GoodIn wsX0_timesInYear (wsV RX0 82 RX0 yX0_countHeld wsX0_countHeld) := goodIn_app (goodIn_of _ (by decide +kernel)) ggX0_timesInYear_X0_countHeld
theorem dX0_timesInYear_0 : decode cX0_timesInYear 0 = .ok (.aload_n 0, 1) := by decide +kernel
theorem dX0_timesInYear_1 : decode cX0_timesInYear 1 = .ok (.iload_n 1, 1) := by decide +kernel
theorem dX0_timesInYear_2 : decode cX0_timesInYear 2 = .ok (.invokevirtual 60, 3) := by decide +kernel
theorem dX0_timesInYear_5 : decode cX0_timesInYear 5 = .ok (.iload_n 2, 1) := by decide +kernel
theorem dX0_timesInYear_6 : decode cX0_timesInYear 6 = .ok (.invokestatic 131, 3) := by decide +kernel
theorem dX0_timesInYear_9 : decode cX0_timesInYear 9 = .ok (.aload_n 0, 1) := by decide +kernel
theorem dX0_timesInYear_10 : decode cX0_timesInYear 10 = .ok (.iload_n 1, 1) := by decide +kernel
theorem dX0_timesInYear_11 : decode cX0_timesInYear 11 = .ok (.aload_n 0, 1) := by decide +kernel
theorem dX0_timesInYear_12 : decode cX0_timesInYear 12 = .ok (.iload_n 2, 1) := by decide +kernel
theorem dX0_timesInYear_13 : decode cX0_timesInYear 13 = .ok (.invokevirtual 128, 3) := by decide +kernel
theorem dX0_timesInYear_16 : decode cX0_timesInYear 16 = .ok (.aload_n 0, 1) := by decide +kernel
theorem dX0_timesInYear_17 : decode cX0_timesInYear 17 = .ok (.iload_n 2, 1) := by decide +kernel
theorem dX0_timesInYear_18 : decode cX0_timesInYear 18 = .ok (.iconst 1, 1) := by decide +kernel
theorem dX0_timesInYear_19 : decode cX0_timesInYear 19 = .ok (.iadd, 1) := by decide +kernel
theorem dX0_timesInYear_20 : decode cX0_timesInYear 20 = .ok (.invokevirtual 128, 3) := by decide +kernel
theorem dX0_timesInYear_23 : decode cX0_timesInYear 23 = .ok (.iconst 1, 1) := by decide +kernel
theorem dX0_timesInYear_24 : decode cX0_timesInYear 24 = .ok (.isub, 1) := by decide +kernel
theorem dX0_timesInYear_25 : decode cX0_timesInYear 25 = .ok (.invokevirtual 82, 3) := by decide +kernel
theorem dX0_timesInYear_28 : decode cX0_timesInYear 28 = .ok (.ireturn, 1) := by decide +kernel
theorem dX0_checkArgument_0 : decode cX0_checkArgument 0 = .ok (.iload_n 0, 1) := by decide +kernel
theorem dX0_checkArgument_1 : decode cX0_checkArgument 1 = .ok (.ifCond .ne 13, 3) := by decide +kernel
theorem dX0_checkArgument_4 : decode cX0_checkArgument 4 = .ok (.new 137, 3) := by decide +kernel
theorem dX0_checkArgument_7 : decode cX0_checkArgument 7 = .ok (.dup, 1) := by decide +kernel
theorem dX0_checkArgument_8 : decode cX0_checkArgument 8 = .ok (.ldc 139, 2) := by decide +kernel
theorem dX0_checkArgument_10 : decode cX0_checkArgument 10 = .ok (.invokespecial 141, 3) := by decide +kernel
theorem dX0_checkArgument_13 : decode cX0_checkArgument 13 = .ok (.athrow, 1) := by decide +kernel
theorem dX0_checkArgument_14 : decode cX0_checkArgument 14 = .ok (.return_, 1) := by decide +kernel
set_option maxRecDepth 20000 in
theorem ggX0_checkDay_X0_isWithin : GoodIn wsX0_checkDay wsX0_isWithin := goodIn_r _ [6] (by decide +kernel) (by decide +kernel)
set_option maxRecDepth 20000 in
theorem gX0_checkDay_X0_isWithin : GoodIn wsX0_checkDay (va_wsS RX0 41 yX0_isWithin wsX0_isWithin) := goodIn_app (goodIn_of _ (by decide +kernel)) ggX0_checkDay_X0_isWithin
set_option maxRecDepth 20000 in
theorem ggX0_checkDay_X0_checkArgument : GoodIn wsX0_checkDay wsX0_checkArgument := goodIn_ca (goodIn_r _ [9, 10, 11] (by decide +kernel) (by decide +kernel)) (goodIn_sub (fun _ h => List.mem_cons_of_mem _ (List.mem_append_right _ h)) (by decide +kernel))
set_option maxRecDepth 20000 in
theorem gX0_checkDay_X0_checkArgument : GoodIn wsX0_checkDay (va_wsS RX0 45 yX0_checkArgument wsX0_checkArgument) := goodIn_app (goodIn_of _ (by decide +kernel)) ggX0_checkDay_X0_checkArgument
theorem dX0_checkDay_0 : decode cX0_checkDay 0 = .ok (.iload_n 0, 1) := by decide +kernel
theorem dX0_checkDay_1 : decode cX0_checkDay 1 = .ok (.ldc 142, 2) := by decide +kernel
theorem dX0_checkDay_3 : decode cX0_checkDay 3 = .ok (.ldc 143, 2) := by decide +kernel
theorem dX0_checkDay_5 : decode cX0_checkDay 5 = .ok (.invokestatic 41, 3) := by decide +kernel
theorem dX0_checkDay_8 : decode cX0_checkDay 8 = .ok (.invokestatic 45, 3) := by decide +kernel
theorem dX0_checkDay_11 : decode cX0_checkDay 11 = .ok (.return_, 1) := by decide +kernel
set_option maxRecDepth 20000 in
theorem ggX0_checkYear_X0_isWithin : GoodIn wsX0_checkYear wsX0_isWithin := goodIn_r _ [4] (by decide +kernel) (by decide +kernel)
set_option maxRecDepth 20000 in
theorem gX0_checkYear_X0_isWithin : GoodIn wsX0_checkYear (va_wsS RX0 41 yX0_isWithin wsX0_isWithin) := goodIn_app (goodIn_of _ (by decide +kernel)) ggX0_checkYear_X0_isWithin
set_option maxRecDepth 20000 in
theorem ggX0_checkYear_X0_checkArgument : GoodIn wsX0_checkYear wsX0_checkArgument := goodIn_ca (goodIn_r _ [7, 8, 9] (by decide +kernel) (by decide +kernel)) (goodIn_sub (fun _ h => List.mem_cons_of_mem _ (List.mem_append_right _ h)) (by decide +kernel))
set_option maxRecDepth 20000 in
theorem gX0_checkYear_X0_checkArgument : GoodIn wsX0_checkYear (va_wsS RX0 45 yX0_checkArgument wsX0_checkArgument) := goodIn_app (goodIn_of _ (by decide +kernel)) ggX0_checkYear_X0_checkArgument
theorem dX0_checkYear_0 : decode cX0_checkYear 0 = .ok (.iload_n 0, 1) := by decide +kernel
theorem dX0_checkYear_1 : decode cX0_checkYear 1 = .ok (.sipush (-10000), 3) := by decide +kernel
theorem dX0_checkYear_4 : decode cX0_checkYear 4 = .ok (.sipush 10000, 3) := by decide +kernel
theorem dX0_checkYear_7 : decode cX0_checkYear 7 = .ok (.invokestatic 41, 3) := by decide +kernel
theorem dX0_checkYear_10 : decode cX0_checkYear 10 = .ok (.invokestatic 45, 3) := by decide +kernel
theorem dX0_checkYear_13 : decode cX0_checkYear 13 = .ok (.return_, 1) := by decide +kernel
set_option maxRecDepth 20000 in
theorem ggX0_checkMarket_X0_isWithin : GoodIn wsX0_checkMarket wsX0_isWithin := goodIn_r _ [7] (by decide +kernel) (by decide +kernel)
set_option maxRecDepth 20000 in
theorem gX0_checkMarket_X0_isWithin : GoodIn wsX0_checkMarket (va_wsS RX0 41 yX0_isWithin wsX0_isWithin) := goodIn_app (goodIn_of _ (by decide +kernel)) ggX0_checkMarket_X0_isWithin
theorem dX0_checkMarket_0 : decode cX0_checkMarket 0 = .ok (.iload_n 1, 1) := by decide +kernel
theorem dX0_checkMarket_1 : decode cX0_checkMarket 1 = .ok (.iconst 0, 1) := by decide +kernel
theorem dX0_checkMarket_2 : decode cX0_checkMarket 2 = .ok (.aload_n 0, 1) := by decide +kernel
theorem dX0_checkMarket_3 : decode cX0_checkMarket 3 = .ok (.getfield 16, 3) := by decide +kernel
theorem dX0_checkMarket_6 : decode cX0_checkMarket 6 = .ok (.iconst 1, 1) := by decide +kernel
theorem dX0_checkMarket_7 : decode cX0_checkMarket 7 = .ok (.isub, 1) := by decide +kernel
theorem dX0_checkMarket_8 : decode cX0_checkMarket 8 = .ok (.invokestatic 41, 3) := by decide +kernel
theorem dX0_checkMarket_11 : decode cX0_checkMarket 11 = .ok (.ifCond .ne 13, 3) := by decide +kernel
theorem dX0_checkMarket_14 : decode cX0_checkMarket 14 = .ok (.new 144, 3) := by decide +kernel
theorem dX0_checkMarket_17 : decode cX0_checkMarket 17 = .ok (.dup, 1) := by decide +kernel
theorem dX0_checkMarket_18 : decode cX0_checkMarket 18 = .ok (.ldc 146, 2) := by decide +kernel
theorem dX0_checkMarket_20 : decode cX0_checkMarket 20 = .ok (.invokespecial 148, 3) := by decide +kernel
theorem dX0_checkMarket_23 : decode cX0_checkMarket 23 = .ok (.athrow, 1) := by decide +kernel
theorem dX0_checkMarket_24 : decode cX0_checkMarket 24 = .ok (.return_, 1) := by decide +kernel
theorem dX0_checkMarkets_0 : decode cX0_checkMarkets 0 = .ok (.iload_n 1, 1) := by decide +kernel
theorem dX0_checkMarkets_1 : decode cX0_checkMarkets 1 = .ok (.aload_n 0, 1) := by decide +kernel
theorem dX0_checkMarkets_2 : decode cX0_checkMarkets 2 = .ok (.getfield 16, 3) := by decide +kernel
theorem dX0_checkMarkets_5 : decode cX0_checkMarkets 5 = .ok (.iushr, 1) := by decide +kernel
theorem dX0_checkMarkets_6 : decode cX0_checkMarkets 6 = .ok (.ifCond .eq 13, 3) := by decide +kernel
theorem dX0_checkMarkets_9 : decode cX0_checkMarkets 9 = .ok (.new 144, 3) := by decide +kernel
theorem dX0_checkMarkets_12 : decode cX0_checkMarkets 12 = .ok (.dup, 1) := by decide +kernel
theorem dX0_checkMarkets_13 : decode cX0_checkMarkets 13 = .ok (.ldc 149, 2) := by decide +kernel
theorem dX0_checkMarkets_15 : decode cX0_checkMarkets 15 = .ok (.invokespecial 148, 3) := by decide +kernel
theorem dX0_checkMarkets_18 : decode cX0_checkMarkets 18 = .ok (.athrow, 1) := by decide +kernel
theorem dX0_checkMarkets_19 : decode cX0_checkMarkets 19 = .ok (.return_, 1) := by decide +kernel
set_option maxRecDepth 20000 in
theorem ggX0_checkMeetingSet_J6_bitCount_0f7a4 : GoodIn wsX0_checkMeetingSet wsJ6_bitCount_0f7a4 := goodIn_r _ [4, 5, 6, 7] (by decide +kernel) (by decide +kernel)
set_option maxRecDepth 20000 in
theorem gX0_checkMeetingSet_J6_bitCount_0f7a4 : GoodIn wsX0_checkMeetingSet (va_wsS RX0 112 yJ6_bitCount_0f7a4 wsJ6_bitCount_0f7a4) := goodIn_app (goodIn_of _ (by decide +kernel)) ggX0_checkMeetingSet_J6_bitCount_0f7a4
set_option maxRecDepth 20000 in
theorem ggX0_checkMeetingSet_X0_isWithin : GoodIn wsX0_checkMeetingSet wsX0_isWithin := goodIn_r _ [11] (by decide +kernel) (by decide +kernel)
set_option maxRecDepth 20000 in
theorem gX0_checkMeetingSet_X0_isWithin : GoodIn wsX0_checkMeetingSet (va_wsS RX0 41 yX0_isWithin wsX0_isWithin) := goodIn_app (goodIn_of _ (by decide +kernel)) ggX0_checkMeetingSet_X0_isWithin
set_option maxRecDepth 20000 in
theorem ggX0_checkMeetingSet_X0_checkArgument : GoodIn wsX0_checkMeetingSet wsX0_checkArgument := goodIn_ca (goodIn_r _ [14, 15, 16] (by decide +kernel) (by decide +kernel)) (goodIn_sub (fun _ h => List.mem_cons_of_mem _ (List.mem_append_left _ (List.mem_append_right _ h))) (by decide +kernel))
set_option maxRecDepth 20000 in
theorem gX0_checkMeetingSet_X0_checkArgument : GoodIn wsX0_checkMeetingSet (va_wsS RX0 45 yX0_checkArgument wsX0_checkArgument) := goodIn_app (goodIn_of _ (by decide +kernel)) ggX0_checkMeetingSet_X0_checkArgument
set_option maxRecDepth 20000 in
theorem ggX0_checkMeetingSet_X0_checkMarkets : GoodIn wsX0_checkMeetingSet wsX0_checkMarkets := goodIn_ca (goodIn_r _ [20, 21, 22, 23, 24, 25, 26, 27, 28, 29, 30, 31, 32, 33] (by decide +kernel) (by decide +kernel)) (goodIn_sub (fun _ h => List.mem_cons_of_mem _ (List.mem_append_right _ h)) (by decide +kernel))
set_option maxRecDepth 20000 in
theorem gX0_checkMeetingSet_X0_checkMarkets : GoodIn wsX0_checkMeetingSet (wsV RX0 109 RX0 yX0_checkMarkets wsX0_checkMarkets) := goodIn_app (goodIn_of _ (by decide +kernel)) ggX0_checkMeetingSet_X0_checkMarkets
theorem dX0_checkMeetingSet_0 : decode cX0_checkMeetingSet 0 = .ok (.iload_n 1, 1) := by decide +kernel
theorem dX0_checkMeetingSet_1 : decode cX0_checkMeetingSet 1 = .ok (.invokestatic 112, 3) := by decide +kernel
theorem dX0_checkMeetingSet_4 : decode cX0_checkMeetingSet 4 = .ok (.iconst 1, 1) := by decide +kernel
theorem dX0_checkMeetingSet_5 : decode cX0_checkMeetingSet 5 = .ok (.iconst 5, 1) := by decide +kernel
theorem dX0_checkMeetingSet_6 : decode cX0_checkMeetingSet 6 = .ok (.invokestatic 41, 3) := by decide +kernel
theorem dX0_checkMeetingSet_9 : decode cX0_checkMeetingSet 9 = .ok (.invokestatic 45, 3) := by decide +kernel
theorem dX0_checkMeetingSet_12 : decode cX0_checkMeetingSet 12 = .ok (.aload_n 0, 1) := by decide +kernel
theorem dX0_checkMeetingSet_13 : decode cX0_checkMeetingSet 13 = .ok (.iload_n 1, 1) := by decide +kernel
theorem dX0_checkMeetingSet_14 : decode cX0_checkMeetingSet 14 = .ok (.invokevirtual 109, 3) := by decide +kernel
theorem dX0_checkMeetingSet_17 : decode cX0_checkMeetingSet 17 = .ok (.return_, 1) := by decide +kernel
theorem dX0_checkTheyMeet_0 : decode cX0_checkTheyMeet 0 = .ok (.lload_n 0, 1) := by decide +kernel
theorem dX0_checkTheyMeet_1 : decode cX0_checkTheyMeet 1 = .ok (.ldc2_w 96, 3) := by decide +kernel
theorem dX0_checkTheyMeet_4 : decode cX0_checkTheyMeet 4 = .ok (.lcmp, 1) := by decide +kernel
theorem dX0_checkTheyMeet_5 : decode cX0_checkTheyMeet 5 = .ok (.ifCond .ne 13, 3) := by decide +kernel
theorem dX0_checkTheyMeet_8 : decode cX0_checkTheyMeet 8 = .ok (.new 53, 3) := by decide +kernel
theorem dX0_checkTheyMeet_11 : decode cX0_checkTheyMeet 11 = .ok (.dup, 1) := by decide +kernel
theorem dX0_checkTheyMeet_12 : decode cX0_checkTheyMeet 12 = .ok (.ldc 151, 2) := by decide +kernel
theorem dX0_checkTheyMeet_14 : decode cX0_checkTheyMeet 14 = .ok (.invokespecial 57, 3) := by decide +kernel
theorem dX0_checkTheyMeet_17 : decode cX0_checkTheyMeet 17 = .ok (.athrow, 1) := by decide +kernel
theorem dX0_checkTheyMeet_18 : decode cX0_checkTheyMeet 18 = .ok (.return_, 1) := by decide +kernel
theorem dX0_isPlace_0 : decode cX0_isPlace 0 = .ok (.iload_n 1, 1) := by decide +kernel
theorem dX0_isPlace_1 : decode cX0_isPlace 1 = .ok (.ifCond .lt 25, 3) := by decide +kernel
theorem dX0_isPlace_4 : decode cX0_isPlace 4 = .ok (.iload_n 1, 1) := by decide +kernel
theorem dX0_isPlace_5 : decode cX0_isPlace 5 = .ok (.aload_n 0, 1) := by decide +kernel
theorem dX0_isPlace_6 : decode cX0_isPlace 6 = .ok (.getfield 9, 3) := by decide +kernel
theorem dX0_isPlace_9 : decode cX0_isPlace 9 = .ok (.arraylength, 1) := by decide +kernel
theorem dX0_isPlace_10 : decode cX0_isPlace 10 = .ok (.if_icmp .ge 16, 3) := by decide +kernel
theorem dX0_isPlace_13 : decode cX0_isPlace 13 = .ok (.iload_n 1, 1) := by decide +kernel
theorem dX0_isPlace_14 : decode cX0_isPlace 14 = .ok (.aload_n 0, 1) := by decide +kernel
theorem dX0_isPlace_15 : decode cX0_isPlace 15 = .ok (.getfield 13, 3) := by decide +kernel
theorem dX0_isPlace_18 : decode cX0_isPlace 18 = .ok (.arraylength, 1) := by decide +kernel
theorem dX0_isPlace_19 : decode cX0_isPlace 19 = .ok (.if_icmp .ge 7, 3) := by decide +kernel
theorem dX0_isPlace_22 : decode cX0_isPlace 22 = .ok (.iconst 1, 1) := by decide +kernel
theorem dX0_isPlace_23 : decode cX0_isPlace 23 = .ok (.goto 4, 3) := by decide +kernel
theorem dX0_isPlace_26 : decode cX0_isPlace 26 = .ok (.iconst 0, 1) := by decide +kernel
theorem dX0_isPlace_27 : decode cX0_isPlace 27 = .ok (.ireturn, 1) := by decide +kernel
set_option maxRecDepth 20000 in
theorem ggX0_lengthOf_X0_isPlace : GoodIn wsX0_lengthOf wsX0_isPlace := goodIn_r _ [6, 1, 7, 8, 9, 10, 11, 12, 13, 14, 15, 16, 17] (by decide +kernel) (by decide +kernel)
set_option maxRecDepth 20000 in
theorem gX0_lengthOf_X0_isPlace : GoodIn wsX0_lengthOf (wsV RX0 49 RX0 yX0_isPlace wsX0_isPlace) := goodIn_app (goodIn_of _ (by decide +kernel)) ggX0_lengthOf_X0_isPlace
theorem dX0_lengthOf_0 : decode cX0_lengthOf 0 = .ok (.aload_n 0, 1) := by decide +kernel
theorem dX0_lengthOf_1 : decode cX0_lengthOf 1 = .ok (.iload_n 1, 1) := by decide +kernel
theorem dX0_lengthOf_2 : decode cX0_lengthOf 2 = .ok (.invokevirtual 49, 3) := by decide +kernel
theorem dX0_lengthOf_5 : decode cX0_lengthOf 5 = .ok (.ifCond .eq 12, 3) := by decide +kernel
theorem dX0_lengthOf_8 : decode cX0_lengthOf 8 = .ok (.aload_n 0, 1) := by decide +kernel
theorem dX0_lengthOf_9 : decode cX0_lengthOf 9 = .ok (.getfield 9, 3) := by decide +kernel
theorem dX0_lengthOf_12 : decode cX0_lengthOf 12 = .ok (.iload_n 1, 1) := by decide +kernel
theorem dX0_lengthOf_13 : decode cX0_lengthOf 13 = .ok (.iaload, 1) := by decide +kernel
theorem dX0_lengthOf_14 : decode cX0_lengthOf 14 = .ok (.goto 4, 3) := by decide +kernel
theorem dX0_lengthOf_17 : decode cX0_lengthOf 17 = .ok (.iconst 1, 1) := by decide +kernel
theorem dX0_lengthOf_18 : decode cX0_lengthOf 18 = .ok (.ireturn, 1) := by decide +kernel
set_option maxRecDepth 20000 in
theorem ggX0_placeOf_X0_isPlace : GoodIn wsX0_placeOf wsX0_isPlace := goodIn_r _ [6, 7, 1, 8, 9, 10, 11, 12, 13, 14, 15, 16, 17] (by decide +kernel) (by decide +kernel)
set_option maxRecDepth 20000 in
theorem gX0_placeOf_X0_isPlace : GoodIn wsX0_placeOf (wsV RX0 49 RX0 yX0_isPlace wsX0_isPlace) := goodIn_app (goodIn_of _ (by decide +kernel)) ggX0_placeOf_X0_isPlace
theorem dX0_placeOf_0 : decode cX0_placeOf 0 = .ok (.aload_n 0, 1) := by decide +kernel
theorem dX0_placeOf_1 : decode cX0_placeOf 1 = .ok (.iload_n 1, 1) := by decide +kernel
theorem dX0_placeOf_2 : decode cX0_placeOf 2 = .ok (.invokevirtual 49, 3) := by decide +kernel
theorem dX0_placeOf_5 : decode cX0_placeOf 5 = .ok (.ifCond .eq 12, 3) := by decide +kernel
theorem dX0_placeOf_8 : decode cX0_placeOf 8 = .ok (.aload_n 0, 1) := by decide +kernel
theorem dX0_placeOf_9 : decode cX0_placeOf 9 = .ok (.getfield 13, 3) := by decide +kernel
theorem dX0_placeOf_12 : decode cX0_placeOf 12 = .ok (.iload_n 1, 1) := by decide +kernel
theorem dX0_placeOf_13 : decode cX0_placeOf 13 = .ok (.iaload, 1) := by decide +kernel
theorem dX0_placeOf_14 : decode cX0_placeOf 14 = .ok (.goto 4, 3) := by decide +kernel
theorem dX0_placeOf_17 : decode cX0_placeOf 17 = .ok (.iconst 0, 1) := by decide +kernel
theorem dX0_placeOf_18 : decode cX0_placeOf 18 = .ok (.ireturn, 1) := by decide +kernel
set_option maxRecDepth 20000 in
theorem ggX0_isOn_X0_lengthOf : GoodIn wsX0_isOn wsX0_lengthOf := goodIn_r _ [5, 6, 7, 8, 9, 4, 10, 11, 23, 24, 25, 26, 27, 28, 29, 30, 31, 32] (by decide +kernel) (by decide +kernel)
set_option maxRecDepth 20000 in
theorem gX0_isOn_X0_lengthOf : GoodIn wsX0_isOn (wsV RX0 68 RX0 yX0_lengthOf wsX0_lengthOf) := goodIn_app (goodIn_of _ (by decide +kernel)) ggX0_isOn_X0_lengthOf
set_option maxRecDepth 20000 in
theorem ggX0_isOn_X0_modulo : GoodIn wsX0_isOn wsX0_modulo := goodIn_r _ [14, 15, 16, 17, 18] (by decide +kernel) (by decide +kernel)
set_option maxRecDepth 20000 in
theorem gX0_isOn_X0_modulo : GoodIn wsX0_isOn (va_wsS RX0 71 yX0_modulo wsX0_modulo) := goodIn_app (goodIn_of _ (by decide +kernel)) ggX0_isOn_X0_modulo
set_option maxRecDepth 20000 in
theorem ggX0_isOn_X0_placeOf : GoodIn wsX0_isOn wsX0_placeOf := goodIn_r _ [22, 11, 7, 8, 9, 4, 10, 6, 23, 24, 25, 26, 27, 28, 29, 30, 31, 32] (by decide +kernel) (by decide +kernel)
set_option maxRecDepth 20000 in
theorem gX0_isOn_X0_placeOf : GoodIn wsX0_isOn (wsV RX0 64 RX0 yX0_placeOf wsX0_placeOf) := goodIn_app (goodIn_of _ (by decide +kernel)) ggX0_isOn_X0_placeOf
theorem dX0_isOn_0 : decode cX0_isOn 0 = .ok (.lload_n 2, 1) := by decide +kernel
theorem dX0_isOn_1 : decode cX0_isOn 1 = .ok (.aload_n 0, 1) := by decide +kernel
theorem dX0_isOn_2 : decode cX0_isOn 2 = .ok (.iload_n 1, 1) := by decide +kernel
theorem dX0_isOn_3 : decode cX0_isOn 3 = .ok (.invokevirtual 68, 3) := by decide +kernel
theorem dX0_isOn_6 : decode cX0_isOn 6 = .ok (.i2l, 1) := by decide +kernel
theorem dX0_isOn_7 : decode cX0_isOn 7 = .ok (.invokestatic 71, 3) := by decide +kernel
theorem dX0_isOn_10 : decode cX0_isOn 10 = .ok (.aload_n 0, 1) := by decide +kernel
theorem dX0_isOn_11 : decode cX0_isOn 11 = .ok (.iload_n 1, 1) := by decide +kernel
theorem dX0_isOn_12 : decode cX0_isOn 12 = .ok (.invokevirtual 64, 3) := by decide +kernel
theorem dX0_isOn_15 : decode cX0_isOn 15 = .ok (.i2l, 1) := by decide +kernel
theorem dX0_isOn_16 : decode cX0_isOn 16 = .ok (.lcmp, 1) := by decide +kernel
theorem dX0_isOn_17 : decode cX0_isOn 17 = .ok (.ifCond .ne 7, 3) := by decide +kernel
theorem dX0_isOn_20 : decode cX0_isOn 20 = .ok (.iconst 1, 1) := by decide +kernel
theorem dX0_isOn_21 : decode cX0_isOn 21 = .ok (.goto 4, 3) := by decide +kernel
theorem dX0_isOn_24 : decode cX0_isOn 24 = .ok (.iconst 0, 1) := by decide +kernel
theorem dX0_isOn_25 : decode cX0_isOn 25 = .ok (.ireturn, 1) := by decide +kernel
set_option maxRecDepth 20000 in
theorem ggX0_setOn_X0_isOn : GoodIn wsX0_setOn wsX0_isOn := goodIn_r _ [6, 7, 8, 9, 5, 10, 11, 12, 13, 14, 15, 16, 17, 18, 19, 20, 21, 22, 23, 24, 25, 26, 27, 28, 29, 30, 31, 32, 33, 34, 35, 36, 37] (by decide +kernel) (by decide +kernel)
set_option maxRecDepth 20000 in
theorem gX0_setOn_X0_isOn : GoodIn wsX0_setOn (wsV RX0 78 RX0 yX0_isOn wsX0_isOn) := goodIn_app (goodIn_of _ (by decide +kernel)) ggX0_setOn_X0_isOn
theorem dX0_setOn_0 : decode cX0_setOn 0 = .ok (.iconst 0, 1) := by decide +kernel
theorem dX0_setOn_1 : decode cX0_setOn 1 = .ok (.istore_n 2, 1) := by decide +kernel
theorem dX0_setOn_2 : decode cX0_setOn 2 = .ok (.iconst 0, 1) := by decide +kernel
theorem dX0_setOn_3 : decode cX0_setOn 3 = .ok (.istore_n 3, 1) := by decide +kernel
theorem dX0_setOn_4 : decode cX0_setOn 4 = .ok (.iload_n 3, 1) := by decide +kernel
theorem dX0_setOn_5 : decode cX0_setOn 5 = .ok (.aload_n 0, 1) := by decide +kernel
theorem dX0_setOn_6 : decode cX0_setOn 6 = .ok (.getfield 16, 3) := by decide +kernel
theorem dX0_setOn_9 : decode cX0_setOn 9 = .ok (.if_icmp .ge 25, 3) := by decide +kernel
theorem dX0_setOn_12 : decode cX0_setOn 12 = .ok (.aload_n 0, 1) := by decide +kernel
theorem dX0_setOn_13 : decode cX0_setOn 13 = .ok (.iload_n 3, 1) := by decide +kernel
theorem dX0_setOn_14 : decode cX0_setOn 14 = .ok (.iload_n 1, 1) := by decide +kernel
theorem dX0_setOn_15 : decode cX0_setOn 15 = .ok (.i2l, 1) := by decide +kernel
theorem dX0_setOn_16 : decode cX0_setOn 16 = .ok (.invokevirtual 78, 3) := by decide +kernel
theorem dX0_setOn_19 : decode cX0_setOn 19 = .ok (.ifCond .eq 9, 3) := by decide +kernel
theorem dX0_setOn_22 : decode cX0_setOn 22 = .ok (.iload_n 2, 1) := by decide +kernel
theorem dX0_setOn_23 : decode cX0_setOn 23 = .ok (.iconst 1, 1) := by decide +kernel
theorem dX0_setOn_24 : decode cX0_setOn 24 = .ok (.iload_n 3, 1) := by decide +kernel
theorem dX0_setOn_25 : decode cX0_setOn 25 = .ok (.ishl, 1) := by decide +kernel
theorem dX0_setOn_26 : decode cX0_setOn 26 = .ok (.ior, 1) := by decide +kernel
theorem dX0_setOn_27 : decode cX0_setOn 27 = .ok (.istore_n 2, 1) := by decide +kernel
theorem dX0_setOn_28 : decode cX0_setOn 28 = .ok (.iinc 3 1, 3) := by decide +kernel
theorem dX0_setOn_31 : decode cX0_setOn 31 = .ok (.goto (-27), 3) := by decide +kernel
theorem dX0_setOn_34 : decode cX0_setOn 34 = .ok (.iload_n 2, 1) := by decide +kernel
theorem dX0_setOn_35 : decode cX0_setOn 35 = .ok (.ireturn, 1) := by decide +kernel
set_option maxRecDepth 20000 in
theorem ggX0_countHeld_X0_lengthOf : GoodIn wsX0_countHeld wsX0_lengthOf := goodIn_r _ [5, 6, 7, 8, 9, 4, 10, 11, 23, 24, 25, 26, 27, 28, 29, 30, 31, 32] (by decide +kernel) (by decide +kernel)
set_option maxRecDepth 20000 in
theorem gX0_countHeld_X0_lengthOf : GoodIn wsX0_countHeld (wsV RX0 68 RX0 yX0_lengthOf wsX0_lengthOf) := goodIn_app (goodIn_of _ (by decide +kernel)) ggX0_countHeld_X0_lengthOf
set_option maxRecDepth 20000 in
theorem ggX0_countHeld_X0_placeOf : GoodIn wsX0_countHeld wsX0_placeOf := goodIn_r _ [15, 11, 7, 8, 9, 4, 10, 6, 23, 24, 25, 26, 27, 28, 29, 30, 31, 32] (by decide +kernel) (by decide +kernel)
set_option maxRecDepth 20000 in
theorem gX0_countHeld_X0_placeOf : GoodIn wsX0_countHeld (wsV RX0 64 RX0 yX0_placeOf wsX0_placeOf) := goodIn_app (goodIn_of _ (by decide +kernel)) ggX0_countHeld_X0_placeOf
set_option maxRecDepth 20000 in
theorem ggX0_countHeld_X0_divide : GoodIn wsX0_countHeld wsX0_divide := goodIn_r _ [18, 19, 20, 21, 22] (by decide +kernel) (by decide +kernel)
set_option maxRecDepth 20000 in
theorem gX0_countHeld_X0_divide : GoodIn wsX0_countHeld (va_wsS RX0 120 yX0_divide wsX0_divide) := goodIn_app (goodIn_of _ (by decide +kernel)) ggX0_countHeld_X0_divide
theorem dX0_countHeld_0 : decode cX0_countHeld 0 = .ok (.aload_n 0, 1) := by decide +kernel
theorem dX0_countHeld_1 : decode cX0_countHeld 1 = .ok (.iload_n 1, 1) := by decide +kernel
theorem dX0_countHeld_2 : decode cX0_countHeld 2 = .ok (.invokevirtual 68, 3) := by decide +kernel
theorem dX0_countHeld_5 : decode cX0_countHeld 5 = .ok (.istore 4, 2) := by decide +kernel
theorem dX0_countHeld_7 : decode cX0_countHeld 7 = .ok (.aload_n 0, 1) := by decide +kernel
theorem dX0_countHeld_8 : decode cX0_countHeld 8 = .ok (.iload_n 1, 1) := by decide +kernel
theorem dX0_countHeld_9 : decode cX0_countHeld 9 = .ok (.invokevirtual 64, 3) := by decide +kernel
theorem dX0_countHeld_12 : decode cX0_countHeld 12 = .ok (.istore 5, 2) := by decide +kernel
theorem dX0_countHeld_14 : decode cX0_countHeld 14 = .ok (.iload_n 3, 1) := by decide +kernel
theorem dX0_countHeld_15 : decode cX0_countHeld 15 = .ok (.iload 5, 2) := by decide +kernel
theorem dX0_countHeld_17 : decode cX0_countHeld 17 = .ok (.isub, 1) := by decide +kernel
theorem dX0_countHeld_18 : decode cX0_countHeld 18 = .ok (.i2l, 1) := by decide +kernel
theorem dX0_countHeld_19 : decode cX0_countHeld 19 = .ok (.iload 4, 2) := by decide +kernel
theorem dX0_countHeld_21 : decode cX0_countHeld 21 = .ok (.i2l, 1) := by decide +kernel
theorem dX0_countHeld_22 : decode cX0_countHeld 22 = .ok (.invokestatic 120, 3) := by decide +kernel
theorem dX0_countHeld_25 : decode cX0_countHeld 25 = .ok (.iload_n 2, 1) := by decide +kernel
theorem dX0_countHeld_26 : decode cX0_countHeld 26 = .ok (.iconst 1, 1) := by decide +kernel
theorem dX0_countHeld_27 : decode cX0_countHeld 27 = .ok (.isub, 1) := by decide +kernel
theorem dX0_countHeld_28 : decode cX0_countHeld 28 = .ok (.iload 5, 2) := by decide +kernel
theorem dX0_countHeld_30 : decode cX0_countHeld 30 = .ok (.isub, 1) := by decide +kernel
theorem dX0_countHeld_31 : decode cX0_countHeld 31 = .ok (.i2l, 1) := by decide +kernel
theorem dX0_countHeld_32 : decode cX0_countHeld 32 = .ok (.iload 4, 2) := by decide +kernel
theorem dX0_countHeld_34 : decode cX0_countHeld 34 = .ok (.i2l, 1) := by decide +kernel
theorem dX0_countHeld_35 : decode cX0_countHeld 35 = .ok (.invokestatic 120, 3) := by decide +kernel
theorem dX0_countHeld_38 : decode cX0_countHeld 38 = .ok (.lsub, 1) := by decide +kernel
theorem dX0_countHeld_39 : decode cX0_countHeld 39 = .ok (.l2i, 1) := by decide +kernel
theorem dX0_countHeld_40 : decode cX0_countHeld 40 = .ok (.ireturn, 1) := by decide +kernel
set_option maxRecDepth 20000 in
theorem ggX0_firstMeeting_X0_firstHeldInSteps : GoodIn wsX0_firstMeeting wsX0_firstHeldInSteps := goodIn_r _ [7, 2, 8, 9, 10, 6, 11, 12, 13, 14, 15, 16, 17, 18, 19, 20, 21, 22, 23, 24, 25, 26, 27, 28, 29, 30, 31, 32, 36, 37, 38, 39, 40, 41, 42, 43, 44, 45] (by decide +kernel) (by decide +kernel)
set_option maxRecDepth 20000 in
theorem gX0_firstMeeting_X0_firstHeldInSteps : GoodIn wsX0_firstMeeting (wsV RX0 153 RX0 yX0_firstHeldInSteps wsX0_firstHeldInSteps) := goodIn_app (goodIn_of _ (by decide +kernel)) ggX0_firstMeeting_X0_firstHeldInSteps
set_option maxRecDepth 20000 in
theorem ggX0_firstMeeting_X0_lengthOf : GoodIn wsX0_firstMeeting wsX0_lengthOf := goodIn_r _ [11, 12, 13, 14, 15, 6, 16, 17, 36, 37, 38, 39, 40, 41, 42, 43, 44, 45] (by decide +kernel) (by decide +kernel)
set_option maxRecDepth 20000 in
theorem gX0_firstMeeting_X0_lengthOf : GoodIn wsX0_firstMeeting (wsV RX0 68 RX0 yX0_lengthOf wsX0_lengthOf) := goodIn_app (goodIn_of _ (by decide +kernel)) ggX0_firstMeeting_X0_lengthOf
set_option maxRecDepth 20000 in
theorem ggX0_firstMeeting_X0_commonMultiple : GoodIn wsX0_firstMeeting wsX0_commonMultiple := goodIn_r _ [35, 22, 23, 6, 24, 25, 26, 27, 28] (by decide +kernel) (by decide +kernel)
set_option maxRecDepth 20000 in
theorem gX0_firstMeeting_X0_commonMultiple : GoodIn wsX0_firstMeeting (va_wsS RX0 157 yX0_commonMultiple wsX0_commonMultiple) := goodIn_app (goodIn_of _ (by decide +kernel)) ggX0_firstMeeting_X0_commonMultiple
theorem dX0_firstMeeting_0 : decode cX0_firstMeeting 0 = .ok (.lconst 0, 1) := by decide +kernel
theorem dX0_firstMeeting_1 : decode cX0_firstMeeting 1 = .ok (.lstore_n 2, 1) := by decide +kernel
theorem dX0_firstMeeting_2 : decode cX0_firstMeeting 2 = .ok (.lconst 1, 1) := by decide +kernel
theorem dX0_firstMeeting_3 : decode cX0_firstMeeting 3 = .ok (.lstore 4, 2) := by decide +kernel
theorem dX0_firstMeeting_5 : decode cX0_firstMeeting 5 = .ok (.iconst 0, 1) := by decide +kernel
theorem dX0_firstMeeting_6 : decode cX0_firstMeeting 6 = .ok (.istore 6, 2) := by decide +kernel
theorem dX0_firstMeeting_8 : decode cX0_firstMeeting 8 = .ok (.iload 6, 2) := by decide +kernel
theorem dX0_firstMeeting_10 : decode cX0_firstMeeting 10 = .ok (.aload_n 0, 1) := by decide +kernel
theorem dX0_firstMeeting_11 : decode cX0_firstMeeting 11 = .ok (.getfield 16, 3) := by decide +kernel
theorem dX0_firstMeeting_14 : decode cX0_firstMeeting 14 = .ok (.if_icmp .ge 54, 3) := by decide +kernel
theorem dX0_firstMeeting_17 : decode cX0_firstMeeting 17 = .ok (.iload_n 1, 1) := by decide +kernel
theorem dX0_firstMeeting_18 : decode cX0_firstMeeting 18 = .ok (.iload 6, 2) := by decide +kernel
theorem dX0_firstMeeting_20 : decode cX0_firstMeeting 20 = .ok (.iushr, 1) := by decide +kernel
theorem dX0_firstMeeting_21 : decode cX0_firstMeeting 21 = .ok (.iconst 1, 1) := by decide +kernel
theorem dX0_firstMeeting_22 : decode cX0_firstMeeting 22 = .ok (.iand, 1) := by decide +kernel
theorem dX0_firstMeeting_23 : decode cX0_firstMeeting 23 = .ok (.iconst 1, 1) := by decide +kernel
theorem dX0_firstMeeting_24 : decode cX0_firstMeeting 24 = .ok (.if_icmp .ne 38, 3) := by decide +kernel
theorem dX0_firstMeeting_27 : decode cX0_firstMeeting 27 = .ok (.aload_n 0, 1) := by decide +kernel
theorem dX0_firstMeeting_28 : decode cX0_firstMeeting 28 = .ok (.iload 6, 2) := by decide +kernel
theorem dX0_firstMeeting_30 : decode cX0_firstMeeting 30 = .ok (.lload_n 2, 1) := by decide +kernel
theorem dX0_firstMeeting_31 : decode cX0_firstMeeting 31 = .ok (.lload 4, 2) := by decide +kernel
theorem dX0_firstMeeting_33 : decode cX0_firstMeeting 33 = .ok (.invokevirtual 153, 3) := by decide +kernel
theorem dX0_firstMeeting_36 : decode cX0_firstMeeting 36 = .ok (.lstore_n 2, 1) := by decide +kernel
theorem dX0_firstMeeting_37 : decode cX0_firstMeeting 37 = .ok (.lload_n 2, 1) := by decide +kernel
theorem dX0_firstMeeting_38 : decode cX0_firstMeeting 38 = .ok (.ldc2_w 96, 3) := by decide +kernel
theorem dX0_firstMeeting_41 : decode cX0_firstMeeting 41 = .ok (.lcmp, 1) := by decide +kernel
theorem dX0_firstMeeting_42 : decode cX0_firstMeeting 42 = .ok (.ifCond .ne 7, 3) := by decide +kernel
theorem dX0_firstMeeting_45 : decode cX0_firstMeeting 45 = .ok (.ldc2_w 96, 3) := by decide +kernel
theorem dX0_firstMeeting_48 : decode cX0_firstMeeting 48 = .ok (.lreturn, 1) := by decide +kernel
theorem dX0_firstMeeting_49 : decode cX0_firstMeeting 49 = .ok (.lload 4, 2) := by decide +kernel
theorem dX0_firstMeeting_51 : decode cX0_firstMeeting 51 = .ok (.aload_n 0, 1) := by decide +kernel
theorem dX0_firstMeeting_52 : decode cX0_firstMeeting 52 = .ok (.iload 6, 2) := by decide +kernel
theorem dX0_firstMeeting_54 : decode cX0_firstMeeting 54 = .ok (.invokevirtual 68, 3) := by decide +kernel
theorem dX0_firstMeeting_57 : decode cX0_firstMeeting 57 = .ok (.invokestatic 157, 3) := by decide +kernel
theorem dX0_firstMeeting_60 : decode cX0_firstMeeting 60 = .ok (.lstore 4, 2) := by decide +kernel
theorem dX0_firstMeeting_62 : decode cX0_firstMeeting 62 = .ok (.iinc 6 1, 3) := by decide +kernel
theorem dX0_firstMeeting_65 : decode cX0_firstMeeting 65 = .ok (.goto (-57), 3) := by decide +kernel
theorem dX0_firstMeeting_68 : decode cX0_firstMeeting 68 = .ok (.lload_n 2, 1) := by decide +kernel
theorem dX0_firstMeeting_69 : decode cX0_firstMeeting 69 = .ok (.lreturn, 1) := by decide +kernel
set_option maxRecDepth 20000 in
theorem ggX0_firstHeldInSteps_X0_lengthOf : GoodIn wsX0_firstHeldInSteps wsX0_lengthOf := goodIn_r _ [6, 7, 8, 9, 10, 5, 11, 12, 28, 29, 30, 31, 32, 33, 34, 35, 36, 37] (by decide +kernel) (by decide +kernel)
set_option maxRecDepth 20000 in
theorem gX0_firstHeldInSteps_X0_lengthOf : GoodIn wsX0_firstHeldInSteps (wsV RX0 68 RX0 yX0_lengthOf wsX0_lengthOf) := goodIn_app (goodIn_of _ (by decide +kernel)) ggX0_firstHeldInSteps_X0_lengthOf
set_option maxRecDepth 20000 in
theorem ggX0_firstHeldInSteps_X0_isOn : GoodIn wsX0_firstHeldInSteps wsX0_isOn := goodIn_r _ [16, 2, 3, 4, 5, 6, 7, 8, 9, 10, 11, 12, 17, 18, 19, 20, 21, 22, 23, 24, 25, 26, 27, 28, 29, 30, 31, 32, 33, 34, 35, 36, 37] (by decide +kernel) (by decide +kernel)
end
section
set_option maxRecDepth 20000 in
theorem gX0_firstHeldInSteps_X0_isOn : GoodIn wsX0_firstHeldInSteps (wsV RX0 78 RX0 yX0_isOn wsX0_isOn) := goodIn_app (goodIn_of _ (by decide +kernel)) ggX0_firstHeldInSteps_X0_isOn
theorem dX0_firstHeldInSteps_0 : decode cX0_firstHeldInSteps 0 = .ok (.aload_n 0, 1) := by decide +kernel
theorem dX0_firstHeldInSteps_1 : decode cX0_firstHeldInSteps 1 = .ok (.iload_n 1, 1) := by decide +kernel
theorem dX0_firstHeldInSteps_2 : decode cX0_firstHeldInSteps 2 = .ok (.invokevirtual 68, 3) := by decide +kernel
theorem dX0_firstHeldInSteps_5 : decode cX0_firstHeldInSteps 5 = .ok (.istore 6, 2) := by decide +kernel
theorem dX0_firstHeldInSteps_7 : decode cX0_firstHeldInSteps 7 = .ok (.iconst 0, 1) := by decide +kernel
theorem dX0_firstHeldInSteps_8 : decode cX0_firstHeldInSteps 8 = .ok (.istore 7, 2) := by decide +kernel
theorem dX0_firstHeldInSteps_10 : decode cX0_firstHeldInSteps 10 = .ok (.iload 7, 2) := by decide +kernel
theorem dX0_firstHeldInSteps_12 : decode cX0_firstHeldInSteps 12 = .ok (.iload 6, 2) := by decide +kernel
theorem dX0_firstHeldInSteps_14 : decode cX0_firstHeldInSteps 14 = .ok (.if_icmp .ge 32, 3) := by decide +kernel
theorem dX0_firstHeldInSteps_17 : decode cX0_firstHeldInSteps 17 = .ok (.lload_n 2, 1) := by decide +kernel
theorem dX0_firstHeldInSteps_18 : decode cX0_firstHeldInSteps 18 = .ok (.iload 7, 2) := by decide +kernel
theorem dX0_firstHeldInSteps_20 : decode cX0_firstHeldInSteps 20 = .ok (.i2l, 1) := by decide +kernel
theorem dX0_firstHeldInSteps_21 : decode cX0_firstHeldInSteps 21 = .ok (.lload 4, 2) := by decide +kernel
theorem dX0_firstHeldInSteps_23 : decode cX0_firstHeldInSteps 23 = .ok (.lmul, 1) := by decide +kernel
theorem dX0_firstHeldInSteps_24 : decode cX0_firstHeldInSteps 24 = .ok (.ladd, 1) := by decide +kernel
theorem dX0_firstHeldInSteps_25 : decode cX0_firstHeldInSteps 25 = .ok (.lstore 8, 2) := by decide +kernel
theorem dX0_firstHeldInSteps_27 : decode cX0_firstHeldInSteps 27 = .ok (.aload_n 0, 1) := by decide +kernel
theorem dX0_firstHeldInSteps_28 : decode cX0_firstHeldInSteps 28 = .ok (.iload_n 1, 1) := by decide +kernel
theorem dX0_firstHeldInSteps_29 : decode cX0_firstHeldInSteps 29 = .ok (.lload 8, 2) := by decide +kernel
theorem dX0_firstHeldInSteps_31 : decode cX0_firstHeldInSteps 31 = .ok (.invokevirtual 78, 3) := by decide +kernel
theorem dX0_firstHeldInSteps_34 : decode cX0_firstHeldInSteps 34 = .ok (.ifCond .eq 6, 3) := by decide +kernel
theorem dX0_firstHeldInSteps_37 : decode cX0_firstHeldInSteps 37 = .ok (.lload 8, 2) := by decide +kernel
theorem dX0_firstHeldInSteps_39 : decode cX0_firstHeldInSteps 39 = .ok (.lreturn, 1) := by decide +kernel
theorem dX0_firstHeldInSteps_40 : decode cX0_firstHeldInSteps 40 = .ok (.iinc 7 1, 3) := by decide +kernel
theorem dX0_firstHeldInSteps_43 : decode cX0_firstHeldInSteps 43 = .ok (.goto (-33), 3) := by decide +kernel
theorem dX0_firstHeldInSteps_46 : decode cX0_firstHeldInSteps 46 = .ok (.ldc2_w 96, 3) := by decide +kernel
theorem dX0_firstHeldInSteps_49 : decode cX0_firstHeldInSteps 49 = .ok (.lreturn, 1) := by decide +kernel
set_option maxRecDepth 20000 in
theorem ggX0_commonLength_X0_lengthOf : GoodIn wsX0_commonLength wsX0_lengthOf := goodIn_r _ [6, 7, 8, 9, 10, 5, 11, 12, 23, 24, 25, 26, 27, 28, 29, 30, 31, 32] (by decide +kernel) (by decide +kernel)
set_option maxRecDepth 20000 in
theorem gX0_commonLength_X0_lengthOf : GoodIn wsX0_commonLength (wsV RX0 68 RX0 yX0_lengthOf wsX0_lengthOf) := goodIn_app (goodIn_of _ (by decide +kernel)) ggX0_commonLength_X0_lengthOf
set_option maxRecDepth 20000 in
theorem ggX0_commonLength_X0_commonMultiple : GoodIn wsX0_commonLength wsX0_commonMultiple := goodIn_r _ [15, 16, 17, 5, 18, 19, 20, 21, 22] (by decide +kernel) (by decide +kernel)
set_option maxRecDepth 20000 in
theorem gX0_commonLength_X0_commonMultiple : GoodIn wsX0_commonLength (va_wsS RX0 157 yX0_commonMultiple wsX0_commonMultiple) := goodIn_app (goodIn_of _ (by decide +kernel)) ggX0_commonLength_X0_commonMultiple
theorem dX0_commonLength_0 : decode cX0_commonLength 0 = .ok (.lconst 1, 1) := by decide +kernel
theorem dX0_commonLength_1 : decode cX0_commonLength 1 = .ok (.lstore_n 2, 1) := by decide +kernel
theorem dX0_commonLength_2 : decode cX0_commonLength 2 = .ok (.iconst 0, 1) := by decide +kernel
theorem dX0_commonLength_3 : decode cX0_commonLength 3 = .ok (.istore 4, 2) := by decide +kernel
theorem dX0_commonLength_5 : decode cX0_commonLength 5 = .ok (.iload 4, 2) := by decide +kernel
theorem dX0_commonLength_7 : decode cX0_commonLength 7 = .ok (.aload_n 0, 1) := by decide +kernel
theorem dX0_commonLength_8 : decode cX0_commonLength 8 = .ok (.getfield 16, 3) := by decide +kernel
theorem dX0_commonLength_11 : decode cX0_commonLength 11 = .ok (.if_icmp .ge 30, 3) := by decide +kernel
theorem dX0_commonLength_14 : decode cX0_commonLength 14 = .ok (.iload_n 1, 1) := by decide +kernel
theorem dX0_commonLength_15 : decode cX0_commonLength 15 = .ok (.iload 4, 2) := by decide +kernel
theorem dX0_commonLength_17 : decode cX0_commonLength 17 = .ok (.iushr, 1) := by decide +kernel
theorem dX0_commonLength_18 : decode cX0_commonLength 18 = .ok (.iconst 1, 1) := by decide +kernel
theorem dX0_commonLength_19 : decode cX0_commonLength 19 = .ok (.iand, 1) := by decide +kernel
theorem dX0_commonLength_20 : decode cX0_commonLength 20 = .ok (.iconst 1, 1) := by decide +kernel
theorem dX0_commonLength_21 : decode cX0_commonLength 21 = .ok (.if_icmp .ne 14, 3) := by decide +kernel
theorem dX0_commonLength_24 : decode cX0_commonLength 24 = .ok (.lload_n 2, 1) := by decide +kernel
theorem dX0_commonLength_25 : decode cX0_commonLength 25 = .ok (.aload_n 0, 1) := by decide +kernel
theorem dX0_commonLength_26 : decode cX0_commonLength 26 = .ok (.iload 4, 2) := by decide +kernel
theorem dX0_commonLength_28 : decode cX0_commonLength 28 = .ok (.invokevirtual 68, 3) := by decide +kernel
theorem dX0_commonLength_31 : decode cX0_commonLength 31 = .ok (.invokestatic 157, 3) := by decide +kernel
theorem dX0_commonLength_34 : decode cX0_commonLength 34 = .ok (.lstore_n 2, 1) := by decide +kernel
theorem dX0_commonLength_35 : decode cX0_commonLength 35 = .ok (.iinc 4 1, 3) := by decide +kernel
theorem dX0_commonLength_38 : decode cX0_commonLength 38 = .ok (.goto (-33), 3) := by decide +kernel
theorem dX0_commonLength_41 : decode cX0_commonLength 41 = .ok (.lload_n 2, 1) := by decide +kernel
theorem dX0_commonLength_42 : decode cX0_commonLength 42 = .ok (.lreturn, 1) := by decide +kernel
set_option maxRecDepth 20000 in
theorem ggX0_commonMultiple_X0_modulo : GoodIn wsX0_commonMultiple wsX0_modulo := goodIn_r _ [4, 5, 6, 7, 8] (by decide +kernel) (by decide +kernel)
set_option maxRecDepth 20000 in
theorem gX0_commonMultiple_X0_modulo : GoodIn wsX0_commonMultiple (va_wsS RX0 71 yX0_modulo wsX0_modulo) := goodIn_app (goodIn_of _ (by decide +kernel)) ggX0_commonMultiple_X0_modulo
theorem dX0_commonMultiple_0 : decode cX0_commonMultiple 0 = .ok (.iconst 1, 1) := by decide +kernel
theorem dX0_commonMultiple_1 : decode cX0_commonMultiple 1 = .ok (.istore_n 3, 1) := by decide +kernel
theorem dX0_commonMultiple_2 : decode cX0_commonMultiple 2 = .ok (.iload_n 3, 1) := by decide +kernel
theorem dX0_commonMultiple_3 : decode cX0_commonMultiple 3 = .ok (.iload_n 2, 1) := by decide +kernel
theorem dX0_commonMultiple_4 : decode cX0_commonMultiple 4 = .ok (.if_icmp .ge 28, 3) := by decide +kernel
theorem dX0_commonMultiple_7 : decode cX0_commonMultiple 7 = .ok (.lload_n 0, 1) := by decide +kernel
theorem dX0_commonMultiple_8 : decode cX0_commonMultiple 8 = .ok (.iload_n 3, 1) := by decide +kernel
theorem dX0_commonMultiple_9 : decode cX0_commonMultiple 9 = .ok (.i2l, 1) := by decide +kernel
theorem dX0_commonMultiple_10 : decode cX0_commonMultiple 10 = .ok (.lmul, 1) := by decide +kernel
theorem dX0_commonMultiple_11 : decode cX0_commonMultiple 11 = .ok (.iload_n 2, 1) := by decide +kernel
theorem dX0_commonMultiple_12 : decode cX0_commonMultiple 12 = .ok (.i2l, 1) := by decide +kernel
theorem dX0_commonMultiple_13 : decode cX0_commonMultiple 13 = .ok (.invokestatic 71, 3) := by decide +kernel
theorem dX0_commonMultiple_16 : decode cX0_commonMultiple 16 = .ok (.lconst 0, 1) := by decide +kernel
theorem dX0_commonMultiple_17 : decode cX0_commonMultiple 17 = .ok (.lcmp, 1) := by decide +kernel
theorem dX0_commonMultiple_18 : decode cX0_commonMultiple 18 = .ok (.ifCond .ne 8, 3) := by decide +kernel
theorem dX0_commonMultiple_21 : decode cX0_commonMultiple 21 = .ok (.lload_n 0, 1) := by decide +kernel
theorem dX0_commonMultiple_22 : decode cX0_commonMultiple 22 = .ok (.iload_n 3, 1) := by decide +kernel
theorem dX0_commonMultiple_23 : decode cX0_commonMultiple 23 = .ok (.i2l, 1) := by decide +kernel
theorem dX0_commonMultiple_24 : decode cX0_commonMultiple 24 = .ok (.lmul, 1) := by decide +kernel
theorem dX0_commonMultiple_25 : decode cX0_commonMultiple 25 = .ok (.lreturn, 1) := by decide +kernel
theorem dX0_commonMultiple_26 : decode cX0_commonMultiple 26 = .ok (.iinc 3 1, 3) := by decide +kernel
theorem dX0_commonMultiple_29 : decode cX0_commonMultiple 29 = .ok (.goto (-27), 3) := by decide +kernel
theorem dX0_commonMultiple_32 : decode cX0_commonMultiple 32 = .ok (.lload_n 0, 1) := by decide +kernel
theorem dX0_commonMultiple_33 : decode cX0_commonMultiple 33 = .ok (.iload_n 2, 1) := by decide +kernel
theorem dX0_commonMultiple_34 : decode cX0_commonMultiple 34 = .ok (.i2l, 1) := by decide +kernel
theorem dX0_commonMultiple_35 : decode cX0_commonMultiple 35 = .ok (.lmul, 1) := by decide +kernel
theorem dX0_commonMultiple_36 : decode cX0_commonMultiple 36 = .ok (.lreturn, 1) := by decide +kernel
theorem dX0_moonParts_0 : decode cX0_moonParts 0 = .ok (.lload_n 1, 1) := by decide +kernel
theorem dX0_moonParts_1 : decode cX0_moonParts 1 = .ok (.aload_n 0, 1) := by decide +kernel
theorem dX0_moonParts_2 : decode cX0_moonParts 2 = .ok (.getfield 26, 3) := by decide +kernel
theorem dX0_moonParts_5 : decode cX0_moonParts 5 = .ok (.i2l, 1) := by decide +kernel
theorem dX0_moonParts_6 : decode cX0_moonParts 6 = .ok (.ladd, 1) := by decide +kernel
theorem dX0_moonParts_7 : decode cX0_moonParts 7 = .ok (.aload_n 0, 1) := by decide +kernel
theorem dX0_moonParts_8 : decode cX0_moonParts 8 = .ok (.getfield 23, 3) := by decide +kernel
theorem dX0_moonParts_11 : decode cX0_moonParts 11 = .ok (.i2l, 1) := by decide +kernel
theorem dX0_moonParts_12 : decode cX0_moonParts 12 = .ok (.lmul, 1) := by decide +kernel
theorem dX0_moonParts_13 : decode cX0_moonParts 13 = .ok (.lreturn, 1) := by decide +kernel
set_option maxRecDepth 20000 in
theorem ggX0_lunarDayOf_X0_moonParts : GoodIn wsX0_lunarDayOf wsX0_moonParts := goodIn_r _ [7, 8, 2, 22, 23, 24, 25, 26, 27, 28, 29, 30, 31] (by decide +kernel) (by decide +kernel)
set_option maxRecDepth 20000 in
theorem gX0_lunarDayOf_X0_moonParts : GoodIn wsX0_lunarDayOf (wsV RX0 117 RX0 yX0_moonParts wsX0_moonParts) := goodIn_app (goodIn_of _ (by decide +kernel)) ggX0_lunarDayOf_X0_moonParts
set_option maxRecDepth 20000 in
theorem ggX0_lunarDayOf_X0_modulo : GoodIn wsX0_lunarDayOf wsX0_modulo := goodIn_r _ [11, 12, 13, 14, 15] (by decide +kernel) (by decide +kernel)
set_option maxRecDepth 20000 in
theorem gX0_lunarDayOf_X0_modulo : GoodIn wsX0_lunarDayOf (va_wsS RX0 71 yX0_modulo wsX0_modulo) := goodIn_app (goodIn_of _ (by decide +kernel)) ggX0_lunarDayOf_X0_modulo
set_option maxRecDepth 20000 in
theorem ggX0_lunarDayOf_X0_divide : GoodIn wsX0_lunarDayOf wsX0_divide := goodIn_r _ [18, 19, 20, 14, 21] (by decide +kernel) (by decide +kernel)
set_option maxRecDepth 20000 in
theorem gX0_lunarDayOf_X0_divide : GoodIn wsX0_lunarDayOf (va_wsS RX0 120 yX0_divide wsX0_divide) := goodIn_app (goodIn_of _ (by decide +kernel)) ggX0_lunarDayOf_X0_divide
theorem dX0_lunarDayOf_0 : decode cX0_lunarDayOf 0 = .ok (.aload_n 0, 1) := by decide +kernel
theorem dX0_lunarDayOf_1 : decode cX0_lunarDayOf 1 = .ok (.lload_n 1, 1) := by decide +kernel
theorem dX0_lunarDayOf_2 : decode cX0_lunarDayOf 2 = .ok (.invokevirtual 117, 3) := by decide +kernel
theorem dX0_lunarDayOf_5 : decode cX0_lunarDayOf 5 = .ok (.aload_n 0, 1) := by decide +kernel
theorem dX0_lunarDayOf_6 : decode cX0_lunarDayOf 6 = .ok (.getfield 20, 3) := by decide +kernel
theorem dX0_lunarDayOf_9 : decode cX0_lunarDayOf 9 = .ok (.i2l, 1) := by decide +kernel
theorem dX0_lunarDayOf_10 : decode cX0_lunarDayOf 10 = .ok (.invokestatic 71, 3) := by decide +kernel
theorem dX0_lunarDayOf_13 : decode cX0_lunarDayOf 13 = .ok (.aload_n 0, 1) := by decide +kernel
theorem dX0_lunarDayOf_14 : decode cX0_lunarDayOf 14 = .ok (.getfield 23, 3) := by decide +kernel
theorem dX0_lunarDayOf_17 : decode cX0_lunarDayOf 17 = .ok (.i2l, 1) := by decide +kernel
theorem dX0_lunarDayOf_18 : decode cX0_lunarDayOf 18 = .ok (.invokestatic 120, 3) := by decide +kernel
theorem dX0_lunarDayOf_21 : decode cX0_lunarDayOf 21 = .ok (.lreturn, 1) := by decide +kernel
set_option maxRecDepth 20000 in
theorem ggX0_yearBegin_X0_divide : GoodIn wsX0_yearBegin wsX0_divide := goodIn_r _ [8, 9, 10, 11, 12] (by decide +kernel) (by decide +kernel)
set_option maxRecDepth 20000 in
theorem gX0_yearBegin_X0_divide : GoodIn wsX0_yearBegin (va_wsS RX0 120 yX0_divide wsX0_divide) := goodIn_app (goodIn_of _ (by decide +kernel)) ggX0_yearBegin_X0_divide
theorem dX0_yearBegin_0 : decode cX0_yearBegin 0 = .ok (.aload_n 0, 1) := by decide +kernel
theorem dX0_yearBegin_1 : decode cX0_yearBegin 1 = .ok (.getfield 29, 3) := by decide +kernel
theorem dX0_yearBegin_4 : decode cX0_yearBegin 4 = .ok (.iload_n 1, 1) := by decide +kernel
theorem dX0_yearBegin_5 : decode cX0_yearBegin 5 = .ok (.imul, 1) := by decide +kernel
theorem dX0_yearBegin_6 : decode cX0_yearBegin 6 = .ok (.aload_n 0, 1) := by decide +kernel
theorem dX0_yearBegin_7 : decode cX0_yearBegin 7 = .ok (.getfield 32, 3) := by decide +kernel
theorem dX0_yearBegin_10 : decode cX0_yearBegin 10 = .ok (.iload_n 1, 1) := by decide +kernel
theorem dX0_yearBegin_11 : decode cX0_yearBegin 11 = .ok (.imul, 1) := by decide +kernel
theorem dX0_yearBegin_12 : decode cX0_yearBegin 12 = .ok (.aload_n 0, 1) := by decide +kernel
theorem dX0_yearBegin_13 : decode cX0_yearBegin 13 = .ok (.getfield 35, 3) := by decide +kernel
theorem dX0_yearBegin_16 : decode cX0_yearBegin 16 = .ok (.iadd, 1) := by decide +kernel
theorem dX0_yearBegin_17 : decode cX0_yearBegin 17 = .ok (.i2l, 1) := by decide +kernel
theorem dX0_yearBegin_18 : decode cX0_yearBegin 18 = .ok (.aload_n 0, 1) := by decide +kernel
theorem dX0_yearBegin_19 : decode cX0_yearBegin 19 = .ok (.getfield 38, 3) := by decide +kernel
theorem dX0_yearBegin_22 : decode cX0_yearBegin 22 = .ok (.i2l, 1) := by decide +kernel
theorem dX0_yearBegin_23 : decode cX0_yearBegin 23 = .ok (.invokestatic 120, 3) := by decide +kernel
theorem dX0_yearBegin_26 : decode cX0_yearBegin 26 = .ok (.l2i, 1) := by decide +kernel
theorem dX0_yearBegin_27 : decode cX0_yearBegin 27 = .ok (.iadd, 1) := by decide +kernel
theorem dX0_yearBegin_28 : decode cX0_yearBegin 28 = .ok (.ireturn, 1) := by decide +kernel
set_option maxRecDepth 20000 in
theorem ggX0_yearOf_X0_divide : GoodIn wsX0_yearOf wsX0_divide := goodIn_r _ [8, 9, 10, 11, 12] (by decide +kernel) (by decide +kernel)
set_option maxRecDepth 20000 in
theorem gX0_yearOf_X0_divide : GoodIn wsX0_yearOf (va_wsS RX0 120 yX0_divide wsX0_divide) := goodIn_app (goodIn_of _ (by decide +kernel)) ggX0_yearOf_X0_divide
theorem dX0_yearOf_0 : decode cX0_yearOf 0 = .ok (.aload_n 0, 1) := by decide +kernel
theorem dX0_yearOf_1 : decode cX0_yearOf 1 = .ok (.getfield 38, 3) := by decide +kernel
theorem dX0_yearOf_4 : decode cX0_yearOf 4 = .ok (.i2l, 1) := by decide +kernel
theorem dX0_yearOf_5 : decode cX0_yearOf 5 = .ok (.iload_n 1, 1) := by decide +kernel
theorem dX0_yearOf_6 : decode cX0_yearOf 6 = .ok (.iconst 1, 1) := by decide +kernel
theorem dX0_yearOf_7 : decode cX0_yearOf 7 = .ok (.iadd, 1) := by decide +kernel
theorem dX0_yearOf_8 : decode cX0_yearOf 8 = .ok (.i2l, 1) := by decide +kernel
theorem dX0_yearOf_9 : decode cX0_yearOf 9 = .ok (.lmul, 1) := by decide +kernel
theorem dX0_yearOf_10 : decode cX0_yearOf 10 = .ok (.lconst 1, 1) := by decide +kernel
theorem dX0_yearOf_11 : decode cX0_yearOf 11 = .ok (.lsub, 1) := by decide +kernel
theorem dX0_yearOf_12 : decode cX0_yearOf 12 = .ok (.aload_n 0, 1) := by decide +kernel
theorem dX0_yearOf_13 : decode cX0_yearOf 13 = .ok (.getfield 35, 3) := by decide +kernel
theorem dX0_yearOf_16 : decode cX0_yearOf 16 = .ok (.i2l, 1) := by decide +kernel
theorem dX0_yearOf_17 : decode cX0_yearOf 17 = .ok (.lsub, 1) := by decide +kernel
theorem dX0_yearOf_18 : decode cX0_yearOf 18 = .ok (.lstore_n 2, 1) := by decide +kernel
theorem dX0_yearOf_19 : decode cX0_yearOf 19 = .ok (.lload_n 2, 1) := by decide +kernel
theorem dX0_yearOf_20 : decode cX0_yearOf 20 = .ok (.aload_n 0, 1) := by decide +kernel
theorem dX0_yearOf_21 : decode cX0_yearOf 21 = .ok (.getfield 29, 3) := by decide +kernel
theorem dX0_yearOf_24 : decode cX0_yearOf 24 = .ok (.i2l, 1) := by decide +kernel
theorem dX0_yearOf_25 : decode cX0_yearOf 25 = .ok (.aload_n 0, 1) := by decide +kernel
theorem dX0_yearOf_26 : decode cX0_yearOf 26 = .ok (.getfield 38, 3) := by decide +kernel
theorem dX0_yearOf_29 : decode cX0_yearOf 29 = .ok (.i2l, 1) := by decide +kernel
theorem dX0_yearOf_30 : decode cX0_yearOf 30 = .ok (.lmul, 1) := by decide +kernel
theorem dX0_yearOf_31 : decode cX0_yearOf 31 = .ok (.aload_n 0, 1) := by decide +kernel
theorem dX0_yearOf_32 : decode cX0_yearOf 32 = .ok (.getfield 32, 3) := by decide +kernel
theorem dX0_yearOf_35 : decode cX0_yearOf 35 = .ok (.i2l, 1) := by decide +kernel
theorem dX0_yearOf_36 : decode cX0_yearOf 36 = .ok (.ladd, 1) := by decide +kernel
theorem dX0_yearOf_37 : decode cX0_yearOf 37 = .ok (.invokestatic 120, 3) := by decide +kernel
theorem dX0_yearOf_40 : decode cX0_yearOf 40 = .ok (.l2i, 1) := by decide +kernel
theorem dX0_yearOf_41 : decode cX0_yearOf 41 = .ok (.ireturn, 1) := by decide +kernel
set_option maxRecDepth 20000 in
theorem ggX0_hasLeapDay_X0_modulo : GoodIn wsX0_hasLeapDay wsX0_modulo := goodIn_r _ [7, 8, 9, 10, 11] (by decide +kernel) (by decide +kernel)
set_option maxRecDepth 20000 in
theorem gX0_hasLeapDay_X0_modulo : GoodIn wsX0_hasLeapDay (va_wsS RX0 71 yX0_modulo wsX0_modulo) := goodIn_app (goodIn_of _ (by decide +kernel)) ggX0_hasLeapDay_X0_modulo
theorem dX0_hasLeapDay_0 : decode cX0_hasLeapDay 0 = .ok (.aload_n 0, 1) := by decide +kernel
theorem dX0_hasLeapDay_1 : decode cX0_hasLeapDay 1 = .ok (.getfield 32, 3) := by decide +kernel
theorem dX0_hasLeapDay_4 : decode cX0_hasLeapDay 4 = .ok (.iload_n 1, 1) := by decide +kernel
theorem dX0_hasLeapDay_5 : decode cX0_hasLeapDay 5 = .ok (.imul, 1) := by decide +kernel
theorem dX0_hasLeapDay_6 : decode cX0_hasLeapDay 6 = .ok (.aload_n 0, 1) := by decide +kernel
theorem dX0_hasLeapDay_7 : decode cX0_hasLeapDay 7 = .ok (.getfield 35, 3) := by decide +kernel
theorem dX0_hasLeapDay_10 : decode cX0_hasLeapDay 10 = .ok (.iadd, 1) := by decide +kernel
theorem dX0_hasLeapDay_11 : decode cX0_hasLeapDay 11 = .ok (.i2l, 1) := by decide +kernel
theorem dX0_hasLeapDay_12 : decode cX0_hasLeapDay 12 = .ok (.aload_n 0, 1) := by decide +kernel
theorem dX0_hasLeapDay_13 : decode cX0_hasLeapDay 13 = .ok (.getfield 38, 3) := by decide +kernel
theorem dX0_hasLeapDay_16 : decode cX0_hasLeapDay 16 = .ok (.i2l, 1) := by decide +kernel
theorem dX0_hasLeapDay_17 : decode cX0_hasLeapDay 17 = .ok (.invokestatic 71, 3) := by decide +kernel
theorem dX0_hasLeapDay_20 : decode cX0_hasLeapDay 20 = .ok (.aload_n 0, 1) := by decide +kernel
theorem dX0_hasLeapDay_21 : decode cX0_hasLeapDay 21 = .ok (.getfield 38, 3) := by decide +kernel
theorem dX0_hasLeapDay_24 : decode cX0_hasLeapDay 24 = .ok (.aload_n 0, 1) := by decide +kernel
theorem dX0_hasLeapDay_25 : decode cX0_hasLeapDay 25 = .ok (.getfield 32, 3) := by decide +kernel
theorem dX0_hasLeapDay_28 : decode cX0_hasLeapDay 28 = .ok (.isub, 1) := by decide +kernel
theorem dX0_hasLeapDay_29 : decode cX0_hasLeapDay 29 = .ok (.i2l, 1) := by decide +kernel
theorem dX0_hasLeapDay_30 : decode cX0_hasLeapDay 30 = .ok (.lcmp, 1) := by decide +kernel
theorem dX0_hasLeapDay_31 : decode cX0_hasLeapDay 31 = .ok (.ifCond .lt 7, 3) := by decide +kernel
theorem dX0_hasLeapDay_34 : decode cX0_hasLeapDay 34 = .ok (.iconst 1, 1) := by decide +kernel
theorem dX0_hasLeapDay_35 : decode cX0_hasLeapDay 35 = .ok (.goto 4, 3) := by decide +kernel
theorem dX0_hasLeapDay_38 : decode cX0_hasLeapDay 38 = .ok (.iconst 0, 1) := by decide +kernel
theorem dX0_hasLeapDay_39 : decode cX0_hasLeapDay 39 = .ok (.ireturn, 1) := by decide +kernel
theorem dX0_isWithin_0 : decode cX0_isWithin 0 = .ok (.iload_n 0, 1) := by decide +kernel
theorem dX0_isWithin_1 : decode cX0_isWithin 1 = .ok (.iload_n 1, 1) := by decide +kernel
theorem dX0_isWithin_2 : decode cX0_isWithin 2 = .ok (.if_icmp .lt 12, 3) := by decide +kernel
theorem dX0_isWithin_5 : decode cX0_isWithin 5 = .ok (.iload_n 0, 1) := by decide +kernel
theorem dX0_isWithin_6 : decode cX0_isWithin 6 = .ok (.iload_n 2, 1) := by decide +kernel
theorem dX0_isWithin_7 : decode cX0_isWithin 7 = .ok (.if_icmp .gt 7, 3) := by decide +kernel
theorem dX0_isWithin_10 : decode cX0_isWithin 10 = .ok (.iconst 1, 1) := by decide +kernel
theorem dX0_isWithin_11 : decode cX0_isWithin 11 = .ok (.goto 4, 3) := by decide +kernel
theorem dX0_isWithin_14 : decode cX0_isWithin 14 = .ok (.iconst 0, 1) := by decide +kernel
theorem dX0_isWithin_15 : decode cX0_isWithin 15 = .ok (.ireturn, 1) := by decide +kernel
set_option maxRecDepth 20000 in
theorem ggX0_divide_J9_floorDiv_f86c9 : GoodIn wsX0_divide wsJ9_floorDiv_f86c9 := goodIn_r _ [4] (by decide +kernel) (by decide +kernel)
set_option maxRecDepth 20000 in
theorem gX0_divide_J9_floorDiv_f86c9 : GoodIn wsX0_divide (va_wsS RX0 161 yJ9_floorDiv_f86c9 wsJ9_floorDiv_f86c9) := goodIn_app (goodIn_of _ (by decide +kernel)) ggX0_divide_J9_floorDiv_f86c9
theorem dX0_divide_0 : decode cX0_divide 0 = .ok (.lload_n 2, 1) := by decide +kernel
theorem dX0_divide_1 : decode cX0_divide 1 = .ok (.lconst 0, 1) := by decide +kernel
theorem dX0_divide_2 : decode cX0_divide 2 = .ok (.lcmp, 1) := by decide +kernel
theorem dX0_divide_3 : decode cX0_divide 3 = .ok (.ifCond .le 11, 3) := by decide +kernel
theorem dX0_divide_6 : decode cX0_divide 6 = .ok (.lload_n 0, 1) := by decide +kernel
theorem dX0_divide_7 : decode cX0_divide 7 = .ok (.lload_n 2, 1) := by decide +kernel
theorem dX0_divide_8 : decode cX0_divide 8 = .ok (.invokestatic 161, 3) := by decide +kernel
theorem dX0_divide_11 : decode cX0_divide 11 = .ok (.goto 4, 3) := by decide +kernel
theorem dX0_divide_14 : decode cX0_divide 14 = .ok (.lconst 0, 1) := by decide +kernel
theorem dX0_divide_15 : decode cX0_divide 15 = .ok (.lreturn, 1) := by decide +kernel
set_option maxRecDepth 20000 in
theorem ggX0_modulo_J9_floorMod_f86c9 : GoodIn wsX0_modulo wsJ9_floorMod_f86c9 := goodIn_r _ [4] (by decide +kernel) (by decide +kernel)
set_option maxRecDepth 20000 in
theorem gX0_modulo_J9_floorMod_f86c9 : GoodIn wsX0_modulo (va_wsS RX0 166 yJ9_floorMod_f86c9 wsJ9_floorMod_f86c9) := goodIn_app (goodIn_of _ (by decide +kernel)) ggX0_modulo_J9_floorMod_f86c9
theorem dX0_modulo_0 : decode cX0_modulo 0 = .ok (.lload_n 2, 1) := by decide +kernel
theorem dX0_modulo_1 : decode cX0_modulo 1 = .ok (.lconst 0, 1) := by decide +kernel
theorem dX0_modulo_2 : decode cX0_modulo 2 = .ok (.lcmp, 1) := by decide +kernel
theorem dX0_modulo_3 : decode cX0_modulo 3 = .ok (.ifCond .le 11, 3) := by decide +kernel
theorem dX0_modulo_6 : decode cX0_modulo 6 = .ok (.lload_n 0, 1) := by decide +kernel
theorem dX0_modulo_7 : decode cX0_modulo 7 = .ok (.lload_n 2, 1) := by decide +kernel
theorem dX0_modulo_8 : decode cX0_modulo 8 = .ok (.invokestatic 166, 3) := by decide +kernel
theorem dX0_modulo_11 : decode cX0_modulo 11 = .ok (.goto 4, 3) := by decide +kernel
theorem dX0_modulo_14 : decode cX0_modulo 14 = .ok (.lconst 0, 1) := by decide +kernel
theorem dX0_modulo_15 : decode cX0_modulo 15 = .ok (.lreturn, 1) := by decide +kernel
theorem dX1_init_0 : decode cX1_init 0 = .ok (.aload_n 0, 1) := by decide +kernel
theorem dX1_init_1 : decode cX1_init 1 = .ok (.invokespecial 1, 3) := by decide +kernel
theorem dX1_init_4 : decode cX1_init 4 = .ok (.aload_n 0, 1) := by decide +kernel
theorem dX1_init_5 : decode cX1_init 5 = .ok (.bipush 16, 2) := by decide +kernel
theorem dX1_init_7 : decode cX1_init 7 = .ok (.newarray .int, 2) := by decide +kernel
theorem dX1_init_9 : decode cX1_init 9 = .ok (.putfield 7, 3) := by decide +kernel
theorem dX1_init_12 : decode cX1_init 12 = .ok (.aload_n 0, 1) := by decide +kernel
theorem dX1_init_13 : decode cX1_init 13 = .ok (.bipush 16, 2) := by decide +kernel
theorem dX1_init_15 : decode cX1_init 15 = .ok (.newarray .int, 2) := by decide +kernel
theorem dX1_init_17 : decode cX1_init 17 = .ok (.putfield 13, 3) := by decide +kernel
theorem dX1_init_20 : decode cX1_init 20 = .ok (.aload_n 0, 1) := by decide +kernel
theorem dX1_init_21 : decode cX1_init 21 = .ok (.sipush 1447, 3) := by decide +kernel
theorem dX1_init_24 : decode cX1_init 24 = .ok (.putfield 16, 3) := by decide +kernel
theorem dX1_init_27 : decode cX1_init 27 = .ok (.aload_n 0, 1) := by decide +kernel
theorem dX1_init_28 : decode cX1_init 28 = .ok (.bipush 49, 2) := by decide +kernel
theorem dX1_init_30 : decode cX1_init 30 = .ok (.putfield 20, 3) := by decide +kernel
theorem dX1_init_33 : decode cX1_init 33 = .ok (.aload_n 0, 1) := by decide +kernel
theorem dX1_init_34 : decode cX1_init 34 = .ok (.sipush 365, 3) := by decide +kernel
theorem dX1_init_37 : decode cX1_init 37 = .ok (.putfield 23, 3) := by decide +kernel
theorem dX1_init_40 : decode cX1_init 40 = .ok (.aload_n 0, 1) := by decide +kernel
theorem dX1_init_41 : decode cX1_init 41 = .ok (.bipush 8, 2) := by decide +kernel
theorem dX1_init_43 : decode cX1_init 43 = .ok (.putfield 26, 3) := by decide +kernel
theorem dX1_init_46 : decode cX1_init 46 = .ok (.aload_n 0, 1) := by decide +kernel
theorem dX1_init_47 : decode cX1_init 47 = .ok (.bipush 33, 2) := by decide +kernel
theorem dX1_init_49 : decode cX1_init 49 = .ok (.putfield 29, 3) := by decide +kernel
theorem dX1_init_52 : decode cX1_init 52 = .ok (.return_, 1) := by decide +kernel
theorem dX1_thrown_0 : decode cX1_thrown 0 = .ok (.aload_n 0, 1) := by decide +kernel
theorem dX1_thrown_1 : decode cX1_thrown 1 = .ok (.getfield 32, 3) := by decide +kernel
theorem dX1_thrown_4 : decode cX1_thrown 4 = .ok (.ireturn, 1) := by decide +kernel
theorem dX1_goesWell_0 : decode cX1_goesWell 0 = .ok (.aload_n 0, 1) := by decide +kernel
theorem dX1_goesWell_1 : decode cX1_goesWell 1 = .ok (.iload_n 1, 1) := by decide +kernel
theorem dX1_goesWell_2 : decode cX1_goesWell 2 = .ok (.putfield 32, 3) := by decide +kernel
theorem dX1_goesWell_5 : decode cX1_goesWell 5 = .ok (.iload_n 1, 1) := by decide +kernel
theorem dX1_goesWell_6 : decode cX1_goesWell 6 = .ok (.ifCond .ne 7, 3) := by decide +kernel
theorem dX1_goesWell_9 : decode cX1_goesWell 9 = .ok (.iconst 1, 1) := by decide +kernel
theorem dX1_goesWell_10 : decode cX1_goesWell 10 = .ok (.goto 4, 3) := by decide +kernel
theorem dX1_goesWell_13 : decode cX1_goesWell 13 = .ok (.iconst 0, 1) := by decide +kernel
theorem dX1_goesWell_14 : decode cX1_goesWell 14 = .ok (.ireturn, 1) := by decide +kernel
theorem dX1_in_0 : decode cX1_in 0 = .ok (.lload_n 0, 1) := by decide +kernel
theorem dX1_in_1 : decode cX1_in 1 = .ok (.lload_n 2, 1) := by decide +kernel
theorem dX1_in_2 : decode cX1_in 2 = .ok (.lcmp, 1) := by decide +kernel
theorem dX1_in_3 : decode cX1_in 3 = .ok (.ifCond .lt 14, 3) := by decide +kernel
theorem dX1_in_6 : decode cX1_in 6 = .ok (.lload_n 0, 1) := by decide +kernel
theorem dX1_in_7 : decode cX1_in 7 = .ok (.lload 4, 2) := by decide +kernel
theorem dX1_in_9 : decode cX1_in 9 = .ok (.lcmp, 1) := by decide +kernel
theorem dX1_in_10 : decode cX1_in 10 = .ok (.ifCond .gt 7, 3) := by decide +kernel
theorem dX1_in_13 : decode cX1_in 13 = .ok (.iconst 1, 1) := by decide +kernel
theorem dX1_in_14 : decode cX1_in 14 = .ok (.goto 4, 3) := by decide +kernel
theorem dX1_in_17 : decode cX1_in 17 = .ok (.iconst 0, 1) := by decide +kernel
theorem dX1_in_18 : decode cX1_in 18 = .ok (.ireturn, 1) := by decide +kernel
set_option maxRecDepth 20000 in
theorem ggX1_isDay_X1_in : GoodIn wsX1_isDay wsX1_in := goodIn_r _ [6] (by decide +kernel) (by decide +kernel)
set_option maxRecDepth 20000 in
theorem gX1_isDay_X1_in : GoodIn wsX1_isDay (va_wsS RX1 39 yX1_in wsX1_in) := goodIn_app (goodIn_of _ (by decide +kernel)) ggX1_isDay_X1_in
theorem dX1_isDay_0 : decode cX1_isDay 0 = .ok (.iload_n 0, 1) := by decide +kernel
theorem dX1_isDay_1 : decode cX1_isDay 1 = .ok (.i2l, 1) := by decide +kernel
theorem dX1_isDay_2 : decode cX1_isDay 2 = .ok (.ldc2_w 35, 3) := by decide +kernel
theorem dX1_isDay_5 : decode cX1_isDay 5 = .ok (.ldc2_w 37, 3) := by decide +kernel
theorem dX1_isDay_8 : decode cX1_isDay 8 = .ok (.invokestatic 39, 3) := by decide +kernel
theorem dX1_isDay_11 : decode cX1_isDay 11 = .ok (.ireturn, 1) := by decide +kernel
set_option maxRecDepth 20000 in
theorem ggX1_isMarket_X1_in : GoodIn wsX1_isMarket wsX1_in := goodIn_r _ [5] (by decide +kernel) (by decide +kernel)
set_option maxRecDepth 20000 in
theorem gX1_isMarket_X1_in : GoodIn wsX1_isMarket (va_wsS RX1 39 yX1_in wsX1_in) := goodIn_app (goodIn_of _ (by decide +kernel)) ggX1_isMarket_X1_in
theorem dX1_isMarket_0 : decode cX1_isMarket 0 = .ok (.iload_n 1, 1) := by decide +kernel
theorem dX1_isMarket_1 : decode cX1_isMarket 1 = .ok (.i2l, 1) := by decide +kernel
theorem dX1_isMarket_2 : decode cX1_isMarket 2 = .ok (.lconst 0, 1) := by decide +kernel
theorem dX1_isMarket_3 : decode cX1_isMarket 3 = .ok (.aload_n 0, 1) := by decide +kernel
theorem dX1_isMarket_4 : decode cX1_isMarket 4 = .ok (.getfield 43, 3) := by decide +kernel
theorem dX1_isMarket_7 : decode cX1_isMarket 7 = .ok (.iconst 1, 1) := by decide +kernel
theorem dX1_isMarket_8 : decode cX1_isMarket 8 = .ok (.isub, 1) := by decide +kernel
theorem dX1_isMarket_9 : decode cX1_isMarket 9 = .ok (.i2l, 1) := by decide +kernel
theorem dX1_isMarket_10 : decode cX1_isMarket 10 = .ok (.invokestatic 39, 3) := by decide +kernel
theorem dX1_isMarket_13 : decode cX1_isMarket 13 = .ok (.ireturn, 1) := by decide +kernel
set_option maxRecDepth 20000 in
theorem ggX1_part_X1_modulo : GoodIn wsX1_part wsX1_modulo := goodIn_r _ [4] (by decide +kernel) (by decide +kernel)
set_option maxRecDepth 20000 in
theorem gX1_part_X1_modulo : GoodIn wsX1_part (va_wsS RX1 46 yX1_modulo wsX1_modulo) := goodIn_app (goodIn_of _ (by decide +kernel)) ggX1_part_X1_modulo
theorem dX1_part_0 : decode cX1_part 0 = .ok (.lload_n 0, 1) := by decide +kernel
theorem dX1_part_1 : decode cX1_part 1 = .ok (.lload_n 2, 1) := by decide +kernel
theorem dX1_part_2 : decode cX1_part 2 = .ok (.invokestatic 46, 3) := by decide +kernel
theorem dX1_part_5 : decode cX1_part 5 = .ok (.lstore 4, 2) := by decide +kernel
theorem dX1_part_7 : decode cX1_part 7 = .ok (.lload_n 0, 1) := by decide +kernel
theorem dX1_part_8 : decode cX1_part 8 = .ok (.lload 4, 2) := by decide +kernel
theorem dX1_part_10 : decode cX1_part 10 = .ok (.lsub, 1) := by decide +kernel
theorem dX1_part_11 : decode cX1_part 11 = .ok (.lload_n 2, 1) := by decide +kernel
theorem dX1_part_12 : decode cX1_part 12 = .ok (.ldiv, 1) := by decide +kernel
theorem dX1_part_13 : decode cX1_part 13 = .ok (.lreturn, 1) := by decide +kernel
theorem dX1_modulo_0 : decode cX1_modulo 0 = .ok (.lload_n 0, 1) := by decide +kernel
theorem dX1_modulo_1 : decode cX1_modulo 1 = .ok (.lload_n 2, 1) := by decide +kernel
theorem dX1_modulo_2 : decode cX1_modulo 2 = .ok (.lrem, 1) := by decide +kernel
theorem dX1_modulo_3 : decode cX1_modulo 3 = .ok (.lstore 4, 2) := by decide +kernel
theorem dX1_modulo_5 : decode cX1_modulo 5 = .ok (.lload 4, 2) := by decide +kernel
theorem dX1_modulo_7 : decode cX1_modulo 7 = .ok (.lconst 0, 1) := by decide +kernel
theorem dX1_modulo_8 : decode cX1_modulo 8 = .ok (.lcmp, 1) := by decide +kernel
theorem dX1_modulo_9 : decode cX1_modulo 9 = .ok (.ifCond .ge 10, 3) := by decide +kernel
theorem dX1_modulo_12 : decode cX1_modulo 12 = .ok (.lload 4, 2) := by decide +kernel
theorem dX1_modulo_14 : decode cX1_modulo 14 = .ok (.lload_n 2, 1) := by decide +kernel
theorem dX1_modulo_15 : decode cX1_modulo 15 = .ok (.ladd, 1) := by decide +kernel
theorem dX1_modulo_16 : decode cX1_modulo 16 = .ok (.goto 5, 3) := by decide +kernel
theorem dX1_modulo_19 : decode cX1_modulo 19 = .ok (.lload 4, 2) := by decide +kernel
theorem dX1_modulo_21 : decode cX1_modulo 21 = .ok (.lreturn, 1) := by decide +kernel
set_option maxRecDepth 20000 in
theorem ggX1_addMarket_X1_in : GoodIn wsX1_addMarket wsX1_in := goodIn_r _ [8] (by decide +kernel) (by decide +kernel)
set_option maxRecDepth 20000 in
theorem gX1_addMarket_X1_in : GoodIn wsX1_addMarket (va_wsS RX1 39 yX1_in wsX1_in) := goodIn_app (goodIn_of _ (by decide +kernel)) ggX1_addMarket_X1_in
set_option maxRecDepth 20000 in
theorem ggX1_addMarket_X1_goesWell : GoodIn wsX1_addMarket wsX1_goesWell := goodIn_r _ [12, 13, 14, 15, 16, 17, 18, 19, 20, 21, 22, 23, 24, 25, 26] (by decide +kernel) (by decide +kernel)
set_option maxRecDepth 20000 in
theorem gX1_addMarket_X1_goesWell : GoodIn wsX1_addMarket (wsV RX1 52 RX1 yX1_goesWell wsX1_goesWell) := goodIn_app (goodIn_of _ (by decide +kernel)) ggX1_addMarket_X1_goesWell
theorem dX1_addMarket_0 : decode cX1_addMarket 0 = .ok (.aload_n 0, 1) := by decide +kernel
theorem dX1_addMarket_1 : decode cX1_addMarket 1 = .ok (.iload_n 1, 1) := by decide +kernel
theorem dX1_addMarket_2 : decode cX1_addMarket 2 = .ok (.i2l, 1) := by decide +kernel
theorem dX1_addMarket_3 : decode cX1_addMarket 3 = .ok (.lconst 1, 1) := by decide +kernel
theorem dX1_addMarket_4 : decode cX1_addMarket 4 = .ok (.ldc2_w 50, 3) := by decide +kernel
theorem dX1_addMarket_7 : decode cX1_addMarket 7 = .ok (.invokestatic 39, 3) := by decide +kernel
theorem dX1_addMarket_10 : decode cX1_addMarket 10 = .ok (.ifCond .eq 16, 3) := by decide +kernel
theorem dX1_addMarket_13 : decode cX1_addMarket 13 = .ok (.iload_n 2, 1) := by decide +kernel
theorem dX1_addMarket_14 : decode cX1_addMarket 14 = .ok (.i2l, 1) := by decide +kernel
theorem dX1_addMarket_15 : decode cX1_addMarket 15 = .ok (.lconst 0, 1) := by decide +kernel
theorem dX1_addMarket_16 : decode cX1_addMarket 16 = .ok (.iload_n 1, 1) := by decide +kernel
theorem dX1_addMarket_17 : decode cX1_addMarket 17 = .ok (.iconst 1, 1) := by decide +kernel
theorem dX1_addMarket_18 : decode cX1_addMarket 18 = .ok (.isub, 1) := by decide +kernel
theorem dX1_addMarket_19 : decode cX1_addMarket 19 = .ok (.i2l, 1) := by decide +kernel
theorem dX1_addMarket_20 : decode cX1_addMarket 20 = .ok (.invokestatic 39, 3) := by decide +kernel
theorem dX1_addMarket_23 : decode cX1_addMarket 23 = .ok (.ifCond .ne 7, 3) := by decide +kernel
theorem dX1_addMarket_26 : decode cX1_addMarket 26 = .ok (.iconst 1, 1) := by decide +kernel
theorem dX1_addMarket_27 : decode cX1_addMarket 27 = .ok (.goto 17, 3) := by decide +kernel
theorem dX1_addMarket_30 : decode cX1_addMarket 30 = .ok (.aload_n 0, 1) := by decide +kernel
theorem dX1_addMarket_31 : decode cX1_addMarket 31 = .ok (.getfield 43, 3) := by decide +kernel
theorem dX1_addMarket_34 : decode cX1_addMarket 34 = .ok (.bipush 16, 2) := by decide +kernel
theorem dX1_addMarket_36 : decode cX1_addMarket 36 = .ok (.if_icmp .ne 7, 3) := by decide +kernel
theorem dX1_addMarket_39 : decode cX1_addMarket 39 = .ok (.iconst 2, 1) := by decide +kernel
theorem dX1_addMarket_40 : decode cX1_addMarket 40 = .ok (.goto 4, 3) := by decide +kernel
theorem dX1_addMarket_43 : decode cX1_addMarket 43 = .ok (.iconst 0, 1) := by decide +kernel
theorem dX1_addMarket_44 : decode cX1_addMarket 44 = .ok (.invokevirtual 52, 3) := by decide +kernel
theorem dX1_addMarket_47 : decode cX1_addMarket 47 = .ok (.ifCond .ne 5, 3) := by decide +kernel
theorem dX1_addMarket_50 : decode cX1_addMarket 50 = .ok (.iconst 0, 1) := by decide +kernel
theorem dX1_addMarket_51 : decode cX1_addMarket 51 = .ok (.ireturn, 1) := by decide +kernel
theorem dX1_addMarket_52 : decode cX1_addMarket 52 = .ok (.aload_n 0, 1) := by decide +kernel
theorem dX1_addMarket_53 : decode cX1_addMarket 53 = .ok (.getfield 7, 3) := by decide +kernel
theorem dX1_addMarket_56 : decode cX1_addMarket 56 = .ok (.aload_n 0, 1) := by decide +kernel
theorem dX1_addMarket_57 : decode cX1_addMarket 57 = .ok (.getfield 43, 3) := by decide +kernel
theorem dX1_addMarket_60 : decode cX1_addMarket 60 = .ok (.iload_n 1, 1) := by decide +kernel
theorem dX1_addMarket_61 : decode cX1_addMarket 61 = .ok (.iastore, 1) := by decide +kernel
theorem dX1_addMarket_62 : decode cX1_addMarket 62 = .ok (.aload_n 0, 1) := by decide +kernel
theorem dX1_addMarket_63 : decode cX1_addMarket 63 = .ok (.getfield 13, 3) := by decide +kernel
theorem dX1_addMarket_66 : decode cX1_addMarket 66 = .ok (.aload_n 0, 1) := by decide +kernel
theorem dX1_addMarket_67 : decode cX1_addMarket 67 = .ok (.getfield 43, 3) := by decide +kernel
theorem dX1_addMarket_70 : decode cX1_addMarket 70 = .ok (.iload_n 2, 1) := by decide +kernel
theorem dX1_addMarket_71 : decode cX1_addMarket 71 = .ok (.iastore, 1) := by decide +kernel
theorem dX1_addMarket_72 : decode cX1_addMarket 72 = .ok (.aload_n 0, 1) := by decide +kernel
theorem dX1_addMarket_73 : decode cX1_addMarket 73 = .ok (.dup, 1) := by decide +kernel
theorem dX1_addMarket_74 : decode cX1_addMarket 74 = .ok (.getfield 43, 3) := by decide +kernel
theorem dX1_addMarket_77 : decode cX1_addMarket 77 = .ok (.iconst 1, 1) := by decide +kernel
theorem dX1_addMarket_78 : decode cX1_addMarket 78 = .ok (.iadd, 1) := by decide +kernel
theorem dX1_addMarket_79 : decode cX1_addMarket 79 = .ok (.putfield 43, 3) := by decide +kernel
theorem dX1_addMarket_82 : decode cX1_addMarket 82 = .ok (.aload_n 0, 1) := by decide +kernel
theorem dX1_addMarket_83 : decode cX1_addMarket 83 = .ok (.getfield 43, 3) := by decide +kernel
theorem dX1_addMarket_86 : decode cX1_addMarket 86 = .ok (.iconst 1, 1) := by decide +kernel
theorem dX1_addMarket_87 : decode cX1_addMarket 87 = .ok (.isub, 1) := by decide +kernel
theorem dX1_addMarket_88 : decode cX1_addMarket 88 = .ok (.ireturn, 1) := by decide +kernel
set_option maxRecDepth 20000 in
theorem ggX1_shift_X1_isMarket : GoodIn wsX1_shift wsX1_isMarket := goodIn_r _ [9, 10, 11, 12, 8, 13, 22, 23, 24, 25, 26, 27, 28, 29, 30, 31, 32, 33, 34] (by decide +kernel) (by decide +kernel)
set_option maxRecDepth 20000 in
theorem gX1_shift_X1_isMarket : GoodIn wsX1_shift (wsV RX1 56 RX1 yX1_isMarket wsX1_isMarket) := goodIn_app (goodIn_of _ (by decide +kernel)) ggX1_shift_X1_isMarket
set_option maxRecDepth 20000 in
theorem ggX1_shift_X1_in : GoodIn wsX1_shift wsX1_in := goodIn_r _ [13] (by decide +kernel) (by decide +kernel)
set_option maxRecDepth 20000 in
theorem gX1_shift_X1_in : GoodIn wsX1_shift (va_wsS RX1 39 yX1_in wsX1_in) := goodIn_app (goodIn_of _ (by decide +kernel)) ggX1_shift_X1_in
set_option maxRecDepth 20000 in
theorem ggX1_shift_X1_goesWell : GoodIn wsX1_shift wsX1_goesWell := goodIn_r _ [17, 18, 22, 23, 24, 25, 26, 27, 28, 29, 30, 31, 32, 33, 34] (by decide +kernel) (by decide +kernel)
set_option maxRecDepth 20000 in
theorem gX1_shift_X1_goesWell : GoodIn wsX1_shift (wsV RX1 52 RX1 yX1_goesWell wsX1_goesWell) := goodIn_app (goodIn_of _ (by decide +kernel)) ggX1_shift_X1_goesWell
set_option maxRecDepth 20000 in
theorem ggX1_shift_X1_modulo : GoodIn wsX1_shift wsX1_modulo := goodIn_r _ [21] (by decide +kernel) (by decide +kernel)
set_option maxRecDepth 20000 in
theorem gX1_shift_X1_modulo : GoodIn wsX1_shift (va_wsS RX1 46 yX1_modulo wsX1_modulo) := goodIn_app (goodIn_of _ (by decide +kernel)) ggX1_shift_X1_modulo
theorem dX1_shift_0 : decode cX1_shift 0 = .ok (.aload_n 0, 1) := by decide +kernel
theorem dX1_shift_1 : decode cX1_shift 1 = .ok (.aload_n 0, 1) := by decide +kernel
theorem dX1_shift_2 : decode cX1_shift 2 = .ok (.iload_n 1, 1) := by decide +kernel
theorem dX1_shift_3 : decode cX1_shift 3 = .ok (.invokevirtual 56, 3) := by decide +kernel
theorem dX1_shift_6 : decode cX1_shift 6 = .ok (.ifCond .ne 7, 3) := by decide +kernel
theorem dX1_shift_9 : decode cX1_shift 9 = .ok (.iconst 1, 1) := by decide +kernel
theorem dX1_shift_10 : decode cX1_shift 10 = .ok (.goto 22, 3) := by decide +kernel
theorem dX1_shift_13 : decode cX1_shift 13 = .ok (.iload_n 2, 1) := by decide +kernel
theorem dX1_shift_14 : decode cX1_shift 14 = .ok (.i2l, 1) := by decide +kernel
theorem dX1_shift_15 : decode cX1_shift 15 = .ok (.ldc2_w 59, 3) := by decide +kernel
theorem dX1_shift_18 : decode cX1_shift 18 = .ok (.ldc2_w 50, 3) := by decide +kernel
theorem dX1_shift_21 : decode cX1_shift 21 = .ok (.invokestatic 39, 3) := by decide +kernel
theorem dX1_shift_24 : decode cX1_shift 24 = .ok (.ifCond .eq 7, 3) := by decide +kernel
theorem dX1_shift_27 : decode cX1_shift 27 = .ok (.iconst 0, 1) := by decide +kernel
theorem dX1_shift_28 : decode cX1_shift 28 = .ok (.goto 4, 3) := by decide +kernel
theorem dX1_shift_31 : decode cX1_shift 31 = .ok (.iconst 2, 1) := by decide +kernel
theorem dX1_shift_32 : decode cX1_shift 32 = .ok (.invokevirtual 52, 3) := by decide +kernel
theorem dX1_shift_35 : decode cX1_shift 35 = .ok (.ifCond .ne 5, 3) := by decide +kernel
theorem dX1_shift_38 : decode cX1_shift 38 = .ok (.iconst 0, 1) := by decide +kernel
theorem dX1_shift_39 : decode cX1_shift 39 = .ok (.ireturn, 1) := by decide +kernel
theorem dX1_shift_40 : decode cX1_shift 40 = .ok (.aload_n 0, 1) := by decide +kernel
theorem dX1_shift_41 : decode cX1_shift 41 = .ok (.getfield 13, 3) := by decide +kernel
theorem dX1_shift_44 : decode cX1_shift 44 = .ok (.iload_n 1, 1) := by decide +kernel
theorem dX1_shift_45 : decode cX1_shift 45 = .ok (.aload_n 0, 1) := by decide +kernel
theorem dX1_shift_46 : decode cX1_shift 46 = .ok (.getfield 13, 3) := by decide +kernel
theorem dX1_shift_49 : decode cX1_shift 49 = .ok (.iload_n 1, 1) := by decide +kernel
theorem dX1_shift_50 : decode cX1_shift 50 = .ok (.iaload, 1) := by decide +kernel
theorem dX1_shift_51 : decode cX1_shift 51 = .ok (.iload_n 2, 1) := by decide +kernel
theorem dX1_shift_52 : decode cX1_shift 52 = .ok (.iadd, 1) := by decide +kernel
theorem dX1_shift_53 : decode cX1_shift 53 = .ok (.i2l, 1) := by decide +kernel
theorem dX1_shift_54 : decode cX1_shift 54 = .ok (.aload_n 0, 1) := by decide +kernel
theorem dX1_shift_55 : decode cX1_shift 55 = .ok (.getfield 7, 3) := by decide +kernel
theorem dX1_shift_58 : decode cX1_shift 58 = .ok (.iload_n 1, 1) := by decide +kernel
theorem dX1_shift_59 : decode cX1_shift 59 = .ok (.iaload, 1) := by decide +kernel
theorem dX1_shift_60 : decode cX1_shift 60 = .ok (.i2l, 1) := by decide +kernel
theorem dX1_shift_61 : decode cX1_shift 61 = .ok (.invokestatic 46, 3) := by decide +kernel
theorem dX1_shift_64 : decode cX1_shift 64 = .ok (.l2i, 1) := by decide +kernel
theorem dX1_shift_65 : decode cX1_shift 65 = .ok (.iastore, 1) := by decide +kernel
theorem dX1_shift_66 : decode cX1_shift 66 = .ok (.aload_n 0, 1) := by decide +kernel
theorem dX1_shift_67 : decode cX1_shift 67 = .ok (.getfield 13, 3) := by decide +kernel
theorem dX1_shift_70 : decode cX1_shift 70 = .ok (.iload_n 1, 1) := by decide +kernel
theorem dX1_shift_71 : decode cX1_shift 71 = .ok (.iaload, 1) := by decide +kernel
theorem dX1_shift_72 : decode cX1_shift 72 = .ok (.ireturn, 1) := by decide +kernel
set_option maxRecDepth 20000 in
theorem ggX1_setMoon_X1_in : GoodIn wsX1_setMoon wsX1_in := goodIn_r _ [11] (by decide +kernel) (by decide +kernel)
set_option maxRecDepth 20000 in
theorem gX1_setMoon_X1_in : GoodIn wsX1_setMoon (va_wsS RX1 39 yX1_in wsX1_in) := goodIn_app (goodIn_of _ (by decide +kernel)) ggX1_setMoon_X1_in
set_option maxRecDepth 20000 in
theorem ggX1_setMoon_X1_goesWell : GoodIn wsX1_setMoon wsX1_goesWell := goodIn_r _ [15, 16, 17, 18, 19, 20, 21, 22, 23, 24, 25, 26, 27, 28, 29] (by decide +kernel) (by decide +kernel)
set_option maxRecDepth 20000 in
theorem gX1_setMoon_X1_goesWell : GoodIn wsX1_setMoon (wsV RX1 52 RX1 yX1_goesWell wsX1_goesWell) := goodIn_app (goodIn_of _ (by decide +kernel)) ggX1_setMoon_X1_goesWell
theorem dX1_setMoon_0 : decode cX1_setMoon 0 = .ok (.iload_n 2, 1) := by decide +kernel
theorem dX1_setMoon_1 : decode cX1_setMoon 1 = .ok (.i2l, 1) := by decide +kernel
theorem dX1_setMoon_2 : decode cX1_setMoon 2 = .ok (.lconst 1, 1) := by decide +kernel
theorem dX1_setMoon_3 : decode cX1_setMoon 3 = .ok (.ldc2_w 61, 3) := by decide +kernel
theorem dX1_setMoon_6 : decode cX1_setMoon 6 = .ok (.invokestatic 39, 3) := by decide +kernel
theorem dX1_setMoon_9 : decode cX1_setMoon 9 = .ok (.ifCond .eq 41, 3) := by decide +kernel
theorem dX1_setMoon_12 : decode cX1_setMoon 12 = .ok (.iload_n 1, 1) := by decide +kernel
theorem dX1_setMoon_13 : decode cX1_setMoon 13 = .ok (.i2l, 1) := by decide +kernel
theorem dX1_setMoon_14 : decode cX1_setMoon 14 = .ok (.ldc2_w 63, 3) := by decide +kernel
theorem dX1_setMoon_17 : decode cX1_setMoon 17 = .ok (.iload_n 2, 1) := by decide +kernel
theorem dX1_setMoon_18 : decode cX1_setMoon 18 = .ok (.i2l, 1) := by decide +kernel
theorem dX1_setMoon_19 : decode cX1_setMoon 19 = .ok (.lmul, 1) := by decide +kernel
theorem dX1_setMoon_20 : decode cX1_setMoon 20 = .ok (.ldc2_w 61, 3) := by decide +kernel
theorem dX1_setMoon_23 : decode cX1_setMoon 23 = .ok (.iload_n 2, 1) := by decide +kernel
theorem dX1_setMoon_24 : decode cX1_setMoon 24 = .ok (.i2l, 1) := by decide +kernel
theorem dX1_setMoon_25 : decode cX1_setMoon 25 = .ok (.lmul, 1) := by decide +kernel
theorem dX1_setMoon_26 : decode cX1_setMoon 26 = .ok (.invokestatic 39, 3) := by decide +kernel
theorem dX1_setMoon_29 : decode cX1_setMoon 29 = .ok (.ifCond .eq 21, 3) := by decide +kernel
theorem dX1_setMoon_32 : decode cX1_setMoon 32 = .ok (.iload_n 3, 1) := by decide +kernel
theorem dX1_setMoon_33 : decode cX1_setMoon 33 = .ok (.i2l, 1) := by decide +kernel
theorem dX1_setMoon_34 : decode cX1_setMoon 34 = .ok (.ldc2_w 65, 3) := by decide +kernel
theorem dX1_setMoon_37 : decode cX1_setMoon 37 = .ok (.ldc2_w 67, 3) := by decide +kernel
theorem dX1_setMoon_40 : decode cX1_setMoon 40 = .ok (.invokestatic 39, 3) := by decide +kernel
theorem dX1_setMoon_43 : decode cX1_setMoon 43 = .ok (.ifCond .eq 7, 3) := by decide +kernel
theorem dX1_setMoon_46 : decode cX1_setMoon 46 = .ok (.iconst 1, 1) := by decide +kernel
theorem dX1_setMoon_47 : decode cX1_setMoon 47 = .ok (.goto 4, 3) := by decide +kernel
theorem dX1_setMoon_50 : decode cX1_setMoon 50 = .ok (.iconst 0, 1) := by decide +kernel
theorem dX1_setMoon_51 : decode cX1_setMoon 51 = .ok (.istore 4, 2) := by decide +kernel
theorem dX1_setMoon_53 : decode cX1_setMoon 53 = .ok (.aload_n 0, 1) := by decide +kernel
theorem dX1_setMoon_54 : decode cX1_setMoon 54 = .ok (.iload 4, 2) := by decide +kernel
theorem dX1_setMoon_56 : decode cX1_setMoon 56 = .ok (.ifCond .eq 7, 3) := by decide +kernel
theorem dX1_setMoon_59 : decode cX1_setMoon 59 = .ok (.iconst 0, 1) := by decide +kernel
theorem dX1_setMoon_60 : decode cX1_setMoon 60 = .ok (.goto 4, 3) := by decide +kernel
theorem dX1_setMoon_63 : decode cX1_setMoon 63 = .ok (.iconst 1, 1) := by decide +kernel
theorem dX1_setMoon_64 : decode cX1_setMoon 64 = .ok (.invokevirtual 52, 3) := by decide +kernel
theorem dX1_setMoon_67 : decode cX1_setMoon 67 = .ok (.ifCond .eq 18, 3) := by decide +kernel
theorem dX1_setMoon_70 : decode cX1_setMoon 70 = .ok (.aload_n 0, 1) := by decide +kernel
theorem dX1_setMoon_71 : decode cX1_setMoon 71 = .ok (.iload_n 1, 1) := by decide +kernel
theorem dX1_setMoon_72 : decode cX1_setMoon 72 = .ok (.putfield 16, 3) := by decide +kernel
theorem dX1_setMoon_75 : decode cX1_setMoon 75 = .ok (.aload_n 0, 1) := by decide +kernel
theorem dX1_setMoon_76 : decode cX1_setMoon 76 = .ok (.iload_n 2, 1) := by decide +kernel
theorem dX1_setMoon_77 : decode cX1_setMoon 77 = .ok (.putfield 20, 3) := by decide +kernel
theorem dX1_setMoon_80 : decode cX1_setMoon 80 = .ok (.aload_n 0, 1) := by decide +kernel
theorem dX1_setMoon_81 : decode cX1_setMoon 81 = .ok (.iload_n 3, 1) := by decide +kernel
theorem dX1_setMoon_82 : decode cX1_setMoon 82 = .ok (.putfield 69, 3) := by decide +kernel
theorem dX1_setMoon_85 : decode cX1_setMoon 85 = .ok (.return_, 1) := by decide +kernel
set_option maxRecDepth 20000 in
theorem ggX1_setYear_X1_in : GoodIn wsX1_setYear wsX1_in := goodIn_r _ [11] (by decide +kernel) (by decide +kernel)
set_option maxRecDepth 20000 in
theorem gX1_setYear_X1_in : GoodIn wsX1_setYear (va_wsS RX1 39 yX1_in wsX1_in) := goodIn_app (goodIn_of _ (by decide +kernel)) ggX1_setYear_X1_in
set_option maxRecDepth 20000 in
theorem ggX1_setYear_X1_goesWell : GoodIn wsX1_setYear wsX1_goesWell := goodIn_r _ [15, 16, 17, 18, 19, 20, 21, 22, 23, 24, 25, 26, 27, 28, 29] (by decide +kernel) (by decide +kernel)
set_option maxRecDepth 20000 in
theorem gX1_setYear_X1_goesWell : GoodIn wsX1_setYear (wsV RX1 52 RX1 yX1_goesWell wsX1_goesWell) := goodIn_app (goodIn_of _ (by decide +kernel)) ggX1_setYear_X1_goesWell
theorem dX1_setYear_0 : decode cX1_setYear 0 = .ok (.iload_n 1, 1) := by decide +kernel
theorem dX1_setYear_1 : decode cX1_setYear 1 = .ok (.i2l, 1) := by decide +kernel
theorem dX1_setYear_2 : decode cX1_setYear 2 = .ok (.ldc2_w 61, 3) := by decide +kernel
theorem dX1_setYear_5 : decode cX1_setYear 5 = .ok (.ldc2_w 72, 3) := by decide +kernel
theorem dX1_setYear_8 : decode cX1_setYear 8 = .ok (.invokestatic 39, 3) := by decide +kernel
theorem dX1_setYear_11 : decode cX1_setYear 11 = .ok (.ifCond .eq 46, 3) := by decide +kernel
theorem dX1_setYear_14 : decode cX1_setYear 14 = .ok (.iload 4, 2) := by decide +kernel
theorem dX1_setYear_16 : decode cX1_setYear 16 = .ok (.i2l, 1) := by decide +kernel
theorem dX1_setYear_17 : decode cX1_setYear 17 = .ok (.lconst 1, 1) := by decide +kernel
theorem dX1_setYear_18 : decode cX1_setYear 18 = .ok (.ldc2_w 74, 3) := by decide +kernel
theorem dX1_setYear_21 : decode cX1_setYear 21 = .ok (.invokestatic 39, 3) := by decide +kernel
theorem dX1_setYear_24 : decode cX1_setYear 24 = .ok (.ifCond .eq 33, 3) := by decide +kernel
theorem dX1_setYear_27 : decode cX1_setYear 27 = .ok (.iload_n 2, 1) := by decide +kernel
theorem dX1_setYear_28 : decode cX1_setYear 28 = .ok (.i2l, 1) := by decide +kernel
theorem dX1_setYear_29 : decode cX1_setYear 29 = .ok (.lconst 0, 1) := by decide +kernel
theorem dX1_setYear_30 : decode cX1_setYear 30 = .ok (.iload 4, 2) := by decide +kernel
theorem dX1_setYear_32 : decode cX1_setYear 32 = .ok (.i2l, 1) := by decide +kernel
theorem dX1_setYear_33 : decode cX1_setYear 33 = .ok (.invokestatic 39, 3) := by decide +kernel
theorem dX1_setYear_36 : decode cX1_setYear 36 = .ok (.ifCond .eq 21, 3) := by decide +kernel
theorem dX1_setYear_39 : decode cX1_setYear 39 = .ok (.iload_n 3, 1) := by decide +kernel
theorem dX1_setYear_40 : decode cX1_setYear 40 = .ok (.i2l, 1) := by decide +kernel
theorem dX1_setYear_41 : decode cX1_setYear 41 = .ok (.lconst 0, 1) := by decide +kernel
theorem dX1_setYear_42 : decode cX1_setYear 42 = .ok (.iload 4, 2) := by decide +kernel
theorem dX1_setYear_44 : decode cX1_setYear 44 = .ok (.iconst 1, 1) := by decide +kernel
theorem dX1_setYear_45 : decode cX1_setYear 45 = .ok (.isub, 1) := by decide +kernel
theorem dX1_setYear_46 : decode cX1_setYear 46 = .ok (.i2l, 1) := by decide +kernel
theorem dX1_setYear_47 : decode cX1_setYear 47 = .ok (.invokestatic 39, 3) := by decide +kernel
theorem dX1_setYear_50 : decode cX1_setYear 50 = .ok (.ifCond .eq 7, 3) := by decide +kernel
theorem dX1_setYear_53 : decode cX1_setYear 53 = .ok (.iconst 1, 1) := by decide +kernel
theorem dX1_setYear_54 : decode cX1_setYear 54 = .ok (.goto 4, 3) := by decide +kernel
theorem dX1_setYear_57 : decode cX1_setYear 57 = .ok (.iconst 0, 1) := by decide +kernel
theorem dX1_setYear_58 : decode cX1_setYear 58 = .ok (.istore 5, 2) := by decide +kernel
theorem dX1_setYear_60 : decode cX1_setYear 60 = .ok (.aload_n 0, 1) := by decide +kernel
theorem dX1_setYear_61 : decode cX1_setYear 61 = .ok (.iload 5, 2) := by decide +kernel
theorem dX1_setYear_63 : decode cX1_setYear 63 = .ok (.ifCond .eq 7, 3) := by decide +kernel
theorem dX1_setYear_66 : decode cX1_setYear 66 = .ok (.iconst 0, 1) := by decide +kernel
theorem dX1_setYear_67 : decode cX1_setYear 67 = .ok (.goto 4, 3) := by decide +kernel
theorem dX1_setYear_70 : decode cX1_setYear 70 = .ok (.iconst 1, 1) := by decide +kernel
theorem dX1_setYear_71 : decode cX1_setYear 71 = .ok (.invokevirtual 52, 3) := by decide +kernel
theorem dX1_setYear_74 : decode cX1_setYear 74 = .ok (.ifCond .eq 24, 3) := by decide +kernel
theorem dX1_setYear_77 : decode cX1_setYear 77 = .ok (.aload_n 0, 1) := by decide +kernel
theorem dX1_setYear_78 : decode cX1_setYear 78 = .ok (.iload_n 1, 1) := by decide +kernel
theorem dX1_setYear_79 : decode cX1_setYear 79 = .ok (.putfield 23, 3) := by decide +kernel
theorem dX1_setYear_82 : decode cX1_setYear 82 = .ok (.aload_n 0, 1) := by decide +kernel
theorem dX1_setYear_83 : decode cX1_setYear 83 = .ok (.iload_n 2, 1) := by decide +kernel
theorem dX1_setYear_84 : decode cX1_setYear 84 = .ok (.putfield 26, 3) := by decide +kernel
theorem dX1_setYear_87 : decode cX1_setYear 87 = .ok (.aload_n 0, 1) := by decide +kernel
theorem dX1_setYear_88 : decode cX1_setYear 88 = .ok (.iload_n 3, 1) := by decide +kernel
theorem dX1_setYear_89 : decode cX1_setYear 89 = .ok (.putfield 76, 3) := by decide +kernel
theorem dX1_setYear_92 : decode cX1_setYear 92 = .ok (.aload_n 0, 1) := by decide +kernel
theorem dX1_setYear_93 : decode cX1_setYear 93 = .ok (.iload 4, 2) := by decide +kernel
theorem dX1_setYear_95 : decode cX1_setYear 95 = .ok (.putfield 29, 3) := by decide +kernel
theorem dX1_setYear_98 : decode cX1_setYear 98 = .ok (.return_, 1) := by decide +kernel
theorem dX1_markets_0 : decode cX1_markets 0 = .ok (.aload_n 0, 1) := by decide +kernel
theorem dX1_markets_1 : decode cX1_markets 1 = .ok (.iconst 0, 1) := by decide +kernel
theorem dX1_markets_2 : decode cX1_markets 2 = .ok (.putfield 32, 3) := by decide +kernel
theorem dX1_markets_5 : decode cX1_markets 5 = .ok (.aload_n 0, 1) := by decide +kernel
theorem dX1_markets_6 : decode cX1_markets 6 = .ok (.getfield 43, 3) := by decide +kernel
theorem dX1_markets_9 : decode cX1_markets 9 = .ok (.ireturn, 1) := by decide +kernel
set_option maxRecDepth 20000 in
theorem ggX1_holds_X1_modulo : GoodIn wsX1_holds wsX1_modulo := goodIn_r _ [6] (by decide +kernel) (by decide +kernel)
set_option maxRecDepth 20000 in
theorem gX1_holds_X1_modulo : GoodIn wsX1_holds (va_wsS RX1 46 yX1_modulo wsX1_modulo) := goodIn_app (goodIn_of _ (by decide +kernel)) ggX1_holds_X1_modulo
theorem dX1_holds_0 : decode cX1_holds 0 = .ok (.lload_n 2, 1) := by decide +kernel
theorem dX1_holds_1 : decode cX1_holds 1 = .ok (.aload_n 0, 1) := by decide +kernel
theorem dX1_holds_2 : decode cX1_holds 2 = .ok (.getfield 7, 3) := by decide +kernel
theorem dX1_holds_5 : decode cX1_holds 5 = .ok (.iload_n 1, 1) := by decide +kernel
theorem dX1_holds_6 : decode cX1_holds 6 = .ok (.iaload, 1) := by decide +kernel
theorem dX1_holds_7 : decode cX1_holds 7 = .ok (.i2l, 1) := by decide +kernel
theorem dX1_holds_8 : decode cX1_holds 8 = .ok (.invokestatic 46, 3) := by decide +kernel
theorem dX1_holds_11 : decode cX1_holds 11 = .ok (.aload_n 0, 1) := by decide +kernel
theorem dX1_holds_12 : decode cX1_holds 12 = .ok (.getfield 13, 3) := by decide +kernel
theorem dX1_holds_15 : decode cX1_holds 15 = .ok (.iload_n 1, 1) := by decide +kernel
theorem dX1_holds_16 : decode cX1_holds 16 = .ok (.iaload, 1) := by decide +kernel
theorem dX1_holds_17 : decode cX1_holds 17 = .ok (.i2l, 1) := by decide +kernel
theorem dX1_holds_18 : decode cX1_holds 18 = .ok (.lcmp, 1) := by decide +kernel
theorem dX1_holds_19 : decode cX1_holds 19 = .ok (.ifCond .ne 7, 3) := by decide +kernel
theorem dX1_holds_22 : decode cX1_holds 22 = .ok (.iconst 1, 1) := by decide +kernel
theorem dX1_holds_23 : decode cX1_holds 23 = .ok (.goto 4, 3) := by decide +kernel
theorem dX1_holds_26 : decode cX1_holds 26 = .ok (.iconst 0, 1) := by decide +kernel
theorem dX1_holds_27 : decode cX1_holds 27 = .ok (.ireturn, 1) := by decide +kernel
set_option maxRecDepth 20000 in
theorem ggX1_isHeld_X1_isMarket : GoodIn wsX1_isHeld wsX1_isMarket := goodIn_r _ [5, 6, 7, 8, 4, 9, 29, 30, 31, 32, 33, 34, 35, 36, 37, 38, 39, 40, 41] (by decide +kernel) (by decide +kernel)
set_option maxRecDepth 20000 in
theorem gX1_isHeld_X1_isMarket : GoodIn wsX1_isHeld (wsV RX1 56 RX1 yX1_isMarket wsX1_isMarket) := goodIn_app (goodIn_of _ (by decide +kernel)) ggX1_isHeld_X1_isMarket
set_option maxRecDepth 20000 in
theorem ggX1_isHeld_X1_isDay : GoodIn wsX1_isHeld wsX1_isDay := goodIn_r _ [12, 13, 14, 7, 8, 4, 9] (by decide +kernel) (by decide +kernel)
set_option maxRecDepth 20000 in
theorem gX1_isHeld_X1_isDay : GoodIn wsX1_isHeld (va_wsS RX1 79 yX1_isDay wsX1_isDay) := goodIn_app (goodIn_of _ (by decide +kernel)) ggX1_isHeld_X1_isDay
set_option maxRecDepth 20000 in
theorem ggX1_isHeld_X1_goesWell : GoodIn wsX1_isHeld wsX1_goesWell := goodIn_r _ [18, 19, 29, 30, 31, 32, 33, 34, 35, 36, 37, 38, 39, 40, 41] (by decide +kernel) (by decide +kernel)
set_option maxRecDepth 20000 in
theorem gX1_isHeld_X1_goesWell : GoodIn wsX1_isHeld (wsV RX1 52 RX1 yX1_goesWell wsX1_goesWell) := goodIn_app (goodIn_of _ (by decide +kernel)) ggX1_isHeld_X1_goesWell
set_option maxRecDepth 20000 in
theorem ggX1_isHeld_X1_holds : GoodIn wsX1_isHeld wsX1_holds := goodIn_r _ [23, 24, 25, 26, 27, 4, 28, 29, 30, 31, 32, 33, 34, 35, 36, 37, 38, 39, 40, 41] (by decide +kernel) (by decide +kernel)
set_option maxRecDepth 20000 in
theorem gX1_isHeld_X1_holds : GoodIn wsX1_isHeld (wsV RX1 82 RX1 yX1_holds wsX1_holds) := goodIn_app (goodIn_of _ (by decide +kernel)) ggX1_isHeld_X1_holds
theorem dX1_isHeld_0 : decode cX1_isHeld 0 = .ok (.aload_n 0, 1) := by decide +kernel
theorem dX1_isHeld_1 : decode cX1_isHeld 1 = .ok (.aload_n 0, 1) := by decide +kernel
theorem dX1_isHeld_2 : decode cX1_isHeld 2 = .ok (.iload_n 1, 1) := by decide +kernel
theorem dX1_isHeld_3 : decode cX1_isHeld 3 = .ok (.invokevirtual 56, 3) := by decide +kernel
theorem dX1_isHeld_6 : decode cX1_isHeld 6 = .ok (.ifCond .ne 7, 3) := by decide +kernel
theorem dX1_isHeld_9 : decode cX1_isHeld 9 = .ok (.iconst 1, 1) := by decide +kernel
theorem dX1_isHeld_10 : decode cX1_isHeld 10 = .ok (.goto 15, 3) := by decide +kernel
theorem dX1_isHeld_13 : decode cX1_isHeld 13 = .ok (.iload_n 2, 1) := by decide +kernel
theorem dX1_isHeld_14 : decode cX1_isHeld 14 = .ok (.invokestatic 79, 3) := by decide +kernel
theorem dX1_isHeld_17 : decode cX1_isHeld 17 = .ok (.ifCond .eq 7, 3) := by decide +kernel
theorem dX1_isHeld_20 : decode cX1_isHeld 20 = .ok (.iconst 0, 1) := by decide +kernel
theorem dX1_isHeld_21 : decode cX1_isHeld 21 = .ok (.goto 4, 3) := by decide +kernel
theorem dX1_isHeld_24 : decode cX1_isHeld 24 = .ok (.iconst 2, 1) := by decide +kernel
theorem dX1_isHeld_25 : decode cX1_isHeld 25 = .ok (.invokevirtual 52, 3) := by decide +kernel
theorem dX1_isHeld_28 : decode cX1_isHeld 28 = .ok (.ifCond .eq 17, 3) := by decide +kernel
theorem dX1_isHeld_31 : decode cX1_isHeld 31 = .ok (.aload_n 0, 1) := by decide +kernel
theorem dX1_isHeld_32 : decode cX1_isHeld 32 = .ok (.iload_n 1, 1) := by decide +kernel
theorem dX1_isHeld_33 : decode cX1_isHeld 33 = .ok (.iload_n 2, 1) := by decide +kernel
theorem dX1_isHeld_34 : decode cX1_isHeld 34 = .ok (.i2l, 1) := by decide +kernel
theorem dX1_isHeld_35 : decode cX1_isHeld 35 = .ok (.invokevirtual 82, 3) := by decide +kernel
theorem dX1_isHeld_38 : decode cX1_isHeld 38 = .ok (.ifCond .eq 7, 3) := by decide +kernel
theorem dX1_isHeld_41 : decode cX1_isHeld 41 = .ok (.iconst 1, 1) := by decide +kernel
theorem dX1_isHeld_42 : decode cX1_isHeld 42 = .ok (.goto 4, 3) := by decide +kernel
theorem dX1_isHeld_45 : decode cX1_isHeld 45 = .ok (.iconst 0, 1) := by decide +kernel
theorem dX1_isHeld_46 : decode cX1_isHeld 46 = .ok (.ireturn, 1) := by decide +kernel
set_option maxRecDepth 20000 in
theorem ggX1_from_X1_holds : GoodIn wsX1_from wsX1_holds := goodIn_r _ [5, 6, 7, 8, 9, 4, 10, 11, 12, 13, 14, 15, 16, 17, 18, 19, 20, 21, 22, 23] (by decide +kernel) (by decide +kernel)
set_option maxRecDepth 20000 in
theorem gX1_from_X1_holds : GoodIn wsX1_from (wsV RX1 82 RX1 yX1_holds wsX1_holds) := goodIn_app (goodIn_of _ (by decide +kernel)) ggX1_from_X1_holds
theorem dX1_from_0 : decode cX1_from 0 = .ok (.iload_n 2, 1) := by decide +kernel
theorem dX1_from_1 : decode cX1_from 1 = .ok (.istore_n 3, 1) := by decide +kernel
theorem dX1_from_2 : decode cX1_from 2 = .ok (.aload_n 0, 1) := by decide +kernel
theorem dX1_from_3 : decode cX1_from 3 = .ok (.iload_n 1, 1) := by decide +kernel
theorem dX1_from_4 : decode cX1_from 4 = .ok (.iload_n 3, 1) := by decide +kernel
theorem dX1_from_5 : decode cX1_from 5 = .ok (.i2l, 1) := by decide +kernel
theorem dX1_from_6 : decode cX1_from 6 = .ok (.invokevirtual 82, 3) := by decide +kernel
theorem dX1_from_9 : decode cX1_from 9 = .ok (.ifCond .ne 9, 3) := by decide +kernel
theorem dX1_from_12 : decode cX1_from 12 = .ok (.iinc 3 1, 3) := by decide +kernel
theorem dX1_from_15 : decode cX1_from 15 = .ok (.goto (-13), 3) := by decide +kernel
theorem dX1_from_18 : decode cX1_from 18 = .ok (.iload_n 3, 1) := by decide +kernel
theorem dX1_from_19 : decode cX1_from 19 = .ok (.ireturn, 1) := by decide +kernel
set_option maxRecDepth 20000 in
theorem ggX1_next_X1_isMarket : GoodIn wsX1_next wsX1_isMarket := goodIn_r _ [5, 6, 7, 8, 4, 9, 33, 34, 35, 36, 37, 38, 39, 40, 41, 42, 43, 44, 45] (by decide +kernel) (by decide +kernel)
set_option maxRecDepth 20000 in
theorem gX1_next_X1_isMarket : GoodIn wsX1_next (wsV RX1 56 RX1 yX1_isMarket wsX1_isMarket) := goodIn_app (goodIn_of _ (by decide +kernel)) ggX1_next_X1_isMarket
set_option maxRecDepth 20000 in
theorem ggX1_next_X1_isDay : GoodIn wsX1_next wsX1_isDay := goodIn_r _ [12, 13, 14, 7, 8, 4, 9] (by decide +kernel) (by decide +kernel)
set_option maxRecDepth 20000 in
theorem gX1_next_X1_isDay : GoodIn wsX1_next (va_wsS RX1 79 yX1_isDay wsX1_isDay) := goodIn_app (goodIn_of _ (by decide +kernel)) ggX1_next_X1_isDay
set_option maxRecDepth 20000 in
theorem ggX1_next_X1_goesWell : GoodIn wsX1_next wsX1_goesWell := goodIn_r _ [18, 19, 33, 34, 35, 36, 37, 38, 39, 40, 41, 42, 43, 44, 45] (by decide +kernel) (by decide +kernel)
set_option maxRecDepth 20000 in
theorem gX1_next_X1_goesWell : GoodIn wsX1_next (wsV RX1 52 RX1 yX1_goesWell wsX1_goesWell) := goodIn_app (goodIn_of _ (by decide +kernel)) ggX1_next_X1_goesWell
set_option maxRecDepth 20000 in
theorem ggX1_next_X1_from : GoodIn wsX1_next wsX1_from := goodIn_r _ [23, 24, 25, 26, 4, 27, 28, 29, 30, 31, 32, 33, 34, 35, 36, 37, 38, 39, 40, 41, 42, 43, 44, 45] (by decide +kernel) (by decide +kernel)
set_option maxRecDepth 20000 in
theorem gX1_next_X1_from : GoodIn wsX1_next (wsV RX1 86 RX1 yX1_from wsX1_from) := goodIn_app (goodIn_of _ (by decide +kernel)) ggX1_next_X1_from
theorem dX1_next_0 : decode cX1_next 0 = .ok (.aload_n 0, 1) := by decide +kernel
theorem dX1_next_1 : decode cX1_next 1 = .ok (.aload_n 0, 1) := by decide +kernel
theorem dX1_next_2 : decode cX1_next 2 = .ok (.iload_n 1, 1) := by decide +kernel
theorem dX1_next_3 : decode cX1_next 3 = .ok (.invokevirtual 56, 3) := by decide +kernel
theorem dX1_next_6 : decode cX1_next 6 = .ok (.ifCond .ne 7, 3) := by decide +kernel
theorem dX1_next_9 : decode cX1_next 9 = .ok (.iconst 1, 1) := by decide +kernel
theorem dX1_next_10 : decode cX1_next 10 = .ok (.goto 15, 3) := by decide +kernel
theorem dX1_next_13 : decode cX1_next 13 = .ok (.iload_n 2, 1) := by decide +kernel
theorem dX1_next_14 : decode cX1_next 14 = .ok (.invokestatic 79, 3) := by decide +kernel
theorem dX1_next_17 : decode cX1_next 17 = .ok (.ifCond .eq 7, 3) := by decide +kernel
theorem dX1_next_20 : decode cX1_next 20 = .ok (.iconst 0, 1) := by decide +kernel
theorem dX1_next_21 : decode cX1_next 21 = .ok (.goto 4, 3) := by decide +kernel
theorem dX1_next_24 : decode cX1_next 24 = .ok (.iconst 2, 1) := by decide +kernel
theorem dX1_next_25 : decode cX1_next 25 = .ok (.invokevirtual 52, 3) := by decide +kernel
theorem dX1_next_28 : decode cX1_next 28 = .ok (.ifCond .eq 12, 3) := by decide +kernel
theorem dX1_next_31 : decode cX1_next 31 = .ok (.aload_n 0, 1) := by decide +kernel
theorem dX1_next_32 : decode cX1_next 32 = .ok (.iload_n 1, 1) := by decide +kernel
theorem dX1_next_33 : decode cX1_next 33 = .ok (.iload_n 2, 1) := by decide +kernel
theorem dX1_next_34 : decode cX1_next 34 = .ok (.invokevirtual 86, 3) := by decide +kernel
theorem dX1_next_37 : decode cX1_next 37 = .ok (.goto 4, 3) := by decide +kernel
theorem dX1_next_40 : decode cX1_next 40 = .ok (.iconst 0, 1) := by decide +kernel
theorem dX1_next_41 : decode cX1_next 41 = .ok (.ireturn, 1) := by decide +kernel
set_option maxRecDepth 20000 in
theorem ggX1_nearest_X1_isMarket : GoodIn wsX1_nearest wsX1_isMarket := goodIn_r _ [5, 6, 7, 8, 4, 9, 29, 30, 31, 32, 33, 34, 35, 36, 37, 38, 39, 40, 41] (by decide +kernel) (by decide +kernel)
set_option maxRecDepth 20000 in
theorem gX1_nearest_X1_isMarket : GoodIn wsX1_nearest (wsV RX1 56 RX1 yX1_isMarket wsX1_isMarket) := goodIn_app (goodIn_of _ (by decide +kernel)) ggX1_nearest_X1_isMarket
set_option maxRecDepth 20000 in
theorem ggX1_nearest_X1_isDay : GoodIn wsX1_nearest wsX1_isDay := goodIn_r _ [12, 13, 14, 7, 8, 4, 9] (by decide +kernel) (by decide +kernel)
set_option maxRecDepth 20000 in
theorem gX1_nearest_X1_isDay : GoodIn wsX1_nearest (va_wsS RX1 79 yX1_isDay wsX1_isDay) := goodIn_app (goodIn_of _ (by decide +kernel)) ggX1_nearest_X1_isDay
set_option maxRecDepth 20000 in
theorem ggX1_nearest_X1_goesWell : GoodIn wsX1_nearest wsX1_goesWell := goodIn_r _ [18, 19, 29, 30, 31, 32, 33, 34, 35, 36, 37, 38, 39, 40, 41] (by decide +kernel) (by decide +kernel)
set_option maxRecDepth 20000 in
theorem gX1_nearest_X1_goesWell : GoodIn wsX1_nearest (wsV RX1 52 RX1 yX1_goesWell wsX1_goesWell) := goodIn_app (goodIn_of _ (by decide +kernel)) ggX1_nearest_X1_goesWell
set_option maxRecDepth 20000 in
theorem ggX1_nearest_X1_holds : GoodIn wsX1_nearest wsX1_holds := goodIn_r _ [23, 24, 25, 26, 27, 4, 28, 29, 30, 31, 32, 33, 34, 35, 36, 37, 38, 39, 40, 41] (by decide +kernel) (by decide +kernel)
set_option maxRecDepth 20000 in
theorem gX1_nearest_X1_holds : GoodIn wsX1_nearest (wsV RX1 82 RX1 yX1_holds wsX1_holds) := goodIn_app (goodIn_of _ (by decide +kernel)) ggX1_nearest_X1_holds
theorem dX1_nearest_0 : decode cX1_nearest 0 = .ok (.aload_n 0, 1) := by decide +kernel
theorem dX1_nearest_1 : decode cX1_nearest 1 = .ok (.aload_n 0, 1) := by decide +kernel
theorem dX1_nearest_2 : decode cX1_nearest 2 = .ok (.iload_n 1, 1) := by decide +kernel
theorem dX1_nearest_3 : decode cX1_nearest 3 = .ok (.invokevirtual 56, 3) := by decide +kernel
theorem dX1_nearest_6 : decode cX1_nearest 6 = .ok (.ifCond .ne 7, 3) := by decide +kernel
theorem dX1_nearest_9 : decode cX1_nearest 9 = .ok (.iconst 1, 1) := by decide +kernel
theorem dX1_nearest_10 : decode cX1_nearest 10 = .ok (.goto 15, 3) := by decide +kernel
theorem dX1_nearest_13 : decode cX1_nearest 13 = .ok (.iload_n 2, 1) := by decide +kernel
theorem dX1_nearest_14 : decode cX1_nearest 14 = .ok (.invokestatic 79, 3) := by decide +kernel
theorem dX1_nearest_17 : decode cX1_nearest 17 = .ok (.ifCond .eq 7, 3) := by decide +kernel
theorem dX1_nearest_20 : decode cX1_nearest 20 = .ok (.iconst 0, 1) := by decide +kernel
theorem dX1_nearest_21 : decode cX1_nearest 21 = .ok (.goto 4, 3) := by decide +kernel
theorem dX1_nearest_24 : decode cX1_nearest 24 = .ok (.iconst 2, 1) := by decide +kernel
theorem dX1_nearest_25 : decode cX1_nearest 25 = .ok (.invokevirtual 52, 3) := by decide +kernel
theorem dX1_nearest_28 : decode cX1_nearest 28 = .ok (.ifCond .ne 5, 3) := by decide +kernel
theorem dX1_nearest_31 : decode cX1_nearest 31 = .ok (.iconst 0, 1) := by decide +kernel
theorem dX1_nearest_32 : decode cX1_nearest 32 = .ok (.ireturn, 1) := by decide +kernel
theorem dX1_nearest_33 : decode cX1_nearest 33 = .ok (.iconst 0, 1) := by decide +kernel
theorem dX1_nearest_34 : decode cX1_nearest 34 = .ok (.istore_n 3, 1) := by decide +kernel
theorem dX1_nearest_35 : decode cX1_nearest 35 = .ok (.aload_n 0, 1) := by decide +kernel
theorem dX1_nearest_36 : decode cX1_nearest 36 = .ok (.iload_n 1, 1) := by decide +kernel
theorem dX1_nearest_37 : decode cX1_nearest 37 = .ok (.iload_n 2, 1) := by decide +kernel
theorem dX1_nearest_38 : decode cX1_nearest 38 = .ok (.iload_n 3, 1) := by decide +kernel
theorem dX1_nearest_39 : decode cX1_nearest 39 = .ok (.isub, 1) := by decide +kernel
theorem dX1_nearest_40 : decode cX1_nearest 40 = .ok (.i2l, 1) := by decide +kernel
theorem dX1_nearest_41 : decode cX1_nearest 41 = .ok (.invokevirtual 82, 3) := by decide +kernel
theorem dX1_nearest_44 : decode cX1_nearest 44 = .ok (.ifCond .ne 21, 3) := by decide +kernel
theorem dX1_nearest_47 : decode cX1_nearest 47 = .ok (.aload_n 0, 1) := by decide +kernel
theorem dX1_nearest_48 : decode cX1_nearest 48 = .ok (.iload_n 1, 1) := by decide +kernel
theorem dX1_nearest_49 : decode cX1_nearest 49 = .ok (.iload_n 2, 1) := by decide +kernel
theorem dX1_nearest_50 : decode cX1_nearest 50 = .ok (.iload_n 3, 1) := by decide +kernel
theorem dX1_nearest_51 : decode cX1_nearest 51 = .ok (.iadd, 1) := by decide +kernel
theorem dX1_nearest_52 : decode cX1_nearest 52 = .ok (.i2l, 1) := by decide +kernel
theorem dX1_nearest_53 : decode cX1_nearest 53 = .ok (.invokevirtual 82, 3) := by decide +kernel
theorem dX1_nearest_56 : decode cX1_nearest 56 = .ok (.ifCond .ne 9, 3) := by decide +kernel
theorem dX1_nearest_59 : decode cX1_nearest 59 = .ok (.iinc 3 1, 3) := by decide +kernel
theorem dX1_nearest_62 : decode cX1_nearest 62 = .ok (.goto (-27), 3) := by decide +kernel
theorem dX1_nearest_65 : decode cX1_nearest 65 = .ok (.aload_n 0, 1) := by decide +kernel
theorem dX1_nearest_66 : decode cX1_nearest 66 = .ok (.iload_n 1, 1) := by decide +kernel
theorem dX1_nearest_67 : decode cX1_nearest 67 = .ok (.iload_n 2, 1) := by decide +kernel
theorem dX1_nearest_68 : decode cX1_nearest 68 = .ok (.iload_n 3, 1) := by decide +kernel
theorem dX1_nearest_69 : decode cX1_nearest 69 = .ok (.isub, 1) := by decide +kernel
theorem dX1_nearest_70 : decode cX1_nearest 70 = .ok (.i2l, 1) := by decide +kernel
theorem dX1_nearest_71 : decode cX1_nearest 71 = .ok (.invokevirtual 82, 3) := by decide +kernel
theorem dX1_nearest_74 : decode cX1_nearest 74 = .ok (.ifCond .eq 9, 3) := by decide +kernel
theorem dX1_nearest_77 : decode cX1_nearest 77 = .ok (.iload_n 2, 1) := by decide +kernel
theorem dX1_nearest_78 : decode cX1_nearest 78 = .ok (.iload_n 3, 1) := by decide +kernel
theorem dX1_nearest_79 : decode cX1_nearest 79 = .ok (.isub, 1) := by decide +kernel
theorem dX1_nearest_80 : decode cX1_nearest 80 = .ok (.goto 6, 3) := by decide +kernel
theorem dX1_nearest_83 : decode cX1_nearest 83 = .ok (.iload_n 2, 1) := by decide +kernel
theorem dX1_nearest_84 : decode cX1_nearest 84 = .ok (.iload_n 3, 1) := by decide +kernel
theorem dX1_nearest_85 : decode cX1_nearest 85 = .ok (.iadd, 1) := by decide +kernel
theorem dX1_nearest_86 : decode cX1_nearest 86 = .ok (.ireturn, 1) := by decide +kernel
set_option maxRecDepth 20000 in
theorem ggX1_before_X1_part : GoodIn wsX1_before wsX1_part := goodIn_r _ [6, 7, 8, 5, 9] (by decide +kernel) (by decide +kernel)
set_option maxRecDepth 20000 in
theorem gX1_before_X1_part : GoodIn wsX1_before (va_wsS RX1 90 yX1_part wsX1_part) := goodIn_app (goodIn_of _ (by decide +kernel)) ggX1_before_X1_part
theorem dX1_before_0 : decode cX1_before 0 = .ok (.lload_n 2, 1) := by decide +kernel
theorem dX1_before_1 : decode cX1_before 1 = .ok (.aload_n 0, 1) := by decide +kernel
theorem dX1_before_2 : decode cX1_before 2 = .ok (.getfield 13, 3) := by decide +kernel
theorem dX1_before_5 : decode cX1_before 5 = .ok (.iload_n 1, 1) := by decide +kernel
theorem dX1_before_6 : decode cX1_before 6 = .ok (.iaload, 1) := by decide +kernel
theorem dX1_before_7 : decode cX1_before 7 = .ok (.i2l, 1) := by decide +kernel
theorem dX1_before_8 : decode cX1_before 8 = .ok (.lsub, 1) := by decide +kernel
theorem dX1_before_9 : decode cX1_before 9 = .ok (.aload_n 0, 1) := by decide +kernel
theorem dX1_before_10 : decode cX1_before 10 = .ok (.getfield 7, 3) := by decide +kernel
theorem dX1_before_13 : decode cX1_before 13 = .ok (.iload_n 1, 1) := by decide +kernel
theorem dX1_before_14 : decode cX1_before 14 = .ok (.iaload, 1) := by decide +kernel
theorem dX1_before_15 : decode cX1_before 15 = .ok (.i2l, 1) := by decide +kernel
theorem dX1_before_16 : decode cX1_before 16 = .ok (.ladd, 1) := by decide +kernel
theorem dX1_before_17 : decode cX1_before 17 = .ok (.lconst 1, 1) := by decide +kernel
theorem dX1_before_18 : decode cX1_before 18 = .ok (.lsub, 1) := by decide +kernel
theorem dX1_before_19 : decode cX1_before 19 = .ok (.aload_n 0, 1) := by decide +kernel
theorem dX1_before_20 : decode cX1_before 20 = .ok (.getfield 7, 3) := by decide +kernel
theorem dX1_before_23 : decode cX1_before 23 = .ok (.iload_n 1, 1) := by decide +kernel
theorem dX1_before_24 : decode cX1_before 24 = .ok (.iaload, 1) := by decide +kernel
theorem dX1_before_25 : decode cX1_before 25 = .ok (.i2l, 1) := by decide +kernel
theorem dX1_before_26 : decode cX1_before 26 = .ok (.invokestatic 90, 3) := by decide +kernel
theorem dX1_before_29 : decode cX1_before 29 = .ok (.lreturn, 1) := by decide +kernel
set_option maxRecDepth 20000 in
theorem ggX1_count_X1_before : GoodIn wsX1_count wsX1_before := goodIn_r _ [5, 6, 7, 8, 9, 4, 10, 11, 12, 13, 14, 15, 16, 17, 18, 19, 20, 21, 22, 23, 24, 25, 26] (by decide +kernel) (by decide +kernel)
set_option maxRecDepth 20000 in
theorem gX1_count_X1_before : GoodIn wsX1_count (wsV RX1 93 RX1 yX1_before wsX1_before) := goodIn_app (goodIn_of _ (by decide +kernel)) ggX1_count_X1_before
theorem dX1_count_0 : decode cX1_count 0 = .ok (.aload_n 0, 1) := by decide +kernel
theorem dX1_count_1 : decode cX1_count 1 = .ok (.iload_n 1, 1) := by decide +kernel
theorem dX1_count_2 : decode cX1_count 2 = .ok (.lload 4, 2) := by decide +kernel
theorem dX1_count_4 : decode cX1_count 4 = .ok (.lconst 1, 1) := by decide +kernel
theorem dX1_count_5 : decode cX1_count 5 = .ok (.ladd, 1) := by decide +kernel
theorem dX1_count_6 : decode cX1_count 6 = .ok (.invokevirtual 93, 3) := by decide +kernel
theorem dX1_count_9 : decode cX1_count 9 = .ok (.aload_n 0, 1) := by decide +kernel
theorem dX1_count_10 : decode cX1_count 10 = .ok (.iload_n 1, 1) := by decide +kernel
theorem dX1_count_11 : decode cX1_count 11 = .ok (.lload_n 2, 1) := by decide +kernel
theorem dX1_count_12 : decode cX1_count 12 = .ok (.invokevirtual 93, 3) := by decide +kernel
theorem dX1_count_15 : decode cX1_count 15 = .ok (.lsub, 1) := by decide +kernel
theorem dX1_count_16 : decode cX1_count 16 = .ok (.l2i, 1) := by decide +kernel
theorem dX1_count_17 : decode cX1_count 17 = .ok (.ireturn, 1) := by decide +kernel
set_option maxRecDepth 20000 in
theorem ggX1_times_X1_isDay : GoodIn wsX1_times wsX1_isDay := goodIn_r _ [4, 5, 6, 7, 8, 3, 9] (by decide +kernel) (by decide +kernel)
set_option maxRecDepth 20000 in
theorem gX1_times_X1_isDay : GoodIn wsX1_times (va_wsS RX1 79 yX1_isDay wsX1_isDay) := goodIn_app (goodIn_of _ (by decide +kernel)) ggX1_times_X1_isDay
set_option maxRecDepth 20000 in
theorem ggX1_times_X1_isMarket : GoodIn wsX1_times wsX1_isMarket := goodIn_r _ [13, 14, 7, 8, 3, 9, 36, 37, 38, 39, 40, 41, 42, 43, 44, 45, 46, 47, 48] (by decide +kernel) (by decide +kernel)
set_option maxRecDepth 20000 in
theorem gX1_times_X1_isMarket : GoodIn wsX1_times (wsV RX1 56 RX1 yX1_isMarket wsX1_isMarket) := goodIn_app (goodIn_of _ (by decide +kernel)) ggX1_times_X1_isMarket
set_option maxRecDepth 20000 in
theorem ggX1_times_X1_goesWell : GoodIn wsX1_times wsX1_goesWell := goodIn_r _ [18, 19, 36, 37, 38, 39, 40, 41, 42, 43, 44, 45, 46, 47, 48] (by decide +kernel) (by decide +kernel)
set_option maxRecDepth 20000 in
theorem gX1_times_X1_goesWell : GoodIn wsX1_times (wsV RX1 52 RX1 yX1_goesWell wsX1_goesWell) := goodIn_app (goodIn_of _ (by decide +kernel)) ggX1_times_X1_goesWell
set_option maxRecDepth 20000 in
theorem ggX1_times_X1_count : GoodIn wsX1_times wsX1_count := goodIn_r _ [23, 24, 25, 26, 3, 27, 28, 29, 30, 31, 32, 33, 34, 35, 36, 37, 38, 39, 40, 41, 42, 43, 44, 45, 46, 47, 48] (by decide +kernel) (by decide +kernel)
set_option maxRecDepth 20000 in
theorem gX1_times_X1_count : GoodIn wsX1_times (wsV RX1 97 RX1 yX1_count wsX1_count) := goodIn_app (goodIn_of _ (by decide +kernel)) ggX1_times_X1_count
theorem dX1_times_0 : decode cX1_times 0 = .ok (.iload_n 2, 1) := by decide +kernel
theorem dX1_times_1 : decode cX1_times 1 = .ok (.invokestatic 79, 3) := by decide +kernel
theorem dX1_times_4 : decode cX1_times 4 = .ok (.ifCond .eq 19, 3) := by decide +kernel
theorem dX1_times_7 : decode cX1_times 7 = .ok (.iload_n 3, 1) := by decide +kernel
theorem dX1_times_8 : decode cX1_times 8 = .ok (.invokestatic 79, 3) := by decide +kernel
theorem dX1_times_11 : decode cX1_times 11 = .ok (.ifCond .eq 12, 3) := by decide +kernel
theorem dX1_times_14 : decode cX1_times 14 = .ok (.iload_n 2, 1) := by decide +kernel
theorem dX1_times_15 : decode cX1_times 15 = .ok (.iload_n 3, 1) := by decide +kernel
theorem dX1_times_16 : decode cX1_times 16 = .ok (.if_icmp .gt 7, 3) := by decide +kernel
theorem dX1_times_19 : decode cX1_times 19 = .ok (.iconst 1, 1) := by decide +kernel
theorem dX1_times_20 : decode cX1_times 20 = .ok (.goto 4, 3) := by decide +kernel
theorem dX1_times_23 : decode cX1_times 23 = .ok (.iconst 0, 1) := by decide +kernel
theorem dX1_times_24 : decode cX1_times 24 = .ok (.istore 4, 2) := by decide +kernel
theorem dX1_times_26 : decode cX1_times 26 = .ok (.aload_n 0, 1) := by decide +kernel
theorem dX1_times_27 : decode cX1_times 27 = .ok (.aload_n 0, 1) := by decide +kernel
theorem dX1_times_28 : decode cX1_times 28 = .ok (.iload_n 1, 1) := by decide +kernel
theorem dX1_times_29 : decode cX1_times 29 = .ok (.invokevirtual 56, 3) := by decide +kernel
theorem dX1_times_32 : decode cX1_times 32 = .ok (.ifCond .ne 7, 3) := by decide +kernel
theorem dX1_times_35 : decode cX1_times 35 = .ok (.iconst 1, 1) := by decide +kernel
theorem dX1_times_36 : decode cX1_times 36 = .ok (.goto 13, 3) := by decide +kernel
theorem dX1_times_39 : decode cX1_times 39 = .ok (.iload 4, 2) := by decide +kernel
theorem dX1_times_41 : decode cX1_times 41 = .ok (.ifCond .eq 7, 3) := by decide +kernel
theorem dX1_times_44 : decode cX1_times 44 = .ok (.iconst 0, 1) := by decide +kernel
theorem dX1_times_45 : decode cX1_times 45 = .ok (.goto 4, 3) := by decide +kernel
theorem dX1_times_48 : decode cX1_times 48 = .ok (.iconst 2, 1) := by decide +kernel
theorem dX1_times_49 : decode cX1_times 49 = .ok (.invokevirtual 52, 3) := by decide +kernel
theorem dX1_times_52 : decode cX1_times 52 = .ok (.ifCond .eq 15, 3) := by decide +kernel
theorem dX1_times_55 : decode cX1_times 55 = .ok (.aload_n 0, 1) := by decide +kernel
theorem dX1_times_56 : decode cX1_times 56 = .ok (.iload_n 1, 1) := by decide +kernel
theorem dX1_times_57 : decode cX1_times 57 = .ok (.iload_n 2, 1) := by decide +kernel
theorem dX1_times_58 : decode cX1_times 58 = .ok (.i2l, 1) := by decide +kernel
theorem dX1_times_59 : decode cX1_times 59 = .ok (.iload_n 3, 1) := by decide +kernel
theorem dX1_times_60 : decode cX1_times 60 = .ok (.i2l, 1) := by decide +kernel
theorem dX1_times_61 : decode cX1_times 61 = .ok (.invokevirtual 97, 3) := by decide +kernel
theorem dX1_times_64 : decode cX1_times 64 = .ok (.goto 4, 3) := by decide +kernel
theorem dX1_times_67 : decode cX1_times 67 = .ok (.iconst 0, 1) := by decide +kernel
theorem dX1_times_68 : decode cX1_times 68 = .ok (.ireturn, 1) := by decide +kernel
set_option maxRecDepth 20000 in
theorem ggX1_held_X1_holds : GoodIn wsX1_held wsX1_holds := goodIn_r _ [6, 7, 8, 9, 10, 5, 11, 12, 13, 14, 15, 16, 17, 18, 19, 20, 21, 22, 23, 24] (by decide +kernel) (by decide +kernel)
set_option maxRecDepth 20000 in
theorem gX1_held_X1_holds : GoodIn wsX1_held (wsV RX1 82 RX1 yX1_holds wsX1_holds) := goodIn_app (goodIn_of _ (by decide +kernel)) ggX1_held_X1_holds
theorem dX1_held_0 : decode cX1_held 0 = .ok (.iconst 0, 1) := by decide +kernel
theorem dX1_held_1 : decode cX1_held 1 = .ok (.istore_n 2, 1) := by decide +kernel
theorem dX1_held_2 : decode cX1_held 2 = .ok (.iconst 0, 1) := by decide +kernel
theorem dX1_held_3 : decode cX1_held 3 = .ok (.istore_n 3, 1) := by decide +kernel
theorem dX1_held_4 : decode cX1_held 4 = .ok (.iload_n 3, 1) := by decide +kernel
theorem dX1_held_5 : decode cX1_held 5 = .ok (.aload_n 0, 1) := by decide +kernel
theorem dX1_held_6 : decode cX1_held 6 = .ok (.getfield 43, 3) := by decide +kernel
theorem dX1_held_9 : decode cX1_held 9 = .ok (.if_icmp .ge 29, 3) := by decide +kernel
theorem dX1_held_12 : decode cX1_held 12 = .ok (.iload_n 2, 1) := by decide +kernel
theorem dX1_held_13 : decode cX1_held 13 = .ok (.aload_n 0, 1) := by decide +kernel
theorem dX1_held_14 : decode cX1_held 14 = .ok (.iload_n 3, 1) := by decide +kernel
theorem dX1_held_15 : decode cX1_held 15 = .ok (.iload_n 1, 1) := by decide +kernel
theorem dX1_held_16 : decode cX1_held 16 = .ok (.i2l, 1) := by decide +kernel
theorem dX1_held_17 : decode cX1_held 17 = .ok (.invokevirtual 82, 3) := by decide +kernel
theorem dX1_held_20 : decode cX1_held 20 = .ok (.ifCond .eq 9, 3) := by decide +kernel
theorem dX1_held_23 : decode cX1_held 23 = .ok (.iconst 1, 1) := by decide +kernel
theorem dX1_held_24 : decode cX1_held 24 = .ok (.iload_n 3, 1) := by decide +kernel
theorem dX1_held_25 : decode cX1_held 25 = .ok (.ishl, 1) := by decide +kernel
theorem dX1_held_26 : decode cX1_held 26 = .ok (.goto 4, 3) := by decide +kernel
theorem dX1_held_29 : decode cX1_held 29 = .ok (.iconst 0, 1) := by decide +kernel
theorem dX1_held_30 : decode cX1_held 30 = .ok (.ior, 1) := by decide +kernel
theorem dX1_held_31 : decode cX1_held 31 = .ok (.istore_n 2, 1) := by decide +kernel
theorem dX1_held_32 : decode cX1_held 32 = .ok (.iinc 3 1, 3) := by decide +kernel
theorem dX1_held_35 : decode cX1_held 35 = .ok (.goto (-31), 3) := by decide +kernel
theorem dX1_held_38 : decode cX1_held 38 = .ok (.iload_n 2, 1) := by decide +kernel
theorem dX1_held_39 : decode cX1_held 39 = .ok (.ireturn, 1) := by decide +kernel
set_option maxRecDepth 20000 in
theorem ggX1_heldOn_X1_isDay : GoodIn wsX1_heldOn wsX1_isDay := goodIn_r _ [4, 5, 6, 7, 8, 3, 9] (by decide +kernel) (by decide +kernel)
set_option maxRecDepth 20000 in
theorem gX1_heldOn_X1_isDay : GoodIn wsX1_heldOn (va_wsS RX1 79 yX1_isDay wsX1_isDay) := goodIn_app (goodIn_of _ (by decide +kernel)) ggX1_heldOn_X1_isDay
set_option maxRecDepth 20000 in
theorem ggX1_heldOn_X1_goesWell : GoodIn wsX1_heldOn wsX1_goesWell := goodIn_r _ [13, 14, 29, 30, 31, 32, 33, 34, 35, 36, 37, 38, 39, 40, 41] (by decide +kernel) (by decide +kernel)
set_option maxRecDepth 20000 in
theorem gX1_heldOn_X1_goesWell : GoodIn wsX1_heldOn (wsV RX1 52 RX1 yX1_goesWell wsX1_goesWell) := goodIn_app (goodIn_of _ (by decide +kernel)) ggX1_heldOn_X1_goesWell
set_option maxRecDepth 20000 in
theorem ggX1_heldOn_X1_held : GoodIn wsX1_heldOn wsX1_held := goodIn_r _ [18, 19, 20, 21, 22, 3, 23, 24, 25, 26, 27, 28, 29, 30, 31, 32, 33, 34, 35, 36, 37, 38, 39, 40, 41] (by decide +kernel) (by decide +kernel)
set_option maxRecDepth 20000 in
theorem gX1_heldOn_X1_held : GoodIn wsX1_heldOn (wsV RX1 101 RX1 yX1_held wsX1_held) := goodIn_app (goodIn_of _ (by decide +kernel)) ggX1_heldOn_X1_held
theorem dX1_heldOn_0 : decode cX1_heldOn 0 = .ok (.aload_n 0, 1) := by decide +kernel
theorem dX1_heldOn_1 : decode cX1_heldOn 1 = .ok (.iload_n 1, 1) := by decide +kernel
theorem dX1_heldOn_2 : decode cX1_heldOn 2 = .ok (.invokestatic 79, 3) := by decide +kernel
theorem dX1_heldOn_5 : decode cX1_heldOn 5 = .ok (.ifCond .eq 7, 3) := by decide +kernel
theorem dX1_heldOn_8 : decode cX1_heldOn 8 = .ok (.iconst 0, 1) := by decide +kernel
theorem dX1_heldOn_9 : decode cX1_heldOn 9 = .ok (.goto 4, 3) := by decide +kernel
theorem dX1_heldOn_12 : decode cX1_heldOn 12 = .ok (.iconst 1, 1) := by decide +kernel
theorem dX1_heldOn_13 : decode cX1_heldOn 13 = .ok (.invokevirtual 52, 3) := by decide +kernel
theorem dX1_heldOn_16 : decode cX1_heldOn 16 = .ok (.ifCond .eq 11, 3) := by decide +kernel
theorem dX1_heldOn_19 : decode cX1_heldOn 19 = .ok (.aload_n 0, 1) := by decide +kernel
theorem dX1_heldOn_20 : decode cX1_heldOn 20 = .ok (.iload_n 1, 1) := by decide +kernel
theorem dX1_heldOn_21 : decode cX1_heldOn 21 = .ok (.invokevirtual 101, 3) := by decide +kernel
theorem dX1_heldOn_24 : decode cX1_heldOn 24 = .ok (.goto 4, 3) := by decide +kernel
theorem dX1_heldOn_27 : decode cX1_heldOn 27 = .ok (.iconst 0, 1) := by decide +kernel
theorem dX1_heldOn_28 : decode cX1_heldOn 28 = .ok (.ireturn, 1) := by decide +kernel
theorem dX1_sizeOf_0 : decode cX1_sizeOf 0 = .ok (.iconst 0, 1) := by decide +kernel
theorem dX1_sizeOf_1 : decode cX1_sizeOf 1 = .ok (.istore_n 1, 1) := by decide +kernel
theorem dX1_sizeOf_2 : decode cX1_sizeOf 2 = .ok (.iconst 0, 1) := by decide +kernel
theorem dX1_sizeOf_3 : decode cX1_sizeOf 3 = .ok (.istore_n 2, 1) := by decide +kernel
theorem dX1_sizeOf_4 : decode cX1_sizeOf 4 = .ok (.iload_n 2, 1) := by decide +kernel
theorem dX1_sizeOf_5 : decode cX1_sizeOf 5 = .ok (.bipush 32, 2) := by decide +kernel
theorem dX1_sizeOf_7 : decode cX1_sizeOf 7 = .ok (.if_icmp .ge 17, 3) := by decide +kernel
theorem dX1_sizeOf_10 : decode cX1_sizeOf 10 = .ok (.iload_n 1, 1) := by decide +kernel
theorem dX1_sizeOf_11 : decode cX1_sizeOf 11 = .ok (.iload_n 0, 1) := by decide +kernel
theorem dX1_sizeOf_12 : decode cX1_sizeOf 12 = .ok (.iload_n 2, 1) := by decide +kernel
theorem dX1_sizeOf_13 : decode cX1_sizeOf 13 = .ok (.ishr, 1) := by decide +kernel
theorem dX1_sizeOf_14 : decode cX1_sizeOf 14 = .ok (.iconst 1, 1) := by decide +kernel
theorem dX1_sizeOf_15 : decode cX1_sizeOf 15 = .ok (.iand, 1) := by decide +kernel
theorem dX1_sizeOf_16 : decode cX1_sizeOf 16 = .ok (.iadd, 1) := by decide +kernel
theorem dX1_sizeOf_17 : decode cX1_sizeOf 17 = .ok (.istore_n 1, 1) := by decide +kernel
theorem dX1_sizeOf_18 : decode cX1_sizeOf 18 = .ok (.iinc 2 1, 3) := by decide +kernel
theorem dX1_sizeOf_21 : decode cX1_sizeOf 21 = .ok (.goto (-17), 3) := by decide +kernel
theorem dX1_sizeOf_24 : decode cX1_sizeOf 24 = .ok (.iload_n 1, 1) := by decide +kernel
theorem dX1_sizeOf_25 : decode cX1_sizeOf 25 = .ok (.ireturn, 1) := by decide +kernel
set_option maxRecDepth 20000 in
theorem ggX1_faultOf_X1_sizeOf : GoodIn wsX1_faultOf wsX1_sizeOf := goodIn_r _ [6] (by decide +kernel) (by decide +kernel)
set_option maxRecDepth 20000 in
theorem gX1_faultOf_X1_sizeOf : GoodIn wsX1_faultOf (va_wsS RX1 105 yX1_sizeOf wsX1_sizeOf) := goodIn_app (goodIn_of _ (by decide +kernel)) ggX1_faultOf_X1_sizeOf
set_option maxRecDepth 20000 in
theorem ggX1_faultOf_X1_in : GoodIn wsX1_faultOf wsX1_in := goodIn_r _ [9] (by decide +kernel) (by decide +kernel)
set_option maxRecDepth 20000 in
theorem gX1_faultOf_X1_in : GoodIn wsX1_faultOf (va_wsS RX1 39 yX1_in wsX1_in) := goodIn_app (goodIn_of _ (by decide +kernel)) ggX1_faultOf_X1_in
theorem dX1_faultOf_0 : decode cX1_faultOf 0 = .ok (.iload_n 1, 1) := by decide +kernel
theorem dX1_faultOf_1 : decode cX1_faultOf 1 = .ok (.invokestatic 105, 3) := by decide +kernel
theorem dX1_faultOf_4 : decode cX1_faultOf 4 = .ok (.i2l, 1) := by decide +kernel
theorem dX1_faultOf_5 : decode cX1_faultOf 5 = .ok (.lconst 1, 1) := by decide +kernel
theorem dX1_faultOf_6 : decode cX1_faultOf 6 = .ok (.ldc2_w 108, 3) := by decide +kernel
theorem dX1_faultOf_9 : decode cX1_faultOf 9 = .ok (.invokestatic 39, 3) := by decide +kernel
theorem dX1_faultOf_12 : decode cX1_faultOf 12 = .ok (.ifCond .ne 7, 3) := by decide +kernel
theorem dX1_faultOf_15 : decode cX1_faultOf 15 = .ok (.iconst 1, 1) := by decide +kernel
theorem dX1_faultOf_16 : decode cX1_faultOf 16 = .ok (.goto 17, 3) := by decide +kernel
theorem dX1_faultOf_19 : decode cX1_faultOf 19 = .ok (.iload_n 1, 1) := by decide +kernel
theorem dX1_faultOf_20 : decode cX1_faultOf 20 = .ok (.aload_n 0, 1) := by decide +kernel
theorem dX1_faultOf_21 : decode cX1_faultOf 21 = .ok (.getfield 43, 3) := by decide +kernel
theorem dX1_faultOf_24 : decode cX1_faultOf 24 = .ok (.iushr, 1) := by decide +kernel
theorem dX1_faultOf_25 : decode cX1_faultOf 25 = .ok (.ifCond .eq 7, 3) := by decide +kernel
theorem dX1_faultOf_28 : decode cX1_faultOf 28 = .ok (.iconst 2, 1) := by decide +kernel
theorem dX1_faultOf_29 : decode cX1_faultOf 29 = .ok (.goto 4, 3) := by decide +kernel
theorem dX1_faultOf_32 : decode cX1_faultOf 32 = .ok (.iconst 0, 1) := by decide +kernel
theorem dX1_faultOf_33 : decode cX1_faultOf 33 = .ok (.ireturn, 1) := by decide +kernel
set_option maxRecDepth 20000 in
theorem ggX1_find_X1_holds : GoodIn wsX1_find wsX1_holds := goodIn_r _ [9, 4, 10, 11, 12, 8, 13, 14, 15, 16, 17, 18, 19, 20, 21, 22, 23, 24, 25, 26] (by decide +kernel) (by decide +kernel)
set_option maxRecDepth 20000 in
theorem gX1_find_X1_holds : GoodIn wsX1_find (wsV RX1 82 RX1 yX1_holds wsX1_holds) := goodIn_app (goodIn_of _ (by decide +kernel)) ggX1_find_X1_holds
theorem dX1_find_0 : decode cX1_find 0 = .ok (.aload_n 0, 1) := by decide +kernel
theorem dX1_find_1 : decode cX1_find 1 = .ok (.iload_n 2, 1) := by decide +kernel
theorem dX1_find_2 : decode cX1_find 2 = .ok (.i2l, 1) := by decide +kernel
theorem dX1_find_3 : decode cX1_find 3 = .ok (.putfield 110, 3) := by decide +kernel
theorem dX1_find_6 : decode cX1_find 6 = .ok (.aload_n 0, 1) := by decide +kernel
theorem dX1_find_7 : decode cX1_find 7 = .ok (.lconst 1, 1) := by decide +kernel
theorem dX1_find_8 : decode cX1_find 8 = .ok (.putfield 114, 3) := by decide +kernel
theorem dX1_find_11 : decode cX1_find 11 = .ok (.iconst 0, 1) := by decide +kernel
theorem dX1_find_12 : decode cX1_find 12 = .ok (.istore_n 3, 1) := by decide +kernel
theorem dX1_find_13 : decode cX1_find 13 = .ok (.iload_n 3, 1) := by decide +kernel
theorem dX1_find_14 : decode cX1_find 14 = .ok (.aload_n 0, 1) := by decide +kernel
theorem dX1_find_15 : decode cX1_find 15 = .ok (.getfield 43, 3) := by decide +kernel
theorem dX1_find_18 : decode cX1_find 18 = .ok (.if_icmp .ge 116, 3) := by decide +kernel
theorem dX1_find_21 : decode cX1_find 21 = .ok (.iload_n 1, 1) := by decide +kernel
theorem dX1_find_22 : decode cX1_find 22 = .ok (.iload_n 3, 1) := by decide +kernel
theorem dX1_find_23 : decode cX1_find 23 = .ok (.ishr, 1) := by decide +kernel
theorem dX1_find_24 : decode cX1_find 24 = .ok (.iconst 1, 1) := by decide +kernel
theorem dX1_find_25 : decode cX1_find 25 = .ok (.iand, 1) := by decide +kernel
theorem dX1_find_26 : decode cX1_find 26 = .ok (.iconst 1, 1) := by decide +kernel
theorem dX1_find_27 : decode cX1_find 27 = .ok (.if_icmp .ne 101, 3) := by decide +kernel
theorem dX1_find_30 : decode cX1_find 30 = .ok (.iconst 0, 1) := by decide +kernel
theorem dX1_find_31 : decode cX1_find 31 = .ok (.istore 4, 2) := by decide +kernel
theorem dX1_find_33 : decode cX1_find 33 = .ok (.aload_n 0, 1) := by decide +kernel
theorem dX1_find_34 : decode cX1_find 34 = .ok (.iload_n 3, 1) := by decide +kernel
theorem dX1_find_35 : decode cX1_find 35 = .ok (.aload_n 0, 1) := by decide +kernel
theorem dX1_find_36 : decode cX1_find 36 = .ok (.getfield 110, 3) := by decide +kernel
theorem dX1_find_39 : decode cX1_find 39 = .ok (.invokevirtual 82, 3) := by decide +kernel
theorem dX1_find_42 : decode cX1_find 42 = .ok (.ifCond .ne 33, 3) := by decide +kernel
theorem dX1_find_45 : decode cX1_find 45 = .ok (.iload 4, 2) := by decide +kernel
theorem dX1_find_47 : decode cX1_find 47 = .ok (.aload_n 0, 1) := by decide +kernel
theorem dX1_find_48 : decode cX1_find 48 = .ok (.getfield 7, 3) := by decide +kernel
theorem dX1_find_51 : decode cX1_find 51 = .ok (.iload_n 3, 1) := by decide +kernel
theorem dX1_find_52 : decode cX1_find 52 = .ok (.iaload, 1) := by decide +kernel
theorem dX1_find_53 : decode cX1_find 53 = .ok (.if_icmp .ge 22, 3) := by decide +kernel
theorem dX1_find_56 : decode cX1_find 56 = .ok (.aload_n 0, 1) := by decide +kernel
theorem dX1_find_57 : decode cX1_find 57 = .ok (.dup, 1) := by decide +kernel
theorem dX1_find_58 : decode cX1_find 58 = .ok (.getfield 110, 3) := by decide +kernel
theorem dX1_find_61 : decode cX1_find 61 = .ok (.aload_n 0, 1) := by decide +kernel
theorem dX1_find_62 : decode cX1_find 62 = .ok (.getfield 114, 3) := by decide +kernel
theorem dX1_find_65 : decode cX1_find 65 = .ok (.ladd, 1) := by decide +kernel
theorem dX1_find_66 : decode cX1_find 66 = .ok (.putfield 110, 3) := by decide +kernel
theorem dX1_find_69 : decode cX1_find 69 = .ok (.iinc 4 1, 3) := by decide +kernel
theorem dX1_find_72 : decode cX1_find 72 = .ok (.goto (-39), 3) := by decide +kernel
theorem dX1_find_75 : decode cX1_find 75 = .ok (.aload_n 0, 1) := by decide +kernel
theorem dX1_find_76 : decode cX1_find 76 = .ok (.iload_n 3, 1) := by decide +kernel
theorem dX1_find_77 : decode cX1_find 77 = .ok (.aload_n 0, 1) := by decide +kernel
theorem dX1_find_78 : decode cX1_find 78 = .ok (.getfield 110, 3) := by decide +kernel
theorem dX1_find_81 : decode cX1_find 81 = .ok (.invokevirtual 82, 3) := by decide +kernel
theorem dX1_find_84 : decode cX1_find 84 = .ok (.ifCond .ne 5, 3) := by decide +kernel
theorem dX1_find_87 : decode cX1_find 87 = .ok (.iconst 0, 1) := by decide +kernel
theorem dX1_find_88 : decode cX1_find 88 = .ok (.ireturn, 1) := by decide +kernel
theorem dX1_find_89 : decode cX1_find 89 = .ok (.aload_n 0, 1) := by decide +kernel
theorem dX1_find_90 : decode cX1_find 90 = .ok (.getfield 114, 3) := by decide +kernel
theorem dX1_find_93 : decode cX1_find 93 = .ok (.lstore 5, 2) := by decide +kernel
theorem dX1_find_95 : decode cX1_find 95 = .ok (.lload 5, 2) := by decide +kernel
theorem dX1_find_97 : decode cX1_find 97 = .ok (.aload_n 0, 1) := by decide +kernel
theorem dX1_find_98 : decode cX1_find 98 = .ok (.getfield 7, 3) := by decide +kernel
theorem dX1_find_101 : decode cX1_find 101 = .ok (.iload_n 3, 1) := by decide +kernel
theorem dX1_find_102 : decode cX1_find 102 = .ok (.iaload, 1) := by decide +kernel
theorem dX1_find_103 : decode cX1_find 103 = .ok (.i2l, 1) := by decide +kernel
theorem dX1_find_104 : decode cX1_find 104 = .ok (.lrem, 1) := by decide +kernel
theorem dX1_find_105 : decode cX1_find 105 = .ok (.lconst 0, 1) := by decide +kernel
theorem dX1_find_106 : decode cX1_find 106 = .ok (.lcmp, 1) := by decide +kernel
theorem dX1_find_107 : decode cX1_find 107 = .ok (.ifCond .eq 15, 3) := by decide +kernel
theorem dX1_find_110 : decode cX1_find 110 = .ok (.lload 5, 2) := by decide +kernel
theorem dX1_find_112 : decode cX1_find 112 = .ok (.aload_n 0, 1) := by decide +kernel
theorem dX1_find_113 : decode cX1_find 113 = .ok (.getfield 114, 3) := by decide +kernel
theorem dX1_find_116 : decode cX1_find 116 = .ok (.ladd, 1) := by decide +kernel
theorem dX1_find_117 : decode cX1_find 117 = .ok (.lstore 5, 2) := by decide +kernel
theorem dX1_find_119 : decode cX1_find 119 = .ok (.goto (-24), 3) := by decide +kernel
theorem dX1_find_122 : decode cX1_find 122 = .ok (.aload_n 0, 1) := by decide +kernel
theorem dX1_find_123 : decode cX1_find 123 = .ok (.lload 5, 2) := by decide +kernel
theorem dX1_find_125 : decode cX1_find 125 = .ok (.putfield 114, 3) := by decide +kernel
theorem dX1_find_128 : decode cX1_find 128 = .ok (.iinc 3 1, 3) := by decide +kernel
theorem dX1_find_131 : decode cX1_find 131 = .ok (.goto (-118), 3) := by decide +kernel
theorem dX1_find_134 : decode cX1_find 134 = .ok (.iconst 1, 1) := by decide +kernel
theorem dX1_find_135 : decode cX1_find 135 = .ok (.ireturn, 1) := by decide +kernel
set_option maxRecDepth 20000 in
theorem ggX1_doMeet_X1_faultOf : GoodIn wsX1_doMeet wsX1_faultOf := goodIn_r _ [5, 6, 7, 8, 9, 4, 10, 11, 12, 13, 34, 35, 36, 37, 38, 39, 40, 41, 42, 43, 44, 45, 46] (by decide +kernel) (by decide +kernel)
set_option maxRecDepth 20000 in
theorem gX1_doMeet_X1_faultOf : GoodIn wsX1_doMeet (wsV RX1 117 RX1 yX1_faultOf wsX1_faultOf) := goodIn_app (goodIn_of _ (by decide +kernel)) ggX1_doMeet_X1_faultOf
set_option maxRecDepth 20000 in
theorem ggX1_doMeet_X1_goesWell : GoodIn wsX1_doMeet wsX1_goesWell := goodIn_r _ [17, 18, 34, 35, 36, 37, 38, 39, 40, 41, 42, 43, 44, 45, 46] (by decide +kernel) (by decide +kernel)
set_option maxRecDepth 20000 in
theorem gX1_doMeet_X1_goesWell : GoodIn wsX1_doMeet (wsV RX1 52 RX1 yX1_goesWell wsX1_goesWell) := goodIn_app (goodIn_of _ (by decide +kernel)) ggX1_doMeet_X1_goesWell
set_option maxRecDepth 20000 in
theorem ggX1_doMeet_X1_find : GoodIn wsX1_doMeet wsX1_find := goodIn_r _ [22, 23, 24, 7, 25, 26, 27, 28, 4, 29, 30, 31, 32, 33, 34, 35, 36, 37, 38, 39, 40, 41, 42, 43, 44, 45, 46] (by decide +kernel) (by decide +kernel)
set_option maxRecDepth 20000 in
theorem gX1_doMeet_X1_find : GoodIn wsX1_doMeet (wsV RX1 120 RX1 yX1_find wsX1_find) := goodIn_app (goodIn_of _ (by decide +kernel)) ggX1_doMeet_X1_find
theorem dX1_doMeet_0 : decode cX1_doMeet 0 = .ok (.aload_n 0, 1) := by decide +kernel
theorem dX1_doMeet_1 : decode cX1_doMeet 1 = .ok (.aload_n 0, 1) := by decide +kernel
theorem dX1_doMeet_2 : decode cX1_doMeet 2 = .ok (.iload_n 1, 1) := by decide +kernel
theorem dX1_doMeet_3 : decode cX1_doMeet 3 = .ok (.invokevirtual 117, 3) := by decide +kernel
theorem dX1_doMeet_6 : decode cX1_doMeet 6 = .ok (.invokevirtual 52, 3) := by decide +kernel
theorem dX1_doMeet_9 : decode cX1_doMeet 9 = .ok (.ifCond .eq 16, 3) := by decide +kernel
theorem dX1_doMeet_12 : decode cX1_doMeet 12 = .ok (.aload_n 0, 1) := by decide +kernel
theorem dX1_doMeet_13 : decode cX1_doMeet 13 = .ok (.iload_n 1, 1) := by decide +kernel
theorem dX1_doMeet_14 : decode cX1_doMeet 14 = .ok (.iconst 0, 1) := by decide +kernel
theorem dX1_doMeet_15 : decode cX1_doMeet 15 = .ok (.invokevirtual 120, 3) := by decide +kernel
theorem dX1_doMeet_18 : decode cX1_doMeet 18 = .ok (.ifCond .eq 7, 3) := by decide +kernel
theorem dX1_doMeet_21 : decode cX1_doMeet 21 = .ok (.iconst 1, 1) := by decide +kernel
theorem dX1_doMeet_22 : decode cX1_doMeet 22 = .ok (.goto 4, 3) := by decide +kernel
theorem dX1_doMeet_25 : decode cX1_doMeet 25 = .ok (.iconst 0, 1) := by decide +kernel
theorem dX1_doMeet_26 : decode cX1_doMeet 26 = .ok (.ireturn, 1) := by decide +kernel
set_option maxRecDepth 20000 in
theorem ggX1_period_X1_faultOf : GoodIn wsX1_period wsX1_faultOf := goodIn_r _ [6, 7, 8, 9, 10, 5, 11, 12, 13, 14, 34, 35, 36, 37, 38, 39, 40, 41, 42, 43, 44, 45, 46] (by decide +kernel) (by decide +kernel)
set_option maxRecDepth 20000 in
theorem gX1_period_X1_faultOf : GoodIn wsX1_period (wsV RX1 117 RX1 yX1_faultOf wsX1_faultOf) := goodIn_app (goodIn_of _ (by decide +kernel)) ggX1_period_X1_faultOf
set_option maxRecDepth 20000 in
theorem ggX1_period_X1_find : GoodIn wsX1_period wsX1_find := goodIn_r _ [18, 19, 1, 8, 20, 21, 22, 23, 5, 24, 25, 26, 27, 28, 34, 35, 36, 37, 38, 39, 40, 41, 42, 43, 44, 45, 46] (by decide +kernel) (by decide +kernel)
set_option maxRecDepth 20000 in
theorem gX1_period_X1_find : GoodIn wsX1_period (wsV RX1 120 RX1 yX1_find wsX1_find) := goodIn_app (goodIn_of _ (by decide +kernel)) ggX1_period_X1_find
set_option maxRecDepth 20000 in
theorem ggX1_period_X1_goesWell : GoodIn wsX1_period wsX1_goesWell := goodIn_r _ [32, 33, 34, 35, 36, 37, 38, 39, 40, 41, 42, 43, 44, 45, 46] (by decide +kernel) (by decide +kernel)
set_option maxRecDepth 20000 in
theorem gX1_period_X1_goesWell : GoodIn wsX1_period (wsV RX1 52 RX1 yX1_goesWell wsX1_goesWell) := goodIn_app (goodIn_of _ (by decide +kernel)) ggX1_period_X1_goesWell
theorem dX1_period_0 : decode cX1_period 0 = .ok (.aload_n 0, 1) := by decide +kernel
theorem dX1_period_1 : decode cX1_period 1 = .ok (.iload_n 1, 1) := by decide +kernel
theorem dX1_period_2 : decode cX1_period 2 = .ok (.invokevirtual 117, 3) := by decide +kernel
theorem dX1_period_5 : decode cX1_period 5 = .ok (.istore_n 2, 1) := by decide +kernel
theorem dX1_period_6 : decode cX1_period 6 = .ok (.iload_n 2, 1) := by decide +kernel
theorem dX1_period_7 : decode cX1_period 7 = .ok (.ifCond .ne 16, 3) := by decide +kernel
theorem dX1_period_10 : decode cX1_period 10 = .ok (.aload_n 0, 1) := by decide +kernel
theorem dX1_period_11 : decode cX1_period 11 = .ok (.iload_n 1, 1) := by decide +kernel
theorem dX1_period_12 : decode cX1_period 12 = .ok (.iconst 0, 1) := by decide +kernel
theorem dX1_period_13 : decode cX1_period 13 = .ok (.invokevirtual 120, 3) := by decide +kernel
theorem dX1_period_16 : decode cX1_period 16 = .ok (.ifCond .eq 7, 3) := by decide +kernel
theorem dX1_period_19 : decode cX1_period 19 = .ok (.iconst 1, 1) := by decide +kernel
theorem dX1_period_20 : decode cX1_period 20 = .ok (.goto 4, 3) := by decide +kernel
theorem dX1_period_23 : decode cX1_period 23 = .ok (.iconst 0, 1) := by decide +kernel
theorem dX1_period_24 : decode cX1_period 24 = .ok (.istore_n 3, 1) := by decide +kernel
theorem dX1_period_25 : decode cX1_period 25 = .ok (.aload_n 0, 1) := by decide +kernel
theorem dX1_period_26 : decode cX1_period 26 = .ok (.iload_n 2, 1) := by decide +kernel
theorem dX1_period_27 : decode cX1_period 27 = .ok (.ifCond .le 7, 3) := by decide +kernel
theorem dX1_period_30 : decode cX1_period 30 = .ok (.iload_n 2, 1) := by decide +kernel
theorem dX1_period_31 : decode cX1_period 31 = .ok (.goto 12, 3) := by decide +kernel
theorem dX1_period_34 : decode cX1_period 34 = .ok (.iload_n 3, 1) := by decide +kernel
theorem dX1_period_35 : decode cX1_period 35 = .ok (.ifCond .eq 7, 3) := by decide +kernel
theorem dX1_period_38 : decode cX1_period 38 = .ok (.iconst 0, 1) := by decide +kernel
theorem dX1_period_39 : decode cX1_period 39 = .ok (.goto 4, 3) := by decide +kernel
theorem dX1_period_42 : decode cX1_period 42 = .ok (.iconst 3, 1) := by decide +kernel
theorem dX1_period_43 : decode cX1_period 43 = .ok (.invokevirtual 52, 3) := by decide +kernel
theorem dX1_period_46 : decode cX1_period 46 = .ok (.ifCond .eq 11, 3) := by decide +kernel
theorem dX1_period_49 : decode cX1_period 49 = .ok (.aload_n 0, 1) := by decide +kernel
theorem dX1_period_50 : decode cX1_period 50 = .ok (.getfield 114, 3) := by decide +kernel
theorem dX1_period_53 : decode cX1_period 53 = .ok (.l2i, 1) := by decide +kernel
theorem dX1_period_54 : decode cX1_period 54 = .ok (.goto 4, 3) := by decide +kernel
theorem dX1_period_57 : decode cX1_period 57 = .ok (.iconst 0, 1) := by decide +kernel
theorem dX1_period_58 : decode cX1_period 58 = .ok (.ireturn, 1) := by decide +kernel
set_option maxRecDepth 20000 in
theorem ggX1_meeting_X1_isDay : GoodIn wsX1_meeting wsX1_isDay := goodIn_r _ [5, 6, 7, 8, 9, 4, 10] (by decide +kernel) (by decide +kernel)
set_option maxRecDepth 20000 in
theorem gX1_meeting_X1_isDay : GoodIn wsX1_meeting (va_wsS RX1 79 yX1_isDay wsX1_isDay) := goodIn_app (goodIn_of _ (by decide +kernel)) ggX1_meeting_X1_isDay
set_option maxRecDepth 20000 in
theorem ggX1_meeting_X1_faultOf : GoodIn wsX1_meeting wsX1_faultOf := goodIn_r _ [14, 15, 16, 17, 18, 4, 19, 8, 9, 10, 39, 40, 41, 42, 43, 44, 45, 46, 47, 48, 49, 50, 51] (by decide +kernel) (by decide +kernel)
set_option maxRecDepth 20000 in
theorem gX1_meeting_X1_faultOf : GoodIn wsX1_meeting (wsV RX1 117 RX1 yX1_faultOf wsX1_faultOf) := goodIn_app (goodIn_of _ (by decide +kernel)) ggX1_meeting_X1_faultOf
set_option maxRecDepth 20000 in
theorem ggX1_meeting_X1_find : GoodIn wsX1_meeting wsX1_find := goodIn_r _ [23, 1, 24, 16, 25, 26, 27, 28, 4, 29, 30, 31, 32, 33, 39, 40, 41, 42, 43, 44, 45, 46, 47, 48, 49, 50, 51] (by decide +kernel) (by decide +kernel)
set_option maxRecDepth 20000 in
theorem gX1_meeting_X1_find : GoodIn wsX1_meeting (wsV RX1 120 RX1 yX1_find wsX1_find) := goodIn_app (goodIn_of _ (by decide +kernel)) ggX1_meeting_X1_find
set_option maxRecDepth 20000 in
theorem ggX1_meeting_X1_goesWell : GoodIn wsX1_meeting wsX1_goesWell := goodIn_r _ [37, 38, 39, 40, 41, 42, 43, 44, 45, 46, 47, 48, 49, 50, 51] (by decide +kernel) (by decide +kernel)
set_option maxRecDepth 20000 in
theorem gX1_meeting_X1_goesWell : GoodIn wsX1_meeting (wsV RX1 52 RX1 yX1_goesWell wsX1_goesWell) := goodIn_app (goodIn_of _ (by decide +kernel)) ggX1_meeting_X1_goesWell
theorem dX1_meeting_0 : decode cX1_meeting 0 = .ok (.iload_n 2, 1) := by decide +kernel
theorem dX1_meeting_1 : decode cX1_meeting 1 = .ok (.invokestatic 79, 3) := by decide +kernel
theorem dX1_meeting_4 : decode cX1_meeting 4 = .ok (.ifCond .eq 11, 3) := by decide +kernel
theorem dX1_meeting_7 : decode cX1_meeting 7 = .ok (.aload_n 0, 1) := by decide +kernel
theorem dX1_meeting_8 : decode cX1_meeting 8 = .ok (.iload_n 1, 1) := by decide +kernel
theorem dX1_meeting_9 : decode cX1_meeting 9 = .ok (.invokevirtual 117, 3) := by decide +kernel
theorem dX1_meeting_12 : decode cX1_meeting 12 = .ok (.goto 4, 3) := by decide +kernel
theorem dX1_meeting_15 : decode cX1_meeting 15 = .ok (.iconst 1, 1) := by decide +kernel
theorem dX1_meeting_16 : decode cX1_meeting 16 = .ok (.istore_n 3, 1) := by decide +kernel
theorem dX1_meeting_17 : decode cX1_meeting 17 = .ok (.iload_n 3, 1) := by decide +kernel
theorem dX1_meeting_18 : decode cX1_meeting 18 = .ok (.ifCond .ne 16, 3) := by decide +kernel
theorem dX1_meeting_21 : decode cX1_meeting 21 = .ok (.aload_n 0, 1) := by decide +kernel
theorem dX1_meeting_22 : decode cX1_meeting 22 = .ok (.iload_n 1, 1) := by decide +kernel
theorem dX1_meeting_23 : decode cX1_meeting 23 = .ok (.iload_n 2, 1) := by decide +kernel
theorem dX1_meeting_24 : decode cX1_meeting 24 = .ok (.invokevirtual 120, 3) := by decide +kernel
theorem dX1_meeting_27 : decode cX1_meeting 27 = .ok (.ifCond .eq 7, 3) := by decide +kernel
theorem dX1_meeting_30 : decode cX1_meeting 30 = .ok (.iconst 1, 1) := by decide +kernel
theorem dX1_meeting_31 : decode cX1_meeting 31 = .ok (.goto 4, 3) := by decide +kernel
theorem dX1_meeting_34 : decode cX1_meeting 34 = .ok (.iconst 0, 1) := by decide +kernel
theorem dX1_meeting_35 : decode cX1_meeting 35 = .ok (.istore 4, 2) := by decide +kernel
theorem dX1_meeting_37 : decode cX1_meeting 37 = .ok (.aload_n 0, 1) := by decide +kernel
theorem dX1_meeting_38 : decode cX1_meeting 38 = .ok (.iload_n 3, 1) := by decide +kernel
theorem dX1_meeting_39 : decode cX1_meeting 39 = .ok (.ifCond .le 7, 3) := by decide +kernel
theorem dX1_meeting_42 : decode cX1_meeting 42 = .ok (.iload_n 3, 1) := by decide +kernel
theorem dX1_meeting_43 : decode cX1_meeting 43 = .ok (.goto 13, 3) := by decide +kernel
theorem dX1_meeting_46 : decode cX1_meeting 46 = .ok (.iload 4, 2) := by decide +kernel
theorem dX1_meeting_48 : decode cX1_meeting 48 = .ok (.ifCond .eq 7, 3) := by decide +kernel
theorem dX1_meeting_51 : decode cX1_meeting 51 = .ok (.iconst 0, 1) := by decide +kernel
theorem dX1_meeting_52 : decode cX1_meeting 52 = .ok (.goto 4, 3) := by decide +kernel
theorem dX1_meeting_55 : decode cX1_meeting 55 = .ok (.iconst 3, 1) := by decide +kernel
theorem dX1_meeting_56 : decode cX1_meeting 56 = .ok (.invokevirtual 52, 3) := by decide +kernel
theorem dX1_meeting_59 : decode cX1_meeting 59 = .ok (.ifCond .eq 11, 3) := by decide +kernel
theorem dX1_meeting_62 : decode cX1_meeting 62 = .ok (.aload_n 0, 1) := by decide +kernel
theorem dX1_meeting_63 : decode cX1_meeting 63 = .ok (.getfield 110, 3) := by decide +kernel
theorem dX1_meeting_66 : decode cX1_meeting 66 = .ok (.l2i, 1) := by decide +kernel
theorem dX1_meeting_67 : decode cX1_meeting 67 = .ok (.goto 4, 3) := by decide +kernel
theorem dX1_meeting_70 : decode cX1_meeting 70 = .ok (.iconst 0, 1) := by decide +kernel
theorem dX1_meeting_71 : decode cX1_meeting 71 = .ok (.ireturn, 1) := by decide +kernel
set_option maxRecDepth 20000 in
theorem ggX1_lunarOf_X1_modulo : GoodIn wsX1_lunarOf wsX1_modulo := goodIn_r _ [7] (by decide +kernel) (by decide +kernel)
set_option maxRecDepth 20000 in
theorem gX1_lunarOf_X1_modulo : GoodIn wsX1_lunarOf (va_wsS RX1 46 yX1_modulo wsX1_modulo) := goodIn_app (goodIn_of _ (by decide +kernel)) ggX1_lunarOf_X1_modulo
theorem dX1_lunarOf_0 : decode cX1_lunarOf 0 = .ok (.lload_n 1, 1) := by decide +kernel
theorem dX1_lunarOf_1 : decode cX1_lunarOf 1 = .ok (.aload_n 0, 1) := by decide +kernel
theorem dX1_lunarOf_2 : decode cX1_lunarOf 2 = .ok (.getfield 69, 3) := by decide +kernel
theorem dX1_lunarOf_5 : decode cX1_lunarOf 5 = .ok (.i2l, 1) := by decide +kernel
theorem dX1_lunarOf_6 : decode cX1_lunarOf 6 = .ok (.ladd, 1) := by decide +kernel
theorem dX1_lunarOf_7 : decode cX1_lunarOf 7 = .ok (.aload_n 0, 1) := by decide +kernel
end
section
theorem dX1_lunarOf_8 : decode cX1_lunarOf 8 = .ok (.getfield 20, 3) := by decide +kernel
theorem dX1_lunarOf_11 : decode cX1_lunarOf 11 = .ok (.i2l, 1) := by decide +kernel
theorem dX1_lunarOf_12 : decode cX1_lunarOf 12 = .ok (.lmul, 1) := by decide +kernel
theorem dX1_lunarOf_13 : decode cX1_lunarOf 13 = .ok (.aload_n 0, 1) := by decide +kernel
theorem dX1_lunarOf_14 : decode cX1_lunarOf 14 = .ok (.getfield 16, 3) := by decide +kernel
theorem dX1_lunarOf_17 : decode cX1_lunarOf 17 = .ok (.i2l, 1) := by decide +kernel
theorem dX1_lunarOf_18 : decode cX1_lunarOf 18 = .ok (.invokestatic 46, 3) := by decide +kernel
theorem dX1_lunarOf_21 : decode cX1_lunarOf 21 = .ok (.aload_n 0, 1) := by decide +kernel
theorem dX1_lunarOf_22 : decode cX1_lunarOf 22 = .ok (.getfield 20, 3) := by decide +kernel
theorem dX1_lunarOf_25 : decode cX1_lunarOf 25 = .ok (.i2l, 1) := by decide +kernel
theorem dX1_lunarOf_26 : decode cX1_lunarOf 26 = .ok (.ldiv, 1) := by decide +kernel
theorem dX1_lunarOf_27 : decode cX1_lunarOf 27 = .ok (.lreturn, 1) := by decide +kernel
set_option maxRecDepth 20000 in
theorem ggX1_lunarMeeting_X1_isDay : GoodIn wsX1_lunarMeeting wsX1_isDay := goodIn_r _ [9, 10, 11, 12, 13, 8, 14] (by decide +kernel) (by decide +kernel)
set_option maxRecDepth 20000 in
theorem gX1_lunarMeeting_X1_isDay : GoodIn wsX1_lunarMeeting (va_wsS RX1 79 yX1_isDay wsX1_isDay) := goodIn_app (goodIn_of _ (by decide +kernel)) ggX1_lunarMeeting_X1_isDay
set_option maxRecDepth 20000 in
theorem ggX1_lunarMeeting_X1_in : GoodIn wsX1_lunarMeeting wsX1_in := goodIn_r _ [14] (by decide +kernel) (by decide +kernel)
set_option maxRecDepth 20000 in
theorem gX1_lunarMeeting_X1_in : GoodIn wsX1_lunarMeeting (va_wsS RX1 39 yX1_in wsX1_in) := goodIn_app (goodIn_of _ (by decide +kernel)) ggX1_lunarMeeting_X1_in
set_option maxRecDepth 20000 in
theorem ggX1_lunarMeeting_X1_faultOf : GoodIn wsX1_lunarMeeting wsX1_faultOf := goodIn_r _ [18, 19, 20, 21, 22, 8, 23, 12, 13, 14, 49, 50, 51, 52, 53, 54, 55, 56, 57, 58, 59, 60, 61] (by decide +kernel) (by decide +kernel)
set_option maxRecDepth 20000 in
theorem gX1_lunarMeeting_X1_faultOf : GoodIn wsX1_lunarMeeting (wsV RX1 117 RX1 yX1_faultOf wsX1_faultOf) := goodIn_app (goodIn_of _ (by decide +kernel)) ggX1_lunarMeeting_X1_faultOf
set_option maxRecDepth 20000 in
theorem ggX1_lunarMeeting_X1_find : GoodIn wsX1_lunarMeeting wsX1_find := goodIn_r _ [27, 3, 4, 20, 28, 29, 30, 31, 8, 32, 33, 34, 35, 36, 49, 50, 51, 52, 53, 54, 55, 56, 57, 58, 59, 60, 61] (by decide +kernel) (by decide +kernel)
set_option maxRecDepth 20000 in
theorem gX1_lunarMeeting_X1_find : GoodIn wsX1_lunarMeeting (wsV RX1 120 RX1 yX1_find wsX1_find) := goodIn_app (goodIn_of _ (by decide +kernel)) ggX1_lunarMeeting_X1_find
set_option maxRecDepth 20000 in
theorem ggX1_lunarMeeting_X1_goesWell : GoodIn wsX1_lunarMeeting wsX1_goesWell := goodIn_r _ [40, 41, 49, 50, 51, 52, 53, 54, 55, 56, 57, 58, 59, 60, 61] (by decide +kernel) (by decide +kernel)
set_option maxRecDepth 20000 in
theorem gX1_lunarMeeting_X1_goesWell : GoodIn wsX1_lunarMeeting (wsV RX1 52 RX1 yX1_goesWell wsX1_goesWell) := goodIn_app (goodIn_of _ (by decide +kernel)) ggX1_lunarMeeting_X1_goesWell
set_option maxRecDepth 20000 in
theorem ggX1_lunarMeeting_X1_lunarOf : GoodIn wsX1_lunarMeeting wsX1_lunarOf := goodIn_r _ [45, 46, 47, 48, 34, 35, 8, 36, 49, 50, 51, 52, 53, 54, 55, 56, 57, 58, 59, 60, 61] (by decide +kernel) (by decide +kernel)
set_option maxRecDepth 20000 in
theorem gX1_lunarMeeting_X1_lunarOf : GoodIn wsX1_lunarMeeting (wsV RX1 126 RX1 yX1_lunarOf wsX1_lunarOf) := goodIn_app (goodIn_of _ (by decide +kernel)) ggX1_lunarMeeting_X1_lunarOf
theorem dX1_lunarMeeting_0 : decode cX1_lunarMeeting 0 = .ok (.iload_n 2, 1) := by decide +kernel
theorem dX1_lunarMeeting_1 : decode cX1_lunarMeeting 1 = .ok (.invokestatic 79, 3) := by decide +kernel
theorem dX1_lunarMeeting_4 : decode cX1_lunarMeeting 4 = .ok (.ifCond .eq 32, 3) := by decide +kernel
theorem dX1_lunarMeeting_7 : decode cX1_lunarMeeting 7 = .ok (.iload_n 3, 1) := by decide +kernel
theorem dX1_lunarMeeting_8 : decode cX1_lunarMeeting 8 = .ok (.i2l, 1) := by decide +kernel
theorem dX1_lunarMeeting_9 : decode cX1_lunarMeeting 9 = .ok (.lconst 0, 1) := by decide +kernel
theorem dX1_lunarMeeting_10 : decode cX1_lunarMeeting 10 = .ok (.ldc2_w 124, 3) := by decide +kernel
theorem dX1_lunarMeeting_13 : decode cX1_lunarMeeting 13 = .ok (.invokestatic 39, 3) := by decide +kernel
theorem dX1_lunarMeeting_16 : decode cX1_lunarMeeting 16 = .ok (.ifCond .eq 20, 3) := by decide +kernel
theorem dX1_lunarMeeting_19 : decode cX1_lunarMeeting 19 = .ok (.iload 4, 2) := by decide +kernel
theorem dX1_lunarMeeting_21 : decode cX1_lunarMeeting 21 = .ok (.i2l, 1) := by decide +kernel
theorem dX1_lunarMeeting_22 : decode cX1_lunarMeeting 22 = .ok (.lconst 1, 1) := by decide +kernel
theorem dX1_lunarMeeting_23 : decode cX1_lunarMeeting 23 = .ok (.ldc2_w 67, 3) := by decide +kernel
theorem dX1_lunarMeeting_26 : decode cX1_lunarMeeting 26 = .ok (.invokestatic 39, 3) := by decide +kernel
theorem dX1_lunarMeeting_29 : decode cX1_lunarMeeting 29 = .ok (.ifCond .eq 7, 3) := by decide +kernel
theorem dX1_lunarMeeting_32 : decode cX1_lunarMeeting 32 = .ok (.iconst 1, 1) := by decide +kernel
theorem dX1_lunarMeeting_33 : decode cX1_lunarMeeting 33 = .ok (.goto 4, 3) := by decide +kernel
theorem dX1_lunarMeeting_36 : decode cX1_lunarMeeting 36 = .ok (.iconst 0, 1) := by decide +kernel
theorem dX1_lunarMeeting_37 : decode cX1_lunarMeeting 37 = .ok (.istore 5, 2) := by decide +kernel
theorem dX1_lunarMeeting_39 : decode cX1_lunarMeeting 39 = .ok (.iload 5, 2) := by decide +kernel
theorem dX1_lunarMeeting_41 : decode cX1_lunarMeeting 41 = .ok (.ifCond .eq 11, 3) := by decide +kernel
theorem dX1_lunarMeeting_44 : decode cX1_lunarMeeting 44 = .ok (.aload_n 0, 1) := by decide +kernel
theorem dX1_lunarMeeting_45 : decode cX1_lunarMeeting 45 = .ok (.iload_n 1, 1) := by decide +kernel
theorem dX1_lunarMeeting_46 : decode cX1_lunarMeeting 46 = .ok (.invokevirtual 117, 3) := by decide +kernel
theorem dX1_lunarMeeting_49 : decode cX1_lunarMeeting 49 = .ok (.goto 4, 3) := by decide +kernel
theorem dX1_lunarMeeting_52 : decode cX1_lunarMeeting 52 = .ok (.iconst 1, 1) := by decide +kernel
theorem dX1_lunarMeeting_53 : decode cX1_lunarMeeting 53 = .ok (.istore 6, 2) := by decide +kernel
theorem dX1_lunarMeeting_55 : decode cX1_lunarMeeting 55 = .ok (.iload 6, 2) := by decide +kernel
theorem dX1_lunarMeeting_57 : decode cX1_lunarMeeting 57 = .ok (.ifCond .ne 16, 3) := by decide +kernel
theorem dX1_lunarMeeting_60 : decode cX1_lunarMeeting 60 = .ok (.aload_n 0, 1) := by decide +kernel
theorem dX1_lunarMeeting_61 : decode cX1_lunarMeeting 61 = .ok (.iload_n 1, 1) := by decide +kernel
theorem dX1_lunarMeeting_62 : decode cX1_lunarMeeting 62 = .ok (.iload_n 2, 1) := by decide +kernel
theorem dX1_lunarMeeting_63 : decode cX1_lunarMeeting 63 = .ok (.invokevirtual 120, 3) := by decide +kernel
theorem dX1_lunarMeeting_66 : decode cX1_lunarMeeting 66 = .ok (.ifCond .eq 7, 3) := by decide +kernel
theorem dX1_lunarMeeting_69 : decode cX1_lunarMeeting 69 = .ok (.iconst 1, 1) := by decide +kernel
theorem dX1_lunarMeeting_70 : decode cX1_lunarMeeting 70 = .ok (.goto 4, 3) := by decide +kernel
theorem dX1_lunarMeeting_73 : decode cX1_lunarMeeting 73 = .ok (.iconst 0, 1) := by decide +kernel
theorem dX1_lunarMeeting_74 : decode cX1_lunarMeeting 74 = .ok (.istore 7, 2) := by decide +kernel
theorem dX1_lunarMeeting_76 : decode cX1_lunarMeeting 76 = .ok (.aload_n 0, 1) := by decide +kernel
theorem dX1_lunarMeeting_77 : decode cX1_lunarMeeting 77 = .ok (.iload 6, 2) := by decide +kernel
theorem dX1_lunarMeeting_79 : decode cX1_lunarMeeting 79 = .ok (.ifCond .le 8, 3) := by decide +kernel
theorem dX1_lunarMeeting_82 : decode cX1_lunarMeeting 82 = .ok (.iload 6, 2) := by decide +kernel
theorem dX1_lunarMeeting_84 : decode cX1_lunarMeeting 84 = .ok (.goto 13, 3) := by decide +kernel
theorem dX1_lunarMeeting_87 : decode cX1_lunarMeeting 87 = .ok (.iload 7, 2) := by decide +kernel
theorem dX1_lunarMeeting_89 : decode cX1_lunarMeeting 89 = .ok (.ifCond .eq 7, 3) := by decide +kernel
theorem dX1_lunarMeeting_92 : decode cX1_lunarMeeting 92 = .ok (.iconst 0, 1) := by decide +kernel
theorem dX1_lunarMeeting_93 : decode cX1_lunarMeeting 93 = .ok (.goto 4, 3) := by decide +kernel
theorem dX1_lunarMeeting_96 : decode cX1_lunarMeeting 96 = .ok (.iconst 3, 1) := by decide +kernel
theorem dX1_lunarMeeting_97 : decode cX1_lunarMeeting 97 = .ok (.invokevirtual 52, 3) := by decide +kernel
theorem dX1_lunarMeeting_100 : decode cX1_lunarMeeting 100 = .ok (.ifCond .ne 5, 3) := by decide +kernel
theorem dX1_lunarMeeting_103 : decode cX1_lunarMeeting 103 = .ok (.lconst 0, 1) := by decide +kernel
theorem dX1_lunarMeeting_104 : decode cX1_lunarMeeting 104 = .ok (.lreturn, 1) := by decide +kernel
theorem dX1_lunarMeeting_105 : decode cX1_lunarMeeting 105 = .ok (.iconst 0, 1) := by decide +kernel
theorem dX1_lunarMeeting_106 : decode cX1_lunarMeeting 106 = .ok (.istore 8, 2) := by decide +kernel
theorem dX1_lunarMeeting_108 : decode cX1_lunarMeeting 108 = .ok (.iload 8, 2) := by decide +kernel
theorem dX1_lunarMeeting_110 : decode cX1_lunarMeeting 110 = .ok (.iload 4, 2) := by decide +kernel
theorem dX1_lunarMeeting_112 : decode cX1_lunarMeeting 112 = .ok (.if_icmp .ge 44, 3) := by decide +kernel
theorem dX1_lunarMeeting_115 : decode cX1_lunarMeeting 115 = .ok (.aload_n 0, 1) := by decide +kernel
theorem dX1_lunarMeeting_116 : decode cX1_lunarMeeting 116 = .ok (.aload_n 0, 1) := by decide +kernel
theorem dX1_lunarMeeting_117 : decode cX1_lunarMeeting 117 = .ok (.getfield 110, 3) := by decide +kernel
theorem dX1_lunarMeeting_120 : decode cX1_lunarMeeting 120 = .ok (.invokevirtual 126, 3) := by decide +kernel
theorem dX1_lunarMeeting_123 : decode cX1_lunarMeeting 123 = .ok (.iload_n 3, 1) := by decide +kernel
theorem dX1_lunarMeeting_124 : decode cX1_lunarMeeting 124 = .ok (.i2l, 1) := by decide +kernel
theorem dX1_lunarMeeting_125 : decode cX1_lunarMeeting 125 = .ok (.lcmp, 1) := by decide +kernel
theorem dX1_lunarMeeting_126 : decode cX1_lunarMeeting 126 = .ok (.ifCond .ne 11, 3) := by decide +kernel
theorem dX1_lunarMeeting_129 : decode cX1_lunarMeeting 129 = .ok (.aload_n 0, 1) := by decide +kernel
theorem dX1_lunarMeeting_130 : decode cX1_lunarMeeting 130 = .ok (.getfield 110, 3) := by decide +kernel
theorem dX1_lunarMeeting_133 : decode cX1_lunarMeeting 133 = .ok (.iload_n 2, 1) := by decide +kernel
theorem dX1_lunarMeeting_134 : decode cX1_lunarMeeting 134 = .ok (.i2l, 1) := by decide +kernel
theorem dX1_lunarMeeting_135 : decode cX1_lunarMeeting 135 = .ok (.lsub, 1) := by decide +kernel
theorem dX1_lunarMeeting_136 : decode cX1_lunarMeeting 136 = .ok (.lreturn, 1) := by decide +kernel
theorem dX1_lunarMeeting_137 : decode cX1_lunarMeeting 137 = .ok (.aload_n 0, 1) := by decide +kernel
theorem dX1_lunarMeeting_138 : decode cX1_lunarMeeting 138 = .ok (.dup, 1) := by decide +kernel
theorem dX1_lunarMeeting_139 : decode cX1_lunarMeeting 139 = .ok (.getfield 110, 3) := by decide +kernel
theorem dX1_lunarMeeting_142 : decode cX1_lunarMeeting 142 = .ok (.aload_n 0, 1) := by decide +kernel
theorem dX1_lunarMeeting_143 : decode cX1_lunarMeeting 143 = .ok (.getfield 114, 3) := by decide +kernel
theorem dX1_lunarMeeting_146 : decode cX1_lunarMeeting 146 = .ok (.ladd, 1) := by decide +kernel
theorem dX1_lunarMeeting_147 : decode cX1_lunarMeeting 147 = .ok (.putfield 110, 3) := by decide +kernel
theorem dX1_lunarMeeting_150 : decode cX1_lunarMeeting 150 = .ok (.iinc 8 1, 3) := by decide +kernel
theorem dX1_lunarMeeting_153 : decode cX1_lunarMeeting 153 = .ok (.goto (-45), 3) := by decide +kernel
theorem dX1_lunarMeeting_156 : decode cX1_lunarMeeting 156 = .ok (.ldc2_w 130, 3) := by decide +kernel
theorem dX1_lunarMeeting_159 : decode cX1_lunarMeeting 159 = .ok (.lreturn, 1) := by decide +kernel
set_option maxRecDepth 20000 in
theorem ggX1_best_X1_isDay : GoodIn wsX1_best wsX1_isDay := goodIn_r _ [6, 7, 8, 9, 10, 5, 11] (by decide +kernel) (by decide +kernel)
set_option maxRecDepth 20000 in
theorem gX1_best_X1_isDay : GoodIn wsX1_best (va_wsS RX1 79 yX1_isDay wsX1_isDay) := goodIn_app (goodIn_of _ (by decide +kernel)) ggX1_best_X1_isDay
set_option maxRecDepth 20000 in
theorem ggX1_best_X1_in : GoodIn wsX1_best wsX1_in := goodIn_r _ [11] (by decide +kernel) (by decide +kernel)
set_option maxRecDepth 20000 in
theorem gX1_best_X1_in : GoodIn wsX1_best (va_wsS RX1 39 yX1_in wsX1_in) := goodIn_app (goodIn_of _ (by decide +kernel)) ggX1_best_X1_in
set_option maxRecDepth 20000 in
theorem ggX1_best_X1_goesWell : GoodIn wsX1_best wsX1_goesWell := goodIn_r _ [15, 16, 33, 34, 35, 36, 37, 38, 39, 40, 41, 42, 43, 44, 45] (by decide +kernel) (by decide +kernel)
set_option maxRecDepth 20000 in
theorem gX1_best_X1_goesWell : GoodIn wsX1_best (wsV RX1 52 RX1 yX1_goesWell wsX1_goesWell) := goodIn_app (goodIn_of _ (by decide +kernel)) ggX1_best_X1_goesWell
set_option maxRecDepth 20000 in
theorem ggX1_best_X1_held : GoodIn wsX1_best wsX1_held := goodIn_r _ [20, 2, 21, 22, 23, 5, 24, 25, 26, 27, 28, 29, 33, 34, 35, 36, 37, 38, 39, 40, 41, 42, 43, 44, 45] (by decide +kernel) (by decide +kernel)
set_option maxRecDepth 20000 in
theorem gX1_best_X1_held : GoodIn wsX1_best (wsV RX1 101 RX1 yX1_held wsX1_held) := goodIn_app (goodIn_of _ (by decide +kernel)) ggX1_best_X1_held
set_option maxRecDepth 20000 in
theorem ggX1_best_X1_sizeOf : GoodIn wsX1_best wsX1_sizeOf := goodIn_r _ [32] (by decide +kernel) (by decide +kernel)
set_option maxRecDepth 20000 in
theorem gX1_best_X1_sizeOf : GoodIn wsX1_best (va_wsS RX1 105 yX1_sizeOf wsX1_sizeOf) := goodIn_app (goodIn_of _ (by decide +kernel)) ggX1_best_X1_sizeOf
theorem dX1_best_0 : decode cX1_best 0 = .ok (.iload_n 2, 1) := by decide +kernel
theorem dX1_best_1 : decode cX1_best 1 = .ok (.invokestatic 79, 3) := by decide +kernel
theorem dX1_best_4 : decode cX1_best 4 = .ok (.ifCond .eq 29, 3) := by decide +kernel
theorem dX1_best_7 : decode cX1_best 7 = .ok (.iload_n 3, 1) := by decide +kernel
theorem dX1_best_8 : decode cX1_best 8 = .ok (.invokestatic 79, 3) := by decide +kernel
theorem dX1_best_11 : decode cX1_best 11 = .ok (.ifCond .eq 22, 3) := by decide +kernel
theorem dX1_best_14 : decode cX1_best 14 = .ok (.iload_n 3, 1) := by decide +kernel
theorem dX1_best_15 : decode cX1_best 15 = .ok (.i2l, 1) := by decide +kernel
theorem dX1_best_16 : decode cX1_best 16 = .ok (.iload_n 2, 1) := by decide +kernel
theorem dX1_best_17 : decode cX1_best 17 = .ok (.i2l, 1) := by decide +kernel
theorem dX1_best_18 : decode cX1_best 18 = .ok (.lsub, 1) := by decide +kernel
theorem dX1_best_19 : decode cX1_best 19 = .ok (.lconst 0, 1) := by decide +kernel
theorem dX1_best_20 : decode cX1_best 20 = .ok (.ldc2_w 132, 3) := by decide +kernel
theorem dX1_best_23 : decode cX1_best 23 = .ok (.invokestatic 39, 3) := by decide +kernel
theorem dX1_best_26 : decode cX1_best 26 = .ok (.ifCond .eq 7, 3) := by decide +kernel
theorem dX1_best_29 : decode cX1_best 29 = .ok (.iconst 1, 1) := by decide +kernel
theorem dX1_best_30 : decode cX1_best 30 = .ok (.goto 4, 3) := by decide +kernel
theorem dX1_best_33 : decode cX1_best 33 = .ok (.iconst 0, 1) := by decide +kernel
theorem dX1_best_34 : decode cX1_best 34 = .ok (.istore 4, 2) := by decide +kernel
theorem dX1_best_36 : decode cX1_best 36 = .ok (.aload_n 0, 1) := by decide +kernel
theorem dX1_best_37 : decode cX1_best 37 = .ok (.iload 4, 2) := by decide +kernel
theorem dX1_best_39 : decode cX1_best 39 = .ok (.ifCond .ne 7, 3) := by decide +kernel
theorem dX1_best_42 : decode cX1_best 42 = .ok (.iconst 1, 1) := by decide +kernel
theorem dX1_best_43 : decode cX1_best 43 = .ok (.goto 17, 3) := by decide +kernel
theorem dX1_best_46 : decode cX1_best 46 = .ok (.iload_n 1, 1) := by decide +kernel
theorem dX1_best_47 : decode cX1_best 47 = .ok (.aload_n 0, 1) := by decide +kernel
theorem dX1_best_48 : decode cX1_best 48 = .ok (.getfield 43, 3) := by decide +kernel
theorem dX1_best_51 : decode cX1_best 51 = .ok (.iushr, 1) := by decide +kernel
theorem dX1_best_52 : decode cX1_best 52 = .ok (.ifCond .eq 7, 3) := by decide +kernel
theorem dX1_best_55 : decode cX1_best 55 = .ok (.iconst 2, 1) := by decide +kernel
theorem dX1_best_56 : decode cX1_best 56 = .ok (.goto 4, 3) := by decide +kernel
theorem dX1_best_59 : decode cX1_best 59 = .ok (.iconst 0, 1) := by decide +kernel
theorem dX1_best_60 : decode cX1_best 60 = .ok (.invokevirtual 52, 3) := by decide +kernel
theorem dX1_best_63 : decode cX1_best 63 = .ok (.ifCond .ne 5, 3) := by decide +kernel
theorem dX1_best_66 : decode cX1_best 66 = .ok (.iconst 0, 1) := by decide +kernel
theorem dX1_best_67 : decode cX1_best 67 = .ok (.ireturn, 1) := by decide +kernel
theorem dX1_best_68 : decode cX1_best 68 = .ok (.iload_n 2, 1) := by decide +kernel
theorem dX1_best_69 : decode cX1_best 69 = .ok (.istore 5, 2) := by decide +kernel
theorem dX1_best_71 : decode cX1_best 71 = .ok (.iload_n 2, 1) := by decide +kernel
theorem dX1_best_72 : decode cX1_best 72 = .ok (.istore 6, 2) := by decide +kernel
theorem dX1_best_74 : decode cX1_best 74 = .ok (.iload 6, 2) := by decide +kernel
theorem dX1_best_76 : decode cX1_best 76 = .ok (.iload_n 3, 1) := by decide +kernel
theorem dX1_best_77 : decode cX1_best 77 = .ok (.if_icmp .gt 43, 3) := by decide +kernel
theorem dX1_best_80 : decode cX1_best 80 = .ok (.aload_n 0, 1) := by decide +kernel
theorem dX1_best_81 : decode cX1_best 81 = .ok (.iload 6, 2) := by decide +kernel
theorem dX1_best_83 : decode cX1_best 83 = .ok (.invokevirtual 101, 3) := by decide +kernel
theorem dX1_best_86 : decode cX1_best 86 = .ok (.iload_n 1, 1) := by decide +kernel
theorem dX1_best_87 : decode cX1_best 87 = .ok (.iand, 1) := by decide +kernel
theorem dX1_best_88 : decode cX1_best 88 = .ok (.invokestatic 105, 3) := by decide +kernel
theorem dX1_best_91 : decode cX1_best 91 = .ok (.aload_n 0, 1) := by decide +kernel
theorem dX1_best_92 : decode cX1_best 92 = .ok (.iload 5, 2) := by decide +kernel
theorem dX1_best_94 : decode cX1_best 94 = .ok (.invokevirtual 101, 3) := by decide +kernel
theorem dX1_best_97 : decode cX1_best 97 = .ok (.iload_n 1, 1) := by decide +kernel
theorem dX1_best_98 : decode cX1_best 98 = .ok (.iand, 1) := by decide +kernel
theorem dX1_best_99 : decode cX1_best 99 = .ok (.invokestatic 105, 3) := by decide +kernel
theorem dX1_best_102 : decode cX1_best 102 = .ok (.if_icmp .le 8, 3) := by decide +kernel
theorem dX1_best_105 : decode cX1_best 105 = .ok (.iload 6, 2) := by decide +kernel
theorem dX1_best_107 : decode cX1_best 107 = .ok (.goto 5, 3) := by decide +kernel
theorem dX1_best_110 : decode cX1_best 110 = .ok (.iload 5, 2) := by decide +kernel
theorem dX1_best_112 : decode cX1_best 112 = .ok (.istore 5, 2) := by decide +kernel
theorem dX1_best_114 : decode cX1_best 114 = .ok (.iinc 6 1, 3) := by decide +kernel
theorem dX1_best_117 : decode cX1_best 117 = .ok (.goto (-43), 3) := by decide +kernel
theorem dX1_best_120 : decode cX1_best 120 = .ok (.iload 5, 2) := by decide +kernel
theorem dX1_best_122 : decode cX1_best 122 = .ok (.ireturn, 1) := by decide +kernel
set_option maxRecDepth 20000 in
theorem ggX1_monthOf_X1_part : GoodIn wsX1_monthOf wsX1_part := goodIn_r _ [7, 8, 9, 6, 10] (by decide +kernel) (by decide +kernel)
set_option maxRecDepth 20000 in
theorem gX1_monthOf_X1_part : GoodIn wsX1_monthOf (va_wsS RX1 90 yX1_part wsX1_part) := goodIn_app (goodIn_of _ (by decide +kernel)) ggX1_monthOf_X1_part
theorem dX1_monthOf_0 : decode cX1_monthOf 0 = .ok (.lload_n 1, 1) := by decide +kernel
theorem dX1_monthOf_1 : decode cX1_monthOf 1 = .ok (.aload_n 0, 1) := by decide +kernel
theorem dX1_monthOf_2 : decode cX1_monthOf 2 = .ok (.getfield 69, 3) := by decide +kernel
theorem dX1_monthOf_5 : decode cX1_monthOf 5 = .ok (.i2l, 1) := by decide +kernel
theorem dX1_monthOf_6 : decode cX1_monthOf 6 = .ok (.ladd, 1) := by decide +kernel
theorem dX1_monthOf_7 : decode cX1_monthOf 7 = .ok (.aload_n 0, 1) := by decide +kernel
theorem dX1_monthOf_8 : decode cX1_monthOf 8 = .ok (.getfield 20, 3) := by decide +kernel
theorem dX1_monthOf_11 : decode cX1_monthOf 11 = .ok (.i2l, 1) := by decide +kernel
theorem dX1_monthOf_12 : decode cX1_monthOf 12 = .ok (.lmul, 1) := by decide +kernel
theorem dX1_monthOf_13 : decode cX1_monthOf 13 = .ok (.aload_n 0, 1) := by decide +kernel
theorem dX1_monthOf_14 : decode cX1_monthOf 14 = .ok (.getfield 16, 3) := by decide +kernel
theorem dX1_monthOf_17 : decode cX1_monthOf 17 = .ok (.i2l, 1) := by decide +kernel
theorem dX1_monthOf_18 : decode cX1_monthOf 18 = .ok (.invokestatic 90, 3) := by decide +kernel
theorem dX1_monthOf_21 : decode cX1_monthOf 21 = .ok (.lreturn, 1) := by decide +kernel
set_option maxRecDepth 20000 in
theorem ggX1_month_X1_isDay : GoodIn wsX1_month wsX1_isDay := goodIn_r _ [4, 5, 6, 7, 8, 3, 9] (by decide +kernel) (by decide +kernel)
set_option maxRecDepth 20000 in
theorem gX1_month_X1_isDay : GoodIn wsX1_month (va_wsS RX1 79 yX1_isDay wsX1_isDay) := goodIn_app (goodIn_of _ (by decide +kernel)) ggX1_month_X1_isDay
set_option maxRecDepth 20000 in
theorem ggX1_month_X1_goesWell : GoodIn wsX1_month wsX1_goesWell := goodIn_r _ [13, 14, 28, 29, 30, 31, 32, 33, 34, 35, 36, 37, 38, 39, 40] (by decide +kernel) (by decide +kernel)
set_option maxRecDepth 20000 in
theorem gX1_month_X1_goesWell : GoodIn wsX1_month (wsV RX1 52 RX1 yX1_goesWell wsX1_goesWell) := goodIn_app (goodIn_of _ (by decide +kernel)) ggX1_month_X1_goesWell
set_option maxRecDepth 20000 in
theorem ggX1_month_X1_monthOf : GoodIn wsX1_month wsX1_monthOf := goodIn_r _ [18, 19, 20, 21, 22, 23, 3, 24, 25, 26, 27, 28, 29, 30, 31, 32, 33, 34, 35, 36, 37, 38, 39, 40] (by decide +kernel) (by decide +kernel)
set_option maxRecDepth 20000 in
theorem gX1_month_X1_monthOf : GoodIn wsX1_month (wsV RX1 134 RX1 yX1_monthOf wsX1_monthOf) := goodIn_app (goodIn_of _ (by decide +kernel)) ggX1_month_X1_monthOf
theorem dX1_month_0 : decode cX1_month 0 = .ok (.aload_n 0, 1) := by decide +kernel
theorem dX1_month_1 : decode cX1_month 1 = .ok (.iload_n 1, 1) := by decide +kernel
theorem dX1_month_2 : decode cX1_month 2 = .ok (.invokestatic 79, 3) := by decide +kernel
theorem dX1_month_5 : decode cX1_month 5 = .ok (.ifCond .eq 7, 3) := by decide +kernel
theorem dX1_month_8 : decode cX1_month 8 = .ok (.iconst 0, 1) := by decide +kernel
theorem dX1_month_9 : decode cX1_month 9 = .ok (.goto 4, 3) := by decide +kernel
theorem dX1_month_12 : decode cX1_month 12 = .ok (.iconst 1, 1) := by decide +kernel
theorem dX1_month_13 : decode cX1_month 13 = .ok (.invokevirtual 52, 3) := by decide +kernel
theorem dX1_month_16 : decode cX1_month 16 = .ok (.ifCond .eq 13, 3) := by decide +kernel
theorem dX1_month_19 : decode cX1_month 19 = .ok (.aload_n 0, 1) := by decide +kernel
theorem dX1_month_20 : decode cX1_month 20 = .ok (.iload_n 1, 1) := by decide +kernel
theorem dX1_month_21 : decode cX1_month 21 = .ok (.i2l, 1) := by decide +kernel
theorem dX1_month_22 : decode cX1_month 22 = .ok (.invokevirtual 134, 3) := by decide +kernel
theorem dX1_month_25 : decode cX1_month 25 = .ok (.l2i, 1) := by decide +kernel
theorem dX1_month_26 : decode cX1_month 26 = .ok (.goto 4, 3) := by decide +kernel
theorem dX1_month_29 : decode cX1_month 29 = .ok (.iconst 0, 1) := by decide +kernel
theorem dX1_month_30 : decode cX1_month 30 = .ok (.ireturn, 1) := by decide +kernel
set_option maxRecDepth 20000 in
theorem ggX1_lunarDay_X1_isDay : GoodIn wsX1_lunarDay wsX1_isDay := goodIn_r _ [4, 5, 6, 7, 8, 3, 9] (by decide +kernel) (by decide +kernel)
set_option maxRecDepth 20000 in
theorem gX1_lunarDay_X1_isDay : GoodIn wsX1_lunarDay (va_wsS RX1 79 yX1_isDay wsX1_isDay) := goodIn_app (goodIn_of _ (by decide +kernel)) ggX1_lunarDay_X1_isDay
set_option maxRecDepth 20000 in
theorem ggX1_lunarDay_X1_goesWell : GoodIn wsX1_lunarDay wsX1_goesWell := goodIn_r _ [13, 14, 25, 26, 27, 28, 29, 30, 31, 32, 33, 34, 35, 36, 37] (by decide +kernel) (by decide +kernel)
set_option maxRecDepth 20000 in
theorem gX1_lunarDay_X1_goesWell : GoodIn wsX1_lunarDay (wsV RX1 52 RX1 yX1_goesWell wsX1_goesWell) := goodIn_app (goodIn_of _ (by decide +kernel)) ggX1_lunarDay_X1_goesWell
set_option maxRecDepth 20000 in
theorem ggX1_lunarDay_X1_lunarOf : GoodIn wsX1_lunarDay wsX1_lunarOf := goodIn_r _ [18, 19, 20, 21, 22, 23, 3, 24, 25, 26, 27, 28, 29, 30, 31, 32, 33, 34, 35, 36, 37] (by decide +kernel) (by decide +kernel)
set_option maxRecDepth 20000 in
theorem gX1_lunarDay_X1_lunarOf : GoodIn wsX1_lunarDay (wsV RX1 126 RX1 yX1_lunarOf wsX1_lunarOf) := goodIn_app (goodIn_of _ (by decide +kernel)) ggX1_lunarDay_X1_lunarOf
theorem dX1_lunarDay_0 : decode cX1_lunarDay 0 = .ok (.aload_n 0, 1) := by decide +kernel
theorem dX1_lunarDay_1 : decode cX1_lunarDay 1 = .ok (.iload_n 1, 1) := by decide +kernel
theorem dX1_lunarDay_2 : decode cX1_lunarDay 2 = .ok (.invokestatic 79, 3) := by decide +kernel
theorem dX1_lunarDay_5 : decode cX1_lunarDay 5 = .ok (.ifCond .eq 7, 3) := by decide +kernel
theorem dX1_lunarDay_8 : decode cX1_lunarDay 8 = .ok (.iconst 0, 1) := by decide +kernel
theorem dX1_lunarDay_9 : decode cX1_lunarDay 9 = .ok (.goto 4, 3) := by decide +kernel
theorem dX1_lunarDay_12 : decode cX1_lunarDay 12 = .ok (.iconst 1, 1) := by decide +kernel
theorem dX1_lunarDay_13 : decode cX1_lunarDay 13 = .ok (.invokevirtual 52, 3) := by decide +kernel
theorem dX1_lunarDay_16 : decode cX1_lunarDay 16 = .ok (.ifCond .eq 13, 3) := by decide +kernel
theorem dX1_lunarDay_19 : decode cX1_lunarDay 19 = .ok (.aload_n 0, 1) := by decide +kernel
theorem dX1_lunarDay_20 : decode cX1_lunarDay 20 = .ok (.iload_n 1, 1) := by decide +kernel
theorem dX1_lunarDay_21 : decode cX1_lunarDay 21 = .ok (.i2l, 1) := by decide +kernel
theorem dX1_lunarDay_22 : decode cX1_lunarDay 22 = .ok (.invokevirtual 126, 3) := by decide +kernel
theorem dX1_lunarDay_25 : decode cX1_lunarDay 25 = .ok (.l2i, 1) := by decide +kernel
theorem dX1_lunarDay_26 : decode cX1_lunarDay 26 = .ok (.goto 4, 3) := by decide +kernel
theorem dX1_lunarDay_29 : decode cX1_lunarDay 29 = .ok (.iconst 0, 1) := by decide +kernel
theorem dX1_lunarDay_30 : decode cX1_lunarDay 30 = .ok (.ireturn, 1) := by decide +kernel
set_option maxRecDepth 20000 in
theorem ggX1_monthBegin_X1_in : GoodIn wsX1_monthBegin wsX1_in := goodIn_r _ [10] (by decide +kernel) (by decide +kernel)
set_option maxRecDepth 20000 in
theorem gX1_monthBegin_X1_in : GoodIn wsX1_monthBegin (va_wsS RX1 39 yX1_in wsX1_in) := goodIn_app (goodIn_of _ (by decide +kernel)) ggX1_monthBegin_X1_in
set_option maxRecDepth 20000 in
theorem ggX1_monthBegin_X1_goesWell : GoodIn wsX1_monthBegin wsX1_goesWell := goodIn_r _ [14, 15, 26, 27, 28, 29, 30, 31, 32, 33, 34, 35, 36, 37, 38] (by decide +kernel) (by decide +kernel)
set_option maxRecDepth 20000 in
theorem gX1_monthBegin_X1_goesWell : GoodIn wsX1_monthBegin (wsV RX1 52 RX1 yX1_goesWell wsX1_goesWell) := goodIn_app (goodIn_of _ (by decide +kernel)) ggX1_monthBegin_X1_goesWell
set_option maxRecDepth 20000 in
theorem ggX1_monthBegin_X1_part : GoodIn wsX1_monthBegin wsX1_part := goodIn_r _ [18, 19, 20, 9, 21] (by decide +kernel) (by decide +kernel)
set_option maxRecDepth 20000 in
theorem gX1_monthBegin_X1_part : GoodIn wsX1_monthBegin (va_wsS RX1 90 yX1_part wsX1_part) := goodIn_app (goodIn_of _ (by decide +kernel)) ggX1_monthBegin_X1_part
set_option maxRecDepth 20000 in
theorem ggX1_monthBegin_X1_monthOf : GoodIn wsX1_monthBegin wsX1_monthOf := goodIn_r _ [25, 5, 4, 3, 16, 17, 9, 18, 19, 20, 21, 26, 27, 28, 29, 30, 31, 32, 33, 34, 35, 36, 37, 38] (by decide +kernel) (by decide +kernel)
set_option maxRecDepth 20000 in
theorem gX1_monthBegin_X1_monthOf : GoodIn wsX1_monthBegin (wsV RX1 134 RX1 yX1_monthOf wsX1_monthOf) := goodIn_app (goodIn_of _ (by decide +kernel)) ggX1_monthBegin_X1_monthOf
theorem dX1_monthBegin_0 : decode cX1_monthBegin 0 = .ok (.aload_n 0, 1) := by decide +kernel
theorem dX1_monthBegin_1 : decode cX1_monthBegin 1 = .ok (.iload_n 1, 1) := by decide +kernel
theorem dX1_monthBegin_2 : decode cX1_monthBegin 2 = .ok (.i2l, 1) := by decide +kernel
theorem dX1_monthBegin_3 : decode cX1_monthBegin 3 = .ok (.ldc2_w 137, 3) := by decide +kernel
theorem dX1_monthBegin_6 : decode cX1_monthBegin 6 = .ok (.ldc2_w 139, 3) := by decide +kernel
theorem dX1_monthBegin_9 : decode cX1_monthBegin 9 = .ok (.invokestatic 39, 3) := by decide +kernel
theorem dX1_monthBegin_12 : decode cX1_monthBegin 12 = .ok (.ifCond .eq 7, 3) := by decide +kernel
theorem dX1_monthBegin_15 : decode cX1_monthBegin 15 = .ok (.iconst 0, 1) := by decide +kernel
theorem dX1_monthBegin_16 : decode cX1_monthBegin 16 = .ok (.goto 4, 3) := by decide +kernel
theorem dX1_monthBegin_19 : decode cX1_monthBegin 19 = .ok (.iconst 1, 1) := by decide +kernel
theorem dX1_monthBegin_20 : decode cX1_monthBegin 20 = .ok (.invokevirtual 52, 3) := by decide +kernel
theorem dX1_monthBegin_23 : decode cX1_monthBegin 23 = .ok (.ifCond .ne 5, 3) := by decide +kernel
theorem dX1_monthBegin_26 : decode cX1_monthBegin 26 = .ok (.iconst 0, 1) := by decide +kernel
theorem dX1_monthBegin_27 : decode cX1_monthBegin 27 = .ok (.ireturn, 1) := by decide +kernel
theorem dX1_monthBegin_28 : decode cX1_monthBegin 28 = .ok (.iload_n 1, 1) := by decide +kernel
theorem dX1_monthBegin_29 : decode cX1_monthBegin 29 = .ok (.i2l, 1) := by decide +kernel
theorem dX1_monthBegin_30 : decode cX1_monthBegin 30 = .ok (.aload_n 0, 1) := by decide +kernel
theorem dX1_monthBegin_31 : decode cX1_monthBegin 31 = .ok (.getfield 16, 3) := by decide +kernel
theorem dX1_monthBegin_34 : decode cX1_monthBegin 34 = .ok (.i2l, 1) := by decide +kernel
theorem dX1_monthBegin_35 : decode cX1_monthBegin 35 = .ok (.lmul, 1) := by decide +kernel
theorem dX1_monthBegin_36 : decode cX1_monthBegin 36 = .ok (.aload_n 0, 1) := by decide +kernel
theorem dX1_monthBegin_37 : decode cX1_monthBegin 37 = .ok (.getfield 20, 3) := by decide +kernel
theorem dX1_monthBegin_40 : decode cX1_monthBegin 40 = .ok (.i2l, 1) := by decide +kernel
theorem dX1_monthBegin_41 : decode cX1_monthBegin 41 = .ok (.invokestatic 90, 3) := by decide +kernel
theorem dX1_monthBegin_44 : decode cX1_monthBegin 44 = .ok (.aload_n 0, 1) := by decide +kernel
theorem dX1_monthBegin_45 : decode cX1_monthBegin 45 = .ok (.getfield 69, 3) := by decide +kernel
theorem dX1_monthBegin_48 : decode cX1_monthBegin 48 = .ok (.i2l, 1) := by decide +kernel
theorem dX1_monthBegin_49 : decode cX1_monthBegin 49 = .ok (.lsub, 1) := by decide +kernel
theorem dX1_monthBegin_50 : decode cX1_monthBegin 50 = .ok (.ldc2_w 63, 3) := by decide +kernel
theorem dX1_monthBegin_53 : decode cX1_monthBegin 53 = .ok (.lsub, 1) := by decide +kernel
theorem dX1_monthBegin_54 : decode cX1_monthBegin 54 = .ok (.lstore_n 2, 1) := by decide +kernel
theorem dX1_monthBegin_55 : decode cX1_monthBegin 55 = .ok (.aload_n 0, 1) := by decide +kernel
theorem dX1_monthBegin_56 : decode cX1_monthBegin 56 = .ok (.lload_n 2, 1) := by decide +kernel
theorem dX1_monthBegin_57 : decode cX1_monthBegin 57 = .ok (.invokevirtual 134, 3) := by decide +kernel
theorem dX1_monthBegin_60 : decode cX1_monthBegin 60 = .ok (.iload_n 1, 1) := by decide +kernel
theorem dX1_monthBegin_61 : decode cX1_monthBegin 61 = .ok (.i2l, 1) := by decide +kernel
theorem dX1_monthBegin_62 : decode cX1_monthBegin 62 = .ok (.lcmp, 1) := by decide +kernel
theorem dX1_monthBegin_63 : decode cX1_monthBegin 63 = .ok (.ifCond .ge 10, 3) := by decide +kernel
theorem dX1_monthBegin_66 : decode cX1_monthBegin 66 = .ok (.lload_n 2, 1) := by decide +kernel
theorem dX1_monthBegin_67 : decode cX1_monthBegin 67 = .ok (.lconst 1, 1) := by decide +kernel
theorem dX1_monthBegin_68 : decode cX1_monthBegin 68 = .ok (.ladd, 1) := by decide +kernel
theorem dX1_monthBegin_69 : decode cX1_monthBegin 69 = .ok (.lstore_n 2, 1) := by decide +kernel
theorem dX1_monthBegin_70 : decode cX1_monthBegin 70 = .ok (.goto (-15), 3) := by decide +kernel
theorem dX1_monthBegin_73 : decode cX1_monthBegin 73 = .ok (.lload_n 2, 1) := by decide +kernel
theorem dX1_monthBegin_74 : decode cX1_monthBegin 74 = .ok (.l2i, 1) := by decide +kernel
theorem dX1_monthBegin_75 : decode cX1_monthBegin 75 = .ok (.ireturn, 1) := by decide +kernel
set_option maxRecDepth 20000 in
theorem ggX1_beginOf_X1_part : GoodIn wsX1_beginOf wsX1_part := goodIn_r _ [8, 9, 10, 7, 11] (by decide +kernel) (by decide +kernel)
set_option maxRecDepth 20000 in
theorem gX1_beginOf_X1_part : GoodIn wsX1_beginOf (va_wsS RX1 90 yX1_part wsX1_part) := goodIn_app (goodIn_of _ (by decide +kernel)) ggX1_beginOf_X1_part
theorem dX1_beginOf_0 : decode cX1_beginOf 0 = .ok (.aload_n 0, 1) := by decide +kernel
theorem dX1_beginOf_1 : decode cX1_beginOf 1 = .ok (.getfield 23, 3) := by decide +kernel
theorem dX1_beginOf_4 : decode cX1_beginOf 4 = .ok (.i2l, 1) := by decide +kernel
theorem dX1_beginOf_5 : decode cX1_beginOf 5 = .ok (.lload_n 1, 1) := by decide +kernel
theorem dX1_beginOf_6 : decode cX1_beginOf 6 = .ok (.lmul, 1) := by decide +kernel
theorem dX1_beginOf_7 : decode cX1_beginOf 7 = .ok (.aload_n 0, 1) := by decide +kernel
theorem dX1_beginOf_8 : decode cX1_beginOf 8 = .ok (.getfield 26, 3) := by decide +kernel
theorem dX1_beginOf_11 : decode cX1_beginOf 11 = .ok (.i2l, 1) := by decide +kernel
theorem dX1_beginOf_12 : decode cX1_beginOf 12 = .ok (.lload_n 1, 1) := by decide +kernel
theorem dX1_beginOf_13 : decode cX1_beginOf 13 = .ok (.lmul, 1) := by decide +kernel
theorem dX1_beginOf_14 : decode cX1_beginOf 14 = .ok (.aload_n 0, 1) := by decide +kernel
theorem dX1_beginOf_15 : decode cX1_beginOf 15 = .ok (.getfield 76, 3) := by decide +kernel
theorem dX1_beginOf_18 : decode cX1_beginOf 18 = .ok (.i2l, 1) := by decide +kernel
theorem dX1_beginOf_19 : decode cX1_beginOf 19 = .ok (.ladd, 1) := by decide +kernel
theorem dX1_beginOf_20 : decode cX1_beginOf 20 = .ok (.aload_n 0, 1) := by decide +kernel
theorem dX1_beginOf_21 : decode cX1_beginOf 21 = .ok (.getfield 29, 3) := by decide +kernel
theorem dX1_beginOf_24 : decode cX1_beginOf 24 = .ok (.i2l, 1) := by decide +kernel
theorem dX1_beginOf_25 : decode cX1_beginOf 25 = .ok (.invokestatic 90, 3) := by decide +kernel
theorem dX1_beginOf_28 : decode cX1_beginOf 28 = .ok (.ladd, 1) := by decide +kernel
theorem dX1_beginOf_29 : decode cX1_beginOf 29 = .ok (.lreturn, 1) := by decide +kernel
set_option maxRecDepth 20000 in
theorem ggX1_leaps_X1_modulo : GoodIn wsX1_leaps wsX1_modulo := goodIn_r _ [7] (by decide +kernel) (by decide +kernel)
set_option maxRecDepth 20000 in
theorem gX1_leaps_X1_modulo : GoodIn wsX1_leaps (va_wsS RX1 46 yX1_modulo wsX1_modulo) := goodIn_app (goodIn_of _ (by decide +kernel)) ggX1_leaps_X1_modulo
theorem dX1_leaps_0 : decode cX1_leaps 0 = .ok (.aload_n 0, 1) := by decide +kernel
theorem dX1_leaps_1 : decode cX1_leaps 1 = .ok (.getfield 26, 3) := by decide +kernel
theorem dX1_leaps_4 : decode cX1_leaps 4 = .ok (.i2l, 1) := by decide +kernel
theorem dX1_leaps_5 : decode cX1_leaps 5 = .ok (.lload_n 1, 1) := by decide +kernel
theorem dX1_leaps_6 : decode cX1_leaps 6 = .ok (.lmul, 1) := by decide +kernel
theorem dX1_leaps_7 : decode cX1_leaps 7 = .ok (.aload_n 0, 1) := by decide +kernel
theorem dX1_leaps_8 : decode cX1_leaps 8 = .ok (.getfield 76, 3) := by decide +kernel
theorem dX1_leaps_11 : decode cX1_leaps 11 = .ok (.i2l, 1) := by decide +kernel
theorem dX1_leaps_12 : decode cX1_leaps 12 = .ok (.ladd, 1) := by decide +kernel
theorem dX1_leaps_13 : decode cX1_leaps 13 = .ok (.aload_n 0, 1) := by decide +kernel
theorem dX1_leaps_14 : decode cX1_leaps 14 = .ok (.getfield 29, 3) := by decide +kernel
theorem dX1_leaps_17 : decode cX1_leaps 17 = .ok (.i2l, 1) := by decide +kernel
theorem dX1_leaps_18 : decode cX1_leaps 18 = .ok (.invokestatic 46, 3) := by decide +kernel
theorem dX1_leaps_21 : decode cX1_leaps 21 = .ok (.aload_n 0, 1) := by decide +kernel
theorem dX1_leaps_22 : decode cX1_leaps 22 = .ok (.getfield 29, 3) := by decide +kernel
theorem dX1_leaps_25 : decode cX1_leaps 25 = .ok (.aload_n 0, 1) := by decide +kernel
theorem dX1_leaps_26 : decode cX1_leaps 26 = .ok (.getfield 26, 3) := by decide +kernel
theorem dX1_leaps_29 : decode cX1_leaps 29 = .ok (.isub, 1) := by decide +kernel
theorem dX1_leaps_30 : decode cX1_leaps 30 = .ok (.i2l, 1) := by decide +kernel
theorem dX1_leaps_31 : decode cX1_leaps 31 = .ok (.lcmp, 1) := by decide +kernel
theorem dX1_leaps_32 : decode cX1_leaps 32 = .ok (.ifCond .lt 7, 3) := by decide +kernel
theorem dX1_leaps_35 : decode cX1_leaps 35 = .ok (.iconst 1, 1) := by decide +kernel
theorem dX1_leaps_36 : decode cX1_leaps 36 = .ok (.goto 4, 3) := by decide +kernel
theorem dX1_leaps_39 : decode cX1_leaps 39 = .ok (.iconst 0, 1) := by decide +kernel
theorem dX1_leaps_40 : decode cX1_leaps 40 = .ok (.ireturn, 1) := by decide +kernel
set_option maxRecDepth 20000 in
theorem ggX1_yearOf_X1_part : GoodIn wsX1_yearOf wsX1_part := goodIn_r _ [6, 7, 8, 5, 9] (by decide +kernel) (by decide +kernel)
set_option maxRecDepth 20000 in
theorem gX1_yearOf_X1_part : GoodIn wsX1_yearOf (va_wsS RX1 90 yX1_part wsX1_part) := goodIn_app (goodIn_of _ (by decide +kernel)) ggX1_yearOf_X1_part
set_option maxRecDepth 20000 in
theorem ggX1_yearOf_X1_beginOf : GoodIn wsX1_yearOf wsX1_beginOf := goodIn_r _ [13, 1, 14, 15, 16, 3, 4, 5, 6, 7, 8, 9, 17, 18, 19, 20, 21, 22, 23, 24, 25, 26, 27, 28, 29] (by decide +kernel) (by decide +kernel)
set_option maxRecDepth 20000 in
theorem gX1_yearOf_X1_beginOf : GoodIn wsX1_yearOf (wsV RX1 141 RX1 yX1_beginOf wsX1_beginOf) := goodIn_app (goodIn_of _ (by decide +kernel)) ggX1_yearOf_X1_beginOf
theorem dX1_yearOf_0 : decode cX1_yearOf 0 = .ok (.iload_n 1, 1) := by decide +kernel
theorem dX1_yearOf_1 : decode cX1_yearOf 1 = .ok (.i2l, 1) := by decide +kernel
theorem dX1_yearOf_2 : decode cX1_yearOf 2 = .ok (.iload_n 1, 1) := by decide +kernel
theorem dX1_yearOf_3 : decode cX1_yearOf 3 = .ok (.ifCond .ge 13, 3) := by decide +kernel
theorem dX1_yearOf_6 : decode cX1_yearOf 6 = .ok (.aload_n 0, 1) := by decide +kernel
theorem dX1_yearOf_7 : decode cX1_yearOf 7 = .ok (.getfield 23, 3) := by decide +kernel
theorem dX1_yearOf_10 : decode cX1_yearOf 10 = .ok (.i2l, 1) := by decide +kernel
theorem dX1_yearOf_11 : decode cX1_yearOf 11 = .ok (.lconst 1, 1) := by decide +kernel
theorem dX1_yearOf_12 : decode cX1_yearOf 12 = .ok (.ladd, 1) := by decide +kernel
theorem dX1_yearOf_13 : decode cX1_yearOf 13 = .ok (.goto 8, 3) := by decide +kernel
theorem dX1_yearOf_16 : decode cX1_yearOf 16 = .ok (.aload_n 0, 1) := by decide +kernel
theorem dX1_yearOf_17 : decode cX1_yearOf 17 = .ok (.getfield 23, 3) := by decide +kernel
theorem dX1_yearOf_20 : decode cX1_yearOf 20 = .ok (.i2l, 1) := by decide +kernel
theorem dX1_yearOf_21 : decode cX1_yearOf 21 = .ok (.invokestatic 90, 3) := by decide +kernel
theorem dX1_yearOf_24 : decode cX1_yearOf 24 = .ok (.ldc2_w 63, 3) := by decide +kernel
theorem dX1_yearOf_27 : decode cX1_yearOf 27 = .ok (.ladd, 1) := by decide +kernel
theorem dX1_yearOf_28 : decode cX1_yearOf 28 = .ok (.lstore_n 2, 1) := by decide +kernel
theorem dX1_yearOf_29 : decode cX1_yearOf 29 = .ok (.aload_n 0, 1) := by decide +kernel
theorem dX1_yearOf_30 : decode cX1_yearOf 30 = .ok (.lload_n 2, 1) := by decide +kernel
theorem dX1_yearOf_31 : decode cX1_yearOf 31 = .ok (.invokevirtual 141, 3) := by decide +kernel
theorem dX1_yearOf_34 : decode cX1_yearOf 34 = .ok (.iload_n 1, 1) := by decide +kernel
theorem dX1_yearOf_35 : decode cX1_yearOf 35 = .ok (.i2l, 1) := by decide +kernel
theorem dX1_yearOf_36 : decode cX1_yearOf 36 = .ok (.lcmp, 1) := by decide +kernel
theorem dX1_yearOf_37 : decode cX1_yearOf 37 = .ok (.ifCond .le 10, 3) := by decide +kernel
theorem dX1_yearOf_40 : decode cX1_yearOf 40 = .ok (.lload_n 2, 1) := by decide +kernel
theorem dX1_yearOf_41 : decode cX1_yearOf 41 = .ok (.lconst 1, 1) := by decide +kernel
theorem dX1_yearOf_42 : decode cX1_yearOf 42 = .ok (.lsub, 1) := by decide +kernel
theorem dX1_yearOf_43 : decode cX1_yearOf 43 = .ok (.lstore_n 2, 1) := by decide +kernel
theorem dX1_yearOf_44 : decode cX1_yearOf 44 = .ok (.goto (-15), 3) := by decide +kernel
theorem dX1_yearOf_47 : decode cX1_yearOf 47 = .ok (.lload_n 2, 1) := by decide +kernel
theorem dX1_yearOf_48 : decode cX1_yearOf 48 = .ok (.lreturn, 1) := by decide +kernel
set_option maxRecDepth 20000 in
theorem ggX1_year_X1_isDay : GoodIn wsX1_year wsX1_isDay := goodIn_r _ [4, 5, 6, 7, 8, 3, 9] (by decide +kernel) (by decide +kernel)
set_option maxRecDepth 20000 in
theorem gX1_year_X1_isDay : GoodIn wsX1_year (va_wsS RX1 79 yX1_isDay wsX1_isDay) := goodIn_app (goodIn_of _ (by decide +kernel)) ggX1_year_X1_isDay
set_option maxRecDepth 20000 in
theorem ggX1_year_X1_goesWell : GoodIn wsX1_year wsX1_goesWell := goodIn_r _ [13, 14, 34, 35, 36, 37, 38, 39, 40, 41, 42, 43, 44, 45, 46] (by decide +kernel) (by decide +kernel)
set_option maxRecDepth 20000 in
theorem gX1_year_X1_goesWell : GoodIn wsX1_year (wsV RX1 52 RX1 yX1_goesWell wsX1_goesWell) := goodIn_app (goodIn_of _ (by decide +kernel)) ggX1_year_X1_goesWell
set_option maxRecDepth 20000 in
theorem ggX1_year_X1_yearOf : GoodIn wsX1_year wsX1_yearOf := goodIn_r _ [18, 19, 20, 21, 22, 3, 23, 24, 25, 26, 27, 28, 29, 30, 31, 32, 33, 34, 35, 36, 37, 38, 39, 40, 41, 42, 43, 44, 45, 46] (by decide +kernel) (by decide +kernel)
set_option maxRecDepth 20000 in
theorem gX1_year_X1_yearOf : GoodIn wsX1_year (wsV RX1 144 RX1 yX1_yearOf wsX1_yearOf) := goodIn_app (goodIn_of _ (by decide +kernel)) ggX1_year_X1_yearOf
theorem dX1_year_0 : decode cX1_year 0 = .ok (.aload_n 0, 1) := by decide +kernel
theorem dX1_year_1 : decode cX1_year 1 = .ok (.iload_n 1, 1) := by decide +kernel
theorem dX1_year_2 : decode cX1_year 2 = .ok (.invokestatic 79, 3) := by decide +kernel
theorem dX1_year_5 : decode cX1_year 5 = .ok (.ifCond .eq 7, 3) := by decide +kernel
theorem dX1_year_8 : decode cX1_year 8 = .ok (.iconst 0, 1) := by decide +kernel
theorem dX1_year_9 : decode cX1_year 9 = .ok (.goto 4, 3) := by decide +kernel
theorem dX1_year_12 : decode cX1_year 12 = .ok (.iconst 1, 1) := by decide +kernel
theorem dX1_year_13 : decode cX1_year 13 = .ok (.invokevirtual 52, 3) := by decide +kernel
theorem dX1_year_16 : decode cX1_year 16 = .ok (.ifCond .eq 12, 3) := by decide +kernel
theorem dX1_year_19 : decode cX1_year 19 = .ok (.aload_n 0, 1) := by decide +kernel
theorem dX1_year_20 : decode cX1_year 20 = .ok (.iload_n 1, 1) := by decide +kernel
theorem dX1_year_21 : decode cX1_year 21 = .ok (.invokevirtual 144, 3) := by decide +kernel
theorem dX1_year_24 : decode cX1_year 24 = .ok (.l2i, 1) := by decide +kernel
theorem dX1_year_25 : decode cX1_year 25 = .ok (.goto 4, 3) := by decide +kernel
theorem dX1_year_28 : decode cX1_year 28 = .ok (.iconst 0, 1) := by decide +kernel
theorem dX1_year_29 : decode cX1_year 29 = .ok (.ireturn, 1) := by decide +kernel
set_option maxRecDepth 20000 in
theorem ggX1_placeInYear_X1_isDay : GoodIn wsX1_placeInYear wsX1_isDay := goodIn_r _ [4, 5, 6, 7, 8, 3, 9] (by decide +kernel) (by decide +kernel)
set_option maxRecDepth 20000 in
theorem gX1_placeInYear_X1_isDay : GoodIn wsX1_placeInYear (va_wsS RX1 79 yX1_isDay wsX1_isDay) := goodIn_app (goodIn_of _ (by decide +kernel)) ggX1_placeInYear_X1_isDay
set_option maxRecDepth 20000 in
theorem ggX1_placeInYear_X1_goesWell : GoodIn wsX1_placeInYear wsX1_goesWell := goodIn_r _ [13, 14, 34, 35, 36, 37, 38, 39, 40, 41, 42, 43, 44, 45, 46] (by decide +kernel) (by decide +kernel)
set_option maxRecDepth 20000 in
theorem gX1_placeInYear_X1_goesWell : GoodIn wsX1_placeInYear (wsV RX1 52 RX1 yX1_goesWell wsX1_goesWell) := goodIn_app (goodIn_of _ (by decide +kernel)) ggX1_placeInYear_X1_goesWell
set_option maxRecDepth 20000 in
theorem ggX1_placeInYear_X1_yearOf : GoodIn wsX1_placeInYear wsX1_yearOf := goodIn_r _ [18, 19, 20, 21, 22, 3, 23, 24, 25, 26, 27, 28, 29, 30, 31, 32, 33, 34, 35, 36, 37, 38, 39, 40, 41, 42, 43, 44, 45, 46] (by decide +kernel) (by decide +kernel)
set_option maxRecDepth 20000 in
theorem gX1_placeInYear_X1_yearOf : GoodIn wsX1_placeInYear (wsV RX1 144 RX1 yX1_yearOf wsX1_yearOf) := goodIn_app (goodIn_of _ (by decide +kernel)) ggX1_placeInYear_X1_yearOf
set_option maxRecDepth 20000 in
theorem ggX1_placeInYear_X1_beginOf : GoodIn wsX1_placeInYear wsX1_beginOf := goodIn_r _ [30, 19, 31, 32, 33, 21, 22, 3, 23, 24, 25, 26, 34, 35, 36, 37, 38, 39, 40, 41, 42, 43, 44, 45, 46] (by decide +kernel) (by decide +kernel)
set_option maxRecDepth 20000 in
theorem gX1_placeInYear_X1_beginOf : GoodIn wsX1_placeInYear (wsV RX1 141 RX1 yX1_beginOf wsX1_beginOf) := goodIn_app (goodIn_of _ (by decide +kernel)) ggX1_placeInYear_X1_beginOf
theorem dX1_placeInYear_0 : decode cX1_placeInYear 0 = .ok (.aload_n 0, 1) := by decide +kernel
theorem dX1_placeInYear_1 : decode cX1_placeInYear 1 = .ok (.iload_n 1, 1) := by decide +kernel
theorem dX1_placeInYear_2 : decode cX1_placeInYear 2 = .ok (.invokestatic 79, 3) := by decide +kernel
theorem dX1_placeInYear_5 : decode cX1_placeInYear 5 = .ok (.ifCond .eq 7, 3) := by decide +kernel
theorem dX1_placeInYear_8 : decode cX1_placeInYear 8 = .ok (.iconst 0, 1) := by decide +kernel
theorem dX1_placeInYear_9 : decode cX1_placeInYear 9 = .ok (.goto 4, 3) := by decide +kernel
theorem dX1_placeInYear_12 : decode cX1_placeInYear 12 = .ok (.iconst 1, 1) := by decide +kernel
theorem dX1_placeInYear_13 : decode cX1_placeInYear 13 = .ok (.invokevirtual 52, 3) := by decide +kernel
theorem dX1_placeInYear_16 : decode cX1_placeInYear 16 = .ok (.ifCond .eq 19, 3) := by decide +kernel
theorem dX1_placeInYear_19 : decode cX1_placeInYear 19 = .ok (.iload_n 1, 1) := by decide +kernel
theorem dX1_placeInYear_20 : decode cX1_placeInYear 20 = .ok (.i2l, 1) := by decide +kernel
theorem dX1_placeInYear_21 : decode cX1_placeInYear 21 = .ok (.aload_n 0, 1) := by decide +kernel
theorem dX1_placeInYear_22 : decode cX1_placeInYear 22 = .ok (.aload_n 0, 1) := by decide +kernel
theorem dX1_placeInYear_23 : decode cX1_placeInYear 23 = .ok (.iload_n 1, 1) := by decide +kernel
theorem dX1_placeInYear_24 : decode cX1_placeInYear 24 = .ok (.invokevirtual 144, 3) := by decide +kernel
theorem dX1_placeInYear_27 : decode cX1_placeInYear 27 = .ok (.invokevirtual 141, 3) := by decide +kernel
theorem dX1_placeInYear_30 : decode cX1_placeInYear 30 = .ok (.lsub, 1) := by decide +kernel
theorem dX1_placeInYear_31 : decode cX1_placeInYear 31 = .ok (.l2i, 1) := by decide +kernel
theorem dX1_placeInYear_32 : decode cX1_placeInYear 32 = .ok (.goto 4, 3) := by decide +kernel
theorem dX1_placeInYear_35 : decode cX1_placeInYear 35 = .ok (.iconst 0, 1) := by decide +kernel
theorem dX1_placeInYear_36 : decode cX1_placeInYear 36 = .ok (.ireturn, 1) := by decide +kernel
set_option maxRecDepth 20000 in
theorem ggX1_isYear_X1_in : GoodIn wsX1_isYear wsX1_in := goodIn_r _ [6] (by decide +kernel) (by decide +kernel)
set_option maxRecDepth 20000 in
theorem gX1_isYear_X1_in : GoodIn wsX1_isYear (va_wsS RX1 39 yX1_in wsX1_in) := goodIn_app (goodIn_of _ (by decide +kernel)) ggX1_isYear_X1_in
theorem dX1_isYear_0 : decode cX1_isYear 0 = .ok (.iload_n 0, 1) := by decide +kernel
theorem dX1_isYear_1 : decode cX1_isYear 1 = .ok (.i2l, 1) := by decide +kernel
theorem dX1_isYear_2 : decode cX1_isYear 2 = .ok (.ldc2_w 148, 3) := by decide +kernel
theorem dX1_isYear_5 : decode cX1_isYear 5 = .ok (.ldc2_w 150, 3) := by decide +kernel
theorem dX1_isYear_8 : decode cX1_isYear 8 = .ok (.invokestatic 39, 3) := by decide +kernel
theorem dX1_isYear_11 : decode cX1_isYear 11 = .ok (.ireturn, 1) := by decide +kernel
set_option maxRecDepth 20000 in
theorem ggX1_isLeap_X1_isYear : GoodIn wsX1_isLeap wsX1_isYear := goodIn_r _ [4, 5, 6, 7, 8, 3, 9] (by decide +kernel) (by decide +kernel)
set_option maxRecDepth 20000 in
theorem gX1_isLeap_X1_isYear : GoodIn wsX1_isLeap (va_wsS RX1 152 yX1_isYear wsX1_isYear) := goodIn_app (goodIn_of _ (by decide +kernel)) ggX1_isLeap_X1_isYear
set_option maxRecDepth 20000 in
theorem ggX1_isLeap_X1_goesWell : GoodIn wsX1_isLeap wsX1_goesWell := goodIn_r _ [13, 14, 25, 26, 27, 28, 29, 30, 31, 32, 33, 34, 35, 36, 37] (by decide +kernel) (by decide +kernel)
set_option maxRecDepth 20000 in
theorem gX1_isLeap_X1_goesWell : GoodIn wsX1_isLeap (wsV RX1 52 RX1 yX1_goesWell wsX1_goesWell) := goodIn_app (goodIn_of _ (by decide +kernel)) ggX1_isLeap_X1_goesWell
set_option maxRecDepth 20000 in
theorem ggX1_isLeap_X1_leaps : GoodIn wsX1_isLeap wsX1_leaps := goodIn_r _ [18, 19, 20, 21, 22, 23, 3, 24, 25, 26, 27, 28, 29, 30, 31, 32, 33, 34, 35, 36, 37] (by decide +kernel) (by decide +kernel)
set_option maxRecDepth 20000 in
theorem gX1_isLeap_X1_leaps : GoodIn wsX1_isLeap (wsV RX1 155 RX1 yX1_leaps wsX1_leaps) := goodIn_app (goodIn_of _ (by decide +kernel)) ggX1_isLeap_X1_leaps
theorem dX1_isLeap_0 : decode cX1_isLeap 0 = .ok (.aload_n 0, 1) := by decide +kernel
theorem dX1_isLeap_1 : decode cX1_isLeap 1 = .ok (.iload_n 1, 1) := by decide +kernel
theorem dX1_isLeap_2 : decode cX1_isLeap 2 = .ok (.invokestatic 152, 3) := by decide +kernel
theorem dX1_isLeap_5 : decode cX1_isLeap 5 = .ok (.ifCond .eq 7, 3) := by decide +kernel
theorem dX1_isLeap_8 : decode cX1_isLeap 8 = .ok (.iconst 0, 1) := by decide +kernel
theorem dX1_isLeap_9 : decode cX1_isLeap 9 = .ok (.goto 4, 3) := by decide +kernel
theorem dX1_isLeap_12 : decode cX1_isLeap 12 = .ok (.iconst 1, 1) := by decide +kernel
theorem dX1_isLeap_13 : decode cX1_isLeap 13 = .ok (.invokevirtual 52, 3) := by decide +kernel
theorem dX1_isLeap_16 : decode cX1_isLeap 16 = .ok (.ifCond .eq 16, 3) := by decide +kernel
theorem dX1_isLeap_19 : decode cX1_isLeap 19 = .ok (.aload_n 0, 1) := by decide +kernel
theorem dX1_isLeap_20 : decode cX1_isLeap 20 = .ok (.iload_n 1, 1) := by decide +kernel
theorem dX1_isLeap_21 : decode cX1_isLeap 21 = .ok (.i2l, 1) := by decide +kernel
theorem dX1_isLeap_22 : decode cX1_isLeap 22 = .ok (.invokevirtual 155, 3) := by decide +kernel
theorem dX1_isLeap_25 : decode cX1_isLeap 25 = .ok (.ifCond .eq 7, 3) := by decide +kernel
theorem dX1_isLeap_28 : decode cX1_isLeap 28 = .ok (.iconst 1, 1) := by decide +kernel
theorem dX1_isLeap_29 : decode cX1_isLeap 29 = .ok (.goto 4, 3) := by decide +kernel
theorem dX1_isLeap_32 : decode cX1_isLeap 32 = .ok (.iconst 0, 1) := by decide +kernel
theorem dX1_isLeap_33 : decode cX1_isLeap 33 = .ok (.ireturn, 1) := by decide +kernel
set_option maxRecDepth 20000 in
theorem ggX1_lengthOf_X1_leaps : GoodIn wsX1_lengthOf wsX1_leaps := goodIn_r _ [6, 7, 8, 9, 10, 11, 5, 12, 13, 14, 15, 16, 17, 18, 19, 20, 21, 22, 23, 24, 25] (by decide +kernel) (by decide +kernel)
set_option maxRecDepth 20000 in
theorem gX1_lengthOf_X1_leaps : GoodIn wsX1_lengthOf (wsV RX1 155 RX1 yX1_leaps wsX1_leaps) := goodIn_app (goodIn_of _ (by decide +kernel)) ggX1_lengthOf_X1_leaps
theorem dX1_lengthOf_0 : decode cX1_lengthOf 0 = .ok (.aload_n 0, 1) := by decide +kernel
theorem dX1_lengthOf_1 : decode cX1_lengthOf 1 = .ok (.iload_n 1, 1) := by decide +kernel
theorem dX1_lengthOf_2 : decode cX1_lengthOf 2 = .ok (.i2l, 1) := by decide +kernel
theorem dX1_lengthOf_3 : decode cX1_lengthOf 3 = .ok (.invokevirtual 155, 3) := by decide +kernel
theorem dX1_lengthOf_6 : decode cX1_lengthOf 6 = .ok (.ifCond .eq 13, 3) := by decide +kernel
theorem dX1_lengthOf_9 : decode cX1_lengthOf 9 = .ok (.aload_n 0, 1) := by decide +kernel
theorem dX1_lengthOf_10 : decode cX1_lengthOf 10 = .ok (.getfield 23, 3) := by decide +kernel
theorem dX1_lengthOf_13 : decode cX1_lengthOf 13 = .ok (.i2l, 1) := by decide +kernel
theorem dX1_lengthOf_14 : decode cX1_lengthOf 14 = .ok (.lconst 1, 1) := by decide +kernel
theorem dX1_lengthOf_15 : decode cX1_lengthOf 15 = .ok (.ladd, 1) := by decide +kernel
theorem dX1_lengthOf_16 : decode cX1_lengthOf 16 = .ok (.goto 8, 3) := by decide +kernel
theorem dX1_lengthOf_19 : decode cX1_lengthOf 19 = .ok (.aload_n 0, 1) := by decide +kernel
theorem dX1_lengthOf_20 : decode cX1_lengthOf 20 = .ok (.getfield 23, 3) := by decide +kernel
theorem dX1_lengthOf_23 : decode cX1_lengthOf 23 = .ok (.i2l, 1) := by decide +kernel
theorem dX1_lengthOf_24 : decode cX1_lengthOf 24 = .ok (.lreturn, 1) := by decide +kernel
set_option maxRecDepth 20000 in
theorem ggX1_dayOf_X1_isYear : GoodIn wsX1_dayOf wsX1_isYear := goodIn_r _ [4, 5, 6, 7, 8, 3, 9] (by decide +kernel) (by decide +kernel)
set_option maxRecDepth 20000 in
theorem gX1_dayOf_X1_isYear : GoodIn wsX1_dayOf (va_wsS RX1 152 yX1_isYear wsX1_isYear) := goodIn_app (goodIn_of _ (by decide +kernel)) ggX1_dayOf_X1_isYear
set_option maxRecDepth 20000 in
theorem ggX1_dayOf_X1_lengthOf : GoodIn wsX1_dayOf wsX1_lengthOf := goodIn_r _ [13, 14, 15, 16, 17, 3, 18, 19, 20, 21, 22, 23, 24, 37, 38, 39, 40, 41, 42, 43, 44, 45, 46, 47, 48, 49] (by decide +kernel) (by decide +kernel)
set_option maxRecDepth 20000 in
theorem gX1_dayOf_X1_lengthOf : GoodIn wsX1_dayOf (wsV RX1 159 RX1 yX1_lengthOf wsX1_lengthOf) := goodIn_app (goodIn_of _ (by decide +kernel)) ggX1_dayOf_X1_lengthOf
set_option maxRecDepth 20000 in
theorem ggX1_dayOf_X1_in : GoodIn wsX1_dayOf wsX1_in := goodIn_r _ [9] (by decide +kernel) (by decide +kernel)
set_option maxRecDepth 20000 in
theorem gX1_dayOf_X1_in : GoodIn wsX1_dayOf (va_wsS RX1 39 yX1_in wsX1_in) := goodIn_app (goodIn_of _ (by decide +kernel)) ggX1_dayOf_X1_in
set_option maxRecDepth 20000 in
theorem ggX1_dayOf_X1_goesWell : GoodIn wsX1_dayOf wsX1_goesWell := goodIn_r _ [28, 29, 37, 38, 39, 40, 41, 42, 43, 44, 45, 46, 47, 48, 49] (by decide +kernel) (by decide +kernel)
set_option maxRecDepth 20000 in
theorem gX1_dayOf_X1_goesWell : GoodIn wsX1_dayOf (wsV RX1 52 RX1 yX1_goesWell wsX1_goesWell) := goodIn_app (goodIn_of _ (by decide +kernel)) ggX1_dayOf_X1_goesWell
set_option maxRecDepth 20000 in
theorem ggX1_dayOf_X1_beginOf : GoodIn wsX1_dayOf wsX1_beginOf := goodIn_r _ [33, 14, 19, 20, 21, 34, 35, 3, 36, 22, 23, 24, 37, 38, 39, 40, 41, 42, 43, 44, 45, 46, 47, 48, 49] (by decide +kernel) (by decide +kernel)
set_option maxRecDepth 20000 in
theorem gX1_dayOf_X1_beginOf : GoodIn wsX1_dayOf (wsV RX1 141 RX1 yX1_beginOf wsX1_beginOf) := goodIn_app (goodIn_of _ (by decide +kernel)) ggX1_dayOf_X1_beginOf
theorem dX1_dayOf_0 : decode cX1_dayOf 0 = .ok (.iload_n 1, 1) := by decide +kernel
theorem dX1_dayOf_1 : decode cX1_dayOf 1 = .ok (.invokestatic 152, 3) := by decide +kernel
theorem dX1_dayOf_4 : decode cX1_dayOf 4 = .ok (.ifCond .eq 23, 3) := by decide +kernel
theorem dX1_dayOf_7 : decode cX1_dayOf 7 = .ok (.iload_n 2, 1) := by decide +kernel
theorem dX1_dayOf_8 : decode cX1_dayOf 8 = .ok (.i2l, 1) := by decide +kernel
theorem dX1_dayOf_9 : decode cX1_dayOf 9 = .ok (.lconst 0, 1) := by decide +kernel
theorem dX1_dayOf_10 : decode cX1_dayOf 10 = .ok (.aload_n 0, 1) := by decide +kernel
theorem dX1_dayOf_11 : decode cX1_dayOf 11 = .ok (.iload_n 1, 1) := by decide +kernel
theorem dX1_dayOf_12 : decode cX1_dayOf 12 = .ok (.invokevirtual 159, 3) := by decide +kernel
theorem dX1_dayOf_15 : decode cX1_dayOf 15 = .ok (.lconst 1, 1) := by decide +kernel
theorem dX1_dayOf_16 : decode cX1_dayOf 16 = .ok (.lsub, 1) := by decide +kernel
theorem dX1_dayOf_17 : decode cX1_dayOf 17 = .ok (.invokestatic 39, 3) := by decide +kernel
theorem dX1_dayOf_20 : decode cX1_dayOf 20 = .ok (.ifCond .eq 7, 3) := by decide +kernel
theorem dX1_dayOf_23 : decode cX1_dayOf 23 = .ok (.iconst 1, 1) := by decide +kernel
theorem dX1_dayOf_24 : decode cX1_dayOf 24 = .ok (.goto 4, 3) := by decide +kernel
theorem dX1_dayOf_27 : decode cX1_dayOf 27 = .ok (.iconst 0, 1) := by decide +kernel
theorem dX1_dayOf_28 : decode cX1_dayOf 28 = .ok (.istore_n 3, 1) := by decide +kernel
theorem dX1_dayOf_29 : decode cX1_dayOf 29 = .ok (.aload_n 0, 1) := by decide +kernel
theorem dX1_dayOf_30 : decode cX1_dayOf 30 = .ok (.iload_n 3, 1) := by decide +kernel
theorem dX1_dayOf_31 : decode cX1_dayOf 31 = .ok (.ifCond .eq 7, 3) := by decide +kernel
theorem dX1_dayOf_34 : decode cX1_dayOf 34 = .ok (.iconst 0, 1) := by decide +kernel
theorem dX1_dayOf_35 : decode cX1_dayOf 35 = .ok (.goto 4, 3) := by decide +kernel
theorem dX1_dayOf_38 : decode cX1_dayOf 38 = .ok (.iconst 1, 1) := by decide +kernel
theorem dX1_dayOf_39 : decode cX1_dayOf 39 = .ok (.invokevirtual 52, 3) := by decide +kernel
theorem dX1_dayOf_42 : decode cX1_dayOf 42 = .ok (.ifCond .eq 15, 3) := by decide +kernel
theorem dX1_dayOf_45 : decode cX1_dayOf 45 = .ok (.aload_n 0, 1) := by decide +kernel
theorem dX1_dayOf_46 : decode cX1_dayOf 46 = .ok (.iload_n 1, 1) := by decide +kernel
theorem dX1_dayOf_47 : decode cX1_dayOf 47 = .ok (.i2l, 1) := by decide +kernel
theorem dX1_dayOf_48 : decode cX1_dayOf 48 = .ok (.invokevirtual 141, 3) := by decide +kernel
theorem dX1_dayOf_51 : decode cX1_dayOf 51 = .ok (.l2i, 1) := by decide +kernel
theorem dX1_dayOf_52 : decode cX1_dayOf 52 = .ok (.iload_n 2, 1) := by decide +kernel
theorem dX1_dayOf_53 : decode cX1_dayOf 53 = .ok (.iadd, 1) := by decide +kernel
theorem dX1_dayOf_54 : decode cX1_dayOf 54 = .ok (.goto 4, 3) := by decide +kernel
theorem dX1_dayOf_57 : decode cX1_dayOf 57 = .ok (.iconst 0, 1) := by decide +kernel
theorem dX1_dayOf_58 : decode cX1_dayOf 58 = .ok (.ireturn, 1) := by decide +kernel
set_option maxRecDepth 20000 in
theorem ggX1_timesInYear_X1_isMarket : GoodIn wsX1_timesInYear wsX1_isMarket := goodIn_r _ [5, 6, 7, 8, 4, 9, 52, 53, 54, 55, 56, 57, 58, 59, 60, 61, 62, 63, 64] (by decide +kernel) (by decide +kernel)
set_option maxRecDepth 20000 in
theorem gX1_timesInYear_X1_isMarket : GoodIn wsX1_timesInYear (wsV RX1 56 RX1 yX1_isMarket wsX1_isMarket) := goodIn_app (goodIn_of _ (by decide +kernel)) ggX1_timesInYear_X1_isMarket
set_option maxRecDepth 20000 in
theorem ggX1_timesInYear_X1_isYear : GoodIn wsX1_timesInYear wsX1_isYear := goodIn_r _ [12, 13, 14, 7, 8, 4, 9] (by decide +kernel) (by decide +kernel)
set_option maxRecDepth 20000 in
theorem gX1_timesInYear_X1_isYear : GoodIn wsX1_timesInYear (va_wsS RX1 152 yX1_isYear wsX1_isYear) := goodIn_app (goodIn_of _ (by decide +kernel)) ggX1_timesInYear_X1_isYear
set_option maxRecDepth 20000 in
theorem ggX1_timesInYear_X1_goesWell : GoodIn wsX1_timesInYear wsX1_goesWell := goodIn_r _ [18, 19, 52, 53, 54, 55, 56, 57, 58, 59, 60, 61, 62, 63, 64] (by decide +kernel) (by decide +kernel)
set_option maxRecDepth 20000 in
theorem gX1_timesInYear_X1_goesWell : GoodIn wsX1_timesInYear (wsV RX1 52 RX1 yX1_goesWell wsX1_goesWell) := goodIn_app (goodIn_of _ (by decide +kernel)) ggX1_timesInYear_X1_goesWell
set_option maxRecDepth 20000 in
theorem ggX1_timesInYear_X1_beginOf : GoodIn wsX1_timesInYear wsX1_beginOf := goodIn_r _ [23, 24, 25, 26, 27, 28, 29, 4, 30, 31, 32, 33, 52, 53, 54, 55, 56, 57, 58, 59, 60, 61, 62, 63, 64] (by decide +kernel) (by decide +kernel)
set_option maxRecDepth 20000 in
theorem gX1_timesInYear_X1_beginOf : GoodIn wsX1_timesInYear (wsV RX1 141 RX1 yX1_beginOf wsX1_beginOf) := goodIn_app (goodIn_of _ (by decide +kernel)) ggX1_timesInYear_X1_beginOf
set_option maxRecDepth 20000 in
theorem ggX1_timesInYear_X1_lengthOf : GoodIn wsX1_timesInYear wsX1_lengthOf := goodIn_r _ [37, 24, 38, 39, 40, 4, 41, 25, 26, 27, 31, 32, 33, 52, 53, 54, 55, 56, 57, 58, 59, 60, 61, 62, 63, 64] (by decide +kernel) (by decide +kernel)
set_option maxRecDepth 20000 in
theorem gX1_timesInYear_X1_lengthOf : GoodIn wsX1_timesInYear (wsV RX1 159 RX1 yX1_lengthOf wsX1_lengthOf) := goodIn_app (goodIn_of _ (by decide +kernel)) ggX1_timesInYear_X1_lengthOf
set_option maxRecDepth 20000 in
theorem ggX1_timesInYear_X1_count : GoodIn wsX1_timesInYear wsX1_count := goodIn_r _ [45, 46, 47, 48, 4, 49, 50, 51, 28, 29, 30, 31, 32, 33, 52, 53, 54, 55, 56, 57, 58, 59, 60, 61, 62, 63, 64] (by decide +kernel) (by decide +kernel)
set_option maxRecDepth 20000 in
theorem gX1_timesInYear_X1_count : GoodIn wsX1_timesInYear (wsV RX1 97 RX1 yX1_count wsX1_count) := goodIn_app (goodIn_of _ (by decide +kernel)) ggX1_timesInYear_X1_count
theorem dX1_timesInYear_0 : decode cX1_timesInYear 0 = .ok (.aload_n 0, 1) := by decide +kernel
theorem dX1_timesInYear_1 : decode cX1_timesInYear 1 = .ok (.aload_n 0, 1) := by decide +kernel
theorem dX1_timesInYear_2 : decode cX1_timesInYear 2 = .ok (.iload_n 1, 1) := by decide +kernel
theorem dX1_timesInYear_3 : decode cX1_timesInYear 3 = .ok (.invokevirtual 56, 3) := by decide +kernel
theorem dX1_timesInYear_6 : decode cX1_timesInYear 6 = .ok (.ifCond .ne 7, 3) := by decide +kernel
theorem dX1_timesInYear_9 : decode cX1_timesInYear 9 = .ok (.iconst 1, 1) := by decide +kernel
theorem dX1_timesInYear_10 : decode cX1_timesInYear 10 = .ok (.goto 15, 3) := by decide +kernel
theorem dX1_timesInYear_13 : decode cX1_timesInYear 13 = .ok (.iload_n 2, 1) := by decide +kernel
theorem dX1_timesInYear_14 : decode cX1_timesInYear 14 = .ok (.invokestatic 152, 3) := by decide +kernel
theorem dX1_timesInYear_17 : decode cX1_timesInYear 17 = .ok (.ifCond .eq 7, 3) := by decide +kernel
theorem dX1_timesInYear_20 : decode cX1_timesInYear 20 = .ok (.iconst 0, 1) := by decide +kernel
theorem dX1_timesInYear_21 : decode cX1_timesInYear 21 = .ok (.goto 4, 3) := by decide +kernel
theorem dX1_timesInYear_24 : decode cX1_timesInYear 24 = .ok (.iconst 2, 1) := by decide +kernel
theorem dX1_timesInYear_25 : decode cX1_timesInYear 25 = .ok (.invokevirtual 52, 3) := by decide +kernel
theorem dX1_timesInYear_28 : decode cX1_timesInYear 28 = .ok (.ifCond .ne 5, 3) := by decide +kernel
theorem dX1_timesInYear_31 : decode cX1_timesInYear 31 = .ok (.iconst 0, 1) := by decide +kernel
theorem dX1_timesInYear_32 : decode cX1_timesInYear 32 = .ok (.ireturn, 1) := by decide +kernel
theorem dX1_timesInYear_33 : decode cX1_timesInYear 33 = .ok (.aload_n 0, 1) := by decide +kernel
theorem dX1_timesInYear_34 : decode cX1_timesInYear 34 = .ok (.iload_n 1, 1) := by decide +kernel
theorem dX1_timesInYear_35 : decode cX1_timesInYear 35 = .ok (.aload_n 0, 1) := by decide +kernel
theorem dX1_timesInYear_36 : decode cX1_timesInYear 36 = .ok (.iload_n 2, 1) := by decide +kernel
theorem dX1_timesInYear_37 : decode cX1_timesInYear 37 = .ok (.i2l, 1) := by decide +kernel
theorem dX1_timesInYear_38 : decode cX1_timesInYear 38 = .ok (.invokevirtual 141, 3) := by decide +kernel
theorem dX1_timesInYear_41 : decode cX1_timesInYear 41 = .ok (.aload_n 0, 1) := by decide +kernel
theorem dX1_timesInYear_42 : decode cX1_timesInYear 42 = .ok (.iload_n 2, 1) := by decide +kernel
theorem dX1_timesInYear_43 : decode cX1_timesInYear 43 = .ok (.i2l, 1) := by decide +kernel
theorem dX1_timesInYear_44 : decode cX1_timesInYear 44 = .ok (.invokevirtual 141, 3) := by decide +kernel
theorem dX1_timesInYear_47 : decode cX1_timesInYear 47 = .ok (.aload_n 0, 1) := by decide +kernel
theorem dX1_timesInYear_48 : decode cX1_timesInYear 48 = .ok (.iload_n 2, 1) := by decide +kernel
theorem dX1_timesInYear_49 : decode cX1_timesInYear 49 = .ok (.invokevirtual 159, 3) := by decide +kernel
theorem dX1_timesInYear_52 : decode cX1_timesInYear 52 = .ok (.ladd, 1) := by decide +kernel
theorem dX1_timesInYear_53 : decode cX1_timesInYear 53 = .ok (.lconst 1, 1) := by decide +kernel
theorem dX1_timesInYear_54 : decode cX1_timesInYear 54 = .ok (.lsub, 1) := by decide +kernel
theorem dX1_timesInYear_55 : decode cX1_timesInYear 55 = .ok (.invokevirtual 97, 3) := by decide +kernel
theorem dX1_timesInYear_58 : decode cX1_timesInYear 58 = .ok (.ireturn, 1) := by decide +kernel
theorem dJ6_bitCount_0f7a4_0 : decode cJ6_bitCount_0f7a4 0 = .ok (.iload_n 0, 1) := by decide +kernel
theorem dJ6_bitCount_0f7a4_1 : decode cJ6_bitCount_0f7a4 1 = .ok (.iload_n 0, 1) := by decide +kernel
theorem dJ6_bitCount_0f7a4_2 : decode cJ6_bitCount_0f7a4 2 = .ok (.iconst 1, 1) := by decide +kernel
theorem dJ6_bitCount_0f7a4_3 : decode cJ6_bitCount_0f7a4 3 = .ok (.iushr, 1) := by decide +kernel
theorem dJ6_bitCount_0f7a4_4 : decode cJ6_bitCount_0f7a4 4 = .ok (.ldc_w 265, 3) := by decide +kernel
theorem dJ6_bitCount_0f7a4_7 : decode cJ6_bitCount_0f7a4 7 = .ok (.iand, 1) := by decide +kernel
theorem dJ6_bitCount_0f7a4_8 : decode cJ6_bitCount_0f7a4 8 = .ok (.isub, 1) := by decide +kernel
theorem dJ6_bitCount_0f7a4_9 : decode cJ6_bitCount_0f7a4 9 = .ok (.istore_n 0, 1) := by decide +kernel
theorem dJ6_bitCount_0f7a4_10 : decode cJ6_bitCount_0f7a4 10 = .ok (.iload_n 0, 1) := by decide +kernel
theorem dJ6_bitCount_0f7a4_11 : decode cJ6_bitCount_0f7a4 11 = .ok (.ldc_w 266, 3) := by decide +kernel
theorem dJ6_bitCount_0f7a4_14 : decode cJ6_bitCount_0f7a4 14 = .ok (.iand, 1) := by decide +kernel
theorem dJ6_bitCount_0f7a4_15 : decode cJ6_bitCount_0f7a4 15 = .ok (.iload_n 0, 1) := by decide +kernel
theorem dJ6_bitCount_0f7a4_16 : decode cJ6_bitCount_0f7a4 16 = .ok (.iconst 2, 1) := by decide +kernel
theorem dJ6_bitCount_0f7a4_17 : decode cJ6_bitCount_0f7a4 17 = .ok (.iushr, 1) := by decide +kernel
theorem dJ6_bitCount_0f7a4_18 : decode cJ6_bitCount_0f7a4 18 = .ok (.ldc_w 266, 3) := by decide +kernel
theorem dJ6_bitCount_0f7a4_21 : decode cJ6_bitCount_0f7a4 21 = .ok (.iand, 1) := by decide +kernel
theorem dJ6_bitCount_0f7a4_22 : decode cJ6_bitCount_0f7a4 22 = .ok (.iadd, 1) := by decide +kernel
theorem dJ6_bitCount_0f7a4_23 : decode cJ6_bitCount_0f7a4 23 = .ok (.istore_n 0, 1) := by decide +kernel
theorem dJ6_bitCount_0f7a4_24 : decode cJ6_bitCount_0f7a4 24 = .ok (.iload_n 0, 1) := by decide +kernel
theorem dJ6_bitCount_0f7a4_25 : decode cJ6_bitCount_0f7a4 25 = .ok (.iload_n 0, 1) := by decide +kernel
theorem dJ6_bitCount_0f7a4_26 : decode cJ6_bitCount_0f7a4 26 = .ok (.iconst 4, 1) := by decide +kernel
theorem dJ6_bitCount_0f7a4_27 : decode cJ6_bitCount_0f7a4 27 = .ok (.iushr, 1) := by decide +kernel
theorem dJ6_bitCount_0f7a4_28 : decode cJ6_bitCount_0f7a4 28 = .ok (.iadd, 1) := by decide +kernel
theorem dJ6_bitCount_0f7a4_29 : decode cJ6_bitCount_0f7a4 29 = .ok (.ldc_w 267, 3) := by decide +kernel
theorem dJ6_bitCount_0f7a4_32 : decode cJ6_bitCount_0f7a4 32 = .ok (.iand, 1) := by decide +kernel
theorem dJ6_bitCount_0f7a4_33 : decode cJ6_bitCount_0f7a4 33 = .ok (.istore_n 0, 1) := by decide +kernel
theorem dJ6_bitCount_0f7a4_34 : decode cJ6_bitCount_0f7a4 34 = .ok (.iload_n 0, 1) := by decide +kernel
theorem dJ6_bitCount_0f7a4_35 : decode cJ6_bitCount_0f7a4 35 = .ok (.iload_n 0, 1) := by decide +kernel
theorem dJ6_bitCount_0f7a4_36 : decode cJ6_bitCount_0f7a4 36 = .ok (.bipush 8, 2) := by decide +kernel
theorem dJ6_bitCount_0f7a4_38 : decode cJ6_bitCount_0f7a4 38 = .ok (.iushr, 1) := by decide +kernel
theorem dJ6_bitCount_0f7a4_39 : decode cJ6_bitCount_0f7a4 39 = .ok (.iadd, 1) := by decide +kernel
theorem dJ6_bitCount_0f7a4_40 : decode cJ6_bitCount_0f7a4 40 = .ok (.istore_n 0, 1) := by decide +kernel
theorem dJ6_bitCount_0f7a4_41 : decode cJ6_bitCount_0f7a4 41 = .ok (.iload_n 0, 1) := by decide +kernel
theorem dJ6_bitCount_0f7a4_42 : decode cJ6_bitCount_0f7a4 42 = .ok (.iload_n 0, 1) := by decide +kernel
theorem dJ6_bitCount_0f7a4_43 : decode cJ6_bitCount_0f7a4 43 = .ok (.bipush 16, 2) := by decide +kernel
theorem dJ6_bitCount_0f7a4_45 : decode cJ6_bitCount_0f7a4 45 = .ok (.iushr, 1) := by decide +kernel
theorem dJ6_bitCount_0f7a4_46 : decode cJ6_bitCount_0f7a4 46 = .ok (.iadd, 1) := by decide +kernel
theorem dJ6_bitCount_0f7a4_47 : decode cJ6_bitCount_0f7a4 47 = .ok (.istore_n 0, 1) := by decide +kernel
theorem dJ6_bitCount_0f7a4_48 : decode cJ6_bitCount_0f7a4 48 = .ok (.iload_n 0, 1) := by decide +kernel
theorem dJ6_bitCount_0f7a4_49 : decode cJ6_bitCount_0f7a4 49 = .ok (.bipush 63, 2) := by decide +kernel
theorem dJ6_bitCount_0f7a4_51 : decode cJ6_bitCount_0f7a4 51 = .ok (.iand, 1) := by decide +kernel
theorem dJ6_bitCount_0f7a4_52 : decode cJ6_bitCount_0f7a4 52 = .ok (.ireturn, 1) := by decide +kernel
theorem dJ9_floorDiv_f86c9_0 : decode cJ9_floorDiv_f86c9 0 = .ok (.lload_n 0, 1) := by decide +kernel
theorem dJ9_floorDiv_f86c9_1 : decode cJ9_floorDiv_f86c9 1 = .ok (.lload_n 2, 1) := by decide +kernel
theorem dJ9_floorDiv_f86c9_2 : decode cJ9_floorDiv_f86c9 2 = .ok (.ldiv, 1) := by decide +kernel
theorem dJ9_floorDiv_f86c9_3 : decode cJ9_floorDiv_f86c9 3 = .ok (.lstore 4, 2) := by decide +kernel
theorem dJ9_floorDiv_f86c9_5 : decode cJ9_floorDiv_f86c9 5 = .ok (.lload_n 0, 1) := by decide +kernel
theorem dJ9_floorDiv_f86c9_6 : decode cJ9_floorDiv_f86c9 6 = .ok (.lload_n 2, 1) := by decide +kernel
theorem dJ9_floorDiv_f86c9_7 : decode cJ9_floorDiv_f86c9 7 = .ok (.lxor, 1) := by decide +kernel
theorem dJ9_floorDiv_f86c9_8 : decode cJ9_floorDiv_f86c9 8 = .ok (.lconst 0, 1) := by decide +kernel
theorem dJ9_floorDiv_f86c9_9 : decode cJ9_floorDiv_f86c9 9 = .ok (.lcmp, 1) := by decide +kernel
theorem dJ9_floorDiv_f86c9_10 : decode cJ9_floorDiv_f86c9 10 = .ok (.ifCond .ge 17, 3) := by decide +kernel
theorem dJ9_floorDiv_f86c9_13 : decode cJ9_floorDiv_f86c9 13 = .ok (.lload 4, 2) := by decide +kernel
theorem dJ9_floorDiv_f86c9_15 : decode cJ9_floorDiv_f86c9 15 = .ok (.lload_n 2, 1) := by decide +kernel
theorem dJ9_floorDiv_f86c9_16 : decode cJ9_floorDiv_f86c9 16 = .ok (.lmul, 1) := by decide +kernel
theorem dJ9_floorDiv_f86c9_17 : decode cJ9_floorDiv_f86c9 17 = .ok (.lload_n 0, 1) := by decide +kernel
theorem dJ9_floorDiv_f86c9_18 : decode cJ9_floorDiv_f86c9 18 = .ok (.lcmp, 1) := by decide +kernel
theorem dJ9_floorDiv_f86c9_19 : decode cJ9_floorDiv_f86c9 19 = .ok (.ifCond .eq 8, 3) := by decide +kernel
theorem dJ9_floorDiv_f86c9_22 : decode cJ9_floorDiv_f86c9 22 = .ok (.lload 4, 2) := by decide +kernel
theorem dJ9_floorDiv_f86c9_24 : decode cJ9_floorDiv_f86c9 24 = .ok (.lconst 1, 1) := by decide +kernel
theorem dJ9_floorDiv_f86c9_25 : decode cJ9_floorDiv_f86c9 25 = .ok (.lsub, 1) := by decide +kernel
theorem dJ9_floorDiv_f86c9_26 : decode cJ9_floorDiv_f86c9 26 = .ok (.lreturn, 1) := by decide +kernel
theorem dJ9_floorDiv_f86c9_27 : decode cJ9_floorDiv_f86c9 27 = .ok (.lload 4, 2) := by decide +kernel
theorem dJ9_floorDiv_f86c9_29 : decode cJ9_floorDiv_f86c9 29 = .ok (.lreturn, 1) := by decide +kernel
theorem dJ9_floorMod_f86c9_0 : decode cJ9_floorMod_f86c9 0 = .ok (.lload_n 0, 1) := by decide +kernel
theorem dJ9_floorMod_f86c9_1 : decode cJ9_floorMod_f86c9 1 = .ok (.lload_n 2, 1) := by decide +kernel
theorem dJ9_floorMod_f86c9_2 : decode cJ9_floorMod_f86c9 2 = .ok (.lrem, 1) := by decide +kernel
theorem dJ9_floorMod_f86c9_3 : decode cJ9_floorMod_f86c9 3 = .ok (.lstore 4, 2) := by decide +kernel
theorem dJ9_floorMod_f86c9_5 : decode cJ9_floorMod_f86c9 5 = .ok (.lload_n 0, 1) := by decide +kernel
theorem dJ9_floorMod_f86c9_6 : decode cJ9_floorMod_f86c9 6 = .ok (.lload_n 2, 1) := by decide +kernel
theorem dJ9_floorMod_f86c9_7 : decode cJ9_floorMod_f86c9 7 = .ok (.lxor, 1) := by decide +kernel
theorem dJ9_floorMod_f86c9_8 : decode cJ9_floorMod_f86c9 8 = .ok (.lconst 0, 1) := by decide +kernel
theorem dJ9_floorMod_f86c9_9 : decode cJ9_floorMod_f86c9 9 = .ok (.lcmp, 1) := by decide +kernel
theorem dJ9_floorMod_f86c9_10 : decode cJ9_floorMod_f86c9 10 = .ok (.ifCond .ge 15, 3) := by decide +kernel
theorem dJ9_floorMod_f86c9_13 : decode cJ9_floorMod_f86c9 13 = .ok (.lload 4, 2) := by decide +kernel
theorem dJ9_floorMod_f86c9_15 : decode cJ9_floorMod_f86c9 15 = .ok (.lconst 0, 1) := by decide +kernel
theorem dJ9_floorMod_f86c9_16 : decode cJ9_floorMod_f86c9 16 = .ok (.lcmp, 1) := by decide +kernel
theorem dJ9_floorMod_f86c9_17 : decode cJ9_floorMod_f86c9 17 = .ok (.ifCond .eq 8, 3) := by decide +kernel
theorem dJ9_floorMod_f86c9_20 : decode cJ9_floorMod_f86c9 20 = .ok (.lload 4, 2) := by decide +kernel
theorem dJ9_floorMod_f86c9_22 : decode cJ9_floorMod_f86c9 22 = .ok (.lload_n 2, 1) := by decide +kernel
theorem dJ9_floorMod_f86c9_23 : decode cJ9_floorMod_f86c9 23 = .ok (.ladd, 1) := by decide +kernel
theorem dJ9_floorMod_f86c9_24 : decode cJ9_floorMod_f86c9 24 = .ok (.lreturn, 1) := by decide +kernel
theorem dJ9_floorMod_f86c9_25 : decode cJ9_floorMod_f86c9 25 = .ok (.lload 4, 2) := by decide +kernel
theorem dJ9_floorMod_f86c9_27 : decode cJ9_floorMod_f86c9 27 = .ok (.lreturn, 1) := by decide +kernel
set_option maxRecDepth 20000 in
theorem ggL_addMarket_X0_addMarket : GoodIn wsL_addMarket wsX0_addMarket := goodIn_ca (goodIn_ca (goodIn_r _ [7, 8, 9, 10, 11, 12, 13, 14, 6, 15, 16, 17, 18, 19, 20, 21, 22, 23, 24, 25, 26, 27, 28, 29, 30, 31, 32, 33, 34] (by decide +kernel) (by decide +kernel)) (goodIn_sub (fun _ h => List.mem_cons_of_mem _ (List.mem_append_left _ (List.mem_append_right _ h))) (by decide +kernel))) (goodIn_sub (fun _ h => List.mem_cons_of_mem _ (List.mem_append_right _ h)) (by decide +kernel))
set_option maxRecDepth 20000 in
theorem gL_addMarket_X0_addMarket : GoodIn wsL_addMarket (wsV RL 7 RX0 yX0_addMarket wsX0_addMarket) := goodIn_app (goodIn_of _ (by decide +kernel)) ggL_addMarket_X0_addMarket
theorem dL_addMarket_0 : decode cL_addMarket 0 = .ok (.aload_n 3, 1) := by decide +kernel
theorem dL_addMarket_1 : decode cL_addMarket 1 = .ok (.iconst 0, 1) := by decide +kernel
theorem dL_addMarket_2 : decode cL_addMarket 2 = .ok (.aload_n 0, 1) := by decide +kernel
theorem dL_addMarket_3 : decode cL_addMarket 3 = .ok (.iload_n 1, 1) := by decide +kernel
theorem dL_addMarket_4 : decode cL_addMarket 4 = .ok (.iload_n 2, 1) := by decide +kernel
theorem dL_addMarket_5 : decode cL_addMarket 5 = .ok (.invokevirtual 7, 3) := by decide +kernel
theorem dL_addMarket_8 : decode cL_addMarket 8 = .ok (.i2l, 1) := by decide +kernel
theorem dL_addMarket_9 : decode cL_addMarket 9 = .ok (.lastore, 1) := by decide +kernel
theorem dL_addMarket_10 : decode cL_addMarket 10 = .ok (.goto 11, 3) := by decide +kernel
theorem dL_addMarket_13 : decode cL_addMarket 13 = .ok (.astore 4, 2) := by decide +kernel
theorem dL_addMarket_15 : decode cL_addMarket 15 = .ok (.iconst 1, 1) := by decide +kernel
theorem dL_addMarket_16 : decode cL_addMarket 16 = .ok (.ireturn, 1) := by decide +kernel
theorem dL_addMarket_17 : decode cL_addMarket 17 = .ok (.astore 4, 2) := by decide +kernel
theorem dL_addMarket_19 : decode cL_addMarket 19 = .ok (.iconst 2, 1) := by decide +kernel
theorem dL_addMarket_20 : decode cL_addMarket 20 = .ok (.ireturn, 1) := by decide +kernel
theorem dL_addMarket_21 : decode cL_addMarket 21 = .ok (.iconst 0, 1) := by decide +kernel
theorem dL_addMarket_22 : decode cL_addMarket 22 = .ok (.ireturn, 1) := by decide +kernel
set_option maxRecDepth 20000 in
theorem ggL_shift_X0_shift : GoodIn wsL_shift wsX0_shift := goodIn_ca (goodIn_ca (goodIn_r _ [7, 8, 9, 10, 11, 6, 12, 13, 14, 15, 16, 17, 18, 19, 20, 21, 22, 23, 24, 25, 26, 27, 28, 29, 30, 31, 32, 33, 34, 35, 36, 37, 38, 39, 40, 41, 42, 43, 44, 45, 46, 47, 48, 49, 50, 51, 52, 53] (by decide +kernel) (by decide +kernel)) (goodIn_sub (fun _ h => List.mem_cons_of_mem _ (List.mem_append_left _ (List.mem_append_right _ h))) (by decide +kernel))) (goodIn_sub (fun _ h => List.mem_cons_of_mem _ (List.mem_append_right _ h)) (by decide +kernel))
set_option maxRecDepth 20000 in
theorem gL_shift_X0_shift : GoodIn wsL_shift (wsV RL 17 RX0 yX0_shift wsX0_shift) := goodIn_app (goodIn_of _ (by decide +kernel)) ggL_shift_X0_shift
theorem dL_shift_0 : decode cL_shift 0 = .ok (.aload_n 3, 1) := by decide +kernel
theorem dL_shift_1 : decode cL_shift 1 = .ok (.iconst 0, 1) := by decide +kernel
theorem dL_shift_2 : decode cL_shift 2 = .ok (.aload_n 0, 1) := by decide +kernel
theorem dL_shift_3 : decode cL_shift 3 = .ok (.iload_n 1, 1) := by decide +kernel
theorem dL_shift_4 : decode cL_shift 4 = .ok (.iload_n 2, 1) := by decide +kernel
theorem dL_shift_5 : decode cL_shift 5 = .ok (.invokevirtual 17, 3) := by decide +kernel
theorem dL_shift_8 : decode cL_shift 8 = .ok (.i2l, 1) := by decide +kernel
theorem dL_shift_9 : decode cL_shift 9 = .ok (.lastore, 1) := by decide +kernel
theorem dL_shift_10 : decode cL_shift 10 = .ok (.goto 11, 3) := by decide +kernel
theorem dL_shift_13 : decode cL_shift 13 = .ok (.astore 4, 2) := by decide +kernel
theorem dL_shift_15 : decode cL_shift 15 = .ok (.iconst 1, 1) := by decide +kernel
theorem dL_shift_16 : decode cL_shift 16 = .ok (.ireturn, 1) := by decide +kernel
theorem dL_shift_17 : decode cL_shift 17 = .ok (.astore 4, 2) := by decide +kernel
theorem dL_shift_19 : decode cL_shift 19 = .ok (.iconst 2, 1) := by decide +kernel
theorem dL_shift_20 : decode cL_shift 20 = .ok (.ireturn, 1) := by decide +kernel
theorem dL_shift_21 : decode cL_shift 21 = .ok (.iconst 0, 1) := by decide +kernel
theorem dL_shift_22 : decode cL_shift 22 = .ok (.ireturn, 1) := by decide +kernel
set_option maxRecDepth 20000 in
theorem ggL_setMoon_X0_setMoon : GoodIn wsL_setMoon wsX0_setMoon := goodIn_ca (goodIn_r _ [6, 7, 8, 9, 10, 11, 5, 12, 13, 14, 15, 16, 17, 18, 19, 20, 21, 22, 23, 24, 25, 26, 27] (by decide +kernel) (by decide +kernel)) (goodIn_sub (fun _ h => List.mem_cons_of_mem _ (List.mem_append_right _ h)) (by decide +kernel))
set_option maxRecDepth 20000 in
theorem gL_setMoon_X0_setMoon : GoodIn wsL_setMoon (wsV RL 22 RX0 yX0_setMoon wsX0_setMoon) := goodIn_app (goodIn_of _ (by decide +kernel)) ggL_setMoon_X0_setMoon
theorem dL_setMoon_0 : decode cL_setMoon 0 = .ok (.aload_n 0, 1) := by decide +kernel
theorem dL_setMoon_1 : decode cL_setMoon 1 = .ok (.iload_n 1, 1) := by decide +kernel
theorem dL_setMoon_2 : decode cL_setMoon 2 = .ok (.iload_n 2, 1) := by decide +kernel
theorem dL_setMoon_3 : decode cL_setMoon 3 = .ok (.iload_n 3, 1) := by decide +kernel
theorem dL_setMoon_4 : decode cL_setMoon 4 = .ok (.invokevirtual 22, 3) := by decide +kernel
theorem dL_setMoon_7 : decode cL_setMoon 7 = .ok (.goto 7, 3) := by decide +kernel
theorem dL_setMoon_10 : decode cL_setMoon 10 = .ok (.astore 4, 2) := by decide +kernel
theorem dL_setMoon_12 : decode cL_setMoon 12 = .ok (.iconst 1, 1) := by decide +kernel
theorem dL_setMoon_13 : decode cL_setMoon 13 = .ok (.ireturn, 1) := by decide +kernel
theorem dL_setMoon_14 : decode cL_setMoon 14 = .ok (.iconst 0, 1) := by decide +kernel
theorem dL_setMoon_15 : decode cL_setMoon 15 = .ok (.ireturn, 1) := by decide +kernel
set_option maxRecDepth 20000 in
theorem ggL_setYear_X0_setYear : GoodIn wsL_setYear wsX0_setYear := goodIn_ca (goodIn_r _ [6, 7, 8, 9, 10, 11, 12, 5, 13, 14, 15, 16, 17, 18, 19, 20, 21, 22, 23, 24, 25, 26, 27, 28] (by decide +kernel) (by decide +kernel)) (goodIn_sub (fun _ h => List.mem_cons_of_mem _ (List.mem_append_right _ h)) (by decide +kernel))
set_option maxRecDepth 20000 in
theorem gL_setYear_X0_setYear : GoodIn wsL_setYear (wsV RL 26 RX0 yX0_setYear wsX0_setYear) := goodIn_app (goodIn_of _ (by decide +kernel)) ggL_setYear_X0_setYear
theorem dL_setYear_0 : decode cL_setYear 0 = .ok (.aload_n 0, 1) := by decide +kernel
theorem dL_setYear_1 : decode cL_setYear 1 = .ok (.iload_n 1, 1) := by decide +kernel
theorem dL_setYear_2 : decode cL_setYear 2 = .ok (.iload_n 2, 1) := by decide +kernel
theorem dL_setYear_3 : decode cL_setYear 3 = .ok (.iload_n 3, 1) := by decide +kernel
theorem dL_setYear_4 : decode cL_setYear 4 = .ok (.iload 4, 2) := by decide +kernel
theorem dL_setYear_6 : decode cL_setYear 6 = .ok (.invokevirtual 26, 3) := by decide +kernel
theorem dL_setYear_9 : decode cL_setYear 9 = .ok (.goto 7, 3) := by decide +kernel
theorem dL_setYear_12 : decode cL_setYear 12 = .ok (.astore 5, 2) := by decide +kernel
theorem dL_setYear_14 : decode cL_setYear 14 = .ok (.iconst 1, 1) := by decide +kernel
theorem dL_setYear_15 : decode cL_setYear 15 = .ok (.ireturn, 1) := by decide +kernel
theorem dL_setYear_16 : decode cL_setYear 16 = .ok (.iconst 0, 1) := by decide +kernel
theorem dL_setYear_17 : decode cL_setYear 17 = .ok (.ireturn, 1) := by decide +kernel
set_option maxRecDepth 20000 in
theorem ggL_isHeld_X0_isHeld : GoodIn wsL_isHeld wsX0_isHeld := goodIn_ca (goodIn_ca (goodIn_r _ [7, 8, 9, 10, 6, 11, 12, 13, 14, 15, 16, 17, 18, 19, 20, 21, 22, 23, 24, 25, 26, 27, 28, 29, 30, 31, 32, 33, 34, 35, 36, 37, 38, 39, 40, 41, 42, 43, 44, 45, 46, 47, 48, 49, 50, 51, 52, 53, 54, 55, 56, 57, 58, 59, 60, 61, 62] (by decide +kernel) (by decide +kernel)) (goodIn_sub (fun _ h => List.mem_cons_of_mem _ (List.mem_append_left _ (List.mem_append_right _ h))) (by decide +kernel))) (goodIn_sub (fun _ h => List.mem_cons_of_mem _ (List.mem_append_right _ h)) (by decide +kernel))
set_option maxRecDepth 20000 in
theorem gL_isHeld_X0_isHeld : GoodIn wsL_isHeld (wsV RL 30 RX0 yX0_isHeld wsX0_isHeld) := goodIn_app (goodIn_of _ (by decide +kernel)) ggL_isHeld_X0_isHeld
theorem dL_isHeld_0 : decode cL_isHeld 0 = .ok (.aload_n 3, 1) := by decide +kernel
theorem dL_isHeld_1 : decode cL_isHeld 1 = .ok (.iconst 0, 1) := by decide +kernel
theorem dL_isHeld_2 : decode cL_isHeld 2 = .ok (.aload_n 0, 1) := by decide +kernel
theorem dL_isHeld_3 : decode cL_isHeld 3 = .ok (.iload_n 1, 1) := by decide +kernel
theorem dL_isHeld_4 : decode cL_isHeld 4 = .ok (.iload_n 2, 1) := by decide +kernel
theorem dL_isHeld_5 : decode cL_isHeld 5 = .ok (.invokevirtual 30, 3) := by decide +kernel
theorem dL_isHeld_8 : decode cL_isHeld 8 = .ok (.ifCond .eq 7, 3) := by decide +kernel
theorem dL_isHeld_11 : decode cL_isHeld 11 = .ok (.lconst 1, 1) := by decide +kernel
theorem dL_isHeld_12 : decode cL_isHeld 12 = .ok (.goto 4, 3) := by decide +kernel
theorem dL_isHeld_15 : decode cL_isHeld 15 = .ok (.lconst 0, 1) := by decide +kernel
theorem dL_isHeld_16 : decode cL_isHeld 16 = .ok (.lastore, 1) := by decide +kernel
theorem dL_isHeld_17 : decode cL_isHeld 17 = .ok (.goto 11, 3) := by decide +kernel
theorem dL_isHeld_20 : decode cL_isHeld 20 = .ok (.astore 4, 2) := by decide +kernel
theorem dL_isHeld_22 : decode cL_isHeld 22 = .ok (.iconst 1, 1) := by decide +kernel
theorem dL_isHeld_23 : decode cL_isHeld 23 = .ok (.ireturn, 1) := by decide +kernel
theorem dL_isHeld_24 : decode cL_isHeld 24 = .ok (.astore 4, 2) := by decide +kernel
theorem dL_isHeld_26 : decode cL_isHeld 26 = .ok (.iconst 2, 1) := by decide +kernel
theorem dL_isHeld_27 : decode cL_isHeld 27 = .ok (.ireturn, 1) := by decide +kernel
theorem dL_isHeld_28 : decode cL_isHeld 28 = .ok (.iconst 0, 1) := by decide +kernel
theorem dL_isHeld_29 : decode cL_isHeld 29 = .ok (.ireturn, 1) := by decide +kernel
set_option maxRecDepth 20000 in
theorem ggL_next_X0_next : GoodIn wsL_next wsX0_next := goodIn_ca (goodIn_ca (goodIn_r _ [7, 8, 9, 10, 6, 11, 12, 13, 14, 15, 16, 17, 18, 19, 20, 21, 22, 23, 24, 25, 26, 27, 28, 29, 30, 31, 32, 33, 34, 35, 36, 37, 38, 39, 40, 41, 42, 43, 44, 45, 46, 47, 48, 49, 50, 51, 52, 53, 54, 55, 56, 57, 58] (by decide +kernel) (by decide +kernel)) (goodIn_sub (fun _ h => List.mem_cons_of_mem _ (List.mem_append_left _ (List.mem_append_right _ h))) (by decide +kernel))) (goodIn_sub (fun _ h => List.mem_cons_of_mem _ (List.mem_append_right _ h)) (by decide +kernel))
set_option maxRecDepth 20000 in
theorem gL_next_X0_next : GoodIn wsL_next (wsV RL 34 RX0 yX0_next wsX0_next) := goodIn_app (goodIn_of _ (by decide +kernel)) ggL_next_X0_next
theorem dL_next_0 : decode cL_next 0 = .ok (.aload_n 3, 1) := by decide +kernel
theorem dL_next_1 : decode cL_next 1 = .ok (.iconst 0, 1) := by decide +kernel
theorem dL_next_2 : decode cL_next 2 = .ok (.aload_n 0, 1) := by decide +kernel
theorem dL_next_3 : decode cL_next 3 = .ok (.iload_n 1, 1) := by decide +kernel
theorem dL_next_4 : decode cL_next 4 = .ok (.iload_n 2, 1) := by decide +kernel
theorem dL_next_5 : decode cL_next 5 = .ok (.invokevirtual 34, 3) := by decide +kernel
theorem dL_next_8 : decode cL_next 8 = .ok (.i2l, 1) := by decide +kernel
theorem dL_next_9 : decode cL_next 9 = .ok (.lastore, 1) := by decide +kernel
theorem dL_next_10 : decode cL_next 10 = .ok (.goto 11, 3) := by decide +kernel
theorem dL_next_13 : decode cL_next 13 = .ok (.astore 4, 2) := by decide +kernel
theorem dL_next_15 : decode cL_next 15 = .ok (.iconst 1, 1) := by decide +kernel
theorem dL_next_16 : decode cL_next 16 = .ok (.ireturn, 1) := by decide +kernel
theorem dL_next_17 : decode cL_next 17 = .ok (.astore 4, 2) := by decide +kernel
theorem dL_next_19 : decode cL_next 19 = .ok (.iconst 2, 1) := by decide +kernel
theorem dL_next_20 : decode cL_next 20 = .ok (.ireturn, 1) := by decide +kernel
theorem dL_next_21 : decode cL_next 21 = .ok (.iconst 0, 1) := by decide +kernel
theorem dL_next_22 : decode cL_next 22 = .ok (.ireturn, 1) := by decide +kernel
set_option maxRecDepth 20000 in
theorem ggL_nearest_X0_nearest : GoodIn wsL_nearest wsX0_nearest := goodIn_ca (goodIn_ca (goodIn_r _ [7, 8, 9, 10, 6, 11, 12, 13, 14, 15, 16, 17, 18, 19, 20, 21, 22, 23, 24, 25, 26, 27, 28, 29, 30, 31, 32, 33, 34, 35, 36, 37, 38, 39, 40, 41, 42, 43, 44, 45, 46, 47, 48, 49, 50, 51, 52, 53, 54, 55, 56, 57, 58] (by decide +kernel) (by decide +kernel)) (goodIn_sub (fun _ h => List.mem_cons_of_mem _ (List.mem_append_left _ (List.mem_append_right _ h))) (by decide +kernel))) (goodIn_sub (fun _ h => List.mem_cons_of_mem _ (List.mem_append_right _ h)) (by decide +kernel))
set_option maxRecDepth 20000 in
theorem gL_nearest_X0_nearest : GoodIn wsL_nearest (wsV RL 37 RX0 yX0_nearest wsX0_nearest) := goodIn_app (goodIn_of _ (by decide +kernel)) ggL_nearest_X0_nearest
theorem dL_nearest_0 : decode cL_nearest 0 = .ok (.aload_n 3, 1) := by decide +kernel
theorem dL_nearest_1 : decode cL_nearest 1 = .ok (.iconst 0, 1) := by decide +kernel
theorem dL_nearest_2 : decode cL_nearest 2 = .ok (.aload_n 0, 1) := by decide +kernel
theorem dL_nearest_3 : decode cL_nearest 3 = .ok (.iload_n 1, 1) := by decide +kernel
theorem dL_nearest_4 : decode cL_nearest 4 = .ok (.iload_n 2, 1) := by decide +kernel
theorem dL_nearest_5 : decode cL_nearest 5 = .ok (.invokevirtual 37, 3) := by decide +kernel
theorem dL_nearest_8 : decode cL_nearest 8 = .ok (.i2l, 1) := by decide +kernel
theorem dL_nearest_9 : decode cL_nearest 9 = .ok (.lastore, 1) := by decide +kernel
theorem dL_nearest_10 : decode cL_nearest 10 = .ok (.goto 11, 3) := by decide +kernel
theorem dL_nearest_13 : decode cL_nearest 13 = .ok (.astore 4, 2) := by decide +kernel
theorem dL_nearest_15 : decode cL_nearest 15 = .ok (.iconst 1, 1) := by decide +kernel
theorem dL_nearest_16 : decode cL_nearest 16 = .ok (.ireturn, 1) := by decide +kernel
theorem dL_nearest_17 : decode cL_nearest 17 = .ok (.astore 4, 2) := by decide +kernel
theorem dL_nearest_19 : decode cL_nearest 19 = .ok (.iconst 2, 1) := by decide +kernel
theorem dL_nearest_20 : decode cL_nearest 20 = .ok (.ireturn, 1) := by decide +kernel
theorem dL_nearest_21 : decode cL_nearest 21 = .ok (.iconst 0, 1) := by decide +kernel
theorem dL_nearest_22 : decode cL_nearest 22 = .ok (.ireturn, 1) := by decide +kernel
set_option maxRecDepth 20000 in
theorem ggL_times_X0_times : GoodIn wsL_times wsX0_times := goodIn_ca (goodIn_ca (goodIn_r _ [7, 8, 9, 10, 6, 11, 12, 13, 14, 15, 16, 17, 18, 19, 20, 21, 22, 23, 24, 25, 26, 27, 28, 29, 30, 31, 32, 33, 34, 35, 36, 37, 38, 39, 40, 41, 42, 43, 44, 45, 46, 47, 48, 49, 50, 51, 52, 53, 54, 55, 56, 57, 58, 59, 60, 61, 62] (by decide +kernel) (by decide +kernel)) (goodIn_sub (fun _ h => List.mem_cons_of_mem _ (List.mem_append_left _ (List.mem_append_right _ h))) (by decide +kernel))) (goodIn_sub (fun _ h => List.mem_cons_of_mem _ (List.mem_append_right _ h)) (by decide +kernel))
set_option maxRecDepth 20000 in
theorem gL_times_X0_times : GoodIn wsL_times (wsV RL 40 RX0 yX0_times wsX0_times) := goodIn_app (goodIn_of _ (by decide +kernel)) ggL_times_X0_times
theorem dL_times_0 : decode cL_times 0 = .ok (.aload 4, 2) := by decide +kernel
theorem dL_times_2 : decode cL_times 2 = .ok (.iconst 0, 1) := by decide +kernel
theorem dL_times_3 : decode cL_times 3 = .ok (.aload_n 0, 1) := by decide +kernel
theorem dL_times_4 : decode cL_times 4 = .ok (.iload_n 1, 1) := by decide +kernel
theorem dL_times_5 : decode cL_times 5 = .ok (.iload_n 2, 1) := by decide +kernel
theorem dL_times_6 : decode cL_times 6 = .ok (.iload_n 3, 1) := by decide +kernel
theorem dL_times_7 : decode cL_times 7 = .ok (.invokevirtual 40, 3) := by decide +kernel
theorem dL_times_10 : decode cL_times 10 = .ok (.i2l, 1) := by decide +kernel
theorem dL_times_11 : decode cL_times 11 = .ok (.lastore, 1) := by decide +kernel
theorem dL_times_12 : decode cL_times 12 = .ok (.goto 11, 3) := by decide +kernel
theorem dL_times_15 : decode cL_times 15 = .ok (.astore 5, 2) := by decide +kernel
theorem dL_times_17 : decode cL_times 17 = .ok (.iconst 1, 1) := by decide +kernel
theorem dL_times_18 : decode cL_times 18 = .ok (.ireturn, 1) := by decide +kernel
theorem dL_times_19 : decode cL_times 19 = .ok (.astore 5, 2) := by decide +kernel
theorem dL_times_21 : decode cL_times 21 = .ok (.iconst 2, 1) := by decide +kernel
theorem dL_times_22 : decode cL_times 22 = .ok (.ireturn, 1) := by decide +kernel
theorem dL_times_23 : decode cL_times 23 = .ok (.iconst 0, 1) := by decide +kernel
theorem dL_times_24 : decode cL_times 24 = .ok (.ireturn, 1) := by decide +kernel
set_option maxRecDepth 20000 in
theorem ggL_heldOn_X0_heldOn : GoodIn wsL_heldOn wsX0_heldOn := goodIn_ca (goodIn_r _ [6, 7, 8, 5, 9, 10, 11, 12, 13, 14, 15, 16, 17, 18, 19, 20, 21, 22, 23, 24, 25, 26, 27, 28, 29, 30, 31, 32, 33, 34, 35, 36, 37, 38, 39, 40, 41, 42, 43, 44, 45, 46, 47, 48, 49, 50, 51, 52, 53, 54, 55, 56, 57, 58, 59] (by decide +kernel) (by decide +kernel)) (goodIn_sub (fun _ h => List.mem_cons_of_mem _ (List.mem_append_right _ h)) (by decide +kernel))
set_option maxRecDepth 20000 in
theorem gL_heldOn_X0_heldOn : GoodIn wsL_heldOn (wsV RL 44 RX0 yX0_heldOn wsX0_heldOn) := goodIn_app (goodIn_of _ (by decide +kernel)) ggL_heldOn_X0_heldOn
theorem dL_heldOn_0 : decode cL_heldOn 0 = .ok (.aload_n 2, 1) := by decide +kernel
theorem dL_heldOn_1 : decode cL_heldOn 1 = .ok (.iconst 0, 1) := by decide +kernel
theorem dL_heldOn_2 : decode cL_heldOn 2 = .ok (.aload_n 0, 1) := by decide +kernel
theorem dL_heldOn_3 : decode cL_heldOn 3 = .ok (.iload_n 1, 1) := by decide +kernel
theorem dL_heldOn_4 : decode cL_heldOn 4 = .ok (.invokevirtual 44, 3) := by decide +kernel
theorem dL_heldOn_7 : decode cL_heldOn 7 = .ok (.i2l, 1) := by decide +kernel
theorem dL_heldOn_8 : decode cL_heldOn 8 = .ok (.lastore, 1) := by decide +kernel
theorem dL_heldOn_9 : decode cL_heldOn 9 = .ok (.goto 6, 3) := by decide +kernel
theorem dL_heldOn_12 : decode cL_heldOn 12 = .ok (.astore_n 3, 1) := by decide +kernel
theorem dL_heldOn_13 : decode cL_heldOn 13 = .ok (.iconst 1, 1) := by decide +kernel
theorem dL_heldOn_14 : decode cL_heldOn 14 = .ok (.ireturn, 1) := by decide +kernel
theorem dL_heldOn_15 : decode cL_heldOn 15 = .ok (.iconst 0, 1) := by decide +kernel
theorem dL_heldOn_16 : decode cL_heldOn 16 = .ok (.ireturn, 1) := by decide +kernel
set_option maxRecDepth 20000 in
theorem ggL_doMeet_X0_doMeet : GoodIn wsL_doMeet wsX0_doMeet := goodIn_ca (goodIn_ca (goodIn_r _ [7, 8, 9, 10, 11, 6, 12, 13, 14, 15, 16, 17, 18, 19, 20, 21, 22, 23, 24, 25, 26, 27, 28, 29, 30, 31, 32, 33, 34, 35, 36, 37, 38, 39, 40, 41, 42, 43, 44, 45, 46, 47, 48, 49, 50, 51, 52, 53, 54, 55, 56, 57, 58, 59, 60, 61, 62, 63, 64, 65, 66, 67, 68, 69, 70, 71, 72, 73, 74, 75, 76, 77, 78, 79, 80] (by decide +kernel) (by decide +kernel)) (goodIn_sub (fun _ h => List.mem_cons_of_mem _ (List.mem_append_left _ (List.mem_append_right _ h))) (by decide +kernel))) (goodIn_sub (fun _ h => List.mem_cons_of_mem _ (List.mem_append_right _ h)) (by decide +kernel))
set_option maxRecDepth 20000 in
theorem gL_doMeet_X0_doMeet : GoodIn wsL_doMeet (wsV RL 48 RX0 yX0_doMeet wsX0_doMeet) := goodIn_app (goodIn_of _ (by decide +kernel)) ggL_doMeet_X0_doMeet
theorem dL_doMeet_0 : decode cL_doMeet 0 = .ok (.aload_n 2, 1) := by decide +kernel
theorem dL_doMeet_1 : decode cL_doMeet 1 = .ok (.iconst 0, 1) := by decide +kernel
theorem dL_doMeet_2 : decode cL_doMeet 2 = .ok (.aload_n 0, 1) := by decide +kernel
theorem dL_doMeet_3 : decode cL_doMeet 3 = .ok (.iload_n 1, 1) := by decide +kernel
theorem dL_doMeet_4 : decode cL_doMeet 4 = .ok (.invokevirtual 48, 3) := by decide +kernel
theorem dL_doMeet_7 : decode cL_doMeet 7 = .ok (.ifCond .eq 7, 3) := by decide +kernel
theorem dL_doMeet_10 : decode cL_doMeet 10 = .ok (.lconst 1, 1) := by decide +kernel
theorem dL_doMeet_11 : decode cL_doMeet 11 = .ok (.goto 4, 3) := by decide +kernel
theorem dL_doMeet_14 : decode cL_doMeet 14 = .ok (.lconst 0, 1) := by decide +kernel
theorem dL_doMeet_15 : decode cL_doMeet 15 = .ok (.lastore, 1) := by decide +kernel
theorem dL_doMeet_16 : decode cL_doMeet 16 = .ok (.goto 9, 3) := by decide +kernel
theorem dL_doMeet_19 : decode cL_doMeet 19 = .ok (.astore_n 3, 1) := by decide +kernel
theorem dL_doMeet_20 : decode cL_doMeet 20 = .ok (.iconst 1, 1) := by decide +kernel
theorem dL_doMeet_21 : decode cL_doMeet 21 = .ok (.ireturn, 1) := by decide +kernel
theorem dL_doMeet_22 : decode cL_doMeet 22 = .ok (.astore_n 3, 1) := by decide +kernel
theorem dL_doMeet_23 : decode cL_doMeet 23 = .ok (.iconst 2, 1) := by decide +kernel
theorem dL_doMeet_24 : decode cL_doMeet 24 = .ok (.ireturn, 1) := by decide +kernel
theorem dL_doMeet_25 : decode cL_doMeet 25 = .ok (.iconst 0, 1) := by decide +kernel
theorem dL_doMeet_26 : decode cL_doMeet 26 = .ok (.ireturn, 1) := by decide +kernel
set_option maxRecDepth 20000 in
theorem ggL_period_X0_period : GoodIn wsL_period wsX0_period := goodIn_ca (goodIn_ca (goodIn_ca (goodIn_r _ [8, 9, 10, 11, 7, 12, 13, 14, 15, 16, 17, 18, 19, 20, 21, 22, 23, 24, 25, 26, 27, 28, 29, 30, 31, 32, 33, 34, 35, 36, 37, 38, 39, 40, 41, 42, 43, 44, 45, 46, 47, 48, 49, 50, 51, 52, 53, 54, 55, 56, 57, 58, 59, 60, 61, 62, 63, 64, 65, 66, 67, 68, 69, 70, 71, 72, 73, 74, 75, 76, 77, 78, 79, 80, 81, 82, 83, 84, 85, 86, 87, 88, 89, 90] (by decide +kernel) (by decide +kernel)) (goodIn_sub (fun _ h => List.mem_cons_of_mem _ (List.mem_append_left _ (List.mem_append_left _ (List.mem_append_right _ h)))) (by decide +kernel))) (goodIn_sub (fun _ h => List.mem_cons_of_mem _ (List.mem_append_left _ (List.mem_append_right _ h))) (by decide +kernel))) (goodIn_sub (fun _ h => List.mem_cons_of_mem _ (List.mem_append_right _ h)) (by decide +kernel))
set_option maxRecDepth 20000 in
theorem gL_period_X0_period : GoodIn wsL_period (wsV RL 52 RX0 yX0_period wsX0_period) := goodIn_app (goodIn_of _ (by decide +kernel)) ggL_period_X0_period
theorem dL_period_0 : decode cL_period 0 = .ok (.aload_n 2, 1) := by decide +kernel
theorem dL_period_1 : decode cL_period 1 = .ok (.iconst 0, 1) := by decide +kernel
theorem dL_period_2 : decode cL_period 2 = .ok (.aload_n 0, 1) := by decide +kernel
theorem dL_period_3 : decode cL_period 3 = .ok (.iload_n 1, 1) := by decide +kernel
theorem dL_period_4 : decode cL_period 4 = .ok (.invokevirtual 52, 3) := by decide +kernel
theorem dL_period_7 : decode cL_period 7 = .ok (.i2l, 1) := by decide +kernel
theorem dL_period_8 : decode cL_period 8 = .ok (.lastore, 1) := by decide +kernel
theorem dL_period_9 : decode cL_period 9 = .ok (.goto 12, 3) := by decide +kernel
theorem dL_period_12 : decode cL_period 12 = .ok (.astore_n 3, 1) := by decide +kernel
theorem dL_period_13 : decode cL_period 13 = .ok (.iconst 1, 1) := by decide +kernel
theorem dL_period_14 : decode cL_period 14 = .ok (.ireturn, 1) := by decide +kernel
theorem dL_period_15 : decode cL_period 15 = .ok (.astore_n 3, 1) := by decide +kernel
theorem dL_period_16 : decode cL_period 16 = .ok (.iconst 2, 1) := by decide +kernel
theorem dL_period_17 : decode cL_period 17 = .ok (.ireturn, 1) := by decide +kernel
theorem dL_period_18 : decode cL_period 18 = .ok (.astore_n 3, 1) := by decide +kernel
theorem dL_period_19 : decode cL_period 19 = .ok (.iconst 3, 1) := by decide +kernel
theorem dL_period_20 : decode cL_period 20 = .ok (.ireturn, 1) := by decide +kernel
theorem dL_period_21 : decode cL_period 21 = .ok (.iconst 0, 1) := by decide +kernel
theorem dL_period_22 : decode cL_period 22 = .ok (.ireturn, 1) := by decide +kernel
set_option maxRecDepth 20000 in
theorem ggL_meeting_X0_meeting : GoodIn wsL_meeting wsX0_meeting := goodIn_ca (goodIn_ca (goodIn_ca (goodIn_r _ [8, 9, 10, 7, 11, 12, 13, 14, 15, 16, 17, 18, 19, 20, 21, 22, 23, 24, 25, 26, 27, 28, 29, 30, 31, 32, 33, 34, 35, 36, 37, 38, 39, 40, 41, 42, 43, 44, 45, 46, 47, 48, 49, 50, 51, 52, 53, 54, 55, 56, 57, 58, 59, 60, 61, 62, 63, 64, 65, 66, 67, 68, 69, 70, 71, 72, 73, 74, 75, 76, 77, 78, 79, 80, 81, 82, 83, 84, 85, 86, 87, 88, 89, 90, 91, 92, 93, 94, 95] (by decide +kernel) (by decide +kernel)) (goodIn_sub (fun _ h => List.mem_cons_of_mem _ (List.mem_append_left _ (List.mem_append_left _ (List.mem_append_right _ h)))) (by decide +kernel))) (goodIn_sub (fun _ h => List.mem_cons_of_mem _ (List.mem_append_left _ (List.mem_append_right _ h))) (by decide +kernel))) (goodIn_sub (fun _ h => List.mem_cons_of_mem _ (List.mem_append_right _ h)) (by decide +kernel))
set_option maxRecDepth 20000 in
theorem gL_meeting_X0_meeting : GoodIn wsL_meeting (wsV RL 55 RX0 yX0_meeting wsX0_meeting) := goodIn_app (goodIn_of _ (by decide +kernel)) ggL_meeting_X0_meeting
theorem dL_meeting_0 : decode cL_meeting 0 = .ok (.aload_n 3, 1) := by decide +kernel
theorem dL_meeting_1 : decode cL_meeting 1 = .ok (.iconst 0, 1) := by decide +kernel
theorem dL_meeting_2 : decode cL_meeting 2 = .ok (.aload_n 0, 1) := by decide +kernel
theorem dL_meeting_3 : decode cL_meeting 3 = .ok (.iload_n 1, 1) := by decide +kernel
theorem dL_meeting_4 : decode cL_meeting 4 = .ok (.iload_n 2, 1) := by decide +kernel
theorem dL_meeting_5 : decode cL_meeting 5 = .ok (.invokevirtual 55, 3) := by decide +kernel
theorem dL_meeting_8 : decode cL_meeting 8 = .ok (.i2l, 1) := by decide +kernel
theorem dL_meeting_9 : decode cL_meeting 9 = .ok (.lastore, 1) := by decide +kernel
theorem dL_meeting_10 : decode cL_meeting 10 = .ok (.goto 15, 3) := by decide +kernel
theorem dL_meeting_13 : decode cL_meeting 13 = .ok (.astore 4, 2) := by decide +kernel
theorem dL_meeting_15 : decode cL_meeting 15 = .ok (.iconst 1, 1) := by decide +kernel
theorem dL_meeting_16 : decode cL_meeting 16 = .ok (.ireturn, 1) := by decide +kernel
theorem dL_meeting_17 : decode cL_meeting 17 = .ok (.astore 4, 2) := by decide +kernel
theorem dL_meeting_19 : decode cL_meeting 19 = .ok (.iconst 2, 1) := by decide +kernel
theorem dL_meeting_20 : decode cL_meeting 20 = .ok (.ireturn, 1) := by decide +kernel
theorem dL_meeting_21 : decode cL_meeting 21 = .ok (.astore 4, 2) := by decide +kernel
theorem dL_meeting_23 : decode cL_meeting 23 = .ok (.iconst 3, 1) := by decide +kernel
theorem dL_meeting_24 : decode cL_meeting 24 = .ok (.ireturn, 1) := by decide +kernel
theorem dL_meeting_25 : decode cL_meeting 25 = .ok (.iconst 0, 1) := by decide +kernel
theorem dL_meeting_26 : decode cL_meeting 26 = .ok (.ireturn, 1) := by decide +kernel
set_option maxRecDepth 20000 in
theorem ggL_lunarMeeting_X0_lunarMeeting : GoodIn wsL_lunarMeeting wsX0_lunarMeeting := goodIn_ca (goodIn_ca (goodIn_ca (goodIn_r _ [8, 9, 10, 11, 7, 12, 13, 14, 15, 16, 17, 18, 19, 20, 21, 22, 23, 24, 25, 26, 27, 28, 29, 30, 31, 32, 33, 34, 35, 36, 37, 38, 39, 40, 41, 42, 43, 44, 45, 46, 47, 48, 49, 50, 51, 52, 53, 54, 55, 56, 57, 58, 59, 60, 61, 62, 63, 64, 65, 66, 67, 68, 69, 70, 71, 72, 73, 74, 75, 76, 77, 78, 79, 80, 81, 82, 83, 84, 85, 86, 87, 88, 89, 90, 91, 92, 93, 94, 95, 96, 97, 98, 99, 100, 101, 102, 103, 104, 105, 106, 107, 108, 109, 110, 111, 112] (by decide +kernel) (by decide +kernel)) (goodIn_sub (fun _ h => List.mem_cons_of_mem _ (List.mem_append_left _ (List.mem_append_left _ (List.mem_append_right _ h)))) (by decide +kernel))) (goodIn_sub (fun _ h => List.mem_cons_of_mem _ (List.mem_append_left _ (List.mem_append_right _ h))) (by decide +kernel))) (goodIn_sub (fun _ h => List.mem_cons_of_mem _ (List.mem_append_right _ h)) (by decide +kernel))
set_option maxRecDepth 20000 in
theorem gL_lunarMeeting_X0_lunarMeeting : GoodIn wsL_lunarMeeting (wsV RL 58 RX0 yX0_lunarMeeting wsX0_lunarMeeting) := goodIn_app (goodIn_of _ (by decide +kernel)) ggL_lunarMeeting_X0_lunarMeeting
theorem dL_lunarMeeting_0 : decode cL_lunarMeeting 0 = .ok (.aload 5, 2) := by decide +kernel
theorem dL_lunarMeeting_2 : decode cL_lunarMeeting 2 = .ok (.iconst 0, 1) := by decide +kernel
theorem dL_lunarMeeting_3 : decode cL_lunarMeeting 3 = .ok (.aload_n 0, 1) := by decide +kernel
theorem dL_lunarMeeting_4 : decode cL_lunarMeeting 4 = .ok (.iload_n 1, 1) := by decide +kernel
theorem dL_lunarMeeting_5 : decode cL_lunarMeeting 5 = .ok (.iload_n 2, 1) := by decide +kernel
theorem dL_lunarMeeting_6 : decode cL_lunarMeeting 6 = .ok (.iload_n 3, 1) := by decide +kernel
theorem dL_lunarMeeting_7 : decode cL_lunarMeeting 7 = .ok (.iload 4, 2) := by decide +kernel
theorem dL_lunarMeeting_9 : decode cL_lunarMeeting 9 = .ok (.invokevirtual 58, 3) := by decide +kernel
theorem dL_lunarMeeting_12 : decode cL_lunarMeeting 12 = .ok (.lastore, 1) := by decide +kernel
theorem dL_lunarMeeting_13 : decode cL_lunarMeeting 13 = .ok (.goto 15, 3) := by decide +kernel
theorem dL_lunarMeeting_16 : decode cL_lunarMeeting 16 = .ok (.astore 6, 2) := by decide +kernel
theorem dL_lunarMeeting_18 : decode cL_lunarMeeting 18 = .ok (.iconst 1, 1) := by decide +kernel
theorem dL_lunarMeeting_19 : decode cL_lunarMeeting 19 = .ok (.ireturn, 1) := by decide +kernel
theorem dL_lunarMeeting_20 : decode cL_lunarMeeting 20 = .ok (.astore 6, 2) := by decide +kernel
theorem dL_lunarMeeting_22 : decode cL_lunarMeeting 22 = .ok (.iconst 2, 1) := by decide +kernel
theorem dL_lunarMeeting_23 : decode cL_lunarMeeting 23 = .ok (.ireturn, 1) := by decide +kernel
theorem dL_lunarMeeting_24 : decode cL_lunarMeeting 24 = .ok (.astore 6, 2) := by decide +kernel
theorem dL_lunarMeeting_26 : decode cL_lunarMeeting 26 = .ok (.iconst 3, 1) := by decide +kernel
theorem dL_lunarMeeting_27 : decode cL_lunarMeeting 27 = .ok (.ireturn, 1) := by decide +kernel
theorem dL_lunarMeeting_28 : decode cL_lunarMeeting 28 = .ok (.iconst 0, 1) := by decide +kernel
theorem dL_lunarMeeting_29 : decode cL_lunarMeeting 29 = .ok (.ireturn, 1) := by decide +kernel
set_option maxRecDepth 20000 in
theorem ggL_best_X0_best : GoodIn wsL_best wsX0_best := goodIn_ca (goodIn_ca (goodIn_r _ [7, 8, 9, 6, 10, 11, 12, 13, 14, 15, 16, 17, 18, 19, 20, 21, 22, 23, 24, 25, 26, 27, 28, 29, 30, 31, 32, 33, 34, 35, 36, 37, 38, 39, 40, 41, 42, 43, 44, 45, 46, 47, 48, 49, 50, 51, 52, 53, 54, 55, 56, 57, 58, 59, 60, 61, 62, 63, 64, 65, 66, 67, 68, 69, 70, 71, 72, 73] (by decide +kernel) (by decide +kernel)) (goodIn_sub (fun _ h => List.mem_cons_of_mem _ (List.mem_append_left _ (List.mem_append_right _ h))) (by decide +kernel))) (goodIn_sub (fun _ h => List.mem_cons_of_mem _ (List.mem_append_right _ h)) (by decide +kernel))
set_option maxRecDepth 20000 in
theorem gL_best_X0_best : GoodIn wsL_best (wsV RL 62 RX0 yX0_best wsX0_best) := goodIn_app (goodIn_of _ (by decide +kernel)) ggL_best_X0_best
theorem dL_best_0 : decode cL_best 0 = .ok (.aload 4, 2) := by decide +kernel
theorem dL_best_2 : decode cL_best 2 = .ok (.iconst 0, 1) := by decide +kernel
theorem dL_best_3 : decode cL_best 3 = .ok (.aload_n 0, 1) := by decide +kernel
theorem dL_best_4 : decode cL_best 4 = .ok (.iload_n 1, 1) := by decide +kernel
theorem dL_best_5 : decode cL_best 5 = .ok (.iload_n 2, 1) := by decide +kernel
theorem dL_best_6 : decode cL_best 6 = .ok (.iload_n 3, 1) := by decide +kernel
theorem dL_best_7 : decode cL_best 7 = .ok (.invokevirtual 62, 3) := by decide +kernel
theorem dL_best_10 : decode cL_best 10 = .ok (.i2l, 1) := by decide +kernel
theorem dL_best_11 : decode cL_best 11 = .ok (.lastore, 1) := by decide +kernel
theorem dL_best_12 : decode cL_best 12 = .ok (.goto 11, 3) := by decide +kernel
theorem dL_best_15 : decode cL_best 15 = .ok (.astore 5, 2) := by decide +kernel
theorem dL_best_17 : decode cL_best 17 = .ok (.iconst 1, 1) := by decide +kernel
theorem dL_best_18 : decode cL_best 18 = .ok (.ireturn, 1) := by decide +kernel
theorem dL_best_19 : decode cL_best 19 = .ok (.astore 5, 2) := by decide +kernel
theorem dL_best_21 : decode cL_best 21 = .ok (.iconst 2, 1) := by decide +kernel
theorem dL_best_22 : decode cL_best 22 = .ok (.ireturn, 1) := by decide +kernel
theorem dL_best_23 : decode cL_best 23 = .ok (.iconst 0, 1) := by decide +kernel
theorem dL_best_24 : decode cL_best 24 = .ok (.ireturn, 1) := by decide +kernel
set_option maxRecDepth 20000 in
theorem ggL_month_X0_month : GoodIn wsL_month wsX0_month := goodIn_ca (goodIn_r _ [6, 7, 8, 9, 5, 10, 11, 12, 13, 14, 15, 16, 17, 18, 19, 20, 21, 22, 23, 24, 25, 26, 27, 28, 29, 30, 31, 32, 33, 34, 35, 36, 37, 38, 39, 40, 41, 42, 43] (by decide +kernel) (by decide +kernel)) (goodIn_sub (fun _ h => List.mem_cons_of_mem _ (List.mem_append_right _ h)) (by decide +kernel))
set_option maxRecDepth 20000 in
theorem gL_month_X0_month : GoodIn wsL_month (wsV RL 65 RX0 yX0_month wsX0_month) := goodIn_app (goodIn_of _ (by decide +kernel)) ggL_month_X0_month
theorem dL_month_0 : decode cL_month 0 = .ok (.aload_n 2, 1) := by decide +kernel
theorem dL_month_1 : decode cL_month 1 = .ok (.iconst 0, 1) := by decide +kernel
theorem dL_month_2 : decode cL_month 2 = .ok (.aload_n 0, 1) := by decide +kernel
theorem dL_month_3 : decode cL_month 3 = .ok (.iload_n 1, 1) := by decide +kernel
theorem dL_month_4 : decode cL_month 4 = .ok (.invokevirtual 65, 3) := by decide +kernel
theorem dL_month_7 : decode cL_month 7 = .ok (.i2l, 1) := by decide +kernel
theorem dL_month_8 : decode cL_month 8 = .ok (.lastore, 1) := by decide +kernel
theorem dL_month_9 : decode cL_month 9 = .ok (.goto 6, 3) := by decide +kernel
theorem dL_month_12 : decode cL_month 12 = .ok (.astore_n 3, 1) := by decide +kernel
theorem dL_month_13 : decode cL_month 13 = .ok (.iconst 1, 1) := by decide +kernel
theorem dL_month_14 : decode cL_month 14 = .ok (.ireturn, 1) := by decide +kernel
theorem dL_month_15 : decode cL_month 15 = .ok (.iconst 0, 1) := by decide +kernel
theorem dL_month_16 : decode cL_month 16 = .ok (.ireturn, 1) := by decide +kernel
set_option maxRecDepth 20000 in
theorem ggL_lunarDay_X0_lunarDay : GoodIn wsL_lunarDay wsX0_lunarDay := goodIn_ca (goodIn_r _ [6, 7, 8, 5, 9, 10, 11, 12, 13, 14, 15, 16, 17, 18, 19, 20, 21, 22, 23, 24, 25, 26, 27, 28, 29, 30, 31, 32, 33, 34, 35, 36, 37, 38, 39, 40, 41, 42, 43, 44, 45, 46, 47, 48, 49, 50, 51, 52, 53] (by decide +kernel) (by decide +kernel)) (goodIn_sub (fun _ h => List.mem_cons_of_mem _ (List.mem_append_right _ h)) (by decide +kernel))
set_option maxRecDepth 20000 in
theorem gL_lunarDay_X0_lunarDay : GoodIn wsL_lunarDay (wsV RL 68 RX0 yX0_lunarDay wsX0_lunarDay) := goodIn_app (goodIn_of _ (by decide +kernel)) ggL_lunarDay_X0_lunarDay
theorem dL_lunarDay_0 : decode cL_lunarDay 0 = .ok (.aload_n 2, 1) := by decide +kernel
theorem dL_lunarDay_1 : decode cL_lunarDay 1 = .ok (.iconst 0, 1) := by decide +kernel
theorem dL_lunarDay_2 : decode cL_lunarDay 2 = .ok (.aload_n 0, 1) := by decide +kernel
theorem dL_lunarDay_3 : decode cL_lunarDay 3 = .ok (.iload_n 1, 1) := by decide +kernel
theorem dL_lunarDay_4 : decode cL_lunarDay 4 = .ok (.invokevirtual 68, 3) := by decide +kernel
theorem dL_lunarDay_7 : decode cL_lunarDay 7 = .ok (.i2l, 1) := by decide +kernel
theorem dL_lunarDay_8 : decode cL_lunarDay 8 = .ok (.lastore, 1) := by decide +kernel
theorem dL_lunarDay_9 : decode cL_lunarDay 9 = .ok (.goto 6, 3) := by decide +kernel
theorem dL_lunarDay_12 : decode cL_lunarDay 12 = .ok (.astore_n 3, 1) := by decide +kernel
theorem dL_lunarDay_13 : decode cL_lunarDay 13 = .ok (.iconst 1, 1) := by decide +kernel
theorem dL_lunarDay_14 : decode cL_lunarDay 14 = .ok (.ireturn, 1) := by decide +kernel
theorem dL_lunarDay_15 : decode cL_lunarDay 15 = .ok (.iconst 0, 1) := by decide +kernel
theorem dL_lunarDay_16 : decode cL_lunarDay 16 = .ok (.ireturn, 1) := by decide +kernel
set_option maxRecDepth 20000 in
theorem ggL_monthBegin_X0_monthBegin : GoodIn wsL_monthBegin wsX0_monthBegin := goodIn_ca (goodIn_r _ [6, 7, 8, 9, 10, 11, 12, 13, 5, 14, 15, 16, 17, 18, 19, 20, 21, 22, 23, 24, 25, 26, 27, 28, 29, 30, 31, 32, 33, 34, 35, 36] (by decide +kernel) (by decide +kernel)) (goodIn_sub (fun _ h => List.mem_cons_of_mem _ (List.mem_append_right _ h)) (by decide +kernel))
set_option maxRecDepth 20000 in
theorem gL_monthBegin_X0_monthBegin : GoodIn wsL_monthBegin (wsV RL 71 RX0 yX0_monthBegin wsX0_monthBegin) := goodIn_app (goodIn_of _ (by decide +kernel)) ggL_monthBegin_X0_monthBegin
theorem dL_monthBegin_0 : decode cL_monthBegin 0 = .ok (.aload_n 2, 1) := by decide +kernel
theorem dL_monthBegin_1 : decode cL_monthBegin 1 = .ok (.iconst 0, 1) := by decide +kernel
theorem dL_monthBegin_2 : decode cL_monthBegin 2 = .ok (.aload_n 0, 1) := by decide +kernel
theorem dL_monthBegin_3 : decode cL_monthBegin 3 = .ok (.iload_n 1, 1) := by decide +kernel
theorem dL_monthBegin_4 : decode cL_monthBegin 4 = .ok (.invokevirtual 71, 3) := by decide +kernel
theorem dL_monthBegin_7 : decode cL_monthBegin 7 = .ok (.i2l, 1) := by decide +kernel
theorem dL_monthBegin_8 : decode cL_monthBegin 8 = .ok (.lastore, 1) := by decide +kernel
theorem dL_monthBegin_9 : decode cL_monthBegin 9 = .ok (.goto 6, 3) := by decide +kernel
theorem dL_monthBegin_12 : decode cL_monthBegin 12 = .ok (.astore_n 3, 1) := by decide +kernel
theorem dL_monthBegin_13 : decode cL_monthBegin 13 = .ok (.iconst 1, 1) := by decide +kernel
theorem dL_monthBegin_14 : decode cL_monthBegin 14 = .ok (.ireturn, 1) := by decide +kernel
theorem dL_monthBegin_15 : decode cL_monthBegin 15 = .ok (.iconst 0, 1) := by decide +kernel
theorem dL_monthBegin_16 : decode cL_monthBegin 16 = .ok (.ireturn, 1) := by decide +kernel
set_option maxRecDepth 20000 in
theorem ggL_year_X0_year : GoodIn wsL_year wsX0_year := goodIn_ca (goodIn_r _ [6, 7, 8, 5, 9, 10, 11, 12, 13, 14, 15, 16, 17, 18, 19, 20, 21, 22, 23, 24, 25, 26, 27, 28, 29, 30, 31, 32, 33, 34, 35, 36, 37, 38, 39, 40, 41, 42, 43, 44] (by decide +kernel) (by decide +kernel)) (goodIn_sub (fun _ h => List.mem_cons_of_mem _ (List.mem_append_right _ h)) (by decide +kernel))
set_option maxRecDepth 20000 in
theorem gL_year_X0_year : GoodIn wsL_year (wsV RL 74 RX0 yX0_year wsX0_year) := goodIn_app (goodIn_of _ (by decide +kernel)) ggL_year_X0_year
theorem dL_year_0 : decode cL_year 0 = .ok (.aload_n 2, 1) := by decide +kernel
theorem dL_year_1 : decode cL_year 1 = .ok (.iconst 0, 1) := by decide +kernel
theorem dL_year_2 : decode cL_year 2 = .ok (.aload_n 0, 1) := by decide +kernel
theorem dL_year_3 : decode cL_year 3 = .ok (.iload_n 1, 1) := by decide +kernel
theorem dL_year_4 : decode cL_year 4 = .ok (.invokevirtual 74, 3) := by decide +kernel
theorem dL_year_7 : decode cL_year 7 = .ok (.i2l, 1) := by decide +kernel
theorem dL_year_8 : decode cL_year 8 = .ok (.lastore, 1) := by decide +kernel
theorem dL_year_9 : decode cL_year 9 = .ok (.goto 6, 3) := by decide +kernel
theorem dL_year_12 : decode cL_year 12 = .ok (.astore_n 3, 1) := by decide +kernel
theorem dL_year_13 : decode cL_year 13 = .ok (.iconst 1, 1) := by decide +kernel
theorem dL_year_14 : decode cL_year 14 = .ok (.ireturn, 1) := by decide +kernel
theorem dL_year_15 : decode cL_year 15 = .ok (.iconst 0, 1) := by decide +kernel
theorem dL_year_16 : decode cL_year 16 = .ok (.ireturn, 1) := by decide +kernel
set_option maxRecDepth 20000 in
theorem ggL_placeInYear_X0_placeInYear : GoodIn wsL_placeInYear wsX0_placeInYear := goodIn_ca (goodIn_r _ [6, 7, 8, 5, 9, 10, 11, 12, 13, 14, 15, 16, 17, 18, 19, 20, 21, 22, 23, 24, 25, 26, 27, 28, 29, 30, 31, 32, 33, 34, 35, 36, 37, 38, 39, 40, 41, 42, 43, 44, 45, 46, 47, 48] (by decide +kernel) (by decide +kernel)) (goodIn_sub (fun _ h => List.mem_cons_of_mem _ (List.mem_append_right _ h)) (by decide +kernel))
set_option maxRecDepth 20000 in
theorem gL_placeInYear_X0_placeInYear : GoodIn wsL_placeInYear (wsV RL 77 RX0 yX0_placeInYear wsX0_placeInYear) := goodIn_app (goodIn_of _ (by decide +kernel)) ggL_placeInYear_X0_placeInYear
theorem dL_placeInYear_0 : decode cL_placeInYear 0 = .ok (.aload_n 2, 1) := by decide +kernel
theorem dL_placeInYear_1 : decode cL_placeInYear 1 = .ok (.iconst 0, 1) := by decide +kernel
theorem dL_placeInYear_2 : decode cL_placeInYear 2 = .ok (.aload_n 0, 1) := by decide +kernel
theorem dL_placeInYear_3 : decode cL_placeInYear 3 = .ok (.iload_n 1, 1) := by decide +kernel
theorem dL_placeInYear_4 : decode cL_placeInYear 4 = .ok (.invokevirtual 77, 3) := by decide +kernel
theorem dL_placeInYear_7 : decode cL_placeInYear 7 = .ok (.i2l, 1) := by decide +kernel
theorem dL_placeInYear_8 : decode cL_placeInYear 8 = .ok (.lastore, 1) := by decide +kernel
theorem dL_placeInYear_9 : decode cL_placeInYear 9 = .ok (.goto 6, 3) := by decide +kernel
theorem dL_placeInYear_12 : decode cL_placeInYear 12 = .ok (.astore_n 3, 1) := by decide +kernel
theorem dL_placeInYear_13 : decode cL_placeInYear 13 = .ok (.iconst 1, 1) := by decide +kernel
theorem dL_placeInYear_14 : decode cL_placeInYear 14 = .ok (.ireturn, 1) := by decide +kernel
theorem dL_placeInYear_15 : decode cL_placeInYear 15 = .ok (.iconst 0, 1) := by decide +kernel
theorem dL_placeInYear_16 : decode cL_placeInYear 16 = .ok (.ireturn, 1) := by decide +kernel
set_option maxRecDepth 20000 in
theorem ggL_isLeap_X0_isLeap : GoodIn wsL_isLeap wsX0_isLeap := goodIn_ca (goodIn_r _ [6, 7, 8, 5, 9, 10, 11, 12, 13, 14, 15, 16, 17, 18, 19, 20, 21, 22, 23, 24, 25, 26, 27, 28, 29, 30, 31, 32, 33, 34, 35, 36, 37, 38, 39, 40, 41] (by decide +kernel) (by decide +kernel)) (goodIn_sub (fun _ h => List.mem_cons_of_mem _ (List.mem_append_right _ h)) (by decide +kernel))
set_option maxRecDepth 20000 in
theorem gL_isLeap_X0_isLeap : GoodIn wsL_isLeap (wsV RL 80 RX0 yX0_isLeap wsX0_isLeap) := goodIn_app (goodIn_of _ (by decide +kernel)) ggL_isLeap_X0_isLeap
theorem dL_isLeap_0 : decode cL_isLeap 0 = .ok (.aload_n 2, 1) := by decide +kernel
theorem dL_isLeap_1 : decode cL_isLeap 1 = .ok (.iconst 0, 1) := by decide +kernel
theorem dL_isLeap_2 : decode cL_isLeap 2 = .ok (.aload_n 0, 1) := by decide +kernel
theorem dL_isLeap_3 : decode cL_isLeap 3 = .ok (.iload_n 1, 1) := by decide +kernel
theorem dL_isLeap_4 : decode cL_isLeap 4 = .ok (.invokevirtual 80, 3) := by decide +kernel
theorem dL_isLeap_7 : decode cL_isLeap 7 = .ok (.ifCond .eq 7, 3) := by decide +kernel
theorem dL_isLeap_10 : decode cL_isLeap 10 = .ok (.lconst 1, 1) := by decide +kernel
theorem dL_isLeap_11 : decode cL_isLeap 11 = .ok (.goto 4, 3) := by decide +kernel
theorem dL_isLeap_14 : decode cL_isLeap 14 = .ok (.lconst 0, 1) := by decide +kernel
theorem dL_isLeap_15 : decode cL_isLeap 15 = .ok (.lastore, 1) := by decide +kernel
theorem dL_isLeap_16 : decode cL_isLeap 16 = .ok (.goto 6, 3) := by decide +kernel
theorem dL_isLeap_19 : decode cL_isLeap 19 = .ok (.astore_n 3, 1) := by decide +kernel
theorem dL_isLeap_20 : decode cL_isLeap 20 = .ok (.iconst 1, 1) := by decide +kernel
theorem dL_isLeap_21 : decode cL_isLeap 21 = .ok (.ireturn, 1) := by decide +kernel
theorem dL_isLeap_22 : decode cL_isLeap 22 = .ok (.iconst 0, 1) := by decide +kernel
theorem dL_isLeap_23 : decode cL_isLeap 23 = .ok (.ireturn, 1) := by decide +kernel
set_option maxRecDepth 20000 in
theorem ggL_dayOf_X0_dayOf : GoodIn wsL_dayOf wsX0_dayOf := goodIn_ca (goodIn_r _ [6, 7, 8, 9, 5, 10, 11, 12, 13, 14, 15, 16, 17, 18, 19, 20, 21, 22, 23, 24, 25, 26, 27, 28, 29, 30, 31, 32, 33, 34, 35, 36, 37, 38, 39, 40, 41, 42, 43, 44, 45, 46, 47, 48, 49, 50, 51, 52] (by decide +kernel) (by decide +kernel)) (goodIn_sub (fun _ h => List.mem_cons_of_mem _ (List.mem_append_right _ h)) (by decide +kernel))
set_option maxRecDepth 20000 in
theorem gL_dayOf_X0_dayOf : GoodIn wsL_dayOf (wsV RL 83 RX0 yX0_dayOf wsX0_dayOf) := goodIn_app (goodIn_of _ (by decide +kernel)) ggL_dayOf_X0_dayOf
theorem dL_dayOf_0 : decode cL_dayOf 0 = .ok (.aload_n 3, 1) := by decide +kernel
theorem dL_dayOf_1 : decode cL_dayOf 1 = .ok (.iconst 0, 1) := by decide +kernel
theorem dL_dayOf_2 : decode cL_dayOf 2 = .ok (.aload_n 0, 1) := by decide +kernel
theorem dL_dayOf_3 : decode cL_dayOf 3 = .ok (.iload_n 1, 1) := by decide +kernel
theorem dL_dayOf_4 : decode cL_dayOf 4 = .ok (.iload_n 2, 1) := by decide +kernel
theorem dL_dayOf_5 : decode cL_dayOf 5 = .ok (.invokevirtual 83, 3) := by decide +kernel
theorem dL_dayOf_8 : decode cL_dayOf 8 = .ok (.i2l, 1) := by decide +kernel
theorem dL_dayOf_9 : decode cL_dayOf 9 = .ok (.lastore, 1) := by decide +kernel
theorem dL_dayOf_10 : decode cL_dayOf 10 = .ok (.goto 7, 3) := by decide +kernel
theorem dL_dayOf_13 : decode cL_dayOf 13 = .ok (.astore 4, 2) := by decide +kernel
theorem dL_dayOf_15 : decode cL_dayOf 15 = .ok (.iconst 1, 1) := by decide +kernel
theorem dL_dayOf_16 : decode cL_dayOf 16 = .ok (.ireturn, 1) := by decide +kernel
theorem dL_dayOf_17 : decode cL_dayOf 17 = .ok (.iconst 0, 1) := by decide +kernel
theorem dL_dayOf_18 : decode cL_dayOf 18 = .ok (.ireturn, 1) := by decide +kernel
set_option maxRecDepth 20000 in
theorem ggL_timesInYear_X0_timesInYear : GoodIn wsL_timesInYear wsX0_timesInYear := goodIn_ca (goodIn_ca (goodIn_r _ [7, 8, 9, 10, 6, 11, 12, 13, 14, 15, 16, 17, 18, 19, 20, 21, 22, 23, 24, 25, 26, 27, 28, 29, 30, 31, 32, 33, 34, 35, 36, 37, 38, 39, 40, 41, 42, 43, 44, 45, 46, 47, 48, 49, 50, 51, 52, 53, 54, 55, 56, 57, 58, 59, 60, 61, 62, 63, 64, 65, 66, 67, 68] (by decide +kernel) (by decide +kernel)) (goodIn_sub (fun _ h => List.mem_cons_of_mem _ (List.mem_append_left _ (List.mem_append_right _ h))) (by decide +kernel))) (goodIn_sub (fun _ h => List.mem_cons_of_mem _ (List.mem_append_right _ h)) (by decide +kernel))
set_option maxRecDepth 20000 in
theorem gL_timesInYear_X0_timesInYear : GoodIn wsL_timesInYear (wsV RL 86 RX0 yX0_timesInYear wsX0_timesInYear) := goodIn_app (goodIn_of _ (by decide +kernel)) ggL_timesInYear_X0_timesInYear
theorem dL_timesInYear_0 : decode cL_timesInYear 0 = .ok (.aload_n 3, 1) := by decide +kernel
theorem dL_timesInYear_1 : decode cL_timesInYear 1 = .ok (.iconst 0, 1) := by decide +kernel
theorem dL_timesInYear_2 : decode cL_timesInYear 2 = .ok (.aload_n 0, 1) := by decide +kernel
theorem dL_timesInYear_3 : decode cL_timesInYear 3 = .ok (.iload_n 1, 1) := by decide +kernel
theorem dL_timesInYear_4 : decode cL_timesInYear 4 = .ok (.iload_n 2, 1) := by decide +kernel
theorem dL_timesInYear_5 : decode cL_timesInYear 5 = .ok (.invokevirtual 86, 3) := by decide +kernel
theorem dL_timesInYear_8 : decode cL_timesInYear 8 = .ok (.i2l, 1) := by decide +kernel
theorem dL_timesInYear_9 : decode cL_timesInYear 9 = .ok (.lastore, 1) := by decide +kernel
theorem dL_timesInYear_10 : decode cL_timesInYear 10 = .ok (.goto 11, 3) := by decide +kernel
theorem dL_timesInYear_13 : decode cL_timesInYear 13 = .ok (.astore 4, 2) := by decide +kernel
theorem dL_timesInYear_15 : decode cL_timesInYear 15 = .ok (.iconst 1, 1) := by decide +kernel
theorem dL_timesInYear_16 : decode cL_timesInYear 16 = .ok (.ireturn, 1) := by decide +kernel
theorem dL_timesInYear_17 : decode cL_timesInYear 17 = .ok (.astore 4, 2) := by decide +kernel
theorem dL_timesInYear_19 : decode cL_timesInYear 19 = .ok (.iconst 2, 1) := by decide +kernel
theorem dL_timesInYear_20 : decode cL_timesInYear 20 = .ok (.ireturn, 1) := by decide +kernel
theorem dL_timesInYear_21 : decode cL_timesInYear 21 = .ok (.iconst 0, 1) := by decide +kernel
theorem dL_timesInYear_22 : decode cL_timesInYear 22 = .ok (.ireturn, 1) := by decide +kernel
end
section
set_option maxRecDepth 20000 in
theorem ggL_law_X0_init : GoodIn wsL_law wsX0_init := goodIn_r _ [9, 10, 11, 12, 13, 14, 15, 16, 17, 18, 19, 20, 21, 22, 23, 512, 513, 514, 515, 516, 517, 518, 519, 520, 521] (by decide +kernel) (by decide +kernel)
set_option maxRecDepth 20000 in
theorem gL_law_X0_init : GoodIn wsL_law (wsX0_init) := ggL_law_X0_init
set_option maxRecDepth 20000 in
theorem ggL_law_X1_init : GoodIn wsL_law wsX1_init := goodIn_r _ [26, 27, 11, 12, 13, 28, 29, 30, 31, 32, 33, 34, 522, 523, 524, 525, 526, 527, 528, 529, 530, 531, 532, 533, 534] (by decide +kernel) (by decide +kernel)
set_option maxRecDepth 20000 in
theorem gL_law_X1_init : GoodIn wsL_law (wsX1_init) := ggL_law_X1_init
set_option maxRecDepth 20000 in
theorem ggL_law_L_addMarket : GoodIn wsL_law wsL_addMarket := goodIn_ca (goodIn_ca (goodIn_r _ [38, 39, 40, 41, 42, 43, 2, 44, 45, 46, 16, 14, 15, 47, 48, 49, 50, 51, 52, 53, 54, 55, 56, 57, 58, 512, 513, 514, 515, 516, 517, 518, 519, 520, 521] (by decide +kernel) (by decide +kernel)) (goodIn_sub (fun _ h => List.mem_append_left _ (List.mem_append_left _ (List.mem_append_right _ h))) (by decide +kernel))) (goodIn_sub (fun _ h => List.mem_append_left _ (List.mem_append_right _ h)) (by decide +kernel))
set_option maxRecDepth 20000 in
theorem gL_law_L_addMarket : GoodIn wsL_law (va_wsS RL 93 yL_addMarket wsL_addMarket) := goodIn_app (goodIn_of _ (by decide +kernel)) ggL_law_L_addMarket
set_option maxRecDepth 20000 in
theorem ggL_law_X1_addMarket : GoodIn wsL_law wsX1_addMarket := goodIn_r _ [62, 63, 64, 28, 29, 65, 66, 5, 67, 68, 69, 70, 71, 72, 522, 523, 524, 525, 526, 527, 528, 529, 530, 531, 532, 533, 534] (by decide +kernel) (by decide +kernel)
set_option maxRecDepth 20000 in
theorem gL_law_X1_addMarket : GoodIn wsL_law (wsV RL 98 RX1 yX1_addMarket wsX1_addMarket) := goodIn_app (goodIn_of _ (by decide +kernel)) ggL_law_X1_addMarket
set_option maxRecDepth 20000 in
theorem ggL_law_X1_thrown : GoodIn wsL_law wsX1_thrown := goodIn_r _ [76, 72, 522, 523, 524, 525, 526, 527, 528, 529, 530, 531, 532, 533, 534] (by decide +kernel) (by decide +kernel)
set_option maxRecDepth 20000 in
theorem gL_law_X1_thrown : GoodIn wsL_law (wsV RL 99 RX1 yX1_thrown wsX1_thrown) := goodIn_app (goodIn_of _ (by decide +kernel)) ggL_law_X1_thrown
set_option maxRecDepth 20000 in
theorem ggL_law_L_shift : GoodIn wsL_law wsL_shift := goodIn_ca (goodIn_ca (goodIn_r _ [79, 80, 39, 81, 82, 83, 2, 84, 15, 85, 86, 87, 88, 89, 90, 16, 47, 48, 49, 50, 51, 52, 53, 54, 91, 92, 93, 94, 55, 56, 57, 58, 14, 95, 96, 97, 98, 99, 100, 101, 102, 103, 104, 105, 512, 513, 514, 515, 516, 517, 518, 519, 520, 521] (by decide +kernel) (by decide +kernel)) (goodIn_sub (fun _ h => List.mem_append_right _ h) (by decide +kernel))) (goodIn_sub (fun _ h => List.mem_append_left _ (List.mem_append_right _ h)) (by decide +kernel))
set_option maxRecDepth 20000 in
theorem gL_law_L_shift : GoodIn wsL_law (va_wsS RL 103 yL_shift wsL_shift) := goodIn_app (goodIn_of _ (by decide +kernel)) ggL_law_L_shift
set_option maxRecDepth 20000 in
theorem ggL_law_X1_shift : GoodIn wsL_law wsX1_shift := goodIn_r _ [109, 110, 63, 29, 28, 111, 112, 113, 5, 114, 64, 65, 66, 67, 68, 69, 70, 71, 72, 115, 116, 117, 522, 523, 524, 525, 526, 527, 528, 529, 530, 531, 532, 533, 534] (by decide +kernel) (by decide +kernel)
set_option maxRecDepth 20000 in
theorem gL_law_X1_shift : GoodIn wsL_law (wsV RL 105 RX1 yX1_shift wsX1_shift) := goodIn_app (goodIn_of _ (by decide +kernel)) ggL_law_X1_shift
set_option maxRecDepth 20000 in
theorem ggL_law_L_setMoon : GoodIn wsL_law wsL_setMoon := goodIn_ca (goodIn_r _ [120, 39, 121, 122, 123, 2, 124, 17, 18, 19, 47, 48, 49, 50, 51, 52, 53, 54, 512, 513, 514, 515, 516, 517, 518, 519, 520, 521] (by decide +kernel) (by decide +kernel)) (goodIn_sub (fun _ h => List.mem_append_left _ (List.mem_append_right _ h)) (by decide +kernel))
set_option maxRecDepth 20000 in
theorem gL_law_L_setMoon : GoodIn wsL_law (va_wsS RL 106 yL_setMoon wsL_setMoon) := goodIn_app (goodIn_of _ (by decide +kernel)) ggL_law_L_setMoon
set_option maxRecDepth 20000 in
theorem ggL_law_X1_setMoon : GoodIn wsL_law wsX1_setMoon := goodIn_r _ [128, 129, 130, 131, 132, 30, 31, 133, 65, 66, 5, 67, 68, 69, 70, 71, 72, 522, 523, 524, 525, 526, 527, 528, 529, 530, 531, 532, 533, 534] (by decide +kernel) (by decide +kernel)
set_option maxRecDepth 20000 in
theorem gL_law_X1_setMoon : GoodIn wsL_law (wsV RL 109 RX1 yX1_setMoon wsX1_setMoon) := goodIn_app (goodIn_of _ (by decide +kernel)) ggL_law_X1_setMoon
set_option maxRecDepth 20000 in
theorem ggL_law_L_setYear : GoodIn wsL_law wsL_setYear := goodIn_ca (goodIn_r _ [136, 39, 137, 138, 139, 2, 140, 20, 21, 22, 23, 47, 48, 49, 50, 51, 52, 53, 54, 512, 513, 514, 515, 516, 517, 518, 519, 520, 521] (by decide +kernel) (by decide +kernel)) (goodIn_sub (fun _ h => List.mem_append_left _ (List.mem_append_right _ h)) (by decide +kernel))
set_option maxRecDepth 20000 in
theorem gL_law_L_setYear : GoodIn wsL_law (va_wsS RL 110 yL_setYear wsL_setYear) := goodIn_app (goodIn_of _ (by decide +kernel)) ggL_law_L_setYear
set_option maxRecDepth 20000 in
theorem ggL_law_X1_setYear : GoodIn wsL_law wsX1_setYear := goodIn_r _ [144, 129, 145, 146, 32, 33, 147, 34, 65, 66, 5, 67, 68, 69, 70, 71, 72, 522, 523, 524, 525, 526, 527, 528, 529, 530, 531, 532, 533, 534] (by decide +kernel) (by decide +kernel)
set_option maxRecDepth 20000 in
theorem gL_law_X1_setYear : GoodIn wsL_law (wsV RL 113 RX1 yX1_setYear wsX1_setYear) := goodIn_app (goodIn_of _ (by decide +kernel)) ggL_law_X1_setYear
set_option maxRecDepth 20000 in
theorem ggL_law_X0_markets : GoodIn wsL_law wsX0_markets := goodIn_r _ [151, 16, 512, 513, 514, 515, 516, 517, 518, 519, 520, 521] (by decide +kernel) (by decide +kernel)
set_option maxRecDepth 20000 in
theorem gL_law_X0_markets : GoodIn wsL_law (wsV RL 114 RX0 yX0_markets wsX0_markets) := goodIn_app (goodIn_of _ (by decide +kernel)) ggL_law_X0_markets
set_option maxRecDepth 20000 in
theorem ggL_law_X1_markets : GoodIn wsL_law wsX1_markets := goodIn_r _ [155, 72, 64, 522, 523, 524, 525, 526, 527, 528, 529, 530, 531, 532, 533, 534] (by decide +kernel) (by decide +kernel)
set_option maxRecDepth 20000 in
theorem gL_law_X1_markets : GoodIn wsL_law (wsV RL 117 RX1 yX1_markets wsX1_markets) := goodIn_app (goodIn_of _ (by decide +kernel)) ggL_law_X1_markets
set_option maxRecDepth 20000 in
theorem ggL_law_L_isHeld : GoodIn wsL_law wsL_isHeld := goodIn_ca (goodIn_ca (goodIn_r _ [158, 80, 39, 159, 160, 161, 2, 162, 85, 86, 87, 88, 89, 90, 16, 47, 48, 49, 163, 164, 165, 166, 167, 50, 51, 52, 53, 54, 168, 169, 170, 171, 95, 96, 97, 98, 14, 55, 56, 57, 58, 15, 99, 100, 101, 102, 103, 104, 105, 91, 92, 93, 94, 512, 513, 514, 515, 516, 517, 518, 519, 520, 521] (by decide +kernel) (by decide +kernel)) (goodIn_sub (fun _ h => List.mem_append_right _ h) (by decide +kernel))) (goodIn_sub (fun _ h => List.mem_append_left _ (List.mem_append_right _ h)) (by decide +kernel))
set_option maxRecDepth 20000 in
theorem gL_law_L_isHeld : GoodIn wsL_law (va_wsS RL 118 yL_isHeld wsL_isHeld) := goodIn_app (goodIn_of _ (by decide +kernel)) ggL_law_L_isHeld
set_option maxRecDepth 20000 in
theorem ggL_law_X1_isHeld : GoodIn wsL_law wsX1_isHeld := goodIn_r _ [175, 111, 112, 113, 5, 114, 64, 65, 66, 67, 176, 177, 178, 179, 180, 68, 69, 70, 71, 72, 181, 182, 183, 184, 28, 29, 115, 116, 117, 522, 523, 524, 525, 526, 527, 528, 529, 530, 531, 532, 533, 534] (by decide +kernel) (by decide +kernel)
set_option maxRecDepth 20000 in
theorem gL_law_X1_isHeld : GoodIn wsL_law (wsV RL 120 RX1 yX1_isHeld wsX1_isHeld) := goodIn_app (goodIn_of _ (by decide +kernel)) ggL_law_X1_isHeld
set_option maxRecDepth 20000 in
theorem ggL_law_L_next : GoodIn wsL_law wsL_next := goodIn_ca (goodIn_ca (goodIn_r _ [187, 80, 39, 188, 189, 190, 2, 191, 85, 86, 87, 88, 89, 90, 16, 47, 48, 49, 163, 164, 165, 166, 167, 50, 51, 52, 53, 54, 91, 92, 93, 94, 15, 55, 56, 57, 58, 14, 95, 96, 97, 98, 99, 100, 101, 102, 103, 104, 105, 512, 513, 514, 515, 516, 517, 518, 519, 520, 521] (by decide +kernel) (by decide +kernel)) (goodIn_sub (fun _ h => List.mem_append_right _ h) (by decide +kernel))) (goodIn_sub (fun _ h => List.mem_append_left _ (List.mem_append_right _ h)) (by decide +kernel))
set_option maxRecDepth 20000 in
theorem gL_law_L_next : GoodIn wsL_law (va_wsS RL 121 yL_next wsL_next) := goodIn_app (goodIn_of _ (by decide +kernel)) ggL_law_L_next
set_option maxRecDepth 20000 in
theorem ggL_law_X1_next : GoodIn wsL_law wsX1_next := goodIn_r _ [195, 111, 112, 113, 5, 114, 64, 65, 66, 67, 176, 177, 178, 179, 180, 68, 69, 70, 71, 72, 196, 197, 198, 199, 181, 182, 183, 184, 28, 29, 115, 116, 117, 522, 523, 524, 525, 526, 527, 528, 529, 530, 531, 532, 533, 534] (by decide +kernel) (by decide +kernel)
set_option maxRecDepth 20000 in
theorem gL_law_X1_next : GoodIn wsL_law (wsV RL 123 RX1 yX1_next wsX1_next) := goodIn_app (goodIn_of _ (by decide +kernel)) ggL_law_X1_next
set_option maxRecDepth 20000 in
theorem ggL_law_L_nearest : GoodIn wsL_law wsL_nearest := goodIn_ca (goodIn_ca (goodIn_r _ [202, 80, 39, 203, 204, 205, 2, 206, 85, 86, 87, 88, 89, 90, 16, 47, 48, 49, 163, 164, 165, 166, 167, 50, 51, 52, 53, 54, 95, 96, 97, 98, 14, 55, 56, 57, 58, 15, 91, 92, 93, 94, 99, 100, 101, 102, 103, 104, 105, 512, 513, 514, 515, 516, 517, 518, 519, 520, 521] (by decide +kernel) (by decide +kernel)) (goodIn_sub (fun _ h => List.mem_append_right _ h) (by decide +kernel))) (goodIn_sub (fun _ h => List.mem_append_left _ (List.mem_append_right _ h)) (by decide +kernel))
set_option maxRecDepth 20000 in
theorem gL_law_L_nearest : GoodIn wsL_law (va_wsS RL 124 yL_nearest wsL_nearest) := goodIn_app (goodIn_of _ (by decide +kernel)) ggL_law_L_nearest
set_option maxRecDepth 20000 in
theorem ggL_law_X1_nearest : GoodIn wsL_law wsX1_nearest := goodIn_r _ [210, 111, 112, 113, 5, 114, 64, 65, 66, 67, 176, 177, 178, 179, 180, 68, 69, 70, 71, 72, 181, 182, 183, 184, 28, 29, 115, 116, 117, 522, 523, 524, 525, 526, 527, 528, 529, 530, 531, 532, 533, 534] (by decide +kernel) (by decide +kernel)
set_option maxRecDepth 20000 in
theorem gL_law_X1_nearest : GoodIn wsL_law (wsV RL 126 RX1 yX1_nearest wsX1_nearest) := goodIn_app (goodIn_of _ (by decide +kernel)) ggL_law_X1_nearest
set_option maxRecDepth 20000 in
theorem ggL_law_L_times : GoodIn wsL_law wsL_times := goodIn_ca (goodIn_ca (goodIn_r _ [213, 80, 39, 214, 215, 216, 2, 217, 85, 86, 87, 88, 89, 90, 16, 47, 48, 49, 163, 164, 165, 166, 167, 50, 51, 52, 53, 54, 218, 219, 220, 221, 95, 96, 97, 98, 14, 55, 56, 57, 58, 15, 91, 92, 93, 94, 222, 223, 224, 225, 226, 104, 227, 512, 513, 514, 515, 516, 517, 518, 519, 520, 521] (by decide +kernel) (by decide +kernel)) (goodIn_sub (fun _ h => List.mem_append_right _ h) (by decide +kernel))) (goodIn_sub (fun _ h => List.mem_append_left _ (List.mem_append_right _ h)) (by decide +kernel))
set_option maxRecDepth 20000 in
theorem gL_law_L_times : GoodIn wsL_law (va_wsS RL 127 yL_times wsL_times) := goodIn_app (goodIn_of _ (by decide +kernel)) ggL_law_L_times
set_option maxRecDepth 20000 in
theorem ggL_law_X1_times : GoodIn wsL_law wsX1_times := goodIn_r _ [231, 176, 177, 5, 178, 179, 180, 65, 66, 67, 111, 112, 113, 114, 64, 68, 69, 70, 71, 72, 232, 233, 234, 235, 236, 237, 238, 239, 29, 28, 240, 241, 242, 115, 116, 117, 522, 523, 524, 525, 526, 527, 528, 529, 530, 531, 532, 533, 534] (by decide +kernel) (by decide +kernel)
set_option maxRecDepth 20000 in
theorem gL_law_X1_times : GoodIn wsL_law (wsV RL 130 RX1 yX1_times wsX1_times) := goodIn_app (goodIn_of _ (by decide +kernel)) ggL_law_X1_times
set_option maxRecDepth 20000 in
theorem ggL_law_L_heldOn : GoodIn wsL_law wsL_heldOn := goodIn_ca (goodIn_r _ [245, 39, 246, 247, 248, 2, 249, 163, 164, 165, 166, 167, 47, 48, 49, 50, 51, 52, 53, 54, 250, 251, 252, 253, 16, 168, 169, 170, 171, 95, 96, 97, 98, 14, 55, 56, 57, 58, 15, 99, 100, 101, 102, 103, 104, 105, 91, 92, 93, 94, 512, 513, 514, 515, 516, 517, 518, 519, 520, 521] (by decide +kernel) (by decide +kernel)) (goodIn_sub (fun _ h => List.mem_append_left _ (List.mem_append_right _ h)) (by decide +kernel))
set_option maxRecDepth 20000 in
theorem gL_law_L_heldOn : GoodIn wsL_law (va_wsS RL 131 yL_heldOn wsL_heldOn) := goodIn_app (goodIn_of _ (by decide +kernel)) ggL_law_L_heldOn
set_option maxRecDepth 20000 in
theorem ggL_law_X1_heldOn : GoodIn wsL_law wsX1_heldOn := goodIn_r _ [257, 176, 177, 5, 178, 179, 180, 65, 66, 67, 68, 69, 70, 71, 72, 258, 259, 260, 261, 64, 181, 182, 183, 184, 28, 29, 115, 116, 117, 522, 523, 524, 525, 526, 527, 528, 529, 530, 531, 532, 533, 534] (by decide +kernel) (by decide +kernel)
set_option maxRecDepth 20000 in
theorem gL_law_X1_heldOn : GoodIn wsL_law (wsV RL 134 RX1 yX1_heldOn wsX1_heldOn) := goodIn_app (goodIn_of _ (by decide +kernel)) ggL_law_X1_heldOn
set_option maxRecDepth 20000 in
theorem ggL_law_L_doMeet : GoodIn wsL_law wsL_doMeet := goodIn_ca (goodIn_ca (goodIn_r _ [264, 39, 80, 265, 266, 267, 2, 268, 269, 270, 271, 272, 273, 274, 275, 276, 277, 278, 279, 280, 47, 48, 49, 50, 51, 52, 53, 54, 281, 282, 283, 284, 89, 90, 16, 285, 286, 287, 288, 289, 290, 291, 292, 95, 96, 97, 98, 14, 55, 56, 57, 58, 15, 168, 169, 170, 171, 99, 100, 101, 102, 103, 104, 105, 91, 92, 93, 94, 293, 294, 295, 512, 513, 514, 515, 516, 517, 518, 519, 520, 521] (by decide +kernel) (by decide +kernel)) (goodIn_sub (fun _ h => List.mem_append_left _ (List.mem_append_right _ h)) (by decide +kernel))) (goodIn_sub (fun _ h => List.mem_append_right _ h) (by decide +kernel))
set_option maxRecDepth 20000 in
theorem gL_law_L_doMeet : GoodIn wsL_law (va_wsS RL 135 yL_doMeet wsL_doMeet) := goodIn_app (goodIn_of _ (by decide +kernel)) ggL_law_L_doMeet
set_option maxRecDepth 20000 in
theorem ggL_law_X1_doMeet : GoodIn wsL_law wsX1_doMeet := goodIn_r _ [299, 300, 301, 302, 5, 303, 304, 64, 305, 306, 307, 65, 66, 67, 68, 69, 70, 71, 72, 308, 309, 310, 311, 312, 313, 28, 181, 182, 183, 184, 29, 115, 116, 117, 522, 523, 524, 525, 526, 527, 528, 529, 530, 531, 532, 533, 534] (by decide +kernel) (by decide +kernel)
set_option maxRecDepth 20000 in
theorem gL_law_X1_doMeet : GoodIn wsL_law (wsV RL 137 RX1 yX1_doMeet wsX1_doMeet) := goodIn_app (goodIn_of _ (by decide +kernel)) ggL_law_X1_doMeet
set_option maxRecDepth 20000 in
theorem ggL_law_L_period : GoodIn wsL_law wsL_period := goodIn_ca (goodIn_ca (goodIn_ca (goodIn_r _ [316, 39, 80, 40, 317, 318, 319, 2, 320, 270, 271, 272, 273, 274, 275, 276, 277, 278, 279, 280, 47, 48, 49, 50, 51, 52, 53, 54, 281, 282, 283, 284, 89, 90, 16, 285, 286, 287, 288, 269, 289, 290, 291, 292, 95, 96, 97, 98, 14, 55, 56, 57, 58, 15, 168, 169, 170, 171, 99, 100, 101, 102, 103, 104, 105, 91, 92, 93, 94, 293, 294, 295, 321, 322, 323, 45, 46, 324, 325, 326, 327, 512, 513, 514, 515, 516, 517, 518, 519, 520, 521] (by decide +kernel) (by decide +kernel)) (goodIn_sub (fun _ h => List.mem_append_left _ (List.mem_append_right _ h)) (by decide +kernel))) (goodIn_sub (fun _ h => List.mem_append_right _ h) (by decide +kernel))) (goodIn_sub (fun _ h => List.mem_append_left _ (List.mem_append_left _ (List.mem_append_right _ h))) (by decide +kernel))
set_option maxRecDepth 20000 in
theorem gL_law_L_period : GoodIn wsL_law (va_wsS RL 138 yL_period wsL_period) := goodIn_app (goodIn_of _ (by decide +kernel)) ggL_law_L_period
set_option maxRecDepth 20000 in
theorem ggL_law_X1_period : GoodIn wsL_law wsX1_period := goodIn_r _ [331, 313, 300, 301, 302, 5, 303, 304, 64, 305, 306, 307, 65, 66, 67, 308, 309, 310, 311, 312, 28, 181, 182, 183, 184, 29, 115, 116, 117, 68, 69, 70, 71, 72, 522, 523, 524, 525, 526, 527, 528, 529, 530, 531, 532, 533, 534] (by decide +kernel) (by decide +kernel)
set_option maxRecDepth 20000 in
theorem gL_law_X1_period : GoodIn wsL_law (wsV RL 140 RX1 yX1_period wsX1_period) := goodIn_app (goodIn_of _ (by decide +kernel)) ggL_law_X1_period
set_option maxRecDepth 20000 in
theorem ggL_law_L_meeting : GoodIn wsL_law wsL_meeting := goodIn_ca (goodIn_ca (goodIn_ca (goodIn_r _ [334, 39, 80, 40, 335, 336, 337, 2, 338, 163, 164, 165, 166, 167, 47, 48, 49, 50, 51, 52, 53, 54, 270, 271, 272, 273, 274, 275, 276, 277, 278, 279, 280, 281, 282, 283, 284, 89, 90, 16, 285, 286, 287, 288, 269, 289, 290, 291, 292, 95, 96, 97, 98, 14, 55, 56, 57, 58, 15, 168, 169, 170, 171, 99, 100, 101, 102, 103, 104, 105, 91, 92, 93, 94, 293, 294, 295, 321, 322, 323, 45, 46, 324, 325, 326, 327, 512, 513, 514, 515, 516, 517, 518, 519, 520, 521] (by decide +kernel) (by decide +kernel)) (goodIn_sub (fun _ h => List.mem_append_left _ (List.mem_append_right _ h)) (by decide +kernel))) (goodIn_sub (fun _ h => List.mem_append_right _ h) (by decide +kernel))) (goodIn_sub (fun _ h => List.mem_append_left _ (List.mem_append_left _ (List.mem_append_right _ h))) (by decide +kernel))
set_option maxRecDepth 20000 in
theorem gL_law_L_meeting : GoodIn wsL_law (va_wsS RL 141 yL_meeting wsL_meeting) := goodIn_app (goodIn_of _ (by decide +kernel)) ggL_law_L_meeting
set_option maxRecDepth 20000 in
theorem ggL_law_X1_meeting : GoodIn wsL_law wsX1_meeting := goodIn_r _ [342, 312, 176, 177, 5, 178, 179, 180, 65, 66, 67, 300, 301, 302, 303, 304, 64, 305, 306, 307, 308, 309, 310, 311, 313, 28, 181, 182, 183, 184, 29, 115, 116, 117, 68, 69, 70, 71, 72, 522, 523, 524, 525, 526, 527, 528, 529, 530, 531, 532, 533, 534] (by decide +kernel) (by decide +kernel)
set_option maxRecDepth 20000 in
theorem gL_law_X1_meeting : GoodIn wsL_law (wsV RL 143 RX1 yX1_meeting wsX1_meeting) := goodIn_app (goodIn_of _ (by decide +kernel)) ggL_law_X1_meeting
set_option maxRecDepth 20000 in
theorem ggL_law_L_lunarMeeting : GoodIn wsL_law wsL_lunarMeeting := goodIn_ca (goodIn_ca (goodIn_ca (goodIn_r _ [345, 39, 80, 40, 346, 347, 348, 2, 349, 269, 163, 164, 165, 166, 167, 47, 48, 49, 50, 51, 52, 53, 54, 270, 271, 272, 273, 274, 275, 276, 277, 278, 279, 280, 281, 282, 283, 284, 89, 90, 16, 285, 286, 287, 288, 289, 290, 291, 292, 95, 96, 97, 98, 14, 55, 56, 57, 58, 15, 168, 169, 170, 171, 99, 100, 101, 102, 103, 104, 105, 91, 92, 93, 94, 293, 294, 295, 321, 322, 323, 45, 46, 324, 325, 326, 327, 350, 351, 352, 353, 17, 18, 354, 355, 356, 357, 19, 222, 223, 224, 225, 226, 227, 512, 513, 514, 515, 516, 517, 518, 519, 520, 521] (by decide +kernel) (by decide +kernel)) (goodIn_sub (fun _ h => List.mem_append_left _ (List.mem_append_right _ h)) (by decide +kernel))) (goodIn_sub (fun _ h => List.mem_append_right _ h) (by decide +kernel))) (goodIn_sub (fun _ h => List.mem_append_left _ (List.mem_append_left _ (List.mem_append_right _ h))) (by decide +kernel))
set_option maxRecDepth 20000 in
theorem gL_law_L_lunarMeeting : GoodIn wsL_law (va_wsS RL 144 yL_lunarMeeting wsL_lunarMeeting) := goodIn_app (goodIn_of _ (by decide +kernel)) ggL_law_L_lunarMeeting
set_option maxRecDepth 20000 in
theorem ggL_law_X1_lunarMeeting : GoodIn wsL_law wsX1_lunarMeeting := goodIn_r _ [361, 362, 132, 312, 313, 363, 176, 177, 5, 178, 179, 180, 65, 66, 67, 300, 301, 302, 303, 304, 64, 305, 306, 307, 308, 309, 310, 311, 28, 181, 182, 183, 184, 29, 115, 116, 117, 68, 69, 70, 71, 72, 364, 365, 366, 367, 133, 31, 30, 522, 523, 524, 525, 526, 527, 528, 529, 530, 531, 532, 533, 534] (by decide +kernel) (by decide +kernel)
set_option maxRecDepth 20000 in
theorem gL_law_X1_lunarMeeting : GoodIn wsL_law (wsV RL 147 RX1 yX1_lunarMeeting wsX1_lunarMeeting) := goodIn_app (goodIn_of _ (by decide +kernel)) ggL_law_X1_lunarMeeting
set_option maxRecDepth 20000 in
theorem ggL_law_L_best : GoodIn wsL_law wsL_best := goodIn_ca (goodIn_ca (goodIn_r _ [370, 39, 80, 371, 372, 373, 2, 374, 163, 164, 165, 166, 167, 47, 48, 49, 50, 51, 52, 53, 54, 281, 282, 283, 284, 89, 90, 16, 250, 251, 252, 253, 168, 169, 170, 171, 95, 96, 97, 98, 14, 55, 56, 57, 58, 15, 99, 100, 101, 102, 103, 104, 105, 91, 92, 93, 94, 274, 275, 276, 277, 278, 279, 280, 512, 513, 514, 515, 516, 517, 518, 519, 520, 521] (by decide +kernel) (by decide +kernel)) (goodIn_sub (fun _ h => List.mem_append_left _ (List.mem_append_right _ h)) (by decide +kernel))) (goodIn_sub (fun _ h => List.mem_append_right _ h) (by decide +kernel))
set_option maxRecDepth 20000 in
theorem gL_law_L_best : GoodIn wsL_law (va_wsS RL 148 yL_best wsL_best) := goodIn_app (goodIn_of _ (by decide +kernel)) ggL_law_L_best
set_option maxRecDepth 20000 in
theorem ggL_law_X1_best : GoodIn wsL_law wsX1_best := goodIn_r _ [378, 379, 64, 176, 177, 5, 178, 179, 180, 65, 66, 67, 68, 69, 70, 71, 72, 258, 259, 260, 261, 181, 182, 183, 184, 28, 29, 115, 116, 117, 305, 306, 307, 522, 523, 524, 525, 526, 527, 528, 529, 530, 531, 532, 533, 534] (by decide +kernel) (by decide +kernel)
set_option maxRecDepth 20000 in
theorem gL_law_X1_best : GoodIn wsL_law (wsV RL 150 RX1 yX1_best wsX1_best) := goodIn_app (goodIn_of _ (by decide +kernel)) ggL_law_X1_best
set_option maxRecDepth 20000 in
theorem ggL_law_L_month : GoodIn wsL_law wsL_month := goodIn_ca (goodIn_r _ [382, 39, 383, 384, 385, 2, 386, 17, 163, 164, 165, 166, 167, 47, 48, 49, 50, 51, 52, 53, 54, 354, 355, 356, 357, 19, 18, 222, 223, 224, 225, 226, 104, 227, 512, 513, 514, 515, 516, 517, 518, 519, 520, 521] (by decide +kernel) (by decide +kernel)) (goodIn_sub (fun _ h => List.mem_append_left _ (List.mem_append_right _ h)) (by decide +kernel))
set_option maxRecDepth 20000 in
theorem gL_law_L_month : GoodIn wsL_law (va_wsS RL 151 yL_month wsL_month) := goodIn_app (goodIn_of _ (by decide +kernel)) ggL_law_L_month
set_option maxRecDepth 20000 in
theorem ggL_law_X1_month : GoodIn wsL_law wsX1_month := goodIn_r _ [390, 176, 177, 5, 178, 179, 180, 65, 66, 67, 68, 69, 70, 71, 72, 391, 392, 393, 394, 133, 31, 30, 240, 241, 242, 115, 116, 117, 522, 523, 524, 525, 526, 527, 528, 529, 530, 531, 532, 533, 534] (by decide +kernel) (by decide +kernel)
set_option maxRecDepth 20000 in
theorem gL_law_X1_month : GoodIn wsL_law (wsV RL 153 RX1 yX1_month wsX1_month) := goodIn_app (goodIn_of _ (by decide +kernel)) ggL_law_X1_month
set_option maxRecDepth 20000 in
theorem ggL_law_L_lunarDay : GoodIn wsL_law wsL_lunarDay := goodIn_ca (goodIn_r _ [397, 39, 398, 399, 400, 2, 401, 163, 164, 165, 166, 167, 47, 48, 49, 50, 51, 52, 53, 54, 350, 351, 352, 353, 17, 18, 354, 355, 356, 357, 19, 99, 100, 101, 102, 103, 104, 105, 222, 223, 224, 225, 226, 227, 512, 513, 514, 515, 516, 517, 518, 519, 520, 521] (by decide +kernel) (by decide +kernel)) (goodIn_sub (fun _ h => List.mem_append_left _ (List.mem_append_right _ h)) (by decide +kernel))
set_option maxRecDepth 20000 in
theorem gL_law_L_lunarDay : GoodIn wsL_law (va_wsS RL 154 yL_lunarDay wsL_lunarDay) := goodIn_app (goodIn_of _ (by decide +kernel)) ggL_law_L_lunarDay
set_option maxRecDepth 20000 in
theorem ggL_law_X1_lunarDay : GoodIn wsL_law wsX1_lunarDay := goodIn_r _ [405, 176, 177, 5, 178, 179, 180, 65, 66, 67, 68, 69, 70, 71, 72, 364, 365, 366, 367, 133, 31, 30, 115, 116, 117, 522, 523, 524, 525, 526, 527, 528, 529, 530, 531, 532, 533, 534] (by decide +kernel) (by decide +kernel)
set_option maxRecDepth 20000 in
theorem gL_law_X1_lunarDay : GoodIn wsL_law (wsV RL 156 RX1 yX1_lunarDay wsX1_lunarDay) := goodIn_app (goodIn_of _ (by decide +kernel)) ggL_law_X1_lunarDay
set_option maxRecDepth 20000 in
theorem ggL_law_L_monthBegin : GoodIn wsL_law wsL_monthBegin := goodIn_ca (goodIn_r _ [408, 39, 409, 410, 411, 2, 412, 413, 414, 17, 18, 19, 47, 48, 49, 50, 51, 52, 53, 54, 222, 223, 224, 225, 226, 104, 227, 512, 513, 514, 515, 516, 517, 518, 519, 520, 521] (by decide +kernel) (by decide +kernel)) (goodIn_sub (fun _ h => List.mem_append_left _ (List.mem_append_right _ h)) (by decide +kernel))
set_option maxRecDepth 20000 in
theorem gL_law_L_monthBegin : GoodIn wsL_law (va_wsS RL 157 yL_monthBegin wsL_monthBegin) := goodIn_app (goodIn_of _ (by decide +kernel)) ggL_law_L_monthBegin
set_option maxRecDepth 20000 in
theorem ggL_law_X1_monthBegin : GoodIn wsL_law wsX1_monthBegin := goodIn_r _ [418, 419, 420, 30, 31, 133, 130, 65, 66, 5, 67, 68, 69, 70, 71, 72, 240, 241, 242, 115, 116, 117, 391, 392, 393, 394, 522, 523, 524, 525, 526, 527, 528, 529, 530, 531, 532, 533, 534] (by decide +kernel) (by decide +kernel)
set_option maxRecDepth 20000 in
theorem gL_law_X1_monthBegin : GoodIn wsL_law (wsV RL 159 RX1 yX1_monthBegin wsX1_monthBegin) := goodIn_app (goodIn_of _ (by decide +kernel)) ggL_law_X1_monthBegin
set_option maxRecDepth 20000 in
theorem ggL_law_L_year : GoodIn wsL_law wsL_year := goodIn_ca (goodIn_r _ [423, 39, 424, 425, 426, 2, 427, 163, 164, 165, 166, 167, 47, 48, 49, 50, 51, 52, 53, 54, 428, 429, 430, 431, 23, 22, 20, 21, 222, 223, 224, 225, 226, 104, 227, 512, 513, 514, 515, 516, 517, 518, 519, 520, 521] (by decide +kernel) (by decide +kernel)) (goodIn_sub (fun _ h => List.mem_append_left _ (List.mem_append_right _ h)) (by decide +kernel))
set_option maxRecDepth 20000 in
theorem gL_law_L_year : GoodIn wsL_law (va_wsS RL 160 yL_year wsL_year) := goodIn_app (goodIn_of _ (by decide +kernel)) ggL_law_L_year
set_option maxRecDepth 20000 in
theorem ggL_law_X1_year : GoodIn wsL_law wsX1_year := goodIn_r _ [435, 176, 177, 5, 178, 179, 180, 65, 66, 67, 68, 69, 70, 71, 72, 436, 437, 438, 439, 32, 130, 240, 241, 242, 115, 116, 117, 440, 441, 442, 443, 33, 147, 34, 522, 523, 524, 525, 526, 527, 528, 529, 530, 531, 532, 533, 534] (by decide +kernel) (by decide +kernel)
set_option maxRecDepth 20000 in
theorem gL_law_X1_year : GoodIn wsL_law (wsV RL 162 RX1 yX1_year wsX1_year) := goodIn_app (goodIn_of _ (by decide +kernel)) ggL_law_X1_year
set_option maxRecDepth 20000 in
theorem ggL_law_L_placeInYear : GoodIn wsL_law wsL_placeInYear := goodIn_ca (goodIn_r _ [446, 39, 447, 448, 449, 2, 450, 163, 164, 165, 166, 167, 47, 48, 49, 50, 51, 52, 53, 54, 428, 429, 430, 431, 23, 22, 20, 21, 222, 223, 224, 225, 226, 104, 227, 451, 452, 453, 454, 512, 513, 514, 515, 516, 517, 518, 519, 520, 521] (by decide +kernel) (by decide +kernel)) (goodIn_sub (fun _ h => List.mem_append_left _ (List.mem_append_right _ h)) (by decide +kernel))
set_option maxRecDepth 20000 in
theorem gL_law_L_placeInYear : GoodIn wsL_law (va_wsS RL 163 yL_placeInYear wsL_placeInYear) := goodIn_app (goodIn_of _ (by decide +kernel)) ggL_law_L_placeInYear
set_option maxRecDepth 20000 in
theorem ggL_law_X1_placeInYear : GoodIn wsL_law wsX1_placeInYear := goodIn_r _ [458, 176, 177, 5, 178, 179, 180, 65, 66, 67, 68, 69, 70, 71, 72, 436, 437, 438, 439, 32, 130, 240, 241, 242, 115, 116, 117, 440, 441, 442, 443, 33, 147, 34, 522, 523, 524, 525, 526, 527, 528, 529, 530, 531, 532, 533, 534] (by decide +kernel) (by decide +kernel)
set_option maxRecDepth 20000 in
theorem gL_law_X1_placeInYear : GoodIn wsL_law (wsV RL 165 RX1 yX1_placeInYear wsX1_placeInYear) := goodIn_app (goodIn_of _ (by decide +kernel)) ggL_law_X1_placeInYear
set_option maxRecDepth 20000 in
theorem ggL_law_L_isLeap : GoodIn wsL_law wsL_isLeap := goodIn_ca (goodIn_r _ [461, 39, 462, 463, 464, 2, 465, 466, 467, 468, 47, 48, 49, 50, 51, 52, 53, 54, 469, 470, 471, 472, 21, 22, 23, 99, 100, 101, 102, 103, 104, 105, 512, 513, 514, 515, 516, 517, 518, 519, 520, 521] (by decide +kernel) (by decide +kernel)) (goodIn_sub (fun _ h => List.mem_append_left _ (List.mem_append_right _ h)) (by decide +kernel))
set_option maxRecDepth 20000 in
theorem gL_law_L_isLeap : GoodIn wsL_law (va_wsS RL 166 yL_isLeap wsL_isLeap) := goodIn_app (goodIn_of _ (by decide +kernel)) ggL_law_L_isLeap
set_option maxRecDepth 20000 in
theorem ggL_law_X1_isLeap : GoodIn wsL_law wsX1_isLeap := goodIn_r _ [476, 477, 478, 5, 479, 480, 481, 65, 66, 67, 68, 69, 70, 71, 72, 482, 483, 484, 485, 33, 147, 34, 115, 116, 117, 522, 523, 524, 525, 526, 527, 528, 529, 530, 531, 532, 533, 534] (by decide +kernel) (by decide +kernel)
set_option maxRecDepth 20000 in
theorem gL_law_X1_isLeap : GoodIn wsL_law (wsV RL 168 RX1 yX1_isLeap wsX1_isLeap) := goodIn_app (goodIn_of _ (by decide +kernel)) ggL_law_X1_isLeap
set_option maxRecDepth 20000 in
theorem ggL_law_L_dayOf : GoodIn wsL_law wsL_dayOf := goodIn_ca (goodIn_r _ [488, 39, 489, 490, 491, 2, 492, 20, 466, 467, 468, 47, 48, 49, 50, 51, 52, 53, 54, 469, 470, 471, 472, 21, 22, 23, 99, 100, 101, 102, 103, 104, 105, 451, 452, 453, 454, 222, 223, 224, 225, 226, 227, 512, 513, 514, 515, 516, 517, 518, 519, 520, 521] (by decide +kernel) (by decide +kernel)) (goodIn_sub (fun _ h => List.mem_append_left _ (List.mem_append_right _ h)) (by decide +kernel))
set_option maxRecDepth 20000 in
theorem gL_law_L_dayOf : GoodIn wsL_law (va_wsS RL 169 yL_dayOf wsL_dayOf) := goodIn_app (goodIn_of _ (by decide +kernel)) ggL_law_L_dayOf
set_option maxRecDepth 20000 in
theorem ggL_law_X1_dayOf : GoodIn wsL_law wsX1_dayOf := goodIn_r _ [496, 477, 478, 5, 479, 480, 481, 65, 66, 67, 497, 498, 499, 500, 32, 482, 483, 484, 485, 33, 147, 34, 115, 116, 117, 68, 69, 70, 71, 72, 440, 441, 442, 443, 240, 241, 242, 522, 523, 524, 525, 526, 527, 528, 529, 530, 531, 532, 533, 534] (by decide +kernel) (by decide +kernel)
set_option maxRecDepth 20000 in
theorem gL_law_X1_dayOf : GoodIn wsL_law (wsV RL 171 RX1 yX1_dayOf wsX1_dayOf) := goodIn_app (goodIn_of _ (by decide +kernel)) ggL_law_X1_dayOf
set_option maxRecDepth 20000 in
theorem ggL_law_L_timesInYear : GoodIn wsL_law wsL_timesInYear := goodIn_ca (goodIn_ca (goodIn_r _ [503, 80, 39, 504, 505, 506, 2, 507, 85, 86, 87, 88, 89, 90, 16, 47, 48, 49, 466, 467, 468, 50, 51, 52, 53, 54, 451, 452, 453, 454, 20, 21, 22, 23, 222, 223, 224, 225, 226, 104, 227, 218, 219, 220, 221, 95, 96, 97, 98, 14, 55, 56, 57, 58, 15, 91, 92, 93, 94, 512, 513, 514, 515, 516, 517, 518, 519, 520, 521] (by decide +kernel) (by decide +kernel)) (goodIn_sub (fun _ h => List.mem_append_right _ h) (by decide +kernel))) (goodIn_sub (fun _ h => List.mem_append_left _ (List.mem_append_right _ h)) (by decide +kernel))
set_option maxRecDepth 20000 in
theorem gL_law_L_timesInYear : GoodIn wsL_law (va_wsS RL 172 yL_timesInYear wsL_timesInYear) := goodIn_app (goodIn_of _ (by decide +kernel)) ggL_law_L_timesInYear
set_option maxRecDepth 20000 in
theorem ggL_law_X1_timesInYear : GoodIn wsL_law wsX1_timesInYear := goodIn_r _ [511, 111, 112, 113, 5, 114, 64, 65, 66, 67, 477, 478, 479, 480, 481, 68, 69, 70, 71, 72, 440, 441, 442, 443, 32, 33, 147, 34, 240, 241, 242, 115, 116, 117, 497, 498, 499, 500, 482, 483, 484, 485, 232, 233, 234, 235, 236, 237, 238, 239, 29, 28, 522, 523, 524, 525, 526, 527, 528, 529, 530, 531, 532, 533, 534] (by decide +kernel) (by decide +kernel)
set_option maxRecDepth 20000 in
theorem gL_law_X1_timesInYear : GoodIn wsL_law (wsV RL 174 RX1 yX1_timesInYear wsX1_timesInYear) := goodIn_app (goodIn_of _ (by decide +kernel)) ggL_law_X1_timesInYear
theorem dL_law_0 : decode cL_law 0 = .ok (.new 8, 3) := by decide +kernel
theorem dL_law_3 : decode cL_law 3 = .ok (.dup, 1) := by decide +kernel
theorem dL_law_4 : decode cL_law 4 = .ok (.invokespecial 89, 3) := by decide +kernel
theorem dL_law_7 : decode cL_law 7 = .ok (.astore_n 1, 1) := by decide +kernel
theorem dL_law_8 : decode cL_law 8 = .ok (.new 90, 3) := by decide +kernel
theorem dL_law_11 : decode cL_law 11 = .ok (.dup, 1) := by decide +kernel
theorem dL_law_12 : decode cL_law 12 = .ok (.invokespecial 92, 3) := by decide +kernel
theorem dL_law_15 : decode cL_law 15 = .ok (.astore_n 2, 1) := by decide +kernel
theorem dL_law_16 : decode cL_law 16 = .ok (.iconst 1, 1) := by decide +kernel
theorem dL_law_17 : decode cL_law 17 = .ok (.newarray .long, 2) := by decide +kernel
theorem dL_law_19 : decode cL_law 19 = .ok (.astore_n 3, 1) := by decide +kernel
theorem dL_law_20 : decode cL_law 20 = .ok (.iconst 0, 1) := by decide +kernel
theorem dL_law_21 : decode cL_law 21 = .ok (.istore 4, 2) := by decide +kernel
theorem dL_law_23 : decode cL_law 23 = .ok (.iload 4, 2) := by decide +kernel
theorem dL_law_25 : decode cL_law 25 = .ok (.aload_n 0, 1) := by decide +kernel
theorem dL_law_26 : decode cL_law 26 = .ok (.arraylength, 1) := by decide +kernel
theorem dL_law_27 : decode cL_law 27 = .ok (.iconst 5, 1) := by decide +kernel
theorem dL_law_28 : decode cL_law 28 = .ok (.isub, 1) := by decide +kernel
theorem dL_law_29 : decode cL_law 29 = .ok (.if_icmp .gt 1586, 3) := by decide +kernel
theorem dL_law_32 : decode cL_law 32 = .ok (.aload_n 0, 1) := by decide +kernel
theorem dL_law_33 : decode cL_law 33 = .ok (.iload 4, 2) := by decide +kernel
theorem dL_law_35 : decode cL_law 35 = .ok (.iaload, 1) := by decide +kernel
theorem dL_law_36 : decode cL_law 36 = .ok (.bipush 31, 2) := by decide +kernel
theorem dL_law_38 : decode cL_law 38 = .ok (.iand, 1) := by decide +kernel
theorem dL_law_39 : decode cL_law 39 = .ok (.tableswitch 1570 0 22 #[105, 173, 241, 301, 373, 386, 461, 529, 597, 677, 733, 796, 852, 920, 1011, 1091, 1147, 1203, 1259, 1315, 1371, 1434, 1502], 105) := by decide +kernel
theorem dL_law_144 : decode cL_law 144 = .ok (.aload_n 1, 1) := by decide +kernel
theorem dL_law_145 : decode cL_law 145 = .ok (.aload_n 0, 1) := by decide +kernel
theorem dL_law_146 : decode cL_law 146 = .ok (.iload 4, 2) := by decide +kernel
theorem dL_law_148 : decode cL_law 148 = .ok (.iconst 1, 1) := by decide +kernel
theorem dL_law_149 : decode cL_law 149 = .ok (.iadd, 1) := by decide +kernel
theorem dL_law_150 : decode cL_law 150 = .ok (.iaload, 1) := by decide +kernel
theorem dL_law_151 : decode cL_law 151 = .ok (.aload_n 0, 1) := by decide +kernel
theorem dL_law_152 : decode cL_law 152 = .ok (.iload 4, 2) := by decide +kernel
theorem dL_law_154 : decode cL_law 154 = .ok (.iconst 2, 1) := by decide +kernel
theorem dL_law_155 : decode cL_law 155 = .ok (.iadd, 1) := by decide +kernel
theorem dL_law_156 : decode cL_law 156 = .ok (.iaload, 1) := by decide +kernel
theorem dL_law_157 : decode cL_law 157 = .ok (.aload_n 3, 1) := by decide +kernel
theorem dL_law_158 : decode cL_law 158 = .ok (.invokestatic 93, 3) := by decide +kernel
theorem dL_law_161 : decode cL_law 161 = .ok (.istore 5, 2) := by decide +kernel
theorem dL_law_163 : decode cL_law 163 = .ok (.aload_n 2, 1) := by decide +kernel
theorem dL_law_164 : decode cL_law 164 = .ok (.aload_n 0, 1) := by decide +kernel
theorem dL_law_165 : decode cL_law 165 = .ok (.iload 4, 2) := by decide +kernel
theorem dL_law_167 : decode cL_law 167 = .ok (.iconst 1, 1) := by decide +kernel
theorem dL_law_168 : decode cL_law 168 = .ok (.iadd, 1) := by decide +kernel
theorem dL_law_169 : decode cL_law 169 = .ok (.iaload, 1) := by decide +kernel
theorem dL_law_170 : decode cL_law 170 = .ok (.aload_n 0, 1) := by decide +kernel
theorem dL_law_171 : decode cL_law 171 = .ok (.iload 4, 2) := by decide +kernel
theorem dL_law_173 : decode cL_law 173 = .ok (.iconst 2, 1) := by decide +kernel
theorem dL_law_174 : decode cL_law 174 = .ok (.iadd, 1) := by decide +kernel
theorem dL_law_175 : decode cL_law 175 = .ok (.iaload, 1) := by decide +kernel
theorem dL_law_176 : decode cL_law 176 = .ok (.invokevirtual 98, 3) := by decide +kernel
theorem dL_law_179 : decode cL_law 179 = .ok (.istore 6, 2) := by decide +kernel
theorem dL_law_181 : decode cL_law 181 = .ok (.aload_n 2, 1) := by decide +kernel
theorem dL_law_182 : decode cL_law 182 = .ok (.invokevirtual 99, 3) := by decide +kernel
theorem dL_law_185 : decode cL_law 185 = .ok (.iload 5, 2) := by decide +kernel
theorem dL_law_187 : decode cL_law 187 = .ok (.if_icmp .eq 5, 3) := by decide +kernel
theorem dL_law_190 : decode cL_law 190 = .ok (.iconst 0, 1) := by decide +kernel
theorem dL_law_191 : decode cL_law 191 = .ok (.ireturn, 1) := by decide +kernel
theorem dL_law_192 : decode cL_law 192 = .ok (.iload 5, 2) := by decide +kernel
theorem dL_law_194 : decode cL_law 194 = .ok (.ifCond .ne 15, 3) := by decide +kernel
theorem dL_law_197 : decode cL_law 197 = .ok (.aload_n 3, 1) := by decide +kernel
theorem dL_law_198 : decode cL_law 198 = .ok (.iconst 0, 1) := by decide +kernel
theorem dL_law_199 : decode cL_law 199 = .ok (.laload, 1) := by decide +kernel
theorem dL_law_200 : decode cL_law 200 = .ok (.iload 6, 2) := by decide +kernel
theorem dL_law_202 : decode cL_law 202 = .ok (.i2l, 1) := by decide +kernel
theorem dL_law_203 : decode cL_law 203 = .ok (.lcmp, 1) := by decide +kernel
theorem dL_law_204 : decode cL_law 204 = .ok (.ifCond .eq 5, 3) := by decide +kernel
theorem dL_law_207 : decode cL_law 207 = .ok (.iconst 0, 1) := by decide +kernel
theorem dL_law_208 : decode cL_law 208 = .ok (.ireturn, 1) := by decide +kernel
theorem dL_law_209 : decode cL_law 209 = .ok (.goto 1400, 3) := by decide +kernel
theorem dL_law_212 : decode cL_law 212 = .ok (.aload_n 1, 1) := by decide +kernel
theorem dL_law_213 : decode cL_law 213 = .ok (.aload_n 0, 1) := by decide +kernel
theorem dL_law_214 : decode cL_law 214 = .ok (.iload 4, 2) := by decide +kernel
theorem dL_law_216 : decode cL_law 216 = .ok (.iconst 1, 1) := by decide +kernel
theorem dL_law_217 : decode cL_law 217 = .ok (.iadd, 1) := by decide +kernel
theorem dL_law_218 : decode cL_law 218 = .ok (.iaload, 1) := by decide +kernel
theorem dL_law_219 : decode cL_law 219 = .ok (.aload_n 0, 1) := by decide +kernel
theorem dL_law_220 : decode cL_law 220 = .ok (.iload 4, 2) := by decide +kernel
theorem dL_law_222 : decode cL_law 222 = .ok (.iconst 2, 1) := by decide +kernel
theorem dL_law_223 : decode cL_law 223 = .ok (.iadd, 1) := by decide +kernel
theorem dL_law_224 : decode cL_law 224 = .ok (.iaload, 1) := by decide +kernel
theorem dL_law_225 : decode cL_law 225 = .ok (.aload_n 3, 1) := by decide +kernel
theorem dL_law_226 : decode cL_law 226 = .ok (.invokestatic 103, 3) := by decide +kernel
theorem dL_law_229 : decode cL_law 229 = .ok (.istore 5, 2) := by decide +kernel
theorem dL_law_231 : decode cL_law 231 = .ok (.aload_n 2, 1) := by decide +kernel
theorem dL_law_232 : decode cL_law 232 = .ok (.aload_n 0, 1) := by decide +kernel
theorem dL_law_233 : decode cL_law 233 = .ok (.iload 4, 2) := by decide +kernel
theorem dL_law_235 : decode cL_law 235 = .ok (.iconst 1, 1) := by decide +kernel
theorem dL_law_236 : decode cL_law 236 = .ok (.iadd, 1) := by decide +kernel
theorem dL_law_237 : decode cL_law 237 = .ok (.iaload, 1) := by decide +kernel
theorem dL_law_238 : decode cL_law 238 = .ok (.aload_n 0, 1) := by decide +kernel
theorem dL_law_239 : decode cL_law 239 = .ok (.iload 4, 2) := by decide +kernel
theorem dL_law_241 : decode cL_law 241 = .ok (.iconst 2, 1) := by decide +kernel
theorem dL_law_242 : decode cL_law 242 = .ok (.iadd, 1) := by decide +kernel
theorem dL_law_243 : decode cL_law 243 = .ok (.iaload, 1) := by decide +kernel
theorem dL_law_244 : decode cL_law 244 = .ok (.invokevirtual 105, 3) := by decide +kernel
theorem dL_law_247 : decode cL_law 247 = .ok (.istore 6, 2) := by decide +kernel
theorem dL_law_249 : decode cL_law 249 = .ok (.aload_n 2, 1) := by decide +kernel
theorem dL_law_250 : decode cL_law 250 = .ok (.invokevirtual 99, 3) := by decide +kernel
theorem dL_law_253 : decode cL_law 253 = .ok (.iload 5, 2) := by decide +kernel
theorem dL_law_255 : decode cL_law 255 = .ok (.if_icmp .eq 5, 3) := by decide +kernel
theorem dL_law_258 : decode cL_law 258 = .ok (.iconst 0, 1) := by decide +kernel
theorem dL_law_259 : decode cL_law 259 = .ok (.ireturn, 1) := by decide +kernel
theorem dL_law_260 : decode cL_law 260 = .ok (.iload 5, 2) := by decide +kernel
theorem dL_law_262 : decode cL_law 262 = .ok (.ifCond .ne 15, 3) := by decide +kernel
theorem dL_law_265 : decode cL_law 265 = .ok (.aload_n 3, 1) := by decide +kernel
theorem dL_law_266 : decode cL_law 266 = .ok (.iconst 0, 1) := by decide +kernel
theorem dL_law_267 : decode cL_law 267 = .ok (.laload, 1) := by decide +kernel
theorem dL_law_268 : decode cL_law 268 = .ok (.iload 6, 2) := by decide +kernel
theorem dL_law_270 : decode cL_law 270 = .ok (.i2l, 1) := by decide +kernel
theorem dL_law_271 : decode cL_law 271 = .ok (.lcmp, 1) := by decide +kernel
theorem dL_law_272 : decode cL_law 272 = .ok (.ifCond .eq 5, 3) := by decide +kernel
theorem dL_law_275 : decode cL_law 275 = .ok (.iconst 0, 1) := by decide +kernel
theorem dL_law_276 : decode cL_law 276 = .ok (.ireturn, 1) := by decide +kernel
theorem dL_law_277 : decode cL_law 277 = .ok (.goto 1332, 3) := by decide +kernel
theorem dL_law_280 : decode cL_law 280 = .ok (.aload_n 1, 1) := by decide +kernel
theorem dL_law_281 : decode cL_law 281 = .ok (.aload_n 0, 1) := by decide +kernel
theorem dL_law_282 : decode cL_law 282 = .ok (.iload 4, 2) := by decide +kernel
theorem dL_law_284 : decode cL_law 284 = .ok (.iconst 1, 1) := by decide +kernel
theorem dL_law_285 : decode cL_law 285 = .ok (.iadd, 1) := by decide +kernel
theorem dL_law_286 : decode cL_law 286 = .ok (.iaload, 1) := by decide +kernel
theorem dL_law_287 : decode cL_law 287 = .ok (.aload_n 0, 1) := by decide +kernel
theorem dL_law_288 : decode cL_law 288 = .ok (.iload 4, 2) := by decide +kernel
theorem dL_law_290 : decode cL_law 290 = .ok (.iconst 2, 1) := by decide +kernel
theorem dL_law_291 : decode cL_law 291 = .ok (.iadd, 1) := by decide +kernel
theorem dL_law_292 : decode cL_law 292 = .ok (.iaload, 1) := by decide +kernel
theorem dL_law_293 : decode cL_law 293 = .ok (.aload_n 0, 1) := by decide +kernel
theorem dL_law_294 : decode cL_law 294 = .ok (.iload 4, 2) := by decide +kernel
theorem dL_law_296 : decode cL_law 296 = .ok (.iconst 3, 1) := by decide +kernel
theorem dL_law_297 : decode cL_law 297 = .ok (.iadd, 1) := by decide +kernel
theorem dL_law_298 : decode cL_law 298 = .ok (.iaload, 1) := by decide +kernel
theorem dL_law_299 : decode cL_law 299 = .ok (.invokestatic 106, 3) := by decide +kernel
theorem dL_law_302 : decode cL_law 302 = .ok (.istore 5, 2) := by decide +kernel
theorem dL_law_304 : decode cL_law 304 = .ok (.aload_n 2, 1) := by decide +kernel
theorem dL_law_305 : decode cL_law 305 = .ok (.aload_n 0, 1) := by decide +kernel
theorem dL_law_306 : decode cL_law 306 = .ok (.iload 4, 2) := by decide +kernel
theorem dL_law_308 : decode cL_law 308 = .ok (.iconst 1, 1) := by decide +kernel
theorem dL_law_309 : decode cL_law 309 = .ok (.iadd, 1) := by decide +kernel
theorem dL_law_310 : decode cL_law 310 = .ok (.iaload, 1) := by decide +kernel
theorem dL_law_311 : decode cL_law 311 = .ok (.aload_n 0, 1) := by decide +kernel
theorem dL_law_312 : decode cL_law 312 = .ok (.iload 4, 2) := by decide +kernel
theorem dL_law_314 : decode cL_law 314 = .ok (.iconst 2, 1) := by decide +kernel
theorem dL_law_315 : decode cL_law 315 = .ok (.iadd, 1) := by decide +kernel
theorem dL_law_316 : decode cL_law 316 = .ok (.iaload, 1) := by decide +kernel
theorem dL_law_317 : decode cL_law 317 = .ok (.aload_n 0, 1) := by decide +kernel
theorem dL_law_318 : decode cL_law 318 = .ok (.iload 4, 2) := by decide +kernel
theorem dL_law_320 : decode cL_law 320 = .ok (.iconst 3, 1) := by decide +kernel
theorem dL_law_321 : decode cL_law 321 = .ok (.iadd, 1) := by decide +kernel
theorem dL_law_322 : decode cL_law 322 = .ok (.iaload, 1) := by decide +kernel
theorem dL_law_323 : decode cL_law 323 = .ok (.invokevirtual 109, 3) := by decide +kernel
theorem dL_law_326 : decode cL_law 326 = .ok (.aload_n 2, 1) := by decide +kernel
theorem dL_law_327 : decode cL_law 327 = .ok (.invokevirtual 99, 3) := by decide +kernel
theorem dL_law_330 : decode cL_law 330 = .ok (.iload 5, 2) := by decide +kernel
theorem dL_law_332 : decode cL_law 332 = .ok (.if_icmp .eq 5, 3) := by decide +kernel
theorem dL_law_335 : decode cL_law 335 = .ok (.iconst 0, 1) := by decide +kernel
theorem dL_law_336 : decode cL_law 336 = .ok (.ireturn, 1) := by decide +kernel
theorem dL_law_337 : decode cL_law 337 = .ok (.goto 1272, 3) := by decide +kernel
theorem dL_law_340 : decode cL_law 340 = .ok (.aload_n 1, 1) := by decide +kernel
theorem dL_law_341 : decode cL_law 341 = .ok (.aload_n 0, 1) := by decide +kernel
theorem dL_law_342 : decode cL_law 342 = .ok (.iload 4, 2) := by decide +kernel
theorem dL_law_344 : decode cL_law 344 = .ok (.iconst 1, 1) := by decide +kernel
theorem dL_law_345 : decode cL_law 345 = .ok (.iadd, 1) := by decide +kernel
theorem dL_law_346 : decode cL_law 346 = .ok (.iaload, 1) := by decide +kernel
theorem dL_law_347 : decode cL_law 347 = .ok (.aload_n 0, 1) := by decide +kernel
theorem dL_law_348 : decode cL_law 348 = .ok (.iload 4, 2) := by decide +kernel
theorem dL_law_350 : decode cL_law 350 = .ok (.iconst 2, 1) := by decide +kernel
theorem dL_law_351 : decode cL_law 351 = .ok (.iadd, 1) := by decide +kernel
theorem dL_law_352 : decode cL_law 352 = .ok (.iaload, 1) := by decide +kernel
theorem dL_law_353 : decode cL_law 353 = .ok (.aload_n 0, 1) := by decide +kernel
theorem dL_law_354 : decode cL_law 354 = .ok (.iload 4, 2) := by decide +kernel
theorem dL_law_356 : decode cL_law 356 = .ok (.iconst 3, 1) := by decide +kernel
theorem dL_law_357 : decode cL_law 357 = .ok (.iadd, 1) := by decide +kernel
theorem dL_law_358 : decode cL_law 358 = .ok (.iaload, 1) := by decide +kernel
theorem dL_law_359 : decode cL_law 359 = .ok (.aload_n 0, 1) := by decide +kernel
theorem dL_law_360 : decode cL_law 360 = .ok (.iload 4, 2) := by decide +kernel
theorem dL_law_362 : decode cL_law 362 = .ok (.iconst 4, 1) := by decide +kernel
theorem dL_law_363 : decode cL_law 363 = .ok (.iadd, 1) := by decide +kernel
theorem dL_law_364 : decode cL_law 364 = .ok (.iaload, 1) := by decide +kernel
theorem dL_law_365 : decode cL_law 365 = .ok (.invokestatic 110, 3) := by decide +kernel
theorem dL_law_368 : decode cL_law 368 = .ok (.istore 5, 2) := by decide +kernel
theorem dL_law_370 : decode cL_law 370 = .ok (.aload_n 2, 1) := by decide +kernel
theorem dL_law_371 : decode cL_law 371 = .ok (.aload_n 0, 1) := by decide +kernel
theorem dL_law_372 : decode cL_law 372 = .ok (.iload 4, 2) := by decide +kernel
theorem dL_law_374 : decode cL_law 374 = .ok (.iconst 1, 1) := by decide +kernel
theorem dL_law_375 : decode cL_law 375 = .ok (.iadd, 1) := by decide +kernel
theorem dL_law_376 : decode cL_law 376 = .ok (.iaload, 1) := by decide +kernel
theorem dL_law_377 : decode cL_law 377 = .ok (.aload_n 0, 1) := by decide +kernel
theorem dL_law_378 : decode cL_law 378 = .ok (.iload 4, 2) := by decide +kernel
theorem dL_law_380 : decode cL_law 380 = .ok (.iconst 2, 1) := by decide +kernel
theorem dL_law_381 : decode cL_law 381 = .ok (.iadd, 1) := by decide +kernel
theorem dL_law_382 : decode cL_law 382 = .ok (.iaload, 1) := by decide +kernel
theorem dL_law_383 : decode cL_law 383 = .ok (.aload_n 0, 1) := by decide +kernel
theorem dL_law_384 : decode cL_law 384 = .ok (.iload 4, 2) := by decide +kernel
theorem dL_law_386 : decode cL_law 386 = .ok (.iconst 3, 1) := by decide +kernel
theorem dL_law_387 : decode cL_law 387 = .ok (.iadd, 1) := by decide +kernel
theorem dL_law_388 : decode cL_law 388 = .ok (.iaload, 1) := by decide +kernel
theorem dL_law_389 : decode cL_law 389 = .ok (.aload_n 0, 1) := by decide +kernel
theorem dL_law_390 : decode cL_law 390 = .ok (.iload 4, 2) := by decide +kernel
theorem dL_law_392 : decode cL_law 392 = .ok (.iconst 4, 1) := by decide +kernel
theorem dL_law_393 : decode cL_law 393 = .ok (.iadd, 1) := by decide +kernel
theorem dL_law_394 : decode cL_law 394 = .ok (.iaload, 1) := by decide +kernel
theorem dL_law_395 : decode cL_law 395 = .ok (.invokevirtual 113, 3) := by decide +kernel
theorem dL_law_398 : decode cL_law 398 = .ok (.aload_n 2, 1) := by decide +kernel
theorem dL_law_399 : decode cL_law 399 = .ok (.invokevirtual 99, 3) := by decide +kernel
theorem dL_law_402 : decode cL_law 402 = .ok (.iload 5, 2) := by decide +kernel
theorem dL_law_404 : decode cL_law 404 = .ok (.if_icmp .eq 5, 3) := by decide +kernel
theorem dL_law_407 : decode cL_law 407 = .ok (.iconst 0, 1) := by decide +kernel
theorem dL_law_408 : decode cL_law 408 = .ok (.ireturn, 1) := by decide +kernel
theorem dL_law_409 : decode cL_law 409 = .ok (.goto 1200, 3) := by decide +kernel
theorem dL_law_412 : decode cL_law 412 = .ok (.aload_n 1, 1) := by decide +kernel
theorem dL_law_413 : decode cL_law 413 = .ok (.invokevirtual 114, 3) := by decide +kernel
theorem dL_law_416 : decode cL_law 416 = .ok (.aload_n 2, 1) := by decide +kernel
theorem dL_law_417 : decode cL_law 417 = .ok (.invokevirtual 117, 3) := by decide +kernel
theorem dL_law_420 : decode cL_law 420 = .ok (.if_icmp .eq 1189, 3) := by decide +kernel
theorem dL_law_423 : decode cL_law 423 = .ok (.iconst 0, 1) := by decide +kernel
theorem dL_law_424 : decode cL_law 424 = .ok (.ireturn, 1) := by decide +kernel
theorem dL_law_425 : decode cL_law 425 = .ok (.aload_n 1, 1) := by decide +kernel
theorem dL_law_426 : decode cL_law 426 = .ok (.aload_n 0, 1) := by decide +kernel
theorem dL_law_427 : decode cL_law 427 = .ok (.iload 4, 2) := by decide +kernel
theorem dL_law_429 : decode cL_law 429 = .ok (.iconst 1, 1) := by decide +kernel
theorem dL_law_430 : decode cL_law 430 = .ok (.iadd, 1) := by decide +kernel
theorem dL_law_431 : decode cL_law 431 = .ok (.iaload, 1) := by decide +kernel
theorem dL_law_432 : decode cL_law 432 = .ok (.aload_n 0, 1) := by decide +kernel
theorem dL_law_433 : decode cL_law 433 = .ok (.iload 4, 2) := by decide +kernel
theorem dL_law_435 : decode cL_law 435 = .ok (.iconst 2, 1) := by decide +kernel
theorem dL_law_436 : decode cL_law 436 = .ok (.iadd, 1) := by decide +kernel
theorem dL_law_437 : decode cL_law 437 = .ok (.iaload, 1) := by decide +kernel
theorem dL_law_438 : decode cL_law 438 = .ok (.aload_n 3, 1) := by decide +kernel
theorem dL_law_439 : decode cL_law 439 = .ok (.invokestatic 118, 3) := by decide +kernel
theorem dL_law_442 : decode cL_law 442 = .ok (.istore 5, 2) := by decide +kernel
theorem dL_law_444 : decode cL_law 444 = .ok (.aload_n 2, 1) := by decide +kernel
theorem dL_law_445 : decode cL_law 445 = .ok (.aload_n 0, 1) := by decide +kernel
theorem dL_law_446 : decode cL_law 446 = .ok (.iload 4, 2) := by decide +kernel
theorem dL_law_448 : decode cL_law 448 = .ok (.iconst 1, 1) := by decide +kernel
theorem dL_law_449 : decode cL_law 449 = .ok (.iadd, 1) := by decide +kernel
theorem dL_law_450 : decode cL_law 450 = .ok (.iaload, 1) := by decide +kernel
theorem dL_law_451 : decode cL_law 451 = .ok (.aload_n 0, 1) := by decide +kernel
theorem dL_law_452 : decode cL_law 452 = .ok (.iload 4, 2) := by decide +kernel
theorem dL_law_454 : decode cL_law 454 = .ok (.iconst 2, 1) := by decide +kernel
theorem dL_law_455 : decode cL_law 455 = .ok (.iadd, 1) := by decide +kernel
theorem dL_law_456 : decode cL_law 456 = .ok (.iaload, 1) := by decide +kernel
theorem dL_law_457 : decode cL_law 457 = .ok (.invokevirtual 120, 3) := by decide +kernel
theorem dL_law_460 : decode cL_law 460 = .ok (.istore 6, 2) := by decide +kernel
theorem dL_law_462 : decode cL_law 462 = .ok (.aload_n 2, 1) := by decide +kernel
theorem dL_law_463 : decode cL_law 463 = .ok (.invokevirtual 99, 3) := by decide +kernel
theorem dL_law_466 : decode cL_law 466 = .ok (.iload 5, 2) := by decide +kernel
theorem dL_law_468 : decode cL_law 468 = .ok (.if_icmp .eq 5, 3) := by decide +kernel
theorem dL_law_471 : decode cL_law 471 = .ok (.iconst 0, 1) := by decide +kernel
theorem dL_law_472 : decode cL_law 472 = .ok (.ireturn, 1) := by decide +kernel
theorem dL_law_473 : decode cL_law 473 = .ok (.iload 5, 2) := by decide +kernel
theorem dL_law_475 : decode cL_law 475 = .ok (.ifCond .ne 22, 3) := by decide +kernel
theorem dL_law_478 : decode cL_law 478 = .ok (.aload_n 3, 1) := by decide +kernel
theorem dL_law_479 : decode cL_law 479 = .ok (.iconst 0, 1) := by decide +kernel
theorem dL_law_480 : decode cL_law 480 = .ok (.laload, 1) := by decide +kernel
theorem dL_law_481 : decode cL_law 481 = .ok (.iload 6, 2) := by decide +kernel
theorem dL_law_483 : decode cL_law 483 = .ok (.ifCond .eq 7, 3) := by decide +kernel
theorem dL_law_486 : decode cL_law 486 = .ok (.lconst 1, 1) := by decide +kernel
theorem dL_law_487 : decode cL_law 487 = .ok (.goto 4, 3) := by decide +kernel
theorem dL_law_490 : decode cL_law 490 = .ok (.lconst 0, 1) := by decide +kernel
theorem dL_law_491 : decode cL_law 491 = .ok (.lcmp, 1) := by decide +kernel
theorem dL_law_492 : decode cL_law 492 = .ok (.ifCond .eq 5, 3) := by decide +kernel
theorem dL_law_495 : decode cL_law 495 = .ok (.iconst 0, 1) := by decide +kernel
theorem dL_law_496 : decode cL_law 496 = .ok (.ireturn, 1) := by decide +kernel
theorem dL_law_497 : decode cL_law 497 = .ok (.goto 1112, 3) := by decide +kernel
theorem dL_law_500 : decode cL_law 500 = .ok (.aload_n 1, 1) := by decide +kernel
theorem dL_law_501 : decode cL_law 501 = .ok (.aload_n 0, 1) := by decide +kernel
theorem dL_law_502 : decode cL_law 502 = .ok (.iload 4, 2) := by decide +kernel
theorem dL_law_504 : decode cL_law 504 = .ok (.iconst 1, 1) := by decide +kernel
theorem dL_law_505 : decode cL_law 505 = .ok (.iadd, 1) := by decide +kernel
theorem dL_law_506 : decode cL_law 506 = .ok (.iaload, 1) := by decide +kernel
theorem dL_law_507 : decode cL_law 507 = .ok (.aload_n 0, 1) := by decide +kernel
theorem dL_law_508 : decode cL_law 508 = .ok (.iload 4, 2) := by decide +kernel
theorem dL_law_510 : decode cL_law 510 = .ok (.iconst 2, 1) := by decide +kernel
theorem dL_law_511 : decode cL_law 511 = .ok (.iadd, 1) := by decide +kernel
theorem dL_law_512 : decode cL_law 512 = .ok (.iaload, 1) := by decide +kernel
theorem dL_law_513 : decode cL_law 513 = .ok (.aload_n 3, 1) := by decide +kernel
theorem dL_law_514 : decode cL_law 514 = .ok (.invokestatic 121, 3) := by decide +kernel
theorem dL_law_517 : decode cL_law 517 = .ok (.istore 5, 2) := by decide +kernel
theorem dL_law_519 : decode cL_law 519 = .ok (.aload_n 2, 1) := by decide +kernel
theorem dL_law_520 : decode cL_law 520 = .ok (.aload_n 0, 1) := by decide +kernel
theorem dL_law_521 : decode cL_law 521 = .ok (.iload 4, 2) := by decide +kernel
theorem dL_law_523 : decode cL_law 523 = .ok (.iconst 1, 1) := by decide +kernel
theorem dL_law_524 : decode cL_law 524 = .ok (.iadd, 1) := by decide +kernel
theorem dL_law_525 : decode cL_law 525 = .ok (.iaload, 1) := by decide +kernel
theorem dL_law_526 : decode cL_law 526 = .ok (.aload_n 0, 1) := by decide +kernel
theorem dL_law_527 : decode cL_law 527 = .ok (.iload 4, 2) := by decide +kernel
theorem dL_law_529 : decode cL_law 529 = .ok (.iconst 2, 1) := by decide +kernel
theorem dL_law_530 : decode cL_law 530 = .ok (.iadd, 1) := by decide +kernel
theorem dL_law_531 : decode cL_law 531 = .ok (.iaload, 1) := by decide +kernel
theorem dL_law_532 : decode cL_law 532 = .ok (.invokevirtual 123, 3) := by decide +kernel
theorem dL_law_535 : decode cL_law 535 = .ok (.istore 6, 2) := by decide +kernel
theorem dL_law_537 : decode cL_law 537 = .ok (.aload_n 2, 1) := by decide +kernel
theorem dL_law_538 : decode cL_law 538 = .ok (.invokevirtual 99, 3) := by decide +kernel
theorem dL_law_541 : decode cL_law 541 = .ok (.iload 5, 2) := by decide +kernel
theorem dL_law_543 : decode cL_law 543 = .ok (.if_icmp .eq 5, 3) := by decide +kernel
theorem dL_law_546 : decode cL_law 546 = .ok (.iconst 0, 1) := by decide +kernel
theorem dL_law_547 : decode cL_law 547 = .ok (.ireturn, 1) := by decide +kernel
theorem dL_law_548 : decode cL_law 548 = .ok (.iload 5, 2) := by decide +kernel
theorem dL_law_550 : decode cL_law 550 = .ok (.ifCond .ne 15, 3) := by decide +kernel
theorem dL_law_553 : decode cL_law 553 = .ok (.aload_n 3, 1) := by decide +kernel
theorem dL_law_554 : decode cL_law 554 = .ok (.iconst 0, 1) := by decide +kernel
theorem dL_law_555 : decode cL_law 555 = .ok (.laload, 1) := by decide +kernel
theorem dL_law_556 : decode cL_law 556 = .ok (.iload 6, 2) := by decide +kernel
theorem dL_law_558 : decode cL_law 558 = .ok (.i2l, 1) := by decide +kernel
theorem dL_law_559 : decode cL_law 559 = .ok (.lcmp, 1) := by decide +kernel
theorem dL_law_560 : decode cL_law 560 = .ok (.ifCond .eq 5, 3) := by decide +kernel
theorem dL_law_563 : decode cL_law 563 = .ok (.iconst 0, 1) := by decide +kernel
theorem dL_law_564 : decode cL_law 564 = .ok (.ireturn, 1) := by decide +kernel
theorem dL_law_565 : decode cL_law 565 = .ok (.goto 1044, 3) := by decide +kernel
theorem dL_law_568 : decode cL_law 568 = .ok (.aload_n 1, 1) := by decide +kernel
theorem dL_law_569 : decode cL_law 569 = .ok (.aload_n 0, 1) := by decide +kernel
theorem dL_law_570 : decode cL_law 570 = .ok (.iload 4, 2) := by decide +kernel
theorem dL_law_572 : decode cL_law 572 = .ok (.iconst 1, 1) := by decide +kernel
theorem dL_law_573 : decode cL_law 573 = .ok (.iadd, 1) := by decide +kernel
theorem dL_law_574 : decode cL_law 574 = .ok (.iaload, 1) := by decide +kernel
theorem dL_law_575 : decode cL_law 575 = .ok (.aload_n 0, 1) := by decide +kernel
theorem dL_law_576 : decode cL_law 576 = .ok (.iload 4, 2) := by decide +kernel
theorem dL_law_578 : decode cL_law 578 = .ok (.iconst 2, 1) := by decide +kernel
theorem dL_law_579 : decode cL_law 579 = .ok (.iadd, 1) := by decide +kernel
theorem dL_law_580 : decode cL_law 580 = .ok (.iaload, 1) := by decide +kernel
theorem dL_law_581 : decode cL_law 581 = .ok (.aload_n 3, 1) := by decide +kernel
theorem dL_law_582 : decode cL_law 582 = .ok (.invokestatic 124, 3) := by decide +kernel
theorem dL_law_585 : decode cL_law 585 = .ok (.istore 5, 2) := by decide +kernel
theorem dL_law_587 : decode cL_law 587 = .ok (.aload_n 2, 1) := by decide +kernel
theorem dL_law_588 : decode cL_law 588 = .ok (.aload_n 0, 1) := by decide +kernel
theorem dL_law_589 : decode cL_law 589 = .ok (.iload 4, 2) := by decide +kernel
theorem dL_law_591 : decode cL_law 591 = .ok (.iconst 1, 1) := by decide +kernel
theorem dL_law_592 : decode cL_law 592 = .ok (.iadd, 1) := by decide +kernel
theorem dL_law_593 : decode cL_law 593 = .ok (.iaload, 1) := by decide +kernel
theorem dL_law_594 : decode cL_law 594 = .ok (.aload_n 0, 1) := by decide +kernel
theorem dL_law_595 : decode cL_law 595 = .ok (.iload 4, 2) := by decide +kernel
theorem dL_law_597 : decode cL_law 597 = .ok (.iconst 2, 1) := by decide +kernel
theorem dL_law_598 : decode cL_law 598 = .ok (.iadd, 1) := by decide +kernel
theorem dL_law_599 : decode cL_law 599 = .ok (.iaload, 1) := by decide +kernel
theorem dL_law_600 : decode cL_law 600 = .ok (.invokevirtual 126, 3) := by decide +kernel
theorem dL_law_603 : decode cL_law 603 = .ok (.istore 6, 2) := by decide +kernel
theorem dL_law_605 : decode cL_law 605 = .ok (.aload_n 2, 1) := by decide +kernel
theorem dL_law_606 : decode cL_law 606 = .ok (.invokevirtual 99, 3) := by decide +kernel
theorem dL_law_609 : decode cL_law 609 = .ok (.iload 5, 2) := by decide +kernel
theorem dL_law_611 : decode cL_law 611 = .ok (.if_icmp .eq 5, 3) := by decide +kernel
theorem dL_law_614 : decode cL_law 614 = .ok (.iconst 0, 1) := by decide +kernel
theorem dL_law_615 : decode cL_law 615 = .ok (.ireturn, 1) := by decide +kernel
theorem dL_law_616 : decode cL_law 616 = .ok (.iload 5, 2) := by decide +kernel
theorem dL_law_618 : decode cL_law 618 = .ok (.ifCond .ne 15, 3) := by decide +kernel
theorem dL_law_621 : decode cL_law 621 = .ok (.aload_n 3, 1) := by decide +kernel
theorem dL_law_622 : decode cL_law 622 = .ok (.iconst 0, 1) := by decide +kernel
theorem dL_law_623 : decode cL_law 623 = .ok (.laload, 1) := by decide +kernel
theorem dL_law_624 : decode cL_law 624 = .ok (.iload 6, 2) := by decide +kernel
theorem dL_law_626 : decode cL_law 626 = .ok (.i2l, 1) := by decide +kernel
theorem dL_law_627 : decode cL_law 627 = .ok (.lcmp, 1) := by decide +kernel
theorem dL_law_628 : decode cL_law 628 = .ok (.ifCond .eq 5, 3) := by decide +kernel
theorem dL_law_631 : decode cL_law 631 = .ok (.iconst 0, 1) := by decide +kernel
theorem dL_law_632 : decode cL_law 632 = .ok (.ireturn, 1) := by decide +kernel
theorem dL_law_633 : decode cL_law 633 = .ok (.goto 976, 3) := by decide +kernel
theorem dL_law_636 : decode cL_law 636 = .ok (.aload_n 1, 1) := by decide +kernel
theorem dL_law_637 : decode cL_law 637 = .ok (.aload_n 0, 1) := by decide +kernel
theorem dL_law_638 : decode cL_law 638 = .ok (.iload 4, 2) := by decide +kernel
theorem dL_law_640 : decode cL_law 640 = .ok (.iconst 1, 1) := by decide +kernel
theorem dL_law_641 : decode cL_law 641 = .ok (.iadd, 1) := by decide +kernel
theorem dL_law_642 : decode cL_law 642 = .ok (.iaload, 1) := by decide +kernel
theorem dL_law_643 : decode cL_law 643 = .ok (.aload_n 0, 1) := by decide +kernel
theorem dL_law_644 : decode cL_law 644 = .ok (.iload 4, 2) := by decide +kernel
theorem dL_law_646 : decode cL_law 646 = .ok (.iconst 2, 1) := by decide +kernel
theorem dL_law_647 : decode cL_law 647 = .ok (.iadd, 1) := by decide +kernel
theorem dL_law_648 : decode cL_law 648 = .ok (.iaload, 1) := by decide +kernel
theorem dL_law_649 : decode cL_law 649 = .ok (.aload_n 0, 1) := by decide +kernel
theorem dL_law_650 : decode cL_law 650 = .ok (.iload 4, 2) := by decide +kernel
theorem dL_law_652 : decode cL_law 652 = .ok (.iconst 3, 1) := by decide +kernel
theorem dL_law_653 : decode cL_law 653 = .ok (.iadd, 1) := by decide +kernel
theorem dL_law_654 : decode cL_law 654 = .ok (.iaload, 1) := by decide +kernel
theorem dL_law_655 : decode cL_law 655 = .ok (.aload_n 3, 1) := by decide +kernel
theorem dL_law_656 : decode cL_law 656 = .ok (.invokestatic 127, 3) := by decide +kernel
theorem dL_law_659 : decode cL_law 659 = .ok (.istore 5, 2) := by decide +kernel
theorem dL_law_661 : decode cL_law 661 = .ok (.aload_n 2, 1) := by decide +kernel
theorem dL_law_662 : decode cL_law 662 = .ok (.aload_n 0, 1) := by decide +kernel
theorem dL_law_663 : decode cL_law 663 = .ok (.iload 4, 2) := by decide +kernel
theorem dL_law_665 : decode cL_law 665 = .ok (.iconst 1, 1) := by decide +kernel
theorem dL_law_666 : decode cL_law 666 = .ok (.iadd, 1) := by decide +kernel
theorem dL_law_667 : decode cL_law 667 = .ok (.iaload, 1) := by decide +kernel
theorem dL_law_668 : decode cL_law 668 = .ok (.aload_n 0, 1) := by decide +kernel
theorem dL_law_669 : decode cL_law 669 = .ok (.iload 4, 2) := by decide +kernel
theorem dL_law_671 : decode cL_law 671 = .ok (.iconst 2, 1) := by decide +kernel
theorem dL_law_672 : decode cL_law 672 = .ok (.iadd, 1) := by decide +kernel
theorem dL_law_673 : decode cL_law 673 = .ok (.iaload, 1) := by decide +kernel
theorem dL_law_674 : decode cL_law 674 = .ok (.aload_n 0, 1) := by decide +kernel
theorem dL_law_675 : decode cL_law 675 = .ok (.iload 4, 2) := by decide +kernel
theorem dL_law_677 : decode cL_law 677 = .ok (.iconst 3, 1) := by decide +kernel
theorem dL_law_678 : decode cL_law 678 = .ok (.iadd, 1) := by decide +kernel
theorem dL_law_679 : decode cL_law 679 = .ok (.iaload, 1) := by decide +kernel
theorem dL_law_680 : decode cL_law 680 = .ok (.invokevirtual 130, 3) := by decide +kernel
theorem dL_law_683 : decode cL_law 683 = .ok (.istore 6, 2) := by decide +kernel
theorem dL_law_685 : decode cL_law 685 = .ok (.aload_n 2, 1) := by decide +kernel
theorem dL_law_686 : decode cL_law 686 = .ok (.invokevirtual 99, 3) := by decide +kernel
theorem dL_law_689 : decode cL_law 689 = .ok (.iload 5, 2) := by decide +kernel
theorem dL_law_691 : decode cL_law 691 = .ok (.if_icmp .eq 5, 3) := by decide +kernel
theorem dL_law_694 : decode cL_law 694 = .ok (.iconst 0, 1) := by decide +kernel
end
section
theorem dL_law_695 : decode cL_law 695 = .ok (.ireturn, 1) := by decide +kernel
theorem dL_law_696 : decode cL_law 696 = .ok (.iload 5, 2) := by decide +kernel
theorem dL_law_698 : decode cL_law 698 = .ok (.ifCond .ne 15, 3) := by decide +kernel
theorem dL_law_701 : decode cL_law 701 = .ok (.aload_n 3, 1) := by decide +kernel
theorem dL_law_702 : decode cL_law 702 = .ok (.iconst 0, 1) := by decide +kernel
theorem dL_law_703 : decode cL_law 703 = .ok (.laload, 1) := by decide +kernel
theorem dL_law_704 : decode cL_law 704 = .ok (.iload 6, 2) := by decide +kernel
theorem dL_law_706 : decode cL_law 706 = .ok (.i2l, 1) := by decide +kernel
theorem dL_law_707 : decode cL_law 707 = .ok (.lcmp, 1) := by decide +kernel
theorem dL_law_708 : decode cL_law 708 = .ok (.ifCond .eq 5, 3) := by decide +kernel
theorem dL_law_711 : decode cL_law 711 = .ok (.iconst 0, 1) := by decide +kernel
theorem dL_law_712 : decode cL_law 712 = .ok (.ireturn, 1) := by decide +kernel
theorem dL_law_713 : decode cL_law 713 = .ok (.goto 896, 3) := by decide +kernel
theorem dL_law_716 : decode cL_law 716 = .ok (.aload_n 1, 1) := by decide +kernel
theorem dL_law_717 : decode cL_law 717 = .ok (.aload_n 0, 1) := by decide +kernel
theorem dL_law_718 : decode cL_law 718 = .ok (.iload 4, 2) := by decide +kernel
theorem dL_law_720 : decode cL_law 720 = .ok (.iconst 1, 1) := by decide +kernel
theorem dL_law_721 : decode cL_law 721 = .ok (.iadd, 1) := by decide +kernel
theorem dL_law_722 : decode cL_law 722 = .ok (.iaload, 1) := by decide +kernel
theorem dL_law_723 : decode cL_law 723 = .ok (.aload_n 3, 1) := by decide +kernel
theorem dL_law_724 : decode cL_law 724 = .ok (.invokestatic 131, 3) := by decide +kernel
theorem dL_law_727 : decode cL_law 727 = .ok (.istore 5, 2) := by decide +kernel
theorem dL_law_729 : decode cL_law 729 = .ok (.aload_n 2, 1) := by decide +kernel
theorem dL_law_730 : decode cL_law 730 = .ok (.aload_n 0, 1) := by decide +kernel
theorem dL_law_731 : decode cL_law 731 = .ok (.iload 4, 2) := by decide +kernel
theorem dL_law_733 : decode cL_law 733 = .ok (.iconst 1, 1) := by decide +kernel
theorem dL_law_734 : decode cL_law 734 = .ok (.iadd, 1) := by decide +kernel
theorem dL_law_735 : decode cL_law 735 = .ok (.iaload, 1) := by decide +kernel
theorem dL_law_736 : decode cL_law 736 = .ok (.invokevirtual 134, 3) := by decide +kernel
theorem dL_law_739 : decode cL_law 739 = .ok (.istore 6, 2) := by decide +kernel
theorem dL_law_741 : decode cL_law 741 = .ok (.aload_n 2, 1) := by decide +kernel
theorem dL_law_742 : decode cL_law 742 = .ok (.invokevirtual 99, 3) := by decide +kernel
theorem dL_law_745 : decode cL_law 745 = .ok (.iload 5, 2) := by decide +kernel
theorem dL_law_747 : decode cL_law 747 = .ok (.if_icmp .eq 5, 3) := by decide +kernel
theorem dL_law_750 : decode cL_law 750 = .ok (.iconst 0, 1) := by decide +kernel
theorem dL_law_751 : decode cL_law 751 = .ok (.ireturn, 1) := by decide +kernel
theorem dL_law_752 : decode cL_law 752 = .ok (.iload 5, 2) := by decide +kernel
theorem dL_law_754 : decode cL_law 754 = .ok (.ifCond .ne 15, 3) := by decide +kernel
theorem dL_law_757 : decode cL_law 757 = .ok (.aload_n 3, 1) := by decide +kernel
theorem dL_law_758 : decode cL_law 758 = .ok (.iconst 0, 1) := by decide +kernel
theorem dL_law_759 : decode cL_law 759 = .ok (.laload, 1) := by decide +kernel
theorem dL_law_760 : decode cL_law 760 = .ok (.iload 6, 2) := by decide +kernel
theorem dL_law_762 : decode cL_law 762 = .ok (.i2l, 1) := by decide +kernel
theorem dL_law_763 : decode cL_law 763 = .ok (.lcmp, 1) := by decide +kernel
theorem dL_law_764 : decode cL_law 764 = .ok (.ifCond .eq 5, 3) := by decide +kernel
theorem dL_law_767 : decode cL_law 767 = .ok (.iconst 0, 1) := by decide +kernel
theorem dL_law_768 : decode cL_law 768 = .ok (.ireturn, 1) := by decide +kernel
theorem dL_law_769 : decode cL_law 769 = .ok (.goto 840, 3) := by decide +kernel
theorem dL_law_772 : decode cL_law 772 = .ok (.aload_n 1, 1) := by decide +kernel
theorem dL_law_773 : decode cL_law 773 = .ok (.aload_n 0, 1) := by decide +kernel
theorem dL_law_774 : decode cL_law 774 = .ok (.iload 4, 2) := by decide +kernel
theorem dL_law_776 : decode cL_law 776 = .ok (.iconst 1, 1) := by decide +kernel
theorem dL_law_777 : decode cL_law 777 = .ok (.iadd, 1) := by decide +kernel
theorem dL_law_778 : decode cL_law 778 = .ok (.iaload, 1) := by decide +kernel
theorem dL_law_779 : decode cL_law 779 = .ok (.aload_n 3, 1) := by decide +kernel
theorem dL_law_780 : decode cL_law 780 = .ok (.invokestatic 135, 3) := by decide +kernel
theorem dL_law_783 : decode cL_law 783 = .ok (.istore 5, 2) := by decide +kernel
theorem dL_law_785 : decode cL_law 785 = .ok (.aload_n 2, 1) := by decide +kernel
theorem dL_law_786 : decode cL_law 786 = .ok (.aload_n 0, 1) := by decide +kernel
theorem dL_law_787 : decode cL_law 787 = .ok (.iload 4, 2) := by decide +kernel
theorem dL_law_789 : decode cL_law 789 = .ok (.iconst 1, 1) := by decide +kernel
theorem dL_law_790 : decode cL_law 790 = .ok (.iadd, 1) := by decide +kernel
theorem dL_law_791 : decode cL_law 791 = .ok (.iaload, 1) := by decide +kernel
theorem dL_law_792 : decode cL_law 792 = .ok (.invokevirtual 137, 3) := by decide +kernel
theorem dL_law_795 : decode cL_law 795 = .ok (.istore 6, 2) := by decide +kernel
theorem dL_law_797 : decode cL_law 797 = .ok (.aload_n 2, 1) := by decide +kernel
theorem dL_law_798 : decode cL_law 798 = .ok (.invokevirtual 99, 3) := by decide +kernel
theorem dL_law_801 : decode cL_law 801 = .ok (.iload 5, 2) := by decide +kernel
theorem dL_law_803 : decode cL_law 803 = .ok (.if_icmp .eq 5, 3) := by decide +kernel
theorem dL_law_806 : decode cL_law 806 = .ok (.iconst 0, 1) := by decide +kernel
theorem dL_law_807 : decode cL_law 807 = .ok (.ireturn, 1) := by decide +kernel
theorem dL_law_808 : decode cL_law 808 = .ok (.iload 5, 2) := by decide +kernel
theorem dL_law_810 : decode cL_law 810 = .ok (.ifCond .ne 22, 3) := by decide +kernel
theorem dL_law_813 : decode cL_law 813 = .ok (.aload_n 3, 1) := by decide +kernel
theorem dL_law_814 : decode cL_law 814 = .ok (.iconst 0, 1) := by decide +kernel
theorem dL_law_815 : decode cL_law 815 = .ok (.laload, 1) := by decide +kernel
theorem dL_law_816 : decode cL_law 816 = .ok (.iload 6, 2) := by decide +kernel
theorem dL_law_818 : decode cL_law 818 = .ok (.ifCond .eq 7, 3) := by decide +kernel
theorem dL_law_821 : decode cL_law 821 = .ok (.lconst 1, 1) := by decide +kernel
theorem dL_law_822 : decode cL_law 822 = .ok (.goto 4, 3) := by decide +kernel
theorem dL_law_825 : decode cL_law 825 = .ok (.lconst 0, 1) := by decide +kernel
theorem dL_law_826 : decode cL_law 826 = .ok (.lcmp, 1) := by decide +kernel
theorem dL_law_827 : decode cL_law 827 = .ok (.ifCond .eq 5, 3) := by decide +kernel
theorem dL_law_830 : decode cL_law 830 = .ok (.iconst 0, 1) := by decide +kernel
theorem dL_law_831 : decode cL_law 831 = .ok (.ireturn, 1) := by decide +kernel
theorem dL_law_832 : decode cL_law 832 = .ok (.goto 777, 3) := by decide +kernel
theorem dL_law_835 : decode cL_law 835 = .ok (.aload_n 1, 1) := by decide +kernel
theorem dL_law_836 : decode cL_law 836 = .ok (.aload_n 0, 1) := by decide +kernel
theorem dL_law_837 : decode cL_law 837 = .ok (.iload 4, 2) := by decide +kernel
theorem dL_law_839 : decode cL_law 839 = .ok (.iconst 1, 1) := by decide +kernel
theorem dL_law_840 : decode cL_law 840 = .ok (.iadd, 1) := by decide +kernel
theorem dL_law_841 : decode cL_law 841 = .ok (.iaload, 1) := by decide +kernel
theorem dL_law_842 : decode cL_law 842 = .ok (.aload_n 3, 1) := by decide +kernel
theorem dL_law_843 : decode cL_law 843 = .ok (.invokestatic 138, 3) := by decide +kernel
theorem dL_law_846 : decode cL_law 846 = .ok (.istore 5, 2) := by decide +kernel
theorem dL_law_848 : decode cL_law 848 = .ok (.aload_n 2, 1) := by decide +kernel
theorem dL_law_849 : decode cL_law 849 = .ok (.aload_n 0, 1) := by decide +kernel
theorem dL_law_850 : decode cL_law 850 = .ok (.iload 4, 2) := by decide +kernel
theorem dL_law_852 : decode cL_law 852 = .ok (.iconst 1, 1) := by decide +kernel
theorem dL_law_853 : decode cL_law 853 = .ok (.iadd, 1) := by decide +kernel
theorem dL_law_854 : decode cL_law 854 = .ok (.iaload, 1) := by decide +kernel
theorem dL_law_855 : decode cL_law 855 = .ok (.invokevirtual 140, 3) := by decide +kernel
theorem dL_law_858 : decode cL_law 858 = .ok (.istore 6, 2) := by decide +kernel
theorem dL_law_860 : decode cL_law 860 = .ok (.aload_n 2, 1) := by decide +kernel
theorem dL_law_861 : decode cL_law 861 = .ok (.invokevirtual 99, 3) := by decide +kernel
theorem dL_law_864 : decode cL_law 864 = .ok (.iload 5, 2) := by decide +kernel
theorem dL_law_866 : decode cL_law 866 = .ok (.if_icmp .eq 5, 3) := by decide +kernel
theorem dL_law_869 : decode cL_law 869 = .ok (.iconst 0, 1) := by decide +kernel
theorem dL_law_870 : decode cL_law 870 = .ok (.ireturn, 1) := by decide +kernel
theorem dL_law_871 : decode cL_law 871 = .ok (.iload 5, 2) := by decide +kernel
theorem dL_law_873 : decode cL_law 873 = .ok (.ifCond .ne 15, 3) := by decide +kernel
theorem dL_law_876 : decode cL_law 876 = .ok (.aload_n 3, 1) := by decide +kernel
theorem dL_law_877 : decode cL_law 877 = .ok (.iconst 0, 1) := by decide +kernel
theorem dL_law_878 : decode cL_law 878 = .ok (.laload, 1) := by decide +kernel
theorem dL_law_879 : decode cL_law 879 = .ok (.iload 6, 2) := by decide +kernel
theorem dL_law_881 : decode cL_law 881 = .ok (.i2l, 1) := by decide +kernel
theorem dL_law_882 : decode cL_law 882 = .ok (.lcmp, 1) := by decide +kernel
theorem dL_law_883 : decode cL_law 883 = .ok (.ifCond .eq 5, 3) := by decide +kernel
theorem dL_law_886 : decode cL_law 886 = .ok (.iconst 0, 1) := by decide +kernel
theorem dL_law_887 : decode cL_law 887 = .ok (.ireturn, 1) := by decide +kernel
theorem dL_law_888 : decode cL_law 888 = .ok (.goto 721, 3) := by decide +kernel
theorem dL_law_891 : decode cL_law 891 = .ok (.aload_n 1, 1) := by decide +kernel
theorem dL_law_892 : decode cL_law 892 = .ok (.aload_n 0, 1) := by decide +kernel
theorem dL_law_893 : decode cL_law 893 = .ok (.iload 4, 2) := by decide +kernel
theorem dL_law_895 : decode cL_law 895 = .ok (.iconst 1, 1) := by decide +kernel
theorem dL_law_896 : decode cL_law 896 = .ok (.iadd, 1) := by decide +kernel
theorem dL_law_897 : decode cL_law 897 = .ok (.iaload, 1) := by decide +kernel
theorem dL_law_898 : decode cL_law 898 = .ok (.aload_n 0, 1) := by decide +kernel
theorem dL_law_899 : decode cL_law 899 = .ok (.iload 4, 2) := by decide +kernel
theorem dL_law_901 : decode cL_law 901 = .ok (.iconst 2, 1) := by decide +kernel
theorem dL_law_902 : decode cL_law 902 = .ok (.iadd, 1) := by decide +kernel
theorem dL_law_903 : decode cL_law 903 = .ok (.iaload, 1) := by decide +kernel
theorem dL_law_904 : decode cL_law 904 = .ok (.aload_n 3, 1) := by decide +kernel
theorem dL_law_905 : decode cL_law 905 = .ok (.invokestatic 141, 3) := by decide +kernel
theorem dL_law_908 : decode cL_law 908 = .ok (.istore 5, 2) := by decide +kernel
theorem dL_law_910 : decode cL_law 910 = .ok (.aload_n 2, 1) := by decide +kernel
theorem dL_law_911 : decode cL_law 911 = .ok (.aload_n 0, 1) := by decide +kernel
theorem dL_law_912 : decode cL_law 912 = .ok (.iload 4, 2) := by decide +kernel
theorem dL_law_914 : decode cL_law 914 = .ok (.iconst 1, 1) := by decide +kernel
theorem dL_law_915 : decode cL_law 915 = .ok (.iadd, 1) := by decide +kernel
theorem dL_law_916 : decode cL_law 916 = .ok (.iaload, 1) := by decide +kernel
theorem dL_law_917 : decode cL_law 917 = .ok (.aload_n 0, 1) := by decide +kernel
theorem dL_law_918 : decode cL_law 918 = .ok (.iload 4, 2) := by decide +kernel
theorem dL_law_920 : decode cL_law 920 = .ok (.iconst 2, 1) := by decide +kernel
theorem dL_law_921 : decode cL_law 921 = .ok (.iadd, 1) := by decide +kernel
theorem dL_law_922 : decode cL_law 922 = .ok (.iaload, 1) := by decide +kernel
theorem dL_law_923 : decode cL_law 923 = .ok (.invokevirtual 143, 3) := by decide +kernel
theorem dL_law_926 : decode cL_law 926 = .ok (.istore 6, 2) := by decide +kernel
theorem dL_law_928 : decode cL_law 928 = .ok (.aload_n 2, 1) := by decide +kernel
theorem dL_law_929 : decode cL_law 929 = .ok (.invokevirtual 99, 3) := by decide +kernel
theorem dL_law_932 : decode cL_law 932 = .ok (.iload 5, 2) := by decide +kernel
theorem dL_law_934 : decode cL_law 934 = .ok (.if_icmp .eq 5, 3) := by decide +kernel
theorem dL_law_937 : decode cL_law 937 = .ok (.iconst 0, 1) := by decide +kernel
theorem dL_law_938 : decode cL_law 938 = .ok (.ireturn, 1) := by decide +kernel
theorem dL_law_939 : decode cL_law 939 = .ok (.iload 5, 2) := by decide +kernel
theorem dL_law_941 : decode cL_law 941 = .ok (.ifCond .ne 15, 3) := by decide +kernel
theorem dL_law_944 : decode cL_law 944 = .ok (.aload_n 3, 1) := by decide +kernel
theorem dL_law_945 : decode cL_law 945 = .ok (.iconst 0, 1) := by decide +kernel
theorem dL_law_946 : decode cL_law 946 = .ok (.laload, 1) := by decide +kernel
theorem dL_law_947 : decode cL_law 947 = .ok (.iload 6, 2) := by decide +kernel
theorem dL_law_949 : decode cL_law 949 = .ok (.i2l, 1) := by decide +kernel
theorem dL_law_950 : decode cL_law 950 = .ok (.lcmp, 1) := by decide +kernel
theorem dL_law_951 : decode cL_law 951 = .ok (.ifCond .eq 5, 3) := by decide +kernel
theorem dL_law_954 : decode cL_law 954 = .ok (.iconst 0, 1) := by decide +kernel
theorem dL_law_955 : decode cL_law 955 = .ok (.ireturn, 1) := by decide +kernel
theorem dL_law_956 : decode cL_law 956 = .ok (.goto 653, 3) := by decide +kernel
theorem dL_law_959 : decode cL_law 959 = .ok (.aload_n 1, 1) := by decide +kernel
theorem dL_law_960 : decode cL_law 960 = .ok (.aload_n 0, 1) := by decide +kernel
theorem dL_law_961 : decode cL_law 961 = .ok (.iload 4, 2) := by decide +kernel
theorem dL_law_963 : decode cL_law 963 = .ok (.iconst 1, 1) := by decide +kernel
theorem dL_law_964 : decode cL_law 964 = .ok (.iadd, 1) := by decide +kernel
theorem dL_law_965 : decode cL_law 965 = .ok (.iaload, 1) := by decide +kernel
theorem dL_law_966 : decode cL_law 966 = .ok (.aload_n 0, 1) := by decide +kernel
theorem dL_law_967 : decode cL_law 967 = .ok (.iload 4, 2) := by decide +kernel
theorem dL_law_969 : decode cL_law 969 = .ok (.iconst 2, 1) := by decide +kernel
theorem dL_law_970 : decode cL_law 970 = .ok (.iadd, 1) := by decide +kernel
theorem dL_law_971 : decode cL_law 971 = .ok (.iaload, 1) := by decide +kernel
theorem dL_law_972 : decode cL_law 972 = .ok (.aload_n 0, 1) := by decide +kernel
theorem dL_law_973 : decode cL_law 973 = .ok (.iload 4, 2) := by decide +kernel
theorem dL_law_975 : decode cL_law 975 = .ok (.iconst 3, 1) := by decide +kernel
theorem dL_law_976 : decode cL_law 976 = .ok (.iadd, 1) := by decide +kernel
theorem dL_law_977 : decode cL_law 977 = .ok (.iaload, 1) := by decide +kernel
theorem dL_law_978 : decode cL_law 978 = .ok (.aload_n 0, 1) := by decide +kernel
theorem dL_law_979 : decode cL_law 979 = .ok (.iload 4, 2) := by decide +kernel
theorem dL_law_981 : decode cL_law 981 = .ok (.iconst 4, 1) := by decide +kernel
theorem dL_law_982 : decode cL_law 982 = .ok (.iadd, 1) := by decide +kernel
theorem dL_law_983 : decode cL_law 983 = .ok (.iaload, 1) := by decide +kernel
theorem dL_law_984 : decode cL_law 984 = .ok (.aload_n 3, 1) := by decide +kernel
theorem dL_law_985 : decode cL_law 985 = .ok (.invokestatic 144, 3) := by decide +kernel
theorem dL_law_988 : decode cL_law 988 = .ok (.istore 5, 2) := by decide +kernel
theorem dL_law_990 : decode cL_law 990 = .ok (.aload_n 2, 1) := by decide +kernel
theorem dL_law_991 : decode cL_law 991 = .ok (.aload_n 0, 1) := by decide +kernel
theorem dL_law_992 : decode cL_law 992 = .ok (.iload 4, 2) := by decide +kernel
theorem dL_law_994 : decode cL_law 994 = .ok (.iconst 1, 1) := by decide +kernel
theorem dL_law_995 : decode cL_law 995 = .ok (.iadd, 1) := by decide +kernel
theorem dL_law_996 : decode cL_law 996 = .ok (.iaload, 1) := by decide +kernel
theorem dL_law_997 : decode cL_law 997 = .ok (.aload_n 0, 1) := by decide +kernel
theorem dL_law_998 : decode cL_law 998 = .ok (.iload 4, 2) := by decide +kernel
theorem dL_law_1000 : decode cL_law 1000 = .ok (.iconst 2, 1) := by decide +kernel
theorem dL_law_1001 : decode cL_law 1001 = .ok (.iadd, 1) := by decide +kernel
theorem dL_law_1002 : decode cL_law 1002 = .ok (.iaload, 1) := by decide +kernel
theorem dL_law_1003 : decode cL_law 1003 = .ok (.aload_n 0, 1) := by decide +kernel
theorem dL_law_1004 : decode cL_law 1004 = .ok (.iload 4, 2) := by decide +kernel
theorem dL_law_1006 : decode cL_law 1006 = .ok (.iconst 3, 1) := by decide +kernel
theorem dL_law_1007 : decode cL_law 1007 = .ok (.iadd, 1) := by decide +kernel
theorem dL_law_1008 : decode cL_law 1008 = .ok (.iaload, 1) := by decide +kernel
theorem dL_law_1009 : decode cL_law 1009 = .ok (.aload_n 0, 1) := by decide +kernel
theorem dL_law_1010 : decode cL_law 1010 = .ok (.iload 4, 2) := by decide +kernel
theorem dL_law_1012 : decode cL_law 1012 = .ok (.iconst 4, 1) := by decide +kernel
theorem dL_law_1013 : decode cL_law 1013 = .ok (.iadd, 1) := by decide +kernel
theorem dL_law_1014 : decode cL_law 1014 = .ok (.iaload, 1) := by decide +kernel
theorem dL_law_1015 : decode cL_law 1015 = .ok (.invokevirtual 147, 3) := by decide +kernel
theorem dL_law_1018 : decode cL_law 1018 = .ok (.lstore 6, 2) := by decide +kernel
theorem dL_law_1020 : decode cL_law 1020 = .ok (.aload_n 2, 1) := by decide +kernel
theorem dL_law_1021 : decode cL_law 1021 = .ok (.invokevirtual 99, 3) := by decide +kernel
theorem dL_law_1024 : decode cL_law 1024 = .ok (.iload 5, 2) := by decide +kernel
theorem dL_law_1026 : decode cL_law 1026 = .ok (.if_icmp .eq 5, 3) := by decide +kernel
theorem dL_law_1029 : decode cL_law 1029 = .ok (.iconst 0, 1) := by decide +kernel
theorem dL_law_1030 : decode cL_law 1030 = .ok (.ireturn, 1) := by decide +kernel
theorem dL_law_1031 : decode cL_law 1031 = .ok (.iload 5, 2) := by decide +kernel
theorem dL_law_1033 : decode cL_law 1033 = .ok (.ifCond .ne 14, 3) := by decide +kernel
theorem dL_law_1036 : decode cL_law 1036 = .ok (.aload_n 3, 1) := by decide +kernel
theorem dL_law_1037 : decode cL_law 1037 = .ok (.iconst 0, 1) := by decide +kernel
theorem dL_law_1038 : decode cL_law 1038 = .ok (.laload, 1) := by decide +kernel
theorem dL_law_1039 : decode cL_law 1039 = .ok (.lload 6, 2) := by decide +kernel
theorem dL_law_1041 : decode cL_law 1041 = .ok (.lcmp, 1) := by decide +kernel
theorem dL_law_1042 : decode cL_law 1042 = .ok (.ifCond .eq 5, 3) := by decide +kernel
theorem dL_law_1045 : decode cL_law 1045 = .ok (.iconst 0, 1) := by decide +kernel
theorem dL_law_1046 : decode cL_law 1046 = .ok (.ireturn, 1) := by decide +kernel
theorem dL_law_1047 : decode cL_law 1047 = .ok (.goto 562, 3) := by decide +kernel
theorem dL_law_1050 : decode cL_law 1050 = .ok (.aload_n 1, 1) := by decide +kernel
theorem dL_law_1051 : decode cL_law 1051 = .ok (.aload_n 0, 1) := by decide +kernel
theorem dL_law_1052 : decode cL_law 1052 = .ok (.iload 4, 2) := by decide +kernel
theorem dL_law_1054 : decode cL_law 1054 = .ok (.iconst 1, 1) := by decide +kernel
theorem dL_law_1055 : decode cL_law 1055 = .ok (.iadd, 1) := by decide +kernel
theorem dL_law_1056 : decode cL_law 1056 = .ok (.iaload, 1) := by decide +kernel
theorem dL_law_1057 : decode cL_law 1057 = .ok (.aload_n 0, 1) := by decide +kernel
theorem dL_law_1058 : decode cL_law 1058 = .ok (.iload 4, 2) := by decide +kernel
theorem dL_law_1060 : decode cL_law 1060 = .ok (.iconst 2, 1) := by decide +kernel
theorem dL_law_1061 : decode cL_law 1061 = .ok (.iadd, 1) := by decide +kernel
theorem dL_law_1062 : decode cL_law 1062 = .ok (.iaload, 1) := by decide +kernel
theorem dL_law_1063 : decode cL_law 1063 = .ok (.aload_n 0, 1) := by decide +kernel
theorem dL_law_1064 : decode cL_law 1064 = .ok (.iload 4, 2) := by decide +kernel
theorem dL_law_1066 : decode cL_law 1066 = .ok (.iconst 3, 1) := by decide +kernel
theorem dL_law_1067 : decode cL_law 1067 = .ok (.iadd, 1) := by decide +kernel
theorem dL_law_1068 : decode cL_law 1068 = .ok (.iaload, 1) := by decide +kernel
theorem dL_law_1069 : decode cL_law 1069 = .ok (.aload_n 3, 1) := by decide +kernel
theorem dL_law_1070 : decode cL_law 1070 = .ok (.invokestatic 148, 3) := by decide +kernel
theorem dL_law_1073 : decode cL_law 1073 = .ok (.istore 5, 2) := by decide +kernel
theorem dL_law_1075 : decode cL_law 1075 = .ok (.aload_n 2, 1) := by decide +kernel
theorem dL_law_1076 : decode cL_law 1076 = .ok (.aload_n 0, 1) := by decide +kernel
theorem dL_law_1077 : decode cL_law 1077 = .ok (.iload 4, 2) := by decide +kernel
theorem dL_law_1079 : decode cL_law 1079 = .ok (.iconst 1, 1) := by decide +kernel
theorem dL_law_1080 : decode cL_law 1080 = .ok (.iadd, 1) := by decide +kernel
theorem dL_law_1081 : decode cL_law 1081 = .ok (.iaload, 1) := by decide +kernel
theorem dL_law_1082 : decode cL_law 1082 = .ok (.aload_n 0, 1) := by decide +kernel
theorem dL_law_1083 : decode cL_law 1083 = .ok (.iload 4, 2) := by decide +kernel
theorem dL_law_1085 : decode cL_law 1085 = .ok (.iconst 2, 1) := by decide +kernel
theorem dL_law_1086 : decode cL_law 1086 = .ok (.iadd, 1) := by decide +kernel
theorem dL_law_1087 : decode cL_law 1087 = .ok (.iaload, 1) := by decide +kernel
theorem dL_law_1088 : decode cL_law 1088 = .ok (.aload_n 0, 1) := by decide +kernel
theorem dL_law_1089 : decode cL_law 1089 = .ok (.iload 4, 2) := by decide +kernel
theorem dL_law_1091 : decode cL_law 1091 = .ok (.iconst 3, 1) := by decide +kernel
theorem dL_law_1092 : decode cL_law 1092 = .ok (.iadd, 1) := by decide +kernel
theorem dL_law_1093 : decode cL_law 1093 = .ok (.iaload, 1) := by decide +kernel
theorem dL_law_1094 : decode cL_law 1094 = .ok (.invokevirtual 150, 3) := by decide +kernel
theorem dL_law_1097 : decode cL_law 1097 = .ok (.istore 6, 2) := by decide +kernel
theorem dL_law_1099 : decode cL_law 1099 = .ok (.aload_n 2, 1) := by decide +kernel
theorem dL_law_1100 : decode cL_law 1100 = .ok (.invokevirtual 99, 3) := by decide +kernel
theorem dL_law_1103 : decode cL_law 1103 = .ok (.iload 5, 2) := by decide +kernel
theorem dL_law_1105 : decode cL_law 1105 = .ok (.if_icmp .eq 5, 3) := by decide +kernel
theorem dL_law_1108 : decode cL_law 1108 = .ok (.iconst 0, 1) := by decide +kernel
theorem dL_law_1109 : decode cL_law 1109 = .ok (.ireturn, 1) := by decide +kernel
theorem dL_law_1110 : decode cL_law 1110 = .ok (.iload 5, 2) := by decide +kernel
theorem dL_law_1112 : decode cL_law 1112 = .ok (.ifCond .ne 15, 3) := by decide +kernel
theorem dL_law_1115 : decode cL_law 1115 = .ok (.aload_n 3, 1) := by decide +kernel
theorem dL_law_1116 : decode cL_law 1116 = .ok (.iconst 0, 1) := by decide +kernel
theorem dL_law_1117 : decode cL_law 1117 = .ok (.laload, 1) := by decide +kernel
theorem dL_law_1118 : decode cL_law 1118 = .ok (.iload 6, 2) := by decide +kernel
theorem dL_law_1120 : decode cL_law 1120 = .ok (.i2l, 1) := by decide +kernel
theorem dL_law_1121 : decode cL_law 1121 = .ok (.lcmp, 1) := by decide +kernel
theorem dL_law_1122 : decode cL_law 1122 = .ok (.ifCond .eq 5, 3) := by decide +kernel
theorem dL_law_1125 : decode cL_law 1125 = .ok (.iconst 0, 1) := by decide +kernel
theorem dL_law_1126 : decode cL_law 1126 = .ok (.ireturn, 1) := by decide +kernel
theorem dL_law_1127 : decode cL_law 1127 = .ok (.goto 482, 3) := by decide +kernel
theorem dL_law_1130 : decode cL_law 1130 = .ok (.aload_n 1, 1) := by decide +kernel
theorem dL_law_1131 : decode cL_law 1131 = .ok (.aload_n 0, 1) := by decide +kernel
theorem dL_law_1132 : decode cL_law 1132 = .ok (.iload 4, 2) := by decide +kernel
theorem dL_law_1134 : decode cL_law 1134 = .ok (.iconst 1, 1) := by decide +kernel
theorem dL_law_1135 : decode cL_law 1135 = .ok (.iadd, 1) := by decide +kernel
theorem dL_law_1136 : decode cL_law 1136 = .ok (.iaload, 1) := by decide +kernel
theorem dL_law_1137 : decode cL_law 1137 = .ok (.aload_n 3, 1) := by decide +kernel
theorem dL_law_1138 : decode cL_law 1138 = .ok (.invokestatic 151, 3) := by decide +kernel
theorem dL_law_1141 : decode cL_law 1141 = .ok (.istore 5, 2) := by decide +kernel
theorem dL_law_1143 : decode cL_law 1143 = .ok (.aload_n 2, 1) := by decide +kernel
theorem dL_law_1144 : decode cL_law 1144 = .ok (.aload_n 0, 1) := by decide +kernel
theorem dL_law_1145 : decode cL_law 1145 = .ok (.iload 4, 2) := by decide +kernel
theorem dL_law_1147 : decode cL_law 1147 = .ok (.iconst 1, 1) := by decide +kernel
theorem dL_law_1148 : decode cL_law 1148 = .ok (.iadd, 1) := by decide +kernel
theorem dL_law_1149 : decode cL_law 1149 = .ok (.iaload, 1) := by decide +kernel
theorem dL_law_1150 : decode cL_law 1150 = .ok (.invokevirtual 153, 3) := by decide +kernel
theorem dL_law_1153 : decode cL_law 1153 = .ok (.istore 6, 2) := by decide +kernel
theorem dL_law_1155 : decode cL_law 1155 = .ok (.aload_n 2, 1) := by decide +kernel
theorem dL_law_1156 : decode cL_law 1156 = .ok (.invokevirtual 99, 3) := by decide +kernel
theorem dL_law_1159 : decode cL_law 1159 = .ok (.iload 5, 2) := by decide +kernel
theorem dL_law_1161 : decode cL_law 1161 = .ok (.if_icmp .eq 5, 3) := by decide +kernel
theorem dL_law_1164 : decode cL_law 1164 = .ok (.iconst 0, 1) := by decide +kernel
theorem dL_law_1165 : decode cL_law 1165 = .ok (.ireturn, 1) := by decide +kernel
theorem dL_law_1166 : decode cL_law 1166 = .ok (.iload 5, 2) := by decide +kernel
theorem dL_law_1168 : decode cL_law 1168 = .ok (.ifCond .ne 15, 3) := by decide +kernel
theorem dL_law_1171 : decode cL_law 1171 = .ok (.aload_n 3, 1) := by decide +kernel
theorem dL_law_1172 : decode cL_law 1172 = .ok (.iconst 0, 1) := by decide +kernel
theorem dL_law_1173 : decode cL_law 1173 = .ok (.laload, 1) := by decide +kernel
theorem dL_law_1174 : decode cL_law 1174 = .ok (.iload 6, 2) := by decide +kernel
theorem dL_law_1176 : decode cL_law 1176 = .ok (.i2l, 1) := by decide +kernel
theorem dL_law_1177 : decode cL_law 1177 = .ok (.lcmp, 1) := by decide +kernel
theorem dL_law_1178 : decode cL_law 1178 = .ok (.ifCond .eq 5, 3) := by decide +kernel
theorem dL_law_1181 : decode cL_law 1181 = .ok (.iconst 0, 1) := by decide +kernel
theorem dL_law_1182 : decode cL_law 1182 = .ok (.ireturn, 1) := by decide +kernel
theorem dL_law_1183 : decode cL_law 1183 = .ok (.goto 426, 3) := by decide +kernel
theorem dL_law_1186 : decode cL_law 1186 = .ok (.aload_n 1, 1) := by decide +kernel
theorem dL_law_1187 : decode cL_law 1187 = .ok (.aload_n 0, 1) := by decide +kernel
theorem dL_law_1188 : decode cL_law 1188 = .ok (.iload 4, 2) := by decide +kernel
theorem dL_law_1190 : decode cL_law 1190 = .ok (.iconst 1, 1) := by decide +kernel
theorem dL_law_1191 : decode cL_law 1191 = .ok (.iadd, 1) := by decide +kernel
theorem dL_law_1192 : decode cL_law 1192 = .ok (.iaload, 1) := by decide +kernel
theorem dL_law_1193 : decode cL_law 1193 = .ok (.aload_n 3, 1) := by decide +kernel
theorem dL_law_1194 : decode cL_law 1194 = .ok (.invokestatic 154, 3) := by decide +kernel
theorem dL_law_1197 : decode cL_law 1197 = .ok (.istore 5, 2) := by decide +kernel
theorem dL_law_1199 : decode cL_law 1199 = .ok (.aload_n 2, 1) := by decide +kernel
theorem dL_law_1200 : decode cL_law 1200 = .ok (.aload_n 0, 1) := by decide +kernel
theorem dL_law_1201 : decode cL_law 1201 = .ok (.iload 4, 2) := by decide +kernel
theorem dL_law_1203 : decode cL_law 1203 = .ok (.iconst 1, 1) := by decide +kernel
theorem dL_law_1204 : decode cL_law 1204 = .ok (.iadd, 1) := by decide +kernel
theorem dL_law_1205 : decode cL_law 1205 = .ok (.iaload, 1) := by decide +kernel
theorem dL_law_1206 : decode cL_law 1206 = .ok (.invokevirtual 156, 3) := by decide +kernel
theorem dL_law_1209 : decode cL_law 1209 = .ok (.istore 6, 2) := by decide +kernel
theorem dL_law_1211 : decode cL_law 1211 = .ok (.aload_n 2, 1) := by decide +kernel
theorem dL_law_1212 : decode cL_law 1212 = .ok (.invokevirtual 99, 3) := by decide +kernel
theorem dL_law_1215 : decode cL_law 1215 = .ok (.iload 5, 2) := by decide +kernel
theorem dL_law_1217 : decode cL_law 1217 = .ok (.if_icmp .eq 5, 3) := by decide +kernel
theorem dL_law_1220 : decode cL_law 1220 = .ok (.iconst 0, 1) := by decide +kernel
theorem dL_law_1221 : decode cL_law 1221 = .ok (.ireturn, 1) := by decide +kernel
theorem dL_law_1222 : decode cL_law 1222 = .ok (.iload 5, 2) := by decide +kernel
theorem dL_law_1224 : decode cL_law 1224 = .ok (.ifCond .ne 15, 3) := by decide +kernel
theorem dL_law_1227 : decode cL_law 1227 = .ok (.aload_n 3, 1) := by decide +kernel
theorem dL_law_1228 : decode cL_law 1228 = .ok (.iconst 0, 1) := by decide +kernel
theorem dL_law_1229 : decode cL_law 1229 = .ok (.laload, 1) := by decide +kernel
theorem dL_law_1230 : decode cL_law 1230 = .ok (.iload 6, 2) := by decide +kernel
theorem dL_law_1232 : decode cL_law 1232 = .ok (.i2l, 1) := by decide +kernel
theorem dL_law_1233 : decode cL_law 1233 = .ok (.lcmp, 1) := by decide +kernel
theorem dL_law_1234 : decode cL_law 1234 = .ok (.ifCond .eq 5, 3) := by decide +kernel
theorem dL_law_1237 : decode cL_law 1237 = .ok (.iconst 0, 1) := by decide +kernel
theorem dL_law_1238 : decode cL_law 1238 = .ok (.ireturn, 1) := by decide +kernel
theorem dL_law_1239 : decode cL_law 1239 = .ok (.goto 370, 3) := by decide +kernel
theorem dL_law_1242 : decode cL_law 1242 = .ok (.aload_n 1, 1) := by decide +kernel
theorem dL_law_1243 : decode cL_law 1243 = .ok (.aload_n 0, 1) := by decide +kernel
theorem dL_law_1244 : decode cL_law 1244 = .ok (.iload 4, 2) := by decide +kernel
theorem dL_law_1246 : decode cL_law 1246 = .ok (.iconst 1, 1) := by decide +kernel
theorem dL_law_1247 : decode cL_law 1247 = .ok (.iadd, 1) := by decide +kernel
theorem dL_law_1248 : decode cL_law 1248 = .ok (.iaload, 1) := by decide +kernel
theorem dL_law_1249 : decode cL_law 1249 = .ok (.aload_n 3, 1) := by decide +kernel
theorem dL_law_1250 : decode cL_law 1250 = .ok (.invokestatic 157, 3) := by decide +kernel
theorem dL_law_1253 : decode cL_law 1253 = .ok (.istore 5, 2) := by decide +kernel
theorem dL_law_1255 : decode cL_law 1255 = .ok (.aload_n 2, 1) := by decide +kernel
theorem dL_law_1256 : decode cL_law 1256 = .ok (.aload_n 0, 1) := by decide +kernel
theorem dL_law_1257 : decode cL_law 1257 = .ok (.iload 4, 2) := by decide +kernel
theorem dL_law_1259 : decode cL_law 1259 = .ok (.iconst 1, 1) := by decide +kernel
theorem dL_law_1260 : decode cL_law 1260 = .ok (.iadd, 1) := by decide +kernel
theorem dL_law_1261 : decode cL_law 1261 = .ok (.iaload, 1) := by decide +kernel
theorem dL_law_1262 : decode cL_law 1262 = .ok (.invokevirtual 159, 3) := by decide +kernel
theorem dL_law_1265 : decode cL_law 1265 = .ok (.istore 6, 2) := by decide +kernel
theorem dL_law_1267 : decode cL_law 1267 = .ok (.aload_n 2, 1) := by decide +kernel
theorem dL_law_1268 : decode cL_law 1268 = .ok (.invokevirtual 99, 3) := by decide +kernel
theorem dL_law_1271 : decode cL_law 1271 = .ok (.iload 5, 2) := by decide +kernel
theorem dL_law_1273 : decode cL_law 1273 = .ok (.if_icmp .eq 5, 3) := by decide +kernel
theorem dL_law_1276 : decode cL_law 1276 = .ok (.iconst 0, 1) := by decide +kernel
theorem dL_law_1277 : decode cL_law 1277 = .ok (.ireturn, 1) := by decide +kernel
theorem dL_law_1278 : decode cL_law 1278 = .ok (.iload 5, 2) := by decide +kernel
theorem dL_law_1280 : decode cL_law 1280 = .ok (.ifCond .ne 15, 3) := by decide +kernel
theorem dL_law_1283 : decode cL_law 1283 = .ok (.aload_n 3, 1) := by decide +kernel
theorem dL_law_1284 : decode cL_law 1284 = .ok (.iconst 0, 1) := by decide +kernel
theorem dL_law_1285 : decode cL_law 1285 = .ok (.laload, 1) := by decide +kernel
theorem dL_law_1286 : decode cL_law 1286 = .ok (.iload 6, 2) := by decide +kernel
theorem dL_law_1288 : decode cL_law 1288 = .ok (.i2l, 1) := by decide +kernel
theorem dL_law_1289 : decode cL_law 1289 = .ok (.lcmp, 1) := by decide +kernel
theorem dL_law_1290 : decode cL_law 1290 = .ok (.ifCond .eq 5, 3) := by decide +kernel
theorem dL_law_1293 : decode cL_law 1293 = .ok (.iconst 0, 1) := by decide +kernel
theorem dL_law_1294 : decode cL_law 1294 = .ok (.ireturn, 1) := by decide +kernel
theorem dL_law_1295 : decode cL_law 1295 = .ok (.goto 314, 3) := by decide +kernel
theorem dL_law_1298 : decode cL_law 1298 = .ok (.aload_n 1, 1) := by decide +kernel
theorem dL_law_1299 : decode cL_law 1299 = .ok (.aload_n 0, 1) := by decide +kernel
theorem dL_law_1300 : decode cL_law 1300 = .ok (.iload 4, 2) := by decide +kernel
theorem dL_law_1302 : decode cL_law 1302 = .ok (.iconst 1, 1) := by decide +kernel
theorem dL_law_1303 : decode cL_law 1303 = .ok (.iadd, 1) := by decide +kernel
theorem dL_law_1304 : decode cL_law 1304 = .ok (.iaload, 1) := by decide +kernel
theorem dL_law_1305 : decode cL_law 1305 = .ok (.aload_n 3, 1) := by decide +kernel
theorem dL_law_1306 : decode cL_law 1306 = .ok (.invokestatic 160, 3) := by decide +kernel
theorem dL_law_1309 : decode cL_law 1309 = .ok (.istore 5, 2) := by decide +kernel
theorem dL_law_1311 : decode cL_law 1311 = .ok (.aload_n 2, 1) := by decide +kernel
theorem dL_law_1312 : decode cL_law 1312 = .ok (.aload_n 0, 1) := by decide +kernel
theorem dL_law_1313 : decode cL_law 1313 = .ok (.iload 4, 2) := by decide +kernel
theorem dL_law_1315 : decode cL_law 1315 = .ok (.iconst 1, 1) := by decide +kernel
theorem dL_law_1316 : decode cL_law 1316 = .ok (.iadd, 1) := by decide +kernel
theorem dL_law_1317 : decode cL_law 1317 = .ok (.iaload, 1) := by decide +kernel
theorem dL_law_1318 : decode cL_law 1318 = .ok (.invokevirtual 162, 3) := by decide +kernel
theorem dL_law_1321 : decode cL_law 1321 = .ok (.istore 6, 2) := by decide +kernel
theorem dL_law_1323 : decode cL_law 1323 = .ok (.aload_n 2, 1) := by decide +kernel
theorem dL_law_1324 : decode cL_law 1324 = .ok (.invokevirtual 99, 3) := by decide +kernel
theorem dL_law_1327 : decode cL_law 1327 = .ok (.iload 5, 2) := by decide +kernel
theorem dL_law_1329 : decode cL_law 1329 = .ok (.if_icmp .eq 5, 3) := by decide +kernel
theorem dL_law_1332 : decode cL_law 1332 = .ok (.iconst 0, 1) := by decide +kernel
theorem dL_law_1333 : decode cL_law 1333 = .ok (.ireturn, 1) := by decide +kernel
theorem dL_law_1334 : decode cL_law 1334 = .ok (.iload 5, 2) := by decide +kernel
theorem dL_law_1336 : decode cL_law 1336 = .ok (.ifCond .ne 15, 3) := by decide +kernel
theorem dL_law_1339 : decode cL_law 1339 = .ok (.aload_n 3, 1) := by decide +kernel
theorem dL_law_1340 : decode cL_law 1340 = .ok (.iconst 0, 1) := by decide +kernel
theorem dL_law_1341 : decode cL_law 1341 = .ok (.laload, 1) := by decide +kernel
theorem dL_law_1342 : decode cL_law 1342 = .ok (.iload 6, 2) := by decide +kernel
theorem dL_law_1344 : decode cL_law 1344 = .ok (.i2l, 1) := by decide +kernel
theorem dL_law_1345 : decode cL_law 1345 = .ok (.lcmp, 1) := by decide +kernel
theorem dL_law_1346 : decode cL_law 1346 = .ok (.ifCond .eq 5, 3) := by decide +kernel
theorem dL_law_1349 : decode cL_law 1349 = .ok (.iconst 0, 1) := by decide +kernel
theorem dL_law_1350 : decode cL_law 1350 = .ok (.ireturn, 1) := by decide +kernel
theorem dL_law_1351 : decode cL_law 1351 = .ok (.goto 258, 3) := by decide +kernel
theorem dL_law_1354 : decode cL_law 1354 = .ok (.aload_n 1, 1) := by decide +kernel
theorem dL_law_1355 : decode cL_law 1355 = .ok (.aload_n 0, 1) := by decide +kernel
theorem dL_law_1356 : decode cL_law 1356 = .ok (.iload 4, 2) := by decide +kernel
theorem dL_law_1358 : decode cL_law 1358 = .ok (.iconst 1, 1) := by decide +kernel
theorem dL_law_1359 : decode cL_law 1359 = .ok (.iadd, 1) := by decide +kernel
theorem dL_law_1360 : decode cL_law 1360 = .ok (.iaload, 1) := by decide +kernel
theorem dL_law_1361 : decode cL_law 1361 = .ok (.aload_n 3, 1) := by decide +kernel
theorem dL_law_1362 : decode cL_law 1362 = .ok (.invokestatic 163, 3) := by decide +kernel
theorem dL_law_1365 : decode cL_law 1365 = .ok (.istore 5, 2) := by decide +kernel
theorem dL_law_1367 : decode cL_law 1367 = .ok (.aload_n 2, 1) := by decide +kernel
theorem dL_law_1368 : decode cL_law 1368 = .ok (.aload_n 0, 1) := by decide +kernel
theorem dL_law_1369 : decode cL_law 1369 = .ok (.iload 4, 2) := by decide +kernel
theorem dL_law_1371 : decode cL_law 1371 = .ok (.iconst 1, 1) := by decide +kernel
theorem dL_law_1372 : decode cL_law 1372 = .ok (.iadd, 1) := by decide +kernel
theorem dL_law_1373 : decode cL_law 1373 = .ok (.iaload, 1) := by decide +kernel
theorem dL_law_1374 : decode cL_law 1374 = .ok (.invokevirtual 165, 3) := by decide +kernel
theorem dL_law_1377 : decode cL_law 1377 = .ok (.istore 6, 2) := by decide +kernel
theorem dL_law_1379 : decode cL_law 1379 = .ok (.aload_n 2, 1) := by decide +kernel
theorem dL_law_1380 : decode cL_law 1380 = .ok (.invokevirtual 99, 3) := by decide +kernel
theorem dL_law_1383 : decode cL_law 1383 = .ok (.iload 5, 2) := by decide +kernel
theorem dL_law_1385 : decode cL_law 1385 = .ok (.if_icmp .eq 5, 3) := by decide +kernel
theorem dL_law_1388 : decode cL_law 1388 = .ok (.iconst 0, 1) := by decide +kernel
theorem dL_law_1389 : decode cL_law 1389 = .ok (.ireturn, 1) := by decide +kernel
theorem dL_law_1390 : decode cL_law 1390 = .ok (.iload 5, 2) := by decide +kernel
theorem dL_law_1392 : decode cL_law 1392 = .ok (.ifCond .ne 15, 3) := by decide +kernel
theorem dL_law_1395 : decode cL_law 1395 = .ok (.aload_n 3, 1) := by decide +kernel
theorem dL_law_1396 : decode cL_law 1396 = .ok (.iconst 0, 1) := by decide +kernel
theorem dL_law_1397 : decode cL_law 1397 = .ok (.laload, 1) := by decide +kernel
theorem dL_law_1398 : decode cL_law 1398 = .ok (.iload 6, 2) := by decide +kernel
theorem dL_law_1400 : decode cL_law 1400 = .ok (.i2l, 1) := by decide +kernel
theorem dL_law_1401 : decode cL_law 1401 = .ok (.lcmp, 1) := by decide +kernel
theorem dL_law_1402 : decode cL_law 1402 = .ok (.ifCond .eq 5, 3) := by decide +kernel
theorem dL_law_1405 : decode cL_law 1405 = .ok (.iconst 0, 1) := by decide +kernel
theorem dL_law_1406 : decode cL_law 1406 = .ok (.ireturn, 1) := by decide +kernel
theorem dL_law_1407 : decode cL_law 1407 = .ok (.goto 202, 3) := by decide +kernel
theorem dL_law_1410 : decode cL_law 1410 = .ok (.aload_n 1, 1) := by decide +kernel
theorem dL_law_1411 : decode cL_law 1411 = .ok (.aload_n 0, 1) := by decide +kernel
theorem dL_law_1412 : decode cL_law 1412 = .ok (.iload 4, 2) := by decide +kernel
theorem dL_law_1414 : decode cL_law 1414 = .ok (.iconst 1, 1) := by decide +kernel
theorem dL_law_1415 : decode cL_law 1415 = .ok (.iadd, 1) := by decide +kernel
theorem dL_law_1416 : decode cL_law 1416 = .ok (.iaload, 1) := by decide +kernel
theorem dL_law_1417 : decode cL_law 1417 = .ok (.aload_n 3, 1) := by decide +kernel
theorem dL_law_1418 : decode cL_law 1418 = .ok (.invokestatic 166, 3) := by decide +kernel
theorem dL_law_1421 : decode cL_law 1421 = .ok (.istore 5, 2) := by decide +kernel
theorem dL_law_1423 : decode cL_law 1423 = .ok (.aload_n 2, 1) := by decide +kernel
theorem dL_law_1424 : decode cL_law 1424 = .ok (.aload_n 0, 1) := by decide +kernel
theorem dL_law_1425 : decode cL_law 1425 = .ok (.iload 4, 2) := by decide +kernel
theorem dL_law_1427 : decode cL_law 1427 = .ok (.iconst 1, 1) := by decide +kernel
theorem dL_law_1428 : decode cL_law 1428 = .ok (.iadd, 1) := by decide +kernel
theorem dL_law_1429 : decode cL_law 1429 = .ok (.iaload, 1) := by decide +kernel
theorem dL_law_1430 : decode cL_law 1430 = .ok (.invokevirtual 168, 3) := by decide +kernel
theorem dL_law_1433 : decode cL_law 1433 = .ok (.istore 6, 2) := by decide +kernel
theorem dL_law_1435 : decode cL_law 1435 = .ok (.aload_n 2, 1) := by decide +kernel
theorem dL_law_1436 : decode cL_law 1436 = .ok (.invokevirtual 99, 3) := by decide +kernel
theorem dL_law_1439 : decode cL_law 1439 = .ok (.iload 5, 2) := by decide +kernel
theorem dL_law_1441 : decode cL_law 1441 = .ok (.if_icmp .eq 5, 3) := by decide +kernel
theorem dL_law_1444 : decode cL_law 1444 = .ok (.iconst 0, 1) := by decide +kernel
theorem dL_law_1445 : decode cL_law 1445 = .ok (.ireturn, 1) := by decide +kernel
theorem dL_law_1446 : decode cL_law 1446 = .ok (.iload 5, 2) := by decide +kernel
theorem dL_law_1448 : decode cL_law 1448 = .ok (.ifCond .ne 22, 3) := by decide +kernel
theorem dL_law_1451 : decode cL_law 1451 = .ok (.aload_n 3, 1) := by decide +kernel
theorem dL_law_1452 : decode cL_law 1452 = .ok (.iconst 0, 1) := by decide +kernel
theorem dL_law_1453 : decode cL_law 1453 = .ok (.laload, 1) := by decide +kernel
theorem dL_law_1454 : decode cL_law 1454 = .ok (.iload 6, 2) := by decide +kernel
theorem dL_law_1456 : decode cL_law 1456 = .ok (.ifCond .eq 7, 3) := by decide +kernel
theorem dL_law_1459 : decode cL_law 1459 = .ok (.lconst 1, 1) := by decide +kernel
theorem dL_law_1460 : decode cL_law 1460 = .ok (.goto 4, 3) := by decide +kernel
theorem dL_law_1463 : decode cL_law 1463 = .ok (.lconst 0, 1) := by decide +kernel
theorem dL_law_1464 : decode cL_law 1464 = .ok (.lcmp, 1) := by decide +kernel
theorem dL_law_1465 : decode cL_law 1465 = .ok (.ifCond .eq 5, 3) := by decide +kernel
theorem dL_law_1468 : decode cL_law 1468 = .ok (.iconst 0, 1) := by decide +kernel
theorem dL_law_1469 : decode cL_law 1469 = .ok (.ireturn, 1) := by decide +kernel
theorem dL_law_1470 : decode cL_law 1470 = .ok (.goto 139, 3) := by decide +kernel
theorem dL_law_1473 : decode cL_law 1473 = .ok (.aload_n 1, 1) := by decide +kernel
theorem dL_law_1474 : decode cL_law 1474 = .ok (.aload_n 0, 1) := by decide +kernel
theorem dL_law_1475 : decode cL_law 1475 = .ok (.iload 4, 2) := by decide +kernel
theorem dL_law_1477 : decode cL_law 1477 = .ok (.iconst 1, 1) := by decide +kernel
theorem dL_law_1478 : decode cL_law 1478 = .ok (.iadd, 1) := by decide +kernel
theorem dL_law_1479 : decode cL_law 1479 = .ok (.iaload, 1) := by decide +kernel
theorem dL_law_1480 : decode cL_law 1480 = .ok (.aload_n 0, 1) := by decide +kernel
theorem dL_law_1481 : decode cL_law 1481 = .ok (.iload 4, 2) := by decide +kernel
theorem dL_law_1483 : decode cL_law 1483 = .ok (.iconst 2, 1) := by decide +kernel
theorem dL_law_1484 : decode cL_law 1484 = .ok (.iadd, 1) := by decide +kernel
theorem dL_law_1485 : decode cL_law 1485 = .ok (.iaload, 1) := by decide +kernel
theorem dL_law_1486 : decode cL_law 1486 = .ok (.aload_n 3, 1) := by decide +kernel
theorem dL_law_1487 : decode cL_law 1487 = .ok (.invokestatic 169, 3) := by decide +kernel
theorem dL_law_1490 : decode cL_law 1490 = .ok (.istore 5, 2) := by decide +kernel
theorem dL_law_1492 : decode cL_law 1492 = .ok (.aload_n 2, 1) := by decide +kernel
theorem dL_law_1493 : decode cL_law 1493 = .ok (.aload_n 0, 1) := by decide +kernel
theorem dL_law_1494 : decode cL_law 1494 = .ok (.iload 4, 2) := by decide +kernel
theorem dL_law_1496 : decode cL_law 1496 = .ok (.iconst 1, 1) := by decide +kernel
theorem dL_law_1497 : decode cL_law 1497 = .ok (.iadd, 1) := by decide +kernel
theorem dL_law_1498 : decode cL_law 1498 = .ok (.iaload, 1) := by decide +kernel
theorem dL_law_1499 : decode cL_law 1499 = .ok (.aload_n 0, 1) := by decide +kernel
theorem dL_law_1500 : decode cL_law 1500 = .ok (.iload 4, 2) := by decide +kernel
theorem dL_law_1502 : decode cL_law 1502 = .ok (.iconst 2, 1) := by decide +kernel
theorem dL_law_1503 : decode cL_law 1503 = .ok (.iadd, 1) := by decide +kernel
theorem dL_law_1504 : decode cL_law 1504 = .ok (.iaload, 1) := by decide +kernel
theorem dL_law_1505 : decode cL_law 1505 = .ok (.invokevirtual 171, 3) := by decide +kernel
theorem dL_law_1508 : decode cL_law 1508 = .ok (.istore 6, 2) := by decide +kernel
theorem dL_law_1510 : decode cL_law 1510 = .ok (.aload_n 2, 1) := by decide +kernel
theorem dL_law_1511 : decode cL_law 1511 = .ok (.invokevirtual 99, 3) := by decide +kernel
theorem dL_law_1514 : decode cL_law 1514 = .ok (.iload 5, 2) := by decide +kernel
theorem dL_law_1516 : decode cL_law 1516 = .ok (.if_icmp .eq 5, 3) := by decide +kernel
theorem dL_law_1519 : decode cL_law 1519 = .ok (.iconst 0, 1) := by decide +kernel
theorem dL_law_1520 : decode cL_law 1520 = .ok (.ireturn, 1) := by decide +kernel
theorem dL_law_1521 : decode cL_law 1521 = .ok (.iload 5, 2) := by decide +kernel
theorem dL_law_1523 : decode cL_law 1523 = .ok (.ifCond .ne 15, 3) := by decide +kernel
theorem dL_law_1526 : decode cL_law 1526 = .ok (.aload_n 3, 1) := by decide +kernel
theorem dL_law_1527 : decode cL_law 1527 = .ok (.iconst 0, 1) := by decide +kernel
theorem dL_law_1528 : decode cL_law 1528 = .ok (.laload, 1) := by decide +kernel
theorem dL_law_1529 : decode cL_law 1529 = .ok (.iload 6, 2) := by decide +kernel
theorem dL_law_1531 : decode cL_law 1531 = .ok (.i2l, 1) := by decide +kernel
theorem dL_law_1532 : decode cL_law 1532 = .ok (.lcmp, 1) := by decide +kernel
theorem dL_law_1533 : decode cL_law 1533 = .ok (.ifCond .eq 5, 3) := by decide +kernel
theorem dL_law_1536 : decode cL_law 1536 = .ok (.iconst 0, 1) := by decide +kernel
theorem dL_law_1537 : decode cL_law 1537 = .ok (.ireturn, 1) := by decide +kernel
theorem dL_law_1538 : decode cL_law 1538 = .ok (.goto 71, 3) := by decide +kernel
theorem dL_law_1541 : decode cL_law 1541 = .ok (.aload_n 1, 1) := by decide +kernel
theorem dL_law_1542 : decode cL_law 1542 = .ok (.aload_n 0, 1) := by decide +kernel
theorem dL_law_1543 : decode cL_law 1543 = .ok (.iload 4, 2) := by decide +kernel
theorem dL_law_1545 : decode cL_law 1545 = .ok (.iconst 1, 1) := by decide +kernel
theorem dL_law_1546 : decode cL_law 1546 = .ok (.iadd, 1) := by decide +kernel
theorem dL_law_1547 : decode cL_law 1547 = .ok (.iaload, 1) := by decide +kernel
theorem dL_law_1548 : decode cL_law 1548 = .ok (.aload_n 0, 1) := by decide +kernel
theorem dL_law_1549 : decode cL_law 1549 = .ok (.iload 4, 2) := by decide +kernel
theorem dL_law_1551 : decode cL_law 1551 = .ok (.iconst 2, 1) := by decide +kernel
theorem dL_law_1552 : decode cL_law 1552 = .ok (.iadd, 1) := by decide +kernel
theorem dL_law_1553 : decode cL_law 1553 = .ok (.iaload, 1) := by decide +kernel
theorem dL_law_1554 : decode cL_law 1554 = .ok (.aload_n 3, 1) := by decide +kernel
theorem dL_law_1555 : decode cL_law 1555 = .ok (.invokestatic 172, 3) := by decide +kernel
theorem dL_law_1558 : decode cL_law 1558 = .ok (.istore 5, 2) := by decide +kernel
theorem dL_law_1560 : decode cL_law 1560 = .ok (.aload_n 2, 1) := by decide +kernel
theorem dL_law_1561 : decode cL_law 1561 = .ok (.aload_n 0, 1) := by decide +kernel
theorem dL_law_1562 : decode cL_law 1562 = .ok (.iload 4, 2) := by decide +kernel
theorem dL_law_1564 : decode cL_law 1564 = .ok (.iconst 1, 1) := by decide +kernel
theorem dL_law_1565 : decode cL_law 1565 = .ok (.iadd, 1) := by decide +kernel
theorem dL_law_1566 : decode cL_law 1566 = .ok (.iaload, 1) := by decide +kernel
theorem dL_law_1567 : decode cL_law 1567 = .ok (.aload_n 0, 1) := by decide +kernel
theorem dL_law_1568 : decode cL_law 1568 = .ok (.iload 4, 2) := by decide +kernel
theorem dL_law_1570 : decode cL_law 1570 = .ok (.iconst 2, 1) := by decide +kernel
theorem dL_law_1571 : decode cL_law 1571 = .ok (.iadd, 1) := by decide +kernel
theorem dL_law_1572 : decode cL_law 1572 = .ok (.iaload, 1) := by decide +kernel
theorem dL_law_1573 : decode cL_law 1573 = .ok (.invokevirtual 174, 3) := by decide +kernel
theorem dL_law_1576 : decode cL_law 1576 = .ok (.istore 6, 2) := by decide +kernel
theorem dL_law_1578 : decode cL_law 1578 = .ok (.aload_n 2, 1) := by decide +kernel
theorem dL_law_1579 : decode cL_law 1579 = .ok (.invokevirtual 99, 3) := by decide +kernel
theorem dL_law_1582 : decode cL_law 1582 = .ok (.iload 5, 2) := by decide +kernel
theorem dL_law_1584 : decode cL_law 1584 = .ok (.if_icmp .eq 5, 3) := by decide +kernel
theorem dL_law_1587 : decode cL_law 1587 = .ok (.iconst 0, 1) := by decide +kernel
theorem dL_law_1588 : decode cL_law 1588 = .ok (.ireturn, 1) := by decide +kernel
theorem dL_law_1589 : decode cL_law 1589 = .ok (.iload 5, 2) := by decide +kernel
theorem dL_law_1591 : decode cL_law 1591 = .ok (.ifCond .ne 15, 3) := by decide +kernel
theorem dL_law_1594 : decode cL_law 1594 = .ok (.aload_n 3, 1) := by decide +kernel
theorem dL_law_1595 : decode cL_law 1595 = .ok (.iconst 0, 1) := by decide +kernel
theorem dL_law_1596 : decode cL_law 1596 = .ok (.laload, 1) := by decide +kernel
theorem dL_law_1597 : decode cL_law 1597 = .ok (.iload 6, 2) := by decide +kernel
theorem dL_law_1599 : decode cL_law 1599 = .ok (.i2l, 1) := by decide +kernel
theorem dL_law_1600 : decode cL_law 1600 = .ok (.lcmp, 1) := by decide +kernel
theorem dL_law_1601 : decode cL_law 1601 = .ok (.ifCond .eq 5, 3) := by decide +kernel
theorem dL_law_1604 : decode cL_law 1604 = .ok (.iconst 0, 1) := by decide +kernel
theorem dL_law_1605 : decode cL_law 1605 = .ok (.ireturn, 1) := by decide +kernel
theorem dL_law_1606 : decode cL_law 1606 = .ok (.goto 3, 3) := by decide +kernel
theorem dL_law_1609 : decode cL_law 1609 = .ok (.iinc 4 5, 3) := by decide +kernel
theorem dL_law_1612 : decode cL_law 1612 = .ok (.goto (-1589), 3) := by decide +kernel
theorem dL_law_1615 : decode cL_law 1615 = .ok (.iconst 1, 1) := by decide +kernel
theorem dL_law_1616 : decode cL_law 1616 = .ok (.ireturn, 1) := by decide +kernel
abbrev vwCl : List vw_C := [(RX0, TX0, 10), (RX1, TX1, 13)]
end
section
/-! numbers: an int or a long of the machine as the number that it stands for -/
def mI (z : Int) : Int32 := Int32.ofInt z
def mL (z : Int) : Int64 := Int64.ofInt z
abbrev mRI (z : Int) : Prop := -2147483648 ≤ z ∧ z < 2147483648
abbrev mRL (z : Int) : Prop := -9223372036854775808 ≤ z ∧ z < 9223372036854775808
theorem mI_t {z : Int} (h : mRI z) : (mI z).toInt = z := Int32.toInt_ofInt_of_le (by have := h.1; omega) (by have := h.2; omega)
theorem mL_t {z : Int} (h : mRL z) : (mL z).toInt = z := Int64.toInt_ofInt_of_le (by have := h.1; omega) (by have := h.2; omega)
theorem mI_self (x : Int32) : mI x.toInt = x := Int32.ofInt_toInt x
theorem mL_self (x : Int64) : mL x.toInt = x := Int64.ofInt_toInt x
theorem mI_rng (x : Int32) : mRI x.toInt := by have h1 := x.le_toInt; have h2 := x.toInt_lt; constructor <;> omega
theorem mI_add (a b : Int) : mI a + mI b = mI (a + b) := (Int32.ofInt_add a b).symm
theorem mI_sub (a b : Int) : mI a - mI b = mI (a - b) := (Int32.ofInt_sub a b).symm
theorem mI_mul (a b : Int) : mI a * mI b = mI (a * b) := (Int32.ofInt_mul a b).symm
theorem mL_add (a b : Int) : mL a + mL b = mL (a + b) := (Int64.ofInt_add a b).symm
theorem mL_sub (a b : Int) : mL a - mL b = mL (a - b) := (Int64.ofInt_sub a b).symm
theorem mL_mul (a b : Int) : mL a * mL b = mL (a * b) := (Int64.ofInt_mul a b).symm
theorem mL_neg (a : Int) : -mL a = mL (-a) := (Int64.ofInt_neg a).symm
theorem mI_lt {a b : Int} (ha : mRI a) (hb : mRI b) : mI a < mI b ↔ a < b := by rw [Int32.lt_iff_toInt_lt, mI_t ha, mI_t hb]
theorem mI_le {a b : Int} (ha : mRI a) (hb : mRI b) : mI a ≤ mI b ↔ a ≤ b := by rw [Int32.le_iff_toInt_le, mI_t ha, mI_t hb]
theorem mI_eq {a b : Int} (ha : mRI a) (hb : mRI b) : mI a = mI b ↔ a = b := by rw [← Int32.toInt_inj, mI_t ha, mI_t hb]
theorem mL_lt {a b : Int} (ha : mRL a) (hb : mRL b) : mL a < mL b ↔ a < b := by rw [Int64.lt_iff_toInt_lt, mL_t ha, mL_t hb]
theorem mL_le {a b : Int} (ha : mRL a) (hb : mRL b) : mL a ≤ mL b ↔ a ≤ b := by rw [Int64.le_iff_toInt_le, mL_t ha, mL_t hb]
theorem mL_eq {a b : Int} (ha : mRL a) (hb : mRL b) : mL a = mL b ↔ a = b := by rw [← Int64.toInt_inj, mL_t ha, mL_t hb]
theorem mI_0 : mI 0 = 0 := by decide +kernel
theorem mI_1 : mI 1 = 1 := by decide +kernel
theorem mL_0 : mL 0 = 0 := by decide +kernel
theorem mI_lit (n : Nat) : (OfNat.ofNat n : Int32) = mI n := by
  show Int32.ofNat n = Int32.ofInt n
  exact Int32.ofInt_eq_ofNat.symm
theorem mI_r0 : mRI 0 := by omega
theorem mL_r0 : mRL 0 := by omega
theorem mI_i2l {a : Int} (h : mRI a) : (mI a).toInt64 = mL a := by
  apply Int64.toInt_inj.mp
  rw [Int32.toInt_toInt64, mI_t h, mL_t (by omega)]
theorem mL_l2i (a : Int) : (mL a).toInt32 = mI a := Int64.toInt32_ofInt
theorem mL_div {a b : Int} (ha0 : -9223372036854775807 ≤ a ∧ a < 9223372036854775808) (hb : mRL b) (h0 : 0 < b) : mL a / mL b = mL (a.tdiv b) := by
  have ha : mRL a := ⟨by omega, ha0.2⟩
  apply Int64.toInt_inj.mp
  have hne : mL b ≠ -1 := by
    intro h
    have h2 : (mL b).toInt = (-1 : Int64).toInt := by rw [h]
    rw [mL_t hb] at h2
    have h3 : (-1 : Int64).toInt = -1 := by decide +kernel
    omega
  rw [Int64.toInt_div_of_ne_right _ _ hne, mL_t ha, mL_t hb, mL_t]
  have h1 : (a.tdiv b).natAbs ≤ a.natAbs := by
    rw [Int.natAbs_tdiv]
    exact Nat.div_le_self _ _
  omega
theorem mL_rem {a b : Int} (ha0 : -9223372036854775807 ≤ a ∧ a < 9223372036854775808) (hb : mRL b) (h0 : 0 < b) : mL a - mL a / mL b * mL b = mL (a.tmod b) := by
  rw [mL_div ha0 hb h0, mL_mul, mL_sub]
  congr 1
  have := Int.mul_tdiv_add_tmod a b
  have h2 : a.tdiv b * b = b * a.tdiv b := Int.mul_comm _ _
  omega
theorem mL_ne0 {b : Int} (hb : mRL b) (h0 : 0 < b) : ¬ mL b = 0 := by
  rw [← mL_0, mL_eq hb mL_r0]; omega
theorem mI_clamp {z : Int} (h0 : 0 ≤ z) (h : z < 2147483648) : ((mI z).toNatClampNeg : Int) = z := by
  have h1 : (mI z).toInt = z := mI_t ⟨by omega, h⟩
  have h2 : (mI z).toNatClampNeg = (mI z).toInt.toNat := rfl
  rw [h2, h1]
  omega
theorem mI_in {z : Int} {n : Nat} (h0 : 0 ≤ z) (h : z < n) (hn : n < 2 ^ 31) : vp_in (mI z) n := by
  rw [vp_in_iff, mI_t ⟨by omega, by omega⟩]
  exact ⟨h0, h⟩
/-- a truth as a number -/
def mB (p : Prop) [Decidable p] : Int := if p then 1 else 0
theorem mB_t {p : Prop} [Decidable p] (h : p) : mB p = 1 := if_pos h
theorem mB_f {p : Prop} [Decidable p] (h : ¬ p) : mB p = 0 := if_neg h
theorem mB_0 {p : Prop} [Decidable p] : mI (mB p) = 0 ↔ ¬ p := by
  by_cases h : p
  · rw [mB_t h]; exact ⟨fun q => absurd q (by decide +kernel), fun q => absurd h q⟩
  · rw [mB_f h]; exact ⟨fun _ => h, fun _ => by decide +kernel⟩
theorem mB_nar {p : Prop} [Decidable p] : narrow .boolean (.int (mI (mB p))) = .int (mI (mB p)) := by
  by_cases h : p
  · rw [mB_t h]; decide +kernel
  · rw [mB_f h]; decide +kernel
theorem mB_r {p : Prop} [Decidable p] : 0 ≤ mB p ∧ mB p ≤ 1 := by
  by_cases h : p
  · rw [mB_t h]; omega
  · rw [mB_f h]; omega
theorem mB_iff {p q : Prop} [Decidable p] [Decidable q] (h : p ↔ q) : mB p = mB q := by
  by_cases hp : p
  · rw [mB_t hp, mB_t (h.mp hp)]
  · rw [mB_f hp, mB_f (fun hq => hp (h.mpr hq))]
/-- a row of numbers, one of them changed -/
def mU (L : Int → Int) (z x : Int) : Int → Int := fun k => if k = z then x else L k
theorem mU_upd (L : Int → Int) {z x : Int} (h0 : 0 ≤ z) (h : z < 2147483648) : upd (fun k : Nat => mI (L (k : Int))) (mI z).toNatClampNeg (mI x) = fun k : Nat => mI (mU L z x (k : Int)) := by
  funext k
  have hc := mI_clamp h0 h
  by_cases hk : k = (mI z).toNatClampNeg
  · subst hk
    rw [pk_us]
    show mI x = mI (if ((mI z).toNatClampNeg : Int) = z then x else _)
    rw [if_pos hc]
  · rw [pk_un hk]
    show mI _ = mI (if (k : Int) = z then x else _)
    rw [if_neg (fun q => hk (by omega))]
/-- the machine's division and remainder of longs, and those of rounding down -/
theorem m_fdiv {a b : Int} (hb : 0 < b) : a / b = if (a < 0 ∧ ¬ a.tdiv b * b = a) then a.tdiv b - 1 else a.tdiv b := by
  have h1 := Int.mul_tdiv_add_tmod a b
  have h2 := Int.mul_ediv_add_emod a b
  have h3 := Int.emod_nonneg a (by omega : b ≠ 0)
  have h4 := Int.emod_lt_of_pos a hb
  have h5 : a.tdiv b * b = b * a.tdiv b := Int.mul_comm _ _
  by_cases ha : a < 0
  · have h6 : a.tmod b ≤ 0 := by
      have := Int.tmod_nonneg b (a := -a) (by omega)
      rw [Int.neg_tmod] at this
      omega
    have h7 : -b < a.tmod b := by
      have := Int.tmod_lt_of_pos (-a) hb
      rw [Int.neg_tmod] at this
      omega
    by_cases hz : a.tmod b = 0
    · rw [if_neg (fun q => q.2 (by omega))]
      have : b * (a / b) - b * a.tdiv b = -(a % b) := by omega
      have e : b * (a / b - a.tdiv b) = -(a % b) := by rw [Int.mul_sub]; exact this
      have e1 : a / b - a.tdiv b ≤ 0 := by
        rcases (by omega : 0 < (a / b - a.tdiv b) ∨ (a / b - a.tdiv b) ≤ 0) with q | q
        · have := Int.mul_pos hb q; omega
        · exact q
      have e2 : -1 < a / b - a.tdiv b := by
        rcases (by omega : (-1) < (a / b - a.tdiv b) ∨ (a / b - a.tdiv b) ≤ (-1)) with q | q
        · exact q
        · have := Int.mul_le_mul_of_nonneg_left q (by omega : 0 ≤ b); omega
      omega
    · rw [if_pos ⟨ha, by omega⟩]
      have this : b * (a / b) - b * a.tdiv b = a.tmod b - a % b := by omega
      have e : b * (a / b - a.tdiv b) = a.tmod b - a % b := by rw [Int.mul_sub]; exact this
      have e1 : a / b - a.tdiv b < 0 := by
        rcases (by omega : (a / b - a.tdiv b) < 0 ∨ 0 ≤ (a / b - a.tdiv b)) with q | q
        · exact q
        · have := Int.mul_nonneg (by omega : 0 ≤ b) q; omega
      have e2 : -2 < a / b - a.tdiv b := by
        rcases (by omega : (-2) < (a / b - a.tdiv b) ∨ (a / b - a.tdiv b) ≤ (-2)) with q | q
        · exact q
        · have := Int.mul_le_mul_of_nonneg_left q (by omega : 0 ≤ b); omega
      omega
  · rw [if_neg (fun q => ha q.1), Int.tdiv_eq_ediv_of_nonneg (by omega)]
theorem m_fmod {a b : Int} (hb : 0 < b) : a % b = if (a < 0 ∧ ¬ a.tmod b = 0) then a.tmod b + b else a.tmod b := by
  have h1 := Int.mul_tdiv_add_tmod a b
  have h2 := Int.mul_ediv_add_emod a b
  have h5 : a.tdiv b * b = b * a.tdiv b := Int.mul_comm _ _
  have h6 := m_fdiv (a := a) hb
  by_cases c : a < 0 ∧ ¬ a.tdiv b * b = a
  · rw [if_pos c] at h6
    rw [if_pos ⟨c.1, by omega⟩]
    rw [h6, Int.mul_sub] at h2
    omega
  · rw [if_neg c] at h6
    rw [if_neg (fun q => c ⟨q.1, by omega⟩)]
    rw [h6] at h2
    omega
theorem m_tmod_r {a b : Int} (hb : 0 < b) : -b ≤ a.tmod b ∧ a.tmod b < b := by
  have h := m_fmod (a := a) hb
  have h3 := Int.emod_nonneg a (by omega : b ≠ 0)
  have h4 := Int.emod_lt_of_pos a hb
  by_cases c : a < 0 ∧ ¬ a.tmod b = 0
  · rw [if_pos c] at h; omega
  · rw [if_neg c] at h; omega
theorem m_tmod_neg {a b : Int} (hb : 0 < b) : (a.tmod b < 0 ↔ (a < 0 ∧ ¬ a.tmod b = 0)) := by
  have h := m_fmod (a := a) hb
  have h3 := Int.emod_nonneg a (by omega : b ≠ 0)
  have h4 := Int.emod_lt_of_pos a hb
  by_cases c : a < 0 ∧ ¬ a.tmod b = 0
  · rw [if_pos c] at h
    exact ⟨fun _ => c, fun _ => by omega⟩
  · rw [if_neg c] at h
    exact ⟨fun q => by omega, fun q => absurd q c⟩
theorem m_tdiv_r {a b : Int} (hb : 0 < b) : a.natAbs ≥ (a.tdiv b).natAbs := by
  rw [Int.natAbs_tdiv]
  exact Nat.div_le_self _ _
theorem m_div_r {a b : Int} (hb : 0 < b) : -(a.natAbs : Int) ≤ a / b ∧ a / b ≤ a.natAbs := by
  rcases (by omega : a < 0 ∨ 0 ≤ a) with q | q
  · constructor
    · rw [Int.le_ediv_iff_mul_le hb]
      have : -(a.natAbs : Int) = a := by omega
      rw [this]
      have := Int.mul_le_mul_of_nonpos_left (a := a) (b := b) (c := 1) (by omega) (by omega)
      omega
    · have : a / b < 0 := Int.ediv_neg_of_neg_of_pos q hb
      omega
  · have h1 := Int.ediv_nonneg q (by omega : 0 ≤ b)
    have h2 := Int.ediv_le_self b q
    omega
end
section
section MWR
variable {p : Program} {l : Launch} {e : Env} {R : Room} {s : State} {m : MethodId} {args : Array Value} {below : List Frame} {meth : Method} {c : Code} {H : Heap} {locs : List Loc} {cells slots : Nat} {Q : State → Prop}
variable {cc : ByteArray} {pc : Nat} {ls : Array Slot} {rest : List Value}

theorem mw_iadd (hx : p.tables.exec = Jvm.exec) (hb : c.code = cc) {x y : Int} (hdg : decode cc pc = .ok (.iadd, 1)) (k : W p l e R s m args below meth c H locs cells slots Q (F0 m (pc + 1) ls (.int (mI (x + y)) :: rest))) : W p l e R s m args below meth c H locs cells slots Q (F0 m pc ls (.int (mI y) :: .int (mI x) :: rest)) := lv_iadd hx hb hdg (by rw [mI_add]; exact k)
theorem mw_isub (hx : p.tables.exec = Jvm.exec) (hb : c.code = cc) {x y : Int} (hdg : decode cc pc = .ok (.isub, 1)) (k : W p l e R s m args below meth c H locs cells slots Q (F0 m (pc + 1) ls (.int (mI (x - y)) :: rest))) : W p l e R s m args below meth c H locs cells slots Q (F0 m pc ls (.int (mI y) :: .int (mI x) :: rest)) := lv_isub hx hb hdg (by rw [mI_sub]; exact k)
theorem mw_imul (hx : p.tables.exec = Jvm.exec) (hb : c.code = cc) {x y : Int} (hdg : decode cc pc = .ok (.imul, 1)) (k : W p l e R s m args below meth c H locs cells slots Q (F0 m (pc + 1) ls (.int (mI (x * y)) :: rest))) : W p l e R s m args below meth c H locs cells slots Q (F0 m pc ls (.int (mI y) :: .int (mI x) :: rest)) := lv_imul hx hb hdg (by rw [mI_mul]; exact k)
theorem mw_ladd (hx : p.tables.exec = Jvm.exec) (hb : c.code = cc) {x y : Int} (hdg : decode cc pc = .ok (.ladd, 1)) (k : W p l e R s m args below meth c H locs cells slots Q (F0 m (pc + 1) ls (.long (mL (x + y)) :: rest))) : W p l e R s m args below meth c H locs cells slots Q (F0 m pc ls (.long (mL y) :: .long (mL x) :: rest)) := lv_ladd hx hb hdg (by rw [mL_add]; exact k)
theorem mw_lsub (hx : p.tables.exec = Jvm.exec) (hb : c.code = cc) {x y : Int} (hdg : decode cc pc = .ok (.lsub, 1)) (k : W p l e R s m args below meth c H locs cells slots Q (F0 m (pc + 1) ls (.long (mL (x - y)) :: rest))) : W p l e R s m args below meth c H locs cells slots Q (F0 m pc ls (.long (mL y) :: .long (mL x) :: rest)) := lv_lsub hx hb hdg (by rw [mL_sub]; exact k)
theorem mw_lmul (hx : p.tables.exec = Jvm.exec) (hb : c.code = cc) {x y : Int} (hdg : decode cc pc = .ok (.lmul, 1)) (k : W p l e R s m args below meth c H locs cells slots Q (F0 m (pc + 1) ls (.long (mL (x * y)) :: rest))) : W p l e R s m args below meth c H locs cells slots Q (F0 m pc ls (.long (mL y) :: .long (mL x) :: rest)) := lv_lmul hx hb hdg (by rw [mL_mul]; exact k)
theorem mw_lneg (hx : p.tables.exec = Jvm.exec) (hb : c.code = cc) {x : Int} (hdg : decode cc pc = .ok (.lneg, 1)) (k : W p l e R s m args below meth c H locs cells slots Q (F0 m (pc + 1) ls (.long (mL (-x)) :: rest))) : W p l e R s m args below meth c H locs cells slots Q (F0 m pc ls (.long (mL x) :: rest)) := lv_lneg hx hb hdg (by rw [mL_neg]; exact k)
theorem mw_ldiv (hx : p.tables.exec = Jvm.exec) (hb : c.code = cc) {x y : Int} (h0 : 0 < y) (hx1 : -9223372036854775807 ≤ x ∧ x < 9223372036854775808) (hy1 : mRL y) (hdg : decode cc pc = .ok (.ldiv, 1)) (k : W p l e R s m args below meth c H locs cells slots Q (F0 m (pc + 1) ls (.long (mL (x.tdiv y)) :: rest))) : W p l e R s m args below meth c H locs cells slots Q (F0 m pc ls (.long (mL y) :: .long (mL x) :: rest)) := lv_ldiv hx hb hdg (mL_ne0 hy1 h0) (by rw [mL_div hx1 hy1 h0]; exact k)
theorem mw_lrem (hx : p.tables.exec = Jvm.exec) (hb : c.code = cc) {x y : Int} (h0 : 0 < y) (hx1 : -9223372036854775807 ≤ x ∧ x < 9223372036854775808) (hy1 : mRL y) (hdg : decode cc pc = .ok (.lrem, 1)) (k : W p l e R s m args below meth c H locs cells slots Q (F0 m (pc + 1) ls (.long (mL (x.tmod y)) :: rest))) : W p l e R s m args below meth c H locs cells slots Q (F0 m pc ls (.long (mL y) :: .long (mL x) :: rest)) := lv_lrem hx hb hdg (mL_ne0 hy1 h0) (by rw [mL_rem hx1 hy1 h0]; exact k)
theorem mw_i2l (hx : p.tables.exec = Jvm.exec) (hb : c.code = cc) {x : Int} (hx1 : mRI x) (hdg : decode cc pc = .ok (.i2l, 1)) (k : W p l e R s m args below meth c H locs cells slots Q (F0 m (pc + 1) ls (.long (mL x) :: rest))) : W p l e R s m args below meth c H locs cells slots Q (F0 m pc ls (.int (mI x) :: rest)) := lv_i2l hx hb hdg (mI_i2l hx1) k
theorem mw_l2i (hx : p.tables.exec = Jvm.exec) (hb : c.code = cc) {x : Int} (hdg : decode cc pc = .ok (.l2i, 1)) (k : W p l e R s m args below meth c H locs cells slots Q (F0 m (pc + 1) ls (.int (mI x) :: rest))) : W p l e R s m args below meth c H locs cells slots Q (F0 m pc ls (.long (mL x) :: rest)) := lv_l2i hx hb hdg (mL_l2i x) k
theorem mw_iconst (hx : p.tables.exec = Jvm.exec) (hb : c.code = cc) {n : Int} (hdg : decode cc pc = .ok (.iconst n, 1)) (k : W p l e R s m args below meth c H locs cells slots Q (F0 m (pc + 1) ls (.int (mI n) :: rest))) : W p l e R s m args below meth c H locs cells slots Q (F0 m pc ls rest) := lv_iconst hx hb hdg rfl k
theorem mw_bipush (hx : p.tables.exec = Jvm.exec) (hb : c.code = cc) {n : Int} (h : (Int8.ofInt n).toInt32 = mI n) (hdg : decode cc pc = .ok (.bipush n, 2)) (k : W p l e R s m args below meth c H locs cells slots Q (F0 m (pc + 2) ls (.int (mI n) :: rest))) : W p l e R s m args below meth c H locs cells slots Q (F0 m pc ls rest) := lv_bipush hx hb hdg h k
theorem mw_sipush (hx : p.tables.exec = Jvm.exec) (hb : c.code = cc) {n : Int} (h : (Int16.ofInt n).toInt32 = mI n) (hdg : decode cc pc = .ok (.sipush n, 3)) (k : W p l e R s m args below meth c H locs cells slots Q (F0 m (pc + 3) ls (.int (mI n) :: rest))) : W p l e R s m args below meth c H locs cells slots Q (F0 m pc ls rest) := lv_sipush hx hb hdg h k
theorem mw_lconst (hx : p.tables.exec = Jvm.exec) (hb : c.code = cc) {n : Fin 2} (z : Int) (h : Int64.ofNat (n : Nat) = mL z) (hdg : decode cc pc = .ok (.lconst n, 1)) (k : W p l e R s m args below meth c H locs cells slots Q (F0 m (pc + 1) ls (.long (mL z) :: rest))) : W p l e R s m args below meth c H locs cells slots Q (F0 m pc ls rest) := lv_lconst hx hb hdg h k
theorem mw_ldc (hx : p.tables.exec = Jvm.exec) (hb : c.code = cc) {own : String} {index : Nat} {v : Int32} (z : Int) (h : v = mI z) (hown : s.vm.findClass own = some m.cls) (hconst : (Jvm.Cond.constant own index v).before args s = true) (hdg : decode cc pc = .ok (.ldc index, 2)) (k : W p l e R s m args below meth c H locs cells slots Q (F0 m (pc + 2) ls (.int (mI z) :: rest))) : W p l e R s m args below meth c H locs cells slots Q (F0 m pc ls rest) := lv_ldc hx hb hown hconst hdg (by rw [h]; exact k)
theorem mw_ldc2 (hx : p.tables.exec = Jvm.exec) (hb : c.code = cc) {own : String} {index : Nat} {v : Int64} (z : Int) (h : v = mL z) (hown : s.vm.findClass own = some m.cls) (hconst : (Jvm.Cond.constantLong own index v).before args s = true) (hdg : decode cc pc = .ok (.ldc2_w index, 3)) (k : W p l e R s m args below meth c H locs cells slots Q (F0 m (pc + 3) ls (.long (mL z) :: rest))) : W p l e R s m args below meth c H locs cells slots Q (F0 m pc ls rest) := lv_ldc2 hx hb hown hconst hdg (by rw [h]; exact k)
theorem mw_iinc (hx : p.tables.exec = Jvm.exec) (hb : c.code = cc) {i nL k : Nat} {n x : Int} {lv lv' : List (Nat × Value)} (hdg : decode cc pc = .ok (.iinc i n, 3)) (h : lv_has ls nL lv) (hk : lv[k]? = some (i, .int (mI x))) (hn : i < nL) (hl : (i, Value.int (mI (x + n))) :: lv.filter (fun q => !(q.1 == i) && !(q.1 + 1 == i && q.2.category == 2)) = lv') (kk : ∀ ls' : Array Slot, lv_has ls' nL lv' → W p l e R s m args below meth c H locs cells slots Q (F0 m (pc + 3) ls' rest)) : W p l e R s m args below meth c H locs cells slots Q (F0 m pc ls rest) := lv_iinc hx hb hdg h hk (v := mI (x + n)) (mI_add x n) hn hl kk
theorem mw_topi {x y : Int} (h : x = y) (k : W p l e R s m args below meth c H locs cells slots Q (F0 m pc ls (.int (mI y) :: rest))) : W p l e R s m args below meth c H locs cells slots Q (F0 m pc ls (.int (mI x) :: rest)) := by rw [h]; exact k
theorem mw_topl {x y : Int} (h : x = y) (k : W p l e R s m args below meth c H locs cells slots Q (F0 m pc ls (.long (mL y) :: rest))) : W p l e R s m args below meth c H locs cells slots Q (F0 m pc ls (.long (mL x) :: rest)) := by rw [h]; exact k
theorem mw_icmp_eq (hx : p.tables.exec = Jvm.exec) (hb : c.code = cc) {x y : Int} {off : Int} {tgt : Nat} (hx1 : mRI x) (hy1 : mRI y) (hdg : decode cc pc = .ok (.if_icmp .eq off, 3)) (ht : (pc : Int) + off = (tgt : Int)) (kt : x = y → W p l e R s m args below meth c H locs cells slots Q (F0 m tgt ls rest)) (kf : ¬ (x = y) → W p l e R s m args below meth c H locs cells slots Q (F0 m (pc + 3) ls rest)) : W p l e R s m args below meth c H locs cells slots Q (F0 m pc ls (.int (mI y) :: .int (mI x) :: rest)) := lv_icmp_eq hx hb hdg ht (fun q => kt (by first | exact (mI_eq (a := x) (b := y) hx1 hy1).mp q | (rw [← mI_0] at q; exact (mI_eq (a := x) (b := y) hx1 hy1).mp q))) (fun q => kf (fun q2 => q (by first | exact (mI_eq (a := x) (b := y) hx1 hy1).mpr q2 | (rw [← mI_0]; exact (mI_eq (a := x) (b := y) hx1 hy1).mpr q2))))
theorem mw_if_eq (hx : p.tables.exec = Jvm.exec) (hb : c.code = cc) {x : Int} {off : Int} {tgt : Nat} (hx1 : mRI x) (hdg : decode cc pc = .ok (.ifCond .eq off, 3)) (ht : (pc : Int) + off = (tgt : Int)) (kt : x = (0 : Int) → W p l e R s m args below meth c H locs cells slots Q (F0 m tgt ls rest)) (kf : ¬ (x = (0 : Int)) → W p l e R s m args below meth c H locs cells slots Q (F0 m (pc + 3) ls rest)) : W p l e R s m args below meth c H locs cells slots Q (F0 m pc ls (.int (mI x) :: rest)) := lv_if_eq hx hb hdg ht (fun q => kt (by first | exact (mI_eq (a := x) (b := 0) hx1 mI_r0).mp q | (rw [← mI_0] at q; exact (mI_eq (a := x) (b := 0) hx1 mI_r0).mp q))) (fun q => kf (fun q2 => q (by first | exact (mI_eq (a := x) (b := 0) hx1 mI_r0).mpr q2 | (rw [← mI_0]; exact (mI_eq (a := x) (b := 0) hx1 mI_r0).mpr q2))))
theorem mw_lcmp_eq (hx : p.tables.exec = Jvm.exec) (hb : c.code = cc) {x y : Int} {off : Int} {tgt : Nat} (hx1 : mRL x) (hy1 : mRL y) (d1 : decode cc pc = .ok (.lcmp, 1)) (d2 : decode cc (pc + 1) = .ok (.ifCond .eq off, 3)) (ht : ((pc + 1 : Nat) : Int) + off = (tgt : Int)) (kt : x = y → W p l e R s m args below meth c H locs cells slots Q (F0 m tgt ls rest)) (kf : ¬ (x = y) → W p l e R s m args below meth c H locs cells slots Q (F0 m (pc + 1 + 3) ls rest)) : W p l e R s m args below meth c H locs cells slots Q (F0 m pc ls (.long (mL y) :: .long (mL x) :: rest)) := W.lcmp hx hb d1 (lv_if_eq hx hb d2 ht (fun q => kt ((mL_eq hx1 hy1).mp ((lg_cmp_eq _ _).mp q))) (fun q => kf (fun q2 => q ((lg_cmp_eq _ _).mpr ((mL_eq hx1 hy1).mpr q2)))))
theorem mw_icmp_ne (hx : p.tables.exec = Jvm.exec) (hb : c.code = cc) {x y : Int} {off : Int} {tgt : Nat} (hx1 : mRI x) (hy1 : mRI y) (hdg : decode cc pc = .ok (.if_icmp .ne off, 3)) (ht : (pc : Int) + off = (tgt : Int)) (kt : x ≠ y → W p l e R s m args below meth c H locs cells slots Q (F0 m tgt ls rest)) (kf : x = y → W p l e R s m args below meth c H locs cells slots Q (F0 m (pc + 3) ls rest)) : W p l e R s m args below meth c H locs cells slots Q (F0 m pc ls (.int (mI y) :: .int (mI x) :: rest)) := lv_icmp_ne hx hb hdg ht (fun q => kt (fun q2 => q (by first | exact (mI_eq (a := x) (b := y) hx1 hy1).mpr q2 | (rw [← mI_0]; exact (mI_eq (a := x) (b := y) hx1 hy1).mpr q2)))) (fun q => kf (by first | exact (mI_eq (a := x) (b := y) hx1 hy1).mp q | (rw [← mI_0] at q; exact (mI_eq (a := x) (b := y) hx1 hy1).mp q)))
theorem mw_if_ne (hx : p.tables.exec = Jvm.exec) (hb : c.code = cc) {x : Int} {off : Int} {tgt : Nat} (hx1 : mRI x) (hdg : decode cc pc = .ok (.ifCond .ne off, 3)) (ht : (pc : Int) + off = (tgt : Int)) (kt : x ≠ (0 : Int) → W p l e R s m args below meth c H locs cells slots Q (F0 m tgt ls rest)) (kf : x = (0 : Int) → W p l e R s m args below meth c H locs cells slots Q (F0 m (pc + 3) ls rest)) : W p l e R s m args below meth c H locs cells slots Q (F0 m pc ls (.int (mI x) :: rest)) := lv_if_ne hx hb hdg ht (fun q => kt (fun q2 => q (by first | exact (mI_eq (a := x) (b := 0) hx1 mI_r0).mpr q2 | (rw [← mI_0]; exact (mI_eq (a := x) (b := 0) hx1 mI_r0).mpr q2)))) (fun q => kf (by first | exact (mI_eq (a := x) (b := 0) hx1 mI_r0).mp q | (rw [← mI_0] at q; exact (mI_eq (a := x) (b := 0) hx1 mI_r0).mp q)))
theorem mw_lcmp_ne (hx : p.tables.exec = Jvm.exec) (hb : c.code = cc) {x y : Int} {off : Int} {tgt : Nat} (hx1 : mRL x) (hy1 : mRL y) (d1 : decode cc pc = .ok (.lcmp, 1)) (d2 : decode cc (pc + 1) = .ok (.ifCond .ne off, 3)) (ht : ((pc + 1 : Nat) : Int) + off = (tgt : Int)) (kt : x ≠ y → W p l e R s m args below meth c H locs cells slots Q (F0 m tgt ls rest)) (kf : x = y → W p l e R s m args below meth c H locs cells slots Q (F0 m (pc + 1 + 3) ls rest)) : W p l e R s m args below meth c H locs cells slots Q (F0 m pc ls (.long (mL y) :: .long (mL x) :: rest)) := W.lcmp hx hb d1 (lv_if_ne hx hb d2 ht (fun q => kt (fun q2 => q ((lg_cmp_eq _ _).mpr ((mL_eq hx1 hy1).mpr q2)))) (fun q => kf ((mL_eq hx1 hy1).mp ((lg_cmp_eq _ _).mp q))))
theorem mw_icmp_lt (hx : p.tables.exec = Jvm.exec) (hb : c.code = cc) {x y : Int} {off : Int} {tgt : Nat} (hx1 : mRI x) (hy1 : mRI y) (hdg : decode cc pc = .ok (.if_icmp .lt off, 3)) (ht : (pc : Int) + off = (tgt : Int)) (kt : x < y → W p l e R s m args below meth c H locs cells slots Q (F0 m tgt ls rest)) (kf : ¬ (x < y) → W p l e R s m args below meth c H locs cells slots Q (F0 m (pc + 3) ls rest)) : W p l e R s m args below meth c H locs cells slots Q (F0 m pc ls (.int (mI y) :: .int (mI x) :: rest)) := lv_icmp_lt hx hb hdg ht (fun q => kt (by first | exact (mI_lt (a := x) (b := y) hx1 hy1).mp q | (rw [← mI_0] at q; exact (mI_lt (a := x) (b := y) hx1 hy1).mp q))) (fun q => kf (fun q2 => q (by first | exact (mI_lt (a := x) (b := y) hx1 hy1).mpr q2 | (rw [← mI_0]; exact (mI_lt (a := x) (b := y) hx1 hy1).mpr q2))))
theorem mw_if_lt (hx : p.tables.exec = Jvm.exec) (hb : c.code = cc) {x : Int} {off : Int} {tgt : Nat} (hx1 : mRI x) (hdg : decode cc pc = .ok (.ifCond .lt off, 3)) (ht : (pc : Int) + off = (tgt : Int)) (kt : x < (0 : Int) → W p l e R s m args below meth c H locs cells slots Q (F0 m tgt ls rest)) (kf : ¬ (x < (0 : Int)) → W p l e R s m args below meth c H locs cells slots Q (F0 m (pc + 3) ls rest)) : W p l e R s m args below meth c H locs cells slots Q (F0 m pc ls (.int (mI x) :: rest)) := lv_if_lt hx hb hdg ht (fun q => kt (by first | exact (mI_lt (a := x) (b := 0) hx1 mI_r0).mp q | (rw [← mI_0] at q; exact (mI_lt (a := x) (b := 0) hx1 mI_r0).mp q))) (fun q => kf (fun q2 => q (by first | exact (mI_lt (a := x) (b := 0) hx1 mI_r0).mpr q2 | (rw [← mI_0]; exact (mI_lt (a := x) (b := 0) hx1 mI_r0).mpr q2))))
theorem mw_lcmp_lt (hx : p.tables.exec = Jvm.exec) (hb : c.code = cc) {x y : Int} {off : Int} {tgt : Nat} (hx1 : mRL x) (hy1 : mRL y) (d1 : decode cc pc = .ok (.lcmp, 1)) (d2 : decode cc (pc + 1) = .ok (.ifCond .lt off, 3)) (ht : ((pc + 1 : Nat) : Int) + off = (tgt : Int)) (kt : x < y → W p l e R s m args below meth c H locs cells slots Q (F0 m tgt ls rest)) (kf : ¬ (x < y) → W p l e R s m args below meth c H locs cells slots Q (F0 m (pc + 1 + 3) ls rest)) : W p l e R s m args below meth c H locs cells slots Q (F0 m pc ls (.long (mL y) :: .long (mL x) :: rest)) := W.lcmp hx hb d1 (lv_if_lt hx hb d2 ht (fun q => kt ((mL_lt hx1 hy1).mp ((lg_cmp_lt _ _).mp q))) (fun q => kf (fun q2 => q ((lg_cmp_lt _ _).mpr ((mL_lt hx1 hy1).mpr q2)))))
theorem mw_icmp_ge (hx : p.tables.exec = Jvm.exec) (hb : c.code = cc) {x y : Int} {off : Int} {tgt : Nat} (hx1 : mRI x) (hy1 : mRI y) (hdg : decode cc pc = .ok (.if_icmp .ge off, 3)) (ht : (pc : Int) + off = (tgt : Int)) (kt : y ≤ x → W p l e R s m args below meth c H locs cells slots Q (F0 m tgt ls rest)) (kf : ¬ (y ≤ x) → W p l e R s m args below meth c H locs cells slots Q (F0 m (pc + 3) ls rest)) : W p l e R s m args below meth c H locs cells slots Q (F0 m pc ls (.int (mI y) :: .int (mI x) :: rest)) := lv_icmp_ge hx hb hdg ht (fun q => kt (by first | exact (mI_le (a := y) (b := x) hy1 hx1).mp q | (rw [← mI_0] at q; exact (mI_le (a := y) (b := x) hy1 hx1).mp q))) (fun q => kf (fun q2 => q (by first | exact (mI_le (a := y) (b := x) hy1 hx1).mpr q2 | (rw [← mI_0]; exact (mI_le (a := y) (b := x) hy1 hx1).mpr q2))))
theorem mw_if_ge (hx : p.tables.exec = Jvm.exec) (hb : c.code = cc) {x : Int} {off : Int} {tgt : Nat} (hx1 : mRI x) (hdg : decode cc pc = .ok (.ifCond .ge off, 3)) (ht : (pc : Int) + off = (tgt : Int)) (kt : (0 : Int) ≤ x → W p l e R s m args below meth c H locs cells slots Q (F0 m tgt ls rest)) (kf : ¬ ((0 : Int) ≤ x) → W p l e R s m args below meth c H locs cells slots Q (F0 m (pc + 3) ls rest)) : W p l e R s m args below meth c H locs cells slots Q (F0 m pc ls (.int (mI x) :: rest)) := lv_if_ge hx hb hdg ht (fun q => kt (by first | exact (mI_le (a := 0) (b := x) mI_r0 hx1).mp q | (rw [← mI_0] at q; exact (mI_le (a := 0) (b := x) mI_r0 hx1).mp q))) (fun q => kf (fun q2 => q (by first | exact (mI_le (a := 0) (b := x) mI_r0 hx1).mpr q2 | (rw [← mI_0]; exact (mI_le (a := 0) (b := x) mI_r0 hx1).mpr q2))))
theorem mw_lcmp_ge (hx : p.tables.exec = Jvm.exec) (hb : c.code = cc) {x y : Int} {off : Int} {tgt : Nat} (hx1 : mRL x) (hy1 : mRL y) (d1 : decode cc pc = .ok (.lcmp, 1)) (d2 : decode cc (pc + 1) = .ok (.ifCond .ge off, 3)) (ht : ((pc + 1 : Nat) : Int) + off = (tgt : Int)) (kt : y ≤ x → W p l e R s m args below meth c H locs cells slots Q (F0 m tgt ls rest)) (kf : ¬ (y ≤ x) → W p l e R s m args below meth c H locs cells slots Q (F0 m (pc + 1 + 3) ls rest)) : W p l e R s m args below meth c H locs cells slots Q (F0 m pc ls (.long (mL y) :: .long (mL x) :: rest)) := W.lcmp hx hb d1 (lv_if_ge hx hb d2 ht (fun q => kt ((mL_le hy1 hx1).mp ((lg_cmp_ge _ _).mp q))) (fun q => kf (fun q2 => q ((lg_cmp_ge _ _).mpr ((mL_le hy1 hx1).mpr q2)))))
theorem mw_icmp_gt (hx : p.tables.exec = Jvm.exec) (hb : c.code = cc) {x y : Int} {off : Int} {tgt : Nat} (hx1 : mRI x) (hy1 : mRI y) (hdg : decode cc pc = .ok (.if_icmp .gt off, 3)) (ht : (pc : Int) + off = (tgt : Int)) (kt : y < x → W p l e R s m args below meth c H locs cells slots Q (F0 m tgt ls rest)) (kf : ¬ (y < x) → W p l e R s m args below meth c H locs cells slots Q (F0 m (pc + 3) ls rest)) : W p l e R s m args below meth c H locs cells slots Q (F0 m pc ls (.int (mI y) :: .int (mI x) :: rest)) := lv_icmp_gt hx hb hdg ht (fun q => kt (by first | exact (mI_lt (a := y) (b := x) hy1 hx1).mp q | (rw [← mI_0] at q; exact (mI_lt (a := y) (b := x) hy1 hx1).mp q))) (fun q => kf (fun q2 => q (by first | exact (mI_lt (a := y) (b := x) hy1 hx1).mpr q2 | (rw [← mI_0]; exact (mI_lt (a := y) (b := x) hy1 hx1).mpr q2))))
theorem mw_if_gt (hx : p.tables.exec = Jvm.exec) (hb : c.code = cc) {x : Int} {off : Int} {tgt : Nat} (hx1 : mRI x) (hdg : decode cc pc = .ok (.ifCond .gt off, 3)) (ht : (pc : Int) + off = (tgt : Int)) (kt : (0 : Int) < x → W p l e R s m args below meth c H locs cells slots Q (F0 m tgt ls rest)) (kf : ¬ ((0 : Int) < x) → W p l e R s m args below meth c H locs cells slots Q (F0 m (pc + 3) ls rest)) : W p l e R s m args below meth c H locs cells slots Q (F0 m pc ls (.int (mI x) :: rest)) := lv_if_gt hx hb hdg ht (fun q => kt (by first | exact (mI_lt (a := 0) (b := x) mI_r0 hx1).mp q | (rw [← mI_0] at q; exact (mI_lt (a := 0) (b := x) mI_r0 hx1).mp q))) (fun q => kf (fun q2 => q (by first | exact (mI_lt (a := 0) (b := x) mI_r0 hx1).mpr q2 | (rw [← mI_0]; exact (mI_lt (a := 0) (b := x) mI_r0 hx1).mpr q2))))
theorem mw_lcmp_gt (hx : p.tables.exec = Jvm.exec) (hb : c.code = cc) {x y : Int} {off : Int} {tgt : Nat} (hx1 : mRL x) (hy1 : mRL y) (d1 : decode cc pc = .ok (.lcmp, 1)) (d2 : decode cc (pc + 1) = .ok (.ifCond .gt off, 3)) (ht : ((pc + 1 : Nat) : Int) + off = (tgt : Int)) (kt : y < x → W p l e R s m args below meth c H locs cells slots Q (F0 m tgt ls rest)) (kf : ¬ (y < x) → W p l e R s m args below meth c H locs cells slots Q (F0 m (pc + 1 + 3) ls rest)) : W p l e R s m args below meth c H locs cells slots Q (F0 m pc ls (.long (mL y) :: .long (mL x) :: rest)) := W.lcmp hx hb d1 (lv_if_gt hx hb d2 ht (fun q => kt ((mL_lt hy1 hx1).mp ((lg_cmp_gt _ _).mp q))) (fun q => kf (fun q2 => q ((lg_cmp_gt _ _).mpr ((mL_lt hy1 hx1).mpr q2)))))
theorem mw_icmp_le (hx : p.tables.exec = Jvm.exec) (hb : c.code = cc) {x y : Int} {off : Int} {tgt : Nat} (hx1 : mRI x) (hy1 : mRI y) (hdg : decode cc pc = .ok (.if_icmp .le off, 3)) (ht : (pc : Int) + off = (tgt : Int)) (kt : x ≤ y → W p l e R s m args below meth c H locs cells slots Q (F0 m tgt ls rest)) (kf : ¬ (x ≤ y) → W p l e R s m args below meth c H locs cells slots Q (F0 m (pc + 3) ls rest)) : W p l e R s m args below meth c H locs cells slots Q (F0 m pc ls (.int (mI y) :: .int (mI x) :: rest)) := lv_icmp_le hx hb hdg ht (fun q => kt (by first | exact (mI_le (a := x) (b := y) hx1 hy1).mp q | (rw [← mI_0] at q; exact (mI_le (a := x) (b := y) hx1 hy1).mp q))) (fun q => kf (fun q2 => q (by first | exact (mI_le (a := x) (b := y) hx1 hy1).mpr q2 | (rw [← mI_0]; exact (mI_le (a := x) (b := y) hx1 hy1).mpr q2))))
theorem mw_if_le (hx : p.tables.exec = Jvm.exec) (hb : c.code = cc) {x : Int} {off : Int} {tgt : Nat} (hx1 : mRI x) (hdg : decode cc pc = .ok (.ifCond .le off, 3)) (ht : (pc : Int) + off = (tgt : Int)) (kt : x ≤ (0 : Int) → W p l e R s m args below meth c H locs cells slots Q (F0 m tgt ls rest)) (kf : ¬ (x ≤ (0 : Int)) → W p l e R s m args below meth c H locs cells slots Q (F0 m (pc + 3) ls rest)) : W p l e R s m args below meth c H locs cells slots Q (F0 m pc ls (.int (mI x) :: rest)) := lv_if_le hx hb hdg ht (fun q => kt (by first | exact (mI_le (a := x) (b := 0) hx1 mI_r0).mp q | (rw [← mI_0] at q; exact (mI_le (a := x) (b := 0) hx1 mI_r0).mp q))) (fun q => kf (fun q2 => q (by first | exact (mI_le (a := x) (b := 0) hx1 mI_r0).mpr q2 | (rw [← mI_0]; exact (mI_le (a := x) (b := 0) hx1 mI_r0).mpr q2))))
theorem mw_lcmp_le (hx : p.tables.exec = Jvm.exec) (hb : c.code = cc) {x y : Int} {off : Int} {tgt : Nat} (hx1 : mRL x) (hy1 : mRL y) (d1 : decode cc pc = .ok (.lcmp, 1)) (d2 : decode cc (pc + 1) = .ok (.ifCond .le off, 3)) (ht : ((pc + 1 : Nat) : Int) + off = (tgt : Int)) (kt : x ≤ y → W p l e R s m args below meth c H locs cells slots Q (F0 m tgt ls rest)) (kf : ¬ (x ≤ y) → W p l e R s m args below meth c H locs cells slots Q (F0 m (pc + 1 + 3) ls rest)) : W p l e R s m args below meth c H locs cells slots Q (F0 m pc ls (.long (mL y) :: .long (mL x) :: rest)) := W.lcmp hx hb d1 (lv_if_le hx hb d2 ht (fun q => kt ((mL_le hx1 hy1).mp ((lg_cmp_le _ _).mp q))) (fun q => kf (fun q2 => q ((lg_cmp_le _ _).mpr ((mL_le hx1 hy1).mpr q2)))))
theorem mw_zeq (hx : p.tables.exec = Jvm.exec) (hb : c.code = cc) {b : Prop} [Decidable b] {off : Int} {tgt : Nat} (hdg : decode cc pc = .ok (.ifCond .eq off, 3)) (ht : (pc : Int) + off = (tgt : Int)) (kt : ¬ b → W p l e R s m args below meth c H locs cells slots Q (F0 m tgt ls rest)) (kf : b → W p l e R s m args below meth c H locs cells slots Q (F0 m (pc + 3) ls rest)) : W p l e R s m args below meth c H locs cells slots Q (F0 m pc ls (.int (mI (mB b)) :: rest)) := lv_if_eq hx hb hdg ht (fun q => kt (mB_0.mp q)) (fun q => kf (Classical.not_not.mp (fun h => q (mB_0.mpr h))))
theorem mw_zne (hx : p.tables.exec = Jvm.exec) (hb : c.code = cc) {b : Prop} [Decidable b] {off : Int} {tgt : Nat} (hdg : decode cc pc = .ok (.ifCond .ne off, 3)) (ht : (pc : Int) + off = (tgt : Int)) (kt : b → W p l e R s m args below meth c H locs cells slots Q (F0 m tgt ls rest)) (kf : ¬ b → W p l e R s m args below meth c H locs cells slots Q (F0 m (pc + 3) ls rest)) : W p l e R s m args below meth c H locs cells slots Q (F0 m pc ls (.int (mI (mB b)) :: rest)) := lv_if_ne hx hb hdg ht (fun q => kt (Classical.not_not.mp (fun h => q (mB_0.mpr h)))) (fun q => kf (mB_0.mp q))
end MWR
end
section
/-! the two objects and their cells: v: count, moon's num, den, shift, year's common, a, b, c; L, P: lengths and places -/
abbrev mXO (a1 a2 : Nat) (v : Nat → Int) : List Value := [.ref a1, .ref a2, .int (mI (v 0)), .int (mI (v 1)), .int (mI (v 2)), .int (mI (v 3)), .int (mI (v 4)), .int (mI (v 5)), .int (mI (v 6)), .int (mI (v 7))]
abbrev mA16 (cA : ClassId) (L : Int → Int) : va_E := .inl (cA, 16, .inl (fun k : Nat => mI (L (k : Int))))
abbrev mXW (h0 a1 a2 : Nat) (cA : ClassId) (v : Nat → Int) (L P : Int → Int) : va_W := [(h0, .inr (0, mXO a1 a2 v)), (a1, mA16 cA L), (a2, mA16 cA P)]
abbrev mMO (a1 a2 : Nat) (t f g : Int) (v : Nat → Int) : List Value := [.int (mI t), .ref a1, .ref a2, .int (mI (v 0)), .int (mI (v 1)), .int (mI (v 2)), .int (mI (v 3)), .int (mI (v 4)), .int (mI (v 5)), .int (mI (v 6)), .int (mI (v 7)), .long (mL f), .long (mL g)]
abbrev mMW (h0 a1 a2 : Nat) (cA : ClassId) (t f g : Int) (v : Nat → Int) (L P : Int → Int) : va_W := [(h0, .inr (1, mMO a1 a2 t f g v)), (a1, mA16 cA L), (a2, mA16 cA P)]
abbrev mTy (cA cJ : ClassId) : List (ClassId × FieldType) := [(cA, .int), (cJ, .long)]
def mA3 (h0 a1 a2 : Nat) : Nat → Prop := fun q => q = h0 ∨ q = a1 ∨ q = a2
def mDis (h0 a1 a2 : Nat) : Prop := h0 ≠ a1 ∧ h0 ≠ a2 ∧ a1 ≠ a2
theorem mD3 {A : Nat → Prop} {h0 a1 a2 : Nat} {x y z : va_E} (hd : mDis h0 a1 a2) (hA : A h0 ∧ A a1 ∧ A a2) : va_D A [(h0, x), (a1, y), (a2, z)] := by
  have key : ∀ (i : Nat) (p : Nat × va_E), [(h0, x), (a1, y), (a2, z)][i]? = some p → (i = 0 ∧ p.1 = h0) ∨ (i = 1 ∧ p.1 = a1) ∨ (i = 2 ∧ p.1 = a2) := by
    intro i p hp
    match i, hp with
    | 0, hp => cases hp; exact Or.inl ⟨rfl, rfl⟩
    | 1, hp => cases hp; exact Or.inr (Or.inl ⟨rfl, rfl⟩)
    | 2, hp => cases hp; exact Or.inr (Or.inr ⟨rfl, rfl⟩)
    | i + 3, hp => simp at hp
  obtain ⟨d1, d2, d3⟩ := hd
  refine ⟨fun i j p q hp hq hpq => ?_, fun k q hk => ?_⟩
  · rcases key i p hp with ⟨e1, e2⟩ | ⟨e1, e2⟩ | ⟨e1, e2⟩ <;> rcases key j q hq with ⟨e3, e4⟩ | ⟨e3, e4⟩ | ⟨e3, e4⟩ <;> omega
  · rcases key k q hk with ⟨e1, e2⟩ | ⟨e1, e2⟩ | ⟨e1, e2⟩
    · rw [e2]; exact hA.1
    · rw [e2]; exact hA.2.1
    · rw [e2]; exact hA.2.2
theorem mA3_in (h0 a1 a2 : Nat) : mA3 h0 a1 a2 h0 ∧ mA3 h0 a1 a2 a1 ∧ mA3 h0 a1 a2 a2 := ⟨Or.inl rfl, Or.inr (Or.inl rfl), Or.inr (Or.inr rfl)⟩
/-- what holds where a method begins -/
def mwB (D : va_G) (W0 : va_W) (tys : List (ClassId × FieldType)) (U : State) : Prop := va_P D vwCl W0 U.heap ∧ va_K D vwCl tys U
theorem mwB_blind {D : va_G} {W0 : va_W} {tys : List (ClassId × FieldType)} {U : State} {g : JFrame} {mk : MethodId} {a : Array Value} (h : mwB D W0 tys U) : mwB D W0 tys (U.calling g mk a) := ⟨h.1, va_K.moved (u := U) (U := U.calling g mk a) (Vm.Alike.refl U.vm) h.2⟩
/-- a method that only reads: its answer is v, the heap stays -/
def mQ (v : Option Value) : Array Value → State → Outcome → State → Prop := fun _ st o t => o = .returned v ∧ t.heap = st.heap
def mP (l : Launch) (y : MethodName) (ws : List Cond) (rm : Room) (av : List Value) (B : State → Prop) (v : Option Value) : Prop := Met l y ws rm (va_Pc av B) (mQ v) 0 0 (fun _ => False)
/-- a method that writes its three cells -/
def mQM {S : Type} (D : va_G) (v : Option Value) (post : S → Prop) (W1 : S → va_W) (A : Nat → Prop) : Array Value → State → Outcome → State → Prop := fun _ st o t => ∃ u : S, o = .returned v ∧ post u ∧ va_P D vwCl (W1 u) t.heap ∧ va_F A st t
def mM {S : Type} (l : Launch) (y : MethodName) (ws : List Cond) (rm : Room) (av : List Value) (D : va_G) (W0 : va_W) (tys : List (ClassId × FieldType)) (v : Option Value) (post : S → Prop) (W1 : S → va_W) (A : Nat → Prop) : Prop := Met l y ws rm (va_Pc av (mwB D W0 tys)) (mQM D v post W1 A) 0 0 A
theorem mw_ofW {l : Launch} {y : MethodName} {ws ws' : List Cond} {rm : Room} {Pc : Array Value → State → Prop} {Qc : Array Value → State → Outcome → State → Prop} {mc ms : Nat} {free : Addr → Prop} {cc : ByteArray} {maxL : Nat} {ret : Option FieldType}
    (hy : plainFor y = true) (hw : ws = Cond.code y cc maxL ret :: ws')
    (body : ∀ p e s m args below meth c s₁, BodyLoose p l y (headSpec ws rm) cc maxL ret e s m args below meth c s₁ → c.maxLocals = maxL → Pc args s →
      W p l e (headSpec ws rm).room s m args below meth c s.heap [] 0 0 (MQ below Qc args s mc ms free) (entryFrame m args maxL)) : Met l y ws rm Pc Qc mc ms free := by
  refine MetFree.of_bodySF (code := cc) (maxLocals := maxL) (ret := ret) hy ?_ ?_
  · intro args s m h hn
    obtain ⟨meth, c, h1, h2, h3, h4, h5, h6, -, -⟩ := Cond.code_spec hn (atoms_spec (ws := ws) h _ (by rw [hw]; exact List.mem_cons_self))
    exact ⟨meth, c, h1, h2, h3, h4, h5, h6⟩
  · intro p e s m args below meth c s₁ B hml hP _
    have hh0 : s₁.heap = s.heap := by rw [B.state]; rfl
    obtain ⟨t, a1, o, b1, b2, b3⟩ := body p e s m args below meth c s₁ B hml hP s₁ hh0 (Stand.of_body B)
    exact ⟨t, o, a1, b1, b2, ⟨b3.1, b3.2⟩⟩
theorem mw_open {l : Launch} {y : MethodName} {ws ws' : List Cond} {rm : Room} {av : List Value} {B : State → Prop} {v : Option Value} {cc : ByteArray} {maxL : Nat} {ret : Option FieldType} (hy : plainFor y = true) (hw : ws = Cond.code y cc maxL ret :: ws') (hlen : (lg_sl av).length ≤ maxL)
    (body : ∀ (p : Program) (e : Env) (s : State) (m : MethodId) (below : List Frame) (meth : Method) (c : Code) (ls : Array Slot), CallFix p m c cc maxL s av.toArray ws y.cls → meth.sig.returnType = ret → meth.locks = false → B s → lv_has ls maxL (lv_args 0 av) → W p l e rm s m av.toArray below meth c s.heap [] 0 0 (MQ below (mQ v) av.toArray s 0 0 (fun _ => False)) (F0 m 0 ls [])) : mP l y ws rm av B v := by
  refine mw_ofW (cc := cc) (maxL := maxL) (ret := ret) hy hw ?_
  intro p e s m args below meth c s₁ B1 hml hv
  obtain ⟨rfl, hB⟩ := hv
  have hl := lv_entry av (n := maxL) hlen
  rw [lg_entry_eq]
  exact body p e s m below meth c _ ⟨B1.exec, B1.bytes, hml, findClass_of_methodNamed B1.named, atoms_spec (ws := ws) B1.pre⟩ B1.returns B1.notSynchronized hB hl
theorem mw_openM {S : Type} {l : Launch} {y : MethodName} {ws ws' : List Cond} {rm : Room} {av : List Value} {D : va_G} {W0 : va_W} {tys : List (ClassId × FieldType)} {v : Option Value} {post : S → Prop} {W1 : S → va_W} {A : Nat → Prop} {cc : ByteArray} {maxL : Nat} {ret : Option FieldType} (hy : plainName y.cls = true) (hw : ws = Cond.code y cc maxL ret :: ws') (hlen : (lg_sl av).length ≤ maxL)
    (body : ∀ (p : Program) (e : Env) (s : State) (m : MethodId) (below : List Frame) (meth : Method) (c : Code) (ls : Array Slot), CallFix p m c cc maxL s av.toArray ws y.cls → meth.sig.returnType = ret → meth.locks = false → mwB D W0 tys s → lv_has ls maxL (lv_args 0 av) → W p l e rm s m av.toArray below meth c s.heap [] 0 0 (MQ below (mQM D v post W1 A) av.toArray s 0 0 A) (F0 m 0 ls [])) : mM l y ws rm av D W0 tys v post W1 A := by
  refine Met.ofW (cc := cc) (maxL := maxL) (ret := ret) hy hw ?_
  intro p e s m args below meth c s₁ B1 hml hv
  obtain ⟨rfl, hB⟩ := hv
  have hl := lv_entry av (n := maxL) hlen
  rw [lg_entry_eq]
  exact body p e s m below meth c _ ⟨B1.exec, B1.bytes, hml, findClass_of_methodNamed B1.named, atoms_spec (ws := ws) B1.pre⟩ B1.returns B1.notSynchronized hB hl
section MWC
variable {p : Program} {l : Launch} {e : Env} {R : Room} {s : State} {m : MethodId} {args : Array Value} {below : List Frame} {meth : Method} {c : Code} {H : Heap} {locs : List Loc} {cells slots : Nat} {Q : State → Prop}
variable {cc : ByteArray} {pc : Nat} {ls : Array Slot} {rest st0 : List Value}
theorem mw_run {v : Option Value} {a : Array Value} (hr : CallRun p l e R s m args below meth c H locs cells slots 0 0 (F0 m pc ls st0) rest (mQ v a) (fun _ => False)) (kk : W p l e R s m args below meth c H locs cells slots Q (F0 m (pc + 3) ls (v.toList ++ rest))) : W p l e R s m args below meth c H locs cells slots Q (F0 m pc ls st0) := by
  intro T hT X
  obtain ⟨v1, st₀, t, T', L, h0, X', hL, e1, ⟨hv, hh⟩, st⟩ := hr T hT X
  cases hv
  obtain ⟨t2, a1, b1⟩ := kk T' (by rw [e1, hh, h0]) (Stand.forget X' (fun q h => (hL q h).elim))
  exact ⟨t2, st t2 a1, b1⟩
section MWCV
variable {y : MethodName} {bytes : ByteArray} {maxL nL n index : Nat} {ret : Option FieldType} {ws Ts : List Cond} {rm : Room} {own : String} {b : Addr} {As : List Value} {D : va_G} {W0 : va_W} {tys : List (ClassId × FieldType)}
theorem mw_cV {v : Option Value} {q : vw_C} {ci : Nat} {fs : List Value} (S : CallFix p m c cc nL s args Ts own) (hM : mP l y ws rm (.ref b :: As) (mwB D W0 tys) v) (cw : CallW R s args own q.1 index y bytes maxL ret ws rm 0 0 n) (hK : va_K D vwCl tys s) (hP : va_P D vwCl W0 H) (hc : vwCl[ci]? = some q) (he : W0[0]? = some (b, .inr (ci, fs))) (hn : As.length = n) (hsz : ls.size = nL) (hst : st0 = As.reverse ++ .ref b :: rest) (hW : (rest.map fun v => v.category).sum ≤ 8) (hf : cells ≤ R.cells ∧ slots ≤ R.slots) (hdg : decode cc pc = .ok (.invokevirtual index, 3)) (kk : W p l e R s m args below meth c H locs cells slots Q (F0 m (pc + 3) ls (v.toList ++ rest))) : W p l e R s m args below meth c H locs cells slots Q (F0 m pc ls st0) := by
  refine mw_run (W.runV S hM cw ⟨fun a U g mk h => ⟨h.1, mwB_blind h.2⟩, va_recv hK hP hc he, fun U hU hW1 => ⟨rfl, by rw [hU]; exact hP, va_K.moved hW1.alike hK⟩⟩ rfl hn hsz hst (lv_room hW) hdg hf) kk
theorem mw_cVi {r : Int32} {q : vw_C} {ci : Nat} {fs : List Value} (S : CallFix p m c cc nL s args Ts own) (hM : mP l y ws rm (.ref b :: As) (mwB D W0 tys) (some (.int r))) (cw : CallW R s args own q.1 index y bytes maxL ret ws rm 0 0 n) (hK : va_K D vwCl tys s) (hP : va_P D vwCl W0 H) (hc : vwCl[ci]? = some q) (he : W0[0]? = some (b, .inr (ci, fs))) (hn : As.length = n) (hsz : ls.size = nL) (hst : st0 = As.reverse ++ .ref b :: rest) (hW : (rest.map fun v => v.category).sum ≤ 8) (hf : cells ≤ R.cells ∧ slots ≤ R.slots) (hdg : decode cc pc = .ok (.invokevirtual index, 3)) (kk : W p l e R s m args below meth c H locs cells slots Q (F0 m (pc + 3) ls (.int r :: rest))) : W p l e R s m args below meth c H locs cells slots Q (F0 m pc ls st0) := mw_cV S hM cw hK hP hc he hn hsz hst hW hf hdg kk
theorem mw_cVl {r : Int64} {q : vw_C} {ci : Nat} {fs : List Value} (S : CallFix p m c cc nL s args Ts own) (hM : mP l y ws rm (.ref b :: As) (mwB D W0 tys) (some (.long r))) (cw : CallW R s args own q.1 index y bytes maxL ret ws rm 0 0 n) (hK : va_K D vwCl tys s) (hP : va_P D vwCl W0 H) (hc : vwCl[ci]? = some q) (he : W0[0]? = some (b, .inr (ci, fs))) (hn : As.length = n) (hsz : ls.size = nL) (hst : st0 = As.reverse ++ .ref b :: rest) (hW : (rest.map fun v => v.category).sum ≤ 8) (hf : cells ≤ R.cells ∧ slots ≤ R.slots) (hdg : decode cc pc = .ok (.invokevirtual index, 3)) (kk : W p l e R s m args below meth c H locs cells slots Q (F0 m (pc + 3) ls (.long r :: rest))) : W p l e R s m args below meth c H locs cells slots Q (F0 m pc ls st0) := mw_cV S hM cw hK hP hc he hn hsz hst hW hf hdg kk
theorem mw_cVv {q : vw_C} {ci : Nat} {fs : List Value} (S : CallFix p m c cc nL s args Ts own) (hM : mP l y ws rm (.ref b :: As) (mwB D W0 tys) none) (cw : CallW R s args own q.1 index y bytes maxL ret ws rm 0 0 n) (hK : va_K D vwCl tys s) (hP : va_P D vwCl W0 H) (hc : vwCl[ci]? = some q) (he : W0[0]? = some (b, .inr (ci, fs))) (hn : As.length = n) (hsz : ls.size = nL) (hst : st0 = As.reverse ++ .ref b :: rest) (hW : (rest.map fun v => v.category).sum ≤ 8) (hf : cells ≤ R.cells ∧ slots ≤ R.slots) (hdg : decode cc pc = .ok (.invokevirtual index, 3)) (kk : W p l e R s m args below meth c H locs cells slots Q (F0 m (pc + 3) ls rest)) : W p l e R s m args below meth c H locs cells slots Q (F0 m pc ls st0) := mw_cV S hM cw hK hP hc he hn hsz hst hW hf hdg kk
theorem mw_cS {v : Option Value} (S : CallFix p m c cc nL s args Ts own) (hM : mP l y ws rm As (fun _ => True) v) (cw : CallB R s args own index y bytes maxL ret ws rm 0 0 n ∧ (Cond.static y).before args s = true) (hn : As.length = n) (hsz : ls.size = nL) (hst : st0 = As.reverse ++ rest) (hW : (rest.map fun v => v.category).sum ≤ 8) (hf : cells ≤ R.cells ∧ slots ≤ R.slots) (hdg : decode cc pc = .ok (.invokestatic index, 3)) (kk : W p l e R s m args below meth c H locs cells slots Q (F0 m (pc + 3) ls (v.toList ++ rest))) : W p l e R s m args below meth c H locs cells slots Q (F0 m pc ls st0) := by
  refine mw_run (W.runS S hM cw ⟨fun a U g mk h => h, fun U hU hW1 => ⟨rfl, trivial⟩⟩ rfl hn hsz hst (lv_room hW) hdg hf) kk
theorem mw_cSi {r : Int32} (S : CallFix p m c cc nL s args Ts own) (hM : mP l y ws rm As (fun _ => True) (some (.int r))) (cw : CallB R s args own index y bytes maxL ret ws rm 0 0 n ∧ (Cond.static y).before args s = true) (hn : As.length = n) (hsz : ls.size = nL) (hst : st0 = As.reverse ++ rest) (hW : (rest.map fun v => v.category).sum ≤ 8) (hf : cells ≤ R.cells ∧ slots ≤ R.slots) (hdg : decode cc pc = .ok (.invokestatic index, 3)) (kk : W p l e R s m args below meth c H locs cells slots Q (F0 m (pc + 3) ls (.int r :: rest))) : W p l e R s m args below meth c H locs cells slots Q (F0 m pc ls st0) := mw_cS S hM cw hn hsz hst hW hf hdg kk
theorem mw_cSl {r : Int64} (S : CallFix p m c cc nL s args Ts own) (hM : mP l y ws rm As (fun _ => True) (some (.long r))) (cw : CallB R s args own index y bytes maxL ret ws rm 0 0 n ∧ (Cond.static y).before args s = true) (hn : As.length = n) (hsz : ls.size = nL) (hst : st0 = As.reverse ++ rest) (hW : (rest.map fun v => v.category).sum ≤ 8) (hf : cells ≤ R.cells ∧ slots ≤ R.slots) (hdg : decode cc pc = .ok (.invokestatic index, 3)) (kk : W p l e R s m args below meth c H locs cells slots Q (F0 m (pc + 3) ls (.long r :: rest))) : W p l e R s m args below meth c H locs cells slots Q (F0 m pc ls st0) := mw_cS S hM cw hn hsz hst hW hf hdg kk
theorem mw_cSv (S : CallFix p m c cc nL s args Ts own) (hM : mP l y ws rm As (fun _ => True) none) (cw : CallB R s args own index y bytes maxL ret ws rm 0 0 n ∧ (Cond.static y).before args s = true) (hn : As.length = n) (hsz : ls.size = nL) (hst : st0 = As.reverse ++ rest) (hW : (rest.map fun v => v.category).sum ≤ 8) (hf : cells ≤ R.cells ∧ slots ≤ R.slots) (hdg : decode cc pc = .ok (.invokestatic index, 3)) (kk : W p l e R s m args below meth c H locs cells slots Q (F0 m (pc + 3) ls rest)) : W p l e R s m args below meth c H locs cells slots Q (F0 m pc ls st0) := mw_cS S hM cw hn hsz hst hW hf hdg kk
/-- a call of a method that writes its cells -/
theorem mw_cM {S1 : Type} {v : Option Value} {post : S1 → Prop} {W1 : S1 → va_W} {A A0 : Nat → Prop} {H0 : Heap} {q : vw_C} {ci : Nat} {fs : List Value} (S : CallFix p m c cc nL s args Ts own) (hM : mM l y ws rm (.ref b :: As) D W0 tys v post W1 A) (cw : CallW R s args own q.1 index y bytes maxL ret ws rm 0 0 n) (hK : va_K D vwCl tys s) (hP : va_P D vwCl W0 H) (hS : va_S A0 H0 H locs) (hA : ∀ q, A q → A0 q) (hc : vwCl[ci]? = some q) (he : W0[0]? = some (b, .inr (ci, fs))) (hn : As.length = n) (hsz : ls.size = nL) (hst : st0 = As.reverse ++ .ref b :: rest) (hW : (rest.map fun v => v.category).sum ≤ 8) (hf : cells ≤ R.cells ∧ slots ≤ R.slots) (hdg : decode cc pc = .ok (.invokevirtual index, 3))
    (kk : ∀ (u : S1) (H1 : Heap) (locs1 : List Loc), post u → va_P D vwCl (W1 u) H1 → va_S A0 H0 H1 locs1 → H.size ≤ H1.size → (∀ q : Nat, q < H.size → ¬ A q → H1[q]? = H[q]?) → W p l e R s m args below meth c H1 locs1 cells slots Q (F0 m (pc + 3) ls (v.toList ++ rest))) : W p l e R s m args below meth c H locs cells slots Q (F0 m pc ls st0) := by
  have hr := va_runV (e := e) (below := below) (meth := meth) (locs := locs) (rest := rest) S hM cw ⟨fun a U g mk h => ⟨h.1, mwB_blind h.2⟩, va_recv hK hP hc he, fun U hU hW1 => ⟨rfl, by rw [hU]; exact hP, va_K.moved hW1.alike hK⟩⟩ (g := F0 m pc ls st0) rfl hn hsz hst (lv_room hW) hdg hf
  intro T hT X
  obtain ⟨v1, st₀, t, T', L, h0, X', hL, e1, e2, ⟨u, hv, hp, hP1, hz, hk⟩, st⟩ := hr T hT X
  cases hv
  rw [h0] at hz hk
  obtain ⟨t2, a1, b1⟩ := kk u T'.heap (locs ++ L) hp (by rw [e1]; exact hP1) ⟨Nat.le_trans hS.1 (by rw [e1]; exact hz), fun q h1 h2 => by rw [e1, hk q (Nat.lt_of_lt_of_le h1 hS.1) (fun z => h2 (hA q z))]; exact hS.2.1 q h1 h2, fun q hq => by
      rcases List.mem_append.mp hq with h | h
      · exact hS.2.2 q h
      · exact hA _ (hL q h)⟩ (by rw [e1]; exact hz) (fun q h1 h2 => by rw [e1]; exact hk q h1 h2) T' rfl X'
  exact ⟨t2, st t2 a1, b1⟩
end MWCV
/-! ends -/
theorem mw_retI {v v' : Int} (hx : p.tables.exec = Jvm.exec) (hb : c.code = cc) (hr : meth.sig.returnType = some .int) (hlocks : meth.locks = false) (hdg : decode cc pc = .ok (.ireturn, 1)) (hv : v = v') : W p l e R s m args below meth c s.heap [] 0 0 (MQ below (mQ (some (.int (mI v')))) args s 0 0 (fun _ => False)) (F0 m pc ls [.int (mI v)]) := by
  subst hv
  exact W.iret hx hb hr (fun t ht _ => ⟨rfl, ht⟩) (fun q h => nomatch h) hdg hlocks
theorem mw_retZ {v : Int} {q : Prop} [Decidable q] (hx : p.tables.exec = Jvm.exec) (hb : c.code = cc) (hr : meth.sig.returnType = some .boolean) (hlocks : meth.locks = false) (hdg : decode cc pc = .ok (.ireturn, 1)) (hv : v = mB q) : W p l e R s m args below meth c s.heap [] 0 0 (MQ below (mQ (some (.int (mI (mB q))))) args s 0 0 (fun _ => False)) (F0 m pc ls [.int (mI v)]) := by
  subst hv
  exact W.zret hx hb hr mB_nar (fun t ht _ => ⟨rfl, ht⟩) (fun q h => nomatch h) hdg hlocks
theorem mw_retL {v v' : Int} (hx : p.tables.exec = Jvm.exec) (hb : c.code = cc) (hr : meth.sig.returnType = some .long) (hlocks : meth.locks = false) (hdg : decode cc pc = .ok (.lreturn, 1)) (hv : v = v') : W p l e R s m args below meth c s.heap [] 0 0 (MQ below (mQ (some (.long (mL v')))) args s 0 0 (fun _ => False)) (F0 m pc ls [.long (mL v)]) := by
  subst hv
  exact W.lret hx hb hr (fun t ht _ => ⟨rfl, ht⟩) (fun q h => nomatch h) hdg hlocks
theorem mw_retV (hx : p.tables.exec = Jvm.exec) (hb : c.code = cc) (hr : meth.sig.returnType = none) (hlocks : meth.locks = false) (hdg : decode cc pc = .ok (.return_, 1)) : W p l e R s m args below meth c s.heap [] 0 0 (MQ below (mQ none) args s 0 0 (fun _ => False)) (F0 m pc ls []) :=
  W.vret hx hb hr (fun t ht _ => ⟨rfl, ht⟩) (fun q h => nomatch h) hdg hlocks
theorem mw_mretI {S : Type} {D : va_G} {post : S → Prop} {W1 : S → va_W} {A : Nat → Prop} {v v' : Int} (hx : p.tables.exec = Jvm.exec) (hb : c.code = cc) (hr : meth.sig.returnType = some .int) (hlocks : meth.locks = false) (hdg : decode cc pc = .ok (.ireturn, 1)) (u : S) (hu : post u) (hP : va_P D vwCl (W1 u) H) (hS : va_S A s.heap H locs) (hv : v = v') : W p l e R s m args below meth c H locs 0 0 (MQ below (mQM D (some (.int (mI v'))) post W1 A) args s 0 0 A) (F0 m pc ls [.int (mI v)]) := by
  subst hv
  exact W.iret hx hb hr (fun t ht _ => ⟨u, rfl, hu, by rw [ht]; exact hP, hS.F ht⟩) hS.2.2 hdg hlocks
theorem mw_mretL {S : Type} {D : va_G} {post : S → Prop} {W1 : S → va_W} {A : Nat → Prop} {v v' : Int} (hx : p.tables.exec = Jvm.exec) (hb : c.code = cc) (hr : meth.sig.returnType = some .long) (hlocks : meth.locks = false) (hdg : decode cc pc = .ok (.lreturn, 1)) (u : S) (hu : post u) (hP : va_P D vwCl (W1 u) H) (hS : va_S A s.heap H locs) (hv : v = v') : W p l e R s m args below meth c H locs 0 0 (MQ below (mQM D (some (.long (mL v'))) post W1 A) args s 0 0 A) (F0 m pc ls [.long (mL v)]) := by
  subst hv
  exact W.lret hx hb hr (fun t ht _ => ⟨u, rfl, hu, by rw [ht]; exact hP, hS.F ht⟩) hS.2.2 hdg hlocks
theorem mw_mretZ {S : Type} {D : va_G} {post : S → Prop} {W1 : S → va_W} {A : Nat → Prop} {v : Int} {q : Prop} [Decidable q] (hx : p.tables.exec = Jvm.exec) (hb : c.code = cc) (hr : meth.sig.returnType = some .boolean) (hlocks : meth.locks = false) (hdg : decode cc pc = .ok (.ireturn, 1)) (u : S) (hu : post u) (hP : va_P D vwCl (W1 u) H) (hS : va_S A s.heap H locs) (hv : v = mB q) : W p l e R s m args below meth c H locs 0 0 (MQ below (mQM D (some (.int (mI (mB q)))) post W1 A) args s 0 0 A) (F0 m pc ls [.int (mI v)]) := by
  subst hv
  exact W.zret hx hb hr mB_nar (fun t ht _ => ⟨u, rfl, hu, by rw [ht]; exact hP, hS.F ht⟩) hS.2.2 hdg hlocks
theorem mw_mretV {S : Type} {D : va_G} {post : S → Prop} {W1 : S → va_W} {A : Nat → Prop} (hx : p.tables.exec = Jvm.exec) (hb : c.code = cc) (hr : meth.sig.returnType = none) (hlocks : meth.locks = false) (hdg : decode cc pc = .ok (.return_, 1)) (u : S) (hu : post u) (hP : va_P D vwCl (W1 u) H) (hS : va_S A s.heap H locs) : W p l e R s m args below meth c H locs 0 0 (MQ below (mQM D none post W1 A) args s 0 0 A) (F0 m pc ls []) :=
  W.vret hx hb hr (fun t ht _ => ⟨u, rfl, hu, by rw [ht]; exact hP, hS.F ht⟩) hS.2.2 hdg hlocks
/-! fields and rows -/
theorem mw_iald (hx : p.tables.exec = Jvm.exec) (hb : c.code = cc) {D : va_G} {W0 : va_W} {tys : List (ClassId × FieldType)} {a : Nat} {cA : ClassId} {L : Int → Int} {z : Int} (hK : va_K D vwCl tys s) (hP : va_P D vwCl W0 H) (q0 : Nat) (ha : W0[q0]? = some (a, mA16 cA L)) (ht : tys[0]? = some (cA, .int)) (hz : 0 ≤ z ∧ z < 16) (hdg : decode cc pc = .ok (.iaload, 1)) (kk : W p l e R s m args below meth c H locs cells slots Q (F0 m (pc + 1) ls (.int (mI (L z)) :: rest))) : W p l e R s m args below meth c H locs cells slots Q (F0 m pc ls (.int (mI z) :: .ref a :: rest)) := by
  refine va_iald hx hb hK hP q0 0 ha ht (mI_in hz.1 (by omega) (by decide)) hdg ?_
  have h : ((mI z).toNatClampNeg : Int) = z := mI_clamp hz.1 (by omega)
  rw [h]
  exact kk
theorem mw_iast (hx : p.tables.exec = Jvm.exec) (hb : c.code = cc) {D : va_G} {W0 : va_W} {A : Nat → Prop} {H0 : Heap} {tys : List (ClassId × FieldType)} {a : Nat} {cA : ClassId} {L : Int → Int} {z x : Int} (hK : va_K D vwCl tys s) (hP : va_P D vwCl W0 H) (hD : va_D A W0) (hS : va_S A H0 H locs) (q0 : Nat) (ha : W0[q0]? = some (a, mA16 cA L)) (ht : tys[0]? = some (cA, .int)) (hz : 0 ≤ z ∧ z < 16) (hdg : decode cc pc = .ok (.iastore, 1)) (kk : ∀ (H1 : Heap) (locs1 : List Loc), va_P D vwCl (W0.set q0 (a, mA16 cA (mU L z x))) H1 → va_S A H0 H1 locs1 → W p l e R s m args below meth c H1 locs1 cells slots Q (F0 m (pc + 1) ls rest)) : W p l e R s m args below meth c H locs cells slots Q (F0 m pc ls (.int (mI x) :: .int (mI z) :: .ref a :: rest)) := by
  refine va_iast hx hb hK hP hD hS q0 0 ha ht (mI_in hz.1 (by omega) (by decide)) hdg (fun H1 locs1 h1 _ h2 => kk H1 locs1 ?_ h2)
  rw [mU_upd L hz.1 (by omega)] at h1
  exact h1
theorem mw_alen (hx : p.tables.exec = Jvm.exec) (hb : c.code = cc) {D : va_G} {W0 : va_W} {tys : List (ClassId × FieldType)} {a : Nat} {cA : ClassId} {L : Int → Int} (hK : va_K D vwCl tys s) (hP : va_P D vwCl W0 H) (q0 : Nat) (ha : W0[q0]? = some (a, mA16 cA L)) (ht : tys[0]? = some (cA, .int)) (hdg : decode cc pc = .ok (.arraylength, 1)) (kk : W p l e R s m args below meth c H locs cells slots Q (F0 m (pc + 1) ls (.int (mI 16) :: rest))) : W p l e R s m args below meth c H locs cells slots Q (F0 m pc ls (.ref a :: rest)) := va_alen hx hb hK hP q0 0 ha ht rfl hdg kk
theorem mw_getX (hx : p.tables.exec = Jvm.exec) (hb : c.code = cc) {Ts : List Cond} (hts : ∀ w ∈ Ts, w.before args s = true) (hin : ∀ w ∈ wsX00, w ∈ Ts) (hown : s.vm.findClass RX0 = some m.cls) {D : va_G} {W0 : va_W} {tys : List (ClassId × FieldType)} {a index : Nat} {fs : List Value} (hK : va_K D vwCl tys s) (hP : va_P D vwCl W0 H) (he : W0[0]? = some (a, .inr (0, fs))) (k : Nat) (hk : k < 10) (hlink : (Cond.fieldLink RX0 index "MarketWeeks" (TX0 k).2.1 (TX0 k).2.2.1) ∈ Ts) (h1 : (TX0 k).1 = "MarketWeeks") {v : Value} (hv : fs[k]? = some v) (hdg : decode cc pc = .ok (.getfield index, 3)) (kk : W p l e R s m args below meth c H locs cells slots Q (F0 m (pc + 3) ls (v :: rest))) : W p l e R s m args below meth c H locs cells slots Q (F0 m pc ls (.ref a :: rest)) := va_get (D := D) (ci := 0) (C := RX0) (T := TX0) (N := 10) hx hb hts hin hown hK hP 0 he rfl k hk (hts _ hlink) (by rw [h1]; exact fun _ h9 => h9) hv hdg kk
theorem mw_getM (hx : p.tables.exec = Jvm.exec) (hb : c.code = cc) {Ts : List Cond} (hts : ∀ w ∈ Ts, w.before args s = true) (hin : ∀ w ∈ wsX10, w ∈ Ts) (hown : s.vm.findClass RX1 = some m.cls) {D : va_G} {W0 : va_W} {tys : List (ClassId × FieldType)} {a index : Nat} {fs : List Value} (hK : va_K D vwCl tys s) (hP : va_P D vwCl W0 H) (he : W0[0]? = some (a, .inr (1, fs))) (k : Nat) (hk : k < 13) (hlink : (Cond.fieldLink RX1 index "MarketWeeksModel" (TX1 k).2.1 (TX1 k).2.2.1) ∈ Ts) (h1 : (TX1 k).1 = "MarketWeeksModel") {v : Value} (hv : fs[k]? = some v) (hdg : decode cc pc = .ok (.getfield index, 3)) (kk : W p l e R s m args below meth c H locs cells slots Q (F0 m (pc + 3) ls (v :: rest))) : W p l e R s m args below meth c H locs cells slots Q (F0 m pc ls (.ref a :: rest)) := va_get (D := D) (ci := 1) (C := RX1) (T := TX1) (N := 13) hx hb hts hin hown hK hP 0 he rfl k hk (hts _ hlink) (by rw [h1]; exact fun _ h9 => h9) hv hdg kk
theorem mw_putX (hx : p.tables.exec = Jvm.exec) (hb : c.code = cc) {Ts : List Cond} (hts : ∀ w ∈ Ts, w.before args s = true) (hin : ∀ w ∈ wsX00, w ∈ Ts) (hown : s.vm.findClass RX0 = some m.cls) {D : va_G} {A : Nat → Prop} {H0 : Heap} {W0 : va_W} {tys : List (ClassId × FieldType)} {a index : Nat} {fs : List Value} {x : Int32} (hK : va_K D vwCl tys s) (hP : va_P D vwCl W0 H) (hD : va_D A W0) (hS : va_S A H0 H locs) (he : W0[0]? = some (a, .inr (0, fs))) (k : Nat) (hk : k < 10) (hl : k < fs.length) (hlink : (Cond.fieldLink RX0 index "MarketWeeks" (TX0 k).2.1 (TX0 k).2.2.1) ∈ Ts) (h1 : (TX0 k).1 = "MarketWeeks") (h2 : (TX0 k).2.2.2 = false) (h3 : parseFieldDescriptor (TX0 k).2.2.1 = some .int) (hdg : decode cc pc = .ok (.putfield index, 3)) (kk : ∀ (H1 : Heap) (locs1 : List Loc), va_P D vwCl (W0.set 0 (a, .inr (0, fs.set k (.int x)))) H1 → va_S A H0 H1 locs1 → W p l e R s m args below meth c H1 locs1 cells slots Q (F0 m (pc + 3) ls rest)) : W p l e R s m args below meth c H locs cells slots Q (F0 m pc ls (.int x :: .ref a :: rest)) := va_put (D := D) (ci := 0) (C := RX0) (T := TX0) (N := 10) hx hb hts hin tyX0 tyX0_ok nmX0 hown hK hP hD hS 0 he rfl k hk (hts _ hlink) (by rw [h1]; exact fun _ h9 => h9) h2 h3 rfl rfl hl hdg (fun H1 locs1 h4 _ h5 => kk H1 locs1 h4 h5)
theorem mw_putM (hx : p.tables.exec = Jvm.exec) (hb : c.code = cc) {Ts : List Cond} (hts : ∀ w ∈ Ts, w.before args s = true) (hin : ∀ w ∈ wsX10, w ∈ Ts) (hown : s.vm.findClass RX1 = some m.cls) {D : va_G} {A : Nat → Prop} {H0 : Heap} {W0 : va_W} {tys : List (ClassId × FieldType)} {a index : Nat} {fs : List Value} {x : Int32} (hK : va_K D vwCl tys s) (hP : va_P D vwCl W0 H) (hD : va_D A W0) (hS : va_S A H0 H locs) (he : W0[0]? = some (a, .inr (1, fs))) (k : Nat) (hk : k < 13) (hl : k < fs.length) (hlink : (Cond.fieldLink RX1 index "MarketWeeksModel" (TX1 k).2.1 (TX1 k).2.2.1) ∈ Ts) (h1 : (TX1 k).1 = "MarketWeeksModel") (h2 : (TX1 k).2.2.2 = false) (h3 : parseFieldDescriptor (TX1 k).2.2.1 = some .int) (hdg : decode cc pc = .ok (.putfield index, 3)) (kk : ∀ (H1 : Heap) (locs1 : List Loc), va_P D vwCl (W0.set 0 (a, .inr (1, fs.set k (.int x)))) H1 → va_S A H0 H1 locs1 → W p l e R s m args below meth c H1 locs1 cells slots Q (F0 m (pc + 3) ls rest)) : W p l e R s m args below meth c H locs cells slots Q (F0 m pc ls (.int x :: .ref a :: rest)) := va_put (D := D) (ci := 1) (C := RX1) (T := TX1) (N := 13) hx hb hts hin tyX1 tyX1_ok nmX1 hown hK hP hD hS 0 he rfl k hk (hts _ hlink) (by rw [h1]; exact fun _ h9 => h9) h2 h3 rfl rfl hl hdg (fun H1 locs1 h4 _ h5 => kk H1 locs1 h4 h5)
theorem mw_putMl (hx : p.tables.exec = Jvm.exec) (hb : c.code = cc) {Ts : List Cond} (hts : ∀ w ∈ Ts, w.before args s = true) (hin : ∀ w ∈ wsX10, w ∈ Ts) (hown : s.vm.findClass RX1 = some m.cls) {D : va_G} {A : Nat → Prop} {H0 : Heap} {W0 : va_W} {tys : List (ClassId × FieldType)} {a index : Nat} {fs : List Value} {x : Int64} (hK : va_K D vwCl tys s) (hP : va_P D vwCl W0 H) (hD : va_D A W0) (hS : va_S A H0 H locs) (he : W0[0]? = some (a, .inr (1, fs))) (k : Nat) (hk : k < 13) (hl : k < fs.length) (hlink : (Cond.fieldLink RX1 index "MarketWeeksModel" (TX1 k).2.1 (TX1 k).2.2.1) ∈ Ts) (h1 : (TX1 k).1 = "MarketWeeksModel") (h2 : (TX1 k).2.2.2 = false) (h3 : parseFieldDescriptor (TX1 k).2.2.1 = some .long) (hdg : decode cc pc = .ok (.putfield index, 3)) (kk : ∀ (H1 : Heap) (locs1 : List Loc), va_P D vwCl (W0.set 0 (a, .inr (1, fs.set k (.long x)))) H1 → va_S A H0 H1 locs1 → W p l e R s m args below meth c H1 locs1 cells slots Q (F0 m (pc + 3) ls rest)) : W p l e R s m args below meth c H locs cells slots Q (F0 m pc ls (.long x :: .ref a :: rest)) := va_put (D := D) (ci := 1) (C := RX1) (T := TX1) (N := 13) hx hb hts hin tyX1 tyX1_ok nmX1 hown hK hP hD hS 0 he rfl k hk (hts _ hlink) (by rw [h1]; exact fun _ h9 => h9) h2 h3 rfl rfl hl hdg (fun H1 locs1 h4 _ h5 => kk H1 locs1 h4 h5)
end MWC
end
section
/-! what a throw needs of the state: the texts, the words that the tables alone decide, Throwable's two statics -/
def mEA : String := "java/lang/IllegalArgumentException"
def mES : String := "java/lang/IllegalStateException"
def mEI : String := "java/lang/IndexOutOfBoundsException"
def mwS (U : State) : Prop := (∃ a, vk_R RX0 55 "there are as many markets as can be" a U) ∧ (∃ a, vk_R RX0 139 "an argument is out of range" a U) ∧ (∃ a, vk_R RX0 146 "there is no such market" a U) ∧ (∃ a, vk_R RX0 149 "a bit stands for no market" a U) ∧ (∃ a, vk_R RX0 151 "they never meet" a U) ∧ va_Nw (.castable "java/lang/IllegalArgumentException" "java/lang/IllegalArgumentException") U ∧ va_Nw (.castable "java/lang/IllegalStateException" "java/lang/IllegalStateException") U ∧ va_Nw (.castable "java/lang/IndexOutOfBoundsException" "java/lang/IndexOutOfBoundsException") U ∧ va_Nw (.declares ⟨"java/lang/RuntimeException", "<init>", "(Ljava/lang/String;)V"⟩) U ∧ va_Nw (.declares ⟨"java/lang/Exception", "<init>", "(Ljava/lang/String;)V"⟩) U ∧ va_Nw (.declares ⟨"java/lang/Throwable", "<init>", "(Ljava/lang/String;)V"⟩) U
def mwZ (A : Nat → Prop) (U : State) (H : Heap) : Prop := vx_Zq Bundle.tN "UNASSIGNED_STACK" Bundle.steD A U H ∧ vx_Zq Bundle.tN "SUPPRESSED_SENTINEL" Bundle.listD A U H
def mwE (U : State) : Prop := mwS U ∧ mwZ (fun _ => False) U U.heap
theorem mwS_same {u U : State} (hv : U.vm = u.vm) (h : mwS u) : mwS U := by
  obtain ⟨⟨a1, h1⟩, ⟨a2, h2⟩, ⟨a3, h3⟩, ⟨a4, h4⟩, ⟨a5, h5⟩, h6, h7, h8, h9, h10, h11⟩ := h
  exact ⟨⟨a1, h1.same hv⟩, ⟨a2, h2.same hv⟩, ⟨a3, h3.same hv⟩, ⟨a4, h4.same hv⟩, ⟨a5, h5.same hv⟩, va_Nw.same rfl hv.symm h6, va_Nw.same rfl hv.symm h7, va_Nw.same rfl hv.symm h8, va_Nw.same rfl hv.symm h9, va_Nw.same rfl hv.symm h10, va_Nw.same rfl hv.symm h11⟩
theorem mwS_warm {s U : State} (hW : s.WarmedH U.vm) (h : mwS s) : mwS U := by
  obtain ⟨⟨a1, h1⟩, ⟨a2, h2⟩, ⟨a3, h3⟩, ⟨a4, h4⟩, ⟨a5, h5⟩, h6, h7, h8, h9, h10, h11⟩ := h
  exact ⟨⟨a1, h1.warm hW⟩, ⟨a2, h2.warm hW⟩, ⟨a3, h3.warm hW⟩, ⟨a4, h4.warm hW⟩, ⟨a5, h5.warm hW⟩, h6.warmC hW, h7.warmC hW, h8.warmC hW, h9.warmD hW, h10.warmD hW, h11.warmD hW⟩
theorem mwZ_moved {A : Nat → Prop} {u U : State} {H : Heap} (hv : u.vm.Alike U.vm) (h : mwZ A u H) : mwZ A U H := ⟨h.1.moved hv, h.2.moved hv⟩
theorem mwE_blind {U : State} {g : JFrame} {mk : MethodId} {a : Array Value} (h : mwE U) : mwE (U.calling g mk a) := ⟨mwS_same (u := U) rfl h.1, mwZ_moved (u := U) (U := U.calling g mk a) (Vm.Alike.refl U.vm) h.2⟩
theorem mwE_warm {s U : State} (hh : U.heap = s.heap) (hW : s.WarmedH U.vm) (h : mwE s) : mwE U := ⟨mwS_warm hW h.1, by rw [hh]; exact mwZ_moved hW.alike h.2⟩
/-- a method that throws E and leaves what is there -/
def mT (l : Launch) (y : MethodName) (ws : List Cond) (rm : Room) (av : List Value) (B : State → Prop) (E : String) : Prop := vx_Met l y ws rm (va_Pc av (fun U => B U ∧ mwE U)) (fun _ _ _ _ => False) (fun E1 st t => E1 = E ∧ va_F (fun _ => False) st t) 1 6 (fun _ => False)
/-- a method of the face: its exception by its place (0: none), its answer, the world behind it -/
def mXC (es : List String) (ex : Nat) : String → State → State → Prop := fun E st t => (∃ k, ex = k + 1 ∧ es[k]? = some E) ∧ va_F (fun _ => False) st t
def mXQ (D : va_G) (ex : Nat) (v : Option Value) (W1 : va_W) (A : Nat → Prop) : Array Value → State → Outcome → State → Prop := fun _ st o t => ex = 0 ∧ o = .returned v ∧ va_P D vwCl W1 t.heap ∧ va_F A st t
def mX (l : Launch) (y : MethodName) (ws : List Cond) (rm : Room) (av : List Value) (D : va_G) (W0 : va_W) (tys : List (ClassId × FieldType)) (es : List String) (ex : Nat) (v : Option Value) (W1 : va_W) (A : Nat → Prop) : Prop := vx_Met l y ws rm (va_Pc av (fun U => mwB D W0 tys U ∧ mwE U)) (mXQ D ex v W1 A) (mXC es ex) 1 6 A
theorem mw_openX {l : Launch} {y : MethodName} {ws ws' : List Cond} {rm : Room} {av : List Value} {B : State → Prop} {Qc : Array Value → State → Outcome → State → Prop} {XC : String → State → State → Prop} {A : Nat → Prop} {cc : ByteArray} {maxL : Nat} {ret : Option FieldType} (hy : plainName y.cls = true) (hw : ws = Cond.code y cc maxL ret :: ws') (hlen : (lg_sl av).length ≤ maxL)
    (body : ∀ (p : Program) (e : Env) (s : State) (m : MethodId) (below : List Frame) (meth : Method) (c : Code) (ls : Array Slot), CallFix p m c cc maxL s av.toArray ws y.cls → meth.sig.returnType = ret → meth.locks = false → (∀ x ∈ c.exceptionTable.toList, False) → B s → mwE s → lv_has ls maxL (lv_args 0 av) → W p l e rm s m av.toArray below meth c s.heap [] 0 0 (vx_MQ below Qc XC av.toArray s 1 6 A) (F0 m 0 ls [])) : vx_Met l y ws rm (va_Pc av (fun U => B U ∧ mwE U)) Qc XC 1 6 A := by
  refine vx_ofW (cc := cc) (maxL := maxL) (ret := ret) hy hw ?_
  intro p e s m args below meth c s₁ B1 hml ht hv
  obtain ⟨rfl, hB, hE⟩ := hv
  have hl := lv_entry av (n := maxL) hlen
  rw [lg_entry_eq]
  exact body p e s m below meth c _ ⟨B1.exec, B1.bytes, hml, findClass_of_methodNamed B1.named, atoms_spec (ws := ws) B1.pre⟩ B1.returns B1.notSynchronized ht hB hE hl
section MWT
variable {p : Program} {l : Launch} {e : Env} {R : Room} {s : State} {m : MethodId} {args : Array Value} {below : List Frame} {meth : Method} {c : Code} {H : Heap} {locs : List Loc} {cells slots : Nat} {Q : State → Prop}
variable {cc : ByteArray} {pc : Nat} {ls : Array Slot} {rest st0 : List Value}
variable {Qc : Array Value → State → Outcome → State → Prop} {XC : String → State → State → Prop} {A : Nat → Prop}
/-- a call that throws, and the throw goes on to the caller -/
theorem mw_thr {E : String} (hr : vx_Run p l e R s m args below meth c s.heap [] 0 0 1 6 (F0 m pc ls st0) rest (fun _ _ _ => False) (fun E1 st t => E1 = E ∧ va_F (fun _ => False) st t) (fun _ => False)) (hout : ∀ x ∈ c.exceptionTable.toList, False) (hlocks : meth.locks = false) (hx : ∀ t : State, va_F (fun _ => False) s t → XC E s t) : W p l e R s m args below meth c s.heap [] 0 0 (vx_MQ below Qc XC args s 1 6 A) (F0 m pc ls st0) := by
  intro T hT X
  rcases hr T hT X with ⟨v, st₀, t, T', L, h0, X', hL, e1, e2, hq, st⟩ | ⟨q, st₀, t, T', L, E1, ce, h0, X', hL, e1, e2, ⟨he, hF⟩, hce, hcv, hcl, st⟩
  · exact hq.elim
  · subst he
    have hF2 : va_F (fun _ => False) s t := by
      obtain ⟨f1, f2⟩ := hF
      rw [h0] at f1 f2
      exact ⟨f1, f2⟩
    have k := vx_out (p := p) (l := l) (e := e) (m := m) (R := R) (args := args) (below := below) (locs := [] ++ L) (cells := 0 + 1) (slots := 0 + 6) (free := A) (ls := ls) (rest := rest) (Qc := Qc) (XC := XC) (pc := pc) (mc := 1) (ms := 6) (H := T'.heap) (s := s) (fun x hx1 => (hout x hx1).elim) hlocks (by rw [e1]; exact hce) hcv hcl (fun t2 ht2 _ => hx t2 ⟨by rw [ht2, e1]; exact hF2.1, fun z h1 h2 => by rw [ht2, e1]; exact hF2.2 z h1 h2⟩) (fun z hz => (hL z hz).elim) (Nat.le_refl 1) (Nat.le_refl 6)
    obtain ⟨t2, a1, b1⟩ := k T' rfl X'
    exact ⟨t2, st.trans a1, b1⟩
section MWTC
variable {y : MethodName} {bytes : ByteArray} {maxL nL n index : Nat} {ret : Option FieldType} {ws Ts : List Cond} {rm : Room} {own : String} {b : Addr} {As : List Value} {D : va_G} {W0 : va_W} {tys : List (ClassId × FieldType)}
theorem mw_tS {E : String} (S : CallFix p m c cc nL s args Ts own) (hM : mT l y ws rm As (fun _ => True) E) (hE : mwE s) (cw : CallB R s args own index y bytes maxL ret ws rm 1 6 n ∧ (Cond.static y).before args s = true) (hn : As.length = n) (hsz : ls.size = nL) (hst : st0 = As.reverse ++ rest) (hW : (rest.map fun v => v.category).sum ≤ 8) (hR : 1 ≤ R.cells ∧ 6 ≤ R.slots) (hout : ∀ x ∈ c.exceptionTable.toList, False) (hlocks : meth.locks = false) (hdg : decode cc pc = .ok (.invokestatic index, 3)) (hx : ∀ t : State, va_F (fun _ => False) s t → XC E s t) : W p l e R s m args below meth c s.heap [] 0 0 (vx_MQ below Qc XC args s 1 6 A) (F0 m pc ls st0) :=
  mw_thr (vx_runS (rest := rest) S hM cw ⟨fun a U g mk h => ⟨h.1, trivial, mwE_blind h.2.2⟩, fun U hU hW1 => ⟨rfl, trivial, mwE_warm hU hW1 hE⟩⟩ (g := F0 m pc ls st0) rfl hn hsz hst (lv_room hW) hdg ⟨by rw [Nat.zero_add]; exact hR.1, by rw [Nat.zero_add]; exact hR.2⟩) hout hlocks hx
theorem mw_tV {E : String} {q : vw_C} {ci : Nat} {fs : List Value} (S : CallFix p m c cc nL s args Ts own) (hM : mT l y ws rm (.ref b :: As) (mwB D W0 tys) E) (hE : mwE s) (cw : CallW R s args own q.1 index y bytes maxL ret ws rm 1 6 n) (hK : va_K D vwCl tys s) (hP : va_P D vwCl W0 s.heap) (hc : vwCl[ci]? = some q) (he : W0[0]? = some (b, .inr (ci, fs))) (hn : As.length = n) (hsz : ls.size = nL) (hst : st0 = As.reverse ++ .ref b :: rest) (hW : (rest.map fun v => v.category).sum ≤ 8) (hR : 1 ≤ R.cells ∧ 6 ≤ R.slots) (hout : ∀ x ∈ c.exceptionTable.toList, False) (hlocks : meth.locks = false) (hdg : decode cc pc = .ok (.invokevirtual index, 3)) (hx : ∀ t : State, va_F (fun _ => False) s t → XC E s t) : W p l e R s m args below meth c s.heap [] 0 0 (vx_MQ below Qc XC args s 1 6 A) (F0 m pc ls st0) :=
  mw_thr (vx_runV (rest := rest) S hM cw ⟨fun a U g mk h => ⟨h.1, mwB_blind h.2.1, mwE_blind h.2.2⟩, va_recv hK hP hc he, fun U hU hW1 => ⟨rfl, ⟨by rw [hU]; exact hP, va_K.moved hW1.alike hK⟩, mwE_warm hU hW1 hE⟩⟩ (g := F0 m pc ls st0) rfl hn hsz hst (lv_room hW) hdg ⟨by rw [Nat.zero_add]; exact hR.1, by rw [Nat.zero_add]; exact hR.2⟩) hout hlocks hx
end MWTC
/-- 'throw new E("text")' -/
theorem mw_throw {cls text : String} {ik is ic : Nat} {Ts : List Cond} (hx : p.tables.exec = Jvm.exec) (hb : c.code = cc) (hl : l.flags = flags0) (hts : ∀ w ∈ Ts, w.before args s = true) (hown : s.vm.findClass RX0 = some m.cls) (hcls : Bundle.fit cls = true) (hE : mwE s) (hcast : va_Nw (.castable cls cls) s) (hstr : ∃ a, vk_R RX0 is text a s)
    (hk : Cond.classLink RX0 ik cls ∈ Ts) (hini : Cond.initialized cls ∈ Ts) (hat : ∀ w ∈ (vx_atS RX0 ic cls ["java/lang/RuntimeException", "java/lang/Exception"]).filter goodWord, w ∈ Ts)
    (hbad : ∀ w ∈ (vx_atS RX0 ic cls ["java/lang/RuntimeException", "java/lang/Exception"]).filter (fun w => !goodWord w), w ∈ [Cond.castable cls cls, .declares ⟨"java/lang/RuntimeException", "<init>", "(Ljava/lang/String;)V"⟩, .declares ⟨"java/lang/Exception", "<init>", "(Ljava/lang/String;)V"⟩, .declares ⟨"java/lang/Throwable", "<init>", "(Ljava/lang/String;)V"⟩])
    (hgood : ∀ w ∈ Cond.classLink RX0 ik cls :: Cond.initialized cls :: vx_atS RX0 ic cls ["java/lang/RuntimeException", "java/lang/Exception"], vx_ot w = true)
    (hsize : ls.size = c.maxLocals) (d0 : decode cc pc = .ok (.new ik, 3)) (d3 : decode cc (pc + 3) = .ok (.dup, 1)) (d4 : decode cc (pc + 4) = .ok (.ldc is, 2)) (d6 : decode cc (pc + 6) = .ok (.invokespecial ic, 3)) (d9 : decode cc (pc + 9) = .ok (.athrow, 1))
    (hout : ∀ x ∈ c.exceptionTable.toList, False) (hW : (rest.map fun v => v.category).sum ≤ 8) (hR : 6 ≤ R.frames ∧ 90 ≤ R.locals ∧ 1 ≤ R.cells ∧ 6 ≤ R.slots) (hlocks : meth.locks = false)
    (hxc : ∀ t : State, va_F (fun _ => False) s t → XC cls s t) : W p l e R s m args below meth c s.heap [] 0 0 (vx_MQ below Qc XC args s 1 6 A) (F0 m pc ls rest) := by
  obtain ⟨sa, hsa⟩ := hstr
  have htr : l.stackTraces = false := by
    unfold Launch.stackTraces
    rw [hl]
    decide +kernel
  obtain ⟨⟨-, -, -, -, -, -, -, -, h9, h10, h11⟩, hU, hN⟩ := hE
  exact vx_throwS (names := ["java/lang/RuntimeException", "java/lang/Exception"]) (A := fun _ => False) hx hb htr hown hcls (by decide +kernel) (hts _ hk) (hts _ hini) hsa
    (vx_hat (fun w hw => hts w (hat w hw)) hbad (vx_c (va_Nw.use rfl hcast) (vx_c (va_Nw.use rfl h9) (vx_c (va_Nw.use rfl h10) (vx_c (va_Nw.use rfl h11) vx_n))))) hgood hU hN va_S.rf hsize d0 d3 d4 d6 d9 (fun x hx1 => (hout x hx1).elim)
    (by simp only [List.length_cons, List.length_nil]; omega) (by simp only [List.length_cons, List.length_nil]; omega) (by rw [Nat.zero_add]; exact hR.2.2.1) (by rw [Nat.zero_add]; exact hR.2.2.2) hlocks (fun t _ h1 h2 => hxc t ⟨h1, fun q hq _ => h2 q hq⟩) (fun z hz => nomatch hz) (Nat.le_refl _) (Nat.le_refl _)
/-! ends of the methods of the face -/
theorem mw_xretI {D : va_G} {ex : Nat} {W1 : va_W} {v v' : Int} (hx : p.tables.exec = Jvm.exec) (hb : c.code = cc) (hr : meth.sig.returnType = some .int) (hlocks : meth.locks = false) (hdg : decode cc pc = .ok (.ireturn, 1)) (hex : ex = 0) (hP : va_P D vwCl W1 H) (hS : va_S A s.heap H locs) (hv : v = v') : W p l e R s m args below meth c H locs 0 0 (vx_MQ below (mXQ D ex (some (.int (mI v'))) W1 A) XC args s 1 6 A) (F0 m pc ls [.int (mI v)]) := by
  subst hv
  exact W.widen (Nat.zero_le _) (Nat.zero_le _) (vx_ret (W.iret hx hb hr (fun t ht _ => ⟨hex, rfl, by rw [ht]; exact hP, hS.F ht⟩) hS.2.2 hdg hlocks))
theorem mw_xretL {D : va_G} {ex : Nat} {W1 : va_W} {v v' : Int} (hx : p.tables.exec = Jvm.exec) (hb : c.code = cc) (hr : meth.sig.returnType = some .long) (hlocks : meth.locks = false) (hdg : decode cc pc = .ok (.lreturn, 1)) (hex : ex = 0) (hP : va_P D vwCl W1 H) (hS : va_S A s.heap H locs) (hv : v = v') : W p l e R s m args below meth c H locs 0 0 (vx_MQ below (mXQ D ex (some (.long (mL v'))) W1 A) XC args s 1 6 A) (F0 m pc ls [.long (mL v)]) := by
  subst hv
  exact W.widen (Nat.zero_le _) (Nat.zero_le _) (vx_ret (W.lret hx hb hr (fun t ht _ => ⟨hex, rfl, by rw [ht]; exact hP, hS.F ht⟩) hS.2.2 hdg hlocks))
theorem mw_xretZ {D : va_G} {ex : Nat} {W1 : va_W} {v : Int} {q : Prop} [Decidable q] (hx : p.tables.exec = Jvm.exec) (hb : c.code = cc) (hr : meth.sig.returnType = some .boolean) (hlocks : meth.locks = false) (hdg : decode cc pc = .ok (.ireturn, 1)) (hex : ex = 0) (hP : va_P D vwCl W1 H) (hS : va_S A s.heap H locs) (hv : v = mB q) : W p l e R s m args below meth c H locs 0 0 (vx_MQ below (mXQ D ex (some (.int (mI (mB q)))) W1 A) XC args s 1 6 A) (F0 m pc ls [.int (mI v)]) := by
  subst hv
  exact W.widen (Nat.zero_le _) (Nat.zero_le _) (vx_ret (W.zret hx hb hr mB_nar (fun t ht _ => ⟨hex, rfl, by rw [ht]; exact hP, hS.F ht⟩) hS.2.2 hdg hlocks))
theorem mw_xretV {D : va_G} {ex : Nat} {W1 : va_W} (hx : p.tables.exec = Jvm.exec) (hb : c.code = cc) (hr : meth.sig.returnType = none) (hlocks : meth.locks = false) (hdg : decode cc pc = .ok (.return_, 1)) (hex : ex = 0) (hP : va_P D vwCl W1 H) (hS : va_S A s.heap H locs) : W p l e R s m args below meth c H locs 0 0 (vx_MQ below (mXQ D ex none W1 A) XC args s 1 6 A) (F0 m pc ls []) :=
  W.widen (Nat.zero_le _) (Nat.zero_le _) (vx_ret (W.vret hx hb hr (fun t ht _ => ⟨hex, rfl, by rw [ht]; exact hP, hS.F ht⟩) hS.2.2 hdg hlocks))
end MWT
end
section
/-! what the calls answer, as numbers -/
def mXor (x y : Int) : Int := (mL x ^^^ mL y).toInt
theorem mXor_r (x y : Int) : mRL (mXor x y) := by
  have h1 := (mL x ^^^ mL y).le_toInt
  have h2 := (mL x ^^^ mL y).toInt_lt
  constructor <;> (show _; unfold mXor; omega)
theorem mXor_ge {x y : Int} (hx : mRL x) (hy : mRL y) (h0 : 0 < y) : 0 ≤ mXor x y ↔ 0 ≤ x := by
  have e1 : (mL x).toBitVec.msb = decide (x < 0) := by
    rw [BitVec.msb_eq_toInt]
    show decide ((mL x).toInt < 0) = _
    rw [mL_t hx]
  have e2 : (mL y).toBitVec.msb = false := by
    rw [BitVec.msb_eq_toInt]
    show decide ((mL y).toInt < 0) = _
    rw [mL_t hy]
    exact decide_eq_false (by omega)
  have e3 : (mL x ^^^ mL y).toBitVec.msb = decide (mXor x y < 0) := by
    rw [BitVec.msb_eq_toInt]
    rfl
  have e4 : (mL x ^^^ mL y).toBitVec.msb = decide (x < 0) := by
    rw [Int64.toBitVec_xor, BitVec.msb_xor, e1, e2, Bool.xor_false]
  rw [e3] at e4
  have := decide_eq_decide.mp e4
  omega
abbrev mR2 (z : Int) : Prop := -4611686018427387904 ≤ z ∧ z ≤ 4611686018427387904
section MWS
variable {p : Program} {l : Launch} {e : Env} {R : Room} {s : State} {m : MethodId} {args : Array Value} {below : List Frame} {meth : Method} {c : Code} {H : Heap} {locs : List Loc} {cells slots : Nat} {Q : State → Prop}
variable {cc : ByteArray} {pc : Nat} {ls : Array Slot} {rest : List Value}
theorem mw_lxor (hx : p.tables.exec = Jvm.exec) (hb : c.code = cc) {x y : Int} (hdg : decode cc pc = .ok (.lxor, 1)) (k : W p l e R s m args below meth c H locs cells slots Q (F0 m (pc + 1) ls (.long (mL (mXor x y)) :: rest))) : W p l e R s m args below meth c H locs cells slots Q (F0 m pc ls (.long (mL y) :: .long (mL x) :: rest)) := lv_lxor hx hb hdg (by rw [show mL x ^^^ mL y = mL (mXor x y) from (mL_self _).symm]; exact k)
end MWS
theorem m_mod_r {a b : Int} (hb : 0 < b) : 0 ≤ a % b ∧ a % b < b := ⟨Int.emod_nonneg a (by omega), Int.emod_lt_of_pos a hb⟩
/-- the state's bounds -/
def mOK (v : Nat → Int) (L P : Int → Int) : Prop := (0 ≤ v 0 ∧ v 0 ≤ 16) ∧ (∀ k : Int, 0 ≤ k → k < v 0 → 1 ≤ L k ∧ L k ≤ 60 ∧ 0 ≤ P k ∧ P k < L k) ∧ (1 ≤ v 2 ∧ v 2 ≤ 100 ∧ 2 * v 2 ≤ v 1 ∧ v 1 ≤ 100 * v 2 ∧ -1000 ≤ v 3 ∧ v 3 ≤ 1000) ∧ (100 ≤ v 4 ∧ v 4 ≤ 500 ∧ 1 ≤ v 7 ∧ v 7 ≤ 400 ∧ 0 ≤ v 5 ∧ v 5 ≤ v 7 ∧ 0 ≤ v 6 ∧ v 6 < v 7)
abbrev mDay (d : Int) : Prop := -1000000 ≤ d ∧ d ≤ 1000000
abbrev mYear (y : Int) : Prop := -10000 ≤ y ∧ y ≤ 10000
abbrev mMk (v : Nat → Int) (m : Int) : Prop := 0 ≤ m ∧ m < v 0
/-- days of the moon and of the year -/
def mMoon (v : Nat → Int) (d : Int) : Int := (d + v 3) * v 2
def mMonth (v : Nat → Int) (d : Int) : Int := mMoon v d / v 1
def mLunar (v : Nat → Int) (d : Int) : Int := (mMoon v d % v 1) / v 2
def mBeg (v : Nat → Int) (y : Int) : Int := v 4 * y + (v 5 * y + v 6) / v 7
def mYr (v : Nat → Int) (d : Int) : Int := (v 7 * (d + 1) - 1 - v 6) / (v 4 * v 7 + v 5)
abbrev mLeap (v : Nat → Int) (y : Int) : Prop := v 7 - v 5 ≤ (v 5 * y + v 6) % v 7
def mLen (v : Nat → Int) (y : Int) : Int := if mLeap v y then v 4 + 1 else v 4
def mCnt (L P : Int → Int) (m a b : Int) : Int := (b - P m) / L m - (a - 1 - P m) / L m
/-- the markets below k that are held on a day, as a mask -/
def mSet (L P : Int → Int) (d : Int) : Nat → Int
  | 0 => 0
  | k + 1 => mSet L P d k + (if d % L (k : Int) = P (k : Int) then 2 ^ k else 0)
theorem mSet_r (L P : Int → Int) (d : Int) : ∀ k : Nat, 0 ≤ mSet L P d k ∧ mSet L P d k < 2 ^ k
  | 0 => by simp [mSet]
  | k + 1 => by
    have h := mSet_r L P d k
    have e : (2 : Int) ^ (k + 1) = 2 ^ k * 2 := Int.pow_succ 2 k
    have e0 : (0 : Int) < 2 ^ k := Int.pow_pos (by omega)
    unfold mSet
    rw [e]
    split <;> omega
theorem m_bound (a b : Int) {A B : Int} (ha : -A ≤ a ∧ a ≤ A) (hb : -B ≤ b ∧ b ≤ B) : -(A * B) ≤ a * b ∧ a * b ≤ A * B := by
  have hA : 0 ≤ A := by omega
  have h1 : (a * b).natAbs ≤ (A * B).natAbs := by
    rw [Int.natAbs_mul, Int.natAbs_mul]
    exact Nat.mul_le_mul (by omega) (by omega)
  have h2 : 0 ≤ A * B := Int.mul_nonneg hA (by omega)
  omega
end
section
/-! bits of ints, as numbers -/
def mAnd (x y : Int) : Int := (mI x &&& mI y).toInt
def mOr (x y : Int) : Int := (mI x ||| mI y).toInt
def mShl (x y : Int) : Int := (mI x <<< (mI y &&& 31)).toInt
def mShr (x y : Int) : Int := (mI x >>> (mI y &&& 31)).toInt
def mUsh (x y : Int) : Int := ((mI x).toUInt32 >>> ((mI y).toUInt32 &&& Int32.toUInt32 31)).toInt32.toInt
theorem mAnd_r (x y : Int) : mRI (mAnd x y) := mI_rng _
theorem mOr_r (x y : Int) : mRI (mOr x y) := mI_rng _
theorem mShl_r (x y : Int) : mRI (mShl x y) := mI_rng _
theorem mShr_r (x y : Int) : mRI (mShr x y) := mI_rng _
theorem mUsh_r (x y : Int) : mRI (mUsh x y) := mI_rng _
section MWB
variable {p : Program} {l : Launch} {e : Env} {R : Room} {s : State} {m : MethodId} {args : Array Value} {below : List Frame} {meth : Method} {c : Code} {H : Heap} {locs : List Loc} {cells slots : Nat} {Q : State → Prop}
variable {cc : ByteArray} {pc : Nat} {ls : Array Slot} {rest : List Value}
theorem mw_iand (hx : p.tables.exec = Jvm.exec) (hb : c.code = cc) {x y : Int} (hdg : decode cc pc = .ok (.iand, 1)) (k : W p l e R s m args below meth c H locs cells slots Q (F0 m (pc + 1) ls (.int (mI (mAnd x y)) :: rest))) : W p l e R s m args below meth c H locs cells slots Q (F0 m pc ls (.int (mI y) :: .int (mI x) :: rest)) := lv_iand hx hb hdg (by rw [show mI x &&& mI y = mI (mAnd x y) from (mI_self _).symm]; exact k)
theorem mw_ior (hx : p.tables.exec = Jvm.exec) (hb : c.code = cc) {x y : Int} (hdg : decode cc pc = .ok (.ior, 1)) (k : W p l e R s m args below meth c H locs cells slots Q (F0 m (pc + 1) ls (.int (mI (mOr x y)) :: rest))) : W p l e R s m args below meth c H locs cells slots Q (F0 m pc ls (.int (mI y) :: .int (mI x) :: rest)) := lv_ior hx hb hdg (by rw [show mI x ||| mI y = mI (mOr x y) from (mI_self _).symm]; exact k)
theorem mw_ishl (hx : p.tables.exec = Jvm.exec) (hb : c.code = cc) {x y : Int} (hdg : decode cc pc = .ok (.ishl, 1)) (k : W p l e R s m args below meth c H locs cells slots Q (F0 m (pc + 1) ls (.int (mI (mShl x y)) :: rest))) : W p l e R s m args below meth c H locs cells slots Q (F0 m pc ls (.int (mI y) :: .int (mI x) :: rest)) := lv_ishl hx hb hdg (by rw [show mI x <<< (mI y &&& 31) = mI (mShl x y) from (mI_self _).symm]; exact k)
theorem mw_ishr (hx : p.tables.exec = Jvm.exec) (hb : c.code = cc) {x y : Int} (hdg : decode cc pc = .ok (.ishr, 1)) (k : W p l e R s m args below meth c H locs cells slots Q (F0 m (pc + 1) ls (.int (mI (mShr x y)) :: rest))) : W p l e R s m args below meth c H locs cells slots Q (F0 m pc ls (.int (mI y) :: .int (mI x) :: rest)) := lv_ishr hx hb hdg (by rw [show mI x >>> (mI y &&& 31) = mI (mShr x y) from (mI_self _).symm]; exact k)
theorem mw_iushr (hx : p.tables.exec = Jvm.exec) (hb : c.code = cc) {x y : Int} (hdg : decode cc pc = .ok (.iushr, 1)) (k : W p l e R s m args below meth c H locs cells slots Q (F0 m (pc + 1) ls (.int (mI (mUsh x y)) :: rest))) : W p l e R s m args below meth c H locs cells slots Q (F0 m pc ls (.int (mI y) :: .int (mI x) :: rest)) := lv_iushr hx hb hdg rfl (by rw [show ((mI x).toUInt32 >>> ((mI y).toUInt32 &&& Int32.toUInt32 31)).toInt32 = mI (mUsh x y) from (mI_self _).symm]; exact k)
theorem mw_ldcw (hx : p.tables.exec = Jvm.exec) (hb : c.code = cc) {own : String} {index : Nat} {v : Int32} (z : Int) (h : v = mI z) (hown : s.vm.findClass own = some m.cls) (hconst : (Jvm.Cond.constant own index v).before args s = true) (hdg : decode cc pc = .ok (.ldc_w index, 3)) (k : W p l e R s m args below meth c H locs cells slots Q (F0 m (pc + 3) ls (.int (mI z) :: rest))) : W p l e R s m args below meth c H locs cells slots Q (F0 m pc ls rest) := lv_ldcw hx hb hown hconst hdg (by rw [← h] at k; exact k)
theorem mw_namei {x : Int} (k : ∀ y : Int, y = x → W p l e R s m args below meth c H locs cells slots Q (F0 m pc ls (.int (mI y) :: rest))) : W p l e R s m args below meth c H locs cells slots Q (F0 m pc ls (.int (mI x) :: rest)) := k x rfl
theorem mw_namel {x : Int} (k : ∀ y : Int, y = x → W p l e R s m args below meth c H locs cells slots Q (F0 m pc ls (.long (mL y) :: rest))) : W p l e R s m args below meth c H locs cells slots Q (F0 m pc ls (.long (mL x) :: rest)) := k x rfl
theorem mw_split {b : Prop} [Decidable b] (kt : b → W p l e R s m args below meth c H locs cells slots Q (F0 m pc ls (.int (mI 1) :: rest))) (kf : ¬ b → W p l e R s m args below meth c H locs cells slots Q (F0 m pc ls (.int (mI 0) :: rest))) : W p l e R s m args below meth c H locs cells slots Q (F0 m pc ls (.int (mI (mB b)) :: rest)) := by
  by_cases h : b
  · rw [mB_t h]; exact kt h
  · rw [mB_f h]; exact kf h
/-- a loop: its state x, an invariant, a measure that falls -/
theorem mw_loop {T : Type} {nL : Nat} (I : T → Prop) (μ : T → Nat) (head : Nat) (lv : T → List (Nat × Value)) (step : ∀ x, I x → (∀ y, I y → μ y < μ x → ∀ ls, lv_has ls nL (lv y) → W p l e R s m args below meth c H locs cells slots Q (F0 m head ls [])) → ∀ ls, lv_has ls nL (lv x) → W p l e R s m args below meth c H locs cells slots Q (F0 m head ls [])) (x0 : T) (h0 : I x0) (ls : Array Slot) (hl : lv_has ls nL (lv x0)) : W p l e R s m args below meth c H locs cells slots Q (F0 m head ls []) := by
  have key : ∀ (n : Nat) (x : T), μ x < n → I x → ∀ ls, lv_has ls nL (lv x) → W p l e R s m args below meth c H locs cells slots Q (F0 m head ls []) := by
    intro n
    induction n with
    | zero => intro x h; exact absurd h (Nat.not_lt_zero _)
    | succ n ih => intro x hx hI ls hl; exact step x hI (fun y hy hlt ls hl => ih y (by omega) hy ls hl) ls hl
  exact key (μ x0 + 1) x0 (Nat.lt_succ_self _) h0 ls hl
/-- .. that writes: with it goes what holds of the heap -/
theorem mw_loopM {T : Type} {nL : Nat} (I : T → Prop) (μ : T → Nat) (head : Nat) (lv : T → List (Nat × Value)) (Pw : T → Heap → List Loc → Prop) (step : ∀ x, I x → (∀ y, I y → μ y < μ x → ∀ H locs, Pw y H locs → ∀ ls, lv_has ls nL (lv y) → W p l e R s m args below meth c H locs cells slots Q (F0 m head ls [])) → ∀ H locs, Pw x H locs → ∀ ls, lv_has ls nL (lv x) → W p l e R s m args below meth c H locs cells slots Q (F0 m head ls [])) (x0 : T) (h0 : I x0) (hP0 : Pw x0 H locs) (ls : Array Slot) (hl : lv_has ls nL (lv x0)) : W p l e R s m args below meth c H locs cells slots Q (F0 m head ls []) := by
  have key : ∀ (n : Nat) (x : T), μ x < n → I x → ∀ H locs, Pw x H locs → ∀ ls, lv_has ls nL (lv x) → W p l e R s m args below meth c H locs cells slots Q (F0 m head ls []) := by
    intro n
    induction n with
    | zero => intro x h; exact absurd h (Nat.not_lt_zero _)
    | succ n ih => intro x hx hI H locs hP ls hl; exact step x hI (fun y hy hlt H locs hP ls hl => ih y (by omega) hy H locs hP ls hl) H locs hP ls hl
  exact key (μ x0 + 1) x0 (Nat.lt_succ_self _) h0 H locs hP0 ls hl
end MWB
/-! one bit -/
def mBit (z : Int) (k : Nat) : Int := (z % 4294967296) / 2 ^ k % 2
theorem mBit_r (z : Int) (k : Nat) : 0 ≤ mBit z k ∧ mBit z k ≤ 1 := by
  unfold mBit
  omega
theorem mBit_0 {z : Int} {k : Nat} (h : ¬ mBit z k = 1) : mBit z k = 0 := by
  have := mBit_r z k
  omega
theorem mI_toNat (z : Int) : ((mI z).toBitVec.toNat : Int) = z % 4294967296 := by
  have h : (mI z).toBitVec = BitVec.ofInt 32 z := rfl
  rw [h, BitVec.toNat_ofInt]
  have : (0 : Int) ≤ z % ((2 ^ 32 : Nat) : Int) := Int.emod_nonneg _ (by decide)
  have e : ((2 ^ 32 : Nat) : Int) = 4294967296 := by decide
  rw [e] at this ⊢
  omega
theorem nI_mI (n : Nat) : nI n = mI (n : Int) := (Int32.ofInt_eq_ofNat (n := n)).symm
theorem mI_31 (k : Nat) : k < 32 → ((mI (k : Int) &&& 31).toBitVec.smod 32).toNat = k := by
  have h : ∀ k : Nat, k < 32 → ((mI (k : Int) &&& 31).toBitVec.smod 32).toNat = k := by decide +kernel
  exact h k
theorem mI_31u (k : Nat) : k < 32 → (((mI (k : Int)).toUInt32 &&& Int32.toUInt32 31).toBitVec % 32).toNat = k := by
  have h : ∀ k : Nat, k < 32 → (((mI (k : Int)).toUInt32 &&& Int32.toUInt32 31).toBitVec % 32).toNat = k := by decide +kernel
  exact h k
theorem mAnd_1 (x : Int) : mAnd x 1 = x % 2 := by
  have h := pk_and (mI x) (m := mI 1) 1 (by decide +kernel)
  unfold mAnd
  rw [h, nI_mI]
  have e := mI_toNat x
  have e2 : (((mI x).toBitVec.toNat % 2 ^ 1 : Nat) : Int) = x % 2 := by
    have : ((2 ^ 1 : Nat) : Int) = 2 := by decide
    rw [Int.natCast_emod, e, this]
    omega
  rw [e2, mI_t (by omega)]
theorem mShr_e {z : Int} (hz : mRI z) (k : Nat) (hk : k < 32) : mShr z (k : Int) = z / 2 ^ k := by
  unfold mShr
  have e1 : ((2 : Int) ^ k) = ((2 ^ k : Nat) : Int) := by norm_cast
  rw [pk_shr (mI z) (mI (k : Int) &&& 31) k (mI_31 k hk), mI_t hz, Int.shiftRight_eq_div_pow, e1]
theorem mUsh_e (z : Int) (k : Nat) (hk : k < 32) : (mUsh z (k : Int)) % 4294967296 = (z % 4294967296) / 2 ^ k := by
  have h := pk_ushr (mI z) (mI (k : Int)) k (mI_31u k hk)
  have e := mI_toNat z
  have e1 := mI_toNat (mUsh z (k : Int))
  have e2 : mI (mUsh z (k : Int)) = ((mI z).toUInt32 >>> ((mI (k : Int)).toUInt32 &&& Int32.toUInt32 31)).toInt32 := mI_self _
  rw [e2, h] at e1
  have e3 : ((2 : Int) ^ k) = ((2 ^ k : Nat) : Int) := by norm_cast
  rw [← e1, Int.natCast_ediv, e, e3]
theorem m_pow (k : Nat) : (0 : Int) < 2 ^ k := Int.pow_pos (by omega)
theorem mBit_ush (z : Int) (k : Nat) (hk : k < 32) : mAnd (mUsh z (k : Int)) 1 = mBit z k := by
  rw [mAnd_1]
  have h := mUsh_e z k hk
  unfold mBit
  rw [← h]
  omega
theorem mBit_shr {z : Int} (hz : mRI z) (k : Nat) (hk : k < 32) : mAnd (mShr z (k : Int)) 1 = mBit z k := by
  rw [mAnd_1, mShr_e hz k hk]
  unfold mBit
  rcases (by omega : 0 ≤ z ∨ z < 0) with h | h
  · rw [Int.emod_eq_of_lt h (by have := hz.2; omega)]
  · have e : z % 4294967296 = z + 4294967296 := by have := hz.1; omega
    have e2 : (4294967296 : Int) = 2 ^ k * (2 * 2 ^ (31 - k)) := by
      have : (4294967296 : Int) = 2 ^ (k + ((31 - k) + 1)) := by
        have : k + ((31 - k) + 1) = 32 := by omega
        rw [this]; decide
      rw [this, Int.pow_add, Int.pow_succ, Int.mul_comm (2 ^ (31 - k)) 2]
    rw [e, e2, Int.add_mul_ediv_left _ _ (by have := m_pow k; omega)]
    omega
/-- how many bits below k are set -/
def mPop (z : Int) : Nat → Int
  | 0 => 0
  | k + 1 => mPop z k + mBit z k
theorem mPop_r (z : Int) : ∀ k : Nat, 0 ≤ mPop z k ∧ mPop z k ≤ k
  | 0 => by simp [mPop]
  | k + 1 => by
    have h := mPop_r z k
    have h2 := mBit_r z k
    unfold mPop
    omega
theorem mPop_mono (z : Int) (j : Nat) : ∀ n : Nat, mPop z j ≤ mPop z (j + n)
  | 0 => Int.le_refl _
  | n + 1 => by
    have h := mPop_mono z j n
    have h2 := mBit_r z (j + n)
    show mPop z j ≤ mPop z (j + n) + mBit z (j + n)
    omega
/-- a bit put in, above all that are there -/
theorem mShl_e (k : Nat) (hk : k < 31) : mShl 1 (k : Int) = 2 ^ k := by
  have h : ∀ k : Nat, k < 31 → mShl 1 (k : Int) = 2 ^ k := by decide +kernel
  exact h k hk
theorem mOr_e {a : Int} {k : Nat} (h0 : 0 ≤ a) (h : a < 2 ^ k) (hk : k < 16) : mOr a (2 ^ k) = a + 2 ^ k := by
  obtain ⟨n, rfl⟩ := Int.eq_ofNat_of_zero_le h0
  have hn : n < 2 ^ k := by exact_mod_cast h
  have h16 : 2 ^ k < 2 ^ 16 := Nat.pow_lt_pow_right (by decide) hk
  have e : mI (n : Int) ||| mI ((2 : Int) ^ k) = mI ((n : Int) + 2 ^ k) := by
    have e1 : ((2 : Int) ^ k) = ((2 ^ k : Nat) : Int) := by norm_cast
    rw [e1, ← nI_mI, ← nI_mI, ← Int.natCast_add, ← nI_mI]
    apply Int32.toBitVec_inj.1
    show BitVec.ofNat 32 n ||| BitVec.ofNat 32 (2 ^ k) = BitVec.ofNat 32 (n + 2 ^ k)
    have e3 : n + 2 ^ k = n ||| 2 ^ k := by
      have := Nat.two_pow_add_eq_or_of_lt hn 1
      rw [Nat.mul_one] at this
      rw [Nat.add_comm, this, Nat.or_comm]
    rw [e3]
    apply BitVec.eq_of_getLsbD_eq
    intro i hi
    simp [hi]
  unfold mOr
  rw [e, mI_t]
  have e1 : ((2 : Int) ^ k) = ((2 ^ k : Nat) : Int) := by norm_cast
  rw [e1]
  omega
theorem mOr_0 {a : Int} (h : mRI a) : mOr a 0 = a := by
  unfold mOr
  rw [mI_0]
  have : mI a ||| 0 = mI a := by simp
  rw [this, mI_t h]
end
section
/-! the first number below n with a property, or n -/
def mFst (p : Nat → Bool) : Nat → Nat
  | 0 => 0
  | n + 1 => if mFst p n < n then mFst p n else if p n then n else n + 1
theorem mFst_le (p : Nat → Bool) : ∀ n, mFst p n ≤ n
  | 0 => Nat.le_refl 0
  | n + 1 => by
    have ih := mFst_le p n
    unfold mFst
    split
    · omega
    · split <;> omega
theorem mFst_no (p : Nat → Bool) : ∀ n k, k < mFst p n → p k = false
  | 0, k, h => absurd h (Nat.not_lt_zero k)
  | n + 1, k, h => by
    have ih := mFst_no p n k
    have hle := mFst_le p n
    unfold mFst at h
    by_cases c : mFst p n < n
    · rw [if_pos c] at h; exact ih h
    · rw [if_neg c] at h
      by_cases c2 : p n = true
      · rw [if_pos c2] at h; exact ih (by omega)
      · rw [if_neg c2] at h
        rcases (by omega : k < n ∨ k = n) with q | q
        · exact ih (by omega)
        · rw [q]; exact Bool.eq_false_iff.mpr c2
theorem mFst_yes (p : Nat → Bool) : ∀ n, mFst p n < n → p (mFst p n) = true
  | 0, h => absurd h (Nat.not_lt_zero _)
  | n + 1, h => by
    have ih := mFst_yes p n
    unfold mFst at h ⊢
    by_cases c : mFst p n < n
    · rw [if_pos c]; exact ih c
    · rw [if_neg c] at h ⊢
      by_cases c2 : p n = true
      · rw [if_pos c2]; exact c2
      · rw [if_neg c2] at h; omega
theorem mFst_eq (p : Nat → Bool) {n k : Nat} (h1 : k ≤ n) (h2 : ∀ j, j < k → p j = false) (h3 : k < n → p k = true) : mFst p n = k := by
  have a := mFst_le p n
  rcases (by omega : mFst p n < k ∨ mFst p n = k ∨ k < mFst p n) with q | q | q
  · have h4 := h2 _ q
    rw [mFst_yes p n (by omega)] at h4
    cases h4
  · exact q
  · have h4 := mFst_no p n k q
    rw [h3 (by omega)] at h4
    cases h4
/-- after how many steps of st from d on a market of length L and place P is held -/
def mJ (L P st d : Int) : Nat := mFst (fun j => decide ((d + (j : Int) * st) % L = P)) L.toNat
/-- the least factor that makes st a multiple of L -/
def mFac (st L : Int) : Nat := mFst (fun f => decide ((st * ((f : Int) + 1)) % L = 0)) (L.toNat - 1) + 1
theorem m_mod_iff {x L P : Int} (hL : 0 < L) (h0 : 0 ≤ P) (h1 : P < L) : x % L = P ↔ L ∣ x - P := by
  constructor
  · intro h
    exact ⟨x / L, by have := Int.mul_ediv_add_emod x L; omega⟩
  · rintro ⟨q, hq⟩
    have : x = P + L * q := by omega
    rw [this, Int.add_mul_emod_self_left]
    exact Int.emod_eq_of_lt h0 h1
theorem m_fac {st L : Int} (hL : 1 ≤ L) : 1 ≤ mFac st L ∧ (mFac st L : Int) ≤ L ∧ L ∣ st * (mFac st L : Int) ∧ ∀ q : Int, L ∣ st * q → (mFac st L : Int) ∣ q := by
  have hle := mFst_le (fun f => decide ((st * ((f : Int) + 1)) % L = 0)) (L.toNat - 1)
  have hno := mFst_no (fun f => decide ((st * ((f : Int) + 1)) % L = 0)) (L.toNat - 1)
  have hyes := mFst_yes (fun f => decide ((st * ((f : Int) + 1)) % L = 0)) (L.toNat - 1)
  obtain ⟨g, hg⟩ : ∃ g, g = mFst (fun f => decide ((st * ((f : Int) + 1)) % L = 0)) (L.toNat - 1) := ⟨_, rfl⟩
  have ef : mFac st L = g + 1 := by rw [hg]; rfl
  rw [← hg] at hle hno hyes
  rw [ef]
  have e1 : ((g + 1 : Nat) : Int) = (g : Int) + 1 := by omega
  have hdvd : L ∣ st * ((g : Int) + 1) := by
    by_cases c : g < L.toNat - 1
    · exact Int.dvd_of_emod_eq_zero (of_decide_eq_true (hyes c))
    · have : (g : Int) + 1 = L := by omega
      rw [this]
      exact Int.dvd_mul_left _ _
  refine ⟨by omega, by omega, by rw [e1]; exact hdvd, fun q hq => ?_⟩
  rw [e1]
  have hr0 : 0 ≤ q % ((g : Int) + 1) := Int.emod_nonneg _ (by omega)
  have hr1 : q % ((g : Int) + 1) < (g : Int) + 1 := Int.emod_lt_of_pos _ (by omega)
  have hq2 := Int.mul_ediv_add_emod q ((g : Int) + 1)
  obtain ⟨r, hr⟩ : ∃ r : Int, r = q % ((g : Int) + 1) := ⟨_, rfl⟩
  rw [← hr] at hr0 hr1 hq2
  have hLr : L ∣ st * r := by
    have e : st * r = st * q - st * ((g : Int) + 1) * (q / ((g : Int) + 1)) := by
      rw [Int.mul_assoc, ← Int.mul_sub]
      congr 1
      omega
    rw [e]
    exact Int.dvd_sub hq (Int.dvd_mul_of_dvd_left hdvd)
  rcases (by omega : r = 0 ∨ 0 < r) with h | h
  · exact Int.dvd_of_emod_eq_zero (by rw [← hr]; exact h)
  · have h5 := hno (r - 1).toNat (by omega)
    have h6 : (((r - 1).toNat : Int) + 1) = r := by omega
    rw [h6] at h5
    exact absurd (Int.emod_eq_zero_of_dvd hLr) (of_decide_eq_false h5)
theorem m_j {st L P d : Int} (hs : 1 ≤ st) (hL : 1 ≤ L) (h0 : 0 ≤ P) (h1 : P < L) : ((mJ L P st d : Int) < L → (d + (mJ L P st d : Int) * st) % L = P ∧ mJ L P st d < mFac st L) ∧ (¬ (mJ L P st d : Int) < L → ∀ x : Int, st ∣ x - d → ¬ x % L = P) := by
  have hle := mFst_le (fun j => decide ((d + (j : Int) * st) % L = P)) L.toNat
  have hno := mFst_no (fun j => decide ((d + (j : Int) * st) % L = P)) L.toNat
  have hyes := mFst_yes (fun j => decide ((d + (j : Int) * st) % L = P)) L.toNat
  have ej : mJ L P st d = mFst (fun j => decide ((d + (j : Int) * st) % L = P)) L.toNat := rfl
  rw [← ej] at hle hno hyes
  obtain ⟨f1, f2, f3, f4⟩ := m_fac (st := st) hL
  constructor
  · intro hj
    have hy : (d + (mJ L P st d : Int) * st) % L = P := of_decide_eq_true (hyes (by omega))
    refine ⟨hy, ?_⟩
    rcases (by omega : mJ L P st d < mFac st L ∨ mFac st L ≤ mJ L P st d) with q | q
    · exact q
    · exfalso
      have h5 := of_decide_eq_false (hno (mJ L P st d - mFac st L) (by omega))
      apply h5
      rw [m_mod_iff (by omega) h0 h1] at hy ⊢
      have e : d + ((mJ L P st d - mFac st L : Nat) : Int) * st - P = (d + (mJ L P st d : Int) * st - P) - st * (mFac st L : Int) := by
        have e1 : ((mJ L P st d - mFac st L : Nat) : Int) = (mJ L P st d : Int) - (mFac st L : Int) := by omega
        rw [e1, Int.sub_mul, Int.mul_comm st]
        omega
      rw [e]
      exact Int.dvd_sub hy f3
  · intro hj x ⟨q, hq⟩ hx
    have hr0 : 0 ≤ q % L := Int.emod_nonneg _ (by omega)
    have hr1 : q % L < L := Int.emod_lt_of_pos _ (by omega)
    have hq2 := Int.mul_ediv_add_emod q L
    have h5 := of_decide_eq_false (hno (q % L).toNat (by omega))
    have h6 : (((q % L).toNat : Nat) : Int) = q % L := by omega
    rw [h6] at h5
    apply h5
    rw [m_mod_iff (by omega) h0 h1] at hx ⊢
    have e : d + q % L * st - P = (x - P) - L * (st * (q / L)) := by
      have e1 : st * q = q % L * st + L * (st * (q / L)) := by
        have : q = L * (q / L) + q % L := by omega
        conv => lhs; rw [this]
        rw [Int.mul_add, Int.mul_comm st (q % L), ← Int.mul_assoc st L, Int.mul_comm st L, Int.mul_assoc]
        omega
      omega
    rw [e]
    exact Int.dvd_sub hx (Int.dvd_mul_right _ _)
/-- from the markets below k that are in the set: a day on which all are held, from d0 on the first, and the step to the next; none if they never meet -/
def mFd (L P : Int → Int) (z d0 : Int) : Nat → Option (Int × Int)
  | 0 => some (d0, 1)
  | k + 1 => match mFd L P z d0 k with
    | none => none
    | some (d, st) => if mBit z k = 1 then (if (mJ (L (k : Int)) (P (k : Int)) st d : Int) < L (k : Int) then some (d + (mJ (L (k : Int)) (P (k : Int)) st d : Int) * st, st * (mFac st (L (k : Int)) : Int)) else none) else some (d, st)
/-- all of the set below k are held on x -/
def mAll (L P : Int → Int) (z : Int) (k : Nat) (x : Int) : Prop := ∀ i : Nat, i < k → mBit z i = 1 → x % L (i : Int) = P (i : Int)
theorem mAll_s {L P : Int → Int} {z : Int} {k : Nat} {x : Int} : mAll L P z (k + 1) x ↔ mAll L P z k x ∧ (mBit z k = 1 → x % L (k : Int) = P (k : Int)) := by
  constructor
  · intro h
    exact ⟨fun i hi => h i (by omega), fun hb => h k (by omega) hb⟩
  · intro h i hi hb
    rcases (by omega : i < k ∨ i = k) with q | q
    · exact h.1 i q hb
    · subst q; exact h.2 hb
def mLP (L P : Int → Int) (n : Int) : Prop := ∀ k : Int, 0 ≤ k → k < n → 1 ≤ L k ∧ L k ≤ 60 ∧ 0 ≤ P k ∧ P k < L k
def m60 : Nat → Int
  | 0 => 1
  | k + 1 => m60 k * 60
theorem m60_pos : ∀ k : Nat, 1 ≤ m60 k
  | 0 => by simp [m60]
  | k + 1 => by have := m60_pos k; unfold m60; omega
theorem m60_mono (j : Nat) : ∀ n : Nat, m60 j ≤ m60 (j + n)
  | 0 => Int.le_refl _
  | n + 1 => by
    have h := m60_mono j n
    have h2 := m60_pos (j + n)
    show m60 j ≤ m60 (j + n) * 60
    omega
theorem m_find {L P : Int → Int} {z d0 : Int} : ∀ k : Nat, mLP L P (k : Int) → (∀ d st, mFd L P z d0 k = some (d, st) → (1 ≤ st ∧ st ≤ m60 (mPop z k).toNat) ∧ (d0 ≤ d ∧ d < d0 + st) ∧ ∀ x, mAll L P z k x ↔ st ∣ x - d) ∧ (mFd L P z d0 k = none → ∀ x, ¬ mAll L P z k x)
  | 0, _ => by
    refine ⟨fun d st h => ?_, fun h => by cases h⟩
    cases h
    refine ⟨⟨by omega, m60_pos _⟩, ⟨by omega, by omega⟩, fun x => ⟨fun _ => Int.one_dvd _, fun _ i hi => absurd hi (Nat.not_lt_zero i)⟩⟩
  | k + 1, hLP => by
    have ih := m_find (L := L) (P := P) (z := z) (d0 := d0) k (fun i h1 h2 => hLP i h1 (by omega))
    obtain ⟨l1, l2, l3, l4⟩ := hLP (k : Int) (by omega) (by omega)
    cases hk : mFd L P z d0 k with
    | none =>
      have hn : mFd L P z d0 (k + 1) = none := by unfold mFd; rw [hk]
      refine ⟨fun d st h => (by rw [hn] at h; cases h), fun _ x hx => ih.2 hk x (mAll_s.mp hx).1⟩
    | some y =>
      obtain ⟨d, st⟩ := y
      obtain ⟨⟨s1, s2⟩, ⟨d1, d2⟩, hS⟩ := ih.1 d st hk
      have hp := mPop_r z k
      by_cases hb : mBit z k = 1
      · have hp2 : (mPop z (k + 1)).toNat = (mPop z k).toNat + 1 := by
          show (mPop z k + mBit z k).toNat = _
          omega
        have hj := m_j (st := st) (L := L (k : Int)) (P := P (k : Int)) (d := d) s1 l1 l3 l4
        obtain ⟨f1, f2, f3, f4⟩ := m_fac (st := st) l1
        by_cases hlt : (mJ (L (k : Int)) (P (k : Int)) st d : Int) < L (k : Int)
        · have he : mFd L P z d0 (k + 1) = some (d + (mJ (L (k : Int)) (P (k : Int)) st d : Int) * st, st * (mFac st (L (k : Int)) : Int)) := by
            unfold mFd; rw [hk]; simp only [hb, hlt, if_true]
          refine ⟨fun d' st' h => ?_, fun h => by rw [he] at h; cases h⟩
          rw [he] at h
          cases h
          obtain ⟨j1, j2⟩ := hj.1 hlt
          obtain ⟨j, ej⟩ : ∃ j : Int, j = (mJ (L (k : Int)) (P (k : Int)) st d : Int) := ⟨_, rfl⟩
          obtain ⟨f, ef⟩ : ∃ f : Int, f = (mFac st (L (k : Int)) : Int) := ⟨_, rfl⟩
          rw [← ej] at j1 ⊢
          rw [← ef] at f2 f3 f4 ⊢
          have j0 : 0 ≤ j := by omega
          have jf : j < f := by omega
          have f0 : 1 ≤ f := by omega
          have m1 : 1 * 1 ≤ st * f := Int.mul_le_mul s1 f0 (by omega) (by omega)
          have m2 : st * f ≤ m60 (mPop z k).toNat * 60 := Int.mul_le_mul s2 (by omega) (by omega) (by have := m60_pos (mPop z k).toNat; omega)
          have m3 : 0 ≤ j * st := Int.mul_nonneg j0 (by omega)
          have m4 : (j + 1) * st ≤ f * st := Int.mul_le_mul_of_nonneg_right (by omega) (by omega)
          rw [Int.add_mul, Int.one_mul, Int.mul_comm f st] at m4
          refine ⟨⟨by omega, by rw [hp2]; exact m2⟩, ⟨by omega, by omega⟩, fun x => ?_⟩
          rw [mAll_s, hS x]
          have key : ∀ q : Int, x - d = st * q → (x % L (k : Int) = P (k : Int) ↔ st * f ∣ x - (d + j * st)) := by
            intro q hq
            have e1 : x - (d + j * st) = st * (q - j) := by rw [Int.mul_sub, Int.mul_comm st j]; omega
            rw [m_mod_iff (by omega) l3 l4]
            rw [m_mod_iff (by omega) l3 l4] at j1
            constructor
            · intro h
              have h2 : L (k : Int) ∣ st * (q - j) := by
                have e2 : st * (q - j) = (x - P (k : Int)) - (d + j * st - P (k : Int)) := by omega
                rw [e2]
                exact Int.dvd_sub h j1
              rw [e1]
              exact Int.mul_dvd_mul_left st (f4 _ h2)
            · intro h
              have h2 : L (k : Int) ∣ x - (d + j * st) := Int.dvd_trans f3 h
              have e2 : x - P (k : Int) = (x - (d + j * st)) + (d + j * st - P (k : Int)) := by omega
              rw [e2]
              exact Int.dvd_add h2 j1
          constructor
          · rintro ⟨⟨q, hq⟩, h2⟩
            exact (key q hq).mp (h2 hb)
          · intro h
            have h2 : st ∣ x - d := by
              have e2 : x - d = (x - (d + j * st)) + st * j := by rw [Int.mul_comm st j]; omega
              rw [e2]
              exact Int.dvd_add (Int.dvd_trans (Int.dvd_mul_right _ _) h) (Int.dvd_mul_right _ _)
            obtain ⟨q, hq⟩ := h2
            exact ⟨⟨q, hq⟩, fun _ => (key q hq).mpr h⟩
        · have he : mFd L P z d0 (k + 1) = none := by
            unfold mFd; rw [hk]; simp only [hb, hlt, if_true, if_false]
          refine ⟨fun d' st' h => (by rw [he] at h; cases h), fun _ x hx => ?_⟩
          have h := mAll_s.mp hx
          exact hj.2 hlt x ((hS x).mp h.1) (h.2 hb)
      · have he : mFd L P z d0 (k + 1) = some (d, st) := by
          unfold mFd; rw [hk]; simp only [hb, if_false]
        have hp2 : (mPop z (k + 1)).toNat = (mPop z k).toNat := by
          show (mPop z k + mBit z k).toNat = _
          have := mBit_0 hb
          omega
        refine ⟨fun d' st' h => ?_, fun h => by rw [he] at h; cases h⟩
        rw [he] at h
        cases h
        refine ⟨⟨s1, by rw [hp2]; exact s2⟩, ⟨d1, d2⟩, fun x => ?_⟩
        rw [mAll_s, hS x]
        exact ⟨fun h => h.1, fun h => ⟨h, fun q => absurd q hb⟩⟩
/-- the step doesn't depend on the day -/
theorem m_same {L P : Int → Int} {z a b : Int} : ∀ (k : Nat) {d st d' st' : Int}, mFd L P z a k = some (d, st) → mFd L P z b k = some (d', st') → st = st'
  | 0, d, st, d', st', h1, h2 => by cases h1; cases h2; rfl
  | k + 1, d, st, d', st', h1, h2 => by
    unfold mFd at h1 h2
    cases e1 : mFd L P z a k with
    | none => rw [e1] at h1; cases h1
    | some y1 =>
      cases e2 : mFd L P z b k with
      | none => rw [e2] at h2; cases h2
      | some y2 =>
        obtain ⟨g1, g2⟩ := y1
        obtain ⟨g3, g4⟩ := y2
        have e := m_same k e1 e2
        subst e
        rw [e1] at h1
        rw [e2] at h2
        dsimp only at h1 h2
        by_cases hb : mBit z k = 1
        · rw [if_pos hb] at h1 h2
          split at h1
          · split at h2
            · cases h1; cases h2; rfl
            · cases h2
          · cases h1
        · rw [if_neg hb] at h1 h2
          cases h1; cases h2; rfl
theorem m_meet {L P : Int → Int} {z a b : Int} {n : Nat} (hLP : mLP L P (n : Int)) : (mFd L P z a n).isSome = (mFd L P z b n).isSome := by
  have h1 := m_find (L := L) (P := P) (z := z) (d0 := a) n hLP
  have h2 := m_find (L := L) (P := P) (z := z) (d0 := b) n hLP
  cases e1 : mFd L P z a n with
  | none =>
    cases e2 : mFd L P z b n with
    | none => rfl
    | some y =>
      exfalso
      exact h1.2 e1 y.1 (((h2.1 y.1 y.2 e2).2.2 y.1).mpr ⟨0, by omega⟩)
  | some y =>
    cases e2 : mFd L P z b n with
    | some y2 => rfl
    | none =>
      exfalso
      exact h2.2 e2 y.1 (((h1.1 y.1 y.2 e1).2.2 y.1).mpr ⟨0, by omega⟩)
/-- the first day from b on, out of the first day from a on -/
theorem m_first {L P : Int → Int} {z a b d st d' st' : Int} {n : Nat} (hLP : mLP L P (n : Int)) (h1 : mFd L P z a n = some (d, st)) (h2 : mFd L P z b n = some (d', st')) : st' = st ∧ d' = b + (d - b) % st := by
  have e := m_same n h1 h2
  subst e
  refine ⟨rfl, ?_⟩
  obtain ⟨⟨a1, -⟩, -, a3⟩ := (m_find (L := L) (P := P) (z := z) (d0 := a) n hLP).1 d st h1
  obtain ⟨-, ⟨b1, b2⟩, b3⟩ := (m_find (L := L) (P := P) (z := z) (d0 := b) n hLP).1 d' st h2
  have h : st ∣ d' - d := (a3 d').mp ((b3 d').mpr ⟨0, by omega⟩)
  have h5 : st ∣ (d - b) - (d' - b) := by
    obtain ⟨q, hq⟩ := h
    exact ⟨-q, by rw [Int.mul_neg]; omega⟩
  have h6 := (m_mod_iff (x := d - b) (L := st) (P := d' - b) (by omega) (by omega) (by omega)).mpr h5
  omega
end
section
/-! the bits of an int, counted as the JDK counts them -/
def mPn (N : Nat) : Nat → Nat
  | 0 => 0
  | k + 1 => mPn N k + N / 2 ^ k % 2
theorem mPn_8 (M b : Nat) (h : b < 256) : mPn (256 * M + b) 8 = mPn b 8 := by
  simp only [mPn]
  omega
theorem mPn_split (M b : Nat) (h : b < 256) : ∀ n : Nat, mPn (256 * M + b) (8 + n) = mPn b 8 + mPn M n
  | 0 => mPn_8 M b h
  | n + 1 => by
    have ih := mPn_split M b h n
    show mPn (256 * M + b) (8 + n) + (256 * M + b) / 2 ^ (8 + n) % 2 = mPn b 8 + (mPn M n + M / 2 ^ n % 2)
    rw [ih, Nat.pow_add, ← Nat.div_div_eq_div_mul]
    have e : (256 * M + b) / 2 ^ 8 = M := by omega
    rw [e]
    omega
theorem m_and8 (u w m n : Nat) (hw : w < 256) (hn : n < 256) : (256 * u + w) &&& (256 * m + n) = 256 * (u &&& m) + (w &&& n) := by
  have h1 : w &&& n < 2 ^ 8 := Nat.and_lt_two_pow w hn
  apply Nat.eq_of_testBit_eq
  intro i
  have e1 := Nat.testBit_two_pow_mul_add u (i := 8) (b := w) hw i
  have e2 := Nat.testBit_two_pow_mul_add m (i := 8) (b := n) hn i
  have e3 := Nat.testBit_two_pow_mul_add (u &&& m) (i := 8) (b := w &&& n) h1 i
  have p8 : (2 : Nat) ^ 8 = 256 := by decide
  rw [p8] at e1 e2 e3
  rw [Nat.testBit_and, e1, e2, e3]
  split
  · rw [Nat.testBit_and]
  · rw [Nat.testBit_and]
theorem m_and32 (b0 b1 b2 b3 m : Nat) (h0 : b0 < 256) (h1 : b1 < 256) (h2 : b2 < 256) (hm : m < 256) : (256 * (256 * (256 * b3 + b2) + b1) + b0) &&& (256 * (256 * (256 * m + m) + m) + m) = 256 * (256 * (256 * (b3 &&& m) + (b2 &&& m)) + (b1 &&& m)) + (b0 &&& m) := by
  rw [m_and8 _ _ _ _ h0 hm, m_and8 _ _ _ _ h1 hm, m_and8 _ _ _ _ h2 hm]
def mG1 (b : Nat) : Nat := b - ((b / 2) &&& 85)
def mG2 (a : Nat) : Nat := (a &&& 51) + ((a / 4) &&& 51)
theorem m_b1 : ∀ t, t < 2 → ∀ b, b < 256 → (128 * t + b / 2) &&& 85 = (b / 2) &&& 85 := by decide +kernel
theorem m_b1le : ∀ b, b < 256 → (b / 2) &&& 85 ≤ b := by decide +kernel
theorem m_b2 : ∀ t, t < 4 → ∀ a, a < 256 → (64 * t + a / 4) &&& 51 = (a / 4) &&& 51 := by decide +kernel
theorem m_b2le : ∀ a, a < 256 → mG2 a ≤ 102 := by decide +kernel
theorem m_b3 : ∀ b, b < 256 → mG2 (mG1 b) % 16 ≤ 4 ∧ mG2 (mG1 b) / 16 ≤ 4 := by decide +kernel
theorem m_b4 : ∀ t, t < 5 → ∀ b, b < 256 → (mG2 (mG1 b) + 16 * t + mG2 (mG1 b) / 16) &&& 15 = mPn b 8 := by decide +kernel
theorem m_b5 : ∀ b, b < 256 → mPn b 8 ≤ 8 := by decide +kernel
def mNt (x : Int) : Nat := (mI x).toBitVec.toNat
theorem mNt_z (x : Int) : (mNt x : Int) = x % 4294967296 := mI_toNat x
theorem mNt_lt (x : Int) : mNt x < 4294967296 := (mI x).toBitVec.isLt
theorem mNt_and (x y : Int) : mNt (mAnd x y) = mNt x &&& mNt y := by
  unfold mNt mAnd
  rw [mI_self]
  rfl
theorem mNt_ush (x : Int) (k : Nat) (hk : k < 32) : mNt (mUsh x (k : Int)) = mNt x / 2 ^ k := by
  unfold mNt
  have e2 : mI (mUsh x (k : Int)) = ((mI x).toUInt32 >>> ((mI (k : Int)).toUInt32 &&& Int32.toUInt32 31)).toInt32 := mI_self _
  rw [e2]
  exact pk_ushr (mI x) (mI (k : Int)) k (mI_31u k hk)
theorem mNt_add (x y : Int) : mNt (x + y) = (mNt x + mNt y) % 4294967296 := by
  have h1 := mNt_z x
  have h2 := mNt_z y
  have h3 := mNt_z (x + y)
  omega
theorem mNt_sub (x y : Int) : mNt (x - y) = (mNt x + 4294967296 - mNt y) % 4294967296 := by
  have h1 := mNt_z x
  have h2 := mNt_z y
  have h3 := mNt_z (x - y)
  have h4 := mNt_lt y
  omega
theorem mPop_n (z : Int) : ∀ k : Nat, mPop z k = (mPn (mNt z) k : Int)
  | 0 => rfl
  | k + 1 => by
    have ih := mPop_n z k
    show mPop z k + mBit z k = ((mPn (mNt z) k + mNt z / 2 ^ k % 2 : Nat) : Int)
    rw [ih]
    unfold mBit
    rw [← mNt_z]
    have e : ((mNt z / 2 ^ k % 2 : Nat) : Int) = (mNt z : Int) / 2 ^ k % 2 := by
      rw [Int.natCast_emod, Int.natCast_ediv]
      norm_cast
    rw [Int.natCast_add, e]
theorem m_last (a b c d : Nat) (ha : a ≤ 8) (hb : b ≤ 8) (hc : c ≤ 8) (hd : d ≤ 8) (y y1 y2 : Nat) (hy : y = 256 * (256 * (256 * d + c) + b) + a) (h1 : y1 = y + y / 256) (h2 : y2 = y1 + y1 / 65536) : y2 % 64 = a + b + c + d := by
  have e1 : y / 256 = 256 * (256 * d + c) + b := by omega
  have e2 : y1 = 65536 * (256 * d + (c + d)) + (256 * (b + c) + (a + b)) := by omega
  have e3 : y1 / 65536 = 256 * d + (c + d) := by omega
  have e4 : y2 = 64 * (1024 * (256 * d + (c + d)) + 4 * (b + c) + 4 * d) + (a + b + c + d) := by omega
  omega
theorem m_bitCount {z x1 x2 x3 x4 x5 : Int} (e1 : x1 = z - mAnd (mUsh z 1) 1431655765) (e2 : x2 = mAnd x1 858993459 + mAnd (mUsh x1 2) 858993459) (e3 : x3 = mAnd (x2 + mUsh x2 4) 252645135) (e4 : x4 = x3 + mUsh x3 8) (e5 : x5 = x4 + mUsh x4 16) : mAnd x5 63 = mPop z 32 := by
  have hN := mNt_lt z
  obtain ⟨N, eN⟩ : ∃ N, N = mNt z := ⟨_, rfl⟩
  rw [← eN] at hN
  obtain ⟨b0, hb0⟩ : ∃ b, b = N % 256 := ⟨_, rfl⟩
  obtain ⟨b1, hb1⟩ : ∃ b, b = N / 256 % 256 := ⟨_, rfl⟩
  obtain ⟨b2, hb2⟩ : ∃ b, b = N / 65536 % 256 := ⟨_, rfl⟩
  obtain ⟨b3, hb3⟩ : ∃ b, b = N / 16777216 := ⟨_, rfl⟩
  have l0 : b0 < 256 := by omega
  have l1 : b1 < 256 := by omega
  have l2 : b2 < 256 := by omega
  have l3 : b3 < 256 := by omega
  have eb : N = 256 * (256 * (256 * b3 + b2) + b1) + b0 := by omega
  clear hb0 hb1 hb2 hb3
  -- step 1
  have c1 : mNt (mAnd (mUsh z 1) 1431655765) = 256 * (256 * (256 * ((b3 / 2) &&& 85) + ((b2 / 2) &&& 85)) + ((b1 / 2) &&& 85)) + ((b0 / 2) &&& 85) := by
    rw [mNt_and, show (1 : Int) = ((1 : Nat) : Int) from rfl, mNt_ush z 1 (by decide), ← eN]
    have em : mNt 1431655765 = 256 * (256 * (256 * 85 + 85) + 85) + 85 := by decide +kernel
    have ed : N / 2 ^ 1 = 256 * (256 * (256 * (b3 / 2) + (128 * (b3 % 2) + b2 / 2)) + (128 * (b2 % 2) + b1 / 2)) + (128 * (b1 % 2) + b0 / 2) := by omega
    rw [em, ed, m_and32 _ _ _ _ _ (by omega) (by omega) (by omega) (by omega), m_b1 _ (by omega) _ l2, m_b1 _ (by omega) _ l1, m_b1 _ (by omega) _ l0]
  have x1e : mNt x1 = 256 * (256 * (256 * mG1 b3 + mG1 b2) + mG1 b1) + mG1 b0 := by
    rw [e1, mNt_sub, c1, ← eN]
    have q0 := m_b1le b0 l0
    have q1 := m_b1le b1 l1
    have q2 := m_b1le b2 l2
    have q3 := m_b1le b3 l3
    unfold mG1
    omega
  have g0 : mG1 b0 < 256 := by unfold mG1; omega
  have g1 : mG1 b1 < 256 := by unfold mG1; omega
  have g2 : mG1 b2 < 256 := by unfold mG1; omega
  have g3 : mG1 b3 < 256 := by unfold mG1; omega
  have em2 : mNt 858993459 = 256 * (256 * (256 * 51 + 51) + 51) + 51 := by decide +kernel
  have x2e : mNt x2 = 256 * (256 * (256 * mG2 (mG1 b3) + mG2 (mG1 b2)) + mG2 (mG1 b1)) + mG2 (mG1 b0) := by
    rw [e2, mNt_add, mNt_and, mNt_and, show (2 : Int) = ((2 : Nat) : Int) from rfl, mNt_ush x1 2 (by decide), em2, x1e]
    have ed : (256 * (256 * (256 * mG1 b3 + mG1 b2) + mG1 b1) + mG1 b0) / 2 ^ 2 = 256 * (256 * (256 * (mG1 b3 / 4) + (64 * (mG1 b3 % 4) + mG1 b2 / 4)) + (64 * (mG1 b2 % 4) + mG1 b1 / 4)) + (64 * (mG1 b1 % 4) + mG1 b0 / 4) := by omega
    rw [ed, m_and32 _ _ _ _ _ g0 g1 g2 (by omega), m_and32 _ _ _ _ _ (by omega) (by omega) (by omega) (by omega), m_b2 _ (by omega) _ g2, m_b2 _ (by omega) _ g1, m_b2 _ (by omega) _ g0]
    have q0 := m_b2le _ g0
    have q1 := m_b2le _ g1
    have q2 := m_b2le _ g2
    have q3 := m_b2le _ g3
    unfold mG2 at q0 q1 q2 q3 ⊢
    omega
  have n0 := m_b3 b0 l0
  have n1 := m_b3 b1 l1
  have n2 := m_b3 b2 l2
  have n3 := m_b3 b3 l3
  obtain ⟨f0, hf0⟩ : ∃ f, f = mG2 (mG1 b0) := ⟨_, rfl⟩
  obtain ⟨f1, hf1⟩ : ∃ f, f = mG2 (mG1 b1) := ⟨_, rfl⟩
  obtain ⟨f2, hf2⟩ : ∃ f, f = mG2 (mG1 b2) := ⟨_, rfl⟩
  obtain ⟨f3, hf3⟩ : ∃ f, f = mG2 (mG1 b3) := ⟨_, rfl⟩
  have k0 : ∀ t, t < 5 → (f0 + 16 * t + f0 / 16) &&& 15 = mPn b0 8 := fun t ht => by rw [hf0]; exact m_b4 t ht b0 l0
  have k1 : ∀ t, t < 5 → (f1 + 16 * t + f1 / 16) &&& 15 = mPn b1 8 := fun t ht => by rw [hf1]; exact m_b4 t ht b1 l1
  have k2 : ∀ t, t < 5 → (f2 + 16 * t + f2 / 16) &&& 15 = mPn b2 8 := fun t ht => by rw [hf2]; exact m_b4 t ht b2 l2
  have k3 : ∀ t, t < 5 → (f3 + 16 * t + f3 / 16) &&& 15 = mPn b3 8 := fun t ht => by rw [hf3]; exact m_b4 t ht b3 l3
  rw [← hf0] at n0
  rw [← hf1] at n1
  rw [← hf2] at n2
  rw [← hf3] at n3
  rw [← hf0, ← hf1, ← hf2, ← hf3] at x2e
  have x3e : mNt x3 = 256 * (256 * (256 * mPn b3 8 + mPn b2 8) + mPn b1 8) + mPn b0 8 := by
    have em3 : mNt 252645135 = 256 * (256 * (256 * 15 + 15) + 15) + 15 := by decide +kernel
    rw [e3, mNt_and, mNt_add, show (4 : Int) = ((4 : Nat) : Int) from rfl, mNt_ush x2 4 (by decide), em3, x2e]
    have ed : (256 * (256 * (256 * f3 + f2) + f1) + f0 + (256 * (256 * (256 * f3 + f2) + f1) + f0) / 2 ^ 4) % 4294967296 = 256 * (256 * (256 * (f3 + 16 * 0 + f3 / 16) + (f2 + 16 * (f3 % 16) + f2 / 16)) + (f1 + 16 * (f2 % 16) + f1 / 16)) + (f0 + 16 * (f1 % 16) + f0 / 16) := by omega
    rw [ed, m_and32 _ _ _ _ _ (by omega) (by omega) (by omega) (by omega), k3 0 (by omega), k2 _ (by omega), k1 _ (by omega), k0 _ (by omega)]
  have p0 := m_b5 b0 l0
  have p1 := m_b5 b1 l1
  have p2 := m_b5 b2 l2
  have p3 := m_b5 b3 l3
  have x4e : mNt x4 = mNt x3 + mNt x3 / 256 := by
    rw [e4, mNt_add, show (8 : Int) = ((8 : Nat) : Int) from rfl, mNt_ush x3 8 (by decide), x3e]
    omega
  have x5e : mNt x5 = mNt x4 + mNt x4 / 65536 := by
    rw [e5, mNt_add, show (16 : Int) = ((16 : Nat) : Int) from rfl, mNt_ush x4 16 (by decide), x4e, x3e]
    omega
  have r : mNt (mAnd x5 63) = mPn b0 8 + mPn b1 8 + mPn b2 8 + mPn b3 8 := by
    have em5 : mNt 63 = 2 ^ 6 - 1 := by decide +kernel
    rw [mNt_and, em5, Nat.and_two_pow_sub_one_eq_mod]
    exact m_last _ _ _ _ p0 p1 p2 p3 _ _ _ x3e x4e x5e
  have s : mPop z 32 = ((mPn b0 8 + mPn b1 8 + mPn b2 8 + mPn b3 8 : Nat) : Int) := by
    rw [mPop_n, ← eN, eb]
    have t1 := mPn_split (256 * (256 * b3 + b2) + b1) b0 l0 24
    have t2 := mPn_split (256 * b3 + b2) b1 l1 16
    have t3 := mPn_split b3 b2 l2 8
    rw [show (32 : Nat) = 8 + 24 from rfl, t1, show (24 : Nat) = 8 + 16 from rfl, t2, show (16 : Nat) = 8 + 8 from rfl, t3]
    omega
  have z1 := mNt_z (mAnd x5 63)
  have z2 := mAnd_r x5 63
  rw [r] at z1
  omega
end
section
set_option maxHeartbeats 4000000 in
set_option maxRecDepth 100000 in
theorem c_J9_floorDiv_f86c9 (l : Launch) (x y : Int) (h0 : 0 < y) (h1 : mR2 x) (h2 : mR2 y) : mP l yJ9_floorDiv_f86c9 wsJ9_floorDiv_f86c9 ({ frames := 0, cells := 0, slots := 0, locals := 0 }) [.long (mL (x)), .long (mL (y))] (fun _ => True) (some (.long (mL (x / y)))) := by
  refine mw_open (cc := cJ9_floorDiv_f86c9) (maxL := 6) (ret := (some .long)) (by decide +kernel) rfl (Nat.le_of_ble_eq_true rfl) ?_
  intro p e s m below meth c ls hC hr hlocks hB hl
  obtain ⟨hx, hb, hml, hown, hts⟩ := id hC
  have hl : lv_has ls 6 [(0, .long (mL (x))), (2, .long (mL (y)))] := hl
  have f1 := Int.mul_tdiv_add_tmod x y
  have f2 := m_tmod_r (a := x) h0
  have f3 := m_tdiv_r (a := x) h0
  have f4 := m_fdiv (a := x) h0
  have f5 := m_fmod (a := x) h0
  have f6 := mXor_ge (x := x) (y := y) (by omega) (by omega) h0
  have f7 : x.tdiv y * y = y * x.tdiv y := Int.mul_comm _ _
  have f8 := mXor_r x y
  have f9 := m_tmod_neg (a := x) h0
  refine lv_lload_n hx hb dJ9_floorDiv_f86c9_0 rfl (lv_at hl 0 rfl) ?_
  refine lv_lload_n hx hb dJ9_floorDiv_f86c9_1 rfl (lv_at hl 1 rfl) ?_
  refine mw_ldiv hx hb (by omega) (by omega) (by omega) dJ9_floorDiv_f86c9_2 ?_
  refine lv_lstore (lv' := [(4, .long (mL (x.tdiv y))), (0, .long (mL (x))), (2, .long (mL (y)))]) hx hb dJ9_floorDiv_f86c9_3 hl (by decide) rfl (fun ls hl => ?_)
  refine lv_lload_n hx hb dJ9_floorDiv_f86c9_5 rfl (lv_at hl 1 rfl) ?_
  refine lv_lload_n hx hb dJ9_floorDiv_f86c9_6 rfl (lv_at hl 2 rfl) ?_
  refine mw_lxor hx hb dJ9_floorDiv_f86c9_7 ?_
  refine mw_lconst hx hb 0 (by decide +kernel) dJ9_floorDiv_f86c9_8 ?_
  refine mw_lcmp_ge (tgt := 27) hx hb (by omega) (by omega) dJ9_floorDiv_f86c9_9 dJ9_floorDiv_f86c9_10 (by decide) (fun c_10 => ?_) (fun c_10 => ?_)
  · refine lv_lload hx hb dJ9_floorDiv_f86c9_27 (lv_at hl 0 rfl) ?_
    exact mw_retL hx hb hr hlocks dJ9_floorDiv_f86c9_29 (by rw [f4]; first | rw [if_pos ⟨by omega, by omega⟩] | rw [if_neg (by omega)])
  · refine lv_lload hx hb dJ9_floorDiv_f86c9_13 (lv_at hl 0 rfl) ?_
    refine lv_lload_n hx hb dJ9_floorDiv_f86c9_15 rfl (lv_at hl 2 rfl) ?_
    refine mw_lmul hx hb dJ9_floorDiv_f86c9_16 ?_
    refine lv_lload_n hx hb dJ9_floorDiv_f86c9_17 rfl (lv_at hl 1 rfl) ?_
    refine mw_lcmp_eq (tgt := 27) hx hb (by omega) (by omega) dJ9_floorDiv_f86c9_18 dJ9_floorDiv_f86c9_19 (by decide) (fun c_19 => ?_) (fun c_19 => ?_)
    · refine lv_lload hx hb dJ9_floorDiv_f86c9_27 (lv_at hl 0 rfl) ?_
      exact mw_retL hx hb hr hlocks dJ9_floorDiv_f86c9_29 (by rw [f4]; first | rw [if_pos ⟨by omega, by omega⟩] | rw [if_neg (by omega)])
    · refine lv_lload hx hb dJ9_floorDiv_f86c9_22 (lv_at hl 0 rfl) ?_
      refine mw_lconst hx hb 1 (by decide +kernel) dJ9_floorDiv_f86c9_24 ?_
      refine mw_lsub hx hb dJ9_floorDiv_f86c9_25 ?_
      exact mw_retL hx hb hr hlocks dJ9_floorDiv_f86c9_26 (by rw [f4]; first | rw [if_pos ⟨by omega, by omega⟩] | rw [if_neg (by omega)])

set_option maxHeartbeats 4000000 in
set_option maxRecDepth 100000 in
theorem c_J9_floorMod_f86c9 (l : Launch) (x y : Int) (h0 : 0 < y) (h1 : mR2 x) (h2 : mR2 y) : mP l yJ9_floorMod_f86c9 wsJ9_floorMod_f86c9 ({ frames := 0, cells := 0, slots := 0, locals := 0 }) [.long (mL (x)), .long (mL (y))] (fun _ => True) (some (.long (mL (x % y)))) := by
  refine mw_open (cc := cJ9_floorMod_f86c9) (maxL := 6) (ret := (some .long)) (by decide +kernel) rfl (Nat.le_of_ble_eq_true rfl) ?_
  intro p e s m below meth c ls hC hr hlocks hB hl
  obtain ⟨hx, hb, hml, hown, hts⟩ := id hC
  have hl : lv_has ls 6 [(0, .long (mL (x))), (2, .long (mL (y)))] := hl
  have f1 := Int.mul_tdiv_add_tmod x y
  have f2 := m_tmod_r (a := x) h0
  have f3 := m_tdiv_r (a := x) h0
  have f4 := m_fdiv (a := x) h0
  have f5 := m_fmod (a := x) h0
  have f6 := mXor_ge (x := x) (y := y) (by omega) (by omega) h0
  have f7 : x.tdiv y * y = y * x.tdiv y := Int.mul_comm _ _
  have f8 := mXor_r x y
  have f9 := m_tmod_neg (a := x) h0
  refine lv_lload_n hx hb dJ9_floorMod_f86c9_0 rfl (lv_at hl 0 rfl) ?_
  refine lv_lload_n hx hb dJ9_floorMod_f86c9_1 rfl (lv_at hl 1 rfl) ?_
  refine mw_lrem hx hb (by omega) (by omega) (by omega) dJ9_floorMod_f86c9_2 ?_
  refine lv_lstore (lv' := [(4, .long (mL (x.tmod y))), (0, .long (mL (x))), (2, .long (mL (y)))]) hx hb dJ9_floorMod_f86c9_3 hl (by decide) rfl (fun ls hl => ?_)
  refine lv_lload_n hx hb dJ9_floorMod_f86c9_5 rfl (lv_at hl 1 rfl) ?_
  refine lv_lload_n hx hb dJ9_floorMod_f86c9_6 rfl (lv_at hl 2 rfl) ?_
  refine mw_lxor hx hb dJ9_floorMod_f86c9_7 ?_
  refine mw_lconst hx hb 0 (by decide +kernel) dJ9_floorMod_f86c9_8 ?_
  refine mw_lcmp_ge (tgt := 25) hx hb (by omega) (by omega) dJ9_floorMod_f86c9_9 dJ9_floorMod_f86c9_10 (by decide) (fun c_10 => ?_) (fun c_10 => ?_)
  · refine lv_lload hx hb dJ9_floorMod_f86c9_25 (lv_at hl 0 rfl) ?_
    exact mw_retL hx hb hr hlocks dJ9_floorMod_f86c9_27 (by rw [f5]; first | rw [if_pos ⟨by omega, by omega⟩] | rw [if_neg (by omega)])
  · refine lv_lload hx hb dJ9_floorMod_f86c9_13 (lv_at hl 0 rfl) ?_
    refine mw_lconst hx hb 0 (by decide +kernel) dJ9_floorMod_f86c9_15 ?_
    refine mw_lcmp_eq (tgt := 25) hx hb (by omega) (by omega) dJ9_floorMod_f86c9_16 dJ9_floorMod_f86c9_17 (by decide) (fun c_17 => ?_) (fun c_17 => ?_)
    · refine lv_lload hx hb dJ9_floorMod_f86c9_25 (lv_at hl 0 rfl) ?_
      exact mw_retL hx hb hr hlocks dJ9_floorMod_f86c9_27 (by rw [f5]; first | rw [if_pos ⟨by omega, by omega⟩] | rw [if_neg (by omega)])
    · refine lv_lload hx hb dJ9_floorMod_f86c9_20 (lv_at hl 0 rfl) ?_
      refine lv_lload_n hx hb dJ9_floorMod_f86c9_22 rfl (lv_at hl 2 rfl) ?_
      refine mw_ladd hx hb dJ9_floorMod_f86c9_23 ?_
      exact mw_retL hx hb hr hlocks dJ9_floorMod_f86c9_24 (by rw [f5]; first | rw [if_pos ⟨by omega, by omega⟩] | rw [if_neg (by omega)])

set_option maxHeartbeats 4000000 in
set_option maxRecDepth 100000 in
theorem c_X0_divide (l : Launch) (x y : Int) (h0 : 0 < y) (h1 : mR2 x) (h2 : mR2 y) : mP l yX0_divide wsX0_divide ({ frames := 1, cells := 0, slots := 0, locals := 25 }) [.long (mL (x)), .long (mL (y))] (fun _ => True) (some (.long (mL (x / y)))) := by
  refine mw_open (cc := cX0_divide) (maxL := 4) (ret := (some .long)) (by decide +kernel) rfl (Nat.le_of_ble_eq_true rfl) ?_
  intro p e s m below meth c ls hC hr hlocks hB hl
  obtain ⟨hx, hb, hml, hown, hts⟩ := id hC
  have hl : lv_has ls 4 [(0, .long (mL (x))), (2, .long (mL (y)))] := hl
  refine lv_lload_n hx hb dX0_divide_0 rfl (lv_at hl 1 rfl) ?_
  refine mw_lconst hx hb 0 (by decide +kernel) dX0_divide_1 ?_
  refine mw_lcmp_le (tgt := 14) hx hb (by omega) (by omega) dX0_divide_2 dX0_divide_3 (by decide) (fun c_3 => absurd c_3 (by omega)) (fun c_3 => ?_)
  refine lv_lload_n hx hb dX0_divide_6 rfl (lv_at hl 0 rfl) ?_
  refine lv_lload_n hx hb dX0_divide_7 rfl (lv_at hl 1 rfl) ?_
  refine mw_cSl (rest := []) hC (c_J9_floorDiv_f86c9 l x y (by omega) (by omega) (by omega)) (va_cwS 2 hts gX0_divide_J9_floorDiv_f86c9 rfl rfl rfl (by decide +kernel) ⟨Nat.le_of_ble_eq_true rfl, Nat.le_of_ble_eq_true rfl⟩) rfl hl.1 rfl (Nat.le_of_ble_eq_true rfl) ⟨Nat.zero_le _, Nat.zero_le _⟩ dX0_divide_8 ?_
  refine lv_goto (tgt := 15) hx hb dX0_divide_11 (by decide) ?_
  exact mw_retL hx hb hr hlocks dX0_divide_15 (by first | rfl | exact (mB_t (by omega)).symm | exact (mB_f (by omega)).symm | exact mB_iff (by omega) | omega)

set_option maxHeartbeats 4000000 in
set_option maxRecDepth 100000 in
theorem c_X0_modulo (l : Launch) (x y : Int) (h0 : 0 < y) (h1 : mR2 x) (h2 : mR2 y) : mP l yX0_modulo wsX0_modulo ({ frames := 1, cells := 0, slots := 0, locals := 25 }) [.long (mL (x)), .long (mL (y))] (fun _ => True) (some (.long (mL (x % y)))) := by
  refine mw_open (cc := cX0_modulo) (maxL := 4) (ret := (some .long)) (by decide +kernel) rfl (Nat.le_of_ble_eq_true rfl) ?_
  intro p e s m below meth c ls hC hr hlocks hB hl
  obtain ⟨hx, hb, hml, hown, hts⟩ := id hC
  have hl : lv_has ls 4 [(0, .long (mL (x))), (2, .long (mL (y)))] := hl
  refine lv_lload_n hx hb dX0_modulo_0 rfl (lv_at hl 1 rfl) ?_
  refine mw_lconst hx hb 0 (by decide +kernel) dX0_modulo_1 ?_
  refine mw_lcmp_le (tgt := 14) hx hb (by omega) (by omega) dX0_modulo_2 dX0_modulo_3 (by decide) (fun c_3 => absurd c_3 (by omega)) (fun c_3 => ?_)
  refine lv_lload_n hx hb dX0_modulo_6 rfl (lv_at hl 0 rfl) ?_
  refine lv_lload_n hx hb dX0_modulo_7 rfl (lv_at hl 1 rfl) ?_
  refine mw_cSl (rest := []) hC (c_J9_floorMod_f86c9 l x y (by omega) (by omega) (by omega)) (va_cwS 2 hts gX0_modulo_J9_floorMod_f86c9 rfl rfl rfl (by decide +kernel) ⟨Nat.le_of_ble_eq_true rfl, Nat.le_of_ble_eq_true rfl⟩) rfl hl.1 rfl (Nat.le_of_ble_eq_true rfl) ⟨Nat.zero_le _, Nat.zero_le _⟩ dX0_modulo_8 ?_
  refine lv_goto (tgt := 15) hx hb dX0_modulo_11 (by decide) ?_
  exact mw_retL hx hb hr hlocks dX0_modulo_15 (by first | rfl | exact (mB_t (by omega)).symm | exact (mB_f (by omega)).symm | exact mB_iff (by omega) | omega)

set_option maxHeartbeats 4000000 in
set_option maxRecDepth 100000 in
theorem c_X0_isWithin (l : Launch) (a b c9 : Int) (h1 : mRI a) (h2 : mRI b) (h3 : mRI c9) : mP l yX0_isWithin wsX0_isWithin ({ frames := 0, cells := 0, slots := 0, locals := 0 }) [.int (mI (a)), .int (mI (b)), .int (mI (c9))] (fun _ => True) (some (.int (mI (mB (b ≤ a ∧ a ≤ c9))))) := by
  refine mw_open (cc := cX0_isWithin) (maxL := 3) (ret := (some .boolean)) (by decide +kernel) rfl (Nat.le_of_ble_eq_true rfl) ?_
  intro p e s m below meth c ls hC hr hlocks hB hl
  obtain ⟨hx, hb, hml, hown, hts⟩ := id hC
  have hl : lv_has ls 3 [(0, .int (mI (a))), (1, .int (mI (b))), (2, .int (mI (c9)))] := hl
  refine lv_iload_n hx hb dX0_isWithin_0 rfl (lv_at hl 0 rfl) ?_
  refine lv_iload_n hx hb dX0_isWithin_1 rfl (lv_at hl 1 rfl) ?_
  refine mw_icmp_lt (tgt := 14) hx hb (by omega) (by omega) dX0_isWithin_2 (by decide) (fun c_2 => ?_) (fun c_2 => ?_)
  · refine mw_iconst hx hb dX0_isWithin_14 ?_
    exact mw_retZ hx hb hr hlocks dX0_isWithin_15 (by first | rfl | exact (mB_t (by omega)).symm | exact (mB_f (by omega)).symm | exact mB_iff (by omega) | omega)
  · refine lv_iload_n hx hb dX0_isWithin_5 rfl (lv_at hl 0 rfl) ?_
    refine lv_iload_n hx hb dX0_isWithin_6 rfl (lv_at hl 2 rfl) ?_
    refine mw_icmp_gt (tgt := 14) hx hb (by omega) (by omega) dX0_isWithin_7 (by decide) (fun c_7 => ?_) (fun c_7 => ?_)
    · refine mw_iconst hx hb dX0_isWithin_14 ?_
      exact mw_retZ hx hb hr hlocks dX0_isWithin_15 (by first | rfl | exact (mB_t (by omega)).symm | exact (mB_f (by omega)).symm | exact mB_iff (by omega) | omega)
    · refine mw_iconst hx hb dX0_isWithin_10 ?_
      refine lv_goto (tgt := 15) hx hb dX0_isWithin_11 (by decide) ?_
      exact mw_retZ hx hb hr hlocks dX0_isWithin_15 (by first | rfl | exact (mB_t (by omega)).symm | exact (mB_f (by omega)).symm | exact mB_iff (by omega) | omega)

set_option maxHeartbeats 4000000 in
set_option maxRecDepth 100000 in
theorem c_X0_isPlace (l : Launch) (D : va_G) (h0 a1 a2 : Nat) (cA cJ : ClassId) (v : Nat → Int) (L P : Int → Int) (m9 : Int) (h1 : mRI m9) : mP l yX0_isPlace wsX0_isPlace ({ frames := 0, cells := 0, slots := 0, locals := 0 }) [.ref h0, .int (mI (m9))] (mwB D (mXW h0 a1 a2 cA v L P) (mTy cA cJ)) (some (.int (mI (mB (0 ≤ m9 ∧ m9 < 16))))) := by
  refine mw_open (cc := cX0_isPlace) (maxL := 2) (ret := (some .boolean)) (by decide +kernel) rfl (Nat.le_of_ble_eq_true rfl) ?_
  intro p e s m below meth c ls hC hr hlocks hB hl
  obtain ⟨hx, hb, hml, hown, hts⟩ := id hC
  obtain ⟨hP, hK⟩ := hB
  have hin : ∀ w ∈ wsX00, w ∈ wsX0_isPlace := by decide +kernel
  have hl : lv_has ls 2 [(0, .ref h0), (1, .int (mI (m9)))] := hl
  refine lv_iload_n hx hb dX0_isPlace_0 rfl (lv_at hl 1 rfl) ?_
  refine mw_if_lt (tgt := 26) hx hb (by omega) dX0_isPlace_1 (by decide) (fun c_1 => ?_) (fun c_1 => ?_)
  · refine mw_iconst hx hb dX0_isPlace_26 ?_
    exact mw_retZ hx hb hr hlocks dX0_isPlace_27 (by first | rfl | exact (mB_t (by omega)).symm | exact (mB_f (by omega)).symm | exact mB_iff (by omega) | omega)
  · refine lv_iload_n hx hb dX0_isPlace_4 rfl (lv_at hl 1 rfl) ?_
    refine lv_aload_n hx hb dX0_isPlace_5 rfl (lv_at hl 0 rfl) ?_
    refine mw_getX hx hb hts hin hown hK hP rfl 0 (by decide) (by decide +kernel) rfl rfl dX0_isPlace_6 ?_
    refine mw_alen hx hb hK hP 1 rfl rfl dX0_isPlace_9 ?_
    refine mw_icmp_ge (tgt := 26) hx hb (by omega) (by omega) dX0_isPlace_10 (by decide) (fun c_10 => ?_) (fun c_10 => ?_)
    · refine mw_iconst hx hb dX0_isPlace_26 ?_
      exact mw_retZ hx hb hr hlocks dX0_isPlace_27 (by first | rfl | exact (mB_t (by omega)).symm | exact (mB_f (by omega)).symm | exact mB_iff (by omega) | omega)
    · refine lv_iload_n hx hb dX0_isPlace_13 rfl (lv_at hl 1 rfl) ?_
      refine lv_aload_n hx hb dX0_isPlace_14 rfl (lv_at hl 0 rfl) ?_
      refine mw_getX hx hb hts hin hown hK hP rfl 1 (by decide) (by decide +kernel) rfl rfl dX0_isPlace_15 ?_
      refine mw_alen hx hb hK hP 2 rfl rfl dX0_isPlace_18 ?_
      refine mw_icmp_ge (tgt := 26) hx hb (by omega) (by omega) dX0_isPlace_19 (by decide) (fun c_19 => ?_) (fun c_19 => ?_)
      · refine mw_iconst hx hb dX0_isPlace_26 ?_
        exact mw_retZ hx hb hr hlocks dX0_isPlace_27 (by first | rfl | exact (mB_t (by omega)).symm | exact (mB_f (by omega)).symm | exact mB_iff (by omega) | omega)
      · refine mw_iconst hx hb dX0_isPlace_22 ?_
        refine lv_goto (tgt := 27) hx hb dX0_isPlace_23 (by decide) ?_
        exact mw_retZ hx hb hr hlocks dX0_isPlace_27 (by first | rfl | exact (mB_t (by omega)).symm | exact (mB_f (by omega)).symm | exact mB_iff (by omega) | omega)

set_option maxHeartbeats 4000000 in
set_option maxRecDepth 100000 in
theorem c_X0_lengthOf (l : Launch) (D : va_G) (h0 a1 a2 : Nat) (cA cJ : ClassId) (v : Nat → Int) (L P : Int → Int) (m9 : Int) (h1 : 0 ≤ m9 ∧ m9 < 16) : mP l yX0_lengthOf wsX0_lengthOf ({ frames := 1, cells := 0, slots := 0, locals := 21 }) [.ref h0, .int (mI (m9))] (mwB D (mXW h0 a1 a2 cA v L P) (mTy cA cJ)) (some (.int (mI (L m9)))) := by
  refine mw_open (cc := cX0_lengthOf) (maxL := 2) (ret := (some .int)) (by decide +kernel) rfl (Nat.le_of_ble_eq_true rfl) ?_
  intro p e s m below meth c ls hC hr hlocks hB hl
  obtain ⟨hx, hb, hml, hown, hts⟩ := id hC
  obtain ⟨hP, hK⟩ := hB
  have hin : ∀ w ∈ wsX00, w ∈ wsX0_lengthOf := by decide +kernel
  have hl : lv_has ls 2 [(0, .ref h0), (1, .int (mI (m9)))] := hl
  refine lv_aload_n hx hb dX0_lengthOf_0 rfl (lv_at hl 0 rfl) ?_
  refine lv_iload_n hx hb dX0_lengthOf_1 rfl (lv_at hl 1 rfl) ?_
  refine mw_cVi (rest := []) (q := (RX0, TX0, 10)) hC (c_X0_isPlace l D h0 a1 a2 cA cJ v L P m9 (by omega)) (cwV 1 hts gX0_lengthOf_X0_isPlace rfl rfl rfl (by decide +kernel) ⟨Nat.le_of_ble_eq_true rfl, Nat.le_of_ble_eq_true rfl⟩) hK hP rfl rfl rfl hl.1 rfl (Nat.le_of_ble_eq_true rfl) ⟨Nat.zero_le _, Nat.zero_le _⟩ dX0_lengthOf_2 ?_
  refine mw_zeq (tgt := 17) hx hb dX0_lengthOf_5 (by decide) (fun c_5 => absurd c_5 (by omega)) (fun c_5 => ?_)
  refine lv_aload_n hx hb dX0_lengthOf_8 rfl (lv_at hl 0 rfl) ?_
  refine mw_getX hx hb hts hin hown hK hP rfl 0 (by decide) (by decide +kernel) rfl rfl dX0_lengthOf_9 ?_
  refine lv_iload_n hx hb dX0_lengthOf_12 rfl (lv_at hl 1 rfl) ?_
  refine mw_iald hx hb hK hP 1 rfl rfl (by omega) dX0_lengthOf_13 ?_
  refine lv_goto (tgt := 18) hx hb dX0_lengthOf_14 (by decide) ?_
  exact mw_retI hx hb hr hlocks dX0_lengthOf_18 (by first | rfl | exact (mB_t (by omega)).symm | exact (mB_f (by omega)).symm | exact mB_iff (by omega) | omega)

set_option maxHeartbeats 4000000 in
set_option maxRecDepth 100000 in
theorem c_X0_placeOf (l : Launch) (D : va_G) (h0 a1 a2 : Nat) (cA cJ : ClassId) (v : Nat → Int) (L P : Int → Int) (m9 : Int) (h1 : 0 ≤ m9 ∧ m9 < 16) : mP l yX0_placeOf wsX0_placeOf ({ frames := 1, cells := 0, slots := 0, locals := 21 }) [.ref h0, .int (mI (m9))] (mwB D (mXW h0 a1 a2 cA v L P) (mTy cA cJ)) (some (.int (mI (P m9)))) := by
  refine mw_open (cc := cX0_placeOf) (maxL := 2) (ret := (some .int)) (by decide +kernel) rfl (Nat.le_of_ble_eq_true rfl) ?_
  intro p e s m below meth c ls hC hr hlocks hB hl
  obtain ⟨hx, hb, hml, hown, hts⟩ := id hC
  obtain ⟨hP, hK⟩ := hB
  have hin : ∀ w ∈ wsX00, w ∈ wsX0_placeOf := by decide +kernel
  have hl : lv_has ls 2 [(0, .ref h0), (1, .int (mI (m9)))] := hl
  refine lv_aload_n hx hb dX0_placeOf_0 rfl (lv_at hl 0 rfl) ?_
  refine lv_iload_n hx hb dX0_placeOf_1 rfl (lv_at hl 1 rfl) ?_
  refine mw_cVi (rest := []) (q := (RX0, TX0, 10)) hC (c_X0_isPlace l D h0 a1 a2 cA cJ v L P m9 (by omega)) (cwV 1 hts gX0_placeOf_X0_isPlace rfl rfl rfl (by decide +kernel) ⟨Nat.le_of_ble_eq_true rfl, Nat.le_of_ble_eq_true rfl⟩) hK hP rfl rfl rfl hl.1 rfl (Nat.le_of_ble_eq_true rfl) ⟨Nat.zero_le _, Nat.zero_le _⟩ dX0_placeOf_2 ?_
  refine mw_zeq (tgt := 17) hx hb dX0_placeOf_5 (by decide) (fun c_5 => absurd c_5 (by omega)) (fun c_5 => ?_)
  refine lv_aload_n hx hb dX0_placeOf_8 rfl (lv_at hl 0 rfl) ?_
  refine mw_getX hx hb hts hin hown hK hP rfl 1 (by decide) (by decide +kernel) rfl rfl dX0_placeOf_9 ?_
  refine lv_iload_n hx hb dX0_placeOf_12 rfl (lv_at hl 1 rfl) ?_
  refine mw_iald hx hb hK hP 2 rfl rfl (by omega) dX0_placeOf_13 ?_
  refine lv_goto (tgt := 18) hx hb dX0_placeOf_14 (by decide) ?_
  exact mw_retI hx hb hr hlocks dX0_placeOf_18 (by first | rfl | exact (mB_t (by omega)).symm | exact (mB_f (by omega)).symm | exact mB_iff (by omega) | omega)

set_option maxHeartbeats 4000000 in
set_option maxRecDepth 100000 in
theorem c_X0_checkArgument (l : Launch)  : mP l yX0_checkArgument wsX0_checkArgument ({ frames := 0, cells := 0, slots := 0, locals := 0 }) [.int (mI (1))] (fun _ => True) (none) := by
  refine mw_open (cc := cX0_checkArgument) (maxL := 1) (ret := none) (by decide +kernel) rfl (Nat.le_of_ble_eq_true rfl) ?_
  intro p e s m below meth c ls hC hr hlocks hB hl
  obtain ⟨hx, hb, hml, hown, hts⟩ := id hC
  have hl : lv_has ls 1 [(0, .int (mI (1)))] := hl
  refine lv_iload_n hx hb dX0_checkArgument_0 rfl (lv_at hl 0 rfl) ?_
  refine mw_if_ne (tgt := 14) hx hb (by omega) dX0_checkArgument_1 (by decide) (fun _ => ?_) (fun c => absurd c (by decide))
  exact mw_retV hx hb hr hlocks dX0_checkArgument_14

set_option maxHeartbeats 4000000 in
set_option maxRecDepth 100000 in
theorem t_X0_checkArgument_t (l : Launch) (hfl : l.flags = flags0)  : mT l yX0_checkArgument wsX0_checkArgument ({ frames := 6, cells := 1, slots := 6, locals := 90 }) [.int (mI (0))] (fun _ => True) "java/lang/IllegalArgumentException" := by
  refine mw_openX (cc := cX0_checkArgument) (maxL := 1) (ret := none) (by decide) rfl (Nat.le_of_ble_eq_true rfl) ?_
  intro p e s m below meth c ls hC hr hlocks hout hB hE hl
  obtain ⟨hx, hb, hml, hown, hts⟩ := id hC
  have hl : lv_has ls 1 [(0, .int (mI (0)))] := hl
  refine lv_iload_n hx hb dX0_checkArgument_0 rfl (lv_at hl 0 rfl) ?_
  refine mw_if_ne (tgt := 14) hx hb (by omega) dX0_checkArgument_1 (by decide) (fun c => absurd c (by decide)) (fun _ => ?_)
  exact mw_throw (cls := "java/lang/IllegalArgumentException") (text := "an argument is out of range") (ik := 137) (is := 139) (ic := 141) hx hb hfl hts hown (by decide +kernel) hE hE.1.2.2.2.2.2.1 hE.1.2.1 (by decide +kernel) (by decide +kernel) (by decide +kernel) (by decide +kernel) (by decide +kernel) (hl.1.trans hml.symm) dX0_checkArgument_4 dX0_checkArgument_7 dX0_checkArgument_8 dX0_checkArgument_10 dX0_checkArgument_13 hout (Nat.le_of_ble_eq_true rfl) ⟨Nat.le_of_ble_eq_true rfl, Nat.le_of_ble_eq_true rfl, Nat.le_of_ble_eq_true rfl, Nat.le_of_ble_eq_true rfl⟩ hlocks (fun t ht => ⟨rfl, ht⟩)
end
section
set_option maxHeartbeats 4000000 in
set_option maxRecDepth 100000 in
theorem c_X0_checkDay (l : Launch) (d : Int) (h1 : mDay d) : mP l yX0_checkDay wsX0_checkDay ({ frames := 1, cells := 0, slots := 0, locals := 22 }) [.int (mI (d))] (fun _ => True) (none) := by
  refine mw_open (cc := cX0_checkDay) (maxL := 1) (ret := none) (by decide +kernel) rfl (Nat.le_of_ble_eq_true rfl) ?_
  intro p e s m below meth c ls hC hr hlocks hB hl
  obtain ⟨hx, hb, hml, hown, hts⟩ := id hC
  have hl : lv_has ls 1 [(0, .int (mI (d)))] := hl
  refine lv_iload_n hx hb dX0_checkDay_0 rfl (lv_at hl 0 rfl) ?_
  refine mw_ldc hx hb (-1000000) (by decide +kernel) hown (hts (.constant RX0 142 (-1000000)) (by decide +kernel)) dX0_checkDay_1 ?_
  refine mw_ldc hx hb (1000000) (by decide +kernel) hown (hts (.constant RX0 143 (1000000)) (by decide +kernel)) dX0_checkDay_3 ?_
  refine mw_cSi (rest := []) hC (c_X0_isWithin l d (-1000000) 1000000 (by omega) (by omega) (by omega)) (va_cwS 3 hts gX0_checkDay_X0_isWithin rfl rfl rfl (by decide +kernel) ⟨Nat.le_of_ble_eq_true rfl, Nat.le_of_ble_eq_true rfl⟩) rfl hl.1 rfl (Nat.le_of_ble_eq_true rfl) ⟨Nat.zero_le _, Nat.zero_le _⟩ dX0_checkDay_5 ?_
  refine mw_topi (y := 1) (mB_t (by omega)) ?_
  refine mw_cSv (rest := []) hC (c_X0_checkArgument l) (va_cwS 1 hts gX0_checkDay_X0_checkArgument rfl rfl rfl (by decide +kernel) ⟨Nat.le_of_ble_eq_true rfl, Nat.le_of_ble_eq_true rfl⟩) rfl hl.1 rfl (Nat.le_of_ble_eq_true rfl) ⟨Nat.zero_le _, Nat.zero_le _⟩ dX0_checkDay_8 ?_
  exact mw_retV hx hb hr hlocks dX0_checkDay_11

set_option maxHeartbeats 4000000 in
set_option maxRecDepth 100000 in
theorem t_X0_checkDay_t (l : Launch) (hfl : l.flags = flags0) (d : Int) (h1 : mRI d) (h2 : ¬ mDay d)  : mT l yX0_checkDay wsX0_checkDay ({ frames := 7, cells := 1, slots := 6, locals := 110 }) [.int (mI (d))] (fun _ => True) "java/lang/IllegalArgumentException" := by
  refine mw_openX (cc := cX0_checkDay) (maxL := 1) (ret := none) (by decide) rfl (Nat.le_of_ble_eq_true rfl) ?_
  intro p e s m below meth c ls hC hr hlocks hout hB hE hl
  obtain ⟨hx, hb, hml, hown, hts⟩ := id hC
  have hl : lv_has ls 1 [(0, .int (mI (d)))] := hl
  refine lv_iload_n hx hb dX0_checkDay_0 rfl (lv_at hl 0 rfl) ?_
  refine mw_ldc hx hb (-1000000) (by decide +kernel) hown (hts (.constant RX0 142 (-1000000)) (by decide +kernel)) dX0_checkDay_1 ?_
  refine mw_ldc hx hb (1000000) (by decide +kernel) hown (hts (.constant RX0 143 (1000000)) (by decide +kernel)) dX0_checkDay_3 ?_
  refine mw_cSi (rest := []) hC (c_X0_isWithin l d (-1000000) 1000000 (by omega) (by omega) (by omega)) (va_cwS 3 hts gX0_checkDay_X0_isWithin rfl rfl rfl (by decide +kernel) ⟨Nat.le_of_ble_eq_true rfl, Nat.le_of_ble_eq_true rfl⟩) rfl hl.1 rfl (Nat.le_of_ble_eq_true rfl) ⟨Nat.zero_le _, Nat.zero_le _⟩ dX0_checkDay_5 ?_
  refine mw_topi (y := 0) (mB_f (by omega)) ?_
  exact mw_tS (rest := []) hC (t_X0_checkArgument_t l hfl) hE (va_cwS 1 hts gX0_checkDay_X0_checkArgument rfl rfl rfl (by decide +kernel) ⟨Nat.le_of_ble_eq_true rfl, Nat.le_of_ble_eq_true rfl⟩) rfl hl.1 rfl (Nat.le_of_ble_eq_true rfl) ⟨Nat.le_of_ble_eq_true rfl, Nat.le_of_ble_eq_true rfl⟩ hout hlocks dX0_checkDay_8 (fun t ht => ⟨rfl, ht⟩)

set_option maxHeartbeats 4000000 in
set_option maxRecDepth 100000 in
theorem c_X0_checkYear (l : Launch) (d : Int) (h1 : mYear d) : mP l yX0_checkYear wsX0_checkYear ({ frames := 1, cells := 0, slots := 0, locals := 22 }) [.int (mI (d))] (fun _ => True) (none) := by
  refine mw_open (cc := cX0_checkYear) (maxL := 1) (ret := none) (by decide +kernel) rfl (Nat.le_of_ble_eq_true rfl) ?_
  intro p e s m below meth c ls hC hr hlocks hB hl
  obtain ⟨hx, hb, hml, hown, hts⟩ := id hC
  have hl : lv_has ls 1 [(0, .int (mI (d)))] := hl
  refine lv_iload_n hx hb dX0_checkYear_0 rfl (lv_at hl 0 rfl) ?_
  refine mw_sipush hx hb (by decide +kernel) dX0_checkYear_1 ?_
  refine mw_sipush hx hb (by decide +kernel) dX0_checkYear_4 ?_
  refine mw_cSi (rest := []) hC (c_X0_isWithin l d (-10000) 10000 (by omega) (by omega) (by omega)) (va_cwS 3 hts gX0_checkYear_X0_isWithin rfl rfl rfl (by decide +kernel) ⟨Nat.le_of_ble_eq_true rfl, Nat.le_of_ble_eq_true rfl⟩) rfl hl.1 rfl (Nat.le_of_ble_eq_true rfl) ⟨Nat.zero_le _, Nat.zero_le _⟩ dX0_checkYear_7 ?_
  refine mw_topi (y := 1) (mB_t (by omega)) ?_
  refine mw_cSv (rest := []) hC (c_X0_checkArgument l) (va_cwS 1 hts gX0_checkYear_X0_checkArgument rfl rfl rfl (by decide +kernel) ⟨Nat.le_of_ble_eq_true rfl, Nat.le_of_ble_eq_true rfl⟩) rfl hl.1 rfl (Nat.le_of_ble_eq_true rfl) ⟨Nat.zero_le _, Nat.zero_le _⟩ dX0_checkYear_10 ?_
  exact mw_retV hx hb hr hlocks dX0_checkYear_13

set_option maxHeartbeats 4000000 in
set_option maxRecDepth 100000 in
theorem t_X0_checkYear_t (l : Launch) (hfl : l.flags = flags0) (d : Int) (h1 : mRI d) (h2 : ¬ mYear d)  : mT l yX0_checkYear wsX0_checkYear ({ frames := 7, cells := 1, slots := 6, locals := 110 }) [.int (mI (d))] (fun _ => True) "java/lang/IllegalArgumentException" := by
  refine mw_openX (cc := cX0_checkYear) (maxL := 1) (ret := none) (by decide) rfl (Nat.le_of_ble_eq_true rfl) ?_
  intro p e s m below meth c ls hC hr hlocks hout hB hE hl
  obtain ⟨hx, hb, hml, hown, hts⟩ := id hC
  have hl : lv_has ls 1 [(0, .int (mI (d)))] := hl
  refine lv_iload_n hx hb dX0_checkYear_0 rfl (lv_at hl 0 rfl) ?_
  refine mw_sipush hx hb (by decide +kernel) dX0_checkYear_1 ?_
  refine mw_sipush hx hb (by decide +kernel) dX0_checkYear_4 ?_
  refine mw_cSi (rest := []) hC (c_X0_isWithin l d (-10000) 10000 (by omega) (by omega) (by omega)) (va_cwS 3 hts gX0_checkYear_X0_isWithin rfl rfl rfl (by decide +kernel) ⟨Nat.le_of_ble_eq_true rfl, Nat.le_of_ble_eq_true rfl⟩) rfl hl.1 rfl (Nat.le_of_ble_eq_true rfl) ⟨Nat.zero_le _, Nat.zero_le _⟩ dX0_checkYear_7 ?_
  refine mw_topi (y := 0) (mB_f (by omega)) ?_
  exact mw_tS (rest := []) hC (t_X0_checkArgument_t l hfl) hE (va_cwS 1 hts gX0_checkYear_X0_checkArgument rfl rfl rfl (by decide +kernel) ⟨Nat.le_of_ble_eq_true rfl, Nat.le_of_ble_eq_true rfl⟩) rfl hl.1 rfl (Nat.le_of_ble_eq_true rfl) ⟨Nat.le_of_ble_eq_true rfl, Nat.le_of_ble_eq_true rfl⟩ hout hlocks dX0_checkYear_10 (fun t ht => ⟨rfl, ht⟩)

set_option maxHeartbeats 4000000 in
set_option maxRecDepth 100000 in
theorem c_X0_checkMarket (l : Launch) (D : va_G) (h0 a1 a2 : Nat) (cA cJ : ClassId) (v : Nat → Int) (L P : Int → Int) (m9 : Int) (h1 : mRI m9) (h2 : mMk v m9) (hv : 0 ≤ v 0 ∧ v 0 ≤ 16) : mP l yX0_checkMarket wsX0_checkMarket ({ frames := 1, cells := 0, slots := 0, locals := 22 }) [.ref h0, .int (mI (m9))] (mwB D (mXW h0 a1 a2 cA v L P) (mTy cA cJ)) (none) := by
  refine mw_open (cc := cX0_checkMarket) (maxL := 2) (ret := none) (by decide +kernel) rfl (Nat.le_of_ble_eq_true rfl) ?_
  intro p e s m below meth c ls hC hr hlocks hB hl
  obtain ⟨hx, hb, hml, hown, hts⟩ := id hC
  obtain ⟨hP, hK⟩ := hB
  have hin : ∀ w ∈ wsX00, w ∈ wsX0_checkMarket := by decide +kernel
  have hl : lv_has ls 2 [(0, .ref h0), (1, .int (mI (m9)))] := hl
  refine lv_iload_n hx hb dX0_checkMarket_0 rfl (lv_at hl 1 rfl) ?_
  refine mw_iconst hx hb dX0_checkMarket_1 ?_
  refine lv_aload_n hx hb dX0_checkMarket_2 rfl (lv_at hl 0 rfl) ?_
  refine mw_getX hx hb hts hin hown hK hP rfl 2 (by decide) (by decide +kernel) rfl rfl dX0_checkMarket_3 ?_
  refine mw_iconst hx hb dX0_checkMarket_6 ?_
  refine mw_isub hx hb dX0_checkMarket_7 ?_
  refine mw_cSi (rest := []) hC (c_X0_isWithin l m9 0 ((v 0) - 1) (by omega) (by omega) (by omega)) (va_cwS 3 hts gX0_checkMarket_X0_isWithin rfl rfl rfl (by decide +kernel) ⟨Nat.le_of_ble_eq_true rfl, Nat.le_of_ble_eq_true rfl⟩) rfl hl.1 rfl (Nat.le_of_ble_eq_true rfl) ⟨Nat.zero_le _, Nat.zero_le _⟩ dX0_checkMarket_8 ?_
  refine mw_zne (tgt := 24) hx hb dX0_checkMarket_11 (by decide) (fun c_11 => ?_) (fun c_11 => False.elim (by omega))
  exact mw_retV hx hb hr hlocks dX0_checkMarket_24

set_option maxHeartbeats 4000000 in
set_option maxRecDepth 100000 in
theorem t_X0_checkMarket_t (l : Launch) (hfl : l.flags = flags0) (D : va_G) (h0 a1 a2 : Nat) (cA cJ : ClassId) (v : Nat → Int) (L P : Int → Int) (m9 : Int) (h1 : mRI m9) (h2 : ¬ mMk v m9) (hv : 0 ≤ v 0 ∧ v 0 ≤ 16) : mT l yX0_checkMarket wsX0_checkMarket ({ frames := 6, cells := 1, slots := 6, locals := 90 }) [.ref h0, .int (mI (m9))] (mwB D (mXW h0 a1 a2 cA v L P) (mTy cA cJ)) "java/lang/IndexOutOfBoundsException" := by
  refine mw_openX (cc := cX0_checkMarket) (maxL := 2) (ret := none) (by decide) rfl (Nat.le_of_ble_eq_true rfl) ?_
  intro p e s m below meth c ls hC hr hlocks hout hB hE hl
  obtain ⟨hx, hb, hml, hown, hts⟩ := id hC
  obtain ⟨hP, hK⟩ := hB
  have hin : ∀ w ∈ wsX00, w ∈ wsX0_checkMarket := by decide +kernel
  have hl : lv_has ls 2 [(0, .ref h0), (1, .int (mI (m9)))] := hl
  refine lv_iload_n hx hb dX0_checkMarket_0 rfl (lv_at hl 1 rfl) ?_
  refine mw_iconst hx hb dX0_checkMarket_1 ?_
  refine lv_aload_n hx hb dX0_checkMarket_2 rfl (lv_at hl 0 rfl) ?_
  refine mw_getX hx hb hts hin hown hK hP rfl 2 (by decide) (by decide +kernel) rfl rfl dX0_checkMarket_3 ?_
  refine mw_iconst hx hb dX0_checkMarket_6 ?_
  refine mw_isub hx hb dX0_checkMarket_7 ?_
  refine mw_cSi (rest := []) hC (c_X0_isWithin l m9 0 ((v 0) - 1) (by omega) (by omega) (by omega)) (va_cwS 3 hts gX0_checkMarket_X0_isWithin rfl rfl rfl (by decide +kernel) ⟨Nat.le_of_ble_eq_true rfl, Nat.le_of_ble_eq_true rfl⟩) rfl hl.1 rfl (Nat.le_of_ble_eq_true rfl) ⟨Nat.zero_le _, Nat.zero_le _⟩ dX0_checkMarket_8 ?_
  refine mw_zne (tgt := 24) hx hb dX0_checkMarket_11 (by decide) (fun c_11 => False.elim (by omega)) (fun c_11 => ?_)
  exact mw_throw (cls := "java/lang/IndexOutOfBoundsException") (text := "there is no such market") (ik := 144) (is := 146) (ic := 148) hx hb hfl hts hown (by decide +kernel) hE hE.1.2.2.2.2.2.2.2.1 hE.1.2.2.1 (by decide +kernel) (by decide +kernel) (by decide +kernel) (by decide +kernel) (by decide +kernel) (hl.1.trans hml.symm) dX0_checkMarket_14 dX0_checkMarket_17 dX0_checkMarket_18 dX0_checkMarket_20 dX0_checkMarket_23 hout (Nat.le_of_ble_eq_true rfl) ⟨Nat.le_of_ble_eq_true rfl, Nat.le_of_ble_eq_true rfl, Nat.le_of_ble_eq_true rfl, Nat.le_of_ble_eq_true rfl⟩ hlocks (fun t ht => ⟨rfl, ht⟩)

set_option maxHeartbeats 4000000 in
set_option maxRecDepth 100000 in
theorem c_X0_checkMarkets (l : Launch) (D : va_G) (h0 a1 a2 : Nat) (cA cJ : ClassId) (v : Nat → Int) (L P : Int → Int) (z : Int) (h2 : mUsh z (v 0) = 0) : mP l yX0_checkMarkets wsX0_checkMarkets ({ frames := 0, cells := 0, slots := 0, locals := 0 }) [.ref h0, .int (mI (z))] (mwB D (mXW h0 a1 a2 cA v L P) (mTy cA cJ)) (none) := by
  refine mw_open (cc := cX0_checkMarkets) (maxL := 2) (ret := none) (by decide +kernel) rfl (Nat.le_of_ble_eq_true rfl) ?_
  intro p e s m below meth c ls hC hr hlocks hB hl
  obtain ⟨hx, hb, hml, hown, hts⟩ := id hC
  obtain ⟨hP, hK⟩ := hB
  have hin : ∀ w ∈ wsX00, w ∈ wsX0_checkMarkets := by decide +kernel
  have hl : lv_has ls 2 [(0, .ref h0), (1, .int (mI (z)))] := hl
  have r1 := mUsh_r z (v 0)
  refine lv_iload_n hx hb dX0_checkMarkets_0 rfl (lv_at hl 1 rfl) ?_
  refine lv_aload_n hx hb dX0_checkMarkets_1 rfl (lv_at hl 0 rfl) ?_
  refine mw_getX hx hb hts hin hown hK hP rfl 2 (by decide) (by decide +kernel) rfl rfl dX0_checkMarkets_2 ?_
  refine mw_iushr hx hb dX0_checkMarkets_5 ?_
  refine mw_if_eq (tgt := 19) hx hb (by omega) dX0_checkMarkets_6 (by decide) (fun c_6 => ?_) (fun c_6 => False.elim (by omega))
  exact mw_retV hx hb hr hlocks dX0_checkMarkets_19

set_option maxHeartbeats 4000000 in
set_option maxRecDepth 100000 in
theorem t_X0_checkMarkets_t (l : Launch) (hfl : l.flags = flags0) (D : va_G) (h0 a1 a2 : Nat) (cA cJ : ClassId) (v : Nat → Int) (L P : Int → Int) (z : Int) (h2 : ¬ mUsh z (v 0) = 0)  : mT l yX0_checkMarkets wsX0_checkMarkets ({ frames := 6, cells := 1, slots := 6, locals := 90 }) [.ref h0, .int (mI (z))] (mwB D (mXW h0 a1 a2 cA v L P) (mTy cA cJ)) "java/lang/IndexOutOfBoundsException" := by
  refine mw_openX (cc := cX0_checkMarkets) (maxL := 2) (ret := none) (by decide) rfl (Nat.le_of_ble_eq_true rfl) ?_
  intro p e s m below meth c ls hC hr hlocks hout hB hE hl
  obtain ⟨hx, hb, hml, hown, hts⟩ := id hC
  obtain ⟨hP, hK⟩ := hB
  have hin : ∀ w ∈ wsX00, w ∈ wsX0_checkMarkets := by decide +kernel
  have hl : lv_has ls 2 [(0, .ref h0), (1, .int (mI (z)))] := hl
  have r1 := mUsh_r z (v 0)
  refine lv_iload_n hx hb dX0_checkMarkets_0 rfl (lv_at hl 1 rfl) ?_
  refine lv_aload_n hx hb dX0_checkMarkets_1 rfl (lv_at hl 0 rfl) ?_
  refine mw_getX hx hb hts hin hown hK hP rfl 2 (by decide) (by decide +kernel) rfl rfl dX0_checkMarkets_2 ?_
  refine mw_iushr hx hb dX0_checkMarkets_5 ?_
  refine mw_if_eq (tgt := 19) hx hb (by omega) dX0_checkMarkets_6 (by decide) (fun c_6 => False.elim (by omega)) (fun c_6 => ?_)
  exact mw_throw (cls := "java/lang/IndexOutOfBoundsException") (text := "a bit stands for no market") (ik := 144) (is := 149) (ic := 148) hx hb hfl hts hown (by decide +kernel) hE hE.1.2.2.2.2.2.2.2.1 hE.1.2.2.2.1 (by decide +kernel) (by decide +kernel) (by decide +kernel) (by decide +kernel) (by decide +kernel) (hl.1.trans hml.symm) dX0_checkMarkets_9 dX0_checkMarkets_12 dX0_checkMarkets_13 dX0_checkMarkets_15 dX0_checkMarkets_18 hout (Nat.le_of_ble_eq_true rfl) ⟨Nat.le_of_ble_eq_true rfl, Nat.le_of_ble_eq_true rfl, Nat.le_of_ble_eq_true rfl, Nat.le_of_ble_eq_true rfl⟩ hlocks (fun t ht => ⟨rfl, ht⟩)

set_option maxHeartbeats 4000000 in
set_option maxRecDepth 100000 in
theorem c_X0_checkTheyMeet (l : Launch) (d : Int) (h1 : mRL d) (h2 : d ≠ -1) : mP l yX0_checkTheyMeet wsX0_checkTheyMeet ({ frames := 0, cells := 0, slots := 0, locals := 0 }) [.long (mL (d))] (fun _ => True) (none) := by
  refine mw_open (cc := cX0_checkTheyMeet) (maxL := 2) (ret := none) (by decide +kernel) rfl (Nat.le_of_ble_eq_true rfl) ?_
  intro p e s m below meth c ls hC hr hlocks hB hl
  obtain ⟨hx, hb, hml, hown, hts⟩ := id hC
  have hl : lv_has ls 2 [(0, .long (mL (d)))] := hl
  refine lv_lload_n hx hb dX0_checkTheyMeet_0 rfl (lv_at hl 0 rfl) ?_
  refine mw_ldc2 hx hb (-1) (by decide +kernel) hown (hts (.constantLong RX0 96 (-1)) (by decide +kernel)) dX0_checkTheyMeet_1 ?_
  refine mw_lcmp_ne (tgt := 18) hx hb (by omega) (by omega) dX0_checkTheyMeet_4 dX0_checkTheyMeet_5 (by decide) (fun c_5 => ?_) (fun c_5 => False.elim (by omega))
  exact mw_retV hx hb hr hlocks dX0_checkTheyMeet_18

set_option maxHeartbeats 4000000 in
set_option maxRecDepth 100000 in
theorem t_X0_checkTheyMeet_t (l : Launch) (hfl : l.flags = flags0)  : mT l yX0_checkTheyMeet wsX0_checkTheyMeet ({ frames := 6, cells := 1, slots := 6, locals := 90 }) [.long (mL (-1))] (fun _ => True) "java/lang/IllegalStateException" := by
  refine mw_openX (cc := cX0_checkTheyMeet) (maxL := 2) (ret := none) (by decide) rfl (Nat.le_of_ble_eq_true rfl) ?_
  intro p e s m below meth c ls hC hr hlocks hout hB hE hl
  obtain ⟨hx, hb, hml, hown, hts⟩ := id hC
  have hl : lv_has ls 2 [(0, .long (mL (-1)))] := hl
  refine lv_lload_n hx hb dX0_checkTheyMeet_0 rfl (lv_at hl 0 rfl) ?_
  refine mw_ldc2 hx hb (-1) (by decide +kernel) hown (hts (.constantLong RX0 96 (-1)) (by decide +kernel)) dX0_checkTheyMeet_1 ?_
  refine mw_lcmp_ne (tgt := 18) hx hb (by omega) (by omega) dX0_checkTheyMeet_4 dX0_checkTheyMeet_5 (by decide) (fun c_5 => False.elim (by omega)) (fun c_5 => ?_)
  exact mw_throw (cls := "java/lang/IllegalStateException") (text := "they never meet") (ik := 53) (is := 151) (ic := 57) hx hb hfl hts hown (by decide +kernel) hE hE.1.2.2.2.2.2.2.1 hE.1.2.2.2.2.1 (by decide +kernel) (by decide +kernel) (by decide +kernel) (by decide +kernel) (by decide +kernel) (hl.1.trans hml.symm) dX0_checkTheyMeet_8 dX0_checkTheyMeet_11 dX0_checkTheyMeet_12 dX0_checkTheyMeet_14 dX0_checkTheyMeet_17 hout (Nat.le_of_ble_eq_true rfl) ⟨Nat.le_of_ble_eq_true rfl, Nat.le_of_ble_eq_true rfl, Nat.le_of_ble_eq_true rfl, Nat.le_of_ble_eq_true rfl⟩ hlocks (fun t ht => ⟨rfl, ht⟩)

set_option maxHeartbeats 4000000 in
set_option maxRecDepth 100000 in
theorem c_J6_bitCount_0f7a4 (l : Launch) (z : Int) (h1 : mRI z) : mP l yJ6_bitCount_0f7a4 wsJ6_bitCount_0f7a4 ({ frames := 0, cells := 0, slots := 0, locals := 0 }) [.int (mI (z))] (fun _ => True) (some (.int (mI (mPop z 32)))) := by
  refine mw_open (cc := cJ6_bitCount_0f7a4) (maxL := 1) (ret := (some .int)) (by decide +kernel) rfl (Nat.le_of_ble_eq_true rfl) ?_
  intro p e s m below meth c ls hC hr hlocks hB hl
  obtain ⟨hx, hb, hml, hown, hts⟩ := id hC
  have hl : lv_has ls 1 [(0, .int (mI (z)))] := hl
  refine lv_iload_n hx hb dJ6_bitCount_0f7a4_0 rfl (lv_at hl 0 rfl) ?_
  refine lv_iload_n hx hb dJ6_bitCount_0f7a4_1 rfl (lv_at hl 0 rfl) ?_
  refine mw_iconst hx hb dJ6_bitCount_0f7a4_2 ?_
  refine mw_iushr hx hb dJ6_bitCount_0f7a4_3 ?_
  refine mw_ldcw hx hb (1431655765) (by decide +kernel) hown (hts (.constant RJ6 265 (1431655765)) (by decide +kernel)) dJ6_bitCount_0f7a4_4 ?_
  refine mw_iand hx hb dJ6_bitCount_0f7a4_7 ?_
  refine mw_isub hx hb dJ6_bitCount_0f7a4_8 ?_
  refine mw_namei (fun x1 e_x1 => ?_)
  refine lv_istore_n (lv' := [(0, .int (mI (x1)))]) hx hb dJ6_bitCount_0f7a4_9 rfl hl (by decide) rfl (fun ls hl => ?_)
  refine lv_iload_n hx hb dJ6_bitCount_0f7a4_10 rfl (lv_at hl 0 rfl) ?_
  refine mw_ldcw hx hb (858993459) (by decide +kernel) hown (hts (.constant RJ6 266 (858993459)) (by decide +kernel)) dJ6_bitCount_0f7a4_11 ?_
  refine mw_iand hx hb dJ6_bitCount_0f7a4_14 ?_
  refine lv_iload_n hx hb dJ6_bitCount_0f7a4_15 rfl (lv_at hl 0 rfl) ?_
  refine mw_iconst hx hb dJ6_bitCount_0f7a4_16 ?_
  refine mw_iushr hx hb dJ6_bitCount_0f7a4_17 ?_
  refine mw_ldcw hx hb (858993459) (by decide +kernel) hown (hts (.constant RJ6 266 (858993459)) (by decide +kernel)) dJ6_bitCount_0f7a4_18 ?_
  refine mw_iand hx hb dJ6_bitCount_0f7a4_21 ?_
  refine mw_iadd hx hb dJ6_bitCount_0f7a4_22 ?_
  refine mw_namei (fun x2 e_x2 => ?_)
  refine lv_istore_n (lv' := [(0, .int (mI (x2)))]) hx hb dJ6_bitCount_0f7a4_23 rfl hl (by decide) rfl (fun ls hl => ?_)
  refine lv_iload_n hx hb dJ6_bitCount_0f7a4_24 rfl (lv_at hl 0 rfl) ?_
  refine lv_iload_n hx hb dJ6_bitCount_0f7a4_25 rfl (lv_at hl 0 rfl) ?_
  refine mw_iconst hx hb dJ6_bitCount_0f7a4_26 ?_
  refine mw_iushr hx hb dJ6_bitCount_0f7a4_27 ?_
  refine mw_iadd hx hb dJ6_bitCount_0f7a4_28 ?_
  refine mw_ldcw hx hb (252645135) (by decide +kernel) hown (hts (.constant RJ6 267 (252645135)) (by decide +kernel)) dJ6_bitCount_0f7a4_29 ?_
  refine mw_iand hx hb dJ6_bitCount_0f7a4_32 ?_
  refine mw_namei (fun x3 e_x3 => ?_)
  refine lv_istore_n (lv' := [(0, .int (mI (x3)))]) hx hb dJ6_bitCount_0f7a4_33 rfl hl (by decide) rfl (fun ls hl => ?_)
  refine lv_iload_n hx hb dJ6_bitCount_0f7a4_34 rfl (lv_at hl 0 rfl) ?_
  refine lv_iload_n hx hb dJ6_bitCount_0f7a4_35 rfl (lv_at hl 0 rfl) ?_
  refine mw_bipush hx hb (by decide +kernel) dJ6_bitCount_0f7a4_36 ?_
  refine mw_iushr hx hb dJ6_bitCount_0f7a4_38 ?_
  refine mw_iadd hx hb dJ6_bitCount_0f7a4_39 ?_
  refine mw_namei (fun x4 e_x4 => ?_)
  refine lv_istore_n (lv' := [(0, .int (mI (x4)))]) hx hb dJ6_bitCount_0f7a4_40 rfl hl (by decide) rfl (fun ls hl => ?_)
  refine lv_iload_n hx hb dJ6_bitCount_0f7a4_41 rfl (lv_at hl 0 rfl) ?_
  refine lv_iload_n hx hb dJ6_bitCount_0f7a4_42 rfl (lv_at hl 0 rfl) ?_
  refine mw_bipush hx hb (by decide +kernel) dJ6_bitCount_0f7a4_43 ?_
  refine mw_iushr hx hb dJ6_bitCount_0f7a4_45 ?_
  refine mw_iadd hx hb dJ6_bitCount_0f7a4_46 ?_
  refine mw_namei (fun x5 e_x5 => ?_)
  refine lv_istore_n (lv' := [(0, .int (mI (x5)))]) hx hb dJ6_bitCount_0f7a4_47 rfl hl (by decide) rfl (fun ls hl => ?_)
  refine lv_iload_n hx hb dJ6_bitCount_0f7a4_48 rfl (lv_at hl 0 rfl) ?_
  refine mw_bipush hx hb (by decide +kernel) dJ6_bitCount_0f7a4_49 ?_
  refine mw_iand hx hb dJ6_bitCount_0f7a4_51 ?_
  exact mw_retI hx hb hr hlocks dJ6_bitCount_0f7a4_52 (m_bitCount e_x1 e_x2 e_x3 e_x4 e_x5)

set_option maxHeartbeats 4000000 in
set_option maxRecDepth 100000 in
theorem c_X0_checkMeetingSet (l : Launch) (D : va_G) (h0 a1 a2 : Nat) (cA cJ : ClassId) (v : Nat → Int) (L P : Int → Int) (z : Int) (h1 : mRI z) (h2 : 1 ≤ mPop z 32 ∧ mPop z 32 ≤ 5) (h3 : mUsh z (v 0) = 0) : mP l yX0_checkMeetingSet wsX0_checkMeetingSet ({ frames := 1, cells := 0, slots := 0, locals := 22 }) [.ref h0, .int (mI (z))] (mwB D (mXW h0 a1 a2 cA v L P) (mTy cA cJ)) (none) := by
  refine mw_open (cc := cX0_checkMeetingSet) (maxL := 2) (ret := none) (by decide +kernel) rfl (Nat.le_of_ble_eq_true rfl) ?_
  intro p e s m below meth c ls hC hr hlocks hB hl
  obtain ⟨hx, hb, hml, hown, hts⟩ := id hC
  obtain ⟨hP, hK⟩ := hB
  have hl : lv_has ls 2 [(0, .ref h0), (1, .int (mI (z)))] := hl
  have q1 := mPop_r z 32
  refine lv_iload_n hx hb dX0_checkMeetingSet_0 rfl (lv_at hl 1 rfl) ?_
  refine mw_cSi (rest := []) hC (c_J6_bitCount_0f7a4 l z (by omega)) (va_cwS 1 hts gX0_checkMeetingSet_J6_bitCount_0f7a4 rfl rfl rfl (by decide +kernel) ⟨Nat.le_of_ble_eq_true rfl, Nat.le_of_ble_eq_true rfl⟩) rfl hl.1 rfl (Nat.le_of_ble_eq_true rfl) ⟨Nat.zero_le _, Nat.zero_le _⟩ dX0_checkMeetingSet_1 ?_
  refine mw_iconst hx hb dX0_checkMeetingSet_4 ?_
  refine mw_iconst hx hb dX0_checkMeetingSet_5 ?_
  refine mw_cSi (rest := []) hC (c_X0_isWithin l (mPop z 32) 1 5 (by omega) (by omega) (by omega)) (va_cwS 3 hts gX0_checkMeetingSet_X0_isWithin rfl rfl rfl (by decide +kernel) ⟨Nat.le_of_ble_eq_true rfl, Nat.le_of_ble_eq_true rfl⟩) rfl hl.1 rfl (Nat.le_of_ble_eq_true rfl) ⟨Nat.zero_le _, Nat.zero_le _⟩ dX0_checkMeetingSet_6 ?_
  refine mw_topi (y := 1) (mB_t (by omega)) ?_
  refine mw_cSv (rest := []) hC (c_X0_checkArgument l) (va_cwS 1 hts gX0_checkMeetingSet_X0_checkArgument rfl rfl rfl (by decide +kernel) ⟨Nat.le_of_ble_eq_true rfl, Nat.le_of_ble_eq_true rfl⟩) rfl hl.1 rfl (Nat.le_of_ble_eq_true rfl) ⟨Nat.zero_le _, Nat.zero_le _⟩ dX0_checkMeetingSet_9 ?_
  refine lv_aload_n hx hb dX0_checkMeetingSet_12 rfl (lv_at hl 0 rfl) ?_
  refine lv_iload_n hx hb dX0_checkMeetingSet_13 rfl (lv_at hl 1 rfl) ?_
  refine mw_cVv (rest := []) (q := (RX0, TX0, 10)) hC (c_X0_checkMarkets l D h0 a1 a2 cA cJ v L P z (by omega)) (cwV 1 hts gX0_checkMeetingSet_X0_checkMarkets rfl rfl rfl (by decide +kernel) ⟨Nat.le_of_ble_eq_true rfl, Nat.le_of_ble_eq_true rfl⟩) hK hP rfl rfl rfl hl.1 rfl (Nat.le_of_ble_eq_true rfl) ⟨Nat.zero_le _, Nat.zero_le _⟩ dX0_checkMeetingSet_14 ?_
  exact mw_retV hx hb hr hlocks dX0_checkMeetingSet_17

set_option maxHeartbeats 4000000 in
set_option maxRecDepth 100000 in
theorem t_X0_checkMeetingSet_t1 (l : Launch) (hfl : l.flags = flags0) (D : va_G) (h0 a1 a2 : Nat) (cA cJ : ClassId) (v : Nat → Int) (L P : Int → Int) (z : Int) (h1 : mRI z) (h2 : ¬ (1 ≤ mPop z 32 ∧ mPop z 32 ≤ 5))  : mT l yX0_checkMeetingSet wsX0_checkMeetingSet ({ frames := 7, cells := 1, slots := 6, locals := 110 }) [.ref h0, .int (mI (z))] (mwB D (mXW h0 a1 a2 cA v L P) (mTy cA cJ)) "java/lang/IllegalArgumentException" := by
  refine mw_openX (cc := cX0_checkMeetingSet) (maxL := 2) (ret := none) (by decide) rfl (Nat.le_of_ble_eq_true rfl) ?_
  intro p e s m below meth c ls hC hr hlocks hout hB hE hl
  obtain ⟨hx, hb, hml, hown, hts⟩ := id hC
  obtain ⟨hP, hK⟩ := hB
  have hl : lv_has ls 2 [(0, .ref h0), (1, .int (mI (z)))] := hl
  have q1 := mPop_r z 32
  refine lv_iload_n hx hb dX0_checkMeetingSet_0 rfl (lv_at hl 1 rfl) ?_
  refine mw_cSi (rest := []) hC (c_J6_bitCount_0f7a4 l z (by omega)) (va_cwS 1 hts gX0_checkMeetingSet_J6_bitCount_0f7a4 rfl rfl rfl (by decide +kernel) ⟨Nat.le_of_ble_eq_true rfl, Nat.le_of_ble_eq_true rfl⟩) rfl hl.1 rfl (Nat.le_of_ble_eq_true rfl) ⟨Nat.zero_le _, Nat.zero_le _⟩ dX0_checkMeetingSet_1 ?_
  refine mw_iconst hx hb dX0_checkMeetingSet_4 ?_
  refine mw_iconst hx hb dX0_checkMeetingSet_5 ?_
  refine mw_cSi (rest := []) hC (c_X0_isWithin l (mPop z 32) 1 5 (by omega) (by omega) (by omega)) (va_cwS 3 hts gX0_checkMeetingSet_X0_isWithin rfl rfl rfl (by decide +kernel) ⟨Nat.le_of_ble_eq_true rfl, Nat.le_of_ble_eq_true rfl⟩) rfl hl.1 rfl (Nat.le_of_ble_eq_true rfl) ⟨Nat.zero_le _, Nat.zero_le _⟩ dX0_checkMeetingSet_6 ?_
  refine mw_topi (y := 0) (mB_f (by omega)) ?_
  exact mw_tS (rest := []) hC (t_X0_checkArgument_t l hfl) hE (va_cwS 1 hts gX0_checkMeetingSet_X0_checkArgument rfl rfl rfl (by decide +kernel) ⟨Nat.le_of_ble_eq_true rfl, Nat.le_of_ble_eq_true rfl⟩) rfl hl.1 rfl (Nat.le_of_ble_eq_true rfl) ⟨Nat.le_of_ble_eq_true rfl, Nat.le_of_ble_eq_true rfl⟩ hout hlocks dX0_checkMeetingSet_9 (fun t ht => ⟨rfl, ht⟩)

set_option maxHeartbeats 4000000 in
set_option maxRecDepth 100000 in
theorem t_X0_checkMeetingSet_t2 (l : Launch) (hfl : l.flags = flags0) (D : va_G) (h0 a1 a2 : Nat) (cA cJ : ClassId) (v : Nat → Int) (L P : Int → Int) (z : Int) (h1 : mRI z) (h2 : 1 ≤ mPop z 32 ∧ mPop z 32 ≤ 5) (h3 : ¬ mUsh z (v 0) = 0)  : mT l yX0_checkMeetingSet wsX0_checkMeetingSet ({ frames := 7, cells := 1, slots := 6, locals := 111 }) [.ref h0, .int (mI (z))] (mwB D (mXW h0 a1 a2 cA v L P) (mTy cA cJ)) "java/lang/IndexOutOfBoundsException" := by
  refine mw_openX (cc := cX0_checkMeetingSet) (maxL := 2) (ret := none) (by decide) rfl (Nat.le_of_ble_eq_true rfl) ?_
  intro p e s m below meth c ls hC hr hlocks hout hB hE hl
  obtain ⟨hx, hb, hml, hown, hts⟩ := id hC
  obtain ⟨hP, hK⟩ := hB
  have hl : lv_has ls 2 [(0, .ref h0), (1, .int (mI (z)))] := hl
  have q1 := mPop_r z 32
  refine lv_iload_n hx hb dX0_checkMeetingSet_0 rfl (lv_at hl 1 rfl) ?_
  refine mw_cSi (rest := []) hC (c_J6_bitCount_0f7a4 l z (by omega)) (va_cwS 1 hts gX0_checkMeetingSet_J6_bitCount_0f7a4 rfl rfl rfl (by decide +kernel) ⟨Nat.le_of_ble_eq_true rfl, Nat.le_of_ble_eq_true rfl⟩) rfl hl.1 rfl (Nat.le_of_ble_eq_true rfl) ⟨Nat.zero_le _, Nat.zero_le _⟩ dX0_checkMeetingSet_1 ?_
  refine mw_iconst hx hb dX0_checkMeetingSet_4 ?_
  refine mw_iconst hx hb dX0_checkMeetingSet_5 ?_
  refine mw_cSi (rest := []) hC (c_X0_isWithin l (mPop z 32) 1 5 (by omega) (by omega) (by omega)) (va_cwS 3 hts gX0_checkMeetingSet_X0_isWithin rfl rfl rfl (by decide +kernel) ⟨Nat.le_of_ble_eq_true rfl, Nat.le_of_ble_eq_true rfl⟩) rfl hl.1 rfl (Nat.le_of_ble_eq_true rfl) ⟨Nat.zero_le _, Nat.zero_le _⟩ dX0_checkMeetingSet_6 ?_
  refine mw_topi (y := 1) (mB_t (by omega)) ?_
  refine mw_cSv (rest := []) hC (c_X0_checkArgument l) (va_cwS 1 hts gX0_checkMeetingSet_X0_checkArgument rfl rfl rfl (by decide +kernel) ⟨Nat.le_of_ble_eq_true rfl, Nat.le_of_ble_eq_true rfl⟩) rfl hl.1 rfl (Nat.le_of_ble_eq_true rfl) ⟨Nat.zero_le _, Nat.zero_le _⟩ dX0_checkMeetingSet_9 ?_
  refine lv_aload_n hx hb dX0_checkMeetingSet_12 rfl (lv_at hl 0 rfl) ?_
  refine lv_iload_n hx hb dX0_checkMeetingSet_13 rfl (lv_at hl 1 rfl) ?_
  exact mw_tV (rest := []) (q := (RX0, TX0, 10)) hC (t_X0_checkMarkets_t l hfl D h0 a1 a2 cA cJ v L P z (by omega)) hE (cwV 1 hts gX0_checkMeetingSet_X0_checkMarkets rfl rfl rfl (by decide +kernel) ⟨Nat.le_of_ble_eq_true rfl, Nat.le_of_ble_eq_true rfl⟩) hK hP rfl rfl rfl hl.1 rfl (Nat.le_of_ble_eq_true rfl) ⟨Nat.le_of_ble_eq_true rfl, Nat.le_of_ble_eq_true rfl⟩ hout hlocks dX0_checkMeetingSet_14 (fun t ht => ⟨rfl, ht⟩)
end
section
theorem mSet_s (L P : Int → Int) (d : Int) (k : Nat) : mSet L P d (k + 1) = mSet L P d k + (if d % L (k : Int) = P (k : Int) then 2 ^ k else 0) := rfl
set_option maxHeartbeats 4000000 in
set_option maxRecDepth 100000 in
theorem c_X0_isOn (l : Launch) (D : va_G) (h0 a1 a2 : Nat) (cA cJ : ClassId) (v : Nat → Int) (L P : Int → Int) (m9 d : Int) (hok : mOK v L P) (hk : mMk v m9) (hd : mR2 d) : mP l yX0_isOn wsX0_isOn ({ frames := 2, cells := 0, slots := 0, locals := 48 }) [.ref h0, .int (mI (m9)), .long (mL (d))] (mwB D (mXW h0 a1 a2 cA v L P) (mTy cA cJ)) (some (.int (mI (mB (d % L m9 = P m9))))) := by
  refine mw_open (cc := cX0_isOn) (maxL := 4) (ret := (some .boolean)) (by decide +kernel) rfl (Nat.le_of_ble_eq_true rfl) ?_
  intro p e s m below meth c ls hC hr hlocks hB hl
  obtain ⟨hx, hb, hml, hown, hts⟩ := id hC
  obtain ⟨hP, hK⟩ := hB
  have hl : lv_has ls 4 [(0, .ref h0), (1, .int (mI (m9))), (2, .long (mL (d)))] := hl
  obtain ⟨⟨o1, o2⟩, oL, ⟨o3, o4, o5, o6, o7, o8⟩, ⟨o9, o10, o11, o12, o13, o14, o15, o16⟩⟩ := hok
  obtain ⟨l1, l2, l3, l4⟩ := oL m9 (by omega) (by omega)
  have f1 := m_mod_r (a := d) (b := L m9) (by omega)
  refine lv_lload_n hx hb dX0_isOn_0 rfl (lv_at hl 2 rfl) ?_
  refine lv_aload_n hx hb dX0_isOn_1 rfl (lv_at hl 0 rfl) ?_
  refine lv_iload_n hx hb dX0_isOn_2 rfl (lv_at hl 1 rfl) ?_
  refine mw_cVi (rest := [.long (mL (d))]) (q := (RX0, TX0, 10)) hC (c_X0_lengthOf l D h0 a1 a2 cA cJ v L P m9 (by omega)) (cwV 1 hts gX0_isOn_X0_lengthOf rfl rfl rfl (by decide +kernel) ⟨Nat.le_of_ble_eq_true rfl, Nat.le_of_ble_eq_true rfl⟩) hK hP rfl rfl rfl hl.1 rfl (Nat.le_of_ble_eq_true rfl) ⟨Nat.zero_le _, Nat.zero_le _⟩ dX0_isOn_3 ?_
  refine mw_i2l hx hb (by omega) dX0_isOn_6 ?_
  refine mw_cSl (rest := []) hC (c_X0_modulo l d (L m9) (by omega) (by omega) (by omega)) (va_cwS 2 hts gX0_isOn_X0_modulo rfl rfl rfl (by decide +kernel) ⟨Nat.le_of_ble_eq_true rfl, Nat.le_of_ble_eq_true rfl⟩) rfl hl.1 rfl (Nat.le_of_ble_eq_true rfl) ⟨Nat.zero_le _, Nat.zero_le _⟩ dX0_isOn_7 ?_
  refine lv_aload_n hx hb dX0_isOn_10 rfl (lv_at hl 0 rfl) ?_
  refine lv_iload_n hx hb dX0_isOn_11 rfl (lv_at hl 1 rfl) ?_
  refine mw_cVi (rest := [.long (mL (d % (L m9)))]) (q := (RX0, TX0, 10)) hC (c_X0_placeOf l D h0 a1 a2 cA cJ v L P m9 (by omega)) (cwV 1 hts gX0_isOn_X0_placeOf rfl rfl rfl (by decide +kernel) ⟨Nat.le_of_ble_eq_true rfl, Nat.le_of_ble_eq_true rfl⟩) hK hP rfl rfl rfl hl.1 rfl (Nat.le_of_ble_eq_true rfl) ⟨Nat.zero_le _, Nat.zero_le _⟩ dX0_isOn_12 ?_
  refine mw_i2l hx hb (by omega) dX0_isOn_15 ?_
  refine mw_lcmp_ne (tgt := 24) hx hb (by omega) (by omega) dX0_isOn_16 dX0_isOn_17 (by decide) (fun c_17 => ?_) (fun c_17 => ?_)
  · refine mw_iconst hx hb dX0_isOn_24 ?_
    exact mw_retZ hx hb hr hlocks dX0_isOn_25 (by first | rfl | exact (mB_t (by omega)).symm | exact (mB_f (by omega)).symm | exact mB_iff (by omega) | omega)
  · refine mw_iconst hx hb dX0_isOn_20 ?_
    refine lv_goto (tgt := 25) hx hb dX0_isOn_21 (by decide) ?_
    exact mw_retZ hx hb hr hlocks dX0_isOn_25 (by first | rfl | exact (mB_t (by omega)).symm | exact (mB_f (by omega)).symm | exact mB_iff (by omega) | omega)

set_option maxHeartbeats 4000000 in
set_option maxRecDepth 100000 in
theorem c_X0_countHeld (l : Launch) (D : va_G) (h0 a1 a2 : Nat) (cA cJ : ClassId) (v : Nat → Int) (L P : Int → Int) (m9 a b : Int) (hok : mOK v L P) (hk : mMk v m9) (ha : -10000000 ≤ a ∧ a ≤ 10000000) (hb9 : -10000000 ≤ b ∧ b ≤ 10000000) : mP l yX0_countHeld wsX0_countHeld ({ frames := 2, cells := 0, slots := 0, locals := 48 }) [.ref h0, .int (mI (m9)), .int (mI (a)), .int (mI (b))] (mwB D (mXW h0 a1 a2 cA v L P) (mTy cA cJ)) (some (.int (mI (mCnt L P m9 a b)))) := by
  refine mw_open (cc := cX0_countHeld) (maxL := 6) (ret := (some .int)) (by decide +kernel) rfl (Nat.le_of_ble_eq_true rfl) ?_
  intro p e s m below meth c ls hC hr hlocks hB hl
  obtain ⟨hx, hb, hml, hown, hts⟩ := id hC
  obtain ⟨hP, hK⟩ := hB
  have hl : lv_has ls 6 [(0, .ref h0), (1, .int (mI (m9))), (2, .int (mI (a))), (3, .int (mI (b)))] := hl
  obtain ⟨⟨o1, o2⟩, oL, ⟨o3, o4, o5, o6, o7, o8⟩, ⟨o9, o10, o11, o12, o13, o14, o15, o16⟩⟩ := hok
  obtain ⟨l1, l2, l3, l4⟩ := oL m9 (by omega) (by omega)
  refine lv_aload_n hx hb dX0_countHeld_0 rfl (lv_at hl 0 rfl) ?_
  refine lv_iload_n hx hb dX0_countHeld_1 rfl (lv_at hl 1 rfl) ?_
  refine mw_cVi (rest := []) (q := (RX0, TX0, 10)) hC (c_X0_lengthOf l D h0 a1 a2 cA cJ v L P m9 (by omega)) (cwV 1 hts gX0_countHeld_X0_lengthOf rfl rfl rfl (by decide +kernel) ⟨Nat.le_of_ble_eq_true rfl, Nat.le_of_ble_eq_true rfl⟩) hK hP rfl rfl rfl hl.1 rfl (Nat.le_of_ble_eq_true rfl) ⟨Nat.zero_le _, Nat.zero_le _⟩ dX0_countHeld_2 ?_
  refine lv_istore (lv' := [(4, .int (mI (L m9))), (0, .ref h0), (1, .int (mI (m9))), (2, .int (mI (a))), (3, .int (mI (b)))]) hx hb dX0_countHeld_5 hl (by decide) rfl (fun ls hl => ?_)
  refine lv_aload_n hx hb dX0_countHeld_7 rfl (lv_at hl 1 rfl) ?_
  refine lv_iload_n hx hb dX0_countHeld_8 rfl (lv_at hl 2 rfl) ?_
  refine mw_cVi (rest := []) (q := (RX0, TX0, 10)) hC (c_X0_placeOf l D h0 a1 a2 cA cJ v L P m9 (by omega)) (cwV 1 hts gX0_countHeld_X0_placeOf rfl rfl rfl (by decide +kernel) ⟨Nat.le_of_ble_eq_true rfl, Nat.le_of_ble_eq_true rfl⟩) hK hP rfl rfl rfl hl.1 rfl (Nat.le_of_ble_eq_true rfl) ⟨Nat.zero_le _, Nat.zero_le _⟩ dX0_countHeld_9 ?_
  refine lv_istore (lv' := [(5, .int (mI (P m9))), (4, .int (mI (L m9))), (0, .ref h0), (1, .int (mI (m9))), (2, .int (mI (a))), (3, .int (mI (b)))]) hx hb dX0_countHeld_12 hl (by decide) rfl (fun ls hl => ?_)
  refine lv_iload_n hx hb dX0_countHeld_14 rfl (lv_at hl 5 rfl) ?_
  refine lv_iload hx hb dX0_countHeld_15 (lv_at hl 0 rfl) ?_
  refine mw_isub hx hb dX0_countHeld_17 ?_
  refine mw_i2l hx hb (by omega) dX0_countHeld_18 ?_
  refine lv_iload hx hb dX0_countHeld_19 (lv_at hl 1 rfl) ?_
  refine mw_i2l hx hb (by omega) dX0_countHeld_21 ?_
  refine mw_cSl (rest := []) hC (c_X0_divide l (b - (P m9)) (L m9) (by omega) (by omega) (by omega)) (va_cwS 2 hts gX0_countHeld_X0_divide rfl rfl rfl (by decide +kernel) ⟨Nat.le_of_ble_eq_true rfl, Nat.le_of_ble_eq_true rfl⟩) rfl hl.1 rfl (Nat.le_of_ble_eq_true rfl) ⟨Nat.zero_le _, Nat.zero_le _⟩ dX0_countHeld_22 ?_
  refine lv_iload_n hx hb dX0_countHeld_25 rfl (lv_at hl 4 rfl) ?_
  refine mw_iconst hx hb dX0_countHeld_26 ?_
  refine mw_isub hx hb dX0_countHeld_27 ?_
  refine lv_iload hx hb dX0_countHeld_28 (lv_at hl 0 rfl) ?_
  refine mw_isub hx hb dX0_countHeld_30 ?_
  refine mw_i2l hx hb (by omega) dX0_countHeld_31 ?_
  refine lv_iload hx hb dX0_countHeld_32 (lv_at hl 1 rfl) ?_
  refine mw_i2l hx hb (by omega) dX0_countHeld_34 ?_
  refine mw_cSl (rest := [.long (mL ((b - (P m9)) / (L m9)))]) hC (c_X0_divide l ((a - 1) - (P m9)) (L m9) (by omega) (by omega) (by omega)) (va_cwS 2 hts gX0_countHeld_X0_divide rfl rfl rfl (by decide +kernel) ⟨Nat.le_of_ble_eq_true rfl, Nat.le_of_ble_eq_true rfl⟩) rfl hl.1 rfl (Nat.le_of_ble_eq_true rfl) ⟨Nat.zero_le _, Nat.zero_le _⟩ dX0_countHeld_35 ?_
  refine mw_lsub hx hb dX0_countHeld_38 ?_
  refine mw_l2i hx hb dX0_countHeld_39 ?_
  exact mw_retI hx hb hr hlocks dX0_countHeld_40 rfl

set_option maxHeartbeats 4000000 in
set_option maxRecDepth 100000 in
theorem c_X0_moonParts (l : Launch) (D : va_G) (h0 a1 a2 : Nat) (cA cJ : ClassId) (v : Nat → Int) (L P : Int → Int) (d : Int) (hok : mOK v L P)  : mP l yX0_moonParts wsX0_moonParts ({ frames := 0, cells := 0, slots := 0, locals := 0 }) [.ref h0, .long (mL (d))] (mwB D (mXW h0 a1 a2 cA v L P) (mTy cA cJ)) (some (.long (mL (mMoon v d)))) := by
  refine mw_open (cc := cX0_moonParts) (maxL := 3) (ret := (some .long)) (by decide +kernel) rfl (Nat.le_of_ble_eq_true rfl) ?_
  intro p e s m below meth c ls hC hr hlocks hB hl
  obtain ⟨hx, hb, hml, hown, hts⟩ := id hC
  obtain ⟨hP, hK⟩ := hB
  have hin : ∀ w ∈ wsX00, w ∈ wsX0_moonParts := by decide +kernel
  have hl : lv_has ls 3 [(0, .ref h0), (1, .long (mL (d)))] := hl
  obtain ⟨⟨o1, o2⟩, oL, ⟨o3, o4, o5, o6, o7, o8⟩, ⟨o9, o10, o11, o12, o13, o14, o15, o16⟩⟩ := hok
  refine lv_lload_n hx hb dX0_moonParts_0 rfl (lv_at hl 1 rfl) ?_
  refine lv_aload_n hx hb dX0_moonParts_1 rfl (lv_at hl 0 rfl) ?_
  refine mw_getX hx hb hts hin hown hK hP rfl 5 (by decide) (by decide +kernel) rfl rfl dX0_moonParts_2 ?_
  refine mw_i2l hx hb (by omega) dX0_moonParts_5 ?_
  refine mw_ladd hx hb dX0_moonParts_6 ?_
  refine lv_aload_n hx hb dX0_moonParts_7 rfl (lv_at hl 0 rfl) ?_
  refine mw_getX hx hb hts hin hown hK hP rfl 4 (by decide) (by decide +kernel) rfl rfl dX0_moonParts_8 ?_
  refine mw_i2l hx hb (by omega) dX0_moonParts_11 ?_
  refine mw_lmul hx hb dX0_moonParts_12 ?_
  exact mw_retL hx hb hr hlocks dX0_moonParts_13 rfl

set_option maxHeartbeats 4000000 in
set_option maxRecDepth 100000 in
theorem c_X0_lunarDayOf (l : Launch) (D : va_G) (h0 a1 a2 : Nat) (cA cJ : ClassId) (v : Nat → Int) (L P : Int → Int) (d : Int) (hok : mOK v L P) (hd : -1000000000000 ≤ d ∧ d ≤ 1000000000000) : mP l yX0_lunarDayOf wsX0_lunarDayOf ({ frames := 2, cells := 0, slots := 0, locals := 48 }) [.ref h0, .long (mL (d))] (mwB D (mXW h0 a1 a2 cA v L P) (mTy cA cJ)) (some (.long (mL (mLunar v d)))) := by
  refine mw_open (cc := cX0_lunarDayOf) (maxL := 3) (ret := (some .long)) (by decide +kernel) rfl (Nat.le_of_ble_eq_true rfl) ?_
  intro p e s m below meth c ls hC hr hlocks hB hl
  obtain ⟨hx, hb, hml, hown, hts⟩ := id hC
  obtain ⟨hP, hK⟩ := hB
  have hin : ∀ w ∈ wsX00, w ∈ wsX0_lunarDayOf := by decide +kernel
  have hl : lv_has ls 3 [(0, .ref h0), (1, .long (mL (d)))] := hl
  have hok9 := hok
  obtain ⟨⟨o1, o2⟩, oL, ⟨o3, o4, o5, o6, o7, o8⟩, ⟨o9, o10, o11, o12, o13, o14, o15, o16⟩⟩ := hok9
  have f1 := m_bound (d + v 3) (v 2) (A := 1000000001000) (B := 100) (by omega) (by omega)
  have f2 : mMoon v d = (d + v 3) * v 2 := rfl
  have f3 := m_mod_r (a := mMoon v d) (b := v 1) (by omega)
  refine lv_aload_n hx hb dX0_lunarDayOf_0 rfl (lv_at hl 0 rfl) ?_
  refine lv_lload_n hx hb dX0_lunarDayOf_1 rfl (lv_at hl 1 rfl) ?_
  refine mw_cVl (rest := []) (q := (RX0, TX0, 10)) hC (c_X0_moonParts l D h0 a1 a2 cA cJ v L P d (id hok)) (cwV 1 hts gX0_lunarDayOf_X0_moonParts rfl rfl rfl (by decide +kernel) ⟨Nat.le_of_ble_eq_true rfl, Nat.le_of_ble_eq_true rfl⟩) hK hP rfl rfl rfl hl.1 rfl (Nat.le_of_ble_eq_true rfl) ⟨Nat.zero_le _, Nat.zero_le _⟩ dX0_lunarDayOf_2 ?_
  refine lv_aload_n hx hb dX0_lunarDayOf_5 rfl (lv_at hl 0 rfl) ?_
  refine mw_getX hx hb hts hin hown hK hP rfl 3 (by decide) (by decide +kernel) rfl rfl dX0_lunarDayOf_6 ?_
  refine mw_i2l hx hb (by omega) dX0_lunarDayOf_9 ?_
  refine mw_cSl (rest := []) hC (c_X0_modulo l (mMoon v d) (v 1) (by omega) (by omega) (by omega)) (va_cwS 2 hts gX0_lunarDayOf_X0_modulo rfl rfl rfl (by decide +kernel) ⟨Nat.le_of_ble_eq_true rfl, Nat.le_of_ble_eq_true rfl⟩) rfl hl.1 rfl (Nat.le_of_ble_eq_true rfl) ⟨Nat.zero_le _, Nat.zero_le _⟩ dX0_lunarDayOf_10 ?_
  refine lv_aload_n hx hb dX0_lunarDayOf_13 rfl (lv_at hl 0 rfl) ?_
  refine mw_getX hx hb hts hin hown hK hP rfl 4 (by decide) (by decide +kernel) rfl rfl dX0_lunarDayOf_14 ?_
  refine mw_i2l hx hb (by omega) dX0_lunarDayOf_17 ?_
  refine mw_cSl (rest := []) hC (c_X0_divide l ((mMoon v d) % (v 1)) (v 2) (by omega) (by omega) (by omega)) (va_cwS 2 hts gX0_lunarDayOf_X0_divide rfl rfl rfl (by decide +kernel) ⟨Nat.le_of_ble_eq_true rfl, Nat.le_of_ble_eq_true rfl⟩) rfl hl.1 rfl (Nat.le_of_ble_eq_true rfl) ⟨Nat.zero_le _, Nat.zero_le _⟩ dX0_lunarDayOf_18 ?_
  exact mw_retL hx hb hr hlocks dX0_lunarDayOf_21 rfl

set_option maxHeartbeats 4000000 in
set_option maxRecDepth 100000 in
theorem c_X0_yearBegin (l : Launch) (D : va_G) (h0 a1 a2 : Nat) (cA cJ : ClassId) (v : Nat → Int) (L P : Int → Int) (y : Int) (hok : mOK v L P) (hy : -20000 ≤ y ∧ y ≤ 20000) : mP l yX0_yearBegin wsX0_yearBegin ({ frames := 2, cells := 0, slots := 0, locals := 48 }) [.ref h0, .int (mI (y))] (mwB D (mXW h0 a1 a2 cA v L P) (mTy cA cJ)) (some (.int (mI (mBeg v y)))) := by
  refine mw_open (cc := cX0_yearBegin) (maxL := 2) (ret := (some .int)) (by decide +kernel) rfl (Nat.le_of_ble_eq_true rfl) ?_
  intro p e s m below meth c ls hC hr hlocks hB hl
  obtain ⟨hx, hb, hml, hown, hts⟩ := id hC
  obtain ⟨hP, hK⟩ := hB
  have hin : ∀ w ∈ wsX00, w ∈ wsX0_yearBegin := by decide +kernel
  have hl : lv_has ls 2 [(0, .ref h0), (1, .int (mI (y)))] := hl
  obtain ⟨⟨o1, o2⟩, oL, ⟨o3, o4, o5, o6, o7, o8⟩, ⟨o9, o10, o11, o12, o13, o14, o15, o16⟩⟩ := hok
  have f1 := m_bound (v 5) y (A := 400) (B := 20000) (by omega) (by omega)
  refine lv_aload_n hx hb dX0_yearBegin_0 rfl (lv_at hl 0 rfl) ?_
  refine mw_getX hx hb hts hin hown hK hP rfl 6 (by decide) (by decide +kernel) rfl rfl dX0_yearBegin_1 ?_
  refine lv_iload_n hx hb dX0_yearBegin_4 rfl (lv_at hl 1 rfl) ?_
  refine mw_imul hx hb dX0_yearBegin_5 ?_
  refine lv_aload_n hx hb dX0_yearBegin_6 rfl (lv_at hl 0 rfl) ?_
  refine mw_getX hx hb hts hin hown hK hP rfl 7 (by decide) (by decide +kernel) rfl rfl dX0_yearBegin_7 ?_
  refine lv_iload_n hx hb dX0_yearBegin_10 rfl (lv_at hl 1 rfl) ?_
  refine mw_imul hx hb dX0_yearBegin_11 ?_
  refine lv_aload_n hx hb dX0_yearBegin_12 rfl (lv_at hl 0 rfl) ?_
  refine mw_getX hx hb hts hin hown hK hP rfl 8 (by decide) (by decide +kernel) rfl rfl dX0_yearBegin_13 ?_
  refine mw_iadd hx hb dX0_yearBegin_16 ?_
  refine mw_i2l hx hb (by omega) dX0_yearBegin_17 ?_
  refine lv_aload_n hx hb dX0_yearBegin_18 rfl (lv_at hl 0 rfl) ?_
  refine mw_getX hx hb hts hin hown hK hP rfl 9 (by decide) (by decide +kernel) rfl rfl dX0_yearBegin_19 ?_
  refine mw_i2l hx hb (by omega) dX0_yearBegin_22 ?_
  refine mw_cSl (rest := [.int (mI ((v 4) * y))]) hC (c_X0_divide l (((v 5) * y) + (v 6)) (v 7) (by omega) (by omega) (by omega)) (va_cwS 2 hts gX0_yearBegin_X0_divide rfl rfl rfl (by decide +kernel) ⟨Nat.le_of_ble_eq_true rfl, Nat.le_of_ble_eq_true rfl⟩) rfl hl.1 rfl (Nat.le_of_ble_eq_true rfl) ⟨Nat.zero_le _, Nat.zero_le _⟩ dX0_yearBegin_23 ?_
  refine mw_l2i hx hb dX0_yearBegin_26 ?_
  refine mw_iadd hx hb dX0_yearBegin_27 ?_
  exact mw_retI hx hb hr hlocks dX0_yearBegin_28 rfl

set_option maxHeartbeats 4000000 in
set_option maxRecDepth 100000 in
theorem c_X0_hasLeapDay (l : Launch) (D : va_G) (h0 a1 a2 : Nat) (cA cJ : ClassId) (v : Nat → Int) (L P : Int → Int) (y : Int) (hok : mOK v L P) (hy : -20000 ≤ y ∧ y ≤ 20000) : mP l yX0_hasLeapDay wsX0_hasLeapDay ({ frames := 2, cells := 0, slots := 0, locals := 48 }) [.ref h0, .int (mI (y))] (mwB D (mXW h0 a1 a2 cA v L P) (mTy cA cJ)) (some (.int (mI (mB (mLeap v y))))) := by
  refine mw_open (cc := cX0_hasLeapDay) (maxL := 2) (ret := (some .boolean)) (by decide +kernel) rfl (Nat.le_of_ble_eq_true rfl) ?_
  intro p e s m below meth c ls hC hr hlocks hB hl
  obtain ⟨hx, hb, hml, hown, hts⟩ := id hC
  obtain ⟨hP, hK⟩ := hB
  have hin : ∀ w ∈ wsX00, w ∈ wsX0_hasLeapDay := by decide +kernel
  have hl : lv_has ls 2 [(0, .ref h0), (1, .int (mI (y)))] := hl
  obtain ⟨⟨o1, o2⟩, oL, ⟨o3, o4, o5, o6, o7, o8⟩, ⟨o9, o10, o11, o12, o13, o14, o15, o16⟩⟩ := hok
  have f1 := m_bound (v 5) y (A := 400) (B := 20000) (by omega) (by omega)
  have f2 := m_mod_r (a := v 5 * y + v 6) (b := v 7) (by omega)
  refine lv_aload_n hx hb dX0_hasLeapDay_0 rfl (lv_at hl 0 rfl) ?_
  refine mw_getX hx hb hts hin hown hK hP rfl 7 (by decide) (by decide +kernel) rfl rfl dX0_hasLeapDay_1 ?_
  refine lv_iload_n hx hb dX0_hasLeapDay_4 rfl (lv_at hl 1 rfl) ?_
  refine mw_imul hx hb dX0_hasLeapDay_5 ?_
  refine lv_aload_n hx hb dX0_hasLeapDay_6 rfl (lv_at hl 0 rfl) ?_
  refine mw_getX hx hb hts hin hown hK hP rfl 8 (by decide) (by decide +kernel) rfl rfl dX0_hasLeapDay_7 ?_
  refine mw_iadd hx hb dX0_hasLeapDay_10 ?_
  refine mw_i2l hx hb (by omega) dX0_hasLeapDay_11 ?_
  refine lv_aload_n hx hb dX0_hasLeapDay_12 rfl (lv_at hl 0 rfl) ?_
  refine mw_getX hx hb hts hin hown hK hP rfl 9 (by decide) (by decide +kernel) rfl rfl dX0_hasLeapDay_13 ?_
  refine mw_i2l hx hb (by omega) dX0_hasLeapDay_16 ?_
  refine mw_cSl (rest := []) hC (c_X0_modulo l (((v 5) * y) + (v 6)) (v 7) (by omega) (by omega) (by omega)) (va_cwS 2 hts gX0_hasLeapDay_X0_modulo rfl rfl rfl (by decide +kernel) ⟨Nat.le_of_ble_eq_true rfl, Nat.le_of_ble_eq_true rfl⟩) rfl hl.1 rfl (Nat.le_of_ble_eq_true rfl) ⟨Nat.zero_le _, Nat.zero_le _⟩ dX0_hasLeapDay_17 ?_
  refine lv_aload_n hx hb dX0_hasLeapDay_20 rfl (lv_at hl 0 rfl) ?_
  refine mw_getX hx hb hts hin hown hK hP rfl 9 (by decide) (by decide +kernel) rfl rfl dX0_hasLeapDay_21 ?_
  refine lv_aload_n hx hb dX0_hasLeapDay_24 rfl (lv_at hl 0 rfl) ?_
  refine mw_getX hx hb hts hin hown hK hP rfl 7 (by decide) (by decide +kernel) rfl rfl dX0_hasLeapDay_25 ?_
  refine mw_isub hx hb dX0_hasLeapDay_28 ?_
  refine mw_i2l hx hb (by omega) dX0_hasLeapDay_29 ?_
  refine mw_lcmp_lt (tgt := 38) hx hb (by omega) (by omega) dX0_hasLeapDay_30 dX0_hasLeapDay_31 (by decide) (fun c_31 => ?_) (fun c_31 => ?_)
  · refine mw_iconst hx hb dX0_hasLeapDay_38 ?_
    exact mw_retZ hx hb hr hlocks dX0_hasLeapDay_39 (by first | rfl | exact (mB_t (by omega)).symm | exact (mB_f (by omega)).symm | exact mB_iff (by omega) | omega)
  · refine mw_iconst hx hb dX0_hasLeapDay_34 ?_
    refine lv_goto (tgt := 39) hx hb dX0_hasLeapDay_35 (by decide) ?_
    exact mw_retZ hx hb hr hlocks dX0_hasLeapDay_39 (by first | rfl | exact (mB_t (by omega)).symm | exact (mB_f (by omega)).symm | exact mB_iff (by omega) | omega)

set_option maxHeartbeats 4000000 in
set_option maxRecDepth 100000 in
theorem c_X0_yearOf (l : Launch) (D : va_G) (h0 a1 a2 : Nat) (cA cJ : ClassId) (v : Nat → Int) (L P : Int → Int) (d : Int) (hok : mOK v L P) (hd : mDay d) : mP l yX0_yearOf wsX0_yearOf ({ frames := 2, cells := 0, slots := 0, locals := 48 }) [.ref h0, .int (mI (d))] (mwB D (mXW h0 a1 a2 cA v L P) (mTy cA cJ)) (some (.int (mI (mYr v d)))) := by
  refine mw_open (cc := cX0_yearOf) (maxL := 4) (ret := (some .int)) (by decide +kernel) rfl (Nat.le_of_ble_eq_true rfl) ?_
  intro p e s m below meth c ls hC hr hlocks hB hl
  obtain ⟨hx, hb, hml, hown, hts⟩ := id hC
  obtain ⟨hP, hK⟩ := hB
  have hin : ∀ w ∈ wsX00, w ∈ wsX0_yearOf := by decide +kernel
  have hl : lv_has ls 4 [(0, .ref h0), (1, .int (mI (d)))] := hl
  obtain ⟨⟨o1, o2⟩, oL, ⟨o3, o4, o5, o6, o7, o8⟩, ⟨o9, o10, o11, o12, o13, o14, o15, o16⟩⟩ := hok
  have f1 := m_bound (v 7) (d + 1) (A := 400) (B := 1000001) (by omega) (by omega)
  have f2 := m_bound (v 4) (v 7) (A := 500) (B := 400) (by omega) (by omega)
  have f3 : 0 < v 4 * v 7 := Int.mul_pos (by omega) (by omega)
  refine lv_aload_n hx hb dX0_yearOf_0 rfl (lv_at hl 0 rfl) ?_
  refine mw_getX hx hb hts hin hown hK hP rfl 9 (by decide) (by decide +kernel) rfl rfl dX0_yearOf_1 ?_
  refine mw_i2l hx hb (by omega) dX0_yearOf_4 ?_
  refine lv_iload_n hx hb dX0_yearOf_5 rfl (lv_at hl 1 rfl) ?_
  refine mw_iconst hx hb dX0_yearOf_6 ?_
  refine mw_iadd hx hb dX0_yearOf_7 ?_
  refine mw_i2l hx hb (by omega) dX0_yearOf_8 ?_
  refine mw_lmul hx hb dX0_yearOf_9 ?_
  refine mw_lconst hx hb 1 (by decide +kernel) dX0_yearOf_10 ?_
  refine mw_lsub hx hb dX0_yearOf_11 ?_
  refine lv_aload_n hx hb dX0_yearOf_12 rfl (lv_at hl 0 rfl) ?_
  refine mw_getX hx hb hts hin hown hK hP rfl 8 (by decide) (by decide +kernel) rfl rfl dX0_yearOf_13 ?_
  refine mw_i2l hx hb (by omega) dX0_yearOf_16 ?_
  refine mw_lsub hx hb dX0_yearOf_17 ?_
  refine lv_lstore_n (lv' := [(2, .long (mL ((((v 7) * (d + 1)) - 1) - (v 6)))), (0, .ref h0), (1, .int (mI (d)))]) hx hb dX0_yearOf_18 rfl hl (by decide) rfl (fun ls hl => ?_)
  refine lv_lload_n hx hb dX0_yearOf_19 rfl (lv_at hl 0 rfl) ?_
  refine lv_aload_n hx hb dX0_yearOf_20 rfl (lv_at hl 1 rfl) ?_
  refine mw_getX hx hb hts hin hown hK hP rfl 6 (by decide) (by decide +kernel) rfl rfl dX0_yearOf_21 ?_
  refine mw_i2l hx hb (by omega) dX0_yearOf_24 ?_
  refine lv_aload_n hx hb dX0_yearOf_25 rfl (lv_at hl 1 rfl) ?_
  refine mw_getX hx hb hts hin hown hK hP rfl 9 (by decide) (by decide +kernel) rfl rfl dX0_yearOf_26 ?_
  refine mw_i2l hx hb (by omega) dX0_yearOf_29 ?_
  refine mw_lmul hx hb dX0_yearOf_30 ?_
  refine lv_aload_n hx hb dX0_yearOf_31 rfl (lv_at hl 1 rfl) ?_
  refine mw_getX hx hb hts hin hown hK hP rfl 7 (by decide) (by decide +kernel) rfl rfl dX0_yearOf_32 ?_
  refine mw_i2l hx hb (by omega) dX0_yearOf_35 ?_
  refine mw_ladd hx hb dX0_yearOf_36 ?_
  refine mw_cSl (rest := []) hC (c_X0_divide l ((((v 7) * (d + 1)) - 1) - (v 6)) (((v 4) * (v 7)) + (v 5)) (by omega) (by omega) (by omega)) (va_cwS 2 hts gX0_yearOf_X0_divide rfl rfl rfl (by decide +kernel) ⟨Nat.le_of_ble_eq_true rfl, Nat.le_of_ble_eq_true rfl⟩) rfl hl.1 rfl (Nat.le_of_ble_eq_true rfl) ⟨Nat.zero_le _, Nat.zero_le _⟩ dX0_yearOf_37 ?_
  refine mw_l2i hx hb dX0_yearOf_40 ?_
  exact mw_retI hx hb hr hlocks dX0_yearOf_41 rfl

set_option maxHeartbeats 4000000 in
set_option maxRecDepth 100000 in
theorem c_X0_setOn (l : Launch) (D : va_G) (h0 a1 a2 : Nat) (cA cJ : ClassId) (v : Nat → Int) (L P : Int → Int) (d : Int) (hok : mOK v L P) (hd : mDay d) : mP l yX0_setOn wsX0_setOn ({ frames := 3, cells := 0, slots := 0, locals := 71 }) [.ref h0, .int (mI (d))] (mwB D (mXW h0 a1 a2 cA v L P) (mTy cA cJ)) (some (.int (mI (mSet L P d (v 0).toNat)))) := by
  refine mw_open (cc := cX0_setOn) (maxL := 4) (ret := (some .int)) (by decide +kernel) rfl (Nat.le_of_ble_eq_true rfl) ?_
  intro p e s m below meth c ls hC hr hlocks hB hl
  obtain ⟨hx, hb, hml, hown, hts⟩ := id hC
  obtain ⟨hP, hK⟩ := hB
  have hin : ∀ w ∈ wsX00, w ∈ wsX0_setOn := by decide +kernel
  have hl : lv_has ls 4 [(0, .ref h0), (1, .int (mI (d)))] := hl
  have hok9 := hok
  obtain ⟨⟨o1, o2⟩, oL, ⟨o3, o4, o5, o6, o7, o8⟩, ⟨o9, o10, o11, o12, o13, o14, o15, o16⟩⟩ := hok9
  refine mw_iconst hx hb dX0_setOn_0 ?_
  refine lv_istore_n (lv' := [(2, .int (mI (0))), (0, .ref h0), (1, .int (mI (d)))]) hx hb dX0_setOn_1 rfl hl (by decide) rfl (fun ls hl => ?_)
  refine mw_iconst hx hb dX0_setOn_2 ?_
  refine lv_istore_n (lv' := [(3, .int (mI (0))), (2, .int (mI (0))), (0, .ref h0), (1, .int (mI (d)))]) hx hb dX0_setOn_3 rfl hl (by decide) rfl (fun ls hl => ?_)
  refine mw_loop (T := Int × Int) (nL := 4) (fun x => (0 ≤ x.1 ∧ x.1 ≤ v 0) ∧ x.2 = mSet L P d (x.1).toNat) (fun x => (v 0 - x.1).toNat) 4 (fun x => [(3, .int (mI (x.1))), (2, .int (mI (x.2))), (0, .ref h0), (1, .int (mI (d)))]) ?_ ((0 : Int), (0 : Int)) (show (0 ≤ (0 : Int) ∧ (0 : Int) ≤ v 0) ∧ (0 : Int) = mSet L P d ((0 : Int)).toNat from ⟨⟨by omega, by omega⟩, rfl⟩) ls (lv_sub hl [0, 1, 2, 3] rfl)
  intro x hI ih ls hl
  obtain ⟨i, z⟩ := x
  have hl : lv_has ls 4 [(3, .int (mI (i))), (2, .int (mI (z))), (0, .ref h0), (1, .int (mI (d)))] := hl
  have hI : (0 ≤ i ∧ i ≤ v 0) ∧ z = mSet L P d (i).toNat := hI
  obtain ⟨⟨i1, i2⟩, i3⟩ := hI
  have f1 := mSet_r L P d i.toNat
  have f2 : ((i.toNat : Nat) : Int) = i := by omega
  have f3 : (i + 1).toNat = i.toNat + 1 := by omega
  have f6 : i.toNat < 16 → mShl 1 i = 2 ^ i.toNat := fun h => by have := mShl_e i.toNat (by omega); rw [f2] at this; exact this
  have f4 : i < v 0 → d % L i = P i → mOr z (mShl 1 i) = mSet L P d (i + 1).toNat := fun h0 h => by
    rw [f3, f6 (by omega), i3, mOr_e f1.1 f1.2 (by omega), mSet_s, f2, if_pos h]
  have f5 : ¬ d % L i = P i → z = mSet L P d (i + 1).toNat := fun h => by
    rw [f3, mSet_s, f2, if_neg h, Int.add_zero]
    exact i3
  refine lv_iload_n hx hb dX0_setOn_4 rfl (lv_at hl 0 rfl) ?_
  refine lv_aload_n hx hb dX0_setOn_5 rfl (lv_at hl 2 rfl) ?_
  refine mw_getX hx hb hts hin hown hK hP rfl 2 (by decide) (by decide +kernel) rfl rfl dX0_setOn_6 ?_
  refine mw_icmp_ge (tgt := 34) hx hb (by omega) (by omega) dX0_setOn_9 (by decide) (fun c_9 => ?_) (fun c_9 => ?_)
  · refine lv_iload_n hx hb dX0_setOn_34 rfl (lv_at hl 1 rfl) ?_
    exact mw_retI hx hb hr hlocks dX0_setOn_35 (by rw [i3]; congr 1; omega)
  · refine lv_aload_n hx hb dX0_setOn_12 rfl (lv_at hl 2 rfl) ?_
    refine lv_iload_n hx hb dX0_setOn_13 rfl (lv_at hl 0 rfl) ?_
    refine lv_iload_n hx hb dX0_setOn_14 rfl (lv_at hl 3 rfl) ?_
    refine mw_i2l hx hb (by omega) dX0_setOn_15 ?_
    refine mw_cVi (rest := []) (q := (RX0, TX0, 10)) hC (c_X0_isOn l D h0 a1 a2 cA cJ v L P i d (id hok) (by omega) (by omega)) (cwV 2 hts gX0_setOn_X0_isOn rfl rfl rfl (by decide +kernel) ⟨Nat.le_of_ble_eq_true rfl, Nat.le_of_ble_eq_true rfl⟩) hK hP rfl rfl rfl hl.1 rfl (Nat.le_of_ble_eq_true rfl) ⟨Nat.zero_le _, Nat.zero_le _⟩ dX0_setOn_16 ?_
    refine mw_zeq (tgt := 28) hx hb dX0_setOn_19 (by decide) (fun c_19 => ?_) (fun c_19 => ?_)
    · refine mw_iinc (k := 0) (lv' := [(3, .int (mI (i + 1))), (2, .int (mI (z))), (0, .ref h0), (1, .int (mI (d)))]) hx hb dX0_setOn_28 hl rfl (by decide) rfl (fun ls hl => ?_)
      refine lv_goto (tgt := 4) hx hb dX0_setOn_31 (by decide) ?_
      exact ih ((i + 1), z) (show (0 ≤ (i + 1) ∧ (i + 1) ≤ v 0) ∧ z = mSet L P d ((i + 1)).toNat from ⟨⟨by omega, by omega⟩, f5 c_19⟩) (show (v 0 - (i + 1)).toNat < (v 0 - i).toNat from (by omega)) ls (lv_sub hl [0, 1, 2, 3] rfl)
    · refine lv_iload_n hx hb dX0_setOn_22 rfl (lv_at hl 1 rfl) ?_
      refine mw_iconst hx hb dX0_setOn_23 ?_
      refine lv_iload_n hx hb dX0_setOn_24 rfl (lv_at hl 0 rfl) ?_
      refine mw_ishl hx hb dX0_setOn_25 ?_
      refine mw_ior hx hb dX0_setOn_26 ?_
      refine lv_istore_n (lv' := [(2, .int (mI (mOr z (mShl 1 i)))), (3, .int (mI (i))), (0, .ref h0), (1, .int (mI (d)))]) hx hb dX0_setOn_27 rfl hl (by decide) rfl (fun ls hl => ?_)
      refine mw_iinc (k := 1) (lv' := [(3, .int (mI (i + 1))), (2, .int (mI (mOr z (mShl 1 i)))), (0, .ref h0), (1, .int (mI (d)))]) hx hb dX0_setOn_28 hl rfl (by decide) rfl (fun ls hl => ?_)
      refine lv_goto (tgt := 4) hx hb dX0_setOn_31 (by decide) ?_
      exact ih ((i + 1), (mOr z (mShl 1 i))) (show (0 ≤ (i + 1) ∧ (i + 1) ≤ v 0) ∧ (mOr z (mShl 1 i)) = mSet L P d ((i + 1)).toNat from ⟨⟨by omega, by omega⟩, f4 (by omega) c_19⟩) (show (v 0 - (i + 1)).toNat < (v 0 - i).toNat from (by omega)) ls (lv_sub hl [0, 1, 2, 3] rfl)

set_option maxHeartbeats 4000000 in
set_option maxRecDepth 100000 in
theorem c_X0_commonMultiple (l : Launch) (a b : Int) (ha : 1 ≤ a ∧ a ≤ 1000000000) (hb9 : 1 ≤ b ∧ b ≤ 60) : mP l yX0_commonMultiple wsX0_commonMultiple ({ frames := 2, cells := 0, slots := 0, locals := 48 }) [.long (mL (a)), .int (mI (b))] (fun _ => True) (some (.long (mL (a * (mFac a b : Int))))) := by
  refine mw_open (cc := cX0_commonMultiple) (maxL := 4) (ret := (some .long)) (by decide +kernel) rfl (Nat.le_of_ble_eq_true rfl) ?_
  intro p e s m below meth c ls hC hr hlocks hB hl
  obtain ⟨hx, hb, hml, hown, hts⟩ := id hC
  have hl : lv_has ls 4 [(0, .long (mL (a))), (2, .int (mI (b)))] := hl
  refine mw_iconst hx hb dX0_commonMultiple_0 ?_
  refine lv_istore_n (lv' := [(3, .int (mI (1))), (0, .long (mL (a))), (2, .int (mI (b)))]) hx hb dX0_commonMultiple_1 rfl hl (by decide) rfl (fun ls hl => ?_)
  refine mw_loop (T := Int) (nL := 4) (fun x => (1 ≤ x ∧ x ≤ b) ∧ ∀ k : Nat, (k : Int) + 1 < x → ¬ (a * ((k : Int) + 1)) % b = 0) (fun x => (b - x).toNat) 2 (fun x => [(3, .int (mI (x))), (0, .long (mL (a))), (2, .int (mI (b)))]) ?_ ((1 : Int)) (show (1 ≤ (1 : Int) ∧ (1 : Int) ≤ b) ∧ ∀ k : Nat, (k : Int) + 1 < (1 : Int) → ¬ (a * ((k : Int) + 1)) % b = 0 from ⟨⟨by omega, by omega⟩, fun k hk => by omega⟩) ls (lv_sub hl [0, 1, 2] rfl)
  intro x hI ih ls hl
  obtain ⟨i, rfl⟩ : ∃ y, y = x := ⟨_, rfl⟩
  have hl : lv_has ls 4 [(3, .int (mI (i))), (0, .long (mL (a))), (2, .int (mI (b)))] := hl
  have hI : (1 ≤ i ∧ i ≤ b) ∧ ∀ k : Nat, (k : Int) + 1 < i → ¬ (a * ((k : Int) + 1)) % b = 0 := hI
  obtain ⟨⟨i1, i2⟩, i3⟩ := hI
  have f1 := m_bound a i (A := 1000000000) (B := 60) (by omega) (by omega)
  have f3 := m_mod_r (a := a * i) (b := b) (by omega)
  have f2 : ∀ k : Nat, (k : Int) + 1 < i + 1 → a * i % b ≠ 0 → ¬ (a * ((k : Int) + 1)) % b = 0 := fun k hk hc => by
    rcases (by omega : (k : Int) + 1 < i ∨ (k : Int) + 1 = i) with q | q
    · exact i3 k q
    · rw [q]; exact hc
  have f4 : i ≤ b → (i < b → a * i % b = 0) → a * i = a * (mFac a b : Int) := fun h1 h2 => by
    have e : mFst (fun f => decide ((a * ((f : Int) + 1)) % b = 0)) (b.toNat - 1) = (i - 1).toNat := mFst_eq _ (by omega) (fun j hj => decide_eq_false (i3 j (by omega))) (fun h => decide_eq_true (by
      have e2 : (((i - 1).toNat : Nat) : Int) + 1 = i := by omega
      rw [e2]; exact h2 (by omega)))
    have e3 : (mFac a b : Int) = i := by
      unfold mFac
      rw [e]
      omega
    rw [e3]
  refine lv_iload_n hx hb dX0_commonMultiple_2 rfl (lv_at hl 0 rfl) ?_
  refine lv_iload_n hx hb dX0_commonMultiple_3 rfl (lv_at hl 2 rfl) ?_
  refine mw_icmp_ge (tgt := 32) hx hb (by omega) (by omega) dX0_commonMultiple_4 (by decide) (fun c_4 => ?_) (fun c_4 => ?_)
  · refine lv_lload_n hx hb dX0_commonMultiple_32 rfl (lv_at hl 1 rfl) ?_
    refine lv_iload_n hx hb dX0_commonMultiple_33 rfl (lv_at hl 2 rfl) ?_
    refine mw_i2l hx hb (by omega) dX0_commonMultiple_34 ?_
    refine mw_lmul hx hb dX0_commonMultiple_35 ?_
    exact mw_retL hx hb hr hlocks dX0_commonMultiple_36 (by have e : i = b := (by omega); subst e; exact f4 (Int.le_refl _) (fun h => absurd h (by omega)))
  · refine lv_lload_n hx hb dX0_commonMultiple_7 rfl (lv_at hl 1 rfl) ?_
    refine lv_iload_n hx hb dX0_commonMultiple_8 rfl (lv_at hl 0 rfl) ?_
    refine mw_i2l hx hb (by omega) dX0_commonMultiple_9 ?_
    refine mw_lmul hx hb dX0_commonMultiple_10 ?_
    refine lv_iload_n hx hb dX0_commonMultiple_11 rfl (lv_at hl 2 rfl) ?_
    refine mw_i2l hx hb (by omega) dX0_commonMultiple_12 ?_
    refine mw_cSl (rest := []) hC (c_X0_modulo l (a * i) b (by omega) (by omega) (by omega)) (va_cwS 2 hts gX0_commonMultiple_X0_modulo rfl rfl rfl (by decide +kernel) ⟨Nat.le_of_ble_eq_true rfl, Nat.le_of_ble_eq_true rfl⟩) rfl hl.1 rfl (Nat.le_of_ble_eq_true rfl) ⟨Nat.zero_le _, Nat.zero_le _⟩ dX0_commonMultiple_13 ?_
    refine mw_lconst hx hb 0 (by decide +kernel) dX0_commonMultiple_16 ?_
    refine mw_lcmp_ne (tgt := 26) hx hb (by omega) (by omega) dX0_commonMultiple_17 dX0_commonMultiple_18 (by decide) (fun c_18 => ?_) (fun c_18 => ?_)
    · refine mw_iinc (k := 0) (lv' := [(3, .int (mI (i + 1))), (0, .long (mL (a))), (2, .int (mI (b)))]) hx hb dX0_commonMultiple_26 hl rfl (by decide) rfl (fun ls hl => ?_)
      refine lv_goto (tgt := 2) hx hb dX0_commonMultiple_29 (by decide) ?_
      exact ih ((i + 1)) (show (1 ≤ (i + 1) ∧ (i + 1) ≤ b) ∧ ∀ k : Nat, (k : Int) + 1 < (i + 1) → ¬ (a * ((k : Int) + 1)) % b = 0 from ⟨⟨by omega, by omega⟩, fun k hk => f2 k hk c_18⟩) (show (b - (i + 1)).toNat < (b - i).toNat from (by omega)) ls (lv_sub hl [0, 1, 2] rfl)
    · refine lv_lload_n hx hb dX0_commonMultiple_21 rfl (lv_at hl 1 rfl) ?_
      refine lv_iload_n hx hb dX0_commonMultiple_22 rfl (lv_at hl 0 rfl) ?_
      refine mw_i2l hx hb (by omega) dX0_commonMultiple_23 ?_
      refine mw_lmul hx hb dX0_commonMultiple_24 ?_
      exact mw_retL hx hb hr hlocks dX0_commonMultiple_25 (f4 i2 (fun _ => by omega))
end
section
theorem zz_last : True := trivial
end
