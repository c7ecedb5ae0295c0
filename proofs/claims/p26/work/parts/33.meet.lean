def mD0 (o : Option (Int × Int)) : Int := match o with
  | none => -1
  | some y => y.1
def mSt (o : Option (Int × Int)) : Int := match o with
  | none => 1
  | some y => y.2
def mSJ (L P : Int → Int) (m st d : Int) : Int := if (mJ (L m) (P m) st d : Int) < L m then d + (mJ (L m) (P m) st d : Int) * st else -1
theorem mFd_none {L P : Int → Int} {z d0 : Int} {k : Nat} (h : mFd L P z d0 k = none) : mFd L P z d0 (k + 1) = none := by unfold mFd; rw [h]
theorem mFd_bit {L P : Int → Int} {z d0 d st : Int} {k : Nat} (h : mFd L P z d0 k = some (d, st)) (hb : mBit z k = 1) : mFd L P z d0 (k + 1) = if (mJ (L (k : Int)) (P (k : Int)) st d : Int) < L (k : Int) then some (d + (mJ (L (k : Int)) (P (k : Int)) st d : Int) * st, st * (mFac st (L (k : Int)) : Int)) else none := by
  conv => lhs; unfold mFd
  rw [h]
  simp only [hb, if_true]
theorem mFd_no {L P : Int → Int} {z d0 d st : Int} {k : Nat} (h : mFd L P z d0 k = some (d, st)) (hb : ¬ mBit z k = 1) : mFd L P z d0 (k + 1) = some (d, st) := by
  conv => lhs; unfold mFd
  rw [h]
  simp only [hb, if_false]
theorem mFd_pre {L P : Int → Int} {z d0 : Int} {j : Nat} : ∀ n : Nat, (mFd L P z d0 (j + n)).isSome = true → ∃ y, mFd L P z d0 j = some y
  | 0, h => Option.isSome_iff_exists.mp h
  | n + 1, h => by
    cases e : mFd L P z d0 (j + n) with
    | none =>
      have h2 : mFd L P z d0 (j + (n + 1)) = none := mFd_none e
      rw [h2] at h
      cases h
    | some y => exact mFd_pre n (by rw [e]; rfl)
theorem mFd_nil {L P : Int → Int} {z d0 : Int} {j : Nat} (h : mFd L P z d0 j = none) : ∀ n : Nat, mFd L P z d0 (j + n) = none
  | 0 => h
  | n + 1 => mFd_none (mFd_nil h n)
theorem m60_5 : m60 5 = 777600000 := by decide +kernel
theorem m60_4 : m60 4 = 12960000 := by decide +kernel
theorem m60_le {a b : Nat} (h : a ≤ b) : m60 a ≤ m60 b := by
  have := m60_mono a (b - a)
  have e : a + (b - a) = b := by omega
  rw [e] at this
  exact this
theorem mPop_le {z : Int} {j n : Nat} (h : j ≤ n) : mPop z j ≤ mPop z n := by
  have := mPop_mono z j (n - j)
  have e : j + (n - j) = n := by omega
  rw [e] at this
  exact this
/-- the bounds of a day found and of its step -/
theorem m_bd {v : Nat → Int} {L P : Int → Int} {z d0 d st : Int} {k : Nat} (hok : mOK v L P) (hk : (k : Int) ≤ v 0) (h5 : mPop z 32 ≤ 5) (h : mFd L P z d0 k = some (d, st)) : (1 ≤ st ∧ st ≤ 777600000) ∧ (d0 ≤ d ∧ d < d0 + st) ∧ (mBit z k = 1 → (k : Int) < v 0 → st ≤ 12960000) := by
  obtain ⟨⟨o1, o2⟩, oL, -⟩ := hok
  obtain ⟨⟨s1, s2⟩, s3, -⟩ := (m_find (L := L) (P := P) (z := z) (d0 := d0) k (fun i h1 h2 => oL i h1 (by omega))).1 d st h
  have p1 := mPop_le (z := z) (j := k) (n := 32) (by omega)
  have p2 := mPop_r z k
  refine ⟨⟨s1, ?_⟩, s3, fun hb hlt => ?_⟩
  · have := m60_le (a := (mPop z k).toNat) (b := 5) (by omega)
    rw [m60_5] at this
    omega
  · have p3 := mPop_le (z := z) (j := k + 1) (n := 32) (by omega)
    have p4 : mPop z (k + 1) = mPop z k + mBit z k := rfl
    have := m60_le (a := (mPop z k).toNat) (b := 4) (by omega)
    rw [m60_4] at this
    omega
theorem mBit_ushI {z i : Int} (h0 : 0 ≤ i) (h : i < 32) : mAnd (mUsh z i) 1 = mBit z i.toNat := by
  have := mBit_ush z i.toNat (by omega)
  have e : ((i.toNat : Nat) : Int) = i := by omega
  rw [e] at this
  exact this
theorem mBit_shrI {z i : Int} (hz : mRI z) (h0 : 0 ≤ i) (h : i < 32) : mAnd (mShr z i) 1 = mBit z i.toNat := by
  have := mBit_shr hz i.toNat (by omega)
  have e : ((i.toNat : Nat) : Int) = i := by omega
  rw [e] at this
  exact this
/-- one market more -/
theorem mFd_bitI {L P : Int → Int} {z d0 d st i : Int} (h0 : 0 ≤ i) (h : mFd L P z d0 i.toNat = some (d, st)) (hb : mBit z i.toNat = 1) : (mSJ L P i st d ≠ -1 → mFd L P z d0 (i + 1).toNat = some (mSJ L P i st d, st * (mFac st (L i) : Int))) ∧ ((mJ (L i) (P i) st d : Int) < L i → mSJ L P i st d = d + (mJ (L i) (P i) st d : Int) * st) ∧ (¬ (mJ (L i) (P i) st d : Int) < L i → mFd L P z d0 (i + 1).toNat = none) := by
  have e : ((i.toNat : Nat) : Int) = i := by omega
  have e2 : (i + 1).toNat = i.toNat + 1 := by omega
  have h2 := mFd_bit h hb
  rw [e] at h2
  rw [e2, h2]
  unfold mSJ
  by_cases c : (mJ (L i) (P i) st d : Int) < L i
  · rw [if_pos c]
    exact ⟨fun _ => by rw [if_pos c], fun _ => rfl, fun q => absurd c q⟩
  · rw [if_neg c]
    exact ⟨fun q => absurd rfl q, fun q => absurd q c, fun _ => by rw [if_neg c]⟩
theorem mFd_noI {L P : Int → Int} {z d0 d st i : Int} (h0 : 0 ≤ i) (h : mFd L P z d0 i.toNat = some (d, st)) (hb : ¬ mBit z i.toNat = 1) : mFd L P z d0 (i + 1).toNat = some (d, st) := by
  have e2 : (i + 1).toNat = i.toNat + 1 := by omega
  rw [e2]
  exact mFd_no h hb
set_option maxHeartbeats 4000000 in
set_option maxRecDepth 100000 in
theorem c_X0_firstHeldInSteps (l : Launch) (D : va_G) (h0 a1 a2 : Nat) (cA cJ : ClassId) (v : Nat → Int) (L P : Int → Int) (m9 fr st : Int) (hok : mOK v L P) (hk : mMk v m9) (hf : 0 ≤ fr ∧ fr ≤ 1000000000) (hs : 1 ≤ st ∧ st ≤ 1000000000) : mP l yX0_firstHeldInSteps wsX0_firstHeldInSteps ({ frames := 3, cells := 0, slots := 0, locals := 71 }) [.ref h0, .int (mI (m9)), .long (mL (fr)), .long (mL (st))] (mwB D (mXW h0 a1 a2 cA v L P) (mTy cA cJ)) (some (.long (mL (mSJ L P m9 st fr)))) := by
  refine mw_open (cc := cX0_firstHeldInSteps) (maxL := 10) (ret := (some .long)) (by decide +kernel) rfl (Nat.le_of_ble_eq_true rfl) ?_
  intro p e s m below meth c ls hC hr hlocks hB hl
  obtain ⟨hx, hb, hml, hown, hts⟩ := id hC
  obtain ⟨hP, hK⟩ := hB
  have hl : lv_has ls 10 [(0, .ref h0), (1, .int (mI (m9))), (2, .long (mL (fr))), (4, .long (mL (st)))] := hl
  have hok9 := hok
  obtain ⟨⟨o1, o2⟩, oL, ⟨o3, o4, o5, o6, o7, o8⟩, ⟨o9, o10, o11, o12, o13, o14, o15, o16⟩⟩ := hok9
  obtain ⟨l1, l2, l3, l4⟩ := oL m9 (by omega) (by omega)
  refine lv_aload_n hx hb dX0_firstHeldInSteps_0 rfl (lv_at hl 0 rfl) ?_
  refine lv_iload_n hx hb dX0_firstHeldInSteps_1 rfl (lv_at hl 1 rfl) ?_
  refine mw_cVi (rest := []) (q := (RX0, TX0, 10)) hC (c_X0_lengthOf l D h0 a1 a2 cA cJ v L P m9 (by omega)) (cwV 1 hts gX0_firstHeldInSteps_X0_lengthOf rfl rfl rfl (by decide +kernel) ⟨Nat.le_of_ble_eq_true rfl, Nat.le_of_ble_eq_true rfl⟩) hK hP rfl rfl rfl hl.1 rfl (Nat.le_of_ble_eq_true rfl) ⟨Nat.zero_le _, Nat.zero_le _⟩ dX0_firstHeldInSteps_2 ?_
  refine lv_istore (lv' := [(6, .int (mI (L m9))), (0, .ref h0), (1, .int (mI (m9))), (2, .long (mL (fr))), (4, .long (mL (st)))]) hx hb dX0_firstHeldInSteps_5 hl (by decide) rfl (fun ls hl => ?_)
  refine mw_iconst hx hb dX0_firstHeldInSteps_7 ?_
  refine lv_istore (lv' := [(7, .int (mI (0))), (6, .int (mI (L m9))), (0, .ref h0), (1, .int (mI (m9))), (2, .long (mL (fr))), (4, .long (mL (st)))]) hx hb dX0_firstHeldInSteps_8 hl (by decide) rfl (fun ls hl => ?_)
  refine mw_loop (T := Int) (nL := 10) (fun x => (0 ≤ x ∧ x ≤ L m9) ∧ ∀ k : Nat, (k : Int) < x → ¬ (fr + (k : Int) * st) % L m9 = P m9) (fun x => (L m9 - x).toNat) 10 (fun x => [(7, .int (mI (x))), (0, .ref h0), (1, .int (mI (m9))), (2, .long (mL (fr))), (4, .long (mL (st))), (6, .int (mI (L m9)))]) ?_ ((0 : Int)) (show (0 ≤ (0 : Int) ∧ (0 : Int) ≤ L m9) ∧ ∀ k : Nat, (k : Int) < (0 : Int) → ¬ (fr + (k : Int) * st) % L m9 = P m9 from ⟨⟨by omega, by omega⟩, fun k hk => by omega⟩) ls (lv_sub hl [0, 2, 3, 4, 5, 1] rfl)
  intro x hI ih ls hl
  obtain ⟨i, rfl⟩ : ∃ y, y = x := ⟨_, rfl⟩
  have hl : lv_has ls 10 [(7, .int (mI (i))), (0, .ref h0), (1, .int (mI (m9))), (2, .long (mL (fr))), (4, .long (mL (st))), (6, .int (mI (L m9)))] := hl
  have hI : (0 ≤ i ∧ i ≤ L m9) ∧ ∀ k : Nat, (k : Int) < i → ¬ (fr + (k : Int) * st) % L m9 = P m9 := hI
  obtain ⟨⟨i1, i2⟩, i3⟩ := hI
  have f1 := m_bound i st (A := 60) (B := 1000000000) (by omega) (by omega)
  have f2 : ∀ k : Nat, (k : Int) < i + 1 → ¬ (fr + i * st) % L m9 = P m9 → ¬ (fr + (k : Int) * st) % L m9 = P m9 := fun k hk hc => by
    rcases (by omega : (k : Int) < i ∨ (k : Int) = i) with q | q
    · exact i3 k q
    · rw [q]; exact hc
  have f3 : (i < L m9 → (fr + i * st) % L m9 = P m9) → (mJ (L m9) (P m9) st fr : Int) = i := fun h2 => by
    have e : mFst (fun j => decide ((fr + (j : Int) * st) % L m9 = P m9)) (L m9).toNat = i.toNat := mFst_eq _ (by omega) (fun j hj => decide_eq_false (i3 j (by omega))) (fun h => decide_eq_true (by
      have e2 : ((i.toNat : Nat) : Int) = i := by omega
      rw [e2]; exact h2 (by omega)))
    unfold mJ
    rw [e]
    omega
  refine lv_iload hx hb dX0_firstHeldInSteps_10 (lv_at hl 0 rfl) ?_
  refine lv_iload hx hb dX0_firstHeldInSteps_12 (lv_at hl 5 rfl) ?_
  refine mw_icmp_ge (tgt := 46) hx hb (by omega) (by omega) dX0_firstHeldInSteps_14 (by decide) (fun c_14 => ?_) (fun c_14 => ?_)
  · refine mw_ldc2 hx hb (-1) (by decide +kernel) hown (hts (.constantLong RX0 96 (-1)) (by decide +kernel)) dX0_firstHeldInSteps_46 ?_
    exact mw_retL hx hb hr hlocks dX0_firstHeldInSteps_49 (by have q := f3 (fun h => absurd h (by omega)); unfold mSJ; rw [q, if_neg (by omega)])
  · refine lv_lload_n hx hb dX0_firstHeldInSteps_17 rfl (lv_at hl 3 rfl) ?_
    refine lv_iload hx hb dX0_firstHeldInSteps_18 (lv_at hl 0 rfl) ?_
    refine mw_i2l hx hb (by omega) dX0_firstHeldInSteps_20 ?_
    refine lv_lload hx hb dX0_firstHeldInSteps_21 (lv_at hl 4 rfl) ?_
    refine mw_lmul hx hb dX0_firstHeldInSteps_23 ?_
    refine mw_ladd hx hb dX0_firstHeldInSteps_24 ?_
    refine lv_lstore (lv' := [(8, .long (mL (fr + (i * st)))), (7, .int (mI (i))), (0, .ref h0), (1, .int (mI (m9))), (2, .long (mL (fr))), (4, .long (mL (st))), (6, .int (mI (L m9)))]) hx hb dX0_firstHeldInSteps_25 hl (by decide) rfl (fun ls hl => ?_)
    refine lv_aload_n hx hb dX0_firstHeldInSteps_27 rfl (lv_at hl 2 rfl) ?_
    refine lv_iload_n hx hb dX0_firstHeldInSteps_28 rfl (lv_at hl 3 rfl) ?_
    refine lv_lload hx hb dX0_firstHeldInSteps_29 (lv_at hl 0 rfl) ?_
    refine mw_cVi (rest := []) (q := (RX0, TX0, 10)) hC (c_X0_isOn l D h0 a1 a2 cA cJ v L P m9 (fr + (i * st)) (id hok) (by omega) (by omega)) (cwV 2 hts gX0_firstHeldInSteps_X0_isOn rfl rfl rfl (by decide +kernel) ⟨Nat.le_of_ble_eq_true rfl, Nat.le_of_ble_eq_true rfl⟩) hK hP rfl rfl rfl hl.1 rfl (Nat.le_of_ble_eq_true rfl) ⟨Nat.zero_le _, Nat.zero_le _⟩ dX0_firstHeldInSteps_31 ?_
    refine mw_zeq (tgt := 40) hx hb dX0_firstHeldInSteps_34 (by decide) (fun c_34 => ?_) (fun c_34 => ?_)
    · refine mw_iinc (k := 1) (lv' := [(7, .int (mI (i + 1))), (8, .long (mL (fr + (i * st)))), (0, .ref h0), (1, .int (mI (m9))), (2, .long (mL (fr))), (4, .long (mL (st))), (6, .int (mI (L m9)))]) hx hb dX0_firstHeldInSteps_40 hl rfl (by decide) rfl (fun ls hl => ?_)
      refine lv_goto (tgt := 10) hx hb dX0_firstHeldInSteps_43 (by decide) ?_
      exact ih ((i + 1)) (show (0 ≤ (i + 1) ∧ (i + 1) ≤ L m9) ∧ ∀ k : Nat, (k : Int) < (i + 1) → ¬ (fr + (k : Int) * st) % L m9 = P m9 from ⟨⟨by omega, by omega⟩, fun k hk => f2 k hk c_34⟩) (show (L m9 - (i + 1)).toNat < (L m9 - i).toNat from (by omega)) ls (lv_sub hl [0, 2, 3, 4, 5, 6] rfl)
    · refine lv_lload hx hb dX0_firstHeldInSteps_37 (lv_at hl 0 rfl) ?_
      exact mw_retL hx hb hr hlocks dX0_firstHeldInSteps_39 (by have q := f3 (fun _ => c_34); unfold mSJ; rw [q, if_pos (by omega)])

set_option maxHeartbeats 4000000 in
set_option maxRecDepth 100000 in
theorem c_X0_firstMeeting (l : Launch) (D : va_G) (h0 a1 a2 : Nat) (cA cJ : ClassId) (v : Nat → Int) (L P : Int → Int) (z : Int) (hok : mOK v L P) (hz : mRI z) (h5 : 1 ≤ mPop z 32 ∧ mPop z 32 ≤ 5) : mP l yX0_firstMeeting wsX0_firstMeeting ({ frames := 4, cells := 0, slots := 0, locals := 100 }) [.ref h0, .int (mI (z))] (mwB D (mXW h0 a1 a2 cA v L P) (mTy cA cJ)) (some (.long (mL (mD0 (mFd L P z 0 (v 0).toNat))))) := by
  refine mw_open (cc := cX0_firstMeeting) (maxL := 7) (ret := (some .long)) (by decide +kernel) rfl (Nat.le_of_ble_eq_true rfl) ?_
  intro p e s m below meth c ls hC hr hlocks hB hl
  obtain ⟨hx, hb, hml, hown, hts⟩ := id hC
  obtain ⟨hP, hK⟩ := hB
  have hin : ∀ w ∈ wsX00, w ∈ wsX0_firstMeeting := by decide +kernel
  have hl : lv_has ls 7 [(0, .ref h0), (1, .int (mI (z)))] := hl
  have hok9 := hok
  obtain ⟨⟨o1, o2⟩, oL, ⟨o3, o4, o5, o6, o7, o8⟩, ⟨o9, o10, o11, o12, o13, o14, o15, o16⟩⟩ := hok9
  refine mw_lconst hx hb 0 (by decide +kernel) dX0_firstMeeting_0 ?_
  refine lv_lstore_n (lv' := [(2, .long (mL (0))), (0, .ref h0), (1, .int (mI (z)))]) hx hb dX0_firstMeeting_1 rfl hl (by decide) rfl (fun ls hl => ?_)
  refine mw_lconst hx hb 1 (by decide +kernel) dX0_firstMeeting_2 ?_
  refine lv_lstore (lv' := [(4, .long (mL (1))), (2, .long (mL (0))), (0, .ref h0), (1, .int (mI (z)))]) hx hb dX0_firstMeeting_3 hl (by decide) rfl (fun ls hl => ?_)
  refine mw_iconst hx hb dX0_firstMeeting_5 ?_
  refine lv_istore (lv' := [(6, .int (mI (0))), (4, .long (mL (1))), (2, .long (mL (0))), (0, .ref h0), (1, .int (mI (z)))]) hx hb dX0_firstMeeting_6 hl (by decide) rfl (fun ls hl => ?_)
  refine mw_loop (T := Int × Int × Int) (nL := 7) (fun x => (0 ≤ x.1 ∧ x.1 ≤ v 0) ∧ mFd L P z 0 (x.1).toNat = some (x.2.1, x.2.2)) (fun x => (v 0 - x.1).toNat) 8 (fun x => [(6, .int (mI (x.1))), (2, .long (mL (x.2.1))), (4, .long (mL (x.2.2))), (0, .ref h0), (1, .int (mI (z)))]) ?_ ((0 : Int), (0 : Int), (1 : Int)) (show (0 ≤ (0 : Int) ∧ (0 : Int) ≤ v 0) ∧ mFd L P z 0 ((0 : Int)).toNat = some ((0 : Int), (1 : Int)) from ⟨⟨by omega, by omega⟩, rfl⟩) ls (lv_sub hl [0, 2, 1, 3, 4] rfl)
  intro x hI ih ls hl
  obtain ⟨i, dy, st⟩ := x
  have hl : lv_has ls 7 [(6, .int (mI (i))), (2, .long (mL (dy))), (4, .long (mL (st))), (0, .ref h0), (1, .int (mI (z)))] := hl
  have hI : (0 ≤ i ∧ i ≤ v 0) ∧ mFd L P z 0 (i).toNat = some (dy, st) := hI
  obtain ⟨⟨i1, i2⟩, i3⟩ := hI
  have f1 := m_bd hok (by omega) h5.2 i3
  have f2 := mBit_ushI (z := z) (i := i) i1 (by omega)
  have f4 := mAnd_r (mUsh z i) 1
  have f5 : ((i.toNat : Nat) : Int) = i := by omega
  rw [f5] at f1
  refine lv_iload hx hb dX0_firstMeeting_8 (lv_at hl 0 rfl) ?_
  refine lv_aload_n hx hb dX0_firstMeeting_10 rfl (lv_at hl 3 rfl) ?_
  refine mw_getX hx hb hts hin hown hK hP rfl 2 (by decide) (by decide +kernel) rfl rfl dX0_firstMeeting_11 ?_
  refine mw_icmp_ge (tgt := 68) hx hb (by omega) (by omega) dX0_firstMeeting_14 (by decide) (fun c_14 => ?_) (fun c_14 => ?_)
  · refine lv_lload_n hx hb dX0_firstMeeting_68 rfl (lv_at hl 1 rfl) ?_
    exact mw_retL hx hb hr hlocks dX0_firstMeeting_69 (by have e : i = v 0 := (by omega); rw [← e, i3]; rfl)
  · refine lv_iload_n hx hb dX0_firstMeeting_17 rfl (lv_at hl 4 rfl) ?_
    refine lv_iload hx hb dX0_firstMeeting_18 (lv_at hl 0 rfl) ?_
    refine mw_iushr hx hb dX0_firstMeeting_20 ?_
    refine mw_iconst hx hb dX0_firstMeeting_21 ?_
    refine mw_iand hx hb dX0_firstMeeting_22 ?_
    refine mw_iconst hx hb dX0_firstMeeting_23 ?_
    refine mw_icmp_ne (tgt := 62) hx hb (by omega) (by omega) dX0_firstMeeting_24 (by decide) (fun c_24 => ?_) (fun c_24 => ?_)
    · refine mw_iinc (k := 0) (lv' := [(6, .int (mI (i + 1))), (2, .long (mL (dy))), (4, .long (mL (st))), (0, .ref h0), (1, .int (mI (z)))]) hx hb dX0_firstMeeting_62 hl rfl (by decide) rfl (fun ls hl => ?_)
      refine lv_goto (tgt := 8) hx hb dX0_firstMeeting_65 (by decide) ?_
      exact ih ((i + 1), dy, st) (show (0 ≤ (i + 1) ∧ (i + 1) ≤ v 0) ∧ mFd L P z 0 ((i + 1)).toNat = some (dy, st) from ⟨⟨by omega, by omega⟩, mFd_noI i1 i3 (by omega)⟩) (show (v 0 - (i + 1)).toNat < (v 0 - i).toNat from (by omega)) ls (lv_sub hl [0, 1, 2, 3, 4] rfl)
    · have f6 : mBit z i.toNat = 1 := by omega
      obtain ⟨b1, b2, b3⟩ := mFd_bitI i1 i3 f6
      obtain ⟨l1, l2, l3, l4⟩ := oL i (by omega) (by omega)
      have g1 := m_fac (st := st) (L := L i) l1
      have g2 := m_bound st (mFac st (L i) : Int) (A := 12960000) (B := 60) (by omega) (by omega)
      have g3 := (m_bd hok (by omega) h5.2 i3)
      have g4 : mSJ L P i st dy ≠ -1 → 0 ≤ mSJ L P i st dy ∧ mSJ L P i st dy ≤ 777600000 := fun q => by
        have g5 := b1 q
        have g6 := m_bd (k := (i + 1).toNat) hok (by omega) h5.2 g5
        omega
      have g7 : mRL (mSJ L P i st dy) := by
        by_cases q : mSJ L P i st dy = -1
        · rw [q]; omega
        · have := g4 q; omega
      refine lv_aload_n hx hb dX0_firstMeeting_27 rfl (lv_at hl 3 rfl) ?_
      refine lv_iload hx hb dX0_firstMeeting_28 (lv_at hl 0 rfl) ?_
      refine lv_lload_n hx hb dX0_firstMeeting_30 rfl (lv_at hl 1 rfl) ?_
      refine lv_lload hx hb dX0_firstMeeting_31 (lv_at hl 2 rfl) ?_
      refine mw_cVl (rest := []) (q := (RX0, TX0, 10)) hC (c_X0_firstHeldInSteps l D h0 a1 a2 cA cJ v L P i dy st (id hok) (by omega) (by omega) (by omega)) (cwV 3 hts gX0_firstMeeting_X0_firstHeldInSteps rfl rfl rfl (by decide +kernel) ⟨Nat.le_of_ble_eq_true rfl, Nat.le_of_ble_eq_true rfl⟩) hK hP rfl rfl rfl hl.1 rfl (Nat.le_of_ble_eq_true rfl) ⟨Nat.zero_le _, Nat.zero_le _⟩ dX0_firstMeeting_33 ?_
      refine lv_lstore_n (lv' := [(2, .long (mL (mSJ L P i st dy))), (6, .int (mI (i))), (4, .long (mL (st))), (0, .ref h0), (1, .int (mI (z)))]) hx hb dX0_firstMeeting_36 rfl hl (by decide) rfl (fun ls hl => ?_)
      refine lv_lload_n hx hb dX0_firstMeeting_37 rfl (lv_at hl 0 rfl) ?_
      refine mw_ldc2 hx hb (-1) (by decide +kernel) hown (hts (.constantLong RX0 96 (-1)) (by decide +kernel)) dX0_firstMeeting_38 ?_
      refine mw_lcmp_ne (tgt := 49) hx hb (by omega) (by omega) dX0_firstMeeting_41 dX0_firstMeeting_42 (by decide) (fun c_42 => ?_) (fun c_42 => ?_)
      · refine lv_lload hx hb dX0_firstMeeting_49 (lv_at hl 2 rfl) ?_
        refine lv_aload_n hx hb dX0_firstMeeting_51 rfl (lv_at hl 3 rfl) ?_
        refine lv_iload hx hb dX0_firstMeeting_52 (lv_at hl 1 rfl) ?_
        refine mw_cVi (rest := [.long (mL (st))]) (q := (RX0, TX0, 10)) hC (c_X0_lengthOf l D h0 a1 a2 cA cJ v L P i (by omega)) (cwV 1 hts gX0_firstMeeting_X0_lengthOf rfl rfl rfl (by decide +kernel) ⟨Nat.le_of_ble_eq_true rfl, Nat.le_of_ble_eq_true rfl⟩) hK hP rfl rfl rfl hl.1 rfl (Nat.le_of_ble_eq_true rfl) ⟨Nat.zero_le _, Nat.zero_le _⟩ dX0_firstMeeting_54 ?_
        refine mw_cSl (rest := []) hC (c_X0_commonMultiple l st (L i) (by omega) (by omega)) (va_cwS 2 hts gX0_firstMeeting_X0_commonMultiple rfl rfl rfl (by decide +kernel) ⟨Nat.le_of_ble_eq_true rfl, Nat.le_of_ble_eq_true rfl⟩) rfl hl.1 rfl (Nat.le_of_ble_eq_true rfl) ⟨Nat.zero_le _, Nat.zero_le _⟩ dX0_firstMeeting_57 ?_
        refine lv_lstore (lv' := [(4, .long (mL (st * (mFac st (L i) : Int)))), (2, .long (mL (mSJ L P i st dy))), (6, .int (mI (i))), (0, .ref h0), (1, .int (mI (z)))]) hx hb dX0_firstMeeting_60 hl (by decide) rfl (fun ls hl => ?_)
        refine mw_iinc (k := 2) (lv' := [(6, .int (mI (i + 1))), (4, .long (mL (st * (mFac st (L i) : Int)))), (2, .long (mL (mSJ L P i st dy))), (0, .ref h0), (1, .int (mI (z)))]) hx hb dX0_firstMeeting_62 hl rfl (by decide) rfl (fun ls hl => ?_)
        refine lv_goto (tgt := 8) hx hb dX0_firstMeeting_65 (by decide) ?_
        exact ih ((i + 1), (mSJ L P i st dy), (st * (mFac st (L i) : Int))) (show (0 ≤ (i + 1) ∧ (i + 1) ≤ v 0) ∧ mFd L P z 0 ((i + 1)).toNat = some ((mSJ L P i st dy), (st * (mFac st (L i) : Int))) from ⟨⟨by omega, by omega⟩, b1 (by omega)⟩) (show (v 0 - (i + 1)).toNat < (v 0 - i).toNat from (by omega)) ls (lv_sub hl [0, 2, 1, 3, 4] rfl)
      · refine mw_ldc2 hx hb (-1) (by decide +kernel) hown (hts (.constantLong RX0 96 (-1)) (by decide +kernel)) dX0_firstMeeting_45 ?_
        exact mw_retL hx hb hr hlocks dX0_firstMeeting_48 (by
          have g8 : ¬ (mJ (L i) (P i) st dy : Int) < L i := fun q => by
            have g9 := b2 q
            have g10 := m_bound (mJ (L i) (P i) st dy : Int) st (A := 60) (B := 12960000) (by omega) (by omega)
            have g11 : 0 ≤ (mJ (L i) (P i) st dy : Int) * st := Int.mul_nonneg (by omega) (by omega)
            omega
          have g12 := mFd_nil (b3 g8) ((v 0).toNat - (i + 1).toNat)
          have g13 : (i + 1).toNat + ((v 0).toNat - (i + 1).toNat) = (v 0).toNat := by omega
          rw [g13] at g12
          rw [g12]
          rfl)

set_option maxHeartbeats 4000000 in
set_option maxRecDepth 100000 in
theorem c_X0_commonLength (l : Launch) (D : va_G) (h0 a1 a2 : Nat) (cA cJ : ClassId) (v : Nat → Int) (L P : Int → Int) (z : Int) (hok : mOK v L P) (hz : mRI z) (h5 : 1 ≤ mPop z 32 ∧ mPop z 32 ≤ 5) (hm : (mFd L P z 0 (v 0).toNat).isSome = true) : mP l yX0_commonLength wsX0_commonLength ({ frames := 3, cells := 0, slots := 0, locals := 71 }) [.ref h0, .int (mI (z))] (mwB D (mXW h0 a1 a2 cA v L P) (mTy cA cJ)) (some (.long (mL (mSt (mFd L P z 0 (v 0).toNat))))) := by
  refine mw_open (cc := cX0_commonLength) (maxL := 5) (ret := (some .long)) (by decide +kernel) rfl (Nat.le_of_ble_eq_true rfl) ?_
  intro p e s m below meth c ls hC hr hlocks hB hl
  obtain ⟨hx, hb, hml, hown, hts⟩ := id hC
  obtain ⟨hP, hK⟩ := hB
  have hin : ∀ w ∈ wsX00, w ∈ wsX0_commonLength := by decide +kernel
  have hl : lv_has ls 5 [(0, .ref h0), (1, .int (mI (z)))] := hl
  have hok9 := hok
  obtain ⟨⟨o1, o2⟩, oL, ⟨o3, o4, o5, o6, o7, o8⟩, ⟨o9, o10, o11, o12, o13, o14, o15, o16⟩⟩ := hok9
  refine mw_lconst hx hb 1 (by decide +kernel) dX0_commonLength_0 ?_
  refine lv_lstore_n (lv' := [(2, .long (mL (1))), (0, .ref h0), (1, .int (mI (z)))]) hx hb dX0_commonLength_1 rfl hl (by decide) rfl (fun ls hl => ?_)
  refine mw_iconst hx hb dX0_commonLength_2 ?_
  refine lv_istore (lv' := [(4, .int (mI (0))), (2, .long (mL (1))), (0, .ref h0), (1, .int (mI (z)))]) hx hb dX0_commonLength_3 hl (by decide) rfl (fun ls hl => ?_)
  refine mw_loop (T := Int × Int) (nL := 5) (fun x => (0 ≤ x.1 ∧ x.1 ≤ v 0) ∧ x.2 = mSt (mFd L P z 0 (x.1).toNat)) (fun x => (v 0 - x.1).toNat) 5 (fun x => [(4, .int (mI (x.1))), (2, .long (mL (x.2))), (0, .ref h0), (1, .int (mI (z)))]) ?_ ((0 : Int), (1 : Int)) (show (0 ≤ (0 : Int) ∧ (0 : Int) ≤ v 0) ∧ (1 : Int) = mSt (mFd L P z 0 ((0 : Int)).toNat) from ⟨⟨by omega, by omega⟩, rfl⟩) ls (lv_sub hl [0, 1, 2, 3] rfl)
  intro x hI ih ls hl
  obtain ⟨i, st⟩ := x
  have hl : lv_has ls 5 [(4, .int (mI (i))), (2, .long (mL (st))), (0, .ref h0), (1, .int (mI (z)))] := hl
  have hI : (0 ≤ i ∧ i ≤ v 0) ∧ st = mSt (mFd L P z 0 (i).toNat) := hI
  obtain ⟨⟨i1, i2⟩, i3⟩ := hI
  obtain ⟨⟨dy, st9⟩, i4⟩ := mFd_pre (j := i.toNat) ((v 0).toNat - i.toNat) (by have e : i.toNat + ((v 0).toNat - i.toNat) = (v 0).toNat := (by omega); rw [e]; exact hm)
  have i5 : st = st9 := by rw [i3, i4]; rfl
  subst i5
  have f1 := m_bd hok (by omega) h5.2 i4
  have f2 := mBit_ushI (z := z) (i := i) i1 (by omega)
  have f4 := mAnd_r (mUsh z i) 1
  have f5 : ((i.toNat : Nat) : Int) = i := by omega
  rw [f5] at f1
  have b5 : ¬ mBit z i.toNat = 1 → st = mSt (mFd L P z 0 (i + 1).toNat) := fun q => by rw [mFd_noI i1 i4 q]; rfl
  refine lv_iload hx hb dX0_commonLength_5 (lv_at hl 0 rfl) ?_
  refine lv_aload_n hx hb dX0_commonLength_7 rfl (lv_at hl 2 rfl) ?_
  refine mw_getX hx hb hts hin hown hK hP rfl 2 (by decide) (by decide +kernel) rfl rfl dX0_commonLength_8 ?_
  refine mw_icmp_ge (tgt := 41) hx hb (by omega) (by omega) dX0_commonLength_11 (by decide) (fun c_11 => ?_) (fun c_11 => ?_)
  · refine lv_lload_n hx hb dX0_commonLength_41 rfl (lv_at hl 1 rfl) ?_
    exact mw_retL hx hb hr hlocks dX0_commonLength_42 (by have e : i = v 0 := (by omega); rw [i3, e])
  · refine lv_iload_n hx hb dX0_commonLength_14 rfl (lv_at hl 3 rfl) ?_
    refine lv_iload hx hb dX0_commonLength_15 (lv_at hl 0 rfl) ?_
    refine mw_iushr hx hb dX0_commonLength_17 ?_
    refine mw_iconst hx hb dX0_commonLength_18 ?_
    refine mw_iand hx hb dX0_commonLength_19 ?_
    refine mw_iconst hx hb dX0_commonLength_20 ?_
    refine mw_icmp_ne (tgt := 35) hx hb (by omega) (by omega) dX0_commonLength_21 (by decide) (fun c_21 => ?_) (fun c_21 => ?_)
    · refine mw_iinc (k := 0) (lv' := [(4, .int (mI (i + 1))), (2, .long (mL (st))), (0, .ref h0), (1, .int (mI (z)))]) hx hb dX0_commonLength_35 hl rfl (by decide) rfl (fun ls hl => ?_)
      refine lv_goto (tgt := 5) hx hb dX0_commonLength_38 (by decide) ?_
      exact ih ((i + 1), st) (show (0 ≤ (i + 1) ∧ (i + 1) ≤ v 0) ∧ st = mSt (mFd L P z 0 ((i + 1)).toNat) from ⟨⟨by omega, by omega⟩, b5 (by omega)⟩) (show (v 0 - (i + 1)).toNat < (v 0 - i).toNat from (by omega)) ls (lv_sub hl [0, 1, 2, 3] rfl)
    · have f6 : mBit z i.toNat = 1 := by omega
      obtain ⟨b1, b2, b3⟩ := mFd_bitI i1 i4 f6
      obtain ⟨l1, l2, l3, l4⟩ := oL i (by omega) (by omega)
      have b4 : st * (mFac st (L i) : Int) = mSt (mFd L P z 0 (i + 1).toNat) := by
        by_cases q : (mJ (L i) (P i) st dy : Int) < L i
        · have b6 := b2 q
          have b7 : 0 ≤ (mJ (L i) (P i) st dy : Int) * st := Int.mul_nonneg (by omega) (by omega)
          rw [b1 (by omega)]
          rfl
        · obtain ⟨y, hy⟩ := mFd_pre (j := (i + 1).toNat) ((v 0).toNat - (i + 1).toNat) (by have e : (i + 1).toNat + ((v 0).toNat - (i + 1).toNat) = (v 0).toNat := (by omega); rw [e]; exact hm)
          rw [b3 q] at hy
          cases hy
      refine lv_lload_n hx hb dX0_commonLength_24 rfl (lv_at hl 1 rfl) ?_
      refine lv_aload_n hx hb dX0_commonLength_25 rfl (lv_at hl 2 rfl) ?_
      refine lv_iload hx hb dX0_commonLength_26 (lv_at hl 0 rfl) ?_
      refine mw_cVi (rest := [.long (mL (st))]) (q := (RX0, TX0, 10)) hC (c_X0_lengthOf l D h0 a1 a2 cA cJ v L P i (by omega)) (cwV 1 hts gX0_commonLength_X0_lengthOf rfl rfl rfl (by decide +kernel) ⟨Nat.le_of_ble_eq_true rfl, Nat.le_of_ble_eq_true rfl⟩) hK hP rfl rfl rfl hl.1 rfl (Nat.le_of_ble_eq_true rfl) ⟨Nat.zero_le _, Nat.zero_le _⟩ dX0_commonLength_28 ?_
      refine mw_cSl (rest := []) hC (c_X0_commonMultiple l st (L i) (by omega) (by omega)) (va_cwS 2 hts gX0_commonLength_X0_commonMultiple rfl rfl rfl (by decide +kernel) ⟨Nat.le_of_ble_eq_true rfl, Nat.le_of_ble_eq_true rfl⟩) rfl hl.1 rfl (Nat.le_of_ble_eq_true rfl) ⟨Nat.zero_le _, Nat.zero_le _⟩ dX0_commonLength_31 ?_
      refine lv_lstore_n (lv' := [(2, .long (mL (st * (mFac st (L i) : Int)))), (4, .int (mI (i))), (0, .ref h0), (1, .int (mI (z)))]) hx hb dX0_commonLength_34 rfl hl (by decide) rfl (fun ls hl => ?_)
      refine mw_iinc (k := 1) (lv' := [(4, .int (mI (i + 1))), (2, .long (mL (st * (mFac st (L i) : Int)))), (0, .ref h0), (1, .int (mI (z)))]) hx hb dX0_commonLength_35 hl rfl (by decide) rfl (fun ls hl => ?_)
      refine lv_goto (tgt := 5) hx hb dX0_commonLength_38 (by decide) ?_
      exact ih ((i + 1), (st * (mFac st (L i) : Int))) (show (0 ≤ (i + 1) ∧ (i + 1) ≤ v 0) ∧ (st * (mFac st (L i) : Int)) = mSt (mFd L P z 0 ((i + 1)).toNat) from ⟨⟨by omega, by omega⟩, b4⟩) (show (v 0 - (i + 1)).toNat < (v 0 - i).toNat from (by omega)) ls (lv_sub hl [0, 1, 2, 3] rfl)
