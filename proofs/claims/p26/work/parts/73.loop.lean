set_option maxHeartbeats 4000000 in
set_option maxRecDepth 100000 in
/-- the law's loop, by how many turns are left -/
theorem law_loop {p : Program} {l : Launch} {e : Env} {s : State} {m : MethodId} {below : List Frame} {meth : Method} {c : Code} (hfl : l.flags = flags0) {b Ls : Nat} {xs : Nat → Int32} {D : va_G} {cA cJ : ClassId} {x0 x1 x2 y0 y1 y2 : Nat} (C0 : mLC p s m meth c b Ls xs D cA cJ x0 x1 x2 y0 y1 y2) (hLs : Ls ≤ 260) {Q : State → Prop} (hexit : ∀ (H : Heap) (locs : List Loc), va_S (mA9 s) s.heap H locs → s.heap.size + 160 ≤ H.size → ∀ ls : Array Slot, W p l e room_9 s m #[Value.ref b] below meth c H locs 366 2244 Q (F0 m 229 ls [])) : ∀ (n j : Nat), j + n = 40 → ∀ (H : Heap) (locs : List Loc) (v : Nat → Int) (L P : Int → Int), mOK v L P → va_P D vwCl (mXW x0 x1 x2 cA v L P) H → va_P D vwCl (mXW y0 y1 y2 cA v L P) H → va_S (mA9 s) s.heap H locs → s.heap.size + 4 * j ≤ H.size → ∀ ls : Array Slot, lv_has ls 8 [(3, .int (mI (j : Int))), (0, .ref b), (1, .ref x0), (2, .ref y0)] → W p l e room_9 s m #[Value.ref b] below meth c H locs (6 + 9 * j) (84 + 54 * j) Q (F0 m 18 ls []) := by
  obtain ⟨hC, -⟩ := id C0
  obtain ⟨hx, hb, hml, hown, hts⟩ := id hC
  intro n
  induction n with
  | zero =>
    intro j hj H locs v L P hok hPx hPy hS hg ls hl
    refine lv_iload_n hx hb dL_law_18 rfl (lv_at hl 0 rfl) ?_
    refine mw_bipush hx hb (by decide +kernel) dL_law_19 ?_
    refine mw_icmp_ge (tgt := 229) hx hb (by omega) (by omega) dL_law_21 (by decide) (fun c1 => ?_) (fun c1 => False.elim (by omega))
    refine W.widen (k := 366) (n := 2244) (by omega) (by omega) ?_
    exact hexit H locs hS (by omega) ls
  | succ n ih =>
    intro j hj H locs v L P hok hPx hPy hS hg ls hl
    refine lv_iload_n hx hb dL_law_18 rfl (lv_at hl 0 rfl) ?_
    refine mw_bipush hx hb (by decide +kernel) dL_law_19 ?_
    refine mw_icmp_ge (tgt := 229) hx hb (by omega) (by omega) dL_law_21 (by decide) (fun c1 => False.elim (by omega)) (fun c1 => ?_)
    refine law_body hfl C0 hLs (g0 := 4 * j) (by omega) (by omega) (j : Int) (by omega) hok hPx hPy hS hg (fun H1 locs1 v1 L1 P1 hok1 hPx1 hPy1 hS1 hg1 ls hl => ?_) ls hl
    refine mw_iinc (k := 0) (lv' := [(3, .int (mI ((j : Int) + 1))), (0, .ref b), (1, .ref x0), (2, .ref y0)]) hx hb dL_law_223 hl rfl (by decide) rfl (fun ls hl => ?_)
    refine lv_goto (tgt := 18) hx hb dL_law_226 (by decide) ?_
    have e5 : (j : Int) + 1 = ((j + 1 : Nat) : Int) := by omega
    rw [e5] at hl
    have h8 := ih (j + 1) (by omega) H1 locs1 v1 L1 P1 hok1 hPx1 hPy1 hS1 (by omega) ls hl
    have e6 : 84 + 54 * (j + 1) = 84 + 54 * j + 54 := by omega
    have e7 : 6 + 9 * (j + 1) = 6 + 9 * j + 9 := by omega
    rw [e6, e7] at h8
    exact h8
