/-! what the start gives to all calls: the five texts, the two statics, which classes are no others -/
theorem mw_env {b : Nat} {s : State} (hts : ∀ w ∈ lw_tbl, w.before #[Value.ref b] s = true) (hgv : (Jvm.Cond.and given_1 narrow_1).before #[Value.ref b] s = true) : mwS s ∧ mwZ (fun q => s.heap.size ≤ q) s s.heap ∧ mwN s := by
  have hg := flat_of_before _ hgv
  have S9 : ∀ (k : Nat) (tx : String), (Cond.stringRef RX0 k tx).before #[Value.ref b] s = true → (Cond.exactly (Term.string RX0 k) "java/lang/String").before #[Value.ref b] s = true → ∃ a, vk_R RX0 k tx a s := fun k tx h1 h2 => by
    obtain ⟨a, c, cell, kk, h, -⟩ := Cond.exactly_spec h2
    exact ⟨a, vk_R.of h1 h⟩
  have hA : ∀ a : Nat, a < s.heap.size → ¬ (fun q : Nat => s.heap.size ≤ q) a := fun a h => Nat.not_le.mpr h
  refine ⟨⟨?_, ?_, ?_, ?_, ?_, ?_, ?_, ?_, ?_, ?_, ?_⟩, ⟨?_, ?_⟩, ?_, ?_, ?_, ?_, ?_, ?_⟩
  · exact S9 55 _ (hts (.stringRef RX0 55 "there are as many markets as can be") (by decide +kernel)) (hg (Cond.exactly (Term.string RX0 55) "java/lang/String") (by decide +kernel))
  · exact S9 139 _ (hts (.stringRef RX0 139 "an argument is out of range") (by decide +kernel)) (hg (Cond.exactly (Term.string RX0 139) "java/lang/String") (by decide +kernel))
  · exact S9 146 _ (hts (.stringRef RX0 146 "there is no such market") (by decide +kernel)) (hg (Cond.exactly (Term.string RX0 146) "java/lang/String") (by decide +kernel))
  · exact S9 149 _ (hts (.stringRef RX0 149 "a bit stands for no market") (by decide +kernel)) (hg (Cond.exactly (Term.string RX0 149) "java/lang/String") (by decide +kernel))
  · exact S9 151 _ (hts (.stringRef RX0 151 "they never meet") (by decide +kernel)) (hg (Cond.exactly (Term.string RX0 151) "java/lang/String") (by decide +kernel))
  · exact va_Nw.of rfl (hts (.castable "java/lang/IllegalArgumentException" "java/lang/IllegalArgumentException") (by decide +kernel))
  · exact va_Nw.of rfl (hts (.castable "java/lang/IllegalStateException" "java/lang/IllegalStateException") (by decide +kernel))
  · exact va_Nw.of rfl (hts (.castable "java/lang/IndexOutOfBoundsException" "java/lang/IndexOutOfBoundsException") (by decide +kernel))
  · exact va_Nw.of rfl (hts (.declares ⟨"java/lang/RuntimeException", "<init>", "(Ljava/lang/String;)V"⟩) (by decide +kernel))
  · exact va_Nw.of rfl (hts (.declares ⟨"java/lang/Exception", "<init>", "(Ljava/lang/String;)V"⟩) (by decide +kernel))
  · exact va_Nw.of rfl (hts (.declares ⟨"java/lang/Throwable", "<init>", "(Ljava/lang/String;)V"⟩) (by decide +kernel))
  · exact vx_Zqof (hts (.laysStatic Bundle.tN "UNASSIGNED_STACK" Bundle.steD) (by decide +kernel)) (hts (.initialized Bundle.tN) (by decide +kernel)) (hg (Cond.isRef (Term.static Bundle.tN "UNASSIGNED_STACK" Bundle.steD)) (by decide +kernel)) hA
  · exact vx_Zqof (hts (.laysStatic Bundle.tN "SUPPRESSED_SENTINEL" Bundle.listD) (by decide +kernel)) (hts (.initialized Bundle.tN) (by decide +kernel)) (hg (Cond.isRef (Term.static Bundle.tN "SUPPRESSED_SENTINEL" Bundle.listD)) (by decide +kernel)) hA
  · exact va_Nc.of (hg (Cond.not (Cond.castable mEA mES)) (by decide +kernel))
  · exact va_Nc.of (hg (Cond.not (Cond.castable mEA mEI)) (by decide +kernel))
  · exact va_Nc.of (hg (Cond.not (Cond.castable mES mEA)) (by decide +kernel))
  · exact va_Nc.of (hg (Cond.not (Cond.castable mES mEI)) (by decide +kernel))
  · exact va_Nc.of (hg (Cond.not (Cond.castable mEI mEA)) (by decide +kernel))
  · exact va_Nc.of (hg (Cond.not (Cond.castable mEI mES)) (by decide +kernel))
