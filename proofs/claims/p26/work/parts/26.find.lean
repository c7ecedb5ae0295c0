/-! the first number below n with a property, or n -/
def mFst (p : Nat → Bool) : Nat → Nat
  | 0 => 0
  | n + 1 => if mFst p n < n then mFst p n else if p n then n else n + 1
theorem mFst_le (p : Nat → Bool) : ∀ n, mFst p n ≤ n
  | 0 => Nat.le_refl 0
  | n + 1 => by
    have ih := mFst_le p n
    unfold mFst
    split
    · omega
    · split <;> omega
theorem mFst_no (p : Nat → Bool) : ∀ n k, k < mFst p n → p k = false
  | 0, k, h => absurd h (Nat.not_lt_zero k)
  | n + 1, k, h => by
    have ih := mFst_no p n k
    have hle := mFst_le p n
    unfold mFst at h
    by_cases c : mFst p n < n
    · rw [if_pos c] at h; exact ih h
    · rw [if_neg c] at h
      by_cases c2 : p n = true
      · rw [if_pos c2] at h; exact ih (by omega)
      · rw [if_neg c2] at h
        rcases (by omega : k < n ∨ k = n) with q | q
        · exact ih (by omega)
        · rw [q]; exact Bool.eq_false_iff.mpr c2
theorem mFst_yes (p : Nat → Bool) : ∀ n, mFst p n < n → p (mFst p n) = true
  | 0, h => absurd h (Nat.not_lt_zero _)
  | n + 1, h => by
    have ih := mFst_yes p n
    unfold mFst at h ⊢
    by_cases c : mFst p n < n
    · rw [if_pos c]; exact ih c
    · rw [if_neg c] at h ⊢
      by_cases c2 : p n = true
      · rw [if_pos c2]; exact c2
      · rw [if_neg c2] at h; omega
theorem mFst_eq (p : Nat → Bool) {n k : Nat} (h1 : k ≤ n) (h2 : ∀ j, j < k → p j = false) (h3 : k < n → p k = true) : mFst p n = k := by
  have a := mFst_le p n
  rcases (by omega : mFst p n < k ∨ mFst p n = k ∨ k < mFst p n) with q | q | q
  · have h4 := h2 _ q
    rw [mFst_yes p n (by omega)] at h4
    cases h4
  · exact q
  · have h4 := mFst_no p n k q
    rw [h3 (by omega)] at h4
    cases h4
/-- after how many steps of st from d on a market of length L and place P is held -/
def mJ (L P st d : Int) : Nat := mFst (fun j => decide ((d + (j : Int) * st) % L = P)) L.toNat
/-- the least factor that makes st a multiple of L -/
def mFac (st L : Int) : Nat := mFst (fun f => decide ((st * ((f : Int) + 1)) % L = 0)) (L.toNat - 1) + 1
theorem m_mod_iff {x L P : Int} (hL : 0 < L) (h0 : 0 ≤ P) (h1 : P < L) : x % L = P ↔ L ∣ x - P := by
  constructor
  · intro h
    exact ⟨x / L, by have := Int.mul_ediv_add_emod x L; omega⟩
  · rintro ⟨q, hq⟩
    have : x = P + L * q := by omega
    rw [this, Int.add_mul_emod_self_left]
    exact Int.emod_eq_of_lt h0 h1
theorem m_fac {st L : Int} (hL : 1 ≤ L) : 1 ≤ mFac st L ∧ (mFac st L : Int) ≤ L ∧ L ∣ st * (mFac st L : Int) ∧ ∀ q : Int, L ∣ st * q → (mFac st L : Int) ∣ q := by
  have hle := mFst_le (fun f => decide ((st * ((f : Int) + 1)) % L = 0)) (L.toNat - 1)
  have hno := mFst_no (fun f => decide ((st * ((f : Int) + 1)) % L = 0)) (L.toNat - 1)
  have hyes := mFst_yes (fun f => decide ((st * ((f : Int) + 1)) % L = 0)) (L.toNat - 1)
  obtain ⟨g, hg⟩ : ∃ g, g = mFst (fun f => decide ((st * ((f : Int) + 1)) % L = 0)) (L.toNat - 1) := ⟨_, rfl⟩
  have ef : mFac st L = g + 1 := by rw [hg]; rfl
  rw [← hg] at hle hno hyes
  rw [ef]
  have e1 : ((g + 1 : Nat) : Int) = (g : Int) + 1 := by omega
  have hdvd : L ∣ st * ((g : Int) + 1) := by
    by_cases c : g < L.toNat - 1
    · exact Int.dvd_of_emod_eq_zero (of_decide_eq_true (hyes c))
    · have : (g : Int) + 1 = L := by omega
      rw [this]
      exact Int.dvd_mul_left _ _
  refine ⟨by omega, by omega, by rw [e1]; exact hdvd, fun q hq => ?_⟩
  rw [e1]
  have hr0 : 0 ≤ q % ((g : Int) + 1) := Int.emod_nonneg _ (by omega)
  have hr1 : q % ((g : Int) + 1) < (g : Int) + 1 := Int.emod_lt_of_pos _ (by omega)
  have hq2 := Int.mul_ediv_add_emod q ((g : Int) + 1)
  obtain ⟨r, hr⟩ : ∃ r : Int, r = q % ((g : Int) + 1) := ⟨_, rfl⟩
  rw [← hr] at hr0 hr1 hq2
  have hLr : L ∣ st * r := by
    have e : st * r = st * q - st * ((g : Int) + 1) * (q / ((g : Int) + 1)) := by
      rw [Int.mul_assoc, ← Int.mul_sub]
      congr 1
      omega
    rw [e]
    exact Int.dvd_sub hq (Int.dvd_mul_of_dvd_left hdvd)
  rcases (by omega : r = 0 ∨ 0 < r) with h | h
  · exact Int.dvd_of_emod_eq_zero (by rw [← hr]; exact h)
  · have h5 := hno (r - 1).toNat (by omega)
    have h6 : (((r - 1).toNat : Int) + 1) = r := by omega
    rw [h6] at h5
    exact absurd (Int.emod_eq_zero_of_dvd hLr) (of_decide_eq_false h5)
theorem m_j {st L P d : Int} (hs : 1 ≤ st) (hL : 1 ≤ L) (h0 : 0 ≤ P) (h1 : P < L) : ((mJ L P st d : Int) < L → (d + (mJ L P st d : Int) * st) % L = P ∧ mJ L P st d < mFac st L) ∧ (¬ (mJ L P st d : Int) < L → ∀ x : Int, st ∣ x - d → ¬ x % L = P) := by
  have hle := mFst_le (fun j => decide ((d + (j : Int) * st) % L = P)) L.toNat
  have hno := mFst_no (fun j => decide ((d + (j : Int) * st) % L = P)) L.toNat
  have hyes := mFst_yes (fun j => decide ((d + (j : Int) * st) % L = P)) L.toNat
  have ej : mJ L P st d = mFst (fun j => decide ((d + (j : Int) * st) % L = P)) L.toNat := rfl
  rw [← ej] at hle hno hyes
  obtain ⟨f1, f2, f3, f4⟩ := m_fac (st := st) hL
  constructor
  · intro hj
    have hy : (d + (mJ L P st d : Int) * st) % L = P := of_decide_eq_true (hyes (by omega))
    refine ⟨hy, ?_⟩
    rcases (by omega : mJ L P st d < mFac st L ∨ mFac st L ≤ mJ L P st d) with q | q
    · exact q
    · exfalso
      have h5 := of_decide_eq_false (hno (mJ L P st d - mFac st L) (by omega))
      apply h5
      rw [m_mod_iff (by omega) h0 h1] at hy ⊢
      have e : d + ((mJ L P st d - mFac st L : Nat) : Int) * st - P = (d + (mJ L P st d : Int) * st - P) - st * (mFac st L : Int) := by
        have e1 : ((mJ L P st d - mFac st L : Nat) : Int) = (mJ L P st d : Int) - (mFac st L : Int) := by omega
        rw [e1, Int.sub_mul, Int.mul_comm st]
        omega
      rw [e]
      exact Int.dvd_sub hy f3
  · intro hj x ⟨q, hq⟩ hx
    have hr0 : 0 ≤ q % L := Int.emod_nonneg _ (by omega)
    have hr1 : q % L < L := Int.emod_lt_of_pos _ (by omega)
    have hq2 := Int.mul_ediv_add_emod q L
    have h5 := of_decide_eq_false (hno (q % L).toNat (by omega))
    have h6 : (((q % L).toNat : Nat) : Int) = q % L := by omega
    rw [h6] at h5
    apply h5
    rw [m_mod_iff (by omega) h0 h1] at hx ⊢
    have e : d + q % L * st - P = (x - P) - L * (st * (q / L)) := by
      have e1 : st * q = q % L * st + L * (st * (q / L)) := by
        have : q = L * (q / L) + q % L := by omega
        conv => lhs; rw [this]
        rw [Int.mul_add, Int.mul_comm st (q % L), ← Int.mul_assoc st L, Int.mul_comm st L, Int.mul_assoc]
        omega
      omega
    rw [e]
    exact Int.dvd_sub hx (Int.dvd_mul_right _ _)
/-- from the markets below k that are in the set: a day on which all are held, from d0 on the first, and the step to the next; none if they never meet -/
def mFd (L P : Int → Int) (z d0 : Int) : Nat → Option (Int × Int)
  | 0 => some (d0, 1)
  | k + 1 => match mFd L P z d0 k with
    | none => none
    | some (d, st) => if mBit z k = 1 then (if (mJ (L (k : Int)) (P (k : Int)) st d : Int) < L (k : Int) then some (d + (mJ (L (k : Int)) (P (k : Int)) st d : Int) * st, st * (mFac st (L (k : Int)) : Int)) else none) else some (d, st)
/-- all of the set below k are held on x -/
def mAll (L P : Int → Int) (z : Int) (k : Nat) (x : Int) : Prop := ∀ i : Nat, i < k → mBit z i = 1 → x % L (i : Int) = P (i : Int)
theorem mAll_s {L P : Int → Int} {z : Int} {k : Nat} {x : Int} : mAll L P z (k + 1) x ↔ mAll L P z k x ∧ (mBit z k = 1 → x % L (k : Int) = P (k : Int)) := by
  constructor
  · intro h
    exact ⟨fun i hi => h i (by omega), fun hb => h k (by omega) hb⟩
  · intro h i hi hb
    rcases (by omega : i < k ∨ i = k) with q | q
    · exact h.1 i q hb
    · subst q; exact h.2 hb
def mLP (L P : Int → Int) (n : Int) : Prop := ∀ k : Int, 0 ≤ k → k < n → 1 ≤ L k ∧ L k ≤ 60 ∧ 0 ≤ P k ∧ P k < L k
def m60 : Nat → Int
  | 0 => 1
  | k + 1 => m60 k * 60
theorem m60_pos : ∀ k : Nat, 1 ≤ m60 k
  | 0 => by simp [m60]
  | k + 1 => by have := m60_pos k; unfold m60; omega
theorem m60_mono (j : Nat) : ∀ n : Nat, m60 j ≤ m60 (j + n)
  | 0 => Int.le_refl _
  | n + 1 => by
    have h := m60_mono j n
    have h2 := m60_pos (j + n)
    show m60 j ≤ m60 (j + n) * 60
    omega
theorem m_find {L P : Int → Int} {z d0 : Int} : ∀ k : Nat, mLP L P (k : Int) → (∀ d st, mFd L P z d0 k = some (d, st) → (1 ≤ st ∧ st ≤ m60 (mPop z k).toNat) ∧ (d0 ≤ d ∧ d < d0 + st) ∧ ∀ x, mAll L P z k x ↔ st ∣ x - d) ∧ (mFd L P z d0 k = none → ∀ x, ¬ mAll L P z k x)
  | 0, _ => by
    refine ⟨fun d st h => ?_, fun h => by cases h⟩
    cases h
    refine ⟨⟨by omega, m60_pos _⟩, ⟨by omega, by omega⟩, fun x => ⟨fun _ => Int.one_dvd _, fun _ i hi => absurd hi (Nat.not_lt_zero i)⟩⟩
  | k + 1, hLP => by
    have ih := m_find (L := L) (P := P) (z := z) (d0 := d0) k (fun i h1 h2 => hLP i h1 (by omega))
    obtain ⟨l1, l2, l3, l4⟩ := hLP (k : Int) (by omega) (by omega)
    cases hk : mFd L P z d0 k with
    | none =>
      have hn : mFd L P z d0 (k + 1) = none := by unfold mFd; rw [hk]
      refine ⟨fun d st h => (by rw [hn] at h; cases h), fun _ x hx => ih.2 hk x (mAll_s.mp hx).1⟩
    | some y =>
      obtain ⟨d, st⟩ := y
      obtain ⟨⟨s1, s2⟩, ⟨d1, d2⟩, hS⟩ := ih.1 d st hk
      have hp := mPop_r z k
      by_cases hb : mBit z k = 1
      · have hp2 : (mPop z (k + 1)).toNat = (mPop z k).toNat + 1 := by
          show (mPop z k + mBit z k).toNat = _
          omega
        have hj := m_j (st := st) (L := L (k : Int)) (P := P (k : Int)) (d := d) s1 l1 l3 l4
        obtain ⟨f1, f2, f3, f4⟩ := m_fac (st := st) l1
        by_cases hlt : (mJ (L (k : Int)) (P (k : Int)) st d : Int) < L (k : Int)
        · have he : mFd L P z d0 (k + 1) = some (d + (mJ (L (k : Int)) (P (k : Int)) st d : Int) * st, st * (mFac st (L (k : Int)) : Int)) := by
            unfold mFd; rw [hk]; simp only [hb, hlt, if_true]
          refine ⟨fun d' st' h => ?_, fun h => by rw [he] at h; cases h⟩
          rw [he] at h
          cases h
          obtain ⟨j1, j2⟩ := hj.1 hlt
          obtain ⟨j, ej⟩ : ∃ j : Int, j = (mJ (L (k : Int)) (P (k : Int)) st d : Int) := ⟨_, rfl⟩
          obtain ⟨f, ef⟩ : ∃ f : Int, f = (mFac st (L (k : Int)) : Int) := ⟨_, rfl⟩
          rw [← ej] at j1 ⊢
          rw [← ef] at f2 f3 f4 ⊢
          have j0 : 0 ≤ j := by omega
          have jf : j < f := by omega
          have f0 : 1 ≤ f := by omega
          have m1 : 1 * 1 ≤ st * f := Int.mul_le_mul s1 f0 (by omega) (by omega)
          have m2 : st * f ≤ m60 (mPop z k).toNat * 60 := Int.mul_le_mul s2 (by omega) (by omega) (by have := m60_pos (mPop z k).toNat; omega)
          have m3 : 0 ≤ j * st := Int.mul_nonneg j0 (by omega)
          have m4 : (j + 1) * st ≤ f * st := Int.mul_le_mul_of_nonneg_right (by omega) (by omega)
          rw [Int.add_mul, Int.one_mul, Int.mul_comm f st] at m4
          refine ⟨⟨by omega, by rw [hp2]; exact m2⟩, ⟨by omega, by omega⟩, fun x => ?_⟩
          rw [mAll_s, hS x]
          have key : ∀ q : Int, x - d = st * q → (x % L (k : Int) = P (k : Int) ↔ st * f ∣ x - (d + j * st)) := by
            intro q hq
            have e1 : x - (d + j * st) = st * (q - j) := by rw [Int.mul_sub, Int.mul_comm st j]; omega
            rw [m_mod_iff (by omega) l3 l4]
            rw [m_mod_iff (by omega) l3 l4] at j1
            constructor
            · intro h
              have h2 : L (k : Int) ∣ st * (q - j) := by
                have e2 : st * (q - j) = (x - P (k : Int)) - (d + j * st - P (k : Int)) := by omega
                rw [e2]
                exact Int.dvd_sub h j1
              rw [e1]
              exact Int.mul_dvd_mul_left st (f4 _ h2)
            · intro h
              have h2 : L (k : Int) ∣ x - (d + j * st) := Int.dvd_trans f3 h
              have e2 : x - P (k : Int) = (x - (d + j * st)) + (d + j * st - P (k : Int)) := by omega
              rw [e2]
              exact Int.dvd_add h2 j1
          constructor
          · rintro ⟨⟨q, hq⟩, h2⟩
            exact (key q hq).mp (h2 hb)
          · intro h
            have h2 : st ∣ x - d := by
              have e2 : x - d = (x - (d + j * st)) + st * j := by rw [Int.mul_comm st j]; omega
              rw [e2]
              exact Int.dvd_add (Int.dvd_trans (Int.dvd_mul_right _ _) h) (Int.dvd_mul_right _ _)
            obtain ⟨q, hq⟩ := h2
            exact ⟨⟨q, hq⟩, fun _ => (key q hq).mpr h⟩
        · have he : mFd L P z d0 (k + 1) = none := by
            unfold mFd; rw [hk]; simp only [hb, hlt, if_true, if_false]
          refine ⟨fun d' st' h => (by rw [he] at h; cases h), fun _ x hx => ?_⟩
          have h := mAll_s.mp hx
          exact hj.2 hlt x ((hS x).mp h.1) (h.2 hb)
      · have he : mFd L P z d0 (k + 1) = some (d, st) := by
          unfold mFd; rw [hk]; simp only [hb, if_false]
        have hp2 : (mPop z (k + 1)).toNat = (mPop z k).toNat := by
          show (mPop z k + mBit z k).toNat = _
          have := mBit_0 hb
          omega
        refine ⟨fun d' st' h => ?_, fun h => by rw [he] at h; cases h⟩
        rw [he] at h
        cases h
        refine ⟨⟨s1, by rw [hp2]; exact s2⟩, ⟨d1, d2⟩, fun x => ?_⟩
        rw [mAll_s, hS x]
        exact ⟨fun h => h.1, fun h => ⟨h, fun q => absurd q hb⟩⟩
/-- the step doesn't depend on the day -/
theorem m_same {L P : Int → Int} {z a b : Int} : ∀ (k : Nat) {d st d' st' : Int}, mFd L P z a k = some (d, st) → mFd L P z b k = some (d', st') → st = st'
  | 0, d, st, d', st', h1, h2 => by cases h1; cases h2; rfl
  | k + 1, d, st, d', st', h1, h2 => by
    unfold mFd at h1 h2
    cases e1 : mFd L P z a k with
    | none => rw [e1] at h1; cases h1
    | some y1 =>
      cases e2 : mFd L P z b k with
      | none => rw [e2] at h2; cases h2
      | some y2 =>
        obtain ⟨g1, g2⟩ := y1
        obtain ⟨g3, g4⟩ := y2
        have e := m_same k e1 e2
        subst e
        rw [e1] at h1
        rw [e2] at h2
        dsimp only at h1 h2
        by_cases hb : mBit z k = 1
        · rw [if_pos hb] at h1 h2
          split at h1
          · split at h2
            · cases h1; cases h2; rfl
            · cases h2
          · cases h1
        · rw [if_neg hb] at h1 h2
          cases h1; cases h2; rfl
theorem m_meet {L P : Int → Int} {z a b : Int} {n : Nat} (hLP : mLP L P (n : Int)) : (mFd L P z a n).isSome = (mFd L P z b n).isSome := by
  have h1 := m_find (L := L) (P := P) (z := z) (d0 := a) n hLP
  have h2 := m_find (L := L) (P := P) (z := z) (d0 := b) n hLP
  cases e1 : mFd L P z a n with
  | none =>
    cases e2 : mFd L P z b n with
    | none => rfl
    | some y =>
      exfalso
      exact h1.2 e1 y.1 (((h2.1 y.1 y.2 e2).2.2 y.1).mpr ⟨0, by omega⟩)
  | some y =>
    cases e2 : mFd L P z b n with
    | some y2 => rfl
    | none =>
      exfalso
      exact h2.2 e2 y.1 (((h1.1 y.1 y.2 e1).2.2 y.1).mpr ⟨0, by omega⟩)
/-- the first day from b on, out of the first day from a on -/
theorem m_first {L P : Int → Int} {z a b d st d' st' : Int} {n : Nat} (hLP : mLP L P (n : Int)) (h1 : mFd L P z a n = some (d, st)) (h2 : mFd L P z b n = some (d', st')) : st' = st ∧ d' = b + (d - b) % st := by
  have e := m_same n h1 h2
  subst e
  refine ⟨rfl, ?_⟩
  obtain ⟨⟨a1, -⟩, -, a3⟩ := (m_find (L := L) (P := P) (z := z) (d0 := a) n hLP).1 d st h1
  obtain ⟨-, ⟨b1, b2⟩, b3⟩ := (m_find (L := L) (P := P) (z := z) (d0 := b) n hLP).1 d' st h2
  have h : st ∣ d' - d := (a3 d').mp ((b3 d').mpr ⟨0, by omega⟩)
  have h5 : st ∣ (d - b) - (d' - b) := by
    obtain ⟨q, hq⟩ := h
    exact ⟨-q, by rw [Int.mul_neg]; omega⟩
  have h6 := (m_mod_iff (x := d - b) (L := st) (P := d' - b) (by omega) (by omega) (by omega)).mpr h5
  omega
