/-! the columns of the equations: routes are short -/
theorem cnt_or (p q : Nat → Bool) (n : Nat) : cntN (fun j => p j || q j) n ≤ cntN p n + cntN q n := by
  induction n with
  | zero => exact Nat.zero_le _
  | succ n ih =>
    simp only [cntN]
    by_cases h1 : p n = true <;> by_cases h2 : q n = true <;> simp [h1, h2] <;> omega
theorem cnt_eq (x n : Nat) : cntN (fun j => decide (x = j)) n ≤ 1 ∧ (n ≤ x → cntN (fun j => decide (x = j)) n = 0) := by
  induction n with
  | zero => exact ⟨Nat.zero_le _, fun _ => rfl⟩
  | succ n ih =>
    simp only [cntN]
    by_cases e : x = n
    · have := ih.2 (by omega)
      simp only [e, decide_true, if_true] at this ⊢
      constructor <;> omega
    · simp only [e, decide_false]
      exact ⟨ih.1, fun h => ih.2 (by omega)⟩
theorem uses_cnt (len : Nat → Nat) (lnk : Nat → Nat → Nat) (s m : Nat) : cntN (fun l => uUses len lnk s l) m ≤ len s := by
  unfold uUses
  generalize len s = k
  induction k with
  | zero =>
    simp only [anyB]
    have : ∀ n, cntN (fun _ => false) n = 0 := by
      intro n
      induction n with
      | zero => rfl
      | succ n ih => simp only [cntN]; simpa using ih
    rw [this]
    exact Nat.le_refl _
  | succ k ih =>
    simp only [anyB]
    have h1 := cnt_or (fun l => anyB (fun j => decide (lnk s j = l)) k) (fun l => decide (lnk s k = l)) m
    have h2 := (cnt_eq (lnk s k) m).1
    omega
section HOP
variable {met src tgt : Nat → Nat} {m t : Nat}
theorem hop_down {c : Nat → Nat} (ht : ∀ l, tgt l < 5) (hc : rest (wM met) src tgt m t c) : ∀ (i v : Nat), v < 5 → c v < 1000000 → i ≤ c v % 10 → ∃ a, a < 5 ∧ c a < 1000000 ∧ c a % 10 + i = c v % 10
  | 0, v, hv, hlt, _ => ⟨v, hv, hlt, by omega⟩
  | i + 1, v, hv, hlt, hi => by
    obtain ⟨a, ha, hal, he⟩ := hop_down ht hc i v hv hlt (by omega)
    have hvt : ¬ a = t := fun e => by rw [e, hc.1] at he; omega
    obtain ⟨l, h1, h2, h3, h4⟩ := next_some hc ha hvt hal
    unfold wM at h4
    have hz1 := hops4 ht hc (ht l) (by omega)
    have hz2 := hops4 ht hc ha hal
    exact ⟨tgt l, ht l, by omega, by omega⟩
theorem hop_one {c : Nat → Nat} (ht : ∀ l, tgt l < 5) (hc : rest (wM met) src tgt m t c) {a b : Nat} (ha : a < 5) (hb : b < 5) (hal : c a < 1000000) (hbl : c b < 1000000) (ha4 : c a % 10 = 4) (hb4 : c b % 10 = 4) : a = b := by
  refine Classical.byContradiction (fun hab => ?_)
  have ch : ∀ j, ∃ v, j ≤ 4 → v < 5 ∧ c v % 10 = j := by
    intro j
    by_cases h : j ≤ 4
    · obtain ⟨v, h1, h2, h3⟩ := hop_down ht hc (4 - j) a ha hal (by omega)
      exact ⟨v, fun _ => ⟨h1, by omega⟩⟩
    · exact ⟨0, fun x => absurd x h⟩
  obtain ⟨w, hw⟩ : ∃ w : Nat → Nat, ∀ j, j ≤ 4 → w j < 5 ∧ c (w j) % 10 = j ∧ (j = 4 → w j = b) := by
    refine ⟨fun j => if j = 4 then b else Classical.choose (ch j), fun j hj => ?_⟩
    have := Classical.choose_spec (ch j) hj
    by_cases e : j = 4
    · simp only [e, if_true]
      exact ⟨hb, hb4, fun _ => trivial⟩
    · simp only [e, if_false]
      exact ⟨this.1, this.2, fun x => absurd x (by simp)⟩
  have inj := ext_inj (pr := w) (k := 5) (i := a) (fun p q hp hq e => by
    have h1 := (hw p (by omega)).2.1
    have h2 := (hw q (by omega)).2.1
    rw [e, h2] at h1
    exact h1.symm) (fun p hp e => by
    have h1 := (hw p (by omega)).2.1
    rw [e, ha4] at h1
    have := (hw p (by omega)).2.2 h1.symm
    omega)
  have := sumN_inj (m := 5) (pr := va_up w 5 a) 6 (fun _ => 1) (fun l hl => by
    unfold va_up
    split
    · exact ha
    · exact (hw l (by omega)).1) inj
  simp [sumN] at this
variable {n : Nat} {len : Nat → Nat} {lnk : Nat → Nat → Nat}
theorem rt_len4 (hs : ∀ l, src l < 5) (ht : ∀ l, tgt l < 5) (h : rtOK met src tgt n m len lnk) {a b : Nat} (ha : a < 5) (hb : b < 5) : len (a * 5 + b) ≤ 4 ∧ (0 < len (a * 5 + b) → a < n ∧ b < n ∧ ¬ a = b ∧ costsTo (wM met) src tgt m 5 b a < 1000000 ∧ costsTo (wM met) src tgt m 5 b a % 10 = len (a * 5 + b)) := by
  obtain ⟨h1, h2⟩ := h a b ha hb
  by_cases e : a < n ∧ b < n
  · obtain ⟨h3, h4⟩ := h2 e.1 e.2
    by_cases f : costsTo (wM met) src tgt m 5 b a < 1000000
    · obtain ⟨h5, -⟩ := h4 f
      have hr := rest_M (met := met) (m := m) hs ht hb
      have := hops4 ht hr ha f
      refine ⟨by omega, fun p => ⟨e.1, e.2, fun x => ?_, f, h5.symm⟩⟩
      rw [x] at h5 p
      rw [hr.1] at h5
      omega
    · have := h3 (by omega)
      exact ⟨by omega, fun p => by omega⟩
  · have := h1 e
    exact ⟨by omega, fun p => by omega⟩
theorem len4_cnt (hs : ∀ l, src l < 5) (ht : ∀ l, tgt l < 5) (h : rtOK met src tgt n m len lnk) : cntN (fun s => decide (len s = 4)) 25 ≤ 5 := by
  rw [cnt_sum]
  have one : ∀ b, b < 5 → ∀ k, k ≤ 5 → sumN (fun a => if decide (len (a * 5 + b) = 4) then 1 else 0) k ≤ 1 ∧ ((∃ a, a < k ∧ len (a * 5 + b) = 4) ∨ sumN (fun a => if decide (len (a * 5 + b) = 4) then 1 else 0) k = 0) := by
    intro b hb k
    induction k with
    | zero => exact fun _ => ⟨Nat.zero_le _, Or.inr rfl⟩
    | succ k ih =>
      intro hk
      obtain ⟨i1, i2⟩ := ih (by omega)
      simp only [sumN]
      by_cases e : len (k * 5 + b) = 4
      · rcases i2 with ⟨a, ha, e'⟩ | i2
        · exfalso
          obtain ⟨-, x1⟩ := rt_len4 hs ht h (a := k) (b := b) (by omega) hb
          obtain ⟨-, x2⟩ := rt_len4 hs ht h (a := a) (b := b) (by omega) hb
          obtain ⟨-, -, -, y1, y2⟩ := x1 (by omega)
          obtain ⟨-, -, -, z1, z2⟩ := x2 (by omega)
          have := hop_one ht (rest_M (met := met) (m := m) hs ht hb) (a := k) (b := a) (by omega) (by omega) y1 z1 (by omega) (by omega)
          omega
        · rw [i2]
          simp only [e, decide_true, if_true]
          exact ⟨by omega, Or.inl ⟨k, by omega, e⟩⟩
      · simp only [e, decide_false]
        refine ⟨i1, ?_⟩
        rcases i2 with ⟨a, ha, e'⟩ | i2
        · exact Or.inl ⟨a, by omega, e'⟩
        · exact Or.inr i2
  have g0 := (one 0 (by omega) 5 (by omega)).1
  have g1 := (one 1 (by omega) 5 (by omega)).1
  have g2 := (one 2 (by omega) 5 (by omega)).1
  have g3 := (one 3 (by omega) 5 (by omega)).1
  have g4 := (one 4 (by omega) 5 (by omega)).1
  generalize hf : (fun s => if decide (len s = 4) = true then 1 else 0) = f
  have fe : ∀ s, (if decide (len s = 4) = true then 1 else 0) = f s := fun s => by rw [← hf]
  simp only [fe] at g0 g1 g2 g3 g4
  simp only [sumN] at g0 g1 g2 g3 g4 ⊢
  simp only [Nat.zero_mul, Nat.zero_add, Nat.add_zero, Nat.reduceMul, Nat.reduceAdd] at g0 g1 g2 g3 g4 ⊢
  omega
end HOP
