/-! searches, counts and sums below a bound -/
def anyB (p : Nat → Bool) : Nat → Bool
  | 0 => false
  | n + 1 => anyB p n || p n
theorem anyB_t {p : Nat → Bool} {n : Nat} : anyB p n = true ↔ ∃ j : Nat, j < n ∧ p j = true := by
  induction n with
  | zero => simp [anyB]
  | succ n ih =>
    simp only [anyB, Bool.or_eq_true, ih]
    constructor
    · rintro (⟨j, h, q⟩ | q)
      · exact ⟨j, by omega, q⟩
      · exact ⟨n, by omega, q⟩
    · rintro ⟨j, h, q⟩
      by_cases e : j = n
      · subst e; exact Or.inr q
      · exact Or.inl ⟨j, by omega, q⟩
theorem anyB_f {p : Nat → Bool} {n : Nat} : anyB p n = false ↔ ∀ j : Nat, j < n → p j = false := by
  rw [← Bool.not_eq_true, anyB_t]
  constructor
  · intro h j hj
    cases q : p j with
    | false => rfl
    | true => exact absurd ⟨j, hj, q⟩ h
  · rintro h ⟨j, hj, q⟩
    rw [h j hj] at q
    cases q
theorem anyB_congr {p q : Nat → Bool} {n : Nat} (h : ∀ j, j < n → p j = q j) : anyB p n = anyB q n := by
  induction n with
  | zero => rfl
  | succ n ih => simp only [anyB]; rw [ih (fun j hj => h j (by omega)), h n (by omega)]
/-- the first place below n where p holds -/
def fstN (p : Nat → Bool) : Nat → Option Nat
  | 0 => none
  | n + 1 => match fstN p n with
    | some k => some k
    | none => if p n then some n else none
theorem fstN_none {p : Nat → Bool} {n : Nat} : fstN p n = none ↔ ∀ j : Nat, j < n → p j = false := by
  induction n with
  | zero => simp [fstN]
  | succ n ih =>
    simp only [fstN]
    cases h : fstN p n with
    | some k =>
      simp only [reduceCtorEq, false_iff]
      intro q
      have := ih.mpr (fun j hj => q j (by omega))
      rw [h] at this
      cases this
    | none =>
      have h2 := ih.mp h
      cases q : p n with
      | true =>
        simp only [if_true, reduceCtorEq, false_iff]
        intro z
        rw [z n (by omega)] at q
        cases q
      | false =>
        simp only [Bool.false_eq_true, if_false, true_iff]
        intro j hj
        by_cases e : j = n
        · subst e; exact q
        · exact h2 j (by omega)
theorem fstN_some {p : Nat → Bool} {n k : Nat} : fstN p n = some k ↔ k < n ∧ p k = true ∧ ∀ j : Nat, j < k → p j = false := by
  induction n with
  | zero => simp [fstN]
  | succ n ih =>
    simp only [fstN]
    cases h : fstN p n with
    | some m =>
      simp only [Option.some.injEq]
      rw [h] at ih
      constructor
      · intro e
        obtain ⟨h1, h2, h3⟩ := ih.mp (by rw [e])
        exact ⟨by omega, h2, h3⟩
      · rintro ⟨h1, h2, h3⟩
        by_cases e : k = n
        · subst e
          have hm := (fstN_none (p := p) (n := k)).mpr h3
          rw [hm] at h
          cases h
        · exact Option.some.inj (ih.mpr ⟨by omega, h2, h3⟩)
    | none =>
      have h2 := fstN_none.mp h
      cases q : p n with
      | true =>
        simp only [if_true, Option.some.injEq]
        constructor
        · rintro rfl
          exact ⟨by omega, q, h2⟩
        · rintro ⟨a, b, c⟩
          by_cases e : k = n
          · exact e.symm
          · rw [h2 k (by omega)] at b
            cases b
      | false =>
        simp only [Bool.false_eq_true, if_false, reduceCtorEq, false_iff]
        rintro ⟨a, b, c⟩
        by_cases e : k = n
        · subst e; rw [q] at b; cases b
        · rw [h2 k (by omega)] at b; cases b
theorem fstN_congr {p q : Nat → Bool} {n : Nat} (h : ∀ j, j < n → p j = q j) : fstN p n = fstN q n := by
  induction n with
  | zero => rfl
  | succ n ih => simp only [fstN]; rw [ih (fun j hj => h j (by omega)), h n (by omega)]
def cntN (p : Nat → Bool) : Nat → Nat
  | 0 => 0
  | n + 1 => if p n then cntN p n + 1 else cntN p n
theorem cntN_le (p : Nat → Bool) (n : Nat) : cntN p n ≤ n := by
  induction n with
  | zero => exact Nat.le_refl 0
  | succ n ih => simp only [cntN]; split <;> omega
theorem cntN_congr {p q : Nat → Bool} {n : Nat} (h : ∀ j, j < n → p j = q j) : cntN p n = cntN q n := by
  induction n with
  | zero => rfl
  | succ n ih => simp only [cntN]; rw [ih (fun j hj => h j (by omega)), h n (by omega)]
def sumI (f : Nat → Int32) : Nat → Int32
  | 0 => 0
  | n + 1 => sumI f n + f n
theorem sumI_congr {f g : Nat → Int32} {n : Nat} (h : ∀ j, j < n → f j = g j) : sumI f n = sumI g n := by
  induction n with
  | zero => rfl
  | succ n ih => simp only [sumI]; rw [ih (fun j hj => h j (by omega)), h n (by omega)]
def sumL (f : Nat → Int64) : Nat → Int64
  | 0 => 0
  | n + 1 => sumL f n + f n
theorem sumL_congr {f g : Nat → Int64} {n : Nat} (h : ∀ j, j < n → f j = g j) : sumL f n = sumL g n := by
  induction n with
  | zero => rfl
  | succ n ih => simp only [sumL]; rw [ih (fun j hj => h j (by omega)), h n (by omega)]
/-- g below n, f from n on -/
def mixN {α : Type} (f g : Nat → α) (n : Nat) : Nat → α := fun j => if j < n then g j else f j
theorem mixN_0 {α : Type} (f g : Nat → α) : mixN f g 0 = f := by funext j; simp [mixN]
theorem mixN_s {α : Type} (f g : Nat → α) (n : Nat) : va_up (mixN f g n) n (g n) = mixN f g (n + 1) := by
  funext j
  unfold va_up mixN
  by_cases h : j = n
  · subst h; simp
  · by_cases h2 : j < n
    · simp [h, h2, show j < n + 1 by omega]
    · simp [h, h2, show ¬ j < n + 1 by omega]
theorem i32_add0 (x : Int32) : x + 0 = x := Int32.add_zero x
theorem i64_add0 (x : Int64) : x + 0 = x := Int64.add_zero x
theorem rI {x y : Int32} (h : x = y) : [Value.int x] = [Value.int y] := by rw [h]
theorem rL {x y : Int64} (h : x = y) : [Value.long x] = [Value.long y] := by rw [h]
theorem rB1 {b : Bool} (h : b = true) : [Value.int (nI 1)] = [Value.int (bI b)] := by rw [h]; rfl
theorem rB0 {b : Bool} (h : b = false) : [Value.int (nI 0)] = [Value.int (bI b)] := by rw [h]; rfl
