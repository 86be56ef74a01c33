/-! the class's elimination, in 64 bits, is the one over the integers -/
theorem bm64 {x : Int} (h : x.natAbs < 9223372036854775808) : x.bmod (2 ^ 64) = x := by
  apply Int.bmod_eq_of_le <;> omega
theorem i64_mul {x y : Int64} {a b : Int} (hx : x.toInt = a) (hy : y.toInt = b) (h : (a * b).natAbs < 9223372036854775808) : (x * y).toInt = a * b := by
  rw [Int64.toInt_mul, hx, hy, bm64 h]
theorem i64_sub {x y : Int64} {a b : Int} (hx : x.toInt = a) (hy : y.toInt = b) (h : (a - b).natAbs < 9223372036854775808) : (x - y).toInt = a - b := by
  rw [Int64.toInt_sub, hx, hy, bm64 h]
theorem i64_add {x y : Int64} {a b : Int} (hx : x.toInt = a) (hy : y.toInt = b) (h : (a + b).natAbs < 9223372036854775808) : (x + y).toInt = a + b := by
  rw [Int64.toInt_add, hx, hy, bm64 h]
theorem i64_neg {x : Int64} {a : Int} (hx : x.toInt = a) (h : a.natAbs < 9223372036854775808) : (-x).toInt = -a := by
  rw [Int64.toInt_neg, hx, bm64 (by omega)]
theorem tdiv_abs (a b : Int) : (a.tdiv b).natAbs ≤ a.natAbs := by
  rw [Int.natAbs_tdiv]
  exact Nat.div_le_self _ _
theorem i64_div {x y : Int64} {a b : Int} (hx : x.toInt = a) (hy : y.toInt = b) (h : a.natAbs < 9223372036854775808) : (x / y).toInt = a.tdiv b := by
  rw [Int64.toInt_div, hx, hy, bm64 (Nat.lt_of_le_of_lt (tdiv_abs a b) h)]
theorem i64_0 {x : Int64} {a : Int} (hx : x.toInt = a) : x = 0 ↔ a = 0 := by
  rw [← hx]
  constructor
  · intro e; rw [e]; rfl
  · intro e; exact Int64.toInt_inj.mp (by rw [e]; rfl)
theorem i64_eq {x y : Int64} {a b : Int} (hx : x.toInt = a) (hy : y.toInt = b) : x = y ↔ a = b := by
  rw [← hx, ← hy]
  exact Int64.toInt_inj.symm
theorem mul_abs {a b : Int} {p q : Nat} (h : a.natAbs ≤ p) (h2 : b.natAbs ≤ q) : (a * b).natAbs ≤ p * q := by
  rw [Int.natAbs_mul]
  exact Nat.mul_le_mul h h2
theorem row_step {nx piv : Int64} {row prow : Nat → Int64} {c j : Nat} {D D1 : Int} {X X' Y : Nat → Int} (hpv : piv.toInt = D) (hD : ¬ D = 0) (hn : nx.toInt = D1) (hrc : (row c).toInt = X c) (hr : (row j).toInt = X j) (hp : (prow j).toInt = Y j) (b1 : D1.natAbs ≤ 2239488) (b2 : (X c).natAbs ≤ 2239488) (b3 : (X j).natAbs ≤ 1791411240960) (b4 : (Y j).natAbs ≤ 1791411240960) (hj : j < 26) (he : D * X' j = D1 * X j - X c * Y j) : ((if ¬ nx = piv ∨ ¬ row c = 0 then comb nx (row c) piv row prow else row) j).toInt = X' j := by
  have m1 := mul_abs b1 b3
  have m2 := mul_abs b2 b4
  by_cases hc : ¬ nx = piv ∨ ¬ row c = 0
  · rw [if_pos hc]
    unfold comb mixN combF quot
    have h0 : ¬ piv = 0 := fun e => hD ((i64_0 hpv).mp e)
    simp only [hj, if_true, h0, if_false]
    have h1 := i64_mul hn hr (by omega)
    have h2 := i64_mul hrc hp (by omega)
    have h3 := i64_sub h1 h2 (by omega)
    rw [i64_div h3 hpv (by omega), ← he]
    exact Int.mul_tdiv_cancel_left _ hD
  · rw [if_neg hc]
    have h1 : nx = piv := Classical.byContradiction (fun e => hc (Or.inl e))
    have h2 : row c = 0 := Classical.byContradiction (fun e => hc (Or.inr e))
    have h3 := (i64_0 hrc).mp h2
    have h4 := (i64_eq hn hpv).mp h1
    rw [h3, h4, Int.zero_mul, Int.sub_zero] at he
    rw [hr, Int.eq_of_mul_eq_mul_left hD he]
theorem clr_at (c p : Nat) (piv nx : Int64) (R : Nat → Nat → Int64) : ∀ m r, clr c p piv nx R m r = if r < m ∧ ¬ r = p then (if ¬ nx = piv ∨ ¬ R r c = 0 then comb (R p c) (R r c) piv (R r) (R p) else R r) else R r
  | 0, r => by simp [clr]
  | m + 1, r => by
    have ih := clr_at c p piv nx R m
    have hp : clr c p piv nx R m p = R p := by rw [ih p, if_neg (by omega)]
    have hm : clr c p piv nx R m m = R m := by rw [ih m, if_neg (by omega)]
    simp only [clr]
    rw [hp, hm]
    by_cases e : r = m
    · subst e
      by_cases x : r = p
      · rw [if_neg (by omega), if_neg (by omega)]
        exact hm
      · by_cases y : ¬ nx = piv ∨ ¬ R r c = 0
        · rw [if_pos ⟨x, y⟩, va_up_self, if_pos ⟨by omega, x⟩, if_pos y]
        · rw [if_neg (fun z => y z.2), if_pos ⟨by omega, x⟩, if_neg y]
          exact hm
    · have h2 : (if ¬ m = p ∧ (¬ nx = piv ∨ ¬ R m c = 0) then va_up (clr c p piv nx R m) m (comb (R p c) (R m c) piv (R m) (R p)) else clr c p piv nx R m) r = clr c p piv nx R m r := by
        split
        · rw [va_up_ne _ _ e]
        · rfl
      rw [h2, ih r]
      by_cases x : r < m ∧ ¬ r = p
      · have x2 : r < m + 1 ∧ ¬ r = p := ⟨by omega, x.2⟩
        simp only [if_pos x, if_pos x2]
      · rw [if_neg x, if_neg (fun z => x ⟨by omega, z.2⟩)]
/-- the state of the elimination stands for the pivots pr, jc -/
def EX (A : Nat → Nat → Int) (m : Nat) (z : eZ) (pr jc : Nat → Nat) (c : Nat) : Prop :=
  Cf A m pr jc z.1 c ∧ z.2.1.toInt = cfD A pr jc z.1 ∧ (∀ q, q < z.1 → ∀ j, j < 26 → (z.2.2.1 (pr q) j).toInt = RP A pr jc z.1 q j) ∧ (∀ i, i < m → (∀ q, q < z.1 → ¬ pr q = i) → ∀ j, j < 26 → (z.2.2.1 i j).toInt = RN A pr jc z.1 i j) ∧ (∀ q, q < z.1 → z.2.2.2.1 (jc q) = some (pr q) ∧ z.2.2.2.2 (pr q) = some (jc q)) ∧ (∀ s, (∀ q, q < z.1 → ¬ jc q = s) → z.2.2.2.1 s = none) ∧ ∀ i, (∀ q, q < z.1 → ¬ pr q = i) → z.2.2.2.2 i = none
section XEL
variable {A : Nat → Nat → Int} {m : Nat}
theorem EX_0 {R : Nat → Nat → Int64} (h : ∀ i, i < m → ∀ j, j < 26 → (R i j).toInt = A i j) (pr jc : Nat → Nat) : EX A m (0, 1, R, fun _ => none, fun _ => none) pr jc 0 :=
  ⟨Cf_0, rfl, fun q hq => absurd hq (Nat.not_lt_zero _), fun i hi _ j hj => by
    show (R i j).toInt = _
    rw [h i hi j hj]
    simp [RN, cfD, dt, sumZ], fun q hq => absurd hq (Nat.not_lt_zero _), fun _ _ => rfl, fun _ _ => rfl⟩
theorem EX_1 (hb : Bd A m) {z : eZ} {pr jc : Nat → Nat} {c : Nat} (hc : c < 25) (h : EX A m z pr jc c) : ∃ pr' jc', EX A m (elim1 m c z) pr' jc' (c + 1) := by
  obtain ⟨k, piv, R, rop, por⟩ := z
  obtain ⟨hcf, hpv, hRP, hRN, hq1, hs0, hi0⟩ := h
  dsimp only at hcf hpv hRP hRN hq1 hs0 hi0
  unfold elim1
  dsimp only
  cases hf : pivR m R por c with
  | none =>
    refine ⟨pr, jc, Cf_skip hcf (fun i hi => ?_), hpv, hRP, hRN, hq1, hs0, hi0⟩
    by_cases e : ∃ q, q < k ∧ pr q = i
    · obtain ⟨q, hq, e⟩ := e
      rw [← e]
      exact RN_pr hcf.1 hq c
    · have hni : ∀ q, q < k → ¬ pr q = i := fun q hq x => e ⟨q, hq, x⟩
      have h1 := fstN_none.mp hf i hi
      rw [hi0 i hni] at h1
      simp at h1
      exact (i64_0 (hRN i hi hni c (by omega))).mp h1
  | some p =>
    obtain ⟨hpm, hpp, -⟩ := fstN_some.mp hf
    simp only [Bool.and_eq_true, decide_eq_true_eq, Bool.not_eq_true', decide_eq_false_iff_not] at hpp
    have hnp : ∀ q, q < k → ¬ pr q = p := fun q hq e => by
      have := (hq1 q hq).2
      rw [e, hpp.1] at this
      cases this
    have hp26 := hRN p hpm hnp
    have h0 : ¬ RN A pr jc k p c = 0 := fun e => hpp.2 ((i64_0 (hp26 c (by omega))).mpr e)
    have hcf' := Cf_take hcf hpm h0
    have hk : k ≤ 11 := by
      have := Cf_k hcf'
      have := hb.1
      omega
    have sN := fun i hi => RN_small hb hcf (by omega) hk (i := i) hi
    have sP := fun q hq => RP_small hb hcf (by omega) (q := q) hq
    have sm : ∀ {x : Nat → Int}, (∀ j, j < 25 → (x j).natAbs ≤ 2239488) → (x 25).natAbs ≤ 1791411240960 → ∀ j, j < 26 → (x j).natAbs ≤ 1791411240960 := by
      intro x h1 h2 j hj
      by_cases e : j = 25
      · rw [e]; exact h2
      · have := h1 j (by omega); omega
    refine ⟨va_up pr k p, va_up jc k c, hcf', ?_, ?_, ?_, ?_, ?_, ?_⟩
    · show (R p c).toInt = _
      rw [cfD_step, hp26 c (by omega)]
    · intro q hq j hj
      show (clr c p piv (R p c) R m (va_up pr k p q) j).toInt = _
      rw [clr_at]
      by_cases e : q = k
      · subst e
        rw [va_up_self, if_neg (by omega), hp26 j hj, RP_new h0]
      · have hq : q < k := by
          have : q < k + 1 := hq
          omega
        rw [va_up_ne _ _ e, if_pos ⟨hcf.2.1 q hq, hnp q hq⟩]
        exact row_step (X := RP A pr jc k q) (X' := RP A (va_up pr k p) (va_up jc k c) (k + 1) q) (Y := RN A pr jc k p) hpv hcf.1 (hp26 c (by omega)) (hRP q hq c (by omega)) (hRP q hq j hj) (hp26 j hj) ((sN p hpm).1 c hc) (((sP q hq).1 c hc).2 hk) (sm (fun j hj => ((sP q hq).1 j hj).2 hk) (sP q hq).2 j hj) (sm (sN p hpm).1 (sN p hpm).2 j hj) hj (RP_step h0 hq j)
    · intro i hi hni j hj
      show (clr c p piv (R p c) R m i j).toInt = _
      rw [clr_at]
      have hip : ¬ i = p := fun e => hni k (by show k < k + 1; omega) (by rw [va_up_self, e])
      have hni2 : ∀ q, q < k → ¬ pr q = i := fun q hq e => hni q (by show q < k + 1; omega) (by rw [va_up_ne _ _ (by omega), e])
      rw [if_pos ⟨hi, hip⟩]
      have h1 := hRN i hi hni2
      exact row_step (X := RN A pr jc k i) (X' := RN A (va_up pr k p) (va_up jc k c) (k + 1) i) (Y := RN A pr jc k p) hpv hcf.1 (hp26 c (by omega)) (h1 c (by omega)) (h1 j hj) (hp26 j hj) ((sN p hpm).1 c hc) ((sN i hi).1 c hc) (sm (sN i hi).1 (sN i hi).2 j hj) (sm (sN p hpm).1 (sN p hpm).2 j hj) hj (RN_step h0 i j)
    · intro q hq
      show va_up rop c (some p) (va_up jc k c q) = some (va_up pr k p q) ∧ va_up por p (some c) (va_up pr k p q) = some (va_up jc k c q)
      by_cases e : q = k
      · subst e
        simp only [va_up_self, and_self]
      · have hq : q < k := by
          have : q < k + 1 := hq
          omega
        have h1 := hcf.2.2.1 q hq
        rw [va_up_ne _ _ e, va_up_ne _ _ e, va_up_ne _ _ (show jc q ≠ c by omega), va_up_ne _ _ (hnp q hq)]
        exact hq1 q hq
    · intro s hs
      show va_up rop c (some p) s = none
      have h1 : ¬ s = c := fun e => hs k (by show k < k + 1; omega) (by rw [va_up_self, e])
      rw [va_up_ne _ _ h1]
      exact hs0 s (fun q hq e => hs q (by show q < k + 1; omega) (by rw [va_up_ne _ _ (by omega), e]))
    · intro i hi
      show va_up por p (some c) i = none
      have h1 : ¬ i = p := fun e => hi k (by show k < k + 1; omega) (by rw [va_up_self, e])
      rw [va_up_ne _ _ h1]
      exact hi0 i (fun q hq e => hi q (by show q < k + 1; omega) (by rw [va_up_ne _ _ (by omega), e]))
theorem EX_N (hb : Bd A m) {z : eZ} {pr jc : Nat → Nat} (h : EX A m z pr jc 0) : ∀ c, c ≤ 25 → ∃ pr' jc', EX A m (elimN m c z) pr' jc' c
  | 0, _ => ⟨pr, jc, h⟩
  | c + 1, hc => by
    obtain ⟨pr', jc', h'⟩ := EX_N hb h c (by omega)
    exact EX_1 hb (by omega) h'
end XEL
