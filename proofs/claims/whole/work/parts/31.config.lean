/-! rows reduced by k pivots (rows pr, columns jc): what stands in them -/
def cfB (A : Nat → Nat → Int) (pr jc : Nat → Nat) : Nat → Nat → Int := fun l q => A (pr l) (jc q)
def cfD (A : Nat → Nat → Int) (pr jc : Nat → Nat) (k : Nat) : Int := dt k (cfB A pr jc)
def cof (A : Nat → Nat → Int) (pr jc : Nat → Nat) (k : Nat) (v : Nat → Int) (l : Nat) : Int := dt k (va_up (cfB A pr jc) l v)
def unZ (q : Nat) : Nat → Int := fun j => if j = q then 1 else 0
/-- a row without a pivot -/
def RN (A : Nat → Nat → Int) (pr jc : Nat → Nat) (k i c : Nat) : Int := cfD A pr jc k * A i c - sumZ (fun l => cof A pr jc k (fun q => A i (jc q)) l * A (pr l) c) k
/-- the row of pivot q -/
def RP (A : Nat → Nat → Int) (pr jc : Nat → Nat) (k q c : Nat) : Int := sumZ (fun l => cof A pr jc k (unZ q) l * A (pr l) c) k
section CFG
variable {A : Nat → Nat → Int} {pr jc : Nat → Nat} {k : Nat}
theorem cof_col (v : Nat → Int) {q : Nat} (hq : q < k) : sumZ (fun l => cof A pr jc k v l * A (pr l) (jc q)) k = cfD A pr jc k * v q := dt_cols k (cfB A pr jc) v q hq
theorem RN_jc (i : Nat) {q : Nat} (hq : q < k) : RN A pr jc k i (jc q) = 0 := by
  unfold RN
  rw [cof_col _ hq]
  omega
theorem RP_jc (q : Nat) {q' : Nat} (hq : q' < k) : RP A pr jc k q (jc q') = if q' = q then cfD A pr jc k else 0 := by
  unfold RP
  rw [cof_col _ hq]
  unfold unZ
  split <;> simp
theorem comb_eq (hD : ¬ cfD A pr jc k = 0) {x y : Nat → Int} (h : ∀ q, q < k → sumZ (fun l => x l * A (pr l) (jc q)) k = sumZ (fun l => y l * A (pr l) (jc q)) k) {l : Nat} (hl : l < k) : x l = y l := by
  have := dt_indep (B := cfB A pr jc) (k := k) hD (x := fun l => x l - y l) (fun q hq => by
    have h1 := h q hq
    show sumZ (fun i => (x i - y i) * A (pr i) (jc q)) k = 0
    rw [sumZ_congr (g := fun i => x i * A (pr i) (jc q) - y i * A (pr i) (jc q)) (fun i _ => Int.sub_mul _ _ _), sumZ_sub]
    omega) hl
  omega
/-- one pivot more -/
theorem cfD_step (p c0 : Nat) : cfD A (va_up pr k p) (va_up jc k c0) (k + 1) = RN A pr jc k p c0 := by
  unfold cfD RN cof cfD
  simp only [dt]
  have e1 : dt k (cfB A (va_up pr k p) (va_up jc k c0)) = dt k (cfB A pr jc) := dt_congr k (fun i q hi hq => by
    unfold cfB
    rw [va_up_ne _ _ (by omega), va_up_ne _ _ (by omega)])
  rw [e1]
  congr 1
  · unfold cfB; rw [va_up_self, va_up_self]
  · apply sumZ_congr
    intro l hl
    have e2 : cfB A (va_up pr k p) (va_up jc k c0) l k = A (pr l) c0 := by unfold cfB; rw [va_up_self, va_up_ne _ _ (show l ≠ k by omega)]
    rw [e2]
    congr 1
    apply dt_congr
    intro i q hi hq
    unfold va_up cfB
    by_cases e : i = l
    · simp [e, show ¬ q = k by omega]
    · simp [e, show ¬ i = k by omega, show ¬ q = k by omega]
theorem sum_step (f : Nat → Int) (p c0 c : Nat) : sumZ (fun l => f l * A (va_up pr k p l) c) (k + 1) = sumZ (fun l => f l * A (pr l) c) k + f k * A p c := by
  simp only [sumZ]
  rw [va_up_self, sumZ_congr (g := fun l => f l * A (pr l) c) (fun l hl => by rw [va_up_ne _ _ (show l ≠ k by omega)])]
theorem RN_sum (i c : Nat) : sumZ (fun l => cof A pr jc k (fun q => A i (jc q)) l * A (pr l) c) k = cfD A pr jc k * A i c - RN A pr jc k i c := by unfold RN; omega
/-- two ways to write one row over the new pivots: their columns decide -/
theorem step_eq {p c0 : Nat} (hD : ¬ RN A pr jc k p c0 = 0) {x y : Nat → Int} (h : ∀ q, q < k → sumZ (fun l => x l * A (va_up pr k p l) (jc q)) (k + 1) = sumZ (fun l => y l * A (va_up pr k p l) (jc q)) (k + 1)) (h0 : sumZ (fun l => x l * A (va_up pr k p l) c0) (k + 1) = sumZ (fun l => y l * A (va_up pr k p l) c0) (k + 1)) (c : Nat) : sumZ (fun l => x l * A (va_up pr k p l) c) (k + 1) = sumZ (fun l => y l * A (va_up pr k p l) c) (k + 1) := by
  apply sumZ_congr
  intro l hl
  rw [comb_eq (A := A) (pr := va_up pr k p) (jc := va_up jc k c0) (k := k + 1) (by rw [cfD_step]; exact hD) (x := x) (y := y) (fun q hq => ?_) hl]
  by_cases e : q = k
  · subst e
    rw [va_up_self]
    exact h0
  · rw [va_up_ne _ _ e]
    exact h q (by omega)
theorem RN_step {p c0 : Nat} (hD : ¬ RN A pr jc k p c0 = 0) (i c : Nat) : cfD A pr jc k * RN A (va_up pr k p) (va_up jc k c0) (k + 1) i c = RN A pr jc k p c0 * RN A pr jc k i c - RN A pr jc k i c0 * RN A pr jc k p c := by
  obtain ⟨D, hDe⟩ : ∃ D, D = cfD A pr jc k := ⟨_, rfl⟩
  obtain ⟨D1, hD1⟩ : ∃ D1, D1 = RN A pr jc k p c0 := ⟨_, rfl⟩
  obtain ⟨z, hz⟩ : ∃ z, z = RN A pr jc k i c0 := ⟨_, rfl⟩
  -- the combination on the right
  have hy : ∀ c, sumZ (fun l => (if l = k then z * D else D1 * cof A pr jc k (fun q => A i (jc q)) l - z * cof A pr jc k (fun q => A p (jc q)) l) * A (va_up pr k p l) c) (k + 1) = D1 * (D * A i c - RN A pr jc k i c) + z * RN A pr jc k p c := by
    intro c
    rw [sum_step _ p c0, if_pos rfl, sumZ_congr (g := fun l => D1 * (cof A pr jc k (fun q => A i (jc q)) l * A (pr l) c) - z * (cof A pr jc k (fun q => A p (jc q)) l * A (pr l) c)) (fun l hl => by rw [if_neg (by omega), Int.sub_mul, Int.mul_assoc, Int.mul_assoc]), sumZ_sub, sumZ_mul, sumZ_mul, RN_sum, RN_sum, ← hDe]
    generalize RN A pr jc k p c = a
    generalize RN A pr jc k i c = b
    simp only [Int.mul_sub]
    rw [Int.mul_assoc z D]
    omega
  have hx : ∀ q, q < k + 1 → sumZ (fun l => (D * cof A (va_up pr k p) (va_up jc k c0) (k + 1) (fun q => A i (va_up jc k c0 q)) l) * A (va_up pr k p l) (va_up jc k c0 q)) (k + 1) = D * (D1 * A i (va_up jc k c0 q)) := by
    intro q hq
    rw [sumZ_congr (g := fun l => D * (cof A (va_up pr k p) (va_up jc k c0) (k + 1) (fun q => A i (va_up jc k c0 q)) l * A (va_up pr k p l) (va_up jc k c0 q))) (fun l _ => Int.mul_assoc _ _ _), sumZ_mul, cof_col _ hq, cfD_step, ← hD1]
  have key := step_eq (A := A) (pr := pr) (jc := jc) (k := k) (p := p) (c0 := c0) hD (x := fun l => D * cof A (va_up pr k p) (va_up jc k c0) (k + 1) (fun q => A i (va_up jc k c0 q)) l) (y := fun l => if l = k then z * D else D1 * cof A pr jc k (fun q => A i (jc q)) l - z * cof A pr jc k (fun q => A p (jc q)) l) (fun q hq => by
      have h1 := hx q (by omega)
      rw [va_up_ne _ _ (show q ≠ k by omega)] at h1
      rw [h1, hy, RN_jc i hq, RN_jc p hq, Int.sub_zero, Int.mul_left_comm D D1]
      omega) (by
      have h1 := hx k (by omega)
      rw [va_up_self] at h1
      rw [h1, hy, ← hz, ← hD1, Int.mul_sub, Int.mul_left_comm D D1, Int.mul_comm z D1]
      omega) c
  have h2 : cfD A pr jc k * RN A (va_up pr k p) (va_up jc k c0) (k + 1) i c = D * (D1 * A i c) - sumZ (fun l => (D * cof A (va_up pr k p) (va_up jc k c0) (k + 1) (fun q => A i (va_up jc k c0 q)) l) * A (va_up pr k p l) c) (k + 1) := by
    rw [sumZ_congr (f := fun l => (D * cof A (va_up pr k p) (va_up jc k c0) (k + 1) (fun q => A i (va_up jc k c0 q)) l) * A (va_up pr k p l) c) (g := fun l => D * (cof A (va_up pr k p) (va_up jc k c0) (k + 1) (fun q => A i (va_up jc k c0 q)) l * A (va_up pr k p l) c)) (fun l _ => Int.mul_assoc _ _ _), sumZ_mul, ← Int.mul_sub, ← hDe]
    congr 1
    show cfD A (va_up pr k p) (va_up jc k c0) (k + 1) * A i c - _ = _
    rw [cfD_step, ← hD1]
  rw [h2, key, hy, Int.mul_sub, Int.mul_left_comm D D1]
  rw [← hD1, ← hz]
  omega
theorem RP_step {p c0 : Nat} (hD : ¬ RN A pr jc k p c0 = 0) {q : Nat} (hq : q < k) (c : Nat) : cfD A pr jc k * RP A (va_up pr k p) (va_up jc k c0) (k + 1) q c = RN A pr jc k p c0 * RP A pr jc k q c - RP A pr jc k q c0 * RN A pr jc k p c := by
  obtain ⟨D, hDe⟩ : ∃ D, D = cfD A pr jc k := ⟨_, rfl⟩
  obtain ⟨D1, hD1⟩ : ∃ D1, D1 = RN A pr jc k p c0 := ⟨_, rfl⟩
  obtain ⟨z, hz⟩ : ∃ z, z = RP A pr jc k q c0 := ⟨_, rfl⟩
  have hy : ∀ c, sumZ (fun l => (if l = k then -(z * D) else D1 * cof A pr jc k (unZ q) l + z * cof A pr jc k (fun q => A p (jc q)) l) * A (va_up pr k p l) c) (k + 1) = D1 * RP A pr jc k q c - z * RN A pr jc k p c := by
    intro c
    rw [sum_step _ p c0, if_pos rfl, sumZ_congr (g := fun l => D1 * (cof A pr jc k (unZ q) l * A (pr l) c) + z * (cof A pr jc k (fun q => A p (jc q)) l * A (pr l) c)) (fun l hl => by rw [if_neg (by omega), Int.add_mul, Int.mul_assoc, Int.mul_assoc]), sumZ_add, sumZ_mul, sumZ_mul, RN_sum, ← hDe]
    show D1 * RP A pr jc k q c + _ + _ = _
    generalize RN A pr jc k p c = a
    simp only [Int.mul_sub, Int.neg_mul]
    rw [Int.mul_assoc z D]
    omega
  have hx : ∀ q2, q2 < k + 1 → sumZ (fun l => (D * cof A (va_up pr k p) (va_up jc k c0) (k + 1) (unZ q) l) * A (va_up pr k p l) (va_up jc k c0 q2)) (k + 1) = D * (D1 * unZ q q2) := by
    intro q2 hq2
    rw [sumZ_congr (g := fun l => D * (cof A (va_up pr k p) (va_up jc k c0) (k + 1) (unZ q) l * A (va_up pr k p l) (va_up jc k c0 q2))) (fun l _ => Int.mul_assoc _ _ _), sumZ_mul, cof_col _ hq2, cfD_step, ← hD1]
  have key := step_eq (A := A) (pr := pr) (jc := jc) (k := k) (p := p) (c0 := c0) hD (x := fun l => D * cof A (va_up pr k p) (va_up jc k c0) (k + 1) (unZ q) l) (y := fun l => if l = k then -(z * D) else D1 * cof A pr jc k (unZ q) l + z * cof A pr jc k (fun q => A p (jc q)) l) (fun q2 hq2 => by
      have h1 := hx q2 (by omega)
      rw [va_up_ne _ _ (show q2 ≠ k by omega)] at h1
      rw [h1, hy, RP_jc q hq2, RN_jc p hq2, ← hDe]
      unfold unZ
      rw [Int.mul_left_comm D D1]
      split <;> simp) (by
      have h1 := hx k (by omega)
      rw [va_up_self] at h1
      rw [h1, hy, ← hz, ← hD1]
      unfold unZ
      rw [if_neg (by omega), Int.mul_comm z D1]
      simp) c
  have h2 : cfD A pr jc k * RP A (va_up pr k p) (va_up jc k c0) (k + 1) q c = sumZ (fun l => (D * cof A (va_up pr k p) (va_up jc k c0) (k + 1) (unZ q) l) * A (va_up pr k p l) c) (k + 1) := by
    rw [sumZ_congr (f := fun l => (D * cof A (va_up pr k p) (va_up jc k c0) (k + 1) (unZ q) l) * A (va_up pr k p l) c) (g := fun l => D * (cof A (va_up pr k p) (va_up jc k c0) (k + 1) (unZ q) l * A (va_up pr k p l) c)) (fun l _ => Int.mul_assoc _ _ _), sumZ_mul, ← hDe]
    rfl
  rw [h2, key, hy, ← hD1, ← hz]
theorem RP_new {p c0 : Nat} (hD : ¬ RN A pr jc k p c0 = 0) (c : Nat) : RP A (va_up pr k p) (va_up jc k c0) (k + 1) k c = RN A pr jc k p c := by
  obtain ⟨D1, hD1⟩ : ∃ D1, D1 = RN A pr jc k p c0 := ⟨_, rfl⟩
  have hy : ∀ c, sumZ (fun l => (if l = k then cfD A pr jc k else -cof A pr jc k (fun q => A p (jc q)) l) * A (va_up pr k p l) c) (k + 1) = RN A pr jc k p c := by
    intro c
    rw [sum_step _ p c0, if_pos rfl, sumZ_congr (g := fun l => (-1) * (cof A pr jc k (fun q => A p (jc q)) l * A (pr l) c)) (fun l hl => by rw [if_neg (by omega), Int.neg_mul]; omega), sumZ_mul, RN_sum]
    omega
  have hx : ∀ q2, q2 < k + 1 → sumZ (fun l => cof A (va_up pr k p) (va_up jc k c0) (k + 1) (unZ k) l * A (va_up pr k p l) (va_up jc k c0 q2)) (k + 1) = D1 * unZ k q2 := by
    intro q2 hq2
    rw [cof_col _ hq2, cfD_step, ← hD1]
  have key := step_eq (A := A) (pr := pr) (jc := jc) (k := k) (p := p) (c0 := c0) hD (x := fun l => cof A (va_up pr k p) (va_up jc k c0) (k + 1) (unZ k) l) (y := fun l => if l = k then cfD A pr jc k else -cof A pr jc k (fun q => A p (jc q)) l) (fun q2 hq2 => by
      have h1 := hx q2 (by omega)
      rw [va_up_ne _ _ (show q2 ≠ k by omega)] at h1
      rw [h1, hy, RN_jc p hq2]
      unfold unZ
      rw [if_neg (by omega)]
      simp) (by
      have h1 := hx k (by omega)
      rw [va_up_self] at h1
      rw [h1, hy, ← hD1]
      unfold unZ
      simp) c
  unfold RP
  rw [key, hy]
end CFG
