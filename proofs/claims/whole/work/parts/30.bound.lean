/-! how large a determinant can be: the product of the columns' sums -/
def sumN (f : Nat → Nat) : Nat → Nat
  | 0 => 0
  | n + 1 => sumN f n + f n
theorem sumN_congr {f g : Nat → Nat} {n : Nat} (h : ∀ j, j < n → f j = g j) : sumN f n = sumN g n := by
  induction n with
  | zero => rfl
  | succ n ih => simp only [sumN]; rw [ih (fun j hj => h j (by omega)), h n (by omega)]
theorem sumN_le {f g : Nat → Nat} {n : Nat} (h : ∀ j, j < n → f j ≤ g j) : sumN f n ≤ sumN g n := by
  induction n with
  | zero => exact Nat.le_refl _
  | succ n ih =>
    simp only [sumN]
    have := ih (fun j hj => h j (by omega))
    have := h n (by omega)
    omega
theorem sumN_mul (a : Nat) (f : Nat → Nat) (n : Nat) : sumN (fun j => a * f j) n = a * sumN f n := by
  induction n with
  | zero => rfl
  | succ n ih => simp only [sumN]; rw [ih, Nat.mul_add]
theorem sumZ_le (f : Nat → Int) (n : Nat) : (sumZ f n).natAbs ≤ sumN (fun j => (f j).natAbs) n := by
  induction n with
  | zero => exact Nat.le_refl _
  | succ n ih => simp only [sumZ, sumN]; omega
theorem sumN_up {f : Nat → Nat → Int} {k l q : Nat} {w : Nat → Int} (hl : l < k) : sumN (fun i => (va_up f l w i q).natAbs) k + (f l q).natAbs = sumN (fun i => (f i q).natAbs) k + (w q).natAbs := by
  induction k with
  | zero => omega
  | succ k ih =>
    simp only [sumN]
    by_cases e : l = k
    · subst e
      rw [va_up_self, sumN_congr (f := fun i => (va_up f l w i q).natAbs) (g := fun i => (f i q).natAbs) (fun i hi => by rw [va_up_ne _ _ (by omega)])]
      omega
    · have := ih (by omega)
      rw [va_up_ne _ _ (show k ≠ l by omega)]
      omega
def prodN (s : Nat → Nat) : Nat → Nat
  | 0 => 1
  | k + 1 => prodN s k * s k
theorem prodN_congr {f g : Nat → Nat} {n : Nat} (h : ∀ j, j < n → f j = g j) : prodN f n = prodN g n := by
  induction n with
  | zero => rfl
  | succ n ih => simp only [prodN]; rw [ih (fun j hj => h j (by omega)), h n (by omega)]
theorem dt_bd {k : Nat} {B : Nat → Nat → Int} {P : Nat} (h1 : (dt k B).natAbs ≤ P ∨ B k k = 0) (h2 : ∀ l, l < k → (dt k (va_up B l (B k))).natAbs ≤ P ∨ B l k = 0) : (dt (k + 1) B).natAbs ≤ P * sumN (fun i => (B i k).natAbs) (k + 1) := by
  simp only [dt, sumN]
  have a1 : (dt k B * B k k).natAbs ≤ P * (B k k).natAbs := by
    rw [Int.natAbs_mul]
    rcases h1 with h | h
    · exact Nat.mul_le_mul_right _ h
    · rw [h]; simp
  have a2 : (sumZ (fun l => dt k (va_up B l (B k)) * B l k) k).natAbs ≤ P * sumN (fun i => (B i k).natAbs) k := by
    rw [← sumN_mul]
    refine Nat.le_trans (sumZ_le _ _) (sumN_le (fun l hl => ?_))
    rw [Int.natAbs_mul]
    rcases h2 l hl with h | h
    · exact Nat.mul_le_mul_right _ h
    · rw [h]; simp
  rw [Nat.mul_add]
  omega
theorem dt_le : ∀ (k : Nat) (B : Nat → Nat → Int) (s : Nat → Nat), (∀ q, q < k → sumN (fun i => (B i q).natAbs) k ≤ s q) → (dt k B).natAbs ≤ prodN s k
  | 0, _, _, _ => Nat.le_refl 1
  | k + 1, B, s, h => by
    have h0 : ∀ q, q < k + 1 → sumN (fun i => (B i q).natAbs) k + (B k q).natAbs ≤ s q := fun q hq => h q hq
    refine Nat.le_trans (dt_bd (P := prodN s k) (Or.inl (dt_le k B s (fun q hq => ?_))) (fun l hl => Or.inl (dt_le k _ s (fun q hq => ?_)))) (Nat.mul_le_mul_left _ (h k (by omega)))
    · have := h0 q (by omega); omega
    · have := sumN_up (f := B) (w := B k) (q := q) hl
      have := h0 q (by omega)
      omega
/-- the same with a row that is a unit: its column counts for nothing -/
theorem dt_unit : ∀ (k : Nat) (B : Nat → Nat → Int) (s : Nat → Nat) (l c : Nat), l < k → c < k → (∀ q, q < k → B l q = if q = c then 1 else 0) → (∀ q, q < k → ¬ q = c → sumN (fun i => (B i q).natAbs) k ≤ s q) → (dt k B).natAbs ≤ prodN (fun q => if q = c then 1 else s q) k
  | 0, _, _, _, _, h, _, _, _ => absurd h (by omega)
  | k + 1, B, s, l, c, hl, hc, hu, h => by
    have h0 : ∀ q, q < k + 1 → ¬ q = c → sumN (fun i => (B i q).natAbs) k + (B k q).natAbs ≤ s q := fun q hq hn => h q hq hn
    by_cases ek : c = k
    · subst ek
      have hp : prodN (fun q => if q = c then 1 else s q) (c + 1) = prodN s c := by
        simp only [prodN, if_true, Nat.mul_one]
        exact prodN_congr (fun q hq => if_neg (by omega))
      rw [hp]
      by_cases el : l = c
      · subst el
        have hz : ∀ l', l' < l → dt l (va_up B l' (B l)) = 0 := fun l' hl' => dt_zero hl' (fun q hq => by rw [va_up_self, hu q (by omega), if_neg (by omega)])
        simp only [dt]
        rw [hu l (by omega), if_pos rfl, sumZ_0 (fun l' hl' => by rw [hz l' hl', Int.zero_mul])]
        simp only [Int.mul_one, Int.sub_zero]
        refine dt_le l B s (fun q hq => ?_)
        have := h0 q (by omega) (by omega)
        omega
      · have hlk : l < c := by omega
        have hr : ∀ q, q < c → B l q = 0 := fun q hq => by rw [hu q (by omega), if_neg (by omega)]
        simp only [dt]
        rw [dt_zero hlk hr, sumZ_delta (l := l) hlk (fun l' hl' hn => by rw [dt_zero hlk (B := va_up B l' (B c)) (fun q hq => by rw [va_up_ne _ _ (fun z => hn z.symm)]; exact hr q hq), Int.zero_mul]), hu c (by omega), if_pos rfl]
        simp only [Int.zero_mul, Int.mul_one, Int.zero_sub, Int.natAbs_neg]
        refine dt_le c _ s (fun q hq => ?_)
        have := sumN_up (f := B) (w := B c) (q := q) hlk
        have := h0 q (by omega) (by omega)
        rw [hr q hq] at *
        omega
    · have hck : c < k := by omega
      have hp : prodN (fun q => if q = c then 1 else s q) (k + 1) = prodN (fun q => if q = c then 1 else s q) k * s k := by
        simp only [prodN, if_neg (show ¬ k = c by omega)]
      rw [hp]
      refine Nat.le_trans (dt_bd (P := prodN (fun q => if q = c then 1 else s q) k) ?_ (fun l' hl' => ?_)) (Nat.mul_le_mul_left _ (h k (by omega) (by omega)))
      · by_cases el : l = k
        · subst el
          exact Or.inr (by rw [hu l (by omega), if_neg (by omega)])
        · refine Or.inl (dt_unit k B s l c (by omega) hck (fun q hq => hu q (by omega)) (fun q hq hn => ?_))
          have := h0 q (by omega) hn
          omega
      · by_cases el : l = k
        · subst el
          refine Or.inl (dt_unit l _ s l' c hl' hck (fun q hq => by rw [va_up_self]; exact hu q (by omega)) (fun q hq hn => ?_))
          have := sumN_up (f := B) (w := B l) (q := q) hl'
          have := h0 q (by omega) hn
          omega
        · by_cases e2 : l' = l
          · subst e2
            exact Or.inr (by rw [hu k (by omega), if_neg (by omega)])
          · refine Or.inl (dt_unit k _ s l c (by omega) hck (fun q hq => by rw [va_up_ne _ _ (fun z => e2 z.symm)]; exact hu q (by omega)) (fun q hq hn => ?_))
            have := sumN_up (f := B) (w := B k) (q := q) hl'
            have := h0 q (by omega) hn
            omega
