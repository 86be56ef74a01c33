/-! sums of integers, and a determinant that is defined by its own expansion -/
def sumZ (f : Nat → Int) : Nat → Int
  | 0 => 0
  | n + 1 => sumZ f n + f n
theorem sumZ_congr {f g : Nat → Int} {n : Nat} (h : ∀ j, j < n → f j = g j) : sumZ f n = sumZ g n := by
  induction n with
  | zero => rfl
  | succ n ih => simp only [sumZ]; rw [ih (fun j hj => h j (by omega)), h n (by omega)]
theorem sumZ_0 {f : Nat → Int} {n : Nat} (h : ∀ j, j < n → f j = 0) : sumZ f n = 0 := by
  induction n with
  | zero => rfl
  | succ n ih => simp only [sumZ]; rw [ih (fun j hj => h j (by omega)), h n (by omega)]; rfl
theorem sumZ_add (f g : Nat → Int) (n : Nat) : sumZ (fun j => f j + g j) n = sumZ f n + sumZ g n := by
  induction n with
  | zero => rfl
  | succ n ih => simp only [sumZ]; rw [ih]; omega
theorem sumZ_sub (f g : Nat → Int) (n : Nat) : sumZ (fun j => f j - g j) n = sumZ f n - sumZ g n := by
  induction n with
  | zero => rfl
  | succ n ih => simp only [sumZ]; rw [ih]; omega
theorem sumZ_mul (a : Int) (f : Nat → Int) (n : Nat) : sumZ (fun j => a * f j) n = a * sumZ f n := by
  induction n with
  | zero => simp [sumZ]
  | succ n ih => simp only [sumZ]; rw [ih, Int.mul_add]
theorem sumZ_mulr (a : Int) (f : Nat → Int) (n : Nat) : sumZ (fun j => f j * a) n = sumZ f n * a := by
  induction n with
  | zero => simp [sumZ]
  | succ n ih => simp only [sumZ]; rw [ih, Int.add_mul]
theorem sumZ_swap (f : Nat → Nat → Int) (n : Nat) : ∀ m, sumZ (fun i => sumZ (fun j => f i j) n) m = sumZ (fun j => sumZ (fun i => f i j) m) n
  | 0 => by simp only [sumZ]; exact (sumZ_0 (fun j _ => rfl)).symm
  | m + 1 => by
    simp only [sumZ]
    rw [sumZ_swap f n m, sumZ_add]
/-- one term taken out -/
theorem sumZ_one {f : Nat → Int} {n l : Nat} (hl : l < n) : sumZ f n = f l + sumZ (fun j => if j = l then 0 else f j) n := by
  induction n with
  | zero => omega
  | succ n ih =>
    simp only [sumZ]
    by_cases e : l = n
    · subst e
      rw [if_pos rfl, sumZ_congr (f := fun j => if j = l then 0 else f j) (g := f) (fun j hj => if_neg (by omega))]
      omega
    · rw [ih (by omega), if_neg (by omega)]
      omega
theorem sumZ_delta {f : Nat → Int} {n l : Nat} (hl : l < n) (h : ∀ j, j < n → ¬ j = l → f j = 0) : sumZ f n = f l := by
  rw [sumZ_one hl, sumZ_0 (fun j hj => ?_)]
  · omega
  · split
    · rfl
    · rename_i e; exact h j hj e
theorem sumZ_abs (f : Nat → Int) (n : Nat) : (sumZ f n).natAbs ≤ (sumZ (fun j => ((f j).natAbs : Int)) n).natAbs ∧ 0 ≤ sumZ (fun j => ((f j).natAbs : Int)) n := by
  induction n with
  | zero => exact ⟨Nat.le_refl _, Int.le_refl _⟩
  | succ n ih => simp only [sumZ]; omega
def dt : Nat → (Nat → Nat → Int) → Int
  | 0, _ => 1
  | k + 1, B => dt k B * B k k - sumZ (fun l => dt k (va_up B l (B k)) * B l k) k
theorem dt_congr : ∀ (k : Nat) {B C : Nat → Nat → Int}, (∀ i q, i < k → q < k → B i q = C i q) → dt k B = dt k C
  | 0, _, _, _ => rfl
  | k + 1, B, C, h => by
    simp only [dt]
    rw [dt_congr k (fun i q hi hq => h i q (by omega) (by omega)), h k k (by omega) (by omega)]
    congr 1
    apply sumZ_congr
    intro l hl
    rw [h l k (by omega) (by omega), dt_congr k (B := va_up B l (B k)) (C := va_up C l (C k)) (fun i q hi hq => ?_)]
    unfold va_up
    split
    · exact h k q (by omega) (by omega)
    · exact h i q (by omega) (by omega)
theorem up_comm {α : Type} (f : Nat → α) {a b : Nat} (x y : α) (h : ¬ a = b) : va_up (va_up f a x) b y = va_up (va_up f b y) a x := by
  funext j
  unfold va_up
  by_cases e1 : j = a
  · have e2 : ¬ j = b := by omega
    simp [e1, h]
  · simp [e1]
theorem up_up {α : Type} (f : Nat → α) (a : Nat) (x y : α) : va_up (va_up f a x) a y = va_up f a y := bx_uu _ _ _ _
/-- linear in a row -/
theorem dt_lin : ∀ (k : Nat) (B : Nat → Nat → Int) (l : Nat) (a b : Int) (u v : Nat → Int), l < k → dt k (va_up B l (fun q => a * u q + b * v q)) = a * dt k (va_up B l u) + b * dt k (va_up B l v)
  | 0, _, _, _, _, _, _, h => absurd h (by omega)
  | k + 1, B, l, a, b, u, v, h => by
    simp only [dt]
    by_cases e : l = k
    · subst e
      have h1 : ∀ w : Nat → Int, dt l (va_up B l w) = dt l B := fun w => dt_congr l (fun i q hi _ => by rw [va_up_ne _ _ (by omega)])
      have h2 : ∀ w : Nat → Int, sumZ (fun l' => dt l (va_up (va_up B l w) l' (va_up B l w l)) * va_up B l w l' l) l = sumZ (fun l' => dt l (va_up B l' w) * B l' l) l := fun w => sumZ_congr (fun l' hl' => by
        rw [va_up_self, va_up_ne _ _ (show l' ≠ l by omega)]
        rw [dt_congr l (B := va_up (va_up B l w) l' w) (C := va_up B l' w) (fun i q hi _ => by
          unfold va_up
          split
          · rfl
          · rw [if_neg (by omega)])])
      rw [h1, h1, h1, h2, h2, h2, va_up_self, va_up_self, va_up_self]
      have h3 : sumZ (fun l' => dt l (va_up B l' (fun q => a * u q + b * v q)) * B l' l) l = a * sumZ (fun l' => dt l (va_up B l' u) * B l' l) l + b * sumZ (fun l' => dt l (va_up B l' v) * B l' l) l := by
        rw [← sumZ_mul, ← sumZ_mul, ← sumZ_add]
        apply sumZ_congr
        intro l' hl'
        rw [dt_lin l B l' a b u v hl']
        simp only [Int.add_mul, Int.mul_assoc]
      rw [h3]
      simp only [Int.mul_add, Int.mul_sub]
      rw [Int.mul_left_comm (dt l B) a, Int.mul_left_comm (dt l B) b]
      omega
    · have hk : l < k := by omega
      have h1 : ∀ w : Nat → Int, va_up B l w k = B k := fun w => va_up_ne _ _ (by omega)
      have h2 : ∀ w : Nat → Int, sumZ (fun l' => dt k (va_up (va_up B l w) l' (B k)) * va_up B l w l' k) k = dt k (va_up B l (B k)) * w k + sumZ (fun l' => if l' = l then 0 else dt k (va_up (va_up B l' (B k)) l w) * B l' k) k := fun w => by
        rw [sumZ_one hk, up_up, va_up_self]
        congr 1
        apply sumZ_congr
        intro j hj
        split
        · rfl
        · rename_i e2
          rw [va_up_ne _ _ e2, up_comm _ _ _ (fun q => e2 q.symm)]
      rw [h1, h1, h1, h2, h2, h2, dt_lin k B l a b u v hk]
      have h3 : sumZ (fun l' => if l' = l then 0 else dt k (va_up (va_up B l' (B k)) l (fun q => a * u q + b * v q)) * B l' k) k = a * sumZ (fun l' => if l' = l then 0 else dt k (va_up (va_up B l' (B k)) l u) * B l' k) k + b * sumZ (fun l' => if l' = l then 0 else dt k (va_up (va_up B l' (B k)) l v) * B l' k) k := by
        rw [← sumZ_mul, ← sumZ_mul, ← sumZ_add]
        apply sumZ_congr
        intro j hj
        split
        · simp
        · rw [dt_lin k _ l a b u v hk]
          simp only [Int.add_mul, Int.mul_assoc]
      rw [h3]
      simp only [Int.mul_add, Int.mul_sub, Int.add_mul, Int.mul_assoc]
      rw [Int.mul_left_comm (dt k (va_up B l (B k))) a, Int.mul_left_comm (dt k (va_up B l (B k))) b]
      omega
theorem dt_zero {k : Nat} {B : Nat → Nat → Int} {l : Nat} (hl : l < k) (h : ∀ q, q < k → B l q = 0) : dt k B = 0 := by
  have h1 := dt_lin k B l 0 0 (B l) (B l) hl
  rw [dt_congr k (B := va_up B l (fun q => 0 * B l q + 0 * B l q)) (C := B) (fun i q hi hq => ?_)] at h1
  · rw [h1]; omega
  · unfold va_up
    split
    · rename_i e; subst e; simp [h q hq]
    · rfl
/-- two equal rows -/
theorem dt_alt : ∀ (k : Nat) (B : Nat → Nat → Int) (i j : Nat), i < j → j < k → B i = B j → dt k B = 0
  | 0, _, _, _, _, h, _ => absurd h (by omega)
  | k + 1, B, i, j, hij, hj, h => by
    simp only [dt]
    have alt2 : ∀ (C : Nat → Nat → Int) (a b : Nat), a < k → b < k → ¬ a = b → C a = C b → dt k C = 0 := fun C a b ha hb hab hC => by
      rcases Nat.lt_or_gt_of_ne hab with q | q
      · exact dt_alt k C a b q hb hC
      · exact dt_alt k C b a q ha hC.symm
    by_cases e : j = k
    · subst e
      rw [sumZ_delta (l := i) hij (fun l hl hne => ?_)]
      · rw [← h, up_id]
        omega
      · rw [alt2 (va_up B l (B j)) l i hl hij hne (by rw [va_up_self, va_up_ne _ _ (fun q => hne q.symm), h])]
        exact Int.zero_mul _
    · have hjk : j < k := by omega
      have hik : i < k := by omega
      rw [dt_alt k B i j hij hjk h, sumZ_one hik, sumZ_one (f := fun l => if l = i then 0 else dt k (va_up B l (B k)) * B l k) hjk, if_neg (by omega), sumZ_0 (f := fun l => if l = j then 0 else if l = i then 0 else dt k (va_up B l (B k)) * B l k) (fun l hl => ?_)]
      · -- the two that are left cancel
        have key : dt k (va_up B i (B k)) + dt k (va_up B j (B k)) = 0 := by
          have s1 := dt_lin k (va_up B j (fun q => 1 * B j q + 1 * B k q)) i 1 1 (B i) (B k) hik
          have s2 : dt k (va_up (va_up B j (fun q => 1 * B j q + 1 * B k q)) i (fun q => 1 * B i q + 1 * B k q)) = 0 := alt2 _ i j hik hjk (by omega) (by rw [va_up_self, va_up_ne _ _ (by omega), va_up_self, h])
          have s3 := dt_lin k (va_up B i (B i)) j 1 1 (B j) (B k) hjk
          have s4 := dt_lin k (va_up B i (B k)) j 1 1 (B j) (B k) hjk
          rw [up_comm B _ _ (show ¬ i = j by omega)] at s3
          rw [up_comm B _ _ (show ¬ i = j by omega)] at s4
          rw [s2, s3, s4] at s1
          have z1 : dt k (va_up (va_up B i (B i)) j (B j)) = 0 := alt2 _ i j hik hjk (by omega) (by rw [va_up_self, va_up_ne _ _ (by omega), va_up_self, h])
          have z2 : dt k (va_up (va_up B i (B k)) j (B k)) = 0 := alt2 _ i j hik hjk (by omega) (by rw [va_up_self, va_up_ne _ _ (by omega), va_up_self])
          rw [up_id] at z1 s1
          rw [up_id] at z1 s1
          rw [show va_up (va_up B i (B k)) j (B j) = va_up B i (B k) from by
            rw [up_comm B _ _ (show ¬ i = j by omega), up_id]] at s1
          omega
        rw [h]
        have : dt k (va_up B i (B k)) = - dt k (va_up B j (B k)) := by omega
        rw [this, Int.neg_mul]
        omega
      · split
        · rfl
        · split
          · rfl
          · rename_i e1 e2
            rw [alt2 (va_up B l (B k)) i j hik hjk (by omega) (by rw [va_up_ne _ _ (fun q => e2 q.symm), va_up_ne _ _ (fun q => e1 q.symm), h])]
            exact Int.zero_mul _
theorem dt_alt2 {k : Nat} {B : Nat → Nat → Int} {a b : Nat} (ha : a < k) (hb : b < k) (hab : ¬ a = b) (h : B a = B b) : dt k B = 0 := by
  rcases Nat.lt_or_gt_of_ne hab with q | q
  · exact dt_alt k B a b q hb h
  · exact dt_alt k B b a q ha h.symm
