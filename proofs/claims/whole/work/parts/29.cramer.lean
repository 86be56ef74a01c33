/-! Cramer's rule, by rows and by columns; bounds -/
theorem dt_swap {k : Nat} (B : Nat → Nat → Int) {a b : Nat} (u v : Nat → Int) (ha : a < k) (hb : b < k) (hab : ¬ a = b) : dt k (va_up (va_up B a u) b v) + dt k (va_up (va_up B a v) b u) = 0 := by
  have s1 := dt_lin k (va_up B b (fun q => 1 * u q + 1 * v q)) a 1 1 u v ha
  have s2 : dt k (va_up (va_up B b (fun q => 1 * u q + 1 * v q)) a (fun q => 1 * u q + 1 * v q)) = 0 := dt_alt2 ha hb hab (by rw [va_up_self, va_up_ne _ _ (fun q => hab q.symm), va_up_self])
  have s3 := dt_lin k (va_up B a u) b 1 1 u v hb
  have s4 := dt_lin k (va_up B a v) b 1 1 u v hb
  rw [up_comm B _ _ hab] at s3 s4
  rw [s2, s3, s4] at s1
  have z1 : dt k (va_up (va_up B a u) b u) = 0 := dt_alt2 ha hb hab (by rw [va_up_self, va_up_ne _ _ hab, va_up_self])
  have z2 : dt k (va_up (va_up B a v) b v) = 0 := dt_alt2 ha hb hab (by rw [va_up_self, va_up_ne _ _ hab, va_up_self])
  omega
/-- a row that is a sum of rows -/
theorem dt_rows {k : Nat} (B : Nat → Nat → Int) {l : Nat} (hl : l < k) (x : Nat → Int) : ∀ n, n ≤ k → dt k (va_up B l (fun q => sumZ (fun i => x i * B i q) n)) = if l < n then x l * dt k B else 0
  | 0, _ => by
    rw [if_neg (by omega)]
    exact dt_zero hl (fun q _ => by rw [va_up_self]; rfl)
  | n + 1, hn => by
    have h := dt_lin k B l 1 (x n) (fun q => sumZ (fun i => x i * B i q) n) (B n) hl
    rw [show (fun q => 1 * sumZ (fun i => x i * B i q) n + x n * B n q) = (fun q => sumZ (fun i => x i * B i q) (n + 1)) from by funext q; simp only [sumZ]; omega] at h
    rw [h, dt_rows B hl x n (by omega)]
    by_cases e : l = n
    · subst e
      rw [if_neg (by omega), if_pos (by omega), up_id]
      omega
    · have hz : dt k (va_up B l (B n)) = 0 := dt_alt2 hl (show n < k by omega) e (by rw [va_up_self, va_up_ne _ _ (fun q => e q.symm)])
      rw [hz]
      by_cases h2 : l < n
      · rw [if_pos h2, if_pos (by omega)]; omega
      · rw [if_neg h2, if_neg (by omega)]; omega
/-- no other way to write nought -/
theorem dt_indep {k : Nat} {B : Nat → Nat → Int} (hD : ¬ dt k B = 0) {x : Nat → Int} (h : ∀ q, q < k → sumZ (fun i => x i * B i q) k = 0) {l : Nat} (hl : l < k) : x l = 0 := by
  have h1 := dt_rows B hl x k (Nat.le_refl k)
  rw [if_pos hl, dt_zero hl (fun q hq => by rw [va_up_self]; exact h q hq)] at h1
  rcases Int.mul_eq_zero.mp h1.symm with e | e
  · exact e
  · exact absurd e hD
/-- a double sum of what changes its sign -/
theorem sumZ_anti (f : Nat → Nat → Int) (n : Nat) (h : ∀ i j, i < n → j < n → f i j + f j i = 0) : sumZ (fun i => sumZ (fun j => f i j) n) n = 0 := by
  have h1 := sumZ_swap f n n
  have h2 : sumZ (fun i => sumZ (fun j => f i j) n) n + sumZ (fun i => sumZ (fun j => f j i) n) n = 0 := by
    rw [← sumZ_add]
    apply sumZ_0
    intro i hi
    rw [← sumZ_add]
    exact sumZ_0 (fun j hj => h i j hi hj)
  omega
theorem dt_cols : ∀ (k : Nat) (B : Nat → Nat → Int) (v : Nat → Int) (q : Nat), q < k → sumZ (fun l => dt k (va_up B l v) * B l q) k = dt k B * v q
  | 0, _, _, _, h => absurd h (by omega)
  | k + 1, B, v, q, hq => by
    -- the last row replaced
    have e0 : dt (k + 1) (va_up B k v) = dt k B * v k - sumZ (fun l => dt k (va_up B l v) * B l k) k := by
      simp only [dt]
      rw [va_up_self, dt_congr k (B := va_up B k v) (C := B) (fun i q hi _ => by rw [va_up_ne _ _ (by omega)])]
      congr 1
      apply sumZ_congr
      intro l hl
      rw [va_up_ne _ _ (show l ≠ k by omega), dt_congr k (B := va_up (va_up B k v) l v) (C := va_up B l v) (fun i q hi _ => by
        unfold va_up
        split
        · rfl
        · rw [if_neg (by omega)])]
    -- another row replaced
    have e1 : ∀ l, l < k → dt (k + 1) (va_up B l v) = dt k (va_up B l v) * B k k - (dt k (va_up B l (B k)) * v k + sumZ (fun j => if j = l then 0 else dt k (va_up (va_up B j (B k)) l v) * B j k) k) := by
      intro l hl
      simp only [dt]
      rw [va_up_ne _ _ (show k ≠ l by omega)]
      congr 1
      rw [sumZ_one hl, up_up, va_up_self]
      congr 1
      apply sumZ_congr
      intro j hj
      split
      · rfl
      · rename_i e2
        rw [va_up_ne _ _ e2, up_comm _ _ _ (fun z => e2 z.symm)]
    show sumZ (fun l => dt (k + 1) (va_up B l v) * B l q) k + dt (k + 1) (va_up B k v) * B k q = _
    rw [e0, sumZ_congr (g := fun l => (dt k (va_up B l v) * B k k - (dt k (va_up B l (B k)) * v k + sumZ (fun j => if j = l then 0 else dt k (va_up (va_up B j (B k)) l v) * B j k) k)) * B l q) (fun l hl => by rw [e1 l hl])]
    have e2 : sumZ (fun l => (dt k (va_up B l v) * B k k - (dt k (va_up B l (B k)) * v k + sumZ (fun j => if j = l then 0 else dt k (va_up (va_up B j (B k)) l v) * B j k) k)) * B l q) k
        = B k k * sumZ (fun l => dt k (va_up B l v) * B l q) k - v k * sumZ (fun l => dt k (va_up B l (B k)) * B l q) k - sumZ (fun l => sumZ (fun j => (if j = l then 0 else dt k (va_up (va_up B j (B k)) l v) * B j k) * B l q) k) k := by
      rw [← sumZ_mul, ← sumZ_mul, ← sumZ_sub, ← sumZ_sub]
      apply sumZ_congr
      intro l _
      rw [sumZ_mulr]
      generalize sumZ (fun j => if j = l then 0 else dt k (va_up (va_up B j (B k)) l v) * B j k) k = X
      generalize dt k (va_up B l v) = a
      generalize dt k (va_up B l (B k)) = b
      simp only [Int.sub_mul, Int.add_mul]
      rw [Int.mul_comm a (B k k), Int.mul_comm b (v k), Int.mul_assoc, Int.mul_assoc]
      omega
    rw [e2]
    by_cases hk : q = k
    · subst hk
      have e3 : sumZ (fun l => sumZ (fun j => (if j = l then 0 else dt q (va_up (va_up B j (B q)) l v) * B j q) * B l q) q) q = 0 := by
        refine sumZ_anti (fun l j => (if j = l then 0 else dt q (va_up (va_up B j (B q)) l v) * B j q) * B l q) q (fun l j hl hj => ?_)
        by_cases e : j = l
        · subst e; simp
        · have e9 : ¬ l = j := fun z => e z.symm
          show (if j = l then 0 else dt q (va_up (va_up B j (B q)) l v) * B j q) * B l q + (if l = j then 0 else dt q (va_up (va_up B l (B q)) j v) * B l q) * B j q = 0
          rw [if_neg e, if_neg e9, up_comm B (B q) v e]
          have h9 := dt_swap (k := q) B (a := l) (b := j) v (B q) hl hj e9
          have : dt q (va_up (va_up B l v) j (B q)) = - dt q (va_up (va_up B l (B q)) j v) := by omega
          rw [this]
          generalize dt q (va_up (va_up B l (B q)) j v) = X
          rw [Int.neg_mul, Int.neg_mul, Int.mul_assoc, Int.mul_assoc, Int.mul_comm (B j q) (B l q)]
          omega
      rw [e3]
      simp only [dt]
      generalize sumZ (fun l => dt q (va_up B l v) * B l q) q = X
      generalize sumZ (fun l => dt q (va_up B l (B q)) * B l q) q = Z
      generalize dt q B = d
      simp only [Int.sub_mul]
      rw [Int.mul_comm (B q q) X, Int.mul_comm (v q) Z, Int.mul_right_comm d (v q) (B q q)]
      omega
    · have hqk : q < k := by omega
      rw [dt_cols k B v q hqk, dt_cols k B (B k) q hqk]
      have e3 : sumZ (fun l => sumZ (fun j => (if j = l then 0 else dt k (va_up (va_up B j (B k)) l v) * B j k) * B l q) k) k = v q * sumZ (fun j => dt k (va_up B j (B k)) * B j k) k - B k q * sumZ (fun j => dt k (va_up B j v) * B j k) k := by
        rw [sumZ_swap, ← sumZ_mul, ← sumZ_mul, ← sumZ_sub]
        apply sumZ_congr
        intro j hj
        have h5 := dt_cols k (va_up B j (B k)) v q hqk
        rw [sumZ_one hj, up_up, va_up_self] at h5
        have h6 : sumZ (fun l => (if j = l then 0 else dt k (va_up (va_up B j (B k)) l v) * B j k) * B l q) k = sumZ (fun l => if l = j then 0 else dt k (va_up (va_up B j (B k)) l v) * va_up B j (B k) l q) k * B j k := by
          rw [← sumZ_mulr]
          apply sumZ_congr
          intro l _
          by_cases e : l = j
          · rw [if_pos e.symm, if_pos e]; simp
          · rw [if_neg (fun z => e z.symm), if_neg e, va_up_ne _ _ e, Int.mul_right_comm]
        rw [h6]
        generalize sumZ (fun l => if l = j then 0 else dt k (va_up (va_up B j (B k)) l v) * va_up B j (B k) l q) k = X at h5 ⊢
        have : X = dt k (va_up B j (B k)) * v q - dt k (va_up B j v) * B k q := by omega
        rw [this, Int.sub_mul]
        generalize dt k (va_up B j (B k)) = a
        generalize dt k (va_up B j v) = b
        rw [Int.mul_right_comm, Int.mul_comm _ (v q), Int.mul_right_comm b, Int.mul_comm _ (B k q)]
      rw [e3]
      simp only [dt]
      generalize sumZ (fun l => dt k (va_up B l v) * B l k) k = X
      generalize sumZ (fun l => dt k (va_up B l (B k)) * B l k) k = Z
      generalize dt k B = d
      simp only [Int.sub_mul]
      rw [← Int.mul_assoc (B k k), Int.mul_comm (B k k) d, ← Int.mul_assoc (v k), Int.mul_comm (v k) d, Int.mul_comm (v q) Z, Int.mul_comm (B k q) X]
      omega
