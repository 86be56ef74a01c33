/-! what k pivots say, whichever they are -/
theorem sumN_one {f : Nat → Nat} {n l : Nat} (hl : l < n) : sumN f n = f l + sumN (fun j => if j = l then 0 else f j) n := by
  induction n with
  | zero => omega
  | succ n ih =>
    simp only [sumN]
    by_cases e : l = n
    · subst e
      rw [if_pos rfl, sumN_congr (f := fun j => if j = l then 0 else f j) (g := f) (fun j hj => by rw [if_neg (by omega)])]
      omega
    · rw [ih (by omega), if_neg (by omega)]
      omega
theorem sumN_inj {m : Nat} {pr : Nat → Nat} : ∀ (k : Nat) (f : Nat → Nat), (∀ l, l < k → pr l < m) → (∀ l l', l < k → l' < k → pr l = pr l' → l = l') → sumN (fun l => f (pr l)) k ≤ sumN f m
  | 0, _, _, _ => Nat.zero_le _
  | k + 1, f, h1, h2 => by
    rw [sumN_one (f := f) (h1 k (by omega))]
    simp only [sumN]
    have := sumN_inj k (fun j => if j = pr k then 0 else f j) (fun l hl => h1 l (by omega)) (fun l l' hl hl' => h2 l l' (by omega) (by omega))
    rw [sumN_congr (f := fun l => if pr l = pr k then 0 else f (pr l)) (g := fun l => f (pr l)) (fun l hl => by rw [if_neg (fun e => by have := h2 l k (by omega) (by omega) e; omega)])] at this
    omega
section CFG
variable {A : Nat → Nat → Int} {pr jc : Nat → Nat} {k : Nat}
theorem cof_congr {pr' jc' : Nat → Nat} {v v' : Nat → Int} (h1 : ∀ l, l < k → pr l = pr' l) (h2 : ∀ q, q < k → jc q = jc' q) (h3 : ∀ q, q < k → v q = v' q) (l : Nat) : cof A pr jc k v l = cof A pr' jc' k v' l := by
  unfold cof
  apply dt_congr
  intro i q hi hq
  by_cases e : i = l
  · subst e
    rw [va_up_self, va_up_self, h3 q hq]
  · rw [va_up_ne _ _ e, va_up_ne _ _ e]
    unfold cfB
    rw [h1 i hi, h2 q hq]
theorem cfD_congr {pr' jc' : Nat → Nat} (h1 : ∀ l, l < k → pr l = pr' l) (h2 : ∀ q, q < k → jc q = jc' q) : cfD A pr jc k = cfD A pr' jc' k := by
  unfold cfD
  apply dt_congr
  intro i q hi hq
  unfold cfB
  rw [h1 i hi, h2 q hq]
theorem RN_congr {pr' jc' : Nat → Nat} (h1 : ∀ l, l < k → pr l = pr' l) (h2 : ∀ q, q < k → jc q = jc' q) (i c : Nat) : RN A pr jc k i c = RN A pr' jc' k i c := by
  unfold RN
  rw [cfD_congr h1 h2, sumZ_congr (fun l hl => by rw [cof_congr h1 h2 (v' := fun q => A i (jc' q)) (fun q hq => by rw [h2 q hq]), h1 l hl])]
theorem RP_congr {pr' jc' : Nat → Nat} (h1 : ∀ l, l < k → pr l = pr' l) (h2 : ∀ q, q < k → jc q = jc' q) (q c : Nat) : RP A pr jc k q c = RP A pr' jc' k q c := by
  unfold RP
  rw [sumZ_congr (fun l hl => by rw [cof_congr h1 h2 (v' := unZ q) (fun _ _ => rfl), h1 l hl])]
theorem pr_inj (hD : ¬ cfD A pr jc k = 0) {l l' : Nat} (hl : l < k) (hl' : l' < k) (e : pr l = pr l') : l = l' := by
  by_cases h : l = l'
  · exact h
  · exact absurd (dt_alt2 hl hl' h (by unfold cfB; rw [e])) hD
theorem jc_inj (hD : ¬ cfD A pr jc k = 0) {q q' : Nat} (hq : q < k) (hq' : q' < k) (e : jc q = jc q') : q = q' := by
  by_cases h : q = q'
  · exact h
  · have h1 := RP_jc (A := A) (pr := pr) (jc := jc) (k := k) q hq
    have h2 := RP_jc (A := A) (pr := pr) (jc := jc) (k := k) q hq'
    rw [if_pos rfl] at h1
    rw [if_neg (fun x => h x.symm), ← e, h1] at h2
    exact absurd h2 hD
theorem RN_pr (hD : ¬ cfD A pr jc k = 0) {l : Nat} (hl : l < k) (c : Nat) : RN A pr jc k (pr l) c = 0 := by
  unfold RN
  rw [sumZ_congr (g := fun l' => (if l' = l then cfD A pr jc k else 0) * A (pr l') c) (fun l' hl' => by
    rw [comb_eq hD (y := fun l' => if l' = l then cfD A pr jc k else 0) (x := fun l' => cof A pr jc k (fun q => A (pr l) (jc q)) l') (fun q hq => ?_) hl']
    rw [cof_col _ hq, sumZ_delta hl (fun j hj e => by rw [if_neg e, Int.zero_mul]), if_pos rfl]), sumZ_delta hl (fun j hj e => by rw [if_neg e, Int.zero_mul]), if_pos rfl]
  omega
theorem cof_sum (hD : ¬ cfD A pr jc k = 0) (v : Nat → Int) {l : Nat} (hl : l < k) : cof A pr jc k v l = sumZ (fun q => v q * cof A pr jc k (unZ q) l) k := by
  refine comb_eq hD (x := fun l => cof A pr jc k v l) (y := fun l => sumZ (fun q => v q * cof A pr jc k (unZ q) l) k) (fun q hq => ?_) hl
  rw [cof_col _ hq, sumZ_congr (g := fun l => sumZ (fun q' => v q' * (cof A pr jc k (unZ q') l * A (pr l) (jc q))) k) (fun l hl => by
    rw [← sumZ_mulr]
    exact sumZ_congr (fun j _ => Int.mul_assoc _ _ _)), sumZ_swap]
  rw [sumZ_congr (g := fun q' => v q' * (cfD A pr jc k * unZ q' q)) (fun q' hq' => by rw [sumZ_mul, cof_col _ hq]), sumZ_delta hq (fun j hj e => by unfold unZ; rw [if_neg (fun x => e x.symm)]; simp)]
  unfold unZ
  simp [Int.mul_comm]
theorem RN_RP (hD : ¬ cfD A pr jc k = 0) (i c : Nat) : RN A pr jc k i c = cfD A pr jc k * A i c - sumZ (fun q => A i (jc q) * RP A pr jc k q c) k := by
  unfold RN
  congr 1
  rw [sumZ_congr (g := fun l => sumZ (fun q => A i (jc q) * (cof A pr jc k (unZ q) l * A (pr l) c)) k) (fun l hl => by
    rw [cof_sum hD _ hl, ← sumZ_mulr]
    exact sumZ_congr (fun j _ => Int.mul_assoc _ _ _)), sumZ_swap]
  exact sumZ_congr (fun q _ => by rw [sumZ_mul]; rfl)
/-- a sum over the pivots' rows is a sum over all rows -/
theorem rows_all {m : Nat} (hp : ∀ l, l < k → pr l < m) (x : Nat → Int) : ∃ y : Nat → Int, ∀ c, sumZ (fun l => x l * A (pr l) c) k = sumZ (fun i => y i * A i c) m := by
  refine ⟨fun i => sumZ (fun l => if pr l = i then x l else 0) k, fun c => ?_⟩
  rw [sumZ_congr (f := fun i => sumZ (fun l => if pr l = i then x l else 0) k * A i c) (g := fun i => sumZ (fun l => (if pr l = i then x l else 0) * A i c) k) (fun i _ => by rw [sumZ_mulr]), sumZ_swap]
  refine sumZ_congr (fun l hl => ?_)
  rw [sumZ_delta (hp l hl) (fun j hj e => by rw [if_neg (fun x => e x.symm), Int.zero_mul]), if_pos rfl]
/-- k pivots found in the columns below c -/
def Cf (A : Nat → Nat → Int) (m : Nat) (pr jc : Nat → Nat) (k c : Nat) : Prop := ¬ cfD A pr jc k = 0 ∧ (∀ l, l < k → pr l < m) ∧ (∀ q, q < k → jc q < c) ∧ (∀ j, j < c → (∃ q, q < k ∧ jc q = j) ∨ ∀ i, i < m → RN A pr jc k i j = 0) ∧ ∀ q, q < k → ∀ j, j < jc q → RP A pr jc k q j = 0
variable {m c : Nat}
theorem Cf_0 : Cf A m pr jc 0 0 := ⟨by simp [cfD, dt], fun l hl => by omega, fun l hl => by omega, fun l hl => by omega, fun l hl => by omega⟩
theorem Cf_congr {pr' jc' : Nat → Nat} (h1 : ∀ l, l < k → pr l = pr' l) (h2 : ∀ q, q < k → jc q = jc' q) (h : Cf A m pr jc k c) : Cf A m pr' jc' k c := by
  obtain ⟨a, b, d, e, ld⟩ := h
  refine ⟨by rw [← cfD_congr h1 h2]; exact a, fun l hl => by rw [← h1 l hl]; exact b l hl, fun l hl => by rw [← h2 l hl]; exact d l hl, fun j hj => ?_, fun q hq j hj => by rw [← RP_congr h1 h2]; exact ld q hq j (by rw [h2 q hq]; exact hj)⟩
  rcases e j hj with ⟨q, hq, x⟩ | x
  · exact Or.inl ⟨q, hq, by rw [← h2 q hq]; exact x⟩
  · exact Or.inr (fun i hi => by rw [← RN_congr h1 h2]; exact x i hi)
theorem Cf_skip (h : Cf A m pr jc k c) (h0 : ∀ i, i < m → RN A pr jc k i c = 0) : Cf A m pr jc k (c + 1) := by
  obtain ⟨a, b, d, e, ld⟩ := h
  refine ⟨a, b, fun q hq => by have := d q hq; omega, fun j hj => ?_, ld⟩
  by_cases x : j = c
  · subst x; exact Or.inr h0
  · exact e j (by omega)
theorem Cf_take (h : Cf A m pr jc k c) {p : Nat} (hp : p < m) (h0 : ¬ RN A pr jc k p c = 0) : Cf A m (va_up pr k p) (va_up jc k c) (k + 1) (c + 1) := by
  obtain ⟨a, b, d, e, ld⟩ := h
  refine ⟨by rw [cfD_step]; exact h0, fun l hl => ?_, fun q hq => ?_, fun j hj => ?_, fun q hq j hj => ?_⟩
  · by_cases x : l = k
    · subst x; rw [va_up_self]; exact hp
    · rw [va_up_ne _ _ x]; exact b l (by omega)
  · by_cases x : q = k
    · subst x; rw [va_up_self]; omega
    · rw [va_up_ne _ _ x]; have := d q (by omega); omega
  · by_cases x : j = c
    · subst x; exact Or.inl ⟨k, by omega, va_up_self _ _ _⟩
    · rcases e j (by omega) with ⟨q, hq, y⟩ | y
      · exact Or.inl ⟨q, by omega, by rw [va_up_ne _ _ (by omega)]; exact y⟩
      · refine Or.inr (fun i hi => ?_)
        have := RN_step h0 i j
        rw [y i hi, y p hp, Int.mul_zero, Int.mul_zero] at this
        rcases Int.mul_eq_zero.mp (show cfD A pr jc k * _ = 0 by rw [this]; rfl) with z | z
        · exact absurd z a
        · exact z
  · have r0 : j < c → RN A pr jc k p j = 0 := fun hj => by
      rcases e j hj with ⟨q, hq, y⟩ | y
      · rw [← y]; exact RN_jc p hq
      · exact y p hp
    by_cases x : q = k
    · subst x
      rw [va_up_self] at hj
      rw [RP_new h0, r0 hj]
    · rw [va_up_ne _ _ x] at hj
      have hq : q < k := by omega
      have := RP_step h0 hq j
      rw [ld q hq j hj, r0 (by have := d q hq; omega), Int.mul_zero, Int.mul_zero] at this
      rcases Int.mul_eq_zero.mp (show cfD A pr jc k * _ = 0 by rw [this]; rfl) with z | z
      · exact absurd z a
      · exact z
theorem Cf_k (h : Cf A m pr jc k c) : k ≤ m := by
  have := sumN_inj (m := m) (pr := pr) k (fun _ => 1) h.2.1 (fun l l' hl hl' e => pr_inj h.1 hl hl' e)
  have e : ∀ n, sumN (fun _ => 1) n = n := by
    intro n
    induction n with
    | zero => rfl
    | succ n ih => simp only [sumN]; omega
  rw [e, e] at this
  exact this
end CFG
