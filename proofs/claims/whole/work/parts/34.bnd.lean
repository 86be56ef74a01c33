/-! how large the reduced rows get -/
def sO (h4 : Nat → Bool) (c : Nat) : Nat := if h4 c then 4 else 3
def Bd (A : Nat → Nat → Int) (m : Nat) : Prop := m ≤ 12 ∧ (∃ h4 : Nat → Bool, cntN h4 25 ≤ 5 ∧ ∀ c, c < 25 → sumN (fun i => (A i c).natAbs) m ≤ sO h4 c) ∧ sumN (fun i => (A i 25).natAbs) m ≤ 2399760
theorem cnt_sum (h : Nat → Bool) (n : Nat) : cntN h n = sumN (fun j => if h j then 1 else 0) n := by
  induction n with
  | zero => rfl
  | succ n ih => simp only [cntN, sumN]; split <;> omega
theorem prod_3 (h4 : Nat → Bool) (jc : Nat → Nat) : ∀ k, prodN (fun q => sO h4 (jc q)) k * 3 ^ sumN (fun q => if h4 (jc q) then 1 else 0) k = 3 ^ k * 4 ^ sumN (fun q => if h4 (jc q) then 1 else 0) k
  | 0 => rfl
  | k + 1 => by
    have ih := prod_3 h4 jc k
    simp only [prodN, sumN]
    unfold sO at ih ⊢
    cases h4 (jc k) with
    | true =>
      simp only [if_true, Nat.pow_succ]
      rw [Nat.mul_assoc, Nat.mul_left_comm 4, ← Nat.mul_assoc, ih, Nat.mul_assoc, Nat.mul_assoc]
      congr 1
      omega
    | false =>
      simp only [Bool.false_eq_true, if_false, Nat.pow_succ, Nat.add_zero]
      rw [Nat.mul_assoc, Nat.mul_comm 3, ← Nat.mul_assoc, ih, Nat.mul_assoc, Nat.mul_assoc, Nat.mul_comm 3]
theorem prod_le {h4 : Nat → Bool} {jc : Nat → Nat} {k : Nat} (h : cntN h4 25 ≤ 5) (h1 : ∀ q, q < k → jc q < 25) (h2 : ∀ q q', q < k → q' < k → jc q = jc q' → q = q') : prodN (fun q => sO h4 (jc q)) k * 243 ≤ 3 ^ k * 1024 := by
  have e := prod_3 h4 jc k
  have ha := sumN_inj k (fun c => if h4 c then 1 else 0) h1 h2
  rw [cnt_sum] at h
  generalize prodN (fun q => sO h4 (jc q)) k = P at e ⊢
  generalize sumN (fun q => if h4 (jc q) then 1 else 0) k = a at e ha
  generalize 3 ^ k = X at e ⊢
  have : a = 0 ∨ a = 1 ∨ a = 2 ∨ a = 3 ∨ a = 4 ∨ a = 5 := by omega
  rcases this with rfl | rfl | rfl | rfl | rfl | rfl <;> simp at e <;> omega
theorem prodN_one {s : Nat → Nat} {k q : Nat} (hq : q < k) : prodN (fun q' => if q' = q then 1 else s q') k * s q = prodN s k := by
  induction k with
  | zero => omega
  | succ k ih =>
    simp only [prodN]
    by_cases e : q = k
    · subst e
      rw [if_pos rfl, Nat.mul_one, prodN_congr (fun j hj => by rw [if_neg (by omega)])]
    · rw [if_neg (fun x => e x.symm), Nat.mul_assoc, Nat.mul_comm (s k), ← Nat.mul_assoc, ih (by omega)]
theorem p3_12 {k : Nat} (h : k ≤ 12) : 3 ^ k ≤ 531441 := Nat.pow_le_pow_right (n := 3) (by omega) h
theorem p3_11 {k : Nat} (h : k ≤ 11) : 3 ^ k ≤ 177147 := Nat.pow_le_pow_right (n := 3) (by omega) h
section BND
variable {A : Nat → Nat → Int} {pr jc s : Nat → Nat} {k m : Nat}
theorem up_inj {pr : Nat → Nat} {k l i : Nat} (h : ∀ a b, a < k → b < k → pr a = pr b → a = b) (hi : ∀ a, a < k → ¬ pr a = i) : ∀ a b, a < k → b < k → va_up pr l i a = va_up pr l i b → a = b := by
  intro a b ha hb e
  unfold va_up at e
  by_cases x : a = l
  · by_cases y : b = l
    · omega
    · simp only [x, y, if_true, if_false] at e
      exact absurd e.symm (hi b hb)
  · by_cases y : b = l
    · simp only [x, y, if_true, if_false] at e
      exact absurd e (hi a ha)
    · simp only [x, y, if_false] at e
      exact h a b ha hb e
theorem ext_inj {pr : Nat → Nat} {k i : Nat} (h : ∀ a b, a < k → b < k → pr a = pr b → a = b) (hi : ∀ a, a < k → ¬ pr a = i) : ∀ a b, a < k + 1 → b < k + 1 → va_up pr k i a = va_up pr k i b → a = b := by
  intro a b ha hb e
  unfold va_up at e
  by_cases x : a = k
  · by_cases y : b = k
    · omega
    · simp only [x, y, if_true, if_false] at e
      exact absurd e.symm (hi b (by omega))
  · by_cases y : b = k
    · simp only [x, y, if_true, if_false] at e
      exact absurd e (hi a (by omega))
    · simp only [x, y, if_false] at e
      exact h a b (by omega) (by omega) e
theorem cfD_bd (hp : ∀ l, l < k → pr l < m) (hi : ∀ a b, a < k → b < k → pr a = pr b → a = b) (hs : ∀ q, q < k → sumN (fun i => (A i (jc q)).natAbs) m ≤ s q) : (cfD A pr jc k).natAbs ≤ prodN s k :=
  dt_le k _ s (fun q hq => Nat.le_trans (sumN_inj k (fun i => (A i (jc q)).natAbs) hp hi) (hs q hq))
theorem cof_bd (hp : ∀ l, l < k → pr l < m) (hi : ∀ a b, a < k → b < k → pr a = pr b → a = b) (hs : ∀ q, q < k → sumN (fun i => (A i (jc q)).natAbs) m ≤ s q) {i : Nat} (him : i < m) (hni : ∀ a, a < k → ¬ pr a = i) (l : Nat) : (cof A pr jc k (fun q => A i (jc q)) l).natAbs ≤ prodN s k := by
  refine dt_le k _ s (fun q hq => Nat.le_trans ?_ (hs q hq))
  have := sumN_inj (m := m) (pr := va_up pr l i) k (fun i => (A i (jc q)).natAbs) (fun a ha => by
    unfold va_up
    split
    · exact him
    · exact hp a ha) (up_inj hi hni)
  refine Nat.le_trans (Nat.le_of_eq (sumN_congr (fun a ha => ?_))) this
  unfold va_up
  by_cases e : a = l
  · simp only [e, if_true]
  · simp only [e, if_false, cfB]
theorem RN_bd (hD : ¬ cfD A pr jc k = 0) (hp : ∀ l, l < k → pr l < m) (hs : ∀ q, q < k → sumN (fun i => (A i (jc q)).natAbs) m ≤ s q) {i : Nat} (him : i < m) (c : Nat) : (RN A pr jc k i c).natAbs ≤ prodN s k * sumN (fun i => (A i c).natAbs) m := by
  have hi : ∀ a b, a < k → b < k → pr a = pr b → a = b := fun a b ha hb e => pr_inj hD ha hb e
  by_cases hpi : ∃ l, l < k ∧ pr l = i
  · obtain ⟨l, hl, e⟩ := hpi
    rw [← e, RN_pr hD hl]
    exact Nat.zero_le _
  · have hni : ∀ a, a < k → ¬ pr a = i := fun a ha e => hpi ⟨a, ha, e⟩
    have h1 := sumN_inj (m := m) (pr := va_up pr k i) (k + 1) (fun i => (A i c).natAbs) (fun a ha => by
      unfold va_up
      split
      · exact him
      · exact hp a (by omega)) (ext_inj hi hni)
    simp only [sumN] at h1
    rw [va_up_self, sumN_congr (g := fun l => (A (pr l) c).natAbs) (fun a ha => by rw [va_up_ne _ _ (by omega)])] at h1
    refine Nat.le_trans ?_ (Nat.mul_le_mul_left _ h1)
    unfold RN
    have h2 := sumZ_le (fun l => cof A pr jc k (fun q => A i (jc q)) l * A (pr l) c) k
    have h3 : sumN (fun l => (cof A pr jc k (fun q => A i (jc q)) l * A (pr l) c).natAbs) k ≤ prodN s k * sumN (fun l => (A (pr l) c).natAbs) k := by
      rw [← sumN_mul]
      refine sumN_le (fun l hl => ?_)
      rw [Int.natAbs_mul]
      exact Nat.mul_le_mul_right _ (cof_bd hp hi hs him hni l)
    have h4 : (cfD A pr jc k * A i c).natAbs ≤ prodN s k * (A i c).natAbs := by
      rw [Int.natAbs_mul]
      exact Nat.mul_le_mul_right _ (cfD_bd hp hi hs)
    rw [Nat.mul_add]
    omega
theorem RP_bd (hD : ¬ cfD A pr jc k = 0) (hp : ∀ l, l < k → pr l < m) (hs : ∀ q, q < k → sumN (fun i => (A i (jc q)).natAbs) m ≤ s q) {q : Nat} (hq : q < k) (c : Nat) : (RP A pr jc k q c).natAbs ≤ prodN (fun q' => if q' = q then 1 else s q') k * sumN (fun i => (A i c).natAbs) m := by
  have hi : ∀ a b, a < k → b < k → pr a = pr b → a = b := fun a b ha hb e => pr_inj hD ha hb e
  refine Nat.le_trans ?_ (Nat.mul_le_mul_left _ (sumN_inj k (fun i => (A i c).natAbs) hp hi))
  unfold RP
  refine Nat.le_trans (sumZ_le _ k) ?_
  rw [← sumN_mul]
  refine sumN_le (fun l hl => ?_)
  rw [Int.natAbs_mul]
  refine Nat.mul_le_mul_right _ ?_
  refine dt_unit k _ s l q hl hq (fun q' _ => by rw [va_up_self]; rfl) (fun q' hq' ne => ?_)
  have h1 := sumN_up (f := cfB A pr jc) (q := q') (w := unZ q) hl
  have h2 := Nat.le_trans (sumN_inj k (fun i => (A i (jc q')).natAbs) hp hi) (hs q' hq')
  have h3 : unZ q q' = 0 := by unfold unZ; rw [if_neg ne]
  rw [h3] at h1
  simp only [cfB] at h1 h2 ⊢
  simp only [Int.natAbs_zero] at h1
  unfold cfB at h1 ⊢
  omega
variable {c0 : Nat}
theorem RN_small (hb : Bd A m) (h : Cf A m pr jc k c0) (hc : c0 ≤ 25) (hk : k ≤ 11) {i : Nat} (hi : i < m) : (∀ j, j < 25 → (RN A pr jc k i j).natAbs ≤ 2239488) ∧ (RN A pr jc k i 25).natAbs ≤ 1791411240960 := by
  obtain ⟨hm, ⟨h4, hc4, hcs⟩, hr⟩ := hb
  have hj : ∀ q, q < k → jc q < 25 := fun q hq => by have := h.2.2.1 q hq; omega
  have hs : ∀ q, q < k → sumN (fun i => (A i (jc q)).natAbs) m ≤ sO h4 (jc q) := fun q hq => hcs _ (hj q hq)
  have hji : ∀ q q', q < k → q' < k → jc q = jc q' → q = q' := fun a b ha hb e => jc_inj h.1 ha hb e
  constructor
  · intro j hj25
    by_cases e : ∃ q, q < k ∧ jc q = j
    · obtain ⟨q, hq, e⟩ := e
      rw [← e, RN_jc i hq]
      exact Nat.zero_le _
    · have h1 := RN_bd h.1 h.2.1 hs hi j
      have h2 := prod_le (k := k + 1) (jc := va_up jc k j) hc4 (fun q hq => by
        unfold va_up
        split
        · exact hj25
        · exact hj q (by omega)) (ext_inj hji (fun a ha x => e ⟨a, ha, x⟩))
      simp only [prodN] at h2
      rw [va_up_self, prodN_congr (g := fun q => sO h4 (jc q)) (fun a ha => by rw [va_up_ne _ _ (by omega)])] at h2
      have h3 := Nat.mul_le_mul_left (prodN (fun q => sO h4 (jc q)) k) (hcs j hj25)
      have h5 := p3_12 (k := k + 1) (by omega)
      omega
  · have h1 := RN_bd h.1 h.2.1 hs hi 25
    have h2 := prod_le (k := k) (jc := jc) hc4 hj hji
    have h3 := p3_11 hk
    have h5 : prodN (fun q => sO h4 (jc q)) k * sumN (fun i => (A i 25).natAbs) m ≤ 746496 * 2399760 := Nat.mul_le_mul (by omega) hr
    omega
theorem RP_small (hb : Bd A m) (h : Cf A m pr jc k c0) (hc : c0 ≤ 25) {q : Nat} (hq : q < k) : (∀ j, j < 25 → (RP A pr jc k q j).natAbs ≤ 2985984 ∧ (k ≤ 11 → (RP A pr jc k q j).natAbs ≤ 2239488)) ∧ (RP A pr jc k q 25).natAbs ≤ 1791411240960 := by
  have hkm := Cf_k h
  obtain ⟨hm, ⟨h4, hc4, hcs⟩, hr⟩ := hb
  have hj : ∀ q, q < k → jc q < 25 := fun q hq => by have := h.2.2.1 q hq; omega
  have hs : ∀ q, q < k → sumN (fun i => (A i (jc q)).natAbs) m ≤ sO h4 (jc q) := fun q hq => hcs _ (hj q hq)
  have hji : ∀ q q', q < k → q' < k → jc q = jc q' → q = q' := fun a b ha hb e => jc_inj h.1 ha hb e
  have h2 := prod_le (k := k) (jc := jc) hc4 hj hji
  have h6 := prodN_one (s := fun q => sO h4 (jc q)) hq
  have h7 : 3 ≤ sO h4 (jc q) := by unfold sO; split <;> omega
  have h8 := Nat.mul_le_mul_left (prodN (fun q' => if q' = q then 1 else sO h4 (jc q')) k) h7
  have h1 := RP_bd h.1 h.2.1 hs hq
  have h5 := p3_12 (k := k) (by omega)
  obtain ⟨P', hP'⟩ : ∃ P', P' = prodN (fun q' => if q' = q then 1 else sO h4 (jc q')) k := ⟨_, rfl⟩
  simp only [← hP'] at h1 h6 h8
  refine ⟨fun j hj25 => ?_, ?_⟩
  · have h9 : sO h4 j ≤ 4 := by unfold sO; split <;> omega
    have h10 := Nat.mul_le_mul_left P' (Nat.le_trans (hcs j hj25) h9)
    have h11 := h1 j
    refine ⟨by omega, fun hk => ?_⟩
    have := p3_11 hk
    omega
  · have h11 := h1 25
    have h10 : P' * sumN (fun i => (A i 25).natAbs) m ≤ 746496 * 2399760 := Nat.mul_le_mul (by omega) hr
    omega
theorem cfD_small (hb : Bd A m) (h : Cf A m pr jc k c0) (hc : c0 ≤ 25) : (cfD A pr jc k).natAbs ≤ 2239488 := by
  have hkm := Cf_k h
  obtain ⟨hm, ⟨h4, hc4, hcs⟩, hr⟩ := hb
  have hj : ∀ q, q < k → jc q < 25 := fun q hq => by have := h.2.2.1 q hq; omega
  have h2 := prod_le (k := k) (jc := jc) hc4 hj (fun a b ha hb e => jc_inj h.1 ha hb e)
  have h5 := p3_12 (k := k) (by omega)
  have := cfD_bd (s := fun q => sO h4 (jc q)) h.2.1 (fun a b ha hb e => pr_inj h.1 ha hb e) (fun q hq => hcs _ (hj q hq))
  omega
end BND
