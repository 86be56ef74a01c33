/-! least costs: the rounds come to rest within four; what rests is unique; two weights that rank alike have the same first links -/
section ROUTE
variable {w src tgt : Nat → Nat} {m t : Nat}
theorem relax1_mono (l : Nat) (c : Nat → Nat) (v : Nat) : relax1 w src tgt l c v ≤ c v := by
  unfold relax1 va_up
  split
  · rename_i e; subst e; split <;> omega
  · exact Nat.le_refl _
theorem relaxN_mono (c : Nat → Nat) (v : Nat) : ∀ n, relaxN w src tgt n c v ≤ c v
  | 0 => Nat.le_refl _
  | n + 1 => Nat.le_trans (relax1_mono n _ v) (relaxN_mono c v n)
theorem relaxN_anti (c : Nat → Nat) (v n : Nat) : ∀ k, relaxN w src tgt (n + k) c v ≤ relaxN w src tgt n c v
  | 0 => Nat.le_refl _
  | k + 1 => Nat.le_trans (relax1_mono (n + k) _ v) (relaxN_anti c v n k)
theorem relax1_feas (l : Nat) (c : Nat → Nat) : relax1 w src tgt l c (src l) ≤ w l + c (tgt l) := by
  unfold relax1
  rw [va_up_self]
  split <;> omega
theorem relaxN_feas (c : Nat → Nat) {l n : Nat} (h : l < n) : relaxN w src tgt n c (src l) ≤ w l + c (tgt l) := by
  have h1 : relaxN w src tgt (l + 1) c (src l) ≤ w l + relaxN w src tgt l c (tgt l) := relax1_feas l _
  have h2 := relaxN_mono (w := w) (src := src) (tgt := tgt) c (tgt l) l
  have h3 := relaxN_anti (w := w) (src := src) (tgt := tgt) c (src l) (l + 1) (n - (l + 1))
  rw [show l + 1 + (n - (l + 1)) = n by omega] at h3
  omega
theorem roundsN_anti (c : Nat → Nat) (v n : Nat) : ∀ k, roundsN w src tgt m (n + k) c v ≤ roundsN w src tgt m n c v
  | 0 => Nat.le_refl _
  | k + 1 => Nat.le_trans (relaxN_mono _ v m) (roundsN_anti c v n k)
def attC (w src tgt : Nat → Nat) (m t : Nat) (c : Nat → Nat) : Prop := ∀ v, (v = t ∧ c v = 0) ∨ c v = 1000000 ∨ ∃ l, l < m ∧ src l = v ∧ w l + c (tgt l) ≤ c v
theorem attC_relax1 {c : Nat → Nat} {l : Nat} (hl : l < m) (h : attC w src tgt m t c) : attC w src tgt m t (relax1 w src tgt l c) := by
  intro v
  have hm := relax1_mono (w := w) (src := src) (tgt := tgt) l c
  by_cases e : v = src l
  · by_cases e2 : w l + c (tgt l) < c (src l)
    · right; right
      refine ⟨l, hl, e.symm, ?_⟩
      have h1 : relax1 w src tgt l c v = w l + c (tgt l) := by
        unfold relax1; rw [e, va_up_self, if_pos e2]
      have := hm (tgt l)
      omega
    · have h1 : relax1 w src tgt l c v = c v := by
        unfold relax1; rw [e, va_up_self, if_neg e2]
      rw [h1]
      rcases h v with q | q | ⟨k, q1, q2, q3⟩
      · exact Or.inl q
      · exact Or.inr (Or.inl q)
      · refine Or.inr (Or.inr ⟨k, q1, q2, ?_⟩)
        have := hm (tgt k)
        omega
  · have h1 : relax1 w src tgt l c v = c v := by
      unfold relax1; rw [va_up_ne _ _ e]
    rw [h1]
    rcases h v with q | q | ⟨k, q1, q2, q3⟩
    · exact Or.inl q
    · exact Or.inr (Or.inl q)
    · refine Or.inr (Or.inr ⟨k, q1, q2, ?_⟩)
      have := hm (tgt k)
      omega
theorem attC_relaxN {c : Nat → Nat} (h : attC w src tgt m t c) : ∀ n, n ≤ m → attC w src tgt m t (relaxN w src tgt n c)
  | 0, _ => h
  | n + 1, q => attC_relax1 (by omega) (attC_relaxN h n (by omega))
theorem attC_rounds {c : Nat → Nat} (h : attC w src tgt m t c) : ∀ n, attC w src tgt m t (roundsN w src tgt m n c)
  | 0 => h
  | n + 1 => attC_relaxN (attC_rounds h n) m (Nat.le_refl m)
theorem attC_0 : attC w src tgt m t (va_up (fun _ => 1000000) t 0) := by
  intro v
  by_cases e : v = t
  · left; exact ⟨e, by rw [e, va_up_self]⟩
  · right; left; rw [va_up_ne _ _ e]
theorem rounds_t : ∀ n, roundsN w src tgt m n (va_up (fun _ => 1000000) t 0) t = 0
  | 0 => by show va_up _ t 0 t = 0; rw [va_up_self]
  | n + 1 => Nat.eq_zero_of_le_zero (Nat.le_trans (relaxN_mono _ t m) (Nat.le_of_eq (rounds_t n)))
/-- at rest: 0 at the target, no link shortens, each cost that is known is that over a link -/
def rest (w src tgt : Nat → Nat) (m t : Nat) (c : Nat → Nat) : Prop := c t = 0 ∧ (∀ v, c v ≤ 1000000) ∧ (∀ l, l < m → c (src l) ≤ w l + c (tgt l)) ∧ ∀ v, v < 5 → ¬ v = t → c v = 1000000 ∨ ∃ l, l < m ∧ src l = v ∧ c v = w l + c (tgt l)
theorem rest_of {c : Nat → Nat} (h0 : c t = 0) (h1 : ∀ v, c v ≤ 1000000) (h2 : ∀ l, l < m → c (src l) ≤ w l + c (tgt l)) (h3 : attC w src tgt m t c) : rest w src tgt m t c := by
  refine ⟨h0, h1, h2, fun v hv hvt => ?_⟩
  rcases h3 v with q | q | ⟨l, q1, q2, q3⟩
  · exact absurd q.1 hvt
  · exact Or.inl q
  · refine Or.inr ⟨l, q1, q2, ?_⟩
    have := h2 l q1
    rw [q2] at this
    omega
/-- somewhere the rounds rest, as to the five nodes -/
theorem rounds_rest (hs : ∀ l, src l < 5) (ht : ∀ l, tgt l < 5) : ∃ k, ∀ v, v < 5 → roundsN w src tgt m (k + 1) (va_up (fun _ => 1000000) t 0) v = roundsN w src tgt m k (va_up (fun _ => 1000000) t 0) v := by
  have key : ∀ (B k : Nat), (roundsN w src tgt m k (va_up (fun _ => 1000000) t 0) 0 + roundsN w src tgt m k (va_up (fun _ => 1000000) t 0) 1 + roundsN w src tgt m k (va_up (fun _ => 1000000) t 0) 2 + roundsN w src tgt m k (va_up (fun _ => 1000000) t 0) 3 + roundsN w src tgt m k (va_up (fun _ => 1000000) t 0) 4) ≤ B → ∃ k, ∀ v, v < 5 → roundsN w src tgt m (k + 1) (va_up (fun _ => 1000000) t 0) v = roundsN w src tgt m k (va_up (fun _ => 1000000) t 0) v := by
    intro B
    induction B with
    | zero =>
      intro k hk
      refine ⟨k, fun v hv => ?_⟩
      have h9 := roundsN_anti (w := w) (src := src) (tgt := tgt) (m := m) (va_up (fun _ => 1000000) t 0) v k 1
      rcases (show v = 0 ∨ v = 1 ∨ v = 2 ∨ v = 3 ∨ v = 4 by omega) with rfl | rfl | rfl | rfl | rfl <;> omega
    | succ B ih =>
      intro k hk
      by_cases h : ∀ v, v < 5 → roundsN w src tgt m (k + 1) (va_up (fun _ => 1000000) t 0) v = roundsN w src tgt m k (va_up (fun _ => 1000000) t 0) v
      · exact ⟨k, h⟩
      · refine ih (k + 1) ?_
        have a0 := roundsN_anti (w := w) (src := src) (tgt := tgt) (m := m) (va_up (fun _ => 1000000) t 0) 0 k 1
        have a1 := roundsN_anti (w := w) (src := src) (tgt := tgt) (m := m) (va_up (fun _ => 1000000) t 0) 1 k 1
        have a2 := roundsN_anti (w := w) (src := src) (tgt := tgt) (m := m) (va_up (fun _ => 1000000) t 0) 2 k 1
        have a3 := roundsN_anti (w := w) (src := src) (tgt := tgt) (m := m) (va_up (fun _ => 1000000) t 0) 3 k 1
        have a4 := roundsN_anti (w := w) (src := src) (tgt := tgt) (m := m) (va_up (fun _ => 1000000) t 0) 4 k 1
        apply Nat.le_of_lt_succ
        apply Nat.lt_of_not_le
        intro q
        apply h
        intro v hv
        rcases (show v = 0 ∨ v = 1 ∨ v = 2 ∨ v = 3 ∨ v = 4 by omega) with rfl | rfl | rfl | rfl | rfl <;> omega
  exact key _ 0 (Nat.le_refl _)
/-- how many of the five nodes are nearer -/
def rkN (d : Nat → Nat) (v : Nat) : Nat := cntN (fun q => decide (d q < d v)) 5
theorem cntN_lt {p q : Nat → Bool} (h : ∀ j, p j = true → q j = true) : ∀ n, cntN p n ≤ cntN q n ∧ ∀ j, j < n → p j = false → q j = true → cntN p n < cntN q n
  | 0 => ⟨Nat.le_refl 0, fun j hj => absurd hj (by omega)⟩
  | n + 1 => by
    obtain ⟨a, b⟩ := cntN_lt h n
    simp only [cntN]
    constructor
    · cases hp : p n with
      | true => rw [h n hp]; simp; exact a
      | false => cases q n <;> simp <;> omega
    · intro j hj h1 h2
      by_cases e : j = n
      · subst e
        rw [h1, h2]
        simp
        omega
      · have := b j (by omega) h1 h2
        cases hp : p n with
        | true => rw [h n hp]; simp; exact this
        | false => cases q n <;> simp <;> omega
theorem rkN_lt {d : Nat → Nat} {a b : Nat} (ha : a < 5) (h : d a < d b) : rkN d a < rkN d b := by
  unfold rkN
  refine (cntN_lt (p := fun q => decide (d q < d a)) (q := fun q => decide (d q < d b)) (fun j hj => ?_) 5).2 a ha (by simp) (by simpa using h)
  have : d j < d a := by simpa using hj
  simp; omega
theorem cntN_miss {p : Nat → Bool} : ∀ n j, j < n → p j = false → cntN p n + 1 ≤ n
  | 0, j, h, _ => absurd h (by omega)
  | n + 1, j, h, hp => by
    simp only [cntN]
    by_cases e : j = n
    · subst e
      rw [hp]
      have := cntN_le p j
      simp; omega
    · have := cntN_miss n j (by omega) hp
      cases p n <;> simp <;> omega
theorem rkN_4 {d : Nat → Nat} {v : Nat} (hv : v < 5) : rkN d v ≤ 4 := by
  have := cntN_miss (p := fun q => decide (d q < d v)) 5 v hv (by simp)
  unfold rkN
  omega
theorem rounds_done (hs : ∀ l, src l < 5) (ht : ∀ l, tgt l < 5) (hw : ∀ l, 1 ≤ w l) (ht5 : t < 5) {k : Nat} (hk : 4 ≤ k) : rest w src tgt m t (roundsN w src tgt m k (va_up (fun _ => 1000000) t 0)) := by
  obtain ⟨K, hK⟩ := rounds_rest (w := w) (src := src) (tgt := tgt) (m := m) (t := t) hs ht
  obtain ⟨d, hd⟩ : ∃ d, d = roundsN w src tgt m K (va_up (fun _ => 1000000) t 0) := ⟨_, rfl⟩
  have dt : d t = 0 := by rw [hd]; exact rounds_t K
  have dle : ∀ v, d v ≤ 1000000 := by rw [hd]; exact roundsN_le (costs0_le t) K
  have dfe : ∀ l, l < m → d (src l) ≤ w l + d (tgt l) := by
    intro l hl
    rw [hd, ← hK _ (hs l)]
    exact relaxN_feas _ hl
  have dat : attC w src tgt m t d := by rw [hd]; exact attC_rounds attC_0 K
  have dre := rest_of dt dle dfe dat
  -- no round goes below d on the five nodes
  have low : ∀ k v, v < 5 → d v ≤ roundsN w src tgt m k (va_up (fun _ => 1000000) t 0) v := by
    intro k
    induction k with
    | zero =>
      intro v _
      by_cases e : v = t
      · rw [e, dt]; exact Nat.zero_le _
      · show d v ≤ va_up _ t 0 v
        rw [va_up_ne _ _ e]
        exact dle v
    | succ k ih =>
      have inner : ∀ n, n ≤ m → ∀ v, v < 5 → d v ≤ relaxN w src tgt n (roundsN w src tgt m k (va_up (fun _ => 1000000) t 0)) v := by
        intro n
        induction n with
        | zero => intro _ v hv; exact ih v hv
        | succ n ihn =>
          intro hn v hv
          show d v ≤ relax1 w src tgt n _ v
          unfold relax1
          by_cases e : v = src n
          · have h1 := ihn (by omega) (tgt n) (ht n)
            have h2 := ihn (by omega) (src n) (hs n)
            have h3 := dfe n (by omega)
            rw [e, va_up_self]
            split <;> omega
          · rw [va_up_ne _ _ e]
            exact ihn (by omega) v hv
      exact inner m (Nat.le_refl m)
  have main : ∀ k v, v < 5 → rkN d v ≤ k → roundsN w src tgt m k (va_up (fun _ => 1000000) t 0) v = d v := by
    intro k
    induction k with
    | zero =>
      intro v hv hr
      have hz : ¬ d t < d v := fun q => by
        have := rkN_lt ht5 q
        omega
      by_cases e : v = t
      · rw [e, dt]; exact rounds_t 0
      · rcases dre.2.2.2 v hv e with q | ⟨l, q1, q2, q3⟩
        · omega
        · have := hw l
          omega
    | succ k ih =>
      intro v hv hr
      have hlow := low (k + 1) v hv
      by_cases e : v = t
      · rw [e, dt]; exact rounds_t (k + 1)
      · rcases dre.2.2.2 v hv e with q | ⟨l, q1, q2, q3⟩
        · have := roundsN_le (w := w) (src := src) (tgt := tgt) (m := m) (costs0_le t) (k + 1) v
          omega
        · have hwl := hw l
          have hlt : d (tgt l) < d v := by omega
          have hrk := rkN_lt (ht l) hlt
          have h5 := ih (tgt l) (ht l) (by omega)
          have h6 : roundsN w src tgt m (k + 1) (va_up (fun _ => 1000000) t 0) (src l) ≤ w l + roundsN w src tgt m k (va_up (fun _ => 1000000) t 0) (tgt l) := relaxN_feas _ q1
          rw [q2, h5] at h6
          omega
  have eqd : ∀ v, v < 5 → roundsN w src tgt m k (va_up (fun _ => 1000000) t 0) v = d v := fun v hv => main k v hv (Nat.le_trans (rkN_4 hv) hk)
  refine rest_of (rounds_t k) (roundsN_le (costs0_le t) k) (fun l hl => ?_) (attC_rounds attC_0 k)
  rw [eqd _ (hs l), eqd _ (ht l)]
  exact dfe l hl
theorem rest_le {c d : Nat → Nat} (ht : ∀ l, tgt l < 5) (hw : ∀ l, 1 ≤ w l) (hc : rest w src tgt m t c) (hd : rest w src tgt m t d) : ∀ (B v : Nat), d v ≤ B → v < 5 → c v ≤ d v := by
  intro B
  induction B with
  | zero =>
    intro v hB hv
    by_cases e : v = t
    · rw [e, hc.1]; exact Nat.zero_le _
    · rcases hd.2.2.2 v hv e with q | ⟨l, q1, q2, q3⟩
      · omega
      · have := hw l
        omega
  | succ B ih =>
    intro v hB hv
    by_cases e : v = t
    · rw [e, hc.1]; exact Nat.zero_le _
    · rcases hd.2.2.2 v hv e with q | ⟨l, q1, q2, q3⟩
      · rw [q]; exact hc.2.1 v
      · have h1 := hw l
        have h2 := ih (tgt l) (by omega) (ht l)
        have h3 := hc.2.2.1 l q1
        rw [q2] at h3
        omega
theorem rest_eq {c d : Nat → Nat} (ht : ∀ l, tgt l < 5) (hw : ∀ l, 1 ≤ w l) (hc : rest w src tgt m t c) (hd : rest w src tgt m t d) {v : Nat} (hv : v < 5) : c v = d v :=
  Nat.le_antisymm (rest_le ht hw hc hd (d v) v (Nat.le_refl _) hv) (rest_le ht hw hd hc (c v) v (Nat.le_refl _) hv)
end ROUTE
def wM (met : Nat → Nat) (l : Nat) : Nat := 10 * met l + 1
section ROUTE2
variable {met src tgt : Nat → Nat} {m t : Nat}
/-- the hops stand in the last digit -/
theorem hops {c : Nat → Nat} (ht : ∀ l, tgt l < 5) (hc : rest (wM met) src tgt m t c) : ∀ (B v : Nat), c v ≤ B → v < 5 → c v < 1000000 → c v % 10 ≤ rkN c v := by
  intro B
  induction B with
  | zero => intro v hB _ _; omega
  | succ B ih =>
    intro v hB hv hlt
    by_cases e : v = t
    · rw [e, hc.1]; omega
    · rcases hc.2.2.2 v hv e with q | ⟨l, q1, q2, q3⟩
      · omega
      · unfold wM at q3
        have h2 := ih (tgt l) (by omega) (ht l) (by omega)
        have h3 := rkN_lt (d := c) (ht l) (b := v) (by omega)
        have h4 := rkN_4 (d := c) hv
        omega
theorem hops4 {c : Nat → Nat} (ht : ∀ l, tgt l < 5) (hc : rest (wM met) src tgt m t c) {v : Nat} (hv : v < 5) (hlt : c v < 1000000) : c v % 10 ≤ 4 := Nat.le_trans (hops ht hc _ v (Nat.le_refl _) hv hlt) (rkN_4 hv)
/-- a cost with weight 10 turned into one with weight 8 -/
def to8 (x : Nat) : Nat := if x = 1000000 then 1000000 else 8 * (x / 10) + x % 10
theorem rest8 {c : Nat → Nat} (hs : ∀ l, src l < 5) (ht : ∀ l, tgt l < 5) (hm : ∀ l, met l ≤ 99) (ht5 : t < 5) (hc : rest (wM met) src tgt m t c) (hsm : ∀ v, v < 5 → c v < 1000000 → c v ≤ 900000) : rest (wX met) src tgt m t (fun v => if v < 5 then to8 (c v) else 1000000) := by
  refine ⟨?_, fun v => ?_, fun l hl => ?_, fun v hv hvt => ?_⟩
  · simp only [ht5, if_true]; rw [hc.1]; decide
  · show (if v < 5 then to8 (c v) else 1000000) ≤ 1000000
    split
    · rename_i hv
      unfold to8
      split
      · omega
      · have := hc.2.1 v
        omega
    · omega
  · have h1 := hc.2.2.1 l hl
    simp only [hs l, ht l, if_true]
    unfold wX
    unfold wM at h1
    have h5 := hc.2.1 (src l)
    have h6 := hc.2.1 (tgt l)
    have h8 := hm l
    by_cases e : c (tgt l) = 1000000
    · unfold to8
      rw [if_pos e]
      split <;> omega
    · have h2 := hops4 ht hc (ht l) (by omega)
      have h9 := hsm (tgt l) (ht l) (by omega)
      have h3 : c (src l) < 1000000 := by omega
      have h4 := hops4 ht hc (hs l) h3
      unfold to8
      rw [if_neg e, if_neg (by omega)]
      omega
  · simp only [hv, if_true]
    rcases hc.2.2.2 v hv hvt with q | ⟨l, q1, q2, q3⟩
    · left; unfold to8; rw [if_pos q]
    · by_cases e : c v = 1000000
      · left; unfold to8; rw [if_pos e]
      · right
        refine ⟨l, q1, q2, ?_⟩
        simp only [ht l, if_true]
        have h7 := hc.2.1 v
        unfold wM at q3
        have e2 : ¬ c (tgt l) = 1000000 := by omega
        have h2 := hops4 ht hc (ht l) (by omega)
        have h4 := hops4 ht hc hv (by omega)
        unfold to8 wX
        rw [if_neg e, if_neg e2]
        omega
theorem small {c : Nat → Nat} (ht : ∀ l, tgt l < 5) (hm : ∀ l, met l ≤ 99) (hc : rest (wM met) src tgt m t c) : ∀ (B v : Nat), c v ≤ B → v < 5 → c v < 1000000 → c v ≤ 991 * rkN c v := by
  intro B
  induction B with
  | zero => intro v hB _ _; omega
  | succ B ih =>
    intro v hB hv hlt
    by_cases e : v = t
    · rw [e, hc.1]; omega
    · rcases hc.2.2.2 v hv e with q | ⟨l, q1, q2, q3⟩
      · omega
      · have hml := hm l
        unfold wM at q3
        have h2 := ih (tgt l) (by omega) (ht l) (by omega)
        have h3 := rkN_lt (d := c) (ht l) (b := v) (by omega)
        omega
theorem small4 {c : Nat → Nat} (ht : ∀ l, tgt l < 5) (hm : ∀ l, met l ≤ 99) (hc : rest (wM met) src tgt m t c) {v : Nat} (hv : v < 5) (hlt : c v < 1000000) : c v ≤ 3964 := by
  have h1 := small ht hm hc _ v (Nat.le_refl _) hv hlt
  have h2 := rkN_4 (d := c) hv
  omega
/-- the class's costs out of the reference's -/
theorem cost8 {c d : Nat → Nat} (hs : ∀ l, src l < 5) (ht : ∀ l, tgt l < 5) (hm : ∀ l, met l ≤ 99) (ht5 : t < 5) (hc : rest (wM met) src tgt m t c) (hd : rest (wX met) src tgt m t d) {v : Nat} (hv : v < 5) : d v = to8 (c v) := by
  have h := rest_eq (c := d) ht (fun l => by unfold wX; omega) hd (rest8 hs ht hm ht5 hc (fun v hv hlt => Nat.le_trans (small4 ht hm hc hv hlt) (by decide))) hv
  rw [h]
  simp [hv]
theorem tight8 {c d : Nat → Nat} (hs : ∀ l, src l < 5) (ht : ∀ l, tgt l < 5) (hm : ∀ l, met l ≤ 99) (ht5 : t < 5) (hc : rest (wM met) src tgt m t c) (hd : rest (wX met) src tgt m t d) {v l : Nat} (hv : v < 5) (hlt : c v < 1000000) (hl : src l = v) : (wX met l + d (tgt l) = d v ↔ wM met l + c (tgt l) = c v) := by
  rw [cost8 hs ht hm ht5 hc hd hv, cost8 hs ht hm ht5 hc hd (ht l)]
  have h1 := hops4 ht hc hv hlt
  have h3 := small4 ht hm hc hv hlt
  have h7 := hc.2.1 (tgt l)
  unfold to8 wX wM
  rw [if_neg (show ¬ c v = 1000000 by omega)]
  by_cases e : c (tgt l) = 1000000
  · rw [if_pos e]
    constructor <;> intro q <;> omega
  · have h2 := hops4 ht hc (ht l) (by omega)
    rw [if_neg e]
    constructor <;> intro q <;> omega
theorem far8 {c d : Nat → Nat} (hs : ∀ l, src l < 5) (ht : ∀ l, tgt l < 5) (hm : ∀ l, met l ≤ 99) (ht5 : t < 5) (hc : rest (wM met) src tgt m t c) (hd : rest (wX met) src tgt m t d) {v : Nat} (hv : v < 5) : (1000000 ≤ d v ↔ 1000000 ≤ c v) := by
  rw [cost8 hs ht hm ht5 hc hd hv]
  have h7 := hc.2.1 v
  unfold to8
  by_cases e : c v = 1000000
  · rw [if_pos e]; omega
  · rw [if_neg e]
    have h3 := small4 ht hm hc hv (by omega)
    omega
/-- the first links are the same -/
theorem next8 {c d : Nat → Nat} (hs : ∀ l, src l < 5) (ht : ∀ l, tgt l < 5) (hm : ∀ l, met l ≤ 99) (ht5 : t < 5) (hc : rest (wM met) src tgt m t c) (hd : rest (wX met) src tgt m t d) {v : Nat} (hv : v < 5) : nxtX d (wX met) src tgt m v = nxtX c (wM met) src tgt m v := by
  unfold nxtX
  have hf := far8 hs ht hm ht5 hc hd hv
  by_cases e : 1000000 ≤ c v
  · rw [if_pos e, if_pos (hf.mpr e)]
  · rw [if_neg e, if_neg (fun q => e (hf.mp q))]
    apply fstN_congr
    intro l _
    by_cases h : src l = v
    · have := tight8 hs ht hm ht5 hc hd hv (by omega) h
      simp only [h, decide_true, Bool.true_and]
      exact decide_eq_decide.mpr this
    · simp [h]
end ROUTE2
