/-! what each side says of the rows, said without pivots -/
theorem gcdJ_i : ∀ (j n : Nat) (d r : Int64), 2 * j + 1 ≤ n → 0 ≤ d.toInt → 0 ≤ r.toInt → r.toInt.natAbs < 2 ^ j → (gcdJ n d r).toInt = (Nat.gcd d.toInt.natAbs r.toInt.natAbs : Nat)
  | j, 0, _, _, h, _, _, _ => absurd h (by omega)
  | 0, n + 1, d, r, h, hd, hr, hb => by
    have e : r = 0 := Int64.toInt_inj.mp (by simp at hb; rw [hb]; rfl)
    simp only [gcdJ]
    rw [if_pos e, e]
    show d.toInt = (Nat.gcd d.toInt.natAbs 0 : Nat)
    rw [Nat.gcd_zero_right]
    omega
  | j + 1, 1, _, _, h, _, _, _ => absurd h (by omega)
  | j + 1, n + 2, d, r, h, hd, hr, hb => by
    simp only [gcdJ]
    by_cases e : r = 0
    · rw [if_pos e, e]
      show d.toInt = (Nat.gcd d.toInt.natAbs 0 : Nat)
      rw [Nat.gcd_zero_right]
      omega
    · rw [if_neg e]
      have h1 := jr_lt (x := d) e
      have h2 := jr_toInt d r
      have h2' : 0 ≤ (d - d / r * r).toInt := by rw [h2]; exact Int.tmod_nonneg _ hd
      have h3 : (d - d / r * r).toInt.natAbs = d.toInt.natAbs % r.toInt.natAbs := by rw [h2, Int.natAbs_tmod]
      rw [gcd_mod d.toInt.natAbs, ← h3]
      generalize d - d / r * r = r' at h1 h2' h3
      by_cases e' : r' = 0
      · rw [if_pos e', e']
        show r.toInt = (Nat.gcd r.toInt.natAbs 0 : Nat)
        rw [Nat.gcd_zero_right]
        omega
      · rw [if_neg e']
        have h4 := jr_lt (x := r) e'
        have h5 := jr_toInt r r'
        have h5' : 0 ≤ (r - r / r' * r').toInt := by rw [h5]; exact Int.tmod_nonneg _ hr
        have h6 : (r - r / r' * r').toInt.natAbs = r.toInt.natAbs % r'.toInt.natAbs := by rw [h5, Int.natAbs_tmod]
        have h7 : 2 * (r.toInt.natAbs % r'.toInt.natAbs) < r.toInt.natAbs := by
          have a1 := Nat.div_add_mod r.toInt.natAbs r'.toInt.natAbs
          have a2 : 1 ≤ r.toInt.natAbs / r'.toInt.natAbs := Nat.div_pos (by omega) (by omega)
          have a3 := Nat.mul_le_mul_left r'.toInt.natAbs a2
          omega
        rw [gcdJ_i j n r' _ (by omega) h2' h5' (by rw [h6]; rw [Nat.pow_succ] at hb; omega), h6, ← gcd_mod]
theorem absL_i {x : Int64} (h : x.toInt.natAbs < 9223372036854775808) : (absL x).toInt = (x.toInt.natAbs : Int) := by
  unfold absL
  have h0 : (0 : Int64).toInt = 0 := rfl
  by_cases e : 0 < x
  · rw [if_pos e]
    rw [i64_lt, h0] at e
    omega
  · rw [if_neg e]
    rw [i64_lt, h0] at e
    rw [i64_neg rfl h]
    omega
theorem low_eq {a b c d : Int} (ha : ¬ a = 0) (hc : ¬ c = 0) (h : a * d = c * b) : (if 0 ≤ a then b else -b).tdiv (Nat.gcd a.natAbs b.natAbs : Nat) = (if 0 ≤ c then d else -d).tdiv (Nat.gcd c.natAbs d.natAbs : Nat) ∧ (a.natAbs : Int).tdiv (Nat.gcd a.natAbs b.natAbs : Nat) = (c.natAbs : Int).tdiv (Nat.gcd c.natAbs d.natAbs : Nat) := by
  obtain ⟨g, hg⟩ : ∃ g, g = Nat.gcd a.natAbs b.natAbs := ⟨_, rfl⟩
  obtain ⟨g', hg'⟩ : ∃ g', g' = Nat.gcd c.natAbs d.natAbs := ⟨_, rfl⟩
  rw [← hg, ← hg']
  have gp : 0 < g := by rw [hg]; exact Nat.gcd_pos_of_pos_left _ (by omega)
  have gp' : 0 < g' := by rw [hg']; exact Nat.gcd_pos_of_pos_left _ (by omega)
  have hn : a.natAbs * d.natAbs = c.natAbs * b.natAbs := by rw [← Int.natAbs_mul, ← Int.natAbs_mul, h]
  have h1 : a.natAbs * g' = c.natAbs * g := by
    rw [hg, hg', ← Nat.gcd_mul_left, ← Nat.gcd_mul_left, hn, Nat.mul_comm a.natAbs]
  obtain ⟨x, hx⟩ : g ∣ a.natAbs := by rw [hg]; exact Nat.gcd_dvd_left _ _
  obtain ⟨y, hy⟩ : g ∣ b.natAbs := by rw [hg]; exact Nat.gcd_dvd_right _ _
  obtain ⟨z, hz⟩ : g' ∣ c.natAbs := by rw [hg']; exact Nat.gcd_dvd_left _ _
  obtain ⟨w, hw⟩ : g' ∣ d.natAbs := by rw [hg']; exact Nat.gcd_dvd_right _ _
  have hxz : x = z := by
    rw [hx, hz, Nat.mul_assoc, Nat.mul_assoc, Nat.mul_comm g', Nat.mul_left_comm] at h1
    rw [Nat.mul_assoc z] at h1
    exact Nat.eq_of_mul_eq_mul_right (Nat.mul_pos gp gp') h1
  have hyw : y = w := by
    have hx0 : 0 < x := by
      rcases Nat.eq_zero_or_pos x with e | e
      · rw [e, Nat.mul_zero] at hx; omega
      · exact e
    rw [hx, hw, hz, hy, ← hxz] at hn
    have e1 : g * x * (g' * w) = (g * x * g') * w := by rw [Nat.mul_assoc (g * x)]
    have e2 : g' * x * (g * y) = (g * x * g') * y := by
      rw [Nat.mul_comm (g' * x), Nat.mul_assoc g y, Nat.mul_comm g' x, ← Nat.mul_assoc y, Nat.mul_comm y x, Nat.mul_assoc x y, Nat.mul_comm y g', ← Nat.mul_assoc x, ← Nat.mul_assoc g, ← Nat.mul_assoc g]
    rw [e1, e2] at hn
    exact (Nat.eq_of_mul_eq_mul_left (Nat.mul_pos (Nat.mul_pos gp hx0) gp') hn).symm
  have q1 : (a.natAbs : Int).tdiv (g : Nat) = x := by
    rw [hx, ← Int.ofNat_tdiv, Nat.mul_div_cancel_left _ gp]
  have q2 : (c.natAbs : Int).tdiv (g' : Nat) = z := by
    rw [hz, ← Int.ofNat_tdiv, Nat.mul_div_cancel_left _ gp']
  refine ⟨?_, by rw [q1, q2, hxz]⟩
  have d1 : (b.natAbs : Int).tdiv (g : Nat) = y := by
    rw [hy, ← Int.ofNat_tdiv, Nat.mul_div_cancel_left _ gp]
  have d2 : (d.natAbs : Int).tdiv (g' : Nat) = w := by
    rw [hw, ← Int.ofNat_tdiv, Nat.mul_div_cancel_left _ gp']
  -- the signs
  have key : ∀ u : Int, ∀ n : Nat, (-u).tdiv (n : Nat) = -(u.tdiv n) := fun u n => Int.neg_tdiv u n
  by_cases b0 : b = 0
  · have d0 : d = 0 := by
      rw [b0, Int.mul_zero] at h
      rcases Int.mul_eq_zero.mp h with e | e
      · exact absurd e ha
      · exact e
    simp [b0, d0]
  · have d0 : ¬ d = 0 := fun e => by
      rw [e, Int.mul_zero] at h
      rcases Int.mul_eq_zero.mp h.symm with e | e
      · exact hc e
      · exact b0 e
    have sg : (0 < a ∧ 0 < d ∨ a < 0 ∧ d < 0) ↔ (0 < c ∧ 0 < b ∨ c < 0 ∧ b < 0) := by
      have pm : ∀ {u v : Int}, ¬ u = 0 → ¬ v = 0 → ((0 < u ∧ 0 < v ∨ u < 0 ∧ v < 0) ↔ 0 < u * v) := by
        intro u v hu hv
        constructor
        · rintro (⟨p, q⟩ | ⟨p, q⟩)
          · exact Int.mul_pos p q
          · exact Int.mul_pos_of_neg_of_neg p q
        · intro p
          rcases Int.lt_trichotomy u 0 with e | e | e
          · rcases Int.lt_trichotomy v 0 with f | f | f
            · exact Or.inr ⟨e, f⟩
            · exact absurd f hv
            · have := Int.mul_neg_of_neg_of_pos e f; omega
          · exact absurd e hu
          · rcases Int.lt_trichotomy v 0 with f | f | f
            · have := Int.mul_neg_of_pos_of_neg e f; omega
            · exact absurd f hv
            · exact Or.inl ⟨e, f⟩
      rw [pm ha d0, pm hc b0, h]
    have absb : b = b.natAbs ∨ b = -(b.natAbs : Int) := by omega
    have val : ∀ {u : Int} {n y : Nat}, (u.natAbs : Int).tdiv (n : Nat) = y → (0 < u → u.tdiv n = y) ∧ (u < 0 → u.tdiv n = -(y : Int)) := by
      intro u n y hu
      constructor
      · intro p
        rw [← hu]
        congr 1
        omega
      · intro p
        rw [← hu, ← key]
        congr 1
        omega
    have vb := val d1
    have vd := val d2
    rw [hyw] at vb
    have nb := key b g
    have nd := key d g'
    split <;> split <;> rcases Int.lt_trichotomy b 0 with p | p | p <;> rcases Int.lt_trichotomy d 0 with q | q | q <;> first
      | omega
      | (rw [vb.1 p, vd.1 q])
      | (rw [vb.2 p, vd.2 q])
      | (have s1 := vb.1 p; have s2 := vd.2 q; omega)
      | (have s1 := vb.2 p; have s2 := vd.1 q; omega)
      | (have s1 := vb.2 p; have s2 := vd.2 q; omega)
      | (have s1 := vb.1 p; have s2 := vd.1 q; omega)
