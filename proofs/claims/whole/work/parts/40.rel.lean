/-! the two sides' states, held together -/
def rng (x : Int32) (B : Int) : Prop := 0 ≤ x.toInt ∧ x.toInt ≤ B
def Rel (u : XS) (w : MS) : Prop :=
  okN u ∧ okM w ∧ (x_n u = w_n w ∧ x_m u = w_m w ∧ x_src u = w_src w ∧ x_tgt u = w_tgt w ∧ x_met u = w_met w) ∧
  rtOK (w_met w) (w_src w) (w_tgt w) (w_n w) (w_m w) (x_len u) (x_lnk u) ∧
  (∀ s, s < 25 → x_dem u s = w_dem w s ∧ rng (x_dem u s) 9999) ∧
  ((∀ l, l < w_m w → x_load u l = w_load w l ∧ rng (x_load u l) 199980) ∧ ∀ l, w_m w ≤ l → x_load u l = 0) ∧
  ((∀ v, v < 5 → (x_out u v = w_out w v ∧ rng (x_out u v) 249975) ∧ x_inn u v = w_inn w v ∧ rng (x_inn u v) 249975) ∧ ∀ v, w_n w ≤ v → v < 5 → x_out u v = 0 ∧ x_inn u v = 0) ∧
  (∀ s, s < 25 → uPair (x_pv u) s = w_ism w s ∧ (w_ism w s = true → x_pv u s = w_mea w s ∧ rng (x_pv u s) 9999)) ∧
  ∀ s, s < 25 → x_val u s = w_gue w s ∧ (uHas (x_len u) s = false → x_val u s = 0)
theorem uses_has {len : Nat → Nat} {lnk : Nat → Nat → Nat} {s l : Nat} (h : uUses len lnk s l = true) : uHas len s = true := by
  obtain ⟨j, hj, -⟩ := anyB_t.mp h
  simp [uHas]
  omega
theorem subL_congr {f g : Nat → Int64} {a : Int64} {n : Nat} (h : ∀ j, j < n → f j = g j) : subL f a n = subL g a n := by
  induction n with
  | zero => rfl
  | succ n ih => simp only [subL]; rw [ih (fun j hj => h j (by omega)), h n (by omega)]
/-- what the equations take from the reference's state -/
def RelE (u : XS) (S : MS) : Prop := w_m S = x_m u ∧ (∀ s, s < 25 → (∀ l, wUses (w_bits S) s l = uUses (x_len u) (x_lnk u) s l) ∧ wHas (w_bits S) s = uHas (x_len u) s ∧ w_ism S s = uPair (x_pv u) s ∧ (w_ism S s = true → w_mea S s = x_pv u s)) ∧ ∀ l, l < x_m u → w_load S l = x_load u l
theorem Rel_rt {u : XS} {w : MS} (h : Rel u w) {s : Nat} (hs : s < 25) : (∀ l, wUses (wBit w) s l = uUses (x_len u) (x_lnk u) s l) ∧ wHas (wBit w) s = uHas (x_len u) s := by
  obtain ⟨h1, ⟨-, hn, hm, hsr, htg, -⟩, -, hr, -⟩ := h
  have hb : wBit w s = bitF (wDst w) (w_met w) (w_src w) (w_tgt w) (w_n w) (w_m w) s := by
    show (if s < 25 then _ else _) = _
    rw [if_pos hs]
  constructor
  · intro l
    unfold wUses
    rw [hb]
    exact (rt_bits (d := w_dist w) hn hsr htg hr hs l).1.symm
  · unfold wHas
    rw [hb]
    exact (rt_bits (d := w_dist w) hn hsr htg hr hs 0).2.symm
theorem Rel_E {u : XS} {w : MS} (h : Rel u w) : RelE u (wFind w) := by
  have hr := fun s hs => Rel_rt h (s := s) hs
  obtain ⟨-, -, ⟨-, hm, -⟩, -, -, ⟨hl, -⟩, -, hp, -⟩ := h
  refine ⟨hm.symm, fun s hs => ⟨(hr s hs).1, (hr s hs).2, (hp s hs).1.symm, fun e => ((hp s hs).2 e).1.symm⟩, fun l hl2 => (hl l (by omega)).1.symm⟩
/-- the equations' rows, over the integers -/
def xA (u : XS) : Nat → Nat → Int := fun i c => (xRows u i c).toInt
def exA (u : XS) (ex : Option Nat) : Nat → Nat → Int := match ex with
  | none => xA u
  | some p => outA (xA u) p
theorem xRows_25 {u : XS} {i : Nat} (hi : i < x_m u) : xRows u i 25 = subL (fun s => if uUses (x_len u) (x_lnk u) s i && uPair (x_pv u) s then (x_pv u s).toInt64 else 0) (x_load u i).toInt64 25 := by
  show (if i < x_m u then _ else _ : Nat → Int64) 25 = _
  rw [if_pos hi]
  unfold fRow
  dsimp only
  rw [if_pos rfl]
  refine subL_congr (fun s hs => ?_)
  show (if uUses (x_len u) (x_lnk u) s i && (if s < 25 then uKn (x_len u) (x_pv u) s else x_kn u s) then _ else _) = _
  rw [if_pos hs]
  unfold uKn
  cases e : uUses (x_len u) (x_lnk u) s i with
  | false => rfl
  | true => rw [uses_has e, Bool.true_and]
theorem xRows_j {u : XS} {i j : Nat} (hi : i < x_m u) (hj : j < 25) : xRows u i j = if uUses (x_len u) (x_lnk u) j i && !uPair (x_pv u) j then 1 else 0 := by
  show (if i < x_m u then _ else _ : Nat → Int64) j = _
  rw [if_pos hi]
  unfold fRow
  dsimp only
  rw [if_neg (show ¬ j = 25 by omega)]
  show (if decide (j < 25) && (uUses (x_len u) (x_lnk u) j i && !(if j < 25 then uKn (x_len u) (x_pv u) j else x_kn u j)) then _ else _) = _
  rw [if_pos hj]
  unfold uKn
  simp only [hj, decide_true, Bool.true_and]
  cases e : uUses (x_len u) (x_lnk u) j i with
  | false => rfl
  | true => rw [uses_has e]; simp only [Bool.true_and]
theorem wRows_i {u : XS} {S : MS} (h : RelE u S) {ex : Option Nat} (hex : ∀ k, ex = some k → k < 25) {i j : Nat} (hi : i < x_m u) (hj : j < 26) : (w_row (wLay S ex) i j).toInt = exA u ex i j := by
  obtain ⟨hm, hb, hl⟩ := h
  have e1 : w_row (wLay S ex) i = mRow (wUses (w_bits S)) (isX (w_ism S) ex) (w_ism S) (w_mea S) (w_load S) (w_row S) i := by
    show (if i < w_m S then _ else _) = _
    rw [if_pos (by omega)]
  rw [e1]
  unfold mRow
  by_cases e : j = 25
  · subst e
    rw [va_up_self]
    have e2 : rstF (wUses (w_bits S)) (w_ism S) (w_mea S) (w_load S) i 25 = xRows u i 25 := by
      rw [xRows_25 hi]
      unfold rstF
      rw [hl i hi]
      refine subL_congr (fun s hs => ?_)
      obtain ⟨b1, b2, b3, b4⟩ := hb s hs
      rw [b1, b3]
      cases x : uPair (x_pv u) s with
      | false => simp
      | true => rw [b4 (by rw [b3]; exact x)]
    rw [e2]
    cases ex with
    | none => rfl
    | some p =>
      have := hex p rfl
      show (xRows u i 25).toInt = if 25 = p then 0 else (xRows u i 25).toInt
      rw [if_neg (by omega)]
  · have hj25 : j < 25 := by omega
    rw [va_up_ne _ _ e]
    show (if j < 25 then coefF (wUses (w_bits S)) (isX (w_ism S) ex) i j else w_row S i j).toInt = _
    rw [if_pos hj25]
    obtain ⟨b1, b2, b3, b4⟩ := hb j hj25
    unfold coefF isX
    rw [b1, b3]
    cases ex with
    | none =>
      show _ = (xRows u i j).toInt
      rw [xRows_j hi hj25]
      simp
    | some p =>
      show _ = if j = p then 0 else (xRows u i j).toInt
      rw [xRows_j hi hj25]
      by_cases x : j = p
      · simp [x]
      · simp [x, show ¬ p = j from fun y => x y.symm]
theorem i32_64 (x : Int32) : x.toInt64.toInt = x.toInt := Int32.toInt_toInt64 x
theorem sumZ_rng {f : Nat → Int} {B : Nat → Nat} {n : Nat} (h : ∀ j, j < n → 0 ≤ f j ∧ f j ≤ B j) : 0 ≤ sumZ f n ∧ sumZ f n ≤ sumN B n := by
  induction n with
  | zero => exact ⟨by simp [sumZ], by simp [sumZ, sumN]⟩
  | succ n ih =>
    simp only [sumZ, sumN]
    have := ih (fun j hj => h j (by omega))
    have := h n (by omega)
    omega
theorem subL_i {f : Nat → Int64} {a : Int64} {B : Nat → Nat} {n : Nat} (h : ∀ j, j < n → 0 ≤ (f j).toInt ∧ (f j).toInt ≤ B j) (ha : 0 ≤ a.toInt) (hB : sumN B n < 9000000000000000000) : (subL f a n).toInt = a.toInt - sumZ (fun j => (f j).toInt) n := by
  induction n with
  | zero => simp [subL, sumZ]
  | succ n ih =>
    simp only [sumN] at hB
    simp only [subL, sumZ]
    have h1 := ih (fun j hj => h j (by omega)) (by omega)
    have h2 := sumZ_rng (f := fun j => (f j).toInt) (B := B) (n := n) (fun j hj => h j (by omega))
    have h3 := h n (by omega)
    have h4 := a.toInt_lt
    rw [i64_sub h1 rfl (by omega)]
    omega
/-- off the diagonal: 20 pairs -/
def offB (B s : Nat) : Nat := if s / 5 = s % 5 then 0 else B
theorem off_9999 : sumN (offB 9999) 25 = 199980 := by decide
theorem has_off {u : XS} {w : MS} (h : Rel u w) {s : Nat} (hs : s < 25) (hh : uHas (x_len u) s = true) : s / 5 < w_n w ∧ s % 5 < w_n w ∧ ¬ s / 5 = s % 5 := by
  obtain ⟨-, ⟨-, hn, hm, hsr, htg, -⟩, -, hr, -⟩ := h
  have := (rt_len4 hsr htg hr (a := s / 5) (b := s % 5) (by omega) (by omega)).2
  rw [show s / 5 * 5 + s % 5 = s by omega] at this
  simp [uHas] at hh
  have := this hh
  exact ⟨this.1, this.2.1, this.2.2.1⟩
theorem xA_Bd {u : XS} {w : MS} (h : Rel u w) : Bd (xA u) (x_m u) := by
  have hoff := fun s hs hh => has_off h (s := s) hs hh
  have h' := h
  obtain ⟨-, ⟨-, hn, hm, hsr, htg, -⟩, ⟨-, hmm, -⟩, hr, -, ⟨hl, -⟩, -, hp, -⟩ := h'
  refine ⟨by omega, ⟨fun s => decide (x_len u s = 4), len4_cnt hsr htg hr, fun c hc => ?_⟩, ?_⟩
  · have h1 : sumN (fun i => (xA u i c).natAbs) (x_m u) ≤ cntN (fun l => uUses (x_len u) (x_lnk u) c l) (x_m u) := by
      rw [cnt_sum]
      refine sumN_le (fun i hi => ?_)
      unfold xA
      rw [xRows_j hi hc]
      cases uUses (x_len u) (x_lnk u) c i <;> cases uPair (x_pv u) c <;> decide
    have h2 := uses_cnt (x_len u) (x_lnk u) c (x_m u)
    have h3 := (rt_len4 hsr htg hr (a := c / 5) (b := c % 5) (by omega) (by omega)).1
    rw [show c / 5 * 5 + c % 5 = c by omega] at h3
    unfold sO
    by_cases e : x_len u c = 4
    · simp only [e, decide_true, if_true]; omega
    · simp only [e, decide_false]
      simp only [Bool.false_eq_true, if_false]
      omega
  · have h1 : ∀ i, i < x_m u → (xA u i 25).natAbs ≤ 199980 := by
      intro i hi
      unfold xA
      rw [xRows_25 hi]
      have hb : ∀ s, s < 25 → 0 ≤ (if uUses (x_len u) (x_lnk u) s i && uPair (x_pv u) s then (x_pv u s).toInt64 else 0).toInt ∧ (if uUses (x_len u) (x_lnk u) s i && uPair (x_pv u) s then (x_pv u s).toInt64 else 0).toInt ≤ offB 9999 s := by
        intro s hs
        cases x : uUses (x_len u) (x_lnk u) s i && uPair (x_pv u) s with
        | false => exact ⟨Int.le_refl 0, by show (0 : Int) ≤ _; omega⟩
        | true =>
          rw [Bool.and_eq_true] at x
          have y := ((hp s hs).2 (by rw [← (hp s hs).1]; exact x.2)).2
          have z := hoff s hs (uses_has x.1)
          simp only [if_true]
          rw [i32_64]
          unfold offB
          rw [if_neg z.2.2]
          exact y
      have hl2 := (hl i (by omega)).2
      have h0 : 0 ≤ (x_load u i).toInt64.toInt := by rw [i32_64]; exact hl2.1
      have h3 := sumZ_rng hb
      have h4 := off_9999
      rw [subL_i hb h0 (by omega), i32_64]
      have := hl2.1
      have := hl2.2
      omega
    have h2 : sumN (fun i => (xA u i 25).natAbs) (x_m u) ≤ sumN (fun _ => 199980) (x_m u) := sumN_le h1
    have h3 : ∀ k, sumN (fun _ => 199980) k = 199980 * k := by
      intro k
      induction k with
      | zero => rfl
      | succ k ih => simp only [sumN]; omega
    rw [h3] at h2
    omega
theorem exA_Bd {u : XS} (h : Bd (xA u) (x_m u)) {ex : Option Nat} (hex : ∀ k, ex = some k → k < 25) : Bd (exA u ex) (x_m u) := by
  cases ex with
  | none => exact h
  | some p =>
    have hp := hex p rfl
    obtain ⟨h1, ⟨h4, h2, h3⟩, h5⟩ := h
    have le : ∀ c, sumN (fun i => (outA (xA u) p i c).natAbs) (x_m u) ≤ sumN (fun i => (xA u i c).natAbs) (x_m u) := by
      intro c
      refine sumN_le (fun i hi => ?_)
      unfold outA
      split
      · exact Nat.zero_le _
      · exact Nat.le_refl _
    exact ⟨h1, ⟨h4, h2, fun c hc => Nat.le_trans (le c) (h3 c hc)⟩, Nat.le_trans (le 25) h5⟩
