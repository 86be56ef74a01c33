/-! the estimates -/
def e25 (f g : Nat → Int64) : Prop := ∀ s, s < 25 → f s = g s
def z25 (has : Nat → Bool) (f : Nat → Int64) : Prop := ∀ s, s < 25 → has s = false → f s = 0
theorem sc_0 (g w : Int64) : scaled 0 g w = 0 := by
  unfold scaled
  split
  · rw [Int64.zero_mul, Int64.zero_mul, Int64.zero_div]
  · rfl
theorem sc_pos {a g w : Int64} (h : ¬ w ≤ 0) : scaled a g w = a * g * 1000 / w := by
  unfold scaled
  rw [if_pos (by rw [i64_lt]; rw [i64_le] at h; omega)]
theorem fitL_hit {sc : Int64 → Int64} {a b : Nat} {f : Nat → Int64} (hb : 1 ≤ b) : ∀ n j, j < n → fitL sc a b n f (a + j * b) = sc (f (a + j * b))
  | n + 1, j, hj => by
    simp only [fitL]
    have miss : ∀ k, k ≤ n → fitL sc a b k f (a + n * b) = f (a + n * b) := by
      intro k
      induction k with
      | zero => exact fun _ => rfl
      | succ k ih =>
        intro hk
        simp only [fitL]
        have : k * b < n * b := Nat.mul_lt_mul_of_pos_right (by omega) (by omega)
        rw [va_up_ne _ _ (by omega), ih (by omega)]
    by_cases e : j = n
    · rw [e, va_up_self, miss n (Nat.le_refl _)]
    · have : j * b < n * b := Nat.mul_lt_mul_of_pos_right (by omega) (by omega)
      rw [va_up_ne _ _ (by omega)]
      exact fitL_hit hb n j (by omega)
theorem fitL_miss {sc : Int64 → Int64} {a b p : Nat} {f : Nat → Int64} : ∀ n, (∀ j, j < n → ¬ p = a + j * b) → fitL sc a b n f p = f p
  | 0, _ => rfl
  | n + 1, h => by
    simp only [fitL]
    rw [va_up_ne _ _ (h n (by omega))]
    exact fitL_miss n (fun j hj => h j (by omega))
section EST
variable {us us' : Nat → Nat → Bool} {has : Nat → Bool} {f g : Nat → Int64}
theorem line_sum0 (hfg : e25 f g) {k : Nat} (hk : k < 5) : lineS f (k * 5 + 0) 1 = sumM us g 0 k := by
  unfold sumM
  rw [sumL_congr (g := fun p => if ofF us 0 k p then f p else 0) (fun p hp => by rw [hfg p hp])]
  have : k = 0 ∨ k = 1 ∨ k = 2 ∨ k = 3 ∨ k = 4 := by omega
  rcases this with rfl | rfl | rfl | rfl | rfl <;> simp [lineS, sumL, ofF]
theorem line_sum1 (hfg : e25 f g) {k : Nat} (hk : k < 5) : lineS f (0 * 5 + k) 5 = sumM us g 1 k := by
  unfold sumM
  rw [sumL_congr (g := fun p => if ofF us 1 k p then f p else 0) (fun p hp => by rw [hfg p hp])]
  have : k = 0 ∨ k = 1 ∨ k = 2 ∨ k = 3 ∨ k = 4 := by omega
  rcases this with rfl | rfl | rfl | rfl | rfl <;> simp [lineS, sumL, ofF]
theorem line_eq (hfg : e25 f g) {a b sort k : Nat} {o : Int32} (hb : 1 ≤ b) (hS : lineS f a b = sumM us g sort k) (hi : ∀ p, p < 25 → (ofF us sort k p = true ↔ ∃ j, j < 5 ∧ p = a + j * b)) : e25 (lineF f a b o) (fitM us g sort k o) := by
  intro p hp
  unfold lineF fitM
  rw [hS]
  by_cases h0 : sumM us g sort k ≤ 0
  · rw [if_pos h0, if_pos h0]
    exact hfg p hp
  · rw [if_neg h0, if_neg h0]
    unfold mixN fitG
    rw [if_pos hp]
    by_cases x : ofF us sort k p = true
    · rw [if_pos x]
      obtain ⟨j, hj, e⟩ := (hi p hp).mp x
      rw [e, fitL_hit hb 5 j hj, sc_pos h0, ← e, hfg p hp]
    · rw [if_neg x, fitL_miss 5 (fun j hj e => x ((hi p hp).mpr ⟨j, hj, e⟩))]
      exact hfg p hp
theorem line_z (hz : z25 has f) {a b : Nat} {o : Int32} (hb : 1 ≤ b) : z25 has (lineF f a b o) := by
  intro p hp hh
  unfold lineF
  split
  · exact hz p hp hh
  · by_cases x : ∃ j, j < 5 ∧ p = a + j * b
    · obtain ⟨j, hj, e⟩ := x
      rw [e, fitL_hit hb 5 j hj, ← e, hz p hp hh, sc_0]
    · rw [fitL_miss 5 (fun j hj e => x ⟨j, hj, e⟩)]
      exact hz p hp hh
theorem idx0 {k p : Nat} (hk : k < 5) (hp : p < 25) : ofF us 0 k p = true ↔ ∃ j, j < 5 ∧ p = k * 5 + 0 + j * 1 := by
  simp only [ofF, if_true, decide_eq_true_eq]
  constructor
  · intro e; exact ⟨p % 5, by omega, by omega⟩
  · rintro ⟨j, hj, e⟩; omega
theorem idx1 {k p : Nat} (hk : k < 5) (hp : p < 25) : ofF us 1 k p = true ↔ ∃ j, j < 5 ∧ p = 0 * 5 + k + j * 5 := by
  simp only [ofF, show ¬ (1 : Nat) = 0 by omega, if_false, if_true, decide_eq_true_eq]
  constructor
  · intro e; exact ⟨p / 5, by omega, by omega⟩
  · rintro ⟨j, hj, e⟩; omega
theorem fit1_eq {out out' : Nat → Int32} (ho : ∀ v, v < 5 → out v = out' v) (hfg : e25 f g) (hz : z25 has f) : ∀ k, k ≤ 5 → e25 (fitT1 out k f) (fitV us 0 out' k g) ∧ z25 has (fitT1 out k f)
  | 0, _ => ⟨hfg, hz⟩
  | k + 1, hk => by
    obtain ⟨i1, i2⟩ := fit1_eq ho hfg hz k (by omega)
    simp only [fitT1, fitV]
    rw [ho k (by omega)]
    exact ⟨line_eq i1 (by omega) (line_sum0 i1 (by omega)) (fun p hp => idx0 (by omega) hp), line_z i2 (by omega)⟩
theorem fit2_eq {out out' : Nat → Int32} (ho : ∀ v, v < 5 → out v = out' v) (hfg : e25 f g) (hz : z25 has f) : ∀ k, k ≤ 5 → e25 (fitT2 out k f) (fitV us 1 out' k g) ∧ z25 has (fitT2 out k f)
  | 0, _ => ⟨hfg, hz⟩
  | k + 1, hk => by
    obtain ⟨i1, i2⟩ := fit2_eq ho hfg hz k (by omega)
    simp only [fitT2, fitV]
    rw [ho k (by omega)]
    exact ⟨line_eq i1 (by omega) (line_sum1 i1 (by omega)) (fun p hp => idx1 (by omega) hp), line_z i2 (by omega)⟩
theorem line_0 {a b : Nat} {o : Int32} (h : ∀ j, j < 5 → f (a + j * b) = 0) : lineF f a b o = f := by
  unfold lineF
  have : lineS f a b = 0 := by
    unfold lineS
    rw [sumL_congr (g := fun _ => 0) h]
    rfl
  rw [if_pos (by rw [this]; decide)]
theorem fit1_n {out : Nat → Int32} {n : Nat} (hn : n ≤ 5) (hh : ∀ s, s < 25 → has s = true → s / 5 < n ∧ s % 5 < n) (hz : z25 has f) : ∀ j, n + j ≤ 5 → fitT1 out (n + j) f = fitT1 out n f
  | 0, _ => rfl
  | j + 1, hj => by
    have ih := fit1_n hn hh hz j (by omega) (out := out)
    show lineF (fitT1 out (n + j) f) ((n + j) * 5 + 0) 1 (out (n + j)) = _
    rw [ih]
    have hz2 := (fit1_eq (us := fun _ _ => false) (out := out) (out' := out) (fun _ _ => rfl) (fun _ _ => rfl) hz n hn).2
    refine line_0 (fun i hi => hz2 _ (by omega) ?_)
    cases e : has ((n + j) * 5 + 0 + i * 1) with
    | false => rfl
    | true =>
      have := hh _ (by omega) e
      omega
theorem fit2_n {out : Nat → Int32} {n : Nat} (hn : n ≤ 5) (hh : ∀ s, s < 25 → has s = true → s / 5 < n ∧ s % 5 < n) (hz : z25 has f) : ∀ j, n + j ≤ 5 → fitT2 out (n + j) f = fitT2 out n f
  | 0, _ => rfl
  | j + 1, hj => by
    have ih := fit2_n hn hh hz j (by omega) (out := out)
    show lineF (fitT2 out (n + j) f) (0 * 5 + (n + j)) 5 (out (n + j)) = _
    rw [ih]
    have hz2 := (fit2_eq (us := fun _ _ => false) (out := out) (out' := out) (fun _ _ => rfl) (fun _ _ => rfl) hz n hn).2
    refine line_0 (fun i hi => hz2 _ (by omega) ?_)
    cases e : has (0 * 5 + (n + j) + i * 5) with
    | false => rfl
    | true =>
      have := hh _ (by omega) e
      omega
theorem fitT_eq {out out' inn inn' : Nat → Int32} {n : Nat} (hn : n ≤ 5) (hh : ∀ s, s < 25 → has s = true → s / 5 < n ∧ s % 5 < n) (ho : ∀ v, v < 5 → out v = out' v) (hi : ∀ v, v < 5 → inn v = inn' v) (hfg : e25 f g) (hz : z25 has f) : e25 (fitT out inn f) (fitTM us out' inn' n g) ∧ z25 has (fitT out inn f) := by
  unfold fitT fitTM
  have a1 := fit1_n (out := out) hn hh hz (5 - n) (by omega)
  rw [show n + (5 - n) = 5 by omega] at a1
  rw [a1]
  obtain ⟨b1, b2⟩ := fit1_eq (us := us) ho hfg hz n hn
  have a2 := fit2_n (out := inn) hn hh b2 (5 - n) (by omega)
  rw [show n + (5 - n) = 5 by omega] at a2
  rw [a2]
  exact fit2_eq hi b1 b2 n hn
theorem link_eq (hu : ∀ s, s < 25 → ∀ l, us' s l = us s l) (hfg : e25 f g) (hz : z25 has f) (k : Nat) {o o' : Int32} (ho : o = o') : e25 (linkF us f k o) (fitM us' g 2 k o') ∧ z25 has (linkF us f k o) := by
  subst ho
  have hS : linkS us f k = sumM us' g 2 k := sumL_congr (fun p hp => by
    show _ = if us' p k then g p else 0
    rw [hu p hp, hfg p hp])
  have hof : ∀ p, ofF us' 2 k p = us' p k := fun p => rfl
  unfold linkF fitM
  rw [hS]
  by_cases h0 : sumM us' g 2 k ≤ 0
  · rw [if_pos h0, if_pos h0]
    exact ⟨hfg, hz⟩
  · rw [if_neg h0, if_neg h0]
    constructor
    · intro p hp
      unfold mixN linkG fitG
      rw [if_pos hp, if_pos hp, hof, hu p hp, hfg p hp, sc_pos h0]
    · intro p hp hh
      unfold mixN linkG
      rw [if_pos hp, hz p hp hh, sc_0]
      split <;> rfl
theorem fitK_eq (hu : ∀ s, s < 25 → ∀ l, us' s l = us s l) {load load' : Nat → Int32} (hfg : e25 f g) (hz : z25 has f) : ∀ m, (∀ l, l < m → load l = load' l) → e25 (fitK us load m f) (fitV us' 2 load' m g) ∧ z25 has (fitK us load m f)
  | 0, _ => ⟨hfg, hz⟩
  | m + 1, h => by
    obtain ⟨i1, i2⟩ := fitK_eq hu hfg hz m (fun l hl => h l (by omega))
    simp only [fitK, fitV]
    exact link_eq hu i1 i2 m (h m (by omega))
theorem iter_eq {F G : (Nat → Int64) → Nat → Int64} (h : ∀ f g, e25 f g → z25 has f → e25 (F f) (G g) ∧ z25 has (F f)) (hfg : e25 f g) (hz : z25 has f) : ∀ k, e25 (iterF F k f) (iterF G k g) ∧ z25 has (iterF F k f)
  | 0 => ⟨hfg, hz⟩
  | k + 1 => by
    obtain ⟨i1, i2⟩ := iter_eq h hfg hz k
    exact h _ _ i1 i2
end EST
section OPS
variable {u : XS} {w : MS}
theorem Rel_val (h : Rel u w) : e25 (x_val u) (w_gue w) ∧ z25 (uHas (x_len u)) (x_val u) := ⟨fun s hs => (h.2.2.2.2.2.2.2.2 s hs).1, fun s hs => (h.2.2.2.2.2.2.2.2 s hs).2⟩
theorem Rel_keep (h : Rel u w) : e25 (x_val u) (w_gue (wKeep w)) := by
  obtain ⟨h1, h2⟩ := Rel_val h
  intro s hs
  show _ = if s < 25 then keepF (wHas (wBit w)) (w_gue w) s else w_gue w s
  rw [if_pos hs]
  unfold keepF
  rw [(Rel_rt h hs).2]
  cases e : uHas (x_len u) s with
  | true => exact h1 s hs
  | false => exact h2 s hs e
theorem Rel_setv (h : Rel u w) {f r : Nat → Int64} {g b : Nat → Int64} (h1 : e25 f g) (h2 : z25 (uHas (x_len u)) f) : Rel (xs_val (xs_rem u r) f) (ws_gue (ws_bef (wFind w) b) g) := by
  obtain ⟨r1, r2, r3, r4, r5, r6, r7, r8, r9⟩ := h
  exact ⟨r1, r2, r3, r4, r5, r6, r7, r8, fun s hs => ⟨h1 s hs, h2 s hs⟩⟩
theorem rem_eq (h : Rel u w) : e25 (va_cpy (x_val u) (x_rem u) 0 0 25) (mixN (w_bef w) (w_gue w) 25) := by
  intro s hs
  unfold va_cpy mixN
  rw [if_pos ⟨by omega, by omega⟩, if_pos hs, show 0 + (s - 0) = s by omega]
  exact (Rel_val h).1 s hs
theorem chg_eq {f g f' g' : Nat → Int64} (h : e25 f f') (h2 : e25 g g') : chgN f g = chgN f' g' := by
  unfold chgN
  exact cntN_congr (fun s hs => by rw [h s hs, h2 s hs])
theorem op_fitT (h : Rel u w) (k : Int32) : (aFitT u k).1 = (bFitT w k).1 ∧ Rel (aFitT u k).2 (bFitT w k).2 := by
  unfold aFitT bFitT
  by_cases e : isIn 1 50 k = true
  · rw [if_pos e, if_pos e]
    obtain ⟨-, -, hn, hn5⟩ := Rel_m h
    have ho := h.2.2.2.2.2.2.1.1
    have it := iter_eq (has := uHas (x_len u)) (F := fitT (x_out u) (x_inn u)) (G := fitTM (wUses (wBit w)) (w_out w) (w_inn w) (w_n w)) (fun f g a b => fitT_eq hn5 (fun s hs hh => ⟨(has_off h hs hh).1, (has_off h hs hh).2.1⟩) (fun v hv => (ho v hv).1.1) (fun v hv => (ho v hv).2.1) a b) (Rel_keep h) (Rel_val h).2 (ndx k)
    refine ⟨?_, Rel_setv h it.1 it.2⟩
    exact congrArg nI (chg_eq it.1 (rem_eq h))
  · rw [if_neg e, if_neg e]
    exact ⟨rfl, h⟩
theorem op_fitK (h : Rel u w) (k : Int32) : (aFitK u k).1 = (bFitK w k).1 ∧ Rel (aFitK u k).2 (bFitK w k).2 := by
  unfold aFitK bFitK
  by_cases e : isIn 1 50 k = true
  · rw [if_pos e, if_pos e]
    obtain ⟨hm, -, -, -⟩ := Rel_m h
    have hl := h.2.2.2.2.2.1.1
    have it := iter_eq (has := uHas (x_len u)) (F := fitK (uUses (x_len u) (x_lnk u)) (x_load u) (x_m u)) (G := fitV (wUses (wBit w)) 2 (w_load w) (w_m w)) (fun f g a b => by
      rw [hm]
      exact fitK_eq (fun s hs l => (Rel_rt h hs).1 l) a b (w_m w) (fun l hl2 => (hl l hl2).1)) (Rel_keep h) (Rel_val h).2 (ndx k)
    refine ⟨?_, Rel_setv h it.1 it.2⟩
    exact congrArg nI (chg_eq it.1 (rem_eq h))
  · rw [if_neg e, if_neg e]
    exact ⟨rfl, h⟩
theorem op_est (h : Rel u w) (s t : Int32) : aEst u s t = bEst w s t := by
  obtain ⟨-, -, hn, hn5⟩ := Rel_m h
  unfold aEst bEst
  rw [hn]
  by_cases e : pairE (w_n w) s t = 0
  · rw [if_pos e, if_pos e]
    obtain ⟨a, b, ha, hb, rfl, rfl, hab⟩ := pairE_0 hn5 e
    rw [slot_nI (by omega) (by omega)]
    exact (Rel_val h).1 _ (by omega)
  · rw [if_neg e, if_neg e]
theorem op_res (h : Rel u w) (k : Int32) : aRes u k = (bRes w k).1 ∧ Rel u (bRes w k).2 := by
  obtain ⟨hm, hm12, -, -⟩ := Rel_m h
  unfold aRes bRes
  rw [hm]
  by_cases e : inB k (w_m w) = true
  · rw [if_pos e, if_pos e]
    refine ⟨?_, h⟩
    have hS : linkS (uUses (x_len u) (x_lnk u)) (x_val u) (ndx k) = sumM (wUses (wBit w)) (w_gue w) 2 (ndx k) := sumL_congr (fun p hp => by
      show _ = if wUses (wBit w) p (ndx k) then w_gue w p else 0
      rw [(Rel_rt h hp).1, (Rel_val h).1 p hp])
    dsimp only
    rw [(h.2.2.2.2.2.1.1 _ (inB_k hm12 e).1).1, hS]
  · rw [if_neg e, if_neg e]
    exact ⟨rfl, h⟩
theorem abs_LJ (x : Int64) : absL x = absJ x := by
  unfold absL absJ
  have h0 : (0 : Int64).toInt = 0 := rfl
  by_cases e : 0 < x
  · rw [if_pos e, if_pos (by rw [i64_le]; rw [i64_lt] at e; omega)]
  · by_cases e2 : 0 ≤ x
    · rw [if_neg e, if_pos e2]
      have : x = 0 := Int64.toInt_inj.mp (by rw [i64_lt] at e; rw [i64_le] at e2; omega)
      rw [this]
      rfl
    · rw [if_neg e, if_neg e2]
theorem op_err (h : Rel u w) : aErr u = bErr w := by
  unfold aErr bErr
  exact sumL_congr (fun s hs => by rw [(Rel_rt h hs).2, (Rel_val h).1 s hs, (h.2.2.2.2.1 s hs).1, abs_LJ])
theorem sumL_i {f : Nat → Int64} {B : Nat → Nat} {n : Nat} (h : ∀ j, j < n → 0 ≤ (f j).toInt ∧ (f j).toInt ≤ B j) (hB : sumN B n < 9000000000000000000) : (sumL f n).toInt = sumZ (fun j => (f j).toInt) n := by
  induction n with
  | zero => rfl
  | succ n ih =>
    simp only [sumN] at hB
    simp only [sumL, sumZ]
    have h1 := ih (fun j hj => h j (by omega)) (by omega)
    have h2 := sumZ_rng (f := fun j => (f j).toInt) (B := B) (n := n) (fun j hj => h j (by omega))
    have h3 := h n (by omega)
    rw [i64_add h1 rfl (by omega)]
theorem sumZ_ext {f : Nat → Int} {n : Nat} : ∀ j, (∀ i, n ≤ i → i < n + j → f i = 0) → sumZ f (n + j) = sumZ f n
  | 0, _ => rfl
  | j + 1, h => by
    show sumZ f (n + j) + f (n + j) = _
    rw [sumZ_ext j (fun i h1 h2 => h i h1 (by omega)), h (n + j) (by omega) (by omega)]
    omega
theorem tot_eq (h : Rel u w) : (sumI (x_out u) 5).toInt64 = totM (w_out w) (w_n w) := by
  obtain ⟨-, -, -, hn5⟩ := Rel_m h
  obtain ⟨ho, hz⟩ := h.2.2.2.2.2.2.1
  apply Int64.toInt_inj.mp
  unfold totM
  have b5 : ∀ k, k ≤ 5 → sumN (fun _ => 249975) k ≤ 1249875 := by
    intro k hk
    have e : ∀ k, sumN (fun _ => 249975) k = 249975 * k := by
      intro k
      induction k with
      | zero => rfl
      | succ k ih => simp only [sumN]; omega
    rw [e]; omega
  have c5 := b5 5 (Nat.le_refl _)
  have cn := b5 (w_n w) hn5
  rw [i32_64, sumI_i (B := fun _ => 249975) (fun v hv => (ho v hv).1.2) (by omega), sumL_i (B := fun _ => 249975) (fun v hv => by
    rw [i32_64, ← (ho v (by omega)).1.1]
    exact (ho v (by omega)).1.2) (by omega)]
  have e := sumZ_ext (f := fun v => (x_out u v).toInt) (n := w_n w) (5 - w_n w) (fun i h1 h2 => by
    rw [(hz i h1 (by omega)).1]
    rfl)
  rw [show w_n w + (5 - w_n w) = 5 by omega] at e
  rw [e]
  exact sumZ_congr (fun v hv => by rw [i32_64, (ho v (by omega)).1.1])
theorem grav_eq (h : Rel u w) : e25 (grav (uHas (x_len u)) (x_out u) (x_inn u) (sumI (x_out u) 5).toInt64) (wGr w) := by
  have ho := h.2.2.2.2.2.2.1.1
  intro s hs
  unfold grav
  show _ = gravM (wHas (wBit w)) (w_out w) (w_inn w) (totM (w_out w) (w_n w)) s
  unfold gravM
  rw [tot_eq h, (Rel_rt h hs).2, (ho (s / 5) (by omega)).1.1, (ho (s % 5) (by omega)).2.1]
  cases e : uHas (x_len u) s with
  | false => rfl
  | true =>
    simp only [if_true]
    by_cases x : totM (w_out w) (w_n w) ≤ 0
    · rw [if_pos x]
      unfold scaled
      rw [if_neg (by rw [i64_lt]; rw [i64_le] at x; omega)]
    · rw [if_neg x, sc_pos x]
theorem op_grav (h : Rel u w) : nI (cntN (fun s => !decide ((grav (uHas (x_len u)) (x_out u) (x_inn u) (sumI (x_out u) 5).toInt64) s ≤ 0)) 25) = nI (cntN (fun p => !decide (wGr w p ≤ 0)) 25) ∧ Rel (xs_val u (mixN (x_val u) (grav (uHas (x_len u)) (x_out u) (x_inn u) (sumI (x_out u) 5).toInt64) 25)) (ws_gue (wFind w) (mixN (w_gue w) (wGr w) 25)) := by
  have hg := grav_eq h
  constructor
  · congr 1
    exact cntN_congr (fun s hs => by rw [hg s hs])
  · obtain ⟨r1, r2, r3, r4, r5, r6, r7, r8, r9⟩ := h
    refine ⟨r1, r2, r3, r4, r5, r6, r7, r8, fun s hs => ⟨?_, fun e => ?_⟩⟩
    · show mixN (x_val u) _ 25 s = mixN (w_gue w) (wGr w) 25 s
      unfold mixN
      rw [if_pos hs, if_pos hs, hg s hs]
    · have e : uHas (x_len u) s = false := e
      show mixN (x_val u) _ 25 s = 0
      unfold mixN
      rw [if_pos hs]
      exact grav_f e
end OPS
