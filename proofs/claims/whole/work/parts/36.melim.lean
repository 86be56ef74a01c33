/-! the reference's reduction: its rows are the integers' rows, shortened -/
theorem i64_le {x y : Int64} : x ≤ y ↔ x.toInt ≤ y.toInt := Int64.le_iff_toInt_le
theorem i64_lt {x y : Int64} : x < y ↔ x.toInt < y.toInt := Int64.lt_iff_toInt_lt
theorem absJ_i {x : Int64} (h : x.toInt.natAbs < 9223372036854775808) : (absJ x).toInt = (x.toInt.natAbs : Int) := by
  unfold absJ
  have h0 : (0 : Int64).toInt = 0 := rfl
  by_cases e : 0 ≤ x
  · rw [if_pos e]
    rw [i64_le, h0] at e
    omega
  · rw [if_neg e]
    rw [i64_le, h0] at e
    rw [i64_neg rfl h]
    omega
theorem gcd_mod (a b : Nat) : Nat.gcd a b = Nat.gcd b (a % b) := by
  rw [Nat.gcd_comm a b, Nat.gcd_rec, Nat.gcd_comm]
theorem euc_gcd : ∀ (k : Nat) (x y : Int64), 0 ≤ x.toInt → 0 ≤ y.toInt → y.toInt.natAbs < k → (euc k x y).toInt = (Nat.gcd x.toInt.natAbs y.toInt.natAbs : Nat)
  | 0, _, _, _, _, h => absurd h (by omega)
  | k + 1, x, y, hx, hy, h => by
    simp only [euc]
    by_cases e : y = 0
    · rw [if_pos e, e]
      show x.toInt = (Nat.gcd x.toInt.natAbs 0 : Nat)
      rw [Nat.gcd_zero_right]
      omega
    · rw [if_neg e]
      have h1 := jr_lt (x := x) e
      have h2 := jr_toInt x y
      rw [euc_gcd k y _ hy (by rw [h2]; exact Int.tmod_nonneg _ hx) (by omega), h2, Int.natAbs_tmod, ← gcd_mod]
theorem cmn_i {a b : Int64} (ha : a.toInt.natAbs < 9223372036854775808) (hb : b.toInt.natAbs < 9223372036854775808) : (cmn a b).toInt = (Nat.gcd a.toInt.natAbs b.toInt.natAbs : Nat) := by
  unfold cmn
  rw [euc_gcd _ _ _ (by rw [absJ_i ha]; omega) (by rw [absJ_i hb]; omega) (by omega), absJ_i ha, absJ_i hb]
  rfl
def gN (X : Nat → Int) : Nat → Nat
  | 0 => 0
  | n + 1 => Nat.gcd (gN X n) (X n).natAbs
theorem gN_dvd {X : Nat → Int} : ∀ {n j : Nat}, j < n → gN X n ∣ (X j).natAbs
  | n + 1, j, h => by
    simp only [gN]
    by_cases e : j = n
    · rw [e]; exact Nat.gcd_dvd_right _ _
    · exact Nat.dvd_trans (Nat.gcd_dvd_left _ _) (gN_dvd (by omega))
theorem dvd_gN {X : Nat → Int} {d T : Nat} : ∀ {n : Nat}, (∀ j, j < n → d ∣ T * (X j).natAbs) → d ∣ T * gN X n
  | 0, _ => by simp [gN]
  | n + 1, h => by
    simp only [gN]
    rw [← Nat.gcd_mul_left]
    exact Nat.dvd_gcd (dvd_gN (fun j hj => h j (by omega))) (h n (by omega))
theorem byF_i {f : Nat → Int64} {X : Nat → Int} : ∀ {n : Nat}, (∀ j, j < n → (f j).toInt = X j) → (∀ j, j < n → (X j).natAbs < 9223372036854775808) → (byF f n).toInt = (gN X n : Nat)
  | 0, _, _ => rfl
  | n + 1, h, h2 => by
    simp only [byF, gN]
    have ih := byF_i (n := n) (fun j hj => h j (by omega)) (fun j hj => h2 j (by omega))
    have h3 := (byF f n).toInt_lt
    have h4 := h2 n (by omega)
    have h5 := h n (by omega)
    rw [cmn_i (by omega) (by rw [h5]; exact h4), ih, h5]
    rfl
theorem sh_spec {f : Nat → Int64} {X Y : Nat → Int} {D T : Int} (h : ∀ j, j < 26 → (f j).toInt = X j) (hr : ∀ j, j < 26 → (X j).natAbs < 9223372036854775808) (hD : ¬ D = 0) (hT : ¬ T = 0) (he : ∀ j, j < 26 → D * Y j = T * X j) : ∃ t : Int, ¬ t = 0 ∧ ∀ j, j < 26 → Y j = t * (shF f j).toInt := by
  have hG := byF_i h hr
  obtain ⟨G, hGe⟩ : ∃ G, G = gN X 26 := ⟨_, rfl⟩
  rw [← hGe] at hG
  have h1 : (1 : Int64).toInt = 1 := rfl
  by_cases g0 : G = 0
  · refine ⟨1, by omega, fun j hj => ?_⟩
    have hs : shF f = f := by
      unfold shF
      rw [if_pos (by rw [i64_le, hG, h1]; omega)]
    have := gN_dvd (X := X) hj
    rw [← hGe, g0, Nat.zero_dvd] at this
    have h0 : X j = 0 := by omega
    rw [hs, h j hj, h0]
    have h2 := he j hj
    rw [h0, Int.mul_zero] at h2
    rcases Int.mul_eq_zero.mp h2 with z | z
    · exact absurd z hD
    · omega
  · have hd : D.natAbs ∣ T.natAbs * G := by
      rw [hGe]
      refine dvd_gN (fun j hj => ?_)
      rw [← Int.natAbs_mul, ← he j hj, Int.natAbs_mul]
      exact Nat.dvd_mul_right _ _
    have hd2 : D ∣ T * (G : Int) := by
      rw [← Int.natAbs_dvd_natAbs, Int.natAbs_mul]
      exact hd
    obtain ⟨t, ht⟩ := hd2
    refine ⟨t, fun z => ?_, fun j hj => ?_⟩
    · rw [z, Int.mul_zero] at ht
      rcases Int.mul_eq_zero.mp ht with z | z
      · exact hT z
      · omega
    · have hM : (G : Int) * (shF f j).toInt = X j := by
        unfold shF
        by_cases e : byF f 26 ≤ 1
        · rw [if_pos e, h j hj]
          rw [i64_le, hG, h1] at e
          have : G = 1 := by omega
          rw [this]
          omega
        · rw [if_neg e]
          unfold mixN
          simp only [hj, if_true]
          rw [i64_div (h j hj) hG (hr j hj)]
          have := gN_dvd (X := X) hj
          rw [← hGe] at this
          exact Int.mul_tdiv_cancel' (Int.ofNat_dvd_left.mpr this)
      have h2 := he j hj
      rw [← hM, ← Int.mul_assoc, ht, Int.mul_assoc] at h2
      exact Int.eq_of_mul_eq_mul_left hD h2
theorem abs_t {Z t M : Int} (h : Z = t * M) (ht : ¬ t = 0) : M.natAbs ≤ Z.natAbs := by
  rw [h, Int.natAbs_mul]
  exact Nat.le_mul_of_pos_left _ (by omega)
theorem red_row {N : Nat → Nat → Int64} {k p o : Nat} {Z Z' Y : Nat → Int} {D a b : Int} (hp : p < 26) (hD : ¬ D = 0) (ha : ¬ a = 0) (hb : ¬ b = 0) (hY : ∀ j, j < 26 → Y j = a * (N k j).toInt) (hZ : ∀ j, j < 26 → Z j = b * (N o j).toInt) (hYp : ¬ Y p = 0) (b1 : (Y p).natAbs ≤ 2239488) (b2 : (Z p).natAbs ≤ 2239488) (b3 : ∀ j, j < 26 → (Z j).natAbs ≤ 1791411240960) (b4 : ∀ j, j < 26 → (Y j).natAbs ≤ 1791411240960) (he : ∀ j, j < 26 → D * Z' j = Y p * Z j - Z p * Y j) : ∃ t : Int, ¬ t = 0 ∧ ∀ j, j < 26 → Z' j = t * (shF (clF N k p o) j).toInt := by
  have nkp : ¬ (N k p).toInt = 0 := fun e => hYp (by rw [hY p hp, e, Int.mul_zero])
  have c1 := fun j hj => abs_t (hY j hj) ha
  have c2 := fun j hj => abs_t (hZ j hj) hb
  by_cases e : N o p = 0
  · have hc : clF N k p o = N o := by unfold clF; rw [if_pos e]
    rw [hc]
    have e0 : (N o p).toInt = 0 := by rw [e]; rfl
    refine sh_spec (X := fun j => (N o j).toInt) (T := Y p * b) (fun j hj => rfl) (fun j hj => ?_) hD (fun z => ?_) (fun j hj => ?_)
    · have := c2 j hj
      have := b3 j hj
      show (N o j).toInt.natAbs < _
      omega
    · rcases Int.mul_eq_zero.mp z with z | z
      · exact hYp z
      · exact hb z
    · rw [he j hj, hZ p hp, e0, Int.mul_zero, Int.zero_mul, Int.sub_zero, hZ j hj, Int.mul_assoc]
  · refine sh_spec (X := fun j => (N o j).toInt * (N k p).toInt - (N k j).toInt * (N o p).toInt) (T := a * b) (fun j hj => ?_) (fun j hj => ?_) hD (fun z => ?_) (fun j hj => ?_)
    · unfold clF
      rw [if_neg e]
      unfold mixN
      simp only [hj, if_true]
      have m1 := mul_abs (Nat.le_trans (c2 j hj) (b3 j hj)) (Nat.le_trans (c1 p hp) b1)
      have m2 := mul_abs (Nat.le_trans (c1 j hj) (b4 j hj)) (Nat.le_trans (c2 p hp) b2)
      exact i64_sub (i64_mul rfl rfl (by omega)) (i64_mul rfl rfl (by omega)) (by omega)
    · have m1 := mul_abs (Nat.le_trans (c2 j hj) (b3 j hj)) (Nat.le_trans (c1 p hp) b1)
      have m2 := mul_abs (Nat.le_trans (c1 j hj) (b4 j hj)) (Nat.le_trans (c2 p hp) b2)
      show ((N o j).toInt * (N k p).toInt - (N k j).toInt * (N o p).toInt).natAbs < _
      omega
    · rcases Int.mul_eq_zero.mp z with z | z
      · exact ha z
      · exact hb z
    · rw [he j hj, hZ p hp, hY p hp, hZ j hj, hY j hj]
      generalize (N k p).toInt = x1
      generalize (N o p).toInt = x2
      generalize (N o j).toInt = x3
      generalize (N k j).toInt = x4
      have e1 : a * x1 * (b * x3) = a * b * (x3 * x1) := by
        rw [Int.mul_assoc, Int.mul_assoc]; congr 1
        rw [Int.mul_left_comm, Int.mul_comm x1]
      have e2 : b * x2 * (a * x4) = a * b * (x4 * x2) := by
        rw [Int.mul_comm (b * x2), Int.mul_assoc, Int.mul_assoc]; congr 1
        rw [Int.mul_left_comm]
      rw [e1, e2, Int.mul_sub]
theorem clA_at (k p : Nat) (R : Nat → Nat → Int64) : ∀ m o, clA k p R m o = if o < m ∧ ¬ o = k then shF (clF R k p o) else R o
  | 0, o => by simp [clA]
  | m + 1, o => by
    have ih := clA_at k p R m
    have hk : clA k p R m k = R k := by rw [ih k, if_neg (by omega)]
    have hm : clA k p R m m = R m := by rw [ih m, if_neg (by omega)]
    have hcl : clF (clA k p R m) k p m = clF R k p m := by
      unfold clF
      rw [hk, hm]
    simp only [clA]
    rw [hcl]
    by_cases e : o = m
    · subst e
      by_cases x : o = k
      · rw [if_pos x, if_neg (by omega), hm]
      · rw [if_neg x, va_up_self, if_pos ⟨by omega, x⟩]
    · have h2 : (if m = k then clA k p R m else va_up (clA k p R m) m (shF (clF R k p m))) o = clA k p R m o := by
        split
        · rfl
        · rw [va_up_ne _ _ e]
      rw [h2, ih o]
      by_cases x : o < m ∧ ¬ o = k
      · rw [if_pos x, if_pos ⟨by omega, x.2⟩]
      · rw [if_neg x, if_neg (fun z => x ⟨by omega, z.2⟩)]
/-- the state of the reduction stands for the pivots jc, its rows for the rows pr -/
def MX (A : Nat → Nat → Int) (m : Nat) (z : rZ) (pr jc : Nat → Nat) (c : Nat) : Prop :=
  Cf A m pr jc z.1 c ∧ (∀ i, i < m → pr i < m) ∧ (∀ i, i < m → ∃ i', i' < m ∧ pr i' = i) ∧ (∀ q, q < z.1 → ∃ t : Int, ¬ t = 0 ∧ ∀ j, j < 26 → RP A pr jc z.1 q j = t * (z.2.1 q j).toInt) ∧ (∀ i, z.1 ≤ i → i < m → ∃ t : Int, ¬ t = 0 ∧ ∀ j, j < 26 → RN A pr jc z.1 (pr i) j = t * (z.2.1 i j).toInt) ∧ (∀ q, q < z.1 → z.2.2 (jc q) = some q) ∧ ∀ s, s < 25 → (∀ q, q < z.1 → ¬ jc q = s) → z.2.2 s = none
section MEL
variable {A : Nat → Nat → Int} {m : Nat}
theorem MX_0 {R : Nat → Nat → Int64} {w : Nat → Option Nat} (h : ∀ i, i < m → ∀ j, j < 26 → (R i j).toInt = A i j) (hw : ∀ s, s < 25 → w s = none) (jc : Nat → Nat) : MX A m (0, R, w) id jc 0 :=
  ⟨Cf_0, fun i hi => hi, fun i hi => ⟨i, hi, rfl⟩, fun q hq => absurd hq (Nat.not_lt_zero _), fun i _ hi => ⟨1, by omega, fun j hj => by
    show RN A id jc 0 i j = 1 * (R i j).toInt
    rw [h i hi j hj]
    simp [RN, cfD, dt, sumZ]⟩, fun q hq => absurd hq (Nat.not_lt_zero _), fun s hs _ => hw s hs⟩
theorem MX_1 (hb : Bd A m) {z : rZ} {pr jc : Nat → Nat} {c : Nat} (hc : c < 25) (h : MX A m z pr jc c) : ∃ pr' jc', MX A m (red1 m c z) pr' jc' (c + 1) := by
  obtain ⟨k, M, w⟩ := z
  obtain ⟨hcf, hpm, hsu, hRP, hRN, hw, hw0⟩ := h
  dsimp only at hcf hRP hRN hw hw0
  unfold red1
  dsimp only
  cases hf : fndR m k c M with
  | none =>
    refine ⟨pr, jc, Cf_skip hcf (fun i hi => ?_), hpm, hsu, hRP, hRN, hw, hw0⟩
    obtain ⟨i', hi', e⟩ := hsu i hi
    by_cases x : i' < k
    · rw [← e]
      exact RN_pr hcf.1 x c
    · have h1 := fstN_none.mp hf i' hi'
      simp [show k ≤ i' by omega] at h1
      obtain ⟨t, -, ht⟩ := hRN i' (by omega) hi'
      rw [← e, ht c (by omega), h1]
      exact Int.mul_zero _
  | some r =>
    obtain ⟨hrm, hrr, -⟩ := fstN_some.mp hf
    simp only [Bool.and_eq_true, decide_eq_true_eq, Bool.not_eq_true', decide_eq_false_iff_not] at hrr
    obtain ⟨hkr, hrc⟩ := hrr
    obtain ⟨a, ha, hY⟩ := hRN r hkr hrm
    have h0 : ¬ RN A pr jc k (pr r) c = 0 := fun e => by
      rw [hY c (by omega)] at e
      rcases Int.mul_eq_zero.mp e with z | z
      · exact ha z
      · exact hrc (Int64.toInt_inj.mp (by rw [z]; rfl))
    have hcf' := Cf_take hcf (hpm r hrm) h0
    have hk1 := Cf_k hcf'
    have hk : k ≤ 11 := by
      have := hb.1
      omega
    have sN := fun i hi => RN_small hb hcf (by omega) hk (i := i) hi
    have sP := fun q hq => RP_small hb hcf (by omega) (q := q) hq
    have sm : ∀ {x : Nat → Int}, (∀ j, j < 25 → (x j).natAbs ≤ 2239488) → (x 25).natAbs ≤ 1791411240960 → ∀ j, j < 26 → (x j).natAbs ≤ 1791411240960 := by
      intro x h1 h2 j hj
      by_cases e : j = 25
      · rw [e]; exact h2
      · have := h1 j (by omega); omega
    obtain ⟨pr', hpr'⟩ : ∃ pr' : Nat → Nat, pr' = fun i => if i = k then pr r else if i = r then pr k else pr i := ⟨_, rfl⟩
    obtain ⟨N, hN⟩ : ∃ N, N = swp M k r 26 := ⟨_, rfl⟩
    have hNa : ∀ i j, j < 26 → N i j = if i = k then M r j else if i = r then M k j else M i j := by
      intro i j hj
      rw [hN]
      simp [swp, hj]
    have e1 : ∀ l, l < k + 1 → va_up pr k (pr r) l = pr' l := by
      intro l hl
      rw [hpr']
      by_cases e : l = k
      · rw [e, va_up_self]; simp
      · rw [va_up_ne _ _ e]
        simp [e, show ¬ l = r by omega]
    have e2 : ∀ q, q < k + 1 → va_up jc k c q = va_up jc k c q := fun _ _ => rfl
    have hYN : ∀ j, j < 26 → RN A pr jc k (pr r) j = a * (N k j).toInt := by
      intro j hj
      rw [hY j hj, hNa k j hj, if_pos rfl]
    refine ⟨pr', va_up jc k c, Cf_congr e1 e2 hcf', ?_, ?_, ?_, ?_, ?_, ?_⟩
    · intro i hi
      rw [hpr']
      dsimp only
      split
      · exact hpm r hrm
      · split
        · exact hpm k (by omega)
        · exact hpm i hi
    · intro i hi
      obtain ⟨i', hi', e⟩ := hsu i hi
      by_cases x : i' = k
      · refine ⟨r, hrm, ?_⟩
        rw [hpr']
        dsimp only
        by_cases y : r = k
        · rw [if_pos y, ← e, x, y]
        · rw [if_neg y, if_pos rfl, ← e, x]
      · by_cases y : i' = r
        · refine ⟨k, by omega, ?_⟩
          rw [hpr']
          dsimp only
          rw [if_pos rfl, ← e, y]
        · refine ⟨i', hi', ?_⟩
          rw [hpr']
          dsimp only
          rw [if_neg x, if_neg y, e]
    · intro q hq
      have hq : q < k + 1 := hq
      show ∃ t : Int, ¬ t = 0 ∧ ∀ j, j < 26 → RP A pr' (va_up jc k c) (k + 1) q j = t * (clA k c (swp M k r 26) m q j).toInt
      rw [← hN, clA_at]
      by_cases e : q = k
      · subst e
        refine ⟨a, ha, fun j hj => ?_⟩
        rw [if_neg (by omega), ← hYN j hj, ← RP_new h0]
        exact (RP_congr e1 e2 _ _).symm
      · rw [if_pos ⟨by omega, e⟩]
        obtain ⟨b, hbb, hZ⟩ := hRP q (by omega)
        refine red_row (Z := RP A pr jc k q) (Y := RN A pr jc k (pr r)) (by omega) hcf.1 ha hbb hYN (fun j hj => ?_) h0 ((sN _ (hpm r hrm)).1 c hc) (((sP q (by omega)).1 c hc).2 hk) (sm (fun j hj => ((sP q (by omega)).1 j hj).2 hk) (sP q (by omega)).2) (sm (sN _ (hpm r hrm)).1 (sN _ (hpm r hrm)).2) (fun j hj => ?_)
        · rw [hZ j hj, hNa q j hj, if_neg e, if_neg (by omega)]
        · rw [← RP_congr e1 e2]
          exact RP_step h0 (by omega) j
    · intro i hki hi
      have hki : k + 1 ≤ i := hki
      show ∃ t : Int, ¬ t = 0 ∧ ∀ j, j < 26 → RN A pr' (va_up jc k c) (k + 1) (pr' i) j = t * (clA k c (swp M k r 26) m i j).toInt
      rw [← hN, clA_at, if_pos ⟨hi, by omega⟩]
      have hi' : pr' i < m := by
        rw [hpr']
        dsimp only
        rw [if_neg (by omega)]
        split
        · exact hpm k (by omega)
        · exact hpm i hi
      obtain ⟨b, hbb, hZ⟩ : ∃ t : Int, ¬ t = 0 ∧ ∀ j, j < 26 → RN A pr jc k (pr' i) j = t * (N i j).toInt := by
        by_cases e : i = r
        · obtain ⟨b, hbb, hZ⟩ := hRN k (by omega) (by omega)
          refine ⟨b, hbb, fun j hj => ?_⟩
          rw [hNa i j hj, if_neg (by omega), if_pos e, ← hZ j hj, hpr']
          dsimp only
          rw [if_neg (by omega), if_pos e]
        · obtain ⟨b, hbb, hZ⟩ := hRN i (by omega) hi
          refine ⟨b, hbb, fun j hj => ?_⟩
          rw [hNa i j hj, if_neg (by omega), if_neg e, ← hZ j hj, hpr']
          dsimp only
          rw [if_neg (by omega), if_neg e]
      refine red_row (Z := RN A pr jc k (pr' i)) (Y := RN A pr jc k (pr r)) (by omega) hcf.1 ha hbb hYN hZ h0 ((sN _ (hpm r hrm)).1 c hc) ((sN _ hi').1 c hc) (sm (sN _ hi').1 (sN _ hi').2) (sm (sN _ (hpm r hrm)).1 (sN _ (hpm r hrm)).2) (fun j hj => ?_)
      rw [← RN_congr e1 e2]
      exact RN_step h0 (pr' i) j
    · intro q hq
      have hq : q < k + 1 := hq
      show va_up w c (some k) (va_up jc k c q) = some q
      by_cases e : q = k
      · rw [e, va_up_self, va_up_self]
      · have := hcf.2.2.1 q (by omega)
        rw [va_up_ne _ _ e, va_up_ne _ _ (show jc q ≠ c by omega)]
        exact hw q (by omega)
    · intro s hs hn
      show va_up w c (some k) s = none
      have h1 : ¬ s = c := fun e => hn k (by show k < k + 1; omega) (by rw [va_up_self, e])
      rw [va_up_ne _ _ h1]
      exact hw0 s hs (fun q hq e => hn q (by show q < k + 1; omega) (by rw [va_up_ne _ _ (by omega), e]))
theorem MX_N (hb : Bd A m) {z : rZ} {pr jc : Nat → Nat} (h : MX A m z pr jc 0) : ∀ c, c ≤ 25 → ∃ pr' jc', MX A m (redN m c z) pr' jc' c
  | 0, _ => ⟨pr, jc, h⟩
  | c + 1, hc => by
    obtain ⟨pr', jc', h'⟩ := MX_N hb h c (by omega)
    exact MX_1 hb (by omega) h'
end MEL
