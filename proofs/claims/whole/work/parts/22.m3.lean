/-! TrafficMatrixModel: the equations -/
theorem jr_toInt (x y : Int64) : (x - x / y * y).toInt = x.toInt.tmod y.toInt := by
  rw [Int64.toInt_sub, Int64.toInt_mul, Int64.toInt_div, Int.bmod_mul_bmod, Int.sub_bmod_bmod, Int.mul_comm, ← Int.tmod_def]
  have h1 := x.toInt_lt
  have h2 := x.le_toInt
  have h3 : (x.toInt.tmod y.toInt).natAbs ≤ x.toInt.natAbs := by rw [Int.natAbs_tmod]; exact Nat.mod_le _ _
  have h4 : 0 ≤ x.toInt → 0 ≤ x.toInt.tmod y.toInt := fun h => Int.tmod_nonneg _ h
  have h5 : x.toInt ≤ 0 → x.toInt.tmod y.toInt ≤ 0 := fun h => by
    have := Int.tmod_nonneg y.toInt (a := -x.toInt) (by omega)
    rw [Int.neg_tmod] at this
    omega
  apply Int.bmod_eq_of_le <;> omega
theorem jr_lt {x y : Int64} (hy : ¬ y = 0) : (x - x / y * y).toInt.natAbs < y.toInt.natAbs := by
  rw [jr_toInt, Int.natAbs_tmod]
  apply Nat.mod_lt
  have : ¬ y.toInt = 0 := fun e => hy (Int64.toInt_inj.mp (by rw [e]; rfl))
  omega
def euc : Nat → Int64 → Int64 → Int64
  | 0, x, _ => x
  | k + 1, x, y => if y = 0 then x else euc k y (x - x / y * y)
theorem euc_fuel : ∀ (k k' : Nat) (x y : Int64), y.toInt.natAbs < k → y.toInt.natAbs < k' → euc k x y = euc k' x y
  | 0, _, _, _, h, _ => absurd h (by omega)
  | _ + 1, 0, _, _, _, h => absurd h (by omega)
  | k + 1, k' + 1, x, y, h, h' => by
    simp only [euc]
    by_cases e : y = 0
    · rw [if_pos e, if_pos e]
    · rw [if_neg e, if_neg e]
      have := jr_lt (x := x) e
      exact euc_fuel k k' _ _ (by omega) (by omega)
def absJ (x : Int64) : Int64 := if 0 ≤ x then x else -x
def cmn (a b : Int64) : Int64 := euc ((absJ b).toInt.natAbs + 1) (absJ a) (absJ b)
def byF (f : Nat → Int64) : Nat → Int64
  | 0 => 0
  | n + 1 => cmn (byF f n) (f n)
def shF (f : Nat → Int64) : Nat → Int64 := if byF f 26 ≤ 1 then f else mixN f (fun k => f k / byF f 26) 26
def swp (R : Nat → Nat → Int64) (a b i : Nat) : Nat → Nat → Int64 := fun r k => if k < i then (if r = a then R b k else if r = b then R a k else R r k) else R r k
theorem swp_0 (R : Nat → Nat → Int64) (a b : Nat) : swp R a b 0 = R := by funext r k; simp [swp]
theorem swp_s (R : Nat → Nat → Int64) (a b i : Nat) : va_up (va_up (swp R a b i) a (va_up (swp R a b i a) i (swp R a b i b i))) b (va_up (va_up (swp R a b i) a (va_up (swp R a b i a) i (swp R a b i b i)) b) i (swp R a b i a i)) = swp R a b (i + 1) := by
  funext r k
  by_cases e1 : r = b
  · subst e1
    rw [va_up_self]
    by_cases e2 : k = i
    · subst e2
      rw [va_up_self]
      by_cases e3 : r = a
      · subst e3; simp [swp]
      · simp [swp, e3]
    · rw [va_up_ne _ _ e2]
      by_cases e3 : r = a
      · subst e3
        rw [va_up_self, va_up_ne _ _ e2]
        by_cases h : k < i
        · simp [swp, h, show k < i + 1 by omega]
        · simp [swp, h, show ¬ k < i + 1 by omega]
      · rw [va_up_ne _ _ e3]
        by_cases h : k < i
        · simp [swp, h, show k < i + 1 by omega, e3]
        · simp [swp, h, show ¬ k < i + 1 by omega]
  · rw [va_up_ne _ _ e1]
    by_cases e3 : r = a
    · subst e3
      rw [va_up_self]
      by_cases e2 : k = i
      · subst e2
        rw [va_up_self]
        simp [swp]
      · rw [va_up_ne _ _ e2]
        by_cases h : k < i
        · simp [swp, h, show k < i + 1 by omega]
        · simp [swp, h, show ¬ k < i + 1 by omega]
    · rw [va_up_ne _ _ e3]
      by_cases h : k < i
      · simp [swp, h, show k < i + 1 by omega, e1, e3]
      · by_cases h2 : k = i
        · subst h2; simp [swp, e1, e3]
        · simp [swp, h, show ¬ k < i + 1 by omega]
def clF (R : Nat → Nat → Int64) (r p o : Nat) : Nat → Int64 := if R o p = 0 then R o else mixN (R o) (fun k => R o k * R r p - R r k * R o p) 26
def clA (k p : Nat) (R : Nat → Nat → Int64) : Nat → Nat → Nat → Int64
  | 0 => R
  | o + 1 => if o = k then clA k p R o else va_up (clA k p R o) o (shF (clF (clA k p R o) k p o))
abbrev rZ : Type := Nat × (Nat → Nat → Int64) × (Nat → Option Nat)
def fndR (m k p : Nat) (R : Nat → Nat → Int64) : Option Nat := fstN (fun r => decide (k ≤ r) && !decide (R r p = 0)) m
def red1 (m p : Nat) (z : rZ) : rZ := match fndR m z.1 p z.2.1 with
  | none => z
  | some r => (z.1 + 1, clA z.1 p (swp z.2.1 z.1 r 26) m, va_up z.2.2 p (some z.1))
def redN (m : Nat) : Nat → rZ → rZ
  | 0, z => z
  | p + 1, z => red1 m p (redN m p z)
def isX (ism : Nat → Bool) (ex : Option Nat) (p : Nat) : Bool := ism p || decide (ex = some p)
def coefF (us : Nat → Nat → Bool) (is : Nat → Bool) (l j : Nat) : Int64 := if us j l && !is j then 1 else 0
def rstF (us : Nat → Nat → Bool) (ism : Nat → Bool) (mea : Nat → Int32) (load : Nat → Int32) (l i : Nat) : Int64 := subL (fun p => if us p l && ism p then (mea p).toInt64 else 0) (load l).toInt64 i
def mRow (us : Nat → Nat → Bool) (is ism : Nat → Bool) (mea load : Nat → Int32) (R : Nat → Nat → Int64) (l : Nat) : Nat → Int64 := va_up (mixN (R l) (coefF us is l) 25) 25 (rstF us ism mea load l 25)
abbrev wLay (u : MS) (ex : Option Nat) : MS := ws_row (ws_pr (ws_kn u (cntN (fun p => wHas (w_bits u) p && isX (w_ism u) ex p) 25)) (mixN (w_pr u) (fun _ => none) 25)) (mixN (w_row u) (mRow (wUses (w_bits u)) (isX (w_ism u) ex) (w_ism u) (w_mea u) (w_load u) (w_row u)) (w_m u))
abbrev wZ (u : MS) (ex : Option Nat) : rZ := redN (w_m u) 25 (0, w_row (wLay u ex), w_pr (wLay u ex))
abbrev wRz (u : MS) (z : rZ) : MS := ws_pr (ws_row (ws_rows u z.1) z.2.1) z.2.2
abbrev wRed (u : MS) (ex : Option Nat) : MS := wRz (wLay u ex) (wZ u ex)
theorem oI7 {i : Nat} {ex : Option Nat} (hi : i < 25) (hex : ∀ k, ex = some k → k < 25) : (nI i = oI (-7) ex ↔ ex = some i) := by
  cases ex with
  | none =>
    simp only [reduceCtorEq, iff_false]
    intro e
    have h1 := nI_toInt (n := i) (by omega)
    rw [e] at h1
    have h2 : (oI (-7) none).toInt = -7 := by decide
    omega
  | some k =>
    have hk := hex k rfl
    show nI i = nI k ↔ _
    rw [nI_eq (by omega) (by omega)]
    constructor
    · intro e; rw [e]
    · intro e; exact (Option.some.inj e).symm
theorem oI7n {x : Option Nat} {B : Nat} (h : ∀ k, x = some k → k < B) (hB : B ≤ 2 ^ 31) : oI (-7) x = -7 ↔ x = none := by
  cases x with
  | none => exact ⟨fun _ => rfl, fun _ => rfl⟩
  | some k =>
    have hk := h k rfl
    refine ⟨fun e => ?_, fun e => by cases e⟩
    have e1 : nI k = -7 := e
    have h1 := nI_toInt (n := k) (by omega)
    rw [e1] at h1
    have h2 : (-7 : Int32).toInt = -7 := by decide
    omega
theorem oI7s {x : Option Nat} (e : ¬ oI (-7) x = -7) : ∃ k, x = some k := by
  cases x with
  | none => exact absurd rfl e
  | some k => exact ⟨k, rfl⟩
theorem bor_t1 {a b : Bool} (h : a = true) : (a || b) = true := by rw [h]; rfl
theorem i_s {f : Nat → Int64} {a : Int64} {n : Nat} {x : Int64} (h : f n = x) : subL f a n - x = subL f a (n + 1) := by rw [← h]; rfl
def wSure (has ism : Nat → Bool) (ex : Option Nat) (pr : Nat → Option Nat) (R : Nat → Nat → Int64) (p : Nat) : Bool := has p && (isX ism ex p || match pr p with
  | none => false
  | some r => !anyB (fun k => !decide (k = p) && !decide (R r k = 0)) 25)
def wAgr (m k : Nat) (R : Nat → Nat → Int64) : Bool := !anyB (fun r => decide (k ≤ r) && !decide (R r 25 = 0)) m
theorem red1_ok {m p : Nat} {z : rZ} (h1 : z.1 ≤ m) (h2 : ∀ s k, z.2.2 s = some k → k < m) : (red1 m p z).1 ≤ m ∧ ∀ s k, (red1 m p z).2.2 s = some k → k < m := by
  unfold red1
  cases hf : fndR m z.1 p z.2.1 with
  | none => exact ⟨h1, h2⟩
  | some r =>
    obtain ⟨a, b, -⟩ := fstN_some.mp hf
    have b2 : z.1 ≤ r ∧ ¬ z.2.1 r p = 0 := by simpa using b
    refine ⟨by show z.1 + 1 ≤ m; omega, fun s k hk => ?_⟩
    simp only [va_up] at hk
    split at hk
    · cases hk; omega
    · exact h2 s k hk
theorem redN_ok2 {m : Nat} {z : rZ} (h1 : z.1 ≤ m) (h2 : ∀ s k, z.2.2 s = some k → s < 25 → k < m) : ∀ p, (redN m p z).1 ≤ m ∧ ∀ s k, (redN m p z).2.2 s = some k → s < 25 → k < m
  | 0 => ⟨h1, h2⟩
  | p + 1 => by
    obtain ⟨a, b⟩ := redN_ok2 h1 h2 p
    show (red1 m p (redN m p z)).1 ≤ m ∧ ∀ s k, (red1 m p (redN m p z)).2.2 s = some k → s < 25 → k < m
    generalize redN m p z = y at a b ⊢
    unfold red1
    cases hf : fndR m y.1 p y.2.1 with
    | none => exact ⟨a, b⟩
    | some r =>
      obtain ⟨e1, e2, -⟩ := fstN_some.mp hf
      have e3 : y.1 ≤ r ∧ ¬ y.2.1 r p = 0 := by simpa using e2
      refine ⟨by show y.1 + 1 ≤ m; omega, fun s k hk hs => ?_⟩
      simp only [va_up] at hk
      split at hk
      · cases hk; omega
      · exact b s k hk hs
theorem redN_ok {m : Nat} {z : rZ} (h1 : z.1 ≤ m) (h2 : ∀ s k, z.2.2 s = some k → k < m) : ∀ p, (redN m p z).1 ≤ m ∧ ∀ s k, (redN m p z).2.2 s = some k → k < m
  | 0 => ⟨h1, h2⟩
  | p + 1 => red1_ok (redN_ok h1 h2 p).1 (redN_ok h1 h2 p).2
set_option maxRecDepth 100000 in
set_option maxHeartbeats 4000000 in
theorem kX5_common (l : Launch) (Y : yG) (u : MS) (a b : Int64)  : mL l (gM Y) yX5_common wsX5_common ({ frames := 0, cells := 0, slots := 0, locals := 0 }) [.long a, .long b] u (cmn a b) u := by
  refine mL_of (cc := cX5_common) (nL := 10) (own := RX5) (by decide) rfl rfl (fun v => cM_geo Y _ v) (Nat.le_of_ble_eq_true rfl) ?_
  intro K hKl hE hret
  show vV K (gM Y) u [(0, .long a), (2, .long b)] [] 0
  refine v_lload_n 1 hE dX5_common_0 rfl rfl ?_
  refine v_lconst 2 hE (v := 0) dX5_common_1 (by decide) rfl ?_
  refine v_lc_ge 3 6 hE 11 dX5_common_2 dX5_common_3 (by decide) rfl rfl (fun c2 => ?_) (fun c2 => ?_)
  · refine v_lload_n 12 hE dX5_common_11 rfl rfl ?_
    refine v_lstore 14 hE [_, _, _] dX5_common_12 (by decide) rfl rfl ?_
    refine v_lload_n 15 hE dX5_common_14 rfl rfl ?_
    refine v_lconst 16 hE (v := 0) dX5_common_15 (by decide) rfl ?_
    refine v_lc_ge 17 20 hE 25 dX5_common_16 dX5_common_17 (by decide) rfl rfl (fun c16 => ?_) (fun c16 => ?_)
    · refine v_lload_n 26 hE dX5_common_25 rfl rfl ?_
      refine v_lstore 28 hE [_, _, _, _] dX5_common_26 (by decide) rfl rfl ?_
      refine vV.sub [2, 3, 1, 0] rfl ?_
      have L28 : ∀ (n28 : Nat) (x y : Int64), euc (y.toInt.natAbs + 1) x y = cmn a b → y.toInt.natAbs < n28 → vV K (gM Y) u [(0, .long a), (2, .long b), (4, .long x), (6, .long y)] [] 28 := by
        intro n28
        induction n28 with
        | zero => intro x y h1 h2; exact absurd h2 (by omega)
        | succ n28 ih28 =>
          intro x y hF hfu
          refine v_lload 30 hE dX5_common_28 rfl rfl ?_
          refine v_lconst 31 hE (v := 0) dX5_common_30 (by decide) rfl ?_
          refine v_lc_eq 32 35 hE 53 dX5_common_31 dX5_common_32 (by decide) rfl rfl (fun c31 => ?_) (fun c31 => ?_)
          · refine v_lload 55 hE dX5_common_53 rfl rfl ?_
            exact (hret _ _ dX5_common_55).cast rfl (rL (by rw [← hF]; simp only [euc, c31, if_true]))
          · refine v_lload 37 hE dX5_common_35 rfl rfl ?_
            refine v_lload 39 hE dX5_common_37 rfl rfl ?_
            refine v_lrem 40 hE dX5_common_39 c31 rfl ?_
            refine v_lstore 42 hE [_, _, _, _, _] dX5_common_40 (by decide) rfl rfl ?_
            refine v_lload 44 hE dX5_common_42 rfl rfl ?_
            refine v_lstore 46 hE [_, _, _, _, _] dX5_common_44 (by decide) rfl rfl ?_
            refine v_lload 48 hE dX5_common_46 rfl rfl ?_
            refine v_lstore 50 hE [_, _, _, _, _] dX5_common_48 (by decide) rfl rfl ?_
            refine v_goto hE 28 dX5_common_50 (by decide) ?_
            refine vV.sub [3, 4, 1, 0] rfl ?_
            exact ih28 _ _ (by rw [← hF]; simp only [euc, c31, if_false]; exact euc_fuel _ _ _ _ (Nat.lt_succ_self _) (jr_lt c31)) (by have := jr_lt (x := x) c31; omega)
      exact L28 _ _ _ (by unfold cmn absJ; simp only [c2, c16, if_true, if_false]) (Nat.lt_succ_self _)
    · refine v_lload_n 21 hE dX5_common_20 rfl rfl ?_
      refine v_lneg 22 hE dX5_common_21 rfl ?_
      refine v_goto hE 26 dX5_common_22 (by decide) ?_
      refine v_lstore 28 hE [_, _, _, _] dX5_common_26 (by decide) rfl rfl ?_
      refine vV.sub [2, 3, 1, 0] rfl ?_
      have L28 : ∀ (n28 : Nat) (x y : Int64), euc (y.toInt.natAbs + 1) x y = cmn a b → y.toInt.natAbs < n28 → vV K (gM Y) u [(0, .long a), (2, .long b), (4, .long x), (6, .long y)] [] 28 := by
        intro n28
        induction n28 with
        | zero => intro x y h1 h2; exact absurd h2 (by omega)
        | succ n28 ih28 =>
          intro x y hF hfu
          refine v_lload 30 hE dX5_common_28 rfl rfl ?_
          refine v_lconst 31 hE (v := 0) dX5_common_30 (by decide) rfl ?_
          refine v_lc_eq 32 35 hE 53 dX5_common_31 dX5_common_32 (by decide) rfl rfl (fun c31 => ?_) (fun c31 => ?_)
          · refine v_lload 55 hE dX5_common_53 rfl rfl ?_
            exact (hret _ _ dX5_common_55).cast rfl (rL (by rw [← hF]; simp only [euc, c31, if_true]))
          · refine v_lload 37 hE dX5_common_35 rfl rfl ?_
            refine v_lload 39 hE dX5_common_37 rfl rfl ?_
            refine v_lrem 40 hE dX5_common_39 c31 rfl ?_
            refine v_lstore 42 hE [_, _, _, _, _] dX5_common_40 (by decide) rfl rfl ?_
            refine v_lload 44 hE dX5_common_42 rfl rfl ?_
            refine v_lstore 46 hE [_, _, _, _, _] dX5_common_44 (by decide) rfl rfl ?_
            refine v_lload 48 hE dX5_common_46 rfl rfl ?_
            refine v_lstore 50 hE [_, _, _, _, _] dX5_common_48 (by decide) rfl rfl ?_
            refine v_goto hE 28 dX5_common_50 (by decide) ?_
            refine vV.sub [3, 4, 1, 0] rfl ?_
            exact ih28 _ _ (by rw [← hF]; simp only [euc, c31, if_false]; exact euc_fuel _ _ _ _ (Nat.lt_succ_self _) (jr_lt c31)) (by have := jr_lt (x := x) c31; omega)
      exact L28 _ _ _ (by unfold cmn absJ; simp only [c2, c16, if_true, if_false]) (Nat.lt_succ_self _)
  · refine v_lload_n 7 hE dX5_common_6 rfl rfl ?_
    refine v_lneg 8 hE dX5_common_7 rfl ?_
    refine v_goto hE 12 dX5_common_8 (by decide) ?_
    refine v_lstore 14 hE [_, _, _] dX5_common_12 (by decide) rfl rfl ?_
    refine v_lload_n 15 hE dX5_common_14 rfl rfl ?_
    refine v_lconst 16 hE (v := 0) dX5_common_15 (by decide) rfl ?_
    refine v_lc_ge 17 20 hE 25 dX5_common_16 dX5_common_17 (by decide) rfl rfl (fun c16 => ?_) (fun c16 => ?_)
    · refine v_lload_n 26 hE dX5_common_25 rfl rfl ?_
      refine v_lstore 28 hE [_, _, _, _] dX5_common_26 (by decide) rfl rfl ?_
      refine vV.sub [2, 3, 1, 0] rfl ?_
      have L28 : ∀ (n28 : Nat) (x y : Int64), euc (y.toInt.natAbs + 1) x y = cmn a b → y.toInt.natAbs < n28 → vV K (gM Y) u [(0, .long a), (2, .long b), (4, .long x), (6, .long y)] [] 28 := by
        intro n28
        induction n28 with
        | zero => intro x y h1 h2; exact absurd h2 (by omega)
        | succ n28 ih28 =>
          intro x y hF hfu
          refine v_lload 30 hE dX5_common_28 rfl rfl ?_
          refine v_lconst 31 hE (v := 0) dX5_common_30 (by decide) rfl ?_
          refine v_lc_eq 32 35 hE 53 dX5_common_31 dX5_common_32 (by decide) rfl rfl (fun c31 => ?_) (fun c31 => ?_)
          · refine v_lload 55 hE dX5_common_53 rfl rfl ?_
            exact (hret _ _ dX5_common_55).cast rfl (rL (by rw [← hF]; simp only [euc, c31, if_true]))
          · refine v_lload 37 hE dX5_common_35 rfl rfl ?_
            refine v_lload 39 hE dX5_common_37 rfl rfl ?_
            refine v_lrem 40 hE dX5_common_39 c31 rfl ?_
            refine v_lstore 42 hE [_, _, _, _, _] dX5_common_40 (by decide) rfl rfl ?_
            refine v_lload 44 hE dX5_common_42 rfl rfl ?_
            refine v_lstore 46 hE [_, _, _, _, _] dX5_common_44 (by decide) rfl rfl ?_
            refine v_lload 48 hE dX5_common_46 rfl rfl ?_
            refine v_lstore 50 hE [_, _, _, _, _] dX5_common_48 (by decide) rfl rfl ?_
            refine v_goto hE 28 dX5_common_50 (by decide) ?_
            refine vV.sub [3, 4, 1, 0] rfl ?_
            exact ih28 _ _ (by rw [← hF]; simp only [euc, c31, if_false]; exact euc_fuel _ _ _ _ (Nat.lt_succ_self _) (jr_lt c31)) (by have := jr_lt (x := x) c31; omega)
      exact L28 _ _ _ (by unfold cmn absJ; simp only [c2, c16, if_true, if_false]) (Nat.lt_succ_self _)
    · refine v_lload_n 21 hE dX5_common_20 rfl rfl ?_
      refine v_lneg 22 hE dX5_common_21 rfl ?_
      refine v_goto hE 26 dX5_common_22 (by decide) ?_
      refine v_lstore 28 hE [_, _, _, _] dX5_common_26 (by decide) rfl rfl ?_
      refine vV.sub [2, 3, 1, 0] rfl ?_
      have L28 : ∀ (n28 : Nat) (x y : Int64), euc (y.toInt.natAbs + 1) x y = cmn a b → y.toInt.natAbs < n28 → vV K (gM Y) u [(0, .long a), (2, .long b), (4, .long x), (6, .long y)] [] 28 := by
        intro n28
        induction n28 with
        | zero => intro x y h1 h2; exact absurd h2 (by omega)
        | succ n28 ih28 =>
          intro x y hF hfu
          refine v_lload 30 hE dX5_common_28 rfl rfl ?_
          refine v_lconst 31 hE (v := 0) dX5_common_30 (by decide) rfl ?_
          refine v_lc_eq 32 35 hE 53 dX5_common_31 dX5_common_32 (by decide) rfl rfl (fun c31 => ?_) (fun c31 => ?_)
          · refine v_lload 55 hE dX5_common_53 rfl rfl ?_
            exact (hret _ _ dX5_common_55).cast rfl (rL (by rw [← hF]; simp only [euc, c31, if_true]))
          · refine v_lload 37 hE dX5_common_35 rfl rfl ?_
            refine v_lload 39 hE dX5_common_37 rfl rfl ?_
            refine v_lrem 40 hE dX5_common_39 c31 rfl ?_
            refine v_lstore 42 hE [_, _, _, _, _] dX5_common_40 (by decide) rfl rfl ?_
            refine v_lload 44 hE dX5_common_42 rfl rfl ?_
            refine v_lstore 46 hE [_, _, _, _, _] dX5_common_44 (by decide) rfl rfl ?_
            refine v_lload 48 hE dX5_common_46 rfl rfl ?_
            refine v_lstore 50 hE [_, _, _, _, _] dX5_common_48 (by decide) rfl rfl ?_
            refine v_goto hE 28 dX5_common_50 (by decide) ?_
            refine vV.sub [3, 4, 1, 0] rfl ?_
            exact ih28 _ _ (by rw [← hF]; simp only [euc, c31, if_false]; exact euc_fuel _ _ _ _ (Nat.lt_succ_self _) (jr_lt c31)) (by have := jr_lt (x := x) c31; omega)
      exact L28 _ _ _ (by unfold cmn absJ; simp only [c2, c16, if_true, if_false]) (Nat.lt_succ_self _)
set_option maxRecDepth 100000 in
set_option maxHeartbeats 4000000 in
theorem kX5_shortens (l : Launch) (Y : yG) (u : MS) (r : Nat) (hr : r < 12) : mV l (gM Y) yX5_shortens wsX5_shortens ({ frames := 1, cells := 0, slots := 0, locals := 29 }) [.ref (yA Y 0), .int (nI r)] u (ws_row u (va_up (w_row u) r (shF (w_row u r)))) := by
  refine mV_of (cc := cX5_shortens) (nL := 5) (own := RX5) (by decide) rfl rfl (fun v => cM_geo Y _ v) (Nat.le_of_ble_eq_true rfl) ?_
  intro K hKl hE hret
  have f_0 : ∀ w ∈ u_ws RX5 TX5 20, w ∈ wsX5_shortens := by decide +kernel
  have f_1 : Cond.fieldLink RX5 48 "TrafficMatrixModel" "row" "[J" ∈ wsX5_shortens := by decide +kernel
  show vV K (gM Y) u [(0, .ref (yA Y 0)), (1, .int (nI r))] [] 0
  refine v_lconst 1 hE (v := 0) dX5_shortens_0 (by decide) rfl ?_
  refine v_lstore_n 2 hE [_, _, _] dX5_shortens_1 rfl (by decide) rfl rfl ?_
  refine v_iconst 3 hE (v := nI 0) dX5_shortens_2 (by decide) rfl ?_
  refine v_istore 5 hE [_, _, _, _] dX5_shortens_3 (by decide) rfl rfl ?_
  refine vV.sub [2, 3, 1, 0] rfl ?_
  have L5 : ∀ (n5 : Nat) (b : Int64) (i : Nat), (i ≤ 26) → (b = byF (w_row u r) i) → 26 + 1 ≤ i + n5 → vV K (gM Y) u [(0, .ref (yA Y 0)), (1, .int (nI r)), (2, .long b), (4, .int (nI i))] [] 5 := by
    intro n5
    induction n5 with
    | zero => intro b i hi hb hfu5; exact absurd hfu5 (by omega)
    | succ n5 ih5 =>
      intro b i hi hb hfu5
      refine v_iload 7 hE dX5_shortens_5 rfl rfl ?_
      refine v_bipush 9 hE (v := nI 26) dX5_shortens_7 (by decide) rfl ?_
      refine v_ic_geN 12 hE 35 dX5_shortens_9 (by decide) (by omega) (by omega) rfl (fun c9 => ?_) (fun c9 => ?_)
      · refine v_iconst 36 hE (v := nI 0) dX5_shortens_35 (by decide) rfl ?_
        refine v_istore 38 hE [_, _, _, _] dX5_shortens_36 (by decide) rfl rfl ?_
        refine vV.sub [1, 2, 3, 0] rfl ?_
        have L38 : ∀ (n38 : Nat) (j : Nat) (g : Nat → Int64), (j ≤ 26) → ((b ≤ 1 ∧ g = (w_row u r)) ∨ (¬ b ≤ 1 ∧ g = mixN (w_row u r) (fun k => (w_row u r) k / b) j)) → 26 + 1 ≤ j + n38 → vV K (gM Y) (ws_row u (va_up (w_row u) r g)) [(0, .ref (yA Y 0)), (1, .int (nI r)), (2, .long b), (4, .int (nI j))] [] 38 := by
          intro n38
          induction n38 with
          | zero => intro j g hj hg hfu38; exact absurd hfu38 (by omega)
          | succ n38 ih38 =>
            intro j g hj hg hfu38
            refine v_iload 40 hE dX5_shortens_38 rfl rfl ?_
            refine v_bipush 42 hE (v := nI 26) dX5_shortens_40 (by decide) rfl ?_
            refine v_ic_geN 45 hE 73 dX5_shortens_42 (by decide) (by omega) (by omega) rfl (fun c42 => ?_) (fun c42 => ?_)
            · exact (hret _ _ dX5_shortens_73).cast (by rw [show shF (w_row u r) = g from by unfold shF; rw [show byF (w_row u r) 26 = b by rw [hb, show i = 26 by omega]]; rcases hg with q | q; (rw [if_pos q.1, q.2]); (rw [if_neg q.1, q.2]; first | (exact absurd c47 q.1) | (rw [show j = 26 by omega]))]) rfl
            · refine v_lload_n 46 hE dX5_shortens_45 rfl rfl ?_
              refine v_lconst 47 hE (v := 1) dX5_shortens_46 (by decide) rfl ?_
              refine v_lc_le 48 51 hE 73 dX5_shortens_47 dX5_shortens_48 (by decide) rfl rfl (fun c47 => ?_) (fun c47 => ?_)
              · exact (hret _ _ dX5_shortens_73).cast (by rw [show shF (w_row u r) = g from by unfold shF; rw [show byF (w_row u r) 26 = b by rw [hb, show i = 26 by omega]]; rcases hg with q | q; (rw [if_pos q.1, q.2]); (rw [if_neg q.1, q.2]; first | (exact absurd c47 q.1) | (rw [show j = 26 by omega]))]) rfl
              · have hgg : g = mixN (w_row u r) (fun k => (w_row u r) k / b) j := hg.elim (fun q => absurd q.1 c47) (fun q => q.2)
                refine v_aload_n 52 hE dX5_shortens_51 rfl rfl ?_
                refine gM_row 55 hE f_0 f_1 dX5_shortens_52 rfl ?_
                refine v_bipush 57 hE (v := nI 26) dX5_shortens_55 (by decide) rfl ?_
                refine v_iload_n 58 hE dX5_shortens_57 rfl rfl ?_
                refine v_imulN 59 hE dX5_shortens_58 rfl ?_
                refine v_iload 61 hE dX5_shortens_59 rfl rfl ?_
                refine v_iaddN 62 hE dX5_shortens_61 rfl ?_
                refine v_dup2 63 hE dX5_shortens_62 rfl rfl rfl ?_
                refine lM_row 64 hE (by omega) (by omega) dX5_shortens_63 rfl ?_
                show vV K (gM Y) _ _ (.long (va_up (w_row u) r g r j) :: _) _
                rw [va_up_self, show g j = (w_row u r) j by rw [hgg]; exact mixN_ge (Nat.le_refl j)]
                refine v_lload_n 65 hE dX5_shortens_64 rfl rfl ?_
                refine v_ldiv 66 hE dX5_shortens_65 (fun q => c47 (by rw [q]; decide)) rfl ?_
                refine sM_row 67 hE (by omega) (by omega) dX5_shortens_66 rfl ?_
                refine v_iincN 70 hE [_, _, _, _] dX5_shortens_67 rfl (by decide) rfl rfl ?_
                refine v_goto hE 38 dX5_shortens_70 (by decide) ?_
                refine vV.sub [1, 2, 3, 0] rfl ?_
                exact (ih38 _ _ (by omega) (Or.inr ⟨c47, by rw [hgg]; exact mixN_s _ _ _⟩) (by omega)).cast (congrArg (ws_row u) (up_2 (w_row u) r _ _ _)) rfl
        exact (L38 (26 + 1) 0 (w_row u r) (by omega) (if h : b ≤ 1 then Or.inl ⟨h, rfl⟩ else Or.inr ⟨h, (mixN_0 _ _).symm⟩) (by omega)).cast (congrArg (ws_row u) (up_id (w_row u) r).symm) rfl
      · refine v_lload_n 13 hE dX5_shortens_12 rfl rfl ?_
        refine v_aload_n 14 hE dX5_shortens_13 rfl rfl ?_
        refine gM_row 17 hE f_0 f_1 dX5_shortens_14 rfl ?_
        refine v_bipush 19 hE (v := nI 26) dX5_shortens_17 (by decide) rfl ?_
        refine v_iload_n 20 hE dX5_shortens_19 rfl rfl ?_
        refine v_imulN 21 hE dX5_shortens_20 rfl ?_
        refine v_iload 23 hE dX5_shortens_21 rfl rfl ?_
        refine v_iaddN 24 hE dX5_shortens_23 rfl ?_
        refine lM_row 25 hE (by omega) (by omega) dX5_shortens_24 rfl ?_
        refine v_clE 28 hE (v_runS 2 hE (vSub.self hE) (kX5_common _ Y _ _ _) gX5_shortens_X5_common rfl (by decide +kernel) rfl ⟨rfl, rfl, by decide, by decide⟩ rfl (Nat.le_of_ble_eq_true rfl) dX5_shortens_25) rfl ?_
        refine v_lstore_n 29 hE [_, _, _, _] dX5_shortens_28 rfl (by decide) rfl rfl ?_
        refine v_iincN 32 hE [_, _, _, _] dX5_shortens_29 rfl (by decide) rfl rfl ?_
        refine v_goto hE 5 dX5_shortens_32 (by decide) ?_
        refine vV.sub [2, 3, 1, 0] rfl ?_
        exact ih5 _ _ (by omega) (by rw [hb]; rfl) (by omega)
  exact L5 (26 + 1) _ _ (by omega) rfl (by omega)
set_option maxRecDepth 100000 in
set_option maxHeartbeats 4000000 in
theorem kX5_exchanges (l : Launch) (Y : yG) (u : MS) (a b : Nat) (ha : a < 12) (hb : b < 12) : mV l (gM Y) yX5_exchanges wsX5_exchanges ({ frames := 0, cells := 0, slots := 0, locals := 0 }) [.ref (yA Y 0), .int (nI a), .int (nI b)] u (ws_row u (swp (w_row u) a b 26)) := by
  refine mV_of (cc := cX5_exchanges) (nL := 6) (own := RX5) (by decide) rfl rfl (fun v => cM_geo Y _ v) (Nat.le_of_ble_eq_true rfl) ?_
  intro K hKl hE hret
  have f_0 : ∀ w ∈ u_ws RX5 TX5 20, w ∈ wsX5_exchanges := by decide +kernel
  have f_1 : Cond.fieldLink RX5 48 "TrafficMatrixModel" "row" "[J" ∈ wsX5_exchanges := by decide +kernel
  show vV K (gM Y) u [(0, .ref (yA Y 0)), (1, .int (nI a)), (2, .int (nI b))] [] 0
  refine v_iconst 1 hE (v := nI 0) dX5_exchanges_0 (by decide) rfl ?_
  refine v_istore_n 2 hE [_, _, _, _] dX5_exchanges_1 rfl (by decide) rfl rfl ?_
  refine vV.sub [1, 2, 3, 0] rfl ?_
  have L2 : ∀ (n2 : Nat) (i : Nat) (T : Nat → Nat → Int64), (i ≤ 26) → (T = swp (w_row u) a b i) → 26 + 1 ≤ i + n2 → vV K (gM Y) (ws_row u T) [(0, .ref (yA Y 0)), (1, .int (nI a)), (2, .int (nI b)), (3, .int (nI i))] [] 2 := by
    intro n2
    induction n2 with
    | zero => intro i T hi hT hfu2; exact absurd hfu2 (by omega)
    | succ n2 ih2 =>
      intro i T hi hT hfu2
      refine v_iload_n 3 hE dX5_exchanges_2 rfl rfl ?_
      refine v_bipush 5 hE (v := nI 26) dX5_exchanges_3 (by decide) rfl ?_
      refine v_ic_geN 8 hE 62 dX5_exchanges_5 (by decide) (by omega) (by omega) rfl (fun c5 => ?_) (fun c5 => ?_)
      · exact (hret _ _ dX5_exchanges_62).cast (by rw [hT, show i = 26 by omega]) rfl
      · refine v_aload_n 9 hE dX5_exchanges_8 rfl rfl ?_
        refine gM_row 12 hE f_0 f_1 dX5_exchanges_9 rfl ?_
        refine v_bipush 14 hE (v := nI 26) dX5_exchanges_12 (by decide) rfl ?_
        refine v_iload_n 15 hE dX5_exchanges_14 rfl rfl ?_
        refine v_imulN 16 hE dX5_exchanges_15 rfl ?_
        refine v_iload_n 17 hE dX5_exchanges_16 rfl rfl ?_
        refine v_iaddN 18 hE dX5_exchanges_17 rfl ?_
        refine lM_row 19 hE (by omega) (by omega) dX5_exchanges_18 rfl ?_
        show vV K (gM Y) _ _ (.long ((T) _ _) :: _) _
        refine v_lstore 21 hE [_, _, _, _, _] dX5_exchanges_19 (by decide) rfl rfl ?_
        refine v_aload_n 22 hE dX5_exchanges_21 rfl rfl ?_
        refine gM_row 25 hE f_0 f_1 dX5_exchanges_22 rfl ?_
        refine v_bipush 27 hE (v := nI 26) dX5_exchanges_25 (by decide) rfl ?_
        refine v_iload_n 28 hE dX5_exchanges_27 rfl rfl ?_
        refine v_imulN 29 hE dX5_exchanges_28 rfl ?_
        refine v_iload_n 30 hE dX5_exchanges_29 rfl rfl ?_
        refine v_iaddN 31 hE dX5_exchanges_30 rfl ?_
        refine v_aload_n 32 hE dX5_exchanges_31 rfl rfl ?_
        refine gM_row 35 hE f_0 f_1 dX5_exchanges_32 rfl ?_
        refine v_bipush 37 hE (v := nI 26) dX5_exchanges_35 (by decide) rfl ?_
        refine v_iload_n 38 hE dX5_exchanges_37 rfl rfl ?_
        refine v_imulN 39 hE dX5_exchanges_38 rfl ?_
        refine v_iload_n 40 hE dX5_exchanges_39 rfl rfl ?_
        refine v_iaddN 41 hE dX5_exchanges_40 rfl ?_
        refine lM_row 42 hE (by omega) (by omega) dX5_exchanges_41 rfl ?_
        show vV K (gM Y) _ _ (.long ((T) _ _) :: _) _
        refine sM_row 43 hE (by omega) (by omega) dX5_exchanges_42 rfl ?_
        refine v_aload_n 44 hE dX5_exchanges_43 rfl rfl ?_
        refine gM_row 47 hE f_0 f_1 dX5_exchanges_44 rfl ?_
        refine v_bipush 49 hE (v := nI 26) dX5_exchanges_47 (by decide) rfl ?_
        refine v_iload_n 50 hE dX5_exchanges_49 rfl rfl ?_
        refine v_imulN 51 hE dX5_exchanges_50 rfl ?_
        refine v_iload_n 52 hE dX5_exchanges_51 rfl rfl ?_
        refine v_iaddN 53 hE dX5_exchanges_52 rfl ?_
        refine v_lload 55 hE dX5_exchanges_53 rfl rfl ?_
        refine sM_row 56 hE (by omega) (by omega) dX5_exchanges_55 rfl ?_
        refine v_iincN 59 hE [_, _, _, _, _] dX5_exchanges_56 rfl (by decide) rfl rfl ?_
        refine v_goto hE 2 dX5_exchanges_59 (by decide) ?_
        refine vV.sub [2, 3, 4, 0] rfl ?_
        exact ih2 _ _ (by omega) (by rw [hT]; exact swp_s _ _ _ _) (by omega)
  exact L2 (26 + 1) 0 (w_row u) (by omega) (swp_0 _ _ _).symm (by omega)
set_option maxRecDepth 100000 in
set_option maxHeartbeats 4000000 in
theorem kX5_clears (l : Launch) (Y : yG) (u : MS) (r p o : Nat) (hr : r < 12) (hp : p < 25) (ho : o < 12) (hro : ¬ r = o) : mV l (gM Y) yX5_clears wsX5_clears ({ frames := 2, cells := 0, slots := 0, locals := 53 }) [.ref (yA Y 0), .int (nI r), .int (nI p), .int (nI o)] u (ws_row u (va_up (w_row u) o (shF (clF (w_row u) r p o)))) := by
  refine mV_of (cc := cX5_clears) (nL := 9) (own := RX5) (by decide) rfl rfl (fun v => cM_geo Y _ v) (Nat.le_of_ble_eq_true rfl) ?_
  intro K hKl hE hret
  have f_0 : ∀ w ∈ u_ws RX5 TX5 20, w ∈ wsX5_clears := by decide +kernel
  have f_1 : Cond.fieldLink RX5 48 "TrafficMatrixModel" "row" "[J" ∈ wsX5_clears := by decide +kernel
  show vV K (gM Y) u [(0, .ref (yA Y 0)), (1, .int (nI r)), (2, .int (nI p)), (3, .int (nI o))] [] 0
  refine v_aload_n 1 hE dX5_clears_0 rfl rfl ?_
  refine gM_row 4 hE f_0 f_1 dX5_clears_1 rfl ?_
  refine v_bipush 6 hE (v := nI 26) dX5_clears_4 (by decide) rfl ?_
  refine v_iload_n 7 hE dX5_clears_6 rfl rfl ?_
  refine v_imulN 8 hE dX5_clears_7 rfl ?_
  refine v_iload_n 9 hE dX5_clears_8 rfl rfl ?_
  refine v_iaddN 10 hE dX5_clears_9 rfl ?_
  refine lM_row 11 hE (by omega) (by omega) dX5_clears_10 rfl ?_
  refine v_lstore 13 hE [_, _, _, _, _] dX5_clears_11 (by decide) rfl rfl ?_
  refine v_aload_n 14 hE dX5_clears_13 rfl rfl ?_
  refine gM_row 17 hE f_0 f_1 dX5_clears_14 rfl ?_
  refine v_bipush 19 hE (v := nI 26) dX5_clears_17 (by decide) rfl ?_
  refine v_iload_n 20 hE dX5_clears_19 rfl rfl ?_
  refine v_imulN 21 hE dX5_clears_20 rfl ?_
  refine v_iload_n 22 hE dX5_clears_21 rfl rfl ?_
  refine v_iaddN 23 hE dX5_clears_22 rfl ?_
  refine lM_row 24 hE (by omega) (by omega) dX5_clears_23 rfl ?_
  refine v_lstore 26 hE [_, _, _, _, _, _] dX5_clears_24 (by decide) rfl rfl ?_
  refine v_iconst 27 hE (v := nI 0) dX5_clears_26 (by decide) rfl ?_
  refine v_istore 29 hE [_, _, _, _, _, _, _] dX5_clears_27 (by decide) rfl rfl ?_
  refine vV.sub [3, 4, 5, 6, 2, 1, 0] rfl ?_
  have L29 : ∀ (n29 : Nat) (j : Nat) (g : Nat → Int64), (j ≤ 26) → ((w_row u o p = 0 ∧ g = w_row u o) ∨ (¬ w_row u o p = 0 ∧ g = mixN (w_row u o) (fun k => w_row u o k * w_row u r p - w_row u r k * w_row u o p) j)) → 26 + 1 ≤ j + n29 → vV K (gM Y) (ws_row u (va_up (w_row u) o g)) [(0, .ref (yA Y 0)), (1, .int (nI r)), (2, .int (nI p)), (3, .int (nI o)), (4, .long (w_row u r p)), (6, .long (w_row u o p)), (8, .int (nI j))] [] 29 := by
    intro n29
    induction n29 with
    | zero => intro j g hj hg hfu29; exact absurd hfu29 (by omega)
    | succ n29 ih29 =>
      intro j g hj hg hfu29
      refine v_iload 31 hE dX5_clears_29 rfl rfl ?_
      refine v_bipush 33 hE (v := nI 26) dX5_clears_31 (by decide) rfl ?_
      refine v_ic_geN 36 hE 92 dX5_clears_33 (by decide) (by omega) (by omega) rfl (fun c33 => ?_) (fun c33 => ?_)
      · have hgc : g = clF (w_row u) r p o := by unfold clF; rcases hg with q | q; (rw [if_pos q.1, q.2]); (rw [if_neg q.1, q.2]; first | (exact absurd c39 q.1) | (rw [show j = 26 by omega]))
        refine v_aload_n 93 hE dX5_clears_92 rfl rfl ?_
        refine v_iload_n 94 hE dX5_clears_93 rfl rfl ?_
        refine v_cvE 97 hE (v_runV 1 hE (vSub.self hE) (kX5_shortens _ Y _ _ (by omega)) gX5_clears_X5_shortens rfl (by decide +kernel) rfl (q0 := 0) rfl rfl ⟨rfl, rfl, by decide, by decide⟩ rfl (Nat.le_of_ble_eq_true rfl) dX5_clears_94) rfl ?_
        exact (hret _ _ dX5_clears_97).cast (congrArg (ws_row u) (show va_up (va_up (w_row u) o g) o (shF (va_up (w_row u) o g o)) = _ from by rw [← hgc, va_up_self]; exact bx_uu _ _ _ _)) rfl
      · refine v_lload 38 hE dX5_clears_36 rfl rfl ?_
        refine v_lconst 39 hE (v := 0) dX5_clears_38 (by decide) rfl ?_
        refine v_lc_eq 40 43 hE 92 dX5_clears_39 dX5_clears_40 (by decide) rfl rfl (fun c39 => ?_) (fun c39 => ?_)
        · have hgc : g = clF (w_row u) r p o := by unfold clF; rcases hg with q | q; (rw [if_pos q.1, q.2]); (rw [if_neg q.1, q.2]; first | (exact absurd c39 q.1) | (rw [show j = 26 by omega]))
          refine v_aload_n 93 hE dX5_clears_92 rfl rfl ?_
          refine v_iload_n 94 hE dX5_clears_93 rfl rfl ?_
          refine v_cvE 97 hE (v_runV 1 hE (vSub.self hE) (kX5_shortens _ Y _ _ (by omega)) gX5_clears_X5_shortens rfl (by decide +kernel) rfl (q0 := 0) rfl rfl ⟨rfl, rfl, by decide, by decide⟩ rfl (Nat.le_of_ble_eq_true rfl) dX5_clears_94) rfl ?_
          exact (hret _ _ dX5_clears_97).cast (congrArg (ws_row u) (show va_up (va_up (w_row u) o g) o (shF (va_up (w_row u) o g o)) = _ from by rw [← hgc, va_up_self]; exact bx_uu _ _ _ _)) rfl
        · have hgg : g = mixN (w_row u o) (fun k => w_row u o k * w_row u r p - w_row u r k * w_row u o p) j := hg.elim (fun q => absurd q.1 c39) (fun q => q.2)
          refine v_aload_n 44 hE dX5_clears_43 rfl rfl ?_
          refine gM_row 47 hE f_0 f_1 dX5_clears_44 rfl ?_
          refine v_bipush 49 hE (v := nI 26) dX5_clears_47 (by decide) rfl ?_
          refine v_iload_n 50 hE dX5_clears_49 rfl rfl ?_
          refine v_imulN 51 hE dX5_clears_50 rfl ?_
          refine v_iload 53 hE dX5_clears_51 rfl rfl ?_
          refine v_iaddN 54 hE dX5_clears_53 rfl ?_
          refine v_aload_n 55 hE dX5_clears_54 rfl rfl ?_
          refine gM_row 58 hE f_0 f_1 dX5_clears_55 rfl ?_
          refine v_bipush 60 hE (v := nI 26) dX5_clears_58 (by decide) rfl ?_
          refine v_iload_n 61 hE dX5_clears_60 rfl rfl ?_
          refine v_imulN 62 hE dX5_clears_61 rfl ?_
          refine v_iload 64 hE dX5_clears_62 rfl rfl ?_
          refine v_iaddN 65 hE dX5_clears_64 rfl ?_
          refine lM_row 66 hE (by omega) (by omega) dX5_clears_65 rfl ?_
          show vV K (gM Y) _ _ (.long (va_up (w_row u) o g o j) :: _) _
          rw [va_up_self, show g j = w_row u o j by rw [hgg]; exact mixN_ge (Nat.le_refl j)]
          refine v_lload 68 hE dX5_clears_66 rfl rfl ?_
          refine v_lmul 69 hE dX5_clears_68 rfl ?_
          refine v_aload_n 70 hE dX5_clears_69 rfl rfl ?_
          refine gM_row 73 hE f_0 f_1 dX5_clears_70 rfl ?_
          refine v_bipush 75 hE (v := nI 26) dX5_clears_73 (by decide) rfl ?_
          refine v_iload_n 76 hE dX5_clears_75 rfl rfl ?_
          refine v_imulN 77 hE dX5_clears_76 rfl ?_
          refine v_iload 79 hE dX5_clears_77 rfl rfl ?_
          refine v_iaddN 80 hE dX5_clears_79 rfl ?_
          refine lM_row 81 hE (by omega) (by omega) dX5_clears_80 rfl ?_
          show vV K (gM Y) _ _ (.long (va_up (w_row u) o g r j) :: _) _
          rw [va_up_ne _ _ hro]
          refine v_lload 83 hE dX5_clears_81 rfl rfl ?_
          refine v_lmul 84 hE dX5_clears_83 rfl ?_
          refine v_lsub 85 hE dX5_clears_84 rfl ?_
          refine sM_row 86 hE (by omega) (by omega) dX5_clears_85 rfl ?_
          refine v_iincN 89 hE [_, _, _, _, _, _, _] dX5_clears_86 rfl (by decide) rfl rfl ?_
          refine v_goto hE 29 dX5_clears_89 (by decide) ?_
          refine vV.sub [1, 2, 3, 4, 5, 6, 0] rfl ?_
          exact (ih29 _ _ (by omega) (Or.inr ⟨c39, by rw [hgg]; exact mixN_s _ _ _⟩) (by omega)).cast (congrArg (ws_row u) (up_2 (w_row u) o _ _ _)) rfl
  exact (L29 (26 + 1) 0 (w_row u o) (by omega) (if h : w_row u o p = 0 then Or.inl ⟨h, rfl⟩ else Or.inr ⟨h, (mixN_0 _ _).symm⟩) (by omega)).cast (congrArg (ws_row u) (up_id (w_row u) o).symm) rfl
