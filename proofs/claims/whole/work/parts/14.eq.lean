/-! TrafficMatrix$Equations -/
def uKn (len : Nat → Nat) (pv : Nat → Int32) (s : Nat) : Bool := uHas len s && uPair pv s
def subL (f : Nat → Int64) (a : Int64) : Nat → Int64
  | 0 => a
  | n + 1 => subL f a n - f n
/-- the equation of link k, its first i pairs laid in -/
def fRow (load : Nat → Int32) (us : Nat → Nat → Bool) (kn : Nat → Bool) (pv : Nat → Int32) (k i : Nat) : Nat → Int64 := fun j =>
  if j = 25 then subL (fun s => if us s k && kn s then (pv s).toInt64 else 0) (load k).toInt64 i else if decide (j < i) && (us j k && !kn j) then 1 else 0
theorem fRow_0 (load : Nat → Int32) (us : Nat → Nat → Bool) (kn : Nat → Bool) (pv : Nat → Int32) (k : Nat) : va_up (fun _ => 0) 25 (load k).toInt64 = fRow load us kn pv k 0 := by
  funext j
  unfold va_up fRow
  by_cases e : j = 25 <;> simp [e, subL]
theorem i64_sub0 (x : Int64) : x - 0 = x := Int64.sub_zero x
theorem fRow_skip {load : Nat → Int32} {us : Nat → Nat → Bool} {kn : Nat → Bool} {pv : Nat → Int32} {k i : Nat} (h : us i k = false) : fRow load us kn pv k i = fRow load us kn pv k (i + 1) := by
  funext j
  unfold fRow
  by_cases e : j = 25
  · simp [e, subL, h]
  · simp only [e, if_false]
    by_cases e2 : j = i
    · subst e2; simp [h]
    · by_cases e3 : j < i
      · simp [e3, show j < i + 1 by omega]
      · simp [e3, show ¬ j < i + 1 by omega]
theorem fRow_sub {load : Nat → Int32} {us : Nat → Nat → Bool} {kn : Nat → Bool} {pv : Nat → Int32} {k i : Nat} (h : us i k = true) (hk : kn i = true) : va_up (fRow load us kn pv k i) 25 (fRow load us kn pv k i 25 - (pv i).toInt64) = fRow load us kn pv k (i + 1) := by
  funext j
  unfold va_up
  by_cases e : j = 25
  · subst e; simp [fRow, subL, h, hk]
  · simp only [e, if_false]
    unfold fRow
    simp only [e, if_false]
    by_cases e2 : j = i
    · subst e2; simp [hk]
    · by_cases e3 : j < i
      · simp [e3, show j < i + 1 by omega]
      · simp [e3, show ¬ j < i + 1 by omega]
theorem fRow_one {load : Nat → Int32} {us : Nat → Nat → Bool} {kn : Nat → Bool} {pv : Nat → Int32} {k i : Nat} (hi : i < 25) (h : us i k = true) (hk : kn i = false) : va_up (fRow load us kn pv k i) i 1 = fRow load us kn pv k (i + 1) := by
  funext j
  unfold va_up
  by_cases e2 : j = i
  · subst e2; simp [fRow, h, hk, show ¬ j = 25 by omega]
  · simp only [e2, if_false]
    unfold fRow
    by_cases e : j = 25
    · simp [e, subL, hk]
    · simp only [e, if_false]
      by_cases e3 : j < i
      · simp [e3, show j < i + 1 by omega]
      · simp [e3, show ¬ j < i + 1 by omega]
def quot (a b : Int64) : Int64 := if b = 0 then 0 else a / b
def absL (x : Int64) : Int64 := if 0 < x then x else -x
def combF (nx fa piv : Int64) (row prow : Nat → Int64) (j : Nat) : Int64 := quot (nx * row j - fa * prow j) piv
def comb (nx fa piv : Int64) (row prow : Nat → Int64) : Nat → Int64 := mixN row (combF nx fa piv row prow) 26
def clr (c p : Nat) (piv nx : Int64) (R : Nat → Nat → Int64) : Nat → Nat → Nat → Int64
  | 0 => R
  | r + 1 => if ¬ r = p ∧ (¬ nx = piv ∨ ¬ clr c p piv nx R r r c = 0) then va_up (clr c p piv nx R r) r (comb (clr c p piv nx R r p c) (clr c p piv nx R r r c) piv (clr c p piv nx R r r) (clr c p piv nx R r p)) else clr c p piv nx R r
/-- pivots found, the last pivot, the rows, the row of a column's pivot, the pivot's column of a row -/
abbrev eZ : Type := Nat × Int64 × (Nat → Nat → Int64) × (Nat → Option Nat) × (Nat → Option Nat)
def pivR (m : Nat) (R : Nat → Nat → Int64) (por : Nat → Option Nat) (c : Nat) : Option Nat := fstN (fun r => decide (por r = none) && !decide (R r c = 0)) m
def elim1 (m c : Nat) (z : eZ) : eZ := match pivR m z.2.2.1 z.2.2.2.2 c with
  | none => z
  | some p => (z.1 + 1, z.2.2.1 p c, clr c p z.2.1 (z.2.2.1 p c) z.2.2.1 m, va_up z.2.2.2.1 c (some p), va_up z.2.2.2.2 p (some c))
def elimN (m : Nat) : Nat → eZ → eZ
  | 0, z => z
  | c + 1, z => elim1 m c (elimN m c z)
abbrev xE (u : XS) (z : eZ) : XS := xs_por (xs_rop (xs_row (xs_piv (xs_pc u z.1) z.2.1) z.2.2.1) z.2.2.2.1) z.2.2.2.2
def okE (u : XS) : Prop := x_rc u ≤ 12 ∧ (∀ s k, x_rop u s = some k → k < 12) ∧ ∀ r k, x_por u r = some k → k < 25
def okZ (m : Nat) (z : eZ) : Prop := z.1 ≤ 25 ∧ (∀ s k, z.2.2.2.1 s = some k → k < m) ∧ ∀ r k, z.2.2.2.2 r = some k → k < 25
theorem elim1_ok {m c : Nat} (hc : c < 25) {z : eZ} (h1 : ∀ s k, z.2.2.2.1 s = some k → k < m) (h2 : ∀ r k, z.2.2.2.2 r = some k → k < 25) : (∀ s k, (elim1 m c z).2.2.2.1 s = some k → k < m) ∧ ∀ r k, (elim1 m c z).2.2.2.2 r = some k → k < 25 := by
  unfold elim1
  cases hp : pivR m z.2.2.1 z.2.2.2.2 c with
  | none => exact ⟨h1, h2⟩
  | some p =>
    have hpm := (fstN_some.mp hp).1
    refine ⟨fun s k hk => ?_, fun r k hk => ?_⟩
    · simp only [va_up] at hk
      split at hk
      · cases hk; exact hpm
      · exact h1 s k hk
    · simp only [va_up] at hk
      split at hk
      · cases hk; exact hc
      · exact h2 r k hk
theorem elim1_pc {m c : Nat} (z : eZ) : (elim1 m c z).1 ≤ z.1 + 1 := by
  unfold elim1
  split
  · omega
  · exact Nat.le_refl _
theorem elimN_ok {m : Nat} {z : eZ} (h0 : z.1 = 0) (h1 : ∀ s k, z.2.2.2.1 s = some k → k < m) (h2 : ∀ r k, z.2.2.2.2 r = some k → k < 25) : ∀ c, c ≤ 25 → (elimN m c z).1 ≤ c ∧ (∀ s k, (elimN m c z).2.2.2.1 s = some k → k < m) ∧ ∀ r k, (elimN m c z).2.2.2.2 r = some k → k < 25
  | 0, _ => ⟨by rw [show elimN m 0 z = z from rfl, h0]; exact Nat.le_refl 0, h1, h2⟩
  | c + 1, h => by
    obtain ⟨a, b, d⟩ := elimN_ok h0 h1 h2 c (by omega)
    have := elim1_ok (m := m) (c := c) (by omega) b d
    have h9 := elim1_pc (m := m) (c := c) (elimN m c z)
    exact ⟨by show (elim1 m c (elimN m c z)).1 ≤ c + 1; omega, this.1, this.2⟩
def fPart (kn : Nat → Bool) (rop : Nat → Option Nat) (R : Nat → Nat → Int64) (s c : Nat) : Int64 := if kn s then 0 else match rop s with
  | none => if s = c then 1 else 0
  | some r => if s = c then 0 else R r c
def fFree (kn : Nat → Bool) (rop : Nat → Option Nat) (R : Nat → Nat → Int64) (s : Nat) : Option Nat := fstN (fun c => !decide (fPart kn rop R s c = 0)) 25
def uDet (kn : Nat → Bool) (rop : Nat → Option Nat) (R : Nat → Nat → Int64) (s : Nat) : Bool := (fFree kn rop R s).isNone
def uDetW (kn : Nat → Bool) (rop : Nat → Option Nat) (R : Nat → Nat → Int64) (q s : Nat) : Bool := match fFree kn rop R q with
  | none => uDet kn rop R s
  | some f => !anyB (fun c => !decide (fPart kn rop R s c * fPart kn rop R q f = fPart kn rop R s f * fPart kn rop R q c)) 25
def uSol (m : Nat) (R : Nat → Nat → Int64) (por : Nat → Option Nat) : Bool := !anyB (fun r => decide (por r = none) && !decide (R r 25 = 0)) m
def gcdJ : Nat → Int64 → Int64 → Int64
  | 0, d, _ => d
  | k + 1, d, r => if r = 0 then d else gcdJ k r (d - d / r * r)
def uNum (rop : Nat → Option Nat) (R : Nat → Nat → Int64) (piv : Int64) (pv : Nat → Int32) (s : Nat) : Int64 := match rop s with
  | none => (pv s).toInt64
  | some r => quot (if 0 ≤ piv then R r 25 else -R r 25) (gcdJ 100 (absL piv) (absL (R r 25)))
def uDen (rop : Nat → Option Nat) (R : Nat → Nat → Int64) (piv : Int64) (s : Nat) : Int64 := match rop s with
  | none => 1
  | some r => quot (absL piv) (gcdJ 100 (absL piv) (absL (R r 25)))
abbrev xK (u : XS) : XS := xs_kn (xs_kc (xs_rc u (x_m u)) (cntN (uKn (x_len u) (x_pv u)) 25)) (mixN (x_kn u) (uKn (x_len u) (x_pv u)) 25)
abbrev xRows (u : XS) : Nat → Nat → Int64 := mixN (x_row u) (fun k => fRow (x_load u) (uUses (x_len u) (x_lnk u)) (mixN (x_kn u) (uKn (x_len u) (x_pv u)) 25) (x_pv u) k 25) (x_m u)
abbrev xZ (u : XS) : eZ := elimN (x_m u) 25 (0, 1, xRows u, fun _ => none, fun _ => none)
/-- the equations solved -/
abbrev xSolve (u : XS) : XS := xE (xs_row (xK u) (xRows u)) (xZ u)
theorem okE_solve {u : XS} (h : okN u) : okE (xSolve u) := by
  obtain ⟨a, b, c⟩ := elimN_ok (m := x_m u) (z := (0, 1, xRows u, fun _ => none, fun _ => none)) rfl (fun s k q => by cases q) (fun s k q => by cases q) 25 (by omega)
  exact ⟨h.2.1, fun s k q => Nat.lt_of_lt_of_le (b s k q) h.2.1, c⟩
theorem mixN_ge {α : Type} {f g : Nat → α} {n j : Nat} (h : n ≤ j) : mixN f g n j = f j := if_neg (by omega)
theorem mixN_lt {α : Type} {f g : Nat → α} {n j : Nat} (h : j < n) : mixN f g n j = g j := if_pos h
theorem oI_dec {x : Option Nat} (h : ¬ oI (-1) x = -1) : decide (x = none) = false := by
  cases x with
  | none => exact absurd rfl h
  | some k => rfl
theorem oI_n {x : Option Nat} {B : Nat} (h : ∀ k, x = some k → k < B) (hB : B ≤ 2 ^ 31) : oI (-1) x = -1 ↔ x = none := ⟨oI_none (fun k hk => Nat.lt_of_lt_of_le (h k hk) hB), fun e => by rw [e]; rfl⟩
set_option maxRecDepth 100000 in
set_option maxHeartbeats 4000000 in
theorem kX0_quotient (l : Launch) (Y : yG) (u : XS) (a b : Int64)  : mL l (gX Y) yX0_quotient wsX0_quotient ({ frames := 0, cells := 0, slots := 0, locals := 0 }) [.long a, .long b] u (quot a b) u := by
  refine mL_of (cc := cX0_quotient) (nL := 4) (own := RX0) (by decide) rfl rfl (fun v => cX_geo Y _ v) (Nat.le_of_ble_eq_true rfl) ?_
  intro K hKl hE hret
  show vV K (gX Y) u [(0, .long a), (2, .long b)] [] 0
  refine v_lload_n 1 hE dX0_quotient_0 rfl rfl ?_
  refine v_lconst 2 hE (v := 0) dX0_quotient_1 (by decide) rfl ?_
  refine v_lc_ne 3 6 hE 10 dX0_quotient_2 dX0_quotient_3 (by decide) rfl rfl (fun c2 => ?_) (fun c2 => ?_)
  · refine v_lload_n 11 hE dX0_quotient_10 rfl rfl ?_
    refine v_lload_n 12 hE dX0_quotient_11 rfl rfl ?_
    refine v_ldiv 13 hE dX0_quotient_12 c2 rfl ?_
    exact (hret _ _ dX0_quotient_13).cast rfl (rL (by simp [quot, c2]))
  · refine v_lconst 7 hE (v := 0) dX0_quotient_6 (by decide) rfl ?_
    refine v_goto hE 13 dX0_quotient_7 (by decide) ?_
    exact (hret _ _ dX0_quotient_13).cast rfl (rL (by simp [quot, c2]))
set_option maxRecDepth 100000 in
set_option maxHeartbeats 4000000 in
theorem kX0_findKnown (l : Launch) (Y : yG) (u : XS)  (hok : okN u) : mV l (gX Y) yX0_findKnown wsX0_findKnown ({ frames := 1, cells := 0, slots := 0, locals := 21 }) [.ref (yA Y 4), .ref (yA Y 1), .ref (yA Y 3)] u (xs_kn (xs_kc u (cntN (uKn (x_len u) (x_pv u)) 25)) (mixN (x_kn u) (uKn (x_len u) (x_pv u)) 25)) := by
  obtain ⟨hn, hm, hsrc, htgt, hmet, hlen, hlnk⟩ := id hok
  refine mV_of (cc := cX0_findKnown) (nL := 4) (own := RX0) (by decide) rfl rfl (fun v => cX_geo Y _ v) (Nat.le_of_ble_eq_true rfl) ?_
  intro K hKl hE hret
  have f_0 : ∀ w ∈ u_ws RX0 TX0 8, w ∈ wsX0_findKnown := by decide +kernel
  have f_1 : Cond.fieldLink RX0 47 "TrafficMatrix$Equations" "knownCount" "I" ∈ wsX0_findKnown := by decide +kernel
  have f_2 : Cond.fieldLink RX0 23 "TrafficMatrix$Equations" "known" "[Z" ∈ wsX0_findKnown := by decide +kernel
  show vV K (gX Y) u [(0, .ref (yA Y 4)), (1, .ref (yA Y 1)), (2, .ref (yA Y 3))] [] 0
  refine v_aload_n 1 hE dX0_findKnown_0 rfl rfl ?_
  refine v_iconst 2 hE (v := nI 0) dX0_findKnown_1 (by decide) rfl ?_
  refine pX_knownCount 5 hE f_0 f_1 dX0_findKnown_2 rfl ?_
  refine v_iconst 6 hE (v := nI 0) dX0_findKnown_5 (by decide) rfl ?_
  refine v_istore_n 7 hE [_, _, _, _] dX0_findKnown_6 rfl (by decide) rfl rfl ?_
  refine vV.sub [1, 2, 3, 0] rfl ?_
  have L7 : ∀ (n7 : Nat) (i : Nat) (c : Nat) (f : Nat → Bool), (i ≤ 25) → (c = cntN (uKn (x_len u) (x_pv u)) i) → (f = mixN (x_kn u) (uKn (x_len u) (x_pv u)) i) → 25 + 1 ≤ i + n7 → vV K (gX Y) (xs_kn (xs_kc u c) f) [(0, .ref (yA Y 4)), (1, .ref (yA Y 1)), (2, .ref (yA Y 3)), (3, .int (nI i))] [] 7 := by
    intro n7
    induction n7 with
    | zero => intro i c f hi hc hf hfu7; exact absurd hfu7 (by omega)
    | succ n7 ih7 =>
      intro i c f hi hc hf hfu7
      refine v_iload_n 8 hE dX0_findKnown_7 rfl rfl ?_
      refine v_bipush 10 hE (v := nI 25) dX0_findKnown_8 (by decide) rfl ?_
      refine v_ic_geN 13 hE 65 dX0_findKnown_10 (by decide) (by omega) (by omega) rfl (fun c10 => ?_) (fun c10 => ?_)
      · exact (hret _ _ dX0_findKnown_65).cast (by rw [hc, hf, show i = 25 by omega]) rfl
      · refine v_aload_n 14 hE dX0_findKnown_13 rfl rfl ?_
        refine gX_known 17 hE f_0 f_2 dX0_findKnown_14 rfl ?_
        refine v_iload_n 18 hE dX0_findKnown_17 rfl rfl ?_
        refine v_aload_n 19 hE dX0_findKnown_18 rfl rfl ?_
        refine v_iload_n 20 hE dX0_findKnown_19 rfl rfl ?_
        refine v_ciE 23 hE (v_runV 1 hE (vSub.self hE) (kX3_hasRoute _ Y _ _ hok (by omega)) gX0_findKnown_X3_hasRoute rfl (by decide +kernel) rfl (q0 := 1) rfl rfl ⟨rfl, rfl, by decide, by decide⟩ rfl (Nat.le_of_ble_eq_true rfl) dX0_findKnown_20) rfl ?_
        show vV K (gX Y) _ _ (.int (bI (uHas (x_len u) _)) :: _) _
        refine v_if_eqB 26 hE 38 dX0_findKnown_23 (by decide) rfl (fun c23 => ?_) (fun c23 => ?_)
        · refine v_iconst 39 hE (v := bI false) dX0_findKnown_38 (by decide) rfl ?_
          refine sX_kn 40 hE (by omega) dX0_findKnown_39 rfl ?_
          refine v_aload_n 41 hE dX0_findKnown_40 rfl rfl ?_
          refine gX_known 44 hE f_0 f_2 dX0_findKnown_41 rfl ?_
          refine v_iload_n 45 hE dX0_findKnown_44 rfl rfl ?_
          refine lX_kn 46 hE (by omega) dX0_findKnown_45 rfl ?_
          show vV K (gX Y) _ _ (.int (bI (va_up f i _ i)) :: _) _
          rw [va_up_self]
          refine v_if_eqB 49 hE 59 dX0_findKnown_46 (by decide) rfl (fun c46 => ?_) (fun c46 => ?_)
          · refine v_iincN 62 hE [_, _, _, _] dX0_findKnown_59 rfl (by decide) rfl rfl ?_
            refine v_goto hE 7 dX0_findKnown_62 (by decide) ?_
            refine vV.sub [1, 2, 3, 0] rfl ?_
            exact ih7 _ _ _ (by omega) (by first | (cases c46; done) | (simp [cntN, hc, uKn, c23, c31]; done) | (simp [cntN, hc, uKn, c23]; done)) (by rw [hf, ← mixN_s]; congr 1; first | (simp [uKn, c23, c31]; done) | (simp [uKn, c23]; done)) (by omega)
          · refine v_aload_n 50 hE dX0_findKnown_49 rfl rfl ?_
            refine v_dup 51 hE dX0_findKnown_50 rfl rfl ?_
            refine gX_knownCount 54 hE f_0 f_1 dX0_findKnown_51 rfl ?_
            show vV K (gX Y) _ _ (.int (nI (c)) :: _) _
            refine v_iconst 55 hE (v := nI 1) dX0_findKnown_54 (by decide) rfl ?_
            refine v_iaddN 56 hE dX0_findKnown_55 rfl ?_
            refine pX_knownCount 59 hE f_0 f_1 dX0_findKnown_56 rfl ?_
            refine v_iincN 62 hE [_, _, _, _] dX0_findKnown_59 rfl (by decide) rfl rfl ?_
            refine v_goto hE 7 dX0_findKnown_62 (by decide) ?_
            refine vV.sub [1, 2, 3, 0] rfl ?_
            exact ih7 _ _ _ (by omega) (by first | (cases c46; done) | (simp [cntN, hc, uKn, c23, c31]; done) | (simp [cntN, hc, uKn, c23]; done)) (by rw [hf, ← mixN_s]; congr 1; first | (simp [uKn, c23, c31]; done) | (simp [uKn, c23]; done)) (by omega)
        · refine v_aload_n 27 hE dX0_findKnown_26 rfl rfl ?_
          refine v_iload_n 28 hE dX0_findKnown_27 rfl rfl ?_
          refine v_ciE 31 hE (v_runV 1 hE (vSub.self hE) (kX2_hasPair _ Y _ _ (by omega)) gX0_findKnown_X2_hasPair rfl (by decide +kernel) rfl (q0 := 3) rfl rfl ⟨rfl, rfl, by decide, by decide⟩ rfl (Nat.le_of_ble_eq_true rfl) dX0_findKnown_28) rfl ?_
          show vV K (gX Y) _ _ (.int (bI (uPair (x_pv u) _)) :: _) _
          refine v_if_eqB 34 hE 38 dX0_findKnown_31 (by decide) rfl (fun c31 => ?_) (fun c31 => ?_)
          · refine v_iconst 39 hE (v := bI false) dX0_findKnown_38 (by decide) rfl ?_
            refine sX_kn 40 hE (by omega) dX0_findKnown_39 rfl ?_
            refine v_aload_n 41 hE dX0_findKnown_40 rfl rfl ?_
            refine gX_known 44 hE f_0 f_2 dX0_findKnown_41 rfl ?_
            refine v_iload_n 45 hE dX0_findKnown_44 rfl rfl ?_
            refine lX_kn 46 hE (by omega) dX0_findKnown_45 rfl ?_
            show vV K (gX Y) _ _ (.int (bI (va_up f i _ i)) :: _) _
            rw [va_up_self]
            refine v_if_eqB 49 hE 59 dX0_findKnown_46 (by decide) rfl (fun c46 => ?_) (fun c46 => ?_)
            · refine v_iincN 62 hE [_, _, _, _] dX0_findKnown_59 rfl (by decide) rfl rfl ?_
              refine v_goto hE 7 dX0_findKnown_62 (by decide) ?_
              refine vV.sub [1, 2, 3, 0] rfl ?_
              exact ih7 _ _ _ (by omega) (by first | (cases c46; done) | (simp [cntN, hc, uKn, c23, c31]; done) | (simp [cntN, hc, uKn, c23]; done)) (by rw [hf, ← mixN_s]; congr 1; first | (simp [uKn, c23, c31]; done) | (simp [uKn, c23]; done)) (by omega)
            · refine v_aload_n 50 hE dX0_findKnown_49 rfl rfl ?_
              refine v_dup 51 hE dX0_findKnown_50 rfl rfl ?_
              refine gX_knownCount 54 hE f_0 f_1 dX0_findKnown_51 rfl ?_
              show vV K (gX Y) _ _ (.int (nI (c)) :: _) _
              refine v_iconst 55 hE (v := nI 1) dX0_findKnown_54 (by decide) rfl ?_
              refine v_iaddN 56 hE dX0_findKnown_55 rfl ?_
              refine pX_knownCount 59 hE f_0 f_1 dX0_findKnown_56 rfl ?_
              refine v_iincN 62 hE [_, _, _, _] dX0_findKnown_59 rfl (by decide) rfl rfl ?_
              refine v_goto hE 7 dX0_findKnown_62 (by decide) ?_
              refine vV.sub [1, 2, 3, 0] rfl ?_
              exact ih7 _ _ _ (by omega) (by first | (cases c46; done) | (simp [cntN, hc, uKn, c23, c31]; done) | (simp [cntN, hc, uKn, c23]; done)) (by rw [hf, ← mixN_s]; congr 1; first | (simp [uKn, c23, c31]; done) | (simp [uKn, c23]; done)) (by omega)
          · refine v_iconst 35 hE (v := bI true) dX0_findKnown_34 (by decide) rfl ?_
            refine v_goto hE 39 dX0_findKnown_35 (by decide) ?_
            refine sX_kn 40 hE (by omega) dX0_findKnown_39 rfl ?_
            refine v_aload_n 41 hE dX0_findKnown_40 rfl rfl ?_
            refine gX_known 44 hE f_0 f_2 dX0_findKnown_41 rfl ?_
            refine v_iload_n 45 hE dX0_findKnown_44 rfl rfl ?_
            refine lX_kn 46 hE (by omega) dX0_findKnown_45 rfl ?_
            show vV K (gX Y) _ _ (.int (bI (va_up f i _ i)) :: _) _
            rw [va_up_self]
            refine v_if_eqB 49 hE 59 dX0_findKnown_46 (by decide) rfl (fun c46 => ?_) (fun c46 => ?_)
            · refine v_iincN 62 hE [_, _, _, _] dX0_findKnown_59 rfl (by decide) rfl rfl ?_
              refine v_goto hE 7 dX0_findKnown_62 (by decide) ?_
              refine vV.sub [1, 2, 3, 0] rfl ?_
              exact ih7 _ _ _ (by omega) (by first | (cases c46; done) | (simp [cntN, hc, uKn, c23, c31]; done) | (simp [cntN, hc, uKn, c23]; done)) (by rw [hf, ← mixN_s]; congr 1; first | (simp [uKn, c23, c31]; done) | (simp [uKn, c23]; done)) (by omega)
            · refine v_aload_n 50 hE dX0_findKnown_49 rfl rfl ?_
              refine v_dup 51 hE dX0_findKnown_50 rfl rfl ?_
              refine gX_knownCount 54 hE f_0 f_1 dX0_findKnown_51 rfl ?_
              show vV K (gX Y) _ _ (.int (nI (c)) :: _) _
              refine v_iconst 55 hE (v := nI 1) dX0_findKnown_54 (by decide) rfl ?_
              refine v_iaddN 56 hE dX0_findKnown_55 rfl ?_
              refine pX_knownCount 59 hE f_0 f_1 dX0_findKnown_56 rfl ?_
              refine v_iincN 62 hE [_, _, _, _] dX0_findKnown_59 rfl (by decide) rfl rfl ?_
              refine v_goto hE 7 dX0_findKnown_62 (by decide) ?_
              refine vV.sub [1, 2, 3, 0] rfl ?_
              exact ih7 _ _ _ (by omega) (by first | (cases c46; done) | (simp [cntN, hc, uKn, c23, c31]; done) | (simp [cntN, hc, uKn, c23]; done)) (by rw [hf, ← mixN_s]; congr 1; first | (simp [uKn, c23, c31]; done) | (simp [uKn, c23]; done)) (by omega)
  exact L7 (25 + 1) _ _ (x_kn u) (by omega) rfl (mixN_0 _ _).symm (by omega)
set_option maxRecDepth 100000 in
set_option maxHeartbeats 4000000 in
theorem kX0_fillRow (l : Launch) (Y : yG) (u : XS) (k : Nat) (hok : okN u) (hk : k < 12) : mV l (gX Y) yX0_fillRow wsX0_fillRow ({ frames := 1, cells := 0, slots := 0, locals := 24 }) [.ref (yA Y 4), .int (nI k), .ref (yA Y 1), .ref (yA Y 3)] u (xs_row u (va_up (x_row u) k (fRow (x_load u) (uUses (x_len u) (x_lnk u)) (x_kn u) (x_pv u) k 25))) := by
  obtain ⟨hn, hm, hsrc, htgt, hmet, hlen, hlnk⟩ := id hok
  refine mV_of (cc := cX0_fillRow) (nL := 6) (own := RX0) (by decide) rfl rfl (fun v => cX_geo Y _ v) (Nat.le_of_ble_eq_true rfl) ?_
  intro K hKl hE hret
  have f_0 : ∀ w ∈ u_ws RX0 TX0 8, w ∈ wsX0_fillRow := by decide +kernel
  have f_1 : Cond.fieldLink RX0 11 "TrafficMatrix$Equations" "rows" "[[J" ∈ wsX0_fillRow := by decide +kernel
  have f_2 : ∀ w ∈ u_ws RX2 TX2 4, w ∈ wsX0_fillRow := by decide +kernel
  have f_3 : Cond.fieldLink RX0 65 "TrafficMatrix$Measurements" "loads" "[I" ∈ wsX0_fillRow := by decide +kernel
  have f_4 : Cond.fieldLink RX0 23 "TrafficMatrix$Equations" "known" "[Z" ∈ wsX0_fillRow := by decide +kernel
  have f_5 : Cond.fieldLink RX0 72 "TrafficMatrix$Measurements" "pairValues" "[I" ∈ wsX0_fillRow := by decide +kernel
  show vV K (gX Y) u [(0, .ref (yA Y 4)), (1, .int (nI k)), (2, .ref (yA Y 1)), (3, .ref (yA Y 3))] [] 0
  refine v_aload_n 1 hE dX0_fillRow_0 rfl rfl ?_
  refine gX_rows 4 hE f_0 f_1 dX0_fillRow_1 rfl ?_
  refine v_iload_n 5 hE dX0_fillRow_4 rfl rfl ?_
  refine rX_row 6 hE (by omega) dX0_fillRow_5 rfl ?_
  refine v_astore 8 hE [_, _, _, _, _] dX0_fillRow_6 (by decide) rfl rfl ?_
  refine v_aload 10 hE dX0_fillRow_8 rfl rfl ?_
  refine v_lconst 11 hE (v := 0) dX0_fillRow_10 (by decide) rfl ?_
  refine fX_row 14 hE (by omega) gX0_fillRow_J7_fill_d0a16 ⟨by decide, by decide⟩ (Nat.le_of_ble_eq_true rfl) dX0_fillRow_11 rfl ?_
  refine v_aload 16 hE dX0_fillRow_14 rfl rfl ?_
  refine v_bipush 18 hE (v := nI 25) dX0_fillRow_16 (by decide) rfl ?_
  refine v_aload_n 19 hE dX0_fillRow_18 rfl rfl ?_
  refine gX_loads 22 hE f_2 f_3 dX0_fillRow_19 rfl ?_
  refine v_iload_n 23 hE dX0_fillRow_22 rfl rfl ?_
  refine lX_load 24 hE (by omega) dX0_fillRow_23 rfl ?_
  show vV K (gX Y) _ _ (.int ((x_load u) _) :: _) _
  refine v_i2l 25 hE dX0_fillRow_24 rfl ?_
  refine sX_row 26 hE (by omega) (by omega) dX0_fillRow_25 rfl ?_
  refine v_iconst 27 hE (v := nI 0) dX0_fillRow_26 (by decide) rfl ?_
  refine v_istore 29 hE [_, _, _, _, _, _] dX0_fillRow_27 (by decide) rfl rfl ?_
  refine vV.sub [2, 3, 4, 5, 1, 0] rfl ?_
  have L29 : ∀ (n29 : Nat) (i : Nat) (g : Nat → Int64), (i ≤ 25) → (g = fRow (x_load u) (uUses (x_len u) (x_lnk u)) (x_kn u) (x_pv u) k i) → 25 + 1 ≤ i + n29 → vV K (gX Y) (xs_row u (va_up (x_row u) k g)) [(0, .ref (yA Y 4)), (1, .int (nI k)), (2, .ref (yA Y 1)), (3, .ref (yA Y 3)), (4, .ref (yW Y k)), (5, .int (nI i))] [] 29 := by
    intro n29
    induction n29 with
    | zero => intro i g hi hg hfu29; exact absurd hfu29 (by omega)
    | succ n29 ih29 =>
      intro i g hi hg hfu29
      refine v_iload 31 hE dX0_fillRow_29 rfl rfl ?_
      refine v_bipush 33 hE (v := nI 25) dX0_fillRow_31 (by decide) rfl ?_
      refine v_ic_geN 36 hE 87 dX0_fillRow_33 (by decide) (by omega) (by omega) rfl (fun c33 => ?_) (fun c33 => ?_)
      · exact (hret _ _ dX0_fillRow_87).cast (by rw [hg, show i = 25 by omega]) rfl
      · refine v_aload_n 37 hE dX0_fillRow_36 rfl rfl ?_
        refine v_iload 39 hE dX0_fillRow_37 rfl rfl ?_
        refine v_iload_n 40 hE dX0_fillRow_39 rfl rfl ?_
        refine v_ciE 43 hE (v_runV 2 hE (vSub.self hE) (kX3_routeUses _ Y _ _ _ hok (by omega) (by omega)) gX0_fillRow_X3_routeUses rfl (by decide +kernel) rfl (q0 := 1) rfl rfl ⟨rfl, rfl, by decide, by decide⟩ rfl (Nat.le_of_ble_eq_true rfl) dX0_fillRow_40) rfl ?_
        show vV K (gX Y) _ _ (.int (bI (uUses (x_len u) (x_lnk u) _ _)) :: _) _
        refine v_if_eqB 46 hE 81 dX0_fillRow_43 (by decide) rfl (fun c43 => ?_) (fun c43 => ?_)
        · refine v_iincN 84 hE [_, _, _, _, _, _] dX0_fillRow_81 rfl (by decide) rfl rfl ?_
          refine v_goto hE 29 dX0_fillRow_84 (by decide) ?_
          refine vV.sub [1, 2, 3, 4, 5, 0] rfl ?_
          exact (by first | exact ih29 _ g (by omega) (by rw [hg]; exact fRow_skip c43) (by omega) | exact (ih29 _ _ (by omega) (by rw [hg]; exact fRow_sub c43 c53) (by omega)).cast (congrArg (xs_row u) (up_2 (x_row u) k _ _ _)) rfl | exact (ih29 _ _ (by omega) (by rw [hg]; exact fRow_one (by omega) c43 c53) (by omega)).cast (congrArg (xs_row u) (up_2 (x_row u) k _ _ _)) rfl)
        · refine v_aload_n 47 hE dX0_fillRow_46 rfl rfl ?_
          refine gX_known 50 hE f_0 f_4 dX0_fillRow_47 rfl ?_
          refine v_iload 52 hE dX0_fillRow_50 rfl rfl ?_
          refine lX_kn 53 hE (by omega) dX0_fillRow_52 rfl ?_
          show vV K (gX Y) _ _ (.int (bI ((x_kn u) _)) :: _) _
          refine v_if_eqB 56 hE 75 dX0_fillRow_53 (by decide) rfl (fun c53 => ?_) (fun c53 => ?_)
          · refine v_aload 77 hE dX0_fillRow_75 rfl rfl ?_
            refine v_iload 79 hE dX0_fillRow_77 rfl rfl ?_
            refine v_lconst 80 hE (v := 1) dX0_fillRow_79 (by decide) rfl ?_
            refine sX_row 81 hE (by omega) (by omega) dX0_fillRow_80 rfl ?_
            refine v_iincN 84 hE [_, _, _, _, _, _] dX0_fillRow_81 rfl (by decide) rfl rfl ?_
            refine v_goto hE 29 dX0_fillRow_84 (by decide) ?_
            refine vV.sub [1, 2, 3, 4, 5, 0] rfl ?_
            exact (by first | exact ih29 _ g (by omega) (by rw [hg]; exact fRow_skip c43) (by omega) | exact (ih29 _ _ (by omega) (by rw [hg]; exact fRow_sub c43 c53) (by omega)).cast (congrArg (xs_row u) (up_2 (x_row u) k _ _ _)) rfl | exact (ih29 _ _ (by omega) (by rw [hg]; exact fRow_one (by omega) c43 c53) (by omega)).cast (congrArg (xs_row u) (up_2 (x_row u) k _ _ _)) rfl)
          · refine v_aload 58 hE dX0_fillRow_56 rfl rfl ?_
            refine v_bipush 60 hE (v := nI 25) dX0_fillRow_58 (by decide) rfl ?_
            refine v_dup2 61 hE dX0_fillRow_60 rfl rfl rfl ?_
            refine lX_row 62 hE (by omega) (by omega) dX0_fillRow_61 rfl ?_
            show vV K (gX Y) _ _ (.long (va_up (x_row u) k g k 25) :: _) _
            rw [va_up_self]
            refine v_aload_n 63 hE dX0_fillRow_62 rfl rfl ?_
            refine gX_pairValues 66 hE f_2 f_5 dX0_fillRow_63 rfl ?_
            refine v_iload 68 hE dX0_fillRow_66 rfl rfl ?_
            refine lX_pv 69 hE (by omega) dX0_fillRow_68 rfl ?_
            show vV K (gX Y) _ _ (.int ((x_pv u) _) :: _) _
            refine v_i2l 70 hE dX0_fillRow_69 rfl ?_
            refine v_lsub 71 hE dX0_fillRow_70 rfl ?_
            refine sX_row 72 hE (by omega) (by omega) dX0_fillRow_71 rfl ?_
            refine v_goto hE 81 dX0_fillRow_72 (by decide) ?_
            refine v_iincN 84 hE [_, _, _, _, _, _] dX0_fillRow_81 rfl (by decide) rfl rfl ?_
            refine v_goto hE 29 dX0_fillRow_84 (by decide) ?_
            refine vV.sub [1, 2, 3, 4, 5, 0] rfl ?_
            exact (by first | exact ih29 _ g (by omega) (by rw [hg]; exact fRow_skip c43) (by omega) | exact (ih29 _ _ (by omega) (by rw [hg]; exact fRow_sub c43 c53) (by omega)).cast (congrArg (xs_row u) (up_2 (x_row u) k _ _ _)) rfl | exact (ih29 _ _ (by omega) (by rw [hg]; exact fRow_one (by omega) c43 c53) (by omega)).cast (congrArg (xs_row u) (up_2 (x_row u) k _ _ _)) rfl)
  exact (L29 (25 + 1) 0 (va_up (fun _ => 0) 25 (x_load u k).toInt64) (by omega) (fRow_0 _ _ _ _ _) (by omega)).cast (congrArg (xs_row u) (up_2 (x_row u) k _ _ _)) rfl
set_option maxRecDepth 100000 in
set_option maxHeartbeats 4000000 in
theorem kX0_findPivotRow (l : Launch) (Y : yG) (u : XS) (c : Nat) (hE0 : okE u) (hc : c < 25) : mI l (gX Y) yX0_findPivotRow wsX0_findPivotRow ({ frames := 0, cells := 0, slots := 0, locals := 0 }) [.ref (yA Y 4), .int (nI c)] u (oI (-1) (pivR (x_rc u) (x_row u) (x_por u) c)) u := by
  obtain ⟨hrc, hrop, hpor⟩ := id hE0
  refine mI_of (cc := cX0_findPivotRow) (nL := 3) (own := RX0) (by decide) rfl rfl (fun v => cX_geo Y _ v) (Nat.le_of_ble_eq_true rfl) ?_
  intro K hKl hE hret
  have f_0 : ∀ w ∈ u_ws RX0 TX0 8, w ∈ wsX0_findPivotRow := by decide +kernel
  have f_1 : Cond.fieldLink RX0 33 "TrafficMatrix$Equations" "rowCount" "I" ∈ wsX0_findPivotRow := by decide +kernel
  have f_2 : Cond.fieldLink RX0 20 "TrafficMatrix$Equations" "pivotOfRow" "[I" ∈ wsX0_findPivotRow := by decide +kernel
  have f_3 : Cond.fieldLink RX0 11 "TrafficMatrix$Equations" "rows" "[[J" ∈ wsX0_findPivotRow := by decide +kernel
  show vV K (gX Y) u [(0, .ref (yA Y 4)), (1, .int (nI c))] [] 0
  refine v_iconst 1 hE (v := nI 0) dX0_findPivotRow_0 (by decide) rfl ?_
  refine v_istore_n 2 hE [_, _, _] dX0_findPivotRow_1 rfl (by decide) rfl rfl ?_
  refine vV.sub [1, 2, 0] rfl ?_
  have L2 : ∀ (n2 : Nat) (i : Nat), (i ≤ x_rc u) → (∀ j, j < i → (decide (x_por u j = none) && !decide (x_row u j c = 0)) = false) → x_rc u + 1 ≤ i + n2 → vV K (gX Y) u [(0, .ref (yA Y 4)), (1, .int (nI c)), (2, .int (nI i))] [] 2 := by
    intro n2
    induction n2 with
    | zero => intro i hi hno hfu2; exact absurd hfu2 (by omega)
    | succ n2 ih2 =>
      intro i hi hno hfu2
      refine v_iload_n 3 hE dX0_findPivotRow_2 rfl rfl ?_
      refine v_aload_n 4 hE dX0_findPivotRow_3 rfl rfl ?_
      refine gX_rowCount 7 hE f_0 f_1 dX0_findPivotRow_4 rfl ?_
      refine v_ic_geN 10 hE 41 dX0_findPivotRow_7 (by decide) (by omega) (by omega) rfl (fun c7 => ?_) (fun c7 => ?_)
      · refine v_iconst 42 hE (v := -1) dX0_findPivotRow_41 (by decide) rfl ?_
        exact (hret _ _ dX0_findPivotRow_42).cast rfl (rI (by rw [pivR, fstN_none.mpr (fun j hj => hno j (by omega))]; rfl))
      · refine v_aload_n 11 hE dX0_findPivotRow_10 rfl rfl ?_
        refine gX_pivotOfRow 14 hE f_0 f_2 dX0_findPivotRow_11 rfl ?_
        refine v_iload_n 15 hE dX0_findPivotRow_14 rfl rfl ?_
        refine lX_por 16 hE (by omega) dX0_findPivotRow_15 rfl ?_
        refine v_iconst 17 hE (v := -1) dX0_findPivotRow_16 (by decide) rfl ?_
        refine v_ic_ne 20 hE 35 dX0_findPivotRow_17 (by decide) rfl (fun c17 => ?_) (fun c17 => ?_)
        · refine v_iincN 38 hE [_, _, _] dX0_findPivotRow_35 rfl (by decide) rfl rfl ?_
          refine v_goto hE 2 dX0_findPivotRow_38 (by decide) ?_
          refine vV.sub [1, 2, 0] rfl ?_
          exact ih2 _ (by omega) (fun j hj => if e : j = i then (by rw [e]; first | (rw [oI_dec c17]; rfl) | (simp [c29]; done)) else hno j (by omega)) (by omega)
        · refine v_aload_n 21 hE dX0_findPivotRow_20 rfl rfl ?_
          refine gX_rows 24 hE f_0 f_3 dX0_findPivotRow_21 rfl ?_
          refine v_iload_n 25 hE dX0_findPivotRow_24 rfl rfl ?_
          refine rX_row 26 hE (by omega) dX0_findPivotRow_25 rfl ?_
          refine v_iload_n 27 hE dX0_findPivotRow_26 rfl rfl ?_
          refine lX_row 28 hE (by omega) (by omega) dX0_findPivotRow_27 rfl ?_
          refine v_lconst 29 hE (v := 0) dX0_findPivotRow_28 (by decide) rfl ?_
          refine v_lc_eq 30 33 hE 35 dX0_findPivotRow_29 dX0_findPivotRow_30 (by decide) rfl rfl (fun c29 => ?_) (fun c29 => ?_)
          · refine v_iincN 38 hE [_, _, _] dX0_findPivotRow_35 rfl (by decide) rfl rfl ?_
            refine v_goto hE 2 dX0_findPivotRow_38 (by decide) ?_
            refine vV.sub [1, 2, 0] rfl ?_
            exact ih2 _ (by omega) (fun j hj => if e : j = i then (by rw [e]; first | (rw [oI_dec c17]; rfl) | (simp [c29]; done)) else hno j (by omega)) (by omega)
          · refine v_iload_n 34 hE dX0_findPivotRow_33 rfl rfl ?_
            exact (hret _ _ dX0_findPivotRow_34).cast rfl (rI (by rw [pivR, fstN_some.mpr ⟨by omega, by simp [(oI_n (hpor i) (by decide)).mp c17, c29], hno⟩]; rfl))
  exact L2 (x_rc u + 1) _ (by omega) (by intro j hj; omega) (by omega)
set_option maxRecDepth 100000 in
set_option maxHeartbeats 4000000 in
theorem kX0_combine (l : Launch) (Y : yG) (u : XS) (a b c : Nat) (ha : a < 12) (hb : b < 12) (hab : ¬ b = a) (hc : c < 25) : mV l (gX Y) yX0_combine wsX0_combine ({ frames := 1, cells := 0, slots := 0, locals := 23 }) [.ref (yA Y 4), .ref (yW Y a), .ref (yW Y b), .int (nI c)] u (xs_row u (va_up (x_row u) a (comb (x_row u b c) (x_row u a c) (x_piv u) (x_row u a) (x_row u b)))) := by
  refine mV_of (cc := cX0_combine) (nL := 9) (own := RX0) (by decide) rfl rfl (fun v => cX_geo Y _ v) (Nat.le_of_ble_eq_true rfl) ?_
  intro K hKl hE hret
  have f_0 : ∀ w ∈ u_ws RX0 TX0 8, w ∈ wsX0_combine := by decide +kernel
  have f_1 : Cond.fieldLink RX0 78 "TrafficMatrix$Equations" "pivot" "J" ∈ wsX0_combine := by decide +kernel
  show vV K (gX Y) u [(0, .ref (yA Y 4)), (1, .ref (yW Y a)), (2, .ref (yW Y b)), (3, .int (nI c))] [] 0
  refine v_aload_n 1 hE dX0_combine_0 rfl rfl ?_
  refine v_iload_n 2 hE dX0_combine_1 rfl rfl ?_
  refine lX_row 3 hE (by omega) (by omega) dX0_combine_2 rfl ?_
  refine v_lstore 5 hE [_, _, _, _, _] dX0_combine_3 (by decide) rfl rfl ?_
  refine v_aload_n 6 hE dX0_combine_5 rfl rfl ?_
  refine v_iload_n 7 hE dX0_combine_6 rfl rfl ?_
  refine lX_row 8 hE (by omega) (by omega) dX0_combine_7 rfl ?_
  refine v_lstore 10 hE [_, _, _, _, _, _] dX0_combine_8 (by decide) rfl rfl ?_
  refine v_iconst 11 hE (v := nI 0) dX0_combine_10 (by decide) rfl ?_
  refine v_istore 13 hE [_, _, _, _, _, _, _] dX0_combine_11 (by decide) rfl rfl ?_
  refine vV.sub [3, 4, 5, 6, 2, 1, 0] rfl ?_
  have L13 : ∀ (n13 : Nat) (i : Nat) (g : Nat → Int64), (i ≤ 26) → (g = mixN (x_row u a) (combF (x_row u b c) (x_row u a c) (x_piv u) (x_row u a) (x_row u b)) i) → 26 + 1 ≤ i + n13 → vV K (gX Y) (xs_row u (va_up (x_row u) a g)) [(0, .ref (yA Y 4)), (1, .ref (yW Y a)), (2, .ref (yW Y b)), (3, .int (nI c)), (4, .long (x_row u b c)), (6, .long (x_row u a c)), (8, .int (nI i))] [] 13 := by
    intro n13
    induction n13 with
    | zero => intro i g hi hg hfu13; exact absurd hfu13 (by omega)
    | succ n13 ih13 =>
      intro i g hi hg hfu13
      refine v_iload 15 hE dX0_combine_13 rfl rfl ?_
      refine v_bipush 17 hE (v := nI 25) dX0_combine_15 (by decide) rfl ?_
      refine v_ic_gtN 20 hE 52 dX0_combine_17 (by decide) (by omega) (by omega) rfl (fun c17 => ?_) (fun c17 => ?_)
      · exact (hret _ _ dX0_combine_52).cast (by rw [hg, show i = 26 by omega]; rfl) rfl
      · refine v_aload_n 21 hE dX0_combine_20 rfl rfl ?_
        refine v_iload 23 hE dX0_combine_21 rfl rfl ?_
        refine v_lload 25 hE dX0_combine_23 rfl rfl ?_
        refine v_aload_n 26 hE dX0_combine_25 rfl rfl ?_
        refine v_iload 28 hE dX0_combine_26 rfl rfl ?_
        refine lX_row 29 hE (by omega) (by omega) dX0_combine_28 rfl ?_
        show vV K (gX Y) _ _ (.long (va_up (x_row u) a g a i) :: _) _
        rw [va_up_self, show g i = x_row u a i by rw [hg]; exact mixN_ge (Nat.le_refl i)]
        refine v_lmul 30 hE dX0_combine_29 rfl ?_
        refine v_lload 32 hE dX0_combine_30 rfl rfl ?_
        refine v_aload_n 33 hE dX0_combine_32 rfl rfl ?_
        refine v_iload 35 hE dX0_combine_33 rfl rfl ?_
        refine lX_row 36 hE (by omega) (by omega) dX0_combine_35 rfl ?_
        show vV K (gX Y) _ _ (.long (va_up (x_row u) a g b i) :: _) _
        rw [va_up_ne _ _ hab]
        refine v_lmul 37 hE dX0_combine_36 rfl ?_
        refine v_lsub 38 hE dX0_combine_37 rfl ?_
        refine v_aload_n 39 hE dX0_combine_38 rfl rfl ?_
        refine gX_pivot 42 hE f_0 f_1 dX0_combine_39 rfl ?_
        show vV K (gX Y) _ _ (.long (x_piv u) :: _) _
        refine v_clE 45 hE (v_runS 2 hE (vSub.self hE) (kX0_quotient _ Y _ _ _) gX0_combine_X0_quotient rfl (by decide +kernel) rfl ⟨rfl, rfl, by decide, by decide⟩ rfl (Nat.le_of_ble_eq_true rfl) dX0_combine_42) rfl ?_
        show vV K (gX Y) _ _ (.long (combF (x_row u b c) (x_row u a c) (x_piv u) (x_row u a) (x_row u b) i) :: _) _
        refine sX_row 46 hE (by omega) (by omega) dX0_combine_45 rfl ?_
        refine v_iincN 49 hE [_, _, _, _, _, _, _] dX0_combine_46 rfl (by decide) rfl rfl ?_
        refine v_goto hE 13 dX0_combine_49 (by decide) ?_
        refine vV.sub [1, 2, 3, 4, 5, 6, 0] rfl ?_
        exact (ih13 _ _ (by omega) (by rw [hg]; exact mixN_s _ _ _) (by omega)).cast (congrArg (xs_row u) (up_2 (x_row u) a _ _ _)) rfl
  exact (L13 (26 + 1) 0 (x_row u a) (by omega) (mixN_0 _ _).symm (by omega)).cast (congrArg (xs_row u) (up_id (x_row u) a).symm) rfl
set_option maxRecDepth 100000 in
set_option maxHeartbeats 4000000 in
theorem kX0_clearColumn (l : Launch) (Y : yG) (u : XS) (c p : Nat) (hE0 : okE u) (hc : c < 25) (hp : p < 12) : mV l (gX Y) yX0_clearColumn wsX0_clearColumn ({ frames := 2, cells := 0, slots := 0, locals := 51 }) [.ref (yA Y 4), .int (nI c), .int (nI p)] u (xs_piv (xs_row u (clr c p (x_piv u) (x_row u p c) (x_row u) (x_rc u))) (x_row u p c)) := by
  obtain ⟨hrc, hrop, hpor⟩ := id hE0
  refine mV_of (cc := cX0_clearColumn) (nL := 6) (own := RX0) (by decide) rfl rfl (fun v => cX_geo Y _ v) (Nat.le_of_ble_eq_true rfl) ?_
  intro K hKl hE hret
  have f_0 : ∀ w ∈ u_ws RX0 TX0 8, w ∈ wsX0_clearColumn := by decide +kernel
  have f_1 : Cond.fieldLink RX0 11 "TrafficMatrix$Equations" "rows" "[[J" ∈ wsX0_clearColumn := by decide +kernel
  have f_2 : Cond.fieldLink RX0 33 "TrafficMatrix$Equations" "rowCount" "I" ∈ wsX0_clearColumn := by decide +kernel
  have f_3 : Cond.fieldLink RX0 78 "TrafficMatrix$Equations" "pivot" "J" ∈ wsX0_clearColumn := by decide +kernel
  show vV K (gX Y) u [(0, .ref (yA Y 4)), (1, .int (nI c)), (2, .int (nI p))] [] 0
  refine v_aload_n 1 hE dX0_clearColumn_0 rfl rfl ?_
  refine gX_rows 4 hE f_0 f_1 dX0_clearColumn_1 rfl ?_
  refine v_iload_n 5 hE dX0_clearColumn_4 rfl rfl ?_
  refine rX_row 6 hE (by omega) dX0_clearColumn_5 rfl ?_
  refine v_iload_n 7 hE dX0_clearColumn_6 rfl rfl ?_
  refine lX_row 8 hE (by omega) (by omega) dX0_clearColumn_7 rfl ?_
  refine v_lstore_n 9 hE [_, _, _, _] dX0_clearColumn_8 rfl (by decide) rfl rfl ?_
  refine v_iconst 10 hE (v := nI 0) dX0_clearColumn_9 (by decide) rfl ?_
  refine v_istore 12 hE [_, _, _, _, _] dX0_clearColumn_10 (by decide) rfl rfl ?_
  refine vV.sub [2, 3, 4, 1, 0] rfl ?_
  have L12 : ∀ (n12 : Nat) (i : Nat) (R : Nat → Nat → Int64), (i ≤ x_rc u) → (R = clr c p (x_piv u) (x_row u p c) (x_row u) i) → x_rc u + 1 ≤ i + n12 → vV K (gX Y) (xs_row u R) [(0, .ref (yA Y 4)), (1, .int (nI c)), (2, .int (nI p)), (3, .long (x_row u p c)), (5, .int (nI i))] [] 12 := by
    intro n12
    induction n12 with
    | zero => intro i R hi hR hfu12; exact absurd hfu12 (by omega)
    | succ n12 ih12 =>
      intro i R hi hR hfu12
      refine v_iload 14 hE dX0_clearColumn_12 rfl rfl ?_
      refine v_aload_n 15 hE dX0_clearColumn_14 rfl rfl ?_
      refine gX_rowCount 18 hE f_0 f_2 dX0_clearColumn_15 rfl ?_
      show vV K (gX Y) _ _ (.int (nI (x_rc u)) :: _) _
      refine v_ic_geN 21 hE 74 dX0_clearColumn_18 (by decide) (by omega) (by omega) rfl (fun c18 => ?_) (fun c18 => ?_)
      · refine v_aload_n 75 hE dX0_clearColumn_74 rfl rfl ?_
        refine v_lload_n 76 hE dX0_clearColumn_75 rfl rfl ?_
        refine pX_pivot 79 hE f_0 f_3 dX0_clearColumn_76 rfl ?_
        exact (hret _ _ dX0_clearColumn_79).cast (by rw [hR, show i = x_rc u by omega]) rfl
      · refine v_iload 23 hE dX0_clearColumn_21 rfl rfl ?_
        refine v_iload_n 24 hE dX0_clearColumn_23 rfl rfl ?_
        refine v_ic_eqN 27 hE 68 dX0_clearColumn_24 (by decide) (by omega) (by omega) rfl (fun c24 => ?_) (fun c24 => ?_)
        · refine v_iincN 71 hE [_, _, _, _, _] dX0_clearColumn_68 rfl (by decide) rfl rfl ?_
          refine v_goto hE 12 dX0_clearColumn_71 (by decide) ?_
          refine vV.sub [1, 2, 3, 4, 0] rfl ?_
          exact ih12 _ _ (by omega) (by subst hR; show _ = (if _ then _ else _); first | (rw [if_neg (fun q => q.1 c24)]; done) | (rw [if_neg (fun q => q.2.elim (fun z => z c32) (fun z => z c46))]; done) | (rw [if_pos ⟨c24, Or.inl c32⟩]; done) | (rw [if_pos ⟨c24, Or.inr c46⟩]; done)) (by omega)
        · refine v_lload_n 28 hE dX0_clearColumn_27 rfl rfl ?_
          refine v_aload_n 29 hE dX0_clearColumn_28 rfl rfl ?_
          refine gX_pivot 32 hE f_0 f_3 dX0_clearColumn_29 rfl ?_
          show vV K (gX Y) _ _ (.long (x_piv u) :: _) _
          refine v_lc_ne 33 36 hE 50 dX0_clearColumn_32 dX0_clearColumn_33 (by decide) rfl rfl (fun c32 => ?_) (fun c32 => ?_)
          · refine v_aload_n 51 hE dX0_clearColumn_50 rfl rfl ?_
            refine v_aload_n 52 hE dX0_clearColumn_51 rfl rfl ?_
            refine gX_rows 55 hE f_0 f_1 dX0_clearColumn_52 rfl ?_
            refine v_iload 57 hE dX0_clearColumn_55 rfl rfl ?_
            refine rX_row 58 hE (by omega) dX0_clearColumn_57 rfl ?_
            refine v_aload_n 59 hE dX0_clearColumn_58 rfl rfl ?_
            refine gX_rows 62 hE f_0 f_1 dX0_clearColumn_59 rfl ?_
            refine v_iload_n 63 hE dX0_clearColumn_62 rfl rfl ?_
            refine rX_row 64 hE (by omega) dX0_clearColumn_63 rfl ?_
            refine v_iload_n 65 hE dX0_clearColumn_64 rfl rfl ?_
            refine v_cvE 68 hE (v_runV 3 hE (vSub.self hE) (kX0_combine _ Y (xs_row u R) _ _ _ (by omega) (by omega) (by omega) (by omega)) gX0_clearColumn_X0_combine rfl (by decide +kernel) rfl (q0 := 4) rfl rfl ⟨rfl, rfl, by decide, by decide⟩ rfl (Nat.le_of_ble_eq_true rfl) dX0_clearColumn_65) rfl ?_
            refine v_iincN 71 hE [_, _, _, _, _] dX0_clearColumn_68 rfl (by decide) rfl rfl ?_
            refine v_goto hE 12 dX0_clearColumn_71 (by decide) ?_
            refine vV.sub [1, 2, 3, 4, 0] rfl ?_
            exact ih12 _ _ (by omega) (by subst hR; show _ = (if _ then _ else _); first | (rw [if_neg (fun q => q.1 c24)]; done) | (rw [if_neg (fun q => q.2.elim (fun z => z c32) (fun z => z c46))]; done) | (rw [if_pos ⟨c24, Or.inl c32⟩]; done) | (rw [if_pos ⟨c24, Or.inr c46⟩]; done)) (by omega)
          · refine v_aload_n 37 hE dX0_clearColumn_36 rfl rfl ?_
            refine gX_rows 40 hE f_0 f_1 dX0_clearColumn_37 rfl ?_
            refine v_iload 42 hE dX0_clearColumn_40 rfl rfl ?_
            refine rX_row 43 hE (by omega) dX0_clearColumn_42 rfl ?_
            refine v_iload_n 44 hE dX0_clearColumn_43 rfl rfl ?_
            refine lX_row 45 hE (by omega) (by omega) dX0_clearColumn_44 rfl ?_
            show vV K (gX Y) _ _ (.long ((R) _ _) :: _) _
            refine v_lconst 46 hE (v := 0) dX0_clearColumn_45 (by decide) rfl ?_
            refine v_lc_eq 47 50 hE 68 dX0_clearColumn_46 dX0_clearColumn_47 (by decide) rfl rfl (fun c46 => ?_) (fun c46 => ?_)
            · refine v_iincN 71 hE [_, _, _, _, _] dX0_clearColumn_68 rfl (by decide) rfl rfl ?_
              refine v_goto hE 12 dX0_clearColumn_71 (by decide) ?_
              refine vV.sub [1, 2, 3, 4, 0] rfl ?_
              exact ih12 _ _ (by omega) (by subst hR; show _ = (if _ then _ else _); first | (rw [if_neg (fun q => q.1 c24)]; done) | (rw [if_neg (fun q => q.2.elim (fun z => z c32) (fun z => z c46))]; done) | (rw [if_pos ⟨c24, Or.inl c32⟩]; done) | (rw [if_pos ⟨c24, Or.inr c46⟩]; done)) (by omega)
            · refine v_aload_n 51 hE dX0_clearColumn_50 rfl rfl ?_
              refine v_aload_n 52 hE dX0_clearColumn_51 rfl rfl ?_
              refine gX_rows 55 hE f_0 f_1 dX0_clearColumn_52 rfl ?_
              refine v_iload 57 hE dX0_clearColumn_55 rfl rfl ?_
              refine rX_row 58 hE (by omega) dX0_clearColumn_57 rfl ?_
              refine v_aload_n 59 hE dX0_clearColumn_58 rfl rfl ?_
              refine gX_rows 62 hE f_0 f_1 dX0_clearColumn_59 rfl ?_
              refine v_iload_n 63 hE dX0_clearColumn_62 rfl rfl ?_
              refine rX_row 64 hE (by omega) dX0_clearColumn_63 rfl ?_
              refine v_iload_n 65 hE dX0_clearColumn_64 rfl rfl ?_
              refine v_cvE 68 hE (v_runV 3 hE (vSub.self hE) (kX0_combine _ Y (xs_row u R) _ _ _ (by omega) (by omega) (by omega) (by omega)) gX0_clearColumn_X0_combine rfl (by decide +kernel) rfl (q0 := 4) rfl rfl ⟨rfl, rfl, by decide, by decide⟩ rfl (Nat.le_of_ble_eq_true rfl) dX0_clearColumn_65) rfl ?_
              refine v_iincN 71 hE [_, _, _, _, _] dX0_clearColumn_68 rfl (by decide) rfl rfl ?_
              refine v_goto hE 12 dX0_clearColumn_71 (by decide) ?_
              refine vV.sub [1, 2, 3, 4, 0] rfl ?_
              exact ih12 _ _ (by omega) (by subst hR; show _ = (if _ then _ else _); first | (rw [if_neg (fun q => q.1 c24)]; done) | (rw [if_neg (fun q => q.2.elim (fun z => z c32) (fun z => z c46))]; done) | (rw [if_pos ⟨c24, Or.inl c32⟩]; done) | (rw [if_pos ⟨c24, Or.inr c46⟩]; done)) (by omega)
  exact L12 (x_rc u + 1) _ (x_row u) (by omega) rfl (by omega)
set_option maxRecDepth 100000 in
set_option maxHeartbeats 4000000 in
theorem kX0_eliminate (l : Launch) (Y : yG) (u : XS)  (hrc : x_rc u ≤ 12) : mV l (gX Y) yX0_eliminate wsX0_eliminate ({ frames := 3, cells := 0, slots := 0, locals := 76 }) [.ref (yA Y 4)] u (xE u (elimN (x_rc u) 25 (0, 1, x_row u, fun _ => none, fun _ => none))) := by
  refine mV_of (cc := cX0_eliminate) (nL := 3) (own := RX0) (by decide) rfl rfl (fun v => cX_geo Y _ v) (Nat.le_of_ble_eq_true rfl) ?_
  intro K hKl hE hret
  have f_0 : ∀ w ∈ u_ws RX0 TX0 8, w ∈ wsX0_eliminate := by decide +kernel
  have f_1 : Cond.fieldLink RX0 75 "TrafficMatrix$Equations" "pivotCount" "I" ∈ wsX0_eliminate := by decide +kernel
  have f_2 : Cond.fieldLink RX0 78 "TrafficMatrix$Equations" "pivot" "J" ∈ wsX0_eliminate := by decide +kernel
  have f_3 : Cond.fieldLink RX0 16 "TrafficMatrix$Equations" "rowOfPivot" "[I" ∈ wsX0_eliminate := by decide +kernel
  have f_4 : Cond.fieldLink RX0 20 "TrafficMatrix$Equations" "pivotOfRow" "[I" ∈ wsX0_eliminate := by decide +kernel
  show vV K (gX Y) u [(0, .ref (yA Y 4))] [] 0
  refine v_aload_n 1 hE dX0_eliminate_0 rfl rfl ?_
  refine v_iconst 2 hE (v := nI 0) dX0_eliminate_1 (by decide) rfl ?_
  refine pX_pivotCount 5 hE f_0 f_1 dX0_eliminate_2 rfl ?_
  refine v_aload_n 6 hE dX0_eliminate_5 rfl rfl ?_
  refine v_lconst 7 hE (v := 1) dX0_eliminate_6 (by decide) rfl ?_
  refine pX_pivot 10 hE f_0 f_2 dX0_eliminate_7 rfl ?_
  refine v_aload_n 11 hE dX0_eliminate_10 rfl rfl ?_
  refine gX_rowOfPivot 14 hE f_0 f_3 dX0_eliminate_11 rfl ?_
  refine v_iconst 15 hE (v := -1) dX0_eliminate_14 (by decide) rfl ?_
  refine fX_rop 18 hE gX0_eliminate_J7_fill_53178 ⟨by decide, by decide⟩ (Nat.le_of_ble_eq_true rfl) dX0_eliminate_15 rfl ?_
  refine v_aload_n 19 hE dX0_eliminate_18 rfl rfl ?_
  refine gX_pivotOfRow 22 hE f_0 f_4 dX0_eliminate_19 rfl ?_
  refine v_iconst 23 hE (v := -1) dX0_eliminate_22 (by decide) rfl ?_
  refine fX_por 26 hE gX0_eliminate_J7_fill_53178 ⟨by decide, by decide⟩ (Nat.le_of_ble_eq_true rfl) dX0_eliminate_23 rfl ?_
  refine v_iconst 27 hE (v := nI 0) dX0_eliminate_26 (by decide) rfl ?_
  refine v_istore_n 28 hE [_, _] dX0_eliminate_27 rfl (by decide) rfl rfl ?_
  refine vV.sub [1, 0] rfl ?_
  have L28 : ∀ (n28 : Nat) (i : Nat) (z : eZ), (i ≤ 25) → (z = elimN (x_rc u) i (0, 1, x_row u, fun _ => none, fun _ => none)) → 25 + 1 ≤ i + n28 → vV K (gX Y) (xE u z) [(0, .ref (yA Y 4)), (1, .int (nI i))] [] 28 := by
    intro n28
    induction n28 with
    | zero => intro i z hi hz hfu28; exact absurd hfu28 (by omega)
    | succ n28 ih28 =>
      intro i z hi hz hfu28
      refine v_iload_n 29 hE dX0_eliminate_28 rfl rfl ?_
      refine v_bipush 31 hE (v := nI 25) dX0_eliminate_29 (by decide) rfl ?_
      refine v_ic_geN 34 hE 81 dX0_eliminate_31 (by decide) (by omega) (by omega) rfl (fun c31 => ?_) (fun c31 => ?_)
      · exact (hret _ _ dX0_eliminate_81).cast (by rw [hz, show i = 25 by omega]) rfl
      · obtain ⟨hzp, hzr, hzo⟩ : z.1 ≤ i ∧ (∀ s k, z.2.2.2.1 s = some k → k < x_rc u) ∧ ∀ r k, z.2.2.2.2 r = some k → k < 25 := by rw [hz]; exact elimN_ok rfl (fun s k q => by cases q) (fun s k q => by cases q) i (by omega)
        have hEz : okE (xE u z) := ⟨hrc, fun s k q => Nat.lt_of_lt_of_le (hzr s k q) hrc, hzo⟩
        refine v_aload_n 35 hE dX0_eliminate_34 rfl rfl ?_
        refine v_iload_n 36 hE dX0_eliminate_35 rfl rfl ?_
        refine v_ciE 39 hE (v_runV 1 hE (vSub.self hE) (kX0_findPivotRow _ Y (xE u z) _ hEz (by omega)) gX0_eliminate_X0_findPivotRow rfl (by decide +kernel) rfl (q0 := 4) rfl rfl ⟨rfl, rfl, by decide, by decide⟩ rfl (Nat.le_of_ble_eq_true rfl) dX0_eliminate_36) rfl ?_
        show vV K (gX Y) _ _ (.int (oI (-1) (pivR (x_rc u) (z.2.2.1) (z.2.2.2.2) _)) :: _) _
        refine v_istore_n 40 hE [_, _, _] dX0_eliminate_39 rfl (by decide) rfl rfl ?_
        refine v_iload_n 41 hE dX0_eliminate_40 rfl rfl ?_
        refine v_iconst 42 hE (v := -1) dX0_eliminate_41 (by decide) rfl ?_
        refine v_ic_eq 45 hE 75 dX0_eliminate_42 (by decide) rfl (fun c42 => ?_) (fun c42 => ?_)
        · refine v_iincN 78 hE [_, _, _] dX0_eliminate_75 rfl (by decide) rfl rfl ?_
          refine v_goto hE 28 dX0_eliminate_78 (by decide) ?_
          refine vV.sub [2, 0] rfl ?_
          exact (by first | (have hq0 : pivR (x_rc u) z.2.2.1 z.2.2.2.2 i = none := (oI_n (fun k hk => (fstN_some.mp hk).1) (Nat.le_trans hrc (by decide))).mp c42; exact ih28 _ z (by omega) (by rw [show elimN (x_rc u) (i + 1) (0, 1, x_row u, fun _ => none, fun _ => none) = elim1 (x_rc u) i z by rw [hz]; rfl]; unfold elim1; rw [hq0]) (by omega)) | exact ih28 _ (z.1 + 1, z.2.2.1 p i, clr i p z.2.1 (z.2.2.1 p i) z.2.2.1 (x_rc u), va_up z.2.2.2.1 i (some p), va_up z.2.2.2.2 p (some i)) (by omega) (by rw [show elimN (x_rc u) (i + 1) (0, 1, x_row u, fun _ => none, fun _ => none) = elim1 (x_rc u) i z by rw [hz]; rfl]; unfold elim1; rw [hq]) (by omega))
        · obtain ⟨p, hq⟩ := oI_some c42
          have hp := (fstN_some.mp hq).1
          rw [hq]
          show vV K (gX Y) _ [(2, .int (nI p)), _, _] _ _
          refine v_aload_n 46 hE dX0_eliminate_45 rfl rfl ?_
          refine v_iload_n 47 hE dX0_eliminate_46 rfl rfl ?_
          refine v_iload_n 48 hE dX0_eliminate_47 rfl rfl ?_
          refine v_cvE 51 hE (v_runV 2 hE (vSub.self hE) (kX0_clearColumn _ Y (xE u z) _ _ hEz (by omega) (by omega)) gX0_eliminate_X0_clearColumn rfl (by decide +kernel) rfl (q0 := 4) rfl rfl ⟨rfl, rfl, by decide, by decide⟩ rfl (Nat.le_of_ble_eq_true rfl) dX0_eliminate_48) rfl ?_
          refine v_aload_n 52 hE dX0_eliminate_51 rfl rfl ?_
          refine gX_rowOfPivot 55 hE f_0 f_3 dX0_eliminate_52 rfl ?_
          refine v_iload_n 56 hE dX0_eliminate_55 rfl rfl ?_
          refine v_iload_n 57 hE dX0_eliminate_56 rfl rfl ?_
          refine sX_rop 58 hE (x := some p) (by omega) dX0_eliminate_57 rfl ?_
          refine v_aload_n 59 hE dX0_eliminate_58 rfl rfl ?_
          refine gX_pivotOfRow 62 hE f_0 f_4 dX0_eliminate_59 rfl ?_
          refine v_iload_n 63 hE dX0_eliminate_62 rfl rfl ?_
          refine v_iload_n 64 hE dX0_eliminate_63 rfl rfl ?_
          refine sX_por 65 hE (x := some i) (by omega) dX0_eliminate_64 rfl ?_
          refine v_aload_n 66 hE dX0_eliminate_65 rfl rfl ?_
          refine v_dup 67 hE dX0_eliminate_66 rfl rfl ?_
          refine gX_pivotCount 70 hE f_0 f_1 dX0_eliminate_67 rfl ?_
          show vV K (gX Y) _ _ (.int (nI (z.1)) :: _) _
          refine v_iconst 71 hE (v := nI 1) dX0_eliminate_70 (by decide) rfl ?_
          refine v_iaddN 72 hE dX0_eliminate_71 rfl ?_
          refine pX_pivotCount 75 hE f_0 f_1 dX0_eliminate_72 rfl ?_
          refine v_iincN 78 hE [_, _, _] dX0_eliminate_75 rfl (by decide) rfl rfl ?_
          refine v_goto hE 28 dX0_eliminate_78 (by decide) ?_
          refine vV.sub [2, 0] rfl ?_
          exact (by first | (have hq0 : pivR (x_rc u) z.2.2.1 z.2.2.2.2 i = none := (oI_n (fun k hk => (fstN_some.mp hk).1) (Nat.le_trans hrc (by decide))).mp c42; exact ih28 _ z (by omega) (by rw [show elimN (x_rc u) (i + 1) (0, 1, x_row u, fun _ => none, fun _ => none) = elim1 (x_rc u) i z by rw [hz]; rfl]; unfold elim1; rw [hq0]) (by omega)) | exact ih28 _ (z.1 + 1, z.2.2.1 p i, clr i p z.2.1 (z.2.2.1 p i) z.2.2.1 (x_rc u), va_up z.2.2.2.1 i (some p), va_up z.2.2.2.2 p (some i)) (by omega) (by rw [show elimN (x_rc u) (i + 1) (0, 1, x_row u, fun _ => none, fun _ => none) = elim1 (x_rc u) i z by rw [hz]; rfl]; unfold elim1; rw [hq]) (by omega))
  exact L28 (25 + 1) 0 (0, 1, x_row u, fun _ => none, fun _ => none) (by omega) rfl (by omega)
