/-! TrafficMatrix: what each call answers, and the state behind it -/
def ndx (v : Int32) : Nat := v.toNatClampNeg
theorem ndx_nI {k : Nat} (h : k < 2 ^ 31) : ndx (nI k) = k := nI_clamp h
def pairE (n : Nat) (s t : Int32) : Int32 := if inB s n then (if inB t n then (if s = t then -2 else 0) else -1) else -1
theorem pairE_0 {n : Nat} {s t : Int32} (hn : n ≤ 5) (h : pairE n s t = 0) : ∃ a b : Nat, a < n ∧ b < n ∧ s = nI a ∧ t = nI b ∧ ¬ a = b := by
  unfold pairE at h
  split at h
  · rename_i h1
    split at h
    · rename_i h2
      split at h
      · exact absurd h (by decide)
      · rename_i h3
        obtain ⟨a, ha, rfl⟩ := inB_t (by omega) h1
        obtain ⟨b, hb, rfl⟩ := inB_t (by omega) h2
        exact ⟨a, b, ha, hb, rfl, rfl, fun e => h3 (by rw [e])⟩
    · exact absurd h (by decide)
  · exact absurd h (by decide)
def slot (s t : Int32) : Nat := ndx s * 5 + ndx t
theorem slot_nI {a b : Nat} (ha : a < 5) (hb : b < 5) : slot (nI a) (nI b) = a * 5 + b := by unfold slot; rw [ndx_nI (by omega), ndx_nI (by omega)]
def routeE (n : Nat) (len : Nat → Nat) (s t : Int32) : Int32 := if pairE n s t = 0 then (if uHas len (slot s t) then 0 else -6) else pairE n s t
theorem routeE_0 {n : Nat} {len : Nat → Nat} {s t : Int32} (h : routeE n len s t = 0) : pairE n s t = 0 ∧ uHas len (slot s t) = true := by
  unfold routeE at h
  split at h
  · rename_i h1
    split at h
    · rename_i h2
      exact ⟨h1, h2⟩
    · exact absurd h (by decide)
  · rename_i h1
    exact absurd h h1
def isIn (lo hi : Nat) (k : Int32) : Bool := if k < nI lo then false else if nI hi < k then false else true
theorem isIn_t {lo hi : Nat} {k : Int32} (hh : hi + 1 < 2 ^ 31) (hl : lo < 2 ^ 31) (h : isIn lo hi k = true) : ∃ j : Nat, lo ≤ j ∧ j ≤ hi ∧ k = nI j := by
  unfold isIn at h
  split at h
  · cases h
  · rename_i h1
    split at h
    · cases h
    · rename_i h2
      rcases pk_ix k (n := hi + 1) (by omega) with q | q | ⟨j, hj, rfl⟩
      · exact absurd (Int32.lt_of_lt_of_le q (nI_pos' hl)) h1
      · exact absurd (Int32.lt_of_lt_of_le (nI_lt (Nat.lt_succ_self hi) (by omega)) q) h2
      · exact ⟨j, Nat.not_lt.mp (fun q => h1 (nI_lt q (by omega))), by omega, rfl⟩
abbrev xReset (u : XS) (k : Nat) : XS := xs_val (xs_pv (xs_inn (xs_out (xs_load (xs_dem (xs_len (xs_m (xs_n u k) 0) (fun _ => 0)) (fun _ => 0)) (fun _ => 0)) (fun _ => 0)) (fun _ => 0)) (fun _ => -1)) (fun _ => 0)
def aReset (u : XS) (k : Int32) : Int32 × XS := if k < nI 2 then (-4, u) else if k ≤ nI 5 then (nI (x_m u), xReset u (ndx k)) else (-4, u)
abbrev xAdd (u : XS) (s t k : Nat) : XS := xRoutes (xs_m (xs_met (xs_tgt (xs_src u (va_up (x_src u) (x_m u) s)) (va_up (x_tgt u) (x_m u) t)) (va_up (x_met u) (x_m u) k)) (x_m u + 1))
def aAdd (u : XS) (s t k : Int32) : Int32 × XS := if pairE (x_n u) s t = 0 then (if isIn 1 99 k then (if x_m u < 12 then (nI (x_m u), xAdd u (ndx s) (ndx t) (ndx k)) else (-5, u)) else (-4, u)) else (pairE (x_n u) s t, u)
def aSetMet (u : XS) (j k : Int32) : Int32 × XS := if inB j (x_m u) then (if isIn 1 99 k then (nI (x_met u (ndx j)), xRoutes (xs_met u (va_up (x_met u) (ndx j) (ndx k)))) else (-4, u)) else (-3, u)
def aRLen (u : XS) (s t : Int32) : Int32 := if routeE (x_n u) (x_len u) s t = 0 then nI (x_len u (slot s t)) else routeE (x_n u) (x_len u) s t
def aRLink (u : XS) (s t k : Int32) : Int32 := if routeE (x_n u) (x_len u) s t = 0 then (if k < 0 then -4 else if k < nI (x_len u (slot s t)) then nI (x_lnk u (slot s t) (ndx k)) else -4) else routeE (x_n u) (x_len u) s t
def aSetDem (u : XS) (s t v : Int32) : Int32 × XS := if pairE (x_n u) s t = 0 then (if v < 0 then (-4, u) else if v ≤ nI 9999 then (x_dem u (slot s t), xs_dem u (va_up (x_dem u) (slot s t) v)) else (-4, u)) else (pairE (x_n u) s t, u)
def aCarr (u : XS) (k : Int32) : Int32 := if inB k (x_m u) then ldOf (uUses (x_len u) (x_lnk u)) (x_dem u) (ndx k) else -3
def aSetLoad (u : XS) (k v : Int32) : Int32 × XS := if inB k (x_m u) then (if v < 0 then (-4, u) else if v ≤ nI 199980 then (x_load u (ndx k), xs_load u (va_up (x_load u) (ndx k) v)) else (-4, u)) else (-3, u)
def aLoad (u : XS) (k : Int32) : Int32 := if inB k (x_m u) then x_load u (ndx k) else -3
def aOut (u : XS) (k : Int32) : Int32 := if inB k (x_n u) then x_out u (ndx k) else -1
def aIn (u : XS) (k : Int32) : Int32 := if inB k (x_n u) then x_inn u (ndx k) else -1
def aMPair (u : XS) (s t : Int32) : Int32 × XS := if routeE (x_n u) (x_len u) s t = 0 then (x_dem u (slot s t), xs_pv u (va_up (x_pv u) (slot s t) (x_dem u (slot s t)))) else (routeE (x_n u) (x_len u) s t, u)
def aFPair (u : XS) (s t : Int32) : Int32 × XS := if pairE (x_n u) s t = 0 then (if uPair (x_pv u) (slot s t) then (x_pv u (slot s t), xs_pv u (va_up (x_pv u) (slot s t) (-1))) else (-7, u)) else (pairE (x_n u) s t, u)
abbrev xDet (u : XS) (s : Nat) : Bool := uDet (x_kn (xSolve u)) (x_rop (xSolve u)) (x_row (xSolve u)) s
abbrev xSol (u : XS) : Bool := uSol (x_rc (xSolve u)) (x_row (xSolve u)) (x_por (xSolve u))
def aIdent (u : XS) (s t : Int32) : Int32 × XS := if routeE (x_n u) (x_len u) s t = 0 then (bI (xDet u (slot s t)), xSolve u) else (routeE (x_n u) (x_len u) s t, u)
def aFind (u : XS) (s t : Int32) : Bool × XS := if routeE (x_n u) (x_len u) s t = 0 then (xDet u (slot s t) && xSol u, xSolve u) else (false, u)
theorem aFind_pos {u : XS} {s t : Int32} (h : routeE (x_n u) (x_len u) s t = 0) : aFind u s t = (xDet u (slot s t) && xSol u, xSolve u) := if_pos h
theorem aFind_neg {u : XS} {s t : Int32} (h : ¬ routeE (x_n u) (x_len u) s t = 0) : aFind u s t = (false, u) := if_neg h
theorem and_ff {a b : Bool} (h : a = false) : (a && b) = false := by rw [h]; rfl
theorem and_tf {a b : Bool} (h : b = false) : (a && b) = false := by rw [h]; exact Bool.and_false _
theorem and_tt {a b : Bool} (h : a = true) (g : b = true) : (a && b) = true := by rw [h, g]; rfl
def aNum (u : XS) (s t : Int32) : Int64 := if (aFind u s t).1 then uNum (x_rop (xSolve u)) (x_row (xSolve u)) (x_piv (xSolve u)) (x_pv u) (slot s t) else -9223372036854775808
def aDen (u : XS) (s t : Int32) : Int64 := if (aFind u s t).1 then uDen (x_rop (xSolve u)) (x_row (xSolve u)) (x_piv (xSolve u)) (slot s t) else -9223372036854775808
def bestN (ok : Nat → Bool) (cnt : Nat → Nat) : Nat → Option Nat × Nat
  | 0 => (none, 0)
  | i + 1 => if ok i && decide ((bestN ok cnt i).2 < cnt i) then (some i, cnt i) else bestN ok cnt i
def bpI (x : Option Nat) : Int32 := match x with
  | none => -7
  | some s => nI (10 * (s / 5) + s % 5)
abbrev xCntW (u : XS) (q : Nat) : Nat := cntN (fun s => uHas (x_len u) s && uDetW (x_kn u) (x_rop u) (x_row u) q s) 25
def aBest (u : XS) : Int32 := bpI (bestN (fun s => uHas (x_len u) s && !xDet u s) (xCntW (xSolve u)) 25).1
def aOnL (u : XS) (k : Int32) : Int32 := if inB k (x_m u) then nI (cntN (fun s => uUses (x_len u) (x_lnk u) s (ndx k)) 25) else -3
def iterF (F : (Nat → Int64) → Nat → Int64) : Nat → (Nat → Int64) → Nat → Int64
  | 0, f => f
  | k + 1, f => F (iterF F k f)
theorem iterF_s (F : (Nat → Int64) → Nat → Int64) (k : Nat) (f : Nat → Int64) : iterF F (k + 1) f = F (iterF F k f) := rfl
abbrev xRem (u : XS) : XS := xs_rem u (va_cpy (x_val u) (x_rem u) 0 0 25)
abbrev xFT (u : XS) (k : Nat) : XS := xs_val (xRem u) (iterF (fitT (x_out u) (x_inn u)) k (x_val u))
abbrev xFK (u : XS) (k : Nat) : XS := xs_val (xRem u) (iterF (fitK (uUses (x_len u) (x_lnk u)) (x_load u) (x_m u)) k (x_val u))
def aFitT (u : XS) (k : Int32) : Int32 × XS := if isIn 1 50 k then (nI (chgN (x_val (xFT u (ndx k))) (x_rem (xFT u (ndx k)))), xFT u (ndx k)) else (-4, u)
def aFitK (u : XS) (k : Int32) : Int32 × XS := if isIn 1 50 k then (nI (chgN (x_val (xFK u (ndx k))) (x_rem (xFK u (ndx k)))), xFK u (ndx k)) else (-4, u)
def aEst (u : XS) (s t : Int32) : Int64 := if pairE (x_n u) s t = 0 then x_val u (slot s t) else -9223372036854775808
def aRes (u : XS) (k : Int32) : Int64 := if inB k (x_m u) then linkS (uUses (x_len u) (x_lnk u)) (x_val u) (ndx k) - 1000 * (x_load u (ndx k)).toInt64 else -9223372036854775808
def aErr (u : XS) : Int64 := sumL (fun s => if uHas (x_len u) s then absL (x_val u s - 1000 * (x_dem u s).toInt64) else 0) 25
set_option maxRecDepth 100000 in
set_option maxHeartbeats 4000000 in
theorem kX4_isMetric (l : Launch) (Y : yG) (u : XS) (k : Int32)  : mI l (gX Y) yX4_isMetric wsX4_isMetric ({ frames := 0, cells := 0, slots := 0, locals := 0 }) [.int k] u (bI (isIn 1 99 k)) u := by
  refine mB_of (cc := cX4_isMetric) (nL := 1) (own := RX4) (by decide) rfl rfl (fun v => cX_geo Y _ v) (Nat.le_of_ble_eq_true rfl) ?_
  intro K hKl hE hret
  show vV K (gX Y) u [(0, .int k)] [] 0
  refine v_iload_n 1 hE dX4_isMetric_0 rfl rfl ?_
  refine v_iconst 2 hE (v := nI 1) dX4_isMetric_1 (by decide) rfl ?_
  refine v_ic_lt 5 hE 15 dX4_isMetric_2 (by decide) rfl (fun c2 => ?_) (fun c2 => ?_)
  · refine v_iconst 16 hE (v := nI 0) dX4_isMetric_15 (by decide) rfl ?_
    exact (hret _ _ dX4_isMetric_16).cast rfl (rB0 (by simp [isIn, c2]))
  · refine v_iload_n 6 hE dX4_isMetric_5 rfl rfl ?_
    refine v_bipush 8 hE (v := nI 99) dX4_isMetric_6 (by decide) rfl ?_
    refine v_ic_gt 11 hE 15 dX4_isMetric_8 (by decide) rfl (fun c8 => ?_) (fun c8 => ?_)
    · refine v_iconst 16 hE (v := nI 0) dX4_isMetric_15 (by decide) rfl ?_
      exact (hret _ _ dX4_isMetric_16).cast rfl (rB0 (by simp [isIn, c2, c8]))
    · refine v_iconst 12 hE (v := nI 1) dX4_isMetric_11 (by decide) rfl ?_
      refine v_goto hE 16 dX4_isMetric_12 (by decide) ?_
      exact (hret _ _ dX4_isMetric_16).cast rfl (rB1 (by simp [isIn, c2, c8]))
set_option maxRecDepth 100000 in
set_option maxHeartbeats 4000000 in
theorem kX4_isTimes (l : Launch) (Y : yG) (u : XS) (k : Int32)  : mI l (gX Y) yX4_isTimes wsX4_isTimes ({ frames := 0, cells := 0, slots := 0, locals := 0 }) [.int k] u (bI (isIn 1 50 k)) u := by
  refine mB_of (cc := cX4_isTimes) (nL := 1) (own := RX4) (by decide) rfl rfl (fun v => cX_geo Y _ v) (Nat.le_of_ble_eq_true rfl) ?_
  intro K hKl hE hret
  show vV K (gX Y) u [(0, .int k)] [] 0
  refine v_iload_n 1 hE dX4_isTimes_0 rfl rfl ?_
  refine v_iconst 2 hE (v := nI 1) dX4_isTimes_1 (by decide) rfl ?_
  refine v_ic_lt 5 hE 15 dX4_isTimes_2 (by decide) rfl (fun c2 => ?_) (fun c2 => ?_)
  · refine v_iconst 16 hE (v := nI 0) dX4_isTimes_15 (by decide) rfl ?_
    exact (hret _ _ dX4_isTimes_16).cast rfl (rB0 (by simp [isIn, c2]))
  · refine v_iload_n 6 hE dX4_isTimes_5 rfl rfl ?_
    refine v_bipush 8 hE (v := nI 50) dX4_isTimes_6 (by decide) rfl ?_
    refine v_ic_gt 11 hE 15 dX4_isTimes_8 (by decide) rfl (fun c8 => ?_) (fun c8 => ?_)
    · refine v_iconst 16 hE (v := nI 0) dX4_isTimes_15 (by decide) rfl ?_
      exact (hret _ _ dX4_isTimes_16).cast rfl (rB0 (by simp [isIn, c2, c8]))
    · refine v_iconst 12 hE (v := nI 1) dX4_isTimes_11 (by decide) rfl ?_
      refine v_goto hE 16 dX4_isTimes_12 (by decide) ?_
      exact (hret _ _ dX4_isTimes_16).cast rfl (rB1 (by simp [isIn, c2, c8]))
set_option maxRecDepth 100000 in
set_option maxHeartbeats 4000000 in
theorem kX4_pairError (l : Launch) (Y : yG) (u : XS) (s t : Int32) (hok : okN u) : mI l (gX Y) yX4_pairError wsX4_pairError ({ frames := 1, cells := 0, slots := 0, locals := 21 }) [.ref (yA Y 0), .int s, .int t] u (pairE (x_n u) s t) u := by
  refine mI_of (cc := cX4_pairError) (nL := 3) (own := RX4) (by decide) rfl rfl (fun v => cX_geo Y _ v) (Nat.le_of_ble_eq_true rfl) ?_
  intro K hKl hE hret
  have f_0 : ∀ w ∈ u_ws RX4 TX4 5, w ∈ wsX4_pairError := by decide +kernel
  have f_1 : Cond.fieldLink RX4 14 "TrafficMatrix" "network" "LTrafficMatrix$Network;" ∈ wsX4_pairError := by decide +kernel
  show vV K (gX Y) u [(0, .ref (yA Y 0)), (1, .int s), (2, .int t)] [] 0
  refine v_aload_n 1 hE dX4_pairError_0 rfl rfl ?_
  refine gX_network 4 hE f_0 f_1 dX4_pairError_1 rfl ?_
  refine v_iload_n 5 hE dX4_pairError_4 rfl rfl ?_
  refine v_ciE 8 hE (v_runV 1 hE (vSub.self hE) (kX3_hasNode _ Y _ _ hok) gX4_pairError_X3_hasNode rfl (by decide +kernel) rfl (q0 := 1) rfl rfl ⟨rfl, rfl, by decide, by decide⟩ rfl (Nat.le_of_ble_eq_true rfl) dX4_pairError_5) rfl ?_
  refine v_if_eqB 11 hE 22 dX4_pairError_8 (by decide) rfl (fun c8 => ?_) (fun c8 => ?_)
  · refine v_iconst 23 hE (v := -1) dX4_pairError_22 (by decide) rfl ?_
    exact (hret _ _ dX4_pairError_23).cast rfl (rI (by simp [pairE, c8]))
  · refine v_aload_n 12 hE dX4_pairError_11 rfl rfl ?_
    refine gX_network 15 hE f_0 f_1 dX4_pairError_12 rfl ?_
    refine v_iload_n 16 hE dX4_pairError_15 rfl rfl ?_
    refine v_ciE 19 hE (v_runV 1 hE (vSub.self hE) (kX3_hasNode _ Y _ _ hok) gX4_pairError_X3_hasNode rfl (by decide +kernel) rfl (q0 := 1) rfl rfl ⟨rfl, rfl, by decide, by decide⟩ rfl (Nat.le_of_ble_eq_true rfl) dX4_pairError_16) rfl ?_
    refine v_if_neB 22 hE 24 dX4_pairError_19 (by decide) rfl (fun c19 => ?_) (fun c19 => ?_)
    · refine v_iload_n 25 hE dX4_pairError_24 rfl rfl ?_
      refine v_iload_n 26 hE dX4_pairError_25 rfl rfl ?_
      refine v_ic_ne 29 hE 34 dX4_pairError_26 (by decide) rfl (fun c26 => ?_) (fun c26 => ?_)
      · refine v_iconst 35 hE (v := 0) dX4_pairError_34 (by decide) rfl ?_
        exact (hret _ _ dX4_pairError_35).cast rfl (rI (by simp [pairE, c8, c19, c26]))
      · refine v_bipush 31 hE (v := -2) dX4_pairError_29 (by decide) rfl ?_
        refine v_goto hE 35 dX4_pairError_31 (by decide) ?_
        exact (hret _ _ dX4_pairError_35).cast rfl (rI (by simp [pairE, c8, c19, c26]))
    · refine v_iconst 23 hE (v := -1) dX4_pairError_22 (by decide) rfl ?_
      exact (hret _ _ dX4_pairError_23).cast rfl (rI (by simp [pairE, c8, c19]))
set_option maxRecDepth 100000 in
set_option maxHeartbeats 4000000 in
theorem kX4_routeError (l : Launch) (Y : yG) (u : XS) (s t : Int32) (hok : okN u) : mI l (gX Y) yX4_routeError wsX4_routeError ({ frames := 2, cells := 0, slots := 0, locals := 43 }) [.ref (yA Y 0), .int s, .int t] u (routeE (x_n u) (x_len u) s t) u := by
  obtain ⟨hn, hm, hsrc, htgt, hmet, hlen, hlnk⟩ := id hok
  refine mI_of (cc := cX4_routeError) (nL := 4) (own := RX4) (by decide) rfl rfl (fun v => cX_geo Y _ v) (Nat.le_of_ble_eq_true rfl) ?_
  intro K hKl hE hret
  have f_0 : ∀ w ∈ u_ws RX4 TX4 5, w ∈ wsX4_routeError := by decide +kernel
  have f_1 : Cond.fieldLink RX4 14 "TrafficMatrix" "network" "LTrafficMatrix$Network;" ∈ wsX4_routeError := by decide +kernel
  show vV K (gX Y) u [(0, .ref (yA Y 0)), (1, .int s), (2, .int t)] [] 0
  refine v_aload_n 1 hE dX4_routeError_0 rfl rfl ?_
  refine v_iload_n 2 hE dX4_routeError_1 rfl rfl ?_
  refine v_iload_n 3 hE dX4_routeError_2 rfl rfl ?_
  refine v_ciE 6 hE (v_runV 2 hE (vSub.self hE) (kX4_pairError _ Y _ _ _ hok) gX4_routeError_X4_pairError rfl (by decide +kernel) rfl (q0 := 0) rfl rfl ⟨rfl, rfl, by decide, by decide⟩ rfl (Nat.le_of_ble_eq_true rfl) dX4_routeError_3) rfl ?_
  refine v_istore_n 7 hE [_, _, _, _] dX4_routeError_6 rfl (by decide) rfl rfl ?_
  refine v_iload_n 8 hE dX4_routeError_7 rfl rfl ?_
  refine v_if_eq 11 hE 13 dX4_routeError_8 (by decide) rfl (fun c8 => ?_) (fun c8 => ?_)
  · obtain ⟨a, b, ha, hb, rfl, rfl, hab⟩ := pairE_0 hn c8
    have hsl := slot_nI (a := a) (b := b) (by omega) (by omega)
    refine v_aload_n 14 hE dX4_routeError_13 rfl rfl ?_
    refine gX_network 17 hE f_0 f_1 dX4_routeError_14 rfl ?_
    refine v_iload_n 18 hE dX4_routeError_17 rfl rfl ?_
    refine v_iload_n 19 hE dX4_routeError_18 rfl rfl ?_
    refine v_ciE 22 hE (v_runS 2 hE (vSub.self hE) (kX4_slotOf _ Y _ _ _) gX4_routeError_X4_slotOf rfl (by decide +kernel) rfl ⟨rfl, rfl, by decide, by decide⟩ rfl (Nat.le_of_ble_eq_true rfl) dX4_routeError_19) rfl ?_
    refine v_ciE 25 hE (v_runV 1 hE (vSub.self hE) (kX3_hasRoute _ Y _ _ hok (by omega)) gX4_routeError_X3_hasRoute rfl (by decide +kernel) rfl (q0 := 1) rfl rfl ⟨rfl, rfl, by decide, by decide⟩ rfl (Nat.le_of_ble_eq_true rfl) dX4_routeError_22) rfl ?_
    refine v_if_eqB 28 hE 32 dX4_routeError_25 (by decide) rfl (fun c25 => ?_) (fun c25 => ?_)
    · refine v_bipush 34 hE (v := -6) dX4_routeError_32 (by decide) rfl ?_
      exact (hret _ _ dX4_routeError_34).cast rfl (rI (by unfold routeE; rw [if_pos c8, hsl, c25]; rfl))
    · refine v_iconst 29 hE (v := 0) dX4_routeError_28 (by decide) rfl ?_
      refine v_goto hE 34 dX4_routeError_29 (by decide) ?_
      exact (hret _ _ dX4_routeError_34).cast rfl (rI (by unfold routeE; rw [if_pos c8, hsl, c25]; rfl))
  · refine v_iload_n 12 hE dX4_routeError_11 rfl rfl ?_
    exact (hret _ _ dX4_routeError_12).cast rfl (rI (by unfold routeE; rw [if_neg c8]))
set_option maxRecDepth 100000 in
set_option maxHeartbeats 4000000 in
theorem kX4_reset (l : Launch) (Y : yG) (u : XS) (k : Int32) (hok : okN u) : mI l (gX Y) yX4_reset wsX4_reset ({ frames := 2, cells := 0, slots := 0, locals := 44 }) [.ref (yA Y 0), .int k] u ((aReset u k).1) (aReset u k).2 := by
  obtain ⟨hn, hm, hsrc, htgt, hmet, hlen, hlnk⟩ := id hok
  refine mI_of (cc := cX4_reset) (nL := 3) (own := RX4) (by decide) rfl rfl (fun v => cX_geo Y _ v) (Nat.le_of_ble_eq_true rfl) ?_
  intro K hKl hE hret
  have f_0 : ∀ w ∈ u_ws RX4 TX4 5, w ∈ wsX4_reset := by decide +kernel
  have f_1 : Cond.fieldLink RX4 14 "TrafficMatrix" "network" "LTrafficMatrix$Network;" ∈ wsX4_reset := by decide +kernel
  have f_2 : ∀ w ∈ u_ws RX3 TX3 8, w ∈ wsX4_reset := by decide +kernel
  have f_3 : Cond.fieldLink RX4 49 "TrafficMatrix$Network" "linkCount" "I" ∈ wsX4_reset := by decide +kernel
  have f_4 : Cond.fieldLink RX4 18 "TrafficMatrix" "demands" "[I" ∈ wsX4_reset := by decide +kernel
  have f_5 : Cond.fieldLink RX4 25 "TrafficMatrix" "measurements" "LTrafficMatrix$Measurements;" ∈ wsX4_reset := by decide +kernel
  have f_6 : Cond.fieldLink RX4 39 "TrafficMatrix" "estimates" "LTrafficMatrix$Estimates;" ∈ wsX4_reset := by decide +kernel
  show vV K (gX Y) u [(0, .ref (yA Y 0)), (1, .int k)] [] 0
  refine v_iload_n 1 hE dX4_reset_0 rfl rfl ?_
  refine v_iconst 2 hE (v := nI 2) dX4_reset_1 (by decide) rfl ?_
  refine v_ic_lt 5 hE 10 dX4_reset_2 (by decide) rfl (fun c2 => ?_) (fun c2 => ?_)
  · refine v_bipush 12 hE (v := -4) dX4_reset_10 (by decide) rfl ?_
    exact (hret _ _ dX4_reset_12).cast (by simp [aReset, c2]) (rI (by simp [aReset, c2]))
  · refine v_iload_n 6 hE dX4_reset_5 rfl rfl ?_
    refine v_iconst 7 hE (v := nI 5) dX4_reset_6 (by decide) rfl ?_
    refine v_ic_le 10 hE 13 dX4_reset_7 (by decide) rfl (fun c7 => ?_) (fun c7 => ?_)
    · obtain ⟨j, hj2, hj5, rfl⟩ : ∃ j, 2 ≤ j ∧ j ≤ 5 ∧ k = nI j := isIn_t (by decide) (by decide) (by unfold isIn; rw [if_neg c2, if_neg (Int32.not_lt.mpr c7)])
      have hjx := ndx_nI (k := j) (by omega)
      refine v_aload_n 14 hE dX4_reset_13 rfl rfl ?_
      refine gX_network 17 hE f_0 f_1 dX4_reset_14 rfl ?_
      refine gX_linkCount 20 hE f_2 f_3 dX4_reset_17 rfl ?_
      refine v_istore_n 21 hE [_, _, _] dX4_reset_20 rfl (by decide) rfl rfl ?_
      refine v_aload_n 22 hE dX4_reset_21 rfl rfl ?_
      refine gX_network 25 hE f_0 f_1 dX4_reset_22 rfl ?_
      refine v_iload_n 26 hE dX4_reset_25 rfl rfl ?_
      refine v_cvE 29 hE (v_runV 1 hE (vSub.self hE) (kX3_startAnew _ Y _ _) gX4_reset_X3_startAnew rfl (by decide +kernel) rfl (q0 := 1) rfl rfl ⟨rfl, rfl, by decide, by decide⟩ rfl (Nat.le_of_ble_eq_true rfl) dX4_reset_26) rfl ?_
      refine v_aload_n 30 hE dX4_reset_29 rfl rfl ?_
      refine gX_demands 33 hE f_0 f_4 dX4_reset_30 rfl ?_
      refine v_iconst 34 hE (v := 0) dX4_reset_33 (by decide) rfl ?_
      refine fX_dem 37 hE gX4_reset_J7_fill_53178 ⟨by decide, by decide⟩ (Nat.le_of_ble_eq_true rfl) dX4_reset_34 rfl ?_
      refine v_aload_n 38 hE dX4_reset_37 rfl rfl ?_
      refine gX_measurements 41 hE f_0 f_5 dX4_reset_38 rfl ?_
      refine v_cvE 44 hE (v_runV 0 hE (vSub.self hE) (kX2_startAnew _ Y _) gX4_reset_X2_startAnew rfl (by decide +kernel) rfl (q0 := 3) rfl rfl ⟨rfl, rfl, by decide, by decide⟩ rfl (Nat.le_of_ble_eq_true rfl) dX4_reset_41) rfl ?_
      refine v_aload_n 45 hE dX4_reset_44 rfl rfl ?_
      refine gX_estimates 48 hE f_0 f_6 dX4_reset_45 rfl ?_
      refine v_cvE 51 hE (v_runV 0 hE (vSub.self hE) (kX1_startAnew _ Y _) gX4_reset_X1_startAnew rfl (by decide +kernel) rfl (q0 := 5) rfl rfl ⟨rfl, rfl, by decide, by decide⟩ rfl (Nat.le_of_ble_eq_true rfl) dX4_reset_48) rfl ?_
      refine v_iload_n 52 hE dX4_reset_51 rfl rfl ?_
      exact (hret _ _ dX4_reset_52).cast (by unfold aReset; rw [if_neg c2, if_pos c7, hjx]) (rI (by unfold aReset; rw [if_neg c2, if_pos c7]))
    · refine v_bipush 12 hE (v := -4) dX4_reset_10 (by decide) rfl ?_
      exact (hret _ _ dX4_reset_12).cast (by simp [aReset, c2, c7]) (rI (by simp [aReset, c2, c7]))
set_option maxRecDepth 100000 in
set_option maxHeartbeats 4000000 in
theorem kX4_addLink (l : Launch) (Y : yG) (u : XS) (s t k : Int32) (hok : okN u) : mI l (gX Y) yX4_addLink wsX4_addLink ({ frames := 5, cells := 0, slots := 0, locals := 115 }) [.ref (yA Y 0), .int s, .int t, .int k] u ((aAdd u s t k).1) (aAdd u s t k).2 := by
  obtain ⟨hn, hm, hsrc, htgt, hmet, hlen, hlnk⟩ := id hok
  refine mI_of (cc := cX4_addLink) (nL := 5) (own := RX4) (by decide) rfl rfl (fun v => cX_geo Y _ v) (Nat.le_of_ble_eq_true rfl) ?_
  intro K hKl hE hret
  have f_0 : ∀ w ∈ u_ws RX4 TX4 5, w ∈ wsX4_addLink := by decide +kernel
  have f_1 : Cond.fieldLink RX4 14 "TrafficMatrix" "network" "LTrafficMatrix$Network;" ∈ wsX4_addLink := by decide +kernel
  have f_2 : ∀ w ∈ u_ws RX3 TX3 8, w ∈ wsX4_addLink := by decide +kernel
  have f_3 : Cond.fieldLink RX4 49 "TrafficMatrix$Network" "linkCount" "I" ∈ wsX4_addLink := by decide +kernel
  show vV K (gX Y) u [(0, .ref (yA Y 0)), (1, .int s), (2, .int t), (3, .int k)] [] 0
  refine v_aload_n 1 hE dX4_addLink_0 rfl rfl ?_
  refine v_iload_n 2 hE dX4_addLink_1 rfl rfl ?_
  refine v_iload_n 3 hE dX4_addLink_2 rfl rfl ?_
  refine v_ciE 6 hE (v_runV 2 hE (vSub.self hE) (kX4_pairError _ Y _ _ _ hok) gX4_addLink_X4_pairError rfl (by decide +kernel) rfl (q0 := 0) rfl rfl ⟨rfl, rfl, by decide, by decide⟩ rfl (Nat.le_of_ble_eq_true rfl) dX4_addLink_3) rfl ?_
  refine v_istore 8 hE [_, _, _, _, _] dX4_addLink_6 (by decide) rfl rfl ?_
  refine v_iload 10 hE dX4_addLink_8 rfl rfl ?_
  refine v_if_eq 13 hE 16 dX4_addLink_10 (by decide) rfl (fun c10 => ?_) (fun c10 => ?_)
  · obtain ⟨a, b, ha, hb, rfl, rfl, hab⟩ := pairE_0 hn c10
    have hsl := slot_nI (a := a) (b := b) (by omega) (by omega)
    refine v_iload_n 17 hE dX4_addLink_16 rfl rfl ?_
    refine v_ciE 20 hE (v_runS 1 hE (vSub.self hE) (kX4_isMetric _ Y _ _) gX4_addLink_X4_isMetric rfl (by decide +kernel) rfl ⟨rfl, rfl, by decide, by decide⟩ rfl (Nat.le_of_ble_eq_true rfl) dX4_addLink_17) rfl ?_
    refine v_if_neB 23 hE 26 dX4_addLink_20 (by decide) rfl (fun c20 => ?_) (fun c20 => ?_)
    · obtain ⟨j, hj1, hj99, rfl⟩ := isIn_t (by decide) (by decide) c20
      have hjx := ndx_nI (k := j) (by omega)
      have hax := ndx_nI (k := a) (by omega)
      have hbx := ndx_nI (k := b) (by omega)
      refine v_aload_n 27 hE dX4_addLink_26 rfl rfl ?_
      refine gX_network 30 hE f_0 f_1 dX4_addLink_27 rfl ?_
      refine gX_linkCount 33 hE f_2 f_3 dX4_addLink_30 rfl ?_
      refine v_bipush 35 hE (v := nI 12) dX4_addLink_33 (by decide) rfl ?_
      refine v_ic_ltN 38 hE 41 dX4_addLink_35 (by decide) (by omega) (by omega) rfl (fun c35 => ?_) (fun c35 => ?_)
      · refine v_aload_n 42 hE dX4_addLink_41 rfl rfl ?_
        refine gX_network 45 hE f_0 f_1 dX4_addLink_42 rfl ?_
        refine v_iload_n 46 hE dX4_addLink_45 rfl rfl ?_
        refine v_iload_n 47 hE dX4_addLink_46 rfl rfl ?_
        refine v_iload_n 48 hE dX4_addLink_47 rfl rfl ?_
        refine v_ciE 51 hE (v_runV 3 hE (vSub.self hE) (kX3_append _ Y _ _ _ _ hok (by omega) (by omega) (by omega) (by omega)) gX4_addLink_X3_append rfl (by decide +kernel) rfl (q0 := 1) rfl rfl ⟨rfl, rfl, by decide, by decide⟩ rfl (Nat.le_of_ble_eq_true rfl) dX4_addLink_48) rfl ?_
        exact (hret _ _ dX4_addLink_51).cast (by unfold aAdd; rw [if_pos c10, if_pos c20, if_pos c35, hax, hbx, hjx]) (rI (by unfold aAdd; rw [if_pos c10, if_pos c20, if_pos c35]))
      · refine v_bipush 40 hE (v := -5) dX4_addLink_38 (by decide) rfl ?_
        exact (hret _ _ dX4_addLink_40).cast (by simp [aAdd, c10, c20, c35, show ¬ x_m u < 12 by omega]) (rI (by simp [aAdd, c10, c20, c35, show ¬ x_m u < 12 by omega]))
    · refine v_bipush 25 hE (v := -4) dX4_addLink_23 (by decide) rfl ?_
      exact (hret _ _ dX4_addLink_25).cast (by simp [aAdd, c10, c20]) (rI (by simp [aAdd, c10, c20]))
  · refine v_iload 15 hE dX4_addLink_13 rfl rfl ?_
    exact (hret _ _ dX4_addLink_15).cast (by simp [aAdd, c10]) (rI (by simp [aAdd, c10]))
set_option maxRecDepth 100000 in
set_option maxHeartbeats 4000000 in
theorem kX4_setMetric (l : Launch) (Y : yG) (u : XS) (q k : Int32) (hok : okN u) : mI l (gX Y) yX4_setMetric wsX4_setMetric ({ frames := 5, cells := 0, slots := 0, locals := 114 }) [.ref (yA Y 0), .int q, .int k] u ((aSetMet u q k).1) (aSetMet u q k).2 := by
  obtain ⟨hn, hm, hsrc, htgt, hmet, hlen, hlnk⟩ := id hok
  refine mI_of (cc := cX4_setMetric) (nL := 3) (own := RX4) (by decide) rfl rfl (fun v => cX_geo Y _ v) (Nat.le_of_ble_eq_true rfl) ?_
  intro K hKl hE hret
  have f_0 : ∀ w ∈ u_ws RX4 TX4 5, w ∈ wsX4_setMetric := by decide +kernel
  have f_1 : Cond.fieldLink RX4 14 "TrafficMatrix" "network" "LTrafficMatrix$Network;" ∈ wsX4_setMetric := by decide +kernel
  show vV K (gX Y) u [(0, .ref (yA Y 0)), (1, .int q), (2, .int k)] [] 0
  refine v_aload_n 1 hE dX4_setMetric_0 rfl rfl ?_
  refine gX_network 4 hE f_0 f_1 dX4_setMetric_1 rfl ?_
  refine v_iload_n 5 hE dX4_setMetric_4 rfl rfl ?_
  refine v_ciE 8 hE (v_runV 1 hE (vSub.self hE) (kX3_hasLink _ Y _ _ hok) gX4_setMetric_X3_hasLink rfl (by decide +kernel) rfl (q0 := 1) rfl rfl ⟨rfl, rfl, by decide, by decide⟩ rfl (Nat.le_of_ble_eq_true rfl) dX4_setMetric_5) rfl ?_
  refine v_if_neB 11 hE 14 dX4_setMetric_8 (by decide) rfl (fun c8 => ?_) (fun c8 => ?_)
  · refine v_iload_n 15 hE dX4_setMetric_14 rfl rfl ?_
    refine v_ciE 18 hE (v_runS 1 hE (vSub.self hE) (kX4_isMetric _ Y _ _) gX4_setMetric_X4_isMetric rfl (by decide +kernel) rfl ⟨rfl, rfl, by decide, by decide⟩ rfl (Nat.le_of_ble_eq_true rfl) dX4_setMetric_15) rfl ?_
    refine v_if_neB 21 hE 24 dX4_setMetric_18 (by decide) rfl (fun c18 => ?_) (fun c18 => ?_)
    · obtain ⟨j, hj, rfl⟩ := inB_t (by omega) c8
      have hjx := ndx_nI (k := j) (by omega)
      obtain ⟨i, hi1, hi99, rfl⟩ := isIn_t (by decide) (by decide) c18
      have hix := ndx_nI (k := i) (by omega)
      refine v_aload_n 25 hE dX4_setMetric_24 rfl rfl ?_
      refine gX_network 28 hE f_0 f_1 dX4_setMetric_25 rfl ?_
      refine v_iload_n 29 hE dX4_setMetric_28 rfl rfl ?_
      refine v_iload_n 30 hE dX4_setMetric_29 rfl rfl ?_
      refine v_ciE 33 hE (v_runV 2 hE (vSub.self hE) (kX3_replaceMetric _ Y _ _ _ hok (by omega) (by omega)) gX4_setMetric_X3_replaceMetric rfl (by decide +kernel) rfl (q0 := 1) rfl rfl ⟨rfl, rfl, by decide, by decide⟩ rfl (Nat.le_of_ble_eq_true rfl) dX4_setMetric_30) rfl ?_
      exact (hret _ _ dX4_setMetric_33).cast (by unfold aSetMet; rw [if_pos c8, if_pos c18, hjx, hix]) (rI (by unfold aSetMet; rw [if_pos c8, if_pos c18, hjx]))
    · refine v_bipush 23 hE (v := -4) dX4_setMetric_21 (by decide) rfl ?_
      exact (hret _ _ dX4_setMetric_23).cast (by simp [aSetMet, c8, c18]) (rI (by simp [aSetMet, c8, c18]))
  · refine v_bipush 13 hE (v := -3) dX4_setMetric_11 (by decide) rfl ?_
    exact (hret _ _ dX4_setMetric_13).cast (by simp [aSetMet, c8]) (rI (by simp [aSetMet, c8]))
set_option maxRecDepth 100000 in
set_option maxHeartbeats 4000000 in
theorem kX4_routeLength (l : Launch) (Y : yG) (u : XS) (s t : Int32) (hok : okN u) : mI l (gX Y) yX4_routeLength wsX4_routeLength ({ frames := 3, cells := 0, slots := 0, locals := 66 }) [.ref (yA Y 0), .int s, .int t] u (aRLen u s t) u := by
  obtain ⟨hn, hm, hsrc, htgt, hmet, hlen, hlnk⟩ := id hok
  refine mI_of (cc := cX4_routeLength) (nL := 4) (own := RX4) (by decide) rfl rfl (fun v => cX_geo Y _ v) (Nat.le_of_ble_eq_true rfl) ?_
  intro K hKl hE hret
  have f_0 : ∀ w ∈ u_ws RX4 TX4 5, w ∈ wsX4_routeLength := by decide +kernel
  have f_1 : Cond.fieldLink RX4 14 "TrafficMatrix" "network" "LTrafficMatrix$Network;" ∈ wsX4_routeLength := by decide +kernel
  have f_2 : ∀ w ∈ u_ws RX3 TX3 8, w ∈ wsX4_routeLength := by decide +kernel
  have f_3 : Cond.fieldLink RX4 81 "TrafficMatrix$Network" "routeLengths" "[I" ∈ wsX4_routeLength := by decide +kernel
  show vV K (gX Y) u [(0, .ref (yA Y 0)), (1, .int s), (2, .int t)] [] 0
  refine v_aload_n 1 hE dX4_routeLength_0 rfl rfl ?_
  refine v_iload_n 2 hE dX4_routeLength_1 rfl rfl ?_
  refine v_iload_n 3 hE dX4_routeLength_2 rfl rfl ?_
  refine v_ciE 6 hE (v_runV 2 hE (vSub.self hE) (kX4_routeError _ Y _ _ _ hok) gX4_routeLength_X4_routeError rfl (by decide +kernel) rfl (q0 := 0) rfl rfl ⟨rfl, rfl, by decide, by decide⟩ rfl (Nat.le_of_ble_eq_true rfl) dX4_routeLength_3) rfl ?_
  refine v_istore_n 7 hE [_, _, _, _] dX4_routeLength_6 rfl (by decide) rfl rfl ?_
  refine v_iload_n 8 hE dX4_routeLength_7 rfl rfl ?_
  refine v_if_eq 11 hE 13 dX4_routeLength_8 (by decide) rfl (fun c8 => ?_) (fun c8 => ?_)
  · obtain ⟨hpe, hus⟩ := routeE_0 c8
    obtain ⟨a, b, ha, hb, rfl, rfl, hab⟩ := pairE_0 hn hpe
    have hsl := slot_nI (a := a) (b := b) (by omega) (by omega)
    refine v_aload_n 14 hE dX4_routeLength_13 rfl rfl ?_
    refine gX_network 17 hE f_0 f_1 dX4_routeLength_14 rfl ?_
    refine gX_routeLengths 20 hE f_2 f_3 dX4_routeLength_17 rfl ?_
    refine v_iload_n 21 hE dX4_routeLength_20 rfl rfl ?_
    refine v_iload_n 22 hE dX4_routeLength_21 rfl rfl ?_
    refine v_ciE 25 hE (v_runS 2 hE (vSub.self hE) (kX4_slotOf _ Y _ _ _) gX4_routeLength_X4_slotOf rfl (by decide +kernel) rfl ⟨rfl, rfl, by decide, by decide⟩ rfl (Nat.le_of_ble_eq_true rfl) dX4_routeLength_22) rfl ?_
    refine lX_len 26 hE (by omega) dX4_routeLength_25 rfl ?_
    exact (hret _ _ dX4_routeLength_26).cast rfl (rI (by unfold aRLen; rw [if_pos c8, hsl]))
  · refine v_iload_n 12 hE dX4_routeLength_11 rfl rfl ?_
    exact (hret _ _ dX4_routeLength_12).cast rfl (rI (by simp [aRLen, c8]))
set_option maxRecDepth 100000 in
set_option maxHeartbeats 4000000 in
theorem kX4_routeLink (l : Launch) (Y : yG) (u : XS) (s t k : Int32) (hok : okN u) : mI l (gX Y) yX4_routeLink wsX4_routeLink ({ frames := 3, cells := 0, slots := 0, locals := 66 }) [.ref (yA Y 0), .int s, .int t, .int k] u (aRLink u s t k) u := by
  obtain ⟨hn, hm, hsrc, htgt, hmet, hlen, hlnk⟩ := id hok
  refine mI_of (cc := cX4_routeLink) (nL := 6) (own := RX4) (by decide) rfl rfl (fun v => cX_geo Y _ v) (Nat.le_of_ble_eq_true rfl) ?_
  intro K hKl hE hret
  have f_0 : ∀ w ∈ u_ws RX4 TX4 5, w ∈ wsX4_routeLink := by decide +kernel
  have f_1 : Cond.fieldLink RX4 14 "TrafficMatrix" "network" "LTrafficMatrix$Network;" ∈ wsX4_routeLink := by decide +kernel
  have f_2 : ∀ w ∈ u_ws RX3 TX3 8, w ∈ wsX4_routeLink := by decide +kernel
  have f_3 : Cond.fieldLink RX4 81 "TrafficMatrix$Network" "routeLengths" "[I" ∈ wsX4_routeLink := by decide +kernel
  have f_4 : Cond.fieldLink RX4 87 "TrafficMatrix$Network" "routeLinks" "[[I" ∈ wsX4_routeLink := by decide +kernel
  show vV K (gX Y) u [(0, .ref (yA Y 0)), (1, .int s), (2, .int t), (3, .int k)] [] 0
  refine v_aload_n 1 hE dX4_routeLink_0 rfl rfl ?_
  refine v_iload_n 2 hE dX4_routeLink_1 rfl rfl ?_
  refine v_iload_n 3 hE dX4_routeLink_2 rfl rfl ?_
  refine v_ciE 6 hE (v_runV 2 hE (vSub.self hE) (kX4_routeError _ Y _ _ _ hok) gX4_routeLink_X4_routeError rfl (by decide +kernel) rfl (q0 := 0) rfl rfl ⟨rfl, rfl, by decide, by decide⟩ rfl (Nat.le_of_ble_eq_true rfl) dX4_routeLink_3) rfl ?_
  refine v_istore 8 hE [_, _, _, _, _] dX4_routeLink_6 (by decide) rfl rfl ?_
  refine v_iload 10 hE dX4_routeLink_8 rfl rfl ?_
  refine v_if_eq 13 hE 16 dX4_routeLink_10 (by decide) rfl (fun c10 => ?_) (fun c10 => ?_)
  · obtain ⟨hpe, hus⟩ := routeE_0 c10
    obtain ⟨a, b, ha, hb, rfl, rfl, hab⟩ := pairE_0 hn hpe
    have hsl := slot_nI (a := a) (b := b) (by omega) (by omega)
    refine v_iload_n 17 hE dX4_routeLink_16 rfl rfl ?_
    refine v_iload_n 18 hE dX4_routeLink_17 rfl rfl ?_
    refine v_ciE 21 hE (v_runS 2 hE (vSub.self hE) (kX4_slotOf _ Y _ _ _) gX4_routeLink_X4_slotOf rfl (by decide +kernel) rfl ⟨rfl, rfl, by decide, by decide⟩ rfl (Nat.le_of_ble_eq_true rfl) dX4_routeLink_18) rfl ?_
    refine v_istore 23 hE [_, _, _, _, _, _] dX4_routeLink_21 (by decide) rfl rfl ?_
    refine v_iload_n 24 hE dX4_routeLink_23 rfl rfl ?_
    refine v_if_lt 27 hE 41 dX4_routeLink_24 (by decide) rfl (fun c24 => ?_) (fun c24 => ?_)
    · refine v_bipush 43 hE (v := -4) dX4_routeLink_41 (by decide) rfl ?_
      exact (hret _ _ dX4_routeLink_43).cast rfl (rI (by unfold aRLink; rw [if_pos c10, hsl]; first | (rw [if_pos c24]; done) | (rw [if_neg c24, if_neg c38]; done)))
    · refine v_iload_n 28 hE dX4_routeLink_27 rfl rfl ?_
      refine v_aload_n 29 hE dX4_routeLink_28 rfl rfl ?_
      refine gX_network 32 hE f_0 f_1 dX4_routeLink_29 rfl ?_
      refine gX_routeLengths 35 hE f_2 f_3 dX4_routeLink_32 rfl ?_
      refine v_iload 37 hE dX4_routeLink_35 rfl rfl ?_
      refine lX_len 38 hE (by omega) dX4_routeLink_37 rfl ?_
      refine v_ic_lt 41 hE 44 dX4_routeLink_38 (by decide) rfl (fun c38 => ?_) (fun c38 => ?_)
      · have hl4 := hlen (a * 5 + b)
        obtain ⟨j, hj, rfl⟩ : ∃ j, j < x_len u (a * 5 + b) ∧ k = nI j := inB_t (by omega) (by unfold inB; rw [if_neg c24, if_neg (Int32.not_le.mpr c38)])
        have hjx := ndx_nI (k := j) (by omega)
        refine v_aload_n 45 hE dX4_routeLink_44 rfl rfl ?_
        refine gX_network 48 hE f_0 f_1 dX4_routeLink_45 rfl ?_
        refine gX_routeLinks 51 hE f_2 f_4 dX4_routeLink_48 rfl ?_
        refine v_iload 53 hE dX4_routeLink_51 rfl rfl ?_
        refine rX_lnk 54 hE (by omega) dX4_routeLink_53 rfl ?_
        refine v_iload_n 55 hE dX4_routeLink_54 rfl rfl ?_
        refine lX_lnk 56 hE (by omega) (by omega) dX4_routeLink_55 rfl ?_
        exact (hret _ _ dX4_routeLink_56).cast rfl (rI (by unfold aRLink; rw [if_pos c10, hsl, if_neg c24, if_pos c38, hjx]))
      · refine v_bipush 43 hE (v := -4) dX4_routeLink_41 (by decide) rfl ?_
        exact (hret _ _ dX4_routeLink_43).cast rfl (rI (by unfold aRLink; rw [if_pos c10, hsl]; first | (rw [if_pos c24]; done) | (rw [if_neg c24, if_neg c38]; done)))
  · refine v_iload 15 hE dX4_routeLink_13 rfl rfl ?_
    exact (hret _ _ dX4_routeLink_15).cast rfl (rI (by simp [aRLink, c10]))
set_option maxRecDepth 100000 in
set_option maxHeartbeats 4000000 in
theorem kX4_setDemand (l : Launch) (Y : yG) (u : XS) (s t v : Int32) (hok : okN u) : mI l (gX Y) yX4_setDemand wsX4_setDemand ({ frames := 2, cells := 0, slots := 0, locals := 43 }) [.ref (yA Y 0), .int s, .int t, .int v] u ((aSetDem u s t v).1) (aSetDem u s t v).2 := by
  obtain ⟨hn, hm, hsrc, htgt, hmet, hlen, hlnk⟩ := id hok
  refine mI_of (cc := cX4_setDemand) (nL := 7) (own := RX4) (by decide) rfl rfl (fun v => cX_geo Y _ v) (Nat.le_of_ble_eq_true rfl) ?_
  intro K hKl hE hret
  have f_0 : ∀ w ∈ u_ws RX4 TX4 5, w ∈ wsX4_setDemand := by decide +kernel
  have f_1 : Cond.fieldLink RX4 18 "TrafficMatrix" "demands" "[I" ∈ wsX4_setDemand := by decide +kernel
  show vV K (gX Y) u [(0, .ref (yA Y 0)), (1, .int s), (2, .int t), (3, .int v)] [] 0
  refine v_aload_n 1 hE dX4_setDemand_0 rfl rfl ?_
  refine v_iload_n 2 hE dX4_setDemand_1 rfl rfl ?_
  refine v_iload_n 3 hE dX4_setDemand_2 rfl rfl ?_
  refine v_ciE 6 hE (v_runV 2 hE (vSub.self hE) (kX4_pairError _ Y _ _ _ hok) gX4_setDemand_X4_pairError rfl (by decide +kernel) rfl (q0 := 0) rfl rfl ⟨rfl, rfl, by decide, by decide⟩ rfl (Nat.le_of_ble_eq_true rfl) dX4_setDemand_3) rfl ?_
  refine v_istore 8 hE [_, _, _, _, _] dX4_setDemand_6 (by decide) rfl rfl ?_
  refine v_iload 10 hE dX4_setDemand_8 rfl rfl ?_
  refine v_if_eq 13 hE 16 dX4_setDemand_10 (by decide) rfl (fun c10 => ?_) (fun c10 => ?_)
  · refine v_iload_n 17 hE dX4_setDemand_16 rfl rfl ?_
    refine v_if_lt 20 hE 27 dX4_setDemand_17 (by decide) rfl (fun c17 => ?_) (fun c17 => ?_)
    · refine v_bipush 29 hE (v := -4) dX4_setDemand_27 (by decide) rfl ?_
      exact (hret _ _ dX4_setDemand_29).cast (by simp [aSetDem, c10, c17]) (rI (by simp [aSetDem, c10, c17]))
    · refine v_iload_n 21 hE dX4_setDemand_20 rfl rfl ?_
      refine v_sipush 24 hE (v := nI 9999) dX4_setDemand_21 (by decide) rfl ?_
      refine v_ic_le 27 hE 30 dX4_setDemand_24 (by decide) rfl (fun c24 => ?_) (fun c24 => ?_)
      · obtain ⟨a, b, ha, hb, rfl, rfl, hab⟩ := pairE_0 hn c10
        have hsl := slot_nI (a := a) (b := b) (by omega) (by omega)
        refine v_iload_n 31 hE dX4_setDemand_30 rfl rfl ?_
        refine v_iload_n 32 hE dX4_setDemand_31 rfl rfl ?_
        refine v_ciE 35 hE (v_runS 2 hE (vSub.self hE) (kX4_slotOf _ Y _ _ _) gX4_setDemand_X4_slotOf rfl (by decide +kernel) rfl ⟨rfl, rfl, by decide, by decide⟩ rfl (Nat.le_of_ble_eq_true rfl) dX4_setDemand_32) rfl ?_
        refine v_istore 37 hE [_, _, _, _, _, _] dX4_setDemand_35 (by decide) rfl rfl ?_
        refine v_aload_n 38 hE dX4_setDemand_37 rfl rfl ?_
        refine gX_demands 41 hE f_0 f_1 dX4_setDemand_38 rfl ?_
        refine v_iload 43 hE dX4_setDemand_41 rfl rfl ?_
        refine lX_dem 44 hE (by omega) dX4_setDemand_43 rfl ?_
        refine v_istore 46 hE [_, _, _, _, _, _, _] dX4_setDemand_44 (by decide) rfl rfl ?_
        refine v_aload_n 47 hE dX4_setDemand_46 rfl rfl ?_
        refine gX_demands 50 hE f_0 f_1 dX4_setDemand_47 rfl ?_
        refine v_iload 52 hE dX4_setDemand_50 rfl rfl ?_
        refine v_iload_n 53 hE dX4_setDemand_52 rfl rfl ?_
        refine sX_dem 54 hE (by omega) dX4_setDemand_53 rfl ?_
        refine v_iload 56 hE dX4_setDemand_54 rfl rfl ?_
        exact (hret _ _ dX4_setDemand_56).cast (by unfold aSetDem; rw [if_pos c10, if_neg c17, if_pos c24, hsl]) (rI (by unfold aSetDem; rw [if_pos c10, if_neg c17, if_pos c24, hsl]))
      · refine v_bipush 29 hE (v := -4) dX4_setDemand_27 (by decide) rfl ?_
        exact (hret _ _ dX4_setDemand_29).cast (by simp [aSetDem, c10, c17, c24]) (rI (by simp [aSetDem, c10, c17, c24]))
  · refine v_iload 15 hE dX4_setDemand_13 rfl rfl ?_
    exact (hret _ _ dX4_setDemand_15).cast (by simp [aSetDem, c10]) (rI (by simp [aSetDem, c10]))
set_option maxRecDepth 100000 in
set_option maxHeartbeats 4000000 in
theorem kX4_carriedLoad (l : Launch) (Y : yG) (u : XS) (k : Int32) (hok : okN u) : mI l (gX Y) yX4_carriedLoad wsX4_carriedLoad ({ frames := 2, cells := 0, slots := 0, locals := 47 }) [.ref (yA Y 0), .int k] u (aCarr u k) u := by
  obtain ⟨hn, hm, hsrc, htgt, hmet, hlen, hlnk⟩ := id hok
  refine mI_of (cc := cX4_carriedLoad) (nL := 2) (own := RX4) (by decide) rfl rfl (fun v => cX_geo Y _ v) (Nat.le_of_ble_eq_true rfl) ?_
  intro K hKl hE hret
  have f_0 : ∀ w ∈ u_ws RX4 TX4 5, w ∈ wsX4_carriedLoad := by decide +kernel
  have f_1 : Cond.fieldLink RX4 14 "TrafficMatrix" "network" "LTrafficMatrix$Network;" ∈ wsX4_carriedLoad := by decide +kernel
  have f_2 : Cond.fieldLink RX4 18 "TrafficMatrix" "demands" "[I" ∈ wsX4_carriedLoad := by decide +kernel
  show vV K (gX Y) u [(0, .ref (yA Y 0)), (1, .int k)] [] 0
  refine v_aload_n 1 hE dX4_carriedLoad_0 rfl rfl ?_
  refine gX_network 4 hE f_0 f_1 dX4_carriedLoad_1 rfl ?_
  refine v_iload_n 5 hE dX4_carriedLoad_4 rfl rfl ?_
  refine v_ciE 8 hE (v_runV 1 hE (vSub.self hE) (kX3_hasLink _ Y _ _ hok) gX4_carriedLoad_X3_hasLink rfl (by decide +kernel) rfl (q0 := 1) rfl rfl ⟨rfl, rfl, by decide, by decide⟩ rfl (Nat.le_of_ble_eq_true rfl) dX4_carriedLoad_5) rfl ?_
  refine v_if_eqB 11 hE 26 dX4_carriedLoad_8 (by decide) rfl (fun c8 => ?_) (fun c8 => ?_)
  · refine v_bipush 28 hE (v := -3) dX4_carriedLoad_26 (by decide) rfl ?_
    exact (hret _ _ dX4_carriedLoad_28).cast rfl (rI (by first | (unfold aCarr; rw [if_pos c8, hjx]; done) | (simp [aCarr, c8]; done)))
  · obtain ⟨j, hj, rfl⟩ := inB_t (by omega) c8
    have hjx := ndx_nI (k := j) (by omega)
    refine v_aload_n 12 hE dX4_carriedLoad_11 rfl rfl ?_
    refine gX_network 15 hE f_0 f_1 dX4_carriedLoad_12 rfl ?_
    refine v_iload_n 16 hE dX4_carriedLoad_15 rfl rfl ?_
    refine v_aload_n 17 hE dX4_carriedLoad_16 rfl rfl ?_
    refine gX_demands 20 hE f_0 f_2 dX4_carriedLoad_17 rfl ?_
    refine v_ciE 23 hE (v_runV 2 hE (vSub.self hE) (kX3_loadOf _ Y _ _ hok (by omega)) gX4_carriedLoad_X3_loadOf rfl (by decide +kernel) rfl (q0 := 1) rfl rfl ⟨rfl, rfl, by decide, by decide⟩ rfl (Nat.le_of_ble_eq_true rfl) dX4_carriedLoad_20) rfl ?_
    refine v_goto hE 28 dX4_carriedLoad_23 (by decide) ?_
    exact (hret _ _ dX4_carriedLoad_28).cast rfl (rI (by first | (unfold aCarr; rw [if_pos c8, hjx]; done) | (simp [aCarr, c8]; done)))
set_option maxRecDepth 100000 in
set_option maxHeartbeats 4000000 in
theorem kX4_measure (l : Launch) (Y : yG) (u : XS)  (hok : okN u) : mI l (gX Y) yX4_measure wsX4_measure ({ frames := 3, cells := 0, slots := 0, locals := 70 }) [.ref (yA Y 0)] u (sumI (totO (uHas (x_len u)) (x_dem u) 25) 5) (xMeasure u) := by
  obtain ⟨hn, hm, hsrc, htgt, hmet, hlen, hlnk⟩ := id hok
  refine mI_of (cc := cX4_measure) (nL := 1) (own := RX4) (by decide) rfl rfl (fun v => cX_geo Y _ v) (Nat.le_of_ble_eq_true rfl) ?_
  intro K hKl hE hret
  have f_0 : ∀ w ∈ u_ws RX4 TX4 5, w ∈ wsX4_measure := by decide +kernel
  have f_1 : Cond.fieldLink RX4 25 "TrafficMatrix" "measurements" "LTrafficMatrix$Measurements;" ∈ wsX4_measure := by decide +kernel
  have f_2 : Cond.fieldLink RX4 14 "TrafficMatrix" "network" "LTrafficMatrix$Network;" ∈ wsX4_measure := by decide +kernel
  have f_3 : Cond.fieldLink RX4 18 "TrafficMatrix" "demands" "[I" ∈ wsX4_measure := by decide +kernel
  show vV K (gX Y) u [(0, .ref (yA Y 0))] [] 0
  refine v_aload_n 1 hE dX4_measure_0 rfl rfl ?_
  refine gX_measurements 4 hE f_0 f_1 dX4_measure_1 rfl ?_
  refine v_aload_n 5 hE dX4_measure_4 rfl rfl ?_
  refine gX_network 8 hE f_0 f_2 dX4_measure_5 rfl ?_
  refine v_aload_n 9 hE dX4_measure_8 rfl rfl ?_
  refine gX_demands 12 hE f_0 f_3 dX4_measure_9 rfl ?_
  refine v_cvE 15 hE (v_runV 2 hE (vSub.self hE) (kX2_take _ Y _ hok) gX4_measure_X2_take rfl (by decide +kernel) rfl (q0 := 3) rfl rfl ⟨rfl, rfl, by decide, by decide⟩ rfl (Nat.le_of_ble_eq_true rfl) dX4_measure_12) rfl ?_
  refine v_aload_n 16 hE dX4_measure_15 rfl rfl ?_
  refine gX_measurements 19 hE f_0 f_1 dX4_measure_16 rfl ?_
  refine v_ciE 22 hE (v_runV 0 hE (vSub.self hE) (kX2_sumOfOutTotals _ Y _) gX4_measure_X2_sumOfOutTotals rfl (by decide +kernel) rfl (q0 := 3) rfl rfl ⟨rfl, rfl, by decide, by decide⟩ rfl (Nat.le_of_ble_eq_true rfl) dX4_measure_19) rfl ?_
  exact (hret _ _ dX4_measure_22).cast rfl (rI (by simp []))
set_option maxRecDepth 100000 in
set_option maxHeartbeats 4000000 in
theorem kX4_setMeasuredLoad (l : Launch) (Y : yG) (u : XS) (k v : Int32) (hok : okN u) : mI l (gX Y) yX4_setMeasuredLoad wsX4_setMeasuredLoad ({ frames := 1, cells := 0, slots := 0, locals := 21 }) [.ref (yA Y 0), .int k, .int v] u ((aSetLoad u k v).1) (aSetLoad u k v).2 := by
  obtain ⟨hn, hm, hsrc, htgt, hmet, hlen, hlnk⟩ := id hok
  refine mI_of (cc := cX4_setMeasuredLoad) (nL := 4) (own := RX4) (by decide) rfl rfl (fun v => cX_geo Y _ v) (Nat.le_of_ble_eq_true rfl) ?_
  intro K hKl hE hret
  have f_0 : ∀ w ∈ u_ws RX4 TX4 5, w ∈ wsX4_setMeasuredLoad := by decide +kernel
  have f_1 : Cond.fieldLink RX4 14 "TrafficMatrix" "network" "LTrafficMatrix$Network;" ∈ wsX4_setMeasuredLoad := by decide +kernel
  have f_2 : Jvm.Cond.constant RX4 103 199980 ∈ wsX4_setMeasuredLoad := by decide +kernel
  have f_3 : Cond.fieldLink RX4 25 "TrafficMatrix" "measurements" "LTrafficMatrix$Measurements;" ∈ wsX4_setMeasuredLoad := by decide +kernel
  have f_4 : ∀ w ∈ u_ws RX2 TX2 4, w ∈ wsX4_setMeasuredLoad := by decide +kernel
  have f_5 : Cond.fieldLink RX4 104 "TrafficMatrix$Measurements" "loads" "[I" ∈ wsX4_setMeasuredLoad := by decide +kernel
  show vV K (gX Y) u [(0, .ref (yA Y 0)), (1, .int k), (2, .int v)] [] 0
  refine v_aload_n 1 hE dX4_setMeasuredLoad_0 rfl rfl ?_
  refine gX_network 4 hE f_0 f_1 dX4_setMeasuredLoad_1 rfl ?_
  refine v_iload_n 5 hE dX4_setMeasuredLoad_4 rfl rfl ?_
  refine v_ciE 8 hE (v_runV 1 hE (vSub.self hE) (kX3_hasLink _ Y _ _ hok) gX4_setMeasuredLoad_X3_hasLink rfl (by decide +kernel) rfl (q0 := 1) rfl rfl ⟨rfl, rfl, by decide, by decide⟩ rfl (Nat.le_of_ble_eq_true rfl) dX4_setMeasuredLoad_5) rfl ?_
  refine v_if_neB 11 hE 14 dX4_setMeasuredLoad_8 (by decide) rfl (fun c8 => ?_) (fun c8 => ?_)
  · refine v_iload_n 15 hE dX4_setMeasuredLoad_14 rfl rfl ?_
    refine v_if_lt 18 hE 24 dX4_setMeasuredLoad_15 (by decide) rfl (fun c15 => ?_) (fun c15 => ?_)
    · refine v_bipush 26 hE (v := -4) dX4_setMeasuredLoad_24 (by decide) rfl ?_
      exact (hret _ _ dX4_setMeasuredLoad_26).cast (by simp [aSetLoad, c8, c15]) (rI (by simp [aSetLoad, c8, c15]))
    · refine v_iload_n 19 hE dX4_setMeasuredLoad_18 rfl rfl ?_
      refine v_ldc 21 hE (v := nI 199980) f_2 dX4_setMeasuredLoad_19 rfl ?_
      refine v_ic_le 24 hE 27 dX4_setMeasuredLoad_21 (by decide) rfl (fun c21 => ?_) (fun c21 => ?_)
      · obtain ⟨j, hj, rfl⟩ := inB_t (by omega) c8
        have hjx := ndx_nI (k := j) (by omega)
        refine v_aload_n 28 hE dX4_setMeasuredLoad_27 rfl rfl ?_
        refine gX_measurements 31 hE f_0 f_3 dX4_setMeasuredLoad_28 rfl ?_
        refine gX_loads 34 hE f_4 f_5 dX4_setMeasuredLoad_31 rfl ?_
        refine v_iload_n 35 hE dX4_setMeasuredLoad_34 rfl rfl ?_
        refine lX_load 36 hE (by omega) dX4_setMeasuredLoad_35 rfl ?_
        refine v_istore_n 37 hE [_, _, _, _] dX4_setMeasuredLoad_36 rfl (by decide) rfl rfl ?_
        refine v_aload_n 38 hE dX4_setMeasuredLoad_37 rfl rfl ?_
        refine gX_measurements 41 hE f_0 f_3 dX4_setMeasuredLoad_38 rfl ?_
        refine gX_loads 44 hE f_4 f_5 dX4_setMeasuredLoad_41 rfl ?_
        refine v_iload_n 45 hE dX4_setMeasuredLoad_44 rfl rfl ?_
        refine v_iload_n 46 hE dX4_setMeasuredLoad_45 rfl rfl ?_
        refine sX_load 47 hE (by omega) dX4_setMeasuredLoad_46 rfl ?_
        refine v_iload_n 48 hE dX4_setMeasuredLoad_47 rfl rfl ?_
        exact (hret _ _ dX4_setMeasuredLoad_48).cast (by unfold aSetLoad; rw [if_pos c8, if_neg c15, if_pos c21, hjx]) (rI (by unfold aSetLoad; rw [if_pos c8, if_neg c15, if_pos c21, hjx]))
      · refine v_bipush 26 hE (v := -4) dX4_setMeasuredLoad_24 (by decide) rfl ?_
        exact (hret _ _ dX4_setMeasuredLoad_26).cast (by simp [aSetLoad, c8, c15, c21]) (rI (by simp [aSetLoad, c8, c15, c21]))
  · refine v_bipush 13 hE (v := -3) dX4_setMeasuredLoad_11 (by decide) rfl ?_
    exact (hret _ _ dX4_setMeasuredLoad_13).cast (by simp [aSetLoad, c8]) (rI (by simp [aSetLoad, c8]))
set_option maxRecDepth 100000 in
set_option maxHeartbeats 4000000 in
theorem kX4_measuredLoad (l : Launch) (Y : yG) (u : XS) (k : Int32) (hok : okN u) : mI l (gX Y) yX4_measuredLoad wsX4_measuredLoad ({ frames := 1, cells := 0, slots := 0, locals := 21 }) [.ref (yA Y 0), .int k] u (aLoad u k) u := by
  obtain ⟨hn, hm, hsrc, htgt, hmet, hlen, hlnk⟩ := id hok
  refine mI_of (cc := cX4_measuredLoad) (nL := 2) (own := RX4) (by decide) rfl rfl (fun v => cX_geo Y _ v) (Nat.le_of_ble_eq_true rfl) ?_
  intro K hKl hE hret
  have f_0 : ∀ w ∈ u_ws RX4 TX4 5, w ∈ wsX4_measuredLoad := by decide +kernel
  have f_1 : Cond.fieldLink RX4 14 "TrafficMatrix" "network" "LTrafficMatrix$Network;" ∈ wsX4_measuredLoad := by decide +kernel
  have f_2 : Cond.fieldLink RX4 25 "TrafficMatrix" "measurements" "LTrafficMatrix$Measurements;" ∈ wsX4_measuredLoad := by decide +kernel
  have f_3 : ∀ w ∈ u_ws RX2 TX2 4, w ∈ wsX4_measuredLoad := by decide +kernel
  have f_4 : Cond.fieldLink RX4 104 "TrafficMatrix$Measurements" "loads" "[I" ∈ wsX4_measuredLoad := by decide +kernel
  show vV K (gX Y) u [(0, .ref (yA Y 0)), (1, .int k)] [] 0
  refine v_aload_n 1 hE dX4_measuredLoad_0 rfl rfl ?_
  refine gX_network 4 hE f_0 f_1 dX4_measuredLoad_1 rfl ?_
  refine v_iload_n 5 hE dX4_measuredLoad_4 rfl rfl ?_
  refine v_ciE 8 hE (v_runV 1 hE (vSub.self hE) (kX3_hasLink _ Y _ _ hok) gX4_measuredLoad_X3_hasLink rfl (by decide +kernel) rfl (q0 := 1) rfl rfl ⟨rfl, rfl, by decide, by decide⟩ rfl (Nat.le_of_ble_eq_true rfl) dX4_measuredLoad_5) rfl ?_
  refine v_if_eqB 11 hE 23 dX4_measuredLoad_8 (by decide) rfl (fun c8 => ?_) (fun c8 => ?_)
  · refine v_bipush 25 hE (v := -3) dX4_measuredLoad_23 (by decide) rfl ?_
    exact (hret _ _ dX4_measuredLoad_25).cast rfl (rI (by first | (unfold aLoad; rw [if_pos c8, hjx]; done) | (simp [aLoad, c8]; done)))
  · obtain ⟨j, hj, rfl⟩ := inB_t (by omega) c8
    have hjx := ndx_nI (k := j) (by omega)
    refine v_aload_n 12 hE dX4_measuredLoad_11 rfl rfl ?_
    refine gX_measurements 15 hE f_0 f_2 dX4_measuredLoad_12 rfl ?_
    refine gX_loads 18 hE f_3 f_4 dX4_measuredLoad_15 rfl ?_
    refine v_iload_n 19 hE dX4_measuredLoad_18 rfl rfl ?_
    refine lX_load 20 hE (by omega) dX4_measuredLoad_19 rfl ?_
    refine v_goto hE 25 dX4_measuredLoad_20 (by decide) ?_
    exact (hret _ _ dX4_measuredLoad_25).cast rfl (rI (by first | (unfold aLoad; rw [if_pos c8, hjx]; done) | (simp [aLoad, c8]; done)))
set_option maxRecDepth 100000 in
set_option maxHeartbeats 4000000 in
theorem kX4_outTotal (l : Launch) (Y : yG) (u : XS) (k : Int32) (hok : okN u) : mI l (gX Y) yX4_outTotal wsX4_outTotal ({ frames := 1, cells := 0, slots := 0, locals := 21 }) [.ref (yA Y 0), .int k] u (aOut u k) u := by
  obtain ⟨hn, hm, hsrc, htgt, hmet, hlen, hlnk⟩ := id hok
  refine mI_of (cc := cX4_outTotal) (nL := 2) (own := RX4) (by decide) rfl rfl (fun v => cX_geo Y _ v) (Nat.le_of_ble_eq_true rfl) ?_
  intro K hKl hE hret
  have f_0 : ∀ w ∈ u_ws RX4 TX4 5, w ∈ wsX4_outTotal := by decide +kernel
  have f_1 : Cond.fieldLink RX4 14 "TrafficMatrix" "network" "LTrafficMatrix$Network;" ∈ wsX4_outTotal := by decide +kernel
  have f_2 : Cond.fieldLink RX4 25 "TrafficMatrix" "measurements" "LTrafficMatrix$Measurements;" ∈ wsX4_outTotal := by decide +kernel
  have f_3 : ∀ w ∈ u_ws RX2 TX2 4, w ∈ wsX4_outTotal := by decide +kernel
  have f_4 : Cond.fieldLink RX4 110 "TrafficMatrix$Measurements" "outTotals" "[I" ∈ wsX4_outTotal := by decide +kernel
  show vV K (gX Y) u [(0, .ref (yA Y 0)), (1, .int k)] [] 0
  refine v_aload_n 1 hE dX4_outTotal_0 rfl rfl ?_
  refine gX_network 4 hE f_0 f_1 dX4_outTotal_1 rfl ?_
  refine v_iload_n 5 hE dX4_outTotal_4 rfl rfl ?_
  refine v_ciE 8 hE (v_runV 1 hE (vSub.self hE) (kX3_hasNode _ Y _ _ hok) gX4_outTotal_X3_hasNode rfl (by decide +kernel) rfl (q0 := 1) rfl rfl ⟨rfl, rfl, by decide, by decide⟩ rfl (Nat.le_of_ble_eq_true rfl) dX4_outTotal_5) rfl ?_
  refine v_if_eqB 11 hE 23 dX4_outTotal_8 (by decide) rfl (fun c8 => ?_) (fun c8 => ?_)
  · refine v_iconst 24 hE (v := -1) dX4_outTotal_23 (by decide) rfl ?_
    exact (hret _ _ dX4_outTotal_24).cast rfl (rI (by first | (unfold aOut; rw [if_pos c8, hjx]; done) | (simp [aOut, c8]; done)))
  · obtain ⟨j, hj, rfl⟩ := inB_t (by omega) c8
    have hjx := ndx_nI (k := j) (by omega)
    refine v_aload_n 12 hE dX4_outTotal_11 rfl rfl ?_
    refine gX_measurements 15 hE f_0 f_2 dX4_outTotal_12 rfl ?_
    refine gX_outTotals 18 hE f_3 f_4 dX4_outTotal_15 rfl ?_
    refine v_iload_n 19 hE dX4_outTotal_18 rfl rfl ?_
    refine lX_out 20 hE (by omega) dX4_outTotal_19 rfl ?_
    refine v_goto hE 24 dX4_outTotal_20 (by decide) ?_
    exact (hret _ _ dX4_outTotal_24).cast rfl (rI (by first | (unfold aOut; rw [if_pos c8, hjx]; done) | (simp [aOut, c8]; done)))
set_option maxRecDepth 100000 in
set_option maxHeartbeats 4000000 in
theorem kX4_inTotal (l : Launch) (Y : yG) (u : XS) (k : Int32) (hok : okN u) : mI l (gX Y) yX4_inTotal wsX4_inTotal ({ frames := 1, cells := 0, slots := 0, locals := 21 }) [.ref (yA Y 0), .int k] u (aIn u k) u := by
  obtain ⟨hn, hm, hsrc, htgt, hmet, hlen, hlnk⟩ := id hok
  refine mI_of (cc := cX4_inTotal) (nL := 2) (own := RX4) (by decide) rfl rfl (fun v => cX_geo Y _ v) (Nat.le_of_ble_eq_true rfl) ?_
  intro K hKl hE hret
  have f_0 : ∀ w ∈ u_ws RX4 TX4 5, w ∈ wsX4_inTotal := by decide +kernel
  have f_1 : Cond.fieldLink RX4 14 "TrafficMatrix" "network" "LTrafficMatrix$Network;" ∈ wsX4_inTotal := by decide +kernel
  have f_2 : Cond.fieldLink RX4 25 "TrafficMatrix" "measurements" "LTrafficMatrix$Measurements;" ∈ wsX4_inTotal := by decide +kernel
  have f_3 : ∀ w ∈ u_ws RX2 TX2 4, w ∈ wsX4_inTotal := by decide +kernel
  have f_4 : Cond.fieldLink RX4 113 "TrafficMatrix$Measurements" "inTotals" "[I" ∈ wsX4_inTotal := by decide +kernel
  show vV K (gX Y) u [(0, .ref (yA Y 0)), (1, .int k)] [] 0
  refine v_aload_n 1 hE dX4_inTotal_0 rfl rfl ?_
  refine gX_network 4 hE f_0 f_1 dX4_inTotal_1 rfl ?_
  refine v_iload_n 5 hE dX4_inTotal_4 rfl rfl ?_
  refine v_ciE 8 hE (v_runV 1 hE (vSub.self hE) (kX3_hasNode _ Y _ _ hok) gX4_inTotal_X3_hasNode rfl (by decide +kernel) rfl (q0 := 1) rfl rfl ⟨rfl, rfl, by decide, by decide⟩ rfl (Nat.le_of_ble_eq_true rfl) dX4_inTotal_5) rfl ?_
  refine v_if_eqB 11 hE 23 dX4_inTotal_8 (by decide) rfl (fun c8 => ?_) (fun c8 => ?_)
  · refine v_iconst 24 hE (v := -1) dX4_inTotal_23 (by decide) rfl ?_
    exact (hret _ _ dX4_inTotal_24).cast rfl (rI (by first | (unfold aIn; rw [if_pos c8, hjx]; done) | (simp [aIn, c8]; done)))
  · obtain ⟨j, hj, rfl⟩ := inB_t (by omega) c8
    have hjx := ndx_nI (k := j) (by omega)
    refine v_aload_n 12 hE dX4_inTotal_11 rfl rfl ?_
    refine gX_measurements 15 hE f_0 f_2 dX4_inTotal_12 rfl ?_
    refine gX_inTotals 18 hE f_3 f_4 dX4_inTotal_15 rfl ?_
    refine v_iload_n 19 hE dX4_inTotal_18 rfl rfl ?_
    refine lX_inn 20 hE (by omega) dX4_inTotal_19 rfl ?_
    refine v_goto hE 24 dX4_inTotal_20 (by decide) ?_
    exact (hret _ _ dX4_inTotal_24).cast rfl (rI (by first | (unfold aIn; rw [if_pos c8, hjx]; done) | (simp [aIn, c8]; done)))
set_option maxRecDepth 100000 in
set_option maxHeartbeats 4000000 in
theorem kX4_measurePair (l : Launch) (Y : yG) (u : XS) (s t : Int32) (hok : okN u) : mI l (gX Y) yX4_measurePair wsX4_measurePair ({ frames := 3, cells := 0, slots := 0, locals := 66 }) [.ref (yA Y 0), .int s, .int t] u ((aMPair u s t).1) (aMPair u s t).2 := by
  obtain ⟨hn, hm, hsrc, htgt, hmet, hlen, hlnk⟩ := id hok
  refine mI_of (cc := cX4_measurePair) (nL := 5) (own := RX4) (by decide) rfl rfl (fun v => cX_geo Y _ v) (Nat.le_of_ble_eq_true rfl) ?_
  intro K hKl hE hret
  have f_0 : ∀ w ∈ u_ws RX4 TX4 5, w ∈ wsX4_measurePair := by decide +kernel
  have f_1 : Cond.fieldLink RX4 25 "TrafficMatrix" "measurements" "LTrafficMatrix$Measurements;" ∈ wsX4_measurePair := by decide +kernel
  have f_2 : ∀ w ∈ u_ws RX2 TX2 4, w ∈ wsX4_measurePair := by decide +kernel
  have f_3 : Cond.fieldLink RX4 116 "TrafficMatrix$Measurements" "pairValues" "[I" ∈ wsX4_measurePair := by decide +kernel
  have f_4 : Cond.fieldLink RX4 18 "TrafficMatrix" "demands" "[I" ∈ wsX4_measurePair := by decide +kernel
  show vV K (gX Y) u [(0, .ref (yA Y 0)), (1, .int s), (2, .int t)] [] 0
  refine v_aload_n 1 hE dX4_measurePair_0 rfl rfl ?_
  refine v_iload_n 2 hE dX4_measurePair_1 rfl rfl ?_
  refine v_iload_n 3 hE dX4_measurePair_2 rfl rfl ?_
  refine v_ciE 6 hE (v_runV 2 hE (vSub.self hE) (kX4_routeError _ Y _ _ _ hok) gX4_measurePair_X4_routeError rfl (by decide +kernel) rfl (q0 := 0) rfl rfl ⟨rfl, rfl, by decide, by decide⟩ rfl (Nat.le_of_ble_eq_true rfl) dX4_measurePair_3) rfl ?_
  refine v_istore_n 7 hE [_, _, _, _] dX4_measurePair_6 rfl (by decide) rfl rfl ?_
  refine v_iload_n 8 hE dX4_measurePair_7 rfl rfl ?_
  refine v_if_eq 11 hE 13 dX4_measurePair_8 (by decide) rfl (fun c8 => ?_) (fun c8 => ?_)
  · obtain ⟨hpe, hus⟩ := routeE_0 c8
    obtain ⟨a, b, ha, hb, rfl, rfl, hab⟩ := pairE_0 hn hpe
    have hsl := slot_nI (a := a) (b := b) (by omega) (by omega)
    refine v_iload_n 14 hE dX4_measurePair_13 rfl rfl ?_
    refine v_iload_n 15 hE dX4_measurePair_14 rfl rfl ?_
    refine v_ciE 18 hE (v_runS 2 hE (vSub.self hE) (kX4_slotOf _ Y _ _ _) gX4_measurePair_X4_slotOf rfl (by decide +kernel) rfl ⟨rfl, rfl, by decide, by decide⟩ rfl (Nat.le_of_ble_eq_true rfl) dX4_measurePair_15) rfl ?_
    refine v_istore 20 hE [_, _, _, _, _] dX4_measurePair_18 (by decide) rfl rfl ?_
    refine v_aload_n 21 hE dX4_measurePair_20 rfl rfl ?_
    refine gX_measurements 24 hE f_0 f_1 dX4_measurePair_21 rfl ?_
    refine gX_pairValues 27 hE f_2 f_3 dX4_measurePair_24 rfl ?_
    refine v_iload 29 hE dX4_measurePair_27 rfl rfl ?_
    refine v_aload_n 30 hE dX4_measurePair_29 rfl rfl ?_
    refine gX_demands 33 hE f_0 f_4 dX4_measurePair_30 rfl ?_
    refine v_iload 35 hE dX4_measurePair_33 rfl rfl ?_
    refine lX_dem 36 hE (by omega) dX4_measurePair_35 rfl ?_
    refine sX_pv 37 hE (by omega) dX4_measurePair_36 rfl ?_
    refine v_aload_n 38 hE dX4_measurePair_37 rfl rfl ?_
    refine gX_demands 41 hE f_0 f_4 dX4_measurePair_38 rfl ?_
    refine v_iload 43 hE dX4_measurePair_41 rfl rfl ?_
    refine lX_dem 44 hE (by omega) dX4_measurePair_43 rfl ?_
    show vV K (gX Y) _ _ (.int ((x_dem u) _) :: _) _
    exact (hret _ _ dX4_measurePair_44).cast (by unfold aMPair; rw [if_pos c8, hsl]) (rI (by unfold aMPair; rw [if_pos c8, hsl]))
  · refine v_iload_n 12 hE dX4_measurePair_11 rfl rfl ?_
    exact (hret _ _ dX4_measurePair_12).cast (by simp [aMPair, c8]) (rI (by simp [aMPair, c8]))
set_option maxRecDepth 100000 in
set_option maxHeartbeats 4000000 in
theorem kX4_forgetPair (l : Launch) (Y : yG) (u : XS) (s t : Int32) (hok : okN u) : mI l (gX Y) yX4_forgetPair wsX4_forgetPair ({ frames := 2, cells := 0, slots := 0, locals := 43 }) [.ref (yA Y 0), .int s, .int t] u ((aFPair u s t).1) (aFPair u s t).2 := by
  obtain ⟨hn, hm, hsrc, htgt, hmet, hlen, hlnk⟩ := id hok
  refine mI_of (cc := cX4_forgetPair) (nL := 6) (own := RX4) (by decide) rfl rfl (fun v => cX_geo Y _ v) (Nat.le_of_ble_eq_true rfl) ?_
  intro K hKl hE hret
  have f_0 : ∀ w ∈ u_ws RX4 TX4 5, w ∈ wsX4_forgetPair := by decide +kernel
  have f_1 : Cond.fieldLink RX4 25 "TrafficMatrix" "measurements" "LTrafficMatrix$Measurements;" ∈ wsX4_forgetPair := by decide +kernel
  have f_2 : ∀ w ∈ u_ws RX2 TX2 4, w ∈ wsX4_forgetPair := by decide +kernel
  have f_3 : Cond.fieldLink RX4 116 "TrafficMatrix$Measurements" "pairValues" "[I" ∈ wsX4_forgetPair := by decide +kernel
  show vV K (gX Y) u [(0, .ref (yA Y 0)), (1, .int s), (2, .int t)] [] 0
  refine v_aload_n 1 hE dX4_forgetPair_0 rfl rfl ?_
  refine v_iload_n 2 hE dX4_forgetPair_1 rfl rfl ?_
  refine v_iload_n 3 hE dX4_forgetPair_2 rfl rfl ?_
  refine v_ciE 6 hE (v_runV 2 hE (vSub.self hE) (kX4_pairError _ Y _ _ _ hok) gX4_forgetPair_X4_pairError rfl (by decide +kernel) rfl (q0 := 0) rfl rfl ⟨rfl, rfl, by decide, by decide⟩ rfl (Nat.le_of_ble_eq_true rfl) dX4_forgetPair_3) rfl ?_
  refine v_istore_n 7 hE [_, _, _, _] dX4_forgetPair_6 rfl (by decide) rfl rfl ?_
  refine v_iload_n 8 hE dX4_forgetPair_7 rfl rfl ?_
  refine v_if_eq 11 hE 13 dX4_forgetPair_8 (by decide) rfl (fun c8 => ?_) (fun c8 => ?_)
  · obtain ⟨a, b, ha, hb, rfl, rfl, hab⟩ := pairE_0 hn c8
    have hsl := slot_nI (a := a) (b := b) (by omega) (by omega)
    refine v_iload_n 14 hE dX4_forgetPair_13 rfl rfl ?_
    refine v_iload_n 15 hE dX4_forgetPair_14 rfl rfl ?_
    refine v_ciE 18 hE (v_runS 2 hE (vSub.self hE) (kX4_slotOf _ Y _ _ _) gX4_forgetPair_X4_slotOf rfl (by decide +kernel) rfl ⟨rfl, rfl, by decide, by decide⟩ rfl (Nat.le_of_ble_eq_true rfl) dX4_forgetPair_15) rfl ?_
    refine v_istore 20 hE [_, _, _, _, _] dX4_forgetPair_18 (by decide) rfl rfl ?_
    refine v_aload_n 21 hE dX4_forgetPair_20 rfl rfl ?_
    refine gX_measurements 24 hE f_0 f_1 dX4_forgetPair_21 rfl ?_
    refine v_iload 26 hE dX4_forgetPair_24 rfl rfl ?_
    refine v_ciE 29 hE (v_runV 1 hE (vSub.self hE) (kX2_hasPair _ Y _ _ (by omega)) gX4_forgetPair_X2_hasPair rfl (by decide +kernel) rfl (q0 := 3) rfl rfl ⟨rfl, rfl, by decide, by decide⟩ rfl (Nat.le_of_ble_eq_true rfl) dX4_forgetPair_26) rfl ?_
    refine v_if_neB 32 hE 35 dX4_forgetPair_29 (by decide) rfl (fun c29 => ?_) (fun c29 => ?_)
    · refine v_aload_n 36 hE dX4_forgetPair_35 rfl rfl ?_
      refine gX_measurements 39 hE f_0 f_1 dX4_forgetPair_36 rfl ?_
      refine gX_pairValues 42 hE f_2 f_3 dX4_forgetPair_39 rfl ?_
      refine v_iload 44 hE dX4_forgetPair_42 rfl rfl ?_
      refine lX_pv 45 hE (by omega) dX4_forgetPair_44 rfl ?_
      refine v_istore 47 hE [_, _, _, _, _, _] dX4_forgetPair_45 (by decide) rfl rfl ?_
      refine v_aload_n 48 hE dX4_forgetPair_47 rfl rfl ?_
      refine gX_measurements 51 hE f_0 f_1 dX4_forgetPair_48 rfl ?_
      refine gX_pairValues 54 hE f_2 f_3 dX4_forgetPair_51 rfl ?_
      refine v_iload 56 hE dX4_forgetPair_54 rfl rfl ?_
      refine v_iconst 57 hE (v := -1) dX4_forgetPair_56 (by decide) rfl ?_
      refine sX_pv 58 hE (by omega) dX4_forgetPair_57 rfl ?_
      refine v_iload 60 hE dX4_forgetPair_58 rfl rfl ?_
      exact (hret _ _ dX4_forgetPair_60).cast (by unfold aFPair; rw [if_pos c8, hsl, c29]; rfl) (rI (by unfold aFPair; rw [if_pos c8, hsl, c29]; rfl))
    · refine v_bipush 34 hE (v := -7) dX4_forgetPair_32 (by decide) rfl ?_
      exact (hret _ _ dX4_forgetPair_34).cast (by unfold aFPair; rw [if_pos c8, hsl, c29]; rfl) (rI (by unfold aFPair; rw [if_pos c8, hsl, c29]; rfl))
  · refine v_iload_n 12 hE dX4_forgetPair_11 rfl rfl ?_
    exact (hret _ _ dX4_forgetPair_12).cast (by simp [aFPair, c8]) (rI (by simp [aFPair, c8]))
set_option maxRecDepth 100000 in
set_option maxHeartbeats 4000000 in
theorem kX4_rank (l : Launch) (Y : yG) (u : XS)  (hok : okN u) : mI l (gX Y) yX4_rank wsX4_rank ({ frames := 5, cells := 0, slots := 0, locals := 121 }) [.ref (yA Y 0)] u (nI (x_kc (xSolve u) + x_pc (xSolve u))) (xSolve u) := by
  obtain ⟨hn, hm, hsrc, htgt, hmet, hlen, hlnk⟩ := id hok
  refine mI_of (cc := cX4_rank) (nL := 1) (own := RX4) (by decide) rfl rfl (fun v => cX_geo Y _ v) (Nat.le_of_ble_eq_true rfl) ?_
  intro K hKl hE hret
  have f_0 : ∀ w ∈ u_ws RX4 TX4 5, w ∈ wsX4_rank := by decide +kernel
  have f_1 : Cond.fieldLink RX4 32 "TrafficMatrix" "equations" "LTrafficMatrix$Equations;" ∈ wsX4_rank := by decide +kernel
  have f_2 : Cond.fieldLink RX4 14 "TrafficMatrix" "network" "LTrafficMatrix$Network;" ∈ wsX4_rank := by decide +kernel
  have f_3 : Cond.fieldLink RX4 25 "TrafficMatrix" "measurements" "LTrafficMatrix$Measurements;" ∈ wsX4_rank := by decide +kernel
  have f_4 : ∀ w ∈ u_ws RX0 TX0 8, w ∈ wsX4_rank := by decide +kernel
  have f_5 : Cond.fieldLink RX4 126 "TrafficMatrix$Equations" "knownCount" "I" ∈ wsX4_rank := by decide +kernel
  have f_6 : Cond.fieldLink RX4 129 "TrafficMatrix$Equations" "pivotCount" "I" ∈ wsX4_rank := by decide +kernel
  show vV K (gX Y) u [(0, .ref (yA Y 0))] [] 0
  refine v_aload_n 1 hE dX4_rank_0 rfl rfl ?_
  refine gX_equations 4 hE f_0 f_1 dX4_rank_1 rfl ?_
  refine v_aload_n 5 hE dX4_rank_4 rfl rfl ?_
  refine gX_network 8 hE f_0 f_2 dX4_rank_5 rfl ?_
  refine v_aload_n 9 hE dX4_rank_8 rfl rfl ?_
  refine gX_measurements 12 hE f_0 f_3 dX4_rank_9 rfl ?_
  refine v_cvE 15 hE (v_runV 2 hE (vSub.self hE) (kX0_solve _ Y _ hok) gX4_rank_X0_solve rfl (by decide +kernel) rfl (q0 := 4) rfl rfl ⟨rfl, rfl, by decide, by decide⟩ rfl (Nat.le_of_ble_eq_true rfl) dX4_rank_12) rfl ?_
  refine v_aload_n 16 hE dX4_rank_15 rfl rfl ?_
  refine gX_equations 19 hE f_0 f_1 dX4_rank_16 rfl ?_
  refine gX_knownCount 22 hE f_4 f_5 dX4_rank_19 rfl ?_
  refine v_aload_n 23 hE dX4_rank_22 rfl rfl ?_
  refine gX_equations 26 hE f_0 f_1 dX4_rank_23 rfl ?_
  refine gX_pivotCount 29 hE f_4 f_6 dX4_rank_26 rfl ?_
  refine v_iaddN 30 hE dX4_rank_29 rfl ?_
  exact (hret _ _ dX4_rank_30).cast rfl (rI (by simp []))
set_option maxRecDepth 100000 in
set_option maxHeartbeats 4000000 in
theorem kX4_isConsistent (l : Launch) (Y : yG) (u : XS)  (hok : okN u) : mI l (gX Y) yX4_isConsistent wsX4_isConsistent ({ frames := 5, cells := 0, slots := 0, locals := 121 }) [.ref (yA Y 0)] u (bI (xSol u)) (xSolve u) := by
  obtain ⟨hn, hm, hsrc, htgt, hmet, hlen, hlnk⟩ := id hok
  refine mI_of (cc := cX4_isConsistent) (nL := 1) (own := RX4) (by decide) rfl rfl (fun v => cX_geo Y _ v) (Nat.le_of_ble_eq_true rfl) ?_
  intro K hKl hE hret
  have f_0 : ∀ w ∈ u_ws RX4 TX4 5, w ∈ wsX4_isConsistent := by decide +kernel
  have f_1 : Cond.fieldLink RX4 32 "TrafficMatrix" "equations" "LTrafficMatrix$Equations;" ∈ wsX4_isConsistent := by decide +kernel
  have f_2 : Cond.fieldLink RX4 14 "TrafficMatrix" "network" "LTrafficMatrix$Network;" ∈ wsX4_isConsistent := by decide +kernel
  have f_3 : Cond.fieldLink RX4 25 "TrafficMatrix" "measurements" "LTrafficMatrix$Measurements;" ∈ wsX4_isConsistent := by decide +kernel
  show vV K (gX Y) u [(0, .ref (yA Y 0))] [] 0
  refine v_aload_n 1 hE dX4_isConsistent_0 rfl rfl ?_
  refine gX_equations 4 hE f_0 f_1 dX4_isConsistent_1 rfl ?_
  refine v_aload_n 5 hE dX4_isConsistent_4 rfl rfl ?_
  refine gX_network 8 hE f_0 f_2 dX4_isConsistent_5 rfl ?_
  refine v_aload_n 9 hE dX4_isConsistent_8 rfl rfl ?_
  refine gX_measurements 12 hE f_0 f_3 dX4_isConsistent_9 rfl ?_
  refine v_cvE 15 hE (v_runV 2 hE (vSub.self hE) (kX0_solve _ Y _ hok) gX4_isConsistent_X0_solve rfl (by decide +kernel) rfl (q0 := 4) rfl rfl ⟨rfl, rfl, by decide, by decide⟩ rfl (Nat.le_of_ble_eq_true rfl) dX4_isConsistent_12) rfl ?_
  refine v_aload_n 16 hE dX4_isConsistent_15 rfl rfl ?_
  refine gX_equations 19 hE f_0 f_1 dX4_isConsistent_16 rfl ?_
  refine v_ciE 22 hE (v_runV 0 hE (vSub.self hE) (kX0_haveSolution _ Y (xSolve u) (okE_solve hok)) gX4_isConsistent_X0_haveSolution rfl (by decide +kernel) rfl (q0 := 4) rfl rfl ⟨rfl, rfl, by decide, by decide⟩ rfl (Nat.le_of_ble_eq_true rfl) dX4_isConsistent_19) rfl ?_
  refine v_if_eqB 25 hE 29 dX4_isConsistent_22 (by decide) rfl (fun c22 => ?_) (fun c22 => ?_)
  · refine v_iconst 30 hE (v := nI 0) dX4_isConsistent_29 (by decide) rfl ?_
    exact (hret _ _ dX4_isConsistent_30).cast rfl (by first | exact rB1 (by assumption) | exact rB0 (by assumption))
  · refine v_iconst 26 hE (v := nI 1) dX4_isConsistent_25 (by decide) rfl ?_
    refine v_goto hE 30 dX4_isConsistent_26 (by decide) ?_
    exact (hret _ _ dX4_isConsistent_30).cast rfl (by first | exact rB1 (by assumption) | exact rB0 (by assumption))
set_option maxRecDepth 100000 in
set_option maxHeartbeats 4000000 in
theorem kX4_isIdentifiable (l : Launch) (Y : yG) (u : XS) (s t : Int32) (hok : okN u) : mI l (gX Y) yX4_isIdentifiable wsX4_isIdentifiable ({ frames := 5, cells := 0, slots := 0, locals := 121 }) [.ref (yA Y 0), .int s, .int t] u ((aIdent u s t).1) (aIdent u s t).2 := by
  obtain ⟨hn, hm, hsrc, htgt, hmet, hlen, hlnk⟩ := id hok
  refine mI_of (cc := cX4_isIdentifiable) (nL := 4) (own := RX4) (by decide) rfl rfl (fun v => cX_geo Y _ v) (Nat.le_of_ble_eq_true rfl) ?_
  intro K hKl hE hret
  have f_0 : ∀ w ∈ u_ws RX4 TX4 5, w ∈ wsX4_isIdentifiable := by decide +kernel
  have f_1 : Cond.fieldLink RX4 32 "TrafficMatrix" "equations" "LTrafficMatrix$Equations;" ∈ wsX4_isIdentifiable := by decide +kernel
  have f_2 : Cond.fieldLink RX4 14 "TrafficMatrix" "network" "LTrafficMatrix$Network;" ∈ wsX4_isIdentifiable := by decide +kernel
  have f_3 : Cond.fieldLink RX4 25 "TrafficMatrix" "measurements" "LTrafficMatrix$Measurements;" ∈ wsX4_isIdentifiable := by decide +kernel
  show vV K (gX Y) u [(0, .ref (yA Y 0)), (1, .int s), (2, .int t)] [] 0
  refine v_aload_n 1 hE dX4_isIdentifiable_0 rfl rfl ?_
  refine v_iload_n 2 hE dX4_isIdentifiable_1 rfl rfl ?_
  refine v_iload_n 3 hE dX4_isIdentifiable_2 rfl rfl ?_
  refine v_ciE 6 hE (v_runV 2 hE (vSub.self hE) (kX4_routeError _ Y _ _ _ hok) gX4_isIdentifiable_X4_routeError rfl (by decide +kernel) rfl (q0 := 0) rfl rfl ⟨rfl, rfl, by decide, by decide⟩ rfl (Nat.le_of_ble_eq_true rfl) dX4_isIdentifiable_3) rfl ?_
  refine v_istore_n 7 hE [_, _, _, _] dX4_isIdentifiable_6 rfl (by decide) rfl rfl ?_
  refine v_iload_n 8 hE dX4_isIdentifiable_7 rfl rfl ?_
  refine v_if_eq 11 hE 13 dX4_isIdentifiable_8 (by decide) rfl (fun c8 => ?_) (fun c8 => ?_)
  · obtain ⟨hpe, hus⟩ := routeE_0 c8
    obtain ⟨a, b, ha, hb, rfl, rfl, hab⟩ := pairE_0 hn hpe
    have hsl := slot_nI (a := a) (b := b) (by omega) (by omega)
    refine v_aload_n 14 hE dX4_isIdentifiable_13 rfl rfl ?_
    refine gX_equations 17 hE f_0 f_1 dX4_isIdentifiable_14 rfl ?_
    refine v_aload_n 18 hE dX4_isIdentifiable_17 rfl rfl ?_
    refine gX_network 21 hE f_0 f_2 dX4_isIdentifiable_18 rfl ?_
    refine v_aload_n 22 hE dX4_isIdentifiable_21 rfl rfl ?_
    refine gX_measurements 25 hE f_0 f_3 dX4_isIdentifiable_22 rfl ?_
    refine v_cvE 28 hE (v_runV 2 hE (vSub.self hE) (kX0_solve _ Y _ hok) gX4_isIdentifiable_X0_solve rfl (by decide +kernel) rfl (q0 := 4) rfl rfl ⟨rfl, rfl, by decide, by decide⟩ rfl (Nat.le_of_ble_eq_true rfl) dX4_isIdentifiable_25) rfl ?_
    refine v_aload_n 29 hE dX4_isIdentifiable_28 rfl rfl ?_
    refine gX_equations 32 hE f_0 f_1 dX4_isIdentifiable_29 rfl ?_
    refine v_iload_n 33 hE dX4_isIdentifiable_32 rfl rfl ?_
    refine v_iload_n 34 hE dX4_isIdentifiable_33 rfl rfl ?_
    refine v_ciE 37 hE (v_runS 2 hE (vSub.self hE) (kX4_slotOf _ Y _ _ _) gX4_isIdentifiable_X4_slotOf rfl (by decide +kernel) rfl ⟨rfl, rfl, by decide, by decide⟩ rfl (Nat.le_of_ble_eq_true rfl) dX4_isIdentifiable_34) rfl ?_
    refine v_ciE 40 hE (v_runV 1 hE (vSub.self hE) (kX0_determine _ Y (xSolve u) _ (okE_solve hok) (by omega)) gX4_isIdentifiable_X0_determine rfl (by decide +kernel) rfl (q0 := 4) rfl rfl ⟨rfl, rfl, by decide, by decide⟩ rfl (Nat.le_of_ble_eq_true rfl) dX4_isIdentifiable_37) rfl ?_
    refine v_if_eqB 43 hE 47 dX4_isIdentifiable_40 (by decide) rfl (fun c40 => ?_) (fun c40 => ?_)
    · refine v_iconst 48 hE (v := nI 0) dX4_isIdentifiable_47 (by decide) rfl ?_
      exact (hret _ _ dX4_isIdentifiable_48).cast (by unfold aIdent; rw [if_pos c8]) (by unfold aIdent; rw [if_pos c8, hsl]; first | exact rB1 c40 | exact rB0 c40)
    · refine v_iconst 44 hE (v := nI 1) dX4_isIdentifiable_43 (by decide) rfl ?_
      refine v_goto hE 48 dX4_isIdentifiable_44 (by decide) ?_
      exact (hret _ _ dX4_isIdentifiable_48).cast (by unfold aIdent; rw [if_pos c8]) (by unfold aIdent; rw [if_pos c8, hsl]; first | exact rB1 c40 | exact rB0 c40)
  · refine v_iload_n 12 hE dX4_isIdentifiable_11 rfl rfl ?_
    exact (hret _ _ dX4_isIdentifiable_12).cast (by simp [aIdent, c8]) (rI (by simp [aIdent, c8]))
set_option maxRecDepth 100000 in
set_option maxHeartbeats 4000000 in
theorem kX4_identifiableCount (l : Launch) (Y : yG) (u : XS)  (hok : okN u) : mI l (gX Y) yX4_identifiableCount wsX4_identifiableCount ({ frames := 5, cells := 0, slots := 0, locals := 121 }) [.ref (yA Y 0)] u (nI (cntN (fun s => uHas (x_len u) s && xDet u s) 25)) (xSolve u) := by
  obtain ⟨hn, hm, hsrc, htgt, hmet, hlen, hlnk⟩ := id hok
  refine mI_of (cc := cX4_identifiableCount) (nL := 3) (own := RX4) (by decide) rfl rfl (fun v => cX_geo Y _ v) (Nat.le_of_ble_eq_true rfl) ?_
  intro K hKl hE hret
  have f_0 : ∀ w ∈ u_ws RX4 TX4 5, w ∈ wsX4_identifiableCount := by decide +kernel
  have f_1 : Cond.fieldLink RX4 32 "TrafficMatrix" "equations" "LTrafficMatrix$Equations;" ∈ wsX4_identifiableCount := by decide +kernel
  have f_2 : Cond.fieldLink RX4 14 "TrafficMatrix" "network" "LTrafficMatrix$Network;" ∈ wsX4_identifiableCount := by decide +kernel
  have f_3 : Cond.fieldLink RX4 25 "TrafficMatrix" "measurements" "LTrafficMatrix$Measurements;" ∈ wsX4_identifiableCount := by decide +kernel
  show vV K (gX Y) u [(0, .ref (yA Y 0))] [] 0
  refine v_aload_n 1 hE dX4_identifiableCount_0 rfl rfl ?_
  refine gX_equations 4 hE f_0 f_1 dX4_identifiableCount_1 rfl ?_
  refine v_aload_n 5 hE dX4_identifiableCount_4 rfl rfl ?_
  refine gX_network 8 hE f_0 f_2 dX4_identifiableCount_5 rfl ?_
  refine v_aload_n 9 hE dX4_identifiableCount_8 rfl rfl ?_
  refine gX_measurements 12 hE f_0 f_3 dX4_identifiableCount_9 rfl ?_
  refine v_cvE 15 hE (v_runV 2 hE (vSub.self hE) (kX0_solve _ Y _ hok) gX4_identifiableCount_X0_solve rfl (by decide +kernel) rfl (q0 := 4) rfl rfl ⟨rfl, rfl, by decide, by decide⟩ rfl (Nat.le_of_ble_eq_true rfl) dX4_identifiableCount_12) rfl ?_
  refine v_iconst 16 hE (v := nI 0) dX4_identifiableCount_15 (by decide) rfl ?_
  refine v_istore_n 17 hE [_, _] dX4_identifiableCount_16 rfl (by decide) rfl rfl ?_
  refine v_iconst 18 hE (v := nI 0) dX4_identifiableCount_17 (by decide) rfl ?_
  refine v_istore_n 19 hE [_, _, _] dX4_identifiableCount_18 rfl (by decide) rfl rfl ?_
  refine vV.sub [2, 1, 0] rfl ?_
  have L19 : ∀ (n19 : Nat) (a : Nat) (i : Nat), (i ≤ 25) → (a = cntN (fun s => uHas (x_len u) s && xDet u s) i) → 25 + 1 ≤ i + n19 → vV K (gX Y) (xSolve u) [(0, .ref (yA Y 0)), (1, .int (nI a)), (2, .int (nI i))] [] 19 := by
    intro n19
    induction n19 with
    | zero => intro a i hi ha hfu19; exact absurd hfu19 (by omega)
    | succ n19 ih19 =>
      intro a i hi ha hfu19
      refine v_iload_n 20 hE dX4_identifiableCount_19 rfl rfl ?_
      refine v_bipush 22 hE (v := nI 25) dX4_identifiableCount_20 (by decide) rfl ?_
      refine v_ic_geN 25 hE 56 dX4_identifiableCount_22 (by decide) (by omega) (by omega) rfl (fun c22 => ?_) (fun c22 => ?_)
      · refine v_iload_n 57 hE dX4_identifiableCount_56 rfl rfl ?_
        exact (hret _ _ dX4_identifiableCount_57).cast rfl (rI (by rw [ha, show i = 25 by omega]))
      · refine v_aload_n 26 hE dX4_identifiableCount_25 rfl rfl ?_
        refine gX_network 29 hE f_0 f_2 dX4_identifiableCount_26 rfl ?_
        refine v_iload_n 30 hE dX4_identifiableCount_29 rfl rfl ?_
        refine v_ciE 33 hE (v_runV 1 hE (vSub.self hE) (kX3_hasRoute _ Y _ _ hok (by omega)) gX4_identifiableCount_X3_hasRoute rfl (by decide +kernel) rfl (q0 := 1) rfl rfl ⟨rfl, rfl, by decide, by decide⟩ rfl (Nat.le_of_ble_eq_true rfl) dX4_identifiableCount_30) rfl ?_
        show vV K (gX Y) _ _ (.int (bI (uHas (x_len u) _)) :: _) _
        refine v_if_eqB 36 hE 50 dX4_identifiableCount_33 (by decide) rfl (fun c33 => ?_) (fun c33 => ?_)
        · refine v_iincN 53 hE [_, _, _] dX4_identifiableCount_50 rfl (by decide) rfl rfl ?_
          refine v_goto hE 19 dX4_identifiableCount_53 (by decide) ?_
          refine vV.sub [1, 2, 0] rfl ?_
          exact ih19 _ _ (by omega) (by first | (simp [cntN, ha, c33]; done) | (have c45 : xDet u i = _ := c44; simp [cntN, ha, c33, c45]; done)) (by omega)
        · refine v_aload_n 37 hE dX4_identifiableCount_36 rfl rfl ?_
          refine gX_equations 40 hE f_0 f_1 dX4_identifiableCount_37 rfl ?_
          refine v_iload_n 41 hE dX4_identifiableCount_40 rfl rfl ?_
          refine v_ciE 44 hE (v_runV 1 hE (vSub.self hE) (kX0_determine _ Y (xSolve u) _ (okE_solve hok) (by omega)) gX4_identifiableCount_X0_determine rfl (by decide +kernel) rfl (q0 := 4) rfl rfl ⟨rfl, rfl, by decide, by decide⟩ rfl (Nat.le_of_ble_eq_true rfl) dX4_identifiableCount_41) rfl ?_
          refine v_if_eqB 47 hE 50 dX4_identifiableCount_44 (by decide) rfl (fun c44 => ?_) (fun c44 => ?_)
          · refine v_iincN 53 hE [_, _, _] dX4_identifiableCount_50 rfl (by decide) rfl rfl ?_
            refine v_goto hE 19 dX4_identifiableCount_53 (by decide) ?_
            refine vV.sub [1, 2, 0] rfl ?_
            exact ih19 _ _ (by omega) (by first | (simp [cntN, ha, c33]; done) | (have c45 : xDet u i = _ := c44; simp [cntN, ha, c33, c45]; done)) (by omega)
          · refine v_iincN 50 hE [_, _, _] dX4_identifiableCount_47 rfl (by decide) rfl rfl ?_
            refine v_iincN 53 hE [_, _, _] dX4_identifiableCount_50 rfl (by decide) rfl rfl ?_
            refine v_goto hE 19 dX4_identifiableCount_53 (by decide) ?_
            refine vV.sub [2, 1, 0] rfl ?_
            exact ih19 _ _ (by omega) (by first | (simp [cntN, ha, c33]; done) | (have c45 : xDet u i = _ := c44; simp [cntN, ha, c33, c45]; done)) (by omega)
  exact L19 (25 + 1) _ _ (by omega) rfl (by omega)
set_option maxRecDepth 100000 in
set_option maxHeartbeats 4000000 in
theorem kX4_findIdentified (l : Launch) (Y : yG) (u : XS) (s t : Int32) (hok : okN u) : mI l (gX Y) yX4_findIdentified wsX4_findIdentified ({ frames := 5, cells := 0, slots := 0, locals := 121 }) [.ref (yA Y 0), .int s, .int t] u (bI (aFind u s t).1) (aFind u s t).2 := by
  obtain ⟨hn, hm, hsrc, htgt, hmet, hlen, hlnk⟩ := id hok
  refine mB_of (cc := cX4_findIdentified) (nL := 3) (own := RX4) (by decide) rfl rfl (fun v => cX_geo Y _ v) (Nat.le_of_ble_eq_true rfl) ?_
  intro K hKl hE hret
  have f_0 : ∀ w ∈ u_ws RX4 TX4 5, w ∈ wsX4_findIdentified := by decide +kernel
  have f_1 : Cond.fieldLink RX4 32 "TrafficMatrix" "equations" "LTrafficMatrix$Equations;" ∈ wsX4_findIdentified := by decide +kernel
  have f_2 : Cond.fieldLink RX4 14 "TrafficMatrix" "network" "LTrafficMatrix$Network;" ∈ wsX4_findIdentified := by decide +kernel
  have f_3 : Cond.fieldLink RX4 25 "TrafficMatrix" "measurements" "LTrafficMatrix$Measurements;" ∈ wsX4_findIdentified := by decide +kernel
  show vV K (gX Y) u [(0, .ref (yA Y 0)), (1, .int s), (2, .int t)] [] 0
  refine v_aload_n 1 hE dX4_findIdentified_0 rfl rfl ?_
  refine v_iload_n 2 hE dX4_findIdentified_1 rfl rfl ?_
  refine v_iload_n 3 hE dX4_findIdentified_2 rfl rfl ?_
  refine v_ciE 6 hE (v_runV 2 hE (vSub.self hE) (kX4_routeError _ Y _ _ _ hok) gX4_findIdentified_X4_routeError rfl (by decide +kernel) rfl (q0 := 0) rfl rfl ⟨rfl, rfl, by decide, by decide⟩ rfl (Nat.le_of_ble_eq_true rfl) dX4_findIdentified_3) rfl ?_
  refine v_if_eq 9 hE 11 dX4_findIdentified_6 (by decide) rfl (fun c6 => ?_) (fun c6 => ?_)
  · obtain ⟨hpe, hus⟩ := routeE_0 c6
    obtain ⟨a, b, ha, hb, rfl, rfl, hab⟩ := pairE_0 hn hpe
    have hsl := slot_nI (a := a) (b := b) (by omega) (by omega)
    refine v_aload_n 12 hE dX4_findIdentified_11 rfl rfl ?_
    refine gX_equations 15 hE f_0 f_1 dX4_findIdentified_12 rfl ?_
    refine v_aload_n 16 hE dX4_findIdentified_15 rfl rfl ?_
    refine gX_network 19 hE f_0 f_2 dX4_findIdentified_16 rfl ?_
    refine v_aload_n 20 hE dX4_findIdentified_19 rfl rfl ?_
    refine gX_measurements 23 hE f_0 f_3 dX4_findIdentified_20 rfl ?_
    refine v_cvE 26 hE (v_runV 2 hE (vSub.self hE) (kX0_solve _ Y _ hok) gX4_findIdentified_X0_solve rfl (by decide +kernel) rfl (q0 := 4) rfl rfl ⟨rfl, rfl, by decide, by decide⟩ rfl (Nat.le_of_ble_eq_true rfl) dX4_findIdentified_23) rfl ?_
    refine v_aload_n 27 hE dX4_findIdentified_26 rfl rfl ?_
    refine gX_equations 30 hE f_0 f_1 dX4_findIdentified_27 rfl ?_
    refine v_iload_n 31 hE dX4_findIdentified_30 rfl rfl ?_
    refine v_iload_n 32 hE dX4_findIdentified_31 rfl rfl ?_
    refine v_ciE 35 hE (v_runS 2 hE (vSub.self hE) (kX4_slotOf _ Y _ _ _) gX4_findIdentified_X4_slotOf rfl (by decide +kernel) rfl ⟨rfl, rfl, by decide, by decide⟩ rfl (Nat.le_of_ble_eq_true rfl) dX4_findIdentified_32) rfl ?_
    refine v_ciE 38 hE (v_runV 1 hE (vSub.self hE) (kX0_determine _ Y (xSolve u) _ (okE_solve hok) (by omega)) gX4_findIdentified_X0_determine rfl (by decide +kernel) rfl (q0 := 4) rfl rfl ⟨rfl, rfl, by decide, by decide⟩ rfl (Nat.le_of_ble_eq_true rfl) dX4_findIdentified_35) rfl ?_
    refine v_if_eqB 41 hE 55 dX4_findIdentified_38 (by decide) rfl (fun c38 => ?_) (fun c38 => ?_)
    · refine v_iconst 56 hE (v := nI 0) dX4_findIdentified_55 (by decide) rfl ?_
      exact (hret _ _ dX4_findIdentified_56).cast (by rw [aFind_pos c6]) (by first | exact rB1 (by rw [aFind_pos c6, hsl]; exact and_tt c38 c48) | exact rB0 (by rw [aFind_pos c6, hsl]; exact and_ff c38) | exact rB0 (by rw [aFind_pos c6, hsl]; exact and_tf c48))
    · refine v_aload_n 42 hE dX4_findIdentified_41 rfl rfl ?_
      refine gX_equations 45 hE f_0 f_1 dX4_findIdentified_42 rfl ?_
      refine v_ciE 48 hE (v_runV 0 hE (vSub.self hE) (kX0_haveSolution _ Y (xSolve u) (okE_solve hok)) gX4_findIdentified_X0_haveSolution rfl (by decide +kernel) rfl (q0 := 4) rfl rfl ⟨rfl, rfl, by decide, by decide⟩ rfl (Nat.le_of_ble_eq_true rfl) dX4_findIdentified_45) rfl ?_
      refine v_if_eqB 51 hE 55 dX4_findIdentified_48 (by decide) rfl (fun c48 => ?_) (fun c48 => ?_)
      · refine v_iconst 56 hE (v := nI 0) dX4_findIdentified_55 (by decide) rfl ?_
        exact (hret _ _ dX4_findIdentified_56).cast (by rw [aFind_pos c6]) (by first | exact rB1 (by rw [aFind_pos c6, hsl]; exact and_tt c38 c48) | exact rB0 (by rw [aFind_pos c6, hsl]; exact and_ff c38) | exact rB0 (by rw [aFind_pos c6, hsl]; exact and_tf c48))
      · refine v_iconst 52 hE (v := nI 1) dX4_findIdentified_51 (by decide) rfl ?_
        refine v_goto hE 56 dX4_findIdentified_52 (by decide) ?_
        exact (hret _ _ dX4_findIdentified_56).cast (by rw [aFind_pos c6]) (by first | exact rB1 (by rw [aFind_pos c6, hsl]; exact and_tt c38 c48) | exact rB0 (by rw [aFind_pos c6, hsl]; exact and_ff c38) | exact rB0 (by rw [aFind_pos c6, hsl]; exact and_tf c48))
  · refine v_iconst 10 hE (v := nI 0) dX4_findIdentified_9 (by decide) rfl ?_
    exact (hret _ _ dX4_findIdentified_10).cast (by rw [aFind_neg c6]) (rB0 (by rw [aFind_neg c6]))
set_option maxRecDepth 100000 in
set_option maxHeartbeats 4000000 in
theorem kX4_identifiedNumerator (l : Launch) (Y : yG) (u : XS) (s t : Int32) (hok : okN u) : mL l (gX Y) yX4_identifiedNumerator wsX4_identifiedNumerator ({ frames := 6, cells := 0, slots := 0, locals := 143 }) [.ref (yA Y 0), .int s, .int t] u (aNum u s t) (aFind u s t).2 := by
  obtain ⟨hn, hm, hsrc, htgt, hmet, hlen, hlnk⟩ := id hok
  refine mL_of (cc := cX4_identifiedNumerator) (nL := 3) (own := RX4) (by decide) rfl rfl (fun v => cX_geo Y _ v) (Nat.le_of_ble_eq_true rfl) ?_
  intro K hKl hE hret
  have f_0 : ∀ w ∈ u_ws RX4 TX4 5, w ∈ wsX4_identifiedNumerator := by decide +kernel
  have f_1 : Cond.fieldLink RX4 32 "TrafficMatrix" "equations" "LTrafficMatrix$Equations;" ∈ wsX4_identifiedNumerator := by decide +kernel
  have f_2 : Cond.fieldLink RX4 25 "TrafficMatrix" "measurements" "LTrafficMatrix$Measurements;" ∈ wsX4_identifiedNumerator := by decide +kernel
  have f_3 : Jvm.Cond.constantLong RX4 146 (-9223372036854775808) ∈ wsX4_identifiedNumerator := by decide +kernel
  show vV K (gX Y) u [(0, .ref (yA Y 0)), (1, .int s), (2, .int t)] [] 0
  refine v_aload_n 1 hE dX4_identifiedNumerator_0 rfl rfl ?_
  refine v_iload_n 2 hE dX4_identifiedNumerator_1 rfl rfl ?_
  refine v_iload_n 3 hE dX4_identifiedNumerator_2 rfl rfl ?_
  refine v_ciE 6 hE (v_runV 2 hE (vSub.self hE) (kX4_findIdentified _ Y _ _ _ hok) gX4_identifiedNumerator_X4_findIdentified rfl (by decide +kernel) rfl (q0 := 0) rfl rfl ⟨rfl, rfl, by decide, by decide⟩ rfl (Nat.le_of_ble_eq_true rfl) dX4_identifiedNumerator_3) rfl ?_
  refine v_if_neB 9 hE 13 dX4_identifiedNumerator_6 (by decide) rfl (fun c6 => ?_) (fun c6 => ?_)
  · obtain ⟨hre, hid⟩ : routeE (x_n u) (x_len u) s t = 0 ∧ (xDet u (slot s t) && xSol u) = true := by
      have c9 := c6
      unfold aFind at c9
      split at c9
      · rename_i hz
        exact ⟨hz, c9⟩
      · cases c9
    rw [show (aFind u s t).2 = xSolve u by rw [aFind_pos hre]]
    rw [show (aFind u s t).2 = xSolve u by rw [aFind_pos hre]] at hret
    obtain ⟨hpe, hus⟩ := routeE_0 hre
    obtain ⟨a, b, ha, hb, rfl, rfl, hab⟩ := pairE_0 hn hpe
    have hsl := slot_nI (a := a) (b := b) (by omega) (by omega)
    refine v_aload_n 14 hE dX4_identifiedNumerator_13 rfl rfl ?_
    refine gX_equations 17 hE f_0 f_1 dX4_identifiedNumerator_14 rfl ?_
    refine v_iload_n 18 hE dX4_identifiedNumerator_17 rfl rfl ?_
    refine v_iload_n 19 hE dX4_identifiedNumerator_18 rfl rfl ?_
    refine v_ciE 22 hE (v_runS 2 hE (vSub.self hE) (kX4_slotOf _ Y _ _ _) gX4_identifiedNumerator_X4_slotOf rfl (by decide +kernel) rfl ⟨rfl, rfl, by decide, by decide⟩ rfl (Nat.le_of_ble_eq_true rfl) dX4_identifiedNumerator_19) rfl ?_
    refine v_aload_n 23 hE dX4_identifiedNumerator_22 rfl rfl ?_
    refine gX_measurements 26 hE f_0 f_2 dX4_identifiedNumerator_23 rfl ?_
    refine v_clE 29 hE (v_runV 2 hE (vSub.self hE) (kX0_numeratorOf _ Y (xSolve u) _ (okE_solve hok) (by omega)) gX4_identifiedNumerator_X0_numeratorOf rfl (by decide +kernel) rfl (q0 := 4) rfl rfl ⟨rfl, rfl, by decide, by decide⟩ rfl (Nat.le_of_ble_eq_true rfl) dX4_identifiedNumerator_26) rfl ?_
    exact (hret _ _ dX4_identifiedNumerator_29).cast rfl (rL (by unfold aNum; rw [c6, hsl]; rfl))
  · refine v_ldc2 12 hE f_3 dX4_identifiedNumerator_9 rfl ?_
    exact (hret _ _ dX4_identifiedNumerator_12).cast rfl (rL (by unfold aNum; rw [c6]; rfl))
set_option maxRecDepth 100000 in
set_option maxHeartbeats 4000000 in
theorem kX4_identifiedDenominator (l : Launch) (Y : yG) (u : XS) (s t : Int32) (hok : okN u) : mL l (gX Y) yX4_identifiedDenominator wsX4_identifiedDenominator ({ frames := 6, cells := 0, slots := 0, locals := 143 }) [.ref (yA Y 0), .int s, .int t] u (aDen u s t) (aFind u s t).2 := by
  obtain ⟨hn, hm, hsrc, htgt, hmet, hlen, hlnk⟩ := id hok
  refine mL_of (cc := cX4_identifiedDenominator) (nL := 3) (own := RX4) (by decide) rfl rfl (fun v => cX_geo Y _ v) (Nat.le_of_ble_eq_true rfl) ?_
  intro K hKl hE hret
  have f_0 : ∀ w ∈ u_ws RX4 TX4 5, w ∈ wsX4_identifiedDenominator := by decide +kernel
  have f_1 : Cond.fieldLink RX4 32 "TrafficMatrix" "equations" "LTrafficMatrix$Equations;" ∈ wsX4_identifiedDenominator := by decide +kernel
  have f_2 : Jvm.Cond.constantLong RX4 146 (-9223372036854775808) ∈ wsX4_identifiedDenominator := by decide +kernel
  show vV K (gX Y) u [(0, .ref (yA Y 0)), (1, .int s), (2, .int t)] [] 0
  refine v_aload_n 1 hE dX4_identifiedDenominator_0 rfl rfl ?_
  refine v_iload_n 2 hE dX4_identifiedDenominator_1 rfl rfl ?_
  refine v_iload_n 3 hE dX4_identifiedDenominator_2 rfl rfl ?_
  refine v_ciE 6 hE (v_runV 2 hE (vSub.self hE) (kX4_findIdentified _ Y _ _ _ hok) gX4_identifiedDenominator_X4_findIdentified rfl (by decide +kernel) rfl (q0 := 0) rfl rfl ⟨rfl, rfl, by decide, by decide⟩ rfl (Nat.le_of_ble_eq_true rfl) dX4_identifiedDenominator_3) rfl ?_
  refine v_if_neB 9 hE 13 dX4_identifiedDenominator_6 (by decide) rfl (fun c6 => ?_) (fun c6 => ?_)
  · obtain ⟨hre, hid⟩ : routeE (x_n u) (x_len u) s t = 0 ∧ (xDet u (slot s t) && xSol u) = true := by
      have c9 := c6
      unfold aFind at c9
      split at c9
      · rename_i hz
        exact ⟨hz, c9⟩
      · cases c9
    rw [show (aFind u s t).2 = xSolve u by rw [aFind_pos hre]]
    rw [show (aFind u s t).2 = xSolve u by rw [aFind_pos hre]] at hret
    obtain ⟨hpe, hus⟩ := routeE_0 hre
    obtain ⟨a, b, ha, hb, rfl, rfl, hab⟩ := pairE_0 hn hpe
    have hsl := slot_nI (a := a) (b := b) (by omega) (by omega)
    refine v_aload_n 14 hE dX4_identifiedDenominator_13 rfl rfl ?_
    refine gX_equations 17 hE f_0 f_1 dX4_identifiedDenominator_14 rfl ?_
    refine v_iload_n 18 hE dX4_identifiedDenominator_17 rfl rfl ?_
    refine v_iload_n 19 hE dX4_identifiedDenominator_18 rfl rfl ?_
    refine v_ciE 22 hE (v_runS 2 hE (vSub.self hE) (kX4_slotOf _ Y _ _ _) gX4_identifiedDenominator_X4_slotOf rfl (by decide +kernel) rfl ⟨rfl, rfl, by decide, by decide⟩ rfl (Nat.le_of_ble_eq_true rfl) dX4_identifiedDenominator_19) rfl ?_
    refine v_clE 25 hE (v_runV 1 hE (vSub.self hE) (kX0_denominatorOf _ Y (xSolve u) _ (okE_solve hok) (by omega)) gX4_identifiedDenominator_X0_denominatorOf rfl (by decide +kernel) rfl (q0 := 4) rfl rfl ⟨rfl, rfl, by decide, by decide⟩ rfl (Nat.le_of_ble_eq_true rfl) dX4_identifiedDenominator_22) rfl ?_
    exact (hret _ _ dX4_identifiedDenominator_25).cast rfl (rL (by unfold aDen; rw [c6, hsl]; rfl))
  · refine v_ldc2 12 hE f_2 dX4_identifiedDenominator_9 rfl ?_
    exact (hret _ _ dX4_identifiedDenominator_12).cast rfl (rL (by unfold aDen; rw [c6]; rfl))
set_option maxRecDepth 100000 in
set_option maxHeartbeats 4000000 in
theorem kX4_countWith (l : Launch) (Y : yG) (u : XS) (q : Nat) (hok : okN u) (hE0 : okE u) (hq : q < 25) : mI l (gX Y) yX4_countWith wsX4_countWith ({ frames := 4, cells := 0, slots := 0, locals := 90 }) [.ref (yA Y 0), .int (nI q)] u (nI (xCntW u q)) u := by
  refine mI_of (cc := cX4_countWith) (nL := 4) (own := RX4) (by decide) rfl rfl (fun v => cX_geo Y _ v) (Nat.le_of_ble_eq_true rfl) ?_
  intro K hKl hE hret
  have f_0 : ∀ w ∈ u_ws RX4 TX4 5, w ∈ wsX4_countWith := by decide +kernel
  have f_1 : Cond.fieldLink RX4 14 "TrafficMatrix" "network" "LTrafficMatrix$Network;" ∈ wsX4_countWith := by decide +kernel
  have f_2 : Cond.fieldLink RX4 32 "TrafficMatrix" "equations" "LTrafficMatrix$Equations;" ∈ wsX4_countWith := by decide +kernel
  show vV K (gX Y) u [(0, .ref (yA Y 0)), (1, .int (nI q))] [] 0
  refine v_iconst 1 hE (v := nI 0) dX4_countWith_0 (by decide) rfl ?_
  refine v_istore_n 2 hE [_, _, _] dX4_countWith_1 rfl (by decide) rfl rfl ?_
  refine v_iconst 3 hE (v := nI 0) dX4_countWith_2 (by decide) rfl ?_
  refine v_istore_n 4 hE [_, _, _, _] dX4_countWith_3 rfl (by decide) rfl rfl ?_
  refine vV.sub [2, 3, 1, 0] rfl ?_
  have L4 : ∀ (n4 : Nat) (a : Nat) (i : Nat), (i ≤ 25) → (a = cntN (fun s => uHas (x_len u) s && uDetW (x_kn u) (x_rop u) (x_row u) q s) i) → 25 + 1 ≤ i + n4 → vV K (gX Y) u [(0, .ref (yA Y 0)), (1, .int (nI q)), (2, .int (nI a)), (3, .int (nI i))] [] 4 := by
    intro n4
    induction n4 with
    | zero => intro a i hi ha hfu4; exact absurd hfu4 (by omega)
    | succ n4 ih4 =>
      intro a i hi ha hfu4
      refine v_iload_n 5 hE dX4_countWith_4 rfl rfl ?_
      refine v_bipush 7 hE (v := nI 25) dX4_countWith_5 (by decide) rfl ?_
      refine v_ic_geN 10 hE 42 dX4_countWith_7 (by decide) (by omega) (by omega) rfl (fun c7 => ?_) (fun c7 => ?_)
      · refine v_iload_n 43 hE dX4_countWith_42 rfl rfl ?_
        exact (hret _ _ dX4_countWith_43).cast rfl (rI (by rw [ha, show i = 25 by omega]))
      · refine v_aload_n 11 hE dX4_countWith_10 rfl rfl ?_
        refine gX_network 14 hE f_0 f_1 dX4_countWith_11 rfl ?_
        refine v_iload_n 15 hE dX4_countWith_14 rfl rfl ?_
        refine v_ciE 18 hE (v_runV 1 hE (vSub.self hE) (kX3_hasRoute _ Y _ _ hok (by omega)) gX4_countWith_X3_hasRoute rfl (by decide +kernel) rfl (q0 := 1) rfl rfl ⟨rfl, rfl, by decide, by decide⟩ rfl (Nat.le_of_ble_eq_true rfl) dX4_countWith_15) rfl ?_
        refine v_if_eqB 21 hE 36 dX4_countWith_18 (by decide) rfl (fun c18 => ?_) (fun c18 => ?_)
        · refine v_iincN 39 hE [_, _, _, _] dX4_countWith_36 rfl (by decide) rfl rfl ?_
          refine v_goto hE 4 dX4_countWith_39 (by decide) ?_
          refine vV.sub [1, 2, 3, 0] rfl ?_
          exact ih4 _ _ (by omega) (by first | (simp [cntN, ha, c18]; done) | (simp [cntN, ha, c18, c30]; done)) (by omega)
        · refine v_aload_n 22 hE dX4_countWith_21 rfl rfl ?_
          refine gX_equations 25 hE f_0 f_2 dX4_countWith_22 rfl ?_
          refine v_iload_n 26 hE dX4_countWith_25 rfl rfl ?_
          refine v_iload_n 27 hE dX4_countWith_26 rfl rfl ?_
          refine v_ciE 30 hE (v_runV 2 hE (vSub.self hE) (kX0_determineWith _ Y _ _ _ hE0 (by omega) (by omega)) gX4_countWith_X0_determineWith rfl (by decide +kernel) rfl (q0 := 4) rfl rfl ⟨rfl, rfl, by decide, by decide⟩ rfl (Nat.le_of_ble_eq_true rfl) dX4_countWith_27) rfl ?_
          refine v_if_eqB 33 hE 36 dX4_countWith_30 (by decide) rfl (fun c30 => ?_) (fun c30 => ?_)
          · refine v_iincN 39 hE [_, _, _, _] dX4_countWith_36 rfl (by decide) rfl rfl ?_
            refine v_goto hE 4 dX4_countWith_39 (by decide) ?_
            refine vV.sub [1, 2, 3, 0] rfl ?_
            exact ih4 _ _ (by omega) (by first | (simp [cntN, ha, c18]; done) | (simp [cntN, ha, c18, c30]; done)) (by omega)
          · refine v_iincN 36 hE [_, _, _, _] dX4_countWith_33 rfl (by decide) rfl rfl ?_
            refine v_iincN 39 hE [_, _, _, _] dX4_countWith_36 rfl (by decide) rfl rfl ?_
            refine v_goto hE 4 dX4_countWith_39 (by decide) ?_
            refine vV.sub [2, 3, 1, 0] rfl ?_
            exact ih4 _ _ (by omega) (by first | (simp [cntN, ha, c18]; done) | (simp [cntN, ha, c18, c30]; done)) (by omega)
  exact L4 (25 + 1) _ _ (by omega) rfl (by omega)
set_option maxRecDepth 100000 in
set_option maxHeartbeats 4000000 in
theorem kX4_bestPair (l : Launch) (Y : yG) (u : XS)  (hok : okN u) : mI l (gX Y) yX4_bestPair wsX4_bestPair ({ frames := 5, cells := 0, slots := 0, locals := 121 }) [.ref (yA Y 0)] u (aBest u) (xSolve u) := by
  obtain ⟨hn, hm, hsrc, htgt, hmet, hlen, hlnk⟩ := id hok
  refine mI_of (cc := cX4_bestPair) (nL := 5) (own := RX4) (by decide) rfl rfl (fun v => cX_geo Y _ v) (Nat.le_of_ble_eq_true rfl) ?_
  intro K hKl hE hret
  have f_0 : ∀ w ∈ u_ws RX4 TX4 5, w ∈ wsX4_bestPair := by decide +kernel
  have f_1 : Cond.fieldLink RX4 32 "TrafficMatrix" "equations" "LTrafficMatrix$Equations;" ∈ wsX4_bestPair := by decide +kernel
  have f_2 : Cond.fieldLink RX4 14 "TrafficMatrix" "network" "LTrafficMatrix$Network;" ∈ wsX4_bestPair := by decide +kernel
  have f_3 : Cond.fieldLink RX4 25 "TrafficMatrix" "measurements" "LTrafficMatrix$Measurements;" ∈ wsX4_bestPair := by decide +kernel
  show vV K (gX Y) u [(0, .ref (yA Y 0))] [] 0
  refine v_aload_n 1 hE dX4_bestPair_0 rfl rfl ?_
  refine gX_equations 4 hE f_0 f_1 dX4_bestPair_1 rfl ?_
  refine v_aload_n 5 hE dX4_bestPair_4 rfl rfl ?_
  refine gX_network 8 hE f_0 f_2 dX4_bestPair_5 rfl ?_
  refine v_aload_n 9 hE dX4_bestPair_8 rfl rfl ?_
  refine gX_measurements 12 hE f_0 f_3 dX4_bestPair_9 rfl ?_
  refine v_cvE 15 hE (v_runV 2 hE (vSub.self hE) (kX0_solve _ Y _ hok) gX4_bestPair_X0_solve rfl (by decide +kernel) rfl (q0 := 4) rfl rfl ⟨rfl, rfl, by decide, by decide⟩ rfl (Nat.le_of_ble_eq_true rfl) dX4_bestPair_12) rfl ?_
  refine v_bipush 17 hE (v := -7) dX4_bestPair_15 (by decide) rfl ?_
  refine v_istore_n 18 hE [_, _] dX4_bestPair_17 rfl (by decide) rfl rfl ?_
  refine v_iconst 19 hE (v := nI 0) dX4_bestPair_18 (by decide) rfl ?_
  refine v_istore_n 20 hE [_, _, _] dX4_bestPair_19 rfl (by decide) rfl rfl ?_
  refine v_iconst 21 hE (v := nI 0) dX4_bestPair_20 (by decide) rfl ?_
  refine v_istore_n 22 hE [_, _, _, _] dX4_bestPair_21 rfl (by decide) rfl rfl ?_
  refine vV.sub [3, 2, 1, 0] rfl ?_
  have L22 : ∀ (n22 : Nat) (b : Int32) (a : Nat) (i : Nat), (i ≤ 25) → (a = (bestN (fun s => uHas (x_len u) s && !xDet u s) (xCntW (xSolve u)) i).2) → (b = bpI (bestN (fun s => uHas (x_len u) s && !xDet u s) (xCntW (xSolve u)) i).1) → (a ≤ 25) → 25 + 1 ≤ i + n22 → vV K (gX Y) (xSolve u) [(0, .ref (yA Y 0)), (1, .int b), (2, .int (nI a)), (3, .int (nI i))] [] 22 := by
    intro n22
    induction n22 with
    | zero => intro b a i hi ha hb hal hfu22; exact absurd hfu22 (by omega)
    | succ n22 ih22 =>
      intro b a i hi ha hb hal hfu22
      refine v_iload_n 23 hE dX4_bestPair_22 rfl rfl ?_
      refine v_bipush 25 hE (v := nI 25) dX4_bestPair_23 (by decide) rfl ?_
      refine v_ic_geN 28 hE 83 dX4_bestPair_25 (by decide) (by omega) (by omega) rfl (fun c25 => ?_) (fun c25 => ?_)
      · refine v_iload_n 84 hE dX4_bestPair_83 rfl rfl ?_
        exact (hret _ _ dX4_bestPair_84).cast rfl (rI (by rw [hb, show i = 25 by omega]; rfl))
      · refine v_aload_n 29 hE dX4_bestPair_28 rfl rfl ?_
        refine gX_network 32 hE f_0 f_2 dX4_bestPair_29 rfl ?_
        refine v_iload_n 33 hE dX4_bestPair_32 rfl rfl ?_
        refine v_ciE 36 hE (v_runV 1 hE (vSub.self hE) (kX3_hasRoute _ Y _ _ hok (by omega)) gX4_bestPair_X3_hasRoute rfl (by decide +kernel) rfl (q0 := 1) rfl rfl ⟨rfl, rfl, by decide, by decide⟩ rfl (Nat.le_of_ble_eq_true rfl) dX4_bestPair_33) rfl ?_
        show vV K (gX Y) _ _ (.int (bI (uHas (x_len u) _)) :: _) _
        refine v_if_eqB 39 hE 77 dX4_bestPair_36 (by decide) rfl (fun c36 => ?_) (fun c36 => ?_)
        · refine v_iincN 80 hE [_, _, _, _] dX4_bestPair_77 rfl (by decide) rfl rfl ?_
          refine v_goto hE 22 dX4_bestPair_80 (by decide) ?_
          refine vV.sub [1, 2, 3, 0] rfl ?_
          exact ih22 _ _ _ (by omega) (by first | (simp [bestN, ha, c36]; done) | (simp only [bestN, c36, c47, Bool.true_and]; exact ha) | (simp only [bestN, c36, c47, Bool.true_and, Bool.not_false]; rw [← ha, decide_eq_true c60]; rfl) | (simp only [bestN, c36, c47, Bool.true_and, Bool.not_false]; rw [← ha, decide_eq_false (Nat.not_lt.mpr c60)]; exact ha)) (by first | (simp [bestN, hb, c36]; done) | (simp only [bestN, c36, c47, Bool.true_and]; exact hb) | (simp only [bestN, c36, c47, Bool.true_and, Bool.not_false]; rw [← ha, decide_eq_true c60]; rfl) | (simp only [bestN, c36, c47, Bool.true_and, Bool.not_false]; rw [← ha, decide_eq_false (Nat.not_lt.mpr c60)]; exact hb)) (by first | exact hal | exact cntN_le _ _) (by omega)
        · refine v_aload_n 40 hE dX4_bestPair_39 rfl rfl ?_
          refine gX_equations 43 hE f_0 f_1 dX4_bestPair_40 rfl ?_
          refine v_iload_n 44 hE dX4_bestPair_43 rfl rfl ?_
          refine v_ciE 47 hE (v_runV 1 hE (vSub.self hE) (kX0_determine _ Y (xSolve u) _ (okE_solve hok) (by omega)) gX4_bestPair_X0_determine rfl (by decide +kernel) rfl (q0 := 4) rfl rfl ⟨rfl, rfl, by decide, by decide⟩ rfl (Nat.le_of_ble_eq_true rfl) dX4_bestPair_44) rfl ?_
          refine v_if_neB 50 hE 77 dX4_bestPair_47 (by decide) rfl (fun c47 => ?_) (fun c47 => ?_)
          · refine v_iincN 80 hE [_, _, _, _] dX4_bestPair_77 rfl (by decide) rfl rfl ?_
            refine v_goto hE 22 dX4_bestPair_80 (by decide) ?_
            refine vV.sub [1, 2, 3, 0] rfl ?_
            exact ih22 _ _ _ (by omega) (by first | (simp [bestN, ha, c36]; done) | (simp only [bestN, c36, c47, Bool.true_and]; exact ha) | (simp only [bestN, c36, c47, Bool.true_and, Bool.not_false]; rw [← ha, decide_eq_true c60]; rfl) | (simp only [bestN, c36, c47, Bool.true_and, Bool.not_false]; rw [← ha, decide_eq_false (Nat.not_lt.mpr c60)]; exact ha)) (by first | (simp [bestN, hb, c36]; done) | (simp only [bestN, c36, c47, Bool.true_and]; exact hb) | (simp only [bestN, c36, c47, Bool.true_and, Bool.not_false]; rw [← ha, decide_eq_true c60]; rfl) | (simp only [bestN, c36, c47, Bool.true_and, Bool.not_false]; rw [← ha, decide_eq_false (Nat.not_lt.mpr c60)]; exact hb)) (by first | exact hal | exact cntN_le _ _) (by omega)
          · refine v_aload_n 51 hE dX4_bestPair_50 rfl rfl ?_
            refine v_iload_n 52 hE dX4_bestPair_51 rfl rfl ?_
            refine v_ciE 55 hE (v_runV 1 hE (vSub.self hE) (kX4_countWith _ Y (xSolve u) _ hok (okE_solve hok) (by omega)) gX4_bestPair_X4_countWith rfl (by decide +kernel) rfl (q0 := 0) rfl rfl ⟨rfl, rfl, by decide, by decide⟩ rfl (Nat.le_of_ble_eq_true rfl) dX4_bestPair_52) rfl ?_
            refine v_istore 57 hE [_, _, _, _, _] dX4_bestPair_55 (by decide) rfl rfl ?_
            have hcw : xCntW (xSolve u) i ≤ 25 := cntN_le _ _
            refine v_iload 59 hE dX4_bestPair_57 rfl rfl ?_
            refine v_iload_n 60 hE dX4_bestPair_59 rfl rfl ?_
            refine v_ic_leN 63 hE 77 dX4_bestPair_60 (by decide) (by omega) (by omega) rfl (fun c60 => ?_) (fun c60 => ?_)
            · refine v_iincN 80 hE [_, _, _, _, _] dX4_bestPair_77 rfl (by decide) rfl rfl ?_
              refine v_goto hE 22 dX4_bestPair_80 (by decide) ?_
              refine vV.sub [2, 3, 4, 0] rfl ?_
              exact ih22 _ _ _ (by omega) (by first | (simp [bestN, ha, c36]; done) | (simp only [bestN, c36, c47, Bool.true_and]; exact ha) | (simp only [bestN, c36, c47, Bool.true_and, Bool.not_false]; rw [← ha, decide_eq_true c60]; rfl) | (simp only [bestN, c36, c47, Bool.true_and, Bool.not_false]; rw [← ha, decide_eq_false (Nat.not_lt.mpr c60)]; exact ha)) (by first | (simp [bestN, hb, c36]; done) | (simp only [bestN, c36, c47, Bool.true_and]; exact hb) | (simp only [bestN, c36, c47, Bool.true_and, Bool.not_false]; rw [← ha, decide_eq_true c60]; rfl) | (simp only [bestN, c36, c47, Bool.true_and, Bool.not_false]; rw [← ha, decide_eq_false (Nat.not_lt.mpr c60)]; exact hb)) (by first | exact hal | exact cntN_le _ _) (by omega)
            · refine v_iload 65 hE dX4_bestPair_63 rfl rfl ?_
              refine v_istore_n 66 hE [_, _, _, _, _] dX4_bestPair_65 rfl (by decide) rfl rfl ?_
              refine v_bipush 68 hE (v := nI 10) dX4_bestPair_66 (by decide) rfl ?_
              refine v_iload_n 69 hE dX4_bestPair_68 rfl rfl ?_
              refine v_iconst 70 hE (v := nI 5) dX4_bestPair_69 (by decide) rfl ?_
              refine v_idivN 71 hE dX4_bestPair_70 (by omega) (by omega) (by omega) rfl ?_
              refine v_imulN 72 hE dX4_bestPair_71 rfl ?_
              refine v_iload_n 73 hE dX4_bestPair_72 rfl rfl ?_
              refine v_iconst 74 hE (v := nI 5) dX4_bestPair_73 (by decide) rfl ?_
              refine v_iremN 75 hE dX4_bestPair_74 (by omega) (by omega) (by omega) rfl ?_
              refine v_iaddN 76 hE dX4_bestPair_75 rfl ?_
              refine v_istore_n 77 hE [_, _, _, _, _] dX4_bestPair_76 rfl (by decide) rfl rfl ?_
              refine v_iincN 80 hE [_, _, _, _, _] dX4_bestPair_77 rfl (by decide) rfl rfl ?_
              refine v_goto hE 22 dX4_bestPair_80 (by decide) ?_
              refine vV.sub [4, 1, 2, 0] rfl ?_
              exact ih22 _ _ _ (by omega) (by first | (simp [bestN, ha, c36]; done) | (simp only [bestN, c36, c47, Bool.true_and]; exact ha) | (simp only [bestN, c36, c47, Bool.true_and, Bool.not_false]; rw [← ha, decide_eq_true c60]; rfl) | (simp only [bestN, c36, c47, Bool.true_and, Bool.not_false]; rw [← ha, decide_eq_false (Nat.not_lt.mpr c60)]; exact ha)) (by first | (simp [bestN, hb, c36]; done) | (simp only [bestN, c36, c47, Bool.true_and]; exact hb) | (simp only [bestN, c36, c47, Bool.true_and, Bool.not_false]; rw [← ha, decide_eq_true c60]; rfl) | (simp only [bestN, c36, c47, Bool.true_and, Bool.not_false]; rw [← ha, decide_eq_false (Nat.not_lt.mpr c60)]; exact hb)) (by first | exact hal | exact cntN_le _ _) (by omega)
  exact L22 (25 + 1) _ _ _ (by omega) rfl rfl (by omega) (by omega)
set_option maxRecDepth 100000 in
set_option maxHeartbeats 4000000 in
theorem kX4_pairsOnLink (l : Launch) (Y : yG) (u : XS) (k : Int32) (hok : okN u) : mI l (gX Y) yX4_pairsOnLink wsX4_pairsOnLink ({ frames := 1, cells := 0, slots := 0, locals := 23 }) [.ref (yA Y 0), .int k] u (aOnL u k) u := by
  obtain ⟨hn, hm, hsrc, htgt, hmet, hlen, hlnk⟩ := id hok
  refine mI_of (cc := cX4_pairsOnLink) (nL := 4) (own := RX4) (by decide) rfl rfl (fun v => cX_geo Y _ v) (Nat.le_of_ble_eq_true rfl) ?_
  intro K hKl hE hret
  have f_0 : ∀ w ∈ u_ws RX4 TX4 5, w ∈ wsX4_pairsOnLink := by decide +kernel
  have f_1 : Cond.fieldLink RX4 14 "TrafficMatrix" "network" "LTrafficMatrix$Network;" ∈ wsX4_pairsOnLink := by decide +kernel
  show vV K (gX Y) u [(0, .ref (yA Y 0)), (1, .int k)] [] 0
  refine v_aload_n 1 hE dX4_pairsOnLink_0 rfl rfl ?_
  refine gX_network 4 hE f_0 f_1 dX4_pairsOnLink_1 rfl ?_
  refine v_iload_n 5 hE dX4_pairsOnLink_4 rfl rfl ?_
  refine v_ciE 8 hE (v_runV 1 hE (vSub.self hE) (kX3_hasLink _ Y _ _ hok) gX4_pairsOnLink_X3_hasLink rfl (by decide +kernel) rfl (q0 := 1) rfl rfl ⟨rfl, rfl, by decide, by decide⟩ rfl (Nat.le_of_ble_eq_true rfl) dX4_pairsOnLink_5) rfl ?_
  refine v_if_neB 11 hE 14 dX4_pairsOnLink_8 (by decide) rfl (fun c8 => ?_) (fun c8 => ?_)
  · obtain ⟨j, hj, rfl⟩ := inB_t (by omega) c8
    have hjx := ndx_nI (k := j) (by omega)
    refine v_iconst 15 hE (v := nI 0) dX4_pairsOnLink_14 (by decide) rfl ?_
    refine v_istore_n 16 hE [_, _, _] dX4_pairsOnLink_15 rfl (by decide) rfl rfl ?_
    refine v_iconst 17 hE (v := nI 0) dX4_pairsOnLink_16 (by decide) rfl ?_
    refine v_istore_n 18 hE [_, _, _, _] dX4_pairsOnLink_17 rfl (by decide) rfl rfl ?_
    refine vV.sub [2, 3, 1, 0] rfl ?_
    have L18 : ∀ (n18 : Nat) (a : Nat) (i : Nat), (i ≤ 25) → (a = cntN (fun s => uUses (x_len u) (x_lnk u) s j) i) → 25 + 1 ≤ i + n18 → vV K (gX Y) u [(0, .ref (yA Y 0)), (1, .int (nI j)), (2, .int (nI a)), (3, .int (nI i))] [] 18 := by
      intro n18
      induction n18 with
      | zero => intro a i hi ha hfu18; exact absurd hfu18 (by omega)
      | succ n18 ih18 =>
        intro a i hi ha hfu18
        refine v_iload_n 19 hE dX4_pairsOnLink_18 rfl rfl ?_
        refine v_bipush 21 hE (v := nI 25) dX4_pairsOnLink_19 (by decide) rfl ?_
        refine v_ic_geN 24 hE 45 dX4_pairsOnLink_21 (by decide) (by omega) (by omega) rfl (fun c21 => ?_) (fun c21 => ?_)
        · refine v_iload_n 46 hE dX4_pairsOnLink_45 rfl rfl ?_
          exact (hret _ _ dX4_pairsOnLink_46).cast rfl (rI (by unfold aOnL; rw [if_pos c8, hjx, ha, show i = 25 by omega]))
        · refine v_aload_n 25 hE dX4_pairsOnLink_24 rfl rfl ?_
          refine gX_network 28 hE f_0 f_1 dX4_pairsOnLink_25 rfl ?_
          refine v_iload_n 29 hE dX4_pairsOnLink_28 rfl rfl ?_
          refine v_iload_n 30 hE dX4_pairsOnLink_29 rfl rfl ?_
          refine v_ciE 33 hE (v_runV 2 hE (vSub.self hE) (kX3_routeUses _ Y _ _ _ hok (by omega) (by omega)) gX4_pairsOnLink_X3_routeUses rfl (by decide +kernel) rfl (q0 := 1) rfl rfl ⟨rfl, rfl, by decide, by decide⟩ rfl (Nat.le_of_ble_eq_true rfl) dX4_pairsOnLink_30) rfl ?_
          refine v_if_eqB 36 hE 39 dX4_pairsOnLink_33 (by decide) rfl (fun c33 => ?_) (fun c33 => ?_)
          · refine v_iincN 42 hE [_, _, _, _] dX4_pairsOnLink_39 rfl (by decide) rfl rfl ?_
            refine v_goto hE 18 dX4_pairsOnLink_42 (by decide) ?_
            refine vV.sub [1, 2, 3, 0] rfl ?_
            exact ih18 _ _ (by omega) (by simp [cntN, ha, c33]) (by omega)
          · refine v_iincN 39 hE [_, _, _, _] dX4_pairsOnLink_36 rfl (by decide) rfl rfl ?_
            refine v_iincN 42 hE [_, _, _, _] dX4_pairsOnLink_39 rfl (by decide) rfl rfl ?_
            refine v_goto hE 18 dX4_pairsOnLink_42 (by decide) ?_
            refine vV.sub [2, 3, 1, 0] rfl ?_
            exact ih18 _ _ (by omega) (by simp [cntN, ha, c33]) (by omega)
    exact L18 (25 + 1) _ _ (by omega) rfl (by omega)
  · refine v_bipush 13 hE (v := -3) dX4_pairsOnLink_11 (by decide) rfl ?_
    exact (hret _ _ dX4_pairsOnLink_13).cast rfl (rI (by simp [aOnL, c8]))
set_option maxRecDepth 100000 in
set_option maxHeartbeats 4000000 in
theorem kX4_applyGravity (l : Launch) (Y : yG) (u : XS)  (hok : okN u) : mI l (gX Y) yX4_applyGravity wsX4_applyGravity ({ frames := 2, cells := 0, slots := 0, locals := 53 }) [.ref (yA Y 0)] u (nI (cntN (fun s => !decide ((grav (uHas (x_len u)) (x_out u) (x_inn u) (sumI (x_out u) 5).toInt64) s ≤ 0)) 25)) (xs_val u (mixN (x_val u) (grav (uHas (x_len u)) (x_out u) (x_inn u) (sumI (x_out u) 5).toInt64) 25)) := by
  obtain ⟨hn, hm, hsrc, htgt, hmet, hlen, hlnk⟩ := id hok
  refine mI_of (cc := cX4_applyGravity) (nL := 1) (own := RX4) (by decide) rfl rfl (fun v => cX_geo Y _ v) (Nat.le_of_ble_eq_true rfl) ?_
  intro K hKl hE hret
  have f_0 : ∀ w ∈ u_ws RX4 TX4 5, w ∈ wsX4_applyGravity := by decide +kernel
  have f_1 : Cond.fieldLink RX4 39 "TrafficMatrix" "estimates" "LTrafficMatrix$Estimates;" ∈ wsX4_applyGravity := by decide +kernel
  have f_2 : Cond.fieldLink RX4 14 "TrafficMatrix" "network" "LTrafficMatrix$Network;" ∈ wsX4_applyGravity := by decide +kernel
  have f_3 : Cond.fieldLink RX4 25 "TrafficMatrix" "measurements" "LTrafficMatrix$Measurements;" ∈ wsX4_applyGravity := by decide +kernel
  show vV K (gX Y) u [(0, .ref (yA Y 0))] [] 0
  refine v_aload_n 1 hE dX4_applyGravity_0 rfl rfl ?_
  refine gX_estimates 4 hE f_0 f_1 dX4_applyGravity_1 rfl ?_
  refine v_aload_n 5 hE dX4_applyGravity_4 rfl rfl ?_
  refine gX_network 8 hE f_0 f_2 dX4_applyGravity_5 rfl ?_
  refine v_aload_n 9 hE dX4_applyGravity_8 rfl rfl ?_
  refine gX_measurements 12 hE f_0 f_3 dX4_applyGravity_9 rfl ?_
  refine v_ciE 15 hE (v_runV 2 hE (vSub.self hE) (kX1_takeGravity _ Y _ hok) gX4_applyGravity_X1_takeGravity rfl (by decide +kernel) rfl (q0 := 5) rfl rfl ⟨rfl, rfl, by decide, by decide⟩ rfl (Nat.le_of_ble_eq_true rfl) dX4_applyGravity_12) rfl ?_
  exact (hret _ _ dX4_applyGravity_15).cast rfl (rI (by simp []))
set_option maxRecDepth 100000 in
set_option maxHeartbeats 4000000 in
theorem kX4_fitTotals (l : Launch) (Y : yG) (u : XS) (k : Int32) (hok : okN u) : mI l (gX Y) yX4_fitTotals wsX4_fitTotals ({ frames := 3, cells := 0, slots := 0, locals := 74 }) [.ref (yA Y 0), .int k] u ((aFitT u k).1) (aFitT u k).2 := by
  obtain ⟨hn, hm, hsrc, htgt, hmet, hlen, hlnk⟩ := id hok
  refine mI_of (cc := cX4_fitTotals) (nL := 3) (own := RX4) (by decide) rfl rfl (fun v => cX_geo Y _ v) (Nat.le_of_ble_eq_true rfl) ?_
  intro K hKl hE hret
  have f_0 : ∀ w ∈ u_ws RX4 TX4 5, w ∈ wsX4_fitTotals := by decide +kernel
  have f_1 : Cond.fieldLink RX4 39 "TrafficMatrix" "estimates" "LTrafficMatrix$Estimates;" ∈ wsX4_fitTotals := by decide +kernel
  have f_2 : Cond.fieldLink RX4 25 "TrafficMatrix" "measurements" "LTrafficMatrix$Measurements;" ∈ wsX4_fitTotals := by decide +kernel
  show vV K (gX Y) u [(0, .ref (yA Y 0)), (1, .int k)] [] 0
  refine v_iload_n 1 hE dX4_fitTotals_0 rfl rfl ?_
  refine v_ciE 4 hE (v_runS 1 hE (vSub.self hE) (kX4_isTimes _ Y _ _) gX4_fitTotals_X4_isTimes rfl (by decide +kernel) rfl ⟨rfl, rfl, by decide, by decide⟩ rfl (Nat.le_of_ble_eq_true rfl) dX4_fitTotals_1) rfl ?_
  refine v_if_neB 7 hE 10 dX4_fitTotals_4 (by decide) rfl (fun c4 => ?_) (fun c4 => ?_)
  · obtain ⟨j, hj1, hj50, rfl⟩ := isIn_t (by decide) (by decide) c4
    have hjx := ndx_nI (k := j) (by omega)
    refine v_aload_n 11 hE dX4_fitTotals_10 rfl rfl ?_
    refine gX_estimates 14 hE f_0 f_1 dX4_fitTotals_11 rfl ?_
    refine v_cvE 17 hE (v_runV 0 hE (vSub.self hE) (kX1_remember _ Y _) gX4_fitTotals_X1_remember rfl (by decide +kernel) rfl (q0 := 5) rfl rfl ⟨rfl, rfl, by decide, by decide⟩ rfl (Nat.le_of_ble_eq_true rfl) dX4_fitTotals_14) rfl ?_
    refine v_iconst 18 hE (v := nI 0) dX4_fitTotals_17 (by decide) rfl ?_
    refine v_istore_n 19 hE [_, _, _] dX4_fitTotals_18 rfl (by decide) rfl rfl ?_
    refine vV.sub [1, 2, 0] rfl ?_
    have L19 : ∀ (n19 : Nat) (i : Nat) (f : Nat → Int64), (i ≤ j) → (f = iterF (fitT (x_out u) (x_inn u)) i (x_val u)) → j + 1 ≤ i + n19 → vV K (gX Y) (xs_val (xRem u) f) [(0, .ref (yA Y 0)), (1, .int (nI j)), (2, .int (nI i))] [] 19 := by
      intro n19
      induction n19 with
      | zero => intro i f hi hf hfu19; exact absurd hfu19 (by omega)
      | succ n19 ih19 =>
        intro i f hi hf hfu19
        refine v_iload_n 20 hE dX4_fitTotals_19 rfl rfl ?_
        refine v_iload_n 21 hE dX4_fitTotals_20 rfl rfl ?_
        refine v_ic_geN 24 hE 41 dX4_fitTotals_21 (by decide) (by omega) (by omega) rfl (fun c21 => ?_) (fun c21 => ?_)
        · refine v_aload_n 42 hE dX4_fitTotals_41 rfl rfl ?_
          refine gX_estimates 45 hE f_0 f_1 dX4_fitTotals_42 rfl ?_
          refine v_ciE 48 hE (v_runV 0 hE (vSub.self hE) (kX1_countChanged _ Y _) gX4_fitTotals_X1_countChanged rfl (by decide +kernel) rfl (q0 := 5) rfl rfl ⟨rfl, rfl, by decide, by decide⟩ rfl (Nat.le_of_ble_eq_true rfl) dX4_fitTotals_45) rfl ?_
          exact (hret _ _ dX4_fitTotals_48).cast (by unfold aFitT; rw [if_pos c4, hjx, hf, show i = j by omega]) (rI (by unfold aFitT; rw [if_pos c4, hjx, hf, show i = j by omega]))
        · refine v_aload_n 25 hE dX4_fitTotals_24 rfl rfl ?_
          refine gX_estimates 28 hE f_0 f_1 dX4_fitTotals_25 rfl ?_
          refine v_aload_n 29 hE dX4_fitTotals_28 rfl rfl ?_
          refine gX_measurements 32 hE f_0 f_2 dX4_fitTotals_29 rfl ?_
          refine v_cvE 35 hE (v_runV 1 hE (vSub.self hE) (kX1_fitOnceToTotals _ Y (xs_val (xRem u) f)) gX4_fitTotals_X1_fitOnceToTotals rfl (by decide +kernel) rfl (q0 := 5) rfl rfl ⟨rfl, rfl, by decide, by decide⟩ rfl (Nat.le_of_ble_eq_true rfl) dX4_fitTotals_32) rfl ?_
          refine v_iincN 38 hE [_, _, _] dX4_fitTotals_35 rfl (by decide) rfl rfl ?_
          refine v_goto hE 19 dX4_fitTotals_38 (by decide) ?_
          refine vV.sub [1, 2, 0] rfl ?_
          exact ih19 _ (fitT (x_out u) (x_inn u) f) (by omega) (by rw [iterF_s, ← hf]) (by omega)
    exact L19 (j + 1) 0 (x_val u) (by omega) rfl (by omega)
  · refine v_bipush 9 hE (v := -4) dX4_fitTotals_7 (by decide) rfl ?_
    exact (hret _ _ dX4_fitTotals_9).cast (by simp [aFitT, c4]) (rI (by simp [aFitT, c4]))
set_option maxRecDepth 100000 in
set_option maxHeartbeats 4000000 in
theorem kX4_fitLinks (l : Launch) (Y : yG) (u : XS) (k : Int32) (hok : okN u) : mI l (gX Y) yX4_fitLinks wsX4_fitLinks ({ frames := 4, cells := 0, slots := 0, locals := 97 }) [.ref (yA Y 0), .int k] u ((aFitK u k).1) (aFitK u k).2 := by
  obtain ⟨hn, hm, hsrc, htgt, hmet, hlen, hlnk⟩ := id hok
  refine mI_of (cc := cX4_fitLinks) (nL := 3) (own := RX4) (by decide) rfl rfl (fun v => cX_geo Y _ v) (Nat.le_of_ble_eq_true rfl) ?_
  intro K hKl hE hret
  have f_0 : ∀ w ∈ u_ws RX4 TX4 5, w ∈ wsX4_fitLinks := by decide +kernel
  have f_1 : Cond.fieldLink RX4 39 "TrafficMatrix" "estimates" "LTrafficMatrix$Estimates;" ∈ wsX4_fitLinks := by decide +kernel
  have f_2 : Cond.fieldLink RX4 14 "TrafficMatrix" "network" "LTrafficMatrix$Network;" ∈ wsX4_fitLinks := by decide +kernel
  have f_3 : Cond.fieldLink RX4 25 "TrafficMatrix" "measurements" "LTrafficMatrix$Measurements;" ∈ wsX4_fitLinks := by decide +kernel
  show vV K (gX Y) u [(0, .ref (yA Y 0)), (1, .int k)] [] 0
  refine v_iload_n 1 hE dX4_fitLinks_0 rfl rfl ?_
  refine v_ciE 4 hE (v_runS 1 hE (vSub.self hE) (kX4_isTimes _ Y _ _) gX4_fitLinks_X4_isTimes rfl (by decide +kernel) rfl ⟨rfl, rfl, by decide, by decide⟩ rfl (Nat.le_of_ble_eq_true rfl) dX4_fitLinks_1) rfl ?_
  refine v_if_neB 7 hE 10 dX4_fitLinks_4 (by decide) rfl (fun c4 => ?_) (fun c4 => ?_)
  · obtain ⟨j, hj1, hj50, rfl⟩ := isIn_t (by decide) (by decide) c4
    have hjx := ndx_nI (k := j) (by omega)
    refine v_aload_n 11 hE dX4_fitLinks_10 rfl rfl ?_
    refine gX_estimates 14 hE f_0 f_1 dX4_fitLinks_11 rfl ?_
    refine v_cvE 17 hE (v_runV 0 hE (vSub.self hE) (kX1_remember _ Y _) gX4_fitLinks_X1_remember rfl (by decide +kernel) rfl (q0 := 5) rfl rfl ⟨rfl, rfl, by decide, by decide⟩ rfl (Nat.le_of_ble_eq_true rfl) dX4_fitLinks_14) rfl ?_
    refine v_iconst 18 hE (v := nI 0) dX4_fitLinks_17 (by decide) rfl ?_
    refine v_istore_n 19 hE [_, _, _] dX4_fitLinks_18 rfl (by decide) rfl rfl ?_
    refine vV.sub [1, 2, 0] rfl ?_
    have L19 : ∀ (n19 : Nat) (i : Nat) (f : Nat → Int64), (i ≤ j) → (f = iterF (fitK (uUses (x_len u) (x_lnk u)) (x_load u) (x_m u)) i (x_val u)) → j + 1 ≤ i + n19 → vV K (gX Y) (xs_val (xRem u) f) [(0, .ref (yA Y 0)), (1, .int (nI j)), (2, .int (nI i))] [] 19 := by
      intro n19
      induction n19 with
      | zero => intro i f hi hf hfu19; exact absurd hfu19 (by omega)
      | succ n19 ih19 =>
        intro i f hi hf hfu19
        refine v_iload_n 20 hE dX4_fitLinks_19 rfl rfl ?_
        refine v_iload_n 21 hE dX4_fitLinks_20 rfl rfl ?_
        refine v_ic_geN 24 hE 45 dX4_fitLinks_21 (by decide) (by omega) (by omega) rfl (fun c21 => ?_) (fun c21 => ?_)
        · refine v_aload_n 46 hE dX4_fitLinks_45 rfl rfl ?_
          refine gX_estimates 49 hE f_0 f_1 dX4_fitLinks_46 rfl ?_
          refine v_ciE 52 hE (v_runV 0 hE (vSub.self hE) (kX1_countChanged _ Y _) gX4_fitLinks_X1_countChanged rfl (by decide +kernel) rfl (q0 := 5) rfl rfl ⟨rfl, rfl, by decide, by decide⟩ rfl (Nat.le_of_ble_eq_true rfl) dX4_fitLinks_49) rfl ?_
          exact (hret _ _ dX4_fitLinks_52).cast (by unfold aFitK; rw [if_pos c4, hjx, hf, show i = j by omega]) (rI (by unfold aFitK; rw [if_pos c4, hjx, hf, show i = j by omega]))
        · refine v_aload_n 25 hE dX4_fitLinks_24 rfl rfl ?_
          refine gX_estimates 28 hE f_0 f_1 dX4_fitLinks_25 rfl ?_
          refine v_aload_n 29 hE dX4_fitLinks_28 rfl rfl ?_
          refine gX_network 32 hE f_0 f_2 dX4_fitLinks_29 rfl ?_
          refine v_aload_n 33 hE dX4_fitLinks_32 rfl rfl ?_
          refine gX_measurements 36 hE f_0 f_3 dX4_fitLinks_33 rfl ?_
          refine v_cvE 39 hE (v_runV 2 hE (vSub.self hE) (kX1_fitOnceToLinks _ Y (xs_val (xRem u) f) hok) gX4_fitLinks_X1_fitOnceToLinks rfl (by decide +kernel) rfl (q0 := 5) rfl rfl ⟨rfl, rfl, by decide, by decide⟩ rfl (Nat.le_of_ble_eq_true rfl) dX4_fitLinks_36) rfl ?_
          refine v_iincN 42 hE [_, _, _] dX4_fitLinks_39 rfl (by decide) rfl rfl ?_
          refine v_goto hE 19 dX4_fitLinks_42 (by decide) ?_
          refine vV.sub [1, 2, 0] rfl ?_
          exact ih19 _ (fitK (uUses (x_len u) (x_lnk u)) (x_load u) (x_m u) f) (by omega) (by rw [iterF_s, ← hf]) (by omega)
    exact L19 (j + 1) 0 (x_val u) (by omega) rfl (by omega)
  · refine v_bipush 9 hE (v := -4) dX4_fitLinks_7 (by decide) rfl ?_
    exact (hret _ _ dX4_fitLinks_9).cast (by simp [aFitK, c4]) (rI (by simp [aFitK, c4]))
set_option maxRecDepth 100000 in
set_option maxHeartbeats 4000000 in
theorem kX4_estimate (l : Launch) (Y : yG) (u : XS) (s t : Int32) (hok : okN u) : mL l (gX Y) yX4_estimate wsX4_estimate ({ frames := 2, cells := 0, slots := 0, locals := 43 }) [.ref (yA Y 0), .int s, .int t] u (aEst u s t) u := by
  obtain ⟨hn, hm, hsrc, htgt, hmet, hlen, hlnk⟩ := id hok
  refine mL_of (cc := cX4_estimate) (nL := 3) (own := RX4) (by decide) rfl rfl (fun v => cX_geo Y _ v) (Nat.le_of_ble_eq_true rfl) ?_
  intro K hKl hE hret
  have f_0 : ∀ w ∈ u_ws RX4 TX4 5, w ∈ wsX4_estimate := by decide +kernel
  have f_1 : Cond.fieldLink RX4 39 "TrafficMatrix" "estimates" "LTrafficMatrix$Estimates;" ∈ wsX4_estimate := by decide +kernel
  have f_2 : ∀ w ∈ u_ws RX1 TX1 2, w ∈ wsX4_estimate := by decide +kernel
  have f_3 : Cond.fieldLink RX4 183 "TrafficMatrix$Estimates" "values" "[J" ∈ wsX4_estimate := by decide +kernel
  have f_4 : Jvm.Cond.constantLong RX4 146 (-9223372036854775808) ∈ wsX4_estimate := by decide +kernel
  show vV K (gX Y) u [(0, .ref (yA Y 0)), (1, .int s), (2, .int t)] [] 0
  refine v_aload_n 1 hE dX4_estimate_0 rfl rfl ?_
  refine v_iload_n 2 hE dX4_estimate_1 rfl rfl ?_
  refine v_iload_n 3 hE dX4_estimate_2 rfl rfl ?_
  refine v_ciE 6 hE (v_runV 2 hE (vSub.self hE) (kX4_pairError _ Y _ _ _ hok) gX4_estimate_X4_pairError rfl (by decide +kernel) rfl (q0 := 0) rfl rfl ⟨rfl, rfl, by decide, by decide⟩ rfl (Nat.le_of_ble_eq_true rfl) dX4_estimate_3) rfl ?_
  refine v_if_eq 9 hE 13 dX4_estimate_6 (by decide) rfl (fun c6 => ?_) (fun c6 => ?_)
  · obtain ⟨a, b, ha, hb, rfl, rfl, hab⟩ := pairE_0 hn c6
    have hsl := slot_nI (a := a) (b := b) (by omega) (by omega)
    refine v_aload_n 14 hE dX4_estimate_13 rfl rfl ?_
    refine gX_estimates 17 hE f_0 f_1 dX4_estimate_14 rfl ?_
    refine gX_values 20 hE f_2 f_3 dX4_estimate_17 rfl ?_
    refine v_iload_n 21 hE dX4_estimate_20 rfl rfl ?_
    refine v_iload_n 22 hE dX4_estimate_21 rfl rfl ?_
    refine v_ciE 25 hE (v_runS 2 hE (vSub.self hE) (kX4_slotOf _ Y _ _ _) gX4_estimate_X4_slotOf rfl (by decide +kernel) rfl ⟨rfl, rfl, by decide, by decide⟩ rfl (Nat.le_of_ble_eq_true rfl) dX4_estimate_22) rfl ?_
    refine lX_val 26 hE (by omega) dX4_estimate_25 rfl ?_
    exact (hret _ _ dX4_estimate_26).cast rfl (rL (by unfold aEst; rw [if_pos c6, hsl]))
  · refine v_ldc2 12 hE f_4 dX4_estimate_9 rfl ?_
    exact (hret _ _ dX4_estimate_12).cast rfl (rL (by simp [aEst, c6]))
set_option maxRecDepth 100000 in
set_option maxHeartbeats 4000000 in
theorem kX4_residual (l : Launch) (Y : yG) (u : XS) (k : Int32) (hok : okN u) : mL l (gX Y) yX4_residual wsX4_residual ({ frames := 2, cells := 0, slots := 0, locals := 48 }) [.ref (yA Y 0), .int k] u (aRes u k) u := by
  obtain ⟨hn, hm, hsrc, htgt, hmet, hlen, hlnk⟩ := id hok
  refine mL_of (cc := cX4_residual) (nL := 2) (own := RX4) (by decide) rfl rfl (fun v => cX_geo Y _ v) (Nat.le_of_ble_eq_true rfl) ?_
  intro K hKl hE hret
  have f_0 : ∀ w ∈ u_ws RX4 TX4 5, w ∈ wsX4_residual := by decide +kernel
  have f_1 : Cond.fieldLink RX4 14 "TrafficMatrix" "network" "LTrafficMatrix$Network;" ∈ wsX4_residual := by decide +kernel
  have f_2 : Cond.fieldLink RX4 39 "TrafficMatrix" "estimates" "LTrafficMatrix$Estimates;" ∈ wsX4_residual := by decide +kernel
  have f_3 : Jvm.Cond.constantLong RX4 191 1000 ∈ wsX4_residual := by decide +kernel
  have f_4 : Cond.fieldLink RX4 25 "TrafficMatrix" "measurements" "LTrafficMatrix$Measurements;" ∈ wsX4_residual := by decide +kernel
  have f_5 : ∀ w ∈ u_ws RX2 TX2 4, w ∈ wsX4_residual := by decide +kernel
  have f_6 : Cond.fieldLink RX4 104 "TrafficMatrix$Measurements" "loads" "[I" ∈ wsX4_residual := by decide +kernel
  have f_7 : Jvm.Cond.constantLong RX4 146 (-9223372036854775808) ∈ wsX4_residual := by decide +kernel
  show vV K (gX Y) u [(0, .ref (yA Y 0)), (1, .int k)] [] 0
  refine v_aload_n 1 hE dX4_residual_0 rfl rfl ?_
  refine gX_network 4 hE f_0 f_1 dX4_residual_1 rfl ?_
  refine v_iload_n 5 hE dX4_residual_4 rfl rfl ?_
  refine v_ciE 8 hE (v_runV 1 hE (vSub.self hE) (kX3_hasLink _ Y _ _ hok) gX4_residual_X3_hasLink rfl (by decide +kernel) rfl (q0 := 1) rfl rfl ⟨rfl, rfl, by decide, by decide⟩ rfl (Nat.le_of_ble_eq_true rfl) dX4_residual_5) rfl ?_
  refine v_if_neB 11 hE 15 dX4_residual_8 (by decide) rfl (fun c8 => ?_) (fun c8 => ?_)
  · obtain ⟨j, hj, rfl⟩ := inB_t (by omega) c8
    have hjx := ndx_nI (k := j) (by omega)
    refine v_aload_n 16 hE dX4_residual_15 rfl rfl ?_
    refine gX_estimates 19 hE f_0 f_2 dX4_residual_16 rfl ?_
    refine v_aload_n 20 hE dX4_residual_19 rfl rfl ?_
    refine gX_network 23 hE f_0 f_1 dX4_residual_20 rfl ?_
    refine v_iload_n 24 hE dX4_residual_23 rfl rfl ?_
    refine v_clE 27 hE (v_runV 2 hE (vSub.self hE) (kX1_sumOnLink _ Y _ _ hok (by omega)) gX4_residual_X1_sumOnLink rfl (by decide +kernel) rfl (q0 := 5) rfl rfl ⟨rfl, rfl, by decide, by decide⟩ rfl (Nat.le_of_ble_eq_true rfl) dX4_residual_24) rfl ?_
    refine v_ldc2 30 hE f_3 dX4_residual_27 rfl ?_
    refine v_aload_n 31 hE dX4_residual_30 rfl rfl ?_
    refine gX_measurements 34 hE f_0 f_4 dX4_residual_31 rfl ?_
    refine gX_loads 37 hE f_5 f_6 dX4_residual_34 rfl ?_
    refine v_iload_n 38 hE dX4_residual_37 rfl rfl ?_
    refine lX_load 39 hE (by omega) dX4_residual_38 rfl ?_
    refine v_i2l 40 hE dX4_residual_39 rfl ?_
    refine v_lmul 41 hE dX4_residual_40 rfl ?_
    refine v_lsub 42 hE dX4_residual_41 rfl ?_
    exact (hret _ _ dX4_residual_42).cast rfl (rL (by unfold aRes; rw [if_pos c8, hjx]))
  · refine v_ldc2 14 hE f_7 dX4_residual_11 rfl ?_
    exact (hret _ _ dX4_residual_14).cast rfl (rL (by simp [aRes, c8]))
set_option maxRecDepth 100000 in
set_option maxHeartbeats 4000000 in
theorem kX4_totalError (l : Launch) (Y : yG) (u : XS)  (hok : okN u) : mL l (gX Y) yX4_totalError wsX4_totalError ({ frames := 1, cells := 0, slots := 0, locals := 21 }) [.ref (yA Y 0)] u (aErr u) u := by
  obtain ⟨hn, hm, hsrc, htgt, hmet, hlen, hlnk⟩ := id hok
  refine mL_of (cc := cX4_totalError) (nL := 4) (own := RX4) (by decide) rfl rfl (fun v => cX_geo Y _ v) (Nat.le_of_ble_eq_true rfl) ?_
  intro K hKl hE hret
  have f_0 : ∀ w ∈ u_ws RX4 TX4 5, w ∈ wsX4_totalError := by decide +kernel
  have f_1 : Cond.fieldLink RX4 14 "TrafficMatrix" "network" "LTrafficMatrix$Network;" ∈ wsX4_totalError := by decide +kernel
  have f_2 : Cond.fieldLink RX4 39 "TrafficMatrix" "estimates" "LTrafficMatrix$Estimates;" ∈ wsX4_totalError := by decide +kernel
  have f_3 : ∀ w ∈ u_ws RX1 TX1 2, w ∈ wsX4_totalError := by decide +kernel
  have f_4 : Cond.fieldLink RX4 183 "TrafficMatrix$Estimates" "values" "[J" ∈ wsX4_totalError := by decide +kernel
  have f_5 : Jvm.Cond.constantLong RX4 191 1000 ∈ wsX4_totalError := by decide +kernel
  have f_6 : Cond.fieldLink RX4 18 "TrafficMatrix" "demands" "[I" ∈ wsX4_totalError := by decide +kernel
  have f_7 : Cond.methodLink RX4 193 Lib.MathLoose.abs_long.x ∈ wsX4_totalError := by decide +kernel
  have f_8 : Cond.static Lib.MathLoose.abs_long.x ∈ wsX4_totalError := by decide +kernel
  have f_9 : Cond.initialized "java/lang/Math" ∈ wsX4_totalError := by decide +kernel
  have f_10 : Cond.code Lib.MathLoose.abs_long.x Lib.MathLoose.abs_long.code 2 (some .long) ∈ wsX4_totalError := by decide +kernel
  show vV K (gX Y) u [(0, .ref (yA Y 0))] [] 0
  refine v_lconst 1 hE (v := 0) dX4_totalError_0 (by decide) rfl ?_
  refine v_lstore_n 2 hE [_, _] dX4_totalError_1 rfl (by decide) rfl rfl ?_
  refine v_iconst 3 hE (v := nI 0) dX4_totalError_2 (by decide) rfl ?_
  refine v_istore_n 4 hE [_, _, _] dX4_totalError_3 rfl (by decide) rfl rfl ?_
  refine vV.sub [2, 1, 0] rfl ?_
  have L4 : ∀ (n4 : Nat) (w : Int64) (i : Nat), (i ≤ 25) → (w = sumL (fun s => if uHas (x_len u) s then absL (x_val u s - 1000 * (x_dem u s).toInt64) else 0) i) → 25 + 1 ≤ i + n4 → vV K (gX Y) u [(0, .ref (yA Y 0)), (1, .long w), (3, .int (nI i))] [] 4 := by
    intro n4
    induction n4 with
    | zero => intro w i hi hw hfu4; exact absurd hfu4 (by omega)
    | succ n4 ih4 =>
      intro w i hi hw hfu4
      refine v_iload_n 5 hE dX4_totalError_4 rfl rfl ?_
      refine v_bipush 7 hE (v := nI 25) dX4_totalError_5 (by decide) rfl ?_
      refine v_ic_geN 10 hE 54 dX4_totalError_7 (by decide) (by omega) (by omega) rfl (fun c7 => ?_) (fun c7 => ?_)
      · refine v_lload_n 55 hE dX4_totalError_54 rfl rfl ?_
        exact (hret _ _ dX4_totalError_55).cast rfl (rL (by rw [hw, show i = 25 by omega]; rfl))
      · refine v_aload_n 11 hE dX4_totalError_10 rfl rfl ?_
        refine gX_network 14 hE f_0 f_1 dX4_totalError_11 rfl ?_
        refine v_iload_n 15 hE dX4_totalError_14 rfl rfl ?_
        refine v_ciE 18 hE (v_runV 1 hE (vSub.self hE) (kX3_hasRoute _ Y _ _ hok (by omega)) gX4_totalError_X3_hasRoute rfl (by decide +kernel) rfl (q0 := 1) rfl rfl ⟨rfl, rfl, by decide, by decide⟩ rfl (Nat.le_of_ble_eq_true rfl) dX4_totalError_15) rfl ?_
        refine v_if_eqB 21 hE 48 dX4_totalError_18 (by decide) rfl (fun c18 => ?_) (fun c18 => ?_)
        · refine v_iincN 51 hE [_, _, _] dX4_totalError_48 rfl (by decide) rfl rfl ?_
          refine v_goto hE 4 dX4_totalError_51 (by decide) ?_
          refine vV.sub [1, 2, 0] rfl ?_
          exact ih4 _ _ (by omega) (by simp [sumL, hw, c18, absL]) (by omega)
        · refine v_lload_n 22 hE dX4_totalError_21 rfl rfl ?_
          refine v_aload_n 23 hE dX4_totalError_22 rfl rfl ?_
          refine gX_estimates 26 hE f_0 f_2 dX4_totalError_23 rfl ?_
          refine gX_values 29 hE f_3 f_4 dX4_totalError_26 rfl ?_
          refine v_iload_n 30 hE dX4_totalError_29 rfl rfl ?_
          refine lX_val 31 hE (by omega) dX4_totalError_30 rfl ?_
          refine v_ldc2 34 hE f_5 dX4_totalError_31 rfl ?_
          refine v_aload_n 35 hE dX4_totalError_34 rfl rfl ?_
          refine gX_demands 38 hE f_0 f_6 dX4_totalError_35 rfl ?_
          refine v_iload_n 39 hE dX4_totalError_38 rfl rfl ?_
          refine lX_dem 40 hE (by omega) dX4_totalError_39 rfl ?_
          refine v_i2l 41 hE dX4_totalError_40 rfl ?_
          refine v_lmul 42 hE dX4_totalError_41 rfl ?_
          refine v_lsub 43 hE dX4_totalError_42 rfl ?_
          refine v_absL 46 hE f_7 f_8 f_9 f_10 ⟨by decide, Nat.le_of_ble_eq_true rfl⟩ dX4_totalError_43 rfl ?_
          refine v_ladd 47 hE dX4_totalError_46 rfl ?_
          refine v_lstore_n 48 hE [_, _, _] dX4_totalError_47 rfl (by decide) rfl rfl ?_
          refine v_iincN 51 hE [_, _, _] dX4_totalError_48 rfl (by decide) rfl rfl ?_
          refine v_goto hE 4 dX4_totalError_51 (by decide) ?_
          refine vV.sub [2, 1, 0] rfl ?_
          exact ih4 _ _ (by omega) (by simp [sumL, hw, c18, absL]) (by omega)
  exact L4 (25 + 1) _ _ (by omega) rfl (by omega)
