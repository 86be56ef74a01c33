/-! TrafficMatrixModel: the network -/
def okM (u : MS) : Prop := 2 ≤ w_n u ∧ w_n u ≤ 5 ∧ w_m u ≤ 12 ∧ (∀ l, w_src u l < 5) ∧ (∀ l, w_tgt u l < 5) ∧ (∀ l, w_met u l ≤ 99)
def wIn (v lo hi : Int32) : Bool := if v < lo then false else if hi < v then false else true
theorem wIn_B (v : Int32) {m : Nat} (hm : m ≤ 12) : wIn v (nI 0) (nI m - nI 1) = inB v m := by
  unfold wIn inB
  rw [nI_0]
  by_cases h : v < 0
  · rw [if_pos h, if_pos h]
  · rw [if_neg h, if_neg h]
    have e1 : (nI m - nI 1).toInt = (m : Int) - 1 := pk_sub_toInt (by omega) (by decide)
    have e2 : (nI m).toInt = (m : Int) := nI_toInt (by omega)
    by_cases q : nI m ≤ v
    · rw [if_pos q, if_pos (Int32.lt_iff_toInt_lt.mpr (by have := Int32.le_iff_toInt_le.mp q; omega))]
    · rw [if_neg q, if_neg (fun z => q (Int32.le_iff_toInt_le.mpr (by have := Int32.lt_iff_toInt_lt.mp z; omega)))]
def wHas (bits : Nat → Nat) (s : Nat) : Bool := decide (¬ bits s = 0)
def wUses (bits : Nat → Nat) (s l : Nat) : Bool := decide (bits s / 2 ^ l % 2 = 1)
def isP (n p : Nat) : Bool := decide (¬ p / 5 = p % 5) && (decide (p / 5 < n) && decide (p % 5 < n))
theorem isP_t {n p : Nat} (h1 : ¬ p / 5 = p % 5) (h2 : p / 5 < n) (h3 : p % 5 < n) : isP n p = true := by simp [isP, h1, h2, h3]
theorem isP_f {n p : Nat} (h : p / 5 = p % 5 ∨ n ≤ p / 5 ∨ n ≤ p % 5) : isP n p = false := by
  unfold isP
  rcases h with h | h | h
  · simp [h]
  · rw [decide_eq_false (show ¬ p / 5 < n by omega)]; simp
  · rw [decide_eq_false (show ¬ p % 5 < n by omega)]; simp
abbrev wDst (u : MS) : Nat → Nat := dstF (w_met u) (w_src u) (w_tgt u) (w_n u) (w_m u) (w_dist u)
abbrev wBit (u : MS) : Nat → Nat := mixN (w_bits u) (bitF (wDst u) (w_met u) (w_src u) (w_tgt u) (w_n u) (w_m u)) 25
/-- the routes found -/
abbrev wFind (u : MS) : MS := ws_bits (ws_dist u (wDst u)) (wBit u)
theorem wBit_lt {u : MS} (h : okM u) {s : Nat} (hs : s < 25) : wBit u s < 4096 := by
  unfold wBit
  rw [mixN_lt hs]
  exact bitF_lt h.2.2.1
theorem vw_at {d : Nat → Nat} {t v : Nat} (hv : v < 5) : vw d t v = d (5 * v + t) := if_pos hv
set_option maxRecDepth 100000 in
set_option maxHeartbeats 4000000 in
theorem kX5_within (l : Launch) (Y : yG) (u : MS) (v lo hi : Int32)  : mI l (gM Y) yX5_within wsX5_within ({ frames := 0, cells := 0, slots := 0, locals := 0 }) [.int v, .int lo, .int hi] u (bI (wIn v lo hi)) u := by
  refine mB_of (cc := cX5_within) (nL := 3) (own := RX5) (by decide) rfl rfl (fun v => cM_geo Y _ v) (Nat.le_of_ble_eq_true rfl) ?_
  intro K hKl hE hret
  show vV K (gM Y) u [(0, .int v), (1, .int lo), (2, .int hi)] [] 0
  refine v_iload_n 1 hE dX5_within_0 rfl rfl ?_
  refine v_iload_n 2 hE dX5_within_1 rfl rfl ?_
  refine v_ic_lt 5 hE 14 dX5_within_2 (by decide) rfl (fun c2 => ?_) (fun c2 => ?_)
  · refine v_iconst 15 hE (v := nI 0) dX5_within_14 (by decide) rfl ?_
    exact (hret _ _ dX5_within_15).cast rfl (rB0 (by simp [wIn, c2]))
  · refine v_iload_n 6 hE dX5_within_5 rfl rfl ?_
    refine v_iload_n 7 hE dX5_within_6 rfl rfl ?_
    refine v_ic_gt 10 hE 14 dX5_within_7 (by decide) rfl (fun c7 => ?_) (fun c7 => ?_)
    · refine v_iconst 15 hE (v := nI 0) dX5_within_14 (by decide) rfl ?_
      exact (hret _ _ dX5_within_15).cast rfl (rB0 (by simp [wIn, c2, c7]))
    · refine v_iconst 11 hE (v := nI 1) dX5_within_10 (by decide) rfl ?_
      refine v_goto hE 15 dX5_within_11 (by decide) ?_
      exact (hret _ _ dX5_within_15).cast rfl (rB1 (by simp [wIn, c2, c7]))
set_option maxRecDepth 100000 in
set_option maxHeartbeats 4000000 in
theorem kX5_isNode (l : Launch) (Y : yG) (u : MS) (v : Int32) (hok : okM u) : mI l (gM Y) yX5_isNode wsX5_isNode ({ frames := 1, cells := 0, slots := 0, locals := 22 }) [.ref (yA Y 0), .int v] u (bI (inB v (w_n u))) u := by
  obtain ⟨hn2, hn, hm, hsrc, htgt, hmet⟩ := id hok
  refine mB_of (cc := cX5_isNode) (nL := 2) (own := RX5) (by decide) rfl rfl (fun v => cM_geo Y _ v) (Nat.le_of_ble_eq_true rfl) ?_
  intro K hKl hE hret
  have f_0 : ∀ w ∈ u_ws RX5 TX5 20, w ∈ wsX5_isNode := by decide +kernel
  have f_1 : Cond.fieldLink RX5 60 "TrafficMatrixModel" "nodes" "I" ∈ wsX5_isNode := by decide +kernel
  show vV K (gM Y) u [(0, .ref (yA Y 0)), (1, .int v)] [] 0
  refine v_iload_n 1 hE dX5_isNode_0 rfl rfl ?_
  refine v_iconst 2 hE (v := nI 0) dX5_isNode_1 (by decide) rfl ?_
  refine v_aload_n 3 hE dX5_isNode_2 rfl rfl ?_
  refine gM_nodes 6 hE f_0 f_1 dX5_isNode_3 rfl ?_
  refine v_iconst 7 hE (v := nI 1) dX5_isNode_6 (by decide) rfl ?_
  refine v_isub 8 hE dX5_isNode_7 rfl ?_
  refine v_ciE 11 hE (v_runS 3 hE (vSub.self hE) (kX5_within _ Y _ _ _ _) gX5_isNode_X5_within rfl (by decide +kernel) rfl ⟨rfl, rfl, by decide, by decide⟩ rfl (Nat.le_of_ble_eq_true rfl) dX5_isNode_8) rfl ?_
  exact (hret _ _ dX5_isNode_11).cast rfl (rI (by rw [wIn_B v (by omega)]))
set_option maxRecDepth 100000 in
set_option maxHeartbeats 4000000 in
theorem kX5_isLink (l : Launch) (Y : yG) (u : MS) (v : Int32) (hok : okM u) : mI l (gM Y) yX5_isLink wsX5_isLink ({ frames := 1, cells := 0, slots := 0, locals := 22 }) [.ref (yA Y 0), .int v] u (bI (inB v (w_m u))) u := by
  obtain ⟨hn2, hn, hm, hsrc, htgt, hmet⟩ := id hok
  refine mB_of (cc := cX5_isLink) (nL := 2) (own := RX5) (by decide) rfl rfl (fun v => cM_geo Y _ v) (Nat.le_of_ble_eq_true rfl) ?_
  intro K hKl hE hret
  have f_0 : ∀ w ∈ u_ws RX5 TX5 20, w ∈ wsX5_isLink := by decide +kernel
  have f_1 : Cond.fieldLink RX5 68 "TrafficMatrixModel" "links" "I" ∈ wsX5_isLink := by decide +kernel
  show vV K (gM Y) u [(0, .ref (yA Y 0)), (1, .int v)] [] 0
  refine v_iload_n 1 hE dX5_isLink_0 rfl rfl ?_
  refine v_iconst 2 hE (v := nI 0) dX5_isLink_1 (by decide) rfl ?_
  refine v_aload_n 3 hE dX5_isLink_2 rfl rfl ?_
  refine gM_links 6 hE f_0 f_1 dX5_isLink_3 rfl ?_
  refine v_iconst 7 hE (v := nI 1) dX5_isLink_6 (by decide) rfl ?_
  refine v_isub 8 hE dX5_isLink_7 rfl ?_
  refine v_ciE 11 hE (v_runS 3 hE (vSub.self hE) (kX5_within _ Y _ _ _ _) gX5_isLink_X5_within rfl (by decide +kernel) rfl ⟨rfl, rfl, by decide, by decide⟩ rfl (Nat.le_of_ble_eq_true rfl) dX5_isLink_8) rfl ?_
  exact (hret _ _ dX5_isLink_11).cast rfl (rI (by rw [wIn_B v (by omega)]))
set_option maxRecDepth 100000 in
set_option maxHeartbeats 4000000 in
theorem kX5_refused (l : Launch) (Y : yG) (u : MS) (s t : Int32) (hok : okM u) : mI l (gM Y) yX5_refused wsX5_refused ({ frames := 2, cells := 0, slots := 0, locals := 43 }) [.ref (yA Y 0), .int s, .int t] u (pairE (w_n u) s t) u := by
  refine mI_of (cc := cX5_refused) (nL := 3) (own := RX5) (by decide) rfl rfl (fun v => cM_geo Y _ v) (Nat.le_of_ble_eq_true rfl) ?_
  intro K hKl hE hret
  show vV K (gM Y) u [(0, .ref (yA Y 0)), (1, .int s), (2, .int t)] [] 0
  refine v_aload_n 1 hE dX5_refused_0 rfl rfl ?_
  refine v_iload_n 2 hE dX5_refused_1 rfl rfl ?_
  refine v_ciE 5 hE (v_runV 1 hE (vSub.self hE) (kX5_isNode _ Y _ _ hok) gX5_refused_X5_isNode rfl (by decide +kernel) rfl (q0 := 0) rfl rfl ⟨rfl, rfl, by decide, by decide⟩ rfl (Nat.le_of_ble_eq_true rfl) dX5_refused_2) rfl ?_
  refine v_if_eqB 8 hE 16 dX5_refused_5 (by decide) rfl (fun c5 => ?_) (fun c5 => ?_)
  · refine v_iconst 17 hE (v := -1) dX5_refused_16 (by decide) rfl ?_
    refine v_goto hE 31 dX5_refused_17 (by decide) ?_
    exact (hret _ _ dX5_refused_31).cast rfl (rI (by simp [pairE, c5]))
  · refine v_aload_n 9 hE dX5_refused_8 rfl rfl ?_
    refine v_iload_n 10 hE dX5_refused_9 rfl rfl ?_
    refine v_ciE 13 hE (v_runV 1 hE (vSub.self hE) (kX5_isNode _ Y _ _ hok) gX5_refused_X5_isNode rfl (by decide +kernel) rfl (q0 := 0) rfl rfl ⟨rfl, rfl, by decide, by decide⟩ rfl (Nat.le_of_ble_eq_true rfl) dX5_refused_10) rfl ?_
    refine v_if_neB 16 hE 20 dX5_refused_13 (by decide) rfl (fun c13 => ?_) (fun c13 => ?_)
    · refine v_iload_n 21 hE dX5_refused_20 rfl rfl ?_
      refine v_iload_n 22 hE dX5_refused_21 rfl rfl ?_
      refine v_ic_ne 25 hE 30 dX5_refused_22 (by decide) rfl (fun c22 => ?_) (fun c22 => ?_)
      · refine v_iconst 31 hE (v := 0) dX5_refused_30 (by decide) rfl ?_
        exact (hret _ _ dX5_refused_31).cast rfl (rI (by simp [pairE, c5, c13, c22]))
      · refine v_bipush 27 hE (v := -2) dX5_refused_25 (by decide) rfl ?_
        refine v_goto hE 31 dX5_refused_27 (by decide) ?_
        exact (hret _ _ dX5_refused_31).cast rfl (rI (by simp [pairE, c5, c13, c22]))
    · refine v_iconst 17 hE (v := -1) dX5_refused_16 (by decide) rfl ?_
      refine v_goto hE 31 dX5_refused_17 (by decide) ?_
      exact (hret _ _ dX5_refused_31).cast rfl (rI (by simp [pairE, c5, c13]))
set_option maxRecDepth 100000 in
set_option maxHeartbeats 4000000 in
theorem kX5_costOf (l : Launch) (Y : yG) (u : MS) (k : Nat) (hk : k < 12) : mI l (gM Y) yX5_costOf wsX5_costOf ({ frames := 0, cells := 0, slots := 0, locals := 0 }) [.ref (yA Y 0), .int (nI k)] u (nI (wM (w_met u) k)) u := by
  refine mI_of (cc := cX5_costOf) (nL := 2) (own := RX5) (by decide) rfl rfl (fun v => cM_geo Y _ v) (Nat.le_of_ble_eq_true rfl) ?_
  intro K hKl hE hret
  have f_0 : ∀ w ∈ u_ws RX5 TX5 20, w ∈ wsX5_costOf := by decide +kernel
  have f_1 : Cond.fieldLink RX5 16 "TrafficMatrixModel" "metricOf" "[I" ∈ wsX5_costOf := by decide +kernel
  show vV K (gM Y) u [(0, .ref (yA Y 0)), (1, .int (nI k))] [] 0
  refine v_bipush 2 hE (v := nI 10) dX5_costOf_0 (by decide) rfl ?_
  refine v_aload_n 3 hE dX5_costOf_2 rfl rfl ?_
  refine gM_metricOf 6 hE f_0 f_1 dX5_costOf_3 rfl ?_
  refine v_iload_n 7 hE dX5_costOf_6 rfl rfl ?_
  refine lM_met 8 hE (by omega) dX5_costOf_7 rfl ?_
  refine v_imulN 9 hE dX5_costOf_8 rfl ?_
  refine v_iconst 10 hE (v := nI 1) dX5_costOf_9 (by decide) rfl ?_
  refine v_iaddN 11 hE dX5_costOf_10 rfl ?_
  exact (hret _ _ dX5_costOf_11).cast rfl rfl
set_option maxRecDepth 100000 in
set_option maxHeartbeats 4000000 in
theorem kX5_isPair (l : Launch) (Y : yG) (u : MS) (p : Nat) (hok : okM u) (hp : p < 25) : mI l (gM Y) yX5_isPair wsX5_isPair ({ frames := 0, cells := 0, slots := 0, locals := 0 }) [.ref (yA Y 0), .int (nI p)] u (bI (isP (w_n u) p)) u := by
  obtain ⟨hn2, hn, hm, hsrc, htgt, hmet⟩ := id hok
  refine mB_of (cc := cX5_isPair) (nL := 2) (own := RX5) (by decide) rfl rfl (fun v => cM_geo Y _ v) (Nat.le_of_ble_eq_true rfl) ?_
  intro K hKl hE hret
  have f_0 : ∀ w ∈ u_ws RX5 TX5 20, w ∈ wsX5_isPair := by decide +kernel
  have f_1 : Cond.fieldLink RX5 60 "TrafficMatrixModel" "nodes" "I" ∈ wsX5_isPair := by decide +kernel
  show vV K (gM Y) u [(0, .ref (yA Y 0)), (1, .int (nI p))] [] 0
  refine v_iload_n 1 hE dX5_isPair_0 rfl rfl ?_
  refine v_iconst 2 hE (v := nI 5) dX5_isPair_1 (by decide) rfl ?_
  refine v_idivN 3 hE dX5_isPair_2 (by omega) (by omega) (by omega) rfl ?_
  refine v_iload_n 4 hE dX5_isPair_3 rfl rfl ?_
  refine v_iconst 5 hE (v := nI 5) dX5_isPair_4 (by decide) rfl ?_
  refine v_iremN 6 hE dX5_isPair_5 (by omega) (by omega) (by omega) rfl ?_
  refine v_ic_eqN 9 hE 33 dX5_isPair_6 (by decide) (by omega) (by omega) rfl (fun c6 => ?_) (fun c6 => ?_)
  · refine v_iconst 34 hE (v := nI 0) dX5_isPair_33 (by decide) rfl ?_
    exact (hret _ _ dX5_isPair_34).cast rfl (rB0 (by first | exact isP_t (by omega) (by omega) (by omega) | exact isP_f (by omega)))
  · refine v_iload_n 10 hE dX5_isPair_9 rfl rfl ?_
    refine v_iconst 11 hE (v := nI 5) dX5_isPair_10 (by decide) rfl ?_
    refine v_idivN 12 hE dX5_isPair_11 (by omega) (by omega) (by omega) rfl ?_
    refine v_aload_n 13 hE dX5_isPair_12 rfl rfl ?_
    refine gM_nodes 16 hE f_0 f_1 dX5_isPair_13 rfl ?_
    refine v_ic_geN 19 hE 33 dX5_isPair_16 (by decide) (by omega) (by omega) rfl (fun c16 => ?_) (fun c16 => ?_)
    · refine v_iconst 34 hE (v := nI 0) dX5_isPair_33 (by decide) rfl ?_
      exact (hret _ _ dX5_isPair_34).cast rfl (rB0 (by first | exact isP_t (by omega) (by omega) (by omega) | exact isP_f (by omega)))
    · refine v_iload_n 20 hE dX5_isPair_19 rfl rfl ?_
      refine v_iconst 21 hE (v := nI 5) dX5_isPair_20 (by decide) rfl ?_
      refine v_iremN 22 hE dX5_isPair_21 (by omega) (by omega) (by omega) rfl ?_
      refine v_aload_n 23 hE dX5_isPair_22 rfl rfl ?_
      refine gM_nodes 26 hE f_0 f_1 dX5_isPair_23 rfl ?_
      refine v_ic_geN 29 hE 33 dX5_isPair_26 (by decide) (by omega) (by omega) rfl (fun c26 => ?_) (fun c26 => ?_)
      · refine v_iconst 34 hE (v := nI 0) dX5_isPair_33 (by decide) rfl ?_
        exact (hret _ _ dX5_isPair_34).cast rfl (rB0 (by first | exact isP_t (by omega) (by omega) (by omega) | exact isP_f (by omega)))
      · refine v_iconst 30 hE (v := nI 1) dX5_isPair_29 (by decide) rfl ?_
        refine v_goto hE 34 dX5_isPair_30 (by decide) ?_
        exact (hret _ _ dX5_isPair_34).cast rfl (rB1 (by first | exact isP_t (by omega) (by omega) (by omega) | exact isP_f (by omega)))
set_option maxRecDepth 100000 in
set_option maxHeartbeats 4000000 in
theorem kX5_nextLink (l : Launch) (Y : yG) (u : MS) (v t k : Nat) (hok : okM u) (hv : v < 5) (ht : t < 5) (hd : ∀ p, p < 25 → w_dist u p ≤ 1000000) (hq : nxtX (vw (w_dist u) t) (wM (w_met u)) (w_src u) (w_tgt u) (w_m u) v = some k) : mI l (gM Y) yX5_nextLink wsX5_nextLink ({ frames := 1, cells := 0, slots := 0, locals := 21 }) [.ref (yA Y 0), .int (nI v), .int (nI t)] u (nI k) u := by
  obtain ⟨hn2, hn, hm, hsrc, htgt, hmet⟩ := id hok
  have hkm := nxtX_lt hq
  unfold nxtX at hq
  rw [if_neg (fun z => by rw [if_pos z] at hq; cases hq)] at hq
  obtain ⟨-, hk1, hk2⟩ := fstN_some.mp hq
  refine mI_of (cc := cX5_nextLink) (nL := 4) (own := RX5) (by decide) rfl rfl (fun v => cM_geo Y _ v) (Nat.le_of_ble_eq_true rfl) ?_
  intro K hKl hE hret
  have f_0 : ∀ w ∈ u_ws RX5 TX5 20, w ∈ wsX5_nextLink := by decide +kernel
  have f_1 : Cond.fieldLink RX5 7 "TrafficMatrixModel" "sourceOf" "[I" ∈ wsX5_nextLink := by decide +kernel
  have f_2 : Cond.fieldLink RX5 42 "TrafficMatrixModel" "distance" "[I" ∈ wsX5_nextLink := by decide +kernel
  have f_3 : Cond.fieldLink RX5 13 "TrafficMatrixModel" "targetOf" "[I" ∈ wsX5_nextLink := by decide +kernel
  show vV K (gM Y) u [(0, .ref (yA Y 0)), (1, .int (nI v)), (2, .int (nI t))] [] 0
  refine v_iconst 1 hE (v := nI 0) dX5_nextLink_0 (by decide) rfl ?_
  refine v_istore_n 2 hE [_, _, _, _] dX5_nextLink_1 rfl (by decide) rfl rfl ?_
  refine vV.sub [1, 2, 3, 0] rfl ?_
  have L2 : ∀ (n2 : Nat) (i : Nat), (∀ j, j < i → (decide (w_src u j = v) && decide (wM (w_met u) j + vw (w_dist u) t (w_tgt u j) = vw (w_dist u) t v)) = false) → 12 + 1 ≤ i + n2 → vV K (gM Y) u [(0, .ref (yA Y 0)), (1, .int (nI v)), (2, .int (nI t)), (3, .int (nI i))] [] 2 := by
    intro n2
    induction n2 with
    | zero => intro i hno hfu2; exact absurd (hno k (by omega)) (by rw [hk1]; decide)
    | succ n2 ih2 =>
      intro i hno hfu2
      have hik : i ≤ k := Nat.not_lt.mp (fun z => by have := hno k z; rw [hk1] at this; cases this)
      have := hsrc i
      refine v_aload_n 3 hE dX5_nextLink_2 rfl rfl ?_
      refine gM_sourceOf 6 hE f_0 f_1 dX5_nextLink_3 rfl ?_
      refine v_iload_n 7 hE dX5_nextLink_6 rfl rfl ?_
      refine lM_src 8 hE (by omega) dX5_nextLink_7 rfl ?_
      refine v_iload_n 9 hE dX5_nextLink_8 rfl rfl ?_
      refine v_ic_neN 12 hE 46 dX5_nextLink_9 (by decide) (by omega) (by omega) rfl (fun c9 => ?_) (fun c9 => ?_)
      · refine v_iincN 49 hE [_, _, _, _] dX5_nextLink_46 rfl (by decide) rfl rfl ?_
        refine v_goto hE 2 dX5_nextLink_49 (by decide) ?_
        refine vV.sub [1, 2, 3, 0] rfl ?_
        exact ih2 _ (fun j hj => if e : j = i then (by rw [e]; first | (simp [c9]; done) | (rw [vw_at (htgt i), vw_at hv, decide_eq_false c43]; simp)) else hno j (by omega)) (by omega)
      · refine v_aload_n 13 hE dX5_nextLink_12 rfl rfl ?_
        refine v_iload_n 14 hE dX5_nextLink_13 rfl rfl ?_
        have := htgt i
        have := hmet i
        have hdt := hd (5 * w_tgt u i + t) (by omega)
        have hdv := hd (5 * v + t) (by omega)
        have hwm : wM (w_met u) i = 10 * w_met u i + 1 := rfl
        refine v_ciE 17 hE (v_runV 1 hE (vSub.self hE) (kX5_costOf _ Y _ _ (by omega)) gX5_nextLink_X5_costOf rfl (by decide +kernel) rfl (q0 := 0) rfl rfl ⟨rfl, rfl, by decide, by decide⟩ rfl (Nat.le_of_ble_eq_true rfl) dX5_nextLink_14) rfl ?_
        refine v_aload_n 18 hE dX5_nextLink_17 rfl rfl ?_
        refine gM_distance 21 hE f_0 f_2 dX5_nextLink_18 rfl ?_
        refine v_iconst 22 hE (v := nI 5) dX5_nextLink_21 (by decide) rfl ?_
        refine v_aload_n 23 hE dX5_nextLink_22 rfl rfl ?_
        refine gM_targetOf 26 hE f_0 f_3 dX5_nextLink_23 rfl ?_
        refine v_iload_n 27 hE dX5_nextLink_26 rfl rfl ?_
        refine lM_tgt 28 hE (by omega) dX5_nextLink_27 rfl ?_
        refine v_imulN 29 hE dX5_nextLink_28 rfl ?_
        refine v_iload_n 30 hE dX5_nextLink_29 rfl rfl ?_
        refine v_iaddN 31 hE dX5_nextLink_30 rfl ?_
        refine lM_dist 32 hE (by omega) dX5_nextLink_31 rfl ?_
        refine v_iaddN 33 hE dX5_nextLink_32 rfl ?_
        refine v_aload_n 34 hE dX5_nextLink_33 rfl rfl ?_
        refine gM_distance 37 hE f_0 f_2 dX5_nextLink_34 rfl ?_
        refine v_iconst 38 hE (v := nI 5) dX5_nextLink_37 (by decide) rfl ?_
        refine v_iload_n 39 hE dX5_nextLink_38 rfl rfl ?_
        refine v_imulN 40 hE dX5_nextLink_39 rfl ?_
        refine v_iload_n 41 hE dX5_nextLink_40 rfl rfl ?_
        refine v_iaddN 42 hE dX5_nextLink_41 rfl ?_
        refine lM_dist 43 hE (by omega) dX5_nextLink_42 rfl ?_
        refine v_ic_eqN 46 hE 52 dX5_nextLink_43 (by decide) (by omega) (by omega) rfl (fun c43 => ?_) (fun c43 => ?_)
        · refine v_iload_n 53 hE dX5_nextLink_52 rfl rfl ?_
          exact (hret _ _ dX5_nextLink_53).cast rfl (rI (by rw [show i = k from Nat.le_antisymm hik (Nat.not_lt.mp (fun z => by have := hk2 i z; rw [vw_at (htgt i), vw_at hv] at this; simp [c9, c43] at this))]))
        · refine v_iincN 49 hE [_, _, _, _] dX5_nextLink_46 rfl (by decide) rfl rfl ?_
          refine v_goto hE 2 dX5_nextLink_49 (by decide) ?_
          refine vV.sub [1, 2, 3, 0] rfl ?_
          exact ih2 _ (fun j hj => if e : j = i then (by rw [e]; first | (simp [c9]; done) | (rw [vw_at (htgt i), vw_at hv, decide_eq_false c43]; simp)) else hno j (by omega)) (by omega)
  exact L2 (12 + 1) _ (by intro j hj; omega) (by omega)
set_option maxRecDepth 100000 in
set_option maxHeartbeats 4000000 in
theorem kX5_routeBits (l : Launch) (Y : yG) (u : MS) (p : Nat) (hok : okM u) (hp : p < 25) (hd : ∀ q, q < 25 → w_dist u q ≤ 1000000) (hr : rest (wM (w_met u)) (w_src u) (w_tgt u) (w_m u) (p % 5) (vw (w_dist u) (p % 5))) (hlt : w_dist u p < 1000000) : mI l (gM Y) yX5_routeBits wsX5_routeBits ({ frames := 2, cells := 0, slots := 0, locals := 44 }) [.ref (yA Y 0), .int (nI p)] u (nI (bitsN (nxW (w_dist u) (w_met u) (w_src u) (w_tgt u) (w_m u) (p % 5)) (w_tgt u) (p % 5) (w_dist u p % 10) (p / 5) 0)) u := by
  obtain ⟨hn2, hn, hm, hsrc, htgt, hmet⟩ := id hok
  obtain ⟨t, het⟩ : ∃ t, t = p % 5 := ⟨_, rfl⟩
  have ht5 : t < 5 := by omega
  rw [← het] at hr ⊢
  refine mI_of (cc := cX5_routeBits) (nL := 5) (own := RX5) (by decide) rfl rfl (fun v => cM_geo Y _ v) (Nat.le_of_ble_eq_true rfl) ?_
  intro K hKl hE hret
  have f_0 : ∀ w ∈ u_ws RX5 TX5 20, w ∈ wsX5_routeBits := by decide +kernel
  have f_1 : Cond.fieldLink RX5 13 "TrafficMatrixModel" "targetOf" "[I" ∈ wsX5_routeBits := by decide +kernel
  show vV K (gM Y) u [(0, .ref (yA Y 0)), (1, .int (nI p))] [] 0
  refine v_iconst 1 hE (v := nI 0) dX5_routeBits_0 (by decide) rfl ?_
  refine v_istore_n 2 hE [_, _, _] dX5_routeBits_1 rfl (by decide) rfl rfl ?_
  refine v_iload_n 3 hE dX5_routeBits_2 rfl rfl ?_
  refine v_iconst 4 hE (v := nI 5) dX5_routeBits_3 (by decide) rfl ?_
  refine v_idivN 5 hE dX5_routeBits_4 (by omega) (by omega) (by omega) rfl ?_
  refine v_istore_n 6 hE [_, _, _, _] dX5_routeBits_5 rfl (by decide) rfl rfl ?_
  refine vV.sub [2, 3, 1, 0] rfl ?_
  have L6 : ∀ (n6 a v : Nat), v < 5 → a < 4096 → vw (w_dist u) t v < 1000000 → bitsN (nxW (w_dist u) (w_met u) (w_src u) (w_tgt u) (w_m u) t) (w_tgt u) t (vw (w_dist u) t v % 10) v a = bitsN (nxW (w_dist u) (w_met u) (w_src u) (w_tgt u) (w_m u) t) (w_tgt u) t (w_dist u p % 10) (p / 5) 0 → vw (w_dist u) t v < n6 → vV K (gM Y) u [(0, .ref (yA Y 0)), (1, .int (nI p)), (2, .int (nI a)), (3, .int (nI v))] [] 6 := by
    intro n6
    induction n6 with
    | zero => intro a v h1 h2 h3 h4 h5; exact absurd h5 (by omega)
    | succ n6 ih6 =>
      intro a v hv ha hcv hF hfu
      refine v_iload_n 7 hE dX5_routeBits_6 rfl rfl ?_
      refine v_iload_n 8 hE dX5_routeBits_7 rfl rfl ?_
      refine v_iconst 9 hE (v := nI 5) dX5_routeBits_8 (by decide) rfl ?_
      refine v_iremN 10 hE dX5_routeBits_9 (by omega) (by omega) (by omega) rfl ?_
      refine v_ic_eqN 13 hE 41 dX5_routeBits_10 (by decide) (by omega) (by omega) rfl (fun c10 => ?_) (fun c10 => ?_)
      · refine v_iload_n 42 hE dX5_routeBits_41 rfl rfl ?_
        exact (hret _ _ dX5_routeBits_42).cast rfl (rI (by rw [← hF, bitsN_t (by omega)]))
      · obtain ⟨q, hq, hqm, hqs, hqw⟩ := next_some hr hv (by omega) hcv
        have hq12 : q < 12 := by omega
        unfold wM at hqw
        have hz1 := hops4 htgt hr (htgt q) (by omega)
        have hz2 := hops4 htgt hr hv hcv
        have hsp : vw (w_dist u) t v % 10 = vw (w_dist u) t (w_tgt u q) % 10 + 1 := by omega
        refine v_aload_n 14 hE dX5_routeBits_13 rfl rfl ?_
        refine v_iload_n 15 hE dX5_routeBits_14 rfl rfl ?_
        refine v_iload_n 16 hE dX5_routeBits_15 rfl rfl ?_
        refine v_iconst 17 hE (v := nI 5) dX5_routeBits_16 (by decide) rfl ?_
        refine v_iremN 18 hE dX5_routeBits_17 (by omega) (by omega) (by omega) rfl ?_
        rw [← het]
        refine v_ciE 21 hE (v_runV 2 hE (vSub.self hE) (kX5_nextLink _ Y _ _ _ q hok (by omega) (by omega) hd hq) gX5_routeBits_X5_nextLink rfl (by decide +kernel) rfl (q0 := 0) rfl rfl ⟨rfl, rfl, by decide, by decide⟩ rfl (Nat.le_of_ble_eq_true rfl) dX5_routeBits_18) rfl ?_
        refine v_istore 23 hE [_, _, _, _, _] dX5_routeBits_21 (by decide) rfl rfl ?_
        refine v_iload_n 24 hE dX5_routeBits_23 rfl rfl ?_
        refine v_iconst 25 hE (v := nI 1) dX5_routeBits_24 (by decide) rfl ?_
        refine v_iload 27 hE dX5_routeBits_25 rfl rfl ?_
        refine v_ishl1 28 hE (by omega) dX5_routeBits_27 rfl ?_
        refine v_iorN 29 hE dX5_routeBits_28 rfl ?_
        refine v_istore_n 30 hE [_, _, _, _, _] dX5_routeBits_29 rfl (by decide) rfl rfl ?_
        refine v_aload_n 31 hE dX5_routeBits_30 rfl rfl ?_
        refine gM_targetOf 34 hE f_0 f_1 dX5_routeBits_31 rfl ?_
        refine v_iload 36 hE dX5_routeBits_34 rfl rfl ?_
        refine lM_tgt 37 hE (by omega) dX5_routeBits_36 rfl ?_
        refine v_istore_n 38 hE [_, _, _, _, _] dX5_routeBits_37 rfl (by decide) rfl rfl ?_
        refine v_goto hE 6 dX5_routeBits_38 (by decide) ?_
        refine vV.sub [3, 4, 1, 0] rfl ?_
        exact ih6 _ _ (htgt q) (or_lt ha hq12) (by omega) (by rw [← hF, hsp, bitsN_some (nx := nxW (w_dist u) (w_met u) (w_src u) (w_tgt u) (w_m u) t) hq (by omega)]) (by omega)
  exact L6 (w_dist u p + 1) 0 (p / 5) (by omega) (by decide) (by rw [vw_at (by omega), show 5 * (p / 5) + t = p by omega]; exact hlt) (by rw [vw_at (by omega), show 5 * (p / 5) + t = p by omega]) (by rw [vw_at (by omega), show 5 * (p / 5) + t = p by omega]; omega)
set_option maxRecDepth 100000 in
set_option maxHeartbeats 4000000 in
theorem kX5_hasRoute (l : Launch) (Y : yG) (u : MS) (s : Nat) (hs : s < 25) (hb : w_bits u s < 4096) : mI l (gM Y) yX5_hasRoute wsX5_hasRoute ({ frames := 0, cells := 0, slots := 0, locals := 0 }) [.ref (yA Y 0), .int (nI s)] u (bI (wHas (w_bits u) s)) u := by
  refine mB_of (cc := cX5_hasRoute) (nL := 2) (own := RX5) (by decide) rfl rfl (fun v => cM_geo Y _ v) (Nat.le_of_ble_eq_true rfl) ?_
  intro K hKl hE hret
  have f_0 : ∀ w ∈ u_ws RX5 TX5 20, w ∈ wsX5_hasRoute := by decide +kernel
  have f_1 : Cond.fieldLink RX5 45 "TrafficMatrixModel" "bitsOf" "[I" ∈ wsX5_hasRoute := by decide +kernel
  show vV K (gM Y) u [(0, .ref (yA Y 0)), (1, .int (nI s))] [] 0
  refine v_aload_n 1 hE dX5_hasRoute_0 rfl rfl ?_
  refine gM_bitsOf 4 hE f_0 f_1 dX5_hasRoute_1 rfl ?_
  refine v_iload_n 5 hE dX5_hasRoute_4 rfl rfl ?_
  refine lM_bits 6 hE (by omega) dX5_hasRoute_5 rfl ?_
  refine v_if_eqN 9 hE 13 dX5_hasRoute_6 (by decide) (by omega) rfl (fun c6 => ?_) (fun c6 => ?_)
  · refine v_iconst 14 hE (v := nI 0) dX5_hasRoute_13 (by decide) rfl ?_
    exact (hret _ _ dX5_hasRoute_14).cast rfl (rB0 (by simp [wHas, c6]))
  · refine v_iconst 10 hE (v := nI 1) dX5_hasRoute_9 (by decide) rfl ?_
    refine v_goto hE 14 dX5_hasRoute_10 (by decide) ?_
    exact (hret _ _ dX5_hasRoute_14).cast rfl (rB1 (by simp [wHas, c6]))
set_option maxRecDepth 100000 in
set_option maxHeartbeats 4000000 in
theorem kX5_uses (l : Launch) (Y : yG) (u : MS) (s k : Nat) (hs : s < 25) (hk : k < 12) (hb : w_bits u s < 4096) : mI l (gM Y) yX5_uses wsX5_uses ({ frames := 0, cells := 0, slots := 0, locals := 0 }) [.ref (yA Y 0), .int (nI s), .int (nI k)] u (bI (wUses (w_bits u) s k)) u := by
  refine mB_of (cc := cX5_uses) (nL := 3) (own := RX5) (by decide) rfl rfl (fun v => cM_geo Y _ v) (Nat.le_of_ble_eq_true rfl) ?_
  intro K hKl hE hret
  have f_0 : ∀ w ∈ u_ws RX5 TX5 20, w ∈ wsX5_uses := by decide +kernel
  have f_1 : Cond.fieldLink RX5 45 "TrafficMatrixModel" "bitsOf" "[I" ∈ wsX5_uses := by decide +kernel
  show vV K (gM Y) u [(0, .ref (yA Y 0)), (1, .int (nI s)), (2, .int (nI k))] [] 0
  refine v_aload_n 1 hE dX5_uses_0 rfl rfl ?_
  refine gM_bitsOf 4 hE f_0 f_1 dX5_uses_1 rfl ?_
  refine v_iload_n 5 hE dX5_uses_4 rfl rfl ?_
  refine lM_bits 6 hE (by omega) dX5_uses_5 rfl ?_
  refine v_iload_n 7 hE dX5_uses_6 rfl rfl ?_
  refine v_ishrN 8 hE (by omega) (by omega) dX5_uses_7 rfl ?_
  refine v_iconst 9 hE (v := nI 1) dX5_uses_8 (by decide) rfl ?_
  refine v_iand1 10 hE (Nat.lt_of_le_of_lt (Nat.div_le_self _ _) (by omega)) dX5_uses_9 rfl ?_
  refine v_iconst 11 hE (v := nI 1) dX5_uses_10 (by decide) rfl ?_
  refine v_ic_neN 14 hE 18 dX5_uses_11 (by decide) (by omega) (by omega) rfl (fun c11 => ?_) (fun c11 => ?_)
  · refine v_iconst 19 hE (v := nI 0) dX5_uses_18 (by decide) rfl ?_
    exact (hret _ _ dX5_uses_19).cast rfl (rB0 (by simp [wUses, c11]))
  · refine v_iconst 15 hE (v := nI 1) dX5_uses_14 (by decide) rfl ?_
    refine v_goto hE 19 dX5_uses_15 (by decide) ?_
    exact (hret _ _ dX5_uses_19).cast rfl (rB1 (by simp [wUses, c11]))
