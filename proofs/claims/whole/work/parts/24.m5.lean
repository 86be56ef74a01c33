/-! TrafficMatrixModel: answers about the equations; the estimates -/
abbrev wRF (u : MS) (ex : Option Nat) : MS := wRed (wFind u) ex
theorem wRed_ok (u : MS) (ex : Option Nat) : w_rows (wRed u ex) ≤ w_m u ∧ ∀ s k, w_pr (wRed u ex) s = some k → s < 25 → k < w_m u :=
  redN_ok2 (z := (0, w_row (wLay u ex), w_pr (wLay u ex))) (Nat.zero_le _) (fun s k h hs => by
    have h9 : w_pr (wLay u ex) s = some k := h
    rw [show w_pr (wLay u ex) s = none from mixN_lt (f := w_pr u) (g := fun _ => none) hs] at h9
    cases h9) 25
theorem noX : ∀ k, (none : Option Nat) = some k → k < 25 := fun k h => by cases h
theorem soX {q : Nat} (hq : q < 25) : ∀ k, (some q : Option Nat) = some k → k < 25 := fun k h => by cases h; exact hq
abbrev wSu (u : MS) (ex : Option Nat) (p : Nat) : Bool := wSure (wHas (w_bits u)) (w_ism u) ex (w_pr (wRed u ex)) (w_row (wRed u ex)) p
def wCnt (u : MS) (ex : Option Nat) : Nat := cntN (fun p => wSu u ex p) 25
abbrev wAg (u : MS) : Bool := wAgr (w_m u) (w_rows (wRed u none)) (w_row (wRed u none))
def bIdent (u : MS) (s t : Int32) : Int32 × MS := if (bRR u s t).1 = 0 then (bI (wSu (wFind u) none (slot s t)), wRF u none) else bRR u s t
def valJ (u : MS) (p : Nat) (part : Nat) : Int64 := if w_ism u p then (if part = 0 then (w_mea u p).toInt64 else 1) else
  match w_pr u p with
  | none => 0
  | some r => (if 0 ≤ w_row u r p then 1 else -1) * (if part = 0 then w_row u r 25 else w_row u r p) / cmn (w_row u r p) (w_row u r 25)
def bNum (u : MS) (s t : Int32) (part : Nat) : Int64 × MS := if (bRR u s t).1 = 0 then ((if wSu (wFind u) none (slot s t) && wAg (wFind u) then valJ (wRF u none) (slot s t) part else -9223372036854775808), wRF u none) else (-9223372036854775808, (bRR u s t).2)
set_option maxRecDepth 100000 in
set_option maxHeartbeats 4000000 in
theorem kX5_rank (l : Launch) (Y : yG) (u : MS)  (hok : okM u) : mI l (gM Y) yX5_rank wsX5_rank ({ frames := 4, cells := 0, slots := 0, locals := 105 }) [.ref (yA Y 0)] u (nI (w_kn (wRF u none) + w_rows (wRF u none))) (wRF u none) := by
  obtain ⟨hn2, hn, hm, hsrc, htgt, hmet⟩ := id hok
  refine mI_of (cc := cX5_rank) (nL := 1) (own := RX5) (by decide) rfl rfl (fun v => cM_geo Y _ v) (Nat.le_of_ble_eq_true rfl) ?_
  intro K hKl hE hret
  have f_0 : ∀ w ∈ u_ws RX5 TX5 20, w ∈ wsX5_rank := by decide +kernel
  have f_1 : Cond.fieldLink RX5 113 "TrafficMatrixModel" "known" "I" ∈ wsX5_rank := by decide +kernel
  have f_2 : Cond.fieldLink RX5 127 "TrafficMatrixModel" "rows" "I" ∈ wsX5_rank := by decide +kernel
  show vV K (gM Y) u [(0, .ref (yA Y 0))] [] 0
  refine v_aload_n 1 hE dX5_rank_0 rfl rfl ?_
  refine v_cvE 4 hE (v_runV 0 hE (vSub.self hE) (kX5_findRoutes _ Y _ hok) gX5_rank_X5_findRoutes rfl (by decide +kernel) rfl (q0 := 0) rfl rfl ⟨rfl, rfl, by decide, by decide⟩ rfl (Nat.le_of_ble_eq_true rfl) dX5_rank_1) rfl ?_
  refine v_aload_n 5 hE dX5_rank_4 rfl rfl ?_
  refine v_bipush 7 hE (v := oI (-7) none) dX5_rank_5 (by decide) rfl ?_
  refine v_cvE 10 hE (v_runV 1 hE (vSub.self hE) (kX5_reduces _ Y (wFind u) none hok (fun s hs => wBit_lt hok hs) noX) gX5_rank_X5_reduces rfl (by decide +kernel) rfl (q0 := 0) rfl rfl ⟨rfl, rfl, by decide, by decide⟩ rfl (Nat.le_of_ble_eq_true rfl) dX5_rank_7) rfl ?_
  refine v_aload_n 11 hE dX5_rank_10 rfl rfl ?_
  refine gM_known 14 hE f_0 f_1 dX5_rank_11 rfl ?_
  refine v_aload_n 15 hE dX5_rank_14 rfl rfl ?_
  refine gM_rows 18 hE f_0 f_2 dX5_rank_15 rfl ?_
  refine v_iaddN 19 hE dX5_rank_18 rfl ?_
  exact (hret _ _ dX5_rank_19).cast rfl (rI (by simp []))
set_option maxRecDepth 100000 in
set_option maxHeartbeats 4000000 in
theorem kX5_isConsistent (l : Launch) (Y : yG) (u : MS)  (hok : okM u) : mI l (gM Y) yX5_isConsistent wsX5_isConsistent ({ frames := 4, cells := 0, slots := 0, locals := 105 }) [.ref (yA Y 0)] u (bI (wAg (wFind u))) (wRF u none) := by
  obtain ⟨hn2, hn, hm, hsrc, htgt, hmet⟩ := id hok
  refine mI_of (cc := cX5_isConsistent) (nL := 1) (own := RX5) (by decide) rfl rfl (fun v => cM_geo Y _ v) (Nat.le_of_ble_eq_true rfl) ?_
  intro K hKl hE hret
  show vV K (gM Y) u [(0, .ref (yA Y 0))] [] 0
  refine v_aload_n 1 hE dX5_isConsistent_0 rfl rfl ?_
  refine v_cvE 4 hE (v_runV 0 hE (vSub.self hE) (kX5_findRoutes _ Y _ hok) gX5_isConsistent_X5_findRoutes rfl (by decide +kernel) rfl (q0 := 0) rfl rfl ⟨rfl, rfl, by decide, by decide⟩ rfl (Nat.le_of_ble_eq_true rfl) dX5_isConsistent_1) rfl ?_
  refine v_aload_n 5 hE dX5_isConsistent_4 rfl rfl ?_
  refine v_bipush 7 hE (v := oI (-7) none) dX5_isConsistent_5 (by decide) rfl ?_
  refine v_cvE 10 hE (v_runV 1 hE (vSub.self hE) (kX5_reduces _ Y (wFind u) none hok (fun s hs => wBit_lt hok hs) noX) gX5_isConsistent_X5_reduces rfl (by decide +kernel) rfl (q0 := 0) rfl rfl ⟨rfl, rfl, by decide, by decide⟩ rfl (Nat.le_of_ble_eq_true rfl) dX5_isConsistent_7) rfl ?_
  refine v_aload_n 11 hE dX5_isConsistent_10 rfl rfl ?_
  refine v_ciE 14 hE (v_runV 0 hE (vSub.self hE) (kX5_agrees _ Y (wRF u none) hm (wRed_ok (wFind u) none).1) gX5_isConsistent_X5_agrees rfl (by decide +kernel) rfl (q0 := 0) rfl rfl ⟨rfl, rfl, by decide, by decide⟩ rfl (Nat.le_of_ble_eq_true rfl) dX5_isConsistent_11) rfl ?_
  refine v_if_eqB 17 hE 21 dX5_isConsistent_14 (by decide) rfl (fun c14 => ?_) (fun c14 => ?_)
  · refine v_iconst 22 hE (v := nI 0) dX5_isConsistent_21 (by decide) rfl ?_
    exact (hret _ _ dX5_isConsistent_22).cast rfl (by first | exact rB1 (by assumption) | exact rB0 (by assumption))
  · refine v_iconst 18 hE (v := nI 1) dX5_isConsistent_17 (by decide) rfl ?_
    refine v_goto hE 22 dX5_isConsistent_18 (by decide) ?_
    exact (hret _ _ dX5_isConsistent_22).cast rfl (by first | exact rB1 (by assumption) | exact rB0 (by assumption))
set_option maxRecDepth 100000 in
set_option maxHeartbeats 4000000 in
theorem kX5_isIdentifiable (l : Launch) (Y : yG) (u : MS) (s t : Int32) (hok : okM u) : mI l (gM Y) yX5_isIdentifiable wsX5_isIdentifiable ({ frames := 5, cells := 0, slots := 0, locals := 116 }) [.ref (yA Y 0), .int s, .int t] u ((bIdent u s t).1) (bIdent u s t).2 := by
  obtain ⟨hn2, hn, hm, hsrc, htgt, hmet⟩ := id hok
  refine mI_of (cc := cX5_isIdentifiable) (nL := 4) (own := RX5) (by decide) rfl rfl (fun v => cM_geo Y _ v) (Nat.le_of_ble_eq_true rfl) ?_
  intro K hKl hE hret
  show vV K (gM Y) u [(0, .ref (yA Y 0)), (1, .int s), (2, .int t)] [] 0
  refine v_aload_n 1 hE dX5_isIdentifiable_0 rfl rfl ?_
  refine v_iload_n 2 hE dX5_isIdentifiable_1 rfl rfl ?_
  refine v_iload_n 3 hE dX5_isIdentifiable_2 rfl rfl ?_
  refine v_ciE 6 hE (v_runV 2 hE (vSub.self hE) (kX5_refusedRoute _ Y _ _ _ hok) gX5_isIdentifiable_X5_refusedRoute rfl (by decide +kernel) rfl (q0 := 0) rfl rfl ⟨rfl, rfl, by decide, by decide⟩ rfl (Nat.le_of_ble_eq_true rfl) dX5_isIdentifiable_3) rfl ?_
  refine v_istore_n 7 hE [_, _, _, _] dX5_isIdentifiable_6 rfl (by decide) rfl rfl ?_
  refine v_iload_n 8 hE dX5_isIdentifiable_7 rfl rfl ?_
  refine v_if_eq 11 hE 13 dX5_isIdentifiable_8 (by decide) rfl (fun c8 => ?_) (fun c8 => ?_)
  · obtain ⟨hpe, hwh, h2⟩ := bRR_0 c8
    rw [h2]
    obtain ⟨a, b, ha, hb, rfl, rfl, hab⟩ := pairE_0 hn hpe
    have hsl : slot (nI a) (nI b) = 5 * a + b := by rw [slot_nI (by omega) (by omega)]; omega
    refine v_aload_n 14 hE dX5_isIdentifiable_13 rfl rfl ?_
    refine v_bipush 16 hE (v := oI (-7) none) dX5_isIdentifiable_14 (by decide) rfl ?_
    refine v_cvE 19 hE (v_runV 1 hE (vSub.self hE) (kX5_reduces _ Y (wFind u) none hok (fun s hs => wBit_lt hok hs) noX) gX5_isIdentifiable_X5_reduces rfl (by decide +kernel) rfl (q0 := 0) rfl rfl ⟨rfl, rfl, by decide, by decide⟩ rfl (Nat.le_of_ble_eq_true rfl) dX5_isIdentifiable_16) rfl ?_
    refine v_aload_n 20 hE dX5_isIdentifiable_19 rfl rfl ?_
    refine v_iconst 21 hE (v := nI 5) dX5_isIdentifiable_20 (by decide) rfl ?_
    refine v_iload_n 22 hE dX5_isIdentifiable_21 rfl rfl ?_
    refine v_imulN 23 hE dX5_isIdentifiable_22 rfl ?_
    refine v_iload_n 24 hE dX5_isIdentifiable_23 rfl rfl ?_
    refine v_iaddN 25 hE dX5_isIdentifiable_24 rfl ?_
    refine v_bipush 27 hE (v := oI (-7) none) dX5_isIdentifiable_25 (by decide) rfl ?_
    refine v_ciE 30 hE (v_runV 2 hE (vSub.self hE) (kX5_isSure _ Y (wRF u none) _ none (by omega) (fun s hs => wBit_lt hok hs) noX (fun s k h hs => Nat.lt_of_lt_of_le ((wRed_ok (wFind u) none).2 s k h hs) hm)) gX5_isIdentifiable_X5_isSure rfl (by decide +kernel) rfl (q0 := 0) rfl rfl ⟨rfl, rfl, by decide, by decide⟩ rfl (Nat.le_of_ble_eq_true rfl) dX5_isIdentifiable_27) rfl ?_
    refine v_if_eqB 33 hE 37 dX5_isIdentifiable_30 (by decide) rfl (fun c30 => ?_) (fun c30 => ?_)
    · refine v_iconst 38 hE (v := nI 0) dX5_isIdentifiable_37 (by decide) rfl ?_
      exact (hret _ _ dX5_isIdentifiable_38).cast (by unfold bIdent; rw [if_pos c8]) (by unfold bIdent; rw [if_pos c8, hsl]; first | exact rB1 c30 | exact rB0 c30)
    · refine v_iconst 34 hE (v := nI 1) dX5_isIdentifiable_33 (by decide) rfl ?_
      refine v_goto hE 38 dX5_isIdentifiable_34 (by decide) ?_
      exact (hret _ _ dX5_isIdentifiable_38).cast (by unfold bIdent; rw [if_pos c8]) (by unfold bIdent; rw [if_pos c8, hsl]; first | exact rB1 c30 | exact rB0 c30)
  · refine v_iload_n 12 hE dX5_isIdentifiable_11 rfl rfl ?_
    exact (hret _ _ dX5_isIdentifiable_12).cast (by unfold bIdent; rw [if_neg c8]) (rI (by unfold bIdent; rw [if_neg c8]))
set_option maxRecDepth 100000 in
set_option maxHeartbeats 4000000 in
theorem kX5_sureCount (l : Launch) (Y : yG) (u : MS) (ex : Option Nat) (hok : okM u) (hb : ∀ s, s < 25 → w_bits u s < 4096) (hex : ∀ k, ex = some k → k < 25) : mI l (gM Y) yX5_sureCount wsX5_sureCount ({ frames := 4, cells := 0, slots := 0, locals := 105 }) [.ref (yA Y 0), .int (oI (-7) ex)] u (nI (wCnt u ex)) (wRed u ex) := by
  obtain ⟨hn2, hn, hm, hsrc, htgt, hmet⟩ := id hok
  refine mI_of (cc := cX5_sureCount) (nL := 4) (own := RX5) (by decide) rfl rfl (fun v => cM_geo Y _ v) (Nat.le_of_ble_eq_true rfl) ?_
  intro K hKl hE hret
  show vV K (gM Y) u [(0, .ref (yA Y 0)), (1, .int (oI (-7) ex))] [] 0
  refine v_aload_n 1 hE dX5_sureCount_0 rfl rfl ?_
  refine v_iload_n 2 hE dX5_sureCount_1 rfl rfl ?_
  refine v_cvE 5 hE (v_runV 1 hE (vSub.self hE) (kX5_reduces _ Y u ex hok hb hex) gX5_sureCount_X5_reduces rfl (by decide +kernel) rfl (q0 := 0) rfl rfl ⟨rfl, rfl, by decide, by decide⟩ rfl (Nat.le_of_ble_eq_true rfl) dX5_sureCount_2) rfl ?_
  refine v_iconst 6 hE (v := nI 0) dX5_sureCount_5 (by decide) rfl ?_
  refine v_istore_n 7 hE [_, _, _] dX5_sureCount_6 rfl (by decide) rfl rfl ?_
  refine v_iconst 8 hE (v := nI 0) dX5_sureCount_7 (by decide) rfl ?_
  refine v_istore_n 9 hE [_, _, _, _] dX5_sureCount_8 rfl (by decide) rfl rfl ?_
  refine vV.sub [2, 3, 1, 0] rfl ?_
  have L9 : ∀ (n9 : Nat) (a : Nat) (i : Nat), (i ≤ 25) → (a = cntN (fun p => wSu u ex p) i) → 25 + 1 ≤ i + n9 → vV K (gM Y) (wRed u ex) [(0, .ref (yA Y 0)), (1, .int (oI (-7) ex)), (2, .int (nI a)), (3, .int (nI i))] [] 9 := by
    intro n9
    induction n9 with
    | zero => intro a i hi ha hfu9; exact absurd hfu9 (by omega)
    | succ n9 ih9 =>
      intro a i hi ha hfu9
      refine v_iload_n 10 hE dX5_sureCount_9 rfl rfl ?_
      refine v_bipush 12 hE (v := nI 25) dX5_sureCount_10 (by decide) rfl ?_
      refine v_ic_geN 15 hE 38 dX5_sureCount_12 (by decide) (by omega) (by omega) rfl (fun c12 => ?_) (fun c12 => ?_)
      · refine v_iload_n 39 hE dX5_sureCount_38 rfl rfl ?_
        exact (hret _ _ dX5_sureCount_39).cast rfl (rI (by rw [ha, show i = 25 by omega]; rfl))
      · refine v_iload_n 16 hE dX5_sureCount_15 rfl rfl ?_
        refine v_aload_n 17 hE dX5_sureCount_16 rfl rfl ?_
        refine v_iload_n 18 hE dX5_sureCount_17 rfl rfl ?_
        refine v_iload_n 19 hE dX5_sureCount_18 rfl rfl ?_
        refine v_ciE 22 hE (v_runV 2 hE (vSub.self hE) (kX5_isSure _ Y (wRed u ex) _ ex (by omega) hb hex (fun s k h hs => Nat.lt_of_lt_of_le ((wRed_ok u ex).2 s k h hs) hm)) gX5_sureCount_X5_isSure rfl (by decide +kernel) rfl (q0 := 0) rfl rfl ⟨rfl, rfl, by decide, by decide⟩ rfl (Nat.le_of_ble_eq_true rfl) dX5_sureCount_19) rfl ?_
        refine v_if_eqB 25 hE 29 dX5_sureCount_22 (by decide) rfl (fun c22 => ?_) (fun c22 => ?_)
        · refine v_iconst 30 hE (v := nI 0) dX5_sureCount_29 (by decide) rfl ?_
          refine v_iaddN 31 hE dX5_sureCount_30 rfl ?_
          refine v_istore_n 32 hE [_, _, _, _] dX5_sureCount_31 rfl (by decide) rfl rfl ?_
          refine v_iincN 35 hE [_, _, _, _] dX5_sureCount_32 rfl (by decide) rfl rfl ?_
          refine v_goto hE 9 dX5_sureCount_35 (by decide) ?_
          refine vV.sub [2, 3, 1, 0] rfl ?_
          exact ih9 _ _ (by omega) (by have c23 : wSu u ex i = _ := c22; simp [cntN, ha, c23]) (by omega)
        · refine v_iconst 26 hE (v := nI 1) dX5_sureCount_25 (by decide) rfl ?_
          refine v_goto hE 30 dX5_sureCount_26 (by decide) ?_
          refine v_iaddN 31 hE dX5_sureCount_30 rfl ?_
          refine v_istore_n 32 hE [_, _, _, _] dX5_sureCount_31 rfl (by decide) rfl rfl ?_
          refine v_iincN 35 hE [_, _, _, _] dX5_sureCount_32 rfl (by decide) rfl rfl ?_
          refine v_goto hE 9 dX5_sureCount_35 (by decide) ?_
          refine vV.sub [2, 3, 1, 0] rfl ?_
          exact ih9 _ _ (by omega) (by have c23 : wSu u ex i = _ := c22; simp [cntN, ha, c23]) (by omega)
  exact L9 (25 + 1) _ _ (by omega) rfl (by omega)
set_option maxRecDepth 100000 in
set_option maxHeartbeats 4000000 in
theorem kX5_identifiableCount (l : Launch) (Y : yG) (u : MS)  (hok : okM u) : mI l (gM Y) yX5_identifiableCount wsX5_identifiableCount ({ frames := 5, cells := 0, slots := 0, locals := 128 }) [.ref (yA Y 0)] u (nI (wCnt (wFind u) none)) (wRF u none) := by
  obtain ⟨hn2, hn, hm, hsrc, htgt, hmet⟩ := id hok
  refine mI_of (cc := cX5_identifiableCount) (nL := 1) (own := RX5) (by decide) rfl rfl (fun v => cM_geo Y _ v) (Nat.le_of_ble_eq_true rfl) ?_
  intro K hKl hE hret
  show vV K (gM Y) u [(0, .ref (yA Y 0))] [] 0
  refine v_aload_n 1 hE dX5_identifiableCount_0 rfl rfl ?_
  refine v_cvE 4 hE (v_runV 0 hE (vSub.self hE) (kX5_findRoutes _ Y _ hok) gX5_identifiableCount_X5_findRoutes rfl (by decide +kernel) rfl (q0 := 0) rfl rfl ⟨rfl, rfl, by decide, by decide⟩ rfl (Nat.le_of_ble_eq_true rfl) dX5_identifiableCount_1) rfl ?_
  refine v_aload_n 5 hE dX5_identifiableCount_4 rfl rfl ?_
  refine v_bipush 7 hE (v := oI (-7) none) dX5_identifiableCount_5 (by decide) rfl ?_
  refine v_ciE 10 hE (v_runV 1 hE (vSub.self hE) (kX5_sureCount _ Y (wFind u) none hok (fun s hs => wBit_lt hok hs) noX) gX5_identifiableCount_X5_sureCount rfl (by decide +kernel) rfl (q0 := 0) rfl rfl ⟨rfl, rfl, by decide, by decide⟩ rfl (Nat.le_of_ble_eq_true rfl) dX5_identifiableCount_7) rfl ?_
  exact (hret _ _ dX5_identifiableCount_10).cast rfl (rI (by simp []))
