/-! TrafficMatrix$Measurements -/
def uPair (pv : Nat → Int32) (s : Nat) : Bool := if pv s = -1 then false else true
def totO (has : Nat → Bool) (dem : Nat → Int32) (i : Nat) : Nat → Int32 := fun v => sumI (fun s => if has s && decide (s / 5 = v) then dem s else 0) i
def totI (has : Nat → Bool) (dem : Nat → Int32) (i : Nat) : Nat → Int32 := fun v => sumI (fun s => if has s && decide (s % 5 = v) then dem s else 0) i
theorem totO_s {has : Nat → Bool} {dem : Nat → Int32} {i : Nat} (h : has i = true) : va_up (totO has dem i) (i / 5) (totO has dem i (i / 5) + dem i) = totO has dem (i + 1) := by
  funext v
  unfold va_up totO
  by_cases e : v = i / 5
  · subst e
    simp [sumI, h]
  · have e2 : ¬ i / 5 = v := fun q => e q.symm
    simp [sumI, h, e, e2]
theorem totO_n {has : Nat → Bool} {dem : Nat → Int32} {i : Nat} (h : has i = false) : totO has dem i = totO has dem (i + 1) := by
  funext v
  simp [totO, sumI, h]
theorem totI_s {has : Nat → Bool} {dem : Nat → Int32} {i : Nat} (h : has i = true) : va_up (totI has dem i) (i % 5) (totI has dem i (i % 5) + dem i) = totI has dem (i + 1) := by
  funext v
  unfold va_up totI
  by_cases e : v = i % 5
  · subst e
    simp [sumI, h]
  · have e2 : ¬ i % 5 = v := fun q => e q.symm
    simp [sumI, h, e, e2]
theorem totI_n {has : Nat → Bool} {dem : Nat → Int32} {i : Nat} (h : has i = false) : totI has dem i = totI has dem (i + 1) := by
  funext v
  simp [totI, sumI, h]
abbrev xMeasure (u : XS) : XS := xs_inn (xs_out (xs_load u (mixN (x_load u) (ldOf (uUses (x_len u) (x_lnk u)) (x_dem u)) (x_m u))) (totO (uHas (x_len u)) (x_dem u) 25)) (totI (uHas (x_len u)) (x_dem u) 25)
set_option maxRecDepth 100000 in
set_option maxHeartbeats 4000000 in
theorem kX2_startAnew (l : Launch) (Y : yG) (u : XS)   : mV l (gX Y) yX2_startAnew wsX2_startAnew ({ frames := 1, cells := 0, slots := 0, locals := 23 }) [.ref (yA Y 3)] u (xs_pv (xs_inn (xs_out (xs_load u (fun _ => 0)) (fun _ => 0)) (fun _ => 0)) (fun _ => -1)) := by
  refine mV_of (cc := cX2_startAnew) (nL := 1) (own := RX2) (by decide) rfl rfl (fun v => cX_geo Y _ v) (Nat.le_of_ble_eq_true rfl) ?_
  intro K hKl hE hret
  have f_0 : ∀ w ∈ u_ws RX2 TX2 4, w ∈ wsX2_startAnew := by decide +kernel
  have f_1 : Cond.fieldLink RX2 9 "TrafficMatrix$Measurements" "loads" "[I" ∈ wsX2_startAnew := by decide +kernel
  have f_2 : Cond.fieldLink RX2 15 "TrafficMatrix$Measurements" "outTotals" "[I" ∈ wsX2_startAnew := by decide +kernel
  have f_3 : Cond.fieldLink RX2 18 "TrafficMatrix$Measurements" "inTotals" "[I" ∈ wsX2_startAnew := by decide +kernel
  have f_4 : Cond.fieldLink RX2 21 "TrafficMatrix$Measurements" "pairValues" "[I" ∈ wsX2_startAnew := by decide +kernel
  show vV K (gX Y) u [(0, .ref (yA Y 3))] [] 0
  refine v_aload_n 1 hE dX2_startAnew_0 rfl rfl ?_
  refine gX_loads 4 hE f_0 f_1 dX2_startAnew_1 rfl ?_
  refine v_iconst 5 hE (v := 0) dX2_startAnew_4 (by decide) rfl ?_
  refine fX_load 8 hE gX2_startAnew_J7_fill_53178 ⟨by decide, by decide⟩ (Nat.le_of_ble_eq_true rfl) dX2_startAnew_5 rfl ?_
  refine v_aload_n 9 hE dX2_startAnew_8 rfl rfl ?_
  refine gX_outTotals 12 hE f_0 f_2 dX2_startAnew_9 rfl ?_
  refine v_iconst 13 hE (v := 0) dX2_startAnew_12 (by decide) rfl ?_
  refine fX_out 16 hE gX2_startAnew_J7_fill_53178 ⟨by decide, by decide⟩ (Nat.le_of_ble_eq_true rfl) dX2_startAnew_13 rfl ?_
  refine v_aload_n 17 hE dX2_startAnew_16 rfl rfl ?_
  refine gX_inTotals 20 hE f_0 f_3 dX2_startAnew_17 rfl ?_
  refine v_iconst 21 hE (v := 0) dX2_startAnew_20 (by decide) rfl ?_
  refine fX_inn 24 hE gX2_startAnew_J7_fill_53178 ⟨by decide, by decide⟩ (Nat.le_of_ble_eq_true rfl) dX2_startAnew_21 rfl ?_
  refine v_aload_n 25 hE dX2_startAnew_24 rfl rfl ?_
  refine gX_pairValues 28 hE f_0 f_4 dX2_startAnew_25 rfl ?_
  refine v_iconst 29 hE (v := -1) dX2_startAnew_28 (by decide) rfl ?_
  refine fX_pv 32 hE gX2_startAnew_J7_fill_53178 ⟨by decide, by decide⟩ (Nat.le_of_ble_eq_true rfl) dX2_startAnew_29 rfl ?_
  exact (hret _ _ dX2_startAnew_32).cast rfl rfl
set_option maxRecDepth 100000 in
set_option maxHeartbeats 4000000 in
theorem kX2_hasPair (l : Launch) (Y : yG) (u : XS) (s : Nat) (hs : s < 25) : mI l (gX Y) yX2_hasPair wsX2_hasPair ({ frames := 0, cells := 0, slots := 0, locals := 0 }) [.ref (yA Y 3), .int (nI s)] u (bI (uPair (x_pv u) s)) u := by
  refine mB_of (cc := cX2_hasPair) (nL := 2) (own := RX2) (by decide) rfl rfl (fun v => cX_geo Y _ v) (Nat.le_of_ble_eq_true rfl) ?_
  intro K hKl hE hret
  have f_0 : ∀ w ∈ u_ws RX2 TX2 4, w ∈ wsX2_hasPair := by decide +kernel
  have f_1 : Cond.fieldLink RX2 21 "TrafficMatrix$Measurements" "pairValues" "[I" ∈ wsX2_hasPair := by decide +kernel
  show vV K (gX Y) u [(0, .ref (yA Y 3)), (1, .int (nI s))] [] 0
  refine v_aload_n 1 hE dX2_hasPair_0 rfl rfl ?_
  refine gX_pairValues 4 hE f_0 f_1 dX2_hasPair_1 rfl ?_
  refine v_iload_n 5 hE dX2_hasPair_4 rfl rfl ?_
  refine lX_pv 6 hE (by omega) dX2_hasPair_5 rfl ?_
  refine v_iconst 7 hE (v := -1) dX2_hasPair_6 (by decide) rfl ?_
  refine v_ic_eq 10 hE 14 dX2_hasPair_7 (by decide) rfl (fun c7 => ?_) (fun c7 => ?_)
  · refine v_iconst 15 hE (v := nI 0) dX2_hasPair_14 (by decide) rfl ?_
    exact (hret _ _ dX2_hasPair_15).cast rfl (rB0 (by simp [uPair, c7]))
  · refine v_iconst 11 hE (v := nI 1) dX2_hasPair_10 (by decide) rfl ?_
    refine v_goto hE 15 dX2_hasPair_11 (by decide) ?_
    exact (hret _ _ dX2_hasPair_15).cast rfl (rB1 (by simp [uPair, c7]))
set_option maxRecDepth 100000 in
set_option maxHeartbeats 4000000 in
theorem kX2_take (l : Launch) (Y : yG) (u : XS)  (hok : okN u) : mV l (gX Y) yX2_take wsX2_take ({ frames := 2, cells := 0, slots := 0, locals := 47 }) [.ref (yA Y 3), .ref (yA Y 1), .ref (yA Y 2)] u (xMeasure u) := by
  obtain ⟨hn, hm, hsrc, htgt, hmet, hlen, hlnk⟩ := id hok
  refine mV_of (cc := cX2_take) (nL := 4) (own := RX2) (by decide) rfl rfl (fun v => cX_geo Y _ v) (Nat.le_of_ble_eq_true rfl) ?_
  intro K hKl hE hret
  have f_0 : ∀ w ∈ u_ws RX3 TX3 8, w ∈ wsX2_take := by decide +kernel
  have f_1 : Cond.fieldLink RX2 30 "TrafficMatrix$Network" "linkCount" "I" ∈ wsX2_take := by decide +kernel
  have f_2 : ∀ w ∈ u_ws RX2 TX2 4, w ∈ wsX2_take := by decide +kernel
  have f_3 : Cond.fieldLink RX2 15 "TrafficMatrix$Measurements" "outTotals" "[I" ∈ wsX2_take := by decide +kernel
  have f_4 : Cond.fieldLink RX2 18 "TrafficMatrix$Measurements" "inTotals" "[I" ∈ wsX2_take := by decide +kernel
  have f_5 : Cond.fieldLink RX2 9 "TrafficMatrix$Measurements" "loads" "[I" ∈ wsX2_take := by decide +kernel
  show vV K (gX Y) u [(0, .ref (yA Y 3)), (1, .ref (yA Y 1)), (2, .ref (yA Y 2))] [] 0
  refine v_iconst 1 hE (v := nI 0) dX2_take_0 (by decide) rfl ?_
  refine v_istore_n 2 hE [_, _, _, _] dX2_take_1 rfl (by decide) rfl rfl ?_
  refine vV.sub [1, 2, 3, 0] rfl ?_
  have L2 : ∀ (n2 : Nat) (i : Nat) (f : Nat → Int32), (i ≤ x_m u) → (f = mixN (x_load u) (ldOf (uUses (x_len u) (x_lnk u)) (x_dem u)) i) → x_m u + 1 ≤ i + n2 → vV K (gX Y) (xs_load u f) [(0, .ref (yA Y 3)), (1, .ref (yA Y 1)), (2, .ref (yA Y 2)), (3, .int (nI i))] [] 2 := by
    intro n2
    induction n2 with
    | zero => intro i f hi hf hfu2; exact absurd hfu2 (by omega)
    | succ n2 ih2 =>
      intro i f hi hf hfu2
      refine v_iload_n 3 hE dX2_take_2 rfl rfl ?_
      refine v_aload_n 4 hE dX2_take_3 rfl rfl ?_
      refine gX_linkCount 7 hE f_0 f_1 dX2_take_4 rfl ?_
      show vV K (gX Y) _ _ (.int (nI (x_m u)) :: _) _
      refine v_ic_geN 10 hE 28 dX2_take_7 (by decide) (by omega) (by omega) rfl (fun c7 => ?_) (fun c7 => ?_)
      · refine v_aload_n 29 hE dX2_take_28 rfl rfl ?_
        refine gX_outTotals 32 hE f_2 f_3 dX2_take_29 rfl ?_
        refine v_iconst 33 hE (v := 0) dX2_take_32 (by decide) rfl ?_
        refine fX_out 36 hE gX2_take_J7_fill_53178 ⟨by decide, by decide⟩ (Nat.le_of_ble_eq_true rfl) dX2_take_33 rfl ?_
        refine v_aload_n 37 hE dX2_take_36 rfl rfl ?_
        refine gX_inTotals 40 hE f_2 f_4 dX2_take_37 rfl ?_
        refine v_iconst 41 hE (v := 0) dX2_take_40 (by decide) rfl ?_
        refine fX_inn 44 hE gX2_take_J7_fill_53178 ⟨by decide, by decide⟩ (Nat.le_of_ble_eq_true rfl) dX2_take_41 rfl ?_
        refine v_iconst 45 hE (v := nI 0) dX2_take_44 (by decide) rfl ?_
        refine v_istore_n 46 hE [_, _, _, _] dX2_take_45 rfl (by decide) rfl rfl ?_
        refine vV.sub [1, 2, 3, 0] rfl ?_
        have L46 : ∀ (n46 : Nat) (j : Nat) (o : Nat → Int32) (p : Nat → Int32), (j ≤ 25) → (o = totO (uHas (x_len u)) (x_dem u) j) → (p = totI (uHas (x_len u)) (x_dem u) j) → 25 + 1 ≤ j + n46 → vV K (gX Y) (xs_inn (xs_out (xs_load u f) o) p) [(0, .ref (yA Y 3)), (1, .ref (yA Y 1)), (2, .ref (yA Y 2)), (3, .int (nI j))] [] 46 := by
          intro n46
          induction n46 with
          | zero => intro j o p hj ho hp hfu46; exact absurd hfu46 (by omega)
          | succ n46 ih46 =>
            intro j o p hj ho hp hfu46
            refine v_iload_n 47 hE dX2_take_46 rfl rfl ?_
            refine v_bipush 49 hE (v := nI 25) dX2_take_47 (by decide) rfl ?_
            refine v_ic_geN 52 hE 94 dX2_take_49 (by decide) (by omega) (by omega) rfl (fun c49 => ?_) (fun c49 => ?_)
            · exact (hret _ _ dX2_take_94).cast (by rw [hf, ho, hp, show i = x_m u by omega, show j = 25 by omega]) rfl
            · refine v_aload_n 53 hE dX2_take_52 rfl rfl ?_
              refine v_iload_n 54 hE dX2_take_53 rfl rfl ?_
              refine v_ciE 57 hE (v_runV 1 hE (vSub.self hE) (kX3_hasRoute _ Y _ _ hok (by omega)) gX2_take_X3_hasRoute rfl (by decide +kernel) rfl (q0 := 1) rfl rfl ⟨rfl, rfl, by decide, by decide⟩ rfl (Nat.le_of_ble_eq_true rfl) dX2_take_54) rfl ?_
              show vV K (gX Y) _ _ (.int (bI (uHas (x_len u) _)) :: _) _
              refine v_if_eqB 60 hE 88 dX2_take_57 (by decide) rfl (fun c57 => ?_) (fun c57 => ?_)
              · refine v_iincN 91 hE [_, _, _, _] dX2_take_88 rfl (by decide) rfl rfl ?_
                refine v_goto hE 46 dX2_take_91 (by decide) ?_
                refine vV.sub [1, 2, 3, 0] rfl ?_
                exact ih46 _ _ _ (by omega) (by rw [ho]; first | exact totO_s c57 | exact totO_n c57) (by rw [hp]; first | exact totI_s c57 | exact totI_n c57) (by omega)
              · refine v_aload_n 61 hE dX2_take_60 rfl rfl ?_
                refine gX_outTotals 64 hE f_2 f_3 dX2_take_61 rfl ?_
                refine v_iload_n 65 hE dX2_take_64 rfl rfl ?_
                refine v_iconst 66 hE (v := nI 5) dX2_take_65 (by decide) rfl ?_
                refine v_idivN 67 hE dX2_take_66 (by omega) (by omega) (by omega) rfl ?_
                refine v_dup2 68 hE dX2_take_67 rfl rfl rfl ?_
                refine lX_out 69 hE (by omega) dX2_take_68 rfl ?_
                show vV K (gX Y) _ _ (.int ((o) _) :: _) _
                refine v_aload_n 70 hE dX2_take_69 rfl rfl ?_
                refine v_iload_n 71 hE dX2_take_70 rfl rfl ?_
                refine lX_dem 72 hE (by omega) dX2_take_71 rfl ?_
                show vV K (gX Y) _ _ (.int ((x_dem u) _) :: _) _
                refine v_iadd 73 hE dX2_take_72 rfl ?_
                refine sX_out 74 hE (by omega) dX2_take_73 rfl ?_
                refine v_aload_n 75 hE dX2_take_74 rfl rfl ?_
                refine gX_inTotals 78 hE f_2 f_4 dX2_take_75 rfl ?_
                refine v_iload_n 79 hE dX2_take_78 rfl rfl ?_
                refine v_iconst 80 hE (v := nI 5) dX2_take_79 (by decide) rfl ?_
                refine v_iremN 81 hE dX2_take_80 (by omega) (by omega) (by omega) rfl ?_
                refine v_dup2 82 hE dX2_take_81 rfl rfl rfl ?_
                refine lX_inn 83 hE (by omega) dX2_take_82 rfl ?_
                show vV K (gX Y) _ _ (.int ((p) _) :: _) _
                refine v_aload_n 84 hE dX2_take_83 rfl rfl ?_
                refine v_iload_n 85 hE dX2_take_84 rfl rfl ?_
                refine lX_dem 86 hE (by omega) dX2_take_85 rfl ?_
                show vV K (gX Y) _ _ (.int ((x_dem u) _) :: _) _
                refine v_iadd 87 hE dX2_take_86 rfl ?_
                refine sX_inn 88 hE (by omega) dX2_take_87 rfl ?_
                refine v_iincN 91 hE [_, _, _, _] dX2_take_88 rfl (by decide) rfl rfl ?_
                refine v_goto hE 46 dX2_take_91 (by decide) ?_
                refine vV.sub [1, 2, 3, 0] rfl ?_
                exact ih46 _ _ _ (by omega) (by rw [ho]; first | exact totO_s c57 | exact totO_n c57) (by rw [hp]; first | exact totI_s c57 | exact totI_n c57) (by omega)
        exact L46 (25 + 1) _ _ _ (by omega) rfl rfl (by omega)
      · refine v_aload_n 11 hE dX2_take_10 rfl rfl ?_
        refine gX_loads 14 hE f_2 f_5 dX2_take_11 rfl ?_
        refine v_iload_n 15 hE dX2_take_14 rfl rfl ?_
        refine v_aload_n 16 hE dX2_take_15 rfl rfl ?_
        refine v_iload_n 17 hE dX2_take_16 rfl rfl ?_
        refine v_aload_n 18 hE dX2_take_17 rfl rfl ?_
        refine v_ciE 21 hE (v_runV 2 hE (vSub.self hE) (kX3_loadOf _ Y _ _ hok (by omega)) gX2_take_X3_loadOf rfl (by decide +kernel) rfl (q0 := 1) rfl rfl ⟨rfl, rfl, by decide, by decide⟩ rfl (Nat.le_of_ble_eq_true rfl) dX2_take_18) rfl ?_
        show vV K (gX Y) _ _ (.int (ldOf (uUses (x_len u) (x_lnk u)) (x_dem u) _) :: _) _
        refine sX_load 22 hE (by omega) dX2_take_21 rfl ?_
        refine v_iincN 25 hE [_, _, _, _] dX2_take_22 rfl (by decide) rfl rfl ?_
        refine v_goto hE 2 dX2_take_25 (by decide) ?_
        refine vV.sub [1, 2, 3, 0] rfl ?_
        exact ih2 _ _ (by omega) (by rw [hf]; exact mixN_s _ _ _) (by omega)
  exact L2 (x_m u + 1) _ (x_load u) (by omega) (mixN_0 _ _).symm (by omega)
set_option maxRecDepth 100000 in
set_option maxHeartbeats 4000000 in
theorem kX2_sumOfOutTotals (l : Launch) (Y : yG) (u : XS)   : mI l (gX Y) yX2_sumOfOutTotals wsX2_sumOfOutTotals ({ frames := 0, cells := 0, slots := 0, locals := 0 }) [.ref (yA Y 3)] u (sumI (x_out u) 5) u := by
  refine mI_of (cc := cX2_sumOfOutTotals) (nL := 3) (own := RX2) (by decide) rfl rfl (fun v => cX_geo Y _ v) (Nat.le_of_ble_eq_true rfl) ?_
  intro K hKl hE hret
  have f_0 : ∀ w ∈ u_ws RX2 TX2 4, w ∈ wsX2_sumOfOutTotals := by decide +kernel
  have f_1 : Cond.fieldLink RX2 15 "TrafficMatrix$Measurements" "outTotals" "[I" ∈ wsX2_sumOfOutTotals := by decide +kernel
  show vV K (gX Y) u [(0, .ref (yA Y 3))] [] 0
  refine v_iconst 1 hE (v := 0) dX2_sumOfOutTotals_0 (by decide) rfl ?_
  refine v_istore_n 2 hE [_, _] dX2_sumOfOutTotals_1 rfl (by decide) rfl rfl ?_
  refine v_iconst 3 hE (v := nI 0) dX2_sumOfOutTotals_2 (by decide) rfl ?_
  refine v_istore_n 4 hE [_, _, _] dX2_sumOfOutTotals_3 rfl (by decide) rfl rfl ?_
  refine vV.sub [2, 1, 0] rfl ?_
  have L4 : ∀ (n4 : Nat) (a : Int32) (i : Nat), (i ≤ 5) → (a = sumI (x_out u) i) → 5 + 1 ≤ i + n4 → vV K (gX Y) u [(0, .ref (yA Y 3)), (1, .int a), (2, .int (nI i))] [] 4 := by
    intro n4
    induction n4 with
    | zero => intro a i hi ha hfu4; exact absurd hfu4 (by omega)
    | succ n4 ih4 =>
      intro a i hi ha hfu4
      refine v_iload_n 5 hE dX2_sumOfOutTotals_4 rfl rfl ?_
      refine v_iconst 6 hE (v := nI 5) dX2_sumOfOutTotals_5 (by decide) rfl ?_
      refine v_ic_geN 9 hE 24 dX2_sumOfOutTotals_6 (by decide) (by omega) (by omega) rfl (fun c6 => ?_) (fun c6 => ?_)
      · refine v_iload_n 25 hE dX2_sumOfOutTotals_24 rfl rfl ?_
        exact (hret _ _ dX2_sumOfOutTotals_25).cast rfl (rI (by rw [ha, show i = 5 by omega]))
      · refine v_iload_n 10 hE dX2_sumOfOutTotals_9 rfl rfl ?_
        refine v_aload_n 11 hE dX2_sumOfOutTotals_10 rfl rfl ?_
        refine gX_outTotals 14 hE f_0 f_1 dX2_sumOfOutTotals_11 rfl ?_
        refine v_iload_n 15 hE dX2_sumOfOutTotals_14 rfl rfl ?_
        refine lX_out 16 hE (by omega) dX2_sumOfOutTotals_15 rfl ?_
        refine v_iadd 17 hE dX2_sumOfOutTotals_16 rfl ?_
        refine v_istore_n 18 hE [_, _, _] dX2_sumOfOutTotals_17 rfl (by decide) rfl rfl ?_
        refine v_iincN 21 hE [_, _, _] dX2_sumOfOutTotals_18 rfl (by decide) rfl rfl ?_
        refine v_goto hE 4 dX2_sumOfOutTotals_21 (by decide) ?_
        refine vV.sub [2, 1, 0] rfl ?_
        exact ih4 _ _ (by omega) (by simp [sumI, ha]) (by omega)
  exact L4 (5 + 1) _ _ (by omega) rfl (by omega)
