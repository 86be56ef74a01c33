/-! TrafficMatrix$Equations: what is read off the solved equations -/
theorem oI_is {x : Option Nat} {k : Nat} (h : x = some k) : oI (-1) x = nI k := by rw [h]; rfl
set_option maxRecDepth 100000 in
set_option maxHeartbeats 4000000 in
theorem kX0_freePart (l : Launch) (Y : yG) (u : XS) (s c : Nat) (hE0 : okE u) (hs : s < 25) (hc : c < 25) : mL l (gX Y) yX0_freePart wsX0_freePart ({ frames := 0, cells := 0, slots := 0, locals := 0 }) [.ref (yA Y 4), .int (nI s), .int (nI c)] u (fPart (x_kn u) (x_rop u) (x_row u) s c) u := by
  obtain ⟨hrc, hrop, hpor⟩ := id hE0
  refine mL_of (cc := cX0_freePart) (nL := 4) (own := RX0) (by decide) rfl rfl (fun v => cX_geo Y _ v) (Nat.le_of_ble_eq_true rfl) ?_
  intro K hKl hE hret
  have f_0 : ∀ w ∈ u_ws RX0 TX0 8, w ∈ wsX0_freePart := by decide +kernel
  have f_1 : Cond.fieldLink RX0 23 "TrafficMatrix$Equations" "known" "[Z" ∈ wsX0_freePart := by decide +kernel
  have f_2 : Cond.fieldLink RX0 16 "TrafficMatrix$Equations" "rowOfPivot" "[I" ∈ wsX0_freePart := by decide +kernel
  have f_3 : Cond.fieldLink RX0 11 "TrafficMatrix$Equations" "rows" "[[J" ∈ wsX0_freePart := by decide +kernel
  show vV K (gX Y) u [(0, .ref (yA Y 4)), (1, .int (nI s)), (2, .int (nI c))] [] 0
  refine v_aload_n 1 hE dX0_freePart_0 rfl rfl ?_
  refine gX_known 4 hE f_0 f_1 dX0_freePart_1 rfl ?_
  refine v_iload_n 5 hE dX0_freePart_4 rfl rfl ?_
  refine lX_kn 6 hE (by omega) dX0_freePart_5 rfl ?_
  refine v_if_eqB 9 hE 11 dX0_freePart_6 (by decide) rfl (fun c6 => ?_) (fun c6 => ?_)
  · refine v_aload_n 12 hE dX0_freePart_11 rfl rfl ?_
    refine gX_rowOfPivot 15 hE f_0 f_2 dX0_freePart_12 rfl ?_
    refine v_iload_n 16 hE dX0_freePart_15 rfl rfl ?_
    refine lX_rop 17 hE (by omega) dX0_freePart_16 rfl ?_
    refine v_istore_n 18 hE [_, _, _, _] dX0_freePart_17 rfl (by decide) rfl rfl ?_
    refine v_iload_n 19 hE dX0_freePart_18 rfl rfl ?_
    refine v_iconst 20 hE (v := -1) dX0_freePart_19 (by decide) rfl ?_
    refine v_ic_ne 23 hE 34 dX0_freePart_20 (by decide) rfl (fun c20 => ?_) (fun c20 => ?_)
    · obtain ⟨r, hq⟩ := oI_some c20
      have hr := hrop s r hq
      rw [hq]
      show vV K (gX Y) _ [(3, .int (nI r)), _, _, _] _ _
      refine v_iload_n 35 hE dX0_freePart_34 rfl rfl ?_
      refine v_iload_n 36 hE dX0_freePart_35 rfl rfl ?_
      refine v_ic_neN 39 hE 43 dX0_freePart_36 (by decide) (by omega) (by omega) rfl (fun c36 => ?_) (fun c36 => ?_)
      · refine v_aload_n 44 hE dX0_freePart_43 rfl rfl ?_
        refine gX_rows 47 hE f_0 f_3 dX0_freePart_44 rfl ?_
        refine v_iload_n 48 hE dX0_freePart_47 rfl rfl ?_
        refine rX_row 49 hE (by omega) dX0_freePart_48 rfl ?_
        refine v_iload_n 50 hE dX0_freePart_49 rfl rfl ?_
        refine lX_row 51 hE (by omega) (by omega) dX0_freePart_50 rfl ?_
        exact (hret _ _ dX0_freePart_51).cast rfl (rL (by unfold fPart; rw [c6, hq]; simp [c36]))
      · refine v_lconst 40 hE (v := 0) dX0_freePart_39 (by decide) rfl ?_
        refine v_goto hE 51 dX0_freePart_40 (by decide) ?_
        exact (hret _ _ dX0_freePart_51).cast rfl (rL (by unfold fPart; rw [c6, hq]; simp [c36]))
    · have hq := (oI_n (hrop s) (by decide)).mp c20
      refine v_iload_n 24 hE dX0_freePart_23 rfl rfl ?_
      refine v_iload_n 25 hE dX0_freePart_24 rfl rfl ?_
      refine v_ic_neN 28 hE 32 dX0_freePart_25 (by decide) (by omega) (by omega) rfl (fun c25 => ?_) (fun c25 => ?_)
      · refine v_lconst 33 hE (v := 0) dX0_freePart_32 (by decide) rfl ?_
        exact (hret _ _ dX0_freePart_33).cast rfl (rL (by unfold fPart; rw [c6, hq]; simp [c25]))
      · refine v_lconst 29 hE (v := 1) dX0_freePart_28 (by decide) rfl ?_
        refine v_goto hE 33 dX0_freePart_29 (by decide) ?_
        exact (hret _ _ dX0_freePart_33).cast rfl (rL (by unfold fPart; rw [c6, hq]; simp [c25]))
  · refine v_lconst 10 hE (v := 0) dX0_freePart_9 (by decide) rfl ?_
    exact (hret _ _ dX0_freePart_10).cast rfl (rL (by simp [fPart, c6]))
set_option maxRecDepth 100000 in
set_option maxHeartbeats 4000000 in
theorem kX0_firstFreePart (l : Launch) (Y : yG) (u : XS) (s : Nat) (hE0 : okE u) (hs : s < 25) : mI l (gX Y) yX0_firstFreePart wsX0_firstFreePart ({ frames := 1, cells := 0, slots := 0, locals := 23 }) [.ref (yA Y 4), .int (nI s)] u (oI (-1) (fFree (x_kn u) (x_rop u) (x_row u) s)) u := by
  refine mI_of (cc := cX0_firstFreePart) (nL := 3) (own := RX0) (by decide) rfl rfl (fun v => cX_geo Y _ v) (Nat.le_of_ble_eq_true rfl) ?_
  intro K hKl hE hret
  show vV K (gX Y) u [(0, .ref (yA Y 4)), (1, .int (nI s))] [] 0
  refine v_iconst 1 hE (v := nI 0) dX0_firstFreePart_0 (by decide) rfl ?_
  refine v_istore_n 2 hE [_, _, _] dX0_firstFreePart_1 rfl (by decide) rfl rfl ?_
  refine vV.sub [1, 2, 0] rfl ?_
  have L2 : ∀ (n2 : Nat) (i : Nat), (i ≤ 25) → (∀ j, j < i → (!decide ((fPart (x_kn u) (x_rop u) (x_row u) s j) = 0)) = false) → 25 + 1 ≤ i + n2 → vV K (gX Y) u [(0, .ref (yA Y 4)), (1, .int (nI s)), (2, .int (nI i))] [] 2 := by
    intro n2
    induction n2 with
    | zero => intro i hi hno hfu2; exact absurd hfu2 (by omega)
    | succ n2 ih2 =>
      intro i hi hno hfu2
      refine v_iload_n 3 hE dX0_firstFreePart_2 rfl rfl ?_
      refine v_bipush 5 hE (v := nI 25) dX0_firstFreePart_3 (by decide) rfl ?_
      refine v_ic_geN 8 hE 27 dX0_firstFreePart_5 (by decide) (by omega) (by omega) rfl (fun c5 => ?_) (fun c5 => ?_)
      · refine v_iconst 28 hE (v := -1) dX0_firstFreePart_27 (by decide) rfl ?_
        exact (hret _ _ dX0_firstFreePart_28).cast rfl (rI (by rw [fFree, fstN_none.mpr (fun j hj => hno j (by omega))]; rfl))
      · refine v_aload_n 9 hE dX0_firstFreePart_8 rfl rfl ?_
        refine v_iload_n 10 hE dX0_firstFreePart_9 rfl rfl ?_
        refine v_iload_n 11 hE dX0_firstFreePart_10 rfl rfl ?_
        refine v_clE 14 hE (v_runV 2 hE (vSub.self hE) (kX0_freePart _ Y _ _ _ hE0 (by omega) (by omega)) gX0_firstFreePart_X0_freePart rfl (by decide +kernel) rfl (q0 := 4) rfl rfl ⟨rfl, rfl, by decide, by decide⟩ rfl (Nat.le_of_ble_eq_true rfl) dX0_firstFreePart_11) rfl ?_
        refine v_lconst 15 hE (v := 0) dX0_firstFreePart_14 (by decide) rfl ?_
        refine v_lc_eq 16 19 hE 21 dX0_firstFreePart_15 dX0_firstFreePart_16 (by decide) rfl rfl (fun c15 => ?_) (fun c15 => ?_)
        · refine v_iincN 24 hE [_, _, _] dX0_firstFreePart_21 rfl (by decide) rfl rfl ?_
          refine v_goto hE 2 dX0_firstFreePart_24 (by decide) ?_
          refine vV.sub [1, 2, 0] rfl ?_
          exact ih2 _ (by omega) (fun j hj => if e : j = i then (by rw [e]; simp [c15]) else hno j (by omega)) (by omega)
        · refine v_iload_n 20 hE dX0_firstFreePart_19 rfl rfl ?_
          exact (hret _ _ dX0_firstFreePart_20).cast rfl (rI (by rw [fFree, fstN_some.mpr ⟨by omega, by simp [c15], hno⟩]; rfl))
  exact L2 (25 + 1) _ (by omega) (by intro j hj; omega) (by omega)
set_option maxRecDepth 100000 in
set_option maxHeartbeats 4000000 in
theorem kX0_determine (l : Launch) (Y : yG) (u : XS) (s : Nat) (hE0 : okE u) (hs : s < 25) : mI l (gX Y) yX0_determine wsX0_determine ({ frames := 2, cells := 0, slots := 0, locals := 45 }) [.ref (yA Y 4), .int (nI s)] u (bI (uDet (x_kn u) (x_rop u) (x_row u) s)) u := by
  refine mB_of (cc := cX0_determine) (nL := 2) (own := RX0) (by decide) rfl rfl (fun v => cX_geo Y _ v) (Nat.le_of_ble_eq_true rfl) ?_
  intro K hKl hE hret
  show vV K (gX Y) u [(0, .ref (yA Y 4)), (1, .int (nI s))] [] 0
  refine v_aload_n 1 hE dX0_determine_0 rfl rfl ?_
  refine v_iload_n 2 hE dX0_determine_1 rfl rfl ?_
  refine v_ciE 5 hE (v_runV 1 hE (vSub.self hE) (kX0_firstFreePart _ Y _ _ hE0 (by omega)) gX0_determine_X0_firstFreePart rfl (by decide +kernel) rfl (q0 := 4) rfl rfl ⟨rfl, rfl, by decide, by decide⟩ rfl (Nat.le_of_ble_eq_true rfl) dX0_determine_2) rfl ?_
  refine v_iconst 6 hE (v := -1) dX0_determine_5 (by decide) rfl ?_
  refine v_ic_ne 9 hE 13 dX0_determine_6 (by decide) rfl (fun c6 => ?_) (fun c6 => ?_)
  · refine v_iconst 14 hE (v := nI 0) dX0_determine_13 (by decide) rfl ?_
    exact (hret _ _ dX0_determine_14).cast rfl (by first | exact rB1 (by unfold uDet; rw [(oI_n (x := fFree (x_kn u) (x_rop u) (x_row u) s) (fun k hk => (fstN_some.mp hk).1) (by decide)).mp c6]; rfl) | exact rB0 (by unfold uDet; obtain ⟨k, hk⟩ := oI_some c6; rw [hk]; rfl))
  · refine v_iconst 10 hE (v := nI 1) dX0_determine_9 (by decide) rfl ?_
    refine v_goto hE 14 dX0_determine_10 (by decide) ?_
    exact (hret _ _ dX0_determine_14).cast rfl (by first | exact rB1 (by unfold uDet; rw [(oI_n (x := fFree (x_kn u) (x_rop u) (x_row u) s) (fun k hk => (fstN_some.mp hk).1) (by decide)).mp c6]; rfl) | exact rB0 (by unfold uDet; obtain ⟨k, hk⟩ := oI_some c6; rw [hk]; rfl))
set_option maxRecDepth 100000 in
set_option maxHeartbeats 4000000 in
theorem kX0_determineWith (l : Launch) (Y : yG) (u : XS) (q s : Nat) (hE0 : okE u) (hq : q < 25) (hs : s < 25) : mI l (gX Y) yX0_determineWith wsX0_determineWith ({ frames := 3, cells := 0, slots := 0, locals := 66 }) [.ref (yA Y 4), .int (nI q), .int (nI s)] u (bI (uDetW (x_kn u) (x_rop u) (x_row u) q s)) u := by
  refine mB_of (cc := cX0_determineWith) (nL := 5) (own := RX0) (by decide) rfl rfl (fun v => cX_geo Y _ v) (Nat.le_of_ble_eq_true rfl) ?_
  intro K hKl hE hret
  show vV K (gX Y) u [(0, .ref (yA Y 4)), (1, .int (nI q)), (2, .int (nI s))] [] 0
  refine v_aload_n 1 hE dX0_determineWith_0 rfl rfl ?_
  refine v_iload_n 2 hE dX0_determineWith_1 rfl rfl ?_
  refine v_ciE 5 hE (v_runV 1 hE (vSub.self hE) (kX0_firstFreePart _ Y _ _ hE0 (by omega)) gX0_determineWith_X0_firstFreePart rfl (by decide +kernel) rfl (q0 := 4) rfl rfl ⟨rfl, rfl, by decide, by decide⟩ rfl (Nat.le_of_ble_eq_true rfl) dX0_determineWith_2) rfl ?_
  refine v_istore_n 6 hE [_, _, _, _] dX0_determineWith_5 rfl (by decide) rfl rfl ?_
  refine v_iload_n 7 hE dX0_determineWith_6 rfl rfl ?_
  refine v_iconst 8 hE (v := -1) dX0_determineWith_7 (by decide) rfl ?_
  refine v_ic_ne 11 hE 17 dX0_determineWith_8 (by decide) rfl (fun c8 => ?_) (fun c8 => ?_)
  · obtain ⟨f, hf⟩ := oI_some c8
    have hf25 := (fstN_some.mp hf).1
    rw [hf]
    show vV K (gX Y) _ [(3, .int (nI f)), _, _, _] _ _
    refine v_iconst 18 hE (v := nI 0) dX0_determineWith_17 (by decide) rfl ?_
    refine v_istore 20 hE [_, _, _, _, _] dX0_determineWith_18 (by decide) rfl rfl ?_
    refine vV.sub [2, 3, 4, 1, 0] rfl ?_
    have L20 : ∀ (n20 : Nat) (i : Nat), (i ≤ 25) → (∀ j, j < i → (!decide ((fPart (x_kn u) (x_rop u) (x_row u) s j) * (fPart (x_kn u) (x_rop u) (x_row u) q f) = (fPart (x_kn u) (x_rop u) (x_row u) s f) * (fPart (x_kn u) (x_rop u) (x_row u) q j))) = false) → 25 + 1 ≤ i + n20 → vV K (gX Y) u [(0, .ref (yA Y 4)), (1, .int (nI q)), (2, .int (nI s)), (3, .int (nI f)), (4, .int (nI i))] [] 20 := by
      intro n20
      induction n20 with
      | zero => intro i hi hno hfu20; exact absurd hfu20 (by omega)
      | succ n20 ih20 =>
        intro i hi hno hfu20
        refine v_iload 22 hE dX0_determineWith_20 rfl rfl ?_
        refine v_bipush 24 hE (v := nI 25) dX0_determineWith_22 (by decide) rfl ?_
        refine v_ic_geN 27 hE 67 dX0_determineWith_24 (by decide) (by omega) (by omega) rfl (fun c24 => ?_) (fun c24 => ?_)
        · refine v_iconst 68 hE (v := nI 1) dX0_determineWith_67 (by decide) rfl ?_
          exact (hret _ _ dX0_determineWith_68).cast rfl (rB1 (by unfold uDetW; rw [hf]; show (!anyB _ _) = true; rw [anyB_f.mpr (fun j hj => hno j (by omega))]; rfl))
        · refine v_aload_n 28 hE dX0_determineWith_27 rfl rfl ?_
          refine v_iload_n 29 hE dX0_determineWith_28 rfl rfl ?_
          refine v_iload 31 hE dX0_determineWith_29 rfl rfl ?_
          refine v_clE 34 hE (v_runV 2 hE (vSub.self hE) (kX0_freePart _ Y _ _ _ hE0 (by omega) (by omega)) gX0_determineWith_X0_freePart rfl (by decide +kernel) rfl (q0 := 4) rfl rfl ⟨rfl, rfl, by decide, by decide⟩ rfl (Nat.le_of_ble_eq_true rfl) dX0_determineWith_31) rfl ?_
          refine v_aload_n 35 hE dX0_determineWith_34 rfl rfl ?_
          refine v_iload_n 36 hE dX0_determineWith_35 rfl rfl ?_
          refine v_iload_n 37 hE dX0_determineWith_36 rfl rfl ?_
          refine v_clE 40 hE (v_runV 2 hE (vSub.self hE) (kX0_freePart _ Y _ _ _ hE0 (by omega) (by omega)) gX0_determineWith_X0_freePart rfl (by decide +kernel) rfl (q0 := 4) rfl rfl ⟨rfl, rfl, by decide, by decide⟩ rfl (Nat.le_of_ble_eq_true rfl) dX0_determineWith_37) rfl ?_
          refine v_lmul 41 hE dX0_determineWith_40 rfl ?_
          refine v_aload_n 42 hE dX0_determineWith_41 rfl rfl ?_
          refine v_iload_n 43 hE dX0_determineWith_42 rfl rfl ?_
          refine v_iload_n 44 hE dX0_determineWith_43 rfl rfl ?_
          refine v_clE 47 hE (v_runV 2 hE (vSub.self hE) (kX0_freePart _ Y _ _ _ hE0 (by omega) (by omega)) gX0_determineWith_X0_freePart rfl (by decide +kernel) rfl (q0 := 4) rfl rfl ⟨rfl, rfl, by decide, by decide⟩ rfl (Nat.le_of_ble_eq_true rfl) dX0_determineWith_44) rfl ?_
          refine v_aload_n 48 hE dX0_determineWith_47 rfl rfl ?_
          refine v_iload_n 49 hE dX0_determineWith_48 rfl rfl ?_
          refine v_iload 51 hE dX0_determineWith_49 rfl rfl ?_
          refine v_clE 54 hE (v_runV 2 hE (vSub.self hE) (kX0_freePart _ Y _ _ _ hE0 (by omega) (by omega)) gX0_determineWith_X0_freePart rfl (by decide +kernel) rfl (q0 := 4) rfl rfl ⟨rfl, rfl, by decide, by decide⟩ rfl (Nat.le_of_ble_eq_true rfl) dX0_determineWith_51) rfl ?_
          refine v_lmul 55 hE dX0_determineWith_54 rfl ?_
          refine v_lc_eq 56 59 hE 61 dX0_determineWith_55 dX0_determineWith_56 (by decide) rfl rfl (fun c55 => ?_) (fun c55 => ?_)
          · refine v_iincN 64 hE [_, _, _, _, _] dX0_determineWith_61 rfl (by decide) rfl rfl ?_
            refine v_goto hE 20 dX0_determineWith_64 (by decide) ?_
            refine vV.sub [1, 2, 3, 4, 0] rfl ?_
            exact ih20 _ (by omega) (fun j hj => if e : j = i then (by rw [e]; simp [c55]) else hno j (by omega)) (by omega)
          · refine v_iconst 60 hE (v := nI 0) dX0_determineWith_59 (by decide) rfl ?_
            exact (hret _ _ dX0_determineWith_60).cast rfl (rB0 (by unfold uDetW; rw [hf]; show (!anyB _ _) = false; rw [anyB_t.mpr ⟨i, by omega, by simp [c55]⟩]; rfl))
    exact L20 (25 + 1) _ (by omega) (by intro j hj; omega) (by omega)
  · have hf := (oI_n (x := fFree (x_kn u) (x_rop u) (x_row u) q) (fun k hk => (fstN_some.mp hk).1) (by decide)).mp c8
    refine v_aload_n 12 hE dX0_determineWith_11 rfl rfl ?_
    refine v_iload_n 13 hE dX0_determineWith_12 rfl rfl ?_
    refine v_ciE 16 hE (v_runV 1 hE (vSub.self hE) (kX0_determine _ Y _ _ hE0 (by omega)) gX0_determineWith_X0_determine rfl (by decide +kernel) rfl (q0 := 4) rfl rfl ⟨rfl, rfl, by decide, by decide⟩ rfl (Nat.le_of_ble_eq_true rfl) dX0_determineWith_13) rfl ?_
    exact (hret _ _ dX0_determineWith_16).cast rfl (rI (by unfold uDetW; rw [hf]))
set_option maxRecDepth 100000 in
set_option maxHeartbeats 4000000 in
theorem kX0_haveSolution (l : Launch) (Y : yG) (u : XS)  (hE0 : okE u) : mI l (gX Y) yX0_haveSolution wsX0_haveSolution ({ frames := 0, cells := 0, slots := 0, locals := 0 }) [.ref (yA Y 4)] u (bI (uSol (x_rc u) (x_row u) (x_por u))) u := by
  obtain ⟨hrc, hrop, hpor⟩ := id hE0
  refine mB_of (cc := cX0_haveSolution) (nL := 2) (own := RX0) (by decide) rfl rfl (fun v => cX_geo Y _ v) (Nat.le_of_ble_eq_true rfl) ?_
  intro K hKl hE hret
  have f_0 : ∀ w ∈ u_ws RX0 TX0 8, w ∈ wsX0_haveSolution := by decide +kernel
  have f_1 : Cond.fieldLink RX0 33 "TrafficMatrix$Equations" "rowCount" "I" ∈ wsX0_haveSolution := by decide +kernel
  have f_2 : Cond.fieldLink RX0 20 "TrafficMatrix$Equations" "pivotOfRow" "[I" ∈ wsX0_haveSolution := by decide +kernel
  have f_3 : Cond.fieldLink RX0 11 "TrafficMatrix$Equations" "rows" "[[J" ∈ wsX0_haveSolution := by decide +kernel
  show vV K (gX Y) u [(0, .ref (yA Y 4))] [] 0
  refine v_iconst 1 hE (v := nI 0) dX0_haveSolution_0 (by decide) rfl ?_
  refine v_istore_n 2 hE [_, _] dX0_haveSolution_1 rfl (by decide) rfl rfl ?_
  refine vV.sub [1, 0] rfl ?_
  have L2 : ∀ (n2 : Nat) (i : Nat), (i ≤ x_rc u) → (∀ j, j < i → (decide (x_por u j = none) && !decide (x_row u j 25 = 0)) = false) → x_rc u + 1 ≤ i + n2 → vV K (gX Y) u [(0, .ref (yA Y 4)), (1, .int (nI i))] [] 2 := by
    intro n2
    induction n2 with
    | zero => intro i hi hno hfu2; exact absurd hfu2 (by omega)
    | succ n2 ih2 =>
      intro i hi hno hfu2
      refine v_iload_n 3 hE dX0_haveSolution_2 rfl rfl ?_
      refine v_aload_n 4 hE dX0_haveSolution_3 rfl rfl ?_
      refine gX_rowCount 7 hE f_0 f_1 dX0_haveSolution_4 rfl ?_
      refine v_ic_geN 10 hE 42 dX0_haveSolution_7 (by decide) (by omega) (by omega) rfl (fun c7 => ?_) (fun c7 => ?_)
      · refine v_iconst 43 hE (v := nI 1) dX0_haveSolution_42 (by decide) rfl ?_
        exact (hret _ _ dX0_haveSolution_43).cast rfl (rB1 (by unfold uSol; rw [anyB_f.mpr (fun j hj => hno j (by omega))]; rfl))
      · refine v_aload_n 11 hE dX0_haveSolution_10 rfl rfl ?_
        refine gX_pivotOfRow 14 hE f_0 f_2 dX0_haveSolution_11 rfl ?_
        refine v_iload_n 15 hE dX0_haveSolution_14 rfl rfl ?_
        refine lX_por 16 hE (by omega) dX0_haveSolution_15 rfl ?_
        refine v_iconst 17 hE (v := -1) dX0_haveSolution_16 (by decide) rfl ?_
        refine v_ic_ne 20 hE 36 dX0_haveSolution_17 (by decide) rfl (fun c17 => ?_) (fun c17 => ?_)
        · refine v_iincN 39 hE [_, _] dX0_haveSolution_36 rfl (by decide) rfl rfl ?_
          refine v_goto hE 2 dX0_haveSolution_39 (by decide) ?_
          refine vV.sub [1, 0] rfl ?_
          exact ih2 _ (by omega) (fun j hj => if e : j = i then (by rw [e]; first | (rw [oI_dec c17]; rfl) | (simp [c30]; done)) else hno j (by omega)) (by omega)
        · refine v_aload_n 21 hE dX0_haveSolution_20 rfl rfl ?_
          refine gX_rows 24 hE f_0 f_3 dX0_haveSolution_21 rfl ?_
          refine v_iload_n 25 hE dX0_haveSolution_24 rfl rfl ?_
          refine rX_row 26 hE (by omega) dX0_haveSolution_25 rfl ?_
          refine v_bipush 28 hE (v := nI 25) dX0_haveSolution_26 (by decide) rfl ?_
          refine lX_row 29 hE (by omega) (by omega) dX0_haveSolution_28 rfl ?_
          refine v_lconst 30 hE (v := 0) dX0_haveSolution_29 (by decide) rfl ?_
          refine v_lc_eq 31 34 hE 36 dX0_haveSolution_30 dX0_haveSolution_31 (by decide) rfl rfl (fun c30 => ?_) (fun c30 => ?_)
          · refine v_iincN 39 hE [_, _] dX0_haveSolution_36 rfl (by decide) rfl rfl ?_
            refine v_goto hE 2 dX0_haveSolution_39 (by decide) ?_
            refine vV.sub [1, 0] rfl ?_
            exact ih2 _ (by omega) (fun j hj => if e : j = i then (by rw [e]; first | (rw [oI_dec c17]; rfl) | (simp [c30]; done)) else hno j (by omega)) (by omega)
          · refine v_iconst 35 hE (v := nI 0) dX0_haveSolution_34 (by decide) rfl ?_
            exact (hret _ _ dX0_haveSolution_35).cast rfl (rB0 (by unfold uSol; rw [anyB_t.mpr ⟨i, by omega, by simp [(oI_n (hpor i) (by decide)).mp c17, c30]⟩]; rfl))
  exact L2 (x_rc u + 1) _ (by omega) (by intro j hj; omega) (by omega)
set_option maxRecDepth 100000 in
set_option maxHeartbeats 4000000 in
theorem kX0_divisorOfPivotAnd (l : Launch) (Y : yG) (u : XS) (v : Int64)  : mL l (gX Y) yX0_divisorOfPivotAnd wsX0_divisorOfPivotAnd ({ frames := 1, cells := 0, slots := 0, locals := 21 }) [.ref (yA Y 4), .long v] u (gcdJ 100 (absL (x_piv u)) (absL v)) u := by
  refine mL_of (cc := cX0_divisorOfPivotAnd) (nL := 10) (own := RX0) (by decide) rfl rfl (fun v => cX_geo Y _ v) (Nat.le_of_ble_eq_true rfl) ?_
  intro K hKl hE hret
  have f_0 : ∀ w ∈ u_ws RX0 TX0 8, w ∈ wsX0_divisorOfPivotAnd := by decide +kernel
  have f_1 : Cond.fieldLink RX0 78 "TrafficMatrix$Equations" "pivot" "J" ∈ wsX0_divisorOfPivotAnd := by decide +kernel
  have f_2 : Cond.methodLink RX0 115 Lib.MathLoose.abs_long.x ∈ wsX0_divisorOfPivotAnd := by decide +kernel
  have f_3 : Cond.static Lib.MathLoose.abs_long.x ∈ wsX0_divisorOfPivotAnd := by decide +kernel
  have f_4 : Cond.initialized "java/lang/Math" ∈ wsX0_divisorOfPivotAnd := by decide +kernel
  have f_5 : Cond.code Lib.MathLoose.abs_long.x Lib.MathLoose.abs_long.code 2 (some .long) ∈ wsX0_divisorOfPivotAnd := by decide +kernel
  show vV K (gX Y) u [(0, .ref (yA Y 4)), (1, .long v)] [] 0
  refine v_aload_n 1 hE dX0_divisorOfPivotAnd_0 rfl rfl ?_
  refine gX_pivot 4 hE f_0 f_1 dX0_divisorOfPivotAnd_1 rfl ?_
  refine v_absL 7 hE f_2 f_3 f_4 f_5 ⟨by decide, Nat.le_of_ble_eq_true rfl⟩ dX0_divisorOfPivotAnd_4 rfl ?_
  refine v_lstore_n 8 hE [_, _, _] dX0_divisorOfPivotAnd_7 rfl (by decide) rfl rfl ?_
  refine v_lload_n 9 hE dX0_divisorOfPivotAnd_8 rfl rfl ?_
  refine v_absL 12 hE f_2 f_3 f_4 f_5 ⟨by decide, Nat.le_of_ble_eq_true rfl⟩ dX0_divisorOfPivotAnd_9 rfl ?_
  refine v_lstore 14 hE [_, _, _, _] dX0_divisorOfPivotAnd_12 (by decide) rfl rfl ?_
  refine v_iconst 15 hE (v := nI 0) dX0_divisorOfPivotAnd_14 (by decide) rfl ?_
  refine v_istore 17 hE [_, _, _, _, _] dX0_divisorOfPivotAnd_15 (by decide) rfl rfl ?_
  refine vV.sub [3, 4, 2, 1, 0] rfl ?_
  have L17 : ∀ (n17 : Nat) (d : Int64) (r : Int64) (i : Nat), (i ≤ 100) → (gcdJ (100 - i) d r = gcdJ 100 (absL (x_piv u)) (absL v)) → 100 + 1 ≤ i + n17 → vV K (gX Y) u [(0, .ref (yA Y 4)), (1, .long v), (3, .long d), (5, .long r), (7, .int (nI i))] [] 17 := by
    intro n17
    induction n17 with
    | zero => intro d r i hi hg hfu17; exact absurd hfu17 (by omega)
    | succ n17 ih17 =>
      intro d r i hi hg hfu17
      refine v_iload 19 hE dX0_divisorOfPivotAnd_17 rfl rfl ?_
      refine v_bipush 21 hE (v := nI 100) dX0_divisorOfPivotAnd_19 (by decide) rfl ?_
      refine v_ic_geN 24 hE 50 dX0_divisorOfPivotAnd_21 (by decide) (by omega) (by omega) rfl (fun c21 => ?_) (fun c21 => ?_)
      · refine v_lload_n 51 hE dX0_divisorOfPivotAnd_50 rfl rfl ?_
        exact (hret _ _ dX0_divisorOfPivotAnd_51).cast rfl (rL (by rw [← hg]; first | (rw [show 100 - i = 0 by omega]; rfl) | (rw [show 100 - i = (100 - (i + 1)) + 1 by omega]; simp [gcdJ, c27])))
      · refine v_lload 26 hE dX0_divisorOfPivotAnd_24 rfl rfl ?_
        refine v_lconst 27 hE (v := 0) dX0_divisorOfPivotAnd_26 (by decide) rfl ?_
        refine v_lc_eq 28 31 hE 50 dX0_divisorOfPivotAnd_27 dX0_divisorOfPivotAnd_28 (by decide) rfl rfl (fun c27 => ?_) (fun c27 => ?_)
        · refine v_lload_n 51 hE dX0_divisorOfPivotAnd_50 rfl rfl ?_
          exact (hret _ _ dX0_divisorOfPivotAnd_51).cast rfl (rL (by rw [← hg]; first | (rw [show 100 - i = 0 by omega]; rfl) | (rw [show 100 - i = (100 - (i + 1)) + 1 by omega]; simp [gcdJ, c27])))
        · refine v_lload_n 32 hE dX0_divisorOfPivotAnd_31 rfl rfl ?_
          refine v_lload 34 hE dX0_divisorOfPivotAnd_32 rfl rfl ?_
          refine v_lrem 35 hE dX0_divisorOfPivotAnd_34 c27 rfl ?_
          refine v_lstore 37 hE [_, _, _, _, _, _] dX0_divisorOfPivotAnd_35 (by decide) rfl rfl ?_
          refine v_lload 39 hE dX0_divisorOfPivotAnd_37 rfl rfl ?_
          refine v_lstore_n 40 hE [_, _, _, _, _, _] dX0_divisorOfPivotAnd_39 rfl (by decide) rfl rfl ?_
          refine v_lload 42 hE dX0_divisorOfPivotAnd_40 rfl rfl ?_
          refine v_lstore 44 hE [_, _, _, _, _, _] dX0_divisorOfPivotAnd_42 (by decide) rfl rfl ?_
          refine v_iincN 47 hE [_, _, _, _, _, _] dX0_divisorOfPivotAnd_44 rfl (by decide) rfl rfl ?_
          refine v_goto hE 17 dX0_divisorOfPivotAnd_47 (by decide) ?_
          refine vV.sub [4, 5, 2, 1, 0] rfl ?_
          exact ih17 _ _ _ (by omega) (by rw [← hg, show 100 - i = (100 - (i + 1)) + 1 by omega]; simp [gcdJ, c27]) (by omega)
  exact L17 (100 + 1) _ _ _ (by omega) rfl (by omega)
set_option maxRecDepth 100000 in
set_option maxHeartbeats 4000000 in
theorem kX0_numeratorOf (l : Launch) (Y : yG) (u : XS) (s : Nat) (hE0 : okE u) (hs : s < 25) : mL l (gX Y) yX0_numeratorOf wsX0_numeratorOf ({ frames := 2, cells := 0, slots := 0, locals := 50 }) [.ref (yA Y 4), .int (nI s), .ref (yA Y 3)] u (uNum (x_rop u) (x_row u) (x_piv u) (x_pv u) s) u := by
  obtain ⟨hrc, hrop, hpor⟩ := id hE0
  refine mL_of (cc := cX0_numeratorOf) (nL := 6) (own := RX0) (by decide) rfl rfl (fun v => cX_geo Y _ v) (Nat.le_of_ble_eq_true rfl) ?_
  intro K hKl hE hret
  have f_0 : ∀ w ∈ u_ws RX0 TX0 8, w ∈ wsX0_numeratorOf := by decide +kernel
  have f_1 : Cond.fieldLink RX0 16 "TrafficMatrix$Equations" "rowOfPivot" "[I" ∈ wsX0_numeratorOf := by decide +kernel
  have f_2 : Cond.fieldLink RX0 11 "TrafficMatrix$Equations" "rows" "[[J" ∈ wsX0_numeratorOf := by decide +kernel
  have f_3 : Cond.fieldLink RX0 78 "TrafficMatrix$Equations" "pivot" "J" ∈ wsX0_numeratorOf := by decide +kernel
  have f_4 : ∀ w ∈ u_ws RX2 TX2 4, w ∈ wsX0_numeratorOf := by decide +kernel
  have f_5 : Cond.fieldLink RX0 72 "TrafficMatrix$Measurements" "pairValues" "[I" ∈ wsX0_numeratorOf := by decide +kernel
  show vV K (gX Y) u [(0, .ref (yA Y 4)), (1, .int (nI s)), (2, .ref (yA Y 3))] [] 0
  refine v_aload_n 1 hE dX0_numeratorOf_0 rfl rfl ?_
  refine gX_rowOfPivot 4 hE f_0 f_1 dX0_numeratorOf_1 rfl ?_
  refine v_iload_n 5 hE dX0_numeratorOf_4 rfl rfl ?_
  refine lX_rop 6 hE (by omega) dX0_numeratorOf_5 rfl ?_
  refine v_istore_n 7 hE [_, _, _, _] dX0_numeratorOf_6 rfl (by decide) rfl rfl ?_
  refine v_iload_n 8 hE dX0_numeratorOf_7 rfl rfl ?_
  refine v_iconst 9 hE (v := -1) dX0_numeratorOf_8 (by decide) rfl ?_
  refine v_ic_ne 12 hE 20 dX0_numeratorOf_9 (by decide) rfl (fun c9 => ?_) (fun c9 => ?_)
  · obtain ⟨r, hq⟩ := oI_some c9
    have hr := hrop s r hq
    rw [hq]
    show vV K (gX Y) _ [(3, .int (nI r)), _, _, _] _ _
    refine v_aload_n 21 hE dX0_numeratorOf_20 rfl rfl ?_
    refine gX_rows 24 hE f_0 f_2 dX0_numeratorOf_21 rfl ?_
    refine v_iload_n 25 hE dX0_numeratorOf_24 rfl rfl ?_
    refine rX_row 26 hE (by omega) dX0_numeratorOf_25 rfl ?_
    refine v_bipush 28 hE (v := nI 25) dX0_numeratorOf_26 (by decide) rfl ?_
    refine lX_row 29 hE (by omega) (by omega) dX0_numeratorOf_28 rfl ?_
    refine v_lstore 31 hE [_, _, _, _, _] dX0_numeratorOf_29 (by decide) rfl rfl ?_
    refine v_aload_n 32 hE dX0_numeratorOf_31 rfl rfl ?_
    refine gX_pivot 35 hE f_0 f_3 dX0_numeratorOf_32 rfl ?_
    refine v_lconst 36 hE (v := 0) dX0_numeratorOf_35 (by decide) rfl ?_
    refine v_lc_ge 37 40 hE 46 dX0_numeratorOf_36 dX0_numeratorOf_37 (by decide) rfl rfl (fun c36 => ?_) (fun c36 => ?_)
    · refine v_lload 48 hE dX0_numeratorOf_46 rfl rfl ?_
      refine v_aload_n 49 hE dX0_numeratorOf_48 rfl rfl ?_
      refine v_lload 51 hE dX0_numeratorOf_49 rfl rfl ?_
      refine v_clE 54 hE (v_runV 1 hE (vSub.self hE) (kX0_divisorOfPivotAnd _ Y _ _) gX0_numeratorOf_X0_divisorOfPivotAnd rfl (by decide +kernel) rfl (q0 := 4) rfl rfl ⟨rfl, rfl, by decide, by decide⟩ rfl (Nat.le_of_ble_eq_true rfl) dX0_numeratorOf_51) rfl ?_
      refine v_clE 57 hE (v_runS 2 hE (vSub.self hE) (kX0_quotient _ Y _ _ _) gX0_numeratorOf_X0_quotient rfl (by decide +kernel) rfl ⟨rfl, rfl, by decide, by decide⟩ rfl (Nat.le_of_ble_eq_true rfl) dX0_numeratorOf_54) rfl ?_
      exact (hret _ _ dX0_numeratorOf_57).cast rfl (rL (by simp [uNum, hq, c36]))
    · refine v_lload 42 hE dX0_numeratorOf_40 rfl rfl ?_
      refine v_lneg 43 hE dX0_numeratorOf_42 rfl ?_
      refine v_goto hE 48 dX0_numeratorOf_43 (by decide) ?_
      refine v_aload_n 49 hE dX0_numeratorOf_48 rfl rfl ?_
      refine v_lload 51 hE dX0_numeratorOf_49 rfl rfl ?_
      refine v_clE 54 hE (v_runV 1 hE (vSub.self hE) (kX0_divisorOfPivotAnd _ Y _ _) gX0_numeratorOf_X0_divisorOfPivotAnd rfl (by decide +kernel) rfl (q0 := 4) rfl rfl ⟨rfl, rfl, by decide, by decide⟩ rfl (Nat.le_of_ble_eq_true rfl) dX0_numeratorOf_51) rfl ?_
      refine v_clE 57 hE (v_runS 2 hE (vSub.self hE) (kX0_quotient _ Y _ _ _) gX0_numeratorOf_X0_quotient rfl (by decide +kernel) rfl ⟨rfl, rfl, by decide, by decide⟩ rfl (Nat.le_of_ble_eq_true rfl) dX0_numeratorOf_54) rfl ?_
      exact (hret _ _ dX0_numeratorOf_57).cast rfl (rL (by simp [uNum, hq, c36]))
  · have hq := (oI_n (hrop s) (by decide)).mp c9
    refine v_aload_n 13 hE dX0_numeratorOf_12 rfl rfl ?_
    refine gX_pairValues 16 hE f_4 f_5 dX0_numeratorOf_13 rfl ?_
    refine v_iload_n 17 hE dX0_numeratorOf_16 rfl rfl ?_
    refine lX_pv 18 hE (by omega) dX0_numeratorOf_17 rfl ?_
    refine v_i2l 19 hE dX0_numeratorOf_18 rfl ?_
    exact (hret _ _ dX0_numeratorOf_19).cast rfl (rL (by simp [uNum, hq]))
set_option maxRecDepth 100000 in
set_option maxHeartbeats 4000000 in
theorem kX0_denominatorOf (l : Launch) (Y : yG) (u : XS) (s : Nat) (hE0 : okE u) (hs : s < 25) : mL l (gX Y) yX0_denominatorOf wsX0_denominatorOf ({ frames := 2, cells := 0, slots := 0, locals := 50 }) [.ref (yA Y 4), .int (nI s)] u (uDen (x_rop u) (x_row u) (x_piv u) s) u := by
  obtain ⟨hrc, hrop, hpor⟩ := id hE0
  refine mL_of (cc := cX0_denominatorOf) (nL := 3) (own := RX0) (by decide) rfl rfl (fun v => cX_geo Y _ v) (Nat.le_of_ble_eq_true rfl) ?_
  intro K hKl hE hret
  have f_0 : ∀ w ∈ u_ws RX0 TX0 8, w ∈ wsX0_denominatorOf := by decide +kernel
  have f_1 : Cond.fieldLink RX0 16 "TrafficMatrix$Equations" "rowOfPivot" "[I" ∈ wsX0_denominatorOf := by decide +kernel
  have f_2 : Cond.fieldLink RX0 78 "TrafficMatrix$Equations" "pivot" "J" ∈ wsX0_denominatorOf := by decide +kernel
  have f_3 : Cond.methodLink RX0 115 Lib.MathLoose.abs_long.x ∈ wsX0_denominatorOf := by decide +kernel
  have f_4 : Cond.static Lib.MathLoose.abs_long.x ∈ wsX0_denominatorOf := by decide +kernel
  have f_5 : Cond.initialized "java/lang/Math" ∈ wsX0_denominatorOf := by decide +kernel
  have f_6 : Cond.code Lib.MathLoose.abs_long.x Lib.MathLoose.abs_long.code 2 (some .long) ∈ wsX0_denominatorOf := by decide +kernel
  have f_7 : Cond.fieldLink RX0 11 "TrafficMatrix$Equations" "rows" "[[J" ∈ wsX0_denominatorOf := by decide +kernel
  show vV K (gX Y) u [(0, .ref (yA Y 4)), (1, .int (nI s))] [] 0
  refine v_aload_n 1 hE dX0_denominatorOf_0 rfl rfl ?_
  refine gX_rowOfPivot 4 hE f_0 f_1 dX0_denominatorOf_1 rfl ?_
  refine v_iload_n 5 hE dX0_denominatorOf_4 rfl rfl ?_
  refine lX_rop 6 hE (by omega) dX0_denominatorOf_5 rfl ?_
  refine v_istore_n 7 hE [_, _, _] dX0_denominatorOf_6 rfl (by decide) rfl rfl ?_
  refine v_iload_n 8 hE dX0_denominatorOf_7 rfl rfl ?_
  refine v_iconst 9 hE (v := -1) dX0_denominatorOf_8 (by decide) rfl ?_
  refine v_ic_ne 12 hE 14 dX0_denominatorOf_9 (by decide) rfl (fun c9 => ?_) (fun c9 => ?_)
  · obtain ⟨r, hq⟩ := oI_some c9
    have hr := hrop s r hq
    rw [hq]
    show vV K (gX Y) _ [(2, .int (nI r)), _, _] _ _
    refine v_aload_n 15 hE dX0_denominatorOf_14 rfl rfl ?_
    refine gX_pivot 18 hE f_0 f_2 dX0_denominatorOf_15 rfl ?_
    refine v_absL 21 hE f_3 f_4 f_5 f_6 ⟨by decide, Nat.le_of_ble_eq_true rfl⟩ dX0_denominatorOf_18 rfl ?_
    refine v_aload_n 22 hE dX0_denominatorOf_21 rfl rfl ?_
    refine v_aload_n 23 hE dX0_denominatorOf_22 rfl rfl ?_
    refine gX_rows 26 hE f_0 f_7 dX0_denominatorOf_23 rfl ?_
    refine v_iload_n 27 hE dX0_denominatorOf_26 rfl rfl ?_
    refine rX_row 28 hE (by omega) dX0_denominatorOf_27 rfl ?_
    refine v_bipush 30 hE (v := nI 25) dX0_denominatorOf_28 (by decide) rfl ?_
    refine lX_row 31 hE (by omega) (by omega) dX0_denominatorOf_30 rfl ?_
    refine v_clE 34 hE (v_runV 1 hE (vSub.self hE) (kX0_divisorOfPivotAnd _ Y _ _) gX0_denominatorOf_X0_divisorOfPivotAnd rfl (by decide +kernel) rfl (q0 := 4) rfl rfl ⟨rfl, rfl, by decide, by decide⟩ rfl (Nat.le_of_ble_eq_true rfl) dX0_denominatorOf_31) rfl ?_
    refine v_clE 37 hE (v_runS 2 hE (vSub.self hE) (kX0_quotient _ Y _ _ _) gX0_denominatorOf_X0_quotient rfl (by decide +kernel) rfl ⟨rfl, rfl, by decide, by decide⟩ rfl (Nat.le_of_ble_eq_true rfl) dX0_denominatorOf_34) rfl ?_
    exact (hret _ _ dX0_denominatorOf_37).cast rfl (rL (by simp only [uDen, hq, absL]))
  · have hq := (oI_n (hrop s) (by decide)).mp c9
    refine v_lconst 13 hE (v := 1) dX0_denominatorOf_12 (by decide) rfl ?_
    exact (hret _ _ dX0_denominatorOf_13).cast rfl (rL (by simp [uDen, hq]))
set_option maxRecDepth 100000 in
set_option maxHeartbeats 4000000 in
theorem kX0_solve (l : Launch) (Y : yG) (u : XS)  (hok : okN u) : mV l (gX Y) yX0_solve wsX0_solve ({ frames := 4, cells := 0, slots := 0, locals := 98 }) [.ref (yA Y 4), .ref (yA Y 1), .ref (yA Y 3)] u (xSolve u) := by
  obtain ⟨hn, hm, hsrc, htgt, hmet, hlen, hlnk⟩ := id hok
  refine mV_of (cc := cX0_solve) (nL := 4) (own := RX0) (by decide) rfl rfl (fun v => cX_geo Y _ v) (Nat.le_of_ble_eq_true rfl) ?_
  intro K hKl hE hret
  have f_0 : ∀ w ∈ u_ws RX3 TX3 8, w ∈ wsX0_solve := by decide +kernel
  have f_1 : Cond.fieldLink RX0 27 "TrafficMatrix$Network" "linkCount" "I" ∈ wsX0_solve := by decide +kernel
  have f_2 : ∀ w ∈ u_ws RX0 TX0 8, w ∈ wsX0_solve := by decide +kernel
  have f_3 : Cond.fieldLink RX0 33 "TrafficMatrix$Equations" "rowCount" "I" ∈ wsX0_solve := by decide +kernel
  show vV K (gX Y) u [(0, .ref (yA Y 4)), (1, .ref (yA Y 1)), (2, .ref (yA Y 3))] [] 0
  refine v_aload_n 1 hE dX0_solve_0 rfl rfl ?_
  refine v_aload_n 2 hE dX0_solve_1 rfl rfl ?_
  refine gX_linkCount 5 hE f_0 f_1 dX0_solve_2 rfl ?_
  refine pX_rowCount 8 hE f_2 f_3 dX0_solve_5 rfl ?_
  refine v_aload_n 9 hE dX0_solve_8 rfl rfl ?_
  refine v_aload_n 10 hE dX0_solve_9 rfl rfl ?_
  refine v_aload_n 11 hE dX0_solve_10 rfl rfl ?_
  refine v_cvE 14 hE (v_runV 2 hE (vSub.self hE) (kX0_findKnown _ Y (xs_rc u (x_m u)) hok) gX0_solve_X0_findKnown rfl (by decide +kernel) rfl (q0 := 4) rfl rfl ⟨rfl, rfl, by decide, by decide⟩ rfl (Nat.le_of_ble_eq_true rfl) dX0_solve_11) rfl ?_
  refine v_iconst 15 hE (v := nI 0) dX0_solve_14 (by decide) rfl ?_
  refine v_istore_n 16 hE [_, _, _, _] dX0_solve_15 rfl (by decide) rfl rfl ?_
  refine vV.sub [1, 2, 3, 0] rfl ?_
  have L16 : ∀ (n16 : Nat) (i : Nat) (R : Nat → Nat → Int64), (i ≤ x_m u) → (R = mixN (x_row u) (fun k => fRow (x_load u) (uUses (x_len u) (x_lnk u)) (mixN (x_kn u) (uKn (x_len u) (x_pv u)) 25) (x_pv u) k 25) i) → x_m u + 1 ≤ i + n16 → vV K (gX Y) (xs_row (xK u) R) [(0, .ref (yA Y 4)), (1, .ref (yA Y 1)), (2, .ref (yA Y 3)), (3, .int (nI i))] [] 16 := by
    intro n16
    induction n16 with
    | zero => intro i R hi hR hfu16; exact absurd hfu16 (by omega)
    | succ n16 ih16 =>
      intro i R hi hR hfu16
      refine v_iload_n 17 hE dX0_solve_16 rfl rfl ?_
      refine v_aload_n 18 hE dX0_solve_17 rfl rfl ?_
      refine gX_rowCount 21 hE f_2 f_3 dX0_solve_18 rfl ?_
      show vV K (gX Y) _ _ (.int (nI (x_m u)) :: _) _
      refine v_ic_geN 24 hE 37 dX0_solve_21 (by decide) (by omega) (by omega) rfl (fun c21 => ?_) (fun c21 => ?_)
      · refine v_aload_n 38 hE dX0_solve_37 rfl rfl ?_
        refine v_cvE 41 hE (v_runV 0 hE (vSub.self hE) (kX0_eliminate _ Y (xs_row (xK u) R) hm) gX0_solve_X0_eliminate rfl (by decide +kernel) rfl (q0 := 4) rfl rfl ⟨rfl, rfl, by decide, by decide⟩ rfl (Nat.le_of_ble_eq_true rfl) dX0_solve_38) rfl ?_
        exact (hret _ _ dX0_solve_41).cast (by rw [hR, show i = x_m u by omega]) rfl
      · refine v_aload_n 25 hE dX0_solve_24 rfl rfl ?_
        refine v_iload_n 26 hE dX0_solve_25 rfl rfl ?_
        refine v_aload_n 27 hE dX0_solve_26 rfl rfl ?_
        refine v_aload_n 28 hE dX0_solve_27 rfl rfl ?_
        refine v_cvE 31 hE (v_runV 3 hE (vSub.self hE) (kX0_fillRow _ Y (xs_row (xK u) R) _ hok (by omega)) gX0_solve_X0_fillRow rfl (by decide +kernel) rfl (q0 := 4) rfl rfl ⟨rfl, rfl, by decide, by decide⟩ rfl (Nat.le_of_ble_eq_true rfl) dX0_solve_28) rfl ?_
        refine v_iincN 34 hE [_, _, _, _] dX0_solve_31 rfl (by decide) rfl rfl ?_
        refine v_goto hE 16 dX0_solve_34 (by decide) ?_
        refine vV.sub [1, 2, 3, 0] rfl ?_
        exact ih16 _ _ (by omega) (by rw [hR]; exact mixN_s _ _ _) (by omega)
  exact L16 (x_m u + 1) _ (x_row u) (by omega) (mixN_0 _ _).symm (by omega)
