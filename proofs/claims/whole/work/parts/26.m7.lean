/-! TrafficMatrixModel: the estimates -/
set_option maxRecDepth 100000 in
set_option maxHeartbeats 4000000 in
theorem kX5_applyGravity (l : Launch) (Y : yG) (u : MS)  (hok : okM u) : mI l (gM Y) yX5_applyGravity wsX5_applyGravity ({ frames := 4, cells := 0, slots := 0, locals := 93 }) [.ref (yA Y 0)] u (nI (cntN (fun p => !decide (wGr u p ≤ 0)) 25)) (ws_gue (wFind u) (mixN (w_gue u) (wGr u) 25)) := by
  obtain ⟨hn2, hn, hm, hsrc, htgt, hmet⟩ := id hok
  refine mI_of (cc := cX5_applyGravity) (nL := 5) (own := RX5) (by decide) rfl rfl (fun v => cM_geo Y _ v) (Nat.le_of_ble_eq_true rfl) ?_
  intro K hKl hE hret
  have f_0 : ∀ w ∈ u_ws RX5 TX5 20, w ∈ wsX5_applyGravity := by decide +kernel
  have f_1 : Cond.fieldLink RX5 60 "TrafficMatrixModel" "nodes" "I" ∈ wsX5_applyGravity := by decide +kernel
  have f_2 : Cond.fieldLink RX5 38 "TrafficMatrixModel" "guess" "[J" ∈ wsX5_applyGravity := by decide +kernel
  have f_3 : Cond.fieldLink RX5 25 "TrafficMatrixModel" "outOf" "[I" ∈ wsX5_applyGravity := by decide +kernel
  have f_4 : Cond.fieldLink RX5 28 "TrafficMatrixModel" "inOf" "[I" ∈ wsX5_applyGravity := by decide +kernel
  have f_5 : Jvm.Cond.constantLong RX5 159 1000 ∈ wsX5_applyGravity := by decide +kernel
  show vV K (gM Y) u [(0, .ref (yA Y 0))] [] 0
  refine v_aload_n 1 hE dX5_applyGravity_0 rfl rfl ?_
  refine v_cvE 4 hE (v_runV 0 hE (vSub.self hE) (kX5_findRoutes _ Y _ hok) gX5_applyGravity_X5_findRoutes rfl (by decide +kernel) rfl (q0 := 0) rfl rfl ⟨rfl, rfl, by decide, by decide⟩ rfl (Nat.le_of_ble_eq_true rfl) dX5_applyGravity_1) rfl ?_
  refine v_lconst 5 hE (v := 0) dX5_applyGravity_4 (by decide) rfl ?_
  refine v_lstore_n 6 hE [_, _] dX5_applyGravity_5 rfl (by decide) rfl rfl ?_
  refine v_iconst 7 hE (v := nI 0) dX5_applyGravity_6 (by decide) rfl ?_
  refine v_istore_n 8 hE [_, _, _] dX5_applyGravity_7 rfl (by decide) rfl rfl ?_
  refine v_iconst 9 hE (v := nI 0) dX5_applyGravity_8 (by decide) rfl ?_
  refine v_istore 11 hE [_, _, _, _] dX5_applyGravity_9 (by decide) rfl rfl ?_
  refine vV.sub [3, 2, 1, 0] rfl ?_
  have L11 : ∀ (n11 : Nat) (w : Int64) (v : Nat), (v ≤ w_n u) → (w = sumL (fun v => (w_out u v).toInt64) v) → w_n u + 1 ≤ v + n11 → vV K (gM Y) (wFind u) [(0, .ref (yA Y 0)), (1, .long w), (3, .int (nI 0)), (4, .int (nI v))] [] 11 := by
    intro n11
    induction n11 with
    | zero => intro w v hv hw hfu11; exact absurd hfu11 (by omega)
    | succ n11 ih11 =>
      intro w v hv hw hfu11
      refine v_iload 13 hE dX5_applyGravity_11 rfl rfl ?_
      refine v_aload_n 14 hE dX5_applyGravity_13 rfl rfl ?_
      refine gM_nodes 17 hE f_0 f_1 dX5_applyGravity_14 rfl ?_
      show vV K (gM Y) _ _ (.int (nI (w_n u)) :: _) _
      refine v_ic_geN 20 hE 37 dX5_applyGravity_17 (by decide) (by omega) (by omega) rfl (fun c17 => ?_) (fun c17 => ?_)
      · have hwt : w = totM (w_out u) (w_n u) := by rw [hw, show v = w_n u by omega]; rfl
        subst hwt
        refine v_iconst 38 hE (v := nI 0) dX5_applyGravity_37 (by decide) rfl ?_
        refine v_istore 40 hE [_, _, _, _] dX5_applyGravity_38 (by decide) rfl rfl ?_
        refine vV.sub [1, 2, 3, 0] rfl ?_
        have L40 : ∀ (n40 : Nat) (a : Nat) (i : Nat) (f : Nat → Int64), (i ≤ 25) → (a = cntN (fun p => !decide (wGr u p ≤ 0)) i) → (f = mixN (w_gue u) (wGr u) i) → 25 + 1 ≤ i + n40 → vV K (gM Y) (ws_gue (wFind u) f) [(0, .ref (yA Y 0)), (1, .long (totM (w_out u) (w_n u))), (3, .int (nI a)), (4, .int (nI i))] [] 40 := by
          intro n40
          induction n40 with
          | zero => intro a i f hi ha hf hfu40; exact absurd hfu40 (by omega)
          | succ n40 ih40 =>
            intro a i f hi ha hf hfu40
            refine v_iload 42 hE dX5_applyGravity_40 rfl rfl ?_
            refine v_bipush 44 hE (v := nI 25) dX5_applyGravity_42 (by decide) rfl ?_
            refine v_ic_geN 47 hE 126 dX5_applyGravity_44 (by decide) (by omega) (by omega) rfl (fun c44 => ?_) (fun c44 => ?_)
            · refine v_iload_n 127 hE dX5_applyGravity_126 rfl rfl ?_
              exact (hret _ _ dX5_applyGravity_127).cast (by rw [hf, show i = 25 by omega]) (rI (by rw [ha, show i = 25 by omega]))
            · have J99 : ∀ x : Int64, wGr u i = x → vV K (gM Y) (ws_gue (wFind u) f) [(0, .ref (yA Y 0)), (1, .long (totM (w_out u) (w_n u))), (3, .int (nI a)), (4, .int (nI i))] [.long x, .int (nI i), .ref (yA Y 10)] 99 := by
                intro x hgv
                refine sM_gue 100 hE (by omega) dX5_applyGravity_99 rfl ?_
                refine v_iload_n 101 hE dX5_applyGravity_100 rfl rfl ?_
                refine v_aload_n 102 hE dX5_applyGravity_101 rfl rfl ?_
                refine gM_guess 105 hE f_0 f_2 dX5_applyGravity_102 rfl ?_
                refine v_iload 107 hE dX5_applyGravity_105 rfl rfl ?_
                refine lM_gue 108 hE (by omega) dX5_applyGravity_107 rfl ?_
                show vV K (gM Y) _ _ (.long (va_up f i x i) :: _) _
                rw [va_up_self]
                refine v_lconst 109 hE (v := 0) dX5_applyGravity_108 (by decide) rfl ?_
                refine v_lc_le 110 113 hE 117 dX5_applyGravity_109 dX5_applyGravity_110 (by decide) rfl rfl (fun c109 => ?_) (fun c109 => ?_)
                · refine v_iconst 118 hE (v := nI 0) dX5_applyGravity_117 (by decide) rfl ?_
                  refine v_iaddN 119 hE dX5_applyGravity_118 rfl ?_
                  refine v_istore_n 120 hE [_, _, _, _] dX5_applyGravity_119 rfl (by decide) rfl rfl ?_
                  refine v_iincN 123 hE [_, _, _, _] dX5_applyGravity_120 rfl (by decide) rfl rfl ?_
                  refine v_goto hE 40 dX5_applyGravity_123 (by decide) ?_
                  refine vV.sub [2, 3, 1, 0] rfl ?_
                  exact ih40 _ _ _ (by omega) (by have hgz : wGr u i = _ := hgv; simp [cntN, ha, hgz, c109]) (by rw [hf, ← mixN_s, hgv]) (by omega)
                · refine v_iconst 114 hE (v := nI 1) dX5_applyGravity_113 (by decide) rfl ?_
                  refine v_goto hE 118 dX5_applyGravity_114 (by decide) ?_
                  refine v_iaddN 119 hE dX5_applyGravity_118 rfl ?_
                  refine v_istore_n 120 hE [_, _, _, _] dX5_applyGravity_119 rfl (by decide) rfl rfl ?_
                  refine v_iincN 123 hE [_, _, _, _] dX5_applyGravity_120 rfl (by decide) rfl rfl ?_
                  refine v_goto hE 40 dX5_applyGravity_123 (by decide) ?_
                  refine vV.sub [2, 3, 1, 0] rfl ?_
                  exact ih40 _ _ _ (by omega) (by have hgz : wGr u i = _ := hgv; simp [cntN, ha, hgz, c109]) (by rw [hf, ← mixN_s, hgv]) (by omega)
              refine v_aload_n 48 hE dX5_applyGravity_47 rfl rfl ?_
              refine gM_guess 51 hE f_0 f_2 dX5_applyGravity_48 rfl ?_
              refine v_iload 53 hE dX5_applyGravity_51 rfl rfl ?_
              refine v_aload_n 54 hE dX5_applyGravity_53 rfl rfl ?_
              refine v_iload 56 hE dX5_applyGravity_54 rfl rfl ?_
              refine v_ciE 59 hE (v_runV 1 hE (vSub.self hE) (kX5_hasRoute _ Y (ws_gue (wFind u) f) _ (by omega) (wBit_lt hok (by omega))) gX5_applyGravity_X5_hasRoute rfl (by decide +kernel) rfl (q0 := 0) rfl rfl ⟨rfl, rfl, by decide, by decide⟩ rfl (Nat.le_of_ble_eq_true rfl) dX5_applyGravity_56) rfl ?_
              show vV K (gM Y) _ _ (.int (bI (wHas (wBit u) _)) :: _) _
              refine v_if_eqB 62 hE 98 dX5_applyGravity_59 (by decide) rfl (fun c59 => ?_) (fun c59 => ?_)
              · refine v_lconst 99 hE (v := 0) dX5_applyGravity_98 (by decide) rfl ?_
                exact J99 _ (by first | exact gravM_t c59 c64 | exact gravM_1 c59 | exact gravM_2 c64)
              · refine v_lload_n 63 hE dX5_applyGravity_62 rfl rfl ?_
                refine v_lconst 64 hE (v := 0) dX5_applyGravity_63 (by decide) rfl ?_
                refine v_lc_le 65 68 hE 98 dX5_applyGravity_64 dX5_applyGravity_65 (by decide) rfl rfl (fun c64 => ?_) (fun c64 => ?_)
                · refine v_lconst 99 hE (v := 0) dX5_applyGravity_98 (by decide) rfl ?_
                  exact J99 _ (by first | exact gravM_t c59 c64 | exact gravM_1 c59 | exact gravM_2 c64)
                · refine v_aload_n 69 hE dX5_applyGravity_68 rfl rfl ?_
                  refine gM_outOf 72 hE f_0 f_3 dX5_applyGravity_69 rfl ?_
                  refine v_iload 74 hE dX5_applyGravity_72 rfl rfl ?_
                  refine v_iconst 75 hE (v := nI 5) dX5_applyGravity_74 (by decide) rfl ?_
                  refine v_idivN 76 hE dX5_applyGravity_75 (by omega) (by omega) (by omega) rfl ?_
                  refine lM_out 77 hE (by omega) dX5_applyGravity_76 rfl ?_
                  show vV K (gM Y) _ _ (.int ((w_out u) _) :: _) _
                  refine v_i2l 78 hE dX5_applyGravity_77 rfl ?_
                  refine v_aload_n 79 hE dX5_applyGravity_78 rfl rfl ?_
                  refine gM_inOf 82 hE f_0 f_4 dX5_applyGravity_79 rfl ?_
                  refine v_iload 84 hE dX5_applyGravity_82 rfl rfl ?_
                  refine v_iconst 85 hE (v := nI 5) dX5_applyGravity_84 (by decide) rfl ?_
                  refine v_iremN 86 hE dX5_applyGravity_85 (by omega) (by omega) (by omega) rfl ?_
                  refine lM_inn 87 hE (by omega) dX5_applyGravity_86 rfl ?_
                  show vV K (gM Y) _ _ (.int ((w_inn u) _) :: _) _
                  refine v_i2l 88 hE dX5_applyGravity_87 rfl ?_
                  refine v_lmul 89 hE dX5_applyGravity_88 rfl ?_
                  refine v_ldc2 92 hE f_5 dX5_applyGravity_89 rfl ?_
                  refine v_lmul 93 hE dX5_applyGravity_92 rfl ?_
                  refine v_lload_n 94 hE dX5_applyGravity_93 rfl rfl ?_
                  refine v_ldiv 95 hE dX5_applyGravity_94 (fun q => c64 (by rw [q]; decide)) rfl ?_
                  refine v_goto hE 99 dX5_applyGravity_95 (by decide) ?_
                  exact J99 _ (by first | exact gravM_t c59 c64 | exact gravM_1 c59 | exact gravM_2 c64)
        exact L40 (25 + 1) 0 0 (w_gue u) (by omega) rfl (mixN_0 _ _).symm (by omega)
      · refine v_lload_n 21 hE dX5_applyGravity_20 rfl rfl ?_
        refine v_aload_n 22 hE dX5_applyGravity_21 rfl rfl ?_
        refine gM_outOf 25 hE f_0 f_3 dX5_applyGravity_22 rfl ?_
        refine v_iload 27 hE dX5_applyGravity_25 rfl rfl ?_
        refine lM_out 28 hE (by omega) dX5_applyGravity_27 rfl ?_
        show vV K (gM Y) _ _ (.int ((w_out u) _) :: _) _
        refine v_i2l 29 hE dX5_applyGravity_28 rfl ?_
        refine v_ladd 30 hE dX5_applyGravity_29 rfl ?_
        refine v_lstore_n 31 hE [_, _, _, _] dX5_applyGravity_30 rfl (by decide) rfl rfl ?_
        refine v_iincN 34 hE [_, _, _, _] dX5_applyGravity_31 rfl (by decide) rfl rfl ?_
        refine v_goto hE 11 dX5_applyGravity_34 (by decide) ?_
        refine vV.sub [2, 1, 3, 0] rfl ?_
        exact ih11 _ _ (by omega) (by rw [hw]; rfl) (by omega)
  exact L11 (w_n u + 1) _ _ (by omega) rfl (by omega)
set_option maxRecDepth 100000 in
set_option maxHeartbeats 4000000 in
theorem kX5_keeps (l : Launch) (Y : yG) (u : MS)  (hok : okM u) : mV l (gM Y) yX5_keeps wsX5_keeps ({ frames := 4, cells := 0, slots := 0, locals := 93 }) [.ref (yA Y 0)] u (wKeep u) := by
  obtain ⟨hn2, hn, hm, hsrc, htgt, hmet⟩ := id hok
  refine mV_of (cc := cX5_keeps) (nL := 2) (own := RX5) (by decide) rfl rfl (fun v => cM_geo Y _ v) (Nat.le_of_ble_eq_true rfl) ?_
  intro K hKl hE hret
  have f_0 : ∀ w ∈ u_ws RX5 TX5 20, w ∈ wsX5_keeps := by decide +kernel
  have f_1 : Cond.fieldLink RX5 57 "TrafficMatrixModel" "before" "[J" ∈ wsX5_keeps := by decide +kernel
  have f_2 : Cond.fieldLink RX5 38 "TrafficMatrixModel" "guess" "[J" ∈ wsX5_keeps := by decide +kernel
  show vV K (gM Y) u [(0, .ref (yA Y 0))] [] 0
  refine v_aload_n 1 hE dX5_keeps_0 rfl rfl ?_
  refine v_cvE 4 hE (v_runV 0 hE (vSub.self hE) (kX5_findRoutes _ Y _ hok) gX5_keeps_X5_findRoutes rfl (by decide +kernel) rfl (q0 := 0) rfl rfl ⟨rfl, rfl, by decide, by decide⟩ rfl (Nat.le_of_ble_eq_true rfl) dX5_keeps_1) rfl ?_
  refine v_iconst 5 hE (v := nI 0) dX5_keeps_4 (by decide) rfl ?_
  refine v_istore_n 6 hE [_, _] dX5_keeps_5 rfl (by decide) rfl rfl ?_
  refine vV.sub [1, 0] rfl ?_
  have L6 : ∀ (n6 : Nat) (i : Nat) (f : Nat → Int64) (g : Nat → Int64), (i ≤ 25) → (f = mixN (w_bef u) (w_gue u) i) → (g = mixN (w_gue u) (keepF (wHas (wBit u)) (w_gue u)) i) → 25 + 1 ≤ i + n6 → vV K (gM Y) (ws_gue (ws_bef (wFind u) f) g) [(0, .ref (yA Y 0)), (1, .int (nI i))] [] 6 := by
    intro n6
    induction n6 with
    | zero => intro i f g hi hf hg hfu6; exact absurd hfu6 (by omega)
    | succ n6 ih6 =>
      intro i f g hi hf hg hfu6
      refine v_iload_n 7 hE dX5_keeps_6 rfl rfl ?_
      refine v_bipush 9 hE (v := nI 25) dX5_keeps_7 (by decide) rfl ?_
      refine v_ic_geN 12 hE 54 dX5_keeps_9 (by decide) (by omega) (by omega) rfl (fun c9 => ?_) (fun c9 => ?_)
      · exact (hret _ _ dX5_keeps_54).cast (by rw [hf, hg, show i = 25 by omega]) rfl
      · have hgi : g i = w_gue u i := by rw [hg]; exact mixN_ge (Nat.le_refl i)
        refine v_aload_n 13 hE dX5_keeps_12 rfl rfl ?_
        refine gM_before 16 hE f_0 f_1 dX5_keeps_13 rfl ?_
        refine v_iload_n 17 hE dX5_keeps_16 rfl rfl ?_
        refine v_aload_n 18 hE dX5_keeps_17 rfl rfl ?_
        refine gM_guess 21 hE f_0 f_2 dX5_keeps_18 rfl ?_
        refine v_iload_n 22 hE dX5_keeps_21 rfl rfl ?_
        refine lM_gue 23 hE (by omega) dX5_keeps_22 rfl ?_
        show vV K (gM Y) _ _ (.long ((g) _) :: _) _
        refine sM_bef 24 hE (by omega) dX5_keeps_23 rfl ?_
        refine v_aload_n 25 hE dX5_keeps_24 rfl rfl ?_
        refine gM_guess 28 hE f_0 f_2 dX5_keeps_25 rfl ?_
        refine v_iload_n 29 hE dX5_keeps_28 rfl rfl ?_
        refine v_aload_n 30 hE dX5_keeps_29 rfl rfl ?_
        refine v_iload_n 31 hE dX5_keeps_30 rfl rfl ?_
        refine v_ciE 34 hE (v_runV 1 hE (vSub.self hE) (kX5_hasRoute _ Y (ws_gue (ws_bef (wFind u) (va_up f i (g i))) g) _ (by omega) (wBit_lt hok (by omega))) gX5_keeps_X5_hasRoute rfl (by decide +kernel) rfl (q0 := 0) rfl rfl ⟨rfl, rfl, by decide, by decide⟩ rfl (Nat.le_of_ble_eq_true rfl) dX5_keeps_31) rfl ?_
        show vV K (gM Y) _ _ (.int (bI (wHas (wBit u) _)) :: _) _
        refine v_if_eqB 37 hE 46 dX5_keeps_34 (by decide) rfl (fun c34 => ?_) (fun c34 => ?_)
        · refine v_lconst 47 hE (v := 0) dX5_keeps_46 (by decide) rfl ?_
          refine sM_gue 48 hE (by omega) dX5_keeps_47 rfl ?_
          refine v_iincN 51 hE [_, _] dX5_keeps_48 rfl (by decide) rfl rfl ?_
          refine v_goto hE 6 dX5_keeps_51 (by decide) ?_
          refine vV.sub [1, 0] rfl ?_
          exact ih6 _ _ _ (by omega) (by rw [hf, hgi]; exact mixN_s _ _ _) (by rw [show va_up g i _ = va_up g i (keepF (wHas (wBit u)) (w_gue u) i) by unfold keepF; rw [c34]; first | rfl | (rw [hgi]; rfl)]; rw [hg]; exact mixN_s _ _ _) (by omega)
        · refine v_aload_n 38 hE dX5_keeps_37 rfl rfl ?_
          refine gM_guess 41 hE f_0 f_2 dX5_keeps_38 rfl ?_
          refine v_iload_n 42 hE dX5_keeps_41 rfl rfl ?_
          refine lM_gue 43 hE (by omega) dX5_keeps_42 rfl ?_
          show vV K (gM Y) _ _ (.long ((g) _) :: _) _
          refine v_goto hE 47 dX5_keeps_43 (by decide) ?_
          refine sM_gue 48 hE (by omega) dX5_keeps_47 rfl ?_
          refine v_iincN 51 hE [_, _] dX5_keeps_48 rfl (by decide) rfl rfl ?_
          refine v_goto hE 6 dX5_keeps_51 (by decide) ?_
          refine vV.sub [1, 0] rfl ?_
          exact ih6 _ _ _ (by omega) (by rw [hf, hgi]; exact mixN_s _ _ _) (by rw [show va_up g i _ = va_up g i (keepF (wHas (wBit u)) (w_gue u) i) by unfold keepF; rw [c34]; first | rfl | (rw [hgi]; rfl)]; rw [hg]; exact mixN_s _ _ _) (by omega)
  exact L6 (25 + 1) 0 (w_bef u) (w_gue u) (by omega) (mixN_0 _ _).symm (mixN_0 _ _).symm (by omega)
set_option maxRecDepth 100000 in
set_option maxHeartbeats 4000000 in
theorem kX5_changed (l : Launch) (Y : yG) (u : MS)   : mI l (gM Y) yX5_changed wsX5_changed ({ frames := 0, cells := 0, slots := 0, locals := 0 }) [.ref (yA Y 0)] u (nI (chgN (w_gue u) (w_bef u))) u := by
  refine mI_of (cc := cX5_changed) (nL := 3) (own := RX5) (by decide) rfl rfl (fun v => cM_geo Y _ v) (Nat.le_of_ble_eq_true rfl) ?_
  intro K hKl hE hret
  have f_0 : ∀ w ∈ u_ws RX5 TX5 20, w ∈ wsX5_changed := by decide +kernel
  have f_1 : Cond.fieldLink RX5 38 "TrafficMatrixModel" "guess" "[J" ∈ wsX5_changed := by decide +kernel
  have f_2 : Cond.fieldLink RX5 57 "TrafficMatrixModel" "before" "[J" ∈ wsX5_changed := by decide +kernel
  show vV K (gM Y) u [(0, .ref (yA Y 0))] [] 0
  refine v_iconst 1 hE (v := nI 0) dX5_changed_0 (by decide) rfl ?_
  refine v_istore_n 2 hE [_, _] dX5_changed_1 rfl (by decide) rfl rfl ?_
  refine v_iconst 3 hE (v := nI 0) dX5_changed_2 (by decide) rfl ?_
  refine v_istore_n 4 hE [_, _, _] dX5_changed_3 rfl (by decide) rfl rfl ?_
  refine vV.sub [2, 1, 0] rfl ?_
  have L4 : ∀ (n4 : Nat) (a : Nat) (i : Nat), (i ≤ 25) → (a = cntN (fun s => !decide (w_gue u s = w_bef u s)) i) → 25 + 1 ≤ i + n4 → vV K (gM Y) u [(0, .ref (yA Y 0)), (1, .int (nI a)), (2, .int (nI i))] [] 4 := by
    intro n4
    induction n4 with
    | zero => intro a i hi ha hfu4; exact absurd hfu4 (by omega)
    | succ n4 ih4 =>
      intro a i hi ha hfu4
      refine v_iload_n 5 hE dX5_changed_4 rfl rfl ?_
      refine v_bipush 7 hE (v := nI 25) dX5_changed_5 (by decide) rfl ?_
      refine v_ic_geN 10 hE 40 dX5_changed_7 (by decide) (by omega) (by omega) rfl (fun c7 => ?_) (fun c7 => ?_)
      · refine v_iload_n 41 hE dX5_changed_40 rfl rfl ?_
        exact (hret _ _ dX5_changed_41).cast rfl (rI (by rw [ha, show i = 25 by omega]; rfl))
      · refine v_iload_n 11 hE dX5_changed_10 rfl rfl ?_
        refine v_aload_n 12 hE dX5_changed_11 rfl rfl ?_
        refine gM_guess 15 hE f_0 f_1 dX5_changed_12 rfl ?_
        refine v_iload_n 16 hE dX5_changed_15 rfl rfl ?_
        refine lM_gue 17 hE (by omega) dX5_changed_16 rfl ?_
        refine v_aload_n 18 hE dX5_changed_17 rfl rfl ?_
        refine gM_before 21 hE f_0 f_2 dX5_changed_18 rfl ?_
        refine v_iload_n 22 hE dX5_changed_21 rfl rfl ?_
        refine lM_bef 23 hE (by omega) dX5_changed_22 rfl ?_
        refine v_lc_ne 24 27 hE 31 dX5_changed_23 dX5_changed_24 (by decide) rfl rfl (fun c23 => ?_) (fun c23 => ?_)
        · refine v_iconst 32 hE (v := nI 1) dX5_changed_31 (by decide) rfl ?_
          refine v_iaddN 33 hE dX5_changed_32 rfl ?_
          refine v_istore_n 34 hE [_, _, _] dX5_changed_33 rfl (by decide) rfl rfl ?_
          refine v_iincN 37 hE [_, _, _] dX5_changed_34 rfl (by decide) rfl rfl ?_
          refine v_goto hE 4 dX5_changed_37 (by decide) ?_
          refine vV.sub [2, 1, 0] rfl ?_
          exact ih4 _ _ (by omega) (by simp [cntN, ha, c23]) (by omega)
        · refine v_iconst 28 hE (v := nI 0) dX5_changed_27 (by decide) rfl ?_
          refine v_goto hE 32 dX5_changed_28 (by decide) ?_
          refine v_iaddN 33 hE dX5_changed_32 rfl ?_
          refine v_istore_n 34 hE [_, _, _] dX5_changed_33 rfl (by decide) rfl rfl ?_
          refine v_iincN 37 hE [_, _, _] dX5_changed_34 rfl (by decide) rfl rfl ?_
          refine v_goto hE 4 dX5_changed_37 (by decide) ?_
          refine vV.sub [2, 1, 0] rfl ?_
          exact ih4 _ _ (by omega) (by simp [cntN, ha, c23]) (by omega)
  exact L4 (25 + 1) _ _ (by omega) rfl (by omega)
set_option maxRecDepth 100000 in
set_option maxHeartbeats 4000000 in
theorem kX5_isOf (l : Launch) (Y : yG) (u : MS) (p so k : Nat) (hp : p < 25) (hso : so ≤ 2) (hk : k < 12) (hb : ∀ s, s < 25 → w_bits u s < 4096) : mI l (gM Y) yX5_isOf wsX5_isOf ({ frames := 1, cells := 0, slots := 0, locals := 22 }) [.ref (yA Y 0), .int (nI p), .int (nI so), .int (nI k)] u (bI (ofF (wUses (w_bits u)) so k p)) u := by
  refine mB_of (cc := cX5_isOf) (nL := 4) (own := RX5) (by decide) rfl rfl (fun v => cM_geo Y _ v) (Nat.le_of_ble_eq_true rfl) ?_
  intro K hKl hE hret
  show vV K (gM Y) u [(0, .ref (yA Y 0)), (1, .int (nI p)), (2, .int (nI so)), (3, .int (nI k))] [] 0
  refine v_iload_n 1 hE dX5_isOf_0 rfl rfl ?_
  refine v_if_neN 4 hE 19 dX5_isOf_1 (by decide) (by omega) rfl (fun c1 => ?_) (fun c1 => ?_)
  · refine v_iload_n 20 hE dX5_isOf_19 rfl rfl ?_
    refine v_iconst 21 hE (v := nI 1) dX5_isOf_20 (by decide) rfl ?_
    refine v_ic_neN 24 hE 39 dX5_isOf_21 (by decide) (by omega) (by omega) rfl (fun c21 => ?_) (fun c21 => ?_)
    · refine v_aload_n 40 hE dX5_isOf_39 rfl rfl ?_
      refine v_iload_n 41 hE dX5_isOf_40 rfl rfl ?_
      refine v_iload_n 42 hE dX5_isOf_41 rfl rfl ?_
      refine v_ciE 45 hE (v_runV 2 hE (vSub.self hE) (kX5_uses _ Y _ _ _ (by omega) (by omega) (hb _ (by omega))) gX5_isOf_X5_uses rfl (by decide +kernel) rfl (q0 := 0) rfl rfl ⟨rfl, rfl, by decide, by decide⟩ rfl (Nat.le_of_ble_eq_true rfl) dX5_isOf_42) rfl ?_
      exact (hret _ _ dX5_isOf_45).cast rfl (rI (by simp [ofF, c1, c21]))
    · refine v_iload_n 25 hE dX5_isOf_24 rfl rfl ?_
      refine v_iconst 26 hE (v := nI 5) dX5_isOf_25 (by decide) rfl ?_
      refine v_iremN 27 hE dX5_isOf_26 (by omega) (by omega) (by omega) rfl ?_
      refine v_iload_n 28 hE dX5_isOf_27 rfl rfl ?_
      refine v_ic_neN 31 hE 35 dX5_isOf_28 (by decide) (by omega) (by omega) rfl (fun c28 => ?_) (fun c28 => ?_)
      · refine v_iconst 36 hE (v := nI 0) dX5_isOf_35 (by decide) rfl ?_
        refine v_goto hE 45 dX5_isOf_36 (by decide) ?_
        exact (hret _ _ dX5_isOf_45).cast rfl (rB0 (by simp [ofF, c1, c21, c28]))
      · refine v_iconst 32 hE (v := nI 1) dX5_isOf_31 (by decide) rfl ?_
        refine v_goto hE 45 dX5_isOf_32 (by decide) ?_
        exact (hret _ _ dX5_isOf_45).cast rfl (rB1 (by simp [ofF, c1, c21, c28]))
  · refine v_iload_n 5 hE dX5_isOf_4 rfl rfl ?_
    refine v_iconst 6 hE (v := nI 5) dX5_isOf_5 (by decide) rfl ?_
    refine v_idivN 7 hE dX5_isOf_6 (by omega) (by omega) (by omega) rfl ?_
    refine v_iload_n 8 hE dX5_isOf_7 rfl rfl ?_
    refine v_ic_neN 11 hE 15 dX5_isOf_8 (by decide) (by omega) (by omega) rfl (fun c8 => ?_) (fun c8 => ?_)
    · refine v_iconst 16 hE (v := nI 0) dX5_isOf_15 (by decide) rfl ?_
      refine v_goto hE 45 dX5_isOf_16 (by decide) ?_
      exact (hret _ _ dX5_isOf_45).cast rfl (rB0 (by simp [ofF, c1, c8]))
    · refine v_iconst 12 hE (v := nI 1) dX5_isOf_11 (by decide) rfl ?_
      refine v_goto hE 45 dX5_isOf_12 (by decide) ?_
      exact (hret _ _ dX5_isOf_45).cast rfl (rB1 (by simp [ofF, c1, c8]))
set_option maxRecDepth 100000 in
set_option maxHeartbeats 4000000 in
theorem kX5_sumOf (l : Launch) (Y : yG) (u : MS) (so k : Nat) (hso : so ≤ 2) (hk : k < 12) (hb : ∀ s, s < 25 → w_bits u s < 4096) : mL l (gM Y) yX5_sumOf wsX5_sumOf ({ frames := 2, cells := 0, slots := 0, locals := 45 }) [.ref (yA Y 0), .int (nI so), .int (nI k)] u (sumM (wUses (w_bits u)) (w_gue u) so k) u := by
  refine mL_of (cc := cX5_sumOf) (nL := 6) (own := RX5) (by decide) rfl rfl (fun v => cM_geo Y _ v) (Nat.le_of_ble_eq_true rfl) ?_
  intro K hKl hE hret
  have f_0 : ∀ w ∈ u_ws RX5 TX5 20, w ∈ wsX5_sumOf := by decide +kernel
  have f_1 : Cond.fieldLink RX5 38 "TrafficMatrixModel" "guess" "[J" ∈ wsX5_sumOf := by decide +kernel
  show vV K (gM Y) u [(0, .ref (yA Y 0)), (1, .int (nI so)), (2, .int (nI k))] [] 0
  refine v_lconst 1 hE (v := 0) dX5_sumOf_0 (by decide) rfl ?_
  refine v_lstore_n 2 hE [_, _, _, _] dX5_sumOf_1 rfl (by decide) rfl rfl ?_
  refine v_iconst 3 hE (v := nI 0) dX5_sumOf_2 (by decide) rfl ?_
  refine v_istore 5 hE [_, _, _, _, _] dX5_sumOf_3 (by decide) rfl rfl ?_
  refine vV.sub [2, 3, 4, 1, 0] rfl ?_
  have L5 : ∀ (n5 : Nat) (w : Int64) (i : Nat), (i ≤ 25) → (w = sumL (fun p => if ofF (wUses (w_bits u)) so k p then w_gue u p else 0) i) → 25 + 1 ≤ i + n5 → vV K (gM Y) u [(0, .ref (yA Y 0)), (1, .int (nI so)), (2, .int (nI k)), (3, .long w), (5, .int (nI i))] [] 5 := by
    intro n5
    induction n5 with
    | zero => intro w i hi hw hfu5; exact absurd hfu5 (by omega)
    | succ n5 ih5 =>
      intro w i hi hw hfu5
      refine v_iload 7 hE dX5_sumOf_5 rfl rfl ?_
      refine v_bipush 9 hE (v := nI 25) dX5_sumOf_7 (by decide) rfl ?_
      refine v_ic_geN 12 hE 43 dX5_sumOf_9 (by decide) (by omega) (by omega) rfl (fun c9 => ?_) (fun c9 => ?_)
      · refine v_lload_n 44 hE dX5_sumOf_43 rfl rfl ?_
        exact (hret _ _ dX5_sumOf_44).cast rfl (rL (by rw [hw, show i = 25 by omega]; rfl))
      · refine v_lload_n 13 hE dX5_sumOf_12 rfl rfl ?_
        refine v_aload_n 14 hE dX5_sumOf_13 rfl rfl ?_
        refine v_iload 16 hE dX5_sumOf_14 rfl rfl ?_
        refine v_iload_n 17 hE dX5_sumOf_16 rfl rfl ?_
        refine v_iload_n 18 hE dX5_sumOf_17 rfl rfl ?_
        refine v_ciE 21 hE (v_runV 3 hE (vSub.self hE) (kX5_isOf _ Y _ _ _ _ (by omega) (by omega) (by omega) hb) gX5_sumOf_X5_isOf rfl (by decide +kernel) rfl (q0 := 0) rfl rfl ⟨rfl, rfl, by decide, by decide⟩ rfl (Nat.le_of_ble_eq_true rfl) dX5_sumOf_18) rfl ?_
        refine v_if_eqB 24 hE 34 dX5_sumOf_21 (by decide) rfl (fun c21 => ?_) (fun c21 => ?_)
        · refine v_lconst 35 hE (v := 0) dX5_sumOf_34 (by decide) rfl ?_
          refine v_ladd 36 hE dX5_sumOf_35 rfl ?_
          refine v_lstore_n 37 hE [_, _, _, _, _] dX5_sumOf_36 rfl (by decide) rfl rfl ?_
          refine v_iincN 40 hE [_, _, _, _, _] dX5_sumOf_37 rfl (by decide) rfl rfl ?_
          refine v_goto hE 5 dX5_sumOf_40 (by decide) ?_
          refine vV.sub [2, 3, 4, 1, 0] rfl ?_
          exact ih5 _ _ (by omega) (by simp [sumL, hw, c21]) (by omega)
        · refine v_aload_n 25 hE dX5_sumOf_24 rfl rfl ?_
          refine gM_guess 28 hE f_0 f_1 dX5_sumOf_25 rfl ?_
          refine v_iload 30 hE dX5_sumOf_28 rfl rfl ?_
          refine lM_gue 31 hE (by omega) dX5_sumOf_30 rfl ?_
          refine v_goto hE 35 dX5_sumOf_31 (by decide) ?_
          refine v_ladd 36 hE dX5_sumOf_35 rfl ?_
          refine v_lstore_n 37 hE [_, _, _, _, _] dX5_sumOf_36 rfl (by decide) rfl rfl ?_
          refine v_iincN 40 hE [_, _, _, _, _] dX5_sumOf_37 rfl (by decide) rfl rfl ?_
          refine v_goto hE 5 dX5_sumOf_40 (by decide) ?_
          refine vV.sub [2, 3, 4, 1, 0] rfl ?_
          exact ih5 _ _ (by omega) (by simp [sumL, hw, c21]) (by omega)
  exact L5 (25 + 1) _ _ (by omega) rfl (by omega)
set_option maxRecDepth 100000 in
set_option maxHeartbeats 4000000 in
theorem kX5_fits (l : Launch) (Y : yG) (u : MS) (so k : Nat) (g : Int32) (hso : so ≤ 2) (hk : k < 12) (hb : ∀ s, s < 25 → w_bits u s < 4096) : mV l (gM Y) yX5_fits wsX5_fits ({ frames := 3, cells := 0, slots := 0, locals := 70 }) [.ref (yA Y 0), .int (nI so), .int (nI k), .int g] u (ws_gue u (fitM (wUses (w_bits u)) (w_gue u) so k g)) := by
  refine mV_of (cc := cX5_fits) (nL := 7) (own := RX5) (by decide) rfl rfl (fun v => cM_geo Y _ v) (Nat.le_of_ble_eq_true rfl) ?_
  intro K hKl hE hret
  have f_0 : ∀ w ∈ u_ws RX5 TX5 20, w ∈ wsX5_fits := by decide +kernel
  have f_1 : Cond.fieldLink RX5 38 "TrafficMatrixModel" "guess" "[J" ∈ wsX5_fits := by decide +kernel
  have f_2 : Jvm.Cond.constantLong RX5 159 1000 ∈ wsX5_fits := by decide +kernel
  show vV K (gM Y) u [(0, .ref (yA Y 0)), (1, .int (nI so)), (2, .int (nI k)), (3, .int g)] [] 0
  refine v_aload_n 1 hE dX5_fits_0 rfl rfl ?_
  refine v_iload_n 2 hE dX5_fits_1 rfl rfl ?_
  refine v_iload_n 3 hE dX5_fits_2 rfl rfl ?_
  refine v_clE 6 hE (v_runV 2 hE (vSub.self hE) (kX5_sumOf _ Y _ _ _ (by omega) (by omega) hb) gX5_fits_X5_sumOf rfl (by decide +kernel) rfl (q0 := 0) rfl rfl ⟨rfl, rfl, by decide, by decide⟩ rfl (Nat.le_of_ble_eq_true rfl) dX5_fits_3) rfl ?_
  refine v_lstore 8 hE [_, _, _, _, _] dX5_fits_6 (by decide) rfl rfl ?_
  refine v_iconst 9 hE (v := nI 0) dX5_fits_8 (by decide) rfl ?_
  refine v_istore 11 hE [_, _, _, _, _, _] dX5_fits_9 (by decide) rfl rfl ?_
  refine vV.sub [2, 3, 4, 5, 1, 0] rfl ?_
  have L11 : ∀ (n11 : Nat) (i : Nat) (f : Nat → Int64), (i ≤ 25) → (((sumM (wUses (w_bits u)) (w_gue u) so k) ≤ 0 ∧ f = w_gue u) ∨ (¬ (sumM (wUses (w_bits u)) (w_gue u) so k) ≤ 0 ∧ f = mixN (w_gue u) (fitG (wUses (w_bits u)) (w_gue u) so k g (sumM (wUses (w_bits u)) (w_gue u) so k)) i)) → 25 + 1 ≤ i + n11 → vV K (gM Y) (ws_gue u f) [(0, .ref (yA Y 0)), (1, .int (nI so)), (2, .int (nI k)), (3, .int g), (4, .long (sumM (wUses (w_bits u)) (w_gue u) so k)), (6, .int (nI i))] [] 11 := by
    intro n11
    induction n11 with
    | zero => intro i f hi hf hfu11; exact absurd hfu11 (by omega)
    | succ n11 ih11 =>
      intro i f hi hf hfu11
      refine v_iload 13 hE dX5_fits_11 rfl rfl ?_
      refine v_bipush 15 hE (v := nI 25) dX5_fits_13 (by decide) rfl ?_
      refine v_ic_geN 18 hE 76 dX5_fits_15 (by decide) (by omega) (by omega) rfl (fun c15 => ?_) (fun c15 => ?_)
      · exact (hret _ _ dX5_fits_76).cast (by rw [show fitM (wUses (w_bits u)) (w_gue u) so k g = f from by unfold fitM; rcases hf with q | q; (rw [if_pos q.1, q.2]); (rw [if_neg q.1, q.2]; first | (exact absurd c21 q.1) | (rw [show i = 25 by omega]))]) rfl
      · refine v_lload 20 hE dX5_fits_18 rfl rfl ?_
        refine v_lconst 21 hE (v := 0) dX5_fits_20 (by decide) rfl ?_
        refine v_lc_le 22 25 hE 76 dX5_fits_21 dX5_fits_22 (by decide) rfl rfl (fun c21 => ?_) (fun c21 => ?_)
        · exact (hret _ _ dX5_fits_76).cast (by rw [show fitM (wUses (w_bits u)) (w_gue u) so k g = f from by unfold fitM; rcases hf with q | q; (rw [if_pos q.1, q.2]); (rw [if_neg q.1, q.2]; first | (exact absurd c21 q.1) | (rw [show i = 25 by omega]))]) rfl
        · have hff : f = mixN (w_gue u) (fitG (wUses (w_bits u)) (w_gue u) so k g (sumM (wUses (w_bits u)) (w_gue u) so k)) i := hf.elim (fun q => absurd q.1 c21) (fun q => q.2)
          refine v_aload_n 26 hE dX5_fits_25 rfl rfl ?_
          refine gM_guess 29 hE f_0 f_1 dX5_fits_26 rfl ?_
          refine v_iload 31 hE dX5_fits_29 rfl rfl ?_
          refine v_aload_n 32 hE dX5_fits_31 rfl rfl ?_
          refine v_iload 34 hE dX5_fits_32 rfl rfl ?_
          refine v_iload_n 35 hE dX5_fits_34 rfl rfl ?_
          refine v_iload_n 36 hE dX5_fits_35 rfl rfl ?_
          refine v_ciE 39 hE (v_runV 3 hE (vSub.self hE) (kX5_isOf _ Y (ws_gue u f) _ _ _ (by omega) (by omega) (by omega) hb) gX5_fits_X5_isOf rfl (by decide +kernel) rfl (q0 := 0) rfl rfl ⟨rfl, rfl, by decide, by decide⟩ rfl (Nat.le_of_ble_eq_true rfl) dX5_fits_36) rfl ?_
          show vV K (gM Y) _ _ (.int (bI (ofF (wUses (w_bits u)) _ _ _)) :: _) _
          refine v_if_eqB 42 hE 62 dX5_fits_39 (by decide) rfl (fun c39 => ?_) (fun c39 => ?_)
          · refine v_aload_n 63 hE dX5_fits_62 rfl rfl ?_
            refine gM_guess 66 hE f_0 f_1 dX5_fits_63 rfl ?_
            refine v_iload 68 hE dX5_fits_66 rfl rfl ?_
            refine lM_gue 69 hE (by omega) dX5_fits_68 rfl ?_
            show vV K (gM Y) _ _ (.long ((f) _) :: _) _
            rw [show f i = w_gue u i by rw [hff]; exact mixN_ge (Nat.le_refl i)]
            refine sM_gue 70 hE (by omega) dX5_fits_69 rfl ?_
            refine v_iincN 73 hE [_, _, _, _, _, _] dX5_fits_70 rfl (by decide) rfl rfl ?_
            refine v_goto hE 11 dX5_fits_73 (by decide) ?_
            refine vV.sub [1, 2, 3, 4, 5, 0] rfl ?_
            exact ih11 _ _ (by omega) (Or.inr ⟨c21, by rw [hff, ← mixN_s]; congr 1; unfold fitG; rw [c39]; first | rfl | (rw [mixN_ge (Nat.le_refl i)]; rfl)⟩) (by omega)
          · refine v_aload_n 43 hE dX5_fits_42 rfl rfl ?_
            refine gM_guess 46 hE f_0 f_1 dX5_fits_43 rfl ?_
            refine v_iload 48 hE dX5_fits_46 rfl rfl ?_
            refine lM_gue 49 hE (by omega) dX5_fits_48 rfl ?_
            show vV K (gM Y) _ _ (.long ((f) _) :: _) _
            rw [show f i = w_gue u i by rw [hff]; exact mixN_ge (Nat.le_refl i)]
            refine v_iload_n 50 hE dX5_fits_49 rfl rfl ?_
            refine v_i2l 51 hE dX5_fits_50 rfl ?_
            refine v_lmul 52 hE dX5_fits_51 rfl ?_
            refine v_ldc2 55 hE f_2 dX5_fits_52 rfl ?_
            refine v_lmul 56 hE dX5_fits_55 rfl ?_
            refine v_lload 58 hE dX5_fits_56 rfl rfl ?_
            refine v_ldiv 59 hE dX5_fits_58 (fun q => c21 (by rw [q]; decide)) rfl ?_
            refine v_goto hE 69 dX5_fits_59 (by decide) ?_
            refine sM_gue 70 hE (by omega) dX5_fits_69 rfl ?_
            refine v_iincN 73 hE [_, _, _, _, _, _] dX5_fits_70 rfl (by decide) rfl rfl ?_
            refine v_goto hE 11 dX5_fits_73 (by decide) ?_
            refine vV.sub [1, 2, 3, 4, 5, 0] rfl ?_
            exact ih11 _ _ (by omega) (Or.inr ⟨c21, by rw [hff, ← mixN_s]; congr 1; unfold fitG; rw [c39]; first | rfl | (rw [mixN_ge (Nat.le_refl i)]; rfl)⟩) (by omega)
  exact L11 (25 + 1) 0 (w_gue u) (by omega) (if h : (sumM (wUses (w_bits u)) (w_gue u) so k) ≤ 0 then Or.inl ⟨h, rfl⟩ else Or.inr ⟨h, (mixN_0 _ _).symm⟩) (by omega)
set_option maxRecDepth 100000 in
set_option maxHeartbeats 4000000 in
theorem kX5_fitTotals (l : Launch) (Y : yG) (u : MS) (k : Int32) (hok : okM u) : mI l (gM Y) yX5_fitTotals wsX5_fitTotals ({ frames := 5, cells := 0, slots := 0, locals := 114 }) [.ref (yA Y 0), .int k] u ((bFitT u k).1) (bFitT u k).2 := by
  obtain ⟨hn2, hn, hm, hsrc, htgt, hmet⟩ := id hok
  refine mI_of (cc := cX5_fitTotals) (nL := 4) (own := RX5) (by decide) rfl rfl (fun v => cM_geo Y _ v) (Nat.le_of_ble_eq_true rfl) ?_
  intro K hKl hE hret
  have f_0 : ∀ w ∈ u_ws RX5 TX5 20, w ∈ wsX5_fitTotals := by decide +kernel
  have f_1 : Cond.fieldLink RX5 60 "TrafficMatrixModel" "nodes" "I" ∈ wsX5_fitTotals := by decide +kernel
  have f_2 : Cond.fieldLink RX5 28 "TrafficMatrixModel" "inOf" "[I" ∈ wsX5_fitTotals := by decide +kernel
  have f_3 : Cond.fieldLink RX5 25 "TrafficMatrixModel" "outOf" "[I" ∈ wsX5_fitTotals := by decide +kernel
  show vV K (gM Y) u [(0, .ref (yA Y 0)), (1, .int k)] [] 0
  refine v_iload_n 1 hE dX5_fitTotals_0 rfl rfl ?_
  refine v_iconst 2 hE (v := nI 1) dX5_fitTotals_1 (by decide) rfl ?_
  refine v_bipush 4 hE (v := nI 50) dX5_fitTotals_2 (by decide) rfl ?_
  refine v_ciE 7 hE (v_runS 3 hE (vSub.self hE) (kX5_within _ Y _ _ _ _) gX5_fitTotals_X5_within rfl (by decide +kernel) rfl ⟨rfl, rfl, by decide, by decide⟩ rfl (Nat.le_of_ble_eq_true rfl) dX5_fitTotals_4) rfl ?_
  refine v_if_neB 10 hE 13 dX5_fitTotals_7 (by decide) rfl (fun c7 => ?_) (fun c7 => ?_)
  · have c7b : isIn 1 50 k = true := c7
    obtain ⟨j, hj1, hj50, rfl⟩ := isIn_t (by decide) (by decide) c7b
    have hjx := ndx_nI (k := j) (by omega)
    refine v_aload_n 14 hE dX5_fitTotals_13 rfl rfl ?_
    refine v_cvE 17 hE (v_runV 0 hE (vSub.self hE) (kX5_keeps _ Y _ hok) gX5_fitTotals_X5_keeps rfl (by decide +kernel) rfl (q0 := 0) rfl rfl ⟨rfl, rfl, by decide, by decide⟩ rfl (Nat.le_of_ble_eq_true rfl) dX5_fitTotals_14) rfl ?_
    refine v_iconst 18 hE (v := nI 0) dX5_fitTotals_17 (by decide) rfl ?_
    refine v_istore_n 19 hE [_, _, _] dX5_fitTotals_18 rfl (by decide) rfl rfl ?_
    refine vV.sub [1, 2, 0] rfl ?_
    have L19 : ∀ (n19 : Nat) (i : Nat) (f : Nat → Int64), (i ≤ j) → (f = iterF (fitTM (wUses (wBit u)) (w_out u) (w_inn u) (w_n u)) i (w_gue (wKeep u))) → j + 1 ≤ i + n19 → vV K (gM Y) (ws_gue (wKeep u) f) [(0, .ref (yA Y 0)), (1, .int (nI j)), (2, .int (nI i))] [] 19 := by
      intro n19
      induction n19 with
      | zero => intro i f hi hf hfu19; exact absurd hfu19 (by omega)
      | succ n19 ih19 =>
        intro i f hi hf hfu19
        refine v_iload_n 20 hE dX5_fitTotals_19 rfl rfl ?_
        refine v_iload_n 21 hE dX5_fitTotals_20 rfl rfl ?_
        refine v_ic_geN 24 hE 86 dX5_fitTotals_21 (by decide) (by omega) (by omega) rfl (fun c21 => ?_) (fun c21 => ?_)
        · refine v_aload_n 87 hE dX5_fitTotals_86 rfl rfl ?_
          refine v_ciE 90 hE (v_runV 0 hE (vSub.self hE) (kX5_changed _ Y _) gX5_fitTotals_X5_changed rfl (by decide +kernel) rfl (q0 := 0) rfl rfl ⟨rfl, rfl, by decide, by decide⟩ rfl (Nat.le_of_ble_eq_true rfl) dX5_fitTotals_87) rfl ?_
          exact (hret _ _ dX5_fitTotals_90).cast (by unfold bFitT; rw [if_pos c7b, hjx, hf, show i = j by omega]) (rI (by unfold bFitT; rw [if_pos c7b, hjx, hf, show i = j by omega]))
        · refine v_iconst 25 hE (v := nI 0) dX5_fitTotals_24 (by decide) rfl ?_
          refine v_istore_n 26 hE [_, _, _, _] dX5_fitTotals_25 rfl (by decide) rfl rfl ?_
          refine vV.sub [1, 2, 3, 0] rfl ?_
          have L26 : ∀ (n26 : Nat) (v : Nat) (g1 : Nat → Int64), (v ≤ w_n u) → (g1 = fitV (wUses (wBit u)) 0 (w_out u) v f) → w_n u + 1 ≤ v + n26 → vV K (gM Y) (ws_gue (wKeep u) g1) [(0, .ref (yA Y 0)), (1, .int (nI j)), (2, .int (nI i)), (3, .int (nI v))] [] 26 := by
            intro n26
            induction n26 with
            | zero => intro v g1 hv hg1 hfu26; exact absurd hfu26 (by omega)
            | succ n26 ih26 =>
              intro v g1 hv hg1 hfu26
              refine v_iload_n 27 hE dX5_fitTotals_26 rfl rfl ?_
              refine v_aload_n 28 hE dX5_fitTotals_27 rfl rfl ?_
              refine gM_nodes 31 hE f_0 f_1 dX5_fitTotals_28 rfl ?_
              show vV K (gM Y) _ _ (.int (nI (w_n u)) :: _) _
              refine v_ic_geN 34 hE 52 dX5_fitTotals_31 (by decide) (by omega) (by omega) rfl (fun c31 => ?_) (fun c31 => ?_)
              · refine v_iconst 53 hE (v := nI 0) dX5_fitTotals_52 (by decide) rfl ?_
                refine v_istore_n 54 hE [_, _, _, _] dX5_fitTotals_53 rfl (by decide) rfl rfl ?_
                refine vV.sub [1, 2, 3, 0] rfl ?_
                have L54 : ∀ (n54 : Nat) (v2 : Nat) (g2 : Nat → Int64), (v2 ≤ w_n u) → (g2 = fitV (wUses (wBit u)) 1 (w_inn u) v2 g1) → w_n u + 1 ≤ v2 + n54 → vV K (gM Y) (ws_gue (wKeep u) g2) [(0, .ref (yA Y 0)), (1, .int (nI j)), (2, .int (nI i)), (3, .int (nI v2))] [] 54 := by
                  intro n54
                  induction n54 with
                  | zero => intro v2 g2 hv2 hg2 hfu54; exact absurd hfu54 (by omega)
                  | succ n54 ih54 =>
                    intro v2 g2 hv2 hg2 hfu54
                    refine v_iload_n 55 hE dX5_fitTotals_54 rfl rfl ?_
                    refine v_aload_n 56 hE dX5_fitTotals_55 rfl rfl ?_
                    refine gM_nodes 59 hE f_0 f_1 dX5_fitTotals_56 rfl ?_
                    show vV K (gM Y) _ _ (.int (nI (w_n u)) :: _) _
                    refine v_ic_geN 62 hE 80 dX5_fitTotals_59 (by decide) (by omega) (by omega) rfl (fun c59 => ?_) (fun c59 => ?_)
                    · refine v_iincN 83 hE [_, _, _, _] dX5_fitTotals_80 rfl (by decide) rfl rfl ?_
                      refine v_goto hE 19 dX5_fitTotals_83 (by decide) ?_
                      refine vV.sub [1, 2, 0] rfl ?_
                      exact ih19 _ _ (by omega) (by rw [iterF_s, ← hf, hg2, hg1, show v = w_n u by omega, show v2 = w_n u by omega]; rfl) (by omega)
                    · refine v_aload_n 63 hE dX5_fitTotals_62 rfl rfl ?_
                      refine v_iconst 64 hE (v := nI 1) dX5_fitTotals_63 (by decide) rfl ?_
                      refine v_iload_n 65 hE dX5_fitTotals_64 rfl rfl ?_
                      refine v_aload_n 66 hE dX5_fitTotals_65 rfl rfl ?_
                      refine gM_inOf 69 hE f_0 f_2 dX5_fitTotals_66 rfl ?_
                      refine v_iload_n 70 hE dX5_fitTotals_69 rfl rfl ?_
                      refine lM_inn 71 hE (by omega) dX5_fitTotals_70 rfl ?_
                      show vV K (gM Y) _ _ (.int ((w_inn u) _) :: _) _
                      refine v_cvE 74 hE (v_runV 3 hE (vSub.self hE) (kX5_fits _ Y (ws_gue (wKeep u) g2) _ _ _ (by omega) (by omega) (fun s hs => wBit_lt hok hs)) gX5_fitTotals_X5_fits rfl (by decide +kernel) rfl (q0 := 0) rfl rfl ⟨rfl, rfl, by decide, by decide⟩ rfl (Nat.le_of_ble_eq_true rfl) dX5_fitTotals_71) rfl ?_
                      refine v_iincN 77 hE [_, _, _, _] dX5_fitTotals_74 rfl (by decide) rfl rfl ?_
                      refine v_goto hE 54 dX5_fitTotals_77 (by decide) ?_
                      refine vV.sub [1, 2, 3, 0] rfl ?_
                      exact ih54 _ _ (by omega) (by rw [hg2]; rfl) (by omega)
                exact L54 (w_n u + 1) 0 g1 (by omega) rfl (by omega)
              · refine v_aload_n 35 hE dX5_fitTotals_34 rfl rfl ?_
                refine v_iconst 36 hE (v := nI 0) dX5_fitTotals_35 (by decide) rfl ?_
                refine v_iload_n 37 hE dX5_fitTotals_36 rfl rfl ?_
                refine v_aload_n 38 hE dX5_fitTotals_37 rfl rfl ?_
                refine gM_outOf 41 hE f_0 f_3 dX5_fitTotals_38 rfl ?_
                refine v_iload_n 42 hE dX5_fitTotals_41 rfl rfl ?_
                refine lM_out 43 hE (by omega) dX5_fitTotals_42 rfl ?_
                show vV K (gM Y) _ _ (.int ((w_out u) _) :: _) _
                refine v_cvE 46 hE (v_runV 3 hE (vSub.self hE) (kX5_fits _ Y (ws_gue (wKeep u) g1) _ _ _ (by omega) (by omega) (fun s hs => wBit_lt hok hs)) gX5_fitTotals_X5_fits rfl (by decide +kernel) rfl (q0 := 0) rfl rfl ⟨rfl, rfl, by decide, by decide⟩ rfl (Nat.le_of_ble_eq_true rfl) dX5_fitTotals_43) rfl ?_
                refine v_iincN 49 hE [_, _, _, _] dX5_fitTotals_46 rfl (by decide) rfl rfl ?_
                refine v_goto hE 26 dX5_fitTotals_49 (by decide) ?_
                refine vV.sub [1, 2, 3, 0] rfl ?_
                exact ih26 _ _ (by omega) (by rw [hg1]; rfl) (by omega)
          exact L26 (w_n u + 1) 0 f (by omega) rfl (by omega)
    exact L19 (j + 1) 0 (w_gue (wKeep u)) (by omega) rfl (by omega)
  · refine v_bipush 12 hE (v := -4) dX5_fitTotals_10 (by decide) rfl ?_
    exact (hret _ _ dX5_fitTotals_12).cast (by unfold bFitT; rw [show isIn 1 50 k = _ from c7]; rfl) (rI (by unfold bFitT; rw [show isIn 1 50 k = _ from c7]; rfl))
set_option maxRecDepth 100000 in
set_option maxHeartbeats 4000000 in
theorem kX5_fitLinks (l : Launch) (Y : yG) (u : MS) (k : Int32) (hok : okM u) : mI l (gM Y) yX5_fitLinks wsX5_fitLinks ({ frames := 5, cells := 0, slots := 0, locals := 114 }) [.ref (yA Y 0), .int k] u ((bFitK u k).1) (bFitK u k).2 := by
  obtain ⟨hn2, hn, hm, hsrc, htgt, hmet⟩ := id hok
  refine mI_of (cc := cX5_fitLinks) (nL := 4) (own := RX5) (by decide) rfl rfl (fun v => cM_geo Y _ v) (Nat.le_of_ble_eq_true rfl) ?_
  intro K hKl hE hret
  have f_0 : ∀ w ∈ u_ws RX5 TX5 20, w ∈ wsX5_fitLinks := by decide +kernel
  have f_1 : Cond.fieldLink RX5 68 "TrafficMatrixModel" "links" "I" ∈ wsX5_fitLinks := by decide +kernel
  have f_2 : Cond.fieldLink RX5 22 "TrafficMatrixModel" "load" "[I" ∈ wsX5_fitLinks := by decide +kernel
  show vV K (gM Y) u [(0, .ref (yA Y 0)), (1, .int k)] [] 0
  refine v_iload_n 1 hE dX5_fitLinks_0 rfl rfl ?_
  refine v_iconst 2 hE (v := nI 1) dX5_fitLinks_1 (by decide) rfl ?_
  refine v_bipush 4 hE (v := nI 50) dX5_fitLinks_2 (by decide) rfl ?_
  refine v_ciE 7 hE (v_runS 3 hE (vSub.self hE) (kX5_within _ Y _ _ _ _) gX5_fitLinks_X5_within rfl (by decide +kernel) rfl ⟨rfl, rfl, by decide, by decide⟩ rfl (Nat.le_of_ble_eq_true rfl) dX5_fitLinks_4) rfl ?_
  refine v_if_neB 10 hE 13 dX5_fitLinks_7 (by decide) rfl (fun c7 => ?_) (fun c7 => ?_)
  · have c7b : isIn 1 50 k = true := c7
    obtain ⟨j, hj1, hj50, rfl⟩ := isIn_t (by decide) (by decide) c7b
    have hjx := ndx_nI (k := j) (by omega)
    refine v_aload_n 14 hE dX5_fitLinks_13 rfl rfl ?_
    refine v_cvE 17 hE (v_runV 0 hE (vSub.self hE) (kX5_keeps _ Y _ hok) gX5_fitLinks_X5_keeps rfl (by decide +kernel) rfl (q0 := 0) rfl rfl ⟨rfl, rfl, by decide, by decide⟩ rfl (Nat.le_of_ble_eq_true rfl) dX5_fitLinks_14) rfl ?_
    refine v_iconst 18 hE (v := nI 0) dX5_fitLinks_17 (by decide) rfl ?_
    refine v_istore_n 19 hE [_, _, _] dX5_fitLinks_18 rfl (by decide) rfl rfl ?_
    refine vV.sub [1, 2, 0] rfl ?_
    have L19 : ∀ (n19 : Nat) (i : Nat) (f : Nat → Int64), (i ≤ j) → (f = iterF (fitV (wUses (wBit u)) 2 (w_load u) (w_m u)) i (w_gue (wKeep u))) → j + 1 ≤ i + n19 → vV K (gM Y) (ws_gue (wKeep u) f) [(0, .ref (yA Y 0)), (1, .int (nI j)), (2, .int (nI i))] [] 19 := by
      intro n19
      induction n19 with
      | zero => intro i f hi hf hfu19; exact absurd hfu19 (by omega)
      | succ n19 ih19 =>
        intro i f hi hf hfu19
        refine v_iload_n 20 hE dX5_fitLinks_19 rfl rfl ?_
        refine v_iload_n 21 hE dX5_fitLinks_20 rfl rfl ?_
        refine v_ic_geN 24 hE 58 dX5_fitLinks_21 (by decide) (by omega) (by omega) rfl (fun c21 => ?_) (fun c21 => ?_)
        · refine v_aload_n 59 hE dX5_fitLinks_58 rfl rfl ?_
          refine v_ciE 62 hE (v_runV 0 hE (vSub.self hE) (kX5_changed _ Y _) gX5_fitLinks_X5_changed rfl (by decide +kernel) rfl (q0 := 0) rfl rfl ⟨rfl, rfl, by decide, by decide⟩ rfl (Nat.le_of_ble_eq_true rfl) dX5_fitLinks_59) rfl ?_
          exact (hret _ _ dX5_fitLinks_62).cast (by unfold bFitK; rw [if_pos c7b, hjx, hf, show i = j by omega]) (rI (by unfold bFitK; rw [if_pos c7b, hjx, hf, show i = j by omega]))
        · refine v_iconst 25 hE (v := nI 0) dX5_fitLinks_24 (by decide) rfl ?_
          refine v_istore_n 26 hE [_, _, _, _] dX5_fitLinks_25 rfl (by decide) rfl rfl ?_
          refine vV.sub [1, 2, 3, 0] rfl ?_
          have L26 : ∀ (n26 : Nat) (v : Nat) (g1 : Nat → Int64), (v ≤ w_m u) → (g1 = fitV (wUses (wBit u)) 2 (w_load u) v f) → w_m u + 1 ≤ v + n26 → vV K (gM Y) (ws_gue (wKeep u) g1) [(0, .ref (yA Y 0)), (1, .int (nI j)), (2, .int (nI i)), (3, .int (nI v))] [] 26 := by
            intro n26
            induction n26 with
            | zero => intro v g1 hv hg1 hfu26; exact absurd hfu26 (by omega)
            | succ n26 ih26 =>
              intro v g1 hv hg1 hfu26
              refine v_iload_n 27 hE dX5_fitLinks_26 rfl rfl ?_
              refine v_aload_n 28 hE dX5_fitLinks_27 rfl rfl ?_
              refine gM_links 31 hE f_0 f_1 dX5_fitLinks_28 rfl ?_
              show vV K (gM Y) _ _ (.int (nI (w_m u)) :: _) _
              refine v_ic_geN 34 hE 52 dX5_fitLinks_31 (by decide) (by omega) (by omega) rfl (fun c31 => ?_) (fun c31 => ?_)
              · refine v_iincN 55 hE [_, _, _, _] dX5_fitLinks_52 rfl (by decide) rfl rfl ?_
                refine v_goto hE 19 dX5_fitLinks_55 (by decide) ?_
                refine vV.sub [1, 2, 0] rfl ?_
                exact ih19 _ _ (by omega) (by rw [iterF_s, ← hf, hg1, show v = w_m u by omega]) (by omega)
              · refine v_aload_n 35 hE dX5_fitLinks_34 rfl rfl ?_
                refine v_iconst 36 hE (v := nI 2) dX5_fitLinks_35 (by decide) rfl ?_
                refine v_iload_n 37 hE dX5_fitLinks_36 rfl rfl ?_
                refine v_aload_n 38 hE dX5_fitLinks_37 rfl rfl ?_
                refine gM_load 41 hE f_0 f_2 dX5_fitLinks_38 rfl ?_
                refine v_iload_n 42 hE dX5_fitLinks_41 rfl rfl ?_
                refine lM_load 43 hE (by omega) dX5_fitLinks_42 rfl ?_
                show vV K (gM Y) _ _ (.int ((w_load u) _) :: _) _
                refine v_cvE 46 hE (v_runV 3 hE (vSub.self hE) (kX5_fits _ Y (ws_gue (wKeep u) g1) _ _ _ (by omega) (by omega) (fun s hs => wBit_lt hok hs)) gX5_fitLinks_X5_fits rfl (by decide +kernel) rfl (q0 := 0) rfl rfl ⟨rfl, rfl, by decide, by decide⟩ rfl (Nat.le_of_ble_eq_true rfl) dX5_fitLinks_43) rfl ?_
                refine v_iincN 49 hE [_, _, _, _] dX5_fitLinks_46 rfl (by decide) rfl rfl ?_
                refine v_goto hE 26 dX5_fitLinks_49 (by decide) ?_
                refine vV.sub [1, 2, 3, 0] rfl ?_
                exact ih26 _ _ (by omega) (by rw [hg1]; rfl) (by omega)
          exact L26 (w_m u + 1) 0 f (by omega) rfl (by omega)
    exact L19 (j + 1) 0 (w_gue (wKeep u)) (by omega) rfl (by omega)
  · refine v_bipush 12 hE (v := -4) dX5_fitLinks_10 (by decide) rfl ?_
    exact (hret _ _ dX5_fitLinks_12).cast (by unfold bFitK; rw [show isIn 1 50 k = _ from c7]; rfl) (rI (by unfold bFitK; rw [show isIn 1 50 k = _ from c7]; rfl))
set_option maxRecDepth 100000 in
set_option maxHeartbeats 4000000 in
theorem kX5_estimate (l : Launch) (Y : yG) (u : MS) (s t : Int32) (hok : okM u) : mL l (gM Y) yX5_estimate wsX5_estimate ({ frames := 3, cells := 0, slots := 0, locals := 65 }) [.ref (yA Y 0), .int s, .int t] u (bEst u s t) u := by
  obtain ⟨hn2, hn, hm, hsrc, htgt, hmet⟩ := id hok
  refine mL_of (cc := cX5_estimate) (nL := 3) (own := RX5) (by decide) rfl rfl (fun v => cM_geo Y _ v) (Nat.le_of_ble_eq_true rfl) ?_
  intro K hKl hE hret
  have f_0 : ∀ w ∈ u_ws RX5 TX5 20, w ∈ wsX5_estimate := by decide +kernel
  have f_1 : Cond.fieldLink RX5 38 "TrafficMatrixModel" "guess" "[J" ∈ wsX5_estimate := by decide +kernel
  have f_2 : Jvm.Cond.constantLong RX5 151 (-9223372036854775808) ∈ wsX5_estimate := by decide +kernel
  show vV K (gM Y) u [(0, .ref (yA Y 0)), (1, .int s), (2, .int t)] [] 0
  refine v_aload_n 1 hE dX5_estimate_0 rfl rfl ?_
  refine v_iload_n 2 hE dX5_estimate_1 rfl rfl ?_
  refine v_iload_n 3 hE dX5_estimate_2 rfl rfl ?_
  refine v_ciE 6 hE (v_runV 2 hE (vSub.self hE) (kX5_refused _ Y _ _ _ hok) gX5_estimate_X5_refused rfl (by decide +kernel) rfl (q0 := 0) rfl rfl ⟨rfl, rfl, by decide, by decide⟩ rfl (Nat.le_of_ble_eq_true rfl) dX5_estimate_3) rfl ?_
  refine v_if_eq 9 hE 15 dX5_estimate_6 (by decide) rfl (fun c6 => ?_) (fun c6 => ?_)
  · obtain ⟨a, b, ha, hb, rfl, rfl, hab⟩ := pairE_0 hn c6
    have hsl : slot (nI a) (nI b) = 5 * a + b := by rw [slot_nI (by omega) (by omega)]; omega
    refine v_aload_n 16 hE dX5_estimate_15 rfl rfl ?_
    refine gM_guess 19 hE f_0 f_1 dX5_estimate_16 rfl ?_
    refine v_iconst 20 hE (v := nI 5) dX5_estimate_19 (by decide) rfl ?_
    refine v_iload_n 21 hE dX5_estimate_20 rfl rfl ?_
    refine v_imulN 22 hE dX5_estimate_21 rfl ?_
    refine v_iload_n 23 hE dX5_estimate_22 rfl rfl ?_
    refine v_iaddN 24 hE dX5_estimate_23 rfl ?_
    refine lM_gue 25 hE (by omega) dX5_estimate_24 rfl ?_
    exact (hret _ _ dX5_estimate_25).cast rfl (rL (by unfold bEst; first | (rw [if_pos c6, hsl]; done) | (rw [if_neg c6]; done)))
  · refine v_ldc2 12 hE f_2 dX5_estimate_9 rfl ?_
    refine v_goto hE 25 dX5_estimate_12 (by decide) ?_
    exact (hret _ _ dX5_estimate_25).cast rfl (rL (by unfold bEst; first | (rw [if_pos c6, hsl]; done) | (rw [if_neg c6]; done)))
set_option maxRecDepth 100000 in
set_option maxHeartbeats 4000000 in
theorem kX5_residual (l : Launch) (Y : yG) (u : MS) (k : Int32) (hok : okM u) : mL l (gM Y) yX5_residual wsX5_residual ({ frames := 4, cells := 0, slots := 0, locals := 93 }) [.ref (yA Y 0), .int k] u ((bRes u k).1) (bRes u k).2 := by
  obtain ⟨hn2, hn, hm, hsrc, htgt, hmet⟩ := id hok
  refine mL_of (cc := cX5_residual) (nL := 2) (own := RX5) (by decide) rfl rfl (fun v => cM_geo Y _ v) (Nat.le_of_ble_eq_true rfl) ?_
  intro K hKl hE hret
  have f_0 : Jvm.Cond.constantLong RX5 159 1000 ∈ wsX5_residual := by decide +kernel
  have f_1 : ∀ w ∈ u_ws RX5 TX5 20, w ∈ wsX5_residual := by decide +kernel
  have f_2 : Cond.fieldLink RX5 22 "TrafficMatrixModel" "load" "[I" ∈ wsX5_residual := by decide +kernel
  have f_3 : Jvm.Cond.constantLong RX5 151 (-9223372036854775808) ∈ wsX5_residual := by decide +kernel
  show vV K (gM Y) u [(0, .ref (yA Y 0)), (1, .int k)] [] 0
  refine v_aload_n 1 hE dX5_residual_0 rfl rfl ?_
  refine v_iload_n 2 hE dX5_residual_1 rfl rfl ?_
  refine v_ciE 5 hE (v_runV 1 hE (vSub.self hE) (kX5_isLink _ Y _ _ hok) gX5_residual_X5_isLink rfl (by decide +kernel) rfl (q0 := 0) rfl rfl ⟨rfl, rfl, by decide, by decide⟩ rfl (Nat.le_of_ble_eq_true rfl) dX5_residual_2) rfl ?_
  refine v_if_neB 8 hE 12 dX5_residual_5 (by decide) rfl (fun c5 => ?_) (fun c5 => ?_)
  · obtain ⟨j, hj, rfl⟩ := inB_t (by omega) c5
    have hjx := ndx_nI (k := j) (by omega)
    refine v_aload_n 13 hE dX5_residual_12 rfl rfl ?_
    refine v_cvE 16 hE (v_runV 0 hE (vSub.self hE) (kX5_findRoutes _ Y _ hok) gX5_residual_X5_findRoutes rfl (by decide +kernel) rfl (q0 := 0) rfl rfl ⟨rfl, rfl, by decide, by decide⟩ rfl (Nat.le_of_ble_eq_true rfl) dX5_residual_13) rfl ?_
    refine v_aload_n 17 hE dX5_residual_16 rfl rfl ?_
    refine v_iconst 18 hE (v := nI 2) dX5_residual_17 (by decide) rfl ?_
    refine v_iload_n 19 hE dX5_residual_18 rfl rfl ?_
    refine v_clE 22 hE (v_runV 2 hE (vSub.self hE) (kX5_sumOf _ Y (wFind u) _ _ (by omega) (by omega) (fun s hs => wBit_lt hok hs)) gX5_residual_X5_sumOf rfl (by decide +kernel) rfl (q0 := 0) rfl rfl ⟨rfl, rfl, by decide, by decide⟩ rfl (Nat.le_of_ble_eq_true rfl) dX5_residual_19) rfl ?_
    show vV K (gM Y) _ _ (.long (sumM (wUses (wBit u)) (w_gue u) _ _) :: _) _
    refine v_ldc2 25 hE f_0 dX5_residual_22 rfl ?_
    refine v_aload_n 26 hE dX5_residual_25 rfl rfl ?_
    refine gM_load 29 hE f_1 f_2 dX5_residual_26 rfl ?_
    refine v_iload_n 30 hE dX5_residual_29 rfl rfl ?_
    refine lM_load 31 hE (by omega) dX5_residual_30 rfl ?_
    show vV K (gM Y) _ _ (.int ((w_load u) _) :: _) _
    refine v_i2l 32 hE dX5_residual_31 rfl ?_
    refine v_lmul 33 hE dX5_residual_32 rfl ?_
    refine v_lsub 34 hE dX5_residual_33 rfl ?_
    exact (hret _ _ dX5_residual_34).cast (by unfold bRes; rw [if_pos c5]) (rL (by unfold bRes; rw [if_pos c5, hjx]))
  · refine v_ldc2 11 hE f_3 dX5_residual_8 rfl ?_
    exact (hret _ _ dX5_residual_11).cast (by simp [bRes, c5]) (rL (by simp [bRes, c5]))
set_option maxRecDepth 100000 in
set_option maxHeartbeats 4000000 in
theorem kX5_totalError (l : Launch) (Y : yG) (u : MS)  (hok : okM u) : mL l (gM Y) yX5_totalError wsX5_totalError ({ frames := 4, cells := 0, slots := 0, locals := 93 }) [.ref (yA Y 0)] u (bErr u) (wFind u) := by
  obtain ⟨hn2, hn, hm, hsrc, htgt, hmet⟩ := id hok
  refine mL_of (cc := cX5_totalError) (nL := 6) (own := RX5) (by decide) rfl rfl (fun v => cM_geo Y _ v) (Nat.le_of_ble_eq_true rfl) ?_
  intro K hKl hE hret
  have f_0 : ∀ w ∈ u_ws RX5 TX5 20, w ∈ wsX5_totalError := by decide +kernel
  have f_1 : Cond.fieldLink RX5 38 "TrafficMatrixModel" "guess" "[J" ∈ wsX5_totalError := by decide +kernel
  have f_2 : Jvm.Cond.constantLong RX5 159 1000 ∈ wsX5_totalError := by decide +kernel
  have f_3 : Cond.fieldLink RX5 19 "TrafficMatrixModel" "demand" "[I" ∈ wsX5_totalError := by decide +kernel
  show vV K (gM Y) u [(0, .ref (yA Y 0))] [] 0
  refine v_aload_n 1 hE dX5_totalError_0 rfl rfl ?_
  refine v_cvE 4 hE (v_runV 0 hE (vSub.self hE) (kX5_findRoutes _ Y _ hok) gX5_totalError_X5_findRoutes rfl (by decide +kernel) rfl (q0 := 0) rfl rfl ⟨rfl, rfl, by decide, by decide⟩ rfl (Nat.le_of_ble_eq_true rfl) dX5_totalError_1) rfl ?_
  refine v_lconst 5 hE (v := 0) dX5_totalError_4 (by decide) rfl ?_
  refine v_lstore_n 6 hE [_, _] dX5_totalError_5 rfl (by decide) rfl rfl ?_
  refine v_iconst 7 hE (v := nI 0) dX5_totalError_6 (by decide) rfl ?_
  refine v_istore_n 8 hE [_, _, _] dX5_totalError_7 rfl (by decide) rfl rfl ?_
  refine vV.sub [2, 1, 0] rfl ?_
  have L8 : ∀ (n8 : Nat) (w : Int64) (i : Nat), (i ≤ 25) → (w = sumL (fun p => if (wHas (wBit u)) p then absJ (w_gue u p - 1000 * (w_dem u p).toInt64) else 0) i) → 25 + 1 ≤ i + n8 → vV K (gM Y) (wFind u) [(0, .ref (yA Y 0)), (1, .long w), (3, .int (nI i))] [] 8 := by
    intro n8
    induction n8 with
    | zero => intro w i hi hw hfu8; exact absurd hfu8 (by omega)
    | succ n8 ih8 =>
      intro w i hi hw hfu8
      refine v_iload_n 9 hE dX5_totalError_8 rfl rfl ?_
      refine v_bipush 11 hE (v := nI 25) dX5_totalError_9 (by decide) rfl ?_
      refine v_ic_geN 14 hE 70 dX5_totalError_11 (by decide) (by omega) (by omega) rfl (fun c11 => ?_) (fun c11 => ?_)
      · refine v_lload_n 71 hE dX5_totalError_70 rfl rfl ?_
        exact (hret _ _ dX5_totalError_71).cast rfl (rL (by rw [hw, show i = 25 by omega]; rfl))
      · refine v_aload_n 15 hE dX5_totalError_14 rfl rfl ?_
        refine gM_guess 18 hE f_0 f_1 dX5_totalError_15 rfl ?_
        refine v_iload_n 19 hE dX5_totalError_18 rfl rfl ?_
        refine lM_gue 20 hE (by omega) dX5_totalError_19 rfl ?_
        show vV K (gM Y) _ _ (.long ((w_gue u) _) :: _) _
        refine v_ldc2 23 hE f_2 dX5_totalError_20 rfl ?_
        refine v_aload_n 24 hE dX5_totalError_23 rfl rfl ?_
        refine gM_demand 27 hE f_0 f_3 dX5_totalError_24 rfl ?_
        refine v_iload_n 28 hE dX5_totalError_27 rfl rfl ?_
        refine lM_dem 29 hE (by omega) dX5_totalError_28 rfl ?_
        show vV K (gM Y) _ _ (.int ((w_dem u) _) :: _) _
        refine v_i2l 30 hE dX5_totalError_29 rfl ?_
        refine v_lmul 31 hE dX5_totalError_30 rfl ?_
        refine v_lsub 32 hE dX5_totalError_31 rfl ?_
        refine v_lstore 34 hE [_, _, _, _] dX5_totalError_32 (by decide) rfl rfl ?_
        refine v_lload_n 35 hE dX5_totalError_34 rfl rfl ?_
        refine v_aload_n 36 hE dX5_totalError_35 rfl rfl ?_
        refine v_iload_n 37 hE dX5_totalError_36 rfl rfl ?_
        refine v_ciE 40 hE (v_runV 1 hE (vSub.self hE) (kX5_hasRoute _ Y (wFind u) _ (by omega) (wBit_lt hok (by omega))) gX5_totalError_X5_hasRoute rfl (by decide +kernel) rfl (q0 := 0) rfl rfl ⟨rfl, rfl, by decide, by decide⟩ rfl (Nat.le_of_ble_eq_true rfl) dX5_totalError_37) rfl ?_
        show vV K (gM Y) _ _ (.int (bI (wHas (wBit u) _)) :: _) _
        refine v_if_neB 43 hE 47 dX5_totalError_40 (by decide) rfl (fun c40 => ?_) (fun c40 => ?_)
        · refine v_lload 49 hE dX5_totalError_47 rfl rfl ?_
          refine v_lconst 50 hE (v := 0) dX5_totalError_49 (by decide) rfl ?_
          refine v_lc_ge 51 54 hE 60 dX5_totalError_50 dX5_totalError_51 (by decide) rfl rfl (fun c50 => ?_) (fun c50 => ?_)
          · refine v_lload 62 hE dX5_totalError_60 rfl rfl ?_
            refine v_ladd 63 hE dX5_totalError_62 rfl ?_
            refine v_lstore_n 64 hE [_, _, _, _] dX5_totalError_63 rfl (by decide) rfl rfl ?_
            refine v_iincN 67 hE [_, _, _, _] dX5_totalError_64 rfl (by decide) rfl rfl ?_
            refine v_goto hE 8 dX5_totalError_67 (by decide) ?_
            refine vV.sub [3, 1, 0] rfl ?_
            exact ih8 _ _ (by omega) (by first | (simp [sumL, hw, c40]; done) | (simp [sumL, hw, c40, absJ, c50]; done)) (by omega)
          · refine v_lload 56 hE dX5_totalError_54 rfl rfl ?_
            refine v_lneg 57 hE dX5_totalError_56 rfl ?_
            refine v_goto hE 62 dX5_totalError_57 (by decide) ?_
            refine v_ladd 63 hE dX5_totalError_62 rfl ?_
            refine v_lstore_n 64 hE [_, _, _, _] dX5_totalError_63 rfl (by decide) rfl rfl ?_
            refine v_iincN 67 hE [_, _, _, _] dX5_totalError_64 rfl (by decide) rfl rfl ?_
            refine v_goto hE 8 dX5_totalError_67 (by decide) ?_
            refine vV.sub [3, 1, 0] rfl ?_
            exact ih8 _ _ (by omega) (by first | (simp [sumL, hw, c40]; done) | (simp [sumL, hw, c40, absJ, c50]; done)) (by omega)
        · refine v_lconst 44 hE (v := 0) dX5_totalError_43 (by decide) rfl ?_
          refine v_goto hE 62 dX5_totalError_44 (by decide) ?_
          refine v_ladd 63 hE dX5_totalError_62 rfl ?_
          refine v_lstore_n 64 hE [_, _, _, _] dX5_totalError_63 rfl (by decide) rfl rfl ?_
          refine v_iincN 67 hE [_, _, _, _] dX5_totalError_64 rfl (by decide) rfl rfl ?_
          refine v_goto hE 8 dX5_totalError_67 (by decide) ?_
          refine vV.sub [3, 1, 0] rfl ?_
          exact ih8 _ _ (by omega) (by first | (simp [sumL, hw, c40]; done) | (simp [sumL, hw, c40, absJ, c50]; done)) (by omega)
  exact L8 (25 + 1) _ _ (by omega) rfl (by omega)
