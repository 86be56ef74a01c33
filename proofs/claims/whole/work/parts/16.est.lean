/-! TrafficMatrix$Estimates -/
def scaled (a b w : Int64) : Int64 := if 0 < w then a * b * 1000 / w else 0
theorem mixN_skip {α : Type} {f g : Nat → α} {n : Nat} (h : g n = f n) : mixN f g n = mixN f g (n + 1) := by
  rw [← mixN_s, h]
  funext j
  unfold va_up
  split
  · rename_i e; rw [e]; exact mixN_ge (Nat.le_refl n)
  · rfl
def fitL (sc : Int64 → Int64) (a b : Nat) : Nat → (Nat → Int64) → Nat → Int64
  | 0, f => f
  | j + 1, f => va_up (fitL sc a b j f) (a + j * b) (sc (fitL sc a b j f (a + j * b)))
def lineS (f : Nat → Int64) (a b : Nat) : Int64 := sumL (fun j => f (a + j * b)) 5
def lineF (f : Nat → Int64) (a b : Nat) (g : Int32) : Nat → Int64 := if lineS f a b ≤ 0 then f else fitL (fun x => scaled x g.toInt64 (lineS f a b)) a b 5 f
def fitT1 (out : Nat → Int32) : Nat → (Nat → Int64) → Nat → Int64
  | 0, f => f
  | k + 1, f => lineF (fitT1 out k f) (k * 5 + 0) 1 (out k)
def fitT2 (inn : Nat → Int32) : Nat → (Nat → Int64) → Nat → Int64
  | 0, f => f
  | k + 1, f => lineF (fitT2 inn k f) (0 * 5 + k) 5 (inn k)
def fitT (out inn : Nat → Int32) (f : Nat → Int64) : Nat → Int64 := fitT2 inn 5 (fitT1 out 5 f)
def linkS (us : Nat → Nat → Bool) (f : Nat → Int64) (k : Nat) : Int64 := sumL (fun s => if us s k then f s else 0) 25
def linkG (us : Nat → Nat → Bool) (f : Nat → Int64) (k : Nat) (g : Int32) (w : Int64) (s : Nat) : Int64 := if us s k then scaled (f s) g.toInt64 w else f s
def linkF (us : Nat → Nat → Bool) (f : Nat → Int64) (k : Nat) (g : Int32) : Nat → Int64 := if linkS us f k ≤ 0 then f else mixN f (linkG us f k g (linkS us f k)) 25
def fitK (us : Nat → Nat → Bool) (load : Nat → Int32) : Nat → (Nat → Int64) → Nat → Int64
  | 0, f => f
  | k + 1, f => linkF us (fitK us load k f) k (load k)
def grav (has : Nat → Bool) (out inn : Nat → Int32) (w : Int64) (s : Nat) : Int64 := if has s then scaled (out (s / 5)).toInt64 (inn (s % 5)).toInt64 w else 0
theorem grav_t {has : Nat → Bool} {out inn : Nat → Int32} {w : Int64} {s : Nat} (h : has s = true) : grav has out inn w s = scaled (out (s / 5)).toInt64 (inn (s % 5)).toInt64 w := by unfold grav; rw [h]; rfl
theorem grav_f {has : Nat → Bool} {out inn : Nat → Int32} {w : Int64} {s : Nat} (h : has s = false) : grav has out inn w s = 0 := by unfold grav; rw [h]; rfl
def chgN (f g : Nat → Int64) : Nat := cntN (fun s => !decide (f s = g s)) 25
def posN (f : Nat → Int64) : Nat := cntN (fun s => !decide (f s ≤ 0)) 25
set_option maxRecDepth 100000 in
set_option maxHeartbeats 4000000 in
theorem kX1_scaled (l : Launch) (Y : yG) (u : XS) (a b w : Int64)  : mL l (gX Y) yX1_scaled wsX1_scaled ({ frames := 0, cells := 0, slots := 0, locals := 0 }) [.long a, .long b, .long w] u (scaled a b w) u := by
  refine mL_of (cc := cX1_scaled) (nL := 6) (own := RX1) (by decide) rfl rfl (fun v => cX_geo Y _ v) (Nat.le_of_ble_eq_true rfl) ?_
  intro K hKl hE hret
  have f_0 : Jvm.Cond.constantLong RX1 80 1000 ∈ wsX1_scaled := by decide +kernel
  show vV K (gX Y) u [(0, .long a), (2, .long b), (4, .long w)] [] 0
  refine v_lload 2 hE dX1_scaled_0 rfl rfl ?_
  refine v_lconst 3 hE (v := 0) dX1_scaled_2 (by decide) rfl ?_
  refine v_lc_gt 4 7 hE 11 dX1_scaled_3 dX1_scaled_4 (by decide) rfl rfl (fun c3 => ?_) (fun c3 => ?_)
  · refine v_lload_n 12 hE dX1_scaled_11 rfl rfl ?_
    refine v_lload_n 13 hE dX1_scaled_12 rfl rfl ?_
    refine v_lmul 14 hE dX1_scaled_13 rfl ?_
    refine v_ldc2 17 hE f_0 dX1_scaled_14 rfl ?_
    refine v_lmul 18 hE dX1_scaled_17 rfl ?_
    refine v_lload 20 hE dX1_scaled_18 rfl rfl ?_
    refine v_ldiv 21 hE dX1_scaled_20 (fun q => by rw [q] at c3; exact absurd c3 (by decide)) rfl ?_
    exact (hret _ _ dX1_scaled_21).cast rfl (rL (by simp [scaled, c3]))
  · refine v_lconst 8 hE (v := 0) dX1_scaled_7 (by decide) rfl ?_
    refine v_goto hE 21 dX1_scaled_8 (by decide) ?_
    exact (hret _ _ dX1_scaled_21).cast rfl (rL (by simp [scaled, c3]))
set_option maxRecDepth 100000 in
set_option maxHeartbeats 4000000 in
theorem kX1_startAnew (l : Launch) (Y : yG) (u : XS)   : mV l (gX Y) yX1_startAnew wsX1_startAnew ({ frames := 1, cells := 0, slots := 0, locals := 24 }) [.ref (yA Y 5)] u (xs_val u (fun _ => 0)) := by
  refine mV_of (cc := cX1_startAnew) (nL := 1) (own := RX1) (by decide) rfl rfl (fun v => cX_geo Y _ v) (Nat.le_of_ble_eq_true rfl) ?_
  intro K hKl hE hret
  have f_0 : ∀ w ∈ u_ws RX1 TX1 2, w ∈ wsX1_startAnew := by decide +kernel
  have f_1 : Cond.fieldLink RX1 9 "TrafficMatrix$Estimates" "values" "[J" ∈ wsX1_startAnew := by decide +kernel
  show vV K (gX Y) u [(0, .ref (yA Y 5))] [] 0
  refine v_aload_n 1 hE dX1_startAnew_0 rfl rfl ?_
  refine gX_values 4 hE f_0 f_1 dX1_startAnew_1 rfl ?_
  refine v_lconst 5 hE (v := 0) dX1_startAnew_4 (by decide) rfl ?_
  refine fX_val 8 hE gX1_startAnew_J7_fill_d0a16 ⟨by decide, by decide⟩ (Nat.le_of_ble_eq_true rfl) dX1_startAnew_5 rfl ?_
  exact (hret _ _ dX1_startAnew_8).cast rfl rfl
set_option maxRecDepth 100000 in
set_option maxHeartbeats 4000000 in
theorem kX1_remember (l : Launch) (Y : yG) (u : XS)   : mV l (gX Y) yX1_remember wsX1_remember ({ frames := 1, cells := 0, slots := 0, locals := 24 }) [.ref (yA Y 5)] u (xs_rem u (va_cpy (x_val u) (x_rem u) 0 0 25)) := by
  refine mV_of (cc := cX1_remember) (nL := 1) (own := RX1) (by decide) rfl rfl (fun v => cX_geo Y _ v) (Nat.le_of_ble_eq_true rfl) ?_
  intro K hKl hE hret
  have f_0 : ∀ w ∈ u_ws RX1 TX1 2, w ∈ wsX1_remember := by decide +kernel
  have f_1 : Cond.fieldLink RX1 9 "TrafficMatrix$Estimates" "values" "[J" ∈ wsX1_remember := by decide +kernel
  have f_2 : Cond.fieldLink RX1 15 "TrafficMatrix$Estimates" "remembered" "[J" ∈ wsX1_remember := by decide +kernel
  have f_3 : Cond.methodLink RX1 24 arraycopyName ∈ wsX1_remember := by decide +kernel
  have f_4 : Cond.native arraycopyName ∈ wsX1_remember := by decide +kernel
  have f_5 : Cond.static arraycopyName ∈ wsX1_remember := by decide +kernel
  have f_6 : Cond.initialized "java/lang/System" ∈ wsX1_remember := by decide +kernel
  show vV K (gX Y) u [(0, .ref (yA Y 5))] [] 0
  refine v_aload_n 1 hE dX1_remember_0 rfl rfl ?_
  refine gX_values 4 hE f_0 f_1 dX1_remember_1 rfl ?_
  refine v_iconst 5 hE (v := nI 0) dX1_remember_4 (by decide) rfl ?_
  refine v_aload_n 6 hE dX1_remember_5 rfl rfl ?_
  refine gX_remembered 9 hE f_0 f_2 dX1_remember_6 rfl ?_
  refine v_iconst 10 hE (v := nI 0) dX1_remember_9 (by decide) rfl ?_
  refine v_bipush 12 hE (v := nI 25) dX1_remember_10 (by decide) rfl ?_
  refine copyX_rem 15 hE f_3 f_4 f_5 f_6 ⟨by decide, Nat.le_of_ble_eq_true rfl⟩ dX1_remember_12 rfl ?_
  exact (hret _ _ dX1_remember_15).cast rfl rfl
set_option maxRecDepth 100000 in
set_option maxHeartbeats 4000000 in
theorem kX1_countChanged (l : Launch) (Y : yG) (u : XS)   : mI l (gX Y) yX1_countChanged wsX1_countChanged ({ frames := 0, cells := 0, slots := 0, locals := 0 }) [.ref (yA Y 5)] u (nI (chgN (x_val u) (x_rem u))) u := by
  refine mI_of (cc := cX1_countChanged) (nL := 3) (own := RX1) (by decide) rfl rfl (fun v => cX_geo Y _ v) (Nat.le_of_ble_eq_true rfl) ?_
  intro K hKl hE hret
  have f_0 : ∀ w ∈ u_ws RX1 TX1 2, w ∈ wsX1_countChanged := by decide +kernel
  have f_1 : Cond.fieldLink RX1 9 "TrafficMatrix$Estimates" "values" "[J" ∈ wsX1_countChanged := by decide +kernel
  have f_2 : Cond.fieldLink RX1 15 "TrafficMatrix$Estimates" "remembered" "[J" ∈ wsX1_countChanged := by decide +kernel
  show vV K (gX Y) u [(0, .ref (yA Y 5))] [] 0
  refine v_iconst 1 hE (v := nI 0) dX1_countChanged_0 (by decide) rfl ?_
  refine v_istore_n 2 hE [_, _] dX1_countChanged_1 rfl (by decide) rfl rfl ?_
  refine v_iconst 3 hE (v := nI 0) dX1_countChanged_2 (by decide) rfl ?_
  refine v_istore_n 4 hE [_, _, _] dX1_countChanged_3 rfl (by decide) rfl rfl ?_
  refine vV.sub [2, 1, 0] rfl ?_
  have L4 : ∀ (n4 : Nat) (a : Nat) (i : Nat), (i ≤ 25) → (a = cntN (fun s => !decide (x_val u s = x_rem u s)) i) → 25 + 1 ≤ i + n4 → vV K (gX Y) u [(0, .ref (yA Y 5)), (1, .int (nI a)), (2, .int (nI i))] [] 4 := by
    intro n4
    induction n4 with
    | zero => intro a i hi ha hfu4; exact absurd hfu4 (by omega)
    | succ n4 ih4 =>
      intro a i hi ha hfu4
      refine v_iload_n 5 hE dX1_countChanged_4 rfl rfl ?_
      refine v_bipush 7 hE (v := nI 25) dX1_countChanged_5 (by decide) rfl ?_
      refine v_ic_geN 10 hE 35 dX1_countChanged_7 (by decide) (by omega) (by omega) rfl (fun c7 => ?_) (fun c7 => ?_)
      · refine v_iload_n 36 hE dX1_countChanged_35 rfl rfl ?_
        exact (hret _ _ dX1_countChanged_36).cast rfl (rI (by rw [ha, show i = 25 by omega]; rfl))
      · refine v_aload_n 11 hE dX1_countChanged_10 rfl rfl ?_
        refine gX_values 14 hE f_0 f_1 dX1_countChanged_11 rfl ?_
        refine v_iload_n 15 hE dX1_countChanged_14 rfl rfl ?_
        refine lX_val 16 hE (by omega) dX1_countChanged_15 rfl ?_
        refine v_aload_n 17 hE dX1_countChanged_16 rfl rfl ?_
        refine gX_remembered 20 hE f_0 f_2 dX1_countChanged_17 rfl ?_
        refine v_iload_n 21 hE dX1_countChanged_20 rfl rfl ?_
        refine lX_rem 22 hE (by omega) dX1_countChanged_21 rfl ?_
        refine v_lc_eq 23 26 hE 29 dX1_countChanged_22 dX1_countChanged_23 (by decide) rfl rfl (fun c22 => ?_) (fun c22 => ?_)
        · refine v_iincN 32 hE [_, _, _] dX1_countChanged_29 rfl (by decide) rfl rfl ?_
          refine v_goto hE 4 dX1_countChanged_32 (by decide) ?_
          refine vV.sub [1, 2, 0] rfl ?_
          exact ih4 _ _ (by omega) (by simp [cntN, ha, c22]) (by omega)
        · refine v_iincN 29 hE [_, _, _] dX1_countChanged_26 rfl (by decide) rfl rfl ?_
          refine v_iincN 32 hE [_, _, _] dX1_countChanged_29 rfl (by decide) rfl rfl ?_
          refine v_goto hE 4 dX1_countChanged_32 (by decide) ?_
          refine vV.sub [2, 1, 0] rfl ?_
          exact ih4 _ _ (by omega) (by simp [cntN, ha, c22]) (by omega)
  exact L4 (25 + 1) _ _ (by omega) rfl (by omega)
set_option maxRecDepth 100000 in
set_option maxHeartbeats 4000000 in
theorem kX1_takeGravity (l : Launch) (Y : yG) (u : XS)  (hok : okN u) : mI l (gX Y) yX1_takeGravity wsX1_takeGravity ({ frames := 1, cells := 0, slots := 0, locals := 25 }) [.ref (yA Y 5), .ref (yA Y 1), .ref (yA Y 3)] u (nI (cntN (fun s => !decide ((grav (uHas (x_len u)) (x_out u) (x_inn u) (sumI (x_out u) 5).toInt64) s ≤ 0)) 25)) (xs_val u (mixN (x_val u) (grav (uHas (x_len u)) (x_out u) (x_inn u) (sumI (x_out u) 5).toInt64) 25)) := by
  obtain ⟨hn, hm, hsrc, htgt, hmet, hlen, hlnk⟩ := id hok
  refine mI_of (cc := cX1_takeGravity) (nL := 9) (own := RX1) (by decide) rfl rfl (fun v => cX_geo Y _ v) (Nat.le_of_ble_eq_true rfl) ?_
  intro K hKl hE hret
  have f_0 : ∀ w ∈ u_ws RX1 TX1 2, w ∈ wsX1_takeGravity := by decide +kernel
  have f_1 : Cond.fieldLink RX1 9 "TrafficMatrix$Estimates" "values" "[J" ∈ wsX1_takeGravity := by decide +kernel
  have f_2 : ∀ w ∈ u_ws RX2 TX2 4, w ∈ wsX1_takeGravity := by decide +kernel
  have f_3 : Cond.fieldLink RX1 42 "TrafficMatrix$Measurements" "outTotals" "[I" ∈ wsX1_takeGravity := by decide +kernel
  have f_4 : Cond.fieldLink RX1 46 "TrafficMatrix$Measurements" "inTotals" "[I" ∈ wsX1_takeGravity := by decide +kernel
  show vV K (gX Y) u [(0, .ref (yA Y 5)), (1, .ref (yA Y 1)), (2, .ref (yA Y 3))] [] 0
  refine v_aload_n 1 hE dX1_takeGravity_0 rfl rfl ?_
  refine v_ciE 4 hE (v_runV 0 hE (vSub.self hE) (kX2_sumOfOutTotals _ Y _) gX1_takeGravity_X2_sumOfOutTotals rfl (by decide +kernel) rfl (q0 := 3) rfl rfl ⟨rfl, rfl, by decide, by decide⟩ rfl (Nat.le_of_ble_eq_true rfl) dX1_takeGravity_1) rfl ?_
  refine v_i2l 5 hE dX1_takeGravity_4 rfl ?_
  refine v_lstore_n 6 hE [_, _, _, _] dX1_takeGravity_5 rfl (by decide) rfl rfl ?_
  refine v_iconst 7 hE (v := nI 0) dX1_takeGravity_6 (by decide) rfl ?_
  refine v_istore 9 hE [_, _, _, _, _] dX1_takeGravity_7 (by decide) rfl rfl ?_
  refine v_iconst 10 hE (v := nI 0) dX1_takeGravity_9 (by decide) rfl ?_
  refine v_istore 12 hE [_, _, _, _, _, _] dX1_takeGravity_10 (by decide) rfl rfl ?_
  refine vV.sub [3, 4, 5, 2, 1, 0] rfl ?_
  have L12 : ∀ (n12 : Nat) (a : Nat) (i : Nat) (f : Nat → Int64), (i ≤ 25) → (a = cntN (fun s => !decide ((grav (uHas (x_len u)) (x_out u) (x_inn u) (sumI (x_out u) 5).toInt64) s ≤ 0)) i) → (f = mixN (x_val u) (grav (uHas (x_len u)) (x_out u) (x_inn u) (sumI (x_out u) 5).toInt64) i) → 25 + 1 ≤ i + n12 → vV K (gX Y) (xs_val u f) [(0, .ref (yA Y 5)), (1, .ref (yA Y 1)), (2, .ref (yA Y 3)), (3, .long (sumI (x_out u) 5).toInt64), (5, .int (nI a)), (6, .int (nI i))] [] 12 := by
    intro n12
    induction n12 with
    | zero => intro a i f hi ha hf hfu12; exact absurd hfu12 (by omega)
    | succ n12 ih12 =>
      intro a i f hi ha hf hfu12
      refine v_iload 14 hE dX1_takeGravity_12 rfl rfl ?_
      refine v_bipush 16 hE (v := nI 25) dX1_takeGravity_14 (by decide) rfl ?_
      refine v_ic_geN 19 hE 92 dX1_takeGravity_16 (by decide) (by omega) (by omega) rfl (fun c16 => ?_) (fun c16 => ?_)
      · refine v_iload 94 hE dX1_takeGravity_92 rfl rfl ?_
        exact (hret _ _ dX1_takeGravity_94).cast (by rw [hf, show i = 25 by omega]) (rI (by rw [ha, show i = 25 by omega]))
      · refine v_aload_n 20 hE dX1_takeGravity_19 rfl rfl ?_
        refine gX_values 23 hE f_0 f_1 dX1_takeGravity_20 rfl ?_
        refine v_iload 25 hE dX1_takeGravity_23 rfl rfl ?_
        refine v_lconst 26 hE (v := 0) dX1_takeGravity_25 (by decide) rfl ?_
        refine sX_val 27 hE (by omega) dX1_takeGravity_26 rfl ?_
        refine v_aload_n 28 hE dX1_takeGravity_27 rfl rfl ?_
        refine v_iload 30 hE dX1_takeGravity_28 rfl rfl ?_
        refine v_ciE 33 hE (v_runV 1 hE (vSub.self hE) (kX3_hasRoute _ Y _ _ hok (by omega)) gX1_takeGravity_X3_hasRoute rfl (by decide +kernel) rfl (q0 := 1) rfl rfl ⟨rfl, rfl, by decide, by decide⟩ rfl (Nat.le_of_ble_eq_true rfl) dX1_takeGravity_30) rfl ?_
        show vV K (gX Y) _ _ (.int (bI (uHas (x_len u) _)) :: _) _
        refine v_if_eqB 36 hE 71 dX1_takeGravity_33 (by decide) rfl (fun c33 => ?_) (fun c33 => ?_)
        · refine v_aload_n 72 hE dX1_takeGravity_71 rfl rfl ?_
          refine gX_values 75 hE f_0 f_1 dX1_takeGravity_72 rfl ?_
          refine v_iload 77 hE dX1_takeGravity_75 rfl rfl ?_
          refine lX_val 78 hE (by omega) dX1_takeGravity_77 rfl ?_
          show vV K (gX Y) _ _ (.long (va_up _ i _ i) :: _) _
          rw [va_up_self]
          refine v_lconst 79 hE (v := 0) dX1_takeGravity_78 (by decide) rfl ?_
          refine v_lc_le 80 83 hE 86 dX1_takeGravity_79 dX1_takeGravity_80 (by decide) rfl rfl (fun c79 => ?_) (fun c79 => ?_)
          · refine v_iincN 89 hE [_, _, _, _, _, _] dX1_takeGravity_86 rfl (by decide) rfl rfl ?_
            refine v_goto hE 12 dX1_takeGravity_89 (by decide) ?_
            refine vV.sub [1, 2, 3, 4, 5, 0] rfl ?_
            exact ih12 _ _ _ (by omega) (by first | (exact absurd (by decide) c79) | (simp [cntN, ha, grav_t c33, c79]; done) | (simp [cntN, ha, grav_f c33]; done)) (by rw [hf, ← mixN_s]; first | (rw [grav_f c33]; done) | (rw [grav_t c33]; exact bx_uu _ _ _ _)) (by omega)
          · refine v_iincN 86 hE [_, _, _, _, _, _] dX1_takeGravity_83 rfl (by decide) rfl rfl ?_
            refine v_iincN 89 hE [_, _, _, _, _, _] dX1_takeGravity_86 rfl (by decide) rfl rfl ?_
            refine v_goto hE 12 dX1_takeGravity_89 (by decide) ?_
            refine vV.sub [2, 3, 4, 5, 1, 0] rfl ?_
            exact ih12 _ _ _ (by omega) (by first | (exact absurd (by decide) c79) | (simp [cntN, ha, grav_t c33, c79]; done) | (simp [cntN, ha, grav_f c33]; done)) (by rw [hf, ← mixN_s]; first | (rw [grav_f c33]; done) | (rw [grav_t c33]; exact bx_uu _ _ _ _)) (by omega)
        · refine v_aload_n 37 hE dX1_takeGravity_36 rfl rfl ?_
          refine gX_outTotals 40 hE f_2 f_3 dX1_takeGravity_37 rfl ?_
          refine v_iload 42 hE dX1_takeGravity_40 rfl rfl ?_
          refine v_iconst 43 hE (v := nI 5) dX1_takeGravity_42 (by decide) rfl ?_
          refine v_idivN 44 hE dX1_takeGravity_43 (by omega) (by omega) (by omega) rfl ?_
          refine lX_out 45 hE (by omega) dX1_takeGravity_44 rfl ?_
          show vV K (gX Y) _ _ (.int ((x_out u) _) :: _) _
          refine v_i2l 46 hE dX1_takeGravity_45 rfl ?_
          refine v_lstore 48 hE [_, _, _, _, _, _, _] dX1_takeGravity_46 (by decide) rfl rfl ?_
          refine v_aload_n 49 hE dX1_takeGravity_48 rfl rfl ?_
          refine gX_values 52 hE f_0 f_1 dX1_takeGravity_49 rfl ?_
          refine v_iload 54 hE dX1_takeGravity_52 rfl rfl ?_
          refine v_lload 56 hE dX1_takeGravity_54 rfl rfl ?_
          refine v_aload_n 57 hE dX1_takeGravity_56 rfl rfl ?_
          refine gX_inTotals 60 hE f_2 f_4 dX1_takeGravity_57 rfl ?_
          refine v_iload 62 hE dX1_takeGravity_60 rfl rfl ?_
          refine v_iconst 63 hE (v := nI 5) dX1_takeGravity_62 (by decide) rfl ?_
          refine v_iremN 64 hE dX1_takeGravity_63 (by omega) (by omega) (by omega) rfl ?_
          refine lX_inn 65 hE (by omega) dX1_takeGravity_64 rfl ?_
          show vV K (gX Y) _ _ (.int ((x_inn u) _) :: _) _
          refine v_i2l 66 hE dX1_takeGravity_65 rfl ?_
          refine v_lload_n 67 hE dX1_takeGravity_66 rfl rfl ?_
          refine v_clE 70 hE (v_runS 3 hE (vSub.self hE) (kX1_scaled _ Y _ _ _ _) gX1_takeGravity_X1_scaled rfl (by decide +kernel) rfl ⟨rfl, rfl, by decide, by decide⟩ rfl (Nat.le_of_ble_eq_true rfl) dX1_takeGravity_67) rfl ?_
          refine sX_val 71 hE (by omega) dX1_takeGravity_70 rfl ?_
          refine v_aload_n 72 hE dX1_takeGravity_71 rfl rfl ?_
          refine gX_values 75 hE f_0 f_1 dX1_takeGravity_72 rfl ?_
          refine v_iload 77 hE dX1_takeGravity_75 rfl rfl ?_
          refine lX_val 78 hE (by omega) dX1_takeGravity_77 rfl ?_
          show vV K (gX Y) _ _ (.long (va_up _ i _ i) :: _) _
          rw [va_up_self]
          refine v_lconst 79 hE (v := 0) dX1_takeGravity_78 (by decide) rfl ?_
          refine v_lc_le 80 83 hE 86 dX1_takeGravity_79 dX1_takeGravity_80 (by decide) rfl rfl (fun c79 => ?_) (fun c79 => ?_)
          · refine v_iincN 89 hE [_, _, _, _, _, _, _] dX1_takeGravity_86 rfl (by decide) rfl rfl ?_
            refine v_goto hE 12 dX1_takeGravity_89 (by decide) ?_
            refine vV.sub [2, 3, 4, 5, 6, 0] rfl ?_
            exact ih12 _ _ _ (by omega) (by first | (exact absurd (by decide) c79) | (simp [cntN, ha, grav_t c33, c79]; done) | (simp [cntN, ha, grav_f c33]; done)) (by rw [hf, ← mixN_s]; first | (rw [grav_f c33]; done) | (rw [grav_t c33]; exact bx_uu _ _ _ _)) (by omega)
          · refine v_iincN 86 hE [_, _, _, _, _, _, _] dX1_takeGravity_83 rfl (by decide) rfl rfl ?_
            refine v_iincN 89 hE [_, _, _, _, _, _, _] dX1_takeGravity_86 rfl (by decide) rfl rfl ?_
            refine v_goto hE 12 dX1_takeGravity_89 (by decide) ?_
            refine vV.sub [3, 4, 5, 6, 1, 0] rfl ?_
            exact ih12 _ _ _ (by omega) (by first | (exact absurd (by decide) c79) | (simp [cntN, ha, grav_t c33, c79]; done) | (simp [cntN, ha, grav_f c33]; done)) (by rw [hf, ← mixN_s]; first | (rw [grav_f c33]; done) | (rw [grav_t c33]; exact bx_uu _ _ _ _)) (by omega)
  exact L12 (25 + 1) 0 0 (x_val u) (by omega) rfl (mixN_0 _ _).symm (by omega)
set_option maxRecDepth 100000 in
set_option maxHeartbeats 4000000 in
theorem kX1_fitLine (l : Launch) (Y : yG) (u : XS) (a b : Nat) (g : Int32) (hab : a + 4 * b < 25) (hb5 : b ≤ 5) : mV l (gX Y) yX1_fitLine wsX1_fitLine ({ frames := 1, cells := 0, slots := 0, locals := 25 }) [.ref (yA Y 5), .int (nI a), .int (nI b), .int g] u (xs_val u (lineF (x_val u) a b g)) := by
  refine mV_of (cc := cX1_fitLine) (nL := 8) (own := RX1) (by decide) rfl rfl (fun v => cX_geo Y _ v) (Nat.le_of_ble_eq_true rfl) ?_
  intro K hKl hE hret
  have f_0 : ∀ w ∈ u_ws RX1 TX1 2, w ∈ wsX1_fitLine := by decide +kernel
  have f_1 : Cond.fieldLink RX1 9 "TrafficMatrix$Estimates" "values" "[J" ∈ wsX1_fitLine := by decide +kernel
  show vV K (gX Y) u [(0, .ref (yA Y 5)), (1, .int (nI a)), (2, .int (nI b)), (3, .int g)] [] 0
  refine v_lconst 1 hE (v := 0) dX1_fitLine_0 (by decide) rfl ?_
  refine v_lstore 3 hE [_, _, _, _, _] dX1_fitLine_1 (by decide) rfl rfl ?_
  refine v_iconst 4 hE (v := nI 0) dX1_fitLine_3 (by decide) rfl ?_
  refine v_istore 6 hE [_, _, _, _, _, _] dX1_fitLine_4 (by decide) rfl rfl ?_
  refine vV.sub [2, 3, 4, 5, 1, 0] rfl ?_
  have L6 : ∀ (n6 : Nat) (w : Int64) (i : Nat), (i ≤ 5) → (w = sumL (fun j => x_val u (a + j * b)) i) → 5 + 1 ≤ i + n6 → vV K (gX Y) u [(0, .ref (yA Y 5)), (1, .int (nI a)), (2, .int (nI b)), (3, .int g), (4, .long w), (6, .int (nI i))] [] 6 := by
    intro n6
    induction n6 with
    | zero => intro w i hi hw hfu6; exact absurd hfu6 (by omega)
    | succ n6 ih6 =>
      intro w i hi hw hfu6
      refine v_iload 8 hE dX1_fitLine_6 rfl rfl ?_
      refine v_iconst 9 hE (v := nI 5) dX1_fitLine_8 (by decide) rfl ?_
      refine v_ic_geN 12 hE 34 dX1_fitLine_9 (by decide) (by omega) (by omega) rfl (fun c9 => ?_) (fun c9 => ?_)
      · refine v_lload 36 hE dX1_fitLine_34 rfl rfl ?_
        refine v_lconst 37 hE (v := 0) dX1_fitLine_36 (by decide) rfl ?_
        refine v_lc_le 38 41 hE 85 dX1_fitLine_37 dX1_fitLine_38 (by decide) rfl rfl (fun c37 => ?_) (fun c37 => ?_)
        · have hww : w = lineS (x_val u) a b := by rw [hw, show i = 5 by omega]; rfl
          exact (hret _ _ dX1_fitLine_85).cast (by first | (unfold lineF; rw [← hww, if_pos c37]; done) | (rw [hf, show j = 5 by omega]; unfold lineF; rw [← hww, if_neg c37]; done)) rfl
        · refine v_iconst 42 hE (v := nI 0) dX1_fitLine_41 (by decide) rfl ?_
          refine v_istore 44 hE [_, _, _, _, _, _] dX1_fitLine_42 (by decide) rfl rfl ?_
          refine vV.sub [1, 2, 3, 4, 5, 0] rfl ?_
          have L44 : ∀ (n44 : Nat) (j : Nat) (f : Nat → Int64), (j ≤ 5) → (f = fitL (fun x => scaled x g.toInt64 w) a b j (x_val u)) → 5 + 1 ≤ j + n44 → vV K (gX Y) (xs_val u f) [(0, .ref (yA Y 5)), (1, .int (nI a)), (2, .int (nI b)), (3, .int g), (4, .long w), (6, .int (nI j))] [] 44 := by
            intro n44
            induction n44 with
            | zero => intro j f hj hf hfu44; exact absurd hfu44 (by omega)
            | succ n44 ih44 =>
              intro j f hj hf hfu44
              refine v_iload 46 hE dX1_fitLine_44 rfl rfl ?_
              refine v_iconst 47 hE (v := nI 5) dX1_fitLine_46 (by decide) rfl ?_
              refine v_ic_geN 50 hE 85 dX1_fitLine_47 (by decide) (by omega) (by omega) rfl (fun c47 => ?_) (fun c47 => ?_)
              · have hww : w = lineS (x_val u) a b := by rw [hw, show i = 5 by omega]; rfl
                exact (hret _ _ dX1_fitLine_85).cast (by first | (unfold lineF; rw [← hww, if_pos c37]; done) | (rw [hf, show j = 5 by omega]; unfold lineF; rw [← hww, if_neg c37]; done)) rfl
              · have hjb : j * b ≤ 4 * b := Nat.mul_le_mul_right b (by omega)
                refine v_iload_n 51 hE dX1_fitLine_50 rfl rfl ?_
                refine v_iload 53 hE dX1_fitLine_51 rfl rfl ?_
                refine v_iload_n 54 hE dX1_fitLine_53 rfl rfl ?_
                refine v_imulN 55 hE dX1_fitLine_54 rfl ?_
                refine v_iaddN 56 hE dX1_fitLine_55 rfl ?_
                refine v_istore 58 hE [_, _, _, _, _, _, _] dX1_fitLine_56 (by decide) rfl rfl ?_
                refine v_aload_n 59 hE dX1_fitLine_58 rfl rfl ?_
                refine gX_values 62 hE f_0 f_1 dX1_fitLine_59 rfl ?_
                refine v_iload 64 hE dX1_fitLine_62 rfl rfl ?_
                refine v_aload_n 65 hE dX1_fitLine_64 rfl rfl ?_
                refine gX_values 68 hE f_0 f_1 dX1_fitLine_65 rfl ?_
                refine v_iload 70 hE dX1_fitLine_68 rfl rfl ?_
                refine lX_val 71 hE (by omega) dX1_fitLine_70 rfl ?_
                show vV K (gX Y) _ _ (.long ((f) _) :: _) _
                refine v_iload_n 72 hE dX1_fitLine_71 rfl rfl ?_
                refine v_i2l 73 hE dX1_fitLine_72 rfl ?_
                refine v_lload 75 hE dX1_fitLine_73 rfl rfl ?_
                refine v_clE 78 hE (v_runS 3 hE (vSub.self hE) (kX1_scaled _ Y _ _ _ _) gX1_fitLine_X1_scaled rfl (by decide +kernel) rfl ⟨rfl, rfl, by decide, by decide⟩ rfl (Nat.le_of_ble_eq_true rfl) dX1_fitLine_75) rfl ?_
                refine sX_val 79 hE (by omega) dX1_fitLine_78 rfl ?_
                refine v_iincN 82 hE [_, _, _, _, _, _, _] dX1_fitLine_79 rfl (by decide) rfl rfl ?_
                refine v_goto hE 44 dX1_fitLine_82 (by decide) ?_
                refine vV.sub [2, 3, 4, 5, 6, 0] rfl ?_
                exact ih44 _ _ (by omega) (by rw [hf]; rfl) (by omega)
          exact L44 (5 + 1) 0 (x_val u) (by omega) rfl (by omega)
      · have hib : i * b ≤ 4 * b := Nat.mul_le_mul_right b (by omega)
        refine v_lload 14 hE dX1_fitLine_12 rfl rfl ?_
        refine v_aload_n 15 hE dX1_fitLine_14 rfl rfl ?_
        refine gX_values 18 hE f_0 f_1 dX1_fitLine_15 rfl ?_
        refine v_iload_n 19 hE dX1_fitLine_18 rfl rfl ?_
        refine v_iload 21 hE dX1_fitLine_19 rfl rfl ?_
        refine v_iload_n 22 hE dX1_fitLine_21 rfl rfl ?_
        refine v_imulN 23 hE dX1_fitLine_22 rfl ?_
        refine v_iaddN 24 hE dX1_fitLine_23 rfl ?_
        refine lX_val 25 hE (by omega) dX1_fitLine_24 rfl ?_
        refine v_ladd 26 hE dX1_fitLine_25 rfl ?_
        refine v_lstore 28 hE [_, _, _, _, _, _] dX1_fitLine_26 (by decide) rfl rfl ?_
        refine v_iincN 31 hE [_, _, _, _, _, _] dX1_fitLine_28 rfl (by decide) rfl rfl ?_
        refine v_goto hE 6 dX1_fitLine_31 (by decide) ?_
        refine vV.sub [2, 3, 4, 5, 1, 0] rfl ?_
        exact ih6 _ _ (by omega) (by simp [sumL, hw]) (by omega)
  exact L6 (5 + 1) _ _ (by omega) rfl (by omega)
set_option maxRecDepth 100000 in
set_option maxHeartbeats 4000000 in
theorem kX1_fitOnceToTotals (l : Launch) (Y : yG) (u : XS)   : mV l (gX Y) yX1_fitOnceToTotals wsX1_fitOnceToTotals ({ frames := 2, cells := 0, slots := 0, locals := 52 }) [.ref (yA Y 5), .ref (yA Y 3)] u (xs_val u (fitT (x_out u) (x_inn u) (x_val u))) := by
  refine mV_of (cc := cX1_fitOnceToTotals) (nL := 3) (own := RX1) (by decide) rfl rfl (fun v => cX_geo Y _ v) (Nat.le_of_ble_eq_true rfl) ?_
  intro K hKl hE hret
  have f_0 : Cond.initialized (yX4_slotOf).cls ∈ wsX1_fitOnceToTotals := by decide +kernel
  have f_1 : Cond.static yX4_slotOf ∈ wsX1_fitOnceToTotals := by decide +kernel
  have f_2 : ∀ w ∈ u_ws RX2 TX2 4, w ∈ wsX1_fitOnceToTotals := by decide +kernel
  have f_3 : Cond.fieldLink RX1 46 "TrafficMatrix$Measurements" "inTotals" "[I" ∈ wsX1_fitOnceToTotals := by decide +kernel
  have f_4 : Cond.fieldLink RX1 42 "TrafficMatrix$Measurements" "outTotals" "[I" ∈ wsX1_fitOnceToTotals := by decide +kernel
  show vV K (gX Y) u [(0, .ref (yA Y 5)), (1, .ref (yA Y 3))] [] 0
  refine v_iconst 1 hE (v := nI 0) dX1_fitOnceToTotals_0 (by decide) rfl ?_
  refine v_istore_n 2 hE [_, _, _] dX1_fitOnceToTotals_1 rfl (by decide) rfl rfl ?_
  refine vV.sub [1, 2, 0] rfl ?_
  have L2 : ∀ (n2 : Nat) (i : Nat) (f : Nat → Int64), (i ≤ 5) → (f = fitT1 (x_out u) i (x_val u)) → 5 + 1 ≤ i + n2 → vV K (gX Y) (xs_val u f) [(0, .ref (yA Y 5)), (1, .ref (yA Y 3)), (2, .int (nI i))] [] 2 := by
    intro n2
    induction n2 with
    | zero => intro i f hi hf hfu2; exact absurd hfu2 (by omega)
    | succ n2 ih2 =>
      intro i f hi hf hfu2
      refine v_iload_n 3 hE dX1_fitOnceToTotals_2 rfl rfl ?_
      refine v_iconst 4 hE (v := nI 5) dX1_fitOnceToTotals_3 (by decide) rfl ?_
      refine v_ic_geN 7 hE 29 dX1_fitOnceToTotals_4 (by decide) (by omega) (by omega) rfl (fun c4 => ?_) (fun c4 => ?_)
      · refine v_iconst 30 hE (v := nI 0) dX1_fitOnceToTotals_29 (by decide) rfl ?_
        refine v_istore_n 31 hE [_, _, _] dX1_fitOnceToTotals_30 rfl (by decide) rfl rfl ?_
        refine vV.sub [1, 2, 0] rfl ?_
        have L31 : ∀ (n31 : Nat) (j : Nat) (g : Nat → Int64), (j ≤ 5) → (g = fitT2 (x_inn u) j f) → 5 + 1 ≤ j + n31 → vV K (gX Y) (xs_val u g) [(0, .ref (yA Y 5)), (1, .ref (yA Y 3)), (2, .int (nI j))] [] 31 := by
          intro n31
          induction n31 with
          | zero => intro j g hj hg hfu31; exact absurd hfu31 (by omega)
          | succ n31 ih31 =>
            intro j g hj hg hfu31
            refine v_iload_n 32 hE dX1_fitOnceToTotals_31 rfl rfl ?_
            refine v_iconst 33 hE (v := nI 5) dX1_fitOnceToTotals_32 (by decide) rfl ?_
            refine v_ic_geN 36 hE 58 dX1_fitOnceToTotals_33 (by decide) (by omega) (by omega) rfl (fun c33 => ?_) (fun c33 => ?_)
            · exact (hret _ _ dX1_fitOnceToTotals_58).cast (by rw [hg, hf, show i = 5 by omega, show j = 5 by omega]; rfl) rfl
            · refine v_aload_n 37 hE dX1_fitOnceToTotals_36 rfl rfl ?_
              refine v_iconst 38 hE (v := nI 0) dX1_fitOnceToTotals_37 (by decide) rfl ?_
              refine v_iload_n 39 hE dX1_fitOnceToTotals_38 rfl rfl ?_
              refine v_ciE 42 hE (v_runSN 2 hE (vSub.self hE) (host := "TrafficMatrix") (kX4_slotOf _ Y _ _ _) gX1_fitOnceToTotals_X4_slotOf_n53 (List.mem_of_getElem? (i := 1) rfl) f_0 f_1 rfl (by decide +kernel) rfl ⟨rfl, rfl, by decide, by decide⟩ rfl (Nat.le_of_ble_eq_true rfl) dX1_fitOnceToTotals_39) rfl ?_
              refine v_iconst 43 hE (v := nI 5) dX1_fitOnceToTotals_42 (by decide) rfl ?_
              refine v_aload_n 44 hE dX1_fitOnceToTotals_43 rfl rfl ?_
              refine gX_inTotals 47 hE f_2 f_3 dX1_fitOnceToTotals_44 rfl ?_
              refine v_iload_n 48 hE dX1_fitOnceToTotals_47 rfl rfl ?_
              refine lX_inn 49 hE (by omega) dX1_fitOnceToTotals_48 rfl ?_
              show vV K (gX Y) _ _ (.int ((x_inn u) _) :: _) _
              refine v_cvE 52 hE (v_runV 3 hE (vSub.self hE) (kX1_fitLine _ Y (xs_val u g) _ _ _ (by omega) (by omega)) gX1_fitOnceToTotals_X1_fitLine rfl (by decide +kernel) rfl (q0 := 5) rfl rfl ⟨rfl, rfl, by decide, by decide⟩ rfl (Nat.le_of_ble_eq_true rfl) dX1_fitOnceToTotals_49) rfl ?_
              refine v_iincN 55 hE [_, _, _] dX1_fitOnceToTotals_52 rfl (by decide) rfl rfl ?_
              refine v_goto hE 31 dX1_fitOnceToTotals_55 (by decide) ?_
              refine vV.sub [1, 2, 0] rfl ?_
              exact ih31 _ _ (by omega) (by rw [hg]; rfl) (by omega)
        exact L31 (5 + 1) 0 f (by omega) rfl (by omega)
      · refine v_aload_n 8 hE dX1_fitOnceToTotals_7 rfl rfl ?_
        refine v_iload_n 9 hE dX1_fitOnceToTotals_8 rfl rfl ?_
        refine v_iconst 10 hE (v := nI 0) dX1_fitOnceToTotals_9 (by decide) rfl ?_
        refine v_ciE 13 hE (v_runSN 2 hE (vSub.self hE) (host := "TrafficMatrix") (kX4_slotOf _ Y _ _ _) gX1_fitOnceToTotals_X4_slotOf_n53 (List.mem_of_getElem? (i := 1) rfl) f_0 f_1 rfl (by decide +kernel) rfl ⟨rfl, rfl, by decide, by decide⟩ rfl (Nat.le_of_ble_eq_true rfl) dX1_fitOnceToTotals_10) rfl ?_
        refine v_iconst 14 hE (v := nI 1) dX1_fitOnceToTotals_13 (by decide) rfl ?_
        refine v_aload_n 15 hE dX1_fitOnceToTotals_14 rfl rfl ?_
        refine gX_outTotals 18 hE f_2 f_4 dX1_fitOnceToTotals_15 rfl ?_
        refine v_iload_n 19 hE dX1_fitOnceToTotals_18 rfl rfl ?_
        refine lX_out 20 hE (by omega) dX1_fitOnceToTotals_19 rfl ?_
        show vV K (gX Y) _ _ (.int ((x_out u) _) :: _) _
        refine v_cvE 23 hE (v_runV 3 hE (vSub.self hE) (kX1_fitLine _ Y (xs_val u f) _ _ _ (by omega) (by omega)) gX1_fitOnceToTotals_X1_fitLine rfl (by decide +kernel) rfl (q0 := 5) rfl rfl ⟨rfl, rfl, by decide, by decide⟩ rfl (Nat.le_of_ble_eq_true rfl) dX1_fitOnceToTotals_20) rfl ?_
        refine v_iincN 26 hE [_, _, _] dX1_fitOnceToTotals_23 rfl (by decide) rfl rfl ?_
        refine v_goto hE 2 dX1_fitOnceToTotals_26 (by decide) ?_
        refine vV.sub [1, 2, 0] rfl ?_
        exact ih2 _ _ (by omega) (by rw [hf]; rfl) (by omega)
  exact L2 (5 + 1) 0 (x_val u) (by omega) rfl (by omega)
set_option maxRecDepth 100000 in
set_option maxHeartbeats 4000000 in
theorem kX1_sumOnLink (l : Launch) (Y : yG) (u : XS) (k : Nat) (hok : okN u) (hk : k < 12) : mL l (gX Y) yX1_sumOnLink wsX1_sumOnLink ({ frames := 1, cells := 0, slots := 0, locals := 23 }) [.ref (yA Y 5), .ref (yA Y 1), .int (nI k)] u (linkS (uUses (x_len u) (x_lnk u)) (x_val u) k) u := by
  obtain ⟨hn, hm, hsrc, htgt, hmet, hlen, hlnk⟩ := id hok
  refine mL_of (cc := cX1_sumOnLink) (nL := 6) (own := RX1) (by decide) rfl rfl (fun v => cX_geo Y _ v) (Nat.le_of_ble_eq_true rfl) ?_
  intro K hKl hE hret
  have f_0 : ∀ w ∈ u_ws RX1 TX1 2, w ∈ wsX1_sumOnLink := by decide +kernel
  have f_1 : Cond.fieldLink RX1 9 "TrafficMatrix$Estimates" "values" "[J" ∈ wsX1_sumOnLink := by decide +kernel
  show vV K (gX Y) u [(0, .ref (yA Y 5)), (1, .ref (yA Y 1)), (2, .int (nI k))] [] 0
  refine v_lconst 1 hE (v := 0) dX1_sumOnLink_0 (by decide) rfl ?_
  refine v_lstore_n 2 hE [_, _, _, _] dX1_sumOnLink_1 rfl (by decide) rfl rfl ?_
  refine v_iconst 3 hE (v := nI 0) dX1_sumOnLink_2 (by decide) rfl ?_
  refine v_istore 5 hE [_, _, _, _, _] dX1_sumOnLink_3 (by decide) rfl rfl ?_
  refine vV.sub [2, 3, 4, 1, 0] rfl ?_
  have L5 : ∀ (n5 : Nat) (w : Int64) (i : Nat), (i ≤ 25) → (w = sumL (fun s => if (uUses (x_len u) (x_lnk u)) s k then x_val u s else 0) i) → 25 + 1 ≤ i + n5 → vV K (gX Y) u [(0, .ref (yA Y 5)), (1, .ref (yA Y 1)), (2, .int (nI k)), (3, .long w), (5, .int (nI i))] [] 5 := by
    intro n5
    induction n5 with
    | zero => intro w i hi hw hfu5; exact absurd hfu5 (by omega)
    | succ n5 ih5 =>
      intro w i hi hw hfu5
      refine v_iload 7 hE dX1_sumOnLink_5 rfl rfl ?_
      refine v_bipush 9 hE (v := nI 25) dX1_sumOnLink_7 (by decide) rfl ?_
      refine v_ic_geN 12 hE 38 dX1_sumOnLink_9 (by decide) (by omega) (by omega) rfl (fun c9 => ?_) (fun c9 => ?_)
      · refine v_lload_n 39 hE dX1_sumOnLink_38 rfl rfl ?_
        exact (hret _ _ dX1_sumOnLink_39).cast rfl (rL (by rw [hw, show i = 25 by omega]; rfl))
      · refine v_aload_n 13 hE dX1_sumOnLink_12 rfl rfl ?_
        refine v_iload 15 hE dX1_sumOnLink_13 rfl rfl ?_
        refine v_iload_n 16 hE dX1_sumOnLink_15 rfl rfl ?_
        refine v_ciE 19 hE (v_runV 2 hE (vSub.self hE) (kX3_routeUses _ Y _ _ _ hok (by omega) (by omega)) gX1_sumOnLink_X3_routeUses rfl (by decide +kernel) rfl (q0 := 1) rfl rfl ⟨rfl, rfl, by decide, by decide⟩ rfl (Nat.le_of_ble_eq_true rfl) dX1_sumOnLink_16) rfl ?_
        refine v_if_eqB 22 hE 32 dX1_sumOnLink_19 (by decide) rfl (fun c19 => ?_) (fun c19 => ?_)
        · refine v_iincN 35 hE [_, _, _, _, _] dX1_sumOnLink_32 rfl (by decide) rfl rfl ?_
          refine v_goto hE 5 dX1_sumOnLink_35 (by decide) ?_
          refine vV.sub [1, 2, 3, 4, 0] rfl ?_
          exact ih5 _ _ (by omega) (by simp [sumL, hw, c19]) (by omega)
        · refine v_lload_n 23 hE dX1_sumOnLink_22 rfl rfl ?_
          refine v_aload_n 24 hE dX1_sumOnLink_23 rfl rfl ?_
          refine gX_values 27 hE f_0 f_1 dX1_sumOnLink_24 rfl ?_
          refine v_iload 29 hE dX1_sumOnLink_27 rfl rfl ?_
          refine lX_val 30 hE (by omega) dX1_sumOnLink_29 rfl ?_
          refine v_ladd 31 hE dX1_sumOnLink_30 rfl ?_
          refine v_lstore_n 32 hE [_, _, _, _, _] dX1_sumOnLink_31 rfl (by decide) rfl rfl ?_
          refine v_iincN 35 hE [_, _, _, _, _] dX1_sumOnLink_32 rfl (by decide) rfl rfl ?_
          refine v_goto hE 5 dX1_sumOnLink_35 (by decide) ?_
          refine vV.sub [2, 3, 4, 1, 0] rfl ?_
          exact ih5 _ _ (by omega) (by simp [sumL, hw, c19]) (by omega)
  exact L5 (25 + 1) _ _ (by omega) rfl (by omega)
set_option maxRecDepth 100000 in
set_option maxHeartbeats 4000000 in
theorem kX1_fitLink (l : Launch) (Y : yG) (u : XS) (k : Nat) (g : Int32) (hok : okN u) (hk : k < 12) : mV l (gX Y) yX1_fitLink wsX1_fitLink ({ frames := 2, cells := 0, slots := 0, locals := 48 }) [.ref (yA Y 5), .ref (yA Y 1), .int (nI k), .int g] u (xs_val u (linkF (uUses (x_len u) (x_lnk u)) (x_val u) k g)) := by
  obtain ⟨hn, hm, hsrc, htgt, hmet, hlen, hlnk⟩ := id hok
  refine mV_of (cc := cX1_fitLink) (nL := 7) (own := RX1) (by decide) rfl rfl (fun v => cX_geo Y _ v) (Nat.le_of_ble_eq_true rfl) ?_
  intro K hKl hE hret
  have f_0 : ∀ w ∈ u_ws RX1 TX1 2, w ∈ wsX1_fitLink := by decide +kernel
  have f_1 : Cond.fieldLink RX1 9 "TrafficMatrix$Estimates" "values" "[J" ∈ wsX1_fitLink := by decide +kernel
  show vV K (gX Y) u [(0, .ref (yA Y 5)), (1, .ref (yA Y 1)), (2, .int (nI k)), (3, .int g)] [] 0
  refine v_aload_n 1 hE dX1_fitLink_0 rfl rfl ?_
  refine v_aload_n 2 hE dX1_fitLink_1 rfl rfl ?_
  refine v_iload_n 3 hE dX1_fitLink_2 rfl rfl ?_
  refine v_clE 6 hE (v_runV 2 hE (vSub.self hE) (kX1_sumOnLink _ Y _ _ hok (by omega)) gX1_fitLink_X1_sumOnLink rfl (by decide +kernel) rfl (q0 := 5) rfl rfl ⟨rfl, rfl, by decide, by decide⟩ rfl (Nat.le_of_ble_eq_true rfl) dX1_fitLink_3) rfl ?_
  refine v_lstore 8 hE [_, _, _, _, _] dX1_fitLink_6 (by decide) rfl rfl ?_
  refine v_lload 10 hE dX1_fitLink_8 rfl rfl ?_
  refine v_lconst 11 hE (v := 0) dX1_fitLink_10 (by decide) rfl ?_
  refine v_lc_le 12 15 hE 62 dX1_fitLink_11 dX1_fitLink_12 (by decide) rfl rfl (fun c11 => ?_) (fun c11 => ?_)
  · exact (hret _ _ dX1_fitLink_62).cast (by first | (unfold linkF; rw [if_pos c11]; done) | (rw [hf, show i = 25 by omega]; unfold linkF; rw [if_neg c11]; done)) rfl
  · refine v_iconst 16 hE (v := nI 0) dX1_fitLink_15 (by decide) rfl ?_
    refine v_istore 18 hE [_, _, _, _, _, _] dX1_fitLink_16 (by decide) rfl rfl ?_
    refine vV.sub [2, 3, 4, 5, 1, 0] rfl ?_
    have L18 : ∀ (n18 : Nat) (i : Nat) (f : Nat → Int64), (i ≤ 25) → (f = mixN (x_val u) (linkG (uUses (x_len u) (x_lnk u)) (x_val u) k g (linkS (uUses (x_len u) (x_lnk u)) (x_val u) k)) i) → 25 + 1 ≤ i + n18 → vV K (gX Y) (xs_val u f) [(0, .ref (yA Y 5)), (1, .ref (yA Y 1)), (2, .int (nI k)), (3, .int g), (4, .long (linkS (uUses (x_len u) (x_lnk u)) (x_val u) k)), (6, .int (nI i))] [] 18 := by
      intro n18
      induction n18 with
      | zero => intro i f hi hf hfu18; exact absurd hfu18 (by omega)
      | succ n18 ih18 =>
        intro i f hi hf hfu18
        refine v_iload 20 hE dX1_fitLink_18 rfl rfl ?_
        refine v_bipush 22 hE (v := nI 25) dX1_fitLink_20 (by decide) rfl ?_
        refine v_ic_geN 25 hE 62 dX1_fitLink_22 (by decide) (by omega) (by omega) rfl (fun c22 => ?_) (fun c22 => ?_)
        · exact (hret _ _ dX1_fitLink_62).cast (by first | (unfold linkF; rw [if_pos c11]; done) | (rw [hf, show i = 25 by omega]; unfold linkF; rw [if_neg c11]; done)) rfl
        · refine v_aload_n 26 hE dX1_fitLink_25 rfl rfl ?_
          refine v_iload 28 hE dX1_fitLink_26 rfl rfl ?_
          refine v_iload_n 29 hE dX1_fitLink_28 rfl rfl ?_
          refine v_ciE 32 hE (v_runV 2 hE (vSub.self hE) (kX3_routeUses _ Y _ _ _ hok (by omega) (by omega)) gX1_fitLink_X3_routeUses rfl (by decide +kernel) rfl (q0 := 1) rfl rfl ⟨rfl, rfl, by decide, by decide⟩ rfl (Nat.le_of_ble_eq_true rfl) dX1_fitLink_29) rfl ?_
          show vV K (gX Y) _ _ (.int (bI (uUses (x_len u) (x_lnk u) _ _)) :: _) _
          refine v_if_eqB 35 hE 56 dX1_fitLink_32 (by decide) rfl (fun c32 => ?_) (fun c32 => ?_)
          · refine v_iincN 59 hE [_, _, _, _, _, _] dX1_fitLink_56 rfl (by decide) rfl rfl ?_
            refine v_goto hE 18 dX1_fitLink_59 (by decide) ?_
            refine vV.sub [1, 2, 3, 4, 5, 0] rfl ?_
            exact ih18 _ _ (by omega) (by first | (rw [hf]; exact mixN_skip (by unfold linkG; rw [c32]; rfl)) | (rw [hf, ← mixN_s]; congr 1; unfold linkG; rw [c32]; rfl)) (by omega)
          · refine v_aload_n 36 hE dX1_fitLink_35 rfl rfl ?_
            refine gX_values 39 hE f_0 f_1 dX1_fitLink_36 rfl ?_
            refine v_iload 41 hE dX1_fitLink_39 rfl rfl ?_
            refine v_aload_n 42 hE dX1_fitLink_41 rfl rfl ?_
            refine gX_values 45 hE f_0 f_1 dX1_fitLink_42 rfl ?_
            refine v_iload 47 hE dX1_fitLink_45 rfl rfl ?_
            refine lX_val 48 hE (by omega) dX1_fitLink_47 rfl ?_
            show vV K (gX Y) _ _ (.long ((f) _) :: _) _
            rw [show f i = x_val u i by rw [hf]; exact mixN_ge (Nat.le_refl i)]
            refine v_iload_n 49 hE dX1_fitLink_48 rfl rfl ?_
            refine v_i2l 50 hE dX1_fitLink_49 rfl ?_
            refine v_lload 52 hE dX1_fitLink_50 rfl rfl ?_
            refine v_clE 55 hE (v_runS 3 hE (vSub.self hE) (kX1_scaled _ Y _ _ _ _) gX1_fitLink_X1_scaled rfl (by decide +kernel) rfl ⟨rfl, rfl, by decide, by decide⟩ rfl (Nat.le_of_ble_eq_true rfl) dX1_fitLink_52) rfl ?_
            refine sX_val 56 hE (by omega) dX1_fitLink_55 rfl ?_
            refine v_iincN 59 hE [_, _, _, _, _, _] dX1_fitLink_56 rfl (by decide) rfl rfl ?_
            refine v_goto hE 18 dX1_fitLink_59 (by decide) ?_
            refine vV.sub [1, 2, 3, 4, 5, 0] rfl ?_
            exact ih18 _ _ (by omega) (by first | (rw [hf]; exact mixN_skip (by unfold linkG; rw [c32]; rfl)) | (rw [hf, ← mixN_s]; congr 1; unfold linkG; rw [c32]; rfl)) (by omega)
    exact L18 (25 + 1) 0 (x_val u) (by omega) (mixN_0 _ _).symm (by omega)
set_option maxRecDepth 100000 in
set_option maxHeartbeats 4000000 in
theorem kX1_fitOnceToLinks (l : Launch) (Y : yG) (u : XS)  (hok : okN u) : mV l (gX Y) yX1_fitOnceToLinks wsX1_fitOnceToLinks ({ frames := 3, cells := 0, slots := 0, locals := 74 }) [.ref (yA Y 5), .ref (yA Y 1), .ref (yA Y 3)] u (xs_val u (fitK (uUses (x_len u) (x_lnk u)) (x_load u) (x_m u) (x_val u))) := by
  obtain ⟨hn, hm, hsrc, htgt, hmet, hlen, hlnk⟩ := id hok
  refine mV_of (cc := cX1_fitOnceToLinks) (nL := 4) (own := RX1) (by decide) rfl rfl (fun v => cX_geo Y _ v) (Nat.le_of_ble_eq_true rfl) ?_
  intro K hKl hE hret
  have f_0 : ∀ w ∈ u_ws RX3 TX3 8, w ∈ wsX1_fitOnceToLinks := by decide +kernel
  have f_1 : Cond.fieldLink RX1 61 "TrafficMatrix$Network" "linkCount" "I" ∈ wsX1_fitOnceToLinks := by decide +kernel
  have f_2 : ∀ w ∈ u_ws RX2 TX2 4, w ∈ wsX1_fitOnceToLinks := by decide +kernel
  have f_3 : Cond.fieldLink RX1 65 "TrafficMatrix$Measurements" "loads" "[I" ∈ wsX1_fitOnceToLinks := by decide +kernel
  show vV K (gX Y) u [(0, .ref (yA Y 5)), (1, .ref (yA Y 1)), (2, .ref (yA Y 3))] [] 0
  refine v_iconst 1 hE (v := nI 0) dX1_fitOnceToLinks_0 (by decide) rfl ?_
  refine v_istore_n 2 hE [_, _, _, _] dX1_fitOnceToLinks_1 rfl (by decide) rfl rfl ?_
  refine vV.sub [1, 2, 3, 0] rfl ?_
  have L2 : ∀ (n2 : Nat) (i : Nat) (f : Nat → Int64), (i ≤ x_m u) → (f = fitK (uUses (x_len u) (x_lnk u)) (x_load u) i (x_val u)) → x_m u + 1 ≤ i + n2 → vV K (gX Y) (xs_val u f) [(0, .ref (yA Y 5)), (1, .ref (yA Y 1)), (2, .ref (yA Y 3)), (3, .int (nI i))] [] 2 := by
    intro n2
    induction n2 with
    | zero => intro i f hi hf hfu2; exact absurd hfu2 (by omega)
    | succ n2 ih2 =>
      intro i f hi hf hfu2
      refine v_iload_n 3 hE dX1_fitOnceToLinks_2 rfl rfl ?_
      refine v_aload_n 4 hE dX1_fitOnceToLinks_3 rfl rfl ?_
      refine gX_linkCount 7 hE f_0 f_1 dX1_fitOnceToLinks_4 rfl ?_
      show vV K (gX Y) _ _ (.int (nI (x_m u)) :: _) _
      refine v_ic_geN 10 hE 28 dX1_fitOnceToLinks_7 (by decide) (by omega) (by omega) rfl (fun c7 => ?_) (fun c7 => ?_)
      · exact (hret _ _ dX1_fitOnceToLinks_28).cast (by rw [hf, show i = x_m u by omega]) rfl
      · refine v_aload_n 11 hE dX1_fitOnceToLinks_10 rfl rfl ?_
        refine v_aload_n 12 hE dX1_fitOnceToLinks_11 rfl rfl ?_
        refine v_iload_n 13 hE dX1_fitOnceToLinks_12 rfl rfl ?_
        refine v_aload_n 14 hE dX1_fitOnceToLinks_13 rfl rfl ?_
        refine gX_loads 17 hE f_2 f_3 dX1_fitOnceToLinks_14 rfl ?_
        refine v_iload_n 18 hE dX1_fitOnceToLinks_17 rfl rfl ?_
        refine lX_load 19 hE (by omega) dX1_fitOnceToLinks_18 rfl ?_
        show vV K (gX Y) _ _ (.int ((x_load u) _) :: _) _
        refine v_cvE 22 hE (v_runV 3 hE (vSub.self hE) (kX1_fitLink _ Y (xs_val u f) _ _ hok (by omega)) gX1_fitOnceToLinks_X1_fitLink rfl (by decide +kernel) rfl (q0 := 5) rfl rfl ⟨rfl, rfl, by decide, by decide⟩ rfl (Nat.le_of_ble_eq_true rfl) dX1_fitOnceToLinks_19) rfl ?_
        refine v_iincN 25 hE [_, _, _, _] dX1_fitOnceToLinks_22 rfl (by decide) rfl rfl ?_
        refine v_goto hE 2 dX1_fitOnceToLinks_25 (by decide) ?_
        refine vV.sub [1, 2, 3, 0] rfl ?_
        exact ih2 _ _ (by omega) (by rw [hf]; rfl) (by omega)
  exact L2 (x_m u + 1) 0 (x_val u) (by omega) rfl (by omega)
