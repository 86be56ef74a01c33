/-! the constructor of TrafficMatrix -/
abbrev uZ0 : XS := ((0, 0, fun _ => 0, fun _ => 0, fun _ => 0, fun _ => 0, fun _ _ => 0, fun _ => 0), (fun _ => 0), (fun _ => 0, fun _ => 0, fun _ => 0, fun _ => 0), (0, 0, 0, 0, fun _ _ => 0, fun _ => some 0, fun _ => some 0, fun _ => false), (fun _ => 0, fun _ => 0))
/-- the class, new -/
abbrev uZ : XS := xs_pv (xs_inn (xs_out (xs_load (xs_len (xs_m (xs_n uZ0 3) 0) (fun _ => 0)) (fun _ => 0)) (fun _ => 0)) (fun _ => 0)) (fun _ => -1)
abbrev yZ (D : va_G) (C : Nat → ClassId) (h0 : Nat) (a : (Nat → Nat) × (Nat → Nat) × (Nat → Nat)) : yG := (D, C, nZ h0 a.1, a.2.1, a.2.2)
theorem cX_geo2 {Y : yG} {A : Nat → Prop} {u : XS} (h : va_D A (cX Y u)) (v : XS) : va_D A (cX Y v) := vD_geo (cX_geo Y u v) h
set_option maxRecDepth 100000 in
set_option maxHeartbeats 4000000 in
theorem kX4_init (l : Launch) (D : va_G) (C : Nat → ClassId) (h0 : Nat) : mC l D (tT C) nsA yX4_init wsX4_init ({ frames := 2, cells := 58, slots := 721, locals := 44 }) h0 4 [.null, .null, .null, .null, .null] (fun a : (Nat → Nat) × (Nat → Nat) × (Nat → Nat) => cX (yZ D C h0 a) uZ) 58 721 := by
  refine mC_of (cc := cX4_init) (own := RX4) (by decide) rfl rfl rfl ?_
  intro P1 P2 P3 A Q hKl hnm hai hal hE hret
  have f_0 : ∀ w ∈ u_ws RX4 TX4 5, w ∈ wsX4_init := by decide +kernel
  have f_1 : ∀ w ∈ u_ws RX3 TX3 8, w ∈ wsX4_init := by decide +kernel
  have f_2 : ∀ w ∈ u_ws RX2 TX2 4, w ∈ wsX4_init := by decide +kernel
  have f_3 : ∀ w ∈ u_ws RX0 TX0 8, w ∈ wsX4_init := by decide +kernel
  have f_4 : ∀ w ∈ u_ws RX1 TX1 2, w ∈ wsX4_init := by decide +kernel
  refine v_aload_n 1 hE dX4_init_0 rfl rfl ?_
  refine v_obj (idx := 5) 4 hE (by decide +kernel) (by decide +kernel) (by decide +kernel) (Nat.le_of_ble_eq_true rfl) (Nat.le_of_ble_eq_true rfl) (Nat.le_of_ble_eq_true rfl) dX4_init_1 rfl ?_
  refine v_aload_n 5 hE dX4_init_4 rfl rfl ?_
  refine v_newc 8 hE (C := RX3) (TT := TX3) (N := 8) (ci := 3) f_1 tyX3 tyX3_ok (by decide +kernel) (by decide +kernel) (by decide +kernel) rfl (fs := [.int 0, .int 0, .null, .null, .null, .null, .null, .null]) (fun j hj => by rcases (show j = 0 ∨ j = 1 ∨ j = 2 ∨ j = 3 ∨ j = 4 ∨ j = 5 ∨ j = 6 ∨ j = 7 by omega) with rfl | rfl | rfl | rfl | rfl | rfl | rfl | rfl <;> rfl) (Nat.le_of_ble_eq_true rfl) (Nat.le_of_ble_eq_true rfl) dX4_init_5 rfl (fun q1 hE => ?_)
  refine v_dup 9 hE dX4_init_8 rfl rfl ?_
  refine v_ccN (ws := (h0, .inr (4, [.null, .null, .null, .null, .null])) :: []) (st := [.ref q1, .ref h0]) 12 hE hai hal (by rw [hKl]; exact kX3_init l D C q1) gX4_init_X3_init_n13 (host := "TrafficMatrix") (by decide) (by decide +kernel) (by decide +kernel) rfl (by decide +kernel) rfl ⟨rfl, rfl, by decide, by decide⟩ (Nat.le_of_ble_eq_true rfl) (Nat.le_of_ble_eq_true rfl) (Nat.le_of_ble_eq_true rfl) dX4_init_9 rfl (fun a1 hE => ?_)
  refine v_putF 15 hE hnm f_0 tyX4 tyX4_ok nmX4 0 (fs := [.null, .null, .null, .null, .null]) rfl (ci := 4) rfl 0 (by decide) (by decide +kernel) rfl rfl (ty := .object "TrafficMatrix$Network") (by decide +kernel) rfl rfl (Nat.le_of_ble_eq_true rfl) (ws' := (h0, .inr (4, [.ref q1, .null, .null, .null, .null])) :: (netW C q1 a1.1 a1.2)) rfl dX4_init_12 rfl (fun hE => ?_)
  refine v_aload_n 16 hE dX4_init_15 rfl rfl ?_
  refine v_bipush 18 hE (v := 25) dX4_init_16 (by decide) rfl ?_
  refine v_newa (atype := .int) (ty := .int) 20 hE rfl (by decide +kernel) (t0 := 0) rfl (N := 25) (a0 := (25, .inl (fun _ => 0))) (fun _ => rfl) (by decide) (by decide) (Nat.le_of_ble_eq_true rfl) (Nat.le_of_ble_eq_true rfl) (Nat.le_of_ble_eq_true rfl) dX4_init_18 rfl (fun q2 hE => ?_)
  refine v_putF 23 hE hnm f_0 tyX4 tyX4_ok nmX4 0 (fs := [.ref q1, .null, .null, .null, .null]) rfl (ci := 4) rfl 1 (by decide) (by decide +kernel) rfl rfl (ty := .array .int) (by decide +kernel) rfl rfl (Nat.le_of_ble_eq_true rfl) (ws' := (h0, .inr (4, [.ref q1, .ref q2, .null, .null, .null])) :: ((netW C q1 a1.1 a1.2) ++ [(q2, .inl (C 0, 25, .inl (fun _ => 0)))])) rfl dX4_init_20 rfl (fun hE => ?_)
  refine v_aload_n 24 hE dX4_init_23 rfl rfl ?_
  refine v_newc 27 hE (C := RX2) (TT := TX2) (N := 4) (ci := 2) f_2 tyX2 tyX2_ok (by decide +kernel) (by decide +kernel) (by decide +kernel) rfl (fs := [.null, .null, .null, .null]) (fun j hj => by rcases (show j = 0 ∨ j = 1 ∨ j = 2 ∨ j = 3 by omega) with rfl | rfl | rfl | rfl <;> rfl) (Nat.le_of_ble_eq_true rfl) (Nat.le_of_ble_eq_true rfl) dX4_init_24 rfl (fun q3 hE => ?_)
  refine v_dup 28 hE dX4_init_27 rfl rfl ?_
  refine v_ccN (ws := (h0, .inr (4, [.ref q1, .ref q2, .null, .null, .null])) :: ((netW C q1 a1.1 a1.2) ++ [(q2, .inl (C 0, 25, .inl (fun _ => 0)))])) (st := [.ref q3, .ref h0]) 31 hE hai hal (by rw [hKl]; exact kX2_init l D C q3) gX4_init_X2_init_n24 (host := "TrafficMatrix") (by decide) (by decide +kernel) (by decide +kernel) rfl (by decide +kernel) rfl ⟨rfl, rfl, by decide, by decide⟩ (Nat.le_of_ble_eq_true rfl) (Nat.le_of_ble_eq_true rfl) (Nat.le_of_ble_eq_true rfl) dX4_init_28 rfl (fun a3 hE => ?_)
  refine v_putF 34 hE hnm f_0 tyX4 tyX4_ok nmX4 0 (fs := [.ref q1, .ref q2, .null, .null, .null]) rfl (ci := 4) rfl 2 (by decide) (by decide +kernel) rfl rfl (ty := .object "TrafficMatrix$Measurements") (by decide +kernel) rfl rfl (Nat.le_of_ble_eq_true rfl) (ws' := (h0, .inr (4, [.ref q1, .ref q2, .ref q3, .null, .null])) :: (((netW C q1 a1.1 a1.2) ++ [(q2, .inl (C 0, 25, .inl (fun _ => 0)))]) ++ meaW C q3 a3)) rfl dX4_init_31 rfl (fun hE => ?_)
  refine v_aload_n 35 hE dX4_init_34 rfl rfl ?_
  refine v_newc 38 hE (C := RX0) (TT := TX0) (N := 8) (ci := 0) f_3 tyX0 tyX0_ok (by decide +kernel) (by decide +kernel) (by decide +kernel) rfl (fs := [.int 0, .int 0, .int 0, .long 0, .null, .null, .null, .null]) (fun j hj => by rcases (show j = 0 ∨ j = 1 ∨ j = 2 ∨ j = 3 ∨ j = 4 ∨ j = 5 ∨ j = 6 ∨ j = 7 by omega) with rfl | rfl | rfl | rfl | rfl | rfl | rfl | rfl <;> rfl) (Nat.le_of_ble_eq_true rfl) (Nat.le_of_ble_eq_true rfl) dX4_init_35 rfl (fun q4 hE => ?_)
  refine v_dup 39 hE dX4_init_38 rfl rfl ?_
  refine v_ccN (ws := (h0, .inr (4, [.ref q1, .ref q2, .ref q3, .null, .null])) :: (((netW C q1 a1.1 a1.2) ++ [(q2, .inl (C 0, 25, .inl (fun _ => 0)))]) ++ meaW C q3 a3)) (st := [.ref q4, .ref h0]) 42 hE hai hal (by rw [hKl]; exact kX0_init l D C q4) gX4_init_X0_init_n31 (host := "TrafficMatrix") (by decide) (by decide +kernel) (by decide +kernel) rfl (by decide +kernel) rfl ⟨rfl, rfl, by decide, by decide⟩ (Nat.le_of_ble_eq_true rfl) (Nat.le_of_ble_eq_true rfl) (Nat.le_of_ble_eq_true rfl) dX4_init_39 rfl (fun a4 hE => ?_)
  refine v_putF 45 hE hnm f_0 tyX4 tyX4_ok nmX4 0 (fs := [.ref q1, .ref q2, .ref q3, .null, .null]) rfl (ci := 4) rfl 3 (by decide) (by decide +kernel) rfl rfl (ty := .object "TrafficMatrix$Equations") (by decide +kernel) rfl rfl (Nat.le_of_ble_eq_true rfl) (ws' := (h0, .inr (4, [.ref q1, .ref q2, .ref q3, .ref q4, .null])) :: ((((netW C q1 a1.1 a1.2) ++ [(q2, .inl (C 0, 25, .inl (fun _ => 0)))]) ++ meaW C q3 a3) ++ eqsW C q4 a4.1 a4.2)) rfl dX4_init_42 rfl (fun hE => ?_)
  refine v_aload_n 46 hE dX4_init_45 rfl rfl ?_
  refine v_newc 49 hE (C := RX1) (TT := TX1) (N := 2) (ci := 1) f_4 tyX1 tyX1_ok (by decide +kernel) (by decide +kernel) (by decide +kernel) rfl (fs := [.null, .null]) (fun j hj => by rcases (show j = 0 ∨ j = 1 by omega) with rfl | rfl <;> rfl) (Nat.le_of_ble_eq_true rfl) (Nat.le_of_ble_eq_true rfl) dX4_init_46 rfl (fun q5 hE => ?_)
  refine v_dup 50 hE dX4_init_49 rfl rfl ?_
  refine v_ccN (ws := (h0, .inr (4, [.ref q1, .ref q2, .ref q3, .ref q4, .null])) :: ((((netW C q1 a1.1 a1.2) ++ [(q2, .inl (C 0, 25, .inl (fun _ => 0)))]) ++ meaW C q3 a3) ++ eqsW C q4 a4.1 a4.2)) (st := [.ref q5, .ref h0]) 53 hE hai hal (by rw [hKl]; exact kX1_init l D C q5) gX4_init_X1_init_n38 (host := "TrafficMatrix") (by decide) (by decide +kernel) (by decide +kernel) rfl (by decide +kernel) rfl ⟨rfl, rfl, by decide, by decide⟩ (Nat.le_of_ble_eq_true rfl) (Nat.le_of_ble_eq_true rfl) (Nat.le_of_ble_eq_true rfl) dX4_init_50 rfl (fun a5 hE => ?_)
  refine v_putF 56 hE hnm f_0 tyX4 tyX4_ok nmX4 0 (fs := [.ref q1, .ref q2, .ref q3, .ref q4, .null]) rfl (ci := 4) rfl 4 (by decide) (by decide +kernel) rfl rfl (ty := .object "TrafficMatrix$Estimates") (by decide +kernel) rfl rfl (Nat.le_of_ble_eq_true rfl) (ws' := (h0, .inr (4, [.ref q1, .ref q2, .ref q3, .ref q4, .ref q5])) :: (((((netW C q1 a1.1 a1.2) ++ [(q2, .inl (C 0, 25, .inl (fun _ => 0)))]) ++ meaW C q3 a3) ++ eqsW C q4 a4.1 a4.2) ++ estW C q5 a5)) rfl dX4_init_53 rfl (fun hE => ?_)
  obtain ⟨a, ha⟩ : ∃ a : (Nat → Nat) × (Nat → Nat) × (Nat → Nat), a = (fun i => [q1, q2, q3, q4, q5, a1.1 0, a1.1 1, a1.1 2, a1.1 3, a1.1 4, a1.1 5, a3 0, a3 1, a3 2, a3 3, a4.1 0, a4.1 1, a4.1 2, a4.1 3, a5 0, a5 1].getD i 0, a1.2, a4.2) := ⟨_, rfl⟩
  obtain ⟨Y, hY⟩ : ∃ Y, Y = yZ D C h0 a := ⟨_, rfl⟩
  have hsub : ∀ H : Heap, va_P D vwCl ((h0, .inr (4, [.ref q1, .ref q2, .ref q3, .ref q4, .ref q5])) :: (((((netW C q1 a1.1 a1.2) ++ [(q2, .inl (C 0, 25, .inl (fun _ => 0)))]) ++ meaW C q3 a3) ++ eqsW C q4 a4.1 a4.2) ++ estW C q5 a5)) H → va_P D vwCl (cX Y uZ0) H := fun H hP => hP.sub (ws' := cX Y uZ0) [0, 1, 33, 34, 39, 56, 2, 3, 4, 5, 6, 32, 35, 36, 37, 38, 40, 53, 54, 55, 57, 58, 7, 8, 9, 10, 11, 12, 13, 14, 15, 16, 17, 18, 19, 20, 21, 22, 23, 24, 25, 26, 27, 28, 29, 30, 31, 41, 42, 43, 44, 45, 46, 47, 48, 49, 50, 51, 52] (by subst hY; subst ha; rfl)
  have hD0 : va_D A (cX Y uZ0) := (hE.2.2.1 ()).sub (ws' := cX Y uZ0) [0, 1, 33, 34, 39, 56, 2, 3, 4, 5, 6, 32, 35, 36, 37, 38, 40, 53, 54, 55, 57, 58, 7, 8, 9, 10, 11, 12, 13, 14, 15, 16, 17, 18, 19, 20, 21, 22, 23, 24, 25, 26, 27, 28, 29, 30, 31, 41, 42, 43, 44, 45, 46, 47, 48, 49, 50, 51, 52] (by decide) (by subst hY; subst ha; rfl)
  have hYD : Y.1 = D := by subst hY; rfl
  have hYC : yC Y = C := by subst hY; rfl
  have hY0 : yA Y 0 = h0 := by subst hY; rfl
  have hE9 : eV (((P1, P2, P3, (58, 721)), A, 1, Q) : vK) (gX Y) cX4_init 1 RX4 wsX4_init ({ frames := 2, cells := 58, slots := 721, locals := 44 }) := ⟨hE.1, by subst hY; exact hE.2.1, fun u => cX_geo2 hD0 u, hE.2.2.2.1, fun q hq => hE.2.2.2.2.1 q (List.mem_append_left _ hq), hE.2.2.2.2.2⟩
  have go : vV (((P1, P2, P3, (58, 721)), A, 1, Q) : vK) (gX Y) uZ0 [(0, .ref (yA Y 0))] [] 56 := by
    have f_6 : Cond.fieldLink RX4 14 "TrafficMatrix" "network" "LTrafficMatrix$Network;" ∈ wsX4_init := by decide +kernel
    have f_7 : Cond.fieldLink RX4 25 "TrafficMatrix" "measurements" "LTrafficMatrix$Measurements;" ∈ wsX4_init := by decide +kernel
    refine v_aload_n 57 hE9 dX4_init_56 rfl rfl ?_
    refine gX_network 60 hE9 f_0 f_6 dX4_init_57 rfl ?_
    refine v_iconst 61 hE9 (v := nI 3) dX4_init_60 (by decide) rfl ?_
    refine v_cvE 64 hE9 (v_runV 1 hE9 (vSub.self hE9) (kX3_startAnew _ Y _ _) gX4_init_X3_startAnew rfl (by decide +kernel) rfl (q0 := 1) rfl rfl ⟨rfl, rfl, by decide, by decide⟩ rfl (Nat.le_of_ble_eq_true rfl) dX4_init_61) rfl ?_
    refine v_aload_n 65 hE9 dX4_init_64 rfl rfl ?_
    refine gX_measurements 68 hE9 f_0 f_7 dX4_init_65 rfl ?_
    refine v_cvE 71 hE9 (v_runV 0 hE9 (vSub.self hE9) (kX2_startAnew _ Y _) gX4_init_X2_startAnew rfl (by decide +kernel) rfl (q0 := 3) rfl rfl ⟨rfl, rfl, by decide, by decide⟩ rfl (Nat.le_of_ble_eq_true rfl) dX4_init_68) rfl ?_
    have hE8 : eV (((P1, P2, P3, (58, 721)), A, 1, Q) : vK) (gU D (tT C) nsA (cX Y uZ)) cX4_init 1 RX4 wsX4_init ({ frames := 2, cells := 58, slots := 721, locals := 44 }) := eV_set hE (cX_geo2 hD0 uZ)
    subst hY
    exact hret a _ _ hE8 dX4_init_71
  intro H locs ls hP hS hl
  subst hY
  exact go H locs ls (hsub H hP) hS hl
