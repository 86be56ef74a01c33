/-! the law from its entry, and the claim -/
theorem aover_spec {args : Array Value} {first s : State} {o : Option Outcome} {idx : List Nat} {ty : FieldType} (h : (Cond.arrayOver (.array ty)).holds args first o s idx = true) : ∃ c k comp, s.vm.findClass ("[" ++ (FieldType.array ty).toString) = some c ∧ s.vm.classes[c]? = some k ∧ k.kind = .array comp (.array ty) := by
  simp only [Cond.holds, Cond.value, beq_iff_eq] at h
  cases hc : s.vm.findClass (FieldType.array ty).toString with
  | none => simp [hc] at h
  | some comp =>
    simp only [hc, Option.bind_some, Option.bind_eq_some_iff, Option.map_eq_some_iff] at h
    obtain ⟨c, hi, k, hk, hb⟩ := h
    cases hkind : k.kind with
    | array component ty2 =>
      rw [hkind] at hb
      simp at hb
      exact ⟨c, k, component, hb.2, hk, by rw [hkind, hb.1]⟩
    | _ => rw [hkind] at hb; simp at hb
theorem arr_known {s : State} {cA : ClassId} {k : Class} {comp : ClassId} {ty : FieldType} (hk : s.vm.classes[cA]? = some k) (hkk : k.kind = .array comp ty) : ArrOfT s cA ty := fun _ _ => ⟨(fun q hq => by cases hq), k, hk, comp, hkk⟩
theorem law_T {s : State} {args : Array Value} (h0 : (Cond.arrayClass .int).before args s = true) (h1 : (Cond.arrayClass .long).before args s = true) (h2 : (Cond.arrayClass .boolean).before args s = true) (h3 : (Cond.arrayOver (.array .int)).before args s = true) (h4 : (Cond.arrayOver (.array .long)).before args s = true) : ∃ C : Nat → ClassId, ∀ (k : Nat) (q : ClassId × FieldType), (tT C)[k]? = some q → ArrOfT s q.1 q.2 ∧ va_RA s q.1 q.2 := by
  obtain ⟨c0, k0, m0, a0, b0, e0⟩ := Cond.arrayClass_spec h0
  obtain ⟨c1, k1, m1, a1, b1, e1⟩ := Cond.arrayClass_spec h1
  obtain ⟨c2, k2, m2, a2, b2, e2⟩ := Cond.arrayClass_spec h2
  obtain ⟨c3, k3, m3, a3, b3, e3⟩ := aover_spec h3
  obtain ⟨c4, k4, m4, a4, b4, e4⟩ := aover_spec h4
  refine ⟨fun k => if k = 0 then c0 else if k = 1 then c1 else if k = 2 then c2 else if k = 3 then c3 else c4, ?_⟩
  intro k q hq
  match k, hq with
  | 0, hq => cases hq; exact ⟨arr_known b0 e0, a0⟩
  | 1, hq => cases hq; exact ⟨arr_known b1 e1, a1⟩
  | 2, hq => cases hq; exact ⟨arr_known b2 e2, a2⟩
  | 3, hq => cases hq; exact ⟨arr_known b3 e3, a3⟩
  | 4, hq => cases hq; exact ⟨arr_known b4 e4, a4⟩
  | k + 5, hq => simp at hq
theorem law_K {s : State} {args : Array Value} (hw : ∀ w ∈ wsL_law, w.before args s = true) : ∃ (dC : Nat → ClassId) (dI : Nat → Nat → Nat), ∀ (k : Nat) (q : vw_C), vwCl[k]? = some q → u_Kn s q.1 q.2.1 q.2.2 (dC k) (dI k) := by
  obtain ⟨c0, i0, h0⟩ := u_known (C := RX0) (T := TX0) (N := 8) (n := 8) hw inlX0 (hw (.instantiable RX0 8) (by decide +kernel))
  obtain ⟨c1, i1, h1⟩ := u_known (C := RX1) (T := TX1) (N := 2) (n := 2) hw inlX1 (hw (.instantiable RX1 2) (by decide +kernel))
  obtain ⟨c2, i2, h2⟩ := u_known (C := RX2) (T := TX2) (N := 4) (n := 4) hw inlX2 (hw (.instantiable RX2 4) (by decide +kernel))
  obtain ⟨c3, i3, h3⟩ := u_known (C := RX3) (T := TX3) (N := 8) (n := 8) hw inlX3 (hw (.instantiable RX3 8) (by decide +kernel))
  obtain ⟨c4, i4, h4⟩ := u_known (C := RX4) (T := TX4) (N := 5) (n := 5) hw inlX4 (hw (.instantiable RX4 5) (by decide +kernel))
  obtain ⟨c5, i5, h5⟩ := u_known (C := RX5) (T := TX5) (N := 20) (n := 20) hw inlX5 (hw (.instantiable RX5 20) (by decide +kernel))
  refine ⟨fun k => if k = 0 then c0 else if k = 1 then c1 else if k = 2 then c2 else if k = 3 then c3 else if k = 4 then c4 else c5, fun k => if k = 0 then i0 else if k = 1 then i1 else if k = 2 then i2 else if k = 3 then i3 else if k = 4 then i4 else i5, ?_⟩
  intro k q hq
  match k, hq with
  | 0, hq => cases hq; exact h0
  | 1, hq => cases hq; exact h1
  | 2, hq => cases hq; exact h2
  | 3, hq => cases hq; exact h3
  | 4, hq => cases hq; exact h4
  | 5, hq => cases hq; exact h5
  | k + 6, hq => simp at hq
set_option maxRecDepth 100000 in
theorem law_N : ∀ q ∈ nsA, Cond.methodLinkNest q.1 q.2.1 q.2.2.1 q.2.2.2 ∈ lw_tbl := by decide +kernel
set_option maxRecDepth 100000 in
theorem law_ao : Cond.arrayOver (.array .int) ∈ lw_tbl ∧ Cond.arrayOver (.array .long) ∈ lw_tbl := ⟨by decide +kernel, by decide +kernel⟩
set_option maxRecDepth 100000 in
theorem law_ac : Cond.arrayClass .int ∈ lw_tbl ∧ Cond.arrayClass .long ∈ lw_tbl ∧ Cond.arrayClass .boolean ∈ lw_tbl := ⟨by decide +kernel, by decide +kernel, by decide +kernel⟩
set_option maxRecDepth 100000 in
set_option maxHeartbeats 4000000 in
theorem law_walk {P1 : Program × Launch × Env × Room} {P2 : State × MethodId × Array Value × List Frame} {P3 : Method × Code} {A : Nat → Prop} {Q : State → Prop} {l : Launch} {D : va_G} {C : Nat → ClassId} {b L : Nat} {xs : Nat → Int32} (hKl : P1.2.1 = l) (hai : va_AOA .int P2.1) (hal : va_AOA .long P2.1) (hE : eV (((P1, P2, P3, (0, 0)), A, 4, Q) : vK) (gU D (tT C) nsA []) cL_law 4 RL wsL_law room_1) (hC : scrA (((P1, P2, P3, (76, 1341)), A, 4, Q) : vK) b L xs) (hL : L ≤ 2048)
    (hret : ∀ (S : Type) (G : vG S) (v : S) (lv : List (Nat × Value)), eV (((P1, P2, P3, (76, 1341)), A, 4, Q) : vK) G cL_law 4 RL wsL_law room_1 → vV (((P1, P2, P3, (76, 1341)), A, 4, Q) : vK) G v lv [] 895) : vV (((P1, P2, P3, (0, 0)), A, 4, Q) : vK) (gU D (tT C) nsA []) () [(0, .ref b)] [] 0 := by
  refine v_newc 3 hE (C := RX4) (TT := TX4) (N := 5) (ci := 4) inlX4 tyX4 tyX4_ok (by decide +kernel) (by decide +kernel) (by decide +kernel) rfl (fs := [.null, .null, .null, .null, .null]) (fun j hj => by rcases (show j = 0 ∨ j = 1 ∨ j = 2 ∨ j = 3 ∨ j = 4 by omega) with rfl | rfl | rfl | rfl | rfl <;> rfl) (Nat.le_of_ble_eq_true rfl) (Nat.le_of_ble_eq_true rfl) dL_law_0 rfl (fun x0 hE => ?_)
  refine v_dup 4 hE dL_law_3 rfl rfl ?_
  refine v_ccI (ws := []) (st := [.ref x0]) 7 hE hai hal (by rw [hKl]; exact kX4_init l D C x0) gL_law_X4_init (by decide +kernel) (by decide +kernel) (by decide +kernel) rfl (by decide +kernel) rfl ⟨rfl, rfl, by decide, by decide⟩ (Nat.le_of_ble_eq_true rfl) (Nat.le_of_ble_eq_true rfl) (Nat.le_of_ble_eq_true rfl) dL_law_4 rfl (fun ax hE => ?_)
  refine v_astore_n 8 hE [(1, .ref x0), (0, .ref b)] dL_law_7 rfl (by decide) rfl rfl ?_
  refine v_newc 11 hE (C := RX5) (TT := TX5) (N := 20) (ci := 5) inlX5 tyX5 tyX5_ok (by decide +kernel) (by decide +kernel) (by decide +kernel) rfl (fs := [.int 0, .int 0, .null, .null, .null, .null, .null, .null, .null, .null, .null, .null, .null, .null, .null, .int 0, .int 0, .null, .null, .null]) (fun j hj => by rcases (show j = 0 ∨ j = 1 ∨ j = 2 ∨ j = 3 ∨ j = 4 ∨ j = 5 ∨ j = 6 ∨ j = 7 ∨ j = 8 ∨ j = 9 ∨ j = 10 ∨ j = 11 ∨ j = 12 ∨ j = 13 ∨ j = 14 ∨ j = 15 ∨ j = 16 ∨ j = 17 ∨ j = 18 ∨ j = 19 by omega) with rfl | rfl | rfl | rfl | rfl | rfl | rfl | rfl | rfl | rfl | rfl | rfl | rfl | rfl | rfl | rfl | rfl | rfl | rfl | rfl <;> rfl) (Nat.le_of_ble_eq_true rfl) (Nat.le_of_ble_eq_true rfl) dL_law_8 rfl (fun m0 hE => ?_)
  refine v_dup 12 hE dL_law_11 rfl rfl ?_
  refine v_ccI (st := [.ref m0]) 15 hE hai hal (by rw [hKl]; exact kX5_init l D C m0) gL_law_X5_init (by decide +kernel) (by decide +kernel) (by decide +kernel) rfl (by decide +kernel) rfl ⟨rfl, rfl, by decide, by decide⟩ (Nat.le_of_ble_eq_true rfl) (Nat.le_of_ble_eq_true rfl) (Nat.le_of_ble_eq_true rfl) dL_law_12 rfl (fun am hE => ?_)
  refine v_astore_n 16 hE [(2, .ref m0), (1, .ref x0), (0, .ref b)] dL_law_15 rfl (by decide) rfl rfl ?_
  refine v_iconst 17 hE (v := nI 0) dL_law_16 (by decide) rfl ?_
  refine v_istore_n 18 hE [(3, .int (nI 0)), (2, .ref m0), (1, .ref x0), (0, .ref b)] dL_law_17 rfl (by decide) rfl rfl ?_
  have hE9 : eV (((P1, P2, P3, (76, 1341)), A, 4, Q) : vK) (gL D C x0 ax m0 am) cL_law 4 RL wsL_law room_1 := ⟨hE.1, hE.2.1, fun v => vD_geo (w := cX (yZ D C x0 ax) uZ ++ cM (yM D C m0 am) mZ) (by
    show (cX (yZ D C x0 ax) v.1 ++ cM (yM D C m0 am) v.2).map Prod.fst = _
    have e1 : (cX (yZ D C x0 ax) v.1).map Prod.fst = (cX (yZ D C x0 ax) uZ).map Prod.fst := cX_geo _ _ _
    have e2 : (cM (yM D C m0 am) v.2).map Prod.fst = (cM (yM D C m0 am) mZ).map Prod.fst := cM_geo _ _ _
    rw [List.map_append, List.map_append, e1, e2]) (hE.2.2.1 ()), hE.2.2.2.1, hE.2.2.2.2.1, hE.2.2.2.2.2⟩
  intro H locs ls hP hS hl
  exact law_loop hKl hE9 hC hL (fun i u w => hret _ _ _ _ hE9) (L + 1) 0 (Nat.zero_le _) (by omega) uZ mZ lw_Rel0 H locs ls hP hS hl
