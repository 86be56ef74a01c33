/-! TrafficMatrixModel: the equations laid out and reduced -/
theorem clA_s {k p o : Nat} {R : Nat → Nat → Int64} (h : o = k) : clA k p R (o + 1) = clA k p R o := if_pos h
theorem clA_c {k p o : Nat} {R : Nat → Nat → Int64} (h : ¬ o = k) : clA k p R (o + 1) = va_up (clA k p R o) o (shF (clF (clA k p R o) k p o)) := if_neg h
set_option maxRecDepth 100000 in
set_option maxHeartbeats 4000000 in
theorem kX5_laysOut (l : Launch) (Y : yG) (u : MS) (ex : Option Nat) (hok : okM u) (hb : ∀ s, s < 25 → w_bits u s < 4096) (hex : ∀ k, ex = some k → k < 25) : mV l (gM Y) yX5_laysOut wsX5_laysOut ({ frames := 1, cells := 0, slots := 0, locals := 22 }) [.ref (yA Y 0), .int (oI (-7) ex)] u (wLay u ex) := by
  obtain ⟨hn2, hn, hm, hsrc, htgt, hmet⟩ := id hok
  refine mV_of (cc := cX5_laysOut) (nL := 8) (own := RX5) (by decide) rfl rfl (fun v => cM_geo Y _ v) (Nat.le_of_ble_eq_true rfl) ?_
  intro K hKl hE hret
  have f_0 : ∀ w ∈ u_ws RX5 TX5 20, w ∈ wsX5_laysOut := by decide +kernel
  have f_1 : Cond.fieldLink RX5 113 "TrafficMatrixModel" "known" "I" ∈ wsX5_laysOut := by decide +kernel
  have f_2 : Cond.fieldLink RX5 68 "TrafficMatrixModel" "links" "I" ∈ wsX5_laysOut := by decide +kernel
  have f_3 : Cond.fieldLink RX5 22 "TrafficMatrixModel" "load" "[I" ∈ wsX5_laysOut := by decide +kernel
  have f_4 : Cond.fieldLink RX5 48 "TrafficMatrixModel" "row" "[J" ∈ wsX5_laysOut := by decide +kernel
  have f_5 : Cond.fieldLink RX5 31 "TrafficMatrixModel" "isMeasured" "[Z" ∈ wsX5_laysOut := by decide +kernel
  have f_6 : Cond.fieldLink RX5 35 "TrafficMatrixModel" "measured" "[I" ∈ wsX5_laysOut := by decide +kernel
  have f_7 : Cond.fieldLink RX5 51 "TrafficMatrixModel" "pivotRow" "[I" ∈ wsX5_laysOut := by decide +kernel
  show vV K (gM Y) u [(0, .ref (yA Y 0)), (1, .int (oI (-7) ex))] [] 0
  refine v_aload_n 1 hE dX5_laysOut_0 rfl rfl ?_
  refine v_iconst 2 hE (v := nI 0) dX5_laysOut_1 (by decide) rfl ?_
  refine pM_known 5 hE f_0 f_1 dX5_laysOut_2 rfl ?_
  refine v_iconst 6 hE (v := nI 0) dX5_laysOut_5 (by decide) rfl ?_
  refine v_istore_n 7 hE [_, _, _] dX5_laysOut_6 rfl (by decide) rfl rfl ?_
  refine vV.sub [1, 2, 0] rfl ?_
  have L7 : ∀ (n7 : Nat) (c : Nat) (i : Nat) (f : Nat → Option Nat), (i ≤ 25) → (c = cntN (fun p => wHas (w_bits u) p && (isX (w_ism u) ex) p) i) → (f = mixN (w_pr u) (fun _ => none) i) → 25 + 1 ≤ i + n7 → vV K (gM Y) (ws_pr (ws_kn u c) f) [(0, .ref (yA Y 0)), (1, .int (oI (-7) ex)), (2, .int (nI i))] [] 7 := by
    intro n7
    induction n7 with
    | zero => intro c i f hi hc hf hfu7; exact absurd hfu7 (by omega)
    | succ n7 ih7 =>
      intro c i f hi hc hf hfu7
      refine v_iload_n 8 hE dX5_laysOut_7 rfl rfl ?_
      refine v_bipush 10 hE (v := nI 25) dX5_laysOut_8 (by decide) rfl ?_
      refine v_ic_geN 13 hE 63 dX5_laysOut_10 (by decide) (by omega) (by omega) rfl (fun c10 => ?_) (fun c10 => ?_)
      · refine v_iconst 64 hE (v := nI 0) dX5_laysOut_63 (by decide) rfl ?_
        refine v_istore_n 65 hE [_, _, _] dX5_laysOut_64 rfl (by decide) rfl rfl ?_
        refine vV.sub [1, 2, 0] rfl ?_
        have L65 : ∀ (n65 : Nat) (k : Nat) (T : Nat → Nat → Int64), (k ≤ w_m u) → (T = mixN (w_row u) (mRow (wUses (w_bits u)) (isX (w_ism u) ex) (w_ism u) (w_mea u) (w_load u) (w_row u)) k) → w_m u + 1 ≤ k + n65 → vV K (gM Y) (ws_row (ws_pr (ws_kn u c) f) T) [(0, .ref (yA Y 0)), (1, .int (oI (-7) ex)), (2, .int (nI k))] [] 65 := by
          intro n65
          induction n65 with
          | zero => intro k T hk hT hfu65; exact absurd hfu65 (by omega)
          | succ n65 ih65 =>
            intro k T hk hT hfu65
            refine v_iload_n 66 hE dX5_laysOut_65 rfl rfl ?_
            refine v_aload_n 67 hE dX5_laysOut_66 rfl rfl ?_
            refine gM_links 70 hE f_0 f_2 dX5_laysOut_67 rfl ?_
            show vV K (gM Y) _ _ (.int (nI (w_m u)) :: _) _
            refine v_ic_geN 73 hE 205 dX5_laysOut_70 (by decide) (by omega) (by omega) rfl (fun c70 => ?_) (fun c70 => ?_)
            · exact (hret _ _ dX5_laysOut_205).cast (by rw [hc, hf, hT, show i = 25 by omega, show k = w_m u by omega]) rfl
            · refine v_aload_n 74 hE dX5_laysOut_73 rfl rfl ?_
              refine gM_load 77 hE f_0 f_3 dX5_laysOut_74 rfl ?_
              refine v_iload_n 78 hE dX5_laysOut_77 rfl rfl ?_
              refine lM_load 79 hE (by omega) dX5_laysOut_78 rfl ?_
              show vV K (gM Y) _ _ (.int ((w_load u) _) :: _) _
              refine v_i2l 80 hE dX5_laysOut_79 rfl ?_
              refine v_lstore_n 81 hE [_, _, _, _] dX5_laysOut_80 rfl (by decide) rfl rfl ?_
              refine v_iconst 82 hE (v := nI 0) dX5_laysOut_81 (by decide) rfl ?_
              refine v_istore 84 hE [_, _, _, _, _] dX5_laysOut_82 (by decide) rfl rfl ?_
              refine vV.sub [2, 3, 4, 1, 0] rfl ?_
              have L84 : ∀ (n84 : Nat) (rs : Int64) (j : Nat) (g : Nat → Int64), (j ≤ 25) → (rs = rstF (wUses (w_bits u)) (w_ism u) (w_mea u) (w_load u) k j) → (g = mixN (w_row u k) (coefF (wUses (w_bits u)) (isX (w_ism u) ex) k) j) → 25 + 1 ≤ j + n84 → vV K (gM Y) (ws_row (ws_pr (ws_kn u c) f) (va_up T k g)) [(0, .ref (yA Y 0)), (1, .int (oI (-7) ex)), (2, .int (nI k)), (3, .long rs), (5, .int (nI j))] [] 84 := by
                intro n84
                induction n84 with
                | zero => intro rs j g hj hrs hg hfu84; exact absurd hfu84 (by omega)
                | succ n84 ih84 =>
                  intro rs j g hj hrs hg hfu84
                  refine v_iload 86 hE dX5_laysOut_84 rfl rfl ?_
                  refine v_bipush 88 hE (v := nI 25) dX5_laysOut_86 (by decide) rfl ?_
                  refine v_ic_geN 91 hE 186 dX5_laysOut_88 (by decide) (by omega) (by omega) rfl (fun c88 => ?_) (fun c88 => ?_)
                  · refine v_aload_n 187 hE dX5_laysOut_186 rfl rfl ?_
                    refine gM_row 190 hE f_0 f_4 dX5_laysOut_187 rfl ?_
                    refine v_bipush 192 hE (v := nI 26) dX5_laysOut_190 (by decide) rfl ?_
                    refine v_iload_n 193 hE dX5_laysOut_192 rfl rfl ?_
                    refine v_imulN 194 hE dX5_laysOut_193 rfl ?_
                    refine v_bipush 196 hE (v := nI 25) dX5_laysOut_194 (by decide) rfl ?_
                    refine v_iaddN 197 hE dX5_laysOut_196 rfl ?_
                    refine v_lload_n 198 hE dX5_laysOut_197 rfl rfl ?_
                    refine sM_row 199 hE (by omega) (by omega) dX5_laysOut_198 rfl ?_
                    refine v_iincN 202 hE [_, _, _, _, _] dX5_laysOut_199 rfl (by decide) rfl rfl ?_
                    refine v_goto hE 65 dX5_laysOut_202 (by decide) ?_
                    refine vV.sub [1, 2, 0] rfl ?_
                    exact (ih65 _ (va_up T k (va_up g 25 rs)) (by omega) (by rw [hT, hg, hrs, show j = 25 by omega]; exact mixN_s _ _ _) (by omega)).cast (congrArg (ws_row (ws_pr (ws_kn u c) f)) (up_2 T k g 25 rs)) rfl
                  · refine v_aload_n 92 hE dX5_laysOut_91 rfl rfl ?_
                    refine v_iload 94 hE dX5_laysOut_92 rfl rfl ?_
                    refine v_iload_n 95 hE dX5_laysOut_94 rfl rfl ?_
                    refine v_ciE 98 hE (v_runV 2 hE (vSub.self hE) (kX5_uses _ Y _ _ _ (by omega) (by omega) (hb _ (by omega))) gX5_laysOut_X5_uses rfl (by decide +kernel) rfl (q0 := 0) rfl rfl ⟨rfl, rfl, by decide, by decide⟩ rfl (Nat.le_of_ble_eq_true rfl) dX5_laysOut_95) rfl ?_
                    show vV K (gM Y) _ _ (.int (bI (wUses (w_bits u) _ _)) :: _) _
                    refine v_istore 100 hE [_, _, _, _, _, _] dX5_laysOut_98 (by decide) rfl rfl ?_
                    have J121 : ∀ b : Bool, b = (isX (w_ism u) ex) j → vV K (gM Y) (ws_row (ws_pr (ws_kn u c) f) (va_up T k g)) [(6, .int (bI ((wUses (w_bits u)) j k))), (0, .ref (yA Y 0)), (1, .int (oI (-7) ex)), (2, .int (nI k)), (3, .long rs), (5, .int (nI j))] [.int (bI b)] 121 := by
                      intro b hbx
                      refine v_istore 123 hE [_, _, _, _, _, _, _] dX5_laysOut_121 (by decide) rfl rfl ?_
                      refine v_aload_n 124 hE dX5_laysOut_123 rfl rfl ?_
                      refine gM_row 127 hE f_0 f_4 dX5_laysOut_124 rfl ?_
                      refine v_bipush 129 hE (v := nI 26) dX5_laysOut_127 (by decide) rfl ?_
                      refine v_iload_n 130 hE dX5_laysOut_129 rfl rfl ?_
                      refine v_imulN 131 hE dX5_laysOut_130 rfl ?_
                      refine v_iload 133 hE dX5_laysOut_131 rfl rfl ?_
                      refine v_iaddN 134 hE dX5_laysOut_133 rfl ?_
                      have J149 : ∀ x : Int64, x = coefF (wUses (w_bits u)) (isX (w_ism u) ex) k j → vV K (gM Y) (ws_row (ws_pr (ws_kn u c) f) (va_up T k g)) [(7, .int (bI b)), (6, .int (bI ((wUses (w_bits u)) j k))), (0, .ref (yA Y 0)), (1, .int (oI (-7) ex)), (2, .int (nI k)), (3, .long rs), (5, .int (nI j))] [.long x, .int (nI (26 * k + j)), .ref (yA Y 13)] 149 := by
                        intro x hx
                        refine sM_row 150 hE (by omega) (by omega) dX5_laysOut_149 rfl ?_
                        refine vV.cast (u' := (ws_row (ws_pr (ws_kn u c) f) (va_up T k (va_up g j x)))) ?_ (congrArg (ws_row (ws_pr (ws_kn u c) f)) (up_2 T k g j x)) rfl
                        refine v_lload_n 151 hE dX5_laysOut_150 rfl rfl ?_
                        have J178 : ∀ y : Int64, y = (if (wUses (w_bits u)) j k && w_ism u j then (w_mea u j).toInt64 else 0) → vV K (gM Y) (ws_row (ws_pr (ws_kn u c) f) (va_up T k (va_up g j x))) [(7, .int (bI b)), (6, .int (bI ((wUses (w_bits u)) j k))), (0, .ref (yA Y 0)), (1, .int (oI (-7) ex)), (2, .int (nI k)), (3, .long rs), (5, .int (nI j))] [.long y, .long rs] 178 := by
                          intro y hy
                          refine v_lsub 179 hE dX5_laysOut_178 rfl ?_
                          refine v_lstore_n 180 hE [_, _, _, _, _, _, _] dX5_laysOut_179 rfl (by decide) rfl rfl ?_
                          refine v_iincN 183 hE [_, _, _, _, _, _, _] dX5_laysOut_180 rfl (by decide) rfl rfl ?_
                          refine v_goto hE 84 dX5_laysOut_183 (by decide) ?_
                          refine vV.sub [4, 5, 6, 1, 0] rfl ?_
                          exact ih84 _ _ _ (by omega) (by rw [hrs, hy]; rfl) (by rw [hg, hx]; exact mixN_s _ _ _) (by omega)
                        refine v_iload 153 hE dX5_laysOut_151 rfl rfl ?_
                        refine v_if_eqB 156 hE 177 dX5_laysOut_153 (by decide) rfl (fun c153 => ?_) (fun c153 => ?_)
                        · refine v_lconst 178 hE (v := 0) dX5_laysOut_177 (by decide) rfl ?_
                          exact J178 _ (by first | (simp [c153]; done) | (simp [c153, c163]; done))
                        · refine v_aload_n 157 hE dX5_laysOut_156 rfl rfl ?_
                          refine gM_isMeasured 160 hE f_0 f_5 dX5_laysOut_157 rfl ?_
                          refine v_iload 162 hE dX5_laysOut_160 rfl rfl ?_
                          refine lM_ism 163 hE (by omega) dX5_laysOut_162 rfl ?_
                          show vV K (gM Y) _ _ (.int (bI ((w_ism u) _)) :: _) _
                          refine v_if_eqB 166 hE 177 dX5_laysOut_163 (by decide) rfl (fun c163 => ?_) (fun c163 => ?_)
                          · refine v_lconst 178 hE (v := 0) dX5_laysOut_177 (by decide) rfl ?_
                            exact J178 _ (by first | (simp [c153]; done) | (simp [c153, c163]; done))
                          · refine v_aload_n 167 hE dX5_laysOut_166 rfl rfl ?_
                            refine gM_measured 170 hE f_0 f_6 dX5_laysOut_167 rfl ?_
                            refine v_iload 172 hE dX5_laysOut_170 rfl rfl ?_
                            refine lM_mea 173 hE (by omega) dX5_laysOut_172 rfl ?_
                            show vV K (gM Y) _ _ (.int ((w_mea u) _) :: _) _
                            refine v_i2l 174 hE dX5_laysOut_173 rfl ?_
                            refine v_goto hE 178 dX5_laysOut_174 (by decide) ?_
                            exact J178 _ (by first | (simp [c153]; done) | (simp [c153, c163]; done))
                      refine v_iload 136 hE dX5_laysOut_134 rfl rfl ?_
                      refine v_if_eqB 139 hE 148 dX5_laysOut_136 (by decide) rfl (fun c136 => ?_) (fun c136 => ?_)
                      · refine v_lconst 149 hE (v := 0) dX5_laysOut_148 (by decide) rfl ?_
                        exact J149 _ (by first | (simp [coefF, c136]; done) | (simp [coefF, c136, ← hbx, c141]; done))
                      · refine v_iload 141 hE dX5_laysOut_139 rfl rfl ?_
                        refine v_if_neB 144 hE 148 dX5_laysOut_141 (by decide) rfl (fun c141 => ?_) (fun c141 => ?_)
                        · refine v_lconst 149 hE (v := 0) dX5_laysOut_148 (by decide) rfl ?_
                          exact J149 _ (by first | (simp [coefF, c136]; done) | (simp [coefF, c136, ← hbx, c141]; done))
                        · refine v_lconst 145 hE (v := 1) dX5_laysOut_144 (by decide) rfl ?_
                          refine v_goto hE 149 dX5_laysOut_145 (by decide) ?_
                          exact J149 _ (by first | (simp [coefF, c136]; done) | (simp [coefF, c136, ← hbx, c141]; done))
                    refine v_aload_n 101 hE dX5_laysOut_100 rfl rfl ?_
                    refine gM_isMeasured 104 hE f_0 f_5 dX5_laysOut_101 rfl ?_
                    refine v_iload 106 hE dX5_laysOut_104 rfl rfl ?_
                    refine lM_ism 107 hE (by omega) dX5_laysOut_106 rfl ?_
                    show vV K (gM Y) _ _ (.int (bI ((w_ism u) _)) :: _) _
                    refine v_if_neB 110 hE 116 dX5_laysOut_107 (by decide) rfl (fun c107 => ?_) (fun c107 => ?_)
                    · refine v_iconst 117 hE (v := bI true) dX5_laysOut_116 (by decide) rfl ?_
                      refine v_goto hE 121 dX5_laysOut_117 (by decide) ?_
                      exact J121 _ (by first | (simp [isX, c107]; done) | (simp [isX, c107, (oI7 (show j < 25 by omega) hex).mp c113]; done) | (simp [isX, c107, mt (oI7 (show j < 25 by omega) hex).mpr c113]; done))
                    · refine v_iload 112 hE dX5_laysOut_110 rfl rfl ?_
                      refine v_iload_n 113 hE dX5_laysOut_112 rfl rfl ?_
                      refine v_ic_ne 116 hE 120 dX5_laysOut_113 (by decide) rfl (fun c113 => ?_) (fun c113 => ?_)
                      · refine v_iconst 121 hE (v := bI false) dX5_laysOut_120 (by decide) rfl ?_
                        exact J121 _ (by first | (simp [isX, c107]; done) | (simp [isX, c107, (oI7 (show j < 25 by omega) hex).mp c113]; done) | (simp [isX, c107, mt (oI7 (show j < 25 by omega) hex).mpr c113]; done))
                      · refine v_iconst 117 hE (v := bI true) dX5_laysOut_116 (by decide) rfl ?_
                        refine v_goto hE 121 dX5_laysOut_117 (by decide) ?_
                        exact J121 _ (by first | (simp [isX, c107]; done) | (simp [isX, c107, (oI7 (show j < 25 by omega) hex).mp c113]; done) | (simp [isX, c107, mt (oI7 (show j < 25 by omega) hex).mpr c113]; done))
              exact (L84 (25 + 1) _ 0 (T k) (by omega) rfl (by rw [hT, mixN_ge (Nat.le_refl k), mixN_0]) (by omega)).cast (congrArg (ws_row (ws_pr (ws_kn u c) f)) (up_id T k).symm) rfl
        exact L65 (w_m u + 1) 0 (w_row u) (by omega) (mixN_0 _ _).symm (by omega)
      · refine v_aload_n 14 hE dX5_laysOut_13 rfl rfl ?_
        refine gM_pivotRow 17 hE f_0 f_7 dX5_laysOut_14 rfl ?_
        refine v_iload_n 18 hE dX5_laysOut_17 rfl rfl ?_
        refine v_bipush 20 hE (v := oI (-7) none) dX5_laysOut_18 (by decide) rfl ?_
        refine sM_pr 21 hE (x := none) (by omega) dX5_laysOut_20 rfl ?_
        refine v_aload_n 22 hE dX5_laysOut_21 rfl rfl ?_
        refine v_dup 23 hE dX5_laysOut_22 rfl rfl ?_
        refine gM_known 26 hE f_0 f_1 dX5_laysOut_23 rfl ?_
        show vV K (gM Y) _ _ (.int (nI (c)) :: _) _
        refine v_aload_n 27 hE dX5_laysOut_26 rfl rfl ?_
        refine v_iload_n 28 hE dX5_laysOut_27 rfl rfl ?_
        refine v_ciE 31 hE (v_runV 1 hE (vSub.self hE) (kX5_hasRoute _ Y _ _ (by omega) (hb _ (by omega))) gX5_laysOut_X5_hasRoute rfl (by decide +kernel) rfl (q0 := 0) rfl rfl ⟨rfl, rfl, by decide, by decide⟩ rfl (Nat.le_of_ble_eq_true rfl) dX5_laysOut_28) rfl ?_
        show vV K (gM Y) _ _ (.int (bI (wHas (w_bits u) _)) :: _) _
        refine v_if_eqB 34 hE 52 dX5_laysOut_31 (by decide) rfl (fun c31 => ?_) (fun c31 => ?_)
        · refine v_iconst 53 hE (v := nI 0) dX5_laysOut_52 (by decide) rfl ?_
          refine v_iaddN 54 hE dX5_laysOut_53 rfl ?_
          refine pM_known 57 hE f_0 f_1 dX5_laysOut_54 rfl ?_
          refine v_iincN 60 hE [_, _, _] dX5_laysOut_57 rfl (by decide) rfl rfl ?_
          refine v_goto hE 7 dX5_laysOut_60 (by decide) ?_
          refine vV.sub [1, 2, 0] rfl ?_
          exact ih7 _ _ _ (by omega) (by first | (simp [cntN, hc, c31]; done) | (simp [cntN, hc, c31, isX, c40]; done) | (have e := (oI7 (show i < 25 by omega) hex).mp c45; simp [cntN, hc, c31, isX, c40, e]; done) | (have e := mt (oI7 (show i < 25 by omega) hex).mpr c45; simp [cntN, hc, c31, isX, c40, e]; done)) (by rw [hf]; exact mixN_s _ _ _) (by omega)
        · refine v_aload_n 35 hE dX5_laysOut_34 rfl rfl ?_
          refine gM_isMeasured 38 hE f_0 f_5 dX5_laysOut_35 rfl ?_
          refine v_iload_n 39 hE dX5_laysOut_38 rfl rfl ?_
          refine lM_ism 40 hE (by omega) dX5_laysOut_39 rfl ?_
          show vV K (gM Y) _ _ (.int (bI ((w_ism u) _)) :: _) _
          refine v_if_neB 43 hE 48 dX5_laysOut_40 (by decide) rfl (fun c40 => ?_) (fun c40 => ?_)
          · refine v_iconst 49 hE (v := nI 1) dX5_laysOut_48 (by decide) rfl ?_
            refine v_goto hE 53 dX5_laysOut_49 (by decide) ?_
            refine v_iaddN 54 hE dX5_laysOut_53 rfl ?_
            refine pM_known 57 hE f_0 f_1 dX5_laysOut_54 rfl ?_
            refine v_iincN 60 hE [_, _, _] dX5_laysOut_57 rfl (by decide) rfl rfl ?_
            refine v_goto hE 7 dX5_laysOut_60 (by decide) ?_
            refine vV.sub [1, 2, 0] rfl ?_
            exact ih7 _ _ _ (by omega) (by first | (simp [cntN, hc, c31]; done) | (simp [cntN, hc, c31, isX, c40]; done) | (have e := (oI7 (show i < 25 by omega) hex).mp c45; simp [cntN, hc, c31, isX, c40, e]; done) | (have e := mt (oI7 (show i < 25 by omega) hex).mpr c45; simp [cntN, hc, c31, isX, c40, e]; done)) (by rw [hf]; exact mixN_s _ _ _) (by omega)
          · refine v_iload_n 44 hE dX5_laysOut_43 rfl rfl ?_
            refine v_iload_n 45 hE dX5_laysOut_44 rfl rfl ?_
            refine v_ic_ne 48 hE 52 dX5_laysOut_45 (by decide) rfl (fun c45 => ?_) (fun c45 => ?_)
            · refine v_iconst 53 hE (v := nI 0) dX5_laysOut_52 (by decide) rfl ?_
              refine v_iaddN 54 hE dX5_laysOut_53 rfl ?_
              refine pM_known 57 hE f_0 f_1 dX5_laysOut_54 rfl ?_
              refine v_iincN 60 hE [_, _, _] dX5_laysOut_57 rfl (by decide) rfl rfl ?_
              refine v_goto hE 7 dX5_laysOut_60 (by decide) ?_
              refine vV.sub [1, 2, 0] rfl ?_
              exact ih7 _ _ _ (by omega) (by first | (simp [cntN, hc, c31]; done) | (simp [cntN, hc, c31, isX, c40]; done) | (have e := (oI7 (show i < 25 by omega) hex).mp c45; simp [cntN, hc, c31, isX, c40, e]; done) | (have e := mt (oI7 (show i < 25 by omega) hex).mpr c45; simp [cntN, hc, c31, isX, c40, e]; done)) (by rw [hf]; exact mixN_s _ _ _) (by omega)
            · refine v_iconst 49 hE (v := nI 1) dX5_laysOut_48 (by decide) rfl ?_
              refine v_goto hE 53 dX5_laysOut_49 (by decide) ?_
              refine v_iaddN 54 hE dX5_laysOut_53 rfl ?_
              refine pM_known 57 hE f_0 f_1 dX5_laysOut_54 rfl ?_
              refine v_iincN 60 hE [_, _, _] dX5_laysOut_57 rfl (by decide) rfl rfl ?_
              refine v_goto hE 7 dX5_laysOut_60 (by decide) ?_
              refine vV.sub [1, 2, 0] rfl ?_
              exact ih7 _ _ _ (by omega) (by first | (simp [cntN, hc, c31]; done) | (simp [cntN, hc, c31, isX, c40]; done) | (have e := (oI7 (show i < 25 by omega) hex).mp c45; simp [cntN, hc, c31, isX, c40, e]; done) | (have e := mt (oI7 (show i < 25 by omega) hex).mpr c45; simp [cntN, hc, c31, isX, c40, e]; done)) (by rw [hf]; exact mixN_s _ _ _) (by omega)
  exact L7 (25 + 1) _ _ (w_pr u) (by omega) rfl (mixN_0 _ _).symm (by omega)
set_option maxRecDepth 100000 in
set_option maxHeartbeats 4000000 in
theorem kX5_reduces (l : Launch) (Y : yG) (u : MS) (ex : Option Nat) (hok : okM u) (hb : ∀ s, s < 25 → w_bits u s < 4096) (hex : ∀ k, ex = some k → k < 25) : mV l (gM Y) yX5_reduces wsX5_reduces ({ frames := 3, cells := 0, slots := 0, locals := 81 }) [.ref (yA Y 0), .int (oI (-7) ex)] u (wRed u ex) := by
  obtain ⟨hn2, hn, hm, hsrc, htgt, hmet⟩ := id hok
  refine mV_of (cc := cX5_reduces) (nL := 5) (own := RX5) (by decide) rfl rfl (fun v => cM_geo Y _ v) (Nat.le_of_ble_eq_true rfl) ?_
  intro K hKl hE hret
  have f_0 : ∀ w ∈ u_ws RX5 TX5 20, w ∈ wsX5_reduces := by decide +kernel
  have f_1 : Cond.fieldLink RX5 127 "TrafficMatrixModel" "rows" "I" ∈ wsX5_reduces := by decide +kernel
  have f_2 : Cond.fieldLink RX5 68 "TrafficMatrixModel" "links" "I" ∈ wsX5_reduces := by decide +kernel
  have f_3 : Cond.fieldLink RX5 51 "TrafficMatrixModel" "pivotRow" "[I" ∈ wsX5_reduces := by decide +kernel
  have f_4 : Cond.fieldLink RX5 48 "TrafficMatrixModel" "row" "[J" ∈ wsX5_reduces := by decide +kernel
  show vV K (gM Y) u [(0, .ref (yA Y 0)), (1, .int (oI (-7) ex))] [] 0
  refine v_aload_n 1 hE dX5_reduces_0 rfl rfl ?_
  refine v_iload_n 2 hE dX5_reduces_1 rfl rfl ?_
  refine v_cvE 5 hE (v_runV 1 hE (vSub.self hE) (kX5_laysOut _ Y u ex hok hb hex) gX5_reduces_X5_laysOut rfl (by decide +kernel) rfl (q0 := 0) rfl rfl ⟨rfl, rfl, by decide, by decide⟩ rfl (Nat.le_of_ble_eq_true rfl) dX5_reduces_2) rfl ?_
  refine v_aload_n 6 hE dX5_reduces_5 rfl rfl ?_
  refine v_iconst 7 hE (v := nI 0) dX5_reduces_6 (by decide) rfl ?_
  refine pM_rows 10 hE f_0 f_1 dX5_reduces_7 rfl ?_
  refine v_iconst 11 hE (v := nI 0) dX5_reduces_10 (by decide) rfl ?_
  refine v_istore_n 12 hE [_, _, _] dX5_reduces_11 rfl (by decide) rfl rfl ?_
  refine vV.sub [1, 2, 0] rfl ?_
  have L12 : ∀ (n12 : Nat) (p : Nat) (z : rZ), (p ≤ 25) → (z = redN (w_m u) p (0, w_row (wLay u ex), w_pr (wLay u ex))) → 25 + 1 ≤ p + n12 → vV K (gM Y) (wRz (wLay u ex) z) [(0, .ref (yA Y 0)), (1, .int (oI (-7) ex)), (2, .int (nI p))] [] 12 := by
    intro n12
    induction n12 with
    | zero => intro p z hp hz hfu12; exact absurd hfu12 (by omega)
    | succ n12 ih12 =>
      intro p z hp hz hfu12
      refine v_iload_n 13 hE dX5_reduces_12 rfl rfl ?_
      refine v_bipush 15 hE (v := nI 25) dX5_reduces_13 (by decide) rfl ?_
      refine v_ic_geN 18 hE 137 dX5_reduces_15 (by decide) (by omega) (by omega) rfl (fun c15 => ?_) (fun c15 => ?_)
      · exact (hret _ _ dX5_reduces_137).cast (by rw [hz, show p = 25 by omega]) rfl
      · obtain ⟨hz1, hz2⟩ : z.1 ≤ w_m u ∧ ∀ s k, z.2.2 s = some k → s < 25 → k < w_m u := by
            obtain ⟨q1, q2⟩ : z.1 ≤ w_m u ∧ (∀ s k, z.2.2 s = some k → s < 25 → k < w_m u) := by rw [hz]; exact redN_ok2 (Nat.zero_le _) (fun s k h hs => by have h9 : w_pr (wLay u ex) s = some k := h; rw [show w_pr (wLay u ex) s = none from mixN_lt (f := w_pr u) (g := fun _ => none) hs] at h9; cases h9) p
            exact ⟨q1, q2⟩
        refine v_aload_n 19 hE dX5_reduces_18 rfl rfl ?_
        refine gM_rows 22 hE f_0 f_1 dX5_reduces_19 rfl ?_
        show vV K (gM Y) _ _ (.int (nI (z.1)) :: _) _
        refine v_istore_n 23 hE [_, _, _, _] dX5_reduces_22 rfl (by decide) rfl rfl ?_
        refine vV.sub [1, 2, 3, 0] rfl ?_
        have L23 : ∀ (n23 : Nat) (r : Nat), (z.1 ≤ r) → (r ≤ w_m u) → (∀ j, z.1 ≤ j → j < r → z.2.1 j p = 0) → w_m u + 1 ≤ r + n23 → vV K (gM Y) (wRz (wLay u ex) z) [(0, .ref (yA Y 0)), (1, .int (oI (-7) ex)), (2, .int (nI p)), (3, .int (nI r))] [] 23 := by
          intro n23
          induction n23 with
          | zero => intro r hr1 hr2 hno hfu23; exact absurd hfu23 (by omega)
          | succ n23 ih23 =>
            intro r hr1 hr2 hno hfu23
            refine v_iload_n 24 hE dX5_reduces_23 rfl rfl ?_
            refine v_aload_n 25 hE dX5_reduces_24 rfl rfl ?_
            refine gM_links 28 hE f_0 f_2 dX5_reduces_25 rfl ?_
            show vV K (gM Y) _ _ (.int (nI (w_m u)) :: _) _
            refine v_ic_geN 31 hE 53 dX5_reduces_28 (by decide) (by omega) (by omega) rfl (fun c28 => ?_) (fun c28 => ?_)
            · refine v_iload_n 54 hE dX5_reduces_53 rfl rfl ?_
              refine v_aload_n 55 hE dX5_reduces_54 rfl rfl ?_
              refine gM_links 58 hE f_0 f_2 dX5_reduces_55 rfl ?_
              show vV K (gM Y) _ _ (.int (nI (w_m u)) :: _) _
              refine v_ic_neN 61 hE 64 dX5_reduces_58 (by decide) (by omega) (by omega) rfl (fun c58 => ?_) (fun c58 => ?_)
              · have hrm : r < w_m u := by omega
                have hnz : ¬ z.2.1 r p = 0 := by first | exact c43 | (exfalso; omega)
                have hsome : fndR (w_m u) z.1 p z.2.1 = some r := fstN_some.mpr ⟨hrm, by simp [hr1, hnz], fun j hj => by by_cases e : z.1 ≤ j; (simp [hno j e (by omega)]); (simp [e])⟩
                refine v_aload_n 65 hE dX5_reduces_64 rfl rfl ?_
                refine v_aload_n 66 hE dX5_reduces_65 rfl rfl ?_
                refine gM_rows 69 hE f_0 f_1 dX5_reduces_66 rfl ?_
                show vV K (gM Y) _ _ (.int (nI (z.1)) :: _) _
                refine v_iload_n 70 hE dX5_reduces_69 rfl rfl ?_
                refine v_cvE 73 hE (v_runV 2 hE (vSub.self hE) (kX5_exchanges _ Y (wRz (wLay u ex) z) _ _ (by omega) (by omega)) gX5_reduces_X5_exchanges rfl (by decide +kernel) rfl (q0 := 0) rfl rfl ⟨rfl, rfl, by decide, by decide⟩ rfl (Nat.le_of_ble_eq_true rfl) dX5_reduces_70) rfl ?_
                refine v_iconst 74 hE (v := nI 0) dX5_reduces_73 (by decide) rfl ?_
                refine v_istore 76 hE [_, _, _, _, _] dX5_reduces_74 (by decide) rfl rfl ?_
                refine vV.sub [1, 2, 3, 4, 0] rfl ?_
                have L76 : ∀ (n76 : Nat) (o : Nat) (T : Nat → Nat → Int64), (o ≤ w_m u) → (T = clA z.1 p (swp z.2.1 z.1 r 26) o) → w_m u + 1 ≤ o + n76 → vV K (gM Y) (wRz (wLay u ex) (z.1, T, z.2.2)) [(0, .ref (yA Y 0)), (1, .int (oI (-7) ex)), (2, .int (nI p)), (3, .int (nI r)), (4, .int (nI o))] [] 76 := by
                  intro n76
                  induction n76 with
                  | zero => intro o T ho hT hfu76; exact absurd hfu76 (by omega)
                  | succ n76 ih76 =>
                    intro o T ho hT hfu76
                    refine v_iload 78 hE dX5_reduces_76 rfl rfl ?_
                    refine v_aload_n 79 hE dX5_reduces_78 rfl rfl ?_
                    refine gM_links 82 hE f_0 f_2 dX5_reduces_79 rfl ?_
                    show vV K (gM Y) _ _ (.int (nI (w_m u)) :: _) _
                    refine v_ic_geN 85 hE 111 dX5_reduces_82 (by decide) (by omega) (by omega) rfl (fun c82 => ?_) (fun c82 => ?_)
                    · have hTT : T = clA z.1 p (swp z.2.1 z.1 r 26) (w_m u) := by rw [hT, show o = w_m u by omega]
                      subst hTT
                      refine v_aload_n 112 hE dX5_reduces_111 rfl rfl ?_
                      refine gM_pivotRow 115 hE f_0 f_3 dX5_reduces_112 rfl ?_
                      refine v_iload_n 116 hE dX5_reduces_115 rfl rfl ?_
                      refine v_aload_n 117 hE dX5_reduces_116 rfl rfl ?_
                      refine gM_rows 120 hE f_0 f_1 dX5_reduces_117 rfl ?_
                      show vV K (gM Y) _ _ (.int (nI (z.1)) :: _) _
                      refine sM_pr 121 hE (x := some z.1) (by omega) dX5_reduces_120 rfl ?_
                      refine v_aload_n 122 hE dX5_reduces_121 rfl rfl ?_
                      refine v_dup 123 hE dX5_reduces_122 rfl rfl ?_
                      refine gM_rows 126 hE f_0 f_1 dX5_reduces_123 rfl ?_
                      show vV K (gM Y) _ _ (.int (nI (z.1)) :: _) _
                      refine v_iconst 127 hE (v := nI 1) dX5_reduces_126 (by decide) rfl ?_
                      refine v_iaddN 128 hE dX5_reduces_127 rfl ?_
                      refine pM_rows 131 hE f_0 f_1 dX5_reduces_128 rfl ?_
                      refine v_iincN 134 hE [_, _, _, _, _] dX5_reduces_131 rfl (by decide) rfl rfl ?_
                      refine v_goto hE 12 dX5_reduces_134 (by decide) ?_
                      refine vV.sub [1, 2, 0] rfl ?_
                      exact (by first | (exact ih12 _ z (by omega) (by rw [show redN (w_m u) (p + 1) (0, w_row (wLay u ex), w_pr (wLay u ex)) = red1 (w_m u) p z by rw [hz]; rfl]; unfold red1; rw [hnone]) (by omega)) | (exact ih12 _ (z.1 + 1, clA z.1 p (swp z.2.1 z.1 r 26) (w_m u), va_up z.2.2 p (some z.1)) (by omega) (by rw [show redN (w_m u) (p + 1) (0, w_row (wLay u ex), w_pr (wLay u ex)) = red1 (w_m u) p z by rw [hz]; rfl]; unfold red1; rw [hsome]) (by omega)))
                    · refine v_iload 87 hE dX5_reduces_85 rfl rfl ?_
                      refine v_aload_n 88 hE dX5_reduces_87 rfl rfl ?_
                      refine gM_rows 91 hE f_0 f_1 dX5_reduces_88 rfl ?_
                      show vV K (gM Y) _ _ (.int (nI (z.1)) :: _) _
                      refine v_ic_eqN 94 hE 105 dX5_reduces_91 (by decide) (by omega) (by omega) rfl (fun c91 => ?_) (fun c91 => ?_)
                      · refine v_iincN 108 hE [_, _, _, _, _] dX5_reduces_105 rfl (by decide) rfl rfl ?_
                        refine v_goto hE 76 dX5_reduces_108 (by decide) ?_
                        refine vV.sub [1, 2, 3, 4, 0] rfl ?_
                        exact ih76 _ _ (by omega) (by rw [hT]; first | exact (clA_s c91).symm | exact (clA_c c91).symm) (by omega)
                      · refine v_aload_n 95 hE dX5_reduces_94 rfl rfl ?_
                        refine v_aload_n 96 hE dX5_reduces_95 rfl rfl ?_
                        refine gM_rows 99 hE f_0 f_1 dX5_reduces_96 rfl ?_
                        show vV K (gM Y) _ _ (.int (nI (z.1)) :: _) _
                        refine v_iload_n 100 hE dX5_reduces_99 rfl rfl ?_
                        refine v_iload 102 hE dX5_reduces_100 rfl rfl ?_
                        refine v_cvE 105 hE (v_runV 3 hE (vSub.self hE) (kX5_clears _ Y (wRz (wLay u ex) (z.1, T, z.2.2)) _ _ _ (by omega) (by omega) (by omega) (by omega)) gX5_reduces_X5_clears rfl (by decide +kernel) rfl (q0 := 0) rfl rfl ⟨rfl, rfl, by decide, by decide⟩ rfl (Nat.le_of_ble_eq_true rfl) dX5_reduces_102) rfl ?_
                        refine v_iincN 108 hE [_, _, _, _, _] dX5_reduces_105 rfl (by decide) rfl rfl ?_
                        refine v_goto hE 76 dX5_reduces_108 (by decide) ?_
                        refine vV.sub [1, 2, 3, 4, 0] rfl ?_
                        exact ih76 _ _ (by omega) (by rw [hT]; first | exact (clA_s c91).symm | exact (clA_c c91).symm) (by omega)
                exact L76 (w_m u + 1) 0 (swp z.2.1 z.1 r 26) (by omega) rfl (by omega)
              · have hnone : fndR (w_m u) z.1 p z.2.1 = none := fstN_none.mpr (fun j hj => by by_cases e : z.1 ≤ j; (simp [hno j e (by omega)]); (simp [e]))
                refine v_goto hE 131 dX5_reduces_61 (by decide) ?_
                refine v_iincN 134 hE [_, _, _, _] dX5_reduces_131 rfl (by decide) rfl rfl ?_
                refine v_goto hE 12 dX5_reduces_134 (by decide) ?_
                refine vV.sub [1, 2, 0] rfl ?_
                exact (by first | (exact ih12 _ z (by omega) (by rw [show redN (w_m u) (p + 1) (0, w_row (wLay u ex), w_pr (wLay u ex)) = red1 (w_m u) p z by rw [hz]; rfl]; unfold red1; rw [hnone]) (by omega)) | (exact ih12 _ (z.1 + 1, clA z.1 p (swp z.2.1 z.1 r 26) (w_m u), va_up z.2.2 p (some z.1)) (by omega) (by rw [show redN (w_m u) (p + 1) (0, w_row (wLay u ex), w_pr (wLay u ex)) = red1 (w_m u) p z by rw [hz]; rfl]; unfold red1; rw [hsome]) (by omega)))
            · refine v_aload_n 32 hE dX5_reduces_31 rfl rfl ?_
              refine gM_row 35 hE f_0 f_4 dX5_reduces_32 rfl ?_
              refine v_bipush 37 hE (v := nI 26) dX5_reduces_35 (by decide) rfl ?_
              refine v_iload_n 38 hE dX5_reduces_37 rfl rfl ?_
              refine v_imulN 39 hE dX5_reduces_38 rfl ?_
              refine v_iload_n 40 hE dX5_reduces_39 rfl rfl ?_
              refine v_iaddN 41 hE dX5_reduces_40 rfl ?_
              refine lM_row 42 hE (by omega) (by omega) dX5_reduces_41 rfl ?_
              show vV K (gM Y) _ _ (.long ((z.2.1) _ _) :: _) _
              refine v_lconst 43 hE (v := 0) dX5_reduces_42 (by decide) rfl ?_
              refine v_lc_ne 44 47 hE 53 dX5_reduces_43 dX5_reduces_44 (by decide) rfl rfl (fun c43 => ?_) (fun c43 => ?_)
              · refine v_iload_n 54 hE dX5_reduces_53 rfl rfl ?_
                refine v_aload_n 55 hE dX5_reduces_54 rfl rfl ?_
                refine gM_links 58 hE f_0 f_2 dX5_reduces_55 rfl ?_
                show vV K (gM Y) _ _ (.int (nI (w_m u)) :: _) _
                refine v_ic_neN 61 hE 64 dX5_reduces_58 (by decide) (by omega) (by omega) rfl (fun c58 => ?_) (fun c58 => ?_)
                · have hrm : r < w_m u := by omega
                  have hnz : ¬ z.2.1 r p = 0 := by first | exact c43 | (exfalso; omega)
                  have hsome : fndR (w_m u) z.1 p z.2.1 = some r := fstN_some.mpr ⟨hrm, by simp [hr1, hnz], fun j hj => by by_cases e : z.1 ≤ j; (simp [hno j e (by omega)]); (simp [e])⟩
                  refine v_aload_n 65 hE dX5_reduces_64 rfl rfl ?_
                  refine v_aload_n 66 hE dX5_reduces_65 rfl rfl ?_
                  refine gM_rows 69 hE f_0 f_1 dX5_reduces_66 rfl ?_
                  show vV K (gM Y) _ _ (.int (nI (z.1)) :: _) _
                  refine v_iload_n 70 hE dX5_reduces_69 rfl rfl ?_
                  refine v_cvE 73 hE (v_runV 2 hE (vSub.self hE) (kX5_exchanges _ Y (wRz (wLay u ex) z) _ _ (by omega) (by omega)) gX5_reduces_X5_exchanges rfl (by decide +kernel) rfl (q0 := 0) rfl rfl ⟨rfl, rfl, by decide, by decide⟩ rfl (Nat.le_of_ble_eq_true rfl) dX5_reduces_70) rfl ?_
                  refine v_iconst 74 hE (v := nI 0) dX5_reduces_73 (by decide) rfl ?_
                  refine v_istore 76 hE [_, _, _, _, _] dX5_reduces_74 (by decide) rfl rfl ?_
                  refine vV.sub [1, 2, 3, 4, 0] rfl ?_
                  have L76 : ∀ (n76 : Nat) (o : Nat) (T : Nat → Nat → Int64), (o ≤ w_m u) → (T = clA z.1 p (swp z.2.1 z.1 r 26) o) → w_m u + 1 ≤ o + n76 → vV K (gM Y) (wRz (wLay u ex) (z.1, T, z.2.2)) [(0, .ref (yA Y 0)), (1, .int (oI (-7) ex)), (2, .int (nI p)), (3, .int (nI r)), (4, .int (nI o))] [] 76 := by
                    intro n76
                    induction n76 with
                    | zero => intro o T ho hT hfu76; exact absurd hfu76 (by omega)
                    | succ n76 ih76 =>
                      intro o T ho hT hfu76
                      refine v_iload 78 hE dX5_reduces_76 rfl rfl ?_
                      refine v_aload_n 79 hE dX5_reduces_78 rfl rfl ?_
                      refine gM_links 82 hE f_0 f_2 dX5_reduces_79 rfl ?_
                      show vV K (gM Y) _ _ (.int (nI (w_m u)) :: _) _
                      refine v_ic_geN 85 hE 111 dX5_reduces_82 (by decide) (by omega) (by omega) rfl (fun c82 => ?_) (fun c82 => ?_)
                      · have hTT : T = clA z.1 p (swp z.2.1 z.1 r 26) (w_m u) := by rw [hT, show o = w_m u by omega]
                        subst hTT
                        refine v_aload_n 112 hE dX5_reduces_111 rfl rfl ?_
                        refine gM_pivotRow 115 hE f_0 f_3 dX5_reduces_112 rfl ?_
                        refine v_iload_n 116 hE dX5_reduces_115 rfl rfl ?_
                        refine v_aload_n 117 hE dX5_reduces_116 rfl rfl ?_
                        refine gM_rows 120 hE f_0 f_1 dX5_reduces_117 rfl ?_
                        show vV K (gM Y) _ _ (.int (nI (z.1)) :: _) _
                        refine sM_pr 121 hE (x := some z.1) (by omega) dX5_reduces_120 rfl ?_
                        refine v_aload_n 122 hE dX5_reduces_121 rfl rfl ?_
                        refine v_dup 123 hE dX5_reduces_122 rfl rfl ?_
                        refine gM_rows 126 hE f_0 f_1 dX5_reduces_123 rfl ?_
                        show vV K (gM Y) _ _ (.int (nI (z.1)) :: _) _
                        refine v_iconst 127 hE (v := nI 1) dX5_reduces_126 (by decide) rfl ?_
                        refine v_iaddN 128 hE dX5_reduces_127 rfl ?_
                        refine pM_rows 131 hE f_0 f_1 dX5_reduces_128 rfl ?_
                        refine v_iincN 134 hE [_, _, _, _, _] dX5_reduces_131 rfl (by decide) rfl rfl ?_
                        refine v_goto hE 12 dX5_reduces_134 (by decide) ?_
                        refine vV.sub [1, 2, 0] rfl ?_
                        exact (by first | (exact ih12 _ z (by omega) (by rw [show redN (w_m u) (p + 1) (0, w_row (wLay u ex), w_pr (wLay u ex)) = red1 (w_m u) p z by rw [hz]; rfl]; unfold red1; rw [hnone]) (by omega)) | (exact ih12 _ (z.1 + 1, clA z.1 p (swp z.2.1 z.1 r 26) (w_m u), va_up z.2.2 p (some z.1)) (by omega) (by rw [show redN (w_m u) (p + 1) (0, w_row (wLay u ex), w_pr (wLay u ex)) = red1 (w_m u) p z by rw [hz]; rfl]; unfold red1; rw [hsome]) (by omega)))
                      · refine v_iload 87 hE dX5_reduces_85 rfl rfl ?_
                        refine v_aload_n 88 hE dX5_reduces_87 rfl rfl ?_
                        refine gM_rows 91 hE f_0 f_1 dX5_reduces_88 rfl ?_
                        show vV K (gM Y) _ _ (.int (nI (z.1)) :: _) _
                        refine v_ic_eqN 94 hE 105 dX5_reduces_91 (by decide) (by omega) (by omega) rfl (fun c91 => ?_) (fun c91 => ?_)
                        · refine v_iincN 108 hE [_, _, _, _, _] dX5_reduces_105 rfl (by decide) rfl rfl ?_
                          refine v_goto hE 76 dX5_reduces_108 (by decide) ?_
                          refine vV.sub [1, 2, 3, 4, 0] rfl ?_
                          exact ih76 _ _ (by omega) (by rw [hT]; first | exact (clA_s c91).symm | exact (clA_c c91).symm) (by omega)
                        · refine v_aload_n 95 hE dX5_reduces_94 rfl rfl ?_
                          refine v_aload_n 96 hE dX5_reduces_95 rfl rfl ?_
                          refine gM_rows 99 hE f_0 f_1 dX5_reduces_96 rfl ?_
                          show vV K (gM Y) _ _ (.int (nI (z.1)) :: _) _
                          refine v_iload_n 100 hE dX5_reduces_99 rfl rfl ?_
                          refine v_iload 102 hE dX5_reduces_100 rfl rfl ?_
                          refine v_cvE 105 hE (v_runV 3 hE (vSub.self hE) (kX5_clears _ Y (wRz (wLay u ex) (z.1, T, z.2.2)) _ _ _ (by omega) (by omega) (by omega) (by omega)) gX5_reduces_X5_clears rfl (by decide +kernel) rfl (q0 := 0) rfl rfl ⟨rfl, rfl, by decide, by decide⟩ rfl (Nat.le_of_ble_eq_true rfl) dX5_reduces_102) rfl ?_
                          refine v_iincN 108 hE [_, _, _, _, _] dX5_reduces_105 rfl (by decide) rfl rfl ?_
                          refine v_goto hE 76 dX5_reduces_108 (by decide) ?_
                          refine vV.sub [1, 2, 3, 4, 0] rfl ?_
                          exact ih76 _ _ (by omega) (by rw [hT]; first | exact (clA_s c91).symm | exact (clA_c c91).symm) (by omega)
                  exact L76 (w_m u + 1) 0 (swp z.2.1 z.1 r 26) (by omega) rfl (by omega)
                · have hnone : fndR (w_m u) z.1 p z.2.1 = none := fstN_none.mpr (fun j hj => by by_cases e : z.1 ≤ j; (simp [hno j e (by omega)]); (simp [e]))
                  refine v_goto hE 131 dX5_reduces_61 (by decide) ?_
                  refine v_iincN 134 hE [_, _, _, _] dX5_reduces_131 rfl (by decide) rfl rfl ?_
                  refine v_goto hE 12 dX5_reduces_134 (by decide) ?_
                  refine vV.sub [1, 2, 0] rfl ?_
                  exact (by first | (exact ih12 _ z (by omega) (by rw [show redN (w_m u) (p + 1) (0, w_row (wLay u ex), w_pr (wLay u ex)) = red1 (w_m u) p z by rw [hz]; rfl]; unfold red1; rw [hnone]) (by omega)) | (exact ih12 _ (z.1 + 1, clA z.1 p (swp z.2.1 z.1 r 26) (w_m u), va_up z.2.2 p (some z.1)) (by omega) (by rw [show redN (w_m u) (p + 1) (0, w_row (wLay u ex), w_pr (wLay u ex)) = red1 (w_m u) p z by rw [hz]; rfl]; unfold red1; rw [hsome]) (by omega)))
              · refine v_iincN 50 hE [_, _, _, _] dX5_reduces_47 rfl (by decide) rfl rfl ?_
                refine v_goto hE 23 dX5_reduces_50 (by decide) ?_
                refine vV.sub [1, 2, 3, 0] rfl ?_
                exact ih23 _ (by omega) (by omega) (fun j h1 h2 => if e : j = r then (by rw [e]; exact c43) else hno j h1 (by omega)) (by omega)
        exact L23 (w_m u + 1) _ (by omega) (by omega) (by intro j h1 h2; omega) (by omega)
  exact L12 (25 + 1) 0 (0, w_row (wLay u ex), w_pr (wLay u ex)) (by omega) rfl (by omega)
set_option maxRecDepth 100000 in
set_option maxHeartbeats 4000000 in
theorem kX5_agrees (l : Launch) (Y : yG) (u : MS)  (hm : w_m u ≤ 12) (hr0 : w_rows u ≤ w_m u) : mI l (gM Y) yX5_agrees wsX5_agrees ({ frames := 0, cells := 0, slots := 0, locals := 0 }) [.ref (yA Y 0)] u (bI (wAgr (w_m u) (w_rows u) (w_row u))) u := by
  refine mB_of (cc := cX5_agrees) (nL := 2) (own := RX5) (by decide) rfl rfl (fun v => cM_geo Y _ v) (Nat.le_of_ble_eq_true rfl) ?_
  intro K hKl hE hret
  have f_0 : ∀ w ∈ u_ws RX5 TX5 20, w ∈ wsX5_agrees := by decide +kernel
  have f_1 : Cond.fieldLink RX5 127 "TrafficMatrixModel" "rows" "I" ∈ wsX5_agrees := by decide +kernel
  have f_2 : Cond.fieldLink RX5 68 "TrafficMatrixModel" "links" "I" ∈ wsX5_agrees := by decide +kernel
  have f_3 : Cond.fieldLink RX5 48 "TrafficMatrixModel" "row" "[J" ∈ wsX5_agrees := by decide +kernel
  show vV K (gM Y) u [(0, .ref (yA Y 0))] [] 0
  refine v_aload_n 1 hE dX5_agrees_0 rfl rfl ?_
  refine gM_rows 4 hE f_0 f_1 dX5_agrees_1 rfl ?_
  refine v_istore_n 5 hE [_, _] dX5_agrees_4 rfl (by decide) rfl rfl ?_
  refine vV.sub [1, 0] rfl ?_
  have L5 : ∀ (n5 : Nat) (i : Nat), (i ≤ w_m u) → (w_rows u ≤ i) → (∀ j, j < i → (decide (w_rows u ≤ j) && !decide (w_row u j 25 = 0)) = false) → w_m u + 1 ≤ i + n5 → vV K (gM Y) u [(0, .ref (yA Y 0)), (1, .int (nI i))] [] 5 := by
    intro n5
    induction n5 with
    | zero => intro i hi hi2 hno hfu5; exact absurd hfu5 (by omega)
    | succ n5 ih5 =>
      intro i hi hi2 hno hfu5
      refine v_iload_n 6 hE dX5_agrees_5 rfl rfl ?_
      refine v_aload_n 7 hE dX5_agrees_6 rfl rfl ?_
      refine gM_links 10 hE f_0 f_2 dX5_agrees_7 rfl ?_
      refine v_ic_geN 13 hE 38 dX5_agrees_10 (by decide) (by omega) (by omega) rfl (fun c10 => ?_) (fun c10 => ?_)
      · refine v_iconst 39 hE (v := nI 1) dX5_agrees_38 (by decide) rfl ?_
        exact (hret _ _ dX5_agrees_39).cast rfl (rB1 (by unfold wAgr; rw [anyB_f.mpr (fun j hj => hno j (by omega))]; rfl))
      · refine v_aload_n 14 hE dX5_agrees_13 rfl rfl ?_
        refine gM_row 17 hE f_0 f_3 dX5_agrees_14 rfl ?_
        refine v_bipush 19 hE (v := nI 26) dX5_agrees_17 (by decide) rfl ?_
        refine v_iload_n 20 hE dX5_agrees_19 rfl rfl ?_
        refine v_imulN 21 hE dX5_agrees_20 rfl ?_
        refine v_bipush 23 hE (v := nI 25) dX5_agrees_21 (by decide) rfl ?_
        refine v_iaddN 24 hE dX5_agrees_23 rfl ?_
        refine lM_row 25 hE (by omega) (by omega) dX5_agrees_24 rfl ?_
        refine v_lconst 26 hE (v := 0) dX5_agrees_25 (by decide) rfl ?_
        refine v_lc_eq 27 30 hE 32 dX5_agrees_26 dX5_agrees_27 (by decide) rfl rfl (fun c26 => ?_) (fun c26 => ?_)
        · refine v_iincN 35 hE [_, _] dX5_agrees_32 rfl (by decide) rfl rfl ?_
          refine v_goto hE 5 dX5_agrees_35 (by decide) ?_
          refine vV.sub [1, 0] rfl ?_
          exact ih5 _ (by omega) (by omega) (fun j hj => if e : j = i then (by rw [e]; simp [c26]) else hno j (by omega)) (by omega)
        · refine v_iconst 31 hE (v := nI 0) dX5_agrees_30 (by decide) rfl ?_
          exact (hret _ _ dX5_agrees_31).cast rfl (rB0 (by unfold wAgr; rw [anyB_t.mpr ⟨i, by omega, by simp [hi2, c26]⟩]; rfl))
  exact L5 (w_m u + 1) _ (by omega) (by omega) (by intro j hj; simp; intro q; omega) (by omega)
set_option maxRecDepth 100000 in
set_option maxHeartbeats 4000000 in
theorem kX5_isSure (l : Launch) (Y : yG) (u : MS) (p : Nat) (ex : Option Nat) (hp : p < 25) (hb : ∀ s, s < 25 → w_bits u s < 4096) (hex : ∀ k, ex = some k → k < 25) (hpr : ∀ s k, w_pr u s = some k → s < 25 → k < 12) : mI l (gM Y) yX5_isSure wsX5_isSure ({ frames := 1, cells := 0, slots := 0, locals := 21 }) [.ref (yA Y 0), .int (nI p), .int (oI (-7) ex)] u (bI (wSure (wHas (w_bits u)) (w_ism u) ex (w_pr u) (w_row u) p)) u := by
  refine mB_of (cc := cX5_isSure) (nL := 5) (own := RX5) (by decide) rfl rfl (fun v => cM_geo Y _ v) (Nat.le_of_ble_eq_true rfl) ?_
  intro K hKl hE hret
  have f_0 : ∀ w ∈ u_ws RX5 TX5 20, w ∈ wsX5_isSure := by decide +kernel
  have f_1 : Cond.fieldLink RX5 31 "TrafficMatrixModel" "isMeasured" "[Z" ∈ wsX5_isSure := by decide +kernel
  have f_2 : Cond.fieldLink RX5 51 "TrafficMatrixModel" "pivotRow" "[I" ∈ wsX5_isSure := by decide +kernel
  have f_3 : Cond.fieldLink RX5 48 "TrafficMatrixModel" "row" "[J" ∈ wsX5_isSure := by decide +kernel
  show vV K (gM Y) u [(0, .ref (yA Y 0)), (1, .int (nI p)), (2, .int (oI (-7) ex))] [] 0
  refine v_aload_n 1 hE dX5_isSure_0 rfl rfl ?_
  refine v_iload_n 2 hE dX5_isSure_1 rfl rfl ?_
  refine v_ciE 5 hE (v_runV 1 hE (vSub.self hE) (kX5_hasRoute _ Y _ _ (by omega) (hb _ (by omega))) gX5_isSure_X5_hasRoute rfl (by decide +kernel) rfl (q0 := 0) rfl rfl ⟨rfl, rfl, by decide, by decide⟩ rfl (Nat.le_of_ble_eq_true rfl) dX5_isSure_2) rfl ?_
  refine v_if_neB 8 hE 10 dX5_isSure_5 (by decide) rfl (fun c5 => ?_) (fun c5 => ?_)
  · refine v_aload_n 11 hE dX5_isSure_10 rfl rfl ?_
    refine gM_isMeasured 14 hE f_0 f_1 dX5_isSure_11 rfl ?_
    refine v_iload_n 15 hE dX5_isSure_14 rfl rfl ?_
    refine lM_ism 16 hE (by omega) dX5_isSure_15 rfl ?_
    refine v_if_neB 19 hE 24 dX5_isSure_16 (by decide) rfl (fun c16 => ?_) (fun c16 => ?_)
    · have hx1 : (isX (w_ism u) ex) p = true := by first | (simp [isX, c16]; done) | (simp [isX, (oI7 (show p < 25 by omega) hex).mp c21]; done)
      refine v_iconst 25 hE (v := nI 1) dX5_isSure_24 (by decide) rfl ?_
      exact (hret _ _ dX5_isSure_25).cast rfl (rB1 (by unfold wSure; rw [c5, hx1]; rfl))
    · refine v_iload_n 20 hE dX5_isSure_19 rfl rfl ?_
      refine v_iload_n 21 hE dX5_isSure_20 rfl rfl ?_
      refine v_ic_ne 24 hE 26 dX5_isSure_21 (by decide) rfl (fun c21 => ?_) (fun c21 => ?_)
      · refine v_aload_n 27 hE dX5_isSure_26 rfl rfl ?_
        refine gM_pivotRow 30 hE f_0 f_2 dX5_isSure_27 rfl ?_
        refine v_iload_n 31 hE dX5_isSure_30 rfl rfl ?_
        refine lM_pr 32 hE (by omega) dX5_isSure_31 rfl ?_
        refine v_istore_n 33 hE [_, _, _, _] dX5_isSure_32 rfl (by decide) rfl rfl ?_
        refine v_iload_n 34 hE dX5_isSure_33 rfl rfl ?_
        refine v_bipush 36 hE (v := -7) dX5_isSure_34 (by decide) rfl ?_
        refine v_ic_ne 39 hE 41 dX5_isSure_36 (by decide) rfl (fun c36 => ?_) (fun c36 => ?_)
        · obtain ⟨r, hq⟩ := oI7s c36
          have hr := hpr p r hq hp
          rw [hq]
          show vV K (gM Y) _ [(3, .int (nI r)), _, _, _] _ _
          refine v_iconst 42 hE (v := nI 0) dX5_isSure_41 (by decide) rfl ?_
          refine v_istore 44 hE [_, _, _, _, _] dX5_isSure_42 (by decide) rfl rfl ?_
          refine vV.sub [2, 3, 4, 1, 0] rfl ?_
          have L44 : ∀ (n44 : Nat) (i : Nat), (i ≤ 25) → (∀ j, j < i → (!decide (j = p) && !decide (w_row u r j = 0)) = false) → 25 + 1 ≤ i + n44 → vV K (gM Y) u [(0, .ref (yA Y 0)), (1, .int (nI p)), (2, .int (oI (-7) ex)), (3, .int (nI r)), (4, .int (nI i))] [] 44 := by
            intro n44
            induction n44 with
            | zero => intro i hi hno hfu44; exact absurd hfu44 (by omega)
            | succ n44 ih44 =>
              intro i hi hno hfu44
              refine v_iload 46 hE dX5_isSure_44 rfl rfl ?_
              refine v_bipush 48 hE (v := nI 25) dX5_isSure_46 (by decide) rfl ?_
              refine v_ic_geN 51 hE 82 dX5_isSure_48 (by decide) (by omega) (by omega) rfl (fun c48 => ?_) (fun c48 => ?_)
              · refine v_iconst 83 hE (v := nI 1) dX5_isSure_82 (by decide) rfl ?_
                exact (hret _ _ dX5_isSure_83).cast rfl (rB1 (by unfold wSure; rw [c5, hq, show (isX (w_ism u) ex) p = false by simp [isX, c16, mt (oI7 (show p < 25 by omega) hex).mpr c21]]; show (!anyB _ _) = true; rw [anyB_f.mpr (fun j hj => hno j (by omega))]; rfl))
              · refine v_iload 53 hE dX5_isSure_51 rfl rfl ?_
                refine v_iload_n 54 hE dX5_isSure_53 rfl rfl ?_
                refine v_ic_eqN 57 hE 76 dX5_isSure_54 (by decide) (by omega) (by omega) rfl (fun c54 => ?_) (fun c54 => ?_)
                · refine v_iincN 79 hE [_, _, _, _, _] dX5_isSure_76 rfl (by decide) rfl rfl ?_
                  refine v_goto hE 44 dX5_isSure_79 (by decide) ?_
                  refine vV.sub [1, 2, 3, 4, 0] rfl ?_
                  exact ih44 _ (by omega) (fun j hj => if e : j = i then (by rw [e]; first | (simp [c54]; done) | (simp [c70]; done)) else hno j (by omega)) (by omega)
                · refine v_aload_n 58 hE dX5_isSure_57 rfl rfl ?_
                  refine gM_row 61 hE f_0 f_3 dX5_isSure_58 rfl ?_
                  refine v_bipush 63 hE (v := nI 26) dX5_isSure_61 (by decide) rfl ?_
                  refine v_iload_n 64 hE dX5_isSure_63 rfl rfl ?_
                  refine v_imulN 65 hE dX5_isSure_64 rfl ?_
                  refine v_iload 67 hE dX5_isSure_65 rfl rfl ?_
                  refine v_iaddN 68 hE dX5_isSure_67 rfl ?_
                  refine lM_row 69 hE (by omega) (by omega) dX5_isSure_68 rfl ?_
                  refine v_lconst 70 hE (v := 0) dX5_isSure_69 (by decide) rfl ?_
                  refine v_lc_eq 71 74 hE 76 dX5_isSure_70 dX5_isSure_71 (by decide) rfl rfl (fun c70 => ?_) (fun c70 => ?_)
                  · refine v_iincN 79 hE [_, _, _, _, _] dX5_isSure_76 rfl (by decide) rfl rfl ?_
                    refine v_goto hE 44 dX5_isSure_79 (by decide) ?_
                    refine vV.sub [1, 2, 3, 4, 0] rfl ?_
                    exact ih44 _ (by omega) (fun j hj => if e : j = i then (by rw [e]; first | (simp [c54]; done) | (simp [c70]; done)) else hno j (by omega)) (by omega)
                  · refine v_iconst 75 hE (v := nI 0) dX5_isSure_74 (by decide) rfl ?_
                    exact (hret _ _ dX5_isSure_75).cast rfl (rB0 (by unfold wSure; rw [c5, hq, show (isX (w_ism u) ex) p = false by simp [isX, c16, mt (oI7 (show p < 25 by omega) hex).mpr c21]]; show (!anyB _ _) = false; rw [anyB_t.mpr ⟨i, by omega, by simp [c54, c70]⟩]; rfl))
          exact L44 (25 + 1) _ (by omega) (by intro j hj; omega) (by omega)
        · have hq := (oI7n (B := 12) (fun k hk => hpr p k hk hp) (by decide)).mp c36
          refine v_iconst 40 hE (v := nI 0) dX5_isSure_39 (by decide) rfl ?_
          exact (hret _ _ dX5_isSure_40).cast rfl (rB0 (by unfold wSure; rw [c5, hq, show (isX (w_ism u) ex) p = false by simp [isX, c16, mt (oI7 (show p < 25 by omega) hex).mpr c21]]; rfl))
      · have hx1 : (isX (w_ism u) ex) p = true := by first | (simp [isX, c16]; done) | (simp [isX, (oI7 (show p < 25 by omega) hex).mp c21]; done)
        refine v_iconst 25 hE (v := nI 1) dX5_isSure_24 (by decide) rfl ?_
        exact (hret _ _ dX5_isSure_25).cast rfl (rB1 (by unfold wSure; rw [c5, hx1]; rfl))
  · refine v_iconst 9 hE (v := nI 0) dX5_isSure_8 (by decide) rfl ?_
    exact (hret _ _ dX5_isSure_9).cast rfl (rB0 (by unfold wSure; rw [c5]; rfl))
