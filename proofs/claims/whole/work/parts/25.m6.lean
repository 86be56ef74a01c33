/-! TrafficMatrixModel: identified values, the best pair, the estimates -/
theorem euc_ne : ∀ (k : Nat) (x y : Int64), y.toInt.natAbs < k → (¬ x = 0 ∨ ¬ y = 0) → ¬ euc k x y = 0
  | 0, _, _, h, _ => absurd h (by omega)
  | k + 1, x, y, h, hne => by
    simp only [euc]
    by_cases e : y = 0
    · rw [if_pos e]
      exact hne.elim id (fun q => absurd e q)
    · rw [if_neg e]
      have := jr_lt (x := x) e
      exact euc_ne k y _ (by omega) (Or.inl e)
theorem absJ_ne {x : Int64} (h : ¬ x = 0) : ¬ absJ x = 0 := by
  unfold absJ
  split
  · exact h
  · intro e
    apply h
    have : - -x = -(0 : Int64) := by rw [e]
    rw [Int64.neg_neg] at this
    rw [this]; rfl
theorem cmn_ne {a b : Int64} (h : ¬ a = 0) : ¬ cmn a b = 0 := euc_ne _ _ _ (Nat.lt_succ_self _) (Or.inl (absJ_ne h))
theorem wSure_some {has ism : Nat → Bool} {pr : Nat → Option Nat} {R : Nat → Nat → Int64} {p : Nat} (h : wSure has ism none pr R p = true) (hi : ism p = false) : ∃ r, pr p = some r := by
  cases hp : pr p with
  | some r => exact ⟨r, rfl⟩
  | none =>
    unfold wSure isX at h
    rw [hp, hi] at h
    simp at h
def bstM (has was : Nat → Bool) (S0 : MS) : Nat → Option Nat × Nat × MS
  | 0 => (none, 0, S0)
  | i + 1 => if has i && !was i then ((if (bstM has was S0 i).2.1 < wCnt (bstM has was S0 i).2.2 (some i) then some i else (bstM has was S0 i).1), (if (bstM has was S0 i).2.1 < wCnt (bstM has was S0 i).2.2 (some i) then wCnt (bstM has was S0 i).2.2 (some i) else (bstM has was S0 i).2.1), wRed (bstM has was S0 i).2.2 (some i)) else bstM has was S0 i
abbrev wB0 (u : MS) : MS := ws_was (wRF u none) (mixN (w_was u) (wSu (wFind u) none) 25)
abbrev wBst (u : MS) : Option Nat × Nat × MS := bstM (wHas (wBit u)) (mixN (w_was u) (wSu (wFind u) none) 25) (wB0 u) 25
theorem bst_t {has was : Nat → Bool} {S0 : MS} {i : Nat} (h : has i = true) (g : was i = false) : bstM has was S0 (i + 1) = ((if (bstM has was S0 i).2.1 < wCnt (bstM has was S0 i).2.2 (some i) then some i else (bstM has was S0 i).1), (if (bstM has was S0 i).2.1 < wCnt (bstM has was S0 i).2.2 (some i) then wCnt (bstM has was S0 i).2.2 (some i) else (bstM has was S0 i).2.1), wRed (bstM has was S0 i).2.2 (some i)) := if_pos (by rw [h, g]; rfl)
theorem bst_1 {has was : Nat → Bool} {S0 : MS} {i : Nat} (h : has i = false) : bstM has was S0 (i + 1) = bstM has was S0 i := if_neg (by rw [h]; simp)
theorem bst_2 {has was : Nat → Bool} {S0 : MS} {i : Nat} (h : was i = true) : bstM has was S0 (i + 1) = bstM has was S0 i := if_neg (by rw [h]; simp)
theorem bst_lt {has was : Nat → Bool} {S0 : MS} : ∀ (i : Nat) (k : Nat), (bstM has was S0 i).1 = some k → k < i
  | 0, k, h => by cases h
  | i + 1, k, h => by
    by_cases e : (has i && !was i) = true
    · have e1 : has i = true ∧ was i = false := by simpa using e
      rw [bst_t e1.1 e1.2] at h
      dsimp only at h
      split at h
      · cases h; omega
      · have := bst_lt i k h; omega
    · have e2 : bstM has was S0 (i + 1) = bstM has was S0 i := if_neg e
      rw [e2] at h
      have := bst_lt i k h
      omega
def totM (out : Nat → Int32) (n : Nat) : Int64 := sumL (fun v => (out v).toInt64) n
def gravM (has : Nat → Bool) (out inn : Nat → Int32) (w : Int64) (p : Nat) : Int64 := if has p then (if w ≤ 0 then 0 else (out (p / 5)).toInt64 * (inn (p % 5)).toInt64 * 1000 / w) else 0
abbrev wGr (u : MS) : Nat → Int64 := gravM (wHas (wBit u)) (w_out u) (w_inn u) (totM (w_out u) (w_n u))
def keepF (has : Nat → Bool) (f : Nat → Int64) (p : Nat) : Int64 := if has p then f p else 0
abbrev wKeep (u : MS) : MS := ws_gue (ws_bef (wFind u) (mixN (w_bef u) (w_gue u) 25)) (mixN (w_gue u) (keepF (wHas (wBit u)) (w_gue u)) 25)
def ofF (us : Nat → Nat → Bool) (sort k p : Nat) : Bool := if sort = 0 then decide (p / 5 = k) else if sort = 1 then decide (p % 5 = k) else us p k
def sumM (us : Nat → Nat → Bool) (f : Nat → Int64) (sort k : Nat) : Int64 := sumL (fun p => if ofF us sort k p then f p else 0) 25
def fitG (us : Nat → Nat → Bool) (f : Nat → Int64) (sort k : Nat) (g : Int32) (w : Int64) (p : Nat) : Int64 := if ofF us sort k p then f p * g.toInt64 * 1000 / w else f p
def fitM (us : Nat → Nat → Bool) (f : Nat → Int64) (sort k : Nat) (g : Int32) : Nat → Int64 := if sumM us f sort k ≤ 0 then f else mixN f (fitG us f sort k g (sumM us f sort k)) 25
def fitV (us : Nat → Nat → Bool) (sort : Nat) (go : Nat → Int32) : Nat → (Nat → Int64) → Nat → Int64
  | 0, f => f
  | k + 1, f => fitM us (fitV us sort go k f) sort k (go k)
def fitTM (us : Nat → Nat → Bool) (out inn : Nat → Int32) (n : Nat) (f : Nat → Int64) : Nat → Int64 := fitV us 1 inn n (fitV us 0 out n f)
abbrev wFT (u : MS) (k : Nat) : MS := ws_gue (wKeep u) (iterF (fitTM (wUses (wBit u)) (w_out u) (w_inn u) (w_n u)) k (w_gue (wKeep u)))
abbrev wFK (u : MS) (k : Nat) : MS := ws_gue (wKeep u) (iterF (fitV (wUses (wBit u)) 2 (w_load u) (w_m u)) k (w_gue (wKeep u)))
def bFitT (u : MS) (k : Int32) : Int32 × MS := if isIn 1 50 k then (nI (chgN (w_gue (wFT u (ndx k))) (w_bef (wFT u (ndx k)))), wFT u (ndx k)) else (-4, u)
def bFitK (u : MS) (k : Int32) : Int32 × MS := if isIn 1 50 k then (nI (chgN (w_gue (wFK u (ndx k))) (w_bef (wFK u (ndx k)))), wFK u (ndx k)) else (-4, u)
def bEst (u : MS) (s t : Int32) : Int64 := if pairE (w_n u) s t = 0 then w_gue u (slot s t) else -9223372036854775808
def bRes (u : MS) (k : Int32) : Int64 × MS := if inB k (w_m u) then (sumM (wUses (wBit u)) (w_gue u) 2 (ndx k) - 1000 * (w_load u (ndx k)).toInt64, wFind u) else (-9223372036854775808, u)
def bErr (u : MS) : Int64 := sumL (fun p => if wHas (wBit u) p then absJ (w_gue u p - 1000 * (w_dem u p).toInt64) else 0) 25
theorem gravM_t {has : Nat → Bool} {out inn : Nat → Int32} {w : Int64} {p : Nat} (h : has p = true) (g : ¬ w ≤ 0) : gravM has out inn w p = (out (p / 5)).toInt64 * (inn (p % 5)).toInt64 * 1000 / w := by unfold gravM; rw [h, if_neg g]; rfl
theorem gravM_1 {has : Nat → Bool} {out inn : Nat → Int32} {w : Int64} {p : Nat} (h : has p = false) : gravM has out inn w p = 0 := by unfold gravM; rw [h]; rfl
theorem gravM_2 {has : Nat → Bool} {out inn : Nat → Int32} {w : Int64} {p : Nat} (g : w ≤ 0) : gravM has out inn w p = 0 := by unfold gravM; rw [if_pos g]; split <;> rfl
set_option maxRecDepth 100000 in
set_option maxHeartbeats 4000000 in
theorem kX5_identified (l : Launch) (Y : yG) (u : MS) (s t : Int32) (part : Nat) (hok : okM u) (hpart : part ≤ 1) (hpv : ∀ q r, q < 25 → w_pr (wRF u none) q = some r → ¬ w_row (wRF u none) r q = 0) : mL l (gM Y) yX5_identified wsX5_identified ({ frames := 5, cells := 0, slots := 0, locals := 116 }) [.ref (yA Y 0), .int s, .int t, .int (nI part)] u ((bNum u s t part).1) (bNum u s t part).2 := by
  obtain ⟨hn2, hn, hm, hsrc, htgt, hmet⟩ := id hok
  refine mL_of (cc := cX5_identified) (nL := 13) (own := RX5) (by decide) rfl rfl (fun v => cM_geo Y _ v) (Nat.le_of_ble_eq_true rfl) ?_
  intro K hKl hE hret
  have f_0 : Jvm.Cond.constantLong RX5 151 (-9223372036854775808) ∈ wsX5_identified := by decide +kernel
  have f_1 : ∀ w ∈ u_ws RX5 TX5 20, w ∈ wsX5_identified := by decide +kernel
  have f_2 : Cond.fieldLink RX5 31 "TrafficMatrixModel" "isMeasured" "[Z" ∈ wsX5_identified := by decide +kernel
  have f_3 : Cond.fieldLink RX5 48 "TrafficMatrixModel" "row" "[J" ∈ wsX5_identified := by decide +kernel
  have f_4 : Cond.fieldLink RX5 51 "TrafficMatrixModel" "pivotRow" "[I" ∈ wsX5_identified := by decide +kernel
  have f_5 : Jvm.Cond.constantLong RX5 153 (-1) ∈ wsX5_identified := by decide +kernel
  have f_6 : Cond.fieldLink RX5 35 "TrafficMatrixModel" "measured" "[I" ∈ wsX5_identified := by decide +kernel
  show vV K (gM Y) u [(0, .ref (yA Y 0)), (1, .int s), (2, .int t), (3, .int (nI part))] [] 0
  refine v_aload_n 1 hE dX5_identified_0 rfl rfl ?_
  refine v_iload_n 2 hE dX5_identified_1 rfl rfl ?_
  refine v_iload_n 3 hE dX5_identified_2 rfl rfl ?_
  refine v_ciE 6 hE (v_runV 2 hE (vSub.self hE) (kX5_refusedRoute _ Y _ _ _ hok) gX5_identified_X5_refusedRoute rfl (by decide +kernel) rfl (q0 := 0) rfl rfl ⟨rfl, rfl, by decide, by decide⟩ rfl (Nat.le_of_ble_eq_true rfl) dX5_identified_3) rfl ?_
  refine v_if_eq 9 hE 13 dX5_identified_6 (by decide) rfl (fun c6 => ?_) (fun c6 => ?_)
  · obtain ⟨hpe, hwh, h2⟩ := bRR_0 c6
    rw [h2]
    obtain ⟨a, b, ha, hb, rfl, rfl, hab⟩ := pairE_0 hn hpe
    have hsl : slot (nI a) (nI b) = 5 * a + b := by rw [slot_nI (by omega) (by omega)]; omega
    have hbn : bNum u (nI a) (nI b) part = ((if wSu (wFind u) none (5 * a + b) && wAg (wFind u) then valJ (wRF u none) (5 * a + b) part else -9223372036854775808), wRF u none) := by unfold bNum; rw [if_pos c6, hsl]
    rw [hbn] at hret
    refine v_iconst 14 hE (v := nI 5) dX5_identified_13 (by decide) rfl ?_
    refine v_iload_n 15 hE dX5_identified_14 rfl rfl ?_
    refine v_imulN 16 hE dX5_identified_15 rfl ?_
    refine v_iload_n 17 hE dX5_identified_16 rfl rfl ?_
    refine v_iaddN 18 hE dX5_identified_17 rfl ?_
    refine v_istore 20 hE [_, _, _, _, _] dX5_identified_18 (by decide) rfl rfl ?_
    refine v_aload_n 21 hE dX5_identified_20 rfl rfl ?_
    refine v_bipush 23 hE (v := oI (-7) none) dX5_identified_21 (by decide) rfl ?_
    refine v_cvE 26 hE (v_runV 1 hE (vSub.self hE) (kX5_reduces _ Y (wFind u) none hok (fun s hs => wBit_lt hok hs) noX) gX5_identified_X5_reduces rfl (by decide +kernel) rfl (q0 := 0) rfl rfl ⟨rfl, rfl, by decide, by decide⟩ rfl (Nat.le_of_ble_eq_true rfl) dX5_identified_23) rfl ?_
    refine v_aload_n 27 hE dX5_identified_26 rfl rfl ?_
    refine v_iload 29 hE dX5_identified_27 rfl rfl ?_
    refine v_bipush 31 hE (v := oI (-7) none) dX5_identified_29 (by decide) rfl ?_
    refine v_ciE 34 hE (v_runV 2 hE (vSub.self hE) (kX5_isSure _ Y (wRF u none) _ none (by omega) (fun s hs => wBit_lt hok hs) noX (fun s k h hs => Nat.lt_of_lt_of_le ((wRed_ok (wFind u) none).2 s k h hs) hm)) gX5_identified_X5_isSure rfl (by decide +kernel) rfl (q0 := 0) rfl rfl ⟨rfl, rfl, by decide, by decide⟩ rfl (Nat.le_of_ble_eq_true rfl) dX5_identified_31) rfl ?_
    refine v_if_eqB 37 hE 44 dX5_identified_34 (by decide) rfl (fun c34 => ?_) (fun c34 => ?_)
    · refine v_ldc2 47 hE f_0 dX5_identified_44 rfl ?_
      exact (hret _ _ dX5_identified_47).cast rfl (rL (by first | (rw [and_ff c34]; rfl) | (rw [and_tf c41]; rfl)))
    · refine v_aload_n 38 hE dX5_identified_37 rfl rfl ?_
      refine v_ciE 41 hE (v_runV 0 hE (vSub.self hE) (kX5_agrees _ Y (wRF u none) hm (wRed_ok (wFind u) none).1) gX5_identified_X5_agrees rfl (by decide +kernel) rfl (q0 := 0) rfl rfl ⟨rfl, rfl, by decide, by decide⟩ rfl (Nat.le_of_ble_eq_true rfl) dX5_identified_38) rfl ?_
      refine v_if_neB 44 hE 48 dX5_identified_41 (by decide) rfl (fun c41 => ?_) (fun c41 => ?_)
      · refine v_aload_n 49 hE dX5_identified_48 rfl rfl ?_
        refine gM_isMeasured 52 hE f_1 f_2 dX5_identified_49 rfl ?_
        refine v_iload 54 hE dX5_identified_52 rfl rfl ?_
        refine lM_ism 55 hE (by omega) dX5_identified_54 rfl ?_
        show vV K (gM Y) _ _ (.int (bI ((w_ism u) _)) :: _) _
        refine v_if_eqB 58 hE 75 dX5_identified_55 (by decide) rfl (fun c55 => ?_) (fun c55 => ?_)
        · obtain ⟨r, hr⟩ := wSure_some c34 c55
          have hr12 : r < 12 := Nat.lt_of_lt_of_le ((wRed_ok (wFind u) none).2 _ r hr (by omega)) hm
          have hne := hpv (5 * a + b) r (by omega) hr
          refine v_aload_n 76 hE dX5_identified_75 rfl rfl ?_
          refine gM_row 79 hE f_1 f_3 dX5_identified_76 rfl ?_
          refine v_bipush 81 hE (v := nI 26) dX5_identified_79 (by decide) rfl ?_
          refine v_aload_n 82 hE dX5_identified_81 rfl rfl ?_
          refine gM_pivotRow 85 hE f_1 f_4 dX5_identified_82 rfl ?_
          refine v_iload 87 hE dX5_identified_85 rfl rfl ?_
          refine lM_pr 88 hE (by omega) dX5_identified_87 rfl ?_
          rw [show w_pr (wRF u none) (5 * a + b) = some r from hr]
          show vV K (gM Y) _ _ (.int (nI r) :: _) _
          refine v_imulN 89 hE dX5_identified_88 rfl ?_
          refine v_iload 91 hE dX5_identified_89 rfl rfl ?_
          refine v_iaddN 92 hE dX5_identified_91 rfl ?_
          refine lM_row 93 hE (by omega) (by omega) dX5_identified_92 rfl ?_
          refine v_lstore 95 hE [_, _, _, _, _, _] dX5_identified_93 (by decide) rfl rfl ?_
          refine v_aload_n 96 hE dX5_identified_95 rfl rfl ?_
          refine gM_row 99 hE f_1 f_3 dX5_identified_96 rfl ?_
          refine v_bipush 101 hE (v := nI 26) dX5_identified_99 (by decide) rfl ?_
          refine v_aload_n 102 hE dX5_identified_101 rfl rfl ?_
          refine gM_pivotRow 105 hE f_1 f_4 dX5_identified_102 rfl ?_
          refine v_iload 107 hE dX5_identified_105 rfl rfl ?_
          refine lM_pr 108 hE (by omega) dX5_identified_107 rfl ?_
          rw [show w_pr (wRF u none) (5 * a + b) = some r from hr]
          show vV K (gM Y) _ _ (.int (nI r) :: _) _
          refine v_imulN 109 hE dX5_identified_108 rfl ?_
          refine v_bipush 111 hE (v := nI 25) dX5_identified_109 (by decide) rfl ?_
          refine v_iaddN 112 hE dX5_identified_111 rfl ?_
          refine lM_row 113 hE (by omega) (by omega) dX5_identified_112 rfl ?_
          refine v_lstore 115 hE [_, _, _, _, _, _, _] dX5_identified_113 (by decide) rfl rfl ?_
          refine v_lload 117 hE dX5_identified_115 rfl rfl ?_
          refine v_lload 119 hE dX5_identified_117 rfl rfl ?_
          refine v_clE 122 hE (v_runS 2 hE (vSub.self hE) (kX5_common _ Y _ _ _) gX5_identified_X5_common rfl (by decide +kernel) rfl ⟨rfl, rfl, by decide, by decide⟩ rfl (Nat.le_of_ble_eq_true rfl) dX5_identified_119) rfl ?_
          refine v_lstore 124 hE [_, _, _, _, _, _, _, _] dX5_identified_122 (by decide) rfl rfl ?_
          refine v_lload 126 hE dX5_identified_124 rfl rfl ?_
          refine v_lconst 127 hE (v := 0) dX5_identified_126 (by decide) rfl ?_
          refine v_lc_ge 128 131 hE 137 dX5_identified_127 dX5_identified_128 (by decide) rfl rfl (fun c127 => ?_) (fun c127 => ?_)
          · refine v_lconst 138 hE (v := 1) dX5_identified_137 (by decide) rfl ?_
            refine v_lstore 140 hE [_, _, _, _, _, _, _, _, _] dX5_identified_138 (by decide) rfl rfl ?_
            refine v_lload 142 hE dX5_identified_140 rfl rfl ?_
            refine v_iload_n 143 hE dX5_identified_142 rfl rfl ?_
            refine v_if_neN 146 hE 151 dX5_identified_143 (by decide) (by omega) rfl (fun c143 => ?_) (fun c143 => ?_)
            · refine v_lload 153 hE dX5_identified_151 rfl rfl ?_
              refine v_lmul 154 hE dX5_identified_153 rfl ?_
              refine v_lload 156 hE dX5_identified_154 rfl rfl ?_
              refine v_ldiv 157 hE dX5_identified_156 (cmn_ne hne) rfl ?_
              exact (hret _ _ dX5_identified_157).cast rfl (rL (by rw [and_tt c34 c41]; show _ = valJ _ _ _; unfold valJ; rw [c55, hr]; simp [c127, c143]))
            · refine v_lload 148 hE dX5_identified_146 rfl rfl ?_
              refine v_goto hE 153 dX5_identified_148 (by decide) ?_
              refine v_lmul 154 hE dX5_identified_153 rfl ?_
              refine v_lload 156 hE dX5_identified_154 rfl rfl ?_
              refine v_ldiv 157 hE dX5_identified_156 (cmn_ne hne) rfl ?_
              exact (hret _ _ dX5_identified_157).cast rfl (rL (by rw [and_tt c34 c41]; show _ = valJ _ _ _; unfold valJ; rw [c55, hr]; simp [c127, c143]))
          · refine v_ldc2 134 hE f_5 dX5_identified_131 rfl ?_
            refine v_goto hE 138 dX5_identified_134 (by decide) ?_
            refine v_lstore 140 hE [_, _, _, _, _, _, _, _, _] dX5_identified_138 (by decide) rfl rfl ?_
            refine v_lload 142 hE dX5_identified_140 rfl rfl ?_
            refine v_iload_n 143 hE dX5_identified_142 rfl rfl ?_
            refine v_if_neN 146 hE 151 dX5_identified_143 (by decide) (by omega) rfl (fun c143 => ?_) (fun c143 => ?_)
            · refine v_lload 153 hE dX5_identified_151 rfl rfl ?_
              refine v_lmul 154 hE dX5_identified_153 rfl ?_
              refine v_lload 156 hE dX5_identified_154 rfl rfl ?_
              refine v_ldiv 157 hE dX5_identified_156 (cmn_ne hne) rfl ?_
              exact (hret _ _ dX5_identified_157).cast rfl (rL (by rw [and_tt c34 c41]; show _ = valJ _ _ _; unfold valJ; rw [c55, hr]; simp [c127, c143]))
            · refine v_lload 148 hE dX5_identified_146 rfl rfl ?_
              refine v_goto hE 153 dX5_identified_148 (by decide) ?_
              refine v_lmul 154 hE dX5_identified_153 rfl ?_
              refine v_lload 156 hE dX5_identified_154 rfl rfl ?_
              refine v_ldiv 157 hE dX5_identified_156 (cmn_ne hne) rfl ?_
              exact (hret _ _ dX5_identified_157).cast rfl (rL (by rw [and_tt c34 c41]; show _ = valJ _ _ _; unfold valJ; rw [c55, hr]; simp [c127, c143]))
        · refine v_iload_n 59 hE dX5_identified_58 rfl rfl ?_
          refine v_if_neN 62 hE 73 dX5_identified_59 (by decide) (by omega) rfl (fun c59 => ?_) (fun c59 => ?_)
          · refine v_lconst 74 hE (v := 1) dX5_identified_73 (by decide) rfl ?_
            exact (hret _ _ dX5_identified_74).cast rfl (rL (by rw [and_tt c34 c41]; show _ = valJ _ _ _; unfold valJ; rw [c55]; simp [c59]))
          · refine v_aload_n 63 hE dX5_identified_62 rfl rfl ?_
            refine gM_measured 66 hE f_1 f_6 dX5_identified_63 rfl ?_
            refine v_iload 68 hE dX5_identified_66 rfl rfl ?_
            refine lM_mea 69 hE (by omega) dX5_identified_68 rfl ?_
            show vV K (gM Y) _ _ (.int ((w_mea u) _) :: _) _
            refine v_i2l 70 hE dX5_identified_69 rfl ?_
            refine v_goto hE 74 dX5_identified_70 (by decide) ?_
            exact (hret _ _ dX5_identified_74).cast rfl (rL (by rw [and_tt c34 c41]; show _ = valJ _ _ _; unfold valJ; rw [c55]; simp [c59]))
      · refine v_ldc2 47 hE f_0 dX5_identified_44 rfl ?_
        exact (hret _ _ dX5_identified_47).cast rfl (rL (by first | (rw [and_ff c34]; rfl) | (rw [and_tf c41]; rfl)))
  · refine v_ldc2 12 hE f_0 dX5_identified_9 rfl ?_
    exact (hret _ _ dX5_identified_12).cast (by unfold bNum; rw [if_neg c6]) (rL (by unfold bNum; rw [if_neg c6]))
set_option maxRecDepth 100000 in
set_option maxHeartbeats 4000000 in
theorem kX5_identifiedNumerator (l : Launch) (Y : yG) (u : MS) (s t : Int32) (hok : okM u) (hpv : ∀ q r, q < 25 → w_pr (wRF u none) q = some r → ¬ w_row (wRF u none) r q = 0) : mL l (gM Y) yX5_identifiedNumerator wsX5_identifiedNumerator ({ frames := 6, cells := 0, slots := 0, locals := 148 }) [.ref (yA Y 0), .int s, .int t] u ((bNum u s t 0).1) (bNum u s t 0).2 := by
  refine mL_of (cc := cX5_identifiedNumerator) (nL := 3) (own := RX5) (by decide) rfl rfl (fun v => cM_geo Y _ v) (Nat.le_of_ble_eq_true rfl) ?_
  intro K hKl hE hret
  show vV K (gM Y) u [(0, .ref (yA Y 0)), (1, .int s), (2, .int t)] [] 0
  refine v_aload_n 1 hE dX5_identifiedNumerator_0 rfl rfl ?_
  refine v_iload_n 2 hE dX5_identifiedNumerator_1 rfl rfl ?_
  refine v_iload_n 3 hE dX5_identifiedNumerator_2 rfl rfl ?_
  refine v_iconst 4 hE (v := nI 0) dX5_identifiedNumerator_3 (by decide) rfl ?_
  refine v_clE 7 hE (v_runV 3 hE (vSub.self hE) (kX5_identified _ Y _ _ _ _ hok (by decide) hpv) gX5_identifiedNumerator_X5_identified rfl (by decide +kernel) rfl (q0 := 0) rfl rfl ⟨rfl, rfl, by decide, by decide⟩ rfl (Nat.le_of_ble_eq_true rfl) dX5_identifiedNumerator_4) rfl ?_
  exact (hret _ _ dX5_identifiedNumerator_7).cast rfl rfl
set_option maxRecDepth 100000 in
set_option maxHeartbeats 4000000 in
theorem kX5_identifiedDenominator (l : Launch) (Y : yG) (u : MS) (s t : Int32) (hok : okM u) (hpv : ∀ q r, q < 25 → w_pr (wRF u none) q = some r → ¬ w_row (wRF u none) r q = 0) : mL l (gM Y) yX5_identifiedDenominator wsX5_identifiedDenominator ({ frames := 6, cells := 0, slots := 0, locals := 148 }) [.ref (yA Y 0), .int s, .int t] u ((bNum u s t 1).1) (bNum u s t 1).2 := by
  refine mL_of (cc := cX5_identifiedDenominator) (nL := 3) (own := RX5) (by decide) rfl rfl (fun v => cM_geo Y _ v) (Nat.le_of_ble_eq_true rfl) ?_
  intro K hKl hE hret
  show vV K (gM Y) u [(0, .ref (yA Y 0)), (1, .int s), (2, .int t)] [] 0
  refine v_aload_n 1 hE dX5_identifiedDenominator_0 rfl rfl ?_
  refine v_iload_n 2 hE dX5_identifiedDenominator_1 rfl rfl ?_
  refine v_iload_n 3 hE dX5_identifiedDenominator_2 rfl rfl ?_
  refine v_iconst 4 hE (v := nI 1) dX5_identifiedDenominator_3 (by decide) rfl ?_
  refine v_clE 7 hE (v_runV 3 hE (vSub.self hE) (kX5_identified _ Y _ _ _ _ hok (by decide) hpv) gX5_identifiedDenominator_X5_identified rfl (by decide +kernel) rfl (q0 := 0) rfl rfl ⟨rfl, rfl, by decide, by decide⟩ rfl (Nat.le_of_ble_eq_true rfl) dX5_identifiedDenominator_4) rfl ?_
  exact (hret _ _ dX5_identifiedDenominator_7).cast rfl rfl
set_option maxRecDepth 100000 in
set_option maxHeartbeats 4000000 in
theorem kX5_bestPair (l : Launch) (Y : yG) (u : MS)  (hok : okM u) : mI l (gM Y) yX5_bestPair wsX5_bestPair ({ frames := 5, cells := 0, slots := 0, locals := 128 }) [.ref (yA Y 0)] u (bpI (wBst u).1) (wBst u).2.2 := by
  obtain ⟨hn2, hn, hm, hsrc, htgt, hmet⟩ := id hok
  refine mI_of (cc := cX5_bestPair) (nL := 5) (own := RX5) (by decide) rfl rfl (fun v => cM_geo Y _ v) (Nat.le_of_ble_eq_true rfl) ?_
  intro K hKl hE hret
  have f_0 : ∀ w ∈ u_ws RX5 TX5 20, w ∈ wsX5_bestPair := by decide +kernel
  have f_1 : Cond.fieldLink RX5 54 "TrafficMatrixModel" "wasSure" "[Z" ∈ wsX5_bestPair := by decide +kernel
  show vV K (gM Y) u [(0, .ref (yA Y 0))] [] 0
  refine v_aload_n 1 hE dX5_bestPair_0 rfl rfl ?_
  refine v_cvE 4 hE (v_runV 0 hE (vSub.self hE) (kX5_findRoutes _ Y _ hok) gX5_bestPair_X5_findRoutes rfl (by decide +kernel) rfl (q0 := 0) rfl rfl ⟨rfl, rfl, by decide, by decide⟩ rfl (Nat.le_of_ble_eq_true rfl) dX5_bestPair_1) rfl ?_
  refine v_aload_n 5 hE dX5_bestPair_4 rfl rfl ?_
  refine v_bipush 7 hE (v := oI (-7) none) dX5_bestPair_5 (by decide) rfl ?_
  refine v_cvE 10 hE (v_runV 1 hE (vSub.self hE) (kX5_reduces _ Y (wFind u) none hok (fun s hs => wBit_lt hok hs) noX) gX5_bestPair_X5_reduces rfl (by decide +kernel) rfl (q0 := 0) rfl rfl ⟨rfl, rfl, by decide, by decide⟩ rfl (Nat.le_of_ble_eq_true rfl) dX5_bestPair_7) rfl ?_
  refine v_iconst 11 hE (v := nI 0) dX5_bestPair_10 (by decide) rfl ?_
  refine v_istore_n 12 hE [_, _] dX5_bestPair_11 rfl (by decide) rfl rfl ?_
  refine vV.sub [1, 0] rfl ?_
  have L12 : ∀ (n12 : Nat) (q : Nat) (f : Nat → Bool), (q ≤ 25) → (f = mixN (w_was u) (wSu (wFind u) none) q) → 25 + 1 ≤ q + n12 → vV K (gM Y) (ws_was (wRF u none) f) [(0, .ref (yA Y 0)), (1, .int (nI q))] [] 12 := by
    intro n12
    induction n12 with
    | zero => intro q f hq hf hfu12; exact absurd hfu12 (by omega)
    | succ n12 ih12 =>
      intro q f hq hf hfu12
      refine v_iload_n 13 hE dX5_bestPair_12 rfl rfl ?_
      refine v_bipush 15 hE (v := nI 25) dX5_bestPair_13 (by decide) rfl ?_
      refine v_ic_geN 18 hE 37 dX5_bestPair_15 (by decide) (by omega) (by omega) rfl (fun c15 => ?_) (fun c15 => ?_)
      · refine v_bipush 39 hE (v := oI (-7) none) dX5_bestPair_37 (by decide) rfl ?_
        refine v_istore_n 40 hE [_, _] dX5_bestPair_39 rfl (by decide) rfl rfl ?_
        refine v_iconst 41 hE (v := nI 0) dX5_bestPair_40 (by decide) rfl ?_
        refine v_istore_n 42 hE [_, _, _] dX5_bestPair_41 rfl (by decide) rfl rfl ?_
        refine v_iconst 43 hE (v := nI 0) dX5_bestPair_42 (by decide) rfl ?_
        refine v_istore_n 44 hE [_, _, _, _] dX5_bestPair_43 rfl (by decide) rfl rfl ?_
        refine vV.sub [3, 2, 1, 0] rfl ?_
        have L44 : ∀ (n44 : Nat) (bb : Option Nat) (a : Nat) (i : Nat) (S : MS), (i ≤ 25) → ((bb, a, S) = bstM (wHas (wBit u)) (mixN (w_was u) (wSu (wFind u) none) 25) (wB0 u) i) → (okM S) → (w_bits S = wBit u) → (w_was S = (mixN (w_was u) (wSu (wFind u) none) 25)) → (a ≤ 25) → 25 + 1 ≤ i + n44 → vV K (gM Y) S [(0, .ref (yA Y 0)), (1, .int (oI (-7) bb)), (2, .int (nI a)), (3, .int (nI i))] [] 44 := by
          intro n44
          induction n44 with
          | zero => intro bb a i S hi hS hSo hSb hSw hal hfu44; exact absurd hfu44 (by omega)
          | succ n44 ih44 =>
            intro bb a i S hi hS hSo hSb hSw hal hfu44
            refine v_iload_n 45 hE dX5_bestPair_44 rfl rfl ?_
            refine v_bipush 47 hE (v := nI 25) dX5_bestPair_45 (by decide) rfl ?_
            refine v_ic_geN 50 hE 105 dX5_bestPair_47 (by decide) (by omega) (by omega) rfl (fun c47 => ?_) (fun c47 => ?_)
            · have hi25 : i = 25 := by omega
              rw [hi25] at hS
              have hS1 : (wBst u).1 = bb := (congrArg Prod.fst hS).symm
              have hS2 : (wBst u).2.2 = S := (congrArg (fun z => z.2.2) hS).symm
              rw [hS1, hS2] at hret
              have hbl : ∀ k, bb = some k → k < 25 := fun k hk => bst_lt 25 k (by rw [← hk, ← hS1])
              refine v_iload_n 106 hE dX5_bestPair_105 rfl rfl ?_
              refine v_bipush 108 hE (v := -7) dX5_bestPair_106 (by decide) rfl ?_
              refine v_ic_ne 111 hE 116 dX5_bestPair_108 (by decide) rfl (fun c108 => ?_) (fun c108 => ?_)
              · obtain ⟨k, hk⟩ := oI7s c108
                have hk25 := hbl k hk
                rw [hk]
                show vV K (gM Y) _ [_, (1, .int (nI k)), _, _] _ _
                refine v_bipush 118 hE (v := nI 10) dX5_bestPair_116 (by decide) rfl ?_
                refine v_iload_n 119 hE dX5_bestPair_118 rfl rfl ?_
                refine v_iconst 120 hE (v := nI 5) dX5_bestPair_119 (by decide) rfl ?_
                refine v_idivN 121 hE dX5_bestPair_120 (by omega) (by omega) (by omega) rfl ?_
                refine v_imulN 122 hE dX5_bestPair_121 rfl ?_
                refine v_iload_n 123 hE dX5_bestPair_122 rfl rfl ?_
                refine v_iconst 124 hE (v := nI 5) dX5_bestPair_123 (by decide) rfl ?_
                refine v_iremN 125 hE dX5_bestPair_124 (by omega) (by omega) (by omega) rfl ?_
                refine v_iaddN 126 hE dX5_bestPair_125 rfl ?_
                exact (hret _ _ dX5_bestPair_126).cast rfl (rI (by first | (rw [(oI7n hbl (by decide)).mp c108]; rfl) | (rw [hk]; rfl)))
              · refine v_bipush 113 hE (v := -7) dX5_bestPair_111 (by decide) rfl ?_
                refine v_goto hE 126 dX5_bestPair_113 (by decide) ?_
                exact (hret _ _ dX5_bestPair_126).cast rfl (rI (by first | (rw [(oI7n hbl (by decide)).mp c108]; rfl) | (rw [hk]; rfl)))
            · refine v_aload_n 51 hE dX5_bestPair_50 rfl rfl ?_
              refine v_iload_n 52 hE dX5_bestPair_51 rfl rfl ?_
              refine v_ciE 55 hE (v_runV 1 hE (vSub.self hE) (kX5_hasRoute _ Y S _ (by omega) (by rw [hSb]; exact wBit_lt hok (by omega))) gX5_bestPair_X5_hasRoute rfl (by decide +kernel) rfl (q0 := 0) rfl rfl ⟨rfl, rfl, by decide, by decide⟩ rfl (Nat.le_of_ble_eq_true rfl) dX5_bestPair_52) rfl ?_
              refine v_if_eqB 58 hE 99 dX5_bestPair_55 (by decide) rfl (fun c55 => ?_) (fun c55 => ?_)
              · try (have c55b : wHas (wBit u) i = false := by rw [← hSb]; exact c55)
                try (have c64b : (mixN (w_was u) (wSu (wFind u) none) 25) i = true := by rw [← hSw]; exact c64)
                refine v_iincN 102 hE [_, _, _, _] dX5_bestPair_99 rfl (by decide) rfl rfl ?_
                refine v_goto hE 44 dX5_bestPair_102 (by decide) ?_
                refine vV.sub [1, 2, 3, 0] rfl ?_
                exact (by first | exact ih44 bb a _ S (by omega) (by rw [bst_1 c55b]; exact hS) hSo hSb hSw hal (by omega) | exact ih44 bb a _ S (by omega) (by rw [bst_2 c64b]; exact hS) hSo hSb hSw hal (by omega) | exact ih44 b1 a1 _ (wRed S (some i)) (by omega) (by rw [bst_t c55b c64b, ← hS, hb1, ha1]) hSo hSb hSw ha25 (by omega))
              · have c55b : wHas (wBit u) i = true := by rw [← hSb]; exact c55
                refine v_aload_n 59 hE dX5_bestPair_58 rfl rfl ?_
                refine gM_wasSure 62 hE f_0 f_1 dX5_bestPair_59 rfl ?_
                refine v_iload_n 63 hE dX5_bestPair_62 rfl rfl ?_
                refine lM_was 64 hE (by omega) dX5_bestPair_63 rfl ?_
                refine v_if_neB 67 hE 99 dX5_bestPair_64 (by decide) rfl (fun c64 => ?_) (fun c64 => ?_)
                · try (have c55b : wHas (wBit u) i = false := by rw [← hSb]; exact c55)
                  try (have c64b : (mixN (w_was u) (wSu (wFind u) none) 25) i = true := by rw [← hSw]; exact c64)
                  refine v_iincN 102 hE [_, _, _, _] dX5_bestPair_99 rfl (by decide) rfl rfl ?_
                  refine v_goto hE 44 dX5_bestPair_102 (by decide) ?_
                  refine vV.sub [1, 2, 3, 0] rfl ?_
                  exact (by first | exact ih44 bb a _ S (by omega) (by rw [bst_1 c55b]; exact hS) hSo hSb hSw hal (by omega) | exact ih44 bb a _ S (by omega) (by rw [bst_2 c64b]; exact hS) hSo hSb hSw hal (by omega) | exact ih44 b1 a1 _ (wRed S (some i)) (by omega) (by rw [bst_t c55b c64b, ← hS, hb1, ha1]) hSo hSb hSw ha25 (by omega))
                · have c64b : (mixN (w_was u) (wSu (wFind u) none) 25) i = false := by rw [← hSw]; exact c64
                  refine v_aload_n 68 hE dX5_bestPair_67 rfl rfl ?_
                  refine v_iload_n 69 hE dX5_bestPair_68 rfl rfl ?_
                  refine v_ciE 72 hE (v_runV 1 hE (vSub.self hE) (kX5_sureCount _ Y S (some i) hSo (fun s hs => by rw [hSb]; exact wBit_lt hok hs) (soX (by omega))) gX5_bestPair_X5_sureCount rfl (by decide +kernel) rfl (q0 := 0) rfl rfl ⟨rfl, rfl, by decide, by decide⟩ rfl (Nat.le_of_ble_eq_true rfl) dX5_bestPair_69) rfl ?_
                  have hcw : wCnt S (some i) ≤ 25 := cntN_le _ _
                  refine v_istore 74 hE [_, _, _, _, _] dX5_bestPair_72 (by decide) rfl rfl ?_
                  have J85 : ∀ b1 : Option Nat, b1 = (if a < wCnt S (some i) then some i else bb) → vV K (gM Y) (wRed S (some i)) [(4, .int (nI (wCnt S (some i)))), (0, .ref (yA Y 0)), (1, .int (oI (-7) bb)), (2, .int (nI a)), (3, .int (nI i))] [.int (oI (-7) b1)] 85 := by
                    intro b1 hb1
                    refine v_istore_n 86 hE [_, _, _, _, _] dX5_bestPair_85 rfl (by decide) rfl rfl ?_
                    have J98 : ∀ a1 : Nat, a1 = (if a < wCnt S (some i) then wCnt S (some i) else a) → vV K (gM Y) (wRed S (some i)) [(1, .int (oI (-7) b1)), (4, .int (nI (wCnt S (some i)))), (0, .ref (yA Y 0)), (2, .int (nI a)), (3, .int (nI i))] [.int (nI a1)] 98 := by
                      intro a1 ha1
                      have ha25 : a1 ≤ 25 := by rw [ha1]; split; exact hcw; exact hal
                      refine v_istore_n 99 hE [_, _, _, _, _] dX5_bestPair_98 rfl (by decide) rfl rfl ?_
                      try (have c55b : wHas (wBit u) i = false := by rw [← hSb]; exact c55)
                      try (have c64b : (mixN (w_was u) (wSu (wFind u) none) 25) i = true := by rw [← hSw]; exact c64)
                      refine v_iincN 102 hE [_, _, _, _, _] dX5_bestPair_99 rfl (by decide) rfl rfl ?_
                      refine v_goto hE 44 dX5_bestPair_102 (by decide) ?_
                      refine vV.sub [4, 2, 1, 0] rfl ?_
                      exact (by first | exact ih44 bb a _ S (by omega) (by rw [bst_1 c55b]; exact hS) hSo hSb hSw hal (by omega) | exact ih44 bb a _ S (by omega) (by rw [bst_2 c64b]; exact hS) hSo hSb hSw hal (by omega) | exact ih44 b1 a1 _ (wRed S (some i)) (by omega) (by rw [bst_t c55b c64b, ← hS, hb1, ha1]) hSo hSb hSw ha25 (by omega))
                    refine v_iload 88 hE dX5_bestPair_86 rfl rfl ?_
                    refine v_iload_n 89 hE dX5_bestPair_88 rfl rfl ?_
                    refine v_ic_leN 92 hE 97 dX5_bestPair_89 (by decide) (by omega) (by omega) rfl (fun c89 => ?_) (fun c89 => ?_)
                    · refine v_iload_n 98 hE dX5_bestPair_97 rfl rfl ?_
                      exact (by first | exact J98 _ (by rw [if_pos c89]) | exact J98 a (by rw [if_neg (Nat.not_lt.mpr c89)]))
                    · refine v_iload 94 hE dX5_bestPair_92 rfl rfl ?_
                      refine v_goto hE 98 dX5_bestPair_94 (by decide) ?_
                      exact (by first | exact J98 _ (by rw [if_pos c89]) | exact J98 a (by rw [if_neg (Nat.not_lt.mpr c89)]))
                  refine v_iload 76 hE dX5_bestPair_74 rfl rfl ?_
                  refine v_iload_n 77 hE dX5_bestPair_76 rfl rfl ?_
                  refine v_ic_leN 80 hE 84 dX5_bestPair_77 (by decide) (by omega) (by omega) rfl (fun c77 => ?_) (fun c77 => ?_)
                  · refine v_iload_n 85 hE dX5_bestPair_84 rfl rfl ?_
                    exact (by first | exact J85 (some i) (by rw [if_pos c77]) | exact J85 bb (by rw [if_neg (Nat.not_lt.mpr c77)]))
                  · refine v_iload_n 81 hE dX5_bestPair_80 rfl rfl ?_
                    refine v_goto hE 85 dX5_bestPair_81 (by decide) ?_
                    exact (by first | exact J85 (some i) (by rw [if_pos c77]) | exact J85 bb (by rw [if_neg (Nat.not_lt.mpr c77)]))
        exact (L44 (25 + 1) none 0 0 (wB0 u) (by omega) rfl hok rfl rfl (by omega) (by omega)).cast (by rw [hf, show q = 25 by omega]) rfl
      · refine v_aload_n 19 hE dX5_bestPair_18 rfl rfl ?_
        refine gM_wasSure 22 hE f_0 f_1 dX5_bestPair_19 rfl ?_
        refine v_iload_n 23 hE dX5_bestPair_22 rfl rfl ?_
        refine v_aload_n 24 hE dX5_bestPair_23 rfl rfl ?_
        refine v_iload_n 25 hE dX5_bestPair_24 rfl rfl ?_
        refine v_bipush 27 hE (v := oI (-7) none) dX5_bestPair_25 (by decide) rfl ?_
        refine v_ciE 30 hE (v_runV 2 hE (vSub.self hE) (kX5_isSure _ Y (ws_was (wRF u none) f) _ none (by omega) (fun s hs => wBit_lt hok hs) noX (fun s k h hs => Nat.lt_of_lt_of_le ((wRed_ok (wFind u) none).2 s k h hs) hm)) gX5_bestPair_X5_isSure rfl (by decide +kernel) rfl (q0 := 0) rfl rfl ⟨rfl, rfl, by decide, by decide⟩ rfl (Nat.le_of_ble_eq_true rfl) dX5_bestPair_27) rfl ?_
        refine sM_was 31 hE (by omega) dX5_bestPair_30 rfl ?_
        refine v_iincN 34 hE [_, _] dX5_bestPair_31 rfl (by decide) rfl rfl ?_
        refine v_goto hE 12 dX5_bestPair_34 (by decide) ?_
        refine vV.sub [1, 0] rfl ?_
        exact ih12 _ _ (by omega) (by rw [hf]; exact mixN_s _ _ _) (by omega)
  exact L12 (25 + 1) 0 (w_was u) (by omega) (mixN_0 _ _).symm (by omega)
